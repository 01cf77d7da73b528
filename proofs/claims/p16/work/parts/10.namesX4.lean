theorem dX4_init_0 : decode cX4_init 0 = .ok (.aload_n 0, 1) := by decide +kernel
theorem dX4_init_1 : decode cX4_init 1 = .ok (.invokespecial 1, 3) := by decide +kernel
theorem dX4_init_4 : decode cX4_init 4 = .ok (.aload_n 0, 1) := by decide +kernel
theorem dX4_init_5 : decode cX4_init 5 = .ok (.sipush 3744, 3) := by decide +kernel
theorem dX4_init_8 : decode cX4_init 8 = .ok (.newarray .long, 2) := by decide +kernel
theorem dX4_init_10 : decode cX4_init 10 = .ok (.putfield 7, 3) := by decide +kernel
theorem dX4_init_13 : decode cX4_init 13 = .ok (.aload_n 0, 1) := by decide +kernel
theorem dX4_init_14 : decode cX4_init 14 = .ok (.bipush 26, 2) := by decide +kernel
theorem dX4_init_16 : decode cX4_init 16 = .ok (.newarray .boolean, 2) := by decide +kernel
theorem dX4_init_18 : decode cX4_init 18 = .ok (.putfield 13, 3) := by decide +kernel
theorem dX4_init_21 : decode cX4_init 21 = .ok (.aload_n 0, 1) := by decide +kernel
theorem dX4_init_22 : decode cX4_init 22 = .ok (.bipush 20, 2) := by decide +kernel
theorem dX4_init_24 : decode cX4_init 24 = .ok (.newarray .int, 2) := by decide +kernel
theorem dX4_init_26 : decode cX4_init 26 = .ok (.putfield 17, 3) := by decide +kernel
theorem dX4_init_29 : decode cX4_init 29 = .ok (.aload_n 0, 1) := by decide +kernel
theorem dX4_init_30 : decode cX4_init 30 = .ok (.bipush 20, 2) := by decide +kernel
theorem dX4_init_32 : decode cX4_init 32 = .ok (.newarray .int, 2) := by decide +kernel
theorem dX4_init_34 : decode cX4_init 34 = .ok (.putfield 21, 3) := by decide +kernel
theorem dX4_init_37 : decode cX4_init 37 = .ok (.aload_n 0, 1) := by decide +kernel
theorem dX4_init_38 : decode cX4_init 38 = .ok (.bipush 20, 2) := by decide +kernel
theorem dX4_init_40 : decode cX4_init 40 = .ok (.newarray .int, 2) := by decide +kernel
theorem dX4_init_42 : decode cX4_init 42 = .ok (.putfield 24, 3) := by decide +kernel
theorem dX4_init_45 : decode cX4_init 45 = .ok (.aload_n 0, 1) := by decide +kernel
theorem dX4_init_46 : decode cX4_init 46 = .ok (.bipush 20, 2) := by decide +kernel
theorem dX4_init_48 : decode cX4_init 48 = .ok (.newarray .int, 2) := by decide +kernel
theorem dX4_init_50 : decode cX4_init 50 = .ok (.putfield 27, 3) := by decide +kernel
theorem dX4_init_53 : decode cX4_init 53 = .ok (.aload_n 0, 1) := by decide +kernel
theorem dX4_init_54 : decode cX4_init 54 = .ok (.bipush 20, 2) := by decide +kernel
theorem dX4_init_56 : decode cX4_init 56 = .ok (.newarray .int, 2) := by decide +kernel
theorem dX4_init_58 : decode cX4_init 58 = .ok (.putfield 30, 3) := by decide +kernel
theorem dX4_init_61 : decode cX4_init 61 = .ok (.aload_n 0, 1) := by decide +kernel
theorem dX4_init_62 : decode cX4_init 62 = .ok (.bipush 20, 2) := by decide +kernel
theorem dX4_init_64 : decode cX4_init 64 = .ok (.newarray .int, 2) := by decide +kernel
theorem dX4_init_66 : decode cX4_init 66 = .ok (.putfield 33, 3) := by decide +kernel
theorem dX4_init_69 : decode cX4_init 69 = .ok (.aload_n 0, 1) := by decide +kernel
theorem dX4_init_70 : decode cX4_init 70 = .ok (.bipush 6, 2) := by decide +kernel
theorem dX4_init_72 : decode cX4_init 72 = .ok (.newarray .long, 2) := by decide +kernel
theorem dX4_init_74 : decode cX4_init 74 = .ok (.putfield 36, 3) := by decide +kernel
theorem dX4_init_77 : decode cX4_init 77 = .ok (.aload_n 0, 1) := by decide +kernel
theorem dX4_init_78 : decode cX4_init 78 = .ok (.bipush 6, 2) := by decide +kernel
theorem dX4_init_80 : decode cX4_init 80 = .ok (.newarray .long, 2) := by decide +kernel
theorem dX4_init_82 : decode cX4_init 82 = .ok (.putfield 39, 3) := by decide +kernel
theorem dX4_init_85 : decode cX4_init 85 = .ok (.aload_n 0, 1) := by decide +kernel
theorem dX4_init_86 : decode cX4_init 86 = .ok (.bipush 6, 2) := by decide +kernel
theorem dX4_init_88 : decode cX4_init 88 = .ok (.newarray .long, 2) := by decide +kernel
theorem dX4_init_90 : decode cX4_init 90 = .ok (.putfield 42, 3) := by decide +kernel
theorem dX4_init_93 : decode cX4_init 93 = .ok (.iconst 0, 1) := by decide +kernel
theorem dX4_init_94 : decode cX4_init 94 = .ok (.istore_n 1, 1) := by decide +kernel
theorem dX4_init_95 : decode cX4_init 95 = .ok (.iload_n 1, 1) := by decide +kernel
theorem dX4_init_96 : decode cX4_init 96 = .ok (.sipush 3744, 3) := by decide +kernel
theorem dX4_init_99 : decode cX4_init 99 = .ok (.if_icmp .ge 18, 3) := by decide +kernel
theorem dX4_init_102 : decode cX4_init 102 = .ok (.aload_n 0, 1) := by decide +kernel
theorem dX4_init_103 : decode cX4_init 103 = .ok (.getfield 7, 3) := by decide +kernel
theorem dX4_init_106 : decode cX4_init 106 = .ok (.iload_n 1, 1) := by decide +kernel
theorem dX4_init_107 : decode cX4_init 107 = .ok (.ldc2_w 45, 3) := by decide +kernel
theorem dX4_init_110 : decode cX4_init 110 = .ok (.lastore, 1) := by decide +kernel
theorem dX4_init_111 : decode cX4_init 111 = .ok (.iinc 1 1, 3) := by decide +kernel
theorem dX4_init_114 : decode cX4_init 114 = .ok (.goto (-19), 3) := by decide +kernel
theorem dX4_init_117 : decode cX4_init 117 = .ok (.iconst 0, 1) := by decide +kernel
theorem dX4_init_118 : decode cX4_init 118 = .ok (.istore_n 1, 1) := by decide +kernel
theorem dX4_init_119 : decode cX4_init 119 = .ok (.iload_n 1, 1) := by decide +kernel
theorem dX4_init_120 : decode cX4_init 120 = .ok (.bipush 8, 2) := by decide +kernel
theorem dX4_init_122 : decode cX4_init 122 = .ok (.if_icmp .ge 19, 3) := by decide +kernel
theorem dX4_init_125 : decode cX4_init 125 = .ok (.aload_n 0, 1) := by decide +kernel
theorem dX4_init_126 : decode cX4_init 126 = .ok (.getfield 13, 3) := by decide +kernel
theorem dX4_init_129 : decode cX4_init 129 = .ok (.bipush 6, 2) := by decide +kernel
theorem dX4_init_131 : decode cX4_init 131 = .ok (.iload_n 1, 1) := by decide +kernel
theorem dX4_init_132 : decode cX4_init 132 = .ok (.iadd, 1) := by decide +kernel
theorem dX4_init_133 : decode cX4_init 133 = .ok (.iconst 1, 1) := by decide +kernel
theorem dX4_init_134 : decode cX4_init 134 = .ok (.bastore, 1) := by decide +kernel
theorem dX4_init_135 : decode cX4_init 135 = .ok (.iinc 1 1, 3) := by decide +kernel
theorem dX4_init_138 : decode cX4_init 138 = .ok (.goto (-19), 3) := by decide +kernel
theorem dX4_init_141 : decode cX4_init 141 = .ok (.return_, 1) := by decide +kernel
theorem dX4_refused_0 : decode cX4_refused 0 = .ok (.aload_n 0, 1) := by decide +kernel
theorem dX4_refused_1 : decode cX4_refused 1 = .ok (.iload_n 1, 1) := by decide +kernel
theorem dX4_refused_2 : decode cX4_refused 2 = .ok (.putfield 47, 3) := by decide +kernel
theorem dX4_refused_5 : decode cX4_refused 5 = .ok (.iload_n 1, 1) := by decide +kernel
theorem dX4_refused_6 : decode cX4_refused 6 = .ok (.ifCond .le 7, 3) := by decide +kernel
theorem dX4_refused_9 : decode cX4_refused 9 = .ok (.iconst 1, 1) := by decide +kernel
theorem dX4_refused_10 : decode cX4_refused 10 = .ok (.goto 4, 3) := by decide +kernel
theorem dX4_refused_13 : decode cX4_refused 13 = .ok (.iconst 0, 1) := by decide +kernel
theorem dX4_refused_14 : decode cX4_refused 14 = .ok (.ireturn, 1) := by decide +kernel
theorem dX4_isIn_0 : decode cX4_isIn 0 = .ok (.iload_n 0, 1) := by decide +kernel
theorem dX4_isIn_1 : decode cX4_isIn 1 = .ok (.iload_n 1, 1) := by decide +kernel
theorem dX4_isIn_2 : decode cX4_isIn 2 = .ok (.if_icmp .lt 12, 3) := by decide +kernel
theorem dX4_isIn_5 : decode cX4_isIn 5 = .ok (.iload_n 0, 1) := by decide +kernel
theorem dX4_isIn_6 : decode cX4_isIn 6 = .ok (.iload_n 2, 1) := by decide +kernel
theorem dX4_isIn_7 : decode cX4_isIn 7 = .ok (.if_icmp .gt 7, 3) := by decide +kernel
theorem dX4_isIn_10 : decode cX4_isIn 10 = .ok (.iconst 1, 1) := by decide +kernel
theorem dX4_isIn_11 : decode cX4_isIn 11 = .ok (.goto 4, 3) := by decide +kernel
theorem dX4_isIn_14 : decode cX4_isIn 14 = .ok (.iconst 0, 1) := by decide +kernel
theorem dX4_isIn_15 : decode cX4_isIn 15 = .ok (.ireturn, 1) := by decide +kernel
set_option maxRecDepth 20000 in
theorem ggX4_isSlot_X4_isIn : GoodIn wsX4_isSlot wsX4_isIn := goodIn_r _ [4] rfl (by decide +kernel)
set_option maxRecDepth 20000 in
theorem gX4_isSlot_X4_isIn : GoodIn wsX4_isSlot (va_wsS RX4 51 yX4_isIn wsX4_isIn) := goodIn_app (goodIn_of _ (by decide +kernel)) ggX4_isSlot_X4_isIn
theorem dX4_isSlot_0 : decode cX4_isSlot 0 = .ok (.iload_n 0, 1) := by decide +kernel
theorem dX4_isSlot_1 : decode cX4_isSlot 1 = .ok (.iconst 0, 1) := by decide +kernel
theorem dX4_isSlot_2 : decode cX4_isSlot 2 = .ok (.iconst 5, 1) := by decide +kernel
theorem dX4_isSlot_3 : decode cX4_isSlot 3 = .ok (.invokestatic 51, 3) := by decide +kernel
theorem dX4_isSlot_6 : decode cX4_isSlot 6 = .ok (.ireturn, 1) := by decide +kernel
set_option maxRecDepth 20000 in
theorem ggX4_isTerm_X4_isIn : GoodIn wsX4_isTerm wsX4_isIn := goodIn_r _ [4] rfl (by decide +kernel)
set_option maxRecDepth 20000 in
theorem gX4_isTerm_X4_isIn : GoodIn wsX4_isTerm (va_wsS RX4 51 yX4_isIn wsX4_isIn) := goodIn_app (goodIn_of _ (by decide +kernel)) ggX4_isTerm_X4_isIn
theorem dX4_isTerm_0 : decode cX4_isTerm 0 = .ok (.iload_n 0, 1) := by decide +kernel
theorem dX4_isTerm_1 : decode cX4_isTerm 1 = .ok (.iconst 0, 1) := by decide +kernel
theorem dX4_isTerm_2 : decode cX4_isTerm 2 = .ok (.bipush 11, 2) := by decide +kernel
theorem dX4_isTerm_4 : decode cX4_isTerm 4 = .ok (.invokestatic 51, 3) := by decide +kernel
theorem dX4_isTerm_7 : decode cX4_isTerm 7 = .ok (.ireturn, 1) := by decide +kernel
set_option maxRecDepth 20000 in
theorem ggX4_isNumber_X4_isIn : GoodIn wsX4_isNumber wsX4_isIn := goodIn_r _ [6] rfl (by decide +kernel)
set_option maxRecDepth 20000 in
theorem gX4_isNumber_X4_isIn : GoodIn wsX4_isNumber (va_wsS RX4 51 yX4_isIn wsX4_isIn) := goodIn_app (goodIn_of _ (by decide +kernel)) ggX4_isNumber_X4_isIn
theorem dX4_isNumber_0 : decode cX4_isNumber 0 = .ok (.iload_n 0, 1) := by decide +kernel
theorem dX4_isNumber_1 : decode cX4_isNumber 1 = .ok (.ldc 55, 2) := by decide +kernel
theorem dX4_isNumber_3 : decode cX4_isNumber 3 = .ok (.ldc 56, 2) := by decide +kernel
theorem dX4_isNumber_5 : decode cX4_isNumber 5 = .ok (.invokestatic 51, 3) := by decide +kernel
theorem dX4_isNumber_8 : decode cX4_isNumber 8 = .ok (.ireturn, 1) := by decide +kernel
theorem dX4_minus_0 : decode cX4_minus 0 = .ok (.iload_n 0, 1) := by decide +kernel
theorem dX4_minus_1 : decode cX4_minus 1 = .ok (.iconst 2, 1) := by decide +kernel
theorem dX4_minus_2 : decode cX4_minus 2 = .ok (.irem, 1) := by decide +kernel
theorem dX4_minus_3 : decode cX4_minus 3 = .ok (.ifCond .ne 9, 3) := by decide +kernel
theorem dX4_minus_6 : decode cX4_minus 6 = .ok (.iload_n 0, 1) := by decide +kernel
theorem dX4_minus_7 : decode cX4_minus 7 = .ok (.iconst 1, 1) := by decide +kernel
theorem dX4_minus_8 : decode cX4_minus 8 = .ok (.iadd, 1) := by decide +kernel
theorem dX4_minus_9 : decode cX4_minus 9 = .ok (.goto 6, 3) := by decide +kernel
theorem dX4_minus_12 : decode cX4_minus 12 = .ok (.iload_n 0, 1) := by decide +kernel
theorem dX4_minus_13 : decode cX4_minus 13 = .ok (.iconst 1, 1) := by decide +kernel
theorem dX4_minus_14 : decode cX4_minus 14 = .ok (.isub, 1) := by decide +kernel
theorem dX4_minus_15 : decode cX4_minus 15 = .ok (.ireturn, 1) := by decide +kernel
theorem dX4_sum_0 : decode cX4_sum 0 = .ok (.lload_n 0, 1) := by decide +kernel
theorem dX4_sum_1 : decode cX4_sum 1 = .ok (.ldc2_w 45, 3) := by decide +kernel
theorem dX4_sum_4 : decode cX4_sum 4 = .ok (.lcmp, 1) := by decide +kernel
theorem dX4_sum_5 : decode cX4_sum 5 = .ok (.ifCond .eq 11, 3) := by decide +kernel
theorem dX4_sum_8 : decode cX4_sum 8 = .ok (.lload_n 2, 1) := by decide +kernel
theorem dX4_sum_9 : decode cX4_sum 9 = .ok (.ldc2_w 45, 3) := by decide +kernel
theorem dX4_sum_12 : decode cX4_sum 12 = .ok (.lcmp, 1) := by decide +kernel
theorem dX4_sum_13 : decode cX4_sum 13 = .ok (.ifCond .ne 9, 3) := by decide +kernel
theorem dX4_sum_16 : decode cX4_sum 16 = .ok (.ldc2_w 45, 3) := by decide +kernel
theorem dX4_sum_19 : decode cX4_sum 19 = .ok (.goto 6, 3) := by decide +kernel
theorem dX4_sum_22 : decode cX4_sum 22 = .ok (.lload_n 0, 1) := by decide +kernel
theorem dX4_sum_23 : decode cX4_sum 23 = .ok (.lload_n 2, 1) := by decide +kernel
theorem dX4_sum_24 : decode cX4_sum 24 = .ok (.ladd, 1) := by decide +kernel
theorem dX4_sum_25 : decode cX4_sum 25 = .ok (.lreturn, 1) := by decide +kernel
theorem dX4_get_0 : decode cX4_get 0 = .ok (.aload_n 0, 1) := by decide +kernel
theorem dX4_get_1 : decode cX4_get 1 = .ok (.getfield 7, 3) := by decide +kernel
theorem dX4_get_4 : decode cX4_get 4 = .ok (.sipush 144, 3) := by decide +kernel
theorem dX4_get_7 : decode cX4_get 7 = .ok (.iload_n 1, 1) := by decide +kernel
theorem dX4_get_8 : decode cX4_get 8 = .ok (.imul, 1) := by decide +kernel
theorem dX4_get_9 : decode cX4_get 9 = .ok (.bipush 12, 2) := by decide +kernel
theorem dX4_get_11 : decode cX4_get 11 = .ok (.iload_n 2, 1) := by decide +kernel
theorem dX4_get_12 : decode cX4_get 12 = .ok (.imul, 1) := by decide +kernel
theorem dX4_get_13 : decode cX4_get 13 = .ok (.iadd, 1) := by decide +kernel
theorem dX4_get_14 : decode cX4_get 14 = .ok (.iload_n 3, 1) := by decide +kernel
theorem dX4_get_15 : decode cX4_get 15 = .ok (.iadd, 1) := by decide +kernel
theorem dX4_get_16 : decode cX4_get 16 = .ok (.laload, 1) := by decide +kernel
theorem dX4_get_17 : decode cX4_get 17 = .ok (.lreturn, 1) := by decide +kernel
theorem dX4_set_0 : decode cX4_set 0 = .ok (.aload_n 0, 1) := by decide +kernel
theorem dX4_set_1 : decode cX4_set 1 = .ok (.getfield 7, 3) := by decide +kernel
theorem dX4_set_4 : decode cX4_set 4 = .ok (.sipush 144, 3) := by decide +kernel
theorem dX4_set_7 : decode cX4_set 7 = .ok (.iload_n 1, 1) := by decide +kernel
theorem dX4_set_8 : decode cX4_set 8 = .ok (.imul, 1) := by decide +kernel
theorem dX4_set_9 : decode cX4_set 9 = .ok (.bipush 12, 2) := by decide +kernel
theorem dX4_set_11 : decode cX4_set 11 = .ok (.iload_n 2, 1) := by decide +kernel
theorem dX4_set_12 : decode cX4_set 12 = .ok (.imul, 1) := by decide +kernel
theorem dX4_set_13 : decode cX4_set 13 = .ok (.iadd, 1) := by decide +kernel
theorem dX4_set_14 : decode cX4_set 14 = .ok (.iload_n 3, 1) := by decide +kernel
theorem dX4_set_15 : decode cX4_set 15 = .ok (.iadd, 1) := by decide +kernel
theorem dX4_set_16 : decode cX4_set 16 = .ok (.lload 4, 2) := by decide +kernel
theorem dX4_set_18 : decode cX4_set 18 = .ok (.lastore, 1) := by decide +kernel
theorem dX4_set_19 : decode cX4_set 19 = .ok (.aload_n 0, 1) := by decide +kernel
theorem dX4_set_20 : decode cX4_set 20 = .ok (.getfield 7, 3) := by decide +kernel
theorem dX4_set_23 : decode cX4_set 23 = .ok (.sipush 144, 3) := by decide +kernel
theorem dX4_set_26 : decode cX4_set 26 = .ok (.iload_n 1, 1) := by decide +kernel
theorem dX4_set_27 : decode cX4_set 27 = .ok (.imul, 1) := by decide +kernel
theorem dX4_set_28 : decode cX4_set 28 = .ok (.bipush 12, 2) := by decide +kernel
theorem dX4_set_30 : decode cX4_set 30 = .ok (.iload_n 3, 1) := by decide +kernel
theorem dX4_set_31 : decode cX4_set 31 = .ok (.imul, 1) := by decide +kernel
theorem dX4_set_32 : decode cX4_set 32 = .ok (.iadd, 1) := by decide +kernel
theorem dX4_set_33 : decode cX4_set 33 = .ok (.iload_n 2, 1) := by decide +kernel
theorem dX4_set_34 : decode cX4_set 34 = .ok (.iadd, 1) := by decide +kernel
theorem dX4_set_35 : decode cX4_set 35 = .ok (.lload 4, 2) := by decide +kernel
theorem dX4_set_37 : decode cX4_set 37 = .ok (.lastore, 1) := by decide +kernel
theorem dX4_set_38 : decode cX4_set 38 = .ok (.return_, 1) := by decide +kernel
set_option maxRecDepth 20000 in
theorem ggX4_sumOf_X4_minus : GoodIn wsX4_sumOf wsX4_minus := goodIn_r _ [4] rfl (by decide +kernel)
set_option maxRecDepth 20000 in
theorem gX4_sumOf_X4_minus : GoodIn wsX4_sumOf (va_wsS RX4 57 yX4_minus wsX4_minus) := goodIn_app (goodIn_of _ (by decide +kernel)) ggX4_sumOf_X4_minus
set_option maxRecDepth 20000 in
theorem ggX4_sumOf_X4_get : GoodIn wsX4_sumOf wsX4_get := goodIn_r _ [8, 9, 14, 15, 16, 17, 18, 19, 20, 21, 22, 23, 24, 25, 26] rfl (by decide +kernel)
set_option maxRecDepth 20000 in
theorem gX4_sumOf_X4_get : GoodIn wsX4_sumOf (wsV RX4 61 RX4 yX4_get wsX4_get) := goodIn_app (goodIn_of _ (by decide +kernel)) ggX4_sumOf_X4_get
set_option maxRecDepth 20000 in
theorem ggX4_sumOf_X4_sum : GoodIn wsX4_sumOf wsX4_sum := goodIn_r _ [12, 13] rfl (by decide +kernel)
set_option maxRecDepth 20000 in
theorem gX4_sumOf_X4_sum : GoodIn wsX4_sumOf (va_wsS RX4 65 yX4_sum wsX4_sum) := goodIn_app (goodIn_of _ (by decide +kernel)) ggX4_sumOf_X4_sum
theorem dX4_sumOf_0 : decode cX4_sumOf 0 = .ok (.iload_n 3, 1) := by decide +kernel
theorem dX4_sumOf_1 : decode cX4_sumOf 1 = .ok (.iload_n 2, 1) := by decide +kernel
theorem dX4_sumOf_2 : decode cX4_sumOf 2 = .ok (.invokestatic 57, 3) := by decide +kernel
theorem dX4_sumOf_5 : decode cX4_sumOf 5 = .ok (.if_icmp .ne 5, 3) := by decide +kernel
theorem dX4_sumOf_8 : decode cX4_sumOf 8 = .ok (.lconst 0, 1) := by decide +kernel
theorem dX4_sumOf_9 : decode cX4_sumOf 9 = .ok (.lreturn, 1) := by decide +kernel
theorem dX4_sumOf_10 : decode cX4_sumOf 10 = .ok (.aload_n 0, 1) := by decide +kernel
theorem dX4_sumOf_11 : decode cX4_sumOf 11 = .ok (.iload_n 1, 1) := by decide +kernel
theorem dX4_sumOf_12 : decode cX4_sumOf 12 = .ok (.iload_n 2, 1) := by decide +kernel
theorem dX4_sumOf_13 : decode cX4_sumOf 13 = .ok (.iload_n 3, 1) := by decide +kernel
theorem dX4_sumOf_14 : decode cX4_sumOf 14 = .ok (.invokevirtual 61, 3) := by decide +kernel
theorem dX4_sumOf_17 : decode cX4_sumOf 17 = .ok (.lstore 4, 2) := by decide +kernel
theorem dX4_sumOf_19 : decode cX4_sumOf 19 = .ok (.iload_n 2, 1) := by decide +kernel
theorem dX4_sumOf_20 : decode cX4_sumOf 20 = .ok (.iload_n 3, 1) := by decide +kernel
theorem dX4_sumOf_21 : decode cX4_sumOf 21 = .ok (.if_icmp .ne 13, 3) := by decide +kernel
theorem dX4_sumOf_24 : decode cX4_sumOf 24 = .ok (.lload 4, 2) := by decide +kernel
theorem dX4_sumOf_26 : decode cX4_sumOf 26 = .ok (.lload 4, 2) := by decide +kernel
theorem dX4_sumOf_28 : decode cX4_sumOf 28 = .ok (.invokestatic 65, 3) := by decide +kernel
theorem dX4_sumOf_31 : decode cX4_sumOf 31 = .ok (.goto 5, 3) := by decide +kernel
theorem dX4_sumOf_34 : decode cX4_sumOf 34 = .ok (.lload 4, 2) := by decide +kernel
theorem dX4_sumOf_36 : decode cX4_sumOf 36 = .ok (.lreturn, 1) := by decide +kernel
set_option maxRecDepth 20000 in
theorem ggX4_lessen_X4_minus : GoodIn wsX4_lessen wsX4_minus := goodIn_r _ [6] rfl (by decide +kernel)
set_option maxRecDepth 20000 in
theorem gX4_lessen_X4_minus : GoodIn wsX4_lessen (va_wsS RX4 57 yX4_minus wsX4_minus) := goodIn_app (goodIn_of _ (by decide +kernel)) ggX4_lessen_X4_minus
set_option maxRecDepth 20000 in
theorem ggX4_lessen_X4_get : GoodIn wsX4_lessen wsX4_get := goodIn_r _ [10, 11, 16, 17, 18, 19, 20, 21, 22, 23, 24, 25, 26, 27, 28] rfl (by decide +kernel)
set_option maxRecDepth 20000 in
theorem gX4_lessen_X4_get : GoodIn wsX4_lessen (wsV RX4 61 RX4 yX4_get wsX4_get) := goodIn_app (goodIn_of _ (by decide +kernel)) ggX4_lessen_X4_get
set_option maxRecDepth 20000 in
theorem ggX4_lessen_X4_set : GoodIn wsX4_lessen wsX4_set := goodIn_r _ [15, 11, 16, 17, 18, 19, 20, 21, 22, 23, 24, 25, 26, 27, 28] rfl (by decide +kernel)
set_option maxRecDepth 20000 in
theorem gX4_lessen_X4_set : GoodIn wsX4_lessen (wsV RX4 69 RX4 yX4_set wsX4_set) := goodIn_app (goodIn_of _ (by decide +kernel)) ggX4_lessen_X4_set
theorem dX4_lessen_0 : decode cX4_lessen 0 = .ok (.lload 4, 2) := by decide +kernel
theorem dX4_lessen_2 : decode cX4_lessen 2 = .ok (.ldc2_w 45, 3) := by decide +kernel
theorem dX4_lessen_5 : decode cX4_lessen 5 = .ok (.lcmp, 1) := by decide +kernel
theorem dX4_lessen_6 : decode cX4_lessen 6 = .ok (.ifCond .ne 5, 3) := by decide +kernel
theorem dX4_lessen_9 : decode cX4_lessen 9 = .ok (.iconst 0, 1) := by decide +kernel
theorem dX4_lessen_10 : decode cX4_lessen 10 = .ok (.ireturn, 1) := by decide +kernel
theorem dX4_lessen_11 : decode cX4_lessen 11 = .ok (.iload_n 3, 1) := by decide +kernel
theorem dX4_lessen_12 : decode cX4_lessen 12 = .ok (.iload_n 2, 1) := by decide +kernel
theorem dX4_lessen_13 : decode cX4_lessen 13 = .ok (.invokestatic 57, 3) := by decide +kernel
theorem dX4_lessen_16 : decode cX4_lessen 16 = .ok (.if_icmp .ne 32, 3) := by decide +kernel
theorem dX4_lessen_19 : decode cX4_lessen 19 = .ok (.aload_n 0, 1) := by decide +kernel
theorem dX4_lessen_20 : decode cX4_lessen 20 = .ok (.getfield 13, 3) := by decide +kernel
theorem dX4_lessen_23 : decode cX4_lessen 23 = .ok (.iload_n 1, 1) := by decide +kernel
theorem dX4_lessen_24 : decode cX4_lessen 24 = .ok (.aload_n 0, 1) := by decide +kernel
theorem dX4_lessen_25 : decode cX4_lessen 25 = .ok (.getfield 13, 3) := by decide +kernel
theorem dX4_lessen_28 : decode cX4_lessen 28 = .ok (.iload_n 1, 1) := by decide +kernel
theorem dX4_lessen_29 : decode cX4_lessen 29 = .ok (.baload, 1) := by decide +kernel
theorem dX4_lessen_30 : decode cX4_lessen 30 = .ok (.ifCond .ne 10, 3) := by decide +kernel
theorem dX4_lessen_33 : decode cX4_lessen 33 = .ok (.lload 4, 2) := by decide +kernel
theorem dX4_lessen_35 : decode cX4_lessen 35 = .ok (.lconst 0, 1) := by decide +kernel
theorem dX4_lessen_36 : decode cX4_lessen 36 = .ok (.lcmp, 1) := by decide +kernel
theorem dX4_lessen_37 : decode cX4_lessen 37 = .ok (.ifCond .ge 7, 3) := by decide +kernel
theorem dX4_lessen_40 : decode cX4_lessen 40 = .ok (.iconst 1, 1) := by decide +kernel
theorem dX4_lessen_41 : decode cX4_lessen 41 = .ok (.goto 4, 3) := by decide +kernel
theorem dX4_lessen_44 : decode cX4_lessen 44 = .ok (.iconst 0, 1) := by decide +kernel
theorem dX4_lessen_45 : decode cX4_lessen 45 = .ok (.bastore, 1) := by decide +kernel
theorem dX4_lessen_46 : decode cX4_lessen 46 = .ok (.iconst 0, 1) := by decide +kernel
theorem dX4_lessen_47 : decode cX4_lessen 47 = .ok (.ireturn, 1) := by decide +kernel
theorem dX4_lessen_48 : decode cX4_lessen 48 = .ok (.iload_n 2, 1) := by decide +kernel
theorem dX4_lessen_49 : decode cX4_lessen 49 = .ok (.iload_n 3, 1) := by decide +kernel
theorem dX4_lessen_50 : decode cX4_lessen 50 = .ok (.if_icmp .ne 10, 3) := by decide +kernel
theorem dX4_lessen_53 : decode cX4_lessen 53 = .ok (.lload 4, 2) := by decide +kernel
theorem dX4_lessen_55 : decode cX4_lessen 55 = .ok (.iconst 1, 1) := by decide +kernel
theorem dX4_lessen_56 : decode cX4_lessen 56 = .ok (.lshr, 1) := by decide +kernel
theorem dX4_lessen_57 : decode cX4_lessen 57 = .ok (.goto 5, 3) := by decide +kernel
theorem dX4_lessen_60 : decode cX4_lessen 60 = .ok (.lload 4, 2) := by decide +kernel
theorem dX4_lessen_62 : decode cX4_lessen 62 = .ok (.lstore 6, 2) := by decide +kernel
theorem dX4_lessen_64 : decode cX4_lessen 64 = .ok (.lload 6, 2) := by decide +kernel
theorem dX4_lessen_66 : decode cX4_lessen 66 = .ok (.aload_n 0, 1) := by decide +kernel
theorem dX4_lessen_67 : decode cX4_lessen 67 = .ok (.iload_n 1, 1) := by decide +kernel
theorem dX4_lessen_68 : decode cX4_lessen 68 = .ok (.iload_n 2, 1) := by decide +kernel
theorem dX4_lessen_69 : decode cX4_lessen 69 = .ok (.iload_n 3, 1) := by decide +kernel
theorem dX4_lessen_70 : decode cX4_lessen 70 = .ok (.invokevirtual 61, 3) := by decide +kernel
theorem dX4_lessen_73 : decode cX4_lessen 73 = .ok (.lcmp, 1) := by decide +kernel
theorem dX4_lessen_74 : decode cX4_lessen 74 = .ok (.ifCond .lt 5, 3) := by decide +kernel
theorem dX4_lessen_77 : decode cX4_lessen 77 = .ok (.iconst 0, 1) := by decide +kernel
theorem dX4_lessen_78 : decode cX4_lessen 78 = .ok (.ireturn, 1) := by decide +kernel
theorem dX4_lessen_79 : decode cX4_lessen 79 = .ok (.aload_n 0, 1) := by decide +kernel
theorem dX4_lessen_80 : decode cX4_lessen 80 = .ok (.iload_n 1, 1) := by decide +kernel
theorem dX4_lessen_81 : decode cX4_lessen 81 = .ok (.iload_n 2, 1) := by decide +kernel
theorem dX4_lessen_82 : decode cX4_lessen 82 = .ok (.iload_n 3, 1) := by decide +kernel
theorem dX4_lessen_83 : decode cX4_lessen 83 = .ok (.lload 6, 2) := by decide +kernel
theorem dX4_lessen_85 : decode cX4_lessen 85 = .ok (.invokevirtual 69, 3) := by decide +kernel
theorem dX4_lessen_88 : decode cX4_lessen 88 = .ok (.iconst 1, 1) := by decide +kernel
theorem dX4_lessen_89 : decode cX4_lessen 89 = .ok (.ireturn, 1) := by decide +kernel
set_option maxRecDepth 20000 in
theorem ggX4_close_X4_get : GoodIn wsX4_close wsX4_get := goodIn_r _ [6, 7, 27, 28, 29, 30, 31, 32, 33, 34, 35, 36, 37, 38, 39] rfl (by decide +kernel)
set_option maxRecDepth 20000 in
theorem gX4_close_X4_get : GoodIn wsX4_close (wsV RX4 61 RX4 yX4_get wsX4_get) := goodIn_app (goodIn_of _ (by decide +kernel)) ggX4_close_X4_get
set_option maxRecDepth 20000 in
theorem ggX4_close_X4_sum : GoodIn wsX4_close wsX4_sum := goodIn_r _ [10, 11] rfl (by decide +kernel)
set_option maxRecDepth 20000 in
theorem gX4_close_X4_sum : GoodIn wsX4_close (va_wsS RX4 65 yX4_sum wsX4_sum) := goodIn_app (goodIn_of _ (by decide +kernel)) ggX4_close_X4_sum
set_option maxRecDepth 20000 in
theorem ggX4_close_X4_lessen : GoodIn wsX4_close wsX4_lessen := goodIn_r _ [15, 11, 1, 16, 17, 5, 18, 2, 3, 4, 6, 7, 19, 20, 21, 22, 27, 28, 29, 30, 31, 32, 33, 34, 35, 36, 37, 38, 39] rfl (by decide +kernel)
set_option maxRecDepth 20000 in
theorem gX4_close_X4_lessen : GoodIn wsX4_close (wsV RX4 73 RX4 yX4_lessen wsX4_lessen) := goodIn_app (goodIn_of _ (by decide +kernel)) ggX4_close_X4_lessen
set_option maxRecDepth 20000 in
theorem ggX4_close_X4_sumOf : GoodIn wsX4_close wsX4_sumOf := goodIn_r _ [26, 16, 17, 5, 18, 2, 3, 4, 6, 7, 8, 9, 10, 11, 27, 28, 29, 30, 31, 32, 33, 34, 35, 36, 37, 38, 39] rfl (by decide +kernel)
set_option maxRecDepth 20000 in
theorem gX4_close_X4_sumOf : GoodIn wsX4_close (wsV RX4 77 RX4 yX4_sumOf wsX4_sumOf) := goodIn_app (goodIn_of _ (by decide +kernel)) ggX4_close_X4_sumOf
set_option maxRecDepth 20000 in
theorem ggX4_close_X4_minus : GoodIn wsX4_close wsX4_minus := goodIn_r _ [18] rfl (by decide +kernel)
set_option maxRecDepth 20000 in
theorem gX4_close_X4_minus : GoodIn wsX4_close (va_wsS RX4 57 yX4_minus wsX4_minus) := goodIn_app (goodIn_of _ (by decide +kernel)) ggX4_close_X4_minus
theorem dX4_close_0 : decode cX4_close 0 = .ok (.aload_n 0, 1) := by decide +kernel
theorem dX4_close_1 : decode cX4_close 1 = .ok (.getfield 13, 3) := by decide +kernel
theorem dX4_close_4 : decode cX4_close 4 = .ok (.iload_n 1, 1) := by decide +kernel
theorem dX4_close_5 : decode cX4_close 5 = .ok (.baload, 1) := by decide +kernel
theorem dX4_close_6 : decode cX4_close 6 = .ok (.ifCond .ne 7, 3) := by decide +kernel
theorem dX4_close_9 : decode cX4_close 9 = .ok (.iconst 1, 1) := by decide +kernel
theorem dX4_close_10 : decode cX4_close 10 = .ok (.goto 4, 3) := by decide +kernel
theorem dX4_close_13 : decode cX4_close 13 = .ok (.iconst 0, 1) := by decide +kernel
theorem dX4_close_14 : decode cX4_close 14 = .ok (.istore_n 2, 1) := by decide +kernel
theorem dX4_close_15 : decode cX4_close 15 = .ok (.iload_n 2, 1) := by decide +kernel
theorem dX4_close_16 : decode cX4_close 16 = .ok (.ifCond .eq 179, 3) := by decide +kernel
theorem dX4_close_19 : decode cX4_close 19 = .ok (.iconst 0, 1) := by decide +kernel
theorem dX4_close_20 : decode cX4_close 20 = .ok (.istore_n 2, 1) := by decide +kernel
theorem dX4_close_21 : decode cX4_close 21 = .ok (.iconst 0, 1) := by decide +kernel
theorem dX4_close_22 : decode cX4_close 22 = .ok (.istore_n 3, 1) := by decide +kernel
theorem dX4_close_23 : decode cX4_close 23 = .ok (.iload_n 3, 1) := by decide +kernel
theorem dX4_close_24 : decode cX4_close 24 = .ok (.bipush 12, 2) := by decide +kernel
theorem dX4_close_26 : decode cX4_close 26 = .ok (.if_icmp .ge 147, 3) := by decide +kernel
theorem dX4_close_29 : decode cX4_close 29 = .ok (.iconst 0, 1) := by decide +kernel
theorem dX4_close_30 : decode cX4_close 30 = .ok (.istore 4, 2) := by decide +kernel
theorem dX4_close_32 : decode cX4_close 32 = .ok (.iload 4, 2) := by decide +kernel
theorem dX4_close_34 : decode cX4_close 34 = .ok (.bipush 12, 2) := by decide +kernel
theorem dX4_close_36 : decode cX4_close 36 = .ok (.if_icmp .ge 131, 3) := by decide +kernel
theorem dX4_close_39 : decode cX4_close 39 = .ok (.iload_n 3, 1) := by decide +kernel
theorem dX4_close_40 : decode cX4_close 40 = .ok (.iload 4, 2) := by decide +kernel
theorem dX4_close_42 : decode cX4_close 42 = .ok (.if_icmp .eq 37, 3) := by decide +kernel
theorem dX4_close_45 : decode cX4_close 45 = .ok (.aload_n 0, 1) := by decide +kernel
theorem dX4_close_46 : decode cX4_close 46 = .ok (.iload_n 1, 1) := by decide +kernel
theorem dX4_close_47 : decode cX4_close 47 = .ok (.iload_n 3, 1) := by decide +kernel
theorem dX4_close_48 : decode cX4_close 48 = .ok (.iload 4, 2) := by decide +kernel
theorem dX4_close_50 : decode cX4_close 50 = .ok (.aload_n 0, 1) := by decide +kernel
theorem dX4_close_51 : decode cX4_close 51 = .ok (.iload_n 1, 1) := by decide +kernel
theorem dX4_close_52 : decode cX4_close 52 = .ok (.iload_n 3, 1) := by decide +kernel
theorem dX4_close_53 : decode cX4_close 53 = .ok (.iload_n 3, 1) := by decide +kernel
theorem dX4_close_54 : decode cX4_close 54 = .ok (.invokevirtual 61, 3) := by decide +kernel
theorem dX4_close_57 : decode cX4_close 57 = .ok (.aload_n 0, 1) := by decide +kernel
theorem dX4_close_58 : decode cX4_close 58 = .ok (.iload_n 1, 1) := by decide +kernel
theorem dX4_close_59 : decode cX4_close 59 = .ok (.iload 4, 2) := by decide +kernel
theorem dX4_close_61 : decode cX4_close 61 = .ok (.iload 4, 2) := by decide +kernel
theorem dX4_close_63 : decode cX4_close 63 = .ok (.invokevirtual 61, 3) := by decide +kernel
theorem dX4_close_66 : decode cX4_close 66 = .ok (.invokestatic 65, 3) := by decide +kernel
theorem dX4_close_69 : decode cX4_close 69 = .ok (.invokevirtual 73, 3) := by decide +kernel
theorem dX4_close_72 : decode cX4_close 72 = .ok (.ifCond .eq 7, 3) := by decide +kernel
theorem dX4_close_75 : decode cX4_close 75 = .ok (.iconst 1, 1) := by decide +kernel
theorem dX4_close_76 : decode cX4_close 76 = .ok (.goto 4, 3) := by decide +kernel
theorem dX4_close_79 : decode cX4_close 79 = .ok (.iconst 0, 1) := by decide +kernel
theorem dX4_close_80 : decode cX4_close 80 = .ok (.istore 5, 2) := by decide +kernel
theorem dX4_close_82 : decode cX4_close 82 = .ok (.iload_n 2, 1) := by decide +kernel
theorem dX4_close_83 : decode cX4_close 83 = .ok (.ifCond .ne 8, 3) := by decide +kernel
theorem dX4_close_86 : decode cX4_close 86 = .ok (.iload 5, 2) := by decide +kernel
theorem dX4_close_88 : decode cX4_close 88 = .ok (.ifCond .eq 7, 3) := by decide +kernel
theorem dX4_close_91 : decode cX4_close 91 = .ok (.iconst 1, 1) := by decide +kernel
theorem dX4_close_92 : decode cX4_close 92 = .ok (.goto 4, 3) := by decide +kernel
theorem dX4_close_95 : decode cX4_close 95 = .ok (.iconst 0, 1) := by decide +kernel
theorem dX4_close_96 : decode cX4_close 96 = .ok (.istore_n 2, 1) := by decide +kernel
theorem dX4_close_97 : decode cX4_close 97 = .ok (.iconst 0, 1) := by decide +kernel
theorem dX4_close_98 : decode cX4_close 98 = .ok (.istore 6, 2) := by decide +kernel
theorem dX4_close_100 : decode cX4_close 100 = .ok (.iload 6, 2) := by decide +kernel
theorem dX4_close_102 : decode cX4_close 102 = .ok (.bipush 12, 2) := by decide +kernel
theorem dX4_close_104 : decode cX4_close 104 = .ok (.if_icmp .ge 57, 3) := by decide +kernel
theorem dX4_close_107 : decode cX4_close 107 = .ok (.aload_n 0, 1) := by decide +kernel
theorem dX4_close_108 : decode cX4_close 108 = .ok (.iload_n 1, 1) := by decide +kernel
theorem dX4_close_109 : decode cX4_close 109 = .ok (.iload_n 3, 1) := by decide +kernel
theorem dX4_close_110 : decode cX4_close 110 = .ok (.iload 4, 2) := by decide +kernel
theorem dX4_close_112 : decode cX4_close 112 = .ok (.aload_n 0, 1) := by decide +kernel
theorem dX4_close_113 : decode cX4_close 113 = .ok (.iload_n 1, 1) := by decide +kernel
theorem dX4_close_114 : decode cX4_close 114 = .ok (.iload_n 3, 1) := by decide +kernel
theorem dX4_close_115 : decode cX4_close 115 = .ok (.iload 6, 2) := by decide +kernel
theorem dX4_close_117 : decode cX4_close 117 = .ok (.invokevirtual 77, 3) := by decide +kernel
theorem dX4_close_120 : decode cX4_close 120 = .ok (.aload_n 0, 1) := by decide +kernel
theorem dX4_close_121 : decode cX4_close 121 = .ok (.iload_n 1, 1) := by decide +kernel
theorem dX4_close_122 : decode cX4_close 122 = .ok (.iload 6, 2) := by decide +kernel
theorem dX4_close_124 : decode cX4_close 124 = .ok (.invokestatic 57, 3) := by decide +kernel
theorem dX4_close_127 : decode cX4_close 127 = .ok (.iload 4, 2) := by decide +kernel
theorem dX4_close_129 : decode cX4_close 129 = .ok (.invokevirtual 77, 3) := by decide +kernel
theorem dX4_close_132 : decode cX4_close 132 = .ok (.invokestatic 65, 3) := by decide +kernel
theorem dX4_close_135 : decode cX4_close 135 = .ok (.invokevirtual 73, 3) := by decide +kernel
theorem dX4_close_138 : decode cX4_close 138 = .ok (.istore 7, 2) := by decide +kernel
theorem dX4_close_140 : decode cX4_close 140 = .ok (.iload_n 2, 1) := by decide +kernel
theorem dX4_close_141 : decode cX4_close 141 = .ok (.ifCond .ne 8, 3) := by decide +kernel
theorem dX4_close_144 : decode cX4_close 144 = .ok (.iload 7, 2) := by decide +kernel
theorem dX4_close_146 : decode cX4_close 146 = .ok (.ifCond .eq 7, 3) := by decide +kernel
theorem dX4_close_149 : decode cX4_close 149 = .ok (.iconst 1, 1) := by decide +kernel
theorem dX4_close_150 : decode cX4_close 150 = .ok (.goto 4, 3) := by decide +kernel
theorem dX4_close_153 : decode cX4_close 153 = .ok (.iconst 0, 1) := by decide +kernel
theorem dX4_close_154 : decode cX4_close 154 = .ok (.istore_n 2, 1) := by decide +kernel
theorem dX4_close_155 : decode cX4_close 155 = .ok (.iinc 6 1, 3) := by decide +kernel
theorem dX4_close_158 : decode cX4_close 158 = .ok (.goto (-58), 3) := by decide +kernel
theorem dX4_close_161 : decode cX4_close 161 = .ok (.iinc 4 1, 3) := by decide +kernel
theorem dX4_close_164 : decode cX4_close 164 = .ok (.goto (-132), 3) := by decide +kernel
theorem dX4_close_167 : decode cX4_close 167 = .ok (.iinc 3 1, 3) := by decide +kernel
theorem dX4_close_170 : decode cX4_close 170 = .ok (.goto (-147), 3) := by decide +kernel
theorem dX4_close_173 : decode cX4_close 173 = .ok (.iload_n 2, 1) := by decide +kernel
theorem dX4_close_174 : decode cX4_close 174 = .ok (.ifCond .eq 16, 3) := by decide +kernel
theorem dX4_close_177 : decode cX4_close 177 = .ok (.aload_n 0, 1) := by decide +kernel
theorem dX4_close_178 : decode cX4_close 178 = .ok (.getfield 13, 3) := by decide +kernel
theorem dX4_close_181 : decode cX4_close 181 = .ok (.iload_n 1, 1) := by decide +kernel
theorem dX4_close_182 : decode cX4_close 182 = .ok (.baload, 1) := by decide +kernel
theorem dX4_close_183 : decode cX4_close 183 = .ok (.ifCond .ne 7, 3) := by decide +kernel
theorem dX4_close_186 : decode cX4_close 186 = .ok (.iconst 1, 1) := by decide +kernel
theorem dX4_close_187 : decode cX4_close 187 = .ok (.goto 4, 3) := by decide +kernel
theorem dX4_close_190 : decode cX4_close 190 = .ok (.iconst 0, 1) := by decide +kernel
theorem dX4_close_191 : decode cX4_close 191 = .ok (.istore_n 2, 1) := by decide +kernel
theorem dX4_close_192 : decode cX4_close 192 = .ok (.goto (-177), 3) := by decide +kernel
theorem dX4_close_195 : decode cX4_close 195 = .ok (.return_, 1) := by decide +kernel
theorem dX4_load_0 : decode cX4_load 0 = .ok (.iconst 0, 1) := by decide +kernel
theorem dX4_load_1 : decode cX4_load 1 = .ok (.istore_n 3, 1) := by decide +kernel
theorem dX4_load_2 : decode cX4_load 2 = .ok (.iload_n 3, 1) := by decide +kernel
theorem dX4_load_3 : decode cX4_load 3 = .ok (.sipush 144, 3) := by decide +kernel
theorem dX4_load_6 : decode cX4_load 6 = .ok (.if_icmp .ge 33, 3) := by decide +kernel
theorem dX4_load_9 : decode cX4_load 9 = .ok (.aload_n 0, 1) := by decide +kernel
theorem dX4_load_10 : decode cX4_load 10 = .ok (.getfield 7, 3) := by decide +kernel
theorem dX4_load_13 : decode cX4_load 13 = .ok (.sipush 144, 3) := by decide +kernel
theorem dX4_load_16 : decode cX4_load 16 = .ok (.iload_n 1, 1) := by decide +kernel
theorem dX4_load_17 : decode cX4_load 17 = .ok (.imul, 1) := by decide +kernel
theorem dX4_load_18 : decode cX4_load 18 = .ok (.iload_n 3, 1) := by decide +kernel
theorem dX4_load_19 : decode cX4_load 19 = .ok (.iadd, 1) := by decide +kernel
theorem dX4_load_20 : decode cX4_load 20 = .ok (.aload_n 0, 1) := by decide +kernel
theorem dX4_load_21 : decode cX4_load 21 = .ok (.getfield 7, 3) := by decide +kernel
theorem dX4_load_24 : decode cX4_load 24 = .ok (.sipush 144, 3) := by decide +kernel
theorem dX4_load_27 : decode cX4_load 27 = .ok (.iload_n 2, 1) := by decide +kernel
theorem dX4_load_28 : decode cX4_load 28 = .ok (.imul, 1) := by decide +kernel
theorem dX4_load_29 : decode cX4_load 29 = .ok (.iload_n 3, 1) := by decide +kernel
theorem dX4_load_30 : decode cX4_load 30 = .ok (.iadd, 1) := by decide +kernel
theorem dX4_load_31 : decode cX4_load 31 = .ok (.laload, 1) := by decide +kernel
theorem dX4_load_32 : decode cX4_load 32 = .ok (.lastore, 1) := by decide +kernel
theorem dX4_load_33 : decode cX4_load 33 = .ok (.iinc 3 1, 3) := by decide +kernel
theorem dX4_load_36 : decode cX4_load 36 = .ok (.goto (-34), 3) := by decide +kernel
theorem dX4_load_39 : decode cX4_load 39 = .ok (.aload_n 0, 1) := by decide +kernel
theorem dX4_load_40 : decode cX4_load 40 = .ok (.getfield 13, 3) := by decide +kernel
theorem dX4_load_43 : decode cX4_load 43 = .ok (.iload_n 1, 1) := by decide +kernel
theorem dX4_load_44 : decode cX4_load 44 = .ok (.aload_n 0, 1) := by decide +kernel
theorem dX4_load_45 : decode cX4_load 45 = .ok (.getfield 13, 3) := by decide +kernel
theorem dX4_load_48 : decode cX4_load 48 = .ok (.iload_n 2, 1) := by decide +kernel
theorem dX4_load_49 : decode cX4_load 49 = .ok (.baload, 1) := by decide +kernel
theorem dX4_load_50 : decode cX4_load 50 = .ok (.bastore, 1) := by decide +kernel
theorem dX4_load_51 : decode cX4_load 51 = .ok (.return_, 1) := by decide +kernel
theorem dX4_all_0 : decode cX4_all 0 = .ok (.iconst 0, 1) := by decide +kernel
theorem dX4_all_1 : decode cX4_all 1 = .ok (.istore_n 2, 1) := by decide +kernel
theorem dX4_all_2 : decode cX4_all 2 = .ok (.iload_n 2, 1) := by decide +kernel
theorem dX4_all_3 : decode cX4_all 3 = .ok (.sipush 144, 3) := by decide +kernel
theorem dX4_all_6 : decode cX4_all 6 = .ok (.if_icmp .ge 24, 3) := by decide +kernel
theorem dX4_all_9 : decode cX4_all 9 = .ok (.aload_n 0, 1) := by decide +kernel
theorem dX4_all_10 : decode cX4_all 10 = .ok (.getfield 7, 3) := by decide +kernel
theorem dX4_all_13 : decode cX4_all 13 = .ok (.sipush 144, 3) := by decide +kernel
theorem dX4_all_16 : decode cX4_all 16 = .ok (.iload_n 1, 1) := by decide +kernel
theorem dX4_all_17 : decode cX4_all 17 = .ok (.imul, 1) := by decide +kernel
theorem dX4_all_18 : decode cX4_all 18 = .ok (.iload_n 2, 1) := by decide +kernel
theorem dX4_all_19 : decode cX4_all 19 = .ok (.iadd, 1) := by decide +kernel
theorem dX4_all_20 : decode cX4_all 20 = .ok (.ldc2_w 45, 3) := by decide +kernel
theorem dX4_all_23 : decode cX4_all 23 = .ok (.lastore, 1) := by decide +kernel
theorem dX4_all_24 : decode cX4_all 24 = .ok (.iinc 2 1, 3) := by decide +kernel
theorem dX4_all_27 : decode cX4_all 27 = .ok (.goto (-25), 3) := by decide +kernel
theorem dX4_all_30 : decode cX4_all 30 = .ok (.aload_n 0, 1) := by decide +kernel
theorem dX4_all_31 : decode cX4_all 31 = .ok (.getfield 13, 3) := by decide +kernel
theorem dX4_all_34 : decode cX4_all 34 = .ok (.iload_n 1, 1) := by decide +kernel
theorem dX4_all_35 : decode cX4_all 35 = .ok (.iconst 0, 1) := by decide +kernel
theorem dX4_all_36 : decode cX4_all 36 = .ok (.bastore, 1) := by decide +kernel
theorem dX4_all_37 : decode cX4_all 37 = .ok (.return_, 1) := by decide +kernel
set_option maxRecDepth 20000 in
theorem ggX4_drop_X4_set : GoodIn wsX4_drop wsX4_set := goodIn_r _ [6, 7, 8, 9, 10, 11, 12, 13, 14, 15, 16, 17, 18, 19, 20] rfl (by decide +kernel)
set_option maxRecDepth 20000 in
theorem gX4_drop_X4_set : GoodIn wsX4_drop (wsV RX4 69 RX4 yX4_set wsX4_set) := goodIn_app (goodIn_of _ (by decide +kernel)) ggX4_drop_X4_set
theorem dX4_drop_0 : decode cX4_drop 0 = .ok (.iconst 0, 1) := by decide +kernel
theorem dX4_drop_1 : decode cX4_drop 1 = .ok (.istore_n 3, 1) := by decide +kernel
theorem dX4_drop_2 : decode cX4_drop 2 = .ok (.iload_n 3, 1) := by decide +kernel
theorem dX4_drop_3 : decode cX4_drop 3 = .ok (.bipush 12, 2) := by decide +kernel
theorem dX4_drop_5 : decode cX4_drop 5 = .ok (.if_icmp .ge 35, 3) := by decide +kernel
theorem dX4_drop_8 : decode cX4_drop 8 = .ok (.aload_n 0, 1) := by decide +kernel
theorem dX4_drop_9 : decode cX4_drop 9 = .ok (.iload_n 1, 1) := by decide +kernel
theorem dX4_drop_10 : decode cX4_drop 10 = .ok (.iconst 2, 1) := by decide +kernel
theorem dX4_drop_11 : decode cX4_drop 11 = .ok (.iload_n 2, 1) := by decide +kernel
theorem dX4_drop_12 : decode cX4_drop 12 = .ok (.imul, 1) := by decide +kernel
theorem dX4_drop_13 : decode cX4_drop 13 = .ok (.iload_n 3, 1) := by decide +kernel
theorem dX4_drop_14 : decode cX4_drop 14 = .ok (.ldc2_w 45, 3) := by decide +kernel
theorem dX4_drop_17 : decode cX4_drop 17 = .ok (.invokevirtual 69, 3) := by decide +kernel
theorem dX4_drop_20 : decode cX4_drop 20 = .ok (.aload_n 0, 1) := by decide +kernel
theorem dX4_drop_21 : decode cX4_drop 21 = .ok (.iload_n 1, 1) := by decide +kernel
theorem dX4_drop_22 : decode cX4_drop 22 = .ok (.iconst 2, 1) := by decide +kernel
theorem dX4_drop_23 : decode cX4_drop 23 = .ok (.iload_n 2, 1) := by decide +kernel
theorem dX4_drop_24 : decode cX4_drop 24 = .ok (.imul, 1) := by decide +kernel
theorem dX4_drop_25 : decode cX4_drop 25 = .ok (.iconst 1, 1) := by decide +kernel
theorem dX4_drop_26 : decode cX4_drop 26 = .ok (.iadd, 1) := by decide +kernel
theorem dX4_drop_27 : decode cX4_drop 27 = .ok (.iload_n 3, 1) := by decide +kernel
theorem dX4_drop_28 : decode cX4_drop 28 = .ok (.ldc2_w 45, 3) := by decide +kernel
theorem dX4_drop_31 : decode cX4_drop 31 = .ok (.invokevirtual 69, 3) := by decide +kernel
theorem dX4_drop_34 : decode cX4_drop 34 = .ok (.iinc 3 1, 3) := by decide +kernel
theorem dX4_drop_37 : decode cX4_drop 37 = .ok (.goto (-35), 3) := by decide +kernel
theorem dX4_drop_40 : decode cX4_drop 40 = .ok (.return_, 1) := by decide +kernel
set_option maxRecDepth 20000 in
theorem ggX4_isAction_X4_isNumber : GoodIn wsX4_isAction wsX4_isNumber := goodIn_r _ [4, 5, 6, 7, 8, 3, 9] rfl (by decide +kernel)
set_option maxRecDepth 20000 in
theorem gX4_isAction_X4_isNumber : GoodIn wsX4_isAction (va_wsS RX4 80 yX4_isNumber wsX4_isNumber) := goodIn_app (goodIn_of _ (by decide +kernel)) ggX4_isAction_X4_isNumber
set_option maxRecDepth 20000 in
theorem ggX4_isAction_X4_isTerm : GoodIn wsX4_isAction wsX4_isTerm := goodIn_r _ [12, 7, 8, 3, 9] rfl (by decide +kernel)
set_option maxRecDepth 20000 in
theorem gX4_isAction_X4_isTerm : GoodIn wsX4_isAction (va_wsS RX4 84 yX4_isTerm wsX4_isTerm) := goodIn_app (goodIn_of _ (by decide +kernel)) ggX4_isAction_X4_isTerm
set_option maxRecDepth 20000 in
theorem ggX4_isAction_X4_minus : GoodIn wsX4_isAction wsX4_minus := goodIn_r _ [15] rfl (by decide +kernel)
set_option maxRecDepth 20000 in
theorem gX4_isAction_X4_minus : GoodIn wsX4_isAction (va_wsS RX4 57 yX4_minus wsX4_minus) := goodIn_app (goodIn_of _ (by decide +kernel)) ggX4_isAction_X4_minus
set_option maxRecDepth 20000 in
theorem ggX4_isAction_X4_isIn : GoodIn wsX4_isAction wsX4_isIn := goodIn_r _ [9] rfl (by decide +kernel)
set_option maxRecDepth 20000 in
theorem gX4_isAction_X4_isIn : GoodIn wsX4_isAction (va_wsS RX4 51 yX4_isIn wsX4_isIn) := goodIn_app (goodIn_of _ (by decide +kernel)) ggX4_isAction_X4_isIn
theorem dX4_isAction_0 : decode cX4_isAction 0 = .ok (.iload_n 3, 1) := by decide +kernel
theorem dX4_isAction_1 : decode cX4_isAction 1 = .ok (.invokestatic 80, 3) := by decide +kernel
theorem dX4_isAction_4 : decode cX4_isAction 4 = .ok (.ifCond .ne 5, 3) := by decide +kernel
theorem dX4_isAction_7 : decode cX4_isAction 7 = .ok (.iconst 0, 1) := by decide +kernel
theorem dX4_isAction_8 : decode cX4_isAction 8 = .ok (.ireturn, 1) := by decide +kernel
theorem dX4_isAction_9 : decode cX4_isAction 9 = .ok (.iload_n 0, 1) := by decide +kernel
theorem dX4_isAction_10 : decode cX4_isAction 10 = .ok (.ifCond .ne 33, 3) := by decide +kernel
theorem dX4_isAction_13 : decode cX4_isAction 13 = .ok (.iload_n 1, 1) := by decide +kernel
theorem dX4_isAction_14 : decode cX4_isAction 14 = .ok (.invokestatic 84, 3) := by decide +kernel
theorem dX4_isAction_17 : decode cX4_isAction 17 = .ok (.ifCond .eq 22, 3) := by decide +kernel
theorem dX4_isAction_20 : decode cX4_isAction 20 = .ok (.iload_n 2, 1) := by decide +kernel
theorem dX4_isAction_21 : decode cX4_isAction 21 = .ok (.invokestatic 84, 3) := by decide +kernel
theorem dX4_isAction_24 : decode cX4_isAction 24 = .ok (.ifCond .eq 15, 3) := by decide +kernel
theorem dX4_isAction_27 : decode cX4_isAction 27 = .ok (.iload_n 1, 1) := by decide +kernel
theorem dX4_isAction_28 : decode cX4_isAction 28 = .ok (.iload_n 2, 1) := by decide +kernel
theorem dX4_isAction_29 : decode cX4_isAction 29 = .ok (.invokestatic 57, 3) := by decide +kernel
theorem dX4_isAction_32 : decode cX4_isAction 32 = .ok (.if_icmp .eq 7, 3) := by decide +kernel
theorem dX4_isAction_35 : decode cX4_isAction 35 = .ok (.iconst 1, 1) := by decide +kernel
theorem dX4_isAction_36 : decode cX4_isAction 36 = .ok (.goto 67, 3) := by decide +kernel
theorem dX4_isAction_39 : decode cX4_isAction 39 = .ok (.iconst 0, 1) := by decide +kernel
theorem dX4_isAction_40 : decode cX4_isAction 40 = .ok (.goto 63, 3) := by decide +kernel
theorem dX4_isAction_43 : decode cX4_isAction 43 = .ok (.iload_n 0, 1) := by decide +kernel
theorem dX4_isAction_44 : decode cX4_isAction 44 = .ok (.iconst 1, 1) := by decide +kernel
theorem dX4_isAction_45 : decode cX4_isAction 45 = .ok (.if_icmp .ne 27, 3) := by decide +kernel
theorem dX4_isAction_48 : decode cX4_isAction 48 = .ok (.iload_n 1, 1) := by decide +kernel
theorem dX4_isAction_49 : decode cX4_isAction 49 = .ok (.iconst 0, 1) := by decide +kernel
theorem dX4_isAction_50 : decode cX4_isAction 50 = .ok (.iconst 5, 1) := by decide +kernel
theorem dX4_isAction_51 : decode cX4_isAction 51 = .ok (.invokestatic 51, 3) := by decide +kernel
theorem dX4_isAction_54 : decode cX4_isAction 54 = .ok (.ifCond .eq 14, 3) := by decide +kernel
theorem dX4_isAction_57 : decode cX4_isAction 57 = .ok (.iload_n 2, 1) := by decide +kernel
theorem dX4_isAction_58 : decode cX4_isAction 58 = .ok (.invokestatic 84, 3) := by decide +kernel
theorem dX4_isAction_61 : decode cX4_isAction 61 = .ok (.ifCond .eq 7, 3) := by decide +kernel
theorem dX4_isAction_64 : decode cX4_isAction 64 = .ok (.iconst 1, 1) := by decide +kernel
theorem dX4_isAction_65 : decode cX4_isAction 65 = .ok (.goto 38, 3) := by decide +kernel
theorem dX4_isAction_68 : decode cX4_isAction 68 = .ok (.iconst 0, 1) := by decide +kernel
theorem dX4_isAction_69 : decode cX4_isAction 69 = .ok (.goto 34, 3) := by decide +kernel
theorem dX4_isAction_72 : decode cX4_isAction 72 = .ok (.iload_n 0, 1) := by decide +kernel
theorem dX4_isAction_73 : decode cX4_isAction 73 = .ok (.iconst 2, 1) := by decide +kernel
theorem dX4_isAction_74 : decode cX4_isAction 74 = .ok (.if_icmp .ne 28, 3) := by decide +kernel
theorem dX4_isAction_77 : decode cX4_isAction 77 = .ok (.iload_n 1, 1) := by decide +kernel
theorem dX4_isAction_78 : decode cX4_isAction 78 = .ok (.iconst 0, 1) := by decide +kernel
theorem dX4_isAction_79 : decode cX4_isAction 79 = .ok (.iconst 5, 1) := by decide +kernel
theorem dX4_isAction_80 : decode cX4_isAction 80 = .ok (.invokestatic 51, 3) := by decide +kernel
theorem dX4_isAction_83 : decode cX4_isAction 83 = .ok (.ifCond .eq 19, 3) := by decide +kernel
theorem dX4_isAction_86 : decode cX4_isAction 86 = .ok (.iload_n 2, 1) := by decide +kernel
theorem dX4_isAction_87 : decode cX4_isAction 87 = .ok (.invokestatic 80, 3) := by decide +kernel
theorem dX4_isAction_90 : decode cX4_isAction 90 = .ok (.ifCond .eq 12, 3) := by decide +kernel
theorem dX4_isAction_93 : decode cX4_isAction 93 = .ok (.iload_n 2, 1) := by decide +kernel
theorem dX4_isAction_94 : decode cX4_isAction 94 = .ok (.iload_n 3, 1) := by decide +kernel
theorem dX4_isAction_95 : decode cX4_isAction 95 = .ok (.if_icmp .gt 7, 3) := by decide +kernel
theorem dX4_isAction_98 : decode cX4_isAction 98 = .ok (.iconst 1, 1) := by decide +kernel
theorem dX4_isAction_99 : decode cX4_isAction 99 = .ok (.goto 4, 3) := by decide +kernel
theorem dX4_isAction_102 : decode cX4_isAction 102 = .ok (.iconst 0, 1) := by decide +kernel
theorem dX4_isAction_103 : decode cX4_isAction 103 = .ok (.ireturn, 1) := by decide +kernel
set_option maxRecDepth 20000 in
theorem ggX4_shift_X4_load : GoodIn wsX4_shift wsX4_load := goodIn_r _ [5, 6, 7, 23, 24, 25, 26, 27, 28, 29, 30, 31, 32, 33, 34, 35] rfl (by decide +kernel)
set_option maxRecDepth 20000 in
theorem gX4_shift_X4_load : GoodIn wsX4_shift (wsV RX4 87 RX4 yX4_load wsX4_load) := goodIn_app (goodIn_of _ (by decide +kernel)) ggX4_shift_X4_load
set_option maxRecDepth 20000 in
theorem ggX4_shift_X4_get : GoodIn wsX4_shift wsX4_get := goodIn_r _ [11, 6, 23, 24, 25, 26, 27, 28, 29, 30, 31, 32, 33, 34, 35] rfl (by decide +kernel)
set_option maxRecDepth 20000 in
theorem gX4_shift_X4_get : GoodIn wsX4_shift (wsV RX4 61 RX4 yX4_get wsX4_get) := goodIn_app (goodIn_of _ (by decide +kernel)) ggX4_shift_X4_get
set_option maxRecDepth 20000 in
theorem ggX4_shift_X4_sum : GoodIn wsX4_shift wsX4_sum := goodIn_r _ [14, 15] rfl (by decide +kernel)
set_option maxRecDepth 20000 in
theorem gX4_shift_X4_sum : GoodIn wsX4_shift (va_wsS RX4 65 yX4_sum wsX4_sum) := goodIn_app (goodIn_of _ (by decide +kernel)) ggX4_shift_X4_sum
set_option maxRecDepth 20000 in
theorem ggX4_shift_X4_set : GoodIn wsX4_shift wsX4_set := goodIn_r _ [19, 6, 23, 24, 25, 26, 27, 28, 29, 30, 31, 32, 33, 34, 35] rfl (by decide +kernel)
set_option maxRecDepth 20000 in
theorem gX4_shift_X4_set : GoodIn wsX4_shift (wsV RX4 69 RX4 yX4_set wsX4_set) := goodIn_app (goodIn_of _ (by decide +kernel)) ggX4_shift_X4_set
set_option maxRecDepth 20000 in
theorem ggX4_shift_X4_minus : GoodIn wsX4_shift wsX4_minus := goodIn_r _ [22] rfl (by decide +kernel)
set_option maxRecDepth 20000 in
theorem gX4_shift_X4_minus : GoodIn wsX4_shift (va_wsS RX4 57 yX4_minus wsX4_minus) := goodIn_app (goodIn_of _ (by decide +kernel)) ggX4_shift_X4_minus
theorem dX4_shift_0 : decode cX4_shift 0 = .ok (.aload_n 0, 1) := by decide +kernel
theorem dX4_shift_1 : decode cX4_shift 1 = .ok (.bipush 24, 2) := by decide +kernel
theorem dX4_shift_3 : decode cX4_shift 3 = .ok (.iload_n 1, 1) := by decide +kernel
theorem dX4_shift_4 : decode cX4_shift 4 = .ok (.invokevirtual 87, 3) := by decide +kernel
theorem dX4_shift_7 : decode cX4_shift 7 = .ok (.iconst 2, 1) := by decide +kernel
theorem dX4_shift_8 : decode cX4_shift 8 = .ok (.iload_n 2, 1) := by decide +kernel
theorem dX4_shift_9 : decode cX4_shift 9 = .ok (.imul, 1) := by decide +kernel
theorem dX4_shift_10 : decode cX4_shift 10 = .ok (.istore 6, 2) := by decide +kernel
theorem dX4_shift_12 : decode cX4_shift 12 = .ok (.iconst 2, 1) := by decide +kernel
theorem dX4_shift_13 : decode cX4_shift 13 = .ok (.iload_n 2, 1) := by decide +kernel
theorem dX4_shift_14 : decode cX4_shift 14 = .ok (.imul, 1) := by decide +kernel
theorem dX4_shift_15 : decode cX4_shift 15 = .ok (.iconst 1, 1) := by decide +kernel
theorem dX4_shift_16 : decode cX4_shift 16 = .ok (.iadd, 1) := by decide +kernel
theorem dX4_shift_17 : decode cX4_shift 17 = .ok (.istore 7, 2) := by decide +kernel
theorem dX4_shift_19 : decode cX4_shift 19 = .ok (.iload_n 3, 1) := by decide +kernel
theorem dX4_shift_20 : decode cX4_shift 20 = .ok (.iload 6, 2) := by decide +kernel
theorem dX4_shift_22 : decode cX4_shift 22 = .ok (.if_icmp .ne 8, 3) := by decide +kernel
theorem dX4_shift_25 : decode cX4_shift 25 = .ok (.iload 6, 2) := by decide +kernel
theorem dX4_shift_27 : decode cX4_shift 27 = .ok (.goto 5, 3) := by decide +kernel
theorem dX4_shift_30 : decode cX4_shift 30 = .ok (.iload 7, 2) := by decide +kernel
theorem dX4_shift_32 : decode cX4_shift 32 = .ok (.istore 8, 2) := by decide +kernel
theorem dX4_shift_34 : decode cX4_shift 34 = .ok (.iconst 0, 1) := by decide +kernel
theorem dX4_shift_35 : decode cX4_shift 35 = .ok (.istore 9, 2) := by decide +kernel
theorem dX4_shift_37 : decode cX4_shift 37 = .ok (.iload 9, 2) := by decide +kernel
theorem dX4_shift_39 : decode cX4_shift 39 = .ok (.bipush 12, 2) := by decide +kernel
theorem dX4_shift_41 : decode cX4_shift 41 = .ok (.if_icmp .ge 75, 3) := by decide +kernel
theorem dX4_shift_44 : decode cX4_shift 44 = .ok (.iload 9, 2) := by decide +kernel
theorem dX4_shift_46 : decode cX4_shift 46 = .ok (.iload 6, 2) := by decide +kernel
theorem dX4_shift_48 : decode cX4_shift 48 = .ok (.if_icmp .eq 62, 3) := by decide +kernel
theorem dX4_shift_51 : decode cX4_shift 51 = .ok (.iload 9, 2) := by decide +kernel
theorem dX4_shift_53 : decode cX4_shift 53 = .ok (.iload 7, 2) := by decide +kernel
theorem dX4_shift_55 : decode cX4_shift 55 = .ok (.if_icmp .eq 55, 3) := by decide +kernel
theorem dX4_shift_58 : decode cX4_shift 58 = .ok (.aload_n 0, 1) := by decide +kernel
theorem dX4_shift_59 : decode cX4_shift 59 = .ok (.iload_n 1, 1) := by decide +kernel
theorem dX4_shift_60 : decode cX4_shift 60 = .ok (.iload 6, 2) := by decide +kernel
theorem dX4_shift_62 : decode cX4_shift 62 = .ok (.iload 9, 2) := by decide +kernel
theorem dX4_shift_64 : decode cX4_shift 64 = .ok (.aload_n 0, 1) := by decide +kernel
theorem dX4_shift_65 : decode cX4_shift 65 = .ok (.bipush 24, 2) := by decide +kernel
theorem dX4_shift_67 : decode cX4_shift 67 = .ok (.iload 8, 2) := by decide +kernel
theorem dX4_shift_69 : decode cX4_shift 69 = .ok (.iload 9, 2) := by decide +kernel
theorem dX4_shift_71 : decode cX4_shift 71 = .ok (.invokevirtual 61, 3) := by decide +kernel
theorem dX4_shift_74 : decode cX4_shift 74 = .ok (.lload 4, 2) := by decide +kernel
theorem dX4_shift_76 : decode cX4_shift 76 = .ok (.invokestatic 65, 3) := by decide +kernel
theorem dX4_shift_79 : decode cX4_shift 79 = .ok (.invokevirtual 69, 3) := by decide +kernel
theorem dX4_shift_82 : decode cX4_shift 82 = .ok (.aload_n 0, 1) := by decide +kernel
theorem dX4_shift_83 : decode cX4_shift 83 = .ok (.iload_n 1, 1) := by decide +kernel
theorem dX4_shift_84 : decode cX4_shift 84 = .ok (.iload 7, 2) := by decide +kernel
theorem dX4_shift_86 : decode cX4_shift 86 = .ok (.iload 9, 2) := by decide +kernel
theorem dX4_shift_88 : decode cX4_shift 88 = .ok (.aload_n 0, 1) := by decide +kernel
theorem dX4_shift_89 : decode cX4_shift 89 = .ok (.bipush 24, 2) := by decide +kernel
theorem dX4_shift_91 : decode cX4_shift 91 = .ok (.iload 8, 2) := by decide +kernel
theorem dX4_shift_93 : decode cX4_shift 93 = .ok (.invokestatic 57, 3) := by decide +kernel
theorem dX4_shift_96 : decode cX4_shift 96 = .ok (.iload 9, 2) := by decide +kernel
theorem dX4_shift_98 : decode cX4_shift 98 = .ok (.invokevirtual 61, 3) := by decide +kernel
theorem dX4_shift_101 : decode cX4_shift 101 = .ok (.lload 4, 2) := by decide +kernel
theorem dX4_shift_103 : decode cX4_shift 103 = .ok (.lneg, 1) := by decide +kernel
theorem dX4_shift_104 : decode cX4_shift 104 = .ok (.invokestatic 65, 3) := by decide +kernel
theorem dX4_shift_107 : decode cX4_shift 107 = .ok (.invokevirtual 69, 3) := by decide +kernel
theorem dX4_shift_110 : decode cX4_shift 110 = .ok (.iinc 9 1, 3) := by decide +kernel
theorem dX4_shift_113 : decode cX4_shift 113 = .ok (.goto (-76), 3) := by decide +kernel
theorem dX4_shift_116 : decode cX4_shift 116 = .ok (.aload_n 0, 1) := by decide +kernel
theorem dX4_shift_117 : decode cX4_shift 117 = .ok (.iload_n 1, 1) := by decide +kernel
theorem dX4_shift_118 : decode cX4_shift 118 = .ok (.iload 6, 2) := by decide +kernel
theorem dX4_shift_120 : decode cX4_shift 120 = .ok (.iload 6, 2) := by decide +kernel
theorem dX4_shift_122 : decode cX4_shift 122 = .ok (.aload_n 0, 1) := by decide +kernel
theorem dX4_shift_123 : decode cX4_shift 123 = .ok (.bipush 24, 2) := by decide +kernel
theorem dX4_shift_125 : decode cX4_shift 125 = .ok (.iload 8, 2) := by decide +kernel
theorem dX4_shift_127 : decode cX4_shift 127 = .ok (.iload 8, 2) := by decide +kernel
theorem dX4_shift_129 : decode cX4_shift 129 = .ok (.invokevirtual 61, 3) := by decide +kernel
theorem dX4_shift_132 : decode cX4_shift 132 = .ok (.lload 4, 2) := by decide +kernel
theorem dX4_shift_134 : decode cX4_shift 134 = .ok (.invokestatic 65, 3) := by decide +kernel
theorem dX4_shift_137 : decode cX4_shift 137 = .ok (.invokevirtual 69, 3) := by decide +kernel
theorem dX4_shift_140 : decode cX4_shift 140 = .ok (.aload_n 0, 1) := by decide +kernel
theorem dX4_shift_141 : decode cX4_shift 141 = .ok (.iload_n 1, 1) := by decide +kernel
theorem dX4_shift_142 : decode cX4_shift 142 = .ok (.iload 7, 2) := by decide +kernel
theorem dX4_shift_144 : decode cX4_shift 144 = .ok (.iload 7, 2) := by decide +kernel
theorem dX4_shift_146 : decode cX4_shift 146 = .ok (.aload_n 0, 1) := by decide +kernel
theorem dX4_shift_147 : decode cX4_shift 147 = .ok (.bipush 24, 2) := by decide +kernel
theorem dX4_shift_149 : decode cX4_shift 149 = .ok (.iload 8, 2) := by decide +kernel
theorem dX4_shift_151 : decode cX4_shift 151 = .ok (.invokestatic 57, 3) := by decide +kernel
theorem dX4_shift_154 : decode cX4_shift 154 = .ok (.iload 8, 2) := by decide +kernel
theorem dX4_shift_156 : decode cX4_shift 156 = .ok (.invokestatic 57, 3) := by decide +kernel
theorem dX4_shift_159 : decode cX4_shift 159 = .ok (.invokevirtual 61, 3) := by decide +kernel
theorem dX4_shift_162 : decode cX4_shift 162 = .ok (.lload 4, 2) := by decide +kernel
theorem dX4_shift_164 : decode cX4_shift 164 = .ok (.lneg, 1) := by decide +kernel
theorem dX4_shift_165 : decode cX4_shift 165 = .ok (.invokestatic 65, 3) := by decide +kernel
theorem dX4_shift_168 : decode cX4_shift 168 = .ok (.invokevirtual 69, 3) := by decide +kernel
theorem dX4_shift_171 : decode cX4_shift 171 = .ok (.return_, 1) := by decide +kernel
set_option maxRecDepth 20000 in
theorem ggX4_make_X4_get : GoodIn wsX4_make wsX4_get := goodIn_r _ [6, 7, 43, 44, 45, 46, 47, 48, 49, 50, 51, 52, 53, 54, 55] rfl (by decide +kernel)
set_option maxRecDepth 20000 in
theorem gX4_make_X4_get : GoodIn wsX4_make (wsV RX4 61 RX4 yX4_get wsX4_get) := goodIn_app (goodIn_of _ (by decide +kernel)) ggX4_make_X4_get
set_option maxRecDepth 20000 in
theorem ggX4_make_X4_set : GoodIn wsX4_make wsX4_set := goodIn_r _ [11, 7, 43, 44, 45, 46, 47, 48, 49, 50, 51, 52, 53, 54, 55] rfl (by decide +kernel)
set_option maxRecDepth 20000 in
theorem gX4_make_X4_set : GoodIn wsX4_make (wsV RX4 69 RX4 yX4_set wsX4_set) := goodIn_app (goodIn_of _ (by decide +kernel)) ggX4_make_X4_set
set_option maxRecDepth 20000 in
theorem ggX4_make_X4_shift : GoodIn wsX4_make wsX4_shift := goodIn_r _ [15, 16, 17, 18, 5, 19, 7, 1, 2, 3, 4, 6, 20, 21, 22, 23, 8, 9, 10, 11, 24, 25, 26, 43, 44, 45, 46, 47, 48, 49, 50, 51, 52, 53, 54, 55] rfl (by decide +kernel)
set_option maxRecDepth 20000 in
theorem gX4_make_X4_shift : GoodIn wsX4_make (wsV RX4 91 RX4 yX4_shift wsX4_shift) := goodIn_app (goodIn_of _ (by decide +kernel)) ggX4_make_X4_shift
set_option maxRecDepth 20000 in
theorem ggX4_make_X4_drop : GoodIn wsX4_make wsX4_drop := goodIn_r _ [30, 23, 8, 9, 10, 5, 11, 7, 43, 44, 45, 46, 47, 48, 49, 50, 51, 52, 53, 54, 55] rfl (by decide +kernel)
set_option maxRecDepth 20000 in
theorem gX4_make_X4_drop : GoodIn wsX4_make (wsV RX4 94 RX4 yX4_drop wsX4_drop) := goodIn_app (goodIn_of _ (by decide +kernel)) ggX4_make_X4_drop
set_option maxRecDepth 20000 in
theorem ggX4_make_X4_minus : GoodIn wsX4_make wsX4_minus := goodIn_r _ [26] rfl (by decide +kernel)
set_option maxRecDepth 20000 in
theorem gX4_make_X4_minus : GoodIn wsX4_make (va_wsS RX4 57 yX4_minus wsX4_minus) := goodIn_app (goodIn_of _ (by decide +kernel)) ggX4_make_X4_minus
set_option maxRecDepth 20000 in
theorem ggX4_make_X4_close : GoodIn wsX4_make wsX4_close := goodIn_r _ [34, 1, 2, 3, 4, 5, 6, 7, 20, 21, 22, 23, 35, 36, 37, 38, 24, 25, 26, 8, 9, 10, 11, 39, 40, 41, 42, 43, 44, 45, 46, 47, 48, 49, 50, 51, 52, 53, 54, 55] rfl (by decide +kernel)
set_option maxRecDepth 20000 in
theorem gX4_make_X4_close : GoodIn wsX4_make (wsV RX4 97 RX4 yX4_close wsX4_close) := goodIn_app (goodIn_of _ (by decide +kernel)) ggX4_make_X4_close
theorem dX4_make_0 : decode cX4_make 0 = .ok (.aload_n 0, 1) := by decide +kernel
theorem dX4_make_1 : decode cX4_make 1 = .ok (.getfield 13, 3) := by decide +kernel
theorem dX4_make_4 : decode cX4_make 4 = .ok (.iload_n 1, 1) := by decide +kernel
theorem dX4_make_5 : decode cX4_make 5 = .ok (.baload, 1) := by decide +kernel
theorem dX4_make_6 : decode cX4_make 6 = .ok (.ifCond .eq 4, 3) := by decide +kernel
theorem dX4_make_9 : decode cX4_make 9 = .ok (.return_, 1) := by decide +kernel
theorem dX4_make_10 : decode cX4_make 10 = .ok (.iload_n 2, 1) := by decide +kernel
theorem dX4_make_11 : decode cX4_make 11 = .ok (.ifCond .ne 32, 3) := by decide +kernel
theorem dX4_make_14 : decode cX4_make 14 = .ok (.iload 5, 2) := by decide +kernel
theorem dX4_make_16 : decode cX4_make 16 = .ok (.i2l, 1) := by decide +kernel
theorem dX4_make_17 : decode cX4_make 17 = .ok (.aload_n 0, 1) := by decide +kernel
theorem dX4_make_18 : decode cX4_make 18 = .ok (.iload_n 1, 1) := by decide +kernel
theorem dX4_make_19 : decode cX4_make 19 = .ok (.iload_n 3, 1) := by decide +kernel
theorem dX4_make_20 : decode cX4_make 20 = .ok (.iload 4, 2) := by decide +kernel
theorem dX4_make_22 : decode cX4_make 22 = .ok (.invokevirtual 61, 3) := by decide +kernel
theorem dX4_make_25 : decode cX4_make 25 = .ok (.lcmp, 1) := by decide +kernel
theorem dX4_make_26 : decode cX4_make 26 = .ok (.ifCond .ge 129, 3) := by decide +kernel
theorem dX4_make_29 : decode cX4_make 29 = .ok (.aload_n 0, 1) := by decide +kernel
theorem dX4_make_30 : decode cX4_make 30 = .ok (.iload_n 1, 1) := by decide +kernel
theorem dX4_make_31 : decode cX4_make 31 = .ok (.iload_n 3, 1) := by decide +kernel
theorem dX4_make_32 : decode cX4_make 32 = .ok (.iload 4, 2) := by decide +kernel
theorem dX4_make_34 : decode cX4_make 34 = .ok (.iload 5, 2) := by decide +kernel
theorem dX4_make_36 : decode cX4_make 36 = .ok (.i2l, 1) := by decide +kernel
theorem dX4_make_37 : decode cX4_make 37 = .ok (.invokevirtual 69, 3) := by decide +kernel
theorem dX4_make_40 : decode cX4_make 40 = .ok (.goto 115, 3) := by decide +kernel
theorem dX4_make_43 : decode cX4_make 43 = .ok (.iload_n 2, 1) := by decide +kernel
theorem dX4_make_44 : decode cX4_make 44 = .ok (.iconst 1, 1) := by decide +kernel
theorem dX4_make_45 : decode cX4_make 45 = .ok (.if_icmp .ne 25, 3) := by decide +kernel
theorem dX4_make_48 : decode cX4_make 48 = .ok (.iload 4, 2) := by decide +kernel
theorem dX4_make_50 : decode cX4_make 50 = .ok (.iconst 2, 1) := by decide +kernel
theorem dX4_make_51 : decode cX4_make 51 = .ok (.idiv, 1) := by decide +kernel
theorem dX4_make_52 : decode cX4_make 52 = .ok (.iload_n 3, 1) := by decide +kernel
theorem dX4_make_53 : decode cX4_make 53 = .ok (.if_icmp .ne 17, 3) := by decide +kernel
theorem dX4_make_56 : decode cX4_make 56 = .ok (.aload_n 0, 1) := by decide +kernel
theorem dX4_make_57 : decode cX4_make 57 = .ok (.iload_n 1, 1) := by decide +kernel
theorem dX4_make_58 : decode cX4_make 58 = .ok (.iload_n 3, 1) := by decide +kernel
theorem dX4_make_59 : decode cX4_make 59 = .ok (.iload 4, 2) := by decide +kernel
theorem dX4_make_61 : decode cX4_make 61 = .ok (.iload 5, 2) := by decide +kernel
theorem dX4_make_63 : decode cX4_make 63 = .ok (.i2l, 1) := by decide +kernel
theorem dX4_make_64 : decode cX4_make 64 = .ok (.invokevirtual 91, 3) := by decide +kernel
theorem dX4_make_67 : decode cX4_make 67 = .ok (.goto 88, 3) := by decide +kernel
theorem dX4_make_70 : decode cX4_make 70 = .ok (.iload_n 2, 1) := by decide +kernel
theorem dX4_make_71 : decode cX4_make 71 = .ok (.iconst 1, 1) := by decide +kernel
theorem dX4_make_72 : decode cX4_make 72 = .ok (.if_icmp .ne 44, 3) := by decide +kernel
theorem dX4_make_75 : decode cX4_make 75 = .ok (.aload_n 0, 1) := by decide +kernel
theorem dX4_make_76 : decode cX4_make 76 = .ok (.iload_n 1, 1) := by decide +kernel
theorem dX4_make_77 : decode cX4_make 77 = .ok (.iload_n 3, 1) := by decide +kernel
theorem dX4_make_78 : decode cX4_make 78 = .ok (.invokevirtual 94, 3) := by decide +kernel
theorem dX4_make_81 : decode cX4_make 81 = .ok (.aload_n 0, 1) := by decide +kernel
theorem dX4_make_82 : decode cX4_make 82 = .ok (.iload_n 1, 1) := by decide +kernel
theorem dX4_make_83 : decode cX4_make 83 = .ok (.iconst 2, 1) := by decide +kernel
theorem dX4_make_84 : decode cX4_make 84 = .ok (.iload_n 3, 1) := by decide +kernel
theorem dX4_make_85 : decode cX4_make 85 = .ok (.imul, 1) := by decide +kernel
theorem dX4_make_86 : decode cX4_make 86 = .ok (.iload 4, 2) := by decide +kernel
theorem dX4_make_88 : decode cX4_make 88 = .ok (.invokestatic 57, 3) := by decide +kernel
theorem dX4_make_91 : decode cX4_make 91 = .ok (.iload 5, 2) := by decide +kernel
theorem dX4_make_93 : decode cX4_make 93 = .ok (.i2l, 1) := by decide +kernel
theorem dX4_make_94 : decode cX4_make 94 = .ok (.invokevirtual 69, 3) := by decide +kernel
theorem dX4_make_97 : decode cX4_make 97 = .ok (.aload_n 0, 1) := by decide +kernel
theorem dX4_make_98 : decode cX4_make 98 = .ok (.iload_n 1, 1) := by decide +kernel
theorem dX4_make_99 : decode cX4_make 99 = .ok (.iconst 2, 1) := by decide +kernel
theorem dX4_make_100 : decode cX4_make 100 = .ok (.iload_n 3, 1) := by decide +kernel
theorem dX4_make_101 : decode cX4_make 101 = .ok (.imul, 1) := by decide +kernel
theorem dX4_make_102 : decode cX4_make 102 = .ok (.iconst 1, 1) := by decide +kernel
theorem dX4_make_103 : decode cX4_make 103 = .ok (.iadd, 1) := by decide +kernel
theorem dX4_make_104 : decode cX4_make 104 = .ok (.iload 4, 2) := by decide +kernel
theorem dX4_make_106 : decode cX4_make 106 = .ok (.iload 5, 2) := by decide +kernel
theorem dX4_make_108 : decode cX4_make 108 = .ok (.i2l, 1) := by decide +kernel
theorem dX4_make_109 : decode cX4_make 109 = .ok (.lneg, 1) := by decide +kernel
theorem dX4_make_110 : decode cX4_make 110 = .ok (.invokevirtual 69, 3) := by decide +kernel
theorem dX4_make_113 : decode cX4_make 113 = .ok (.goto 42, 3) := by decide +kernel
theorem dX4_make_116 : decode cX4_make 116 = .ok (.aload_n 0, 1) := by decide +kernel
theorem dX4_make_117 : decode cX4_make 117 = .ok (.iload_n 1, 1) := by decide +kernel
theorem dX4_make_118 : decode cX4_make 118 = .ok (.iload_n 3, 1) := by decide +kernel
theorem dX4_make_119 : decode cX4_make 119 = .ok (.invokevirtual 94, 3) := by decide +kernel
theorem dX4_make_122 : decode cX4_make 122 = .ok (.aload_n 0, 1) := by decide +kernel
theorem dX4_make_123 : decode cX4_make 123 = .ok (.iload_n 1, 1) := by decide +kernel
theorem dX4_make_124 : decode cX4_make 124 = .ok (.iconst 2, 1) := by decide +kernel
theorem dX4_make_125 : decode cX4_make 125 = .ok (.iload_n 3, 1) := by decide +kernel
theorem dX4_make_126 : decode cX4_make 126 = .ok (.imul, 1) := by decide +kernel
theorem dX4_make_127 : decode cX4_make 127 = .ok (.iconst 2, 1) := by decide +kernel
theorem dX4_make_128 : decode cX4_make 128 = .ok (.iload_n 3, 1) := by decide +kernel
theorem dX4_make_129 : decode cX4_make 129 = .ok (.imul, 1) := by decide +kernel
theorem dX4_make_130 : decode cX4_make 130 = .ok (.iload 5, 2) := by decide +kernel
theorem dX4_make_132 : decode cX4_make 132 = .ok (.i2l, 1) := by decide +kernel
theorem dX4_make_133 : decode cX4_make 133 = .ok (.invokevirtual 69, 3) := by decide +kernel
theorem dX4_make_136 : decode cX4_make 136 = .ok (.aload_n 0, 1) := by decide +kernel
theorem dX4_make_137 : decode cX4_make 137 = .ok (.iload_n 1, 1) := by decide +kernel
theorem dX4_make_138 : decode cX4_make 138 = .ok (.iconst 2, 1) := by decide +kernel
theorem dX4_make_139 : decode cX4_make 139 = .ok (.iload_n 3, 1) := by decide +kernel
theorem dX4_make_140 : decode cX4_make 140 = .ok (.imul, 1) := by decide +kernel
theorem dX4_make_141 : decode cX4_make 141 = .ok (.iconst 1, 1) := by decide +kernel
theorem dX4_make_142 : decode cX4_make 142 = .ok (.iadd, 1) := by decide +kernel
theorem dX4_make_143 : decode cX4_make 143 = .ok (.iconst 2, 1) := by decide +kernel
theorem dX4_make_144 : decode cX4_make 144 = .ok (.iload_n 3, 1) := by decide +kernel
theorem dX4_make_145 : decode cX4_make 145 = .ok (.imul, 1) := by decide +kernel
theorem dX4_make_146 : decode cX4_make 146 = .ok (.iconst 1, 1) := by decide +kernel
theorem dX4_make_147 : decode cX4_make 147 = .ok (.iadd, 1) := by decide +kernel
theorem dX4_make_148 : decode cX4_make 148 = .ok (.iload 4, 2) := by decide +kernel
theorem dX4_make_150 : decode cX4_make 150 = .ok (.i2l, 1) := by decide +kernel
theorem dX4_make_151 : decode cX4_make 151 = .ok (.lneg, 1) := by decide +kernel
theorem dX4_make_152 : decode cX4_make 152 = .ok (.invokevirtual 69, 3) := by decide +kernel
theorem dX4_make_155 : decode cX4_make 155 = .ok (.aload_n 0, 1) := by decide +kernel
theorem dX4_make_156 : decode cX4_make 156 = .ok (.iload_n 1, 1) := by decide +kernel
theorem dX4_make_157 : decode cX4_make 157 = .ok (.invokevirtual 97, 3) := by decide +kernel
theorem dX4_make_160 : decode cX4_make 160 = .ok (.return_, 1) := by decide +kernel
set_option maxRecDepth 20000 in
theorem ggX4_act_X4_isSlot : GoodIn wsX4_act wsX4_isSlot := goodIn_r _ [5, 6, 7, 4, 8] rfl (by decide +kernel)
set_option maxRecDepth 20000 in
theorem gX4_act_X4_isSlot : GoodIn wsX4_act (va_wsS RX4 101 yX4_isSlot wsX4_isSlot) := goodIn_app (goodIn_of _ (by decide +kernel)) ggX4_act_X4_isSlot
set_option maxRecDepth 20000 in
theorem ggX4_act_X4_isAction : GoodIn wsX4_act wsX4_isAction := goodIn_r _ [11, 12, 13, 4, 14, 15, 16, 6, 7, 8, 17, 18, 19, 20, 21, 22] rfl (by decide +kernel)
set_option maxRecDepth 20000 in
theorem gX4_act_X4_isAction : GoodIn wsX4_act (va_wsS RX4 104 yX4_isAction wsX4_isAction) := goodIn_app (goodIn_of _ (by decide +kernel)) ggX4_act_X4_isAction
set_option maxRecDepth 20000 in
theorem ggX4_act_X4_refused : GoodIn wsX4_act wsX4_refused := goodIn_r _ [26, 27, 69, 70, 71, 72, 73, 74, 75, 76, 77, 78, 79, 80, 81] rfl (by decide +kernel)
set_option maxRecDepth 20000 in
theorem gX4_act_X4_refused : GoodIn wsX4_act (wsV RX4 108 RX4 yX4_refused wsX4_refused) := goodIn_app (goodIn_of _ (by decide +kernel)) ggX4_act_X4_refused
set_option maxRecDepth 20000 in
theorem ggX4_act_X4_make : GoodIn wsX4_act wsX4_make := goodIn_r _ [31, 1, 32, 33, 34, 4, 35, 36, 37, 38, 39, 40, 41, 42, 43, 44, 45, 46, 47, 48, 49, 50, 51, 52, 20, 21, 22, 53, 54, 55, 56, 57, 58, 59, 60, 61, 62, 63, 64, 65, 66, 67, 68, 69, 70, 71, 72, 73, 74, 75, 76, 77, 78, 79, 80, 81] rfl (by decide +kernel)
set_option maxRecDepth 20000 in
theorem gX4_act_X4_make : GoodIn wsX4_act (wsV RX4 111 RX4 yX4_make wsX4_make) := goodIn_app (goodIn_of _ (by decide +kernel)) ggX4_act_X4_make
theorem dX4_act_0 : decode cX4_act 0 = .ok (.aload_n 0, 1) := by decide +kernel
theorem dX4_act_1 : decode cX4_act 1 = .ok (.iload_n 1, 1) := by decide +kernel
theorem dX4_act_2 : decode cX4_act 2 = .ok (.invokestatic 101, 3) := by decide +kernel
theorem dX4_act_5 : decode cX4_act 5 = .ok (.ifCond .eq 19, 3) := by decide +kernel
theorem dX4_act_8 : decode cX4_act 8 = .ok (.iload_n 2, 1) := by decide +kernel
theorem dX4_act_9 : decode cX4_act 9 = .ok (.iload_n 3, 1) := by decide +kernel
theorem dX4_act_10 : decode cX4_act 10 = .ok (.iload 4, 2) := by decide +kernel
theorem dX4_act_12 : decode cX4_act 12 = .ok (.iload 5, 2) := by decide +kernel
theorem dX4_act_14 : decode cX4_act 14 = .ok (.invokestatic 104, 3) := by decide +kernel
theorem dX4_act_17 : decode cX4_act 17 = .ok (.ifCond .eq 7, 3) := by decide +kernel
theorem dX4_act_20 : decode cX4_act 20 = .ok (.iconst 0, 1) := by decide +kernel
theorem dX4_act_21 : decode cX4_act 21 = .ok (.goto 4, 3) := by decide +kernel
theorem dX4_act_24 : decode cX4_act 24 = .ok (.iconst 1, 1) := by decide +kernel
theorem dX4_act_25 : decode cX4_act 25 = .ok (.invokevirtual 108, 3) := by decide +kernel
theorem dX4_act_28 : decode cX4_act 28 = .ok (.ifCond .eq 5, 3) := by decide +kernel
theorem dX4_act_31 : decode cX4_act 31 = .ok (.iconst 0, 1) := by decide +kernel
theorem dX4_act_32 : decode cX4_act 32 = .ok (.ireturn, 1) := by decide +kernel
theorem dX4_act_33 : decode cX4_act 33 = .ok (.aload_n 0, 1) := by decide +kernel
theorem dX4_act_34 : decode cX4_act 34 = .ok (.iload_n 1, 1) := by decide +kernel
theorem dX4_act_35 : decode cX4_act 35 = .ok (.iload_n 2, 1) := by decide +kernel
theorem dX4_act_36 : decode cX4_act 36 = .ok (.iload_n 3, 1) := by decide +kernel
theorem dX4_act_37 : decode cX4_act 37 = .ok (.iload 4, 2) := by decide +kernel
theorem dX4_act_39 : decode cX4_act 39 = .ok (.iload 5, 2) := by decide +kernel
theorem dX4_act_41 : decode cX4_act 41 = .ok (.invokevirtual 111, 3) := by decide +kernel
theorem dX4_act_44 : decode cX4_act 44 = .ok (.aload_n 0, 1) := by decide +kernel
theorem dX4_act_45 : decode cX4_act 45 = .ok (.getfield 13, 3) := by decide +kernel
theorem dX4_act_48 : decode cX4_act 48 = .ok (.iload_n 1, 1) := by decide +kernel
theorem dX4_act_49 : decode cX4_act 49 = .ok (.baload, 1) := by decide +kernel
theorem dX4_act_50 : decode cX4_act 50 = .ok (.ifCond .ne 7, 3) := by decide +kernel
theorem dX4_act_53 : decode cX4_act 53 = .ok (.iconst 1, 1) := by decide +kernel
theorem dX4_act_54 : decode cX4_act 54 = .ok (.goto 4, 3) := by decide +kernel
theorem dX4_act_57 : decode cX4_act 57 = .ok (.iconst 0, 1) := by decide +kernel
theorem dX4_act_58 : decode cX4_act 58 = .ok (.ireturn, 1) := by decide +kernel
set_option maxRecDepth 20000 in
theorem ggX4_clear_X4_isSlot : GoodIn wsX4_clear wsX4_isSlot := goodIn_r _ [4, 5, 6, 3, 7] rfl (by decide +kernel)
set_option maxRecDepth 20000 in
theorem gX4_clear_X4_isSlot : GoodIn wsX4_clear (va_wsS RX4 101 yX4_isSlot wsX4_isSlot) := goodIn_app (goodIn_of _ (by decide +kernel)) ggX4_clear_X4_isSlot
set_option maxRecDepth 20000 in
theorem ggX4_clear_X4_refused : GoodIn wsX4_clear wsX4_refused := goodIn_r _ [11, 12, 20, 21, 22, 23, 24, 25, 26, 27, 28, 29, 30, 31, 32] rfl (by decide +kernel)
set_option maxRecDepth 20000 in
theorem gX4_clear_X4_refused : GoodIn wsX4_clear (wsV RX4 108 RX4 yX4_refused wsX4_refused) := goodIn_app (goodIn_of _ (by decide +kernel)) ggX4_clear_X4_refused
set_option maxRecDepth 20000 in
theorem ggX4_clear_X4_all : GoodIn wsX4_clear wsX4_all := goodIn_r _ [16, 17, 18, 19, 20, 21, 22, 23, 24, 25, 26, 27, 28, 29, 30, 31, 32] rfl (by decide +kernel)
set_option maxRecDepth 20000 in
theorem gX4_clear_X4_all : GoodIn wsX4_clear (wsV RX4 115 RX4 yX4_all wsX4_all) := goodIn_app (goodIn_of _ (by decide +kernel)) ggX4_clear_X4_all
theorem dX4_clear_0 : decode cX4_clear 0 = .ok (.aload_n 0, 1) := by decide +kernel
theorem dX4_clear_1 : decode cX4_clear 1 = .ok (.iload_n 1, 1) := by decide +kernel
theorem dX4_clear_2 : decode cX4_clear 2 = .ok (.invokestatic 101, 3) := by decide +kernel
theorem dX4_clear_5 : decode cX4_clear 5 = .ok (.ifCond .eq 7, 3) := by decide +kernel
theorem dX4_clear_8 : decode cX4_clear 8 = .ok (.iconst 0, 1) := by decide +kernel
theorem dX4_clear_9 : decode cX4_clear 9 = .ok (.goto 4, 3) := by decide +kernel
theorem dX4_clear_12 : decode cX4_clear 12 = .ok (.iconst 1, 1) := by decide +kernel
theorem dX4_clear_13 : decode cX4_clear 13 = .ok (.invokevirtual 108, 3) := by decide +kernel
theorem dX4_clear_16 : decode cX4_clear 16 = .ok (.ifCond .ne 8, 3) := by decide +kernel
theorem dX4_clear_19 : decode cX4_clear 19 = .ok (.aload_n 0, 1) := by decide +kernel
theorem dX4_clear_20 : decode cX4_clear 20 = .ok (.iload_n 1, 1) := by decide +kernel
theorem dX4_clear_21 : decode cX4_clear 21 = .ok (.invokevirtual 115, 3) := by decide +kernel
theorem dX4_clear_24 : decode cX4_clear 24 = .ok (.return_, 1) := by decide +kernel
set_option maxRecDepth 20000 in
theorem ggX4_copy_X4_isSlot : GoodIn wsX4_copy wsX4_isSlot := goodIn_r _ [4, 5, 6, 3, 7] rfl (by decide +kernel)
set_option maxRecDepth 20000 in
theorem gX4_copy_X4_isSlot : GoodIn wsX4_copy (va_wsS RX4 101 yX4_isSlot wsX4_isSlot) := goodIn_app (goodIn_of _ (by decide +kernel)) ggX4_copy_X4_isSlot
set_option maxRecDepth 20000 in
theorem ggX4_copy_X4_refused : GoodIn wsX4_copy wsX4_refused := goodIn_r _ [11, 12, 19, 20, 21, 22, 23, 24, 25, 26, 27, 28, 29, 30, 31] rfl (by decide +kernel)
set_option maxRecDepth 20000 in
theorem gX4_copy_X4_refused : GoodIn wsX4_copy (wsV RX4 108 RX4 yX4_refused wsX4_refused) := goodIn_app (goodIn_of _ (by decide +kernel)) ggX4_copy_X4_refused
set_option maxRecDepth 20000 in
theorem ggX4_copy_X4_load : GoodIn wsX4_copy wsX4_load := goodIn_r _ [16, 17, 18, 19, 20, 21, 22, 23, 24, 25, 26, 27, 28, 29, 30, 31] rfl (by decide +kernel)
set_option maxRecDepth 20000 in
theorem gX4_copy_X4_load : GoodIn wsX4_copy (wsV RX4 87 RX4 yX4_load wsX4_load) := goodIn_app (goodIn_of _ (by decide +kernel)) ggX4_copy_X4_load
theorem dX4_copy_0 : decode cX4_copy 0 = .ok (.aload_n 0, 1) := by decide +kernel
theorem dX4_copy_1 : decode cX4_copy 1 = .ok (.iload_n 1, 1) := by decide +kernel
theorem dX4_copy_2 : decode cX4_copy 2 = .ok (.invokestatic 101, 3) := by decide +kernel
theorem dX4_copy_5 : decode cX4_copy 5 = .ok (.ifCond .eq 14, 3) := by decide +kernel
theorem dX4_copy_8 : decode cX4_copy 8 = .ok (.iload_n 2, 1) := by decide +kernel
theorem dX4_copy_9 : decode cX4_copy 9 = .ok (.invokestatic 101, 3) := by decide +kernel
theorem dX4_copy_12 : decode cX4_copy 12 = .ok (.ifCond .eq 7, 3) := by decide +kernel
theorem dX4_copy_15 : decode cX4_copy 15 = .ok (.iconst 0, 1) := by decide +kernel
theorem dX4_copy_16 : decode cX4_copy 16 = .ok (.goto 4, 3) := by decide +kernel
theorem dX4_copy_19 : decode cX4_copy 19 = .ok (.iconst 1, 1) := by decide +kernel
theorem dX4_copy_20 : decode cX4_copy 20 = .ok (.invokevirtual 108, 3) := by decide +kernel
theorem dX4_copy_23 : decode cX4_copy 23 = .ok (.ifCond .ne 9, 3) := by decide +kernel
theorem dX4_copy_26 : decode cX4_copy 26 = .ok (.aload_n 0, 1) := by decide +kernel
theorem dX4_copy_27 : decode cX4_copy 27 = .ok (.iload_n 1, 1) := by decide +kernel
theorem dX4_copy_28 : decode cX4_copy 28 = .ok (.iload_n 2, 1) := by decide +kernel
theorem dX4_copy_29 : decode cX4_copy 29 = .ok (.invokevirtual 87, 3) := by decide +kernel
theorem dX4_copy_32 : decode cX4_copy 32 = .ok (.return_, 1) := by decide +kernel
set_option maxRecDepth 20000 in
theorem ggX4_areSlots_X4_isSlot : GoodIn wsX4_areSlots wsX4_isSlot := goodIn_r _ [4, 5, 6, 3, 7] rfl (by decide +kernel)
set_option maxRecDepth 20000 in
theorem gX4_areSlots_X4_isSlot : GoodIn wsX4_areSlots (va_wsS RX4 101 yX4_isSlot wsX4_isSlot) := goodIn_app (goodIn_of _ (by decide +kernel)) ggX4_areSlots_X4_isSlot
theorem dX4_areSlots_0 : decode cX4_areSlots 0 = .ok (.iload_n 0, 1) := by decide +kernel
theorem dX4_areSlots_1 : decode cX4_areSlots 1 = .ok (.invokestatic 101, 3) := by decide +kernel
theorem dX4_areSlots_4 : decode cX4_areSlots 4 = .ok (.ifCond .eq 21, 3) := by decide +kernel
theorem dX4_areSlots_7 : decode cX4_areSlots 7 = .ok (.iload_n 1, 1) := by decide +kernel
theorem dX4_areSlots_8 : decode cX4_areSlots 8 = .ok (.invokestatic 101, 3) := by decide +kernel
theorem dX4_areSlots_11 : decode cX4_areSlots 11 = .ok (.ifCond .eq 14, 3) := by decide +kernel
theorem dX4_areSlots_14 : decode cX4_areSlots 14 = .ok (.iload_n 2, 1) := by decide +kernel
theorem dX4_areSlots_15 : decode cX4_areSlots 15 = .ok (.invokestatic 101, 3) := by decide +kernel
theorem dX4_areSlots_18 : decode cX4_areSlots 18 = .ok (.ifCond .eq 7, 3) := by decide +kernel
theorem dX4_areSlots_21 : decode cX4_areSlots 21 = .ok (.iconst 1, 1) := by decide +kernel
theorem dX4_areSlots_22 : decode cX4_areSlots 22 = .ok (.goto 4, 3) := by decide +kernel
theorem dX4_areSlots_25 : decode cX4_areSlots 25 = .ok (.iconst 0, 1) := by decide +kernel
theorem dX4_areSlots_26 : decode cX4_areSlots 26 = .ok (.ireturn, 1) := by decide +kernel
set_option maxRecDepth 20000 in
theorem ggX4_meet_X4_areSlots : GoodIn wsX4_meet wsX4_areSlots := goodIn_r _ [6, 7, 8, 5, 9, 10, 11, 12] rfl (by decide +kernel)
set_option maxRecDepth 20000 in
theorem gX4_meet_X4_areSlots : GoodIn wsX4_meet (va_wsS RX4 118 yX4_areSlots wsX4_areSlots) := goodIn_app (goodIn_of _ (by decide +kernel)) ggX4_meet_X4_areSlots
set_option maxRecDepth 20000 in
theorem ggX4_meet_X4_refused : GoodIn wsX4_meet wsX4_refused := goodIn_r _ [16, 17, 49, 50, 51, 52, 53, 54, 55, 56, 57, 58, 59, 60, 61] rfl (by decide +kernel)
set_option maxRecDepth 20000 in
theorem gX4_meet_X4_refused : GoodIn wsX4_meet (wsV RX4 108 RX4 yX4_refused wsX4_refused) := goodIn_app (goodIn_of _ (by decide +kernel)) ggX4_meet_X4_refused
set_option maxRecDepth 20000 in
theorem ggX4_meet_X4_load : GoodIn wsX4_meet wsX4_load := goodIn_r _ [21, 1, 2, 49, 50, 51, 52, 53, 54, 55, 56, 57, 58, 59, 60, 61] rfl (by decide +kernel)
set_option maxRecDepth 20000 in
theorem gX4_meet_X4_load : GoodIn wsX4_meet (wsV RX4 87 RX4 yX4_load wsX4_load) := goodIn_app (goodIn_of _ (by decide +kernel)) ggX4_meet_X4_load
set_option maxRecDepth 20000 in
theorem ggX4_meet_X4_close : GoodIn wsX4_meet wsX4_close := goodIn_r _ [25, 2, 26, 27, 28, 5, 29, 1, 30, 31, 32, 33, 34, 35, 36, 37, 38, 39, 40, 41, 42, 43, 44, 45, 46, 47, 48, 49, 50, 51, 52, 53, 54, 55, 56, 57, 58, 59, 60, 61] rfl (by decide +kernel)
set_option maxRecDepth 20000 in
theorem gX4_meet_X4_close : GoodIn wsX4_meet (wsV RX4 97 RX4 yX4_close wsX4_close) := goodIn_app (goodIn_of _ (by decide +kernel)) ggX4_meet_X4_close
theorem dX4_meet_0 : decode cX4_meet 0 = .ok (.aload_n 0, 1) := by decide +kernel
theorem dX4_meet_1 : decode cX4_meet 1 = .ok (.iload_n 1, 1) := by decide +kernel
theorem dX4_meet_2 : decode cX4_meet 2 = .ok (.iload_n 2, 1) := by decide +kernel
theorem dX4_meet_3 : decode cX4_meet 3 = .ok (.iload_n 3, 1) := by decide +kernel
theorem dX4_meet_4 : decode cX4_meet 4 = .ok (.invokestatic 118, 3) := by decide +kernel
theorem dX4_meet_7 : decode cX4_meet 7 = .ok (.ifCond .eq 7, 3) := by decide +kernel
theorem dX4_meet_10 : decode cX4_meet 10 = .ok (.iconst 0, 1) := by decide +kernel
theorem dX4_meet_11 : decode cX4_meet 11 = .ok (.goto 4, 3) := by decide +kernel
theorem dX4_meet_14 : decode cX4_meet 14 = .ok (.iconst 1, 1) := by decide +kernel
theorem dX4_meet_15 : decode cX4_meet 15 = .ok (.invokevirtual 108, 3) := by decide +kernel
theorem dX4_meet_18 : decode cX4_meet 18 = .ok (.ifCond .eq 5, 3) := by decide +kernel
theorem dX4_meet_21 : decode cX4_meet 21 = .ok (.iconst 0, 1) := by decide +kernel
theorem dX4_meet_22 : decode cX4_meet 22 = .ok (.ireturn, 1) := by decide +kernel
theorem dX4_meet_23 : decode cX4_meet 23 = .ok (.aload_n 0, 1) := by decide +kernel
theorem dX4_meet_24 : decode cX4_meet 24 = .ok (.bipush 22, 2) := by decide +kernel
theorem dX4_meet_26 : decode cX4_meet 26 = .ok (.iload_n 2, 1) := by decide +kernel
theorem dX4_meet_27 : decode cX4_meet 27 = .ok (.invokevirtual 87, 3) := by decide +kernel
theorem dX4_meet_30 : decode cX4_meet 30 = .ok (.iconst 0, 1) := by decide +kernel
theorem dX4_meet_31 : decode cX4_meet 31 = .ok (.istore 4, 2) := by decide +kernel
theorem dX4_meet_33 : decode cX4_meet 33 = .ok (.iload 4, 2) := by decide +kernel
theorem dX4_meet_35 : decode cX4_meet 35 = .ok (.sipush 144, 3) := by decide +kernel
theorem dX4_meet_38 : decode cX4_meet 38 = .ok (.if_icmp .ge 68, 3) := by decide +kernel
theorem dX4_meet_41 : decode cX4_meet 41 = .ok (.aload_n 0, 1) := by decide +kernel
theorem dX4_meet_42 : decode cX4_meet 42 = .ok (.getfield 7, 3) := by decide +kernel
theorem dX4_meet_45 : decode cX4_meet 45 = .ok (.sipush 144, 3) := by decide +kernel
theorem dX4_meet_48 : decode cX4_meet 48 = .ok (.iload_n 3, 1) := by decide +kernel
theorem dX4_meet_49 : decode cX4_meet 49 = .ok (.imul, 1) := by decide +kernel
theorem dX4_meet_50 : decode cX4_meet 50 = .ok (.iload 4, 2) := by decide +kernel
theorem dX4_meet_52 : decode cX4_meet 52 = .ok (.iadd, 1) := by decide +kernel
theorem dX4_meet_53 : decode cX4_meet 53 = .ok (.laload, 1) := by decide +kernel
theorem dX4_meet_54 : decode cX4_meet 54 = .ok (.lstore 5, 2) := by decide +kernel
theorem dX4_meet_56 : decode cX4_meet 56 = .ok (.aload_n 0, 1) := by decide +kernel
theorem dX4_meet_57 : decode cX4_meet 57 = .ok (.getfield 7, 3) := by decide +kernel
theorem dX4_meet_60 : decode cX4_meet 60 = .ok (.sipush 3168, 3) := by decide +kernel
theorem dX4_meet_63 : decode cX4_meet 63 = .ok (.iload 4, 2) := by decide +kernel
theorem dX4_meet_65 : decode cX4_meet 65 = .ok (.iadd, 1) := by decide +kernel
theorem dX4_meet_66 : decode cX4_meet 66 = .ok (.lload 5, 2) := by decide +kernel
theorem dX4_meet_68 : decode cX4_meet 68 = .ok (.aload_n 0, 1) := by decide +kernel
theorem dX4_meet_69 : decode cX4_meet 69 = .ok (.getfield 7, 3) := by decide +kernel
theorem dX4_meet_72 : decode cX4_meet 72 = .ok (.sipush 3168, 3) := by decide +kernel
theorem dX4_meet_75 : decode cX4_meet 75 = .ok (.iload 4, 2) := by decide +kernel
theorem dX4_meet_77 : decode cX4_meet 77 = .ok (.iadd, 1) := by decide +kernel
theorem dX4_meet_78 : decode cX4_meet 78 = .ok (.laload, 1) := by decide +kernel
theorem dX4_meet_79 : decode cX4_meet 79 = .ok (.lcmp, 1) := by decide +kernel
theorem dX4_meet_80 : decode cX4_meet 80 = .ok (.ifCond .ge 8, 3) := by decide +kernel
theorem dX4_meet_83 : decode cX4_meet 83 = .ok (.lload 5, 2) := by decide +kernel
theorem dX4_meet_85 : decode cX4_meet 85 = .ok (.goto 14, 3) := by decide +kernel
theorem dX4_meet_88 : decode cX4_meet 88 = .ok (.aload_n 0, 1) := by decide +kernel
theorem dX4_meet_89 : decode cX4_meet 89 = .ok (.getfield 7, 3) := by decide +kernel
theorem dX4_meet_92 : decode cX4_meet 92 = .ok (.sipush 3168, 3) := by decide +kernel
theorem dX4_meet_95 : decode cX4_meet 95 = .ok (.iload 4, 2) := by decide +kernel
theorem dX4_meet_97 : decode cX4_meet 97 = .ok (.iadd, 1) := by decide +kernel
theorem dX4_meet_98 : decode cX4_meet 98 = .ok (.laload, 1) := by decide +kernel
theorem dX4_meet_99 : decode cX4_meet 99 = .ok (.lastore, 1) := by decide +kernel
theorem dX4_meet_100 : decode cX4_meet 100 = .ok (.iinc 4 1, 3) := by decide +kernel
theorem dX4_meet_103 : decode cX4_meet 103 = .ok (.goto (-70), 3) := by decide +kernel
theorem dX4_meet_106 : decode cX4_meet 106 = .ok (.aload_n 0, 1) := by decide +kernel
theorem dX4_meet_107 : decode cX4_meet 107 = .ok (.getfield 13, 3) := by decide +kernel
theorem dX4_meet_110 : decode cX4_meet 110 = .ok (.bipush 22, 2) := by decide +kernel
theorem dX4_meet_112 : decode cX4_meet 112 = .ok (.aload_n 0, 1) := by decide +kernel
theorem dX4_meet_113 : decode cX4_meet 113 = .ok (.getfield 13, 3) := by decide +kernel
theorem dX4_meet_116 : decode cX4_meet 116 = .ok (.iload_n 2, 1) := by decide +kernel
theorem dX4_meet_117 : decode cX4_meet 117 = .ok (.baload, 1) := by decide +kernel
theorem dX4_meet_118 : decode cX4_meet 118 = .ok (.ifCond .ne 12, 3) := by decide +kernel
theorem dX4_meet_121 : decode cX4_meet 121 = .ok (.aload_n 0, 1) := by decide +kernel
theorem dX4_meet_122 : decode cX4_meet 122 = .ok (.getfield 13, 3) := by decide +kernel
theorem dX4_meet_125 : decode cX4_meet 125 = .ok (.iload_n 3, 1) := by decide +kernel
theorem dX4_meet_126 : decode cX4_meet 126 = .ok (.baload, 1) := by decide +kernel
theorem dX4_meet_127 : decode cX4_meet 127 = .ok (.ifCond .eq 7, 3) := by decide +kernel
theorem dX4_meet_130 : decode cX4_meet 130 = .ok (.iconst 1, 1) := by decide +kernel
theorem dX4_meet_131 : decode cX4_meet 131 = .ok (.goto 4, 3) := by decide +kernel
theorem dX4_meet_134 : decode cX4_meet 134 = .ok (.iconst 0, 1) := by decide +kernel
theorem dX4_meet_135 : decode cX4_meet 135 = .ok (.bastore, 1) := by decide +kernel
theorem dX4_meet_136 : decode cX4_meet 136 = .ok (.aload_n 0, 1) := by decide +kernel
theorem dX4_meet_137 : decode cX4_meet 137 = .ok (.bipush 22, 2) := by decide +kernel
theorem dX4_meet_139 : decode cX4_meet 139 = .ok (.invokevirtual 97, 3) := by decide +kernel
theorem dX4_meet_142 : decode cX4_meet 142 = .ok (.aload_n 0, 1) := by decide +kernel
theorem dX4_meet_143 : decode cX4_meet 143 = .ok (.iload_n 1, 1) := by decide +kernel
theorem dX4_meet_144 : decode cX4_meet 144 = .ok (.bipush 22, 2) := by decide +kernel
theorem dX4_meet_146 : decode cX4_meet 146 = .ok (.invokevirtual 87, 3) := by decide +kernel
theorem dX4_meet_149 : decode cX4_meet 149 = .ok (.aload_n 0, 1) := by decide +kernel
theorem dX4_meet_150 : decode cX4_meet 150 = .ok (.getfield 13, 3) := by decide +kernel
theorem dX4_meet_153 : decode cX4_meet 153 = .ok (.iload_n 1, 1) := by decide +kernel
theorem dX4_meet_154 : decode cX4_meet 154 = .ok (.baload, 1) := by decide +kernel
theorem dX4_meet_155 : decode cX4_meet 155 = .ok (.ifCond .ne 7, 3) := by decide +kernel
theorem dX4_meet_158 : decode cX4_meet 158 = .ok (.iconst 1, 1) := by decide +kernel
theorem dX4_meet_159 : decode cX4_meet 159 = .ok (.goto 4, 3) := by decide +kernel
theorem dX4_meet_162 : decode cX4_meet 162 = .ok (.iconst 0, 1) := by decide +kernel
theorem dX4_meet_163 : decode cX4_meet 163 = .ok (.ireturn, 1) := by decide +kernel
set_option maxRecDepth 20000 in
theorem ggX4_joined_X4_load : GoodIn wsX4_joined wsX4_load := goodIn_r _ [7, 2, 1, 8, 9, 10, 11, 12, 13, 14, 15, 16, 17, 18, 19, 20] rfl (by decide +kernel)
set_option maxRecDepth 20000 in
theorem gX4_joined_X4_load : GoodIn wsX4_joined (wsV RX4 87 RX4 yX4_load wsX4_load) := goodIn_app (goodIn_of _ (by decide +kernel)) ggX4_joined_X4_load
theorem dX4_joined_0 : decode cX4_joined 0 = .ok (.aload_n 0, 1) := by decide +kernel
theorem dX4_joined_1 : decode cX4_joined 1 = .ok (.bipush 22, 2) := by decide +kernel
theorem dX4_joined_3 : decode cX4_joined 3 = .ok (.aload_n 0, 1) := by decide +kernel
theorem dX4_joined_4 : decode cX4_joined 4 = .ok (.getfield 13, 3) := by decide +kernel
theorem dX4_joined_7 : decode cX4_joined 7 = .ok (.iload_n 1, 1) := by decide +kernel
theorem dX4_joined_8 : decode cX4_joined 8 = .ok (.baload, 1) := by decide +kernel
theorem dX4_joined_9 : decode cX4_joined 9 = .ok (.ifCond .eq 7, 3) := by decide +kernel
theorem dX4_joined_12 : decode cX4_joined 12 = .ok (.iload_n 2, 1) := by decide +kernel
theorem dX4_joined_13 : decode cX4_joined 13 = .ok (.goto 4, 3) := by decide +kernel
theorem dX4_joined_16 : decode cX4_joined 16 = .ok (.iload_n 1, 1) := by decide +kernel
theorem dX4_joined_17 : decode cX4_joined 17 = .ok (.invokevirtual 87, 3) := by decide +kernel
theorem dX4_joined_20 : decode cX4_joined 20 = .ok (.aload_n 0, 1) := by decide +kernel
theorem dX4_joined_21 : decode cX4_joined 21 = .ok (.getfield 13, 3) := by decide +kernel
theorem dX4_joined_24 : decode cX4_joined 24 = .ok (.iload_n 1, 1) := by decide +kernel
theorem dX4_joined_25 : decode cX4_joined 25 = .ok (.baload, 1) := by decide +kernel
theorem dX4_joined_26 : decode cX4_joined 26 = .ok (.ifCond .ne 12, 3) := by decide +kernel
theorem dX4_joined_29 : decode cX4_joined 29 = .ok (.aload_n 0, 1) := by decide +kernel
theorem dX4_joined_30 : decode cX4_joined 30 = .ok (.getfield 13, 3) := by decide +kernel
theorem dX4_joined_33 : decode cX4_joined 33 = .ok (.iload_n 2, 1) := by decide +kernel
theorem dX4_joined_34 : decode cX4_joined 34 = .ok (.baload, 1) := by decide +kernel
theorem dX4_joined_35 : decode cX4_joined 35 = .ok (.ifCond .eq 4, 3) := by decide +kernel
theorem dX4_joined_38 : decode cX4_joined 38 = .ok (.return_, 1) := by decide +kernel
theorem dX4_joined_39 : decode cX4_joined 39 = .ok (.iconst 0, 1) := by decide +kernel
theorem dX4_joined_40 : decode cX4_joined 40 = .ok (.istore_n 3, 1) := by decide +kernel
theorem dX4_joined_41 : decode cX4_joined 41 = .ok (.iload_n 3, 1) := by decide +kernel
theorem dX4_joined_42 : decode cX4_joined 42 = .ok (.sipush 144, 3) := by decide +kernel
theorem dX4_joined_45 : decode cX4_joined 45 = .ok (.if_icmp .ge 64, 3) := by decide +kernel
theorem dX4_joined_48 : decode cX4_joined 48 = .ok (.aload_n 0, 1) := by decide +kernel
theorem dX4_joined_49 : decode cX4_joined 49 = .ok (.getfield 7, 3) := by decide +kernel
theorem dX4_joined_52 : decode cX4_joined 52 = .ok (.sipush 144, 3) := by decide +kernel
theorem dX4_joined_55 : decode cX4_joined 55 = .ok (.iload_n 2, 1) := by decide +kernel
theorem dX4_joined_56 : decode cX4_joined 56 = .ok (.imul, 1) := by decide +kernel
theorem dX4_joined_57 : decode cX4_joined 57 = .ok (.iload_n 3, 1) := by decide +kernel
theorem dX4_joined_58 : decode cX4_joined 58 = .ok (.iadd, 1) := by decide +kernel
theorem dX4_joined_59 : decode cX4_joined 59 = .ok (.laload, 1) := by decide +kernel
theorem dX4_joined_60 : decode cX4_joined 60 = .ok (.lstore 4, 2) := by decide +kernel
theorem dX4_joined_62 : decode cX4_joined 62 = .ok (.aload_n 0, 1) := by decide +kernel
theorem dX4_joined_63 : decode cX4_joined 63 = .ok (.getfield 7, 3) := by decide +kernel
theorem dX4_joined_66 : decode cX4_joined 66 = .ok (.sipush 3168, 3) := by decide +kernel
theorem dX4_joined_69 : decode cX4_joined 69 = .ok (.iload_n 3, 1) := by decide +kernel
theorem dX4_joined_70 : decode cX4_joined 70 = .ok (.iadd, 1) := by decide +kernel
theorem dX4_joined_71 : decode cX4_joined 71 = .ok (.lload 4, 2) := by decide +kernel
theorem dX4_joined_73 : decode cX4_joined 73 = .ok (.aload_n 0, 1) := by decide +kernel
theorem dX4_joined_74 : decode cX4_joined 74 = .ok (.getfield 7, 3) := by decide +kernel
theorem dX4_joined_77 : decode cX4_joined 77 = .ok (.sipush 3168, 3) := by decide +kernel
theorem dX4_joined_80 : decode cX4_joined 80 = .ok (.iload_n 3, 1) := by decide +kernel
theorem dX4_joined_81 : decode cX4_joined 81 = .ok (.iadd, 1) := by decide +kernel
theorem dX4_joined_82 : decode cX4_joined 82 = .ok (.laload, 1) := by decide +kernel
theorem dX4_joined_83 : decode cX4_joined 83 = .ok (.lcmp, 1) := by decide +kernel
theorem dX4_joined_84 : decode cX4_joined 84 = .ok (.ifCond .le 8, 3) := by decide +kernel
theorem dX4_joined_87 : decode cX4_joined 87 = .ok (.lload 4, 2) := by decide +kernel
theorem dX4_joined_89 : decode cX4_joined 89 = .ok (.goto 13, 3) := by decide +kernel
theorem dX4_joined_92 : decode cX4_joined 92 = .ok (.aload_n 0, 1) := by decide +kernel
theorem dX4_joined_93 : decode cX4_joined 93 = .ok (.getfield 7, 3) := by decide +kernel
theorem dX4_joined_96 : decode cX4_joined 96 = .ok (.sipush 3168, 3) := by decide +kernel
theorem dX4_joined_99 : decode cX4_joined 99 = .ok (.iload_n 3, 1) := by decide +kernel
theorem dX4_joined_100 : decode cX4_joined 100 = .ok (.iadd, 1) := by decide +kernel
theorem dX4_joined_101 : decode cX4_joined 101 = .ok (.laload, 1) := by decide +kernel
theorem dX4_joined_102 : decode cX4_joined 102 = .ok (.lastore, 1) := by decide +kernel
theorem dX4_joined_103 : decode cX4_joined 103 = .ok (.iinc 3 1, 3) := by decide +kernel
theorem dX4_joined_106 : decode cX4_joined 106 = .ok (.goto (-65), 3) := by decide +kernel
theorem dX4_joined_109 : decode cX4_joined 109 = .ok (.return_, 1) := by decide +kernel
set_option maxRecDepth 20000 in
theorem ggX4_join_X4_areSlots : GoodIn wsX4_join wsX4_areSlots := goodIn_r _ [4, 5, 6, 3, 7, 8, 9, 10] rfl (by decide +kernel)
set_option maxRecDepth 20000 in
theorem gX4_join_X4_areSlots : GoodIn wsX4_join (va_wsS RX4 118 yX4_areSlots wsX4_areSlots) := goodIn_app (goodIn_of _ (by decide +kernel)) ggX4_join_X4_areSlots
set_option maxRecDepth 20000 in
theorem ggX4_join_X4_refused : GoodIn wsX4_join wsX4_refused := goodIn_r _ [14, 15, 26, 27, 28, 29, 30, 31, 32, 33, 34, 35, 36, 37, 38] rfl (by decide +kernel)
set_option maxRecDepth 20000 in
theorem gX4_join_X4_refused : GoodIn wsX4_join (wsV RX4 108 RX4 yX4_refused wsX4_refused) := goodIn_app (goodIn_of _ (by decide +kernel)) ggX4_join_X4_refused
set_option maxRecDepth 20000 in
theorem ggX4_join_X4_joined : GoodIn wsX4_join wsX4_joined := goodIn_r _ [19, 20, 21, 22, 23, 24, 3, 25, 26, 27, 28, 29, 30, 31, 32, 33, 34, 35, 36, 37, 38] rfl (by decide +kernel)
set_option maxRecDepth 20000 in
theorem gX4_join_X4_joined : GoodIn wsX4_join (wsV RX4 121 RX4 yX4_joined wsX4_joined) := goodIn_app (goodIn_of _ (by decide +kernel)) ggX4_join_X4_joined
set_option maxRecDepth 20000 in
theorem ggX4_join_X4_load : GoodIn wsX4_join wsX4_load := goodIn_r _ [25, 21, 20, 26, 27, 28, 29, 30, 31, 32, 33, 34, 35, 36, 37, 38] rfl (by decide +kernel)
set_option maxRecDepth 20000 in
theorem gX4_join_X4_load : GoodIn wsX4_join (wsV RX4 87 RX4 yX4_load wsX4_load) := goodIn_app (goodIn_of _ (by decide +kernel)) ggX4_join_X4_load
theorem dX4_join_0 : decode cX4_join 0 = .ok (.aload_n 0, 1) := by decide +kernel
theorem dX4_join_1 : decode cX4_join 1 = .ok (.iload_n 1, 1) := by decide +kernel
theorem dX4_join_2 : decode cX4_join 2 = .ok (.iload_n 2, 1) := by decide +kernel
theorem dX4_join_3 : decode cX4_join 3 = .ok (.iload_n 3, 1) := by decide +kernel
theorem dX4_join_4 : decode cX4_join 4 = .ok (.invokestatic 118, 3) := by decide +kernel
theorem dX4_join_7 : decode cX4_join 7 = .ok (.ifCond .eq 7, 3) := by decide +kernel
theorem dX4_join_10 : decode cX4_join 10 = .ok (.iconst 0, 1) := by decide +kernel
theorem dX4_join_11 : decode cX4_join 11 = .ok (.goto 4, 3) := by decide +kernel
theorem dX4_join_14 : decode cX4_join 14 = .ok (.iconst 1, 1) := by decide +kernel
theorem dX4_join_15 : decode cX4_join 15 = .ok (.invokevirtual 108, 3) := by decide +kernel
theorem dX4_join_18 : decode cX4_join 18 = .ok (.ifCond .ne 16, 3) := by decide +kernel
theorem dX4_join_21 : decode cX4_join 21 = .ok (.aload_n 0, 1) := by decide +kernel
theorem dX4_join_22 : decode cX4_join 22 = .ok (.iload_n 2, 1) := by decide +kernel
theorem dX4_join_23 : decode cX4_join 23 = .ok (.iload_n 3, 1) := by decide +kernel
theorem dX4_join_24 : decode cX4_join 24 = .ok (.invokevirtual 121, 3) := by decide +kernel
theorem dX4_join_27 : decode cX4_join 27 = .ok (.aload_n 0, 1) := by decide +kernel
theorem dX4_join_28 : decode cX4_join 28 = .ok (.iload_n 1, 1) := by decide +kernel
theorem dX4_join_29 : decode cX4_join 29 = .ok (.bipush 22, 2) := by decide +kernel
theorem dX4_join_31 : decode cX4_join 31 = .ok (.invokevirtual 87, 3) := by decide +kernel
theorem dX4_join_34 : decode cX4_join 34 = .ok (.return_, 1) := by decide +kernel
set_option maxRecDepth 20000 in
theorem ggX4_widened_X4_load : GoodIn wsX4_widened wsX4_load := goodIn_r _ [8, 2, 1, 35, 36, 37, 38, 39, 40, 41, 42, 43, 44, 45, 46, 47] rfl (by decide +kernel)
set_option maxRecDepth 20000 in
theorem gX4_widened_X4_load : GoodIn wsX4_widened (wsV RX4 87 RX4 yX4_load wsX4_load) := goodIn_app (goodIn_of _ (by decide +kernel)) ggX4_widened_X4_load
set_option maxRecDepth 20000 in
theorem ggX4_widened_X4_close : GoodIn wsX4_widened wsX4_close := goodIn_r _ [12, 1, 13, 14, 15, 7, 16, 2, 17, 18, 19, 3, 20, 21, 22, 23, 24, 25, 26, 27, 28, 29, 30, 31, 32, 33, 34, 35, 36, 37, 38, 39, 40, 41, 42, 43, 44, 45, 46, 47] rfl (by decide +kernel)
set_option maxRecDepth 20000 in
theorem gX4_widened_X4_close : GoodIn wsX4_widened (wsV RX4 97 RX4 yX4_close wsX4_close) := goodIn_app (goodIn_of _ (by decide +kernel)) ggX4_widened_X4_close
theorem dX4_widened_0 : decode cX4_widened 0 = .ok (.aload_n 0, 1) := by decide +kernel
theorem dX4_widened_1 : decode cX4_widened 1 = .ok (.bipush 23, 2) := by decide +kernel
theorem dX4_widened_3 : decode cX4_widened 3 = .ok (.aload_n 0, 1) := by decide +kernel
theorem dX4_widened_4 : decode cX4_widened 4 = .ok (.getfield 13, 3) := by decide +kernel
theorem dX4_widened_7 : decode cX4_widened 7 = .ok (.iload_n 1, 1) := by decide +kernel
theorem dX4_widened_8 : decode cX4_widened 8 = .ok (.baload, 1) := by decide +kernel
theorem dX4_widened_9 : decode cX4_widened 9 = .ok (.ifCond .eq 7, 3) := by decide +kernel
theorem dX4_widened_12 : decode cX4_widened 12 = .ok (.iload_n 2, 1) := by decide +kernel
theorem dX4_widened_13 : decode cX4_widened 13 = .ok (.goto 4, 3) := by decide +kernel
theorem dX4_widened_16 : decode cX4_widened 16 = .ok (.iload_n 1, 1) := by decide +kernel
theorem dX4_widened_17 : decode cX4_widened 17 = .ok (.invokevirtual 87, 3) := by decide +kernel
theorem dX4_widened_20 : decode cX4_widened 20 = .ok (.aload_n 0, 1) := by decide +kernel
theorem dX4_widened_21 : decode cX4_widened 21 = .ok (.getfield 13, 3) := by decide +kernel
theorem dX4_widened_24 : decode cX4_widened 24 = .ok (.iload_n 1, 1) := by decide +kernel
theorem dX4_widened_25 : decode cX4_widened 25 = .ok (.baload, 1) := by decide +kernel
theorem dX4_widened_26 : decode cX4_widened 26 = .ok (.ifCond .ne 12, 3) := by decide +kernel
theorem dX4_widened_29 : decode cX4_widened 29 = .ok (.aload_n 0, 1) := by decide +kernel
theorem dX4_widened_30 : decode cX4_widened 30 = .ok (.getfield 13, 3) := by decide +kernel
theorem dX4_widened_33 : decode cX4_widened 33 = .ok (.iload_n 2, 1) := by decide +kernel
theorem dX4_widened_34 : decode cX4_widened 34 = .ok (.baload, 1) := by decide +kernel
theorem dX4_widened_35 : decode cX4_widened 35 = .ok (.ifCond .eq 4, 3) := by decide +kernel
theorem dX4_widened_38 : decode cX4_widened 38 = .ok (.return_, 1) := by decide +kernel
theorem dX4_widened_39 : decode cX4_widened 39 = .ok (.iconst 0, 1) := by decide +kernel
theorem dX4_widened_40 : decode cX4_widened 40 = .ok (.istore_n 3, 1) := by decide +kernel
theorem dX4_widened_41 : decode cX4_widened 41 = .ok (.iload_n 3, 1) := by decide +kernel
theorem dX4_widened_42 : decode cX4_widened 42 = .ok (.sipush 144, 3) := by decide +kernel
theorem dX4_widened_45 : decode cX4_widened 45 = .ok (.if_icmp .ge 77, 3) := by decide +kernel
theorem dX4_widened_48 : decode cX4_widened 48 = .ok (.aload_n 0, 1) := by decide +kernel
theorem dX4_widened_49 : decode cX4_widened 49 = .ok (.getfield 7, 3) := by decide +kernel
theorem dX4_widened_52 : decode cX4_widened 52 = .ok (.sipush 144, 3) := by decide +kernel
theorem dX4_widened_55 : decode cX4_widened 55 = .ok (.iload_n 2, 1) := by decide +kernel
theorem dX4_widened_56 : decode cX4_widened 56 = .ok (.imul, 1) := by decide +kernel
theorem dX4_widened_57 : decode cX4_widened 57 = .ok (.iload_n 3, 1) := by decide +kernel
theorem dX4_widened_58 : decode cX4_widened 58 = .ok (.iadd, 1) := by decide +kernel
theorem dX4_widened_59 : decode cX4_widened 59 = .ok (.laload, 1) := by decide +kernel
theorem dX4_widened_60 : decode cX4_widened 60 = .ok (.aload_n 0, 1) := by decide +kernel
theorem dX4_widened_61 : decode cX4_widened 61 = .ok (.getfield 7, 3) := by decide +kernel
theorem dX4_widened_64 : decode cX4_widened 64 = .ok (.sipush 144, 3) := by decide +kernel
theorem dX4_widened_67 : decode cX4_widened 67 = .ok (.iload_n 1, 1) := by decide +kernel
theorem dX4_widened_68 : decode cX4_widened 68 = .ok (.imul, 1) := by decide +kernel
theorem dX4_widened_69 : decode cX4_widened 69 = .ok (.iload_n 3, 1) := by decide +kernel
theorem dX4_widened_70 : decode cX4_widened 70 = .ok (.iadd, 1) := by decide +kernel
theorem dX4_widened_71 : decode cX4_widened 71 = .ok (.laload, 1) := by decide +kernel
theorem dX4_widened_72 : decode cX4_widened 72 = .ok (.lcmp, 1) := by decide +kernel
theorem dX4_widened_73 : decode cX4_widened 73 = .ok (.ifCond .gt 7, 3) := by decide +kernel
theorem dX4_widened_76 : decode cX4_widened 76 = .ok (.iconst 1, 1) := by decide +kernel
theorem dX4_widened_77 : decode cX4_widened 77 = .ok (.goto 4, 3) := by decide +kernel
theorem dX4_widened_80 : decode cX4_widened 80 = .ok (.iconst 0, 1) := by decide +kernel
theorem dX4_widened_81 : decode cX4_widened 81 = .ok (.istore 4, 2) := by decide +kernel
theorem dX4_widened_83 : decode cX4_widened 83 = .ok (.aload_n 0, 1) := by decide +kernel
theorem dX4_widened_84 : decode cX4_widened 84 = .ok (.getfield 7, 3) := by decide +kernel
theorem dX4_widened_87 : decode cX4_widened 87 = .ok (.sipush 3312, 3) := by decide +kernel
theorem dX4_widened_90 : decode cX4_widened 90 = .ok (.iload_n 3, 1) := by decide +kernel
theorem dX4_widened_91 : decode cX4_widened 91 = .ok (.iadd, 1) := by decide +kernel
theorem dX4_widened_92 : decode cX4_widened 92 = .ok (.iload 4, 2) := by decide +kernel
theorem dX4_widened_94 : decode cX4_widened 94 = .ok (.ifCond .eq 18, 3) := by decide +kernel
theorem dX4_widened_97 : decode cX4_widened 97 = .ok (.aload_n 0, 1) := by decide +kernel
theorem dX4_widened_98 : decode cX4_widened 98 = .ok (.getfield 7, 3) := by decide +kernel
theorem dX4_widened_101 : decode cX4_widened 101 = .ok (.sipush 144, 3) := by decide +kernel
theorem dX4_widened_104 : decode cX4_widened 104 = .ok (.iload_n 1, 1) := by decide +kernel
theorem dX4_widened_105 : decode cX4_widened 105 = .ok (.imul, 1) := by decide +kernel
theorem dX4_widened_106 : decode cX4_widened 106 = .ok (.iload_n 3, 1) := by decide +kernel
theorem dX4_widened_107 : decode cX4_widened 107 = .ok (.iadd, 1) := by decide +kernel
theorem dX4_widened_108 : decode cX4_widened 108 = .ok (.laload, 1) := by decide +kernel
theorem dX4_widened_109 : decode cX4_widened 109 = .ok (.goto 6, 3) := by decide +kernel
theorem dX4_widened_112 : decode cX4_widened 112 = .ok (.ldc2_w 45, 3) := by decide +kernel
theorem dX4_widened_115 : decode cX4_widened 115 = .ok (.lastore, 1) := by decide +kernel
theorem dX4_widened_116 : decode cX4_widened 116 = .ok (.iinc 3 1, 3) := by decide +kernel
theorem dX4_widened_119 : decode cX4_widened 119 = .ok (.goto (-78), 3) := by decide +kernel
theorem dX4_widened_122 : decode cX4_widened 122 = .ok (.aload_n 0, 1) := by decide +kernel
theorem dX4_widened_123 : decode cX4_widened 123 = .ok (.bipush 23, 2) := by decide +kernel
theorem dX4_widened_125 : decode cX4_widened 125 = .ok (.invokevirtual 97, 3) := by decide +kernel
theorem dX4_widened_128 : decode cX4_widened 128 = .ok (.return_, 1) := by decide +kernel
set_option maxRecDepth 20000 in
theorem ggX4_widen_X4_areSlots : GoodIn wsX4_widen wsX4_areSlots := goodIn_r _ [4, 5, 6, 3, 7, 8, 9, 10] rfl (by decide +kernel)
set_option maxRecDepth 20000 in
theorem gX4_widen_X4_areSlots : GoodIn wsX4_widen (va_wsS RX4 118 yX4_areSlots wsX4_areSlots) := goodIn_app (goodIn_of _ (by decide +kernel)) ggX4_widen_X4_areSlots
set_option maxRecDepth 20000 in
theorem ggX4_widen_X4_refused : GoodIn wsX4_widen wsX4_refused := goodIn_r _ [14, 15, 53, 54, 55, 56, 57, 58, 59, 60, 61, 62, 63, 64, 65] rfl (by decide +kernel)
set_option maxRecDepth 20000 in
theorem gX4_widen_X4_refused : GoodIn wsX4_widen (wsV RX4 108 RX4 yX4_refused wsX4_refused) := goodIn_app (goodIn_of _ (by decide +kernel)) ggX4_widen_X4_refused
set_option maxRecDepth 20000 in
theorem ggX4_widen_X4_widened : GoodIn wsX4_widen wsX4_widened := goodIn_r _ [19, 20, 21, 22, 23, 24, 25, 3, 26, 27, 28, 29, 30, 31, 32, 33, 34, 35, 36, 37, 38, 39, 40, 41, 42, 43, 44, 45, 46, 47, 48, 49, 50, 51, 52, 53, 54, 55, 56, 57, 58, 59, 60, 61, 62, 63, 64, 65] rfl (by decide +kernel)
set_option maxRecDepth 20000 in
theorem gX4_widen_X4_widened : GoodIn wsX4_widen (wsV RX4 124 RX4 yX4_widened wsX4_widened) := goodIn_app (goodIn_of _ (by decide +kernel)) ggX4_widen_X4_widened
set_option maxRecDepth 20000 in
theorem ggX4_widen_X4_load : GoodIn wsX4_widen wsX4_load := goodIn_r _ [26, 21, 20, 53, 54, 55, 56, 57, 58, 59, 60, 61, 62, 63, 64, 65] rfl (by decide +kernel)
set_option maxRecDepth 20000 in
theorem gX4_widen_X4_load : GoodIn wsX4_widen (wsV RX4 87 RX4 yX4_load wsX4_load) := goodIn_app (goodIn_of _ (by decide +kernel)) ggX4_widen_X4_load
theorem dX4_widen_0 : decode cX4_widen 0 = .ok (.aload_n 0, 1) := by decide +kernel
theorem dX4_widen_1 : decode cX4_widen 1 = .ok (.iload_n 1, 1) := by decide +kernel
theorem dX4_widen_2 : decode cX4_widen 2 = .ok (.iload_n 2, 1) := by decide +kernel
theorem dX4_widen_3 : decode cX4_widen 3 = .ok (.iload_n 3, 1) := by decide +kernel
theorem dX4_widen_4 : decode cX4_widen 4 = .ok (.invokestatic 118, 3) := by decide +kernel
theorem dX4_widen_7 : decode cX4_widen 7 = .ok (.ifCond .eq 7, 3) := by decide +kernel
theorem dX4_widen_10 : decode cX4_widen 10 = .ok (.iconst 0, 1) := by decide +kernel
theorem dX4_widen_11 : decode cX4_widen 11 = .ok (.goto 4, 3) := by decide +kernel
theorem dX4_widen_14 : decode cX4_widen 14 = .ok (.iconst 1, 1) := by decide +kernel
theorem dX4_widen_15 : decode cX4_widen 15 = .ok (.invokevirtual 108, 3) := by decide +kernel
theorem dX4_widen_18 : decode cX4_widen 18 = .ok (.ifCond .ne 16, 3) := by decide +kernel
theorem dX4_widen_21 : decode cX4_widen 21 = .ok (.aload_n 0, 1) := by decide +kernel
theorem dX4_widen_22 : decode cX4_widen 22 = .ok (.iload_n 2, 1) := by decide +kernel
theorem dX4_widen_23 : decode cX4_widen 23 = .ok (.iload_n 3, 1) := by decide +kernel
theorem dX4_widen_24 : decode cX4_widen 24 = .ok (.invokevirtual 124, 3) := by decide +kernel
theorem dX4_widen_27 : decode cX4_widen 27 = .ok (.aload_n 0, 1) := by decide +kernel
theorem dX4_widen_28 : decode cX4_widen 28 = .ok (.iload_n 1, 1) := by decide +kernel
theorem dX4_widen_29 : decode cX4_widen 29 = .ok (.bipush 23, 2) := by decide +kernel
theorem dX4_widen_31 : decode cX4_widen 31 = .ok (.invokevirtual 87, 3) := by decide +kernel
theorem dX4_widen_34 : decode cX4_widen 34 = .ok (.return_, 1) := by decide +kernel
set_option maxRecDepth 20000 in
theorem ggX4_forget_X4_isSlot : GoodIn wsX4_forget wsX4_isSlot := goodIn_r _ [4, 5, 6, 3, 7] rfl (by decide +kernel)
set_option maxRecDepth 20000 in
theorem gX4_forget_X4_isSlot : GoodIn wsX4_forget (va_wsS RX4 101 yX4_isSlot wsX4_isSlot) := goodIn_app (goodIn_of _ (by decide +kernel)) ggX4_forget_X4_isSlot
set_option maxRecDepth 20000 in
theorem ggX4_forget_X4_isIn : GoodIn wsX4_forget wsX4_isIn := goodIn_r _ [7] rfl (by decide +kernel)
set_option maxRecDepth 20000 in
theorem gX4_forget_X4_isIn : GoodIn wsX4_forget (va_wsS RX4 51 yX4_isIn wsX4_isIn) := goodIn_app (goodIn_of _ (by decide +kernel)) ggX4_forget_X4_isIn
set_option maxRecDepth 20000 in
theorem ggX4_forget_X4_refused : GoodIn wsX4_forget wsX4_refused := goodIn_r _ [11, 12, 23, 24, 25, 26, 27, 28, 29, 30, 31, 32, 33, 34, 35] rfl (by decide +kernel)
set_option maxRecDepth 20000 in
theorem gX4_forget_X4_refused : GoodIn wsX4_forget (wsV RX4 108 RX4 yX4_refused wsX4_refused) := goodIn_app (goodIn_of _ (by decide +kernel)) ggX4_forget_X4_refused
set_option maxRecDepth 20000 in
theorem ggX4_forget_X4_drop : GoodIn wsX4_forget wsX4_drop := goodIn_r _ [16, 17, 18, 19, 20, 3, 21, 22, 23, 24, 25, 26, 27, 28, 29, 30, 31, 32, 33, 34, 35] rfl (by decide +kernel)
set_option maxRecDepth 20000 in
theorem gX4_forget_X4_drop : GoodIn wsX4_forget (wsV RX4 94 RX4 yX4_drop wsX4_drop) := goodIn_app (goodIn_of _ (by decide +kernel)) ggX4_forget_X4_drop
theorem dX4_forget_0 : decode cX4_forget 0 = .ok (.aload_n 0, 1) := by decide +kernel
theorem dX4_forget_1 : decode cX4_forget 1 = .ok (.iload_n 1, 1) := by decide +kernel
theorem dX4_forget_2 : decode cX4_forget 2 = .ok (.invokestatic 101, 3) := by decide +kernel
theorem dX4_forget_5 : decode cX4_forget 5 = .ok (.ifCond .eq 16, 3) := by decide +kernel
theorem dX4_forget_8 : decode cX4_forget 8 = .ok (.iload_n 2, 1) := by decide +kernel
theorem dX4_forget_9 : decode cX4_forget 9 = .ok (.iconst 0, 1) := by decide +kernel
theorem dX4_forget_10 : decode cX4_forget 10 = .ok (.iconst 5, 1) := by decide +kernel
theorem dX4_forget_11 : decode cX4_forget 11 = .ok (.invokestatic 51, 3) := by decide +kernel
theorem dX4_forget_14 : decode cX4_forget 14 = .ok (.ifCond .eq 7, 3) := by decide +kernel
theorem dX4_forget_17 : decode cX4_forget 17 = .ok (.iconst 0, 1) := by decide +kernel
theorem dX4_forget_18 : decode cX4_forget 18 = .ok (.goto 4, 3) := by decide +kernel
theorem dX4_forget_21 : decode cX4_forget 21 = .ok (.iconst 1, 1) := by decide +kernel
theorem dX4_forget_22 : decode cX4_forget 22 = .ok (.invokevirtual 108, 3) := by decide +kernel
theorem dX4_forget_25 : decode cX4_forget 25 = .ok (.ifCond .ne 9, 3) := by decide +kernel
theorem dX4_forget_28 : decode cX4_forget 28 = .ok (.aload_n 0, 1) := by decide +kernel
theorem dX4_forget_29 : decode cX4_forget 29 = .ok (.iload_n 1, 1) := by decide +kernel
theorem dX4_forget_30 : decode cX4_forget 30 = .ok (.iload_n 2, 1) := by decide +kernel
theorem dX4_forget_31 : decode cX4_forget 31 = .ok (.invokevirtual 94, 3) := by decide +kernel
theorem dX4_forget_34 : decode cX4_forget 34 = .ok (.return_, 1) := by decide +kernel
set_option maxRecDepth 20000 in
theorem ggX4_isEmpty_X4_isSlot : GoodIn wsX4_isEmpty wsX4_isSlot := goodIn_r _ [5, 6, 7, 4, 8] rfl (by decide +kernel)
set_option maxRecDepth 20000 in
theorem gX4_isEmpty_X4_isSlot : GoodIn wsX4_isEmpty (va_wsS RX4 101 yX4_isSlot wsX4_isSlot) := goodIn_app (goodIn_of _ (by decide +kernel)) ggX4_isEmpty_X4_isSlot
set_option maxRecDepth 20000 in
theorem ggX4_isEmpty_X4_refused : GoodIn wsX4_isEmpty wsX4_refused := goodIn_r _ [12, 13, 14, 15, 16, 17, 18, 19, 20, 21, 22, 23, 24, 25, 26] rfl (by decide +kernel)
set_option maxRecDepth 20000 in
theorem gX4_isEmpty_X4_refused : GoodIn wsX4_isEmpty (wsV RX4 108 RX4 yX4_refused wsX4_refused) := goodIn_app (goodIn_of _ (by decide +kernel)) ggX4_isEmpty_X4_refused
theorem dX4_isEmpty_0 : decode cX4_isEmpty 0 = .ok (.aload_n 0, 1) := by decide +kernel
theorem dX4_isEmpty_1 : decode cX4_isEmpty 1 = .ok (.iload_n 1, 1) := by decide +kernel
theorem dX4_isEmpty_2 : decode cX4_isEmpty 2 = .ok (.invokestatic 101, 3) := by decide +kernel
theorem dX4_isEmpty_5 : decode cX4_isEmpty 5 = .ok (.ifCond .eq 7, 3) := by decide +kernel
theorem dX4_isEmpty_8 : decode cX4_isEmpty 8 = .ok (.iconst 0, 1) := by decide +kernel
theorem dX4_isEmpty_9 : decode cX4_isEmpty 9 = .ok (.goto 4, 3) := by decide +kernel
theorem dX4_isEmpty_12 : decode cX4_isEmpty 12 = .ok (.iconst 1, 1) := by decide +kernel
theorem dX4_isEmpty_13 : decode cX4_isEmpty 13 = .ok (.invokevirtual 108, 3) := by decide +kernel
theorem dX4_isEmpty_16 : decode cX4_isEmpty 16 = .ok (.ifCond .ne 16, 3) := by decide +kernel
theorem dX4_isEmpty_19 : decode cX4_isEmpty 19 = .ok (.aload_n 0, 1) := by decide +kernel
theorem dX4_isEmpty_20 : decode cX4_isEmpty 20 = .ok (.getfield 13, 3) := by decide +kernel
theorem dX4_isEmpty_23 : decode cX4_isEmpty 23 = .ok (.iload_n 1, 1) := by decide +kernel
theorem dX4_isEmpty_24 : decode cX4_isEmpty 24 = .ok (.baload, 1) := by decide +kernel
theorem dX4_isEmpty_25 : decode cX4_isEmpty 25 = .ok (.ifCond .eq 7, 3) := by decide +kernel
theorem dX4_isEmpty_28 : decode cX4_isEmpty 28 = .ok (.iconst 1, 1) := by decide +kernel
theorem dX4_isEmpty_29 : decode cX4_isEmpty 29 = .ok (.goto 4, 3) := by decide +kernel
theorem dX4_isEmpty_32 : decode cX4_isEmpty 32 = .ok (.iconst 0, 1) := by decide +kernel
theorem dX4_isEmpty_33 : decode cX4_isEmpty 33 = .ok (.ireturn, 1) := by decide +kernel
set_option maxRecDepth 20000 in
theorem ggX4_most_X4_isSlot : GoodIn wsX4_most wsX4_isSlot := goodIn_r _ [5, 6, 7, 4, 8] rfl (by decide +kernel)
set_option maxRecDepth 20000 in
theorem gX4_most_X4_isSlot : GoodIn wsX4_most (va_wsS RX4 101 yX4_isSlot wsX4_isSlot) := goodIn_app (goodIn_of _ (by decide +kernel)) ggX4_most_X4_isSlot
set_option maxRecDepth 20000 in
theorem ggX4_most_X4_isTerm : GoodIn wsX4_most wsX4_isTerm := goodIn_r _ [11, 6, 7, 4, 8] rfl (by decide +kernel)
set_option maxRecDepth 20000 in
theorem gX4_most_X4_isTerm : GoodIn wsX4_most (va_wsS RX4 84 yX4_isTerm wsX4_isTerm) := goodIn_app (goodIn_of _ (by decide +kernel)) ggX4_most_X4_isTerm
set_option maxRecDepth 20000 in
theorem ggX4_most_X4_minus : GoodIn wsX4_most wsX4_minus := goodIn_r _ [14] rfl (by decide +kernel)
set_option maxRecDepth 20000 in
theorem gX4_most_X4_minus : GoodIn wsX4_most (va_wsS RX4 57 yX4_minus wsX4_minus) := goodIn_app (goodIn_of _ (by decide +kernel)) ggX4_most_X4_minus
set_option maxRecDepth 20000 in
theorem ggX4_most_X4_refused : GoodIn wsX4_most wsX4_refused := goodIn_r _ [18, 19, 25, 26, 27, 28, 29, 30, 31, 32, 33, 34, 35, 36, 37] rfl (by decide +kernel)
set_option maxRecDepth 20000 in
theorem gX4_most_X4_refused : GoodIn wsX4_most (wsV RX4 108 RX4 yX4_refused wsX4_refused) := goodIn_app (goodIn_of _ (by decide +kernel)) ggX4_most_X4_refused
set_option maxRecDepth 20000 in
theorem ggX4_most_X4_get : GoodIn wsX4_most wsX4_get := goodIn_r _ [23, 24, 25, 26, 27, 28, 29, 30, 31, 32, 33, 34, 35, 36, 37] rfl (by decide +kernel)
set_option maxRecDepth 20000 in
theorem gX4_most_X4_get : GoodIn wsX4_most (wsV RX4 61 RX4 yX4_get wsX4_get) := goodIn_app (goodIn_of _ (by decide +kernel)) ggX4_most_X4_get
theorem dX4_most_0 : decode cX4_most 0 = .ok (.iload_n 1, 1) := by decide +kernel
theorem dX4_most_1 : decode cX4_most 1 = .ok (.invokestatic 101, 3) := by decide +kernel
theorem dX4_most_4 : decode cX4_most 4 = .ok (.ifCond .eq 29, 3) := by decide +kernel
theorem dX4_most_7 : decode cX4_most 7 = .ok (.iload_n 2, 1) := by decide +kernel
theorem dX4_most_8 : decode cX4_most 8 = .ok (.invokestatic 84, 3) := by decide +kernel
theorem dX4_most_11 : decode cX4_most 11 = .ok (.ifCond .eq 22, 3) := by decide +kernel
theorem dX4_most_14 : decode cX4_most 14 = .ok (.iload_n 3, 1) := by decide +kernel
theorem dX4_most_15 : decode cX4_most 15 = .ok (.invokestatic 84, 3) := by decide +kernel
theorem dX4_most_18 : decode cX4_most 18 = .ok (.ifCond .eq 15, 3) := by decide +kernel
theorem dX4_most_21 : decode cX4_most 21 = .ok (.iload_n 2, 1) := by decide +kernel
theorem dX4_most_22 : decode cX4_most 22 = .ok (.iload_n 3, 1) := by decide +kernel
theorem dX4_most_23 : decode cX4_most 23 = .ok (.invokestatic 57, 3) := by decide +kernel
theorem dX4_most_26 : decode cX4_most 26 = .ok (.if_icmp .eq 7, 3) := by decide +kernel
theorem dX4_most_29 : decode cX4_most 29 = .ok (.iconst 1, 1) := by decide +kernel
theorem dX4_most_30 : decode cX4_most 30 = .ok (.goto 4, 3) := by decide +kernel
theorem dX4_most_33 : decode cX4_most 33 = .ok (.iconst 0, 1) := by decide +kernel
theorem dX4_most_34 : decode cX4_most 34 = .ok (.istore 4, 2) := by decide +kernel
theorem dX4_most_36 : decode cX4_most 36 = .ok (.aload_n 0, 1) := by decide +kernel
theorem dX4_most_37 : decode cX4_most 37 = .ok (.iload 4, 2) := by decide +kernel
theorem dX4_most_39 : decode cX4_most 39 = .ok (.ifCond .ne 7, 3) := by decide +kernel
theorem dX4_most_42 : decode cX4_most 42 = .ok (.iconst 1, 1) := by decide +kernel
theorem dX4_most_43 : decode cX4_most 43 = .ok (.goto 17, 3) := by decide +kernel
theorem dX4_most_46 : decode cX4_most 46 = .ok (.aload_n 0, 1) := by decide +kernel
theorem dX4_most_47 : decode cX4_most 47 = .ok (.getfield 13, 3) := by decide +kernel
theorem dX4_most_50 : decode cX4_most 50 = .ok (.iload_n 1, 1) := by decide +kernel
theorem dX4_most_51 : decode cX4_most 51 = .ok (.baload, 1) := by decide +kernel
theorem dX4_most_52 : decode cX4_most 52 = .ok (.ifCond .eq 7, 3) := by decide +kernel
theorem dX4_most_55 : decode cX4_most 55 = .ok (.iconst 2, 1) := by decide +kernel
theorem dX4_most_56 : decode cX4_most 56 = .ok (.goto 4, 3) := by decide +kernel
theorem dX4_most_59 : decode cX4_most 59 = .ok (.iconst 0, 1) := by decide +kernel
theorem dX4_most_60 : decode cX4_most 60 = .ok (.invokevirtual 108, 3) := by decide +kernel
theorem dX4_most_63 : decode cX4_most 63 = .ok (.ifCond .eq 7, 3) := by decide +kernel
theorem dX4_most_66 : decode cX4_most 66 = .ok (.lconst 0, 1) := by decide +kernel
theorem dX4_most_67 : decode cX4_most 67 = .ok (.goto 10, 3) := by decide +kernel
theorem dX4_most_70 : decode cX4_most 70 = .ok (.aload_n 0, 1) := by decide +kernel
theorem dX4_most_71 : decode cX4_most 71 = .ok (.iload_n 1, 1) := by decide +kernel
theorem dX4_most_72 : decode cX4_most 72 = .ok (.iload_n 2, 1) := by decide +kernel
theorem dX4_most_73 : decode cX4_most 73 = .ok (.iload_n 3, 1) := by decide +kernel
theorem dX4_most_74 : decode cX4_most 74 = .ok (.invokevirtual 61, 3) := by decide +kernel
theorem dX4_most_77 : decode cX4_most 77 = .ok (.lreturn, 1) := by decide +kernel
theorem dX4_isWithin_0 : decode cX4_isWithin 0 = .ok (.aload_n 0, 1) := by decide +kernel
theorem dX4_isWithin_1 : decode cX4_isWithin 1 = .ok (.getfield 13, 3) := by decide +kernel
theorem dX4_isWithin_4 : decode cX4_isWithin 4 = .ok (.iload_n 1, 1) := by decide +kernel
theorem dX4_isWithin_5 : decode cX4_isWithin 5 = .ok (.baload, 1) := by decide +kernel
theorem dX4_isWithin_6 : decode cX4_isWithin 6 = .ok (.ifCond .ne 12, 3) := by decide +kernel
theorem dX4_isWithin_9 : decode cX4_isWithin 9 = .ok (.aload_n 0, 1) := by decide +kernel
theorem dX4_isWithin_10 : decode cX4_isWithin 10 = .ok (.getfield 13, 3) := by decide +kernel
theorem dX4_isWithin_13 : decode cX4_isWithin 13 = .ok (.iload_n 2, 1) := by decide +kernel
theorem dX4_isWithin_14 : decode cX4_isWithin 14 = .ok (.baload, 1) := by decide +kernel
theorem dX4_isWithin_15 : decode cX4_isWithin 15 = .ok (.ifCond .eq 10, 3) := by decide +kernel
theorem dX4_isWithin_18 : decode cX4_isWithin 18 = .ok (.aload_n 0, 1) := by decide +kernel
theorem dX4_isWithin_19 : decode cX4_isWithin 19 = .ok (.getfield 13, 3) := by decide +kernel
theorem dX4_isWithin_22 : decode cX4_isWithin 22 = .ok (.iload_n 1, 1) := by decide +kernel
theorem dX4_isWithin_23 : decode cX4_isWithin 23 = .ok (.baload, 1) := by decide +kernel
theorem dX4_isWithin_24 : decode cX4_isWithin 24 = .ok (.ireturn, 1) := by decide +kernel
theorem dX4_isWithin_25 : decode cX4_isWithin 25 = .ok (.iconst 1, 1) := by decide +kernel
theorem dX4_isWithin_26 : decode cX4_isWithin 26 = .ok (.istore_n 3, 1) := by decide +kernel
theorem dX4_isWithin_27 : decode cX4_isWithin 27 = .ok (.iconst 0, 1) := by decide +kernel
theorem dX4_isWithin_28 : decode cX4_isWithin 28 = .ok (.istore 4, 2) := by decide +kernel
theorem dX4_isWithin_30 : decode cX4_isWithin 30 = .ok (.iload 4, 2) := by decide +kernel
theorem dX4_isWithin_32 : decode cX4_isWithin 32 = .ok (.sipush 144, 3) := by decide +kernel
theorem dX4_isWithin_35 : decode cX4_isWithin 35 = .ok (.if_icmp .ge 49, 3) := by decide +kernel
theorem dX4_isWithin_38 : decode cX4_isWithin 38 = .ok (.iload_n 3, 1) := by decide +kernel
theorem dX4_isWithin_39 : decode cX4_isWithin 39 = .ok (.ifCond .eq 37, 3) := by decide +kernel
theorem dX4_isWithin_42 : decode cX4_isWithin 42 = .ok (.aload_n 0, 1) := by decide +kernel
theorem dX4_isWithin_43 : decode cX4_isWithin 43 = .ok (.getfield 7, 3) := by decide +kernel
theorem dX4_isWithin_46 : decode cX4_isWithin 46 = .ok (.sipush 144, 3) := by decide +kernel
theorem dX4_isWithin_49 : decode cX4_isWithin 49 = .ok (.iload_n 1, 1) := by decide +kernel
theorem dX4_isWithin_50 : decode cX4_isWithin 50 = .ok (.imul, 1) := by decide +kernel
theorem dX4_isWithin_51 : decode cX4_isWithin 51 = .ok (.iload 4, 2) := by decide +kernel
theorem dX4_isWithin_53 : decode cX4_isWithin 53 = .ok (.iadd, 1) := by decide +kernel
theorem dX4_isWithin_54 : decode cX4_isWithin 54 = .ok (.laload, 1) := by decide +kernel
theorem dX4_isWithin_55 : decode cX4_isWithin 55 = .ok (.aload_n 0, 1) := by decide +kernel
theorem dX4_isWithin_56 : decode cX4_isWithin 56 = .ok (.getfield 7, 3) := by decide +kernel
theorem dX4_isWithin_59 : decode cX4_isWithin 59 = .ok (.sipush 144, 3) := by decide +kernel
theorem dX4_isWithin_62 : decode cX4_isWithin 62 = .ok (.iload_n 2, 1) := by decide +kernel
theorem dX4_isWithin_63 : decode cX4_isWithin 63 = .ok (.imul, 1) := by decide +kernel
theorem dX4_isWithin_64 : decode cX4_isWithin 64 = .ok (.iload 4, 2) := by decide +kernel
theorem dX4_isWithin_66 : decode cX4_isWithin 66 = .ok (.iadd, 1) := by decide +kernel
theorem dX4_isWithin_67 : decode cX4_isWithin 67 = .ok (.laload, 1) := by decide +kernel
theorem dX4_isWithin_68 : decode cX4_isWithin 68 = .ok (.lcmp, 1) := by decide +kernel
theorem dX4_isWithin_69 : decode cX4_isWithin 69 = .ok (.ifCond .gt 7, 3) := by decide +kernel
theorem dX4_isWithin_72 : decode cX4_isWithin 72 = .ok (.iconst 1, 1) := by decide +kernel
theorem dX4_isWithin_73 : decode cX4_isWithin 73 = .ok (.goto 4, 3) := by decide +kernel
theorem dX4_isWithin_76 : decode cX4_isWithin 76 = .ok (.iconst 0, 1) := by decide +kernel
theorem dX4_isWithin_77 : decode cX4_isWithin 77 = .ok (.istore_n 3, 1) := by decide +kernel
theorem dX4_isWithin_78 : decode cX4_isWithin 78 = .ok (.iinc 4 1, 3) := by decide +kernel
theorem dX4_isWithin_81 : decode cX4_isWithin 81 = .ok (.goto (-51), 3) := by decide +kernel
theorem dX4_isWithin_84 : decode cX4_isWithin 84 = .ok (.iload_n 3, 1) := by decide +kernel
theorem dX4_isWithin_85 : decode cX4_isWithin 85 = .ok (.ireturn, 1) := by decide +kernel
set_option maxRecDepth 20000 in
theorem ggX4_inside_X4_isSlot : GoodIn wsX4_inside wsX4_isSlot := goodIn_r _ [4, 5, 6, 3, 7] rfl (by decide +kernel)
set_option maxRecDepth 20000 in
theorem gX4_inside_X4_isSlot : GoodIn wsX4_inside (va_wsS RX4 101 yX4_isSlot wsX4_isSlot) := goodIn_app (goodIn_of _ (by decide +kernel)) ggX4_inside_X4_isSlot
set_option maxRecDepth 20000 in
theorem ggX4_inside_X4_refused : GoodIn wsX4_inside wsX4_refused := goodIn_r _ [11, 12, 19, 20, 21, 22, 23, 24, 25, 26, 27, 28, 29, 30, 31] rfl (by decide +kernel)
set_option maxRecDepth 20000 in
theorem gX4_inside_X4_refused : GoodIn wsX4_inside (wsV RX4 108 RX4 yX4_refused wsX4_refused) := goodIn_app (goodIn_of _ (by decide +kernel)) ggX4_inside_X4_refused
set_option maxRecDepth 20000 in
theorem ggX4_inside_X4_isWithin : GoodIn wsX4_inside wsX4_isWithin := goodIn_r _ [16, 17, 18, 19, 20, 21, 22, 23, 24, 25, 26, 27, 28, 29, 30, 31] rfl (by decide +kernel)
set_option maxRecDepth 20000 in
theorem gX4_inside_X4_isWithin : GoodIn wsX4_inside (wsV RX4 127 RX4 yX4_isWithin wsX4_isWithin) := goodIn_app (goodIn_of _ (by decide +kernel)) ggX4_inside_X4_isWithin
theorem dX4_inside_0 : decode cX4_inside 0 = .ok (.aload_n 0, 1) := by decide +kernel
theorem dX4_inside_1 : decode cX4_inside 1 = .ok (.iload_n 1, 1) := by decide +kernel
theorem dX4_inside_2 : decode cX4_inside 2 = .ok (.invokestatic 101, 3) := by decide +kernel
theorem dX4_inside_5 : decode cX4_inside 5 = .ok (.ifCond .eq 14, 3) := by decide +kernel
theorem dX4_inside_8 : decode cX4_inside 8 = .ok (.iload_n 2, 1) := by decide +kernel
theorem dX4_inside_9 : decode cX4_inside 9 = .ok (.invokestatic 101, 3) := by decide +kernel
theorem dX4_inside_12 : decode cX4_inside 12 = .ok (.ifCond .eq 7, 3) := by decide +kernel
theorem dX4_inside_15 : decode cX4_inside 15 = .ok (.iconst 0, 1) := by decide +kernel
theorem dX4_inside_16 : decode cX4_inside 16 = .ok (.goto 4, 3) := by decide +kernel
theorem dX4_inside_19 : decode cX4_inside 19 = .ok (.iconst 1, 1) := by decide +kernel
theorem dX4_inside_20 : decode cX4_inside 20 = .ok (.invokevirtual 108, 3) := by decide +kernel
theorem dX4_inside_23 : decode cX4_inside 23 = .ok (.ifCond .ne 16, 3) := by decide +kernel
theorem dX4_inside_26 : decode cX4_inside 26 = .ok (.aload_n 0, 1) := by decide +kernel
theorem dX4_inside_27 : decode cX4_inside 27 = .ok (.iload_n 1, 1) := by decide +kernel
theorem dX4_inside_28 : decode cX4_inside 28 = .ok (.iload_n 2, 1) := by decide +kernel
theorem dX4_inside_29 : decode cX4_inside 29 = .ok (.invokevirtual 127, 3) := by decide +kernel
theorem dX4_inside_32 : decode cX4_inside 32 = .ok (.ifCond .eq 7, 3) := by decide +kernel
theorem dX4_inside_35 : decode cX4_inside 35 = .ok (.iconst 1, 1) := by decide +kernel
theorem dX4_inside_36 : decode cX4_inside 36 = .ok (.goto 4, 3) := by decide +kernel
theorem dX4_inside_39 : decode cX4_inside 39 = .ok (.iconst 0, 1) := by decide +kernel
theorem dX4_inside_40 : decode cX4_inside 40 = .ok (.ireturn, 1) := by decide +kernel
set_option maxRecDepth 20000 in
theorem ggX4_bounds_X4_isSlot : GoodIn wsX4_bounds wsX4_isSlot := goodIn_r _ [6, 7, 8, 5, 9] rfl (by decide +kernel)
set_option maxRecDepth 20000 in
theorem gX4_bounds_X4_isSlot : GoodIn wsX4_bounds (va_wsS RX4 101 yX4_isSlot wsX4_isSlot) := goodIn_app (goodIn_of _ (by decide +kernel)) ggX4_bounds_X4_isSlot
set_option maxRecDepth 20000 in
theorem ggX4_bounds_X4_refused : GoodIn wsX4_bounds wsX4_refused := goodIn_r _ [13, 14, 23, 24, 25, 26, 27, 28, 29, 30, 31, 32, 33, 34, 35] rfl (by decide +kernel)
set_option maxRecDepth 20000 in
theorem gX4_bounds_X4_refused : GoodIn wsX4_bounds (wsV RX4 108 RX4 yX4_refused wsX4_refused) := goodIn_app (goodIn_of _ (by decide +kernel)) ggX4_bounds_X4_refused
set_option maxRecDepth 20000 in
theorem ggX4_bounds_X4_minus : GoodIn wsX4_bounds wsX4_minus := goodIn_r _ [17] rfl (by decide +kernel)
set_option maxRecDepth 20000 in
theorem gX4_bounds_X4_minus : GoodIn wsX4_bounds (va_wsS RX4 57 yX4_minus wsX4_minus) := goodIn_app (goodIn_of _ (by decide +kernel)) ggX4_bounds_X4_minus
set_option maxRecDepth 20000 in
theorem ggX4_bounds_X4_get : GoodIn wsX4_bounds wsX4_get := goodIn_r _ [21, 22, 23, 24, 25, 26, 27, 28, 29, 30, 31, 32, 33, 34, 35] rfl (by decide +kernel)
set_option maxRecDepth 20000 in
theorem gX4_bounds_X4_get : GoodIn wsX4_bounds (wsV RX4 61 RX4 yX4_get wsX4_get) := goodIn_app (goodIn_of _ (by decide +kernel)) ggX4_bounds_X4_get
theorem dX4_bounds_0 : decode cX4_bounds 0 = .ok (.aload_n 0, 1) := by decide +kernel
theorem dX4_bounds_1 : decode cX4_bounds 1 = .ok (.iload_n 1, 1) := by decide +kernel
theorem dX4_bounds_2 : decode cX4_bounds 2 = .ok (.invokestatic 101, 3) := by decide +kernel
theorem dX4_bounds_5 : decode cX4_bounds 5 = .ok (.ifCond .eq 7, 3) := by decide +kernel
theorem dX4_bounds_8 : decode cX4_bounds 8 = .ok (.iconst 0, 1) := by decide +kernel
theorem dX4_bounds_9 : decode cX4_bounds 9 = .ok (.goto 4, 3) := by decide +kernel
theorem dX4_bounds_12 : decode cX4_bounds 12 = .ok (.iconst 1, 1) := by decide +kernel
theorem dX4_bounds_13 : decode cX4_bounds 13 = .ok (.invokevirtual 108, 3) := by decide +kernel
theorem dX4_bounds_16 : decode cX4_bounds 16 = .ok (.ifCond .eq 5, 3) := by decide +kernel
theorem dX4_bounds_19 : decode cX4_bounds 19 = .ok (.iconst 0, 1) := by decide +kernel
theorem dX4_bounds_20 : decode cX4_bounds 20 = .ok (.ireturn, 1) := by decide +kernel
theorem dX4_bounds_21 : decode cX4_bounds 21 = .ok (.aload_n 0, 1) := by decide +kernel
theorem dX4_bounds_22 : decode cX4_bounds 22 = .ok (.getfield 13, 3) := by decide +kernel
theorem dX4_bounds_25 : decode cX4_bounds 25 = .ok (.iload_n 1, 1) := by decide +kernel
theorem dX4_bounds_26 : decode cX4_bounds 26 = .ok (.baload, 1) := by decide +kernel
theorem dX4_bounds_27 : decode cX4_bounds 27 = .ok (.ifCond .eq 5, 3) := by decide +kernel
theorem dX4_bounds_30 : decode cX4_bounds 30 = .ok (.iconst (-1), 1) := by decide +kernel
theorem dX4_bounds_31 : decode cX4_bounds 31 = .ok (.ireturn, 1) := by decide +kernel
theorem dX4_bounds_32 : decode cX4_bounds 32 = .ok (.iconst 0, 1) := by decide +kernel
theorem dX4_bounds_33 : decode cX4_bounds 33 = .ok (.istore_n 2, 1) := by decide +kernel
theorem dX4_bounds_34 : decode cX4_bounds 34 = .ok (.iconst 0, 1) := by decide +kernel
theorem dX4_bounds_35 : decode cX4_bounds 35 = .ok (.istore_n 3, 1) := by decide +kernel
theorem dX4_bounds_36 : decode cX4_bounds 36 = .ok (.iload_n 3, 1) := by decide +kernel
theorem dX4_bounds_37 : decode cX4_bounds 37 = .ok (.bipush 12, 2) := by decide +kernel
theorem dX4_bounds_39 : decode cX4_bounds 39 = .ok (.if_icmp .ge 56, 3) := by decide +kernel
theorem dX4_bounds_42 : decode cX4_bounds 42 = .ok (.iconst 0, 1) := by decide +kernel
theorem dX4_bounds_43 : decode cX4_bounds 43 = .ok (.istore 4, 2) := by decide +kernel
theorem dX4_bounds_45 : decode cX4_bounds 45 = .ok (.iload 4, 2) := by decide +kernel
theorem dX4_bounds_47 : decode cX4_bounds 47 = .ok (.iload_n 3, 1) := by decide +kernel
theorem dX4_bounds_48 : decode cX4_bounds 48 = .ok (.if_icmp .gt 41, 3) := by decide +kernel
theorem dX4_bounds_51 : decode cX4_bounds 51 = .ok (.iload 4, 2) := by decide +kernel
theorem dX4_bounds_53 : decode cX4_bounds 53 = .ok (.iload_n 3, 1) := by decide +kernel
theorem dX4_bounds_54 : decode cX4_bounds 54 = .ok (.invokestatic 57, 3) := by decide +kernel
theorem dX4_bounds_57 : decode cX4_bounds 57 = .ok (.if_icmp .eq 24, 3) := by decide +kernel
theorem dX4_bounds_60 : decode cX4_bounds 60 = .ok (.aload_n 0, 1) := by decide +kernel
theorem dX4_bounds_61 : decode cX4_bounds 61 = .ok (.iload_n 1, 1) := by decide +kernel
theorem dX4_bounds_62 : decode cX4_bounds 62 = .ok (.iload_n 3, 1) := by decide +kernel
theorem dX4_bounds_63 : decode cX4_bounds 63 = .ok (.iload 4, 2) := by decide +kernel
theorem dX4_bounds_65 : decode cX4_bounds 65 = .ok (.invokevirtual 61, 3) := by decide +kernel
theorem dX4_bounds_68 : decode cX4_bounds 68 = .ok (.ldc2_w 45, 3) := by decide +kernel
theorem dX4_bounds_71 : decode cX4_bounds 71 = .ok (.lcmp, 1) := by decide +kernel
theorem dX4_bounds_72 : decode cX4_bounds 72 = .ok (.ifCond .ge 9, 3) := by decide +kernel
theorem dX4_bounds_75 : decode cX4_bounds 75 = .ok (.iload_n 2, 1) := by decide +kernel
theorem dX4_bounds_76 : decode cX4_bounds 76 = .ok (.iconst 1, 1) := by decide +kernel
theorem dX4_bounds_77 : decode cX4_bounds 77 = .ok (.iadd, 1) := by decide +kernel
theorem dX4_bounds_78 : decode cX4_bounds 78 = .ok (.goto 4, 3) := by decide +kernel
theorem dX4_bounds_81 : decode cX4_bounds 81 = .ok (.iload_n 2, 1) := by decide +kernel
theorem dX4_bounds_82 : decode cX4_bounds 82 = .ok (.istore_n 2, 1) := by decide +kernel
theorem dX4_bounds_83 : decode cX4_bounds 83 = .ok (.iinc 4 1, 3) := by decide +kernel
theorem dX4_bounds_86 : decode cX4_bounds 86 = .ok (.goto (-41), 3) := by decide +kernel
theorem dX4_bounds_89 : decode cX4_bounds 89 = .ok (.iinc 3 1, 3) := by decide +kernel
theorem dX4_bounds_92 : decode cX4_bounds 92 = .ok (.goto (-56), 3) := by decide +kernel
theorem dX4_bounds_95 : decode cX4_bounds 95 = .ok (.iload_n 2, 1) := by decide +kernel
theorem dX4_bounds_96 : decode cX4_bounds 96 = .ok (.ireturn, 1) := by decide +kernel
set_option maxRecDepth 20000 in
theorem ggX4_first_X4_isSlot : GoodIn wsX4_first wsX4_isSlot := goodIn_r _ [6, 7, 8, 5, 9] rfl (by decide +kernel)
set_option maxRecDepth 20000 in
theorem gX4_first_X4_isSlot : GoodIn wsX4_first (va_wsS RX4 101 yX4_isSlot wsX4_isSlot) := goodIn_app (goodIn_of _ (by decide +kernel)) ggX4_first_X4_isSlot
set_option maxRecDepth 20000 in
theorem ggX4_first_X4_isIn : GoodIn wsX4_first wsX4_isIn := goodIn_r _ [9] rfl (by decide +kernel)
set_option maxRecDepth 20000 in
theorem gX4_first_X4_isIn : GoodIn wsX4_first (va_wsS RX4 51 yX4_isIn wsX4_isIn) := goodIn_app (goodIn_of _ (by decide +kernel)) ggX4_first_X4_isIn
set_option maxRecDepth 20000 in
theorem ggX4_first_X4_refused : GoodIn wsX4_first wsX4_refused := goodIn_r _ [13, 14, 46, 47, 48, 49, 50, 51, 52, 53, 54, 55, 56, 57, 58] rfl (by decide +kernel)
set_option maxRecDepth 20000 in
theorem gX4_first_X4_refused : GoodIn wsX4_first (wsV RX4 108 RX4 yX4_refused wsX4_refused) := goodIn_app (goodIn_of _ (by decide +kernel)) ggX4_first_X4_refused
set_option maxRecDepth 20000 in
theorem ggX4_first_X4_load : GoodIn wsX4_first wsX4_load := goodIn_r _ [18, 19, 1, 46, 47, 48, 49, 50, 51, 52, 53, 54, 55, 56, 57, 58] rfl (by decide +kernel)
set_option maxRecDepth 20000 in
theorem gX4_first_X4_load : GoodIn wsX4_first (wsV RX4 87 RX4 yX4_load wsX4_load) := goodIn_app (goodIn_of _ (by decide +kernel)) ggX4_first_X4_load
set_option maxRecDepth 20000 in
theorem ggX4_first_X4_get : GoodIn wsX4_first wsX4_get := goodIn_r _ [23, 19, 46, 47, 48, 49, 50, 51, 52, 53, 54, 55, 56, 57, 58] rfl (by decide +kernel)
set_option maxRecDepth 20000 in
theorem gX4_first_X4_get : GoodIn wsX4_first (wsV RX4 61 RX4 yX4_get wsX4_get) := goodIn_app (goodIn_of _ (by decide +kernel)) ggX4_first_X4_get
set_option maxRecDepth 20000 in
theorem ggX4_first_X4_set : GoodIn wsX4_first wsX4_set := goodIn_r _ [27, 19, 46, 47, 48, 49, 50, 51, 52, 53, 54, 55, 56, 57, 58] rfl (by decide +kernel)
set_option maxRecDepth 20000 in
theorem gX4_first_X4_set : GoodIn wsX4_first (wsV RX4 69 RX4 yX4_set wsX4_set) := goodIn_app (goodIn_of _ (by decide +kernel)) ggX4_first_X4_set
set_option maxRecDepth 20000 in
theorem ggX4_first_X4_close : GoodIn wsX4_first wsX4_close := goodIn_r _ [31, 1, 20, 21, 22, 5, 23, 19, 32, 33, 34, 2, 35, 36, 37, 38, 39, 40, 41, 24, 25, 26, 27, 42, 43, 44, 45, 46, 47, 48, 49, 50, 51, 52, 53, 54, 55, 56, 57, 58] rfl (by decide +kernel)
set_option maxRecDepth 20000 in
theorem gX4_first_X4_close : GoodIn wsX4_first (wsV RX4 97 RX4 yX4_close wsX4_close) := goodIn_app (goodIn_of _ (by decide +kernel)) ggX4_first_X4_close
theorem dX4_first_0 : decode cX4_first 0 = .ok (.aload_n 0, 1) := by decide +kernel
theorem dX4_first_1 : decode cX4_first 1 = .ok (.iload_n 1, 1) := by decide +kernel
theorem dX4_first_2 : decode cX4_first 2 = .ok (.invokestatic 101, 3) := by decide +kernel
theorem dX4_first_5 : decode cX4_first 5 = .ok (.ifCond .eq 12, 3) := by decide +kernel
theorem dX4_first_8 : decode cX4_first 8 = .ok (.iload_n 2, 1) := by decide +kernel
theorem dX4_first_9 : decode cX4_first 9 = .ok (.iconst 0, 1) := by decide +kernel
theorem dX4_first_10 : decode cX4_first 10 = .ok (.iconst 5, 1) := by decide +kernel
theorem dX4_first_11 : decode cX4_first 11 = .ok (.invokestatic 51, 3) := by decide +kernel
theorem dX4_first_14 : decode cX4_first 14 = .ok (.ifCond .ne 7, 3) := by decide +kernel
theorem dX4_first_17 : decode cX4_first 17 = .ok (.iconst 1, 1) := by decide +kernel
theorem dX4_first_18 : decode cX4_first 18 = .ok (.goto 17, 3) := by decide +kernel
theorem dX4_first_21 : decode cX4_first 21 = .ok (.aload_n 0, 1) := by decide +kernel
theorem dX4_first_22 : decode cX4_first 22 = .ok (.getfield 13, 3) := by decide +kernel
theorem dX4_first_25 : decode cX4_first 25 = .ok (.iload_n 1, 1) := by decide +kernel
theorem dX4_first_26 : decode cX4_first 26 = .ok (.baload, 1) := by decide +kernel
theorem dX4_first_27 : decode cX4_first 27 = .ok (.ifCond .eq 7, 3) := by decide +kernel
theorem dX4_first_30 : decode cX4_first 30 = .ok (.iconst 2, 1) := by decide +kernel
theorem dX4_first_31 : decode cX4_first 31 = .ok (.goto 4, 3) := by decide +kernel
theorem dX4_first_34 : decode cX4_first 34 = .ok (.iconst 0, 1) := by decide +kernel
theorem dX4_first_35 : decode cX4_first 35 = .ok (.invokevirtual 108, 3) := by decide +kernel
theorem dX4_first_38 : decode cX4_first 38 = .ok (.ifCond .eq 5, 3) := by decide +kernel
theorem dX4_first_41 : decode cX4_first 41 = .ok (.lconst 0, 1) := by decide +kernel
theorem dX4_first_42 : decode cX4_first 42 = .ok (.lreturn, 1) := by decide +kernel
theorem dX4_first_43 : decode cX4_first 43 = .ok (.aload_n 0, 1) := by decide +kernel
theorem dX4_first_44 : decode cX4_first 44 = .ok (.bipush 22, 2) := by decide +kernel
theorem dX4_first_46 : decode cX4_first 46 = .ok (.iload_n 1, 1) := by decide +kernel
theorem dX4_first_47 : decode cX4_first 47 = .ok (.invokevirtual 87, 3) := by decide +kernel
theorem dX4_first_50 : decode cX4_first 50 = .ok (.lconst 0, 1) := by decide +kernel
theorem dX4_first_51 : decode cX4_first 51 = .ok (.lstore_n 3, 1) := by decide +kernel
theorem dX4_first_52 : decode cX4_first 52 = .ok (.iconst 0, 1) := by decide +kernel
theorem dX4_first_53 : decode cX4_first 53 = .ok (.istore 5, 2) := by decide +kernel
theorem dX4_first_55 : decode cX4_first 55 = .ok (.iload 5, 2) := by decide +kernel
theorem dX4_first_57 : decode cX4_first 57 = .ok (.iload_n 2, 1) := by decide +kernel
theorem dX4_first_58 : decode cX4_first 58 = .ok (.if_icmp .gt 117, 3) := by decide +kernel
theorem dX4_first_61 : decode cX4_first 61 = .ok (.aload_n 0, 1) := by decide +kernel
theorem dX4_first_62 : decode cX4_first 62 = .ok (.bipush 22, 2) := by decide +kernel
theorem dX4_first_64 : decode cX4_first 64 = .ok (.iconst 2, 1) := by decide +kernel
theorem dX4_first_65 : decode cX4_first 65 = .ok (.iload 5, 2) := by decide +kernel
theorem dX4_first_67 : decode cX4_first 67 = .ok (.imul, 1) := by decide +kernel
theorem dX4_first_68 : decode cX4_first 68 = .ok (.iconst 2, 1) := by decide +kernel
theorem dX4_first_69 : decode cX4_first 69 = .ok (.iload 5, 2) := by decide +kernel
theorem dX4_first_71 : decode cX4_first 71 = .ok (.imul, 1) := by decide +kernel
theorem dX4_first_72 : decode cX4_first 72 = .ok (.invokevirtual 61, 3) := by decide +kernel
theorem dX4_first_75 : decode cX4_first 75 = .ok (.lstore 6, 2) := by decide +kernel
theorem dX4_first_77 : decode cX4_first 77 = .ok (.aload_n 0, 1) := by decide +kernel
theorem dX4_first_78 : decode cX4_first 78 = .ok (.bipush 22, 2) := by decide +kernel
theorem dX4_first_80 : decode cX4_first 80 = .ok (.iconst 2, 1) := by decide +kernel
theorem dX4_first_81 : decode cX4_first 81 = .ok (.iload 5, 2) := by decide +kernel
theorem dX4_first_83 : decode cX4_first 83 = .ok (.imul, 1) := by decide +kernel
theorem dX4_first_84 : decode cX4_first 84 = .ok (.iconst 1, 1) := by decide +kernel
theorem dX4_first_85 : decode cX4_first 85 = .ok (.iadd, 1) := by decide +kernel
theorem dX4_first_86 : decode cX4_first 86 = .ok (.iconst 2, 1) := by decide +kernel
theorem dX4_first_87 : decode cX4_first 87 = .ok (.iload 5, 2) := by decide +kernel
theorem dX4_first_89 : decode cX4_first 89 = .ok (.imul, 1) := by decide +kernel
theorem dX4_first_90 : decode cX4_first 90 = .ok (.iconst 1, 1) := by decide +kernel
theorem dX4_first_91 : decode cX4_first 91 = .ok (.iadd, 1) := by decide +kernel
theorem dX4_first_92 : decode cX4_first 92 = .ok (.invokevirtual 61, 3) := by decide +kernel
theorem dX4_first_95 : decode cX4_first 95 = .ok (.lstore 8, 2) := by decide +kernel
theorem dX4_first_97 : decode cX4_first 97 = .ok (.lload 8, 2) := by decide +kernel
theorem dX4_first_99 : decode cX4_first 99 = .ok (.ldc2_w 45, 3) := by decide +kernel
theorem dX4_first_102 : decode cX4_first 102 = .ok (.lcmp, 1) := by decide +kernel
theorem dX4_first_103 : decode cX4_first 103 = .ok (.ifCond .ge 9, 3) := by decide +kernel
theorem dX4_first_106 : decode cX4_first 106 = .ok (.lload 8, 2) := by decide +kernel
theorem dX4_first_108 : decode cX4_first 108 = .ok (.lneg, 1) := by decide +kernel
theorem dX4_first_109 : decode cX4_first 109 = .ok (.goto 18, 3) := by decide +kernel
theorem dX4_first_112 : decode cX4_first 112 = .ok (.lload 6, 2) := by decide +kernel
theorem dX4_first_114 : decode cX4_first 114 = .ok (.ldc2_w 45, 3) := by decide +kernel
theorem dX4_first_117 : decode cX4_first 117 = .ok (.lcmp, 1) := by decide +kernel
theorem dX4_first_118 : decode cX4_first 118 = .ok (.ifCond .ge 8, 3) := by decide +kernel
theorem dX4_first_121 : decode cX4_first 121 = .ok (.lload 6, 2) := by decide +kernel
theorem dX4_first_123 : decode cX4_first 123 = .ok (.goto 4, 3) := by decide +kernel
theorem dX4_first_126 : decode cX4_first 126 = .ok (.lconst 0, 1) := by decide +kernel
theorem dX4_first_127 : decode cX4_first 127 = .ok (.lstore_n 3, 1) := by decide +kernel
theorem dX4_first_128 : decode cX4_first 128 = .ok (.aload_n 0, 1) := by decide +kernel
theorem dX4_first_129 : decode cX4_first 129 = .ok (.bipush 22, 2) := by decide +kernel
theorem dX4_first_131 : decode cX4_first 131 = .ok (.iconst 2, 1) := by decide +kernel
theorem dX4_first_132 : decode cX4_first 132 = .ok (.iload 5, 2) := by decide +kernel
theorem dX4_first_134 : decode cX4_first 134 = .ok (.imul, 1) := by decide +kernel
theorem dX4_first_135 : decode cX4_first 135 = .ok (.iconst 2, 1) := by decide +kernel
theorem dX4_first_136 : decode cX4_first 136 = .ok (.iload 5, 2) := by decide +kernel
theorem dX4_first_138 : decode cX4_first 138 = .ok (.imul, 1) := by decide +kernel
theorem dX4_first_139 : decode cX4_first 139 = .ok (.lload_n 3, 1) := by decide +kernel
theorem dX4_first_140 : decode cX4_first 140 = .ok (.invokevirtual 69, 3) := by decide +kernel
theorem dX4_first_143 : decode cX4_first 143 = .ok (.aload_n 0, 1) := by decide +kernel
theorem dX4_first_144 : decode cX4_first 144 = .ok (.bipush 22, 2) := by decide +kernel
theorem dX4_first_146 : decode cX4_first 146 = .ok (.iconst 2, 1) := by decide +kernel
theorem dX4_first_147 : decode cX4_first 147 = .ok (.iload 5, 2) := by decide +kernel
theorem dX4_first_149 : decode cX4_first 149 = .ok (.imul, 1) := by decide +kernel
theorem dX4_first_150 : decode cX4_first 150 = .ok (.iconst 1, 1) := by decide +kernel
theorem dX4_first_151 : decode cX4_first 151 = .ok (.iadd, 1) := by decide +kernel
theorem dX4_first_152 : decode cX4_first 152 = .ok (.iconst 2, 1) := by decide +kernel
theorem dX4_first_153 : decode cX4_first 153 = .ok (.iload 5, 2) := by decide +kernel
theorem dX4_first_155 : decode cX4_first 155 = .ok (.imul, 1) := by decide +kernel
theorem dX4_first_156 : decode cX4_first 156 = .ok (.iconst 1, 1) := by decide +kernel
theorem dX4_first_157 : decode cX4_first 157 = .ok (.iadd, 1) := by decide +kernel
theorem dX4_first_158 : decode cX4_first 158 = .ok (.lload_n 3, 1) := by decide +kernel
theorem dX4_first_159 : decode cX4_first 159 = .ok (.lneg, 1) := by decide +kernel
theorem dX4_first_160 : decode cX4_first 160 = .ok (.invokevirtual 69, 3) := by decide +kernel
theorem dX4_first_163 : decode cX4_first 163 = .ok (.aload_n 0, 1) := by decide +kernel
theorem dX4_first_164 : decode cX4_first 164 = .ok (.bipush 22, 2) := by decide +kernel
theorem dX4_first_166 : decode cX4_first 166 = .ok (.invokevirtual 97, 3) := by decide +kernel
theorem dX4_first_169 : decode cX4_first 169 = .ok (.iinc 5 1, 3) := by decide +kernel
theorem dX4_first_172 : decode cX4_first 172 = .ok (.goto (-117), 3) := by decide +kernel
theorem dX4_first_175 : decode cX4_first 175 = .ok (.lload_n 3, 1) := by decide +kernel
theorem dX4_first_176 : decode cX4_first 176 = .ok (.lreturn, 1) := by decide +kernel
set_option maxRecDepth 20000 in
theorem ggX4_holds_X4_minus : GoodIn wsX4_holds wsX4_minus := goodIn_r _ [5] rfl (by decide +kernel)
set_option maxRecDepth 20000 in
theorem gX4_holds_X4_minus : GoodIn wsX4_holds (va_wsS RX4 57 yX4_minus wsX4_minus) := goodIn_app (goodIn_of _ (by decide +kernel)) ggX4_holds_X4_minus
set_option maxRecDepth 20000 in
theorem ggX4_holds_X4_get : GoodIn wsX4_holds wsX4_get := goodIn_r _ [9, 10, 11, 12, 13, 14, 15, 16, 17, 18, 19, 20, 21, 22, 23] rfl (by decide +kernel)
set_option maxRecDepth 20000 in
theorem gX4_holds_X4_get : GoodIn wsX4_holds (wsV RX4 61 RX4 yX4_get wsX4_get) := goodIn_app (goodIn_of _ (by decide +kernel)) ggX4_holds_X4_get
theorem dX4_holds_0 : decode cX4_holds 0 = .ok (.iconst 0, 1) := by decide +kernel
theorem dX4_holds_1 : decode cX4_holds 1 = .ok (.istore_n 2, 1) := by decide +kernel
theorem dX4_holds_2 : decode cX4_holds 2 = .ok (.iload_n 2, 1) := by decide +kernel
theorem dX4_holds_3 : decode cX4_holds 3 = .ok (.bipush 12, 2) := by decide +kernel
theorem dX4_holds_5 : decode cX4_holds 5 = .ok (.if_icmp .ge 131, 3) := by decide +kernel
theorem dX4_holds_8 : decode cX4_holds 8 = .ok (.iload_n 2, 1) := by decide +kernel
theorem dX4_holds_9 : decode cX4_holds 9 = .ok (.iconst 2, 1) := by decide +kernel
theorem dX4_holds_10 : decode cX4_holds 10 = .ok (.irem, 1) := by decide +kernel
theorem dX4_holds_11 : decode cX4_holds 11 = .ok (.ifCond .ne 14, 3) := by decide +kernel
theorem dX4_holds_14 : decode cX4_holds 14 = .ok (.aload_n 0, 1) := by decide +kernel
theorem dX4_holds_15 : decode cX4_holds 15 = .ok (.getfield 42, 3) := by decide +kernel
theorem dX4_holds_18 : decode cX4_holds 18 = .ok (.iload_n 2, 1) := by decide +kernel
theorem dX4_holds_19 : decode cX4_holds 19 = .ok (.iconst 2, 1) := by decide +kernel
theorem dX4_holds_20 : decode cX4_holds 20 = .ok (.idiv, 1) := by decide +kernel
theorem dX4_holds_21 : decode cX4_holds 21 = .ok (.laload, 1) := by decide +kernel
theorem dX4_holds_22 : decode cX4_holds 22 = .ok (.goto 12, 3) := by decide +kernel
theorem dX4_holds_25 : decode cX4_holds 25 = .ok (.aload_n 0, 1) := by decide +kernel
theorem dX4_holds_26 : decode cX4_holds 26 = .ok (.getfield 42, 3) := by decide +kernel
theorem dX4_holds_29 : decode cX4_holds 29 = .ok (.iload_n 2, 1) := by decide +kernel
theorem dX4_holds_30 : decode cX4_holds 30 = .ok (.iconst 2, 1) := by decide +kernel
theorem dX4_holds_31 : decode cX4_holds 31 = .ok (.idiv, 1) := by decide +kernel
theorem dX4_holds_32 : decode cX4_holds 32 = .ok (.laload, 1) := by decide +kernel
theorem dX4_holds_33 : decode cX4_holds 33 = .ok (.lneg, 1) := by decide +kernel
theorem dX4_holds_34 : decode cX4_holds 34 = .ok (.lstore_n 3, 1) := by decide +kernel
theorem dX4_holds_35 : decode cX4_holds 35 = .ok (.iconst 0, 1) := by decide +kernel
theorem dX4_holds_36 : decode cX4_holds 36 = .ok (.istore 5, 2) := by decide +kernel
theorem dX4_holds_38 : decode cX4_holds 38 = .ok (.iload 5, 2) := by decide +kernel
theorem dX4_holds_40 : decode cX4_holds 40 = .ok (.iload_n 2, 1) := by decide +kernel
theorem dX4_holds_41 : decode cX4_holds 41 = .ok (.if_icmp .gt 89, 3) := by decide +kernel
theorem dX4_holds_44 : decode cX4_holds 44 = .ok (.iload 5, 2) := by decide +kernel
theorem dX4_holds_46 : decode cX4_holds 46 = .ok (.iconst 2, 1) := by decide +kernel
theorem dX4_holds_47 : decode cX4_holds 47 = .ok (.irem, 1) := by decide +kernel
theorem dX4_holds_48 : decode cX4_holds 48 = .ok (.ifCond .ne 15, 3) := by decide +kernel
theorem dX4_holds_51 : decode cX4_holds 51 = .ok (.aload_n 0, 1) := by decide +kernel
theorem dX4_holds_52 : decode cX4_holds 52 = .ok (.getfield 42, 3) := by decide +kernel
theorem dX4_holds_55 : decode cX4_holds 55 = .ok (.iload 5, 2) := by decide +kernel
theorem dX4_holds_57 : decode cX4_holds 57 = .ok (.iconst 2, 1) := by decide +kernel
theorem dX4_holds_58 : decode cX4_holds 58 = .ok (.idiv, 1) := by decide +kernel
theorem dX4_holds_59 : decode cX4_holds 59 = .ok (.laload, 1) := by decide +kernel
theorem dX4_holds_60 : decode cX4_holds 60 = .ok (.goto 13, 3) := by decide +kernel
theorem dX4_holds_63 : decode cX4_holds 63 = .ok (.aload_n 0, 1) := by decide +kernel
theorem dX4_holds_64 : decode cX4_holds 64 = .ok (.getfield 42, 3) := by decide +kernel
theorem dX4_holds_67 : decode cX4_holds 67 = .ok (.iload 5, 2) := by decide +kernel
theorem dX4_holds_69 : decode cX4_holds 69 = .ok (.iconst 2, 1) := by decide +kernel
theorem dX4_holds_70 : decode cX4_holds 70 = .ok (.idiv, 1) := by decide +kernel
theorem dX4_holds_71 : decode cX4_holds 71 = .ok (.laload, 1) := by decide +kernel
theorem dX4_holds_72 : decode cX4_holds 72 = .ok (.lneg, 1) := by decide +kernel
theorem dX4_holds_73 : decode cX4_holds 73 = .ok (.lstore 6, 2) := by decide +kernel
theorem dX4_holds_75 : decode cX4_holds 75 = .ok (.iload 5, 2) := by decide +kernel
theorem dX4_holds_77 : decode cX4_holds 77 = .ok (.iload_n 2, 1) := by decide +kernel
theorem dX4_holds_78 : decode cX4_holds 78 = .ok (.invokestatic 57, 3) := by decide +kernel
theorem dX4_holds_81 : decode cX4_holds 81 = .ok (.if_icmp .eq 33, 3) := by decide +kernel
theorem dX4_holds_84 : decode cX4_holds 84 = .ok (.iload_n 2, 1) := by decide +kernel
theorem dX4_holds_85 : decode cX4_holds 85 = .ok (.iload 5, 2) := by decide +kernel
theorem dX4_holds_87 : decode cX4_holds 87 = .ok (.if_icmp .ne 7, 3) := by decide +kernel
theorem dX4_holds_90 : decode cX4_holds 90 = .ok (.lload_n 3, 1) := by decide +kernel
theorem dX4_holds_91 : decode cX4_holds 91 = .ok (.goto 7, 3) := by decide +kernel
theorem dX4_holds_94 : decode cX4_holds 94 = .ok (.lload_n 3, 1) := by decide +kernel
theorem dX4_holds_95 : decode cX4_holds 95 = .ok (.lload 6, 2) := by decide +kernel
theorem dX4_holds_97 : decode cX4_holds 97 = .ok (.ladd, 1) := by decide +kernel
theorem dX4_holds_98 : decode cX4_holds 98 = .ok (.aload_n 0, 1) := by decide +kernel
theorem dX4_holds_99 : decode cX4_holds 99 = .ok (.iload_n 1, 1) := by decide +kernel
theorem dX4_holds_100 : decode cX4_holds 100 = .ok (.iload_n 2, 1) := by decide +kernel
theorem dX4_holds_101 : decode cX4_holds 101 = .ok (.iload 5, 2) := by decide +kernel
theorem dX4_holds_103 : decode cX4_holds 103 = .ok (.invokevirtual 61, 3) := by decide +kernel
theorem dX4_holds_106 : decode cX4_holds 106 = .ok (.lcmp, 1) := by decide +kernel
theorem dX4_holds_107 : decode cX4_holds 107 = .ok (.ifCond .le 7, 3) := by decide +kernel
theorem dX4_holds_110 : decode cX4_holds 110 = .ok (.iconst 1, 1) := by decide +kernel
theorem dX4_holds_111 : decode cX4_holds 111 = .ok (.goto 4, 3) := by decide +kernel
theorem dX4_holds_114 : decode cX4_holds 114 = .ok (.iconst 0, 1) := by decide +kernel
theorem dX4_holds_115 : decode cX4_holds 115 = .ok (.istore 8, 2) := by decide +kernel
theorem dX4_holds_117 : decode cX4_holds 117 = .ok (.iload 8, 2) := by decide +kernel
theorem dX4_holds_119 : decode cX4_holds 119 = .ok (.ifCond .eq 5, 3) := by decide +kernel
theorem dX4_holds_122 : decode cX4_holds 122 = .ok (.iconst 0, 1) := by decide +kernel
theorem dX4_holds_123 : decode cX4_holds 123 = .ok (.ireturn, 1) := by decide +kernel
theorem dX4_holds_124 : decode cX4_holds 124 = .ok (.iinc 5 1, 3) := by decide +kernel
theorem dX4_holds_127 : decode cX4_holds 127 = .ok (.goto (-89), 3) := by decide +kernel
theorem dX4_holds_130 : decode cX4_holds 130 = .ok (.iinc 2 1, 3) := by decide +kernel
theorem dX4_holds_133 : decode cX4_holds 133 = .ok (.goto (-131), 3) := by decide +kernel
theorem dX4_holds_136 : decode cX4_holds 136 = .ok (.iconst 1, 1) := by decide +kernel
theorem dX4_holds_137 : decode cX4_holds 137 = .ok (.ireturn, 1) := by decide +kernel
set_option maxRecDepth 20000 in
theorem ggX4_places_X4_isSlot : GoodIn wsX4_places wsX4_isSlot := goodIn_r _ [10, 11, 12, 9, 13] rfl (by decide +kernel)
set_option maxRecDepth 20000 in
theorem gX4_places_X4_isSlot : GoodIn wsX4_places (va_wsS RX4 101 yX4_isSlot wsX4_isSlot) := goodIn_app (goodIn_of _ (by decide +kernel)) ggX4_places_X4_isSlot
set_option maxRecDepth 20000 in
theorem ggX4_places_X4_refused : GoodIn wsX4_places wsX4_refused := goodIn_r _ [17, 18, 31, 32, 33, 34, 35, 36, 37, 38, 39, 40, 41, 42, 43] rfl (by decide +kernel)
set_option maxRecDepth 20000 in
theorem gX4_places_X4_refused : GoodIn wsX4_places (wsV RX4 108 RX4 yX4_refused wsX4_refused) := goodIn_app (goodIn_of _ (by decide +kernel)) ggX4_places_X4_refused
set_option maxRecDepth 20000 in
theorem ggX4_places_X4_get : GoodIn wsX4_places wsX4_get := goodIn_r _ [22, 23, 31, 32, 33, 34, 35, 36, 37, 38, 39, 40, 41, 42, 43] rfl (by decide +kernel)
set_option maxRecDepth 20000 in
theorem gX4_places_X4_get : GoodIn wsX4_places (wsV RX4 61 RX4 yX4_get wsX4_get) := goodIn_app (goodIn_of _ (by decide +kernel)) ggX4_places_X4_get
set_option maxRecDepth 20000 in
theorem ggX4_places_X4_holds : GoodIn wsX4_places wsX4_holds := goodIn_r _ [27, 6, 28, 29, 9, 30, 19, 20, 21, 22, 23, 31, 32, 33, 34, 35, 36, 37, 38, 39, 40, 41, 42, 43] rfl (by decide +kernel)
set_option maxRecDepth 20000 in
theorem gX4_places_X4_holds : GoodIn wsX4_places (wsV RX4 133 RX4 yX4_holds wsX4_holds) := goodIn_app (goodIn_of _ (by decide +kernel)) ggX4_places_X4_holds
theorem dX4_places_0 : decode cX4_places 0 = .ok (.aload_n 0, 1) := by decide +kernel
theorem dX4_places_1 : decode cX4_places 1 = .ok (.iload_n 1, 1) := by decide +kernel
theorem dX4_places_2 : decode cX4_places 2 = .ok (.invokestatic 101, 3) := by decide +kernel
theorem dX4_places_5 : decode cX4_places 5 = .ok (.ifCond .eq 7, 3) := by decide +kernel
theorem dX4_places_8 : decode cX4_places 8 = .ok (.iconst 0, 1) := by decide +kernel
theorem dX4_places_9 : decode cX4_places 9 = .ok (.goto 4, 3) := by decide +kernel
theorem dX4_places_12 : decode cX4_places 12 = .ok (.iconst 1, 1) := by decide +kernel
theorem dX4_places_13 : decode cX4_places 13 = .ok (.invokevirtual 108, 3) := by decide +kernel
theorem dX4_places_16 : decode cX4_places 16 = .ok (.ifCond .eq 5, 3) := by decide +kernel
theorem dX4_places_19 : decode cX4_places 19 = .ok (.iconst 0, 1) := by decide +kernel
theorem dX4_places_20 : decode cX4_places 20 = .ok (.ireturn, 1) := by decide +kernel
theorem dX4_places_21 : decode cX4_places 21 = .ok (.aload_n 0, 1) := by decide +kernel
theorem dX4_places_22 : decode cX4_places 22 = .ok (.getfield 13, 3) := by decide +kernel
theorem dX4_places_25 : decode cX4_places 25 = .ok (.iload_n 1, 1) := by decide +kernel
theorem dX4_places_26 : decode cX4_places 26 = .ok (.baload, 1) := by decide +kernel
theorem dX4_places_27 : decode cX4_places 27 = .ok (.ifCond .eq 5, 3) := by decide +kernel
theorem dX4_places_30 : decode cX4_places 30 = .ok (.iconst 0, 1) := by decide +kernel
theorem dX4_places_31 : decode cX4_places 31 = .ok (.ireturn, 1) := by decide +kernel
theorem dX4_places_32 : decode cX4_places 32 = .ok (.lconst 1, 1) := by decide +kernel
theorem dX4_places_33 : decode cX4_places 33 = .ok (.lstore_n 2, 1) := by decide +kernel
theorem dX4_places_34 : decode cX4_places 34 = .ok (.iconst 0, 1) := by decide +kernel
theorem dX4_places_35 : decode cX4_places 35 = .ok (.istore 4, 2) := by decide +kernel
theorem dX4_places_37 : decode cX4_places 37 = .ok (.iload 4, 2) := by decide +kernel
theorem dX4_places_39 : decode cX4_places 39 = .ok (.bipush 6, 2) := by decide +kernel
theorem dX4_places_41 : decode cX4_places 41 = .ok (.if_icmp .ge 114, 3) := by decide +kernel
theorem dX4_places_44 : decode cX4_places 44 = .ok (.aload_n 0, 1) := by decide +kernel
theorem dX4_places_45 : decode cX4_places 45 = .ok (.iload_n 1, 1) := by decide +kernel
theorem dX4_places_46 : decode cX4_places 46 = .ok (.iconst 2, 1) := by decide +kernel
theorem dX4_places_47 : decode cX4_places 47 = .ok (.iload 4, 2) := by decide +kernel
theorem dX4_places_49 : decode cX4_places 49 = .ok (.imul, 1) := by decide +kernel
theorem dX4_places_50 : decode cX4_places 50 = .ok (.iconst 2, 1) := by decide +kernel
theorem dX4_places_51 : decode cX4_places 51 = .ok (.iload 4, 2) := by decide +kernel
theorem dX4_places_53 : decode cX4_places 53 = .ok (.imul, 1) := by decide +kernel
theorem dX4_places_54 : decode cX4_places 54 = .ok (.invokevirtual 61, 3) := by decide +kernel
theorem dX4_places_57 : decode cX4_places 57 = .ok (.lstore 5, 2) := by decide +kernel
theorem dX4_places_59 : decode cX4_places 59 = .ok (.aload_n 0, 1) := by decide +kernel
theorem dX4_places_60 : decode cX4_places 60 = .ok (.iload_n 1, 1) := by decide +kernel
theorem dX4_places_61 : decode cX4_places 61 = .ok (.iconst 2, 1) := by decide +kernel
theorem dX4_places_62 : decode cX4_places 62 = .ok (.iload 4, 2) := by decide +kernel
theorem dX4_places_64 : decode cX4_places 64 = .ok (.imul, 1) := by decide +kernel
theorem dX4_places_65 : decode cX4_places 65 = .ok (.iconst 1, 1) := by decide +kernel
theorem dX4_places_66 : decode cX4_places 66 = .ok (.iadd, 1) := by decide +kernel
theorem dX4_places_67 : decode cX4_places 67 = .ok (.iconst 2, 1) := by decide +kernel
theorem dX4_places_68 : decode cX4_places 68 = .ok (.iload 4, 2) := by decide +kernel
theorem dX4_places_70 : decode cX4_places 70 = .ok (.imul, 1) := by decide +kernel
theorem dX4_places_71 : decode cX4_places 71 = .ok (.iconst 1, 1) := by decide +kernel
theorem dX4_places_72 : decode cX4_places 72 = .ok (.iadd, 1) := by decide +kernel
theorem dX4_places_73 : decode cX4_places 73 = .ok (.invokevirtual 61, 3) := by decide +kernel
theorem dX4_places_76 : decode cX4_places 76 = .ok (.lstore 7, 2) := by decide +kernel
theorem dX4_places_78 : decode cX4_places 78 = .ok (.lload 5, 2) := by decide +kernel
theorem dX4_places_80 : decode cX4_places 80 = .ok (.ldc2_w 45, 3) := by decide +kernel
theorem dX4_places_83 : decode cX4_places 83 = .ok (.lcmp, 1) := by decide +kernel
theorem dX4_places_84 : decode cX4_places 84 = .ok (.ifCond .eq 24, 3) := by decide +kernel
theorem dX4_places_87 : decode cX4_places 87 = .ok (.lload 7, 2) := by decide +kernel
theorem dX4_places_89 : decode cX4_places 89 = .ok (.ldc2_w 45, 3) := by decide +kernel
theorem dX4_places_92 : decode cX4_places 92 = .ok (.lcmp, 1) := by decide +kernel
theorem dX4_places_93 : decode cX4_places 93 = .ok (.ifCond .eq 15, 3) := by decide +kernel
theorem dX4_places_96 : decode cX4_places 96 = .ok (.lload 5, 2) := by decide +kernel
theorem dX4_places_98 : decode cX4_places 98 = .ok (.lload 7, 2) := by decide +kernel
theorem dX4_places_100 : decode cX4_places 100 = .ok (.ladd, 1) := by decide +kernel
theorem dX4_places_101 : decode cX4_places 101 = .ok (.ldc2_w 131, 3) := by decide +kernel
theorem dX4_places_104 : decode cX4_places 104 = .ok (.lcmp, 1) := by decide +kernel
theorem dX4_places_105 : decode cX4_places 105 = .ok (.ifCond .lt 5, 3) := by decide +kernel
theorem dX4_places_108 : decode cX4_places 108 = .ok (.iconst (-1), 1) := by decide +kernel
theorem dX4_places_109 : decode cX4_places 109 = .ok (.ireturn, 1) := by decide +kernel
theorem dX4_places_110 : decode cX4_places 110 = .ok (.aload_n 0, 1) := by decide +kernel
theorem dX4_places_111 : decode cX4_places 111 = .ok (.getfield 36, 3) := by decide +kernel
theorem dX4_places_114 : decode cX4_places 114 = .ok (.iload 4, 2) := by decide +kernel
theorem dX4_places_116 : decode cX4_places 116 = .ok (.lload 7, 2) := by decide +kernel
theorem dX4_places_118 : decode cX4_places 118 = .ok (.lneg, 1) := by decide +kernel
theorem dX4_places_119 : decode cX4_places 119 = .ok (.lastore, 1) := by decide +kernel
theorem dX4_places_120 : decode cX4_places 120 = .ok (.aload_n 0, 1) := by decide +kernel
theorem dX4_places_121 : decode cX4_places 121 = .ok (.getfield 39, 3) := by decide +kernel
theorem dX4_places_124 : decode cX4_places 124 = .ok (.iload 4, 2) := by decide +kernel
theorem dX4_places_126 : decode cX4_places 126 = .ok (.lload 5, 2) := by decide +kernel
theorem dX4_places_128 : decode cX4_places 128 = .ok (.lastore, 1) := by decide +kernel
theorem dX4_places_129 : decode cX4_places 129 = .ok (.lload_n 2, 1) := by decide +kernel
theorem dX4_places_130 : decode cX4_places 130 = .ok (.lload 5, 2) := by decide +kernel
theorem dX4_places_132 : decode cX4_places 132 = .ok (.lload 7, 2) := by decide +kernel
theorem dX4_places_134 : decode cX4_places 134 = .ok (.ladd, 1) := by decide +kernel
theorem dX4_places_135 : decode cX4_places 135 = .ok (.lconst 1, 1) := by decide +kernel
theorem dX4_places_136 : decode cX4_places 136 = .ok (.ladd, 1) := by decide +kernel
theorem dX4_places_137 : decode cX4_places 137 = .ok (.lmul, 1) := by decide +kernel
theorem dX4_places_138 : decode cX4_places 138 = .ok (.lstore_n 2, 1) := by decide +kernel
theorem dX4_places_139 : decode cX4_places 139 = .ok (.lload_n 2, 1) := by decide +kernel
theorem dX4_places_140 : decode cX4_places 140 = .ok (.ldc2_w 131, 3) := by decide +kernel
theorem dX4_places_143 : decode cX4_places 143 = .ok (.lcmp, 1) := by decide +kernel
theorem dX4_places_144 : decode cX4_places 144 = .ok (.ifCond .le 5, 3) := by decide +kernel
theorem dX4_places_147 : decode cX4_places 147 = .ok (.iconst (-1), 1) := by decide +kernel
theorem dX4_places_148 : decode cX4_places 148 = .ok (.ireturn, 1) := by decide +kernel
theorem dX4_places_149 : decode cX4_places 149 = .ok (.iinc 4 1, 3) := by decide +kernel
theorem dX4_places_152 : decode cX4_places 152 = .ok (.goto (-115), 3) := by decide +kernel
theorem dX4_places_155 : decode cX4_places 155 = .ok (.iconst 0, 1) := by decide +kernel
theorem dX4_places_156 : decode cX4_places 156 = .ok (.istore 4, 2) := by decide +kernel
theorem dX4_places_158 : decode cX4_places 158 = .ok (.iconst 0, 1) := by decide +kernel
theorem dX4_places_159 : decode cX4_places 159 = .ok (.istore 5, 2) := by decide +kernel
theorem dX4_places_161 : decode cX4_places 161 = .ok (.iload 5, 2) := by decide +kernel
theorem dX4_places_163 : decode cX4_places 163 = .ok (.i2l, 1) := by decide +kernel
theorem dX4_places_164 : decode cX4_places 164 = .ok (.lload_n 2, 1) := by decide +kernel
theorem dX4_places_165 : decode cX4_places 165 = .ok (.lcmp, 1) := by decide +kernel
theorem dX4_places_166 : decode cX4_places 166 = .ok (.ifCond .ge 96, 3) := by decide +kernel
theorem dX4_places_169 : decode cX4_places 169 = .ok (.iload 5, 2) := by decide +kernel
theorem dX4_places_171 : decode cX4_places 171 = .ok (.istore 6, 2) := by decide +kernel
theorem dX4_places_173 : decode cX4_places 173 = .ok (.iconst 0, 1) := by decide +kernel
theorem dX4_places_174 : decode cX4_places 174 = .ok (.istore 7, 2) := by decide +kernel
theorem dX4_places_176 : decode cX4_places 176 = .ok (.iload 7, 2) := by decide +kernel
theorem dX4_places_178 : decode cX4_places 178 = .ok (.bipush 6, 2) := by decide +kernel
theorem dX4_places_180 : decode cX4_places 180 = .ok (.if_icmp .ge 57, 3) := by decide +kernel
theorem dX4_places_183 : decode cX4_places 183 = .ok (.aload_n 0, 1) := by decide +kernel
theorem dX4_places_184 : decode cX4_places 184 = .ok (.getfield 39, 3) := by decide +kernel
theorem dX4_places_187 : decode cX4_places 187 = .ok (.iload 7, 2) := by decide +kernel
theorem dX4_places_189 : decode cX4_places 189 = .ok (.laload, 1) := by decide +kernel
theorem dX4_places_190 : decode cX4_places 190 = .ok (.aload_n 0, 1) := by decide +kernel
theorem dX4_places_191 : decode cX4_places 191 = .ok (.getfield 36, 3) := by decide +kernel
theorem dX4_places_194 : decode cX4_places 194 = .ok (.iload 7, 2) := by decide +kernel
theorem dX4_places_196 : decode cX4_places 196 = .ok (.laload, 1) := by decide +kernel
theorem dX4_places_197 : decode cX4_places 197 = .ok (.lsub, 1) := by decide +kernel
theorem dX4_places_198 : decode cX4_places 198 = .ok (.lconst 1, 1) := by decide +kernel
theorem dX4_places_199 : decode cX4_places 199 = .ok (.ladd, 1) := by decide +kernel
theorem dX4_places_200 : decode cX4_places 200 = .ok (.l2i, 1) := by decide +kernel
theorem dX4_places_201 : decode cX4_places 201 = .ok (.istore 8, 2) := by decide +kernel
theorem dX4_places_203 : decode cX4_places 203 = .ok (.aload_n 0, 1) := by decide +kernel
theorem dX4_places_204 : decode cX4_places 204 = .ok (.getfield 42, 3) := by decide +kernel
theorem dX4_places_207 : decode cX4_places 207 = .ok (.iload 7, 2) := by decide +kernel
theorem dX4_places_209 : decode cX4_places 209 = .ok (.aload_n 0, 1) := by decide +kernel
theorem dX4_places_210 : decode cX4_places 210 = .ok (.getfield 36, 3) := by decide +kernel
theorem dX4_places_213 : decode cX4_places 213 = .ok (.iload 7, 2) := by decide +kernel
theorem dX4_places_215 : decode cX4_places 215 = .ok (.laload, 1) := by decide +kernel
theorem dX4_places_216 : decode cX4_places 216 = .ok (.iload 6, 2) := by decide +kernel
theorem dX4_places_218 : decode cX4_places 218 = .ok (.iload 8, 2) := by decide +kernel
theorem dX4_places_220 : decode cX4_places 220 = .ok (.irem, 1) := by decide +kernel
theorem dX4_places_221 : decode cX4_places 221 = .ok (.i2l, 1) := by decide +kernel
theorem dX4_places_222 : decode cX4_places 222 = .ok (.ladd, 1) := by decide +kernel
theorem dX4_places_223 : decode cX4_places 223 = .ok (.lastore, 1) := by decide +kernel
theorem dX4_places_224 : decode cX4_places 224 = .ok (.iload 6, 2) := by decide +kernel
theorem dX4_places_226 : decode cX4_places 226 = .ok (.iload 8, 2) := by decide +kernel
theorem dX4_places_228 : decode cX4_places 228 = .ok (.idiv, 1) := by decide +kernel
theorem dX4_places_229 : decode cX4_places 229 = .ok (.istore 6, 2) := by decide +kernel
theorem dX4_places_231 : decode cX4_places 231 = .ok (.iinc 7 1, 3) := by decide +kernel
theorem dX4_places_234 : decode cX4_places 234 = .ok (.goto (-58), 3) := by decide +kernel
theorem dX4_places_237 : decode cX4_places 237 = .ok (.aload_n 0, 1) := by decide +kernel
theorem dX4_places_238 : decode cX4_places 238 = .ok (.iload_n 1, 1) := by decide +kernel
theorem dX4_places_239 : decode cX4_places 239 = .ok (.invokevirtual 133, 3) := by decide +kernel
theorem dX4_places_242 : decode cX4_places 242 = .ok (.ifCond .eq 10, 3) := by decide +kernel
theorem dX4_places_245 : decode cX4_places 245 = .ok (.iload 4, 2) := by decide +kernel
theorem dX4_places_247 : decode cX4_places 247 = .ok (.iconst 1, 1) := by decide +kernel
theorem dX4_places_248 : decode cX4_places 248 = .ok (.iadd, 1) := by decide +kernel
theorem dX4_places_249 : decode cX4_places 249 = .ok (.goto 5, 3) := by decide +kernel
theorem dX4_places_252 : decode cX4_places 252 = .ok (.iload 4, 2) := by decide +kernel
theorem dX4_places_254 : decode cX4_places 254 = .ok (.istore 4, 2) := by decide +kernel
theorem dX4_places_256 : decode cX4_places 256 = .ok (.iinc 5 1, 3) := by decide +kernel
theorem dX4_places_259 : decode cX4_places 259 = .ok (.goto (-98), 3) := by decide +kernel
theorem dX4_places_262 : decode cX4_places 262 = .ok (.iload 4, 2) := by decide +kernel
theorem dX4_places_264 : decode cX4_places 264 = .ok (.ireturn, 1) := by decide +kernel
set_option maxRecDepth 20000 in
theorem ggX4_step_X4_isIn : GoodIn wsX4_step wsX4_isIn := goodIn_r _ [11] rfl (by decide +kernel)
set_option maxRecDepth 20000 in
theorem gX4_step_X4_isIn : GoodIn wsX4_step (va_wsS RX4 51 yX4_isIn wsX4_isIn) := goodIn_app (goodIn_of _ (by decide +kernel)) ggX4_step_X4_isIn
set_option maxRecDepth 20000 in
theorem ggX4_step_X4_isAction : GoodIn wsX4_step wsX4_isAction := goodIn_r _ [14, 15, 16, 10, 17, 18, 19, 8, 9, 11, 20, 21, 22, 23, 24, 25] rfl (by decide +kernel)
set_option maxRecDepth 20000 in
theorem gX4_step_X4_isAction : GoodIn wsX4_step (va_wsS RX4 104 yX4_isAction wsX4_isAction) := goodIn_app (goodIn_of _ (by decide +kernel)) ggX4_step_X4_isAction
set_option maxRecDepth 20000 in
theorem ggX4_step_X4_refused : GoodIn wsX4_step wsX4_refused := goodIn_r _ [29, 30, 31, 32, 33, 34, 35, 36, 37, 38, 39, 40, 41, 42, 43] rfl (by decide +kernel)
set_option maxRecDepth 20000 in
theorem gX4_step_X4_refused : GoodIn wsX4_step (wsV RX4 108 RX4 yX4_refused wsX4_refused) := goodIn_app (goodIn_of _ (by decide +kernel)) ggX4_step_X4_refused
theorem dX4_step_0 : decode cX4_step 0 = .ok (.aload_n 0, 1) := by decide +kernel
theorem dX4_step_1 : decode cX4_step 1 = .ok (.iload_n 1, 1) := by decide +kernel
theorem dX4_step_2 : decode cX4_step 2 = .ok (.iconst 0, 1) := by decide +kernel
theorem dX4_step_3 : decode cX4_step 3 = .ok (.bipush 63, 2) := by decide +kernel
theorem dX4_step_5 : decode cX4_step 5 = .ok (.invokestatic 51, 3) := by decide +kernel
theorem dX4_step_8 : decode cX4_step 8 = .ok (.ifCond .eq 15, 3) := by decide +kernel
theorem dX4_step_11 : decode cX4_step 11 = .ok (.iload_n 2, 1) := by decide +kernel
theorem dX4_step_12 : decode cX4_step 12 = .ok (.iload_n 3, 1) := by decide +kernel
theorem dX4_step_13 : decode cX4_step 13 = .ok (.iload 4, 2) := by decide +kernel
theorem dX4_step_15 : decode cX4_step 15 = .ok (.iload 5, 2) := by decide +kernel
theorem dX4_step_17 : decode cX4_step 17 = .ok (.invokestatic 104, 3) := by decide +kernel
theorem dX4_step_20 : decode cX4_step 20 = .ok (.ifCond .ne 7, 3) := by decide +kernel
theorem dX4_step_23 : decode cX4_step 23 = .ok (.iconst 1, 1) := by decide +kernel
theorem dX4_step_24 : decode cX4_step 24 = .ok (.goto 17, 3) := by decide +kernel
theorem dX4_step_27 : decode cX4_step 27 = .ok (.aload_n 0, 1) := by decide +kernel
theorem dX4_step_28 : decode cX4_step 28 = .ok (.getfield 136, 3) := by decide +kernel
theorem dX4_step_31 : decode cX4_step 31 = .ok (.bipush 20, 2) := by decide +kernel
theorem dX4_step_33 : decode cX4_step 33 = .ok (.if_icmp .ne 7, 3) := by decide +kernel
theorem dX4_step_36 : decode cX4_step 36 = .ok (.iconst 2, 1) := by decide +kernel
theorem dX4_step_37 : decode cX4_step 37 = .ok (.goto 4, 3) := by decide +kernel
theorem dX4_step_40 : decode cX4_step 40 = .ok (.iconst 0, 1) := by decide +kernel
theorem dX4_step_41 : decode cX4_step 41 = .ok (.invokevirtual 108, 3) := by decide +kernel
theorem dX4_step_44 : decode cX4_step 44 = .ok (.ifCond .eq 5, 3) := by decide +kernel
theorem dX4_step_47 : decode cX4_step 47 = .ok (.iconst 0, 1) := by decide +kernel
theorem dX4_step_48 : decode cX4_step 48 = .ok (.ireturn, 1) := by decide +kernel
theorem dX4_step_49 : decode cX4_step 49 = .ok (.aload_n 0, 1) := by decide +kernel
theorem dX4_step_50 : decode cX4_step 50 = .ok (.getfield 17, 3) := by decide +kernel
theorem dX4_step_53 : decode cX4_step 53 = .ok (.aload_n 0, 1) := by decide +kernel
theorem dX4_step_54 : decode cX4_step 54 = .ok (.getfield 136, 3) := by decide +kernel
theorem dX4_step_57 : decode cX4_step 57 = .ok (.iload_n 1, 1) := by decide +kernel
theorem dX4_step_58 : decode cX4_step 58 = .ok (.bipush 8, 2) := by decide +kernel
theorem dX4_step_60 : decode cX4_step 60 = .ok (.idiv, 1) := by decide +kernel
theorem dX4_step_61 : decode cX4_step 61 = .ok (.iastore, 1) := by decide +kernel
theorem dX4_step_62 : decode cX4_step 62 = .ok (.aload_n 0, 1) := by decide +kernel
theorem dX4_step_63 : decode cX4_step 63 = .ok (.getfield 21, 3) := by decide +kernel
theorem dX4_step_66 : decode cX4_step 66 = .ok (.aload_n 0, 1) := by decide +kernel
theorem dX4_step_67 : decode cX4_step 67 = .ok (.getfield 136, 3) := by decide +kernel
theorem dX4_step_70 : decode cX4_step 70 = .ok (.iload_n 1, 1) := by decide +kernel
theorem dX4_step_71 : decode cX4_step 71 = .ok (.bipush 8, 2) := by decide +kernel
theorem dX4_step_73 : decode cX4_step 73 = .ok (.irem, 1) := by decide +kernel
theorem dX4_step_74 : decode cX4_step 74 = .ok (.iastore, 1) := by decide +kernel
theorem dX4_step_75 : decode cX4_step 75 = .ok (.aload_n 0, 1) := by decide +kernel
theorem dX4_step_76 : decode cX4_step 76 = .ok (.getfield 24, 3) := by decide +kernel
theorem dX4_step_79 : decode cX4_step 79 = .ok (.aload_n 0, 1) := by decide +kernel
theorem dX4_step_80 : decode cX4_step 80 = .ok (.getfield 136, 3) := by decide +kernel
theorem dX4_step_83 : decode cX4_step 83 = .ok (.iload_n 2, 1) := by decide +kernel
theorem dX4_step_84 : decode cX4_step 84 = .ok (.iastore, 1) := by decide +kernel
theorem dX4_step_85 : decode cX4_step 85 = .ok (.aload_n 0, 1) := by decide +kernel
theorem dX4_step_86 : decode cX4_step 86 = .ok (.getfield 27, 3) := by decide +kernel
theorem dX4_step_89 : decode cX4_step 89 = .ok (.aload_n 0, 1) := by decide +kernel
theorem dX4_step_90 : decode cX4_step 90 = .ok (.getfield 136, 3) := by decide +kernel
theorem dX4_step_93 : decode cX4_step 93 = .ok (.iload_n 3, 1) := by decide +kernel
theorem dX4_step_94 : decode cX4_step 94 = .ok (.iastore, 1) := by decide +kernel
theorem dX4_step_95 : decode cX4_step 95 = .ok (.aload_n 0, 1) := by decide +kernel
theorem dX4_step_96 : decode cX4_step 96 = .ok (.getfield 30, 3) := by decide +kernel
theorem dX4_step_99 : decode cX4_step 99 = .ok (.aload_n 0, 1) := by decide +kernel
theorem dX4_step_100 : decode cX4_step 100 = .ok (.getfield 136, 3) := by decide +kernel
theorem dX4_step_103 : decode cX4_step 103 = .ok (.iload 4, 2) := by decide +kernel
theorem dX4_step_105 : decode cX4_step 105 = .ok (.iastore, 1) := by decide +kernel
theorem dX4_step_106 : decode cX4_step 106 = .ok (.aload_n 0, 1) := by decide +kernel
theorem dX4_step_107 : decode cX4_step 107 = .ok (.getfield 33, 3) := by decide +kernel
theorem dX4_step_110 : decode cX4_step 110 = .ok (.aload_n 0, 1) := by decide +kernel
theorem dX4_step_111 : decode cX4_step 111 = .ok (.getfield 136, 3) := by decide +kernel
theorem dX4_step_114 : decode cX4_step 114 = .ok (.iload 5, 2) := by decide +kernel
theorem dX4_step_116 : decode cX4_step 116 = .ok (.iastore, 1) := by decide +kernel
theorem dX4_step_117 : decode cX4_step 117 = .ok (.aload_n 0, 1) := by decide +kernel
theorem dX4_step_118 : decode cX4_step 118 = .ok (.dup, 1) := by decide +kernel
theorem dX4_step_119 : decode cX4_step 119 = .ok (.getfield 136, 3) := by decide +kernel
theorem dX4_step_122 : decode cX4_step 122 = .ok (.iconst 1, 1) := by decide +kernel
theorem dX4_step_123 : decode cX4_step 123 = .ok (.iadd, 1) := by decide +kernel
theorem dX4_step_124 : decode cX4_step 124 = .ok (.putfield 136, 3) := by decide +kernel
theorem dX4_step_127 : decode cX4_step 127 = .ok (.aload_n 0, 1) := by decide +kernel
theorem dX4_step_128 : decode cX4_step 128 = .ok (.getfield 136, 3) := by decide +kernel
theorem dX4_step_131 : decode cX4_step 131 = .ok (.iconst 1, 1) := by decide +kernel
theorem dX4_step_132 : decode cX4_step 132 = .ok (.isub, 1) := by decide +kernel
theorem dX4_step_133 : decode cX4_step 133 = .ok (.ireturn, 1) := by decide +kernel
theorem dX4_erase_0 : decode cX4_erase 0 = .ok (.aload_n 0, 1) := by decide +kernel
theorem dX4_erase_1 : decode cX4_erase 1 = .ok (.iconst 0, 1) := by decide +kernel
theorem dX4_erase_2 : decode cX4_erase 2 = .ok (.putfield 47, 3) := by decide +kernel
theorem dX4_erase_5 : decode cX4_erase 5 = .ok (.aload_n 0, 1) := by decide +kernel
theorem dX4_erase_6 : decode cX4_erase 6 = .ok (.getfield 136, 3) := by decide +kernel
theorem dX4_erase_9 : decode cX4_erase 9 = .ok (.istore_n 1, 1) := by decide +kernel
theorem dX4_erase_10 : decode cX4_erase 10 = .ok (.aload_n 0, 1) := by decide +kernel
theorem dX4_erase_11 : decode cX4_erase 11 = .ok (.iconst 0, 1) := by decide +kernel
theorem dX4_erase_12 : decode cX4_erase 12 = .ok (.putfield 136, 3) := by decide +kernel
theorem dX4_erase_15 : decode cX4_erase 15 = .ok (.iload_n 1, 1) := by decide +kernel
theorem dX4_erase_16 : decode cX4_erase 16 = .ok (.ireturn, 1) := by decide +kernel
set_option maxRecDepth 20000 in
theorem ggX4_go_X4_load : GoodIn wsX4_go wsX4_load := goodIn_r _ [11, 12, 13, 65, 66, 67, 68, 69, 70, 71, 72, 73, 74, 75, 76, 77] rfl (by decide +kernel)
set_option maxRecDepth 20000 in
theorem gX4_go_X4_load : GoodIn wsX4_go (wsV RX4 87 RX4 yX4_load wsX4_load) := goodIn_app (goodIn_of _ (by decide +kernel)) ggX4_go_X4_load
set_option maxRecDepth 20000 in
theorem ggX4_go_X4_make : GoodIn wsX4_go wsX4_make := goodIn_r _ [17, 13, 18, 19, 20, 10, 21, 12, 22, 23, 24, 25, 26, 27, 28, 29, 7, 8, 9, 11, 30, 31, 32, 33, 34, 35, 36, 37, 38, 39, 40, 41, 42, 43, 44, 45, 46, 47, 48, 49, 50, 51, 52, 65, 66, 67, 68, 69, 70, 71, 72, 73, 74, 75, 76, 77] rfl (by decide +kernel)
set_option maxRecDepth 20000 in
theorem gX4_go_X4_make : GoodIn wsX4_go (wsV RX4 111 RX4 yX4_make wsX4_make) := goodIn_app (goodIn_of _ (by decide +kernel)) ggX4_go_X4_make
set_option maxRecDepth 20000 in
theorem ggX4_go_X4_isWithin : GoodIn wsX4_go wsX4_isWithin := goodIn_r _ [56, 13, 12, 65, 66, 67, 68, 69, 70, 71, 72, 73, 74, 75, 76, 77] rfl (by decide +kernel)
set_option maxRecDepth 20000 in
theorem gX4_go_X4_isWithin : GoodIn wsX4_go (wsV RX4 127 RX4 yX4_isWithin wsX4_isWithin) := goodIn_app (goodIn_of _ (by decide +kernel)) ggX4_go_X4_isWithin
set_option maxRecDepth 20000 in
theorem ggX4_go_X4_joined : GoodIn wsX4_go wsX4_joined := goodIn_r _ [60, 13, 12, 7, 8, 9, 10, 11, 65, 66, 67, 68, 69, 70, 71, 72, 73, 74, 75, 76, 77] rfl (by decide +kernel)
set_option maxRecDepth 20000 in
theorem gX4_go_X4_joined : GoodIn wsX4_go (wsV RX4 121 RX4 yX4_joined wsX4_joined) := goodIn_app (goodIn_of _ (by decide +kernel)) ggX4_go_X4_joined
set_option maxRecDepth 20000 in
theorem ggX4_go_X4_widened : GoodIn wsX4_go wsX4_widened := goodIn_r _ [64, 13, 12, 33, 7, 8, 9, 10, 11, 41, 42, 43, 44, 18, 19, 20, 21, 30, 31, 32, 45, 46, 47, 48, 34, 35, 36, 22, 23, 24, 25, 49, 50, 51, 52, 65, 66, 67, 68, 69, 70, 71, 72, 73, 74, 75, 76, 77] rfl (by decide +kernel)
set_option maxRecDepth 20000 in
theorem gX4_go_X4_widened : GoodIn wsX4_go (wsV RX4 124 RX4 yX4_widened wsX4_widened) := goodIn_app (goodIn_of _ (by decide +kernel)) ggX4_go_X4_widened
theorem dX4_go_0 : decode cX4_go 0 = .ok (.bipush 14, 2) := by decide +kernel
theorem dX4_go_2 : decode cX4_go 2 = .ok (.aload_n 0, 1) := by decide +kernel
theorem dX4_go_3 : decode cX4_go 3 = .ok (.getfield 21, 3) := by decide +kernel
theorem dX4_go_6 : decode cX4_go 6 = .ok (.iload_n 1, 1) := by decide +kernel
theorem dX4_go_7 : decode cX4_go 7 = .ok (.iaload, 1) := by decide +kernel
theorem dX4_go_8 : decode cX4_go 8 = .ok (.iadd, 1) := by decide +kernel
theorem dX4_go_9 : decode cX4_go 9 = .ok (.istore_n 3, 1) := by decide +kernel
theorem dX4_go_10 : decode cX4_go 10 = .ok (.aload_n 0, 1) := by decide +kernel
theorem dX4_go_11 : decode cX4_go 11 = .ok (.bipush 25, 2) := by decide +kernel
theorem dX4_go_13 : decode cX4_go 13 = .ok (.bipush 14, 2) := by decide +kernel
theorem dX4_go_15 : decode cX4_go 15 = .ok (.aload_n 0, 1) := by decide +kernel
theorem dX4_go_16 : decode cX4_go 16 = .ok (.getfield 17, 3) := by decide +kernel
theorem dX4_go_19 : decode cX4_go 19 = .ok (.iload_n 1, 1) := by decide +kernel
theorem dX4_go_20 : decode cX4_go 20 = .ok (.iaload, 1) := by decide +kernel
theorem dX4_go_21 : decode cX4_go 21 = .ok (.iadd, 1) := by decide +kernel
theorem dX4_go_22 : decode cX4_go 22 = .ok (.invokevirtual 87, 3) := by decide +kernel
theorem dX4_go_25 : decode cX4_go 25 = .ok (.aload_n 0, 1) := by decide +kernel
theorem dX4_go_26 : decode cX4_go 26 = .ok (.bipush 25, 2) := by decide +kernel
theorem dX4_go_28 : decode cX4_go 28 = .ok (.aload_n 0, 1) := by decide +kernel
theorem dX4_go_29 : decode cX4_go 29 = .ok (.getfield 24, 3) := by decide +kernel
theorem dX4_go_32 : decode cX4_go 32 = .ok (.iload_n 1, 1) := by decide +kernel
theorem dX4_go_33 : decode cX4_go 33 = .ok (.iaload, 1) := by decide +kernel
theorem dX4_go_34 : decode cX4_go 34 = .ok (.aload_n 0, 1) := by decide +kernel
theorem dX4_go_35 : decode cX4_go 35 = .ok (.getfield 27, 3) := by decide +kernel
theorem dX4_go_38 : decode cX4_go 38 = .ok (.iload_n 1, 1) := by decide +kernel
theorem dX4_go_39 : decode cX4_go 39 = .ok (.iaload, 1) := by decide +kernel
theorem dX4_go_40 : decode cX4_go 40 = .ok (.aload_n 0, 1) := by decide +kernel
theorem dX4_go_41 : decode cX4_go 41 = .ok (.getfield 30, 3) := by decide +kernel
theorem dX4_go_44 : decode cX4_go 44 = .ok (.iload_n 1, 1) := by decide +kernel
theorem dX4_go_45 : decode cX4_go 45 = .ok (.iaload, 1) := by decide +kernel
theorem dX4_go_46 : decode cX4_go 46 = .ok (.aload_n 0, 1) := by decide +kernel
theorem dX4_go_47 : decode cX4_go 47 = .ok (.getfield 33, 3) := by decide +kernel
theorem dX4_go_50 : decode cX4_go 50 = .ok (.iload_n 1, 1) := by decide +kernel
theorem dX4_go_51 : decode cX4_go 51 = .ok (.iaload, 1) := by decide +kernel
theorem dX4_go_52 : decode cX4_go 52 = .ok (.invokevirtual 111, 3) := by decide +kernel
theorem dX4_go_55 : decode cX4_go 55 = .ok (.aload_n 0, 1) := by decide +kernel
theorem dX4_go_56 : decode cX4_go 56 = .ok (.bipush 25, 2) := by decide +kernel
theorem dX4_go_58 : decode cX4_go 58 = .ok (.iload_n 3, 1) := by decide +kernel
theorem dX4_go_59 : decode cX4_go 59 = .ok (.invokevirtual 127, 3) := by decide +kernel
theorem dX4_go_62 : decode cX4_go 62 = .ok (.ifCond .eq 5, 3) := by decide +kernel
theorem dX4_go_65 : decode cX4_go 65 = .ok (.iconst 0, 1) := by decide +kernel
theorem dX4_go_66 : decode cX4_go 66 = .ok (.ireturn, 1) := by decide +kernel
theorem dX4_go_67 : decode cX4_go 67 = .ok (.aload_n 0, 1) := by decide +kernel
theorem dX4_go_68 : decode cX4_go 68 = .ok (.iload_n 3, 1) := by decide +kernel
theorem dX4_go_69 : decode cX4_go 69 = .ok (.bipush 25, 2) := by decide +kernel
theorem dX4_go_71 : decode cX4_go 71 = .ok (.invokevirtual 121, 3) := by decide +kernel
theorem dX4_go_74 : decode cX4_go 74 = .ok (.iload_n 2, 1) := by decide +kernel
theorem dX4_go_75 : decode cX4_go 75 = .ok (.iconst 3, 1) := by decide +kernel
theorem dX4_go_76 : decode cX4_go 76 = .ok (.if_icmp .le 35, 3) := by decide +kernel
theorem dX4_go_79 : decode cX4_go 79 = .ok (.aload_n 0, 1) := by decide +kernel
theorem dX4_go_80 : decode cX4_go 80 = .ok (.getfield 21, 3) := by decide +kernel
theorem dX4_go_83 : decode cX4_go 83 = .ok (.iload_n 1, 1) := by decide +kernel
theorem dX4_go_84 : decode cX4_go 84 = .ok (.iaload, 1) := by decide +kernel
theorem dX4_go_85 : decode cX4_go 85 = .ok (.aload_n 0, 1) := by decide +kernel
theorem dX4_go_86 : decode cX4_go 86 = .ok (.getfield 17, 3) := by decide +kernel
theorem dX4_go_89 : decode cX4_go 89 = .ok (.iload_n 1, 1) := by decide +kernel
theorem dX4_go_90 : decode cX4_go 90 = .ok (.iaload, 1) := by decide +kernel
theorem dX4_go_91 : decode cX4_go 91 = .ok (.if_icmp .gt 20, 3) := by decide +kernel
theorem dX4_go_94 : decode cX4_go 94 = .ok (.aload_n 0, 1) := by decide +kernel
theorem dX4_go_95 : decode cX4_go 95 = .ok (.iload_n 3, 1) := by decide +kernel
theorem dX4_go_96 : decode cX4_go 96 = .ok (.bipush 22, 2) := by decide +kernel
theorem dX4_go_98 : decode cX4_go 98 = .ok (.invokevirtual 124, 3) := by decide +kernel
theorem dX4_go_101 : decode cX4_go 101 = .ok (.aload_n 0, 1) := by decide +kernel
theorem dX4_go_102 : decode cX4_go 102 = .ok (.iload_n 3, 1) := by decide +kernel
theorem dX4_go_103 : decode cX4_go 103 = .ok (.bipush 23, 2) := by decide +kernel
theorem dX4_go_105 : decode cX4_go 105 = .ok (.invokevirtual 87, 3) := by decide +kernel
theorem dX4_go_108 : decode cX4_go 108 = .ok (.goto 10, 3) := by decide +kernel
theorem dX4_go_111 : decode cX4_go 111 = .ok (.aload_n 0, 1) := by decide +kernel
theorem dX4_go_112 : decode cX4_go 112 = .ok (.iload_n 3, 1) := by decide +kernel
theorem dX4_go_113 : decode cX4_go 113 = .ok (.bipush 22, 2) := by decide +kernel
theorem dX4_go_115 : decode cX4_go 115 = .ok (.invokevirtual 87, 3) := by decide +kernel
theorem dX4_go_118 : decode cX4_go 118 = .ok (.iconst 1, 1) := by decide +kernel
theorem dX4_go_119 : decode cX4_go 119 = .ok (.ireturn, 1) := by decide +kernel
set_option maxRecDepth 20000 in
theorem ggX4_run_X4_isSlot : GoodIn wsX4_run wsX4_isSlot := goodIn_r _ [6, 7, 8, 5, 9] rfl (by decide +kernel)
set_option maxRecDepth 20000 in
theorem gX4_run_X4_isSlot : GoodIn wsX4_run (va_wsS RX4 101 yX4_isSlot wsX4_isSlot) := goodIn_app (goodIn_of _ (by decide +kernel)) ggX4_run_X4_isSlot
set_option maxRecDepth 20000 in
theorem ggX4_run_X4_refused : GoodIn wsX4_run wsX4_refused := goodIn_r _ [13, 14, 85, 86, 87, 88, 89, 90, 91, 92, 93, 94, 95, 96, 97] rfl (by decide +kernel)
set_option maxRecDepth 20000 in
theorem gX4_run_X4_refused : GoodIn wsX4_run (wsV RX4 108 RX4 yX4_refused wsX4_refused) := goodIn_app (goodIn_of _ (by decide +kernel)) ggX4_run_X4_refused
set_option maxRecDepth 20000 in
theorem ggX4_run_X4_all : GoodIn wsX4_run wsX4_all := goodIn_r _ [18, 19, 20, 1, 85, 86, 87, 88, 89, 90, 91, 92, 93, 94, 95, 96, 97] rfl (by decide +kernel)
set_option maxRecDepth 20000 in
theorem gX4_run_X4_all : GoodIn wsX4_run (wsV RX4 115 RX4 yX4_all wsX4_all) := goodIn_app (goodIn_of _ (by decide +kernel)) ggX4_run_X4_all
set_option maxRecDepth 20000 in
theorem ggX4_run_X4_load : GoodIn wsX4_run wsX4_load := goodIn_r _ [24, 19, 1, 85, 86, 87, 88, 89, 90, 91, 92, 93, 94, 95, 96, 97] rfl (by decide +kernel)
set_option maxRecDepth 20000 in
theorem gX4_run_X4_load : GoodIn wsX4_run (wsV RX4 87 RX4 yX4_load wsX4_load) := goodIn_app (goodIn_of _ (by decide +kernel)) ggX4_run_X4_load
set_option maxRecDepth 20000 in
theorem ggX4_run_X4_go : GoodIn wsX4_run wsX4_go := goodIn_r _ [28, 29, 30, 31, 32, 33, 34, 21, 22, 23, 5, 24, 19, 1, 35, 36, 37, 38, 39, 40, 41, 42, 43, 44, 45, 46, 47, 48, 49, 50, 51, 52, 53, 20, 54, 55, 56, 57, 58, 59, 60, 61, 62, 63, 64, 65, 66, 67, 68, 69, 70, 71, 72, 73, 74, 75, 76, 77, 78, 79, 80, 81, 82, 83, 84, 85, 86, 87, 88, 89, 90, 91, 92, 93, 94, 95, 96, 97] rfl (by decide +kernel)
set_option maxRecDepth 20000 in
theorem gX4_run_X4_go : GoodIn wsX4_run (wsV RX4 139 RX4 yX4_go wsX4_go) := goodIn_app (goodIn_of _ (by decide +kernel)) ggX4_run_X4_go
theorem dX4_run_0 : decode cX4_run 0 = .ok (.aload_n 0, 1) := by decide +kernel
theorem dX4_run_1 : decode cX4_run 1 = .ok (.iload_n 1, 1) := by decide +kernel
theorem dX4_run_2 : decode cX4_run 2 = .ok (.invokestatic 101, 3) := by decide +kernel
theorem dX4_run_5 : decode cX4_run 5 = .ok (.ifCond .eq 7, 3) := by decide +kernel
theorem dX4_run_8 : decode cX4_run 8 = .ok (.iconst 0, 1) := by decide +kernel
theorem dX4_run_9 : decode cX4_run 9 = .ok (.goto 4, 3) := by decide +kernel
theorem dX4_run_12 : decode cX4_run 12 = .ok (.iconst 1, 1) := by decide +kernel
theorem dX4_run_13 : decode cX4_run 13 = .ok (.invokevirtual 108, 3) := by decide +kernel
theorem dX4_run_16 : decode cX4_run 16 = .ok (.ifCond .eq 5, 3) := by decide +kernel
theorem dX4_run_19 : decode cX4_run 19 = .ok (.iconst 0, 1) := by decide +kernel
theorem dX4_run_20 : decode cX4_run 20 = .ok (.ireturn, 1) := by decide +kernel
theorem dX4_run_21 : decode cX4_run 21 = .ok (.iconst 0, 1) := by decide +kernel
theorem dX4_run_22 : decode cX4_run 22 = .ok (.istore_n 2, 1) := by decide +kernel
theorem dX4_run_23 : decode cX4_run 23 = .ok (.iload_n 2, 1) := by decide +kernel
theorem dX4_run_24 : decode cX4_run 24 = .ok (.bipush 8, 2) := by decide +kernel
theorem dX4_run_26 : decode cX4_run 26 = .ok (.if_icmp .ge 27, 3) := by decide +kernel
theorem dX4_run_29 : decode cX4_run 29 = .ok (.aload_n 0, 1) := by decide +kernel
theorem dX4_run_30 : decode cX4_run 30 = .ok (.bipush 14, 2) := by decide +kernel
theorem dX4_run_32 : decode cX4_run 32 = .ok (.iload_n 2, 1) := by decide +kernel
theorem dX4_run_33 : decode cX4_run 33 = .ok (.iadd, 1) := by decide +kernel
theorem dX4_run_34 : decode cX4_run 34 = .ok (.invokevirtual 115, 3) := by decide +kernel
theorem dX4_run_37 : decode cX4_run 37 = .ok (.aload_n 0, 1) := by decide +kernel
theorem dX4_run_38 : decode cX4_run 38 = .ok (.getfield 13, 3) := by decide +kernel
theorem dX4_run_41 : decode cX4_run 41 = .ok (.bipush 14, 2) := by decide +kernel
theorem dX4_run_43 : decode cX4_run 43 = .ok (.iload_n 2, 1) := by decide +kernel
theorem dX4_run_44 : decode cX4_run 44 = .ok (.iadd, 1) := by decide +kernel
theorem dX4_run_45 : decode cX4_run 45 = .ok (.iconst 1, 1) := by decide +kernel
theorem dX4_run_46 : decode cX4_run 46 = .ok (.bastore, 1) := by decide +kernel
theorem dX4_run_47 : decode cX4_run 47 = .ok (.iinc 2 1, 3) := by decide +kernel
theorem dX4_run_50 : decode cX4_run 50 = .ok (.goto (-27), 3) := by decide +kernel
theorem dX4_run_53 : decode cX4_run 53 = .ok (.aload_n 0, 1) := by decide +kernel
theorem dX4_run_54 : decode cX4_run 54 = .ok (.bipush 14, 2) := by decide +kernel
theorem dX4_run_56 : decode cX4_run 56 = .ok (.iload_n 1, 1) := by decide +kernel
theorem dX4_run_57 : decode cX4_run 57 = .ok (.invokevirtual 87, 3) := by decide +kernel
theorem dX4_run_60 : decode cX4_run 60 = .ok (.iconst 0, 1) := by decide +kernel
theorem dX4_run_61 : decode cX4_run 61 = .ok (.istore_n 2, 1) := by decide +kernel
theorem dX4_run_62 : decode cX4_run 62 = .ok (.iconst 1, 1) := by decide +kernel
theorem dX4_run_63 : decode cX4_run 63 = .ok (.istore_n 3, 1) := by decide +kernel
theorem dX4_run_64 : decode cX4_run 64 = .ok (.iload_n 3, 1) := by decide +kernel
theorem dX4_run_65 : decode cX4_run 65 = .ok (.ifCond .eq 59, 3) := by decide +kernel
theorem dX4_run_68 : decode cX4_run 68 = .ok (.iload_n 2, 1) := by decide +kernel
theorem dX4_run_69 : decode cX4_run 69 = .ok (.bipush 30, 2) := by decide +kernel
theorem dX4_run_71 : decode cX4_run 71 = .ok (.if_icmp .ge 53, 3) := by decide +kernel
theorem dX4_run_74 : decode cX4_run 74 = .ok (.iinc 2 1, 3) := by decide +kernel
theorem dX4_run_77 : decode cX4_run 77 = .ok (.iconst 0, 1) := by decide +kernel
theorem dX4_run_78 : decode cX4_run 78 = .ok (.istore_n 3, 1) := by decide +kernel
theorem dX4_run_79 : decode cX4_run 79 = .ok (.iconst 0, 1) := by decide +kernel
theorem dX4_run_80 : decode cX4_run 80 = .ok (.istore 4, 2) := by decide +kernel
theorem dX4_run_82 : decode cX4_run 82 = .ok (.iload 4, 2) := by decide +kernel
theorem dX4_run_84 : decode cX4_run 84 = .ok (.aload_n 0, 1) := by decide +kernel
theorem dX4_run_85 : decode cX4_run 85 = .ok (.getfield 136, 3) := by decide +kernel
theorem dX4_run_88 : decode cX4_run 88 = .ok (.if_icmp .ge 33, 3) := by decide +kernel
theorem dX4_run_91 : decode cX4_run 91 = .ok (.aload_n 0, 1) := by decide +kernel
theorem dX4_run_92 : decode cX4_run 92 = .ok (.iload 4, 2) := by decide +kernel
theorem dX4_run_94 : decode cX4_run 94 = .ok (.iload_n 2, 1) := by decide +kernel
theorem dX4_run_95 : decode cX4_run 95 = .ok (.invokevirtual 139, 3) := by decide +kernel
theorem dX4_run_98 : decode cX4_run 98 = .ok (.istore 5, 2) := by decide +kernel
theorem dX4_run_100 : decode cX4_run 100 = .ok (.iload_n 3, 1) := by decide +kernel
theorem dX4_run_101 : decode cX4_run 101 = .ok (.ifCond .ne 8, 3) := by decide +kernel
theorem dX4_run_104 : decode cX4_run 104 = .ok (.iload 5, 2) := by decide +kernel
theorem dX4_run_106 : decode cX4_run 106 = .ok (.ifCond .eq 7, 3) := by decide +kernel
theorem dX4_run_109 : decode cX4_run 109 = .ok (.iconst 1, 1) := by decide +kernel
theorem dX4_run_110 : decode cX4_run 110 = .ok (.goto 4, 3) := by decide +kernel
theorem dX4_run_113 : decode cX4_run 113 = .ok (.iconst 0, 1) := by decide +kernel
theorem dX4_run_114 : decode cX4_run 114 = .ok (.istore_n 3, 1) := by decide +kernel
theorem dX4_run_115 : decode cX4_run 115 = .ok (.iinc 4 1, 3) := by decide +kernel
theorem dX4_run_118 : decode cX4_run 118 = .ok (.goto (-36), 3) := by decide +kernel
theorem dX4_run_121 : decode cX4_run 121 = .ok (.goto (-57), 3) := by decide +kernel
theorem dX4_run_124 : decode cX4_run 124 = .ok (.iload_n 3, 1) := by decide +kernel
theorem dX4_run_125 : decode cX4_run 125 = .ok (.ifCond .eq 5, 3) := by decide +kernel
theorem dX4_run_128 : decode cX4_run 128 = .ok (.iconst (-1), 1) := by decide +kernel
theorem dX4_run_129 : decode cX4_run 129 = .ok (.ireturn, 1) := by decide +kernel
theorem dX4_run_130 : decode cX4_run 130 = .ok (.iconst 0, 1) := by decide +kernel
theorem dX4_run_131 : decode cX4_run 131 = .ok (.istore 4, 2) := by decide +kernel
theorem dX4_run_133 : decode cX4_run 133 = .ok (.iload 4, 2) := by decide +kernel
theorem dX4_run_135 : decode cX4_run 135 = .ok (.bipush 8, 2) := by decide +kernel
theorem dX4_run_137 : decode cX4_run 137 = .ok (.if_icmp .ge 23, 3) := by decide +kernel
theorem dX4_run_140 : decode cX4_run 140 = .ok (.aload_n 0, 1) := by decide +kernel
theorem dX4_run_141 : decode cX4_run 141 = .ok (.bipush 6, 2) := by decide +kernel
theorem dX4_run_143 : decode cX4_run 143 = .ok (.iload 4, 2) := by decide +kernel
theorem dX4_run_145 : decode cX4_run 145 = .ok (.iadd, 1) := by decide +kernel
theorem dX4_run_146 : decode cX4_run 146 = .ok (.bipush 14, 2) := by decide +kernel
theorem dX4_run_148 : decode cX4_run 148 = .ok (.iload 4, 2) := by decide +kernel
theorem dX4_run_150 : decode cX4_run 150 = .ok (.iadd, 1) := by decide +kernel
theorem dX4_run_151 : decode cX4_run 151 = .ok (.invokevirtual 87, 3) := by decide +kernel
theorem dX4_run_154 : decode cX4_run 154 = .ok (.iinc 4 1, 3) := by decide +kernel
theorem dX4_run_157 : decode cX4_run 157 = .ok (.goto (-24), 3) := by decide +kernel
theorem dX4_run_160 : decode cX4_run 160 = .ok (.iload_n 2, 1) := by decide +kernel
theorem dX4_run_161 : decode cX4_run 161 = .ok (.ireturn, 1) := by decide +kernel
set_option maxRecDepth 20000 in
theorem ggX4_take_X4_isSlot : GoodIn wsX4_take wsX4_isSlot := goodIn_r _ [5, 6, 7, 4, 8] rfl (by decide +kernel)
set_option maxRecDepth 20000 in
theorem gX4_take_X4_isSlot : GoodIn wsX4_take (va_wsS RX4 101 yX4_isSlot wsX4_isSlot) := goodIn_app (goodIn_of _ (by decide +kernel)) ggX4_take_X4_isSlot
set_option maxRecDepth 20000 in
theorem ggX4_take_X4_isIn : GoodIn wsX4_take wsX4_isIn := goodIn_r _ [8] rfl (by decide +kernel)
set_option maxRecDepth 20000 in
theorem gX4_take_X4_isIn : GoodIn wsX4_take (va_wsS RX4 51 yX4_isIn wsX4_isIn) := goodIn_app (goodIn_of _ (by decide +kernel)) ggX4_take_X4_isIn
set_option maxRecDepth 20000 in
theorem ggX4_take_X4_refused : GoodIn wsX4_take wsX4_refused := goodIn_r _ [12, 13, 19, 20, 21, 22, 23, 24, 25, 26, 27, 28, 29, 30, 31] rfl (by decide +kernel)
set_option maxRecDepth 20000 in
theorem gX4_take_X4_refused : GoodIn wsX4_take (wsV RX4 108 RX4 yX4_refused wsX4_refused) := goodIn_app (goodIn_of _ (by decide +kernel)) ggX4_take_X4_refused
set_option maxRecDepth 20000 in
theorem ggX4_take_X4_load : GoodIn wsX4_take wsX4_load := goodIn_r _ [17, 18, 1, 19, 20, 21, 22, 23, 24, 25, 26, 27, 28, 29, 30, 31] rfl (by decide +kernel)
set_option maxRecDepth 20000 in
theorem gX4_take_X4_load : GoodIn wsX4_take (wsV RX4 87 RX4 yX4_load wsX4_load) := goodIn_app (goodIn_of _ (by decide +kernel)) ggX4_take_X4_load
theorem dX4_take_0 : decode cX4_take 0 = .ok (.aload_n 0, 1) := by decide +kernel
theorem dX4_take_1 : decode cX4_take 1 = .ok (.iload_n 1, 1) := by decide +kernel
theorem dX4_take_2 : decode cX4_take 2 = .ok (.invokestatic 101, 3) := by decide +kernel
theorem dX4_take_5 : decode cX4_take 5 = .ok (.ifCond .eq 17, 3) := by decide +kernel
theorem dX4_take_8 : decode cX4_take 8 = .ok (.iload_n 2, 1) := by decide +kernel
theorem dX4_take_9 : decode cX4_take 9 = .ok (.iconst 0, 1) := by decide +kernel
theorem dX4_take_10 : decode cX4_take 10 = .ok (.bipush 7, 2) := by decide +kernel
theorem dX4_take_12 : decode cX4_take 12 = .ok (.invokestatic 51, 3) := by decide +kernel
theorem dX4_take_15 : decode cX4_take 15 = .ok (.ifCond .eq 7, 3) := by decide +kernel
theorem dX4_take_18 : decode cX4_take 18 = .ok (.iconst 0, 1) := by decide +kernel
theorem dX4_take_19 : decode cX4_take 19 = .ok (.goto 4, 3) := by decide +kernel
theorem dX4_take_22 : decode cX4_take 22 = .ok (.iconst 1, 1) := by decide +kernel
theorem dX4_take_23 : decode cX4_take 23 = .ok (.invokevirtual 108, 3) := by decide +kernel
theorem dX4_take_26 : decode cX4_take 26 = .ok (.ifCond .eq 5, 3) := by decide +kernel
theorem dX4_take_29 : decode cX4_take 29 = .ok (.iconst 0, 1) := by decide +kernel
theorem dX4_take_30 : decode cX4_take 30 = .ok (.ireturn, 1) := by decide +kernel
theorem dX4_take_31 : decode cX4_take 31 = .ok (.aload_n 0, 1) := by decide +kernel
theorem dX4_take_32 : decode cX4_take 32 = .ok (.iload_n 1, 1) := by decide +kernel
theorem dX4_take_33 : decode cX4_take 33 = .ok (.bipush 6, 2) := by decide +kernel
theorem dX4_take_35 : decode cX4_take 35 = .ok (.iload_n 2, 1) := by decide +kernel
theorem dX4_take_36 : decode cX4_take 36 = .ok (.iadd, 1) := by decide +kernel
theorem dX4_take_37 : decode cX4_take 37 = .ok (.invokevirtual 87, 3) := by decide +kernel
theorem dX4_take_40 : decode cX4_take 40 = .ok (.aload_n 0, 1) := by decide +kernel
theorem dX4_take_41 : decode cX4_take 41 = .ok (.getfield 13, 3) := by decide +kernel
theorem dX4_take_44 : decode cX4_take 44 = .ok (.iload_n 1, 1) := by decide +kernel
theorem dX4_take_45 : decode cX4_take 45 = .ok (.baload, 1) := by decide +kernel
theorem dX4_take_46 : decode cX4_take 46 = .ok (.ifCond .ne 7, 3) := by decide +kernel
theorem dX4_take_49 : decode cX4_take 49 = .ok (.iconst 1, 1) := by decide +kernel
theorem dX4_take_50 : decode cX4_take 50 = .ok (.goto 4, 3) := by decide +kernel
theorem dX4_take_53 : decode cX4_take 53 = .ok (.iconst 0, 1) := by decide +kernel
theorem dX4_take_54 : decode cX4_take 54 = .ok (.ireturn, 1) := by decide +kernel
