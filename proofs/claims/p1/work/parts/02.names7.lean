theorem dX7_init_0 : decode cX7_init 0 = .ok (.aload_n 0, 1) := by decide +kernel
theorem dX7_init_1 : decode cX7_init 1 = .ok (.invokespecial 1, 3) := by decide +kernel
theorem dX7_init_4 : decode cX7_init 4 = .ok (.aload_n 0, 1) := by decide +kernel
theorem dX7_init_5 : decode cX7_init 5 = .ok (.sipush 3744, 3) := by decide +kernel
theorem dX7_init_8 : decode cX7_init 8 = .ok (.newarray .long, 2) := by decide +kernel
theorem dX7_init_10 : decode cX7_init 10 = .ok (.putfield 7, 3) := by decide +kernel
theorem dX7_init_13 : decode cX7_init 13 = .ok (.aload_n 0, 1) := by decide +kernel
theorem dX7_init_14 : decode cX7_init 14 = .ok (.bipush 26, 2) := by decide +kernel
theorem dX7_init_16 : decode cX7_init 16 = .ok (.newarray .boolean, 2) := by decide +kernel
theorem dX7_init_18 : decode cX7_init 18 = .ok (.putfield 13, 3) := by decide +kernel
theorem dX7_init_21 : decode cX7_init 21 = .ok (.aload_n 0, 1) := by decide +kernel
theorem dX7_init_22 : decode cX7_init 22 = .ok (.bipush 20, 2) := by decide +kernel
theorem dX7_init_24 : decode cX7_init 24 = .ok (.newarray .int, 2) := by decide +kernel
theorem dX7_init_26 : decode cX7_init 26 = .ok (.putfield 17, 3) := by decide +kernel
theorem dX7_init_29 : decode cX7_init 29 = .ok (.aload_n 0, 1) := by decide +kernel
theorem dX7_init_30 : decode cX7_init 30 = .ok (.bipush 20, 2) := by decide +kernel
theorem dX7_init_32 : decode cX7_init 32 = .ok (.newarray .int, 2) := by decide +kernel
theorem dX7_init_34 : decode cX7_init 34 = .ok (.putfield 21, 3) := by decide +kernel
theorem dX7_init_37 : decode cX7_init 37 = .ok (.aload_n 0, 1) := by decide +kernel
theorem dX7_init_38 : decode cX7_init 38 = .ok (.bipush 20, 2) := by decide +kernel
theorem dX7_init_40 : decode cX7_init 40 = .ok (.newarray .int, 2) := by decide +kernel
theorem dX7_init_42 : decode cX7_init 42 = .ok (.putfield 24, 3) := by decide +kernel
theorem dX7_init_45 : decode cX7_init 45 = .ok (.aload_n 0, 1) := by decide +kernel
theorem dX7_init_46 : decode cX7_init 46 = .ok (.bipush 20, 2) := by decide +kernel
theorem dX7_init_48 : decode cX7_init 48 = .ok (.newarray .int, 2) := by decide +kernel
theorem dX7_init_50 : decode cX7_init 50 = .ok (.putfield 27, 3) := by decide +kernel
theorem dX7_init_53 : decode cX7_init 53 = .ok (.aload_n 0, 1) := by decide +kernel
theorem dX7_init_54 : decode cX7_init 54 = .ok (.bipush 20, 2) := by decide +kernel
theorem dX7_init_56 : decode cX7_init 56 = .ok (.newarray .int, 2) := by decide +kernel
theorem dX7_init_58 : decode cX7_init 58 = .ok (.putfield 30, 3) := by decide +kernel
theorem dX7_init_61 : decode cX7_init 61 = .ok (.aload_n 0, 1) := by decide +kernel
theorem dX7_init_62 : decode cX7_init 62 = .ok (.bipush 20, 2) := by decide +kernel
theorem dX7_init_64 : decode cX7_init 64 = .ok (.newarray .int, 2) := by decide +kernel
theorem dX7_init_66 : decode cX7_init 66 = .ok (.putfield 33, 3) := by decide +kernel
theorem dX7_init_69 : decode cX7_init 69 = .ok (.aload_n 0, 1) := by decide +kernel
theorem dX7_init_70 : decode cX7_init 70 = .ok (.bipush 6, 2) := by decide +kernel
theorem dX7_init_72 : decode cX7_init 72 = .ok (.newarray .long, 2) := by decide +kernel
theorem dX7_init_74 : decode cX7_init 74 = .ok (.putfield 36, 3) := by decide +kernel
theorem dX7_init_77 : decode cX7_init 77 = .ok (.aload_n 0, 1) := by decide +kernel
theorem dX7_init_78 : decode cX7_init 78 = .ok (.bipush 6, 2) := by decide +kernel
theorem dX7_init_80 : decode cX7_init 80 = .ok (.newarray .long, 2) := by decide +kernel
theorem dX7_init_82 : decode cX7_init 82 = .ok (.putfield 39, 3) := by decide +kernel
theorem dX7_init_85 : decode cX7_init 85 = .ok (.aload_n 0, 1) := by decide +kernel
theorem dX7_init_86 : decode cX7_init 86 = .ok (.bipush 6, 2) := by decide +kernel
theorem dX7_init_88 : decode cX7_init 88 = .ok (.newarray .long, 2) := by decide +kernel
theorem dX7_init_90 : decode cX7_init 90 = .ok (.putfield 42, 3) := by decide +kernel
theorem dX7_init_93 : decode cX7_init 93 = .ok (.iconst 0, 1) := by decide +kernel
theorem dX7_init_94 : decode cX7_init 94 = .ok (.istore_n 1, 1) := by decide +kernel
theorem dX7_init_95 : decode cX7_init 95 = .ok (.iload_n 1, 1) := by decide +kernel
theorem dX7_init_96 : decode cX7_init 96 = .ok (.sipush 3744, 3) := by decide +kernel
theorem dX7_init_99 : decode cX7_init 99 = .ok (.if_icmp .ge 18, 3) := by decide +kernel
theorem dX7_init_102 : decode cX7_init 102 = .ok (.aload_n 0, 1) := by decide +kernel
theorem dX7_init_103 : decode cX7_init 103 = .ok (.getfield 7, 3) := by decide +kernel
theorem dX7_init_106 : decode cX7_init 106 = .ok (.iload_n 1, 1) := by decide +kernel
theorem dX7_init_107 : decode cX7_init 107 = .ok (.ldc2_w 45, 3) := by decide +kernel
theorem dX7_init_110 : decode cX7_init 110 = .ok (.lastore, 1) := by decide +kernel
theorem dX7_init_111 : decode cX7_init 111 = .ok (.iinc 1 1, 3) := by decide +kernel
theorem dX7_init_114 : decode cX7_init 114 = .ok (.goto (-19), 3) := by decide +kernel
theorem dX7_init_117 : decode cX7_init 117 = .ok (.iconst 0, 1) := by decide +kernel
theorem dX7_init_118 : decode cX7_init 118 = .ok (.istore_n 1, 1) := by decide +kernel
theorem dX7_init_119 : decode cX7_init 119 = .ok (.iload_n 1, 1) := by decide +kernel
theorem dX7_init_120 : decode cX7_init 120 = .ok (.bipush 8, 2) := by decide +kernel
theorem dX7_init_122 : decode cX7_init 122 = .ok (.if_icmp .ge 19, 3) := by decide +kernel
theorem dX7_init_125 : decode cX7_init 125 = .ok (.aload_n 0, 1) := by decide +kernel
theorem dX7_init_126 : decode cX7_init 126 = .ok (.getfield 13, 3) := by decide +kernel
theorem dX7_init_129 : decode cX7_init 129 = .ok (.bipush 6, 2) := by decide +kernel
theorem dX7_init_131 : decode cX7_init 131 = .ok (.iload_n 1, 1) := by decide +kernel
theorem dX7_init_132 : decode cX7_init 132 = .ok (.iadd, 1) := by decide +kernel
theorem dX7_init_133 : decode cX7_init 133 = .ok (.iconst 1, 1) := by decide +kernel
theorem dX7_init_134 : decode cX7_init 134 = .ok (.bastore, 1) := by decide +kernel
theorem dX7_init_135 : decode cX7_init 135 = .ok (.iinc 1 1, 3) := by decide +kernel
theorem dX7_init_138 : decode cX7_init 138 = .ok (.goto (-19), 3) := by decide +kernel
theorem dX7_init_141 : decode cX7_init 141 = .ok (.return_, 1) := by decide +kernel
theorem dX7_thrown_0 : decode cX7_thrown 0 = .ok (.aload_n 0, 1) := by decide +kernel
theorem dX7_thrown_1 : decode cX7_thrown 1 = .ok (.getfield 47, 3) := by decide +kernel
theorem dX7_thrown_4 : decode cX7_thrown 4 = .ok (.ireturn, 1) := by decide +kernel
theorem dX7_refused_0 : decode cX7_refused 0 = .ok (.aload_n 0, 1) := by decide +kernel
theorem dX7_refused_1 : decode cX7_refused 1 = .ok (.iload_n 1, 1) := by decide +kernel
theorem dX7_refused_2 : decode cX7_refused 2 = .ok (.putfield 47, 3) := by decide +kernel
theorem dX7_refused_5 : decode cX7_refused 5 = .ok (.iload_n 1, 1) := by decide +kernel
theorem dX7_refused_6 : decode cX7_refused 6 = .ok (.ifCond .le 7, 3) := by decide +kernel
theorem dX7_refused_9 : decode cX7_refused 9 = .ok (.iconst 1, 1) := by decide +kernel
theorem dX7_refused_10 : decode cX7_refused 10 = .ok (.goto 4, 3) := by decide +kernel
theorem dX7_refused_13 : decode cX7_refused 13 = .ok (.iconst 0, 1) := by decide +kernel
theorem dX7_refused_14 : decode cX7_refused 14 = .ok (.ireturn, 1) := by decide +kernel
theorem dX7_isIn_0 : decode cX7_isIn 0 = .ok (.iload_n 0, 1) := by decide +kernel
theorem dX7_isIn_1 : decode cX7_isIn 1 = .ok (.iload_n 1, 1) := by decide +kernel
theorem dX7_isIn_2 : decode cX7_isIn 2 = .ok (.if_icmp .lt 12, 3) := by decide +kernel
theorem dX7_isIn_5 : decode cX7_isIn 5 = .ok (.iload_n 0, 1) := by decide +kernel
theorem dX7_isIn_6 : decode cX7_isIn 6 = .ok (.iload_n 2, 1) := by decide +kernel
theorem dX7_isIn_7 : decode cX7_isIn 7 = .ok (.if_icmp .gt 7, 3) := by decide +kernel
theorem dX7_isIn_10 : decode cX7_isIn 10 = .ok (.iconst 1, 1) := by decide +kernel
theorem dX7_isIn_11 : decode cX7_isIn 11 = .ok (.goto 4, 3) := by decide +kernel
theorem dX7_isIn_14 : decode cX7_isIn 14 = .ok (.iconst 0, 1) := by decide +kernel
theorem dX7_isIn_15 : decode cX7_isIn 15 = .ok (.ireturn, 1) := by decide +kernel
set_option maxRecDepth 20000 in
theorem ggX7_isSlot_X7_isIn : GoodIn wsX7_isSlot wsX7_isIn := goodIn_r _ [4] rfl (by decide +kernel)
set_option maxRecDepth 20000 in
theorem gX7_isSlot_X7_isIn : GoodIn wsX7_isSlot (va_wsS RX7 51 yX7_isIn wsX7_isIn) := goodIn_app (goodIn_of _ (by decide +kernel)) ggX7_isSlot_X7_isIn
theorem dX7_isSlot_0 : decode cX7_isSlot 0 = .ok (.iload_n 0, 1) := by decide +kernel
theorem dX7_isSlot_1 : decode cX7_isSlot 1 = .ok (.iconst 0, 1) := by decide +kernel
theorem dX7_isSlot_2 : decode cX7_isSlot 2 = .ok (.iconst 5, 1) := by decide +kernel
theorem dX7_isSlot_3 : decode cX7_isSlot 3 = .ok (.invokestatic 51, 3) := by decide +kernel
theorem dX7_isSlot_6 : decode cX7_isSlot 6 = .ok (.ireturn, 1) := by decide +kernel
set_option maxRecDepth 20000 in
theorem ggX7_isTerm_X7_isIn : GoodIn wsX7_isTerm wsX7_isIn := goodIn_r _ [4] rfl (by decide +kernel)
set_option maxRecDepth 20000 in
theorem gX7_isTerm_X7_isIn : GoodIn wsX7_isTerm (va_wsS RX7 51 yX7_isIn wsX7_isIn) := goodIn_app (goodIn_of _ (by decide +kernel)) ggX7_isTerm_X7_isIn
theorem dX7_isTerm_0 : decode cX7_isTerm 0 = .ok (.iload_n 0, 1) := by decide +kernel
theorem dX7_isTerm_1 : decode cX7_isTerm 1 = .ok (.iconst 0, 1) := by decide +kernel
theorem dX7_isTerm_2 : decode cX7_isTerm 2 = .ok (.bipush 11, 2) := by decide +kernel
theorem dX7_isTerm_4 : decode cX7_isTerm 4 = .ok (.invokestatic 51, 3) := by decide +kernel
theorem dX7_isTerm_7 : decode cX7_isTerm 7 = .ok (.ireturn, 1) := by decide +kernel
set_option maxRecDepth 20000 in
theorem ggX7_isNumber_X7_isIn : GoodIn wsX7_isNumber wsX7_isIn := goodIn_r _ [6] rfl (by decide +kernel)
set_option maxRecDepth 20000 in
theorem gX7_isNumber_X7_isIn : GoodIn wsX7_isNumber (va_wsS RX7 51 yX7_isIn wsX7_isIn) := goodIn_app (goodIn_of _ (by decide +kernel)) ggX7_isNumber_X7_isIn
theorem dX7_isNumber_0 : decode cX7_isNumber 0 = .ok (.iload_n 0, 1) := by decide +kernel
theorem dX7_isNumber_1 : decode cX7_isNumber 1 = .ok (.ldc 55, 2) := by decide +kernel
theorem dX7_isNumber_3 : decode cX7_isNumber 3 = .ok (.ldc 56, 2) := by decide +kernel
theorem dX7_isNumber_5 : decode cX7_isNumber 5 = .ok (.invokestatic 51, 3) := by decide +kernel
theorem dX7_isNumber_8 : decode cX7_isNumber 8 = .ok (.ireturn, 1) := by decide +kernel
theorem dX7_minus_0 : decode cX7_minus 0 = .ok (.iload_n 0, 1) := by decide +kernel
theorem dX7_minus_1 : decode cX7_minus 1 = .ok (.iconst 2, 1) := by decide +kernel
theorem dX7_minus_2 : decode cX7_minus 2 = .ok (.irem, 1) := by decide +kernel
theorem dX7_minus_3 : decode cX7_minus 3 = .ok (.ifCond .ne 9, 3) := by decide +kernel
theorem dX7_minus_6 : decode cX7_minus 6 = .ok (.iload_n 0, 1) := by decide +kernel
theorem dX7_minus_7 : decode cX7_minus 7 = .ok (.iconst 1, 1) := by decide +kernel
theorem dX7_minus_8 : decode cX7_minus 8 = .ok (.iadd, 1) := by decide +kernel
theorem dX7_minus_9 : decode cX7_minus 9 = .ok (.goto 6, 3) := by decide +kernel
theorem dX7_minus_12 : decode cX7_minus 12 = .ok (.iload_n 0, 1) := by decide +kernel
theorem dX7_minus_13 : decode cX7_minus 13 = .ok (.iconst 1, 1) := by decide +kernel
theorem dX7_minus_14 : decode cX7_minus 14 = .ok (.isub, 1) := by decide +kernel
theorem dX7_minus_15 : decode cX7_minus 15 = .ok (.ireturn, 1) := by decide +kernel
theorem dX7_sum_0 : decode cX7_sum 0 = .ok (.lload_n 0, 1) := by decide +kernel
theorem dX7_sum_1 : decode cX7_sum 1 = .ok (.ldc2_w 45, 3) := by decide +kernel
theorem dX7_sum_4 : decode cX7_sum 4 = .ok (.lcmp, 1) := by decide +kernel
theorem dX7_sum_5 : decode cX7_sum 5 = .ok (.ifCond .eq 11, 3) := by decide +kernel
theorem dX7_sum_8 : decode cX7_sum 8 = .ok (.lload_n 2, 1) := by decide +kernel
theorem dX7_sum_9 : decode cX7_sum 9 = .ok (.ldc2_w 45, 3) := by decide +kernel
theorem dX7_sum_12 : decode cX7_sum 12 = .ok (.lcmp, 1) := by decide +kernel
theorem dX7_sum_13 : decode cX7_sum 13 = .ok (.ifCond .ne 9, 3) := by decide +kernel
theorem dX7_sum_16 : decode cX7_sum 16 = .ok (.ldc2_w 45, 3) := by decide +kernel
theorem dX7_sum_19 : decode cX7_sum 19 = .ok (.goto 6, 3) := by decide +kernel
theorem dX7_sum_22 : decode cX7_sum 22 = .ok (.lload_n 0, 1) := by decide +kernel
theorem dX7_sum_23 : decode cX7_sum 23 = .ok (.lload_n 2, 1) := by decide +kernel
theorem dX7_sum_24 : decode cX7_sum 24 = .ok (.ladd, 1) := by decide +kernel
theorem dX7_sum_25 : decode cX7_sum 25 = .ok (.lreturn, 1) := by decide +kernel
theorem dX7_get_0 : decode cX7_get 0 = .ok (.aload_n 0, 1) := by decide +kernel
theorem dX7_get_1 : decode cX7_get 1 = .ok (.getfield 7, 3) := by decide +kernel
theorem dX7_get_4 : decode cX7_get 4 = .ok (.sipush 144, 3) := by decide +kernel
theorem dX7_get_7 : decode cX7_get 7 = .ok (.iload_n 1, 1) := by decide +kernel
theorem dX7_get_8 : decode cX7_get 8 = .ok (.imul, 1) := by decide +kernel
theorem dX7_get_9 : decode cX7_get 9 = .ok (.bipush 12, 2) := by decide +kernel
theorem dX7_get_11 : decode cX7_get 11 = .ok (.iload_n 2, 1) := by decide +kernel
theorem dX7_get_12 : decode cX7_get 12 = .ok (.imul, 1) := by decide +kernel
theorem dX7_get_13 : decode cX7_get 13 = .ok (.iadd, 1) := by decide +kernel
theorem dX7_get_14 : decode cX7_get 14 = .ok (.iload_n 3, 1) := by decide +kernel
theorem dX7_get_15 : decode cX7_get 15 = .ok (.iadd, 1) := by decide +kernel
theorem dX7_get_16 : decode cX7_get 16 = .ok (.laload, 1) := by decide +kernel
theorem dX7_get_17 : decode cX7_get 17 = .ok (.lreturn, 1) := by decide +kernel
theorem dX7_set_0 : decode cX7_set 0 = .ok (.aload_n 0, 1) := by decide +kernel
theorem dX7_set_1 : decode cX7_set 1 = .ok (.getfield 7, 3) := by decide +kernel
theorem dX7_set_4 : decode cX7_set 4 = .ok (.sipush 144, 3) := by decide +kernel
theorem dX7_set_7 : decode cX7_set 7 = .ok (.iload_n 1, 1) := by decide +kernel
theorem dX7_set_8 : decode cX7_set 8 = .ok (.imul, 1) := by decide +kernel
theorem dX7_set_9 : decode cX7_set 9 = .ok (.bipush 12, 2) := by decide +kernel
theorem dX7_set_11 : decode cX7_set 11 = .ok (.iload_n 2, 1) := by decide +kernel
theorem dX7_set_12 : decode cX7_set 12 = .ok (.imul, 1) := by decide +kernel
theorem dX7_set_13 : decode cX7_set 13 = .ok (.iadd, 1) := by decide +kernel
theorem dX7_set_14 : decode cX7_set 14 = .ok (.iload_n 3, 1) := by decide +kernel
theorem dX7_set_15 : decode cX7_set 15 = .ok (.iadd, 1) := by decide +kernel
theorem dX7_set_16 : decode cX7_set 16 = .ok (.lload 4, 2) := by decide +kernel
theorem dX7_set_18 : decode cX7_set 18 = .ok (.lastore, 1) := by decide +kernel
theorem dX7_set_19 : decode cX7_set 19 = .ok (.aload_n 0, 1) := by decide +kernel
theorem dX7_set_20 : decode cX7_set 20 = .ok (.getfield 7, 3) := by decide +kernel
theorem dX7_set_23 : decode cX7_set 23 = .ok (.sipush 144, 3) := by decide +kernel
theorem dX7_set_26 : decode cX7_set 26 = .ok (.iload_n 1, 1) := by decide +kernel
theorem dX7_set_27 : decode cX7_set 27 = .ok (.imul, 1) := by decide +kernel
theorem dX7_set_28 : decode cX7_set 28 = .ok (.bipush 12, 2) := by decide +kernel
theorem dX7_set_30 : decode cX7_set 30 = .ok (.iload_n 3, 1) := by decide +kernel
theorem dX7_set_31 : decode cX7_set 31 = .ok (.imul, 1) := by decide +kernel
theorem dX7_set_32 : decode cX7_set 32 = .ok (.iadd, 1) := by decide +kernel
theorem dX7_set_33 : decode cX7_set 33 = .ok (.iload_n 2, 1) := by decide +kernel
theorem dX7_set_34 : decode cX7_set 34 = .ok (.iadd, 1) := by decide +kernel
theorem dX7_set_35 : decode cX7_set 35 = .ok (.lload 4, 2) := by decide +kernel
theorem dX7_set_37 : decode cX7_set 37 = .ok (.lastore, 1) := by decide +kernel
theorem dX7_set_38 : decode cX7_set 38 = .ok (.return_, 1) := by decide +kernel
set_option maxRecDepth 20000 in
theorem ggX7_sumOf_X7_minus : GoodIn wsX7_sumOf wsX7_minus := goodIn_r _ [4] rfl (by decide +kernel)
set_option maxRecDepth 20000 in
theorem gX7_sumOf_X7_minus : GoodIn wsX7_sumOf (va_wsS RX7 57 yX7_minus wsX7_minus) := goodIn_app (goodIn_of _ (by decide +kernel)) ggX7_sumOf_X7_minus
set_option maxRecDepth 20000 in
theorem ggX7_sumOf_X7_get : GoodIn wsX7_sumOf wsX7_get := goodIn_r _ [8, 9, 14, 15, 16, 17, 18, 19, 20, 21, 22, 23, 24, 25, 26] rfl (by decide +kernel)
set_option maxRecDepth 20000 in
theorem gX7_sumOf_X7_get : GoodIn wsX7_sumOf (wsV RX7 61 RX7 yX7_get wsX7_get) := goodIn_app (goodIn_of _ (by decide +kernel)) ggX7_sumOf_X7_get
set_option maxRecDepth 20000 in
theorem ggX7_sumOf_X7_sum : GoodIn wsX7_sumOf wsX7_sum := goodIn_r _ [12, 13] rfl (by decide +kernel)
set_option maxRecDepth 20000 in
theorem gX7_sumOf_X7_sum : GoodIn wsX7_sumOf (va_wsS RX7 65 yX7_sum wsX7_sum) := goodIn_app (goodIn_of _ (by decide +kernel)) ggX7_sumOf_X7_sum
theorem dX7_sumOf_0 : decode cX7_sumOf 0 = .ok (.iload_n 3, 1) := by decide +kernel
theorem dX7_sumOf_1 : decode cX7_sumOf 1 = .ok (.iload_n 2, 1) := by decide +kernel
theorem dX7_sumOf_2 : decode cX7_sumOf 2 = .ok (.invokestatic 57, 3) := by decide +kernel
theorem dX7_sumOf_5 : decode cX7_sumOf 5 = .ok (.if_icmp .ne 5, 3) := by decide +kernel
theorem dX7_sumOf_8 : decode cX7_sumOf 8 = .ok (.lconst 0, 1) := by decide +kernel
theorem dX7_sumOf_9 : decode cX7_sumOf 9 = .ok (.lreturn, 1) := by decide +kernel
theorem dX7_sumOf_10 : decode cX7_sumOf 10 = .ok (.aload_n 0, 1) := by decide +kernel
theorem dX7_sumOf_11 : decode cX7_sumOf 11 = .ok (.iload_n 1, 1) := by decide +kernel
theorem dX7_sumOf_12 : decode cX7_sumOf 12 = .ok (.iload_n 2, 1) := by decide +kernel
theorem dX7_sumOf_13 : decode cX7_sumOf 13 = .ok (.iload_n 3, 1) := by decide +kernel
theorem dX7_sumOf_14 : decode cX7_sumOf 14 = .ok (.invokevirtual 61, 3) := by decide +kernel
theorem dX7_sumOf_17 : decode cX7_sumOf 17 = .ok (.lstore 4, 2) := by decide +kernel
theorem dX7_sumOf_19 : decode cX7_sumOf 19 = .ok (.iload_n 2, 1) := by decide +kernel
theorem dX7_sumOf_20 : decode cX7_sumOf 20 = .ok (.iload_n 3, 1) := by decide +kernel
theorem dX7_sumOf_21 : decode cX7_sumOf 21 = .ok (.if_icmp .ne 13, 3) := by decide +kernel
theorem dX7_sumOf_24 : decode cX7_sumOf 24 = .ok (.lload 4, 2) := by decide +kernel
theorem dX7_sumOf_26 : decode cX7_sumOf 26 = .ok (.lload 4, 2) := by decide +kernel
theorem dX7_sumOf_28 : decode cX7_sumOf 28 = .ok (.invokestatic 65, 3) := by decide +kernel
theorem dX7_sumOf_31 : decode cX7_sumOf 31 = .ok (.goto 5, 3) := by decide +kernel
theorem dX7_sumOf_34 : decode cX7_sumOf 34 = .ok (.lload 4, 2) := by decide +kernel
theorem dX7_sumOf_36 : decode cX7_sumOf 36 = .ok (.lreturn, 1) := by decide +kernel
set_option maxRecDepth 20000 in
theorem ggX7_lessen_X7_minus : GoodIn wsX7_lessen wsX7_minus := goodIn_r _ [6] rfl (by decide +kernel)
set_option maxRecDepth 20000 in
theorem gX7_lessen_X7_minus : GoodIn wsX7_lessen (va_wsS RX7 57 yX7_minus wsX7_minus) := goodIn_app (goodIn_of _ (by decide +kernel)) ggX7_lessen_X7_minus
set_option maxRecDepth 20000 in
theorem ggX7_lessen_X7_get : GoodIn wsX7_lessen wsX7_get := goodIn_r _ [10, 11, 16, 17, 18, 19, 20, 21, 22, 23, 24, 25, 26, 27, 28] rfl (by decide +kernel)
set_option maxRecDepth 20000 in
theorem gX7_lessen_X7_get : GoodIn wsX7_lessen (wsV RX7 61 RX7 yX7_get wsX7_get) := goodIn_app (goodIn_of _ (by decide +kernel)) ggX7_lessen_X7_get
set_option maxRecDepth 20000 in
theorem ggX7_lessen_X7_set : GoodIn wsX7_lessen wsX7_set := goodIn_r _ [15, 11, 16, 17, 18, 19, 20, 21, 22, 23, 24, 25, 26, 27, 28] rfl (by decide +kernel)
set_option maxRecDepth 20000 in
theorem gX7_lessen_X7_set : GoodIn wsX7_lessen (wsV RX7 69 RX7 yX7_set wsX7_set) := goodIn_app (goodIn_of _ (by decide +kernel)) ggX7_lessen_X7_set
theorem dX7_lessen_0 : decode cX7_lessen 0 = .ok (.lload 4, 2) := by decide +kernel
theorem dX7_lessen_2 : decode cX7_lessen 2 = .ok (.ldc2_w 45, 3) := by decide +kernel
theorem dX7_lessen_5 : decode cX7_lessen 5 = .ok (.lcmp, 1) := by decide +kernel
theorem dX7_lessen_6 : decode cX7_lessen 6 = .ok (.ifCond .ne 5, 3) := by decide +kernel
theorem dX7_lessen_9 : decode cX7_lessen 9 = .ok (.iconst 0, 1) := by decide +kernel
theorem dX7_lessen_10 : decode cX7_lessen 10 = .ok (.ireturn, 1) := by decide +kernel
theorem dX7_lessen_11 : decode cX7_lessen 11 = .ok (.iload_n 3, 1) := by decide +kernel
theorem dX7_lessen_12 : decode cX7_lessen 12 = .ok (.iload_n 2, 1) := by decide +kernel
theorem dX7_lessen_13 : decode cX7_lessen 13 = .ok (.invokestatic 57, 3) := by decide +kernel
theorem dX7_lessen_16 : decode cX7_lessen 16 = .ok (.if_icmp .ne 32, 3) := by decide +kernel
theorem dX7_lessen_19 : decode cX7_lessen 19 = .ok (.aload_n 0, 1) := by decide +kernel
theorem dX7_lessen_20 : decode cX7_lessen 20 = .ok (.getfield 13, 3) := by decide +kernel
theorem dX7_lessen_23 : decode cX7_lessen 23 = .ok (.iload_n 1, 1) := by decide +kernel
theorem dX7_lessen_24 : decode cX7_lessen 24 = .ok (.aload_n 0, 1) := by decide +kernel
theorem dX7_lessen_25 : decode cX7_lessen 25 = .ok (.getfield 13, 3) := by decide +kernel
theorem dX7_lessen_28 : decode cX7_lessen 28 = .ok (.iload_n 1, 1) := by decide +kernel
theorem dX7_lessen_29 : decode cX7_lessen 29 = .ok (.baload, 1) := by decide +kernel
theorem dX7_lessen_30 : decode cX7_lessen 30 = .ok (.ifCond .ne 10, 3) := by decide +kernel
theorem dX7_lessen_33 : decode cX7_lessen 33 = .ok (.lload 4, 2) := by decide +kernel
theorem dX7_lessen_35 : decode cX7_lessen 35 = .ok (.lconst 0, 1) := by decide +kernel
theorem dX7_lessen_36 : decode cX7_lessen 36 = .ok (.lcmp, 1) := by decide +kernel
theorem dX7_lessen_37 : decode cX7_lessen 37 = .ok (.ifCond .ge 7, 3) := by decide +kernel
theorem dX7_lessen_40 : decode cX7_lessen 40 = .ok (.iconst 1, 1) := by decide +kernel
theorem dX7_lessen_41 : decode cX7_lessen 41 = .ok (.goto 4, 3) := by decide +kernel
theorem dX7_lessen_44 : decode cX7_lessen 44 = .ok (.iconst 0, 1) := by decide +kernel
theorem dX7_lessen_45 : decode cX7_lessen 45 = .ok (.bastore, 1) := by decide +kernel
theorem dX7_lessen_46 : decode cX7_lessen 46 = .ok (.iconst 0, 1) := by decide +kernel
theorem dX7_lessen_47 : decode cX7_lessen 47 = .ok (.ireturn, 1) := by decide +kernel
theorem dX7_lessen_48 : decode cX7_lessen 48 = .ok (.iload_n 2, 1) := by decide +kernel
theorem dX7_lessen_49 : decode cX7_lessen 49 = .ok (.iload_n 3, 1) := by decide +kernel
theorem dX7_lessen_50 : decode cX7_lessen 50 = .ok (.if_icmp .ne 10, 3) := by decide +kernel
theorem dX7_lessen_53 : decode cX7_lessen 53 = .ok (.lload 4, 2) := by decide +kernel
theorem dX7_lessen_55 : decode cX7_lessen 55 = .ok (.iconst 1, 1) := by decide +kernel
theorem dX7_lessen_56 : decode cX7_lessen 56 = .ok (.lshr, 1) := by decide +kernel
theorem dX7_lessen_57 : decode cX7_lessen 57 = .ok (.goto 5, 3) := by decide +kernel
theorem dX7_lessen_60 : decode cX7_lessen 60 = .ok (.lload 4, 2) := by decide +kernel
theorem dX7_lessen_62 : decode cX7_lessen 62 = .ok (.lstore 6, 2) := by decide +kernel
theorem dX7_lessen_64 : decode cX7_lessen 64 = .ok (.lload 6, 2) := by decide +kernel
theorem dX7_lessen_66 : decode cX7_lessen 66 = .ok (.aload_n 0, 1) := by decide +kernel
theorem dX7_lessen_67 : decode cX7_lessen 67 = .ok (.iload_n 1, 1) := by decide +kernel
theorem dX7_lessen_68 : decode cX7_lessen 68 = .ok (.iload_n 2, 1) := by decide +kernel
theorem dX7_lessen_69 : decode cX7_lessen 69 = .ok (.iload_n 3, 1) := by decide +kernel
theorem dX7_lessen_70 : decode cX7_lessen 70 = .ok (.invokevirtual 61, 3) := by decide +kernel
theorem dX7_lessen_73 : decode cX7_lessen 73 = .ok (.lcmp, 1) := by decide +kernel
theorem dX7_lessen_74 : decode cX7_lessen 74 = .ok (.ifCond .lt 5, 3) := by decide +kernel
theorem dX7_lessen_77 : decode cX7_lessen 77 = .ok (.iconst 0, 1) := by decide +kernel
theorem dX7_lessen_78 : decode cX7_lessen 78 = .ok (.ireturn, 1) := by decide +kernel
theorem dX7_lessen_79 : decode cX7_lessen 79 = .ok (.aload_n 0, 1) := by decide +kernel
theorem dX7_lessen_80 : decode cX7_lessen 80 = .ok (.iload_n 1, 1) := by decide +kernel
theorem dX7_lessen_81 : decode cX7_lessen 81 = .ok (.iload_n 2, 1) := by decide +kernel
theorem dX7_lessen_82 : decode cX7_lessen 82 = .ok (.iload_n 3, 1) := by decide +kernel
theorem dX7_lessen_83 : decode cX7_lessen 83 = .ok (.lload 6, 2) := by decide +kernel
theorem dX7_lessen_85 : decode cX7_lessen 85 = .ok (.invokevirtual 69, 3) := by decide +kernel
theorem dX7_lessen_88 : decode cX7_lessen 88 = .ok (.iconst 1, 1) := by decide +kernel
theorem dX7_lessen_89 : decode cX7_lessen 89 = .ok (.ireturn, 1) := by decide +kernel
set_option maxRecDepth 20000 in
theorem ggX7_close_X7_get : GoodIn wsX7_close wsX7_get := goodIn_r _ [6, 7, 27, 28, 29, 30, 31, 32, 33, 34, 35, 36, 37, 38, 39] rfl (by decide +kernel)
set_option maxRecDepth 20000 in
theorem gX7_close_X7_get : GoodIn wsX7_close (wsV RX7 61 RX7 yX7_get wsX7_get) := goodIn_app (goodIn_of _ (by decide +kernel)) ggX7_close_X7_get
set_option maxRecDepth 20000 in
theorem ggX7_close_X7_sum : GoodIn wsX7_close wsX7_sum := goodIn_r _ [10, 11] rfl (by decide +kernel)
set_option maxRecDepth 20000 in
theorem gX7_close_X7_sum : GoodIn wsX7_close (va_wsS RX7 65 yX7_sum wsX7_sum) := goodIn_app (goodIn_of _ (by decide +kernel)) ggX7_close_X7_sum
set_option maxRecDepth 20000 in
theorem ggX7_close_X7_lessen : GoodIn wsX7_close wsX7_lessen := goodIn_r _ [15, 11, 1, 16, 17, 5, 18, 2, 3, 4, 6, 7, 19, 20, 21, 22, 27, 28, 29, 30, 31, 32, 33, 34, 35, 36, 37, 38, 39] rfl (by decide +kernel)
set_option maxRecDepth 20000 in
theorem gX7_close_X7_lessen : GoodIn wsX7_close (wsV RX7 73 RX7 yX7_lessen wsX7_lessen) := goodIn_app (goodIn_of _ (by decide +kernel)) ggX7_close_X7_lessen
set_option maxRecDepth 20000 in
theorem ggX7_close_X7_sumOf : GoodIn wsX7_close wsX7_sumOf := goodIn_r _ [26, 16, 17, 5, 18, 2, 3, 4, 6, 7, 8, 9, 10, 11, 27, 28, 29, 30, 31, 32, 33, 34, 35, 36, 37, 38, 39] rfl (by decide +kernel)
set_option maxRecDepth 20000 in
theorem gX7_close_X7_sumOf : GoodIn wsX7_close (wsV RX7 77 RX7 yX7_sumOf wsX7_sumOf) := goodIn_app (goodIn_of _ (by decide +kernel)) ggX7_close_X7_sumOf
set_option maxRecDepth 20000 in
theorem ggX7_close_X7_minus : GoodIn wsX7_close wsX7_minus := goodIn_r _ [18] rfl (by decide +kernel)
set_option maxRecDepth 20000 in
theorem gX7_close_X7_minus : GoodIn wsX7_close (va_wsS RX7 57 yX7_minus wsX7_minus) := goodIn_app (goodIn_of _ (by decide +kernel)) ggX7_close_X7_minus
theorem dX7_close_0 : decode cX7_close 0 = .ok (.aload_n 0, 1) := by decide +kernel
theorem dX7_close_1 : decode cX7_close 1 = .ok (.getfield 13, 3) := by decide +kernel
theorem dX7_close_4 : decode cX7_close 4 = .ok (.iload_n 1, 1) := by decide +kernel
theorem dX7_close_5 : decode cX7_close 5 = .ok (.baload, 1) := by decide +kernel
theorem dX7_close_6 : decode cX7_close 6 = .ok (.ifCond .ne 7, 3) := by decide +kernel
theorem dX7_close_9 : decode cX7_close 9 = .ok (.iconst 1, 1) := by decide +kernel
theorem dX7_close_10 : decode cX7_close 10 = .ok (.goto 4, 3) := by decide +kernel
theorem dX7_close_13 : decode cX7_close 13 = .ok (.iconst 0, 1) := by decide +kernel
theorem dX7_close_14 : decode cX7_close 14 = .ok (.istore_n 2, 1) := by decide +kernel
theorem dX7_close_15 : decode cX7_close 15 = .ok (.iload_n 2, 1) := by decide +kernel
theorem dX7_close_16 : decode cX7_close 16 = .ok (.ifCond .eq 179, 3) := by decide +kernel
theorem dX7_close_19 : decode cX7_close 19 = .ok (.iconst 0, 1) := by decide +kernel
theorem dX7_close_20 : decode cX7_close 20 = .ok (.istore_n 2, 1) := by decide +kernel
theorem dX7_close_21 : decode cX7_close 21 = .ok (.iconst 0, 1) := by decide +kernel
theorem dX7_close_22 : decode cX7_close 22 = .ok (.istore_n 3, 1) := by decide +kernel
theorem dX7_close_23 : decode cX7_close 23 = .ok (.iload_n 3, 1) := by decide +kernel
theorem dX7_close_24 : decode cX7_close 24 = .ok (.bipush 12, 2) := by decide +kernel
theorem dX7_close_26 : decode cX7_close 26 = .ok (.if_icmp .ge 147, 3) := by decide +kernel
theorem dX7_close_29 : decode cX7_close 29 = .ok (.iconst 0, 1) := by decide +kernel
theorem dX7_close_30 : decode cX7_close 30 = .ok (.istore 4, 2) := by decide +kernel
theorem dX7_close_32 : decode cX7_close 32 = .ok (.iload 4, 2) := by decide +kernel
theorem dX7_close_34 : decode cX7_close 34 = .ok (.bipush 12, 2) := by decide +kernel
theorem dX7_close_36 : decode cX7_close 36 = .ok (.if_icmp .ge 131, 3) := by decide +kernel
theorem dX7_close_39 : decode cX7_close 39 = .ok (.iload_n 3, 1) := by decide +kernel
theorem dX7_close_40 : decode cX7_close 40 = .ok (.iload 4, 2) := by decide +kernel
theorem dX7_close_42 : decode cX7_close 42 = .ok (.if_icmp .eq 37, 3) := by decide +kernel
theorem dX7_close_45 : decode cX7_close 45 = .ok (.aload_n 0, 1) := by decide +kernel
theorem dX7_close_46 : decode cX7_close 46 = .ok (.iload_n 1, 1) := by decide +kernel
theorem dX7_close_47 : decode cX7_close 47 = .ok (.iload_n 3, 1) := by decide +kernel
theorem dX7_close_48 : decode cX7_close 48 = .ok (.iload 4, 2) := by decide +kernel
theorem dX7_close_50 : decode cX7_close 50 = .ok (.aload_n 0, 1) := by decide +kernel
theorem dX7_close_51 : decode cX7_close 51 = .ok (.iload_n 1, 1) := by decide +kernel
theorem dX7_close_52 : decode cX7_close 52 = .ok (.iload_n 3, 1) := by decide +kernel
theorem dX7_close_53 : decode cX7_close 53 = .ok (.iload_n 3, 1) := by decide +kernel
theorem dX7_close_54 : decode cX7_close 54 = .ok (.invokevirtual 61, 3) := by decide +kernel
theorem dX7_close_57 : decode cX7_close 57 = .ok (.aload_n 0, 1) := by decide +kernel
theorem dX7_close_58 : decode cX7_close 58 = .ok (.iload_n 1, 1) := by decide +kernel
theorem dX7_close_59 : decode cX7_close 59 = .ok (.iload 4, 2) := by decide +kernel
theorem dX7_close_61 : decode cX7_close 61 = .ok (.iload 4, 2) := by decide +kernel
theorem dX7_close_63 : decode cX7_close 63 = .ok (.invokevirtual 61, 3) := by decide +kernel
theorem dX7_close_66 : decode cX7_close 66 = .ok (.invokestatic 65, 3) := by decide +kernel
theorem dX7_close_69 : decode cX7_close 69 = .ok (.invokevirtual 73, 3) := by decide +kernel
theorem dX7_close_72 : decode cX7_close 72 = .ok (.ifCond .eq 7, 3) := by decide +kernel
theorem dX7_close_75 : decode cX7_close 75 = .ok (.iconst 1, 1) := by decide +kernel
theorem dX7_close_76 : decode cX7_close 76 = .ok (.goto 4, 3) := by decide +kernel
theorem dX7_close_79 : decode cX7_close 79 = .ok (.iconst 0, 1) := by decide +kernel
theorem dX7_close_80 : decode cX7_close 80 = .ok (.istore 5, 2) := by decide +kernel
theorem dX7_close_82 : decode cX7_close 82 = .ok (.iload_n 2, 1) := by decide +kernel
theorem dX7_close_83 : decode cX7_close 83 = .ok (.ifCond .ne 8, 3) := by decide +kernel
theorem dX7_close_86 : decode cX7_close 86 = .ok (.iload 5, 2) := by decide +kernel
theorem dX7_close_88 : decode cX7_close 88 = .ok (.ifCond .eq 7, 3) := by decide +kernel
theorem dX7_close_91 : decode cX7_close 91 = .ok (.iconst 1, 1) := by decide +kernel
theorem dX7_close_92 : decode cX7_close 92 = .ok (.goto 4, 3) := by decide +kernel
theorem dX7_close_95 : decode cX7_close 95 = .ok (.iconst 0, 1) := by decide +kernel
theorem dX7_close_96 : decode cX7_close 96 = .ok (.istore_n 2, 1) := by decide +kernel
theorem dX7_close_97 : decode cX7_close 97 = .ok (.iconst 0, 1) := by decide +kernel
theorem dX7_close_98 : decode cX7_close 98 = .ok (.istore 6, 2) := by decide +kernel
theorem dX7_close_100 : decode cX7_close 100 = .ok (.iload 6, 2) := by decide +kernel
theorem dX7_close_102 : decode cX7_close 102 = .ok (.bipush 12, 2) := by decide +kernel
theorem dX7_close_104 : decode cX7_close 104 = .ok (.if_icmp .ge 57, 3) := by decide +kernel
theorem dX7_close_107 : decode cX7_close 107 = .ok (.aload_n 0, 1) := by decide +kernel
theorem dX7_close_108 : decode cX7_close 108 = .ok (.iload_n 1, 1) := by decide +kernel
theorem dX7_close_109 : decode cX7_close 109 = .ok (.iload_n 3, 1) := by decide +kernel
theorem dX7_close_110 : decode cX7_close 110 = .ok (.iload 4, 2) := by decide +kernel
theorem dX7_close_112 : decode cX7_close 112 = .ok (.aload_n 0, 1) := by decide +kernel
theorem dX7_close_113 : decode cX7_close 113 = .ok (.iload_n 1, 1) := by decide +kernel
theorem dX7_close_114 : decode cX7_close 114 = .ok (.iload_n 3, 1) := by decide +kernel
theorem dX7_close_115 : decode cX7_close 115 = .ok (.iload 6, 2) := by decide +kernel
theorem dX7_close_117 : decode cX7_close 117 = .ok (.invokevirtual 77, 3) := by decide +kernel
theorem dX7_close_120 : decode cX7_close 120 = .ok (.aload_n 0, 1) := by decide +kernel
theorem dX7_close_121 : decode cX7_close 121 = .ok (.iload_n 1, 1) := by decide +kernel
theorem dX7_close_122 : decode cX7_close 122 = .ok (.iload 6, 2) := by decide +kernel
theorem dX7_close_124 : decode cX7_close 124 = .ok (.invokestatic 57, 3) := by decide +kernel
theorem dX7_close_127 : decode cX7_close 127 = .ok (.iload 4, 2) := by decide +kernel
theorem dX7_close_129 : decode cX7_close 129 = .ok (.invokevirtual 77, 3) := by decide +kernel
theorem dX7_close_132 : decode cX7_close 132 = .ok (.invokestatic 65, 3) := by decide +kernel
theorem dX7_close_135 : decode cX7_close 135 = .ok (.invokevirtual 73, 3) := by decide +kernel
theorem dX7_close_138 : decode cX7_close 138 = .ok (.istore 7, 2) := by decide +kernel
theorem dX7_close_140 : decode cX7_close 140 = .ok (.iload_n 2, 1) := by decide +kernel
theorem dX7_close_141 : decode cX7_close 141 = .ok (.ifCond .ne 8, 3) := by decide +kernel
theorem dX7_close_144 : decode cX7_close 144 = .ok (.iload 7, 2) := by decide +kernel
theorem dX7_close_146 : decode cX7_close 146 = .ok (.ifCond .eq 7, 3) := by decide +kernel
theorem dX7_close_149 : decode cX7_close 149 = .ok (.iconst 1, 1) := by decide +kernel
theorem dX7_close_150 : decode cX7_close 150 = .ok (.goto 4, 3) := by decide +kernel
theorem dX7_close_153 : decode cX7_close 153 = .ok (.iconst 0, 1) := by decide +kernel
theorem dX7_close_154 : decode cX7_close 154 = .ok (.istore_n 2, 1) := by decide +kernel
theorem dX7_close_155 : decode cX7_close 155 = .ok (.iinc 6 1, 3) := by decide +kernel
theorem dX7_close_158 : decode cX7_close 158 = .ok (.goto (-58), 3) := by decide +kernel
theorem dX7_close_161 : decode cX7_close 161 = .ok (.iinc 4 1, 3) := by decide +kernel
theorem dX7_close_164 : decode cX7_close 164 = .ok (.goto (-132), 3) := by decide +kernel
theorem dX7_close_167 : decode cX7_close 167 = .ok (.iinc 3 1, 3) := by decide +kernel
theorem dX7_close_170 : decode cX7_close 170 = .ok (.goto (-147), 3) := by decide +kernel
theorem dX7_close_173 : decode cX7_close 173 = .ok (.iload_n 2, 1) := by decide +kernel
theorem dX7_close_174 : decode cX7_close 174 = .ok (.ifCond .eq 16, 3) := by decide +kernel
theorem dX7_close_177 : decode cX7_close 177 = .ok (.aload_n 0, 1) := by decide +kernel
theorem dX7_close_178 : decode cX7_close 178 = .ok (.getfield 13, 3) := by decide +kernel
theorem dX7_close_181 : decode cX7_close 181 = .ok (.iload_n 1, 1) := by decide +kernel
theorem dX7_close_182 : decode cX7_close 182 = .ok (.baload, 1) := by decide +kernel
theorem dX7_close_183 : decode cX7_close 183 = .ok (.ifCond .ne 7, 3) := by decide +kernel
theorem dX7_close_186 : decode cX7_close 186 = .ok (.iconst 1, 1) := by decide +kernel
theorem dX7_close_187 : decode cX7_close 187 = .ok (.goto 4, 3) := by decide +kernel
theorem dX7_close_190 : decode cX7_close 190 = .ok (.iconst 0, 1) := by decide +kernel
theorem dX7_close_191 : decode cX7_close 191 = .ok (.istore_n 2, 1) := by decide +kernel
theorem dX7_close_192 : decode cX7_close 192 = .ok (.goto (-177), 3) := by decide +kernel
theorem dX7_close_195 : decode cX7_close 195 = .ok (.return_, 1) := by decide +kernel
theorem dX7_load_0 : decode cX7_load 0 = .ok (.iconst 0, 1) := by decide +kernel
theorem dX7_load_1 : decode cX7_load 1 = .ok (.istore_n 3, 1) := by decide +kernel
theorem dX7_load_2 : decode cX7_load 2 = .ok (.iload_n 3, 1) := by decide +kernel
theorem dX7_load_3 : decode cX7_load 3 = .ok (.sipush 144, 3) := by decide +kernel
theorem dX7_load_6 : decode cX7_load 6 = .ok (.if_icmp .ge 33, 3) := by decide +kernel
theorem dX7_load_9 : decode cX7_load 9 = .ok (.aload_n 0, 1) := by decide +kernel
theorem dX7_load_10 : decode cX7_load 10 = .ok (.getfield 7, 3) := by decide +kernel
theorem dX7_load_13 : decode cX7_load 13 = .ok (.sipush 144, 3) := by decide +kernel
theorem dX7_load_16 : decode cX7_load 16 = .ok (.iload_n 1, 1) := by decide +kernel
theorem dX7_load_17 : decode cX7_load 17 = .ok (.imul, 1) := by decide +kernel
theorem dX7_load_18 : decode cX7_load 18 = .ok (.iload_n 3, 1) := by decide +kernel
theorem dX7_load_19 : decode cX7_load 19 = .ok (.iadd, 1) := by decide +kernel
theorem dX7_load_20 : decode cX7_load 20 = .ok (.aload_n 0, 1) := by decide +kernel
theorem dX7_load_21 : decode cX7_load 21 = .ok (.getfield 7, 3) := by decide +kernel
theorem dX7_load_24 : decode cX7_load 24 = .ok (.sipush 144, 3) := by decide +kernel
theorem dX7_load_27 : decode cX7_load 27 = .ok (.iload_n 2, 1) := by decide +kernel
theorem dX7_load_28 : decode cX7_load 28 = .ok (.imul, 1) := by decide +kernel
theorem dX7_load_29 : decode cX7_load 29 = .ok (.iload_n 3, 1) := by decide +kernel
theorem dX7_load_30 : decode cX7_load 30 = .ok (.iadd, 1) := by decide +kernel
theorem dX7_load_31 : decode cX7_load 31 = .ok (.laload, 1) := by decide +kernel
theorem dX7_load_32 : decode cX7_load 32 = .ok (.lastore, 1) := by decide +kernel
theorem dX7_load_33 : decode cX7_load 33 = .ok (.iinc 3 1, 3) := by decide +kernel
theorem dX7_load_36 : decode cX7_load 36 = .ok (.goto (-34), 3) := by decide +kernel
theorem dX7_load_39 : decode cX7_load 39 = .ok (.aload_n 0, 1) := by decide +kernel
theorem dX7_load_40 : decode cX7_load 40 = .ok (.getfield 13, 3) := by decide +kernel
theorem dX7_load_43 : decode cX7_load 43 = .ok (.iload_n 1, 1) := by decide +kernel
theorem dX7_load_44 : decode cX7_load 44 = .ok (.aload_n 0, 1) := by decide +kernel
theorem dX7_load_45 : decode cX7_load 45 = .ok (.getfield 13, 3) := by decide +kernel
theorem dX7_load_48 : decode cX7_load 48 = .ok (.iload_n 2, 1) := by decide +kernel
theorem dX7_load_49 : decode cX7_load 49 = .ok (.baload, 1) := by decide +kernel
theorem dX7_load_50 : decode cX7_load 50 = .ok (.bastore, 1) := by decide +kernel
theorem dX7_load_51 : decode cX7_load 51 = .ok (.return_, 1) := by decide +kernel
theorem dX7_all_0 : decode cX7_all 0 = .ok (.iconst 0, 1) := by decide +kernel
theorem dX7_all_1 : decode cX7_all 1 = .ok (.istore_n 2, 1) := by decide +kernel
theorem dX7_all_2 : decode cX7_all 2 = .ok (.iload_n 2, 1) := by decide +kernel
theorem dX7_all_3 : decode cX7_all 3 = .ok (.sipush 144, 3) := by decide +kernel
theorem dX7_all_6 : decode cX7_all 6 = .ok (.if_icmp .ge 24, 3) := by decide +kernel
theorem dX7_all_9 : decode cX7_all 9 = .ok (.aload_n 0, 1) := by decide +kernel
theorem dX7_all_10 : decode cX7_all 10 = .ok (.getfield 7, 3) := by decide +kernel
theorem dX7_all_13 : decode cX7_all 13 = .ok (.sipush 144, 3) := by decide +kernel
theorem dX7_all_16 : decode cX7_all 16 = .ok (.iload_n 1, 1) := by decide +kernel
theorem dX7_all_17 : decode cX7_all 17 = .ok (.imul, 1) := by decide +kernel
theorem dX7_all_18 : decode cX7_all 18 = .ok (.iload_n 2, 1) := by decide +kernel
theorem dX7_all_19 : decode cX7_all 19 = .ok (.iadd, 1) := by decide +kernel
theorem dX7_all_20 : decode cX7_all 20 = .ok (.ldc2_w 45, 3) := by decide +kernel
theorem dX7_all_23 : decode cX7_all 23 = .ok (.lastore, 1) := by decide +kernel
theorem dX7_all_24 : decode cX7_all 24 = .ok (.iinc 2 1, 3) := by decide +kernel
theorem dX7_all_27 : decode cX7_all 27 = .ok (.goto (-25), 3) := by decide +kernel
theorem dX7_all_30 : decode cX7_all 30 = .ok (.aload_n 0, 1) := by decide +kernel
theorem dX7_all_31 : decode cX7_all 31 = .ok (.getfield 13, 3) := by decide +kernel
theorem dX7_all_34 : decode cX7_all 34 = .ok (.iload_n 1, 1) := by decide +kernel
theorem dX7_all_35 : decode cX7_all 35 = .ok (.iconst 0, 1) := by decide +kernel
theorem dX7_all_36 : decode cX7_all 36 = .ok (.bastore, 1) := by decide +kernel
theorem dX7_all_37 : decode cX7_all 37 = .ok (.return_, 1) := by decide +kernel
set_option maxRecDepth 20000 in
theorem ggX7_drop_X7_set : GoodIn wsX7_drop wsX7_set := goodIn_r _ [6, 7, 8, 9, 10, 11, 12, 13, 14, 15, 16, 17, 18, 19, 20] rfl (by decide +kernel)
set_option maxRecDepth 20000 in
theorem gX7_drop_X7_set : GoodIn wsX7_drop (wsV RX7 69 RX7 yX7_set wsX7_set) := goodIn_app (goodIn_of _ (by decide +kernel)) ggX7_drop_X7_set
theorem dX7_drop_0 : decode cX7_drop 0 = .ok (.iconst 0, 1) := by decide +kernel
theorem dX7_drop_1 : decode cX7_drop 1 = .ok (.istore_n 3, 1) := by decide +kernel
theorem dX7_drop_2 : decode cX7_drop 2 = .ok (.iload_n 3, 1) := by decide +kernel
theorem dX7_drop_3 : decode cX7_drop 3 = .ok (.bipush 12, 2) := by decide +kernel
theorem dX7_drop_5 : decode cX7_drop 5 = .ok (.if_icmp .ge 35, 3) := by decide +kernel
theorem dX7_drop_8 : decode cX7_drop 8 = .ok (.aload_n 0, 1) := by decide +kernel
theorem dX7_drop_9 : decode cX7_drop 9 = .ok (.iload_n 1, 1) := by decide +kernel
theorem dX7_drop_10 : decode cX7_drop 10 = .ok (.iconst 2, 1) := by decide +kernel
theorem dX7_drop_11 : decode cX7_drop 11 = .ok (.iload_n 2, 1) := by decide +kernel
theorem dX7_drop_12 : decode cX7_drop 12 = .ok (.imul, 1) := by decide +kernel
theorem dX7_drop_13 : decode cX7_drop 13 = .ok (.iload_n 3, 1) := by decide +kernel
theorem dX7_drop_14 : decode cX7_drop 14 = .ok (.ldc2_w 45, 3) := by decide +kernel
theorem dX7_drop_17 : decode cX7_drop 17 = .ok (.invokevirtual 69, 3) := by decide +kernel
theorem dX7_drop_20 : decode cX7_drop 20 = .ok (.aload_n 0, 1) := by decide +kernel
theorem dX7_drop_21 : decode cX7_drop 21 = .ok (.iload_n 1, 1) := by decide +kernel
theorem dX7_drop_22 : decode cX7_drop 22 = .ok (.iconst 2, 1) := by decide +kernel
theorem dX7_drop_23 : decode cX7_drop 23 = .ok (.iload_n 2, 1) := by decide +kernel
theorem dX7_drop_24 : decode cX7_drop 24 = .ok (.imul, 1) := by decide +kernel
theorem dX7_drop_25 : decode cX7_drop 25 = .ok (.iconst 1, 1) := by decide +kernel
theorem dX7_drop_26 : decode cX7_drop 26 = .ok (.iadd, 1) := by decide +kernel
theorem dX7_drop_27 : decode cX7_drop 27 = .ok (.iload_n 3, 1) := by decide +kernel
theorem dX7_drop_28 : decode cX7_drop 28 = .ok (.ldc2_w 45, 3) := by decide +kernel
theorem dX7_drop_31 : decode cX7_drop 31 = .ok (.invokevirtual 69, 3) := by decide +kernel
theorem dX7_drop_34 : decode cX7_drop 34 = .ok (.iinc 3 1, 3) := by decide +kernel
theorem dX7_drop_37 : decode cX7_drop 37 = .ok (.goto (-35), 3) := by decide +kernel
theorem dX7_drop_40 : decode cX7_drop 40 = .ok (.return_, 1) := by decide +kernel
set_option maxRecDepth 20000 in
theorem ggX7_isAction_X7_isNumber : GoodIn wsX7_isAction wsX7_isNumber := goodIn_r _ [4, 5, 6, 7, 8, 3, 9] rfl (by decide +kernel)
set_option maxRecDepth 20000 in
theorem gX7_isAction_X7_isNumber : GoodIn wsX7_isAction (va_wsS RX7 80 yX7_isNumber wsX7_isNumber) := goodIn_app (goodIn_of _ (by decide +kernel)) ggX7_isAction_X7_isNumber
set_option maxRecDepth 20000 in
theorem ggX7_isAction_X7_isTerm : GoodIn wsX7_isAction wsX7_isTerm := goodIn_r _ [12, 7, 8, 3, 9] rfl (by decide +kernel)
set_option maxRecDepth 20000 in
theorem gX7_isAction_X7_isTerm : GoodIn wsX7_isAction (va_wsS RX7 84 yX7_isTerm wsX7_isTerm) := goodIn_app (goodIn_of _ (by decide +kernel)) ggX7_isAction_X7_isTerm
set_option maxRecDepth 20000 in
theorem ggX7_isAction_X7_minus : GoodIn wsX7_isAction wsX7_minus := goodIn_r _ [15] rfl (by decide +kernel)
set_option maxRecDepth 20000 in
theorem gX7_isAction_X7_minus : GoodIn wsX7_isAction (va_wsS RX7 57 yX7_minus wsX7_minus) := goodIn_app (goodIn_of _ (by decide +kernel)) ggX7_isAction_X7_minus
set_option maxRecDepth 20000 in
theorem ggX7_isAction_X7_isIn : GoodIn wsX7_isAction wsX7_isIn := goodIn_r _ [9] rfl (by decide +kernel)
set_option maxRecDepth 20000 in
theorem gX7_isAction_X7_isIn : GoodIn wsX7_isAction (va_wsS RX7 51 yX7_isIn wsX7_isIn) := goodIn_app (goodIn_of _ (by decide +kernel)) ggX7_isAction_X7_isIn
theorem dX7_isAction_0 : decode cX7_isAction 0 = .ok (.iload_n 3, 1) := by decide +kernel
theorem dX7_isAction_1 : decode cX7_isAction 1 = .ok (.invokestatic 80, 3) := by decide +kernel
theorem dX7_isAction_4 : decode cX7_isAction 4 = .ok (.ifCond .ne 5, 3) := by decide +kernel
theorem dX7_isAction_7 : decode cX7_isAction 7 = .ok (.iconst 0, 1) := by decide +kernel
theorem dX7_isAction_8 : decode cX7_isAction 8 = .ok (.ireturn, 1) := by decide +kernel
theorem dX7_isAction_9 : decode cX7_isAction 9 = .ok (.iload_n 0, 1) := by decide +kernel
theorem dX7_isAction_10 : decode cX7_isAction 10 = .ok (.ifCond .ne 33, 3) := by decide +kernel
theorem dX7_isAction_13 : decode cX7_isAction 13 = .ok (.iload_n 1, 1) := by decide +kernel
theorem dX7_isAction_14 : decode cX7_isAction 14 = .ok (.invokestatic 84, 3) := by decide +kernel
theorem dX7_isAction_17 : decode cX7_isAction 17 = .ok (.ifCond .eq 22, 3) := by decide +kernel
theorem dX7_isAction_20 : decode cX7_isAction 20 = .ok (.iload_n 2, 1) := by decide +kernel
theorem dX7_isAction_21 : decode cX7_isAction 21 = .ok (.invokestatic 84, 3) := by decide +kernel
theorem dX7_isAction_24 : decode cX7_isAction 24 = .ok (.ifCond .eq 15, 3) := by decide +kernel
theorem dX7_isAction_27 : decode cX7_isAction 27 = .ok (.iload_n 1, 1) := by decide +kernel
theorem dX7_isAction_28 : decode cX7_isAction 28 = .ok (.iload_n 2, 1) := by decide +kernel
theorem dX7_isAction_29 : decode cX7_isAction 29 = .ok (.invokestatic 57, 3) := by decide +kernel
theorem dX7_isAction_32 : decode cX7_isAction 32 = .ok (.if_icmp .eq 7, 3) := by decide +kernel
theorem dX7_isAction_35 : decode cX7_isAction 35 = .ok (.iconst 1, 1) := by decide +kernel
theorem dX7_isAction_36 : decode cX7_isAction 36 = .ok (.goto 67, 3) := by decide +kernel
theorem dX7_isAction_39 : decode cX7_isAction 39 = .ok (.iconst 0, 1) := by decide +kernel
theorem dX7_isAction_40 : decode cX7_isAction 40 = .ok (.goto 63, 3) := by decide +kernel
theorem dX7_isAction_43 : decode cX7_isAction 43 = .ok (.iload_n 0, 1) := by decide +kernel
theorem dX7_isAction_44 : decode cX7_isAction 44 = .ok (.iconst 1, 1) := by decide +kernel
theorem dX7_isAction_45 : decode cX7_isAction 45 = .ok (.if_icmp .ne 27, 3) := by decide +kernel
theorem dX7_isAction_48 : decode cX7_isAction 48 = .ok (.iload_n 1, 1) := by decide +kernel
theorem dX7_isAction_49 : decode cX7_isAction 49 = .ok (.iconst 0, 1) := by decide +kernel
theorem dX7_isAction_50 : decode cX7_isAction 50 = .ok (.iconst 5, 1) := by decide +kernel
theorem dX7_isAction_51 : decode cX7_isAction 51 = .ok (.invokestatic 51, 3) := by decide +kernel
theorem dX7_isAction_54 : decode cX7_isAction 54 = .ok (.ifCond .eq 14, 3) := by decide +kernel
theorem dX7_isAction_57 : decode cX7_isAction 57 = .ok (.iload_n 2, 1) := by decide +kernel
theorem dX7_isAction_58 : decode cX7_isAction 58 = .ok (.invokestatic 84, 3) := by decide +kernel
theorem dX7_isAction_61 : decode cX7_isAction 61 = .ok (.ifCond .eq 7, 3) := by decide +kernel
theorem dX7_isAction_64 : decode cX7_isAction 64 = .ok (.iconst 1, 1) := by decide +kernel
theorem dX7_isAction_65 : decode cX7_isAction 65 = .ok (.goto 38, 3) := by decide +kernel
theorem dX7_isAction_68 : decode cX7_isAction 68 = .ok (.iconst 0, 1) := by decide +kernel
theorem dX7_isAction_69 : decode cX7_isAction 69 = .ok (.goto 34, 3) := by decide +kernel
theorem dX7_isAction_72 : decode cX7_isAction 72 = .ok (.iload_n 0, 1) := by decide +kernel
theorem dX7_isAction_73 : decode cX7_isAction 73 = .ok (.iconst 2, 1) := by decide +kernel
theorem dX7_isAction_74 : decode cX7_isAction 74 = .ok (.if_icmp .ne 28, 3) := by decide +kernel
theorem dX7_isAction_77 : decode cX7_isAction 77 = .ok (.iload_n 1, 1) := by decide +kernel
theorem dX7_isAction_78 : decode cX7_isAction 78 = .ok (.iconst 0, 1) := by decide +kernel
theorem dX7_isAction_79 : decode cX7_isAction 79 = .ok (.iconst 5, 1) := by decide +kernel
theorem dX7_isAction_80 : decode cX7_isAction 80 = .ok (.invokestatic 51, 3) := by decide +kernel
theorem dX7_isAction_83 : decode cX7_isAction 83 = .ok (.ifCond .eq 19, 3) := by decide +kernel
theorem dX7_isAction_86 : decode cX7_isAction 86 = .ok (.iload_n 2, 1) := by decide +kernel
theorem dX7_isAction_87 : decode cX7_isAction 87 = .ok (.invokestatic 80, 3) := by decide +kernel
theorem dX7_isAction_90 : decode cX7_isAction 90 = .ok (.ifCond .eq 12, 3) := by decide +kernel
theorem dX7_isAction_93 : decode cX7_isAction 93 = .ok (.iload_n 2, 1) := by decide +kernel
theorem dX7_isAction_94 : decode cX7_isAction 94 = .ok (.iload_n 3, 1) := by decide +kernel
theorem dX7_isAction_95 : decode cX7_isAction 95 = .ok (.if_icmp .gt 7, 3) := by decide +kernel
theorem dX7_isAction_98 : decode cX7_isAction 98 = .ok (.iconst 1, 1) := by decide +kernel
theorem dX7_isAction_99 : decode cX7_isAction 99 = .ok (.goto 4, 3) := by decide +kernel
theorem dX7_isAction_102 : decode cX7_isAction 102 = .ok (.iconst 0, 1) := by decide +kernel
theorem dX7_isAction_103 : decode cX7_isAction 103 = .ok (.ireturn, 1) := by decide +kernel
set_option maxRecDepth 20000 in
theorem ggX7_shift_X7_load : GoodIn wsX7_shift wsX7_load := goodIn_r _ [5, 6, 7, 23, 24, 25, 26, 27, 28, 29, 30, 31, 32, 33, 34, 35] rfl (by decide +kernel)
set_option maxRecDepth 20000 in
theorem gX7_shift_X7_load : GoodIn wsX7_shift (wsV RX7 87 RX7 yX7_load wsX7_load) := goodIn_app (goodIn_of _ (by decide +kernel)) ggX7_shift_X7_load
set_option maxRecDepth 20000 in
theorem ggX7_shift_X7_get : GoodIn wsX7_shift wsX7_get := goodIn_r _ [11, 6, 23, 24, 25, 26, 27, 28, 29, 30, 31, 32, 33, 34, 35] rfl (by decide +kernel)
set_option maxRecDepth 20000 in
theorem gX7_shift_X7_get : GoodIn wsX7_shift (wsV RX7 61 RX7 yX7_get wsX7_get) := goodIn_app (goodIn_of _ (by decide +kernel)) ggX7_shift_X7_get
set_option maxRecDepth 20000 in
theorem ggX7_shift_X7_sum : GoodIn wsX7_shift wsX7_sum := goodIn_r _ [14, 15] rfl (by decide +kernel)
set_option maxRecDepth 20000 in
theorem gX7_shift_X7_sum : GoodIn wsX7_shift (va_wsS RX7 65 yX7_sum wsX7_sum) := goodIn_app (goodIn_of _ (by decide +kernel)) ggX7_shift_X7_sum
set_option maxRecDepth 20000 in
theorem ggX7_shift_X7_set : GoodIn wsX7_shift wsX7_set := goodIn_r _ [19, 6, 23, 24, 25, 26, 27, 28, 29, 30, 31, 32, 33, 34, 35] rfl (by decide +kernel)
set_option maxRecDepth 20000 in
theorem gX7_shift_X7_set : GoodIn wsX7_shift (wsV RX7 69 RX7 yX7_set wsX7_set) := goodIn_app (goodIn_of _ (by decide +kernel)) ggX7_shift_X7_set
set_option maxRecDepth 20000 in
theorem ggX7_shift_X7_minus : GoodIn wsX7_shift wsX7_minus := goodIn_r _ [22] rfl (by decide +kernel)
set_option maxRecDepth 20000 in
theorem gX7_shift_X7_minus : GoodIn wsX7_shift (va_wsS RX7 57 yX7_minus wsX7_minus) := goodIn_app (goodIn_of _ (by decide +kernel)) ggX7_shift_X7_minus
theorem dX7_shift_0 : decode cX7_shift 0 = .ok (.aload_n 0, 1) := by decide +kernel
theorem dX7_shift_1 : decode cX7_shift 1 = .ok (.bipush 24, 2) := by decide +kernel
theorem dX7_shift_3 : decode cX7_shift 3 = .ok (.iload_n 1, 1) := by decide +kernel
theorem dX7_shift_4 : decode cX7_shift 4 = .ok (.invokevirtual 87, 3) := by decide +kernel
theorem dX7_shift_7 : decode cX7_shift 7 = .ok (.iconst 2, 1) := by decide +kernel
theorem dX7_shift_8 : decode cX7_shift 8 = .ok (.iload_n 2, 1) := by decide +kernel
theorem dX7_shift_9 : decode cX7_shift 9 = .ok (.imul, 1) := by decide +kernel
theorem dX7_shift_10 : decode cX7_shift 10 = .ok (.istore 6, 2) := by decide +kernel
theorem dX7_shift_12 : decode cX7_shift 12 = .ok (.iconst 2, 1) := by decide +kernel
theorem dX7_shift_13 : decode cX7_shift 13 = .ok (.iload_n 2, 1) := by decide +kernel
theorem dX7_shift_14 : decode cX7_shift 14 = .ok (.imul, 1) := by decide +kernel
theorem dX7_shift_15 : decode cX7_shift 15 = .ok (.iconst 1, 1) := by decide +kernel
theorem dX7_shift_16 : decode cX7_shift 16 = .ok (.iadd, 1) := by decide +kernel
theorem dX7_shift_17 : decode cX7_shift 17 = .ok (.istore 7, 2) := by decide +kernel
theorem dX7_shift_19 : decode cX7_shift 19 = .ok (.iload_n 3, 1) := by decide +kernel
theorem dX7_shift_20 : decode cX7_shift 20 = .ok (.iload 6, 2) := by decide +kernel
theorem dX7_shift_22 : decode cX7_shift 22 = .ok (.if_icmp .ne 8, 3) := by decide +kernel
theorem dX7_shift_25 : decode cX7_shift 25 = .ok (.iload 6, 2) := by decide +kernel
theorem dX7_shift_27 : decode cX7_shift 27 = .ok (.goto 5, 3) := by decide +kernel
theorem dX7_shift_30 : decode cX7_shift 30 = .ok (.iload 7, 2) := by decide +kernel
theorem dX7_shift_32 : decode cX7_shift 32 = .ok (.istore 8, 2) := by decide +kernel
theorem dX7_shift_34 : decode cX7_shift 34 = .ok (.iconst 0, 1) := by decide +kernel
theorem dX7_shift_35 : decode cX7_shift 35 = .ok (.istore 9, 2) := by decide +kernel
theorem dX7_shift_37 : decode cX7_shift 37 = .ok (.iload 9, 2) := by decide +kernel
theorem dX7_shift_39 : decode cX7_shift 39 = .ok (.bipush 12, 2) := by decide +kernel
theorem dX7_shift_41 : decode cX7_shift 41 = .ok (.if_icmp .ge 75, 3) := by decide +kernel
theorem dX7_shift_44 : decode cX7_shift 44 = .ok (.iload 9, 2) := by decide +kernel
theorem dX7_shift_46 : decode cX7_shift 46 = .ok (.iload 6, 2) := by decide +kernel
theorem dX7_shift_48 : decode cX7_shift 48 = .ok (.if_icmp .eq 62, 3) := by decide +kernel
theorem dX7_shift_51 : decode cX7_shift 51 = .ok (.iload 9, 2) := by decide +kernel
theorem dX7_shift_53 : decode cX7_shift 53 = .ok (.iload 7, 2) := by decide +kernel
theorem dX7_shift_55 : decode cX7_shift 55 = .ok (.if_icmp .eq 55, 3) := by decide +kernel
theorem dX7_shift_58 : decode cX7_shift 58 = .ok (.aload_n 0, 1) := by decide +kernel
theorem dX7_shift_59 : decode cX7_shift 59 = .ok (.iload_n 1, 1) := by decide +kernel
theorem dX7_shift_60 : decode cX7_shift 60 = .ok (.iload 6, 2) := by decide +kernel
theorem dX7_shift_62 : decode cX7_shift 62 = .ok (.iload 9, 2) := by decide +kernel
theorem dX7_shift_64 : decode cX7_shift 64 = .ok (.aload_n 0, 1) := by decide +kernel
theorem dX7_shift_65 : decode cX7_shift 65 = .ok (.bipush 24, 2) := by decide +kernel
theorem dX7_shift_67 : decode cX7_shift 67 = .ok (.iload 8, 2) := by decide +kernel
theorem dX7_shift_69 : decode cX7_shift 69 = .ok (.iload 9, 2) := by decide +kernel
theorem dX7_shift_71 : decode cX7_shift 71 = .ok (.invokevirtual 61, 3) := by decide +kernel
theorem dX7_shift_74 : decode cX7_shift 74 = .ok (.lload 4, 2) := by decide +kernel
theorem dX7_shift_76 : decode cX7_shift 76 = .ok (.invokestatic 65, 3) := by decide +kernel
theorem dX7_shift_79 : decode cX7_shift 79 = .ok (.invokevirtual 69, 3) := by decide +kernel
theorem dX7_shift_82 : decode cX7_shift 82 = .ok (.aload_n 0, 1) := by decide +kernel
theorem dX7_shift_83 : decode cX7_shift 83 = .ok (.iload_n 1, 1) := by decide +kernel
theorem dX7_shift_84 : decode cX7_shift 84 = .ok (.iload 7, 2) := by decide +kernel
theorem dX7_shift_86 : decode cX7_shift 86 = .ok (.iload 9, 2) := by decide +kernel
theorem dX7_shift_88 : decode cX7_shift 88 = .ok (.aload_n 0, 1) := by decide +kernel
theorem dX7_shift_89 : decode cX7_shift 89 = .ok (.bipush 24, 2) := by decide +kernel
theorem dX7_shift_91 : decode cX7_shift 91 = .ok (.iload 8, 2) := by decide +kernel
theorem dX7_shift_93 : decode cX7_shift 93 = .ok (.invokestatic 57, 3) := by decide +kernel
theorem dX7_shift_96 : decode cX7_shift 96 = .ok (.iload 9, 2) := by decide +kernel
theorem dX7_shift_98 : decode cX7_shift 98 = .ok (.invokevirtual 61, 3) := by decide +kernel
theorem dX7_shift_101 : decode cX7_shift 101 = .ok (.lload 4, 2) := by decide +kernel
theorem dX7_shift_103 : decode cX7_shift 103 = .ok (.lneg, 1) := by decide +kernel
theorem dX7_shift_104 : decode cX7_shift 104 = .ok (.invokestatic 65, 3) := by decide +kernel
theorem dX7_shift_107 : decode cX7_shift 107 = .ok (.invokevirtual 69, 3) := by decide +kernel
theorem dX7_shift_110 : decode cX7_shift 110 = .ok (.iinc 9 1, 3) := by decide +kernel
theorem dX7_shift_113 : decode cX7_shift 113 = .ok (.goto (-76), 3) := by decide +kernel
theorem dX7_shift_116 : decode cX7_shift 116 = .ok (.aload_n 0, 1) := by decide +kernel
theorem dX7_shift_117 : decode cX7_shift 117 = .ok (.iload_n 1, 1) := by decide +kernel
theorem dX7_shift_118 : decode cX7_shift 118 = .ok (.iload 6, 2) := by decide +kernel
theorem dX7_shift_120 : decode cX7_shift 120 = .ok (.iload 6, 2) := by decide +kernel
theorem dX7_shift_122 : decode cX7_shift 122 = .ok (.aload_n 0, 1) := by decide +kernel
theorem dX7_shift_123 : decode cX7_shift 123 = .ok (.bipush 24, 2) := by decide +kernel
theorem dX7_shift_125 : decode cX7_shift 125 = .ok (.iload 8, 2) := by decide +kernel
theorem dX7_shift_127 : decode cX7_shift 127 = .ok (.iload 8, 2) := by decide +kernel
theorem dX7_shift_129 : decode cX7_shift 129 = .ok (.invokevirtual 61, 3) := by decide +kernel
theorem dX7_shift_132 : decode cX7_shift 132 = .ok (.lload 4, 2) := by decide +kernel
theorem dX7_shift_134 : decode cX7_shift 134 = .ok (.invokestatic 65, 3) := by decide +kernel
theorem dX7_shift_137 : decode cX7_shift 137 = .ok (.invokevirtual 69, 3) := by decide +kernel
theorem dX7_shift_140 : decode cX7_shift 140 = .ok (.aload_n 0, 1) := by decide +kernel
theorem dX7_shift_141 : decode cX7_shift 141 = .ok (.iload_n 1, 1) := by decide +kernel
theorem dX7_shift_142 : decode cX7_shift 142 = .ok (.iload 7, 2) := by decide +kernel
theorem dX7_shift_144 : decode cX7_shift 144 = .ok (.iload 7, 2) := by decide +kernel
theorem dX7_shift_146 : decode cX7_shift 146 = .ok (.aload_n 0, 1) := by decide +kernel
theorem dX7_shift_147 : decode cX7_shift 147 = .ok (.bipush 24, 2) := by decide +kernel
theorem dX7_shift_149 : decode cX7_shift 149 = .ok (.iload 8, 2) := by decide +kernel
theorem dX7_shift_151 : decode cX7_shift 151 = .ok (.invokestatic 57, 3) := by decide +kernel
theorem dX7_shift_154 : decode cX7_shift 154 = .ok (.iload 8, 2) := by decide +kernel
theorem dX7_shift_156 : decode cX7_shift 156 = .ok (.invokestatic 57, 3) := by decide +kernel
theorem dX7_shift_159 : decode cX7_shift 159 = .ok (.invokevirtual 61, 3) := by decide +kernel
theorem dX7_shift_162 : decode cX7_shift 162 = .ok (.lload 4, 2) := by decide +kernel
theorem dX7_shift_164 : decode cX7_shift 164 = .ok (.lneg, 1) := by decide +kernel
theorem dX7_shift_165 : decode cX7_shift 165 = .ok (.invokestatic 65, 3) := by decide +kernel
theorem dX7_shift_168 : decode cX7_shift 168 = .ok (.invokevirtual 69, 3) := by decide +kernel
theorem dX7_shift_171 : decode cX7_shift 171 = .ok (.return_, 1) := by decide +kernel
set_option maxRecDepth 20000 in
theorem ggX7_make_X7_get : GoodIn wsX7_make wsX7_get := goodIn_r _ [6, 7, 43, 44, 45, 46, 47, 48, 49, 50, 51, 52, 53, 54, 55] rfl (by decide +kernel)
set_option maxRecDepth 20000 in
theorem gX7_make_X7_get : GoodIn wsX7_make (wsV RX7 61 RX7 yX7_get wsX7_get) := goodIn_app (goodIn_of _ (by decide +kernel)) ggX7_make_X7_get
set_option maxRecDepth 20000 in
theorem ggX7_make_X7_set : GoodIn wsX7_make wsX7_set := goodIn_r _ [11, 7, 43, 44, 45, 46, 47, 48, 49, 50, 51, 52, 53, 54, 55] rfl (by decide +kernel)
set_option maxRecDepth 20000 in
theorem gX7_make_X7_set : GoodIn wsX7_make (wsV RX7 69 RX7 yX7_set wsX7_set) := goodIn_app (goodIn_of _ (by decide +kernel)) ggX7_make_X7_set
set_option maxRecDepth 20000 in
theorem ggX7_make_X7_shift : GoodIn wsX7_make wsX7_shift := goodIn_r _ [15, 16, 17, 18, 5, 19, 7, 1, 2, 3, 4, 6, 20, 21, 22, 23, 8, 9, 10, 11, 24, 25, 26, 43, 44, 45, 46, 47, 48, 49, 50, 51, 52, 53, 54, 55] rfl (by decide +kernel)
set_option maxRecDepth 20000 in
theorem gX7_make_X7_shift : GoodIn wsX7_make (wsV RX7 91 RX7 yX7_shift wsX7_shift) := goodIn_app (goodIn_of _ (by decide +kernel)) ggX7_make_X7_shift
set_option maxRecDepth 20000 in
theorem ggX7_make_X7_drop : GoodIn wsX7_make wsX7_drop := goodIn_r _ [30, 23, 8, 9, 10, 5, 11, 7, 43, 44, 45, 46, 47, 48, 49, 50, 51, 52, 53, 54, 55] rfl (by decide +kernel)
set_option maxRecDepth 20000 in
theorem gX7_make_X7_drop : GoodIn wsX7_make (wsV RX7 94 RX7 yX7_drop wsX7_drop) := goodIn_app (goodIn_of _ (by decide +kernel)) ggX7_make_X7_drop
set_option maxRecDepth 20000 in
theorem ggX7_make_X7_minus : GoodIn wsX7_make wsX7_minus := goodIn_r _ [26] rfl (by decide +kernel)
set_option maxRecDepth 20000 in
theorem gX7_make_X7_minus : GoodIn wsX7_make (va_wsS RX7 57 yX7_minus wsX7_minus) := goodIn_app (goodIn_of _ (by decide +kernel)) ggX7_make_X7_minus
set_option maxRecDepth 20000 in
theorem ggX7_make_X7_close : GoodIn wsX7_make wsX7_close := goodIn_r _ [34, 1, 2, 3, 4, 5, 6, 7, 20, 21, 22, 23, 35, 36, 37, 38, 24, 25, 26, 8, 9, 10, 11, 39, 40, 41, 42, 43, 44, 45, 46, 47, 48, 49, 50, 51, 52, 53, 54, 55] rfl (by decide +kernel)
set_option maxRecDepth 20000 in
theorem gX7_make_X7_close : GoodIn wsX7_make (wsV RX7 97 RX7 yX7_close wsX7_close) := goodIn_app (goodIn_of _ (by decide +kernel)) ggX7_make_X7_close
theorem dX7_make_0 : decode cX7_make 0 = .ok (.aload_n 0, 1) := by decide +kernel
theorem dX7_make_1 : decode cX7_make 1 = .ok (.getfield 13, 3) := by decide +kernel
theorem dX7_make_4 : decode cX7_make 4 = .ok (.iload_n 1, 1) := by decide +kernel
theorem dX7_make_5 : decode cX7_make 5 = .ok (.baload, 1) := by decide +kernel
theorem dX7_make_6 : decode cX7_make 6 = .ok (.ifCond .eq 4, 3) := by decide +kernel
theorem dX7_make_9 : decode cX7_make 9 = .ok (.return_, 1) := by decide +kernel
theorem dX7_make_10 : decode cX7_make 10 = .ok (.iload_n 2, 1) := by decide +kernel
theorem dX7_make_11 : decode cX7_make 11 = .ok (.ifCond .ne 32, 3) := by decide +kernel
theorem dX7_make_14 : decode cX7_make 14 = .ok (.iload 5, 2) := by decide +kernel
theorem dX7_make_16 : decode cX7_make 16 = .ok (.i2l, 1) := by decide +kernel
theorem dX7_make_17 : decode cX7_make 17 = .ok (.aload_n 0, 1) := by decide +kernel
theorem dX7_make_18 : decode cX7_make 18 = .ok (.iload_n 1, 1) := by decide +kernel
theorem dX7_make_19 : decode cX7_make 19 = .ok (.iload_n 3, 1) := by decide +kernel
theorem dX7_make_20 : decode cX7_make 20 = .ok (.iload 4, 2) := by decide +kernel
theorem dX7_make_22 : decode cX7_make 22 = .ok (.invokevirtual 61, 3) := by decide +kernel
theorem dX7_make_25 : decode cX7_make 25 = .ok (.lcmp, 1) := by decide +kernel
theorem dX7_make_26 : decode cX7_make 26 = .ok (.ifCond .ge 129, 3) := by decide +kernel
theorem dX7_make_29 : decode cX7_make 29 = .ok (.aload_n 0, 1) := by decide +kernel
theorem dX7_make_30 : decode cX7_make 30 = .ok (.iload_n 1, 1) := by decide +kernel
theorem dX7_make_31 : decode cX7_make 31 = .ok (.iload_n 3, 1) := by decide +kernel
theorem dX7_make_32 : decode cX7_make 32 = .ok (.iload 4, 2) := by decide +kernel
theorem dX7_make_34 : decode cX7_make 34 = .ok (.iload 5, 2) := by decide +kernel
theorem dX7_make_36 : decode cX7_make 36 = .ok (.i2l, 1) := by decide +kernel
theorem dX7_make_37 : decode cX7_make 37 = .ok (.invokevirtual 69, 3) := by decide +kernel
theorem dX7_make_40 : decode cX7_make 40 = .ok (.goto 115, 3) := by decide +kernel
theorem dX7_make_43 : decode cX7_make 43 = .ok (.iload_n 2, 1) := by decide +kernel
theorem dX7_make_44 : decode cX7_make 44 = .ok (.iconst 1, 1) := by decide +kernel
theorem dX7_make_45 : decode cX7_make 45 = .ok (.if_icmp .ne 25, 3) := by decide +kernel
theorem dX7_make_48 : decode cX7_make 48 = .ok (.iload 4, 2) := by decide +kernel
theorem dX7_make_50 : decode cX7_make 50 = .ok (.iconst 2, 1) := by decide +kernel
theorem dX7_make_51 : decode cX7_make 51 = .ok (.idiv, 1) := by decide +kernel
theorem dX7_make_52 : decode cX7_make 52 = .ok (.iload_n 3, 1) := by decide +kernel
theorem dX7_make_53 : decode cX7_make 53 = .ok (.if_icmp .ne 17, 3) := by decide +kernel
theorem dX7_make_56 : decode cX7_make 56 = .ok (.aload_n 0, 1) := by decide +kernel
theorem dX7_make_57 : decode cX7_make 57 = .ok (.iload_n 1, 1) := by decide +kernel
theorem dX7_make_58 : decode cX7_make 58 = .ok (.iload_n 3, 1) := by decide +kernel
theorem dX7_make_59 : decode cX7_make 59 = .ok (.iload 4, 2) := by decide +kernel
theorem dX7_make_61 : decode cX7_make 61 = .ok (.iload 5, 2) := by decide +kernel
theorem dX7_make_63 : decode cX7_make 63 = .ok (.i2l, 1) := by decide +kernel
theorem dX7_make_64 : decode cX7_make 64 = .ok (.invokevirtual 91, 3) := by decide +kernel
theorem dX7_make_67 : decode cX7_make 67 = .ok (.goto 88, 3) := by decide +kernel
theorem dX7_make_70 : decode cX7_make 70 = .ok (.iload_n 2, 1) := by decide +kernel
theorem dX7_make_71 : decode cX7_make 71 = .ok (.iconst 1, 1) := by decide +kernel
theorem dX7_make_72 : decode cX7_make 72 = .ok (.if_icmp .ne 44, 3) := by decide +kernel
theorem dX7_make_75 : decode cX7_make 75 = .ok (.aload_n 0, 1) := by decide +kernel
theorem dX7_make_76 : decode cX7_make 76 = .ok (.iload_n 1, 1) := by decide +kernel
theorem dX7_make_77 : decode cX7_make 77 = .ok (.iload_n 3, 1) := by decide +kernel
theorem dX7_make_78 : decode cX7_make 78 = .ok (.invokevirtual 94, 3) := by decide +kernel
theorem dX7_make_81 : decode cX7_make 81 = .ok (.aload_n 0, 1) := by decide +kernel
theorem dX7_make_82 : decode cX7_make 82 = .ok (.iload_n 1, 1) := by decide +kernel
theorem dX7_make_83 : decode cX7_make 83 = .ok (.iconst 2, 1) := by decide +kernel
theorem dX7_make_84 : decode cX7_make 84 = .ok (.iload_n 3, 1) := by decide +kernel
theorem dX7_make_85 : decode cX7_make 85 = .ok (.imul, 1) := by decide +kernel
theorem dX7_make_86 : decode cX7_make 86 = .ok (.iload 4, 2) := by decide +kernel
theorem dX7_make_88 : decode cX7_make 88 = .ok (.invokestatic 57, 3) := by decide +kernel
theorem dX7_make_91 : decode cX7_make 91 = .ok (.iload 5, 2) := by decide +kernel
theorem dX7_make_93 : decode cX7_make 93 = .ok (.i2l, 1) := by decide +kernel
theorem dX7_make_94 : decode cX7_make 94 = .ok (.invokevirtual 69, 3) := by decide +kernel
theorem dX7_make_97 : decode cX7_make 97 = .ok (.aload_n 0, 1) := by decide +kernel
theorem dX7_make_98 : decode cX7_make 98 = .ok (.iload_n 1, 1) := by decide +kernel
theorem dX7_make_99 : decode cX7_make 99 = .ok (.iconst 2, 1) := by decide +kernel
theorem dX7_make_100 : decode cX7_make 100 = .ok (.iload_n 3, 1) := by decide +kernel
theorem dX7_make_101 : decode cX7_make 101 = .ok (.imul, 1) := by decide +kernel
theorem dX7_make_102 : decode cX7_make 102 = .ok (.iconst 1, 1) := by decide +kernel
theorem dX7_make_103 : decode cX7_make 103 = .ok (.iadd, 1) := by decide +kernel
theorem dX7_make_104 : decode cX7_make 104 = .ok (.iload 4, 2) := by decide +kernel
theorem dX7_make_106 : decode cX7_make 106 = .ok (.iload 5, 2) := by decide +kernel
theorem dX7_make_108 : decode cX7_make 108 = .ok (.i2l, 1) := by decide +kernel
theorem dX7_make_109 : decode cX7_make 109 = .ok (.lneg, 1) := by decide +kernel
theorem dX7_make_110 : decode cX7_make 110 = .ok (.invokevirtual 69, 3) := by decide +kernel
theorem dX7_make_113 : decode cX7_make 113 = .ok (.goto 42, 3) := by decide +kernel
theorem dX7_make_116 : decode cX7_make 116 = .ok (.aload_n 0, 1) := by decide +kernel
theorem dX7_make_117 : decode cX7_make 117 = .ok (.iload_n 1, 1) := by decide +kernel
theorem dX7_make_118 : decode cX7_make 118 = .ok (.iload_n 3, 1) := by decide +kernel
theorem dX7_make_119 : decode cX7_make 119 = .ok (.invokevirtual 94, 3) := by decide +kernel
theorem dX7_make_122 : decode cX7_make 122 = .ok (.aload_n 0, 1) := by decide +kernel
theorem dX7_make_123 : decode cX7_make 123 = .ok (.iload_n 1, 1) := by decide +kernel
theorem dX7_make_124 : decode cX7_make 124 = .ok (.iconst 2, 1) := by decide +kernel
theorem dX7_make_125 : decode cX7_make 125 = .ok (.iload_n 3, 1) := by decide +kernel
theorem dX7_make_126 : decode cX7_make 126 = .ok (.imul, 1) := by decide +kernel
theorem dX7_make_127 : decode cX7_make 127 = .ok (.iconst 2, 1) := by decide +kernel
theorem dX7_make_128 : decode cX7_make 128 = .ok (.iload_n 3, 1) := by decide +kernel
theorem dX7_make_129 : decode cX7_make 129 = .ok (.imul, 1) := by decide +kernel
theorem dX7_make_130 : decode cX7_make 130 = .ok (.iload 5, 2) := by decide +kernel
theorem dX7_make_132 : decode cX7_make 132 = .ok (.i2l, 1) := by decide +kernel
theorem dX7_make_133 : decode cX7_make 133 = .ok (.invokevirtual 69, 3) := by decide +kernel
theorem dX7_make_136 : decode cX7_make 136 = .ok (.aload_n 0, 1) := by decide +kernel
theorem dX7_make_137 : decode cX7_make 137 = .ok (.iload_n 1, 1) := by decide +kernel
theorem dX7_make_138 : decode cX7_make 138 = .ok (.iconst 2, 1) := by decide +kernel
theorem dX7_make_139 : decode cX7_make 139 = .ok (.iload_n 3, 1) := by decide +kernel
theorem dX7_make_140 : decode cX7_make 140 = .ok (.imul, 1) := by decide +kernel
theorem dX7_make_141 : decode cX7_make 141 = .ok (.iconst 1, 1) := by decide +kernel
theorem dX7_make_142 : decode cX7_make 142 = .ok (.iadd, 1) := by decide +kernel
theorem dX7_make_143 : decode cX7_make 143 = .ok (.iconst 2, 1) := by decide +kernel
theorem dX7_make_144 : decode cX7_make 144 = .ok (.iload_n 3, 1) := by decide +kernel
theorem dX7_make_145 : decode cX7_make 145 = .ok (.imul, 1) := by decide +kernel
theorem dX7_make_146 : decode cX7_make 146 = .ok (.iconst 1, 1) := by decide +kernel
theorem dX7_make_147 : decode cX7_make 147 = .ok (.iadd, 1) := by decide +kernel
theorem dX7_make_148 : decode cX7_make 148 = .ok (.iload 4, 2) := by decide +kernel
theorem dX7_make_150 : decode cX7_make 150 = .ok (.i2l, 1) := by decide +kernel
theorem dX7_make_151 : decode cX7_make 151 = .ok (.lneg, 1) := by decide +kernel
theorem dX7_make_152 : decode cX7_make 152 = .ok (.invokevirtual 69, 3) := by decide +kernel
theorem dX7_make_155 : decode cX7_make 155 = .ok (.aload_n 0, 1) := by decide +kernel
theorem dX7_make_156 : decode cX7_make 156 = .ok (.iload_n 1, 1) := by decide +kernel
theorem dX7_make_157 : decode cX7_make 157 = .ok (.invokevirtual 97, 3) := by decide +kernel
theorem dX7_make_160 : decode cX7_make 160 = .ok (.return_, 1) := by decide +kernel
set_option maxRecDepth 20000 in
theorem ggX7_act_X7_isSlot : GoodIn wsX7_act wsX7_isSlot := goodIn_r _ [5, 6, 7, 4, 8] rfl (by decide +kernel)
set_option maxRecDepth 20000 in
theorem gX7_act_X7_isSlot : GoodIn wsX7_act (va_wsS RX7 101 yX7_isSlot wsX7_isSlot) := goodIn_app (goodIn_of _ (by decide +kernel)) ggX7_act_X7_isSlot
set_option maxRecDepth 20000 in
theorem ggX7_act_X7_isAction : GoodIn wsX7_act wsX7_isAction := goodIn_r _ [11, 12, 13, 4, 14, 15, 16, 6, 7, 8, 17, 18, 19, 20, 21, 22] rfl (by decide +kernel)
set_option maxRecDepth 20000 in
theorem gX7_act_X7_isAction : GoodIn wsX7_act (va_wsS RX7 104 yX7_isAction wsX7_isAction) := goodIn_app (goodIn_of _ (by decide +kernel)) ggX7_act_X7_isAction
set_option maxRecDepth 20000 in
theorem ggX7_act_X7_refused : GoodIn wsX7_act wsX7_refused := goodIn_r _ [26, 27, 69, 70, 71, 72, 73, 74, 75, 76, 77, 78, 79, 80, 81] rfl (by decide +kernel)
set_option maxRecDepth 20000 in
theorem gX7_act_X7_refused : GoodIn wsX7_act (wsV RX7 108 RX7 yX7_refused wsX7_refused) := goodIn_app (goodIn_of _ (by decide +kernel)) ggX7_act_X7_refused
set_option maxRecDepth 20000 in
theorem ggX7_act_X7_make : GoodIn wsX7_act wsX7_make := goodIn_r _ [31, 1, 32, 33, 34, 4, 35, 36, 37, 38, 39, 40, 41, 42, 43, 44, 45, 46, 47, 48, 49, 50, 51, 52, 20, 21, 22, 53, 54, 55, 56, 57, 58, 59, 60, 61, 62, 63, 64, 65, 66, 67, 68, 69, 70, 71, 72, 73, 74, 75, 76, 77, 78, 79, 80, 81] rfl (by decide +kernel)
set_option maxRecDepth 20000 in
theorem gX7_act_X7_make : GoodIn wsX7_act (wsV RX7 111 RX7 yX7_make wsX7_make) := goodIn_app (goodIn_of _ (by decide +kernel)) ggX7_act_X7_make
theorem dX7_act_0 : decode cX7_act 0 = .ok (.aload_n 0, 1) := by decide +kernel
theorem dX7_act_1 : decode cX7_act 1 = .ok (.iload_n 1, 1) := by decide +kernel
theorem dX7_act_2 : decode cX7_act 2 = .ok (.invokestatic 101, 3) := by decide +kernel
theorem dX7_act_5 : decode cX7_act 5 = .ok (.ifCond .eq 19, 3) := by decide +kernel
theorem dX7_act_8 : decode cX7_act 8 = .ok (.iload_n 2, 1) := by decide +kernel
theorem dX7_act_9 : decode cX7_act 9 = .ok (.iload_n 3, 1) := by decide +kernel
theorem dX7_act_10 : decode cX7_act 10 = .ok (.iload 4, 2) := by decide +kernel
theorem dX7_act_12 : decode cX7_act 12 = .ok (.iload 5, 2) := by decide +kernel
theorem dX7_act_14 : decode cX7_act 14 = .ok (.invokestatic 104, 3) := by decide +kernel
theorem dX7_act_17 : decode cX7_act 17 = .ok (.ifCond .eq 7, 3) := by decide +kernel
theorem dX7_act_20 : decode cX7_act 20 = .ok (.iconst 0, 1) := by decide +kernel
theorem dX7_act_21 : decode cX7_act 21 = .ok (.goto 4, 3) := by decide +kernel
theorem dX7_act_24 : decode cX7_act 24 = .ok (.iconst 1, 1) := by decide +kernel
theorem dX7_act_25 : decode cX7_act 25 = .ok (.invokevirtual 108, 3) := by decide +kernel
theorem dX7_act_28 : decode cX7_act 28 = .ok (.ifCond .eq 5, 3) := by decide +kernel
theorem dX7_act_31 : decode cX7_act 31 = .ok (.iconst 0, 1) := by decide +kernel
theorem dX7_act_32 : decode cX7_act 32 = .ok (.ireturn, 1) := by decide +kernel
theorem dX7_act_33 : decode cX7_act 33 = .ok (.aload_n 0, 1) := by decide +kernel
theorem dX7_act_34 : decode cX7_act 34 = .ok (.iload_n 1, 1) := by decide +kernel
theorem dX7_act_35 : decode cX7_act 35 = .ok (.iload_n 2, 1) := by decide +kernel
theorem dX7_act_36 : decode cX7_act 36 = .ok (.iload_n 3, 1) := by decide +kernel
theorem dX7_act_37 : decode cX7_act 37 = .ok (.iload 4, 2) := by decide +kernel
theorem dX7_act_39 : decode cX7_act 39 = .ok (.iload 5, 2) := by decide +kernel
theorem dX7_act_41 : decode cX7_act 41 = .ok (.invokevirtual 111, 3) := by decide +kernel
theorem dX7_act_44 : decode cX7_act 44 = .ok (.aload_n 0, 1) := by decide +kernel
theorem dX7_act_45 : decode cX7_act 45 = .ok (.getfield 13, 3) := by decide +kernel
theorem dX7_act_48 : decode cX7_act 48 = .ok (.iload_n 1, 1) := by decide +kernel
theorem dX7_act_49 : decode cX7_act 49 = .ok (.baload, 1) := by decide +kernel
theorem dX7_act_50 : decode cX7_act 50 = .ok (.ifCond .ne 7, 3) := by decide +kernel
theorem dX7_act_53 : decode cX7_act 53 = .ok (.iconst 1, 1) := by decide +kernel
theorem dX7_act_54 : decode cX7_act 54 = .ok (.goto 4, 3) := by decide +kernel
theorem dX7_act_57 : decode cX7_act 57 = .ok (.iconst 0, 1) := by decide +kernel
theorem dX7_act_58 : decode cX7_act 58 = .ok (.ireturn, 1) := by decide +kernel
set_option maxRecDepth 20000 in
theorem ggX7_clear_X7_isSlot : GoodIn wsX7_clear wsX7_isSlot := goodIn_r _ [4, 5, 6, 3, 7] rfl (by decide +kernel)
set_option maxRecDepth 20000 in
theorem gX7_clear_X7_isSlot : GoodIn wsX7_clear (va_wsS RX7 101 yX7_isSlot wsX7_isSlot) := goodIn_app (goodIn_of _ (by decide +kernel)) ggX7_clear_X7_isSlot
set_option maxRecDepth 20000 in
theorem ggX7_clear_X7_refused : GoodIn wsX7_clear wsX7_refused := goodIn_r _ [11, 12, 20, 21, 22, 23, 24, 25, 26, 27, 28, 29, 30, 31, 32] rfl (by decide +kernel)
set_option maxRecDepth 20000 in
theorem gX7_clear_X7_refused : GoodIn wsX7_clear (wsV RX7 108 RX7 yX7_refused wsX7_refused) := goodIn_app (goodIn_of _ (by decide +kernel)) ggX7_clear_X7_refused
set_option maxRecDepth 20000 in
theorem ggX7_clear_X7_all : GoodIn wsX7_clear wsX7_all := goodIn_r _ [16, 17, 18, 19, 20, 21, 22, 23, 24, 25, 26, 27, 28, 29, 30, 31, 32] rfl (by decide +kernel)
set_option maxRecDepth 20000 in
theorem gX7_clear_X7_all : GoodIn wsX7_clear (wsV RX7 115 RX7 yX7_all wsX7_all) := goodIn_app (goodIn_of _ (by decide +kernel)) ggX7_clear_X7_all
theorem dX7_clear_0 : decode cX7_clear 0 = .ok (.aload_n 0, 1) := by decide +kernel
theorem dX7_clear_1 : decode cX7_clear 1 = .ok (.iload_n 1, 1) := by decide +kernel
theorem dX7_clear_2 : decode cX7_clear 2 = .ok (.invokestatic 101, 3) := by decide +kernel
theorem dX7_clear_5 : decode cX7_clear 5 = .ok (.ifCond .eq 7, 3) := by decide +kernel
theorem dX7_clear_8 : decode cX7_clear 8 = .ok (.iconst 0, 1) := by decide +kernel
theorem dX7_clear_9 : decode cX7_clear 9 = .ok (.goto 4, 3) := by decide +kernel
theorem dX7_clear_12 : decode cX7_clear 12 = .ok (.iconst 1, 1) := by decide +kernel
theorem dX7_clear_13 : decode cX7_clear 13 = .ok (.invokevirtual 108, 3) := by decide +kernel
theorem dX7_clear_16 : decode cX7_clear 16 = .ok (.ifCond .ne 8, 3) := by decide +kernel
theorem dX7_clear_19 : decode cX7_clear 19 = .ok (.aload_n 0, 1) := by decide +kernel
theorem dX7_clear_20 : decode cX7_clear 20 = .ok (.iload_n 1, 1) := by decide +kernel
theorem dX7_clear_21 : decode cX7_clear 21 = .ok (.invokevirtual 115, 3) := by decide +kernel
theorem dX7_clear_24 : decode cX7_clear 24 = .ok (.return_, 1) := by decide +kernel
set_option maxRecDepth 20000 in
theorem ggX7_copy_X7_isSlot : GoodIn wsX7_copy wsX7_isSlot := goodIn_r _ [4, 5, 6, 3, 7] rfl (by decide +kernel)
set_option maxRecDepth 20000 in
theorem gX7_copy_X7_isSlot : GoodIn wsX7_copy (va_wsS RX7 101 yX7_isSlot wsX7_isSlot) := goodIn_app (goodIn_of _ (by decide +kernel)) ggX7_copy_X7_isSlot
set_option maxRecDepth 20000 in
theorem ggX7_copy_X7_refused : GoodIn wsX7_copy wsX7_refused := goodIn_r _ [11, 12, 19, 20, 21, 22, 23, 24, 25, 26, 27, 28, 29, 30, 31] rfl (by decide +kernel)
set_option maxRecDepth 20000 in
theorem gX7_copy_X7_refused : GoodIn wsX7_copy (wsV RX7 108 RX7 yX7_refused wsX7_refused) := goodIn_app (goodIn_of _ (by decide +kernel)) ggX7_copy_X7_refused
set_option maxRecDepth 20000 in
theorem ggX7_copy_X7_load : GoodIn wsX7_copy wsX7_load := goodIn_r _ [16, 17, 18, 19, 20, 21, 22, 23, 24, 25, 26, 27, 28, 29, 30, 31] rfl (by decide +kernel)
set_option maxRecDepth 20000 in
theorem gX7_copy_X7_load : GoodIn wsX7_copy (wsV RX7 87 RX7 yX7_load wsX7_load) := goodIn_app (goodIn_of _ (by decide +kernel)) ggX7_copy_X7_load
theorem dX7_copy_0 : decode cX7_copy 0 = .ok (.aload_n 0, 1) := by decide +kernel
theorem dX7_copy_1 : decode cX7_copy 1 = .ok (.iload_n 1, 1) := by decide +kernel
theorem dX7_copy_2 : decode cX7_copy 2 = .ok (.invokestatic 101, 3) := by decide +kernel
theorem dX7_copy_5 : decode cX7_copy 5 = .ok (.ifCond .eq 14, 3) := by decide +kernel
theorem dX7_copy_8 : decode cX7_copy 8 = .ok (.iload_n 2, 1) := by decide +kernel
theorem dX7_copy_9 : decode cX7_copy 9 = .ok (.invokestatic 101, 3) := by decide +kernel
theorem dX7_copy_12 : decode cX7_copy 12 = .ok (.ifCond .eq 7, 3) := by decide +kernel
theorem dX7_copy_15 : decode cX7_copy 15 = .ok (.iconst 0, 1) := by decide +kernel
theorem dX7_copy_16 : decode cX7_copy 16 = .ok (.goto 4, 3) := by decide +kernel
theorem dX7_copy_19 : decode cX7_copy 19 = .ok (.iconst 1, 1) := by decide +kernel
theorem dX7_copy_20 : decode cX7_copy 20 = .ok (.invokevirtual 108, 3) := by decide +kernel
theorem dX7_copy_23 : decode cX7_copy 23 = .ok (.ifCond .ne 9, 3) := by decide +kernel
theorem dX7_copy_26 : decode cX7_copy 26 = .ok (.aload_n 0, 1) := by decide +kernel
theorem dX7_copy_27 : decode cX7_copy 27 = .ok (.iload_n 1, 1) := by decide +kernel
theorem dX7_copy_28 : decode cX7_copy 28 = .ok (.iload_n 2, 1) := by decide +kernel
theorem dX7_copy_29 : decode cX7_copy 29 = .ok (.invokevirtual 87, 3) := by decide +kernel
theorem dX7_copy_32 : decode cX7_copy 32 = .ok (.return_, 1) := by decide +kernel
set_option maxRecDepth 20000 in
theorem ggX7_areSlots_X7_isSlot : GoodIn wsX7_areSlots wsX7_isSlot := goodIn_r _ [4, 5, 6, 3, 7] rfl (by decide +kernel)
set_option maxRecDepth 20000 in
theorem gX7_areSlots_X7_isSlot : GoodIn wsX7_areSlots (va_wsS RX7 101 yX7_isSlot wsX7_isSlot) := goodIn_app (goodIn_of _ (by decide +kernel)) ggX7_areSlots_X7_isSlot
theorem dX7_areSlots_0 : decode cX7_areSlots 0 = .ok (.iload_n 0, 1) := by decide +kernel
theorem dX7_areSlots_1 : decode cX7_areSlots 1 = .ok (.invokestatic 101, 3) := by decide +kernel
theorem dX7_areSlots_4 : decode cX7_areSlots 4 = .ok (.ifCond .eq 21, 3) := by decide +kernel
theorem dX7_areSlots_7 : decode cX7_areSlots 7 = .ok (.iload_n 1, 1) := by decide +kernel
theorem dX7_areSlots_8 : decode cX7_areSlots 8 = .ok (.invokestatic 101, 3) := by decide +kernel
theorem dX7_areSlots_11 : decode cX7_areSlots 11 = .ok (.ifCond .eq 14, 3) := by decide +kernel
theorem dX7_areSlots_14 : decode cX7_areSlots 14 = .ok (.iload_n 2, 1) := by decide +kernel
theorem dX7_areSlots_15 : decode cX7_areSlots 15 = .ok (.invokestatic 101, 3) := by decide +kernel
theorem dX7_areSlots_18 : decode cX7_areSlots 18 = .ok (.ifCond .eq 7, 3) := by decide +kernel
theorem dX7_areSlots_21 : decode cX7_areSlots 21 = .ok (.iconst 1, 1) := by decide +kernel
theorem dX7_areSlots_22 : decode cX7_areSlots 22 = .ok (.goto 4, 3) := by decide +kernel
theorem dX7_areSlots_25 : decode cX7_areSlots 25 = .ok (.iconst 0, 1) := by decide +kernel
theorem dX7_areSlots_26 : decode cX7_areSlots 26 = .ok (.ireturn, 1) := by decide +kernel
set_option maxRecDepth 20000 in
theorem ggX7_meet_X7_areSlots : GoodIn wsX7_meet wsX7_areSlots := goodIn_r _ [6, 7, 8, 5, 9, 10, 11, 12] rfl (by decide +kernel)
set_option maxRecDepth 20000 in
theorem gX7_meet_X7_areSlots : GoodIn wsX7_meet (va_wsS RX7 118 yX7_areSlots wsX7_areSlots) := goodIn_app (goodIn_of _ (by decide +kernel)) ggX7_meet_X7_areSlots
set_option maxRecDepth 20000 in
theorem ggX7_meet_X7_refused : GoodIn wsX7_meet wsX7_refused := goodIn_r _ [16, 17, 49, 50, 51, 52, 53, 54, 55, 56, 57, 58, 59, 60, 61] rfl (by decide +kernel)
set_option maxRecDepth 20000 in
theorem gX7_meet_X7_refused : GoodIn wsX7_meet (wsV RX7 108 RX7 yX7_refused wsX7_refused) := goodIn_app (goodIn_of _ (by decide +kernel)) ggX7_meet_X7_refused
set_option maxRecDepth 20000 in
theorem ggX7_meet_X7_load : GoodIn wsX7_meet wsX7_load := goodIn_r _ [21, 1, 2, 49, 50, 51, 52, 53, 54, 55, 56, 57, 58, 59, 60, 61] rfl (by decide +kernel)
set_option maxRecDepth 20000 in
theorem gX7_meet_X7_load : GoodIn wsX7_meet (wsV RX7 87 RX7 yX7_load wsX7_load) := goodIn_app (goodIn_of _ (by decide +kernel)) ggX7_meet_X7_load
set_option maxRecDepth 20000 in
theorem ggX7_meet_X7_close : GoodIn wsX7_meet wsX7_close := goodIn_r _ [25, 2, 26, 27, 28, 5, 29, 1, 30, 31, 32, 33, 34, 35, 36, 37, 38, 39, 40, 41, 42, 43, 44, 45, 46, 47, 48, 49, 50, 51, 52, 53, 54, 55, 56, 57, 58, 59, 60, 61] rfl (by decide +kernel)
set_option maxRecDepth 20000 in
theorem gX7_meet_X7_close : GoodIn wsX7_meet (wsV RX7 97 RX7 yX7_close wsX7_close) := goodIn_app (goodIn_of _ (by decide +kernel)) ggX7_meet_X7_close
theorem dX7_meet_0 : decode cX7_meet 0 = .ok (.aload_n 0, 1) := by decide +kernel
theorem dX7_meet_1 : decode cX7_meet 1 = .ok (.iload_n 1, 1) := by decide +kernel
theorem dX7_meet_2 : decode cX7_meet 2 = .ok (.iload_n 2, 1) := by decide +kernel
theorem dX7_meet_3 : decode cX7_meet 3 = .ok (.iload_n 3, 1) := by decide +kernel
theorem dX7_meet_4 : decode cX7_meet 4 = .ok (.invokestatic 118, 3) := by decide +kernel
theorem dX7_meet_7 : decode cX7_meet 7 = .ok (.ifCond .eq 7, 3) := by decide +kernel
theorem dX7_meet_10 : decode cX7_meet 10 = .ok (.iconst 0, 1) := by decide +kernel
theorem dX7_meet_11 : decode cX7_meet 11 = .ok (.goto 4, 3) := by decide +kernel
theorem dX7_meet_14 : decode cX7_meet 14 = .ok (.iconst 1, 1) := by decide +kernel
theorem dX7_meet_15 : decode cX7_meet 15 = .ok (.invokevirtual 108, 3) := by decide +kernel
theorem dX7_meet_18 : decode cX7_meet 18 = .ok (.ifCond .eq 5, 3) := by decide +kernel
theorem dX7_meet_21 : decode cX7_meet 21 = .ok (.iconst 0, 1) := by decide +kernel
theorem dX7_meet_22 : decode cX7_meet 22 = .ok (.ireturn, 1) := by decide +kernel
theorem dX7_meet_23 : decode cX7_meet 23 = .ok (.aload_n 0, 1) := by decide +kernel
theorem dX7_meet_24 : decode cX7_meet 24 = .ok (.bipush 22, 2) := by decide +kernel
theorem dX7_meet_26 : decode cX7_meet 26 = .ok (.iload_n 2, 1) := by decide +kernel
theorem dX7_meet_27 : decode cX7_meet 27 = .ok (.invokevirtual 87, 3) := by decide +kernel
theorem dX7_meet_30 : decode cX7_meet 30 = .ok (.iconst 0, 1) := by decide +kernel
theorem dX7_meet_31 : decode cX7_meet 31 = .ok (.istore 4, 2) := by decide +kernel
theorem dX7_meet_33 : decode cX7_meet 33 = .ok (.iload 4, 2) := by decide +kernel
theorem dX7_meet_35 : decode cX7_meet 35 = .ok (.sipush 144, 3) := by decide +kernel
theorem dX7_meet_38 : decode cX7_meet 38 = .ok (.if_icmp .ge 68, 3) := by decide +kernel
theorem dX7_meet_41 : decode cX7_meet 41 = .ok (.aload_n 0, 1) := by decide +kernel
theorem dX7_meet_42 : decode cX7_meet 42 = .ok (.getfield 7, 3) := by decide +kernel
theorem dX7_meet_45 : decode cX7_meet 45 = .ok (.sipush 144, 3) := by decide +kernel
theorem dX7_meet_48 : decode cX7_meet 48 = .ok (.iload_n 3, 1) := by decide +kernel
theorem dX7_meet_49 : decode cX7_meet 49 = .ok (.imul, 1) := by decide +kernel
theorem dX7_meet_50 : decode cX7_meet 50 = .ok (.iload 4, 2) := by decide +kernel
theorem dX7_meet_52 : decode cX7_meet 52 = .ok (.iadd, 1) := by decide +kernel
theorem dX7_meet_53 : decode cX7_meet 53 = .ok (.laload, 1) := by decide +kernel
theorem dX7_meet_54 : decode cX7_meet 54 = .ok (.lstore 5, 2) := by decide +kernel
theorem dX7_meet_56 : decode cX7_meet 56 = .ok (.aload_n 0, 1) := by decide +kernel
theorem dX7_meet_57 : decode cX7_meet 57 = .ok (.getfield 7, 3) := by decide +kernel
theorem dX7_meet_60 : decode cX7_meet 60 = .ok (.sipush 3168, 3) := by decide +kernel
theorem dX7_meet_63 : decode cX7_meet 63 = .ok (.iload 4, 2) := by decide +kernel
theorem dX7_meet_65 : decode cX7_meet 65 = .ok (.iadd, 1) := by decide +kernel
theorem dX7_meet_66 : decode cX7_meet 66 = .ok (.lload 5, 2) := by decide +kernel
theorem dX7_meet_68 : decode cX7_meet 68 = .ok (.aload_n 0, 1) := by decide +kernel
theorem dX7_meet_69 : decode cX7_meet 69 = .ok (.getfield 7, 3) := by decide +kernel
theorem dX7_meet_72 : decode cX7_meet 72 = .ok (.sipush 3168, 3) := by decide +kernel
theorem dX7_meet_75 : decode cX7_meet 75 = .ok (.iload 4, 2) := by decide +kernel
theorem dX7_meet_77 : decode cX7_meet 77 = .ok (.iadd, 1) := by decide +kernel
theorem dX7_meet_78 : decode cX7_meet 78 = .ok (.laload, 1) := by decide +kernel
theorem dX7_meet_79 : decode cX7_meet 79 = .ok (.lcmp, 1) := by decide +kernel
theorem dX7_meet_80 : decode cX7_meet 80 = .ok (.ifCond .ge 8, 3) := by decide +kernel
theorem dX7_meet_83 : decode cX7_meet 83 = .ok (.lload 5, 2) := by decide +kernel
theorem dX7_meet_85 : decode cX7_meet 85 = .ok (.goto 14, 3) := by decide +kernel
theorem dX7_meet_88 : decode cX7_meet 88 = .ok (.aload_n 0, 1) := by decide +kernel
theorem dX7_meet_89 : decode cX7_meet 89 = .ok (.getfield 7, 3) := by decide +kernel
theorem dX7_meet_92 : decode cX7_meet 92 = .ok (.sipush 3168, 3) := by decide +kernel
theorem dX7_meet_95 : decode cX7_meet 95 = .ok (.iload 4, 2) := by decide +kernel
theorem dX7_meet_97 : decode cX7_meet 97 = .ok (.iadd, 1) := by decide +kernel
theorem dX7_meet_98 : decode cX7_meet 98 = .ok (.laload, 1) := by decide +kernel
theorem dX7_meet_99 : decode cX7_meet 99 = .ok (.lastore, 1) := by decide +kernel
theorem dX7_meet_100 : decode cX7_meet 100 = .ok (.iinc 4 1, 3) := by decide +kernel
theorem dX7_meet_103 : decode cX7_meet 103 = .ok (.goto (-70), 3) := by decide +kernel
theorem dX7_meet_106 : decode cX7_meet 106 = .ok (.aload_n 0, 1) := by decide +kernel
theorem dX7_meet_107 : decode cX7_meet 107 = .ok (.getfield 13, 3) := by decide +kernel
theorem dX7_meet_110 : decode cX7_meet 110 = .ok (.bipush 22, 2) := by decide +kernel
theorem dX7_meet_112 : decode cX7_meet 112 = .ok (.aload_n 0, 1) := by decide +kernel
theorem dX7_meet_113 : decode cX7_meet 113 = .ok (.getfield 13, 3) := by decide +kernel
theorem dX7_meet_116 : decode cX7_meet 116 = .ok (.iload_n 2, 1) := by decide +kernel
theorem dX7_meet_117 : decode cX7_meet 117 = .ok (.baload, 1) := by decide +kernel
theorem dX7_meet_118 : decode cX7_meet 118 = .ok (.ifCond .ne 12, 3) := by decide +kernel
theorem dX7_meet_121 : decode cX7_meet 121 = .ok (.aload_n 0, 1) := by decide +kernel
theorem dX7_meet_122 : decode cX7_meet 122 = .ok (.getfield 13, 3) := by decide +kernel
theorem dX7_meet_125 : decode cX7_meet 125 = .ok (.iload_n 3, 1) := by decide +kernel
theorem dX7_meet_126 : decode cX7_meet 126 = .ok (.baload, 1) := by decide +kernel
theorem dX7_meet_127 : decode cX7_meet 127 = .ok (.ifCond .eq 7, 3) := by decide +kernel
theorem dX7_meet_130 : decode cX7_meet 130 = .ok (.iconst 1, 1) := by decide +kernel
theorem dX7_meet_131 : decode cX7_meet 131 = .ok (.goto 4, 3) := by decide +kernel
theorem dX7_meet_134 : decode cX7_meet 134 = .ok (.iconst 0, 1) := by decide +kernel
theorem dX7_meet_135 : decode cX7_meet 135 = .ok (.bastore, 1) := by decide +kernel
theorem dX7_meet_136 : decode cX7_meet 136 = .ok (.aload_n 0, 1) := by decide +kernel
theorem dX7_meet_137 : decode cX7_meet 137 = .ok (.bipush 22, 2) := by decide +kernel
theorem dX7_meet_139 : decode cX7_meet 139 = .ok (.invokevirtual 97, 3) := by decide +kernel
theorem dX7_meet_142 : decode cX7_meet 142 = .ok (.aload_n 0, 1) := by decide +kernel
theorem dX7_meet_143 : decode cX7_meet 143 = .ok (.iload_n 1, 1) := by decide +kernel
theorem dX7_meet_144 : decode cX7_meet 144 = .ok (.bipush 22, 2) := by decide +kernel
theorem dX7_meet_146 : decode cX7_meet 146 = .ok (.invokevirtual 87, 3) := by decide +kernel
theorem dX7_meet_149 : decode cX7_meet 149 = .ok (.aload_n 0, 1) := by decide +kernel
theorem dX7_meet_150 : decode cX7_meet 150 = .ok (.getfield 13, 3) := by decide +kernel
theorem dX7_meet_153 : decode cX7_meet 153 = .ok (.iload_n 1, 1) := by decide +kernel
theorem dX7_meet_154 : decode cX7_meet 154 = .ok (.baload, 1) := by decide +kernel
theorem dX7_meet_155 : decode cX7_meet 155 = .ok (.ifCond .ne 7, 3) := by decide +kernel
theorem dX7_meet_158 : decode cX7_meet 158 = .ok (.iconst 1, 1) := by decide +kernel
theorem dX7_meet_159 : decode cX7_meet 159 = .ok (.goto 4, 3) := by decide +kernel
theorem dX7_meet_162 : decode cX7_meet 162 = .ok (.iconst 0, 1) := by decide +kernel
theorem dX7_meet_163 : decode cX7_meet 163 = .ok (.ireturn, 1) := by decide +kernel
set_option maxRecDepth 20000 in
theorem ggX7_joined_X7_load : GoodIn wsX7_joined wsX7_load := goodIn_r _ [7, 2, 1, 8, 9, 10, 11, 12, 13, 14, 15, 16, 17, 18, 19, 20] rfl (by decide +kernel)
set_option maxRecDepth 20000 in
theorem gX7_joined_X7_load : GoodIn wsX7_joined (wsV RX7 87 RX7 yX7_load wsX7_load) := goodIn_app (goodIn_of _ (by decide +kernel)) ggX7_joined_X7_load
theorem dX7_joined_0 : decode cX7_joined 0 = .ok (.aload_n 0, 1) := by decide +kernel
theorem dX7_joined_1 : decode cX7_joined 1 = .ok (.bipush 22, 2) := by decide +kernel
theorem dX7_joined_3 : decode cX7_joined 3 = .ok (.aload_n 0, 1) := by decide +kernel
theorem dX7_joined_4 : decode cX7_joined 4 = .ok (.getfield 13, 3) := by decide +kernel
theorem dX7_joined_7 : decode cX7_joined 7 = .ok (.iload_n 1, 1) := by decide +kernel
theorem dX7_joined_8 : decode cX7_joined 8 = .ok (.baload, 1) := by decide +kernel
theorem dX7_joined_9 : decode cX7_joined 9 = .ok (.ifCond .eq 7, 3) := by decide +kernel
theorem dX7_joined_12 : decode cX7_joined 12 = .ok (.iload_n 2, 1) := by decide +kernel
theorem dX7_joined_13 : decode cX7_joined 13 = .ok (.goto 4, 3) := by decide +kernel
theorem dX7_joined_16 : decode cX7_joined 16 = .ok (.iload_n 1, 1) := by decide +kernel
theorem dX7_joined_17 : decode cX7_joined 17 = .ok (.invokevirtual 87, 3) := by decide +kernel
theorem dX7_joined_20 : decode cX7_joined 20 = .ok (.aload_n 0, 1) := by decide +kernel
theorem dX7_joined_21 : decode cX7_joined 21 = .ok (.getfield 13, 3) := by decide +kernel
theorem dX7_joined_24 : decode cX7_joined 24 = .ok (.iload_n 1, 1) := by decide +kernel
theorem dX7_joined_25 : decode cX7_joined 25 = .ok (.baload, 1) := by decide +kernel
theorem dX7_joined_26 : decode cX7_joined 26 = .ok (.ifCond .ne 12, 3) := by decide +kernel
theorem dX7_joined_29 : decode cX7_joined 29 = .ok (.aload_n 0, 1) := by decide +kernel
theorem dX7_joined_30 : decode cX7_joined 30 = .ok (.getfield 13, 3) := by decide +kernel
theorem dX7_joined_33 : decode cX7_joined 33 = .ok (.iload_n 2, 1) := by decide +kernel
theorem dX7_joined_34 : decode cX7_joined 34 = .ok (.baload, 1) := by decide +kernel
theorem dX7_joined_35 : decode cX7_joined 35 = .ok (.ifCond .eq 4, 3) := by decide +kernel
theorem dX7_joined_38 : decode cX7_joined 38 = .ok (.return_, 1) := by decide +kernel
theorem dX7_joined_39 : decode cX7_joined 39 = .ok (.iconst 0, 1) := by decide +kernel
theorem dX7_joined_40 : decode cX7_joined 40 = .ok (.istore_n 3, 1) := by decide +kernel
theorem dX7_joined_41 : decode cX7_joined 41 = .ok (.iload_n 3, 1) := by decide +kernel
theorem dX7_joined_42 : decode cX7_joined 42 = .ok (.sipush 144, 3) := by decide +kernel
theorem dX7_joined_45 : decode cX7_joined 45 = .ok (.if_icmp .ge 64, 3) := by decide +kernel
theorem dX7_joined_48 : decode cX7_joined 48 = .ok (.aload_n 0, 1) := by decide +kernel
theorem dX7_joined_49 : decode cX7_joined 49 = .ok (.getfield 7, 3) := by decide +kernel
theorem dX7_joined_52 : decode cX7_joined 52 = .ok (.sipush 144, 3) := by decide +kernel
theorem dX7_joined_55 : decode cX7_joined 55 = .ok (.iload_n 2, 1) := by decide +kernel
theorem dX7_joined_56 : decode cX7_joined 56 = .ok (.imul, 1) := by decide +kernel
theorem dX7_joined_57 : decode cX7_joined 57 = .ok (.iload_n 3, 1) := by decide +kernel
theorem dX7_joined_58 : decode cX7_joined 58 = .ok (.iadd, 1) := by decide +kernel
theorem dX7_joined_59 : decode cX7_joined 59 = .ok (.laload, 1) := by decide +kernel
theorem dX7_joined_60 : decode cX7_joined 60 = .ok (.lstore 4, 2) := by decide +kernel
theorem dX7_joined_62 : decode cX7_joined 62 = .ok (.aload_n 0, 1) := by decide +kernel
theorem dX7_joined_63 : decode cX7_joined 63 = .ok (.getfield 7, 3) := by decide +kernel
theorem dX7_joined_66 : decode cX7_joined 66 = .ok (.sipush 3168, 3) := by decide +kernel
theorem dX7_joined_69 : decode cX7_joined 69 = .ok (.iload_n 3, 1) := by decide +kernel
theorem dX7_joined_70 : decode cX7_joined 70 = .ok (.iadd, 1) := by decide +kernel
theorem dX7_joined_71 : decode cX7_joined 71 = .ok (.lload 4, 2) := by decide +kernel
theorem dX7_joined_73 : decode cX7_joined 73 = .ok (.aload_n 0, 1) := by decide +kernel
theorem dX7_joined_74 : decode cX7_joined 74 = .ok (.getfield 7, 3) := by decide +kernel
theorem dX7_joined_77 : decode cX7_joined 77 = .ok (.sipush 3168, 3) := by decide +kernel
theorem dX7_joined_80 : decode cX7_joined 80 = .ok (.iload_n 3, 1) := by decide +kernel
theorem dX7_joined_81 : decode cX7_joined 81 = .ok (.iadd, 1) := by decide +kernel
theorem dX7_joined_82 : decode cX7_joined 82 = .ok (.laload, 1) := by decide +kernel
theorem dX7_joined_83 : decode cX7_joined 83 = .ok (.lcmp, 1) := by decide +kernel
theorem dX7_joined_84 : decode cX7_joined 84 = .ok (.ifCond .le 8, 3) := by decide +kernel
theorem dX7_joined_87 : decode cX7_joined 87 = .ok (.lload 4, 2) := by decide +kernel
theorem dX7_joined_89 : decode cX7_joined 89 = .ok (.goto 13, 3) := by decide +kernel
theorem dX7_joined_92 : decode cX7_joined 92 = .ok (.aload_n 0, 1) := by decide +kernel
theorem dX7_joined_93 : decode cX7_joined 93 = .ok (.getfield 7, 3) := by decide +kernel
theorem dX7_joined_96 : decode cX7_joined 96 = .ok (.sipush 3168, 3) := by decide +kernel
theorem dX7_joined_99 : decode cX7_joined 99 = .ok (.iload_n 3, 1) := by decide +kernel
theorem dX7_joined_100 : decode cX7_joined 100 = .ok (.iadd, 1) := by decide +kernel
theorem dX7_joined_101 : decode cX7_joined 101 = .ok (.laload, 1) := by decide +kernel
theorem dX7_joined_102 : decode cX7_joined 102 = .ok (.lastore, 1) := by decide +kernel
theorem dX7_joined_103 : decode cX7_joined 103 = .ok (.iinc 3 1, 3) := by decide +kernel
theorem dX7_joined_106 : decode cX7_joined 106 = .ok (.goto (-65), 3) := by decide +kernel
theorem dX7_joined_109 : decode cX7_joined 109 = .ok (.return_, 1) := by decide +kernel
set_option maxRecDepth 20000 in
theorem ggX7_join_X7_areSlots : GoodIn wsX7_join wsX7_areSlots := goodIn_r _ [4, 5, 6, 3, 7, 8, 9, 10] rfl (by decide +kernel)
set_option maxRecDepth 20000 in
theorem gX7_join_X7_areSlots : GoodIn wsX7_join (va_wsS RX7 118 yX7_areSlots wsX7_areSlots) := goodIn_app (goodIn_of _ (by decide +kernel)) ggX7_join_X7_areSlots
set_option maxRecDepth 20000 in
theorem ggX7_join_X7_refused : GoodIn wsX7_join wsX7_refused := goodIn_r _ [14, 15, 26, 27, 28, 29, 30, 31, 32, 33, 34, 35, 36, 37, 38] rfl (by decide +kernel)
set_option maxRecDepth 20000 in
theorem gX7_join_X7_refused : GoodIn wsX7_join (wsV RX7 108 RX7 yX7_refused wsX7_refused) := goodIn_app (goodIn_of _ (by decide +kernel)) ggX7_join_X7_refused
set_option maxRecDepth 20000 in
theorem ggX7_join_X7_joined : GoodIn wsX7_join wsX7_joined := goodIn_r _ [19, 20, 21, 22, 23, 24, 3, 25, 26, 27, 28, 29, 30, 31, 32, 33, 34, 35, 36, 37, 38] rfl (by decide +kernel)
set_option maxRecDepth 20000 in
theorem gX7_join_X7_joined : GoodIn wsX7_join (wsV RX7 121 RX7 yX7_joined wsX7_joined) := goodIn_app (goodIn_of _ (by decide +kernel)) ggX7_join_X7_joined
set_option maxRecDepth 20000 in
theorem ggX7_join_X7_load : GoodIn wsX7_join wsX7_load := goodIn_r _ [25, 21, 20, 26, 27, 28, 29, 30, 31, 32, 33, 34, 35, 36, 37, 38] rfl (by decide +kernel)
set_option maxRecDepth 20000 in
theorem gX7_join_X7_load : GoodIn wsX7_join (wsV RX7 87 RX7 yX7_load wsX7_load) := goodIn_app (goodIn_of _ (by decide +kernel)) ggX7_join_X7_load
theorem dX7_join_0 : decode cX7_join 0 = .ok (.aload_n 0, 1) := by decide +kernel
theorem dX7_join_1 : decode cX7_join 1 = .ok (.iload_n 1, 1) := by decide +kernel
theorem dX7_join_2 : decode cX7_join 2 = .ok (.iload_n 2, 1) := by decide +kernel
theorem dX7_join_3 : decode cX7_join 3 = .ok (.iload_n 3, 1) := by decide +kernel
theorem dX7_join_4 : decode cX7_join 4 = .ok (.invokestatic 118, 3) := by decide +kernel
theorem dX7_join_7 : decode cX7_join 7 = .ok (.ifCond .eq 7, 3) := by decide +kernel
theorem dX7_join_10 : decode cX7_join 10 = .ok (.iconst 0, 1) := by decide +kernel
theorem dX7_join_11 : decode cX7_join 11 = .ok (.goto 4, 3) := by decide +kernel
theorem dX7_join_14 : decode cX7_join 14 = .ok (.iconst 1, 1) := by decide +kernel
theorem dX7_join_15 : decode cX7_join 15 = .ok (.invokevirtual 108, 3) := by decide +kernel
theorem dX7_join_18 : decode cX7_join 18 = .ok (.ifCond .ne 16, 3) := by decide +kernel
theorem dX7_join_21 : decode cX7_join 21 = .ok (.aload_n 0, 1) := by decide +kernel
theorem dX7_join_22 : decode cX7_join 22 = .ok (.iload_n 2, 1) := by decide +kernel
theorem dX7_join_23 : decode cX7_join 23 = .ok (.iload_n 3, 1) := by decide +kernel
theorem dX7_join_24 : decode cX7_join 24 = .ok (.invokevirtual 121, 3) := by decide +kernel
theorem dX7_join_27 : decode cX7_join 27 = .ok (.aload_n 0, 1) := by decide +kernel
theorem dX7_join_28 : decode cX7_join 28 = .ok (.iload_n 1, 1) := by decide +kernel
theorem dX7_join_29 : decode cX7_join 29 = .ok (.bipush 22, 2) := by decide +kernel
theorem dX7_join_31 : decode cX7_join 31 = .ok (.invokevirtual 87, 3) := by decide +kernel
theorem dX7_join_34 : decode cX7_join 34 = .ok (.return_, 1) := by decide +kernel
set_option maxRecDepth 20000 in
theorem ggX7_widened_X7_load : GoodIn wsX7_widened wsX7_load := goodIn_r _ [8, 2, 1, 35, 36, 37, 38, 39, 40, 41, 42, 43, 44, 45, 46, 47] rfl (by decide +kernel)
set_option maxRecDepth 20000 in
theorem gX7_widened_X7_load : GoodIn wsX7_widened (wsV RX7 87 RX7 yX7_load wsX7_load) := goodIn_app (goodIn_of _ (by decide +kernel)) ggX7_widened_X7_load
set_option maxRecDepth 20000 in
theorem ggX7_widened_X7_close : GoodIn wsX7_widened wsX7_close := goodIn_r _ [12, 1, 13, 14, 15, 7, 16, 2, 17, 18, 19, 3, 20, 21, 22, 23, 24, 25, 26, 27, 28, 29, 30, 31, 32, 33, 34, 35, 36, 37, 38, 39, 40, 41, 42, 43, 44, 45, 46, 47] rfl (by decide +kernel)
set_option maxRecDepth 20000 in
theorem gX7_widened_X7_close : GoodIn wsX7_widened (wsV RX7 97 RX7 yX7_close wsX7_close) := goodIn_app (goodIn_of _ (by decide +kernel)) ggX7_widened_X7_close
theorem dX7_widened_0 : decode cX7_widened 0 = .ok (.aload_n 0, 1) := by decide +kernel
theorem dX7_widened_1 : decode cX7_widened 1 = .ok (.bipush 23, 2) := by decide +kernel
theorem dX7_widened_3 : decode cX7_widened 3 = .ok (.aload_n 0, 1) := by decide +kernel
theorem dX7_widened_4 : decode cX7_widened 4 = .ok (.getfield 13, 3) := by decide +kernel
theorem dX7_widened_7 : decode cX7_widened 7 = .ok (.iload_n 1, 1) := by decide +kernel
theorem dX7_widened_8 : decode cX7_widened 8 = .ok (.baload, 1) := by decide +kernel
theorem dX7_widened_9 : decode cX7_widened 9 = .ok (.ifCond .eq 7, 3) := by decide +kernel
theorem dX7_widened_12 : decode cX7_widened 12 = .ok (.iload_n 2, 1) := by decide +kernel
theorem dX7_widened_13 : decode cX7_widened 13 = .ok (.goto 4, 3) := by decide +kernel
theorem dX7_widened_16 : decode cX7_widened 16 = .ok (.iload_n 1, 1) := by decide +kernel
theorem dX7_widened_17 : decode cX7_widened 17 = .ok (.invokevirtual 87, 3) := by decide +kernel
theorem dX7_widened_20 : decode cX7_widened 20 = .ok (.aload_n 0, 1) := by decide +kernel
theorem dX7_widened_21 : decode cX7_widened 21 = .ok (.getfield 13, 3) := by decide +kernel
theorem dX7_widened_24 : decode cX7_widened 24 = .ok (.iload_n 1, 1) := by decide +kernel
theorem dX7_widened_25 : decode cX7_widened 25 = .ok (.baload, 1) := by decide +kernel
theorem dX7_widened_26 : decode cX7_widened 26 = .ok (.ifCond .ne 12, 3) := by decide +kernel
theorem dX7_widened_29 : decode cX7_widened 29 = .ok (.aload_n 0, 1) := by decide +kernel
theorem dX7_widened_30 : decode cX7_widened 30 = .ok (.getfield 13, 3) := by decide +kernel
theorem dX7_widened_33 : decode cX7_widened 33 = .ok (.iload_n 2, 1) := by decide +kernel
theorem dX7_widened_34 : decode cX7_widened 34 = .ok (.baload, 1) := by decide +kernel
theorem dX7_widened_35 : decode cX7_widened 35 = .ok (.ifCond .eq 4, 3) := by decide +kernel
theorem dX7_widened_38 : decode cX7_widened 38 = .ok (.return_, 1) := by decide +kernel
theorem dX7_widened_39 : decode cX7_widened 39 = .ok (.iconst 0, 1) := by decide +kernel
theorem dX7_widened_40 : decode cX7_widened 40 = .ok (.istore_n 3, 1) := by decide +kernel
theorem dX7_widened_41 : decode cX7_widened 41 = .ok (.iload_n 3, 1) := by decide +kernel
theorem dX7_widened_42 : decode cX7_widened 42 = .ok (.sipush 144, 3) := by decide +kernel
theorem dX7_widened_45 : decode cX7_widened 45 = .ok (.if_icmp .ge 77, 3) := by decide +kernel
theorem dX7_widened_48 : decode cX7_widened 48 = .ok (.aload_n 0, 1) := by decide +kernel
theorem dX7_widened_49 : decode cX7_widened 49 = .ok (.getfield 7, 3) := by decide +kernel
theorem dX7_widened_52 : decode cX7_widened 52 = .ok (.sipush 144, 3) := by decide +kernel
theorem dX7_widened_55 : decode cX7_widened 55 = .ok (.iload_n 2, 1) := by decide +kernel
theorem dX7_widened_56 : decode cX7_widened 56 = .ok (.imul, 1) := by decide +kernel
theorem dX7_widened_57 : decode cX7_widened 57 = .ok (.iload_n 3, 1) := by decide +kernel
theorem dX7_widened_58 : decode cX7_widened 58 = .ok (.iadd, 1) := by decide +kernel
theorem dX7_widened_59 : decode cX7_widened 59 = .ok (.laload, 1) := by decide +kernel
theorem dX7_widened_60 : decode cX7_widened 60 = .ok (.aload_n 0, 1) := by decide +kernel
theorem dX7_widened_61 : decode cX7_widened 61 = .ok (.getfield 7, 3) := by decide +kernel
theorem dX7_widened_64 : decode cX7_widened 64 = .ok (.sipush 144, 3) := by decide +kernel
theorem dX7_widened_67 : decode cX7_widened 67 = .ok (.iload_n 1, 1) := by decide +kernel
theorem dX7_widened_68 : decode cX7_widened 68 = .ok (.imul, 1) := by decide +kernel
theorem dX7_widened_69 : decode cX7_widened 69 = .ok (.iload_n 3, 1) := by decide +kernel
theorem dX7_widened_70 : decode cX7_widened 70 = .ok (.iadd, 1) := by decide +kernel
theorem dX7_widened_71 : decode cX7_widened 71 = .ok (.laload, 1) := by decide +kernel
theorem dX7_widened_72 : decode cX7_widened 72 = .ok (.lcmp, 1) := by decide +kernel
theorem dX7_widened_73 : decode cX7_widened 73 = .ok (.ifCond .gt 7, 3) := by decide +kernel
theorem dX7_widened_76 : decode cX7_widened 76 = .ok (.iconst 1, 1) := by decide +kernel
theorem dX7_widened_77 : decode cX7_widened 77 = .ok (.goto 4, 3) := by decide +kernel
theorem dX7_widened_80 : decode cX7_widened 80 = .ok (.iconst 0, 1) := by decide +kernel
theorem dX7_widened_81 : decode cX7_widened 81 = .ok (.istore 4, 2) := by decide +kernel
theorem dX7_widened_83 : decode cX7_widened 83 = .ok (.aload_n 0, 1) := by decide +kernel
theorem dX7_widened_84 : decode cX7_widened 84 = .ok (.getfield 7, 3) := by decide +kernel
theorem dX7_widened_87 : decode cX7_widened 87 = .ok (.sipush 3312, 3) := by decide +kernel
theorem dX7_widened_90 : decode cX7_widened 90 = .ok (.iload_n 3, 1) := by decide +kernel
theorem dX7_widened_91 : decode cX7_widened 91 = .ok (.iadd, 1) := by decide +kernel
theorem dX7_widened_92 : decode cX7_widened 92 = .ok (.iload 4, 2) := by decide +kernel
theorem dX7_widened_94 : decode cX7_widened 94 = .ok (.ifCond .eq 18, 3) := by decide +kernel
theorem dX7_widened_97 : decode cX7_widened 97 = .ok (.aload_n 0, 1) := by decide +kernel
theorem dX7_widened_98 : decode cX7_widened 98 = .ok (.getfield 7, 3) := by decide +kernel
theorem dX7_widened_101 : decode cX7_widened 101 = .ok (.sipush 144, 3) := by decide +kernel
theorem dX7_widened_104 : decode cX7_widened 104 = .ok (.iload_n 1, 1) := by decide +kernel
theorem dX7_widened_105 : decode cX7_widened 105 = .ok (.imul, 1) := by decide +kernel
theorem dX7_widened_106 : decode cX7_widened 106 = .ok (.iload_n 3, 1) := by decide +kernel
theorem dX7_widened_107 : decode cX7_widened 107 = .ok (.iadd, 1) := by decide +kernel
theorem dX7_widened_108 : decode cX7_widened 108 = .ok (.laload, 1) := by decide +kernel
theorem dX7_widened_109 : decode cX7_widened 109 = .ok (.goto 6, 3) := by decide +kernel
theorem dX7_widened_112 : decode cX7_widened 112 = .ok (.ldc2_w 45, 3) := by decide +kernel
theorem dX7_widened_115 : decode cX7_widened 115 = .ok (.lastore, 1) := by decide +kernel
theorem dX7_widened_116 : decode cX7_widened 116 = .ok (.iinc 3 1, 3) := by decide +kernel
theorem dX7_widened_119 : decode cX7_widened 119 = .ok (.goto (-78), 3) := by decide +kernel
theorem dX7_widened_122 : decode cX7_widened 122 = .ok (.aload_n 0, 1) := by decide +kernel
theorem dX7_widened_123 : decode cX7_widened 123 = .ok (.bipush 23, 2) := by decide +kernel
theorem dX7_widened_125 : decode cX7_widened 125 = .ok (.invokevirtual 97, 3) := by decide +kernel
theorem dX7_widened_128 : decode cX7_widened 128 = .ok (.return_, 1) := by decide +kernel
set_option maxRecDepth 20000 in
theorem ggX7_widen_X7_areSlots : GoodIn wsX7_widen wsX7_areSlots := goodIn_r _ [4, 5, 6, 3, 7, 8, 9, 10] rfl (by decide +kernel)
set_option maxRecDepth 20000 in
theorem gX7_widen_X7_areSlots : GoodIn wsX7_widen (va_wsS RX7 118 yX7_areSlots wsX7_areSlots) := goodIn_app (goodIn_of _ (by decide +kernel)) ggX7_widen_X7_areSlots
set_option maxRecDepth 20000 in
theorem ggX7_widen_X7_refused : GoodIn wsX7_widen wsX7_refused := goodIn_r _ [14, 15, 53, 54, 55, 56, 57, 58, 59, 60, 61, 62, 63, 64, 65] rfl (by decide +kernel)
set_option maxRecDepth 20000 in
theorem gX7_widen_X7_refused : GoodIn wsX7_widen (wsV RX7 108 RX7 yX7_refused wsX7_refused) := goodIn_app (goodIn_of _ (by decide +kernel)) ggX7_widen_X7_refused
set_option maxRecDepth 20000 in
theorem ggX7_widen_X7_widened : GoodIn wsX7_widen wsX7_widened := goodIn_r _ [19, 20, 21, 22, 23, 24, 25, 3, 26, 27, 28, 29, 30, 31, 32, 33, 34, 35, 36, 37, 38, 39, 40, 41, 42, 43, 44, 45, 46, 47, 48, 49, 50, 51, 52, 53, 54, 55, 56, 57, 58, 59, 60, 61, 62, 63, 64, 65] rfl (by decide +kernel)
set_option maxRecDepth 20000 in
theorem gX7_widen_X7_widened : GoodIn wsX7_widen (wsV RX7 124 RX7 yX7_widened wsX7_widened) := goodIn_app (goodIn_of _ (by decide +kernel)) ggX7_widen_X7_widened
set_option maxRecDepth 20000 in
theorem ggX7_widen_X7_load : GoodIn wsX7_widen wsX7_load := goodIn_r _ [26, 21, 20, 53, 54, 55, 56, 57, 58, 59, 60, 61, 62, 63, 64, 65] rfl (by decide +kernel)
set_option maxRecDepth 20000 in
theorem gX7_widen_X7_load : GoodIn wsX7_widen (wsV RX7 87 RX7 yX7_load wsX7_load) := goodIn_app (goodIn_of _ (by decide +kernel)) ggX7_widen_X7_load
theorem dX7_widen_0 : decode cX7_widen 0 = .ok (.aload_n 0, 1) := by decide +kernel
theorem dX7_widen_1 : decode cX7_widen 1 = .ok (.iload_n 1, 1) := by decide +kernel
theorem dX7_widen_2 : decode cX7_widen 2 = .ok (.iload_n 2, 1) := by decide +kernel
theorem dX7_widen_3 : decode cX7_widen 3 = .ok (.iload_n 3, 1) := by decide +kernel
theorem dX7_widen_4 : decode cX7_widen 4 = .ok (.invokestatic 118, 3) := by decide +kernel
theorem dX7_widen_7 : decode cX7_widen 7 = .ok (.ifCond .eq 7, 3) := by decide +kernel
theorem dX7_widen_10 : decode cX7_widen 10 = .ok (.iconst 0, 1) := by decide +kernel
theorem dX7_widen_11 : decode cX7_widen 11 = .ok (.goto 4, 3) := by decide +kernel
theorem dX7_widen_14 : decode cX7_widen 14 = .ok (.iconst 1, 1) := by decide +kernel
theorem dX7_widen_15 : decode cX7_widen 15 = .ok (.invokevirtual 108, 3) := by decide +kernel
theorem dX7_widen_18 : decode cX7_widen 18 = .ok (.ifCond .ne 16, 3) := by decide +kernel
theorem dX7_widen_21 : decode cX7_widen 21 = .ok (.aload_n 0, 1) := by decide +kernel
theorem dX7_widen_22 : decode cX7_widen 22 = .ok (.iload_n 2, 1) := by decide +kernel
theorem dX7_widen_23 : decode cX7_widen 23 = .ok (.iload_n 3, 1) := by decide +kernel
theorem dX7_widen_24 : decode cX7_widen 24 = .ok (.invokevirtual 124, 3) := by decide +kernel
theorem dX7_widen_27 : decode cX7_widen 27 = .ok (.aload_n 0, 1) := by decide +kernel
theorem dX7_widen_28 : decode cX7_widen 28 = .ok (.iload_n 1, 1) := by decide +kernel
theorem dX7_widen_29 : decode cX7_widen 29 = .ok (.bipush 23, 2) := by decide +kernel
theorem dX7_widen_31 : decode cX7_widen 31 = .ok (.invokevirtual 87, 3) := by decide +kernel
theorem dX7_widen_34 : decode cX7_widen 34 = .ok (.return_, 1) := by decide +kernel
set_option maxRecDepth 20000 in
theorem ggX7_forget_X7_isSlot : GoodIn wsX7_forget wsX7_isSlot := goodIn_r _ [4, 5, 6, 3, 7] rfl (by decide +kernel)
set_option maxRecDepth 20000 in
theorem gX7_forget_X7_isSlot : GoodIn wsX7_forget (va_wsS RX7 101 yX7_isSlot wsX7_isSlot) := goodIn_app (goodIn_of _ (by decide +kernel)) ggX7_forget_X7_isSlot
set_option maxRecDepth 20000 in
theorem ggX7_forget_X7_isIn : GoodIn wsX7_forget wsX7_isIn := goodIn_r _ [7] rfl (by decide +kernel)
set_option maxRecDepth 20000 in
theorem gX7_forget_X7_isIn : GoodIn wsX7_forget (va_wsS RX7 51 yX7_isIn wsX7_isIn) := goodIn_app (goodIn_of _ (by decide +kernel)) ggX7_forget_X7_isIn
set_option maxRecDepth 20000 in
theorem ggX7_forget_X7_refused : GoodIn wsX7_forget wsX7_refused := goodIn_r _ [11, 12, 23, 24, 25, 26, 27, 28, 29, 30, 31, 32, 33, 34, 35] rfl (by decide +kernel)
set_option maxRecDepth 20000 in
theorem gX7_forget_X7_refused : GoodIn wsX7_forget (wsV RX7 108 RX7 yX7_refused wsX7_refused) := goodIn_app (goodIn_of _ (by decide +kernel)) ggX7_forget_X7_refused
set_option maxRecDepth 20000 in
theorem ggX7_forget_X7_drop : GoodIn wsX7_forget wsX7_drop := goodIn_r _ [16, 17, 18, 19, 20, 3, 21, 22, 23, 24, 25, 26, 27, 28, 29, 30, 31, 32, 33, 34, 35] rfl (by decide +kernel)
set_option maxRecDepth 20000 in
theorem gX7_forget_X7_drop : GoodIn wsX7_forget (wsV RX7 94 RX7 yX7_drop wsX7_drop) := goodIn_app (goodIn_of _ (by decide +kernel)) ggX7_forget_X7_drop
theorem dX7_forget_0 : decode cX7_forget 0 = .ok (.aload_n 0, 1) := by decide +kernel
theorem dX7_forget_1 : decode cX7_forget 1 = .ok (.iload_n 1, 1) := by decide +kernel
theorem dX7_forget_2 : decode cX7_forget 2 = .ok (.invokestatic 101, 3) := by decide +kernel
theorem dX7_forget_5 : decode cX7_forget 5 = .ok (.ifCond .eq 16, 3) := by decide +kernel
theorem dX7_forget_8 : decode cX7_forget 8 = .ok (.iload_n 2, 1) := by decide +kernel
theorem dX7_forget_9 : decode cX7_forget 9 = .ok (.iconst 0, 1) := by decide +kernel
theorem dX7_forget_10 : decode cX7_forget 10 = .ok (.iconst 5, 1) := by decide +kernel
theorem dX7_forget_11 : decode cX7_forget 11 = .ok (.invokestatic 51, 3) := by decide +kernel
theorem dX7_forget_14 : decode cX7_forget 14 = .ok (.ifCond .eq 7, 3) := by decide +kernel
theorem dX7_forget_17 : decode cX7_forget 17 = .ok (.iconst 0, 1) := by decide +kernel
theorem dX7_forget_18 : decode cX7_forget 18 = .ok (.goto 4, 3) := by decide +kernel
theorem dX7_forget_21 : decode cX7_forget 21 = .ok (.iconst 1, 1) := by decide +kernel
theorem dX7_forget_22 : decode cX7_forget 22 = .ok (.invokevirtual 108, 3) := by decide +kernel
theorem dX7_forget_25 : decode cX7_forget 25 = .ok (.ifCond .ne 9, 3) := by decide +kernel
theorem dX7_forget_28 : decode cX7_forget 28 = .ok (.aload_n 0, 1) := by decide +kernel
theorem dX7_forget_29 : decode cX7_forget 29 = .ok (.iload_n 1, 1) := by decide +kernel
theorem dX7_forget_30 : decode cX7_forget 30 = .ok (.iload_n 2, 1) := by decide +kernel
theorem dX7_forget_31 : decode cX7_forget 31 = .ok (.invokevirtual 94, 3) := by decide +kernel
theorem dX7_forget_34 : decode cX7_forget 34 = .ok (.return_, 1) := by decide +kernel
set_option maxRecDepth 20000 in
theorem ggX7_isEmpty_X7_isSlot : GoodIn wsX7_isEmpty wsX7_isSlot := goodIn_r _ [5, 6, 7, 4, 8] rfl (by decide +kernel)
set_option maxRecDepth 20000 in
theorem gX7_isEmpty_X7_isSlot : GoodIn wsX7_isEmpty (va_wsS RX7 101 yX7_isSlot wsX7_isSlot) := goodIn_app (goodIn_of _ (by decide +kernel)) ggX7_isEmpty_X7_isSlot
set_option maxRecDepth 20000 in
theorem ggX7_isEmpty_X7_refused : GoodIn wsX7_isEmpty wsX7_refused := goodIn_r _ [12, 13, 14, 15, 16, 17, 18, 19, 20, 21, 22, 23, 24, 25, 26] rfl (by decide +kernel)
set_option maxRecDepth 20000 in
theorem gX7_isEmpty_X7_refused : GoodIn wsX7_isEmpty (wsV RX7 108 RX7 yX7_refused wsX7_refused) := goodIn_app (goodIn_of _ (by decide +kernel)) ggX7_isEmpty_X7_refused
theorem dX7_isEmpty_0 : decode cX7_isEmpty 0 = .ok (.aload_n 0, 1) := by decide +kernel
theorem dX7_isEmpty_1 : decode cX7_isEmpty 1 = .ok (.iload_n 1, 1) := by decide +kernel
theorem dX7_isEmpty_2 : decode cX7_isEmpty 2 = .ok (.invokestatic 101, 3) := by decide +kernel
theorem dX7_isEmpty_5 : decode cX7_isEmpty 5 = .ok (.ifCond .eq 7, 3) := by decide +kernel
theorem dX7_isEmpty_8 : decode cX7_isEmpty 8 = .ok (.iconst 0, 1) := by decide +kernel
theorem dX7_isEmpty_9 : decode cX7_isEmpty 9 = .ok (.goto 4, 3) := by decide +kernel
theorem dX7_isEmpty_12 : decode cX7_isEmpty 12 = .ok (.iconst 1, 1) := by decide +kernel
theorem dX7_isEmpty_13 : decode cX7_isEmpty 13 = .ok (.invokevirtual 108, 3) := by decide +kernel
theorem dX7_isEmpty_16 : decode cX7_isEmpty 16 = .ok (.ifCond .ne 16, 3) := by decide +kernel
theorem dX7_isEmpty_19 : decode cX7_isEmpty 19 = .ok (.aload_n 0, 1) := by decide +kernel
theorem dX7_isEmpty_20 : decode cX7_isEmpty 20 = .ok (.getfield 13, 3) := by decide +kernel
theorem dX7_isEmpty_23 : decode cX7_isEmpty 23 = .ok (.iload_n 1, 1) := by decide +kernel
theorem dX7_isEmpty_24 : decode cX7_isEmpty 24 = .ok (.baload, 1) := by decide +kernel
theorem dX7_isEmpty_25 : decode cX7_isEmpty 25 = .ok (.ifCond .eq 7, 3) := by decide +kernel
theorem dX7_isEmpty_28 : decode cX7_isEmpty 28 = .ok (.iconst 1, 1) := by decide +kernel
theorem dX7_isEmpty_29 : decode cX7_isEmpty 29 = .ok (.goto 4, 3) := by decide +kernel
theorem dX7_isEmpty_32 : decode cX7_isEmpty 32 = .ok (.iconst 0, 1) := by decide +kernel
theorem dX7_isEmpty_33 : decode cX7_isEmpty 33 = .ok (.ireturn, 1) := by decide +kernel
set_option maxRecDepth 20000 in
theorem ggX7_most_X7_isSlot : GoodIn wsX7_most wsX7_isSlot := goodIn_r _ [5, 6, 7, 4, 8] rfl (by decide +kernel)
set_option maxRecDepth 20000 in
theorem gX7_most_X7_isSlot : GoodIn wsX7_most (va_wsS RX7 101 yX7_isSlot wsX7_isSlot) := goodIn_app (goodIn_of _ (by decide +kernel)) ggX7_most_X7_isSlot
set_option maxRecDepth 20000 in
theorem ggX7_most_X7_isTerm : GoodIn wsX7_most wsX7_isTerm := goodIn_r _ [11, 6, 7, 4, 8] rfl (by decide +kernel)
set_option maxRecDepth 20000 in
theorem gX7_most_X7_isTerm : GoodIn wsX7_most (va_wsS RX7 84 yX7_isTerm wsX7_isTerm) := goodIn_app (goodIn_of _ (by decide +kernel)) ggX7_most_X7_isTerm
set_option maxRecDepth 20000 in
theorem ggX7_most_X7_minus : GoodIn wsX7_most wsX7_minus := goodIn_r _ [14] rfl (by decide +kernel)
set_option maxRecDepth 20000 in
theorem gX7_most_X7_minus : GoodIn wsX7_most (va_wsS RX7 57 yX7_minus wsX7_minus) := goodIn_app (goodIn_of _ (by decide +kernel)) ggX7_most_X7_minus
set_option maxRecDepth 20000 in
theorem ggX7_most_X7_refused : GoodIn wsX7_most wsX7_refused := goodIn_r _ [18, 19, 25, 26, 27, 28, 29, 30, 31, 32, 33, 34, 35, 36, 37] rfl (by decide +kernel)
set_option maxRecDepth 20000 in
theorem gX7_most_X7_refused : GoodIn wsX7_most (wsV RX7 108 RX7 yX7_refused wsX7_refused) := goodIn_app (goodIn_of _ (by decide +kernel)) ggX7_most_X7_refused
set_option maxRecDepth 20000 in
theorem ggX7_most_X7_get : GoodIn wsX7_most wsX7_get := goodIn_r _ [23, 24, 25, 26, 27, 28, 29, 30, 31, 32, 33, 34, 35, 36, 37] rfl (by decide +kernel)
set_option maxRecDepth 20000 in
theorem gX7_most_X7_get : GoodIn wsX7_most (wsV RX7 61 RX7 yX7_get wsX7_get) := goodIn_app (goodIn_of _ (by decide +kernel)) ggX7_most_X7_get
theorem dX7_most_0 : decode cX7_most 0 = .ok (.iload_n 1, 1) := by decide +kernel
theorem dX7_most_1 : decode cX7_most 1 = .ok (.invokestatic 101, 3) := by decide +kernel
theorem dX7_most_4 : decode cX7_most 4 = .ok (.ifCond .eq 29, 3) := by decide +kernel
theorem dX7_most_7 : decode cX7_most 7 = .ok (.iload_n 2, 1) := by decide +kernel
theorem dX7_most_8 : decode cX7_most 8 = .ok (.invokestatic 84, 3) := by decide +kernel
theorem dX7_most_11 : decode cX7_most 11 = .ok (.ifCond .eq 22, 3) := by decide +kernel
theorem dX7_most_14 : decode cX7_most 14 = .ok (.iload_n 3, 1) := by decide +kernel
theorem dX7_most_15 : decode cX7_most 15 = .ok (.invokestatic 84, 3) := by decide +kernel
theorem dX7_most_18 : decode cX7_most 18 = .ok (.ifCond .eq 15, 3) := by decide +kernel
theorem dX7_most_21 : decode cX7_most 21 = .ok (.iload_n 2, 1) := by decide +kernel
theorem dX7_most_22 : decode cX7_most 22 = .ok (.iload_n 3, 1) := by decide +kernel
theorem dX7_most_23 : decode cX7_most 23 = .ok (.invokestatic 57, 3) := by decide +kernel
theorem dX7_most_26 : decode cX7_most 26 = .ok (.if_icmp .eq 7, 3) := by decide +kernel
theorem dX7_most_29 : decode cX7_most 29 = .ok (.iconst 1, 1) := by decide +kernel
theorem dX7_most_30 : decode cX7_most 30 = .ok (.goto 4, 3) := by decide +kernel
theorem dX7_most_33 : decode cX7_most 33 = .ok (.iconst 0, 1) := by decide +kernel
theorem dX7_most_34 : decode cX7_most 34 = .ok (.istore 4, 2) := by decide +kernel
theorem dX7_most_36 : decode cX7_most 36 = .ok (.aload_n 0, 1) := by decide +kernel
theorem dX7_most_37 : decode cX7_most 37 = .ok (.iload 4, 2) := by decide +kernel
theorem dX7_most_39 : decode cX7_most 39 = .ok (.ifCond .ne 7, 3) := by decide +kernel
theorem dX7_most_42 : decode cX7_most 42 = .ok (.iconst 1, 1) := by decide +kernel
theorem dX7_most_43 : decode cX7_most 43 = .ok (.goto 17, 3) := by decide +kernel
theorem dX7_most_46 : decode cX7_most 46 = .ok (.aload_n 0, 1) := by decide +kernel
theorem dX7_most_47 : decode cX7_most 47 = .ok (.getfield 13, 3) := by decide +kernel
theorem dX7_most_50 : decode cX7_most 50 = .ok (.iload_n 1, 1) := by decide +kernel
theorem dX7_most_51 : decode cX7_most 51 = .ok (.baload, 1) := by decide +kernel
theorem dX7_most_52 : decode cX7_most 52 = .ok (.ifCond .eq 7, 3) := by decide +kernel
theorem dX7_most_55 : decode cX7_most 55 = .ok (.iconst 2, 1) := by decide +kernel
theorem dX7_most_56 : decode cX7_most 56 = .ok (.goto 4, 3) := by decide +kernel
theorem dX7_most_59 : decode cX7_most 59 = .ok (.iconst 0, 1) := by decide +kernel
theorem dX7_most_60 : decode cX7_most 60 = .ok (.invokevirtual 108, 3) := by decide +kernel
theorem dX7_most_63 : decode cX7_most 63 = .ok (.ifCond .eq 7, 3) := by decide +kernel
theorem dX7_most_66 : decode cX7_most 66 = .ok (.lconst 0, 1) := by decide +kernel
theorem dX7_most_67 : decode cX7_most 67 = .ok (.goto 10, 3) := by decide +kernel
theorem dX7_most_70 : decode cX7_most 70 = .ok (.aload_n 0, 1) := by decide +kernel
theorem dX7_most_71 : decode cX7_most 71 = .ok (.iload_n 1, 1) := by decide +kernel
theorem dX7_most_72 : decode cX7_most 72 = .ok (.iload_n 2, 1) := by decide +kernel
theorem dX7_most_73 : decode cX7_most 73 = .ok (.iload_n 3, 1) := by decide +kernel
theorem dX7_most_74 : decode cX7_most 74 = .ok (.invokevirtual 61, 3) := by decide +kernel
theorem dX7_most_77 : decode cX7_most 77 = .ok (.lreturn, 1) := by decide +kernel
theorem dX7_isWithin_0 : decode cX7_isWithin 0 = .ok (.aload_n 0, 1) := by decide +kernel
theorem dX7_isWithin_1 : decode cX7_isWithin 1 = .ok (.getfield 13, 3) := by decide +kernel
theorem dX7_isWithin_4 : decode cX7_isWithin 4 = .ok (.iload_n 1, 1) := by decide +kernel
theorem dX7_isWithin_5 : decode cX7_isWithin 5 = .ok (.baload, 1) := by decide +kernel
theorem dX7_isWithin_6 : decode cX7_isWithin 6 = .ok (.ifCond .ne 12, 3) := by decide +kernel
theorem dX7_isWithin_9 : decode cX7_isWithin 9 = .ok (.aload_n 0, 1) := by decide +kernel
theorem dX7_isWithin_10 : decode cX7_isWithin 10 = .ok (.getfield 13, 3) := by decide +kernel
theorem dX7_isWithin_13 : decode cX7_isWithin 13 = .ok (.iload_n 2, 1) := by decide +kernel
theorem dX7_isWithin_14 : decode cX7_isWithin 14 = .ok (.baload, 1) := by decide +kernel
theorem dX7_isWithin_15 : decode cX7_isWithin 15 = .ok (.ifCond .eq 10, 3) := by decide +kernel
theorem dX7_isWithin_18 : decode cX7_isWithin 18 = .ok (.aload_n 0, 1) := by decide +kernel
theorem dX7_isWithin_19 : decode cX7_isWithin 19 = .ok (.getfield 13, 3) := by decide +kernel
theorem dX7_isWithin_22 : decode cX7_isWithin 22 = .ok (.iload_n 1, 1) := by decide +kernel
theorem dX7_isWithin_23 : decode cX7_isWithin 23 = .ok (.baload, 1) := by decide +kernel
theorem dX7_isWithin_24 : decode cX7_isWithin 24 = .ok (.ireturn, 1) := by decide +kernel
theorem dX7_isWithin_25 : decode cX7_isWithin 25 = .ok (.iconst 1, 1) := by decide +kernel
theorem dX7_isWithin_26 : decode cX7_isWithin 26 = .ok (.istore_n 3, 1) := by decide +kernel
theorem dX7_isWithin_27 : decode cX7_isWithin 27 = .ok (.iconst 0, 1) := by decide +kernel
theorem dX7_isWithin_28 : decode cX7_isWithin 28 = .ok (.istore 4, 2) := by decide +kernel
theorem dX7_isWithin_30 : decode cX7_isWithin 30 = .ok (.iload 4, 2) := by decide +kernel
theorem dX7_isWithin_32 : decode cX7_isWithin 32 = .ok (.sipush 144, 3) := by decide +kernel
theorem dX7_isWithin_35 : decode cX7_isWithin 35 = .ok (.if_icmp .ge 49, 3) := by decide +kernel
theorem dX7_isWithin_38 : decode cX7_isWithin 38 = .ok (.iload_n 3, 1) := by decide +kernel
theorem dX7_isWithin_39 : decode cX7_isWithin 39 = .ok (.ifCond .eq 37, 3) := by decide +kernel
theorem dX7_isWithin_42 : decode cX7_isWithin 42 = .ok (.aload_n 0, 1) := by decide +kernel
theorem dX7_isWithin_43 : decode cX7_isWithin 43 = .ok (.getfield 7, 3) := by decide +kernel
theorem dX7_isWithin_46 : decode cX7_isWithin 46 = .ok (.sipush 144, 3) := by decide +kernel
theorem dX7_isWithin_49 : decode cX7_isWithin 49 = .ok (.iload_n 1, 1) := by decide +kernel
theorem dX7_isWithin_50 : decode cX7_isWithin 50 = .ok (.imul, 1) := by decide +kernel
theorem dX7_isWithin_51 : decode cX7_isWithin 51 = .ok (.iload 4, 2) := by decide +kernel
theorem dX7_isWithin_53 : decode cX7_isWithin 53 = .ok (.iadd, 1) := by decide +kernel
theorem dX7_isWithin_54 : decode cX7_isWithin 54 = .ok (.laload, 1) := by decide +kernel
theorem dX7_isWithin_55 : decode cX7_isWithin 55 = .ok (.aload_n 0, 1) := by decide +kernel
theorem dX7_isWithin_56 : decode cX7_isWithin 56 = .ok (.getfield 7, 3) := by decide +kernel
theorem dX7_isWithin_59 : decode cX7_isWithin 59 = .ok (.sipush 144, 3) := by decide +kernel
theorem dX7_isWithin_62 : decode cX7_isWithin 62 = .ok (.iload_n 2, 1) := by decide +kernel
theorem dX7_isWithin_63 : decode cX7_isWithin 63 = .ok (.imul, 1) := by decide +kernel
theorem dX7_isWithin_64 : decode cX7_isWithin 64 = .ok (.iload 4, 2) := by decide +kernel
theorem dX7_isWithin_66 : decode cX7_isWithin 66 = .ok (.iadd, 1) := by decide +kernel
theorem dX7_isWithin_67 : decode cX7_isWithin 67 = .ok (.laload, 1) := by decide +kernel
theorem dX7_isWithin_68 : decode cX7_isWithin 68 = .ok (.lcmp, 1) := by decide +kernel
theorem dX7_isWithin_69 : decode cX7_isWithin 69 = .ok (.ifCond .gt 7, 3) := by decide +kernel
theorem dX7_isWithin_72 : decode cX7_isWithin 72 = .ok (.iconst 1, 1) := by decide +kernel
theorem dX7_isWithin_73 : decode cX7_isWithin 73 = .ok (.goto 4, 3) := by decide +kernel
theorem dX7_isWithin_76 : decode cX7_isWithin 76 = .ok (.iconst 0, 1) := by decide +kernel
theorem dX7_isWithin_77 : decode cX7_isWithin 77 = .ok (.istore_n 3, 1) := by decide +kernel
theorem dX7_isWithin_78 : decode cX7_isWithin 78 = .ok (.iinc 4 1, 3) := by decide +kernel
theorem dX7_isWithin_81 : decode cX7_isWithin 81 = .ok (.goto (-51), 3) := by decide +kernel
theorem dX7_isWithin_84 : decode cX7_isWithin 84 = .ok (.iload_n 3, 1) := by decide +kernel
theorem dX7_isWithin_85 : decode cX7_isWithin 85 = .ok (.ireturn, 1) := by decide +kernel
set_option maxRecDepth 20000 in
theorem ggX7_inside_X7_isSlot : GoodIn wsX7_inside wsX7_isSlot := goodIn_r _ [4, 5, 6, 3, 7] rfl (by decide +kernel)
set_option maxRecDepth 20000 in
theorem gX7_inside_X7_isSlot : GoodIn wsX7_inside (va_wsS RX7 101 yX7_isSlot wsX7_isSlot) := goodIn_app (goodIn_of _ (by decide +kernel)) ggX7_inside_X7_isSlot
set_option maxRecDepth 20000 in
theorem ggX7_inside_X7_refused : GoodIn wsX7_inside wsX7_refused := goodIn_r _ [11, 12, 19, 20, 21, 22, 23, 24, 25, 26, 27, 28, 29, 30, 31] rfl (by decide +kernel)
set_option maxRecDepth 20000 in
theorem gX7_inside_X7_refused : GoodIn wsX7_inside (wsV RX7 108 RX7 yX7_refused wsX7_refused) := goodIn_app (goodIn_of _ (by decide +kernel)) ggX7_inside_X7_refused
set_option maxRecDepth 20000 in
theorem ggX7_inside_X7_isWithin : GoodIn wsX7_inside wsX7_isWithin := goodIn_r _ [16, 17, 18, 19, 20, 21, 22, 23, 24, 25, 26, 27, 28, 29, 30, 31] rfl (by decide +kernel)
set_option maxRecDepth 20000 in
theorem gX7_inside_X7_isWithin : GoodIn wsX7_inside (wsV RX7 127 RX7 yX7_isWithin wsX7_isWithin) := goodIn_app (goodIn_of _ (by decide +kernel)) ggX7_inside_X7_isWithin
theorem dX7_inside_0 : decode cX7_inside 0 = .ok (.aload_n 0, 1) := by decide +kernel
theorem dX7_inside_1 : decode cX7_inside 1 = .ok (.iload_n 1, 1) := by decide +kernel
theorem dX7_inside_2 : decode cX7_inside 2 = .ok (.invokestatic 101, 3) := by decide +kernel
theorem dX7_inside_5 : decode cX7_inside 5 = .ok (.ifCond .eq 14, 3) := by decide +kernel
theorem dX7_inside_8 : decode cX7_inside 8 = .ok (.iload_n 2, 1) := by decide +kernel
theorem dX7_inside_9 : decode cX7_inside 9 = .ok (.invokestatic 101, 3) := by decide +kernel
theorem dX7_inside_12 : decode cX7_inside 12 = .ok (.ifCond .eq 7, 3) := by decide +kernel
theorem dX7_inside_15 : decode cX7_inside 15 = .ok (.iconst 0, 1) := by decide +kernel
theorem dX7_inside_16 : decode cX7_inside 16 = .ok (.goto 4, 3) := by decide +kernel
theorem dX7_inside_19 : decode cX7_inside 19 = .ok (.iconst 1, 1) := by decide +kernel
theorem dX7_inside_20 : decode cX7_inside 20 = .ok (.invokevirtual 108, 3) := by decide +kernel
theorem dX7_inside_23 : decode cX7_inside 23 = .ok (.ifCond .ne 16, 3) := by decide +kernel
theorem dX7_inside_26 : decode cX7_inside 26 = .ok (.aload_n 0, 1) := by decide +kernel
theorem dX7_inside_27 : decode cX7_inside 27 = .ok (.iload_n 1, 1) := by decide +kernel
theorem dX7_inside_28 : decode cX7_inside 28 = .ok (.iload_n 2, 1) := by decide +kernel
theorem dX7_inside_29 : decode cX7_inside 29 = .ok (.invokevirtual 127, 3) := by decide +kernel
theorem dX7_inside_32 : decode cX7_inside 32 = .ok (.ifCond .eq 7, 3) := by decide +kernel
theorem dX7_inside_35 : decode cX7_inside 35 = .ok (.iconst 1, 1) := by decide +kernel
theorem dX7_inside_36 : decode cX7_inside 36 = .ok (.goto 4, 3) := by decide +kernel
theorem dX7_inside_39 : decode cX7_inside 39 = .ok (.iconst 0, 1) := by decide +kernel
theorem dX7_inside_40 : decode cX7_inside 40 = .ok (.ireturn, 1) := by decide +kernel
set_option maxRecDepth 20000 in
theorem ggX7_bounds_X7_isSlot : GoodIn wsX7_bounds wsX7_isSlot := goodIn_r _ [6, 7, 8, 5, 9] rfl (by decide +kernel)
set_option maxRecDepth 20000 in
theorem gX7_bounds_X7_isSlot : GoodIn wsX7_bounds (va_wsS RX7 101 yX7_isSlot wsX7_isSlot) := goodIn_app (goodIn_of _ (by decide +kernel)) ggX7_bounds_X7_isSlot
set_option maxRecDepth 20000 in
theorem ggX7_bounds_X7_refused : GoodIn wsX7_bounds wsX7_refused := goodIn_r _ [13, 14, 23, 24, 25, 26, 27, 28, 29, 30, 31, 32, 33, 34, 35] rfl (by decide +kernel)
set_option maxRecDepth 20000 in
theorem gX7_bounds_X7_refused : GoodIn wsX7_bounds (wsV RX7 108 RX7 yX7_refused wsX7_refused) := goodIn_app (goodIn_of _ (by decide +kernel)) ggX7_bounds_X7_refused
set_option maxRecDepth 20000 in
theorem ggX7_bounds_X7_minus : GoodIn wsX7_bounds wsX7_minus := goodIn_r _ [17] rfl (by decide +kernel)
set_option maxRecDepth 20000 in
theorem gX7_bounds_X7_minus : GoodIn wsX7_bounds (va_wsS RX7 57 yX7_minus wsX7_minus) := goodIn_app (goodIn_of _ (by decide +kernel)) ggX7_bounds_X7_minus
set_option maxRecDepth 20000 in
theorem ggX7_bounds_X7_get : GoodIn wsX7_bounds wsX7_get := goodIn_r _ [21, 22, 23, 24, 25, 26, 27, 28, 29, 30, 31, 32, 33, 34, 35] rfl (by decide +kernel)
set_option maxRecDepth 20000 in
theorem gX7_bounds_X7_get : GoodIn wsX7_bounds (wsV RX7 61 RX7 yX7_get wsX7_get) := goodIn_app (goodIn_of _ (by decide +kernel)) ggX7_bounds_X7_get
theorem dX7_bounds_0 : decode cX7_bounds 0 = .ok (.aload_n 0, 1) := by decide +kernel
theorem dX7_bounds_1 : decode cX7_bounds 1 = .ok (.iload_n 1, 1) := by decide +kernel
theorem dX7_bounds_2 : decode cX7_bounds 2 = .ok (.invokestatic 101, 3) := by decide +kernel
theorem dX7_bounds_5 : decode cX7_bounds 5 = .ok (.ifCond .eq 7, 3) := by decide +kernel
theorem dX7_bounds_8 : decode cX7_bounds 8 = .ok (.iconst 0, 1) := by decide +kernel
theorem dX7_bounds_9 : decode cX7_bounds 9 = .ok (.goto 4, 3) := by decide +kernel
theorem dX7_bounds_12 : decode cX7_bounds 12 = .ok (.iconst 1, 1) := by decide +kernel
theorem dX7_bounds_13 : decode cX7_bounds 13 = .ok (.invokevirtual 108, 3) := by decide +kernel
theorem dX7_bounds_16 : decode cX7_bounds 16 = .ok (.ifCond .eq 5, 3) := by decide +kernel
theorem dX7_bounds_19 : decode cX7_bounds 19 = .ok (.iconst 0, 1) := by decide +kernel
theorem dX7_bounds_20 : decode cX7_bounds 20 = .ok (.ireturn, 1) := by decide +kernel
theorem dX7_bounds_21 : decode cX7_bounds 21 = .ok (.aload_n 0, 1) := by decide +kernel
theorem dX7_bounds_22 : decode cX7_bounds 22 = .ok (.getfield 13, 3) := by decide +kernel
theorem dX7_bounds_25 : decode cX7_bounds 25 = .ok (.iload_n 1, 1) := by decide +kernel
theorem dX7_bounds_26 : decode cX7_bounds 26 = .ok (.baload, 1) := by decide +kernel
theorem dX7_bounds_27 : decode cX7_bounds 27 = .ok (.ifCond .eq 5, 3) := by decide +kernel
theorem dX7_bounds_30 : decode cX7_bounds 30 = .ok (.iconst (-1), 1) := by decide +kernel
theorem dX7_bounds_31 : decode cX7_bounds 31 = .ok (.ireturn, 1) := by decide +kernel
theorem dX7_bounds_32 : decode cX7_bounds 32 = .ok (.iconst 0, 1) := by decide +kernel
theorem dX7_bounds_33 : decode cX7_bounds 33 = .ok (.istore_n 2, 1) := by decide +kernel
theorem dX7_bounds_34 : decode cX7_bounds 34 = .ok (.iconst 0, 1) := by decide +kernel
theorem dX7_bounds_35 : decode cX7_bounds 35 = .ok (.istore_n 3, 1) := by decide +kernel
theorem dX7_bounds_36 : decode cX7_bounds 36 = .ok (.iload_n 3, 1) := by decide +kernel
theorem dX7_bounds_37 : decode cX7_bounds 37 = .ok (.bipush 12, 2) := by decide +kernel
theorem dX7_bounds_39 : decode cX7_bounds 39 = .ok (.if_icmp .ge 56, 3) := by decide +kernel
theorem dX7_bounds_42 : decode cX7_bounds 42 = .ok (.iconst 0, 1) := by decide +kernel
theorem dX7_bounds_43 : decode cX7_bounds 43 = .ok (.istore 4, 2) := by decide +kernel
theorem dX7_bounds_45 : decode cX7_bounds 45 = .ok (.iload 4, 2) := by decide +kernel
theorem dX7_bounds_47 : decode cX7_bounds 47 = .ok (.iload_n 3, 1) := by decide +kernel
theorem dX7_bounds_48 : decode cX7_bounds 48 = .ok (.if_icmp .gt 41, 3) := by decide +kernel
theorem dX7_bounds_51 : decode cX7_bounds 51 = .ok (.iload 4, 2) := by decide +kernel
theorem dX7_bounds_53 : decode cX7_bounds 53 = .ok (.iload_n 3, 1) := by decide +kernel
theorem dX7_bounds_54 : decode cX7_bounds 54 = .ok (.invokestatic 57, 3) := by decide +kernel
theorem dX7_bounds_57 : decode cX7_bounds 57 = .ok (.if_icmp .eq 24, 3) := by decide +kernel
theorem dX7_bounds_60 : decode cX7_bounds 60 = .ok (.aload_n 0, 1) := by decide +kernel
theorem dX7_bounds_61 : decode cX7_bounds 61 = .ok (.iload_n 1, 1) := by decide +kernel
theorem dX7_bounds_62 : decode cX7_bounds 62 = .ok (.iload_n 3, 1) := by decide +kernel
theorem dX7_bounds_63 : decode cX7_bounds 63 = .ok (.iload 4, 2) := by decide +kernel
theorem dX7_bounds_65 : decode cX7_bounds 65 = .ok (.invokevirtual 61, 3) := by decide +kernel
theorem dX7_bounds_68 : decode cX7_bounds 68 = .ok (.ldc2_w 45, 3) := by decide +kernel
theorem dX7_bounds_71 : decode cX7_bounds 71 = .ok (.lcmp, 1) := by decide +kernel
theorem dX7_bounds_72 : decode cX7_bounds 72 = .ok (.ifCond .ge 9, 3) := by decide +kernel
theorem dX7_bounds_75 : decode cX7_bounds 75 = .ok (.iload_n 2, 1) := by decide +kernel
theorem dX7_bounds_76 : decode cX7_bounds 76 = .ok (.iconst 1, 1) := by decide +kernel
theorem dX7_bounds_77 : decode cX7_bounds 77 = .ok (.iadd, 1) := by decide +kernel
theorem dX7_bounds_78 : decode cX7_bounds 78 = .ok (.goto 4, 3) := by decide +kernel
theorem dX7_bounds_81 : decode cX7_bounds 81 = .ok (.iload_n 2, 1) := by decide +kernel
theorem dX7_bounds_82 : decode cX7_bounds 82 = .ok (.istore_n 2, 1) := by decide +kernel
theorem dX7_bounds_83 : decode cX7_bounds 83 = .ok (.iinc 4 1, 3) := by decide +kernel
theorem dX7_bounds_86 : decode cX7_bounds 86 = .ok (.goto (-41), 3) := by decide +kernel
theorem dX7_bounds_89 : decode cX7_bounds 89 = .ok (.iinc 3 1, 3) := by decide +kernel
theorem dX7_bounds_92 : decode cX7_bounds 92 = .ok (.goto (-56), 3) := by decide +kernel
theorem dX7_bounds_95 : decode cX7_bounds 95 = .ok (.iload_n 2, 1) := by decide +kernel
theorem dX7_bounds_96 : decode cX7_bounds 96 = .ok (.ireturn, 1) := by decide +kernel
set_option maxRecDepth 20000 in
theorem ggX7_first_X7_isSlot : GoodIn wsX7_first wsX7_isSlot := goodIn_r _ [6, 7, 8, 5, 9] rfl (by decide +kernel)
set_option maxRecDepth 20000 in
theorem gX7_first_X7_isSlot : GoodIn wsX7_first (va_wsS RX7 101 yX7_isSlot wsX7_isSlot) := goodIn_app (goodIn_of _ (by decide +kernel)) ggX7_first_X7_isSlot
set_option maxRecDepth 20000 in
theorem ggX7_first_X7_isIn : GoodIn wsX7_first wsX7_isIn := goodIn_r _ [9] rfl (by decide +kernel)
set_option maxRecDepth 20000 in
theorem gX7_first_X7_isIn : GoodIn wsX7_first (va_wsS RX7 51 yX7_isIn wsX7_isIn) := goodIn_app (goodIn_of _ (by decide +kernel)) ggX7_first_X7_isIn
set_option maxRecDepth 20000 in
theorem ggX7_first_X7_refused : GoodIn wsX7_first wsX7_refused := goodIn_r _ [13, 14, 46, 47, 48, 49, 50, 51, 52, 53, 54, 55, 56, 57, 58] rfl (by decide +kernel)
set_option maxRecDepth 20000 in
theorem gX7_first_X7_refused : GoodIn wsX7_first (wsV RX7 108 RX7 yX7_refused wsX7_refused) := goodIn_app (goodIn_of _ (by decide +kernel)) ggX7_first_X7_refused
set_option maxRecDepth 20000 in
theorem ggX7_first_X7_load : GoodIn wsX7_first wsX7_load := goodIn_r _ [18, 19, 1, 46, 47, 48, 49, 50, 51, 52, 53, 54, 55, 56, 57, 58] rfl (by decide +kernel)
set_option maxRecDepth 20000 in
theorem gX7_first_X7_load : GoodIn wsX7_first (wsV RX7 87 RX7 yX7_load wsX7_load) := goodIn_app (goodIn_of _ (by decide +kernel)) ggX7_first_X7_load
set_option maxRecDepth 20000 in
theorem ggX7_first_X7_get : GoodIn wsX7_first wsX7_get := goodIn_r _ [23, 19, 46, 47, 48, 49, 50, 51, 52, 53, 54, 55, 56, 57, 58] rfl (by decide +kernel)
set_option maxRecDepth 20000 in
theorem gX7_first_X7_get : GoodIn wsX7_first (wsV RX7 61 RX7 yX7_get wsX7_get) := goodIn_app (goodIn_of _ (by decide +kernel)) ggX7_first_X7_get
set_option maxRecDepth 20000 in
theorem ggX7_first_X7_set : GoodIn wsX7_first wsX7_set := goodIn_r _ [27, 19, 46, 47, 48, 49, 50, 51, 52, 53, 54, 55, 56, 57, 58] rfl (by decide +kernel)
set_option maxRecDepth 20000 in
theorem gX7_first_X7_set : GoodIn wsX7_first (wsV RX7 69 RX7 yX7_set wsX7_set) := goodIn_app (goodIn_of _ (by decide +kernel)) ggX7_first_X7_set
set_option maxRecDepth 20000 in
theorem ggX7_first_X7_close : GoodIn wsX7_first wsX7_close := goodIn_r _ [31, 1, 20, 21, 22, 5, 23, 19, 32, 33, 34, 2, 35, 36, 37, 38, 39, 40, 41, 24, 25, 26, 27, 42, 43, 44, 45, 46, 47, 48, 49, 50, 51, 52, 53, 54, 55, 56, 57, 58] rfl (by decide +kernel)
set_option maxRecDepth 20000 in
theorem gX7_first_X7_close : GoodIn wsX7_first (wsV RX7 97 RX7 yX7_close wsX7_close) := goodIn_app (goodIn_of _ (by decide +kernel)) ggX7_first_X7_close
theorem dX7_first_0 : decode cX7_first 0 = .ok (.aload_n 0, 1) := by decide +kernel
theorem dX7_first_1 : decode cX7_first 1 = .ok (.iload_n 1, 1) := by decide +kernel
theorem dX7_first_2 : decode cX7_first 2 = .ok (.invokestatic 101, 3) := by decide +kernel
theorem dX7_first_5 : decode cX7_first 5 = .ok (.ifCond .eq 12, 3) := by decide +kernel
theorem dX7_first_8 : decode cX7_first 8 = .ok (.iload_n 2, 1) := by decide +kernel
theorem dX7_first_9 : decode cX7_first 9 = .ok (.iconst 0, 1) := by decide +kernel
theorem dX7_first_10 : decode cX7_first 10 = .ok (.iconst 5, 1) := by decide +kernel
theorem dX7_first_11 : decode cX7_first 11 = .ok (.invokestatic 51, 3) := by decide +kernel
theorem dX7_first_14 : decode cX7_first 14 = .ok (.ifCond .ne 7, 3) := by decide +kernel
theorem dX7_first_17 : decode cX7_first 17 = .ok (.iconst 1, 1) := by decide +kernel
theorem dX7_first_18 : decode cX7_first 18 = .ok (.goto 17, 3) := by decide +kernel
theorem dX7_first_21 : decode cX7_first 21 = .ok (.aload_n 0, 1) := by decide +kernel
theorem dX7_first_22 : decode cX7_first 22 = .ok (.getfield 13, 3) := by decide +kernel
theorem dX7_first_25 : decode cX7_first 25 = .ok (.iload_n 1, 1) := by decide +kernel
theorem dX7_first_26 : decode cX7_first 26 = .ok (.baload, 1) := by decide +kernel
theorem dX7_first_27 : decode cX7_first 27 = .ok (.ifCond .eq 7, 3) := by decide +kernel
theorem dX7_first_30 : decode cX7_first 30 = .ok (.iconst 2, 1) := by decide +kernel
theorem dX7_first_31 : decode cX7_first 31 = .ok (.goto 4, 3) := by decide +kernel
theorem dX7_first_34 : decode cX7_first 34 = .ok (.iconst 0, 1) := by decide +kernel
theorem dX7_first_35 : decode cX7_first 35 = .ok (.invokevirtual 108, 3) := by decide +kernel
theorem dX7_first_38 : decode cX7_first 38 = .ok (.ifCond .eq 5, 3) := by decide +kernel
theorem dX7_first_41 : decode cX7_first 41 = .ok (.lconst 0, 1) := by decide +kernel
theorem dX7_first_42 : decode cX7_first 42 = .ok (.lreturn, 1) := by decide +kernel
theorem dX7_first_43 : decode cX7_first 43 = .ok (.aload_n 0, 1) := by decide +kernel
theorem dX7_first_44 : decode cX7_first 44 = .ok (.bipush 22, 2) := by decide +kernel
theorem dX7_first_46 : decode cX7_first 46 = .ok (.iload_n 1, 1) := by decide +kernel
theorem dX7_first_47 : decode cX7_first 47 = .ok (.invokevirtual 87, 3) := by decide +kernel
theorem dX7_first_50 : decode cX7_first 50 = .ok (.lconst 0, 1) := by decide +kernel
theorem dX7_first_51 : decode cX7_first 51 = .ok (.lstore_n 3, 1) := by decide +kernel
theorem dX7_first_52 : decode cX7_first 52 = .ok (.iconst 0, 1) := by decide +kernel
theorem dX7_first_53 : decode cX7_first 53 = .ok (.istore 5, 2) := by decide +kernel
theorem dX7_first_55 : decode cX7_first 55 = .ok (.iload 5, 2) := by decide +kernel
theorem dX7_first_57 : decode cX7_first 57 = .ok (.iload_n 2, 1) := by decide +kernel
theorem dX7_first_58 : decode cX7_first 58 = .ok (.if_icmp .gt 117, 3) := by decide +kernel
theorem dX7_first_61 : decode cX7_first 61 = .ok (.aload_n 0, 1) := by decide +kernel
theorem dX7_first_62 : decode cX7_first 62 = .ok (.bipush 22, 2) := by decide +kernel
theorem dX7_first_64 : decode cX7_first 64 = .ok (.iconst 2, 1) := by decide +kernel
theorem dX7_first_65 : decode cX7_first 65 = .ok (.iload 5, 2) := by decide +kernel
theorem dX7_first_67 : decode cX7_first 67 = .ok (.imul, 1) := by decide +kernel
theorem dX7_first_68 : decode cX7_first 68 = .ok (.iconst 2, 1) := by decide +kernel
theorem dX7_first_69 : decode cX7_first 69 = .ok (.iload 5, 2) := by decide +kernel
theorem dX7_first_71 : decode cX7_first 71 = .ok (.imul, 1) := by decide +kernel
theorem dX7_first_72 : decode cX7_first 72 = .ok (.invokevirtual 61, 3) := by decide +kernel
theorem dX7_first_75 : decode cX7_first 75 = .ok (.lstore 6, 2) := by decide +kernel
theorem dX7_first_77 : decode cX7_first 77 = .ok (.aload_n 0, 1) := by decide +kernel
theorem dX7_first_78 : decode cX7_first 78 = .ok (.bipush 22, 2) := by decide +kernel
theorem dX7_first_80 : decode cX7_first 80 = .ok (.iconst 2, 1) := by decide +kernel
theorem dX7_first_81 : decode cX7_first 81 = .ok (.iload 5, 2) := by decide +kernel
theorem dX7_first_83 : decode cX7_first 83 = .ok (.imul, 1) := by decide +kernel
theorem dX7_first_84 : decode cX7_first 84 = .ok (.iconst 1, 1) := by decide +kernel
theorem dX7_first_85 : decode cX7_first 85 = .ok (.iadd, 1) := by decide +kernel
theorem dX7_first_86 : decode cX7_first 86 = .ok (.iconst 2, 1) := by decide +kernel
theorem dX7_first_87 : decode cX7_first 87 = .ok (.iload 5, 2) := by decide +kernel
theorem dX7_first_89 : decode cX7_first 89 = .ok (.imul, 1) := by decide +kernel
theorem dX7_first_90 : decode cX7_first 90 = .ok (.iconst 1, 1) := by decide +kernel
theorem dX7_first_91 : decode cX7_first 91 = .ok (.iadd, 1) := by decide +kernel
theorem dX7_first_92 : decode cX7_first 92 = .ok (.invokevirtual 61, 3) := by decide +kernel
theorem dX7_first_95 : decode cX7_first 95 = .ok (.lstore 8, 2) := by decide +kernel
theorem dX7_first_97 : decode cX7_first 97 = .ok (.lload 8, 2) := by decide +kernel
theorem dX7_first_99 : decode cX7_first 99 = .ok (.ldc2_w 45, 3) := by decide +kernel
theorem dX7_first_102 : decode cX7_first 102 = .ok (.lcmp, 1) := by decide +kernel
theorem dX7_first_103 : decode cX7_first 103 = .ok (.ifCond .ge 9, 3) := by decide +kernel
theorem dX7_first_106 : decode cX7_first 106 = .ok (.lload 8, 2) := by decide +kernel
theorem dX7_first_108 : decode cX7_first 108 = .ok (.lneg, 1) := by decide +kernel
theorem dX7_first_109 : decode cX7_first 109 = .ok (.goto 18, 3) := by decide +kernel
theorem dX7_first_112 : decode cX7_first 112 = .ok (.lload 6, 2) := by decide +kernel
theorem dX7_first_114 : decode cX7_first 114 = .ok (.ldc2_w 45, 3) := by decide +kernel
theorem dX7_first_117 : decode cX7_first 117 = .ok (.lcmp, 1) := by decide +kernel
theorem dX7_first_118 : decode cX7_first 118 = .ok (.ifCond .ge 8, 3) := by decide +kernel
theorem dX7_first_121 : decode cX7_first 121 = .ok (.lload 6, 2) := by decide +kernel
theorem dX7_first_123 : decode cX7_first 123 = .ok (.goto 4, 3) := by decide +kernel
theorem dX7_first_126 : decode cX7_first 126 = .ok (.lconst 0, 1) := by decide +kernel
theorem dX7_first_127 : decode cX7_first 127 = .ok (.lstore_n 3, 1) := by decide +kernel
theorem dX7_first_128 : decode cX7_first 128 = .ok (.aload_n 0, 1) := by decide +kernel
theorem dX7_first_129 : decode cX7_first 129 = .ok (.bipush 22, 2) := by decide +kernel
theorem dX7_first_131 : decode cX7_first 131 = .ok (.iconst 2, 1) := by decide +kernel
theorem dX7_first_132 : decode cX7_first 132 = .ok (.iload 5, 2) := by decide +kernel
theorem dX7_first_134 : decode cX7_first 134 = .ok (.imul, 1) := by decide +kernel
theorem dX7_first_135 : decode cX7_first 135 = .ok (.iconst 2, 1) := by decide +kernel
theorem dX7_first_136 : decode cX7_first 136 = .ok (.iload 5, 2) := by decide +kernel
theorem dX7_first_138 : decode cX7_first 138 = .ok (.imul, 1) := by decide +kernel
theorem dX7_first_139 : decode cX7_first 139 = .ok (.lload_n 3, 1) := by decide +kernel
theorem dX7_first_140 : decode cX7_first 140 = .ok (.invokevirtual 69, 3) := by decide +kernel
theorem dX7_first_143 : decode cX7_first 143 = .ok (.aload_n 0, 1) := by decide +kernel
theorem dX7_first_144 : decode cX7_first 144 = .ok (.bipush 22, 2) := by decide +kernel
theorem dX7_first_146 : decode cX7_first 146 = .ok (.iconst 2, 1) := by decide +kernel
theorem dX7_first_147 : decode cX7_first 147 = .ok (.iload 5, 2) := by decide +kernel
theorem dX7_first_149 : decode cX7_first 149 = .ok (.imul, 1) := by decide +kernel
theorem dX7_first_150 : decode cX7_first 150 = .ok (.iconst 1, 1) := by decide +kernel
theorem dX7_first_151 : decode cX7_first 151 = .ok (.iadd, 1) := by decide +kernel
theorem dX7_first_152 : decode cX7_first 152 = .ok (.iconst 2, 1) := by decide +kernel
theorem dX7_first_153 : decode cX7_first 153 = .ok (.iload 5, 2) := by decide +kernel
theorem dX7_first_155 : decode cX7_first 155 = .ok (.imul, 1) := by decide +kernel
theorem dX7_first_156 : decode cX7_first 156 = .ok (.iconst 1, 1) := by decide +kernel
theorem dX7_first_157 : decode cX7_first 157 = .ok (.iadd, 1) := by decide +kernel
theorem dX7_first_158 : decode cX7_first 158 = .ok (.lload_n 3, 1) := by decide +kernel
theorem dX7_first_159 : decode cX7_first 159 = .ok (.lneg, 1) := by decide +kernel
theorem dX7_first_160 : decode cX7_first 160 = .ok (.invokevirtual 69, 3) := by decide +kernel
theorem dX7_first_163 : decode cX7_first 163 = .ok (.aload_n 0, 1) := by decide +kernel
theorem dX7_first_164 : decode cX7_first 164 = .ok (.bipush 22, 2) := by decide +kernel
theorem dX7_first_166 : decode cX7_first 166 = .ok (.invokevirtual 97, 3) := by decide +kernel
theorem dX7_first_169 : decode cX7_first 169 = .ok (.iinc 5 1, 3) := by decide +kernel
theorem dX7_first_172 : decode cX7_first 172 = .ok (.goto (-117), 3) := by decide +kernel
theorem dX7_first_175 : decode cX7_first 175 = .ok (.lload_n 3, 1) := by decide +kernel
theorem dX7_first_176 : decode cX7_first 176 = .ok (.lreturn, 1) := by decide +kernel
set_option maxRecDepth 20000 in
theorem ggX7_holds_X7_minus : GoodIn wsX7_holds wsX7_minus := goodIn_r _ [5] rfl (by decide +kernel)
set_option maxRecDepth 20000 in
theorem gX7_holds_X7_minus : GoodIn wsX7_holds (va_wsS RX7 57 yX7_minus wsX7_minus) := goodIn_app (goodIn_of _ (by decide +kernel)) ggX7_holds_X7_minus
set_option maxRecDepth 20000 in
theorem ggX7_holds_X7_get : GoodIn wsX7_holds wsX7_get := goodIn_r _ [9, 10, 11, 12, 13, 14, 15, 16, 17, 18, 19, 20, 21, 22, 23] rfl (by decide +kernel)
set_option maxRecDepth 20000 in
theorem gX7_holds_X7_get : GoodIn wsX7_holds (wsV RX7 61 RX7 yX7_get wsX7_get) := goodIn_app (goodIn_of _ (by decide +kernel)) ggX7_holds_X7_get
theorem dX7_holds_0 : decode cX7_holds 0 = .ok (.iconst 0, 1) := by decide +kernel
theorem dX7_holds_1 : decode cX7_holds 1 = .ok (.istore_n 2, 1) := by decide +kernel
theorem dX7_holds_2 : decode cX7_holds 2 = .ok (.iload_n 2, 1) := by decide +kernel
theorem dX7_holds_3 : decode cX7_holds 3 = .ok (.bipush 12, 2) := by decide +kernel
theorem dX7_holds_5 : decode cX7_holds 5 = .ok (.if_icmp .ge 131, 3) := by decide +kernel
theorem dX7_holds_8 : decode cX7_holds 8 = .ok (.iload_n 2, 1) := by decide +kernel
theorem dX7_holds_9 : decode cX7_holds 9 = .ok (.iconst 2, 1) := by decide +kernel
theorem dX7_holds_10 : decode cX7_holds 10 = .ok (.irem, 1) := by decide +kernel
theorem dX7_holds_11 : decode cX7_holds 11 = .ok (.ifCond .ne 14, 3) := by decide +kernel
theorem dX7_holds_14 : decode cX7_holds 14 = .ok (.aload_n 0, 1) := by decide +kernel
theorem dX7_holds_15 : decode cX7_holds 15 = .ok (.getfield 42, 3) := by decide +kernel
theorem dX7_holds_18 : decode cX7_holds 18 = .ok (.iload_n 2, 1) := by decide +kernel
theorem dX7_holds_19 : decode cX7_holds 19 = .ok (.iconst 2, 1) := by decide +kernel
theorem dX7_holds_20 : decode cX7_holds 20 = .ok (.idiv, 1) := by decide +kernel
theorem dX7_holds_21 : decode cX7_holds 21 = .ok (.laload, 1) := by decide +kernel
theorem dX7_holds_22 : decode cX7_holds 22 = .ok (.goto 12, 3) := by decide +kernel
theorem dX7_holds_25 : decode cX7_holds 25 = .ok (.aload_n 0, 1) := by decide +kernel
theorem dX7_holds_26 : decode cX7_holds 26 = .ok (.getfield 42, 3) := by decide +kernel
theorem dX7_holds_29 : decode cX7_holds 29 = .ok (.iload_n 2, 1) := by decide +kernel
theorem dX7_holds_30 : decode cX7_holds 30 = .ok (.iconst 2, 1) := by decide +kernel
theorem dX7_holds_31 : decode cX7_holds 31 = .ok (.idiv, 1) := by decide +kernel
theorem dX7_holds_32 : decode cX7_holds 32 = .ok (.laload, 1) := by decide +kernel
theorem dX7_holds_33 : decode cX7_holds 33 = .ok (.lneg, 1) := by decide +kernel
theorem dX7_holds_34 : decode cX7_holds 34 = .ok (.lstore_n 3, 1) := by decide +kernel
theorem dX7_holds_35 : decode cX7_holds 35 = .ok (.iconst 0, 1) := by decide +kernel
theorem dX7_holds_36 : decode cX7_holds 36 = .ok (.istore 5, 2) := by decide +kernel
theorem dX7_holds_38 : decode cX7_holds 38 = .ok (.iload 5, 2) := by decide +kernel
theorem dX7_holds_40 : decode cX7_holds 40 = .ok (.iload_n 2, 1) := by decide +kernel
theorem dX7_holds_41 : decode cX7_holds 41 = .ok (.if_icmp .gt 89, 3) := by decide +kernel
theorem dX7_holds_44 : decode cX7_holds 44 = .ok (.iload 5, 2) := by decide +kernel
theorem dX7_holds_46 : decode cX7_holds 46 = .ok (.iconst 2, 1) := by decide +kernel
theorem dX7_holds_47 : decode cX7_holds 47 = .ok (.irem, 1) := by decide +kernel
theorem dX7_holds_48 : decode cX7_holds 48 = .ok (.ifCond .ne 15, 3) := by decide +kernel
theorem dX7_holds_51 : decode cX7_holds 51 = .ok (.aload_n 0, 1) := by decide +kernel
theorem dX7_holds_52 : decode cX7_holds 52 = .ok (.getfield 42, 3) := by decide +kernel
theorem dX7_holds_55 : decode cX7_holds 55 = .ok (.iload 5, 2) := by decide +kernel
theorem dX7_holds_57 : decode cX7_holds 57 = .ok (.iconst 2, 1) := by decide +kernel
theorem dX7_holds_58 : decode cX7_holds 58 = .ok (.idiv, 1) := by decide +kernel
theorem dX7_holds_59 : decode cX7_holds 59 = .ok (.laload, 1) := by decide +kernel
theorem dX7_holds_60 : decode cX7_holds 60 = .ok (.goto 13, 3) := by decide +kernel
theorem dX7_holds_63 : decode cX7_holds 63 = .ok (.aload_n 0, 1) := by decide +kernel
theorem dX7_holds_64 : decode cX7_holds 64 = .ok (.getfield 42, 3) := by decide +kernel
theorem dX7_holds_67 : decode cX7_holds 67 = .ok (.iload 5, 2) := by decide +kernel
theorem dX7_holds_69 : decode cX7_holds 69 = .ok (.iconst 2, 1) := by decide +kernel
theorem dX7_holds_70 : decode cX7_holds 70 = .ok (.idiv, 1) := by decide +kernel
theorem dX7_holds_71 : decode cX7_holds 71 = .ok (.laload, 1) := by decide +kernel
theorem dX7_holds_72 : decode cX7_holds 72 = .ok (.lneg, 1) := by decide +kernel
theorem dX7_holds_73 : decode cX7_holds 73 = .ok (.lstore 6, 2) := by decide +kernel
theorem dX7_holds_75 : decode cX7_holds 75 = .ok (.iload 5, 2) := by decide +kernel
theorem dX7_holds_77 : decode cX7_holds 77 = .ok (.iload_n 2, 1) := by decide +kernel
theorem dX7_holds_78 : decode cX7_holds 78 = .ok (.invokestatic 57, 3) := by decide +kernel
theorem dX7_holds_81 : decode cX7_holds 81 = .ok (.if_icmp .eq 33, 3) := by decide +kernel
theorem dX7_holds_84 : decode cX7_holds 84 = .ok (.iload_n 2, 1) := by decide +kernel
theorem dX7_holds_85 : decode cX7_holds 85 = .ok (.iload 5, 2) := by decide +kernel
theorem dX7_holds_87 : decode cX7_holds 87 = .ok (.if_icmp .ne 7, 3) := by decide +kernel
theorem dX7_holds_90 : decode cX7_holds 90 = .ok (.lload_n 3, 1) := by decide +kernel
theorem dX7_holds_91 : decode cX7_holds 91 = .ok (.goto 7, 3) := by decide +kernel
theorem dX7_holds_94 : decode cX7_holds 94 = .ok (.lload_n 3, 1) := by decide +kernel
theorem dX7_holds_95 : decode cX7_holds 95 = .ok (.lload 6, 2) := by decide +kernel
theorem dX7_holds_97 : decode cX7_holds 97 = .ok (.ladd, 1) := by decide +kernel
theorem dX7_holds_98 : decode cX7_holds 98 = .ok (.aload_n 0, 1) := by decide +kernel
theorem dX7_holds_99 : decode cX7_holds 99 = .ok (.iload_n 1, 1) := by decide +kernel
theorem dX7_holds_100 : decode cX7_holds 100 = .ok (.iload_n 2, 1) := by decide +kernel
theorem dX7_holds_101 : decode cX7_holds 101 = .ok (.iload 5, 2) := by decide +kernel
theorem dX7_holds_103 : decode cX7_holds 103 = .ok (.invokevirtual 61, 3) := by decide +kernel
theorem dX7_holds_106 : decode cX7_holds 106 = .ok (.lcmp, 1) := by decide +kernel
theorem dX7_holds_107 : decode cX7_holds 107 = .ok (.ifCond .le 7, 3) := by decide +kernel
theorem dX7_holds_110 : decode cX7_holds 110 = .ok (.iconst 1, 1) := by decide +kernel
theorem dX7_holds_111 : decode cX7_holds 111 = .ok (.goto 4, 3) := by decide +kernel
theorem dX7_holds_114 : decode cX7_holds 114 = .ok (.iconst 0, 1) := by decide +kernel
theorem dX7_holds_115 : decode cX7_holds 115 = .ok (.istore 8, 2) := by decide +kernel
theorem dX7_holds_117 : decode cX7_holds 117 = .ok (.iload 8, 2) := by decide +kernel
theorem dX7_holds_119 : decode cX7_holds 119 = .ok (.ifCond .eq 5, 3) := by decide +kernel
theorem dX7_holds_122 : decode cX7_holds 122 = .ok (.iconst 0, 1) := by decide +kernel
theorem dX7_holds_123 : decode cX7_holds 123 = .ok (.ireturn, 1) := by decide +kernel
theorem dX7_holds_124 : decode cX7_holds 124 = .ok (.iinc 5 1, 3) := by decide +kernel
theorem dX7_holds_127 : decode cX7_holds 127 = .ok (.goto (-89), 3) := by decide +kernel
theorem dX7_holds_130 : decode cX7_holds 130 = .ok (.iinc 2 1, 3) := by decide +kernel
theorem dX7_holds_133 : decode cX7_holds 133 = .ok (.goto (-131), 3) := by decide +kernel
theorem dX7_holds_136 : decode cX7_holds 136 = .ok (.iconst 1, 1) := by decide +kernel
theorem dX7_holds_137 : decode cX7_holds 137 = .ok (.ireturn, 1) := by decide +kernel
set_option maxRecDepth 20000 in
theorem ggX7_places_X7_isSlot : GoodIn wsX7_places wsX7_isSlot := goodIn_r _ [10, 11, 12, 9, 13] rfl (by decide +kernel)
set_option maxRecDepth 20000 in
theorem gX7_places_X7_isSlot : GoodIn wsX7_places (va_wsS RX7 101 yX7_isSlot wsX7_isSlot) := goodIn_app (goodIn_of _ (by decide +kernel)) ggX7_places_X7_isSlot
set_option maxRecDepth 20000 in
theorem ggX7_places_X7_refused : GoodIn wsX7_places wsX7_refused := goodIn_r _ [17, 18, 31, 32, 33, 34, 35, 36, 37, 38, 39, 40, 41, 42, 43] rfl (by decide +kernel)
set_option maxRecDepth 20000 in
theorem gX7_places_X7_refused : GoodIn wsX7_places (wsV RX7 108 RX7 yX7_refused wsX7_refused) := goodIn_app (goodIn_of _ (by decide +kernel)) ggX7_places_X7_refused
set_option maxRecDepth 20000 in
theorem ggX7_places_X7_get : GoodIn wsX7_places wsX7_get := goodIn_r _ [22, 23, 31, 32, 33, 34, 35, 36, 37, 38, 39, 40, 41, 42, 43] rfl (by decide +kernel)
set_option maxRecDepth 20000 in
theorem gX7_places_X7_get : GoodIn wsX7_places (wsV RX7 61 RX7 yX7_get wsX7_get) := goodIn_app (goodIn_of _ (by decide +kernel)) ggX7_places_X7_get
set_option maxRecDepth 20000 in
theorem ggX7_places_X7_holds : GoodIn wsX7_places wsX7_holds := goodIn_r _ [27, 6, 28, 29, 9, 30, 19, 20, 21, 22, 23, 31, 32, 33, 34, 35, 36, 37, 38, 39, 40, 41, 42, 43] rfl (by decide +kernel)
set_option maxRecDepth 20000 in
theorem gX7_places_X7_holds : GoodIn wsX7_places (wsV RX7 133 RX7 yX7_holds wsX7_holds) := goodIn_app (goodIn_of _ (by decide +kernel)) ggX7_places_X7_holds
theorem dX7_places_0 : decode cX7_places 0 = .ok (.aload_n 0, 1) := by decide +kernel
theorem dX7_places_1 : decode cX7_places 1 = .ok (.iload_n 1, 1) := by decide +kernel
theorem dX7_places_2 : decode cX7_places 2 = .ok (.invokestatic 101, 3) := by decide +kernel
theorem dX7_places_5 : decode cX7_places 5 = .ok (.ifCond .eq 7, 3) := by decide +kernel
theorem dX7_places_8 : decode cX7_places 8 = .ok (.iconst 0, 1) := by decide +kernel
theorem dX7_places_9 : decode cX7_places 9 = .ok (.goto 4, 3) := by decide +kernel
theorem dX7_places_12 : decode cX7_places 12 = .ok (.iconst 1, 1) := by decide +kernel
theorem dX7_places_13 : decode cX7_places 13 = .ok (.invokevirtual 108, 3) := by decide +kernel
theorem dX7_places_16 : decode cX7_places 16 = .ok (.ifCond .eq 5, 3) := by decide +kernel
theorem dX7_places_19 : decode cX7_places 19 = .ok (.iconst 0, 1) := by decide +kernel
theorem dX7_places_20 : decode cX7_places 20 = .ok (.ireturn, 1) := by decide +kernel
theorem dX7_places_21 : decode cX7_places 21 = .ok (.aload_n 0, 1) := by decide +kernel
theorem dX7_places_22 : decode cX7_places 22 = .ok (.getfield 13, 3) := by decide +kernel
theorem dX7_places_25 : decode cX7_places 25 = .ok (.iload_n 1, 1) := by decide +kernel
theorem dX7_places_26 : decode cX7_places 26 = .ok (.baload, 1) := by decide +kernel
theorem dX7_places_27 : decode cX7_places 27 = .ok (.ifCond .eq 5, 3) := by decide +kernel
theorem dX7_places_30 : decode cX7_places 30 = .ok (.iconst 0, 1) := by decide +kernel
theorem dX7_places_31 : decode cX7_places 31 = .ok (.ireturn, 1) := by decide +kernel
theorem dX7_places_32 : decode cX7_places 32 = .ok (.lconst 1, 1) := by decide +kernel
theorem dX7_places_33 : decode cX7_places 33 = .ok (.lstore_n 2, 1) := by decide +kernel
theorem dX7_places_34 : decode cX7_places 34 = .ok (.iconst 0, 1) := by decide +kernel
theorem dX7_places_35 : decode cX7_places 35 = .ok (.istore 4, 2) := by decide +kernel
theorem dX7_places_37 : decode cX7_places 37 = .ok (.iload 4, 2) := by decide +kernel
theorem dX7_places_39 : decode cX7_places 39 = .ok (.bipush 6, 2) := by decide +kernel
theorem dX7_places_41 : decode cX7_places 41 = .ok (.if_icmp .ge 114, 3) := by decide +kernel
theorem dX7_places_44 : decode cX7_places 44 = .ok (.aload_n 0, 1) := by decide +kernel
theorem dX7_places_45 : decode cX7_places 45 = .ok (.iload_n 1, 1) := by decide +kernel
theorem dX7_places_46 : decode cX7_places 46 = .ok (.iconst 2, 1) := by decide +kernel
theorem dX7_places_47 : decode cX7_places 47 = .ok (.iload 4, 2) := by decide +kernel
theorem dX7_places_49 : decode cX7_places 49 = .ok (.imul, 1) := by decide +kernel
theorem dX7_places_50 : decode cX7_places 50 = .ok (.iconst 2, 1) := by decide +kernel
theorem dX7_places_51 : decode cX7_places 51 = .ok (.iload 4, 2) := by decide +kernel
theorem dX7_places_53 : decode cX7_places 53 = .ok (.imul, 1) := by decide +kernel
theorem dX7_places_54 : decode cX7_places 54 = .ok (.invokevirtual 61, 3) := by decide +kernel
theorem dX7_places_57 : decode cX7_places 57 = .ok (.lstore 5, 2) := by decide +kernel
theorem dX7_places_59 : decode cX7_places 59 = .ok (.aload_n 0, 1) := by decide +kernel
theorem dX7_places_60 : decode cX7_places 60 = .ok (.iload_n 1, 1) := by decide +kernel
theorem dX7_places_61 : decode cX7_places 61 = .ok (.iconst 2, 1) := by decide +kernel
theorem dX7_places_62 : decode cX7_places 62 = .ok (.iload 4, 2) := by decide +kernel
theorem dX7_places_64 : decode cX7_places 64 = .ok (.imul, 1) := by decide +kernel
theorem dX7_places_65 : decode cX7_places 65 = .ok (.iconst 1, 1) := by decide +kernel
theorem dX7_places_66 : decode cX7_places 66 = .ok (.iadd, 1) := by decide +kernel
theorem dX7_places_67 : decode cX7_places 67 = .ok (.iconst 2, 1) := by decide +kernel
theorem dX7_places_68 : decode cX7_places 68 = .ok (.iload 4, 2) := by decide +kernel
theorem dX7_places_70 : decode cX7_places 70 = .ok (.imul, 1) := by decide +kernel
theorem dX7_places_71 : decode cX7_places 71 = .ok (.iconst 1, 1) := by decide +kernel
theorem dX7_places_72 : decode cX7_places 72 = .ok (.iadd, 1) := by decide +kernel
theorem dX7_places_73 : decode cX7_places 73 = .ok (.invokevirtual 61, 3) := by decide +kernel
theorem dX7_places_76 : decode cX7_places 76 = .ok (.lstore 7, 2) := by decide +kernel
theorem dX7_places_78 : decode cX7_places 78 = .ok (.lload 5, 2) := by decide +kernel
theorem dX7_places_80 : decode cX7_places 80 = .ok (.ldc2_w 45, 3) := by decide +kernel
theorem dX7_places_83 : decode cX7_places 83 = .ok (.lcmp, 1) := by decide +kernel
theorem dX7_places_84 : decode cX7_places 84 = .ok (.ifCond .eq 24, 3) := by decide +kernel
theorem dX7_places_87 : decode cX7_places 87 = .ok (.lload 7, 2) := by decide +kernel
theorem dX7_places_89 : decode cX7_places 89 = .ok (.ldc2_w 45, 3) := by decide +kernel
theorem dX7_places_92 : decode cX7_places 92 = .ok (.lcmp, 1) := by decide +kernel
theorem dX7_places_93 : decode cX7_places 93 = .ok (.ifCond .eq 15, 3) := by decide +kernel
theorem dX7_places_96 : decode cX7_places 96 = .ok (.lload 5, 2) := by decide +kernel
theorem dX7_places_98 : decode cX7_places 98 = .ok (.lload 7, 2) := by decide +kernel
theorem dX7_places_100 : decode cX7_places 100 = .ok (.ladd, 1) := by decide +kernel
theorem dX7_places_101 : decode cX7_places 101 = .ok (.ldc2_w 131, 3) := by decide +kernel
theorem dX7_places_104 : decode cX7_places 104 = .ok (.lcmp, 1) := by decide +kernel
theorem dX7_places_105 : decode cX7_places 105 = .ok (.ifCond .lt 5, 3) := by decide +kernel
theorem dX7_places_108 : decode cX7_places 108 = .ok (.iconst (-1), 1) := by decide +kernel
theorem dX7_places_109 : decode cX7_places 109 = .ok (.ireturn, 1) := by decide +kernel
theorem dX7_places_110 : decode cX7_places 110 = .ok (.aload_n 0, 1) := by decide +kernel
theorem dX7_places_111 : decode cX7_places 111 = .ok (.getfield 36, 3) := by decide +kernel
theorem dX7_places_114 : decode cX7_places 114 = .ok (.iload 4, 2) := by decide +kernel
theorem dX7_places_116 : decode cX7_places 116 = .ok (.lload 7, 2) := by decide +kernel
theorem dX7_places_118 : decode cX7_places 118 = .ok (.lneg, 1) := by decide +kernel
theorem dX7_places_119 : decode cX7_places 119 = .ok (.lastore, 1) := by decide +kernel
theorem dX7_places_120 : decode cX7_places 120 = .ok (.aload_n 0, 1) := by decide +kernel
theorem dX7_places_121 : decode cX7_places 121 = .ok (.getfield 39, 3) := by decide +kernel
theorem dX7_places_124 : decode cX7_places 124 = .ok (.iload 4, 2) := by decide +kernel
theorem dX7_places_126 : decode cX7_places 126 = .ok (.lload 5, 2) := by decide +kernel
theorem dX7_places_128 : decode cX7_places 128 = .ok (.lastore, 1) := by decide +kernel
theorem dX7_places_129 : decode cX7_places 129 = .ok (.lload_n 2, 1) := by decide +kernel
theorem dX7_places_130 : decode cX7_places 130 = .ok (.lload 5, 2) := by decide +kernel
theorem dX7_places_132 : decode cX7_places 132 = .ok (.lload 7, 2) := by decide +kernel
theorem dX7_places_134 : decode cX7_places 134 = .ok (.ladd, 1) := by decide +kernel
theorem dX7_places_135 : decode cX7_places 135 = .ok (.lconst 1, 1) := by decide +kernel
theorem dX7_places_136 : decode cX7_places 136 = .ok (.ladd, 1) := by decide +kernel
theorem dX7_places_137 : decode cX7_places 137 = .ok (.lmul, 1) := by decide +kernel
theorem dX7_places_138 : decode cX7_places 138 = .ok (.lstore_n 2, 1) := by decide +kernel
theorem dX7_places_139 : decode cX7_places 139 = .ok (.lload_n 2, 1) := by decide +kernel
theorem dX7_places_140 : decode cX7_places 140 = .ok (.ldc2_w 131, 3) := by decide +kernel
theorem dX7_places_143 : decode cX7_places 143 = .ok (.lcmp, 1) := by decide +kernel
theorem dX7_places_144 : decode cX7_places 144 = .ok (.ifCond .le 5, 3) := by decide +kernel
theorem dX7_places_147 : decode cX7_places 147 = .ok (.iconst (-1), 1) := by decide +kernel
theorem dX7_places_148 : decode cX7_places 148 = .ok (.ireturn, 1) := by decide +kernel
theorem dX7_places_149 : decode cX7_places 149 = .ok (.iinc 4 1, 3) := by decide +kernel
theorem dX7_places_152 : decode cX7_places 152 = .ok (.goto (-115), 3) := by decide +kernel
theorem dX7_places_155 : decode cX7_places 155 = .ok (.iconst 0, 1) := by decide +kernel
theorem dX7_places_156 : decode cX7_places 156 = .ok (.istore 4, 2) := by decide +kernel
theorem dX7_places_158 : decode cX7_places 158 = .ok (.iconst 0, 1) := by decide +kernel
theorem dX7_places_159 : decode cX7_places 159 = .ok (.istore 5, 2) := by decide +kernel
theorem dX7_places_161 : decode cX7_places 161 = .ok (.iload 5, 2) := by decide +kernel
theorem dX7_places_163 : decode cX7_places 163 = .ok (.i2l, 1) := by decide +kernel
theorem dX7_places_164 : decode cX7_places 164 = .ok (.lload_n 2, 1) := by decide +kernel
theorem dX7_places_165 : decode cX7_places 165 = .ok (.lcmp, 1) := by decide +kernel
theorem dX7_places_166 : decode cX7_places 166 = .ok (.ifCond .ge 96, 3) := by decide +kernel
theorem dX7_places_169 : decode cX7_places 169 = .ok (.iload 5, 2) := by decide +kernel
theorem dX7_places_171 : decode cX7_places 171 = .ok (.istore 6, 2) := by decide +kernel
theorem dX7_places_173 : decode cX7_places 173 = .ok (.iconst 0, 1) := by decide +kernel
theorem dX7_places_174 : decode cX7_places 174 = .ok (.istore 7, 2) := by decide +kernel
theorem dX7_places_176 : decode cX7_places 176 = .ok (.iload 7, 2) := by decide +kernel
theorem dX7_places_178 : decode cX7_places 178 = .ok (.bipush 6, 2) := by decide +kernel
theorem dX7_places_180 : decode cX7_places 180 = .ok (.if_icmp .ge 57, 3) := by decide +kernel
theorem dX7_places_183 : decode cX7_places 183 = .ok (.aload_n 0, 1) := by decide +kernel
theorem dX7_places_184 : decode cX7_places 184 = .ok (.getfield 39, 3) := by decide +kernel
theorem dX7_places_187 : decode cX7_places 187 = .ok (.iload 7, 2) := by decide +kernel
theorem dX7_places_189 : decode cX7_places 189 = .ok (.laload, 1) := by decide +kernel
theorem dX7_places_190 : decode cX7_places 190 = .ok (.aload_n 0, 1) := by decide +kernel
theorem dX7_places_191 : decode cX7_places 191 = .ok (.getfield 36, 3) := by decide +kernel
theorem dX7_places_194 : decode cX7_places 194 = .ok (.iload 7, 2) := by decide +kernel
theorem dX7_places_196 : decode cX7_places 196 = .ok (.laload, 1) := by decide +kernel
theorem dX7_places_197 : decode cX7_places 197 = .ok (.lsub, 1) := by decide +kernel
theorem dX7_places_198 : decode cX7_places 198 = .ok (.lconst 1, 1) := by decide +kernel
theorem dX7_places_199 : decode cX7_places 199 = .ok (.ladd, 1) := by decide +kernel
theorem dX7_places_200 : decode cX7_places 200 = .ok (.l2i, 1) := by decide +kernel
theorem dX7_places_201 : decode cX7_places 201 = .ok (.istore 8, 2) := by decide +kernel
theorem dX7_places_203 : decode cX7_places 203 = .ok (.aload_n 0, 1) := by decide +kernel
theorem dX7_places_204 : decode cX7_places 204 = .ok (.getfield 42, 3) := by decide +kernel
theorem dX7_places_207 : decode cX7_places 207 = .ok (.iload 7, 2) := by decide +kernel
theorem dX7_places_209 : decode cX7_places 209 = .ok (.aload_n 0, 1) := by decide +kernel
theorem dX7_places_210 : decode cX7_places 210 = .ok (.getfield 36, 3) := by decide +kernel
theorem dX7_places_213 : decode cX7_places 213 = .ok (.iload 7, 2) := by decide +kernel
theorem dX7_places_215 : decode cX7_places 215 = .ok (.laload, 1) := by decide +kernel
theorem dX7_places_216 : decode cX7_places 216 = .ok (.iload 6, 2) := by decide +kernel
theorem dX7_places_218 : decode cX7_places 218 = .ok (.iload 8, 2) := by decide +kernel
theorem dX7_places_220 : decode cX7_places 220 = .ok (.irem, 1) := by decide +kernel
theorem dX7_places_221 : decode cX7_places 221 = .ok (.i2l, 1) := by decide +kernel
theorem dX7_places_222 : decode cX7_places 222 = .ok (.ladd, 1) := by decide +kernel
theorem dX7_places_223 : decode cX7_places 223 = .ok (.lastore, 1) := by decide +kernel
theorem dX7_places_224 : decode cX7_places 224 = .ok (.iload 6, 2) := by decide +kernel
theorem dX7_places_226 : decode cX7_places 226 = .ok (.iload 8, 2) := by decide +kernel
theorem dX7_places_228 : decode cX7_places 228 = .ok (.idiv, 1) := by decide +kernel
theorem dX7_places_229 : decode cX7_places 229 = .ok (.istore 6, 2) := by decide +kernel
theorem dX7_places_231 : decode cX7_places 231 = .ok (.iinc 7 1, 3) := by decide +kernel
theorem dX7_places_234 : decode cX7_places 234 = .ok (.goto (-58), 3) := by decide +kernel
theorem dX7_places_237 : decode cX7_places 237 = .ok (.aload_n 0, 1) := by decide +kernel
theorem dX7_places_238 : decode cX7_places 238 = .ok (.iload_n 1, 1) := by decide +kernel
theorem dX7_places_239 : decode cX7_places 239 = .ok (.invokevirtual 133, 3) := by decide +kernel
theorem dX7_places_242 : decode cX7_places 242 = .ok (.ifCond .eq 10, 3) := by decide +kernel
theorem dX7_places_245 : decode cX7_places 245 = .ok (.iload 4, 2) := by decide +kernel
theorem dX7_places_247 : decode cX7_places 247 = .ok (.iconst 1, 1) := by decide +kernel
theorem dX7_places_248 : decode cX7_places 248 = .ok (.iadd, 1) := by decide +kernel
theorem dX7_places_249 : decode cX7_places 249 = .ok (.goto 5, 3) := by decide +kernel
theorem dX7_places_252 : decode cX7_places 252 = .ok (.iload 4, 2) := by decide +kernel
theorem dX7_places_254 : decode cX7_places 254 = .ok (.istore 4, 2) := by decide +kernel
theorem dX7_places_256 : decode cX7_places 256 = .ok (.iinc 5 1, 3) := by decide +kernel
theorem dX7_places_259 : decode cX7_places 259 = .ok (.goto (-98), 3) := by decide +kernel
theorem dX7_places_262 : decode cX7_places 262 = .ok (.iload 4, 2) := by decide +kernel
theorem dX7_places_264 : decode cX7_places 264 = .ok (.ireturn, 1) := by decide +kernel
set_option maxRecDepth 20000 in
theorem ggX7_step_X7_isIn : GoodIn wsX7_step wsX7_isIn := goodIn_r _ [11] rfl (by decide +kernel)
set_option maxRecDepth 20000 in
theorem gX7_step_X7_isIn : GoodIn wsX7_step (va_wsS RX7 51 yX7_isIn wsX7_isIn) := goodIn_app (goodIn_of _ (by decide +kernel)) ggX7_step_X7_isIn
set_option maxRecDepth 20000 in
theorem ggX7_step_X7_isAction : GoodIn wsX7_step wsX7_isAction := goodIn_r _ [14, 15, 16, 10, 17, 18, 19, 8, 9, 11, 20, 21, 22, 23, 24, 25] rfl (by decide +kernel)
set_option maxRecDepth 20000 in
theorem gX7_step_X7_isAction : GoodIn wsX7_step (va_wsS RX7 104 yX7_isAction wsX7_isAction) := goodIn_app (goodIn_of _ (by decide +kernel)) ggX7_step_X7_isAction
set_option maxRecDepth 20000 in
theorem ggX7_step_X7_refused : GoodIn wsX7_step wsX7_refused := goodIn_r _ [29, 30, 31, 32, 33, 34, 35, 36, 37, 38, 39, 40, 41, 42, 43] rfl (by decide +kernel)
set_option maxRecDepth 20000 in
theorem gX7_step_X7_refused : GoodIn wsX7_step (wsV RX7 108 RX7 yX7_refused wsX7_refused) := goodIn_app (goodIn_of _ (by decide +kernel)) ggX7_step_X7_refused
theorem dX7_step_0 : decode cX7_step 0 = .ok (.aload_n 0, 1) := by decide +kernel
theorem dX7_step_1 : decode cX7_step 1 = .ok (.iload_n 1, 1) := by decide +kernel
theorem dX7_step_2 : decode cX7_step 2 = .ok (.iconst 0, 1) := by decide +kernel
theorem dX7_step_3 : decode cX7_step 3 = .ok (.bipush 63, 2) := by decide +kernel
theorem dX7_step_5 : decode cX7_step 5 = .ok (.invokestatic 51, 3) := by decide +kernel
theorem dX7_step_8 : decode cX7_step 8 = .ok (.ifCond .eq 15, 3) := by decide +kernel
theorem dX7_step_11 : decode cX7_step 11 = .ok (.iload_n 2, 1) := by decide +kernel
theorem dX7_step_12 : decode cX7_step 12 = .ok (.iload_n 3, 1) := by decide +kernel
theorem dX7_step_13 : decode cX7_step 13 = .ok (.iload 4, 2) := by decide +kernel
theorem dX7_step_15 : decode cX7_step 15 = .ok (.iload 5, 2) := by decide +kernel
theorem dX7_step_17 : decode cX7_step 17 = .ok (.invokestatic 104, 3) := by decide +kernel
theorem dX7_step_20 : decode cX7_step 20 = .ok (.ifCond .ne 7, 3) := by decide +kernel
theorem dX7_step_23 : decode cX7_step 23 = .ok (.iconst 1, 1) := by decide +kernel
theorem dX7_step_24 : decode cX7_step 24 = .ok (.goto 17, 3) := by decide +kernel
theorem dX7_step_27 : decode cX7_step 27 = .ok (.aload_n 0, 1) := by decide +kernel
theorem dX7_step_28 : decode cX7_step 28 = .ok (.getfield 136, 3) := by decide +kernel
theorem dX7_step_31 : decode cX7_step 31 = .ok (.bipush 20, 2) := by decide +kernel
theorem dX7_step_33 : decode cX7_step 33 = .ok (.if_icmp .ne 7, 3) := by decide +kernel
theorem dX7_step_36 : decode cX7_step 36 = .ok (.iconst 2, 1) := by decide +kernel
theorem dX7_step_37 : decode cX7_step 37 = .ok (.goto 4, 3) := by decide +kernel
theorem dX7_step_40 : decode cX7_step 40 = .ok (.iconst 0, 1) := by decide +kernel
theorem dX7_step_41 : decode cX7_step 41 = .ok (.invokevirtual 108, 3) := by decide +kernel
theorem dX7_step_44 : decode cX7_step 44 = .ok (.ifCond .eq 5, 3) := by decide +kernel
theorem dX7_step_47 : decode cX7_step 47 = .ok (.iconst 0, 1) := by decide +kernel
theorem dX7_step_48 : decode cX7_step 48 = .ok (.ireturn, 1) := by decide +kernel
theorem dX7_step_49 : decode cX7_step 49 = .ok (.aload_n 0, 1) := by decide +kernel
theorem dX7_step_50 : decode cX7_step 50 = .ok (.getfield 17, 3) := by decide +kernel
theorem dX7_step_53 : decode cX7_step 53 = .ok (.aload_n 0, 1) := by decide +kernel
theorem dX7_step_54 : decode cX7_step 54 = .ok (.getfield 136, 3) := by decide +kernel
theorem dX7_step_57 : decode cX7_step 57 = .ok (.iload_n 1, 1) := by decide +kernel
theorem dX7_step_58 : decode cX7_step 58 = .ok (.bipush 8, 2) := by decide +kernel
theorem dX7_step_60 : decode cX7_step 60 = .ok (.idiv, 1) := by decide +kernel
theorem dX7_step_61 : decode cX7_step 61 = .ok (.iastore, 1) := by decide +kernel
theorem dX7_step_62 : decode cX7_step 62 = .ok (.aload_n 0, 1) := by decide +kernel
theorem dX7_step_63 : decode cX7_step 63 = .ok (.getfield 21, 3) := by decide +kernel
theorem dX7_step_66 : decode cX7_step 66 = .ok (.aload_n 0, 1) := by decide +kernel
theorem dX7_step_67 : decode cX7_step 67 = .ok (.getfield 136, 3) := by decide +kernel
theorem dX7_step_70 : decode cX7_step 70 = .ok (.iload_n 1, 1) := by decide +kernel
theorem dX7_step_71 : decode cX7_step 71 = .ok (.bipush 8, 2) := by decide +kernel
theorem dX7_step_73 : decode cX7_step 73 = .ok (.irem, 1) := by decide +kernel
theorem dX7_step_74 : decode cX7_step 74 = .ok (.iastore, 1) := by decide +kernel
theorem dX7_step_75 : decode cX7_step 75 = .ok (.aload_n 0, 1) := by decide +kernel
theorem dX7_step_76 : decode cX7_step 76 = .ok (.getfield 24, 3) := by decide +kernel
theorem dX7_step_79 : decode cX7_step 79 = .ok (.aload_n 0, 1) := by decide +kernel
theorem dX7_step_80 : decode cX7_step 80 = .ok (.getfield 136, 3) := by decide +kernel
theorem dX7_step_83 : decode cX7_step 83 = .ok (.iload_n 2, 1) := by decide +kernel
theorem dX7_step_84 : decode cX7_step 84 = .ok (.iastore, 1) := by decide +kernel
theorem dX7_step_85 : decode cX7_step 85 = .ok (.aload_n 0, 1) := by decide +kernel
theorem dX7_step_86 : decode cX7_step 86 = .ok (.getfield 27, 3) := by decide +kernel
theorem dX7_step_89 : decode cX7_step 89 = .ok (.aload_n 0, 1) := by decide +kernel
theorem dX7_step_90 : decode cX7_step 90 = .ok (.getfield 136, 3) := by decide +kernel
theorem dX7_step_93 : decode cX7_step 93 = .ok (.iload_n 3, 1) := by decide +kernel
theorem dX7_step_94 : decode cX7_step 94 = .ok (.iastore, 1) := by decide +kernel
theorem dX7_step_95 : decode cX7_step 95 = .ok (.aload_n 0, 1) := by decide +kernel
theorem dX7_step_96 : decode cX7_step 96 = .ok (.getfield 30, 3) := by decide +kernel
theorem dX7_step_99 : decode cX7_step 99 = .ok (.aload_n 0, 1) := by decide +kernel
theorem dX7_step_100 : decode cX7_step 100 = .ok (.getfield 136, 3) := by decide +kernel
theorem dX7_step_103 : decode cX7_step 103 = .ok (.iload 4, 2) := by decide +kernel
theorem dX7_step_105 : decode cX7_step 105 = .ok (.iastore, 1) := by decide +kernel
theorem dX7_step_106 : decode cX7_step 106 = .ok (.aload_n 0, 1) := by decide +kernel
theorem dX7_step_107 : decode cX7_step 107 = .ok (.getfield 33, 3) := by decide +kernel
theorem dX7_step_110 : decode cX7_step 110 = .ok (.aload_n 0, 1) := by decide +kernel
theorem dX7_step_111 : decode cX7_step 111 = .ok (.getfield 136, 3) := by decide +kernel
theorem dX7_step_114 : decode cX7_step 114 = .ok (.iload 5, 2) := by decide +kernel
theorem dX7_step_116 : decode cX7_step 116 = .ok (.iastore, 1) := by decide +kernel
theorem dX7_step_117 : decode cX7_step 117 = .ok (.aload_n 0, 1) := by decide +kernel
theorem dX7_step_118 : decode cX7_step 118 = .ok (.dup, 1) := by decide +kernel
theorem dX7_step_119 : decode cX7_step 119 = .ok (.getfield 136, 3) := by decide +kernel
theorem dX7_step_122 : decode cX7_step 122 = .ok (.iconst 1, 1) := by decide +kernel
theorem dX7_step_123 : decode cX7_step 123 = .ok (.iadd, 1) := by decide +kernel
theorem dX7_step_124 : decode cX7_step 124 = .ok (.putfield 136, 3) := by decide +kernel
theorem dX7_step_127 : decode cX7_step 127 = .ok (.aload_n 0, 1) := by decide +kernel
theorem dX7_step_128 : decode cX7_step 128 = .ok (.getfield 136, 3) := by decide +kernel
theorem dX7_step_131 : decode cX7_step 131 = .ok (.iconst 1, 1) := by decide +kernel
theorem dX7_step_132 : decode cX7_step 132 = .ok (.isub, 1) := by decide +kernel
theorem dX7_step_133 : decode cX7_step 133 = .ok (.ireturn, 1) := by decide +kernel
theorem dX7_erase_0 : decode cX7_erase 0 = .ok (.aload_n 0, 1) := by decide +kernel
theorem dX7_erase_1 : decode cX7_erase 1 = .ok (.iconst 0, 1) := by decide +kernel
theorem dX7_erase_2 : decode cX7_erase 2 = .ok (.putfield 47, 3) := by decide +kernel
theorem dX7_erase_5 : decode cX7_erase 5 = .ok (.aload_n 0, 1) := by decide +kernel
theorem dX7_erase_6 : decode cX7_erase 6 = .ok (.getfield 136, 3) := by decide +kernel
theorem dX7_erase_9 : decode cX7_erase 9 = .ok (.istore_n 1, 1) := by decide +kernel
theorem dX7_erase_10 : decode cX7_erase 10 = .ok (.aload_n 0, 1) := by decide +kernel
theorem dX7_erase_11 : decode cX7_erase 11 = .ok (.iconst 0, 1) := by decide +kernel
theorem dX7_erase_12 : decode cX7_erase 12 = .ok (.putfield 136, 3) := by decide +kernel
theorem dX7_erase_15 : decode cX7_erase 15 = .ok (.iload_n 1, 1) := by decide +kernel
theorem dX7_erase_16 : decode cX7_erase 16 = .ok (.ireturn, 1) := by decide +kernel
set_option maxRecDepth 20000 in
theorem ggX7_go_X7_load : GoodIn wsX7_go wsX7_load := goodIn_r _ [11, 12, 13, 65, 66, 67, 68, 69, 70, 71, 72, 73, 74, 75, 76, 77] rfl (by decide +kernel)
set_option maxRecDepth 20000 in
theorem gX7_go_X7_load : GoodIn wsX7_go (wsV RX7 87 RX7 yX7_load wsX7_load) := goodIn_app (goodIn_of _ (by decide +kernel)) ggX7_go_X7_load
set_option maxRecDepth 20000 in
theorem ggX7_go_X7_make : GoodIn wsX7_go wsX7_make := goodIn_r _ [17, 13, 18, 19, 20, 10, 21, 12, 22, 23, 24, 25, 26, 27, 28, 29, 7, 8, 9, 11, 30, 31, 32, 33, 34, 35, 36, 37, 38, 39, 40, 41, 42, 43, 44, 45, 46, 47, 48, 49, 50, 51, 52, 65, 66, 67, 68, 69, 70, 71, 72, 73, 74, 75, 76, 77] rfl (by decide +kernel)
set_option maxRecDepth 20000 in
theorem gX7_go_X7_make : GoodIn wsX7_go (wsV RX7 111 RX7 yX7_make wsX7_make) := goodIn_app (goodIn_of _ (by decide +kernel)) ggX7_go_X7_make
set_option maxRecDepth 20000 in
theorem ggX7_go_X7_isWithin : GoodIn wsX7_go wsX7_isWithin := goodIn_r _ [56, 13, 12, 65, 66, 67, 68, 69, 70, 71, 72, 73, 74, 75, 76, 77] rfl (by decide +kernel)
set_option maxRecDepth 20000 in
theorem gX7_go_X7_isWithin : GoodIn wsX7_go (wsV RX7 127 RX7 yX7_isWithin wsX7_isWithin) := goodIn_app (goodIn_of _ (by decide +kernel)) ggX7_go_X7_isWithin
set_option maxRecDepth 20000 in
theorem ggX7_go_X7_joined : GoodIn wsX7_go wsX7_joined := goodIn_r _ [60, 13, 12, 7, 8, 9, 10, 11, 65, 66, 67, 68, 69, 70, 71, 72, 73, 74, 75, 76, 77] rfl (by decide +kernel)
set_option maxRecDepth 20000 in
theorem gX7_go_X7_joined : GoodIn wsX7_go (wsV RX7 121 RX7 yX7_joined wsX7_joined) := goodIn_app (goodIn_of _ (by decide +kernel)) ggX7_go_X7_joined
set_option maxRecDepth 20000 in
theorem ggX7_go_X7_widened : GoodIn wsX7_go wsX7_widened := goodIn_r _ [64, 13, 12, 33, 7, 8, 9, 10, 11, 41, 42, 43, 44, 18, 19, 20, 21, 30, 31, 32, 45, 46, 47, 48, 34, 35, 36, 22, 23, 24, 25, 49, 50, 51, 52, 65, 66, 67, 68, 69, 70, 71, 72, 73, 74, 75, 76, 77] rfl (by decide +kernel)
set_option maxRecDepth 20000 in
theorem gX7_go_X7_widened : GoodIn wsX7_go (wsV RX7 124 RX7 yX7_widened wsX7_widened) := goodIn_app (goodIn_of _ (by decide +kernel)) ggX7_go_X7_widened
theorem dX7_go_0 : decode cX7_go 0 = .ok (.bipush 14, 2) := by decide +kernel
theorem dX7_go_2 : decode cX7_go 2 = .ok (.aload_n 0, 1) := by decide +kernel
theorem dX7_go_3 : decode cX7_go 3 = .ok (.getfield 21, 3) := by decide +kernel
theorem dX7_go_6 : decode cX7_go 6 = .ok (.iload_n 1, 1) := by decide +kernel
theorem dX7_go_7 : decode cX7_go 7 = .ok (.iaload, 1) := by decide +kernel
theorem dX7_go_8 : decode cX7_go 8 = .ok (.iadd, 1) := by decide +kernel
theorem dX7_go_9 : decode cX7_go 9 = .ok (.istore_n 3, 1) := by decide +kernel
theorem dX7_go_10 : decode cX7_go 10 = .ok (.aload_n 0, 1) := by decide +kernel
theorem dX7_go_11 : decode cX7_go 11 = .ok (.bipush 25, 2) := by decide +kernel
theorem dX7_go_13 : decode cX7_go 13 = .ok (.bipush 14, 2) := by decide +kernel
theorem dX7_go_15 : decode cX7_go 15 = .ok (.aload_n 0, 1) := by decide +kernel
theorem dX7_go_16 : decode cX7_go 16 = .ok (.getfield 17, 3) := by decide +kernel
theorem dX7_go_19 : decode cX7_go 19 = .ok (.iload_n 1, 1) := by decide +kernel
theorem dX7_go_20 : decode cX7_go 20 = .ok (.iaload, 1) := by decide +kernel
theorem dX7_go_21 : decode cX7_go 21 = .ok (.iadd, 1) := by decide +kernel
theorem dX7_go_22 : decode cX7_go 22 = .ok (.invokevirtual 87, 3) := by decide +kernel
theorem dX7_go_25 : decode cX7_go 25 = .ok (.aload_n 0, 1) := by decide +kernel
theorem dX7_go_26 : decode cX7_go 26 = .ok (.bipush 25, 2) := by decide +kernel
theorem dX7_go_28 : decode cX7_go 28 = .ok (.aload_n 0, 1) := by decide +kernel
theorem dX7_go_29 : decode cX7_go 29 = .ok (.getfield 24, 3) := by decide +kernel
theorem dX7_go_32 : decode cX7_go 32 = .ok (.iload_n 1, 1) := by decide +kernel
theorem dX7_go_33 : decode cX7_go 33 = .ok (.iaload, 1) := by decide +kernel
theorem dX7_go_34 : decode cX7_go 34 = .ok (.aload_n 0, 1) := by decide +kernel
theorem dX7_go_35 : decode cX7_go 35 = .ok (.getfield 27, 3) := by decide +kernel
theorem dX7_go_38 : decode cX7_go 38 = .ok (.iload_n 1, 1) := by decide +kernel
theorem dX7_go_39 : decode cX7_go 39 = .ok (.iaload, 1) := by decide +kernel
theorem dX7_go_40 : decode cX7_go 40 = .ok (.aload_n 0, 1) := by decide +kernel
theorem dX7_go_41 : decode cX7_go 41 = .ok (.getfield 30, 3) := by decide +kernel
theorem dX7_go_44 : decode cX7_go 44 = .ok (.iload_n 1, 1) := by decide +kernel
theorem dX7_go_45 : decode cX7_go 45 = .ok (.iaload, 1) := by decide +kernel
theorem dX7_go_46 : decode cX7_go 46 = .ok (.aload_n 0, 1) := by decide +kernel
theorem dX7_go_47 : decode cX7_go 47 = .ok (.getfield 33, 3) := by decide +kernel
theorem dX7_go_50 : decode cX7_go 50 = .ok (.iload_n 1, 1) := by decide +kernel
theorem dX7_go_51 : decode cX7_go 51 = .ok (.iaload, 1) := by decide +kernel
theorem dX7_go_52 : decode cX7_go 52 = .ok (.invokevirtual 111, 3) := by decide +kernel
theorem dX7_go_55 : decode cX7_go 55 = .ok (.aload_n 0, 1) := by decide +kernel
theorem dX7_go_56 : decode cX7_go 56 = .ok (.bipush 25, 2) := by decide +kernel
theorem dX7_go_58 : decode cX7_go 58 = .ok (.iload_n 3, 1) := by decide +kernel
theorem dX7_go_59 : decode cX7_go 59 = .ok (.invokevirtual 127, 3) := by decide +kernel
theorem dX7_go_62 : decode cX7_go 62 = .ok (.ifCond .eq 5, 3) := by decide +kernel
theorem dX7_go_65 : decode cX7_go 65 = .ok (.iconst 0, 1) := by decide +kernel
theorem dX7_go_66 : decode cX7_go 66 = .ok (.ireturn, 1) := by decide +kernel
theorem dX7_go_67 : decode cX7_go 67 = .ok (.aload_n 0, 1) := by decide +kernel
theorem dX7_go_68 : decode cX7_go 68 = .ok (.iload_n 3, 1) := by decide +kernel
theorem dX7_go_69 : decode cX7_go 69 = .ok (.bipush 25, 2) := by decide +kernel
theorem dX7_go_71 : decode cX7_go 71 = .ok (.invokevirtual 121, 3) := by decide +kernel
theorem dX7_go_74 : decode cX7_go 74 = .ok (.iload_n 2, 1) := by decide +kernel
theorem dX7_go_75 : decode cX7_go 75 = .ok (.iconst 3, 1) := by decide +kernel
theorem dX7_go_76 : decode cX7_go 76 = .ok (.if_icmp .le 35, 3) := by decide +kernel
theorem dX7_go_79 : decode cX7_go 79 = .ok (.aload_n 0, 1) := by decide +kernel
theorem dX7_go_80 : decode cX7_go 80 = .ok (.getfield 21, 3) := by decide +kernel
theorem dX7_go_83 : decode cX7_go 83 = .ok (.iload_n 1, 1) := by decide +kernel
theorem dX7_go_84 : decode cX7_go 84 = .ok (.iaload, 1) := by decide +kernel
theorem dX7_go_85 : decode cX7_go 85 = .ok (.aload_n 0, 1) := by decide +kernel
theorem dX7_go_86 : decode cX7_go 86 = .ok (.getfield 17, 3) := by decide +kernel
theorem dX7_go_89 : decode cX7_go 89 = .ok (.iload_n 1, 1) := by decide +kernel
theorem dX7_go_90 : decode cX7_go 90 = .ok (.iaload, 1) := by decide +kernel
theorem dX7_go_91 : decode cX7_go 91 = .ok (.if_icmp .gt 20, 3) := by decide +kernel
theorem dX7_go_94 : decode cX7_go 94 = .ok (.aload_n 0, 1) := by decide +kernel
theorem dX7_go_95 : decode cX7_go 95 = .ok (.iload_n 3, 1) := by decide +kernel
theorem dX7_go_96 : decode cX7_go 96 = .ok (.bipush 22, 2) := by decide +kernel
theorem dX7_go_98 : decode cX7_go 98 = .ok (.invokevirtual 124, 3) := by decide +kernel
theorem dX7_go_101 : decode cX7_go 101 = .ok (.aload_n 0, 1) := by decide +kernel
theorem dX7_go_102 : decode cX7_go 102 = .ok (.iload_n 3, 1) := by decide +kernel
theorem dX7_go_103 : decode cX7_go 103 = .ok (.bipush 23, 2) := by decide +kernel
theorem dX7_go_105 : decode cX7_go 105 = .ok (.invokevirtual 87, 3) := by decide +kernel
theorem dX7_go_108 : decode cX7_go 108 = .ok (.goto 10, 3) := by decide +kernel
theorem dX7_go_111 : decode cX7_go 111 = .ok (.aload_n 0, 1) := by decide +kernel
theorem dX7_go_112 : decode cX7_go 112 = .ok (.iload_n 3, 1) := by decide +kernel
theorem dX7_go_113 : decode cX7_go 113 = .ok (.bipush 22, 2) := by decide +kernel
theorem dX7_go_115 : decode cX7_go 115 = .ok (.invokevirtual 87, 3) := by decide +kernel
theorem dX7_go_118 : decode cX7_go 118 = .ok (.iconst 1, 1) := by decide +kernel
theorem dX7_go_119 : decode cX7_go 119 = .ok (.ireturn, 1) := by decide +kernel
set_option maxRecDepth 20000 in
theorem ggX7_run_X7_isSlot : GoodIn wsX7_run wsX7_isSlot := goodIn_r _ [6, 7, 8, 5, 9] rfl (by decide +kernel)
set_option maxRecDepth 20000 in
theorem gX7_run_X7_isSlot : GoodIn wsX7_run (va_wsS RX7 101 yX7_isSlot wsX7_isSlot) := goodIn_app (goodIn_of _ (by decide +kernel)) ggX7_run_X7_isSlot
set_option maxRecDepth 20000 in
theorem ggX7_run_X7_refused : GoodIn wsX7_run wsX7_refused := goodIn_r _ [13, 14, 85, 86, 87, 88, 89, 90, 91, 92, 93, 94, 95, 96, 97] rfl (by decide +kernel)
set_option maxRecDepth 20000 in
theorem gX7_run_X7_refused : GoodIn wsX7_run (wsV RX7 108 RX7 yX7_refused wsX7_refused) := goodIn_app (goodIn_of _ (by decide +kernel)) ggX7_run_X7_refused
set_option maxRecDepth 20000 in
theorem ggX7_run_X7_all : GoodIn wsX7_run wsX7_all := goodIn_r _ [18, 19, 20, 1, 85, 86, 87, 88, 89, 90, 91, 92, 93, 94, 95, 96, 97] rfl (by decide +kernel)
set_option maxRecDepth 20000 in
theorem gX7_run_X7_all : GoodIn wsX7_run (wsV RX7 115 RX7 yX7_all wsX7_all) := goodIn_app (goodIn_of _ (by decide +kernel)) ggX7_run_X7_all
set_option maxRecDepth 20000 in
theorem ggX7_run_X7_load : GoodIn wsX7_run wsX7_load := goodIn_r _ [24, 19, 1, 85, 86, 87, 88, 89, 90, 91, 92, 93, 94, 95, 96, 97] rfl (by decide +kernel)
set_option maxRecDepth 20000 in
theorem gX7_run_X7_load : GoodIn wsX7_run (wsV RX7 87 RX7 yX7_load wsX7_load) := goodIn_app (goodIn_of _ (by decide +kernel)) ggX7_run_X7_load
set_option maxRecDepth 20000 in
theorem ggX7_run_X7_go : GoodIn wsX7_run wsX7_go := goodIn_r _ [28, 29, 30, 31, 32, 33, 34, 21, 22, 23, 5, 24, 19, 1, 35, 36, 37, 38, 39, 40, 41, 42, 43, 44, 45, 46, 47, 48, 49, 50, 51, 52, 53, 20, 54, 55, 56, 57, 58, 59, 60, 61, 62, 63, 64, 65, 66, 67, 68, 69, 70, 71, 72, 73, 74, 75, 76, 77, 78, 79, 80, 81, 82, 83, 84, 85, 86, 87, 88, 89, 90, 91, 92, 93, 94, 95, 96, 97] rfl (by decide +kernel)
set_option maxRecDepth 20000 in
theorem gX7_run_X7_go : GoodIn wsX7_run (wsV RX7 139 RX7 yX7_go wsX7_go) := goodIn_app (goodIn_of _ (by decide +kernel)) ggX7_run_X7_go
theorem dX7_run_0 : decode cX7_run 0 = .ok (.aload_n 0, 1) := by decide +kernel
theorem dX7_run_1 : decode cX7_run 1 = .ok (.iload_n 1, 1) := by decide +kernel
theorem dX7_run_2 : decode cX7_run 2 = .ok (.invokestatic 101, 3) := by decide +kernel
theorem dX7_run_5 : decode cX7_run 5 = .ok (.ifCond .eq 7, 3) := by decide +kernel
theorem dX7_run_8 : decode cX7_run 8 = .ok (.iconst 0, 1) := by decide +kernel
theorem dX7_run_9 : decode cX7_run 9 = .ok (.goto 4, 3) := by decide +kernel
theorem dX7_run_12 : decode cX7_run 12 = .ok (.iconst 1, 1) := by decide +kernel
theorem dX7_run_13 : decode cX7_run 13 = .ok (.invokevirtual 108, 3) := by decide +kernel
theorem dX7_run_16 : decode cX7_run 16 = .ok (.ifCond .eq 5, 3) := by decide +kernel
theorem dX7_run_19 : decode cX7_run 19 = .ok (.iconst 0, 1) := by decide +kernel
theorem dX7_run_20 : decode cX7_run 20 = .ok (.ireturn, 1) := by decide +kernel
theorem dX7_run_21 : decode cX7_run 21 = .ok (.iconst 0, 1) := by decide +kernel
theorem dX7_run_22 : decode cX7_run 22 = .ok (.istore_n 2, 1) := by decide +kernel
theorem dX7_run_23 : decode cX7_run 23 = .ok (.iload_n 2, 1) := by decide +kernel
theorem dX7_run_24 : decode cX7_run 24 = .ok (.bipush 8, 2) := by decide +kernel
theorem dX7_run_26 : decode cX7_run 26 = .ok (.if_icmp .ge 27, 3) := by decide +kernel
theorem dX7_run_29 : decode cX7_run 29 = .ok (.aload_n 0, 1) := by decide +kernel
theorem dX7_run_30 : decode cX7_run 30 = .ok (.bipush 14, 2) := by decide +kernel
theorem dX7_run_32 : decode cX7_run 32 = .ok (.iload_n 2, 1) := by decide +kernel
theorem dX7_run_33 : decode cX7_run 33 = .ok (.iadd, 1) := by decide +kernel
theorem dX7_run_34 : decode cX7_run 34 = .ok (.invokevirtual 115, 3) := by decide +kernel
theorem dX7_run_37 : decode cX7_run 37 = .ok (.aload_n 0, 1) := by decide +kernel
theorem dX7_run_38 : decode cX7_run 38 = .ok (.getfield 13, 3) := by decide +kernel
theorem dX7_run_41 : decode cX7_run 41 = .ok (.bipush 14, 2) := by decide +kernel
theorem dX7_run_43 : decode cX7_run 43 = .ok (.iload_n 2, 1) := by decide +kernel
theorem dX7_run_44 : decode cX7_run 44 = .ok (.iadd, 1) := by decide +kernel
theorem dX7_run_45 : decode cX7_run 45 = .ok (.iconst 1, 1) := by decide +kernel
theorem dX7_run_46 : decode cX7_run 46 = .ok (.bastore, 1) := by decide +kernel
theorem dX7_run_47 : decode cX7_run 47 = .ok (.iinc 2 1, 3) := by decide +kernel
theorem dX7_run_50 : decode cX7_run 50 = .ok (.goto (-27), 3) := by decide +kernel
theorem dX7_run_53 : decode cX7_run 53 = .ok (.aload_n 0, 1) := by decide +kernel
theorem dX7_run_54 : decode cX7_run 54 = .ok (.bipush 14, 2) := by decide +kernel
theorem dX7_run_56 : decode cX7_run 56 = .ok (.iload_n 1, 1) := by decide +kernel
theorem dX7_run_57 : decode cX7_run 57 = .ok (.invokevirtual 87, 3) := by decide +kernel
theorem dX7_run_60 : decode cX7_run 60 = .ok (.iconst 0, 1) := by decide +kernel
theorem dX7_run_61 : decode cX7_run 61 = .ok (.istore_n 2, 1) := by decide +kernel
theorem dX7_run_62 : decode cX7_run 62 = .ok (.iconst 1, 1) := by decide +kernel
theorem dX7_run_63 : decode cX7_run 63 = .ok (.istore_n 3, 1) := by decide +kernel
theorem dX7_run_64 : decode cX7_run 64 = .ok (.iload_n 3, 1) := by decide +kernel
theorem dX7_run_65 : decode cX7_run 65 = .ok (.ifCond .eq 59, 3) := by decide +kernel
theorem dX7_run_68 : decode cX7_run 68 = .ok (.iload_n 2, 1) := by decide +kernel
theorem dX7_run_69 : decode cX7_run 69 = .ok (.bipush 30, 2) := by decide +kernel
theorem dX7_run_71 : decode cX7_run 71 = .ok (.if_icmp .ge 53, 3) := by decide +kernel
theorem dX7_run_74 : decode cX7_run 74 = .ok (.iinc 2 1, 3) := by decide +kernel
theorem dX7_run_77 : decode cX7_run 77 = .ok (.iconst 0, 1) := by decide +kernel
theorem dX7_run_78 : decode cX7_run 78 = .ok (.istore_n 3, 1) := by decide +kernel
theorem dX7_run_79 : decode cX7_run 79 = .ok (.iconst 0, 1) := by decide +kernel
theorem dX7_run_80 : decode cX7_run 80 = .ok (.istore 4, 2) := by decide +kernel
theorem dX7_run_82 : decode cX7_run 82 = .ok (.iload 4, 2) := by decide +kernel
theorem dX7_run_84 : decode cX7_run 84 = .ok (.aload_n 0, 1) := by decide +kernel
theorem dX7_run_85 : decode cX7_run 85 = .ok (.getfield 136, 3) := by decide +kernel
theorem dX7_run_88 : decode cX7_run 88 = .ok (.if_icmp .ge 33, 3) := by decide +kernel
theorem dX7_run_91 : decode cX7_run 91 = .ok (.aload_n 0, 1) := by decide +kernel
theorem dX7_run_92 : decode cX7_run 92 = .ok (.iload 4, 2) := by decide +kernel
theorem dX7_run_94 : decode cX7_run 94 = .ok (.iload_n 2, 1) := by decide +kernel
theorem dX7_run_95 : decode cX7_run 95 = .ok (.invokevirtual 139, 3) := by decide +kernel
theorem dX7_run_98 : decode cX7_run 98 = .ok (.istore 5, 2) := by decide +kernel
theorem dX7_run_100 : decode cX7_run 100 = .ok (.iload_n 3, 1) := by decide +kernel
theorem dX7_run_101 : decode cX7_run 101 = .ok (.ifCond .ne 8, 3) := by decide +kernel
theorem dX7_run_104 : decode cX7_run 104 = .ok (.iload 5, 2) := by decide +kernel
theorem dX7_run_106 : decode cX7_run 106 = .ok (.ifCond .eq 7, 3) := by decide +kernel
theorem dX7_run_109 : decode cX7_run 109 = .ok (.iconst 1, 1) := by decide +kernel
theorem dX7_run_110 : decode cX7_run 110 = .ok (.goto 4, 3) := by decide +kernel
theorem dX7_run_113 : decode cX7_run 113 = .ok (.iconst 0, 1) := by decide +kernel
theorem dX7_run_114 : decode cX7_run 114 = .ok (.istore_n 3, 1) := by decide +kernel
theorem dX7_run_115 : decode cX7_run 115 = .ok (.iinc 4 1, 3) := by decide +kernel
theorem dX7_run_118 : decode cX7_run 118 = .ok (.goto (-36), 3) := by decide +kernel
theorem dX7_run_121 : decode cX7_run 121 = .ok (.goto (-57), 3) := by decide +kernel
theorem dX7_run_124 : decode cX7_run 124 = .ok (.iload_n 3, 1) := by decide +kernel
theorem dX7_run_125 : decode cX7_run 125 = .ok (.ifCond .eq 5, 3) := by decide +kernel
theorem dX7_run_128 : decode cX7_run 128 = .ok (.iconst (-1), 1) := by decide +kernel
theorem dX7_run_129 : decode cX7_run 129 = .ok (.ireturn, 1) := by decide +kernel
theorem dX7_run_130 : decode cX7_run 130 = .ok (.iconst 0, 1) := by decide +kernel
theorem dX7_run_131 : decode cX7_run 131 = .ok (.istore 4, 2) := by decide +kernel
theorem dX7_run_133 : decode cX7_run 133 = .ok (.iload 4, 2) := by decide +kernel
theorem dX7_run_135 : decode cX7_run 135 = .ok (.bipush 8, 2) := by decide +kernel
theorem dX7_run_137 : decode cX7_run 137 = .ok (.if_icmp .ge 23, 3) := by decide +kernel
theorem dX7_run_140 : decode cX7_run 140 = .ok (.aload_n 0, 1) := by decide +kernel
theorem dX7_run_141 : decode cX7_run 141 = .ok (.bipush 6, 2) := by decide +kernel
theorem dX7_run_143 : decode cX7_run 143 = .ok (.iload 4, 2) := by decide +kernel
theorem dX7_run_145 : decode cX7_run 145 = .ok (.iadd, 1) := by decide +kernel
theorem dX7_run_146 : decode cX7_run 146 = .ok (.bipush 14, 2) := by decide +kernel
theorem dX7_run_148 : decode cX7_run 148 = .ok (.iload 4, 2) := by decide +kernel
theorem dX7_run_150 : decode cX7_run 150 = .ok (.iadd, 1) := by decide +kernel
theorem dX7_run_151 : decode cX7_run 151 = .ok (.invokevirtual 87, 3) := by decide +kernel
theorem dX7_run_154 : decode cX7_run 154 = .ok (.iinc 4 1, 3) := by decide +kernel
theorem dX7_run_157 : decode cX7_run 157 = .ok (.goto (-24), 3) := by decide +kernel
theorem dX7_run_160 : decode cX7_run 160 = .ok (.iload_n 2, 1) := by decide +kernel
theorem dX7_run_161 : decode cX7_run 161 = .ok (.ireturn, 1) := by decide +kernel
set_option maxRecDepth 20000 in
theorem ggX7_take_X7_isSlot : GoodIn wsX7_take wsX7_isSlot := goodIn_r _ [5, 6, 7, 4, 8] rfl (by decide +kernel)
set_option maxRecDepth 20000 in
theorem gX7_take_X7_isSlot : GoodIn wsX7_take (va_wsS RX7 101 yX7_isSlot wsX7_isSlot) := goodIn_app (goodIn_of _ (by decide +kernel)) ggX7_take_X7_isSlot
set_option maxRecDepth 20000 in
theorem ggX7_take_X7_isIn : GoodIn wsX7_take wsX7_isIn := goodIn_r _ [8] rfl (by decide +kernel)
set_option maxRecDepth 20000 in
theorem gX7_take_X7_isIn : GoodIn wsX7_take (va_wsS RX7 51 yX7_isIn wsX7_isIn) := goodIn_app (goodIn_of _ (by decide +kernel)) ggX7_take_X7_isIn
set_option maxRecDepth 20000 in
theorem ggX7_take_X7_refused : GoodIn wsX7_take wsX7_refused := goodIn_r _ [12, 13, 19, 20, 21, 22, 23, 24, 25, 26, 27, 28, 29, 30, 31] rfl (by decide +kernel)
set_option maxRecDepth 20000 in
theorem gX7_take_X7_refused : GoodIn wsX7_take (wsV RX7 108 RX7 yX7_refused wsX7_refused) := goodIn_app (goodIn_of _ (by decide +kernel)) ggX7_take_X7_refused
set_option maxRecDepth 20000 in
theorem ggX7_take_X7_load : GoodIn wsX7_take wsX7_load := goodIn_r _ [17, 18, 1, 19, 20, 21, 22, 23, 24, 25, 26, 27, 28, 29, 30, 31] rfl (by decide +kernel)
set_option maxRecDepth 20000 in
theorem gX7_take_X7_load : GoodIn wsX7_take (wsV RX7 87 RX7 yX7_load wsX7_load) := goodIn_app (goodIn_of _ (by decide +kernel)) ggX7_take_X7_load
theorem dX7_take_0 : decode cX7_take 0 = .ok (.aload_n 0, 1) := by decide +kernel
theorem dX7_take_1 : decode cX7_take 1 = .ok (.iload_n 1, 1) := by decide +kernel
theorem dX7_take_2 : decode cX7_take 2 = .ok (.invokestatic 101, 3) := by decide +kernel
theorem dX7_take_5 : decode cX7_take 5 = .ok (.ifCond .eq 17, 3) := by decide +kernel
theorem dX7_take_8 : decode cX7_take 8 = .ok (.iload_n 2, 1) := by decide +kernel
theorem dX7_take_9 : decode cX7_take 9 = .ok (.iconst 0, 1) := by decide +kernel
theorem dX7_take_10 : decode cX7_take 10 = .ok (.bipush 7, 2) := by decide +kernel
theorem dX7_take_12 : decode cX7_take 12 = .ok (.invokestatic 51, 3) := by decide +kernel
theorem dX7_take_15 : decode cX7_take 15 = .ok (.ifCond .eq 7, 3) := by decide +kernel
theorem dX7_take_18 : decode cX7_take 18 = .ok (.iconst 0, 1) := by decide +kernel
theorem dX7_take_19 : decode cX7_take 19 = .ok (.goto 4, 3) := by decide +kernel
theorem dX7_take_22 : decode cX7_take 22 = .ok (.iconst 1, 1) := by decide +kernel
theorem dX7_take_23 : decode cX7_take 23 = .ok (.invokevirtual 108, 3) := by decide +kernel
theorem dX7_take_26 : decode cX7_take 26 = .ok (.ifCond .eq 5, 3) := by decide +kernel
theorem dX7_take_29 : decode cX7_take 29 = .ok (.iconst 0, 1) := by decide +kernel
theorem dX7_take_30 : decode cX7_take 30 = .ok (.ireturn, 1) := by decide +kernel
theorem dX7_take_31 : decode cX7_take 31 = .ok (.aload_n 0, 1) := by decide +kernel
theorem dX7_take_32 : decode cX7_take 32 = .ok (.iload_n 1, 1) := by decide +kernel
theorem dX7_take_33 : decode cX7_take 33 = .ok (.bipush 6, 2) := by decide +kernel
theorem dX7_take_35 : decode cX7_take 35 = .ok (.iload_n 2, 1) := by decide +kernel
theorem dX7_take_36 : decode cX7_take 36 = .ok (.iadd, 1) := by decide +kernel
theorem dX7_take_37 : decode cX7_take 37 = .ok (.invokevirtual 87, 3) := by decide +kernel
theorem dX7_take_40 : decode cX7_take 40 = .ok (.aload_n 0, 1) := by decide +kernel
theorem dX7_take_41 : decode cX7_take 41 = .ok (.getfield 13, 3) := by decide +kernel
theorem dX7_take_44 : decode cX7_take 44 = .ok (.iload_n 1, 1) := by decide +kernel
theorem dX7_take_45 : decode cX7_take 45 = .ok (.baload, 1) := by decide +kernel
theorem dX7_take_46 : decode cX7_take 46 = .ok (.ifCond .ne 7, 3) := by decide +kernel
theorem dX7_take_49 : decode cX7_take 49 = .ok (.iconst 1, 1) := by decide +kernel
theorem dX7_take_50 : decode cX7_take 50 = .ok (.goto 4, 3) := by decide +kernel
theorem dX7_take_53 : decode cX7_take 53 = .ok (.iconst 0, 1) := by decide +kernel
theorem dX7_take_54 : decode cX7_take 54 = .ok (.ireturn, 1) := by decide +kernel
