theorem dX1_tell_78 : decode cX1_tell 78 = .ok (.iload 7, 2) := by decide +kernel
theorem dX1_tell_80 : decode cX1_tell 80 = .ok (.iload 8, 2) := by decide +kernel
theorem dX1_tell_82 : decode cX1_tell 82 = .ok (.iload_n 2, 1) := by decide +kernel
theorem dX1_tell_83 : decode cX1_tell 83 = .ok (.iload 4, 2) := by decide +kernel
theorem dX1_tell_85 : decode cX1_tell 85 = .ok (.invokestatic 75, 3) := by decide +kernel
theorem dX1_tell_88 : decode cX1_tell 88 = .ok (.iadd, 1) := by decide +kernel
theorem dX1_tell_89 : decode cX1_tell 89 = .ok (.i2l, 1) := by decide +kernel
theorem dX1_tell_90 : decode cX1_tell 90 = .ok (.invokevirtual 78, 3) := by decide +kernel
theorem dX1_tell_93 : decode cX1_tell 93 = .ok (.iinc 8 1, 3) := by decide +kernel
theorem dX1_tell_96 : decode cX1_tell 96 = .ok (.goto (-56), 3) := by decide +kernel
theorem dX1_tell_99 : decode cX1_tell 99 = .ok (.iinc 5 1, 3) := by decide +kernel
theorem dX1_tell_102 : decode cX1_tell 102 = .ok (.goto (-91), 3) := by decide +kernel
theorem dX1_tell_105 : decode cX1_tell 105 = .ok (.return_, 1) := by decide +kernel
set_option maxRecDepth 20000 in
theorem ggX1_oldTerm_X3_negation : GoodIn wsX1_oldTerm wsX3_negation := goodIn_r _ [3] (by decide +kernel) (by decide +kernel)
set_option maxRecDepth 20000 in
theorem gX1_oldTerm_X3_negation_n82 : GoodIn wsX1_oldTerm (wsX3_negation) := ggX1_oldTerm_X3_negation
theorem dX1_oldTerm_0 : decode cX1_oldTerm 0 = .ok (.iload_n 0, 1) := by decide +kernel
theorem dX1_oldTerm_1 : decode cX1_oldTerm 1 = .ok (.iconst 2, 1) := by decide +kernel
theorem dX1_oldTerm_2 : decode cX1_oldTerm 2 = .ok (.idiv, 1) := by decide +kernel
theorem dX1_oldTerm_3 : decode cX1_oldTerm 3 = .ok (.iload_n 1, 1) := by decide +kernel
theorem dX1_oldTerm_4 : decode cX1_oldTerm 4 = .ok (.if_icmp .eq 5, 3) := by decide +kernel
theorem dX1_oldTerm_7 : decode cX1_oldTerm 7 = .ok (.iload_n 0, 1) := by decide +kernel
theorem dX1_oldTerm_8 : decode cX1_oldTerm 8 = .ok (.ireturn, 1) := by decide +kernel
theorem dX1_oldTerm_9 : decode cX1_oldTerm 9 = .ok (.iload_n 0, 1) := by decide +kernel
theorem dX1_oldTerm_10 : decode cX1_oldTerm 10 = .ok (.iconst 2, 1) := by decide +kernel
theorem dX1_oldTerm_11 : decode cX1_oldTerm 11 = .ok (.irem, 1) := by decide +kernel
theorem dX1_oldTerm_12 : decode cX1_oldTerm 12 = .ok (.ifCond .ne 7, 3) := by decide +kernel
theorem dX1_oldTerm_15 : decode cX1_oldTerm 15 = .ok (.iload_n 2, 1) := by decide +kernel
theorem dX1_oldTerm_16 : decode cX1_oldTerm 16 = .ok (.goto 7, 3) := by decide +kernel
theorem dX1_oldTerm_19 : decode cX1_oldTerm 19 = .ok (.iload_n 2, 1) := by decide +kernel
theorem dX1_oldTerm_20 : decode cX1_oldTerm 20 = .ok (.invokestatic 82, 3) := by decide +kernel
theorem dX1_oldTerm_23 : decode cX1_oldTerm 23 = .ok (.ireturn, 1) := by decide +kernel
theorem dX1_moreOf_0 : decode cX1_moreOf 0 = .ok (.iload_n 0, 1) := by decide +kernel
theorem dX1_moreOf_1 : decode cX1_moreOf 1 = .ok (.iconst 2, 1) := by decide +kernel
theorem dX1_moreOf_2 : decode cX1_moreOf 2 = .ok (.idiv, 1) := by decide +kernel
theorem dX1_moreOf_3 : decode cX1_moreOf 3 = .ok (.iload_n 1, 1) := by decide +kernel
theorem dX1_moreOf_4 : decode cX1_moreOf 4 = .ok (.if_icmp .eq 5, 3) := by decide +kernel
theorem dX1_moreOf_7 : decode cX1_moreOf 7 = .ok (.iconst 0, 1) := by decide +kernel
theorem dX1_moreOf_8 : decode cX1_moreOf 8 = .ok (.ireturn, 1) := by decide +kernel
theorem dX1_moreOf_9 : decode cX1_moreOf 9 = .ok (.iload_n 0, 1) := by decide +kernel
theorem dX1_moreOf_10 : decode cX1_moreOf 10 = .ok (.iconst 2, 1) := by decide +kernel
theorem dX1_moreOf_11 : decode cX1_moreOf 11 = .ok (.irem, 1) := by decide +kernel
theorem dX1_moreOf_12 : decode cX1_moreOf 12 = .ok (.ifCond .ne 7, 3) := by decide +kernel
theorem dX1_moreOf_15 : decode cX1_moreOf 15 = .ok (.iload_n 2, 1) := by decide +kernel
theorem dX1_moreOf_16 : decode cX1_moreOf 16 = .ok (.goto 5, 3) := by decide +kernel
theorem dX1_moreOf_19 : decode cX1_moreOf 19 = .ok (.iload_n 2, 1) := by decide +kernel
theorem dX1_moreOf_20 : decode cX1_moreOf 20 = .ok (.ineg, 1) := by decide +kernel
theorem dX1_moreOf_21 : decode cX1_moreOf 21 = .ok (.ireturn, 1) := by decide +kernel
set_option maxRecDepth 20000 in
theorem ggX1_scatter_X1_release : GoodIn wsX1_scatter wsX1_release := goodIn_r _ [8, 1, 9, 10, 7, 11, 12, 13, 14, 15, 16, 17, 18, 19, 20, 21, 22, 23, 24, 25, 69, 70, 71, 72, 73, 74] (by decide +kernel) (by decide +kernel)
set_option maxRecDepth 20000 in
theorem gX1_scatter_X1_release : GoodIn wsX1_scatter (wsV RX1 24 RX1 yX1_release wsX1_release) := goodIn_app (goodIn_of _ (by decide +kernel)) ggX1_scatter_X1_release
set_option maxRecDepth 20000 in
theorem ggX1_scatter_X1_cell : GoodIn wsX1_scatter wsX1_cell := goodIn_r _ [11] (by decide +kernel) (by decide +kernel)
set_option maxRecDepth 20000 in
theorem gX1_scatter_X1_cell : GoodIn wsX1_scatter (va_wsS RX1 50 yX1_cell wsX1_cell) := goodIn_app (goodIn_of _ (by decide +kernel)) ggX1_scatter_X1_cell
set_option maxRecDepth 20000 in
theorem ggX1_scatter_X0_set : GoodIn wsX1_scatter wsX0_set := goodIn_r _ [24, 17, 18, 25, 19, 71, 72, 73, 74] (by decide +kernel) (by decide +kernel)
set_option maxRecDepth 20000 in
theorem gX1_scatter_X0_set : GoodIn wsX1_scatter (wsV RX1 38 RX0 yX0_set wsX0_set) := goodIn_app (goodIn_of _ (by decide +kernel)) ggX1_scatter_X0_set
set_option maxRecDepth 20000 in
theorem ggX1_scatter_X1_combineSingles : GoodIn wsX1_scatter wsX1_combineSingles := goodIn_r _ [29, 30, 1, 9, 10, 7, 11, 31, 32, 33, 15, 34, 18, 17, 19, 35, 36, 37, 38, 20, 39, 13, 14, 16, 40, 41, 42, 43, 44, 45, 46, 47, 48, 49, 25, 50, 51, 52, 53, 54, 55, 56, 57, 58, 59, 60, 61, 62, 63, 64, 65, 66, 67, 68, 69, 70, 71, 72, 73, 74] (by decide +kernel) (by decide +kernel)
set_option maxRecDepth 20000 in
theorem gX1_scatter_X1_combineSingles : GoodIn wsX1_scatter (wsV RX1 68 RX1 yX1_combineSingles wsX1_combineSingles) := goodIn_app (goodIn_of _ (by decide +kernel)) ggX1_scatter_X1_combineSingles
theorem dX1_scatter_0 : decode cX1_scatter 0 = .ok (.aload_n 0, 1) := by decide +kernel
theorem dX1_scatter_1 : decode cX1_scatter 1 = .ok (.iload_n 1, 1) := by decide +kernel
theorem dX1_scatter_2 : decode cX1_scatter 2 = .ok (.invokevirtual 24, 3) := by decide +kernel
theorem dX1_scatter_5 : decode cX1_scatter 5 = .ok (.aload_n 0, 1) := by decide +kernel
theorem dX1_scatter_6 : decode cX1_scatter 6 = .ok (.getfield 16, 3) := by decide +kernel
theorem dX1_scatter_9 : decode cX1_scatter 9 = .ok (.iconst 2, 1) := by decide +kernel
theorem dX1_scatter_10 : decode cX1_scatter 10 = .ok (.iload_n 1, 1) := by decide +kernel
theorem dX1_scatter_11 : decode cX1_scatter 11 = .ok (.imul, 1) := by decide +kernel
theorem dX1_scatter_12 : decode cX1_scatter 12 = .ok (.iconst 2, 1) := by decide +kernel
theorem dX1_scatter_13 : decode cX1_scatter 13 = .ok (.iload_n 1, 1) := by decide +kernel
theorem dX1_scatter_14 : decode cX1_scatter 14 = .ok (.imul, 1) := by decide +kernel
theorem dX1_scatter_15 : decode cX1_scatter 15 = .ok (.invokestatic 50, 3) := by decide +kernel
theorem dX1_scatter_18 : decode cX1_scatter 18 = .ok (.ldc2_w 86, 3) := by decide +kernel
theorem dX1_scatter_21 : decode cX1_scatter 21 = .ok (.lload 4, 2) := by decide +kernel
theorem dX1_scatter_23 : decode cX1_scatter 23 = .ok (.lmul, 1) := by decide +kernel
theorem dX1_scatter_24 : decode cX1_scatter 24 = .ok (.invokevirtual 38, 3) := by decide +kernel
theorem dX1_scatter_27 : decode cX1_scatter 27 = .ok (.aload_n 0, 1) := by decide +kernel
theorem dX1_scatter_28 : decode cX1_scatter 28 = .ok (.getfield 16, 3) := by decide +kernel
theorem dX1_scatter_31 : decode cX1_scatter 31 = .ok (.iconst 2, 1) := by decide +kernel
theorem dX1_scatter_32 : decode cX1_scatter 32 = .ok (.iload_n 1, 1) := by decide +kernel
theorem dX1_scatter_33 : decode cX1_scatter 33 = .ok (.imul, 1) := by decide +kernel
theorem dX1_scatter_34 : decode cX1_scatter 34 = .ok (.iconst 1, 1) := by decide +kernel
theorem dX1_scatter_35 : decode cX1_scatter 35 = .ok (.iadd, 1) := by decide +kernel
theorem dX1_scatter_36 : decode cX1_scatter 36 = .ok (.iconst 2, 1) := by decide +kernel
theorem dX1_scatter_37 : decode cX1_scatter 37 = .ok (.iload_n 1, 1) := by decide +kernel
theorem dX1_scatter_38 : decode cX1_scatter 38 = .ok (.imul, 1) := by decide +kernel
theorem dX1_scatter_39 : decode cX1_scatter 39 = .ok (.iconst 1, 1) := by decide +kernel
theorem dX1_scatter_40 : decode cX1_scatter 40 = .ok (.iadd, 1) := by decide +kernel
theorem dX1_scatter_41 : decode cX1_scatter 41 = .ok (.invokestatic 50, 3) := by decide +kernel
theorem dX1_scatter_44 : decode cX1_scatter 44 = .ok (.ldc2_w 88, 3) := by decide +kernel
theorem dX1_scatter_47 : decode cX1_scatter 47 = .ok (.lload_n 2, 1) := by decide +kernel
theorem dX1_scatter_48 : decode cX1_scatter 48 = .ok (.lmul, 1) := by decide +kernel
theorem dX1_scatter_49 : decode cX1_scatter 49 = .ok (.invokevirtual 38, 3) := by decide +kernel
theorem dX1_scatter_52 : decode cX1_scatter 52 = .ok (.aload_n 0, 1) := by decide +kernel
theorem dX1_scatter_53 : decode cX1_scatter 53 = .ok (.invokevirtual 68, 3) := by decide +kernel
theorem dX1_scatter_56 : decode cX1_scatter 56 = .ok (.return_, 1) := by decide +kernel
set_option maxRecDepth 20000 in
theorem ggX1_cutTo_X0_isLess : GoodIn wsX1_cutTo wsX0_isLess := goodIn_r _ [7, 8, 9, 10, 66, 67, 68, 69] (by decide +kernel) (by decide +kernel)
set_option maxRecDepth 20000 in
theorem gX1_cutTo_X0_isLess : GoodIn wsX1_cutTo (wsV RX1 57 RX0 yX0_isLess wsX0_isLess) := goodIn_app (goodIn_of _ (by decide +kernel)) ggX1_cutTo_X0_isLess
set_option maxRecDepth 20000 in
theorem ggX1_cutTo_X0_put : GoodIn wsX1_cutTo wsX0_put := goodIn_r _ [14, 8, 9, 10, 66, 67, 68, 69] (by decide +kernel) (by decide +kernel)
set_option maxRecDepth 20000 in
theorem gX1_cutTo_X0_put : GoodIn wsX1_cutTo (wsV RX1 61 RX0 yX0_put wsX0_put) := goodIn_app (goodIn_of _ (by decide +kernel)) ggX1_cutTo_X0_put
set_option maxRecDepth 20000 in
theorem ggX1_cutTo_X1_close : GoodIn wsX1_cutTo wsX1_close := goodIn_r _ [19, 1, 2, 20, 21, 18, 22, 23, 24, 25, 6, 26, 9, 8, 27, 28, 29, 30, 31, 32, 33, 34, 35, 36, 37, 38, 39, 40, 10, 41, 4, 5, 7, 42, 12, 13, 14, 43, 44, 45, 46, 47, 48, 49, 50, 51, 52, 53, 54, 55, 56, 57, 58, 59, 60, 61, 62, 63, 64, 65, 66, 67, 68, 69] (by decide +kernel) (by decide +kernel)
set_option maxRecDepth 20000 in
theorem gX1_cutTo_X1_close : GoodIn wsX1_cutTo (wsV RX1 90 RX1 yX1_close wsX1_close) := goodIn_app (goodIn_of _ (by decide +kernel)) ggX1_cutTo_X1_close
theorem dX1_cutTo_0 : decode cX1_cutTo 0 = .ok (.aload_n 1, 1) := by decide +kernel
theorem dX1_cutTo_1 : decode cX1_cutTo 1 = .ok (.getfield 20, 3) := by decide +kernel
theorem dX1_cutTo_4 : decode cX1_cutTo 4 = .ok (.ifCond .eq 8, 3) := by decide +kernel
theorem dX1_cutTo_7 : decode cX1_cutTo 7 = .ok (.aload_n 0, 1) := by decide +kernel
theorem dX1_cutTo_8 : decode cX1_cutTo 8 = .ok (.iconst 1, 1) := by decide +kernel
theorem dX1_cutTo_9 : decode cX1_cutTo 9 = .ok (.putfield 20, 3) := by decide +kernel
theorem dX1_cutTo_12 : decode cX1_cutTo 12 = .ok (.aload_n 0, 1) := by decide +kernel
theorem dX1_cutTo_13 : decode cX1_cutTo 13 = .ok (.getfield 20, 3) := by decide +kernel
theorem dX1_cutTo_16 : decode cX1_cutTo 16 = .ok (.ifCond .eq 4, 3) := by decide +kernel
theorem dX1_cutTo_19 : decode cX1_cutTo 19 = .ok (.return_, 1) := by decide +kernel
theorem dX1_cutTo_20 : decode cX1_cutTo 20 = .ok (.iconst 0, 1) := by decide +kernel
theorem dX1_cutTo_21 : decode cX1_cutTo 21 = .ok (.istore_n 2, 1) := by decide +kernel
theorem dX1_cutTo_22 : decode cX1_cutTo 22 = .ok (.iload_n 2, 1) := by decide +kernel
theorem dX1_cutTo_23 : decode cX1_cutTo 23 = .ok (.sipush 144, 3) := by decide +kernel
theorem dX1_cutTo_26 : decode cX1_cutTo 26 = .ok (.if_icmp .ge 38, 3) := by decide +kernel
theorem dX1_cutTo_29 : decode cX1_cutTo 29 = .ok (.aload_n 1, 1) := by decide +kernel
theorem dX1_cutTo_30 : decode cX1_cutTo 30 = .ok (.getfield 16, 3) := by decide +kernel
theorem dX1_cutTo_33 : decode cX1_cutTo 33 = .ok (.iload_n 2, 1) := by decide +kernel
theorem dX1_cutTo_34 : decode cX1_cutTo 34 = .ok (.aload_n 0, 1) := by decide +kernel
theorem dX1_cutTo_35 : decode cX1_cutTo 35 = .ok (.getfield 16, 3) := by decide +kernel
theorem dX1_cutTo_38 : decode cX1_cutTo 38 = .ok (.iload_n 2, 1) := by decide +kernel
theorem dX1_cutTo_39 : decode cX1_cutTo 39 = .ok (.invokevirtual 57, 3) := by decide +kernel
theorem dX1_cutTo_42 : decode cX1_cutTo 42 = .ok (.ifCond .eq 16, 3) := by decide +kernel
theorem dX1_cutTo_45 : decode cX1_cutTo 45 = .ok (.aload_n 0, 1) := by decide +kernel
theorem dX1_cutTo_46 : decode cX1_cutTo 46 = .ok (.getfield 16, 3) := by decide +kernel
theorem dX1_cutTo_49 : decode cX1_cutTo 49 = .ok (.iload_n 2, 1) := by decide +kernel
theorem dX1_cutTo_50 : decode cX1_cutTo 50 = .ok (.aload_n 1, 1) := by decide +kernel
theorem dX1_cutTo_51 : decode cX1_cutTo 51 = .ok (.getfield 16, 3) := by decide +kernel
theorem dX1_cutTo_54 : decode cX1_cutTo 54 = .ok (.iload_n 2, 1) := by decide +kernel
theorem dX1_cutTo_55 : decode cX1_cutTo 55 = .ok (.invokevirtual 61, 3) := by decide +kernel
theorem dX1_cutTo_58 : decode cX1_cutTo 58 = .ok (.iinc 2 1, 3) := by decide +kernel
theorem dX1_cutTo_61 : decode cX1_cutTo 61 = .ok (.goto (-39), 3) := by decide +kernel
theorem dX1_cutTo_64 : decode cX1_cutTo 64 = .ok (.aload_n 0, 1) := by decide +kernel
theorem dX1_cutTo_65 : decode cX1_cutTo 65 = .ok (.invokevirtual 90, 3) := by decide +kernel
theorem dX1_cutTo_68 : decode cX1_cutTo 68 = .ok (.return_, 1) := by decide +kernel
set_option maxRecDepth 20000 in
theorem ggX1_isSettledByEmptiness_X1_takeOver : GoodIn wsX1_isSettledByEmptiness wsX1_takeOver := goodIn_r _ [6, 7, 1, 8, 9, 10, 11, 12, 13, 14, 15, 16, 17, 18, 19, 20, 21, 22, 23] (by decide +kernel) (by decide +kernel)
set_option maxRecDepth 20000 in
theorem gX1_isSettledByEmptiness_X1_takeOver : GoodIn wsX1_isSettledByEmptiness (wsV RX1 35 RX1 yX1_takeOver wsX1_takeOver) := goodIn_app (goodIn_of _ (by decide +kernel)) ggX1_isSettledByEmptiness_X1_takeOver
theorem dX1_isSettledByEmptiness_0 : decode cX1_isSettledByEmptiness 0 = .ok (.aload_n 0, 1) := by decide +kernel
theorem dX1_isSettledByEmptiness_1 : decode cX1_isSettledByEmptiness 1 = .ok (.getfield 20, 3) := by decide +kernel
theorem dX1_isSettledByEmptiness_4 : decode cX1_isSettledByEmptiness 4 = .ok (.ifCond .ne 10, 3) := by decide +kernel
theorem dX1_isSettledByEmptiness_7 : decode cX1_isSettledByEmptiness 7 = .ok (.aload_n 1, 1) := by decide +kernel
theorem dX1_isSettledByEmptiness_8 : decode cX1_isSettledByEmptiness 8 = .ok (.getfield 20, 3) := by decide +kernel
theorem dX1_isSettledByEmptiness_11 : decode cX1_isSettledByEmptiness 11 = .ok (.ifCond .eq 7, 3) := by decide +kernel
theorem dX1_isSettledByEmptiness_14 : decode cX1_isSettledByEmptiness 14 = .ok (.iconst 1, 1) := by decide +kernel
theorem dX1_isSettledByEmptiness_15 : decode cX1_isSettledByEmptiness 15 = .ok (.goto 4, 3) := by decide +kernel
theorem dX1_isSettledByEmptiness_18 : decode cX1_isSettledByEmptiness 18 = .ok (.iconst 0, 1) := by decide +kernel
theorem dX1_isSettledByEmptiness_19 : decode cX1_isSettledByEmptiness 19 = .ok (.istore_n 2, 1) := by decide +kernel
theorem dX1_isSettledByEmptiness_20 : decode cX1_isSettledByEmptiness 20 = .ok (.aload_n 0, 1) := by decide +kernel
theorem dX1_isSettledByEmptiness_21 : decode cX1_isSettledByEmptiness 21 = .ok (.getfield 20, 3) := by decide +kernel
theorem dX1_isSettledByEmptiness_24 : decode cX1_isSettledByEmptiness 24 = .ok (.ifCond .eq 8, 3) := by decide +kernel
theorem dX1_isSettledByEmptiness_27 : decode cX1_isSettledByEmptiness 27 = .ok (.aload_n 0, 1) := by decide +kernel
theorem dX1_isSettledByEmptiness_28 : decode cX1_isSettledByEmptiness 28 = .ok (.aload_n 1, 1) := by decide +kernel
theorem dX1_isSettledByEmptiness_29 : decode cX1_isSettledByEmptiness 29 = .ok (.invokevirtual 35, 3) := by decide +kernel
theorem dX1_isSettledByEmptiness_32 : decode cX1_isSettledByEmptiness 32 = .ok (.iload_n 2, 1) := by decide +kernel
theorem dX1_isSettledByEmptiness_33 : decode cX1_isSettledByEmptiness 33 = .ok (.ireturn, 1) := by decide +kernel
set_option maxRecDepth 20000 in
theorem ggX1_stretchOver_X1_isSettledByEmptiness : GoodIn wsX1_stretchOver wsX1_isSettledByEmptiness := goodIn_r _ [6, 7, 8, 9, 10, 5, 11, 1, 12, 13, 14, 15, 16, 17, 18, 19, 20, 21, 32, 33, 34, 35, 36, 37] (by decide +kernel) (by decide +kernel)
set_option maxRecDepth 20000 in
theorem gX1_stretchOver_X1_isSettledByEmptiness : GoodIn wsX1_stretchOver (wsV RX1 93 RX1 yX1_isSettledByEmptiness wsX1_isSettledByEmptiness) := goodIn_app (goodIn_of _ (by decide +kernel)) ggX1_stretchOver_X1_isSettledByEmptiness
set_option maxRecDepth 20000 in
theorem ggX1_stretchOver_X0_isLess : GoodIn wsX1_stretchOver wsX0_isLess := goodIn_r _ [25, 26, 17, 27, 34, 35, 36, 37] (by decide +kernel) (by decide +kernel)
set_option maxRecDepth 20000 in
theorem gX1_stretchOver_X0_isLess : GoodIn wsX1_stretchOver (wsV RX1 57 RX0 yX0_isLess wsX0_isLess) := goodIn_app (goodIn_of _ (by decide +kernel)) ggX1_stretchOver_X0_isLess
set_option maxRecDepth 20000 in
theorem ggX1_stretchOver_X0_put : GoodIn wsX1_stretchOver wsX0_put := goodIn_r _ [31, 26, 17, 27, 34, 35, 36, 37] (by decide +kernel) (by decide +kernel)
set_option maxRecDepth 20000 in
theorem gX1_stretchOver_X0_put : GoodIn wsX1_stretchOver (wsV RX1 61 RX0 yX0_put wsX0_put) := goodIn_app (goodIn_of _ (by decide +kernel)) ggX1_stretchOver_X0_put
theorem dX1_stretchOver_0 : decode cX1_stretchOver 0 = .ok (.aload_n 0, 1) := by decide +kernel
theorem dX1_stretchOver_1 : decode cX1_stretchOver 1 = .ok (.aload_n 1, 1) := by decide +kernel
theorem dX1_stretchOver_2 : decode cX1_stretchOver 2 = .ok (.invokevirtual 93, 3) := by decide +kernel
theorem dX1_stretchOver_5 : decode cX1_stretchOver 5 = .ok (.ifCond .eq 4, 3) := by decide +kernel
theorem dX1_stretchOver_8 : decode cX1_stretchOver 8 = .ok (.return_, 1) := by decide +kernel
theorem dX1_stretchOver_9 : decode cX1_stretchOver 9 = .ok (.iconst 0, 1) := by decide +kernel
theorem dX1_stretchOver_10 : decode cX1_stretchOver 10 = .ok (.istore_n 2, 1) := by decide +kernel
theorem dX1_stretchOver_11 : decode cX1_stretchOver 11 = .ok (.iload_n 2, 1) := by decide +kernel
theorem dX1_stretchOver_12 : decode cX1_stretchOver 12 = .ok (.sipush 144, 3) := by decide +kernel
theorem dX1_stretchOver_15 : decode cX1_stretchOver 15 = .ok (.if_icmp .ge 38, 3) := by decide +kernel
theorem dX1_stretchOver_18 : decode cX1_stretchOver 18 = .ok (.aload_n 0, 1) := by decide +kernel
theorem dX1_stretchOver_19 : decode cX1_stretchOver 19 = .ok (.getfield 16, 3) := by decide +kernel
theorem dX1_stretchOver_22 : decode cX1_stretchOver 22 = .ok (.iload_n 2, 1) := by decide +kernel
theorem dX1_stretchOver_23 : decode cX1_stretchOver 23 = .ok (.aload_n 1, 1) := by decide +kernel
theorem dX1_stretchOver_24 : decode cX1_stretchOver 24 = .ok (.getfield 16, 3) := by decide +kernel
theorem dX1_stretchOver_27 : decode cX1_stretchOver 27 = .ok (.iload_n 2, 1) := by decide +kernel
theorem dX1_stretchOver_28 : decode cX1_stretchOver 28 = .ok (.invokevirtual 57, 3) := by decide +kernel
theorem dX1_stretchOver_31 : decode cX1_stretchOver 31 = .ok (.ifCond .eq 16, 3) := by decide +kernel
theorem dX1_stretchOver_34 : decode cX1_stretchOver 34 = .ok (.aload_n 0, 1) := by decide +kernel
theorem dX1_stretchOver_35 : decode cX1_stretchOver 35 = .ok (.getfield 16, 3) := by decide +kernel
theorem dX1_stretchOver_38 : decode cX1_stretchOver 38 = .ok (.iload_n 2, 1) := by decide +kernel
theorem dX1_stretchOver_39 : decode cX1_stretchOver 39 = .ok (.aload_n 1, 1) := by decide +kernel
theorem dX1_stretchOver_40 : decode cX1_stretchOver 40 = .ok (.getfield 16, 3) := by decide +kernel
theorem dX1_stretchOver_43 : decode cX1_stretchOver 43 = .ok (.iload_n 2, 1) := by decide +kernel
theorem dX1_stretchOver_44 : decode cX1_stretchOver 44 = .ok (.invokevirtual 61, 3) := by decide +kernel
theorem dX1_stretchOver_47 : decode cX1_stretchOver 47 = .ok (.iinc 2 1, 3) := by decide +kernel
theorem dX1_stretchOver_50 : decode cX1_stretchOver 50 = .ok (.goto (-39), 3) := by decide +kernel
theorem dX1_stretchOver_53 : decode cX1_stretchOver 53 = .ok (.return_, 1) := by decide +kernel
set_option maxRecDepth 20000 in
theorem ggX1_loosenBy_X1_isSettledByEmptiness : GoodIn wsX1_loosenBy wsX1_isSettledByEmptiness := goodIn_r _ [6, 7, 8, 9, 10, 5, 11, 1, 12, 13, 14, 15, 16, 17, 18, 19, 20, 21, 80, 81, 82, 83, 84, 85] (by decide +kernel) (by decide +kernel)
set_option maxRecDepth 20000 in
theorem gX1_loosenBy_X1_isSettledByEmptiness : GoodIn wsX1_loosenBy (wsV RX1 93 RX1 yX1_isSettledByEmptiness wsX1_isSettledByEmptiness) := goodIn_app (goodIn_of _ (by decide +kernel)) ggX1_loosenBy_X1_isSettledByEmptiness
set_option maxRecDepth 20000 in
theorem ggX1_loosenBy_X0_isLess : GoodIn wsX1_loosenBy wsX0_isLess := goodIn_r _ [25, 26, 17, 27, 82, 83, 84, 85] (by decide +kernel) (by decide +kernel)
set_option maxRecDepth 20000 in
theorem gX1_loosenBy_X0_isLess : GoodIn wsX1_loosenBy (wsV RX1 57 RX0 yX0_isLess wsX0_isLess) := goodIn_app (goodIn_of _ (by decide +kernel)) ggX1_loosenBy_X0_isLess
set_option maxRecDepth 20000 in
theorem ggX1_loosenBy_X0_setInfinite : GoodIn wsX1_loosenBy wsX0_setInfinite := goodIn_r _ [31, 26, 17, 27, 32, 82, 83, 84, 85] (by decide +kernel) (by decide +kernel)
set_option maxRecDepth 20000 in
theorem gX1_loosenBy_X0_setInfinite : GoodIn wsX1_loosenBy (wsV RX1 54 RX0 yX0_setInfinite wsX0_setInfinite) := goodIn_app (goodIn_of _ (by decide +kernel)) ggX1_loosenBy_X0_setInfinite
set_option maxRecDepth 20000 in
theorem ggX1_loosenBy_X1_close : GoodIn wsX1_loosenBy wsX1_close := goodIn_r _ [36, 7, 1, 37, 38, 5, 39, 40, 41, 42, 15, 43, 17, 26, 32, 44, 45, 46, 47, 48, 49, 50, 51, 52, 53, 54, 55, 56, 27, 57, 23, 24, 25, 58, 59, 60, 61, 62, 63, 64, 65, 66, 67, 68, 69, 70, 71, 72, 73, 74, 75, 76, 77, 78, 79, 29, 30, 31, 80, 81, 82, 83, 84, 85] (by decide +kernel) (by decide +kernel)
set_option maxRecDepth 20000 in
theorem gX1_loosenBy_X1_close : GoodIn wsX1_loosenBy (wsV RX1 90 RX1 yX1_close wsX1_close) := goodIn_app (goodIn_of _ (by decide +kernel)) ggX1_loosenBy_X1_close
theorem dX1_loosenBy_0 : decode cX1_loosenBy 0 = .ok (.aload_n 0, 1) := by decide +kernel
theorem dX1_loosenBy_1 : decode cX1_loosenBy 1 = .ok (.aload_n 1, 1) := by decide +kernel
theorem dX1_loosenBy_2 : decode cX1_loosenBy 2 = .ok (.invokevirtual 93, 3) := by decide +kernel
theorem dX1_loosenBy_5 : decode cX1_loosenBy 5 = .ok (.ifCond .eq 4, 3) := by decide +kernel
theorem dX1_loosenBy_8 : decode cX1_loosenBy 8 = .ok (.return_, 1) := by decide +kernel
theorem dX1_loosenBy_9 : decode cX1_loosenBy 9 = .ok (.iconst 0, 1) := by decide +kernel
theorem dX1_loosenBy_10 : decode cX1_loosenBy 10 = .ok (.istore_n 2, 1) := by decide +kernel
theorem dX1_loosenBy_11 : decode cX1_loosenBy 11 = .ok (.iload_n 2, 1) := by decide +kernel
theorem dX1_loosenBy_12 : decode cX1_loosenBy 12 = .ok (.sipush 144, 3) := by decide +kernel
theorem dX1_loosenBy_15 : decode cX1_loosenBy 15 = .ok (.if_icmp .ge 33, 3) := by decide +kernel
theorem dX1_loosenBy_18 : decode cX1_loosenBy 18 = .ok (.aload_n 0, 1) := by decide +kernel
theorem dX1_loosenBy_19 : decode cX1_loosenBy 19 = .ok (.getfield 16, 3) := by decide +kernel
theorem dX1_loosenBy_22 : decode cX1_loosenBy 22 = .ok (.iload_n 2, 1) := by decide +kernel
theorem dX1_loosenBy_23 : decode cX1_loosenBy 23 = .ok (.aload_n 1, 1) := by decide +kernel
theorem dX1_loosenBy_24 : decode cX1_loosenBy 24 = .ok (.getfield 16, 3) := by decide +kernel
theorem dX1_loosenBy_27 : decode cX1_loosenBy 27 = .ok (.iload_n 2, 1) := by decide +kernel
theorem dX1_loosenBy_28 : decode cX1_loosenBy 28 = .ok (.invokevirtual 57, 3) := by decide +kernel
theorem dX1_loosenBy_31 : decode cX1_loosenBy 31 = .ok (.ifCond .eq 11, 3) := by decide +kernel
theorem dX1_loosenBy_34 : decode cX1_loosenBy 34 = .ok (.aload_n 0, 1) := by decide +kernel
theorem dX1_loosenBy_35 : decode cX1_loosenBy 35 = .ok (.getfield 16, 3) := by decide +kernel
theorem dX1_loosenBy_38 : decode cX1_loosenBy 38 = .ok (.iload_n 2, 1) := by decide +kernel
theorem dX1_loosenBy_39 : decode cX1_loosenBy 39 = .ok (.invokevirtual 54, 3) := by decide +kernel
theorem dX1_loosenBy_42 : decode cX1_loosenBy 42 = .ok (.iinc 2 1, 3) := by decide +kernel
theorem dX1_loosenBy_45 : decode cX1_loosenBy 45 = .ok (.goto (-34), 3) := by decide +kernel
theorem dX1_loosenBy_48 : decode cX1_loosenBy 48 = .ok (.aload_n 0, 1) := by decide +kernel
theorem dX1_loosenBy_49 : decode cX1_loosenBy 49 = .ok (.invokevirtual 90, 3) := by decide +kernel
theorem dX1_loosenBy_52 : decode cX1_loosenBy 52 = .ok (.return_, 1) := by decide +kernel
set_option maxRecDepth 20000 in
theorem ggX1_isWithin_X0_isLess : GoodIn wsX1_isWithin wsX0_isLess := goodIn_r _ [7, 8, 9, 10, 13, 14, 15, 16] (by decide +kernel) (by decide +kernel)
set_option maxRecDepth 20000 in
theorem gX1_isWithin_X0_isLess : GoodIn wsX1_isWithin (wsV RX1 57 RX0 yX0_isLess wsX0_isLess) := goodIn_app (goodIn_of _ (by decide +kernel)) ggX1_isWithin_X0_isLess
theorem dX1_isWithin_0 : decode cX1_isWithin 0 = .ok (.aload_n 0, 1) := by decide +kernel
theorem dX1_isWithin_1 : decode cX1_isWithin 1 = .ok (.getfield 20, 3) := by decide +kernel
theorem dX1_isWithin_4 : decode cX1_isWithin 4 = .ok (.ifCond .ne 10, 3) := by decide +kernel
theorem dX1_isWithin_7 : decode cX1_isWithin 7 = .ok (.aload_n 1, 1) := by decide +kernel
theorem dX1_isWithin_8 : decode cX1_isWithin 8 = .ok (.getfield 20, 3) := by decide +kernel
theorem dX1_isWithin_11 : decode cX1_isWithin 11 = .ok (.ifCond .eq 8, 3) := by decide +kernel
theorem dX1_isWithin_14 : decode cX1_isWithin 14 = .ok (.aload_n 0, 1) := by decide +kernel
theorem dX1_isWithin_15 : decode cX1_isWithin 15 = .ok (.getfield 20, 3) := by decide +kernel
theorem dX1_isWithin_18 : decode cX1_isWithin 18 = .ok (.ireturn, 1) := by decide +kernel
theorem dX1_isWithin_19 : decode cX1_isWithin 19 = .ok (.iconst 0, 1) := by decide +kernel
theorem dX1_isWithin_20 : decode cX1_isWithin 20 = .ok (.istore_n 2, 1) := by decide +kernel
theorem dX1_isWithin_21 : decode cX1_isWithin 21 = .ok (.iload_n 2, 1) := by decide +kernel
theorem dX1_isWithin_22 : decode cX1_isWithin 22 = .ok (.sipush 144, 3) := by decide +kernel
theorem dX1_isWithin_25 : decode cX1_isWithin 25 = .ok (.if_icmp .ge 27, 3) := by decide +kernel
theorem dX1_isWithin_28 : decode cX1_isWithin 28 = .ok (.aload_n 1, 1) := by decide +kernel
theorem dX1_isWithin_29 : decode cX1_isWithin 29 = .ok (.getfield 16, 3) := by decide +kernel
theorem dX1_isWithin_32 : decode cX1_isWithin 32 = .ok (.iload_n 2, 1) := by decide +kernel
theorem dX1_isWithin_33 : decode cX1_isWithin 33 = .ok (.aload_n 0, 1) := by decide +kernel
theorem dX1_isWithin_34 : decode cX1_isWithin 34 = .ok (.getfield 16, 3) := by decide +kernel
theorem dX1_isWithin_37 : decode cX1_isWithin 37 = .ok (.iload_n 2, 1) := by decide +kernel
theorem dX1_isWithin_38 : decode cX1_isWithin 38 = .ok (.invokevirtual 57, 3) := by decide +kernel
theorem dX1_isWithin_41 : decode cX1_isWithin 41 = .ok (.ifCond .eq 5, 3) := by decide +kernel
theorem dX1_isWithin_44 : decode cX1_isWithin 44 = .ok (.iconst 0, 1) := by decide +kernel
theorem dX1_isWithin_45 : decode cX1_isWithin 45 = .ok (.ireturn, 1) := by decide +kernel
theorem dX1_isWithin_46 : decode cX1_isWithin 46 = .ok (.iinc 2 1, 3) := by decide +kernel
theorem dX1_isWithin_49 : decode cX1_isWithin 49 = .ok (.goto (-28), 3) := by decide +kernel
theorem dX1_isWithin_52 : decode cX1_isWithin 52 = .ok (.iconst 1, 1) := by decide +kernel
theorem dX1_isWithin_53 : decode cX1_isWithin 53 = .ok (.ireturn, 1) := by decide +kernel
set_option maxRecDepth 20000 in
theorem ggX1_mostOf_X1_cell : GoodIn wsX1_mostOf wsX1_cell := goodIn_r _ [5] (by decide +kernel) (by decide +kernel)
set_option maxRecDepth 20000 in
theorem gX1_mostOf_X1_cell : GoodIn wsX1_mostOf (va_wsS RX1 50 yX1_cell wsX1_cell) := goodIn_app (goodIn_of _ (by decide +kernel)) ggX1_mostOf_X1_cell
set_option maxRecDepth 20000 in
theorem ggX1_mostOf_X0_nearestLong : GoodIn wsX1_mostOf wsX0_nearestLong := goodIn_r _ [10, 11, 12, 13, 14, 15, 16, 17, 32, 33, 34, 35] (by decide +kernel) (by decide +kernel)
set_option maxRecDepth 20000 in
theorem gX1_mostOf_X0_nearestLong : GoodIn wsX1_mostOf (wsV RX1 97 RX0 yX0_nearestLong wsX0_nearestLong) := goodIn_app (goodIn_of _ (by decide +kernel)) ggX1_mostOf_X0_nearestLong
set_option maxRecDepth 20000 in
theorem ggX1_mostOf_X0_putHalf : GoodIn wsX1_mostOf wsX0_putHalf := goodIn_r _ [21, 11, 12, 14, 22, 23, 24, 9, 25, 13, 26, 27, 28, 29, 32, 33, 34, 35] (by decide +kernel) (by decide +kernel)
set_option maxRecDepth 20000 in
theorem gX1_mostOf_X0_putHalf : GoodIn wsX1_mostOf (wsV RX1 101 RX0 yX0_putHalf wsX0_putHalf) := goodIn_app (goodIn_of _ (by decide +kernel)) ggX1_mostOf_X0_putHalf
theorem dX1_mostOf_0 : decode cX1_mostOf 0 = .ok (.iload_n 1, 1) := by decide +kernel
theorem dX1_mostOf_1 : decode cX1_mostOf 1 = .ok (.iload_n 2, 1) := by decide +kernel
theorem dX1_mostOf_2 : decode cX1_mostOf 2 = .ok (.if_icmp .eq 16, 3) := by decide +kernel
theorem dX1_mostOf_5 : decode cX1_mostOf 5 = .ok (.aload_n 0, 1) := by decide +kernel
theorem dX1_mostOf_6 : decode cX1_mostOf 6 = .ok (.getfield 16, 3) := by decide +kernel
theorem dX1_mostOf_9 : decode cX1_mostOf 9 = .ok (.iload_n 1, 1) := by decide +kernel
theorem dX1_mostOf_10 : decode cX1_mostOf 10 = .ok (.iload_n 2, 1) := by decide +kernel
theorem dX1_mostOf_11 : decode cX1_mostOf 11 = .ok (.invokestatic 50, 3) := by decide +kernel
theorem dX1_mostOf_14 : decode cX1_mostOf 14 = .ok (.invokevirtual 97, 3) := by decide +kernel
theorem dX1_mostOf_17 : decode cX1_mostOf 17 = .ok (.lreturn, 1) := by decide +kernel
theorem dX1_mostOf_18 : decode cX1_mostOf 18 = .ok (.aload_n 0, 1) := by decide +kernel
theorem dX1_mostOf_19 : decode cX1_mostOf 19 = .ok (.getfield 16, 3) := by decide +kernel
theorem dX1_mostOf_22 : decode cX1_mostOf 22 = .ok (.sipush 156, 3) := by decide +kernel
theorem dX1_mostOf_25 : decode cX1_mostOf 25 = .ok (.iload_n 1, 1) := by decide +kernel
theorem dX1_mostOf_26 : decode cX1_mostOf 26 = .ok (.iload_n 1, 1) := by decide +kernel
theorem dX1_mostOf_27 : decode cX1_mostOf 27 = .ok (.invokestatic 50, 3) := by decide +kernel
theorem dX1_mostOf_30 : decode cX1_mostOf 30 = .ok (.invokevirtual 101, 3) := by decide +kernel
theorem dX1_mostOf_33 : decode cX1_mostOf 33 = .ok (.aload_n 0, 1) := by decide +kernel
theorem dX1_mostOf_34 : decode cX1_mostOf 34 = .ok (.getfield 16, 3) := by decide +kernel
theorem dX1_mostOf_37 : decode cX1_mostOf 37 = .ok (.sipush 156, 3) := by decide +kernel
theorem dX1_mostOf_40 : decode cX1_mostOf 40 = .ok (.invokevirtual 97, 3) := by decide +kernel
theorem dX1_mostOf_43 : decode cX1_mostOf 43 = .ok (.lreturn, 1) := by decide +kernel
set_option maxRecDepth 20000 in
theorem ggX1_countBounds_X3_negation : GoodIn wsX1_countBounds wsX3_negation := goodIn_r _ [4] (by decide +kernel) (by decide +kernel)
set_option maxRecDepth 20000 in
theorem gX1_countBounds_X3_negation_n82 : GoodIn wsX1_countBounds (wsX3_negation) := ggX1_countBounds_X3_negation
set_option maxRecDepth 20000 in
theorem ggX1_countBounds_X1_cell : GoodIn wsX1_countBounds wsX1_cell := goodIn_r _ [8] (by decide +kernel) (by decide +kernel)
set_option maxRecDepth 20000 in
theorem gX1_countBounds_X1_cell : GoodIn wsX1_countBounds (va_wsS RX1 50 yX1_cell wsX1_cell) := goodIn_app (goodIn_of _ (by decide +kernel)) ggX1_countBounds_X1_cell
set_option maxRecDepth 20000 in
theorem ggX1_countBounds_X0_isInfinite : GoodIn wsX1_countBounds wsX0_isInfinite := goodIn_r _ [13, 14, 15, 16, 19, 20, 21, 22] (by decide +kernel) (by decide +kernel)
set_option maxRecDepth 20000 in
theorem gX1_countBounds_X0_isInfinite : GoodIn wsX1_countBounds (wsV RX1 104 RX0 yX0_isInfinite wsX0_isInfinite) := goodIn_app (goodIn_of _ (by decide +kernel)) ggX1_countBounds_X0_isInfinite
theorem dX1_countBounds_0 : decode cX1_countBounds 0 = .ok (.iconst 0, 1) := by decide +kernel
theorem dX1_countBounds_1 : decode cX1_countBounds 1 = .ok (.istore_n 1, 1) := by decide +kernel
theorem dX1_countBounds_2 : decode cX1_countBounds 2 = .ok (.iconst 0, 1) := by decide +kernel
theorem dX1_countBounds_3 : decode cX1_countBounds 3 = .ok (.istore_n 2, 1) := by decide +kernel
theorem dX1_countBounds_4 : decode cX1_countBounds 4 = .ok (.iload_n 2, 1) := by decide +kernel
theorem dX1_countBounds_5 : decode cX1_countBounds 5 = .ok (.bipush 12, 2) := by decide +kernel
theorem dX1_countBounds_7 : decode cX1_countBounds 7 = .ok (.if_icmp .ge 49, 3) := by decide +kernel
theorem dX1_countBounds_10 : decode cX1_countBounds 10 = .ok (.iload_n 2, 1) := by decide +kernel
theorem dX1_countBounds_11 : decode cX1_countBounds 11 = .ok (.istore_n 3, 1) := by decide +kernel
theorem dX1_countBounds_12 : decode cX1_countBounds 12 = .ok (.iload_n 3, 1) := by decide +kernel
theorem dX1_countBounds_13 : decode cX1_countBounds 13 = .ok (.bipush 12, 2) := by decide +kernel
theorem dX1_countBounds_15 : decode cX1_countBounds 15 = .ok (.if_icmp .ge 35, 3) := by decide +kernel
theorem dX1_countBounds_18 : decode cX1_countBounds 18 = .ok (.iload_n 3, 1) := by decide +kernel
theorem dX1_countBounds_19 : decode cX1_countBounds 19 = .ok (.iload_n 2, 1) := by decide +kernel
theorem dX1_countBounds_20 : decode cX1_countBounds 20 = .ok (.invokestatic 82, 3) := by decide +kernel
theorem dX1_countBounds_23 : decode cX1_countBounds 23 = .ok (.if_icmp .eq 21, 3) := by decide +kernel
theorem dX1_countBounds_26 : decode cX1_countBounds 26 = .ok (.aload_n 0, 1) := by decide +kernel
theorem dX1_countBounds_27 : decode cX1_countBounds 27 = .ok (.getfield 16, 3) := by decide +kernel
theorem dX1_countBounds_30 : decode cX1_countBounds 30 = .ok (.iload_n 2, 1) := by decide +kernel
theorem dX1_countBounds_31 : decode cX1_countBounds 31 = .ok (.iload_n 3, 1) := by decide +kernel
theorem dX1_countBounds_32 : decode cX1_countBounds 32 = .ok (.invokestatic 50, 3) := by decide +kernel
theorem dX1_countBounds_35 : decode cX1_countBounds 35 = .ok (.invokevirtual 104, 3) := by decide +kernel
theorem dX1_countBounds_38 : decode cX1_countBounds 38 = .ok (.ifCond .ne 6, 3) := by decide +kernel
theorem dX1_countBounds_41 : decode cX1_countBounds 41 = .ok (.iinc 1 1, 3) := by decide +kernel
theorem dX1_countBounds_44 : decode cX1_countBounds 44 = .ok (.iinc 3 1, 3) := by decide +kernel
theorem dX1_countBounds_47 : decode cX1_countBounds 47 = .ok (.goto (-35), 3) := by decide +kernel
theorem dX1_countBounds_50 : decode cX1_countBounds 50 = .ok (.iinc 2 1, 3) := by decide +kernel
theorem dX1_countBounds_53 : decode cX1_countBounds 53 = .ok (.goto (-49), 3) := by decide +kernel
theorem dX1_countBounds_56 : decode cX1_countBounds 56 = .ok (.iload_n 1, 1) := by decide +kernel
theorem dX1_countBounds_57 : decode cX1_countBounds 57 = .ok (.ireturn, 1) := by decide +kernel
set_option maxRecDepth 20000 in
theorem ggX1_settle_X1_cell : GoodIn wsX1_settle wsX1_cell := goodIn_r _ [5] (by decide +kernel) (by decide +kernel)
set_option maxRecDepth 20000 in
theorem gX1_settle_X1_cell : GoodIn wsX1_settle (va_wsS RX1 50 yX1_cell wsX1_cell) := goodIn_app (goodIn_of _ (by decide +kernel)) ggX1_settle_X1_cell
set_option maxRecDepth 20000 in
theorem ggX1_settle_X0_isInfinite : GoodIn wsX1_settle wsX0_isInfinite := goodIn_r _ [10, 11, 12, 13, 79, 80, 81, 82] (by decide +kernel) (by decide +kernel)
set_option maxRecDepth 20000 in
theorem gX1_settle_X0_isInfinite : GoodIn wsX1_settle (wsV RX1 104 RX0 yX0_isInfinite wsX0_isInfinite) := goodIn_app (goodIn_of _ (by decide +kernel)) ggX1_settle_X0_isInfinite
set_option maxRecDepth 20000 in
theorem ggX1_settle_X0_set : GoodIn wsX1_settle wsX0_set := goodIn_r _ [17, 12, 11, 18, 19, 79, 80, 81, 82] (by decide +kernel) (by decide +kernel)
set_option maxRecDepth 20000 in
theorem gX1_settle_X0_set : GoodIn wsX1_settle (wsV RX1 38 RX0 yX0_set wsX0_set) := goodIn_app (goodIn_of _ (by decide +kernel)) ggX1_settle_X0_set
set_option maxRecDepth 20000 in
theorem ggX1_settle_X1_holdToSpare : GoodIn wsX1_settle wsX1_holdToSpare := goodIn_r _ [23, 24, 1, 2, 3, 4, 5, 25, 26, 27, 9, 28, 12, 11, 19, 29, 30, 31, 32, 33, 34, 35, 36, 37, 38, 39, 40, 41, 42, 43, 13, 18, 44, 45, 46, 47, 6, 7, 8, 10, 48, 49, 50, 51, 52, 53, 54, 55, 56, 57, 58, 59, 60, 61, 62, 63, 64, 65, 66, 67, 68, 69, 70, 71, 72, 77, 78, 79, 80, 81, 82] (by decide +kernel) (by decide +kernel)
set_option maxRecDepth 20000 in
theorem gX1_settle_X1_holdToSpare : GoodIn wsX1_settle (wsV RX1 42 RX1 yX1_holdToSpare wsX1_holdToSpare) := goodIn_app (goodIn_of _ (by decide +kernel)) ggX1_settle_X1_holdToSpare
set_option maxRecDepth 20000 in
theorem ggX1_settle_X0_putNegative : GoodIn wsX1_settle wsX0_putNegative := goodIn_r _ [76, 12, 11, 18, 19, 64, 7, 8, 9, 10, 13, 65, 66, 67, 68, 79, 80, 81, 82] (by decide +kernel) (by decide +kernel)
set_option maxRecDepth 20000 in
theorem gX1_settle_X0_putNegative : GoodIn wsX1_settle (wsV RX1 108 RX0 yX0_putNegative wsX0_putNegative) := goodIn_app (goodIn_of _ (by decide +kernel)) ggX1_settle_X0_putNegative
theorem dX1_settle_0 : decode cX1_settle 0 = .ok (.iconst 2, 1) := by decide +kernel
theorem dX1_settle_1 : decode cX1_settle 1 = .ok (.iload_n 1, 1) := by decide +kernel
theorem dX1_settle_2 : decode cX1_settle 2 = .ok (.imul, 1) := by decide +kernel
theorem dX1_settle_3 : decode cX1_settle 3 = .ok (.iconst 2, 1) := by decide +kernel
theorem dX1_settle_4 : decode cX1_settle 4 = .ok (.iload_n 1, 1) := by decide +kernel
theorem dX1_settle_5 : decode cX1_settle 5 = .ok (.imul, 1) := by decide +kernel
theorem dX1_settle_6 : decode cX1_settle 6 = .ok (.invokestatic 50, 3) := by decide +kernel
theorem dX1_settle_9 : decode cX1_settle 9 = .ok (.istore_n 2, 1) := by decide +kernel
theorem dX1_settle_10 : decode cX1_settle 10 = .ok (.iconst 2, 1) := by decide +kernel
theorem dX1_settle_11 : decode cX1_settle 11 = .ok (.iload_n 1, 1) := by decide +kernel
theorem dX1_settle_12 : decode cX1_settle 12 = .ok (.imul, 1) := by decide +kernel
theorem dX1_settle_13 : decode cX1_settle 13 = .ok (.iconst 1, 1) := by decide +kernel
theorem dX1_settle_14 : decode cX1_settle 14 = .ok (.iadd, 1) := by decide +kernel
theorem dX1_settle_15 : decode cX1_settle 15 = .ok (.iconst 2, 1) := by decide +kernel
theorem dX1_settle_16 : decode cX1_settle 16 = .ok (.iload_n 1, 1) := by decide +kernel
theorem dX1_settle_17 : decode cX1_settle 17 = .ok (.imul, 1) := by decide +kernel
theorem dX1_settle_18 : decode cX1_settle 18 = .ok (.iconst 1, 1) := by decide +kernel
theorem dX1_settle_19 : decode cX1_settle 19 = .ok (.iadd, 1) := by decide +kernel
theorem dX1_settle_20 : decode cX1_settle 20 = .ok (.invokestatic 50, 3) := by decide +kernel
theorem dX1_settle_23 : decode cX1_settle 23 = .ok (.istore_n 3, 1) := by decide +kernel
theorem dX1_settle_24 : decode cX1_settle 24 = .ok (.aload_n 0, 1) := by decide +kernel
theorem dX1_settle_25 : decode cX1_settle 25 = .ok (.getfield 16, 3) := by decide +kernel
theorem dX1_settle_28 : decode cX1_settle 28 = .ok (.iload_n 2, 1) := by decide +kernel
theorem dX1_settle_29 : decode cX1_settle 29 = .ok (.invokevirtual 104, 3) := by decide +kernel
theorem dX1_settle_32 : decode cX1_settle 32 = .ok (.ifCond .eq 35, 3) := by decide +kernel
theorem dX1_settle_35 : decode cX1_settle 35 = .ok (.aload_n 0, 1) := by decide +kernel
theorem dX1_settle_36 : decode cX1_settle 36 = .ok (.getfield 16, 3) := by decide +kernel
theorem dX1_settle_39 : decode cX1_settle 39 = .ok (.iload_n 3, 1) := by decide +kernel
theorem dX1_settle_40 : decode cX1_settle 40 = .ok (.invokevirtual 104, 3) := by decide +kernel
theorem dX1_settle_43 : decode cX1_settle 43 = .ok (.ifCond .eq 24, 3) := by decide +kernel
theorem dX1_settle_46 : decode cX1_settle 46 = .ok (.aload_n 0, 1) := by decide +kernel
theorem dX1_settle_47 : decode cX1_settle 47 = .ok (.getfield 16, 3) := by decide +kernel
theorem dX1_settle_50 : decode cX1_settle 50 = .ok (.sipush 156, 3) := by decide +kernel
theorem dX1_settle_53 : decode cX1_settle 53 = .ok (.lconst 0, 1) := by decide +kernel
theorem dX1_settle_54 : decode cX1_settle 54 = .ok (.invokevirtual 38, 3) := by decide +kernel
theorem dX1_settle_57 : decode cX1_settle 57 = .ok (.aload_n 0, 1) := by decide +kernel
theorem dX1_settle_58 : decode cX1_settle 58 = .ok (.iconst 2, 1) := by decide +kernel
theorem dX1_settle_59 : decode cX1_settle 59 = .ok (.iload_n 1, 1) := by decide +kernel
theorem dX1_settle_60 : decode cX1_settle 60 = .ok (.imul, 1) := by decide +kernel
theorem dX1_settle_61 : decode cX1_settle 61 = .ok (.iconst 2, 1) := by decide +kernel
theorem dX1_settle_62 : decode cX1_settle 62 = .ok (.iload_n 1, 1) := by decide +kernel
theorem dX1_settle_63 : decode cX1_settle 63 = .ok (.imul, 1) := by decide +kernel
theorem dX1_settle_64 : decode cX1_settle 64 = .ok (.invokevirtual 42, 3) := by decide +kernel
theorem dX1_settle_67 : decode cX1_settle 67 = .ok (.aload_n 0, 1) := by decide +kernel
theorem dX1_settle_68 : decode cX1_settle 68 = .ok (.getfield 16, 3) := by decide +kernel
theorem dX1_settle_71 : decode cX1_settle 71 = .ok (.iload_n 3, 1) := by decide +kernel
theorem dX1_settle_72 : decode cX1_settle 72 = .ok (.invokevirtual 104, 3) := by decide +kernel
theorem dX1_settle_75 : decode cX1_settle 75 = .ok (.ifCond .eq 31, 3) := by decide +kernel
theorem dX1_settle_78 : decode cX1_settle 78 = .ok (.aload_n 0, 1) := by decide +kernel
theorem dX1_settle_79 : decode cX1_settle 79 = .ok (.getfield 16, 3) := by decide +kernel
theorem dX1_settle_82 : decode cX1_settle 82 = .ok (.sipush 156, 3) := by decide +kernel
theorem dX1_settle_85 : decode cX1_settle 85 = .ok (.iload_n 2, 1) := by decide +kernel
theorem dX1_settle_86 : decode cX1_settle 86 = .ok (.invokevirtual 108, 3) := by decide +kernel
theorem dX1_settle_89 : decode cX1_settle 89 = .ok (.aload_n 0, 1) := by decide +kernel
theorem dX1_settle_90 : decode cX1_settle 90 = .ok (.iconst 2, 1) := by decide +kernel
theorem dX1_settle_91 : decode cX1_settle 91 = .ok (.iload_n 1, 1) := by decide +kernel
theorem dX1_settle_92 : decode cX1_settle 92 = .ok (.imul, 1) := by decide +kernel
theorem dX1_settle_93 : decode cX1_settle 93 = .ok (.iconst 1, 1) := by decide +kernel
theorem dX1_settle_94 : decode cX1_settle 94 = .ok (.iadd, 1) := by decide +kernel
theorem dX1_settle_95 : decode cX1_settle 95 = .ok (.iconst 2, 1) := by decide +kernel
theorem dX1_settle_96 : decode cX1_settle 96 = .ok (.iload_n 1, 1) := by decide +kernel
theorem dX1_settle_97 : decode cX1_settle 97 = .ok (.imul, 1) := by decide +kernel
theorem dX1_settle_98 : decode cX1_settle 98 = .ok (.iconst 1, 1) := by decide +kernel
theorem dX1_settle_99 : decode cX1_settle 99 = .ok (.iadd, 1) := by decide +kernel
theorem dX1_settle_100 : decode cX1_settle 100 = .ok (.invokevirtual 42, 3) := by decide +kernel
theorem dX1_settle_103 : decode cX1_settle 103 = .ok (.goto 24, 3) := by decide +kernel
theorem dX1_settle_106 : decode cX1_settle 106 = .ok (.aload_n 0, 1) := by decide +kernel
theorem dX1_settle_107 : decode cX1_settle 107 = .ok (.getfield 16, 3) := by decide +kernel
theorem dX1_settle_110 : decode cX1_settle 110 = .ok (.sipush 156, 3) := by decide +kernel
theorem dX1_settle_113 : decode cX1_settle 113 = .ok (.iload_n 3, 1) := by decide +kernel
theorem dX1_settle_114 : decode cX1_settle 114 = .ok (.invokevirtual 108, 3) := by decide +kernel
theorem dX1_settle_117 : decode cX1_settle 117 = .ok (.aload_n 0, 1) := by decide +kernel
theorem dX1_settle_118 : decode cX1_settle 118 = .ok (.iconst 2, 1) := by decide +kernel
theorem dX1_settle_119 : decode cX1_settle 119 = .ok (.iload_n 1, 1) := by decide +kernel
theorem dX1_settle_120 : decode cX1_settle 120 = .ok (.imul, 1) := by decide +kernel
theorem dX1_settle_121 : decode cX1_settle 121 = .ok (.iconst 2, 1) := by decide +kernel
theorem dX1_settle_122 : decode cX1_settle 122 = .ok (.iload_n 1, 1) := by decide +kernel
theorem dX1_settle_123 : decode cX1_settle 123 = .ok (.imul, 1) := by decide +kernel
theorem dX1_settle_124 : decode cX1_settle 124 = .ok (.invokevirtual 42, 3) := by decide +kernel
theorem dX1_settle_127 : decode cX1_settle 127 = .ok (.return_, 1) := by decide +kernel
set_option maxRecDepth 20000 in
theorem ggX1_shiftToLeast_X1_cell : GoodIn wsX1_shiftToLeast wsX1_cell := goodIn_r _ [5] (by decide +kernel) (by decide +kernel)
set_option maxRecDepth 20000 in
theorem gX1_shiftToLeast_X1_cell : GoodIn wsX1_shiftToLeast (va_wsS RX1 50 yX1_cell wsX1_cell) := goodIn_app (goodIn_of _ (by decide +kernel)) ggX1_shiftToLeast_X1_cell
set_option maxRecDepth 20000 in
theorem ggX1_shiftToLeast_X0_isInfinite : GoodIn wsX1_shiftToLeast wsX0_isInfinite := goodIn_r _ [10, 11, 12, 13, 35, 36, 37, 38] (by decide +kernel) (by decide +kernel)
set_option maxRecDepth 20000 in
theorem gX1_shiftToLeast_X0_isInfinite : GoodIn wsX1_shiftToLeast (wsV RX1 104 RX0 yX0_isInfinite wsX0_isInfinite) := goodIn_app (goodIn_of _ (by decide +kernel)) ggX1_shiftToLeast_X0_isInfinite
set_option maxRecDepth 20000 in
theorem ggX1_shiftToLeast_X0_putHalf : GoodIn wsX1_shiftToLeast wsX0_putHalf := goodIn_r _ [17, 11, 12, 18, 19, 7, 8, 9, 10, 13, 20, 21, 22, 23, 35, 36, 37, 38] (by decide +kernel) (by decide +kernel)
set_option maxRecDepth 20000 in
theorem gX1_shiftToLeast_X0_putHalf : GoodIn wsX1_shiftToLeast (wsV RX1 101 RX0 yX0_putHalf wsX0_putHalf) := goodIn_app (goodIn_of _ (by decide +kernel)) ggX1_shiftToLeast_X0_putHalf
set_option maxRecDepth 20000 in
theorem ggX1_shiftToLeast_X0_putNegative : GoodIn wsX1_shiftToLeast wsX0_putNegative := goodIn_r _ [27, 12, 11, 28, 18, 19, 7, 8, 9, 10, 13, 20, 21, 22, 23, 35, 36, 37, 38] (by decide +kernel) (by decide +kernel)
set_option maxRecDepth 20000 in
theorem gX1_shiftToLeast_X0_putNegative : GoodIn wsX1_shiftToLeast (wsV RX1 108 RX0 yX0_putNegative wsX0_putNegative) := goodIn_app (goodIn_of _ (by decide +kernel)) ggX1_shiftToLeast_X0_putNegative
set_option maxRecDepth 20000 in
theorem ggX1_shiftToLeast_X0_putSum : GoodIn wsX1_shiftToLeast wsX0_putSum := goodIn_r _ [32, 11, 12, 13, 28, 18, 35, 36, 37, 38] (by decide +kernel) (by decide +kernel)
set_option maxRecDepth 20000 in
theorem gX1_shiftToLeast_X0_putSum : GoodIn wsX1_shiftToLeast (wsV RX1 111 RX0 yX0_putSum wsX0_putSum) := goodIn_app (goodIn_of _ (by decide +kernel)) ggX1_shiftToLeast_X0_putSum
theorem dX1_shiftToLeast_0 : decode cX1_shiftToLeast 0 = .ok (.iconst 0, 1) := by decide +kernel
theorem dX1_shiftToLeast_1 : decode cX1_shiftToLeast 1 = .ok (.istore_n 1, 1) := by decide +kernel
theorem dX1_shiftToLeast_2 : decode cX1_shiftToLeast 2 = .ok (.iload_n 1, 1) := by decide +kernel
theorem dX1_shiftToLeast_3 : decode cX1_shiftToLeast 3 = .ok (.bipush 6, 2) := by decide +kernel
theorem dX1_shiftToLeast_5 : decode cX1_shiftToLeast 5 = .ok (.if_icmp .ge 93, 3) := by decide +kernel
theorem dX1_shiftToLeast_8 : decode cX1_shiftToLeast 8 = .ok (.iconst 2, 1) := by decide +kernel
theorem dX1_shiftToLeast_9 : decode cX1_shiftToLeast 9 = .ok (.iload_n 1, 1) := by decide +kernel
theorem dX1_shiftToLeast_10 : decode cX1_shiftToLeast 10 = .ok (.imul, 1) := by decide +kernel
theorem dX1_shiftToLeast_11 : decode cX1_shiftToLeast 11 = .ok (.iconst 1, 1) := by decide +kernel
theorem dX1_shiftToLeast_12 : decode cX1_shiftToLeast 12 = .ok (.iadd, 1) := by decide +kernel
theorem dX1_shiftToLeast_13 : decode cX1_shiftToLeast 13 = .ok (.iconst 2, 1) := by decide +kernel
theorem dX1_shiftToLeast_14 : decode cX1_shiftToLeast 14 = .ok (.iload_n 1, 1) := by decide +kernel
theorem dX1_shiftToLeast_15 : decode cX1_shiftToLeast 15 = .ok (.imul, 1) := by decide +kernel
theorem dX1_shiftToLeast_16 : decode cX1_shiftToLeast 16 = .ok (.iconst 1, 1) := by decide +kernel
theorem dX1_shiftToLeast_17 : decode cX1_shiftToLeast 17 = .ok (.iadd, 1) := by decide +kernel
theorem dX1_shiftToLeast_18 : decode cX1_shiftToLeast 18 = .ok (.invokestatic 50, 3) := by decide +kernel
theorem dX1_shiftToLeast_21 : decode cX1_shiftToLeast 21 = .ok (.istore_n 2, 1) := by decide +kernel
theorem dX1_shiftToLeast_22 : decode cX1_shiftToLeast 22 = .ok (.aload_n 0, 1) := by decide +kernel
theorem dX1_shiftToLeast_23 : decode cX1_shiftToLeast 23 = .ok (.getfield 16, 3) := by decide +kernel
theorem dX1_shiftToLeast_26 : decode cX1_shiftToLeast 26 = .ok (.iconst 2, 1) := by decide +kernel
theorem dX1_shiftToLeast_27 : decode cX1_shiftToLeast 27 = .ok (.iload_n 1, 1) := by decide +kernel
theorem dX1_shiftToLeast_28 : decode cX1_shiftToLeast 28 = .ok (.imul, 1) := by decide +kernel
theorem dX1_shiftToLeast_29 : decode cX1_shiftToLeast 29 = .ok (.iconst 2, 1) := by decide +kernel
theorem dX1_shiftToLeast_30 : decode cX1_shiftToLeast 30 = .ok (.iload_n 1, 1) := by decide +kernel
theorem dX1_shiftToLeast_31 : decode cX1_shiftToLeast 31 = .ok (.imul, 1) := by decide +kernel
theorem dX1_shiftToLeast_32 : decode cX1_shiftToLeast 32 = .ok (.invokestatic 50, 3) := by decide +kernel
theorem dX1_shiftToLeast_35 : decode cX1_shiftToLeast 35 = .ok (.invokevirtual 104, 3) := by decide +kernel
theorem dX1_shiftToLeast_38 : decode cX1_shiftToLeast 38 = .ok (.ifCond .ne 14, 3) := by decide +kernel
theorem dX1_shiftToLeast_41 : decode cX1_shiftToLeast 41 = .ok (.aload_n 0, 1) := by decide +kernel
theorem dX1_shiftToLeast_42 : decode cX1_shiftToLeast 42 = .ok (.getfield 16, 3) := by decide +kernel
theorem dX1_shiftToLeast_45 : decode cX1_shiftToLeast 45 = .ok (.iload_n 2, 1) := by decide +kernel
theorem dX1_shiftToLeast_46 : decode cX1_shiftToLeast 46 = .ok (.invokevirtual 104, 3) := by decide +kernel
theorem dX1_shiftToLeast_49 : decode cX1_shiftToLeast 49 = .ok (.ifCond .eq 5, 3) := by decide +kernel
theorem dX1_shiftToLeast_52 : decode cX1_shiftToLeast 52 = .ok (.iconst 0, 1) := by decide +kernel
theorem dX1_shiftToLeast_53 : decode cX1_shiftToLeast 53 = .ok (.ireturn, 1) := by decide +kernel
theorem dX1_shiftToLeast_54 : decode cX1_shiftToLeast 54 = .ok (.aload_n 0, 1) := by decide +kernel
theorem dX1_shiftToLeast_55 : decode cX1_shiftToLeast 55 = .ok (.getfield 16, 3) := by decide +kernel
theorem dX1_shiftToLeast_58 : decode cX1_shiftToLeast 58 = .ok (.sipush 144, 3) := by decide +kernel
theorem dX1_shiftToLeast_61 : decode cX1_shiftToLeast 61 = .ok (.iconst 2, 1) := by decide +kernel
theorem dX1_shiftToLeast_62 : decode cX1_shiftToLeast 62 = .ok (.iload_n 1, 1) := by decide +kernel
theorem dX1_shiftToLeast_63 : decode cX1_shiftToLeast 63 = .ok (.imul, 1) := by decide +kernel
theorem dX1_shiftToLeast_64 : decode cX1_shiftToLeast 64 = .ok (.iadd, 1) := by decide +kernel
theorem dX1_shiftToLeast_65 : decode cX1_shiftToLeast 65 = .ok (.iload_n 2, 1) := by decide +kernel
theorem dX1_shiftToLeast_66 : decode cX1_shiftToLeast 66 = .ok (.invokevirtual 101, 3) := by decide +kernel
theorem dX1_shiftToLeast_69 : decode cX1_shiftToLeast 69 = .ok (.aload_n 0, 1) := by decide +kernel
theorem dX1_shiftToLeast_70 : decode cX1_shiftToLeast 70 = .ok (.getfield 16, 3) := by decide +kernel
theorem dX1_shiftToLeast_73 : decode cX1_shiftToLeast 73 = .ok (.sipush 144, 3) := by decide +kernel
theorem dX1_shiftToLeast_76 : decode cX1_shiftToLeast 76 = .ok (.iconst 2, 1) := by decide +kernel
theorem dX1_shiftToLeast_77 : decode cX1_shiftToLeast 77 = .ok (.iload_n 1, 1) := by decide +kernel
theorem dX1_shiftToLeast_78 : decode cX1_shiftToLeast 78 = .ok (.imul, 1) := by decide +kernel
theorem dX1_shiftToLeast_79 : decode cX1_shiftToLeast 79 = .ok (.iadd, 1) := by decide +kernel
theorem dX1_shiftToLeast_80 : decode cX1_shiftToLeast 80 = .ok (.iconst 1, 1) := by decide +kernel
theorem dX1_shiftToLeast_81 : decode cX1_shiftToLeast 81 = .ok (.iadd, 1) := by decide +kernel
theorem dX1_shiftToLeast_82 : decode cX1_shiftToLeast 82 = .ok (.sipush 144, 3) := by decide +kernel
theorem dX1_shiftToLeast_85 : decode cX1_shiftToLeast 85 = .ok (.iconst 2, 1) := by decide +kernel
theorem dX1_shiftToLeast_86 : decode cX1_shiftToLeast 86 = .ok (.iload_n 1, 1) := by decide +kernel
theorem dX1_shiftToLeast_87 : decode cX1_shiftToLeast 87 = .ok (.imul, 1) := by decide +kernel
theorem dX1_shiftToLeast_88 : decode cX1_shiftToLeast 88 = .ok (.iadd, 1) := by decide +kernel
theorem dX1_shiftToLeast_89 : decode cX1_shiftToLeast 89 = .ok (.invokevirtual 108, 3) := by decide +kernel
theorem dX1_shiftToLeast_92 : decode cX1_shiftToLeast 92 = .ok (.iinc 1 1, 3) := by decide +kernel
theorem dX1_shiftToLeast_95 : decode cX1_shiftToLeast 95 = .ok (.goto (-93), 3) := by decide +kernel
theorem dX1_shiftToLeast_98 : decode cX1_shiftToLeast 98 = .ok (.iconst 0, 1) := by decide +kernel
theorem dX1_shiftToLeast_99 : decode cX1_shiftToLeast 99 = .ok (.istore_n 1, 1) := by decide +kernel
theorem dX1_shiftToLeast_100 : decode cX1_shiftToLeast 100 = .ok (.iload_n 1, 1) := by decide +kernel
theorem dX1_shiftToLeast_101 : decode cX1_shiftToLeast 101 = .ok (.bipush 12, 2) := by decide +kernel
theorem dX1_shiftToLeast_103 : decode cX1_shiftToLeast 103 = .ok (.if_icmp .ge 67, 3) := by decide +kernel
theorem dX1_shiftToLeast_106 : decode cX1_shiftToLeast 106 = .ok (.iconst 0, 1) := by decide +kernel
theorem dX1_shiftToLeast_107 : decode cX1_shiftToLeast 107 = .ok (.istore_n 2, 1) := by decide +kernel
theorem dX1_shiftToLeast_108 : decode cX1_shiftToLeast 108 = .ok (.iload_n 2, 1) := by decide +kernel
theorem dX1_shiftToLeast_109 : decode cX1_shiftToLeast 109 = .ok (.bipush 12, 2) := by decide +kernel
theorem dX1_shiftToLeast_111 : decode cX1_shiftToLeast 111 = .ok (.if_icmp .ge 53, 3) := by decide +kernel
theorem dX1_shiftToLeast_114 : decode cX1_shiftToLeast 114 = .ok (.aload_n 0, 1) := by decide +kernel
theorem dX1_shiftToLeast_115 : decode cX1_shiftToLeast 115 = .ok (.getfield 16, 3) := by decide +kernel
theorem dX1_shiftToLeast_118 : decode cX1_shiftToLeast 118 = .ok (.iload_n 1, 1) := by decide +kernel
theorem dX1_shiftToLeast_119 : decode cX1_shiftToLeast 119 = .ok (.iload_n 2, 1) := by decide +kernel
theorem dX1_shiftToLeast_120 : decode cX1_shiftToLeast 120 = .ok (.invokestatic 50, 3) := by decide +kernel
theorem dX1_shiftToLeast_123 : decode cX1_shiftToLeast 123 = .ok (.iload_n 1, 1) := by decide +kernel
theorem dX1_shiftToLeast_124 : decode cX1_shiftToLeast 124 = .ok (.iload_n 2, 1) := by decide +kernel
theorem dX1_shiftToLeast_125 : decode cX1_shiftToLeast 125 = .ok (.invokestatic 50, 3) := by decide +kernel
theorem dX1_shiftToLeast_128 : decode cX1_shiftToLeast 128 = .ok (.sipush 144, 3) := by decide +kernel
theorem dX1_shiftToLeast_131 : decode cX1_shiftToLeast 131 = .ok (.iload_n 1, 1) := by decide +kernel
theorem dX1_shiftToLeast_132 : decode cX1_shiftToLeast 132 = .ok (.iadd, 1) := by decide +kernel
theorem dX1_shiftToLeast_133 : decode cX1_shiftToLeast 133 = .ok (.invokevirtual 111, 3) := by decide +kernel
theorem dX1_shiftToLeast_136 : decode cX1_shiftToLeast 136 = .ok (.aload_n 0, 1) := by decide +kernel
theorem dX1_shiftToLeast_137 : decode cX1_shiftToLeast 137 = .ok (.getfield 16, 3) := by decide +kernel
theorem dX1_shiftToLeast_140 : decode cX1_shiftToLeast 140 = .ok (.iload_n 1, 1) := by decide +kernel
theorem dX1_shiftToLeast_141 : decode cX1_shiftToLeast 141 = .ok (.iload_n 2, 1) := by decide +kernel
theorem dX1_shiftToLeast_142 : decode cX1_shiftToLeast 142 = .ok (.invokestatic 50, 3) := by decide +kernel
theorem dX1_shiftToLeast_145 : decode cX1_shiftToLeast 145 = .ok (.iload_n 1, 1) := by decide +kernel
theorem dX1_shiftToLeast_146 : decode cX1_shiftToLeast 146 = .ok (.iload_n 2, 1) := by decide +kernel
theorem dX1_shiftToLeast_147 : decode cX1_shiftToLeast 147 = .ok (.invokestatic 50, 3) := by decide +kernel
theorem dX1_shiftToLeast_150 : decode cX1_shiftToLeast 150 = .ok (.sipush 144, 3) := by decide +kernel
theorem dX1_shiftToLeast_153 : decode cX1_shiftToLeast 153 = .ok (.iload_n 2, 1) := by decide +kernel
theorem dX1_shiftToLeast_154 : decode cX1_shiftToLeast 154 = .ok (.iadd, 1) := by decide +kernel
theorem dX1_shiftToLeast_155 : decode cX1_shiftToLeast 155 = .ok (.invokevirtual 111, 3) := by decide +kernel
theorem dX1_shiftToLeast_158 : decode cX1_shiftToLeast 158 = .ok (.iinc 2 1, 3) := by decide +kernel
theorem dX1_shiftToLeast_161 : decode cX1_shiftToLeast 161 = .ok (.goto (-53), 3) := by decide +kernel
theorem dX1_shiftToLeast_164 : decode cX1_shiftToLeast 164 = .ok (.iinc 1 1, 3) := by decide +kernel
theorem dX1_shiftToLeast_167 : decode cX1_shiftToLeast 167 = .ok (.goto (-67), 3) := by decide +kernel
theorem dX1_shiftToLeast_170 : decode cX1_shiftToLeast 170 = .ok (.iconst 1, 1) := by decide +kernel
theorem dX1_shiftToLeast_171 : decode cX1_shiftToLeast 171 = .ok (.ireturn, 1) := by decide +kernel
set_option maxRecDepth 20000 in
theorem ggX1_passThrough_X1_cell : GoodIn wsX1_passThrough wsX1_cell := goodIn_r _ [6] (by decide +kernel) (by decide +kernel)
set_option maxRecDepth 20000 in
theorem gX1_passThrough_X1_cell : GoodIn wsX1_passThrough (va_wsS RX1 50 yX1_cell wsX1_cell) := goodIn_app (goodIn_of _ (by decide +kernel)) ggX1_passThrough_X1_cell
set_option maxRecDepth 20000 in
theorem ggX1_passThrough_X3_negation : GoodIn wsX1_passThrough wsX3_negation := goodIn_r _ [9] (by decide +kernel) (by decide +kernel)
set_option maxRecDepth 20000 in
theorem gX1_passThrough_X3_negation_n82 : GoodIn wsX1_passThrough (wsX3_negation) := ggX1_passThrough_X3_negation
set_option maxRecDepth 20000 in
theorem ggX1_passThrough_X0_putSum : GoodIn wsX1_passThrough wsX0_putSum := goodIn_r _ [14, 15, 16, 17, 18, 19, 44, 45, 46, 47] (by decide +kernel) (by decide +kernel)
set_option maxRecDepth 20000 in
theorem gX1_passThrough_X0_putSum : GoodIn wsX1_passThrough (wsV RX1 111 RX0 yX0_putSum wsX0_putSum) := goodIn_app (goodIn_of _ (by decide +kernel)) ggX1_passThrough_X0_putSum
set_option maxRecDepth 20000 in
theorem ggX1_passThrough_X0_isNegative : GoodIn wsX1_passThrough wsX0_isNegative := goodIn_r _ [23, 15, 16, 44, 45, 46, 47] (by decide +kernel) (by decide +kernel)
set_option maxRecDepth 20000 in
theorem gX1_passThrough_X0_isNegative : GoodIn wsX1_passThrough (wsV RX1 115 RX0 yX0_isNegative wsX0_isNegative) := goodIn_app (goodIn_of _ (by decide +kernel)) ggX1_passThrough_X0_isNegative
set_option maxRecDepth 20000 in
theorem ggX1_passThrough_X0_isInfinite : GoodIn wsX1_passThrough wsX0_isInfinite := goodIn_r _ [27, 15, 16, 17, 44, 45, 46, 47] (by decide +kernel) (by decide +kernel)
set_option maxRecDepth 20000 in
theorem gX1_passThrough_X0_isInfinite : GoodIn wsX1_passThrough (wsV RX1 104 RX0 yX0_isInfinite wsX0_isInfinite) := goodIn_app (goodIn_of _ (by decide +kernel)) ggX1_passThrough_X0_isInfinite
set_option maxRecDepth 20000 in
theorem ggX1_passThrough_X0_lower : GoodIn wsX1_passThrough wsX0_lower := goodIn_r _ [31, 32, 33, 11, 12, 13, 14, 15, 16, 17, 18, 19, 34, 35, 36, 37, 38, 39, 40, 41, 44, 45, 46, 47] (by decide +kernel) (by decide +kernel)
set_option maxRecDepth 20000 in
theorem gX1_passThrough_X0_lower : GoodIn wsX1_passThrough (wsV RX1 118 RX0 yX0_lower wsX0_lower) := goodIn_app (goodIn_of _ (by decide +kernel)) ggX1_passThrough_X0_lower
theorem dX1_passThrough_0 : decode cX1_passThrough 0 = .ok (.aload_n 0, 1) := by decide +kernel
theorem dX1_passThrough_1 : decode cX1_passThrough 1 = .ok (.getfield 16, 3) := by decide +kernel
theorem dX1_passThrough_4 : decode cX1_passThrough 4 = .ok (.sipush 156, 3) := by decide +kernel
theorem dX1_passThrough_7 : decode cX1_passThrough 7 = .ok (.iload_n 1, 1) := by decide +kernel
theorem dX1_passThrough_8 : decode cX1_passThrough 8 = .ok (.iload_n 2, 1) := by decide +kernel
theorem dX1_passThrough_9 : decode cX1_passThrough 9 = .ok (.invokestatic 50, 3) := by decide +kernel
theorem dX1_passThrough_12 : decode cX1_passThrough 12 = .ok (.iload_n 2, 1) := by decide +kernel
theorem dX1_passThrough_13 : decode cX1_passThrough 13 = .ok (.invokestatic 82, 3) := by decide +kernel
theorem dX1_passThrough_16 : decode cX1_passThrough 16 = .ok (.iload_n 1, 1) := by decide +kernel
theorem dX1_passThrough_17 : decode cX1_passThrough 17 = .ok (.invokestatic 82, 3) := by decide +kernel
theorem dX1_passThrough_20 : decode cX1_passThrough 20 = .ok (.invokestatic 50, 3) := by decide +kernel
theorem dX1_passThrough_23 : decode cX1_passThrough 23 = .ok (.invokevirtual 111, 3) := by decide +kernel
theorem dX1_passThrough_26 : decode cX1_passThrough 26 = .ok (.aload_n 0, 1) := by decide +kernel
theorem dX1_passThrough_27 : decode cX1_passThrough 27 = .ok (.getfield 20, 3) := by decide +kernel
theorem dX1_passThrough_30 : decode cX1_passThrough 30 = .ok (.ifCond .ne 16, 3) := by decide +kernel
theorem dX1_passThrough_33 : decode cX1_passThrough 33 = .ok (.aload_n 0, 1) := by decide +kernel
theorem dX1_passThrough_34 : decode cX1_passThrough 34 = .ok (.getfield 16, 3) := by decide +kernel
theorem dX1_passThrough_37 : decode cX1_passThrough 37 = .ok (.sipush 156, 3) := by decide +kernel
theorem dX1_passThrough_40 : decode cX1_passThrough 40 = .ok (.invokevirtual 115, 3) := by decide +kernel
theorem dX1_passThrough_43 : decode cX1_passThrough 43 = .ok (.ifCond .eq 9, 3) := by decide +kernel
theorem dX1_passThrough_46 : decode cX1_passThrough 46 = .ok (.aload_n 0, 1) := by decide +kernel
theorem dX1_passThrough_47 : decode cX1_passThrough 47 = .ok (.iconst 1, 1) := by decide +kernel
theorem dX1_passThrough_48 : decode cX1_passThrough 48 = .ok (.putfield 20, 3) := by decide +kernel
theorem dX1_passThrough_51 : decode cX1_passThrough 51 = .ok (.return_, 1) := by decide +kernel
theorem dX1_passThrough_52 : decode cX1_passThrough 52 = .ok (.iconst 0, 1) := by decide +kernel
theorem dX1_passThrough_53 : decode cX1_passThrough 53 = .ok (.istore_n 3, 1) := by decide +kernel
theorem dX1_passThrough_54 : decode cX1_passThrough 54 = .ok (.iload_n 3, 1) := by decide +kernel
theorem dX1_passThrough_55 : decode cX1_passThrough 55 = .ok (.bipush 12, 2) := by decide +kernel
theorem dX1_passThrough_57 : decode cX1_passThrough 57 = .ok (.if_icmp .ge 86, 3) := by decide +kernel
theorem dX1_passThrough_60 : decode cX1_passThrough 60 = .ok (.aload_n 0, 1) := by decide +kernel
theorem dX1_passThrough_61 : decode cX1_passThrough 61 = .ok (.getfield 16, 3) := by decide +kernel
theorem dX1_passThrough_64 : decode cX1_passThrough 64 = .ok (.sipush 156, 3) := by decide +kernel
theorem dX1_passThrough_67 : decode cX1_passThrough 67 = .ok (.iload_n 3, 1) := by decide +kernel
theorem dX1_passThrough_68 : decode cX1_passThrough 68 = .ok (.iload_n 1, 1) := by decide +kernel
theorem dX1_passThrough_69 : decode cX1_passThrough 69 = .ok (.invokestatic 82, 3) := by decide +kernel
theorem dX1_passThrough_72 : decode cX1_passThrough 72 = .ok (.invokestatic 50, 3) := by decide +kernel
theorem dX1_passThrough_75 : decode cX1_passThrough 75 = .ok (.iload_n 1, 1) := by decide +kernel
theorem dX1_passThrough_76 : decode cX1_passThrough 76 = .ok (.iload_n 2, 1) := by decide +kernel
theorem dX1_passThrough_77 : decode cX1_passThrough 77 = .ok (.invokestatic 50, 3) := by decide +kernel
theorem dX1_passThrough_80 : decode cX1_passThrough 80 = .ok (.invokevirtual 111, 3) := by decide +kernel
theorem dX1_passThrough_83 : decode cX1_passThrough 83 = .ok (.iconst 0, 1) := by decide +kernel
theorem dX1_passThrough_84 : decode cX1_passThrough 84 = .ok (.istore 4, 2) := by decide +kernel
theorem dX1_passThrough_86 : decode cX1_passThrough 86 = .ok (.iload 4, 2) := by decide +kernel
theorem dX1_passThrough_88 : decode cX1_passThrough 88 = .ok (.bipush 12, 2) := by decide +kernel
theorem dX1_passThrough_90 : decode cX1_passThrough 90 = .ok (.if_icmp .ge 47, 3) := by decide +kernel
theorem dX1_passThrough_93 : decode cX1_passThrough 93 = .ok (.aload_n 0, 1) := by decide +kernel
theorem dX1_passThrough_94 : decode cX1_passThrough 94 = .ok (.getfield 16, 3) := by decide +kernel
theorem dX1_passThrough_97 : decode cX1_passThrough 97 = .ok (.sipush 156, 3) := by decide +kernel
theorem dX1_passThrough_100 : decode cX1_passThrough 100 = .ok (.invokevirtual 104, 3) := by decide +kernel
theorem dX1_passThrough_103 : decode cX1_passThrough 103 = .ok (.ifCond .ne 34, 3) := by decide +kernel
theorem dX1_passThrough_106 : decode cX1_passThrough 106 = .ok (.aload_n 0, 1) := by decide +kernel
theorem dX1_passThrough_107 : decode cX1_passThrough 107 = .ok (.getfield 16, 3) := by decide +kernel
theorem dX1_passThrough_110 : decode cX1_passThrough 110 = .ok (.iload_n 3, 1) := by decide +kernel
theorem dX1_passThrough_111 : decode cX1_passThrough 111 = .ok (.iload 4, 2) := by decide +kernel
theorem dX1_passThrough_113 : decode cX1_passThrough 113 = .ok (.invokestatic 50, 3) := by decide +kernel
theorem dX1_passThrough_116 : decode cX1_passThrough 116 = .ok (.sipush 156, 3) := by decide +kernel
theorem dX1_passThrough_119 : decode cX1_passThrough 119 = .ok (.iload_n 2, 1) := by decide +kernel
theorem dX1_passThrough_120 : decode cX1_passThrough 120 = .ok (.invokestatic 82, 3) := by decide +kernel
theorem dX1_passThrough_123 : decode cX1_passThrough 123 = .ok (.iload 4, 2) := by decide +kernel
theorem dX1_passThrough_125 : decode cX1_passThrough 125 = .ok (.invokestatic 50, 3) := by decide +kernel
theorem dX1_passThrough_128 : decode cX1_passThrough 128 = .ok (.invokevirtual 118, 3) := by decide +kernel
theorem dX1_passThrough_131 : decode cX1_passThrough 131 = .ok (.iinc 4 1, 3) := by decide +kernel
theorem dX1_passThrough_134 : decode cX1_passThrough 134 = .ok (.goto (-48), 3) := by decide +kernel
theorem dX1_passThrough_137 : decode cX1_passThrough 137 = .ok (.iinc 3 1, 3) := by decide +kernel
theorem dX1_passThrough_140 : decode cX1_passThrough 140 = .ok (.goto (-86), 3) := by decide +kernel
theorem dX1_passThrough_143 : decode cX1_passThrough 143 = .ok (.return_, 1) := by decide +kernel
set_option maxRecDepth 20000 in
theorem ggX1_close_X1_cell : GoodIn wsX1_close wsX1_cell := goodIn_r _ [6] (by decide +kernel) (by decide +kernel)
set_option maxRecDepth 20000 in
theorem gX1_close_X1_cell : GoodIn wsX1_close (va_wsS RX1 50 yX1_cell wsX1_cell) := goodIn_app (goodIn_of _ (by decide +kernel)) ggX1_close_X1_cell
set_option maxRecDepth 20000 in
theorem ggX1_close_X0_isInfinite : GoodIn wsX1_close wsX0_isInfinite := goodIn_r _ [11, 12, 13, 14, 60, 61, 62, 63] (by decide +kernel) (by decide +kernel)
set_option maxRecDepth 20000 in
theorem gX1_close_X0_isInfinite : GoodIn wsX1_close (wsV RX1 104 RX0 yX0_isInfinite wsX0_isInfinite) := goodIn_app (goodIn_of _ (by decide +kernel)) ggX1_close_X0_isInfinite
set_option maxRecDepth 20000 in
theorem ggX1_close_X3_negation : GoodIn wsX1_close wsX3_negation := goodIn_r _ [17] (by decide +kernel) (by decide +kernel)
set_option maxRecDepth 20000 in
theorem gX1_close_X3_negation_n82 : GoodIn wsX1_close (wsX3_negation) := ggX1_close_X3_negation
set_option maxRecDepth 20000 in
theorem ggX1_close_X0_lower : GoodIn wsX1_close wsX0_lower := goodIn_r _ [21, 22, 23, 24, 25, 10, 26, 12, 13, 14, 27, 28, 29, 30, 31, 32, 33, 34, 35, 36, 60, 61, 62, 63] (by decide +kernel) (by decide +kernel)
set_option maxRecDepth 20000 in
theorem gX1_close_X0_lower : GoodIn wsX1_close (wsV RX1 118 RX0 yX0_lower wsX0_lower) := goodIn_app (goodIn_of _ (by decide +kernel)) ggX1_close_X0_lower
set_option maxRecDepth 20000 in
theorem ggX1_close_X1_findContradiction : GoodIn wsX1_close wsX1_findContradiction := goodIn_r _ [40, 2, 1, 15, 16, 17, 3, 4, 5, 6, 41, 42, 43, 10, 44, 12, 13, 58, 59, 60, 61, 62, 63] (by decide +kernel) (by decide +kernel)
set_option maxRecDepth 20000 in
theorem gX1_close_X1_findContradiction : GoodIn wsX1_close (wsV RX1 121 RX1 yX1_findContradiction wsX1_findContradiction) := goodIn_app (goodIn_of _ (by decide +kernel)) ggX1_close_X1_findContradiction
set_option maxRecDepth 20000 in
theorem ggX1_close_X1_combineSingles : GoodIn wsX1_close wsX1_combineSingles := goodIn_r _ [48, 1, 2, 3, 4, 5, 6, 49, 50, 51, 10, 52, 12, 13, 28, 53, 8, 9, 11, 14, 54, 55, 56, 57, 7, 18, 19, 20, 21, 22, 23, 24, 25, 26, 27, 29, 30, 31, 32, 33, 34, 35, 36, 37, 38, 39, 40, 15, 16, 17, 41, 42, 43, 44, 58, 59, 60, 61, 62, 63] (by decide +kernel) (by decide +kernel)
set_option maxRecDepth 20000 in
theorem gX1_close_X1_combineSingles : GoodIn wsX1_close (wsV RX1 68 RX1 yX1_combineSingles wsX1_combineSingles) := goodIn_app (goodIn_of _ (by decide +kernel)) ggX1_close_X1_combineSingles
theorem dX1_close_0 : decode cX1_close 0 = .ok (.iconst 0, 1) := by decide +kernel
theorem dX1_close_1 : decode cX1_close 1 = .ok (.istore_n 1, 1) := by decide +kernel
theorem dX1_close_2 : decode cX1_close 2 = .ok (.iload_n 1, 1) := by decide +kernel
theorem dX1_close_3 : decode cX1_close 3 = .ok (.bipush 12, 2) := by decide +kernel
theorem dX1_close_5 : decode cX1_close 5 = .ok (.if_icmp .ge 88, 3) := by decide +kernel
theorem dX1_close_8 : decode cX1_close 8 = .ok (.aload_n 0, 1) := by decide +kernel
theorem dX1_close_9 : decode cX1_close 9 = .ok (.getfield 20, 3) := by decide +kernel
theorem dX1_close_12 : decode cX1_close 12 = .ok (.ifCond .ne 81, 3) := by decide +kernel
theorem dX1_close_15 : decode cX1_close 15 = .ok (.iconst 0, 1) := by decide +kernel
theorem dX1_close_16 : decode cX1_close 16 = .ok (.istore_n 2, 1) := by decide +kernel
theorem dX1_close_17 : decode cX1_close 17 = .ok (.iload_n 2, 1) := by decide +kernel
theorem dX1_close_18 : decode cX1_close 18 = .ok (.bipush 12, 2) := by decide +kernel
theorem dX1_close_20 : decode cX1_close 20 = .ok (.if_icmp .ge 63, 3) := by decide +kernel
theorem dX1_close_23 : decode cX1_close 23 = .ok (.iconst 0, 1) := by decide +kernel
theorem dX1_close_24 : decode cX1_close 24 = .ok (.istore_n 3, 1) := by decide +kernel
theorem dX1_close_25 : decode cX1_close 25 = .ok (.iload_n 3, 1) := by decide +kernel
theorem dX1_close_26 : decode cX1_close 26 = .ok (.bipush 12, 2) := by decide +kernel
theorem dX1_close_28 : decode cX1_close 28 = .ok (.if_icmp .ge 49, 3) := by decide +kernel
theorem dX1_close_31 : decode cX1_close 31 = .ok (.aload_n 0, 1) := by decide +kernel
theorem dX1_close_32 : decode cX1_close 32 = .ok (.getfield 16, 3) := by decide +kernel
theorem dX1_close_35 : decode cX1_close 35 = .ok (.iload_n 2, 1) := by decide +kernel
theorem dX1_close_36 : decode cX1_close 36 = .ok (.iload_n 1, 1) := by decide +kernel
theorem dX1_close_37 : decode cX1_close 37 = .ok (.invokestatic 50, 3) := by decide +kernel
theorem dX1_close_40 : decode cX1_close 40 = .ok (.invokevirtual 104, 3) := by decide +kernel
theorem dX1_close_43 : decode cX1_close 43 = .ok (.ifCond .ne 34, 3) := by decide +kernel
theorem dX1_close_46 : decode cX1_close 46 = .ok (.aload_n 0, 1) := by decide +kernel
theorem dX1_close_47 : decode cX1_close 47 = .ok (.getfield 16, 3) := by decide +kernel
theorem dX1_close_50 : decode cX1_close 50 = .ok (.iload_n 2, 1) := by decide +kernel
theorem dX1_close_51 : decode cX1_close 51 = .ok (.iload_n 3, 1) := by decide +kernel
theorem dX1_close_52 : decode cX1_close 52 = .ok (.invokestatic 50, 3) := by decide +kernel
theorem dX1_close_55 : decode cX1_close 55 = .ok (.iload_n 2, 1) := by decide +kernel
theorem dX1_close_56 : decode cX1_close 56 = .ok (.iload_n 1, 1) := by decide +kernel
theorem dX1_close_57 : decode cX1_close 57 = .ok (.invokestatic 50, 3) := by decide +kernel
theorem dX1_close_60 : decode cX1_close 60 = .ok (.iload_n 1, 1) := by decide +kernel
theorem dX1_close_61 : decode cX1_close 61 = .ok (.invokestatic 82, 3) := by decide +kernel
theorem dX1_close_64 : decode cX1_close 64 = .ok (.iload_n 3, 1) := by decide +kernel
theorem dX1_close_65 : decode cX1_close 65 = .ok (.invokestatic 50, 3) := by decide +kernel
theorem dX1_close_68 : decode cX1_close 68 = .ok (.invokevirtual 118, 3) := by decide +kernel
theorem dX1_close_71 : decode cX1_close 71 = .ok (.iinc 3 1, 3) := by decide +kernel
theorem dX1_close_74 : decode cX1_close 74 = .ok (.goto (-49), 3) := by decide +kernel
theorem dX1_close_77 : decode cX1_close 77 = .ok (.iinc 2 1, 3) := by decide +kernel
theorem dX1_close_80 : decode cX1_close 80 = .ok (.goto (-63), 3) := by decide +kernel
theorem dX1_close_83 : decode cX1_close 83 = .ok (.aload_n 0, 1) := by decide +kernel
theorem dX1_close_84 : decode cX1_close 84 = .ok (.invokevirtual 121, 3) := by decide +kernel
theorem dX1_close_87 : decode cX1_close 87 = .ok (.iinc 1 1, 3) := by decide +kernel
theorem dX1_close_90 : decode cX1_close 90 = .ok (.goto (-88), 3) := by decide +kernel
theorem dX1_close_93 : decode cX1_close 93 = .ok (.aload_n 0, 1) := by decide +kernel
theorem dX1_close_94 : decode cX1_close 94 = .ok (.invokevirtual 68, 3) := by decide +kernel
theorem dX1_close_97 : decode cX1_close 97 = .ok (.return_, 1) := by decide +kernel
set_option maxRecDepth 20000 in
theorem ggX1_combineSingles_X1_cell : GoodIn wsX1_combineSingles wsX1_cell := goodIn_r _ [6] (by decide +kernel) (by decide +kernel)
set_option maxRecDepth 20000 in
theorem gX1_combineSingles_X1_cell : GoodIn wsX1_combineSingles (va_wsS RX1 50 yX1_cell wsX1_cell) := goodIn_app (goodIn_of _ (by decide +kernel)) ggX1_combineSingles_X1_cell
set_option maxRecDepth 20000 in
theorem ggX1_combineSingles_X0_putHalf : GoodIn wsX1_combineSingles wsX0_putHalf := goodIn_r _ [11, 12, 13, 14, 15, 16, 17, 10, 18, 19, 20, 21, 22, 23, 56, 57, 58, 59] (by decide +kernel) (by decide +kernel)
set_option maxRecDepth 20000 in
theorem gX1_combineSingles_X0_putHalf : GoodIn wsX1_combineSingles (wsV RX1 101 RX0 yX0_putHalf wsX0_putHalf) := goodIn_app (goodIn_of _ (by decide +kernel)) ggX1_combineSingles_X0_putHalf
set_option maxRecDepth 20000 in
theorem ggX1_combineSingles_X0_isInfinite : GoodIn wsX1_combineSingles wsX0_isInfinite := goodIn_r _ [18, 12, 13, 19, 56, 57, 58, 59] (by decide +kernel) (by decide +kernel)
set_option maxRecDepth 20000 in
theorem gX1_combineSingles_X0_isInfinite : GoodIn wsX1_combineSingles (wsV RX1 104 RX0 yX0_isInfinite wsX0_isInfinite) := goodIn_app (goodIn_of _ (by decide +kernel)) ggX1_combineSingles_X0_isInfinite
set_option maxRecDepth 20000 in
theorem ggX1_combineSingles_X0_lower : GoodIn wsX1_combineSingles wsX0_lower := goodIn_r _ [28, 29, 30, 31, 32, 10, 33, 12, 13, 19, 34, 14, 35, 36, 37, 38, 39, 40, 41, 42, 56, 57, 58, 59] (by decide +kernel) (by decide +kernel)
set_option maxRecDepth 20000 in
theorem gX1_combineSingles_X0_lower : GoodIn wsX1_combineSingles (wsV RX1 118 RX0 yX0_lower wsX0_lower) := goodIn_app (goodIn_of _ (by decide +kernel)) ggX1_combineSingles_X0_lower
set_option maxRecDepth 20000 in
theorem ggX1_combineSingles_X1_findContradiction : GoodIn wsX1_combineSingles wsX1_findContradiction := goodIn_r _ [46, 2, 1, 47, 48, 49, 3, 4, 5, 6, 50, 51, 52, 10, 53, 12, 13, 54, 55, 56, 57, 58, 59] (by decide +kernel) (by decide +kernel)
set_option maxRecDepth 20000 in
theorem gX1_combineSingles_X1_findContradiction : GoodIn wsX1_combineSingles (wsV RX1 121 RX1 yX1_findContradiction wsX1_findContradiction) := goodIn_app (goodIn_of _ (by decide +kernel)) ggX1_combineSingles_X1_findContradiction
theorem dX1_combineSingles_0 : decode cX1_combineSingles 0 = .ok (.aload_n 0, 1) := by decide +kernel
theorem dX1_combineSingles_1 : decode cX1_combineSingles 1 = .ok (.getfield 20, 3) := by decide +kernel
theorem dX1_combineSingles_4 : decode cX1_combineSingles 4 = .ok (.ifCond .eq 4, 3) := by decide +kernel
theorem dX1_combineSingles_7 : decode cX1_combineSingles 7 = .ok (.return_, 1) := by decide +kernel
theorem dX1_combineSingles_8 : decode cX1_combineSingles 8 = .ok (.iconst 0, 1) := by decide +kernel
theorem dX1_combineSingles_9 : decode cX1_combineSingles 9 = .ok (.istore_n 1, 1) := by decide +kernel
theorem dX1_combineSingles_10 : decode cX1_combineSingles 10 = .ok (.iload_n 1, 1) := by decide +kernel
theorem dX1_combineSingles_11 : decode cX1_combineSingles 11 = .ok (.bipush 12, 2) := by decide +kernel
theorem dX1_combineSingles_13 : decode cX1_combineSingles 13 = .ok (.if_icmp .ge 26, 3) := by decide +kernel
theorem dX1_combineSingles_16 : decode cX1_combineSingles 16 = .ok (.aload_n 0, 1) := by decide +kernel
theorem dX1_combineSingles_17 : decode cX1_combineSingles 17 = .ok (.getfield 16, 3) := by decide +kernel
theorem dX1_combineSingles_20 : decode cX1_combineSingles 20 = .ok (.sipush 144, 3) := by decide +kernel
theorem dX1_combineSingles_23 : decode cX1_combineSingles 23 = .ok (.iload_n 1, 1) := by decide +kernel
theorem dX1_combineSingles_24 : decode cX1_combineSingles 24 = .ok (.iadd, 1) := by decide +kernel
theorem dX1_combineSingles_25 : decode cX1_combineSingles 25 = .ok (.iload_n 1, 1) := by decide +kernel
theorem dX1_combineSingles_26 : decode cX1_combineSingles 26 = .ok (.iload_n 1, 1) := by decide +kernel
theorem dX1_combineSingles_27 : decode cX1_combineSingles 27 = .ok (.invokestatic 50, 3) := by decide +kernel
theorem dX1_combineSingles_30 : decode cX1_combineSingles 30 = .ok (.invokevirtual 101, 3) := by decide +kernel
theorem dX1_combineSingles_33 : decode cX1_combineSingles 33 = .ok (.iinc 1 1, 3) := by decide +kernel
theorem dX1_combineSingles_36 : decode cX1_combineSingles 36 = .ok (.goto (-26), 3) := by decide +kernel
theorem dX1_combineSingles_39 : decode cX1_combineSingles 39 = .ok (.iconst 0, 1) := by decide +kernel
theorem dX1_combineSingles_40 : decode cX1_combineSingles 40 = .ok (.istore_n 1, 1) := by decide +kernel
theorem dX1_combineSingles_41 : decode cX1_combineSingles 41 = .ok (.iload_n 1, 1) := by decide +kernel
theorem dX1_combineSingles_42 : decode cX1_combineSingles 42 = .ok (.bipush 12, 2) := by decide +kernel
theorem dX1_combineSingles_44 : decode cX1_combineSingles 44 = .ok (.if_icmp .ge 60, 3) := by decide +kernel
theorem dX1_combineSingles_47 : decode cX1_combineSingles 47 = .ok (.iconst 0, 1) := by decide +kernel
theorem dX1_combineSingles_48 : decode cX1_combineSingles 48 = .ok (.istore_n 2, 1) := by decide +kernel
theorem dX1_combineSingles_49 : decode cX1_combineSingles 49 = .ok (.iload_n 2, 1) := by decide +kernel
theorem dX1_combineSingles_50 : decode cX1_combineSingles 50 = .ok (.bipush 12, 2) := by decide +kernel
theorem dX1_combineSingles_52 : decode cX1_combineSingles 52 = .ok (.if_icmp .ge 46, 3) := by decide +kernel
theorem dX1_combineSingles_55 : decode cX1_combineSingles 55 = .ok (.aload_n 0, 1) := by decide +kernel
theorem dX1_combineSingles_56 : decode cX1_combineSingles 56 = .ok (.getfield 16, 3) := by decide +kernel
theorem dX1_combineSingles_59 : decode cX1_combineSingles 59 = .ok (.sipush 144, 3) := by decide +kernel
theorem dX1_combineSingles_62 : decode cX1_combineSingles 62 = .ok (.iload_n 1, 1) := by decide +kernel
theorem dX1_combineSingles_63 : decode cX1_combineSingles 63 = .ok (.iadd, 1) := by decide +kernel
theorem dX1_combineSingles_64 : decode cX1_combineSingles 64 = .ok (.invokevirtual 104, 3) := by decide +kernel
theorem dX1_combineSingles_67 : decode cX1_combineSingles 67 = .ok (.ifCond .ne 31, 3) := by decide +kernel
theorem dX1_combineSingles_70 : decode cX1_combineSingles 70 = .ok (.aload_n 0, 1) := by decide +kernel
theorem dX1_combineSingles_71 : decode cX1_combineSingles 71 = .ok (.getfield 16, 3) := by decide +kernel
theorem dX1_combineSingles_74 : decode cX1_combineSingles 74 = .ok (.iload_n 1, 1) := by decide +kernel
theorem dX1_combineSingles_75 : decode cX1_combineSingles 75 = .ok (.iload_n 2, 1) := by decide +kernel
theorem dX1_combineSingles_76 : decode cX1_combineSingles 76 = .ok (.invokestatic 50, 3) := by decide +kernel
theorem dX1_combineSingles_79 : decode cX1_combineSingles 79 = .ok (.sipush 144, 3) := by decide +kernel
theorem dX1_combineSingles_82 : decode cX1_combineSingles 82 = .ok (.iload_n 1, 1) := by decide +kernel
theorem dX1_combineSingles_83 : decode cX1_combineSingles 83 = .ok (.iadd, 1) := by decide +kernel
theorem dX1_combineSingles_84 : decode cX1_combineSingles 84 = .ok (.sipush 144, 3) := by decide +kernel
theorem dX1_combineSingles_87 : decode cX1_combineSingles 87 = .ok (.iload_n 2, 1) := by decide +kernel
theorem dX1_combineSingles_88 : decode cX1_combineSingles 88 = .ok (.iadd, 1) := by decide +kernel
theorem dX1_combineSingles_89 : decode cX1_combineSingles 89 = .ok (.invokevirtual 118, 3) := by decide +kernel
theorem dX1_combineSingles_92 : decode cX1_combineSingles 92 = .ok (.iinc 2 1, 3) := by decide +kernel
theorem dX1_combineSingles_95 : decode cX1_combineSingles 95 = .ok (.goto (-46), 3) := by decide +kernel
theorem dX1_combineSingles_98 : decode cX1_combineSingles 98 = .ok (.iinc 1 1, 3) := by decide +kernel
theorem dX1_combineSingles_101 : decode cX1_combineSingles 101 = .ok (.goto (-60), 3) := by decide +kernel
theorem dX1_combineSingles_104 : decode cX1_combineSingles 104 = .ok (.aload_n 0, 1) := by decide +kernel
theorem dX1_combineSingles_105 : decode cX1_combineSingles 105 = .ok (.invokevirtual 121, 3) := by decide +kernel
theorem dX1_combineSingles_108 : decode cX1_combineSingles 108 = .ok (.return_, 1) := by decide +kernel
set_option maxRecDepth 20000 in
theorem ggX1_findContradiction_X3_negation : GoodIn wsX1_findContradiction wsX3_negation := goodIn_r _ [5] (by decide +kernel) (by decide +kernel)
set_option maxRecDepth 20000 in
theorem gX1_findContradiction_X3_negation_n82 : GoodIn wsX1_findContradiction (wsX3_negation) := ggX1_findContradiction_X3_negation
set_option maxRecDepth 20000 in
theorem ggX1_findContradiction_X1_cell : GoodIn wsX1_findContradiction wsX1_cell := goodIn_r _ [9] (by decide +kernel) (by decide +kernel)
set_option maxRecDepth 20000 in
theorem gX1_findContradiction_X1_cell : GoodIn wsX1_findContradiction (va_wsS RX1 50 yX1_cell wsX1_cell) := goodIn_app (goodIn_of _ (by decide +kernel)) ggX1_findContradiction_X1_cell
set_option maxRecDepth 20000 in
theorem ggX1_findContradiction_X0_isNegative : GoodIn wsX1_findContradiction wsX0_isNegative := goodIn_r _ [14, 15, 16, 19, 20, 21, 22] (by decide +kernel) (by decide +kernel)
set_option maxRecDepth 20000 in
theorem gX1_findContradiction_X0_isNegative : GoodIn wsX1_findContradiction (wsV RX1 115 RX0 yX0_isNegative wsX0_isNegative) := goodIn_app (goodIn_of _ (by decide +kernel)) ggX1_findContradiction_X0_isNegative
theorem dX1_findContradiction_0 : decode cX1_findContradiction 0 = .ok (.iconst 0, 1) := by decide +kernel
theorem dX1_findContradiction_1 : decode cX1_findContradiction 1 = .ok (.istore_n 1, 1) := by decide +kernel
theorem dX1_findContradiction_2 : decode cX1_findContradiction 2 = .ok (.iload_n 1, 1) := by decide +kernel
theorem dX1_findContradiction_3 : decode cX1_findContradiction 3 = .ok (.bipush 12, 2) := by decide +kernel
theorem dX1_findContradiction_5 : decode cX1_findContradiction 5 = .ok (.if_icmp .ge 32, 3) := by decide +kernel
theorem dX1_findContradiction_8 : decode cX1_findContradiction 8 = .ok (.aload_n 0, 1) := by decide +kernel
theorem dX1_findContradiction_9 : decode cX1_findContradiction 9 = .ok (.getfield 16, 3) := by decide +kernel
theorem dX1_findContradiction_12 : decode cX1_findContradiction 12 = .ok (.iload_n 1, 1) := by decide +kernel
theorem dX1_findContradiction_13 : decode cX1_findContradiction 13 = .ok (.iload_n 1, 1) := by decide +kernel
theorem dX1_findContradiction_14 : decode cX1_findContradiction 14 = .ok (.invokestatic 82, 3) := by decide +kernel
theorem dX1_findContradiction_17 : decode cX1_findContradiction 17 = .ok (.invokestatic 50, 3) := by decide +kernel
theorem dX1_findContradiction_20 : decode cX1_findContradiction 20 = .ok (.invokevirtual 115, 3) := by decide +kernel
theorem dX1_findContradiction_23 : decode cX1_findContradiction 23 = .ok (.ifCond .eq 8, 3) := by decide +kernel
theorem dX1_findContradiction_26 : decode cX1_findContradiction 26 = .ok (.aload_n 0, 1) := by decide +kernel
theorem dX1_findContradiction_27 : decode cX1_findContradiction 27 = .ok (.iconst 1, 1) := by decide +kernel
theorem dX1_findContradiction_28 : decode cX1_findContradiction 28 = .ok (.putfield 20, 3) := by decide +kernel
theorem dX1_findContradiction_31 : decode cX1_findContradiction 31 = .ok (.iinc 1 1, 3) := by decide +kernel
theorem dX1_findContradiction_34 : decode cX1_findContradiction 34 = .ok (.goto (-32), 3) := by decide +kernel
theorem dX1_findContradiction_37 : decode cX1_findContradiction 37 = .ok (.return_, 1) := by decide +kernel
theorem dX2_init_0 : decode cX2_init 0 = .ok (.aload_n 0, 1) := by decide +kernel
theorem dX2_init_1 : decode cX2_init 1 = .ok (.invokespecial 3, 3) := by decide +kernel
theorem dX2_init_4 : decode cX2_init 4 = .ok (.return_, 1) := by decide +kernel
theorem dX2_write_0 : decode cX2_write 0 = .ok (.aload_n 0, 1) := by decide +kernel
theorem dX2_write_1 : decode cX2_write 1 = .ok (.iload_n 1, 1) := by decide +kernel
theorem dX2_write_2 : decode cX2_write 2 = .ok (.bipush 8, 2) := by decide +kernel
theorem dX2_write_4 : decode cX2_write 4 = .ok (.idiv, 1) := by decide +kernel
theorem dX2_write_5 : decode cX2_write 5 = .ok (.putfield 9, 3) := by decide +kernel
theorem dX2_write_8 : decode cX2_write 8 = .ok (.aload_n 0, 1) := by decide +kernel
theorem dX2_write_9 : decode cX2_write 9 = .ok (.iload_n 1, 1) := by decide +kernel
theorem dX2_write_10 : decode cX2_write 10 = .ok (.bipush 8, 2) := by decide +kernel
theorem dX2_write_12 : decode cX2_write 12 = .ok (.irem, 1) := by decide +kernel
theorem dX2_write_13 : decode cX2_write 13 = .ok (.putfield 15, 3) := by decide +kernel
theorem dX2_write_16 : decode cX2_write 16 = .ok (.aload_n 0, 1) := by decide +kernel
theorem dX2_write_17 : decode cX2_write 17 = .ok (.iload_n 2, 1) := by decide +kernel
theorem dX2_write_18 : decode cX2_write 18 = .ok (.putfield 18, 3) := by decide +kernel
theorem dX2_write_21 : decode cX2_write 21 = .ok (.aload_n 0, 1) := by decide +kernel
theorem dX2_write_22 : decode cX2_write 22 = .ok (.iload_n 3, 1) := by decide +kernel
theorem dX2_write_23 : decode cX2_write 23 = .ok (.putfield 21, 3) := by decide +kernel
theorem dX2_write_26 : decode cX2_write 26 = .ok (.aload_n 0, 1) := by decide +kernel
theorem dX2_write_27 : decode cX2_write 27 = .ok (.iload 4, 2) := by decide +kernel
theorem dX2_write_29 : decode cX2_write 29 = .ok (.putfield 24, 3) := by decide +kernel
theorem dX2_write_32 : decode cX2_write 32 = .ok (.aload_n 0, 1) := by decide +kernel
theorem dX2_write_33 : decode cX2_write 33 = .ok (.iload 5, 2) := by decide +kernel
theorem dX2_write_35 : decode cX2_write 35 = .ok (.putfield 27, 3) := by decide +kernel
theorem dX2_write_38 : decode cX2_write 38 = .ok (.return_, 1) := by decide +kernel
set_option maxRecDepth 20000 in
theorem ggX3_init_X3_emptyShapes : GoodIn wsX3_init wsX3_emptyShapes := goodIn_r _ [21, 7, 8, 9, 22, 23, 24, 25, 2, 3, 26, 27, 28, 29, 30, 31, 32, 33, 34, 35, 36, 11, 37, 38, 70, 71, 78, 79, 80, 81] (by decide +kernel) (by decide +kernel)
set_option maxRecDepth 20000 in
theorem gX3_init_X3_emptyShapes : GoodIn wsX3_init (va_wsS RX3 9 yX3_emptyShapes wsX3_emptyShapes) := goodIn_app (goodIn_of _ (by decide +kernel)) ggX3_init_X3_emptyShapes
set_option maxRecDepth 20000 in
theorem ggX3_init_X1_allowAll : GoodIn wsX3_init wsX1_allowAll := goodIn_r _ [42, 30, 43, 44, 45, 9, 46, 29, 47, 48, 49, 50, 51, 52, 28, 53, 38, 37, 36, 54, 55, 56, 57, 58, 59, 70, 71, 78, 79, 80, 81] (by decide +kernel) (by decide +kernel)
set_option maxRecDepth 20000 in
theorem gX3_init_X1_allowAll : GoodIn wsX3_init (wsV RX3 17 RX1 yX1_allowAll wsX1_allowAll) := goodIn_app (goodIn_of _ (by decide +kernel)) ggX3_init_X1_allowAll
set_option maxRecDepth 20000 in
theorem ggX3_init_X1_init : GoodIn wsX3_init wsX1_init := goodIn_r _ [24, 25, 2, 3, 26, 27, 28, 29, 30, 31, 32, 33, 34, 35, 36, 11, 37, 38, 78, 79, 80, 81, 70, 71] (by decide +kernel) (by decide +kernel)
set_option maxRecDepth 20000 in
theorem gX3_init_X1_init : GoodIn wsX3_init (wsX1_init) := ggX3_init_X1_init
set_option maxRecDepth 20000 in
theorem ggX3_init_X2_init : GoodIn wsX3_init wsX2_init := goodIn_r _ [61, 62, 2, 3] (by decide +kernel) (by decide +kernel)
set_option maxRecDepth 20000 in
theorem gX3_init_X2_init_n47 : GoodIn wsX3_init (wsX2_init) := ggX3_init_X2_init
theorem dX3_init_0 : decode cX3_init 0 = .ok (.aload_n 0, 1) := by decide +kernel
theorem dX3_init_1 : decode cX3_init 1 = .ok (.invokespecial 1, 3) := by decide +kernel
theorem dX3_init_4 : decode cX3_init 4 = .ok (.aload_n 0, 1) := by decide +kernel
theorem dX3_init_5 : decode cX3_init 5 = .ok (.bipush 6, 2) := by decide +kernel
theorem dX3_init_7 : decode cX3_init 7 = .ok (.invokestatic 9, 3) := by decide +kernel
theorem dX3_init_10 : decode cX3_init 10 = .ok (.putfield 13, 3) := by decide +kernel
theorem dX3_init_13 : decode cX3_init 13 = .ok (.iconst 0, 1) := by decide +kernel
theorem dX3_init_14 : decode cX3_init 14 = .ok (.istore_n 1, 1) := by decide +kernel
theorem dX3_init_15 : decode cX3_init 15 = .ok (.iload_n 1, 1) := by decide +kernel
theorem dX3_init_16 : decode cX3_init 16 = .ok (.bipush 6, 2) := by decide +kernel
theorem dX3_init_18 : decode cX3_init 18 = .ok (.if_icmp .ge 18, 3) := by decide +kernel
theorem dX3_init_21 : decode cX3_init 21 = .ok (.aload_n 0, 1) := by decide +kernel
theorem dX3_init_22 : decode cX3_init 22 = .ok (.getfield 13, 3) := by decide +kernel
theorem dX3_init_25 : decode cX3_init 25 = .ok (.iload_n 1, 1) := by decide +kernel
theorem dX3_init_26 : decode cX3_init 26 = .ok (.aaload, 1) := by decide +kernel
theorem dX3_init_27 : decode cX3_init 27 = .ok (.invokevirtual 17, 3) := by decide +kernel
theorem dX3_init_30 : decode cX3_init 30 = .ok (.iinc 1 1, 3) := by decide +kernel
theorem dX3_init_33 : decode cX3_init 33 = .ok (.goto (-18), 3) := by decide +kernel
theorem dX3_init_36 : decode cX3_init 36 = .ok (.aload_n 0, 1) := by decide +kernel
theorem dX3_init_37 : decode cX3_init 37 = .ok (.bipush 8, 2) := by decide +kernel
theorem dX3_init_39 : decode cX3_init 39 = .ok (.invokestatic 9, 3) := by decide +kernel
theorem dX3_init_42 : decode cX3_init 42 = .ok (.putfield 22, 3) := by decide +kernel
theorem dX3_init_45 : decode cX3_init 45 = .ok (.aload_n 0, 1) := by decide +kernel
theorem dX3_init_46 : decode cX3_init 46 = .ok (.bipush 8, 2) := by decide +kernel
theorem dX3_init_48 : decode cX3_init 48 = .ok (.invokestatic 9, 3) := by decide +kernel
theorem dX3_init_51 : decode cX3_init 51 = .ok (.putfield 25, 3) := by decide +kernel
theorem dX3_init_54 : decode cX3_init 54 = .ok (.aload_n 0, 1) := by decide +kernel
theorem dX3_init_55 : decode cX3_init 55 = .ok (.new 18, 3) := by decide +kernel
theorem dX3_init_58 : decode cX3_init 58 = .ok (.dup, 1) := by decide +kernel
theorem dX3_init_59 : decode cX3_init 59 = .ok (.invokespecial 28, 3) := by decide +kernel
theorem dX3_init_62 : decode cX3_init 62 = .ok (.putfield 29, 3) := by decide +kernel
theorem dX3_init_65 : decode cX3_init 65 = .ok (.aload_n 0, 1) := by decide +kernel
theorem dX3_init_66 : decode cX3_init 66 = .ok (.bipush 6, 2) := by decide +kernel
theorem dX3_init_68 : decode cX3_init 68 = .ok (.newarray .long, 2) := by decide +kernel
theorem dX3_init_70 : decode cX3_init 70 = .ok (.putfield 33, 3) := by decide +kernel
theorem dX3_init_73 : decode cX3_init 73 = .ok (.aload_n 0, 1) := by decide +kernel
theorem dX3_init_74 : decode cX3_init 74 = .ok (.iconst 0, 1) := by decide +kernel
theorem dX3_init_75 : decode cX3_init 75 = .ok (.putfield 37, 3) := by decide +kernel
theorem dX3_init_78 : decode cX3_init 78 = .ok (.aload_n 0, 1) := by decide +kernel
theorem dX3_init_79 : decode cX3_init 79 = .ok (.bipush 20, 2) := by decide +kernel
theorem dX3_init_81 : decode cX3_init 81 = .ok (.anewarray 41, 3) := by decide +kernel
theorem dX3_init_84 : decode cX3_init 84 = .ok (.putfield 43, 3) := by decide +kernel
theorem dX3_init_87 : decode cX3_init 87 = .ok (.iconst 0, 1) := by decide +kernel
theorem dX3_init_88 : decode cX3_init 88 = .ok (.istore_n 1, 1) := by decide +kernel
theorem dX3_init_89 : decode cX3_init 89 = .ok (.iload_n 1, 1) := by decide +kernel
theorem dX3_init_90 : decode cX3_init 90 = .ok (.bipush 20, 2) := by decide +kernel
theorem dX3_init_92 : decode cX3_init 92 = .ok (.if_icmp .ge 22, 3) := by decide +kernel
theorem dX3_init_95 : decode cX3_init 95 = .ok (.aload_n 0, 1) := by decide +kernel
theorem dX3_init_96 : decode cX3_init 96 = .ok (.getfield 43, 3) := by decide +kernel
theorem dX3_init_99 : decode cX3_init 99 = .ok (.iload_n 1, 1) := by decide +kernel
theorem dX3_init_100 : decode cX3_init 100 = .ok (.new 41, 3) := by decide +kernel
theorem dX3_init_103 : decode cX3_init 103 = .ok (.dup, 1) := by decide +kernel
theorem dX3_init_104 : decode cX3_init 104 = .ok (.invokespecial 47, 3) := by decide +kernel
theorem dX3_init_107 : decode cX3_init 107 = .ok (.aastore, 1) := by decide +kernel
theorem dX3_init_108 : decode cX3_init 108 = .ok (.iinc 1 1, 3) := by decide +kernel
theorem dX3_init_111 : decode cX3_init 111 = .ok (.goto (-22), 3) := by decide +kernel
theorem dX3_init_114 : decode cX3_init 114 = .ok (.return_, 1) := by decide +kernel
set_option maxRecDepth 20000 in
theorem ggX3_act_X3_requireSlot : GoodIn wsX3_act wsX3_requireSlot := goodIn_ca (goodIn_r _ [7, 8, 9] (by decide +kernel) (by decide +kernel)) (goodIn_sub (fun _ h => List.mem_cons_of_mem _ (List.mem_append_right _ h)) (by decide +kernel))
set_option maxRecDepth 20000 in
theorem gX3_act_X3_requireSlot : GoodIn wsX3_act (va_wsS RX3 48 yX3_requireSlot wsX3_requireSlot) := goodIn_app (goodIn_of _ (by decide +kernel)) ggX3_act_X3_requireSlot
set_option maxRecDepth 20000 in
theorem ggX3_act_X3_requireAction : GoodIn wsX3_act wsX3_requireAction := goodIn_ca (goodIn_r _ [12, 8, 9, 13, 14, 6, 15, 16, 17, 18, 19, 20, 21, 22, 23, 24, 25, 26, 27, 28, 29] (by decide +kernel) (by decide +kernel)) (goodIn_sub (fun _ h => List.mem_cons_of_mem _ (List.mem_append_right _ h)) (by decide +kernel))
set_option maxRecDepth 20000 in
theorem gX3_act_X3_requireAction : GoodIn wsX3_act (va_wsS RX3 52 yX3_requireAction wsX3_requireAction) := goodIn_app (goodIn_of _ (by decide +kernel)) ggX3_act_X3_requireAction
set_option maxRecDepth 20000 in
theorem ggX3_act_X1_makeFrom : GoodIn wsX3_act wsX1_makeFrom := goodIn_r _ [34, 35, 36, 37, 38, 33, 39, 40, 41, 42, 43, 25, 6, 26, 44, 45, 46, 47, 48, 49, 50, 51, 52, 53, 54, 55, 56, 57, 58, 59, 60, 61, 62, 63, 64, 65, 66, 67, 68, 69, 70, 71, 72, 73, 74, 75, 76, 77, 78, 79, 80, 81, 82, 83, 84, 85, 86, 87, 88, 89, 90, 91, 92, 93, 94, 95, 96, 97, 98, 99, 100, 101, 102, 103, 104, 105, 106, 107, 108, 109, 110, 111, 112, 113, 114, 115, 116, 117, 118, 119, 120, 121, 122, 123, 124, 125, 126, 127, 128, 129, 130, 131, 132, 133, 134, 135, 136, 137, 138, 139, 192, 193, 194, 195, 196, 197] (by decide +kernel) (by decide +kernel)
set_option maxRecDepth 20000 in
theorem gX3_act_X1_makeFrom : GoodIn wsX3_act (wsV RX3 56 RX1 yX1_makeFrom wsX1_makeFrom) := goodIn_app (goodIn_of _ (by decide +kernel)) ggX3_act_X1_makeFrom
set_option maxRecDepth 20000 in
theorem ggX3_act_X3_putMade : GoodIn wsX3_act wsX3_putMade := goodIn_r _ [143, 1, 2, 144, 145, 146, 6, 147, 3, 148, 149, 150, 151, 152, 153, 53, 154, 58, 56, 55, 63, 155, 156, 157, 158, 159, 160, 161, 162, 163, 164, 165, 166, 167, 168, 169, 170, 171, 172, 173, 174, 175, 176, 177, 178, 179, 77, 78, 79, 180, 181, 182, 183, 57, 64, 65, 66, 67, 184, 69, 70, 33, 71, 35, 40, 72, 73, 74, 75, 76, 185, 186, 187, 188, 189, 190, 191, 192, 193, 194, 195, 196, 197] (by decide +kernel) (by decide +kernel)
set_option maxRecDepth 20000 in
theorem gX3_act_X3_putMade : GoodIn wsX3_act (wsV RX3 60 RX3 yX3_putMade wsX3_putMade) := goodIn_app (goodIn_of _ (by decide +kernel)) ggX3_act_X3_putMade
theorem dX3_act_0 : decode cX3_act 0 = .ok (.iload_n 1, 1) := by decide +kernel
theorem dX3_act_1 : decode cX3_act 1 = .ok (.invokestatic 48, 3) := by decide +kernel
theorem dX3_act_4 : decode cX3_act 4 = .ok (.iload_n 2, 1) := by decide +kernel
theorem dX3_act_5 : decode cX3_act 5 = .ok (.iload_n 3, 1) := by decide +kernel
theorem dX3_act_6 : decode cX3_act 6 = .ok (.iload 4, 2) := by decide +kernel
theorem dX3_act_8 : decode cX3_act 8 = .ok (.iload 5, 2) := by decide +kernel
theorem dX3_act_10 : decode cX3_act 10 = .ok (.invokestatic 52, 3) := by decide +kernel
theorem dX3_act_13 : decode cX3_act 13 = .ok (.aload_n 0, 1) := by decide +kernel
theorem dX3_act_14 : decode cX3_act 14 = .ok (.getfield 29, 3) := by decide +kernel
theorem dX3_act_17 : decode cX3_act 17 = .ok (.aload_n 0, 1) := by decide +kernel
theorem dX3_act_18 : decode cX3_act 18 = .ok (.getfield 13, 3) := by decide +kernel
theorem dX3_act_21 : decode cX3_act 21 = .ok (.iload_n 1, 1) := by decide +kernel
theorem dX3_act_22 : decode cX3_act 22 = .ok (.aaload, 1) := by decide +kernel
theorem dX3_act_23 : decode cX3_act 23 = .ok (.iload_n 2, 1) := by decide +kernel
theorem dX3_act_24 : decode cX3_act 24 = .ok (.iload_n 3, 1) := by decide +kernel
theorem dX3_act_25 : decode cX3_act 25 = .ok (.iload 4, 2) := by decide +kernel
theorem dX3_act_27 : decode cX3_act 27 = .ok (.iload 5, 2) := by decide +kernel
theorem dX3_act_29 : decode cX3_act 29 = .ok (.invokevirtual 56, 3) := by decide +kernel
theorem dX3_act_32 : decode cX3_act 32 = .ok (.aload_n 0, 1) := by decide +kernel
theorem dX3_act_33 : decode cX3_act 33 = .ok (.iload_n 1, 1) := by decide +kernel
theorem dX3_act_34 : decode cX3_act 34 = .ok (.invokevirtual 60, 3) := by decide +kernel
theorem dX3_act_37 : decode cX3_act 37 = .ok (.aload_n 0, 1) := by decide +kernel
theorem dX3_act_38 : decode cX3_act 38 = .ok (.getfield 13, 3) := by decide +kernel
theorem dX3_act_41 : decode cX3_act 41 = .ok (.iload_n 1, 1) := by decide +kernel
theorem dX3_act_42 : decode cX3_act 42 = .ok (.aaload, 1) := by decide +kernel
theorem dX3_act_43 : decode cX3_act 43 = .ok (.getfield 63, 3) := by decide +kernel
theorem dX3_act_46 : decode cX3_act 46 = .ok (.ifCond .ne 7, 3) := by decide +kernel
theorem dX3_act_49 : decode cX3_act 49 = .ok (.iconst 1, 1) := by decide +kernel
theorem dX3_act_50 : decode cX3_act 50 = .ok (.goto 4, 3) := by decide +kernel
theorem dX3_act_53 : decode cX3_act 53 = .ok (.iconst 0, 1) := by decide +kernel
theorem dX3_act_54 : decode cX3_act 54 = .ok (.ireturn, 1) := by decide +kernel
set_option maxRecDepth 20000 in
theorem ggX3_clear_X3_requireSlot : GoodIn wsX3_clear wsX3_requireSlot := goodIn_ca (goodIn_r _ [5, 6, 7] (by decide +kernel) (by decide +kernel)) (goodIn_sub (fun _ h => List.mem_cons_of_mem _ (List.mem_append_right _ h)) (by decide +kernel))
set_option maxRecDepth 20000 in
theorem gX3_clear_X3_requireSlot : GoodIn wsX3_clear (va_wsS RX3 48 yX3_requireSlot wsX3_requireSlot) := goodIn_app (goodIn_of _ (by decide +kernel)) ggX3_clear_X3_requireSlot
set_option maxRecDepth 20000 in
theorem ggX3_clear_X1_allowAll : GoodIn wsX3_clear wsX1_allowAll := goodIn_r _ [12, 13, 14, 15, 16, 11, 17, 18, 19, 20, 21, 22, 23, 24, 25, 26, 27, 28, 29, 30, 31, 32, 33, 34, 35, 43, 44, 45, 46, 47, 48] (by decide +kernel) (by decide +kernel)
set_option maxRecDepth 20000 in
theorem gX3_clear_X1_allowAll : GoodIn wsX3_clear (wsV RX3 17 RX1 yX1_allowAll wsX1_allowAll) := goodIn_app (goodIn_of _ (by decide +kernel)) ggX3_clear_X1_allowAll
theorem dX3_clear_0 : decode cX3_clear 0 = .ok (.iload_n 1, 1) := by decide +kernel
theorem dX3_clear_1 : decode cX3_clear 1 = .ok (.invokestatic 48, 3) := by decide +kernel
theorem dX3_clear_4 : decode cX3_clear 4 = .ok (.aload_n 0, 1) := by decide +kernel
theorem dX3_clear_5 : decode cX3_clear 5 = .ok (.getfield 13, 3) := by decide +kernel
theorem dX3_clear_8 : decode cX3_clear 8 = .ok (.iload_n 1, 1) := by decide +kernel
theorem dX3_clear_9 : decode cX3_clear 9 = .ok (.aaload, 1) := by decide +kernel
theorem dX3_clear_10 : decode cX3_clear 10 = .ok (.invokevirtual 17, 3) := by decide +kernel
theorem dX3_clear_13 : decode cX3_clear 13 = .ok (.return_, 1) := by decide +kernel
set_option maxRecDepth 20000 in
theorem ggX3_copy_X3_requireSlot : GoodIn wsX3_copy wsX3_requireSlot := goodIn_ca (goodIn_r _ [5, 6, 7] (by decide +kernel) (by decide +kernel)) (goodIn_sub (fun _ h => List.mem_cons_of_mem _ (List.mem_append_right _ h)) (by decide +kernel))
set_option maxRecDepth 20000 in
theorem gX3_copy_X3_requireSlot : GoodIn wsX3_copy (va_wsS RX3 48 yX3_requireSlot wsX3_requireSlot) := goodIn_app (goodIn_of _ (by decide +kernel)) ggX3_copy_X3_requireSlot
set_option maxRecDepth 20000 in
theorem ggX3_copy_X1_takeOver : GoodIn wsX3_copy wsX1_takeOver := goodIn_r _ [12, 13, 14, 15, 16, 17, 18, 19, 20, 21, 22, 23, 24, 32, 33, 34, 35, 36, 37] (by decide +kernel) (by decide +kernel)
set_option maxRecDepth 20000 in
theorem gX3_copy_X1_takeOver : GoodIn wsX3_copy (wsV RX3 67 RX1 yX1_takeOver wsX1_takeOver) := goodIn_app (goodIn_of _ (by decide +kernel)) ggX3_copy_X1_takeOver
theorem dX3_copy_0 : decode cX3_copy 0 = .ok (.iload_n 1, 1) := by decide +kernel
theorem dX3_copy_1 : decode cX3_copy 1 = .ok (.invokestatic 48, 3) := by decide +kernel
theorem dX3_copy_4 : decode cX3_copy 4 = .ok (.iload_n 2, 1) := by decide +kernel
theorem dX3_copy_5 : decode cX3_copy 5 = .ok (.invokestatic 48, 3) := by decide +kernel
theorem dX3_copy_8 : decode cX3_copy 8 = .ok (.aload_n 0, 1) := by decide +kernel
theorem dX3_copy_9 : decode cX3_copy 9 = .ok (.getfield 13, 3) := by decide +kernel
theorem dX3_copy_12 : decode cX3_copy 12 = .ok (.iload_n 1, 1) := by decide +kernel
theorem dX3_copy_13 : decode cX3_copy 13 = .ok (.aaload, 1) := by decide +kernel
theorem dX3_copy_14 : decode cX3_copy 14 = .ok (.aload_n 0, 1) := by decide +kernel
theorem dX3_copy_15 : decode cX3_copy 15 = .ok (.getfield 13, 3) := by decide +kernel
theorem dX3_copy_18 : decode cX3_copy 18 = .ok (.iload_n 2, 1) := by decide +kernel
theorem dX3_copy_19 : decode cX3_copy 19 = .ok (.aaload, 1) := by decide +kernel
theorem dX3_copy_20 : decode cX3_copy 20 = .ok (.invokevirtual 67, 3) := by decide +kernel
theorem dX3_copy_23 : decode cX3_copy 23 = .ok (.return_, 1) := by decide +kernel
set_option maxRecDepth 20000 in
theorem ggX3_meet_X3_requireThreeSlots : GoodIn wsX3_meet wsX3_requireThreeSlots := goodIn_ca (goodIn_r _ [7, 8, 9, 6, 10, 11, 12] (by decide +kernel) (by decide +kernel)) (goodIn_sub (fun _ h => List.mem_cons_of_mem _ (List.mem_append_right _ h)) (by decide +kernel))
set_option maxRecDepth 20000 in
theorem gX3_meet_X3_requireThreeSlots : GoodIn wsX3_meet (va_wsS RX3 71 yX3_requireThreeSlots wsX3_requireThreeSlots) := goodIn_app (goodIn_of _ (by decide +kernel)) ggX3_meet_X3_requireThreeSlots
set_option maxRecDepth 20000 in
theorem ggX3_meet_X1_takeOver : GoodIn wsX3_meet wsX1_takeOver := goodIn_r _ [17, 18, 19, 20, 21, 22, 23, 24, 25, 26, 27, 28, 29, 142, 143, 144, 145, 146, 147] (by decide +kernel) (by decide +kernel)
set_option maxRecDepth 20000 in
theorem gX3_meet_X1_takeOver : GoodIn wsX3_meet (wsV RX3 67 RX1 yX1_takeOver wsX1_takeOver) := goodIn_app (goodIn_of _ (by decide +kernel)) ggX3_meet_X1_takeOver
set_option maxRecDepth 20000 in
theorem ggX3_meet_X1_cutTo : GoodIn wsX3_meet wsX1_cutTo := goodIn_r _ [33, 19, 18, 34, 35, 36, 23, 37, 38, 25, 39, 40, 41, 42, 43, 44, 45, 46, 16, 47, 48, 49, 50, 51, 52, 53, 54, 55, 56, 6, 57, 58, 59, 60, 61, 62, 63, 64, 65, 66, 67, 68, 69, 70, 71, 72, 73, 74, 75, 76, 77, 78, 79, 80, 81, 82, 83, 84, 85, 86, 87, 88, 89, 90, 142, 143, 144, 145, 146, 147] (by decide +kernel) (by decide +kernel)
set_option maxRecDepth 20000 in
theorem gX3_meet_X1_cutTo : GoodIn wsX3_meet (wsV RX3 75 RX1 yX1_cutTo wsX1_cutTo) := goodIn_app (goodIn_of _ (by decide +kernel)) ggX3_meet_X1_cutTo
set_option maxRecDepth 20000 in
theorem ggX3_meet_X3_putMade : GoodIn wsX3_meet wsX3_putMade := goodIn_r _ [94, 1, 2, 95, 96, 97, 6, 98, 3, 99, 100, 101, 102, 103, 104, 23, 105, 39, 25, 38, 55, 106, 107, 108, 109, 110, 111, 112, 113, 114, 115, 116, 117, 118, 119, 120, 121, 122, 123, 124, 125, 126, 127, 128, 129, 130, 27, 28, 29, 131, 132, 133, 134, 67, 87, 88, 89, 90, 13, 14, 15, 16, 17, 18, 19, 20, 21, 22, 24, 26, 135, 136, 137, 138, 139, 140, 141, 142, 143, 144, 145, 146, 147] (by decide +kernel) (by decide +kernel)
set_option maxRecDepth 20000 in
theorem gX3_meet_X3_putMade : GoodIn wsX3_meet (wsV RX3 60 RX3 yX3_putMade wsX3_putMade) := goodIn_app (goodIn_of _ (by decide +kernel)) ggX3_meet_X3_putMade
theorem dX3_meet_0 : decode cX3_meet 0 = .ok (.iload_n 1, 1) := by decide +kernel
theorem dX3_meet_1 : decode cX3_meet 1 = .ok (.iload_n 2, 1) := by decide +kernel
theorem dX3_meet_2 : decode cX3_meet 2 = .ok (.iload_n 3, 1) := by decide +kernel
theorem dX3_meet_3 : decode cX3_meet 3 = .ok (.invokestatic 71, 3) := by decide +kernel
theorem dX3_meet_6 : decode cX3_meet 6 = .ok (.aload_n 0, 1) := by decide +kernel
theorem dX3_meet_7 : decode cX3_meet 7 = .ok (.getfield 29, 3) := by decide +kernel
theorem dX3_meet_10 : decode cX3_meet 10 = .ok (.aload_n 0, 1) := by decide +kernel
theorem dX3_meet_11 : decode cX3_meet 11 = .ok (.getfield 13, 3) := by decide +kernel
theorem dX3_meet_14 : decode cX3_meet 14 = .ok (.iload_n 2, 1) := by decide +kernel
theorem dX3_meet_15 : decode cX3_meet 15 = .ok (.aaload, 1) := by decide +kernel
theorem dX3_meet_16 : decode cX3_meet 16 = .ok (.invokevirtual 67, 3) := by decide +kernel
theorem dX3_meet_19 : decode cX3_meet 19 = .ok (.aload_n 0, 1) := by decide +kernel
theorem dX3_meet_20 : decode cX3_meet 20 = .ok (.getfield 29, 3) := by decide +kernel
theorem dX3_meet_23 : decode cX3_meet 23 = .ok (.aload_n 0, 1) := by decide +kernel
theorem dX3_meet_24 : decode cX3_meet 24 = .ok (.getfield 13, 3) := by decide +kernel
theorem dX3_meet_27 : decode cX3_meet 27 = .ok (.iload_n 3, 1) := by decide +kernel
theorem dX3_meet_28 : decode cX3_meet 28 = .ok (.aaload, 1) := by decide +kernel
theorem dX3_meet_29 : decode cX3_meet 29 = .ok (.invokevirtual 75, 3) := by decide +kernel
theorem dX3_meet_32 : decode cX3_meet 32 = .ok (.aload_n 0, 1) := by decide +kernel
theorem dX3_meet_33 : decode cX3_meet 33 = .ok (.iload_n 1, 1) := by decide +kernel
theorem dX3_meet_34 : decode cX3_meet 34 = .ok (.invokevirtual 60, 3) := by decide +kernel
theorem dX3_meet_37 : decode cX3_meet 37 = .ok (.aload_n 0, 1) := by decide +kernel
theorem dX3_meet_38 : decode cX3_meet 38 = .ok (.getfield 13, 3) := by decide +kernel
theorem dX3_meet_41 : decode cX3_meet 41 = .ok (.iload_n 1, 1) := by decide +kernel
theorem dX3_meet_42 : decode cX3_meet 42 = .ok (.aaload, 1) := by decide +kernel
theorem dX3_meet_43 : decode cX3_meet 43 = .ok (.getfield 63, 3) := by decide +kernel
theorem dX3_meet_46 : decode cX3_meet 46 = .ok (.ifCond .ne 7, 3) := by decide +kernel
theorem dX3_meet_49 : decode cX3_meet 49 = .ok (.iconst 1, 1) := by decide +kernel
theorem dX3_meet_50 : decode cX3_meet 50 = .ok (.goto 4, 3) := by decide +kernel
theorem dX3_meet_53 : decode cX3_meet 53 = .ok (.iconst 0, 1) := by decide +kernel
theorem dX3_meet_54 : decode cX3_meet 54 = .ok (.ireturn, 1) := by decide +kernel
set_option maxRecDepth 20000 in
theorem ggX3_join_X3_requireThreeSlots : GoodIn wsX3_join wsX3_requireThreeSlots := goodIn_ca (goodIn_r _ [6, 7, 8, 5, 9, 10, 11] (by decide +kernel) (by decide +kernel)) (goodIn_sub (fun _ h => List.mem_cons_of_mem _ (List.mem_append_right _ h)) (by decide +kernel))
set_option maxRecDepth 20000 in
theorem gX3_join_X3_requireThreeSlots : GoodIn wsX3_join (va_wsS RX3 71 yX3_requireThreeSlots wsX3_requireThreeSlots) := goodIn_app (goodIn_of _ (by decide +kernel)) ggX3_join_X3_requireThreeSlots
set_option maxRecDepth 20000 in
theorem ggX3_join_X1_takeOver : GoodIn wsX3_join wsX1_takeOver := goodIn_r _ [16, 17, 18, 19, 20, 21, 22, 23, 24, 25, 26, 27, 28, 106, 107, 108, 109, 110, 111] (by decide +kernel) (by decide +kernel)
set_option maxRecDepth 20000 in
theorem gX3_join_X1_takeOver : GoodIn wsX3_join (wsV RX3 67 RX1 yX1_takeOver wsX1_takeOver) := goodIn_app (goodIn_of _ (by decide +kernel)) ggX3_join_X1_takeOver
set_option maxRecDepth 20000 in
theorem ggX3_join_X1_stretchOver : GoodIn wsX3_join wsX1_stretchOver := goodIn_r _ [32, 17, 33, 34, 35, 15, 36, 18, 37, 13, 14, 16, 19, 20, 21, 22, 23, 24, 25, 26, 27, 28, 38, 39, 40, 41, 42, 43, 44, 45, 46, 47, 106, 107, 108, 109, 110, 111] (by decide +kernel) (by decide +kernel)
set_option maxRecDepth 20000 in
theorem gX3_join_X1_stretchOver : GoodIn wsX3_join (wsV RX3 78 RX1 yX1_stretchOver wsX1_stretchOver) := goodIn_app (goodIn_of _ (by decide +kernel)) ggX3_join_X1_stretchOver
set_option maxRecDepth 20000 in
theorem ggX3_join_X3_putMade : GoodIn wsX3_join wsX3_putMade := goodIn_r _ [51, 1, 2, 52, 53, 54, 5, 55, 56, 57, 58, 59, 60, 61, 62, 22, 63, 43, 24, 42, 64, 65, 66, 67, 68, 69, 70, 71, 72, 73, 74, 75, 76, 77, 78, 79, 80, 81, 82, 83, 84, 85, 86, 87, 88, 89, 26, 27, 28, 90, 91, 92, 93, 94, 95, 96, 97, 98, 12, 13, 14, 15, 16, 17, 18, 19, 20, 21, 23, 25, 99, 100, 101, 102, 103, 104, 105, 106, 107, 108, 109, 110, 111] (by decide +kernel) (by decide +kernel)
set_option maxRecDepth 20000 in
theorem gX3_join_X3_putMade : GoodIn wsX3_join (wsV RX3 60 RX3 yX3_putMade wsX3_putMade) := goodIn_app (goodIn_of _ (by decide +kernel)) ggX3_join_X3_putMade
theorem dX3_join_0 : decode cX3_join 0 = .ok (.iload_n 1, 1) := by decide +kernel
theorem dX3_join_1 : decode cX3_join 1 = .ok (.iload_n 2, 1) := by decide +kernel
theorem dX3_join_2 : decode cX3_join 2 = .ok (.iload_n 3, 1) := by decide +kernel
theorem dX3_join_3 : decode cX3_join 3 = .ok (.invokestatic 71, 3) := by decide +kernel
theorem dX3_join_6 : decode cX3_join 6 = .ok (.aload_n 0, 1) := by decide +kernel
theorem dX3_join_7 : decode cX3_join 7 = .ok (.getfield 29, 3) := by decide +kernel
theorem dX3_join_10 : decode cX3_join 10 = .ok (.aload_n 0, 1) := by decide +kernel
theorem dX3_join_11 : decode cX3_join 11 = .ok (.getfield 13, 3) := by decide +kernel
theorem dX3_join_14 : decode cX3_join 14 = .ok (.iload_n 2, 1) := by decide +kernel
theorem dX3_join_15 : decode cX3_join 15 = .ok (.aaload, 1) := by decide +kernel
theorem dX3_join_16 : decode cX3_join 16 = .ok (.invokevirtual 67, 3) := by decide +kernel
theorem dX3_join_19 : decode cX3_join 19 = .ok (.aload_n 0, 1) := by decide +kernel
theorem dX3_join_20 : decode cX3_join 20 = .ok (.getfield 29, 3) := by decide +kernel
theorem dX3_join_23 : decode cX3_join 23 = .ok (.aload_n 0, 1) := by decide +kernel
theorem dX3_join_24 : decode cX3_join 24 = .ok (.getfield 13, 3) := by decide +kernel
theorem dX3_join_27 : decode cX3_join 27 = .ok (.iload_n 3, 1) := by decide +kernel
theorem dX3_join_28 : decode cX3_join 28 = .ok (.aaload, 1) := by decide +kernel
theorem dX3_join_29 : decode cX3_join 29 = .ok (.invokevirtual 78, 3) := by decide +kernel
theorem dX3_join_32 : decode cX3_join 32 = .ok (.aload_n 0, 1) := by decide +kernel
theorem dX3_join_33 : decode cX3_join 33 = .ok (.iload_n 1, 1) := by decide +kernel
theorem dX3_join_34 : decode cX3_join 34 = .ok (.invokevirtual 60, 3) := by decide +kernel
theorem dX3_join_37 : decode cX3_join 37 = .ok (.return_, 1) := by decide +kernel
set_option maxRecDepth 20000 in
theorem ggX3_widen_X3_requireThreeSlots : GoodIn wsX3_widen wsX3_requireThreeSlots := goodIn_ca (goodIn_r _ [6, 7, 8, 5, 9, 10, 11] (by decide +kernel) (by decide +kernel)) (goodIn_sub (fun _ h => List.mem_cons_of_mem _ (List.mem_append_right _ h)) (by decide +kernel))
set_option maxRecDepth 20000 in
theorem gX3_widen_X3_requireThreeSlots : GoodIn wsX3_widen (va_wsS RX3 71 yX3_requireThreeSlots wsX3_requireThreeSlots) := goodIn_app (goodIn_of _ (by decide +kernel)) ggX3_widen_X3_requireThreeSlots
set_option maxRecDepth 20000 in
theorem ggX3_widen_X1_takeOver : GoodIn wsX3_widen wsX1_takeOver := goodIn_r _ [16, 17, 18, 19, 20, 21, 22, 23, 24, 25, 26, 27, 28, 147, 148, 149, 150, 151, 152] (by decide +kernel) (by decide +kernel)
set_option maxRecDepth 20000 in
theorem gX3_widen_X1_takeOver : GoodIn wsX3_widen (wsV RX3 67 RX1 yX1_takeOver wsX1_takeOver) := goodIn_app (goodIn_of _ (by decide +kernel)) ggX3_widen_X1_takeOver
set_option maxRecDepth 20000 in
theorem ggX3_widen_X1_loosenBy : GoodIn wsX3_widen wsX1_loosenBy := goodIn_r _ [32, 17, 33, 34, 35, 15, 36, 18, 37, 13, 14, 16, 19, 20, 21, 22, 23, 24, 25, 26, 27, 28, 38, 39, 40, 41, 42, 43, 44, 45, 46, 47, 48, 49, 50, 51, 52, 53, 54, 55, 56, 57, 58, 59, 60, 5, 61, 62, 63, 64, 65, 66, 67, 68, 69, 70, 71, 72, 73, 74, 75, 76, 77, 78, 79, 80, 81, 82, 83, 84, 85, 86, 87, 88, 89, 90, 91, 92, 93, 94, 147, 148, 149, 150, 151, 152] (by decide +kernel) (by decide +kernel)
set_option maxRecDepth 20000 in
theorem gX3_widen_X1_loosenBy : GoodIn wsX3_widen (wsV RX3 81 RX1 yX1_loosenBy wsX1_loosenBy) := goodIn_app (goodIn_of _ (by decide +kernel)) ggX3_widen_X1_loosenBy
set_option maxRecDepth 20000 in
theorem ggX3_widen_X3_putMade : GoodIn wsX3_widen wsX3_putMade := goodIn_r _ [98, 1, 2, 99, 100, 101, 5, 102, 103, 104, 105, 106, 107, 108, 109, 22, 110, 43, 24, 42, 48, 111, 112, 113, 114, 115, 116, 117, 118, 119, 120, 121, 122, 123, 124, 125, 126, 127, 128, 129, 130, 131, 132, 133, 134, 135, 26, 27, 28, 136, 137, 138, 139, 71, 94, 45, 46, 47, 12, 13, 14, 15, 16, 17, 18, 19, 20, 21, 23, 25, 140, 141, 142, 143, 144, 145, 146, 147, 148, 149, 150, 151, 152] (by decide +kernel) (by decide +kernel)
set_option maxRecDepth 20000 in
theorem gX3_widen_X3_putMade : GoodIn wsX3_widen (wsV RX3 60 RX3 yX3_putMade wsX3_putMade) := goodIn_app (goodIn_of _ (by decide +kernel)) ggX3_widen_X3_putMade
theorem dX3_widen_0 : decode cX3_widen 0 = .ok (.iload_n 1, 1) := by decide +kernel
theorem dX3_widen_1 : decode cX3_widen 1 = .ok (.iload_n 2, 1) := by decide +kernel
theorem dX3_widen_2 : decode cX3_widen 2 = .ok (.iload_n 3, 1) := by decide +kernel
theorem dX3_widen_3 : decode cX3_widen 3 = .ok (.invokestatic 71, 3) := by decide +kernel
theorem dX3_widen_6 : decode cX3_widen 6 = .ok (.aload_n 0, 1) := by decide +kernel
theorem dX3_widen_7 : decode cX3_widen 7 = .ok (.getfield 29, 3) := by decide +kernel
theorem dX3_widen_10 : decode cX3_widen 10 = .ok (.aload_n 0, 1) := by decide +kernel
theorem dX3_widen_11 : decode cX3_widen 11 = .ok (.getfield 13, 3) := by decide +kernel
theorem dX3_widen_14 : decode cX3_widen 14 = .ok (.iload_n 2, 1) := by decide +kernel
theorem dX3_widen_15 : decode cX3_widen 15 = .ok (.aaload, 1) := by decide +kernel
theorem dX3_widen_16 : decode cX3_widen 16 = .ok (.invokevirtual 67, 3) := by decide +kernel
theorem dX3_widen_19 : decode cX3_widen 19 = .ok (.aload_n 0, 1) := by decide +kernel
theorem dX3_widen_20 : decode cX3_widen 20 = .ok (.getfield 29, 3) := by decide +kernel
theorem dX3_widen_23 : decode cX3_widen 23 = .ok (.aload_n 0, 1) := by decide +kernel
theorem dX3_widen_24 : decode cX3_widen 24 = .ok (.getfield 13, 3) := by decide +kernel
theorem dX3_widen_27 : decode cX3_widen 27 = .ok (.iload_n 3, 1) := by decide +kernel
theorem dX3_widen_28 : decode cX3_widen 28 = .ok (.aaload, 1) := by decide +kernel
theorem dX3_widen_29 : decode cX3_widen 29 = .ok (.invokevirtual 81, 3) := by decide +kernel
theorem dX3_widen_32 : decode cX3_widen 32 = .ok (.aload_n 0, 1) := by decide +kernel
theorem dX3_widen_33 : decode cX3_widen 33 = .ok (.iload_n 1, 1) := by decide +kernel
theorem dX3_widen_34 : decode cX3_widen 34 = .ok (.invokevirtual 60, 3) := by decide +kernel
theorem dX3_widen_37 : decode cX3_widen 37 = .ok (.return_, 1) := by decide +kernel
set_option maxRecDepth 20000 in
theorem ggX3_forget_X3_requireSlot : GoodIn wsX3_forget wsX3_requireSlot := goodIn_ca (goodIn_r _ [5, 6, 7] (by decide +kernel) (by decide +kernel)) (goodIn_sub (fun _ h => List.mem_cons_of_mem _ (List.mem_append_right _ h)) (by decide +kernel))
set_option maxRecDepth 20000 in
theorem gX3_forget_X3_requireSlot : GoodIn wsX3_forget (va_wsS RX3 48 yX3_requireSlot wsX3_requireSlot) := goodIn_app (goodIn_of _ (by decide +kernel)) ggX3_forget_X3_requireSlot
set_option maxRecDepth 20000 in
theorem ggX3_forget_X3_requireVariable : GoodIn wsX3_forget wsX3_requireVariable := goodIn_ca (goodIn_r _ [10, 6, 7] (by decide +kernel) (by decide +kernel)) (goodIn_sub (fun _ h => List.mem_cons_of_mem _ (List.mem_append_right _ h)) (by decide +kernel))
set_option maxRecDepth 20000 in
theorem gX3_forget_X3_requireVariable : GoodIn wsX3_forget (va_wsS RX3 84 yX3_requireVariable wsX3_requireVariable) := goodIn_app (goodIn_of _ (by decide +kernel)) ggX3_forget_X3_requireVariable
set_option maxRecDepth 20000 in
theorem ggX3_forget_X1_release : GoodIn wsX3_forget wsX1_release := goodIn_r _ [15, 16, 17, 18, 14, 19, 20, 21, 22, 23, 24, 25, 26, 27, 28, 29, 30, 31, 32, 33, 41, 42, 43, 44, 45, 46] (by decide +kernel) (by decide +kernel)
set_option maxRecDepth 20000 in
theorem gX3_forget_X1_release : GoodIn wsX3_forget (wsV RX3 87 RX1 yX1_release wsX1_release) := goodIn_app (goodIn_of _ (by decide +kernel)) ggX3_forget_X1_release
theorem dX3_forget_0 : decode cX3_forget 0 = .ok (.iload_n 1, 1) := by decide +kernel
theorem dX3_forget_1 : decode cX3_forget 1 = .ok (.invokestatic 48, 3) := by decide +kernel
theorem dX3_forget_4 : decode cX3_forget 4 = .ok (.iload_n 2, 1) := by decide +kernel
theorem dX3_forget_5 : decode cX3_forget 5 = .ok (.invokestatic 84, 3) := by decide +kernel
theorem dX3_forget_8 : decode cX3_forget 8 = .ok (.aload_n 0, 1) := by decide +kernel
theorem dX3_forget_9 : decode cX3_forget 9 = .ok (.getfield 13, 3) := by decide +kernel
theorem dX3_forget_12 : decode cX3_forget 12 = .ok (.iload_n 1, 1) := by decide +kernel
theorem dX3_forget_13 : decode cX3_forget 13 = .ok (.aaload, 1) := by decide +kernel
theorem dX3_forget_14 : decode cX3_forget 14 = .ok (.iload_n 2, 1) := by decide +kernel
theorem dX3_forget_15 : decode cX3_forget 15 = .ok (.invokevirtual 87, 3) := by decide +kernel
theorem dX3_forget_18 : decode cX3_forget 18 = .ok (.return_, 1) := by decide +kernel
set_option maxRecDepth 20000 in
theorem ggX3_isEmpty_X3_requireSlot : GoodIn wsX3_isEmpty wsX3_requireSlot := goodIn_ca (goodIn_r _ [6, 7, 8] (by decide +kernel) (by decide +kernel)) (goodIn_sub (fun _ h => List.mem_cons_of_mem _ (List.mem_append_right _ h)) (by decide +kernel))
set_option maxRecDepth 20000 in
theorem gX3_isEmpty_X3_requireSlot : GoodIn wsX3_isEmpty (va_wsS RX3 48 yX3_requireSlot wsX3_requireSlot) := goodIn_app (goodIn_of _ (by decide +kernel)) ggX3_isEmpty_X3_requireSlot
theorem dX3_isEmpty_0 : decode cX3_isEmpty 0 = .ok (.iload_n 1, 1) := by decide +kernel
theorem dX3_isEmpty_1 : decode cX3_isEmpty 1 = .ok (.invokestatic 48, 3) := by decide +kernel
theorem dX3_isEmpty_4 : decode cX3_isEmpty 4 = .ok (.aload_n 0, 1) := by decide +kernel
theorem dX3_isEmpty_5 : decode cX3_isEmpty 5 = .ok (.getfield 13, 3) := by decide +kernel
theorem dX3_isEmpty_8 : decode cX3_isEmpty 8 = .ok (.iload_n 1, 1) := by decide +kernel
theorem dX3_isEmpty_9 : decode cX3_isEmpty 9 = .ok (.aaload, 1) := by decide +kernel
theorem dX3_isEmpty_10 : decode cX3_isEmpty 10 = .ok (.getfield 63, 3) := by decide +kernel
theorem dX3_isEmpty_13 : decode cX3_isEmpty 13 = .ok (.ireturn, 1) := by decide +kernel
set_option maxRecDepth 20000 in
theorem ggX3_most_X3_requireSlot : GoodIn wsX3_most wsX3_requireSlot := goodIn_ca (goodIn_r _ [5, 6, 7] (by decide +kernel) (by decide +kernel)) (goodIn_sub (fun _ h => List.mem_cons_of_mem _ (List.mem_append_left _ (List.mem_append_right _ h))) (by decide +kernel))
set_option maxRecDepth 20000 in
theorem gX3_most_X3_requireSlot : GoodIn wsX3_most (va_wsS RX3 48 yX3_requireSlot wsX3_requireSlot) := goodIn_app (goodIn_of _ (by decide +kernel)) ggX3_most_X3_requireSlot
set_option maxRecDepth 20000 in
theorem ggX3_most_X3_requireTerms : GoodIn wsX3_most wsX3_requireTerms := goodIn_ca (goodIn_r _ [10, 6, 7, 11, 12, 4, 13, 14, 15, 16] (by decide +kernel) (by decide +kernel)) (goodIn_sub (fun _ h => List.mem_cons_of_mem _ (List.mem_append_left _ (List.mem_append_right _ h))) (by decide +kernel))
set_option maxRecDepth 20000 in
theorem gX3_most_X3_requireTerms : GoodIn wsX3_most (va_wsS RX3 90 yX3_requireTerms wsX3_requireTerms) := goodIn_app (goodIn_of _ (by decide +kernel)) ggX3_most_X3_requireTerms
set_option maxRecDepth 20000 in
theorem ggX3_most_X3_requirePlace : GoodIn wsX3_most wsX3_requirePlace := goodIn_ca (goodIn_r _ [20, 21, 22, 1, 23, 57, 58, 59, 60, 61, 62, 63, 64, 65] (by decide +kernel) (by decide +kernel)) (goodIn_sub (fun _ h => List.mem_cons_of_mem _ (List.mem_append_right _ h)) (by decide +kernel))
set_option maxRecDepth 20000 in
theorem gX3_most_X3_requirePlace : GoodIn wsX3_most (wsV RX3 94 RX3 yX3_requirePlace wsX3_requirePlace) := goodIn_app (goodIn_of _ (by decide +kernel)) ggX3_most_X3_requirePlace
set_option maxRecDepth 20000 in
theorem ggX3_most_X1_mostOf : GoodIn wsX3_most wsX1_mostOf := goodIn_r _ [28, 29, 30, 31, 27, 32, 33, 34, 35, 36, 37, 38, 39, 40, 41, 42, 43, 44, 45, 46, 47, 48, 49, 50, 51, 52, 53, 54, 55, 56, 64, 65, 66, 67, 68, 69] (by decide +kernel) (by decide +kernel)
set_option maxRecDepth 20000 in
theorem gX3_most_X1_mostOf : GoodIn wsX3_most (wsV RX3 97 RX1 yX1_mostOf wsX1_mostOf) := goodIn_app (goodIn_of _ (by decide +kernel)) ggX3_most_X1_mostOf
theorem dX3_most_0 : decode cX3_most 0 = .ok (.iload_n 1, 1) := by decide +kernel
theorem dX3_most_1 : decode cX3_most 1 = .ok (.invokestatic 48, 3) := by decide +kernel
theorem dX3_most_4 : decode cX3_most 4 = .ok (.iload_n 2, 1) := by decide +kernel
theorem dX3_most_5 : decode cX3_most 5 = .ok (.iload_n 3, 1) := by decide +kernel
theorem dX3_most_6 : decode cX3_most 6 = .ok (.invokestatic 90, 3) := by decide +kernel
theorem dX3_most_9 : decode cX3_most 9 = .ok (.aload_n 0, 1) := by decide +kernel
theorem dX3_most_10 : decode cX3_most 10 = .ok (.iload_n 1, 1) := by decide +kernel
theorem dX3_most_11 : decode cX3_most 11 = .ok (.invokevirtual 94, 3) := by decide +kernel
theorem dX3_most_14 : decode cX3_most 14 = .ok (.aload_n 0, 1) := by decide +kernel
theorem dX3_most_15 : decode cX3_most 15 = .ok (.getfield 13, 3) := by decide +kernel
theorem dX3_most_18 : decode cX3_most 18 = .ok (.iload_n 1, 1) := by decide +kernel
theorem dX3_most_19 : decode cX3_most 19 = .ok (.aaload, 1) := by decide +kernel
theorem dX3_most_20 : decode cX3_most 20 = .ok (.iload_n 2, 1) := by decide +kernel
theorem dX3_most_21 : decode cX3_most 21 = .ok (.iload_n 3, 1) := by decide +kernel
theorem dX3_most_22 : decode cX3_most 22 = .ok (.invokevirtual 97, 3) := by decide +kernel
theorem dX3_most_25 : decode cX3_most 25 = .ok (.lreturn, 1) := by decide +kernel
set_option maxRecDepth 20000 in
theorem ggX3_inside_X3_requireSlot : GoodIn wsX3_inside wsX3_requireSlot := goodIn_ca (goodIn_r _ [5, 6, 7] (by decide +kernel) (by decide +kernel)) (goodIn_sub (fun _ h => List.mem_cons_of_mem _ (List.mem_append_right _ h)) (by decide +kernel))
set_option maxRecDepth 20000 in
theorem gX3_inside_X3_requireSlot : GoodIn wsX3_inside (va_wsS RX3 48 yX3_requireSlot wsX3_requireSlot) := goodIn_app (goodIn_of _ (by decide +kernel)) ggX3_inside_X3_requireSlot
set_option maxRecDepth 20000 in
theorem ggX3_inside_X1_isWithin : GoodIn wsX3_inside wsX1_isWithin := goodIn_r _ [12, 13, 14, 15, 16, 17, 18, 19, 20, 21, 22, 30, 31, 32, 33, 34, 35] (by decide +kernel) (by decide +kernel)
set_option maxRecDepth 20000 in
theorem gX3_inside_X1_isWithin : GoodIn wsX3_inside (wsV RX3 101 RX1 yX1_isWithin wsX1_isWithin) := goodIn_app (goodIn_of _ (by decide +kernel)) ggX3_inside_X1_isWithin
theorem dX3_inside_0 : decode cX3_inside 0 = .ok (.iload_n 1, 1) := by decide +kernel
theorem dX3_inside_1 : decode cX3_inside 1 = .ok (.invokestatic 48, 3) := by decide +kernel
theorem dX3_inside_4 : decode cX3_inside 4 = .ok (.iload_n 2, 1) := by decide +kernel
theorem dX3_inside_5 : decode cX3_inside 5 = .ok (.invokestatic 48, 3) := by decide +kernel
theorem dX3_inside_8 : decode cX3_inside 8 = .ok (.aload_n 0, 1) := by decide +kernel
theorem dX3_inside_9 : decode cX3_inside 9 = .ok (.getfield 13, 3) := by decide +kernel
theorem dX3_inside_12 : decode cX3_inside 12 = .ok (.iload_n 1, 1) := by decide +kernel
theorem dX3_inside_13 : decode cX3_inside 13 = .ok (.aaload, 1) := by decide +kernel
theorem dX3_inside_14 : decode cX3_inside 14 = .ok (.aload_n 0, 1) := by decide +kernel
theorem dX3_inside_15 : decode cX3_inside 15 = .ok (.getfield 13, 3) := by decide +kernel
theorem dX3_inside_18 : decode cX3_inside 18 = .ok (.iload_n 2, 1) := by decide +kernel
theorem dX3_inside_19 : decode cX3_inside 19 = .ok (.aaload, 1) := by decide +kernel
theorem dX3_inside_20 : decode cX3_inside 20 = .ok (.invokevirtual 101, 3) := by decide +kernel
theorem dX3_inside_23 : decode cX3_inside 23 = .ok (.ireturn, 1) := by decide +kernel
set_option maxRecDepth 20000 in
theorem ggX3_bounds_X3_requireSlot : GoodIn wsX3_bounds wsX3_requireSlot := goodIn_ca (goodIn_r _ [6, 7, 8] (by decide +kernel) (by decide +kernel)) (goodIn_sub (fun _ h => List.mem_cons_of_mem _ (List.mem_append_right _ h)) (by decide +kernel))
set_option maxRecDepth 20000 in
theorem gX3_bounds_X3_requireSlot : GoodIn wsX3_bounds (va_wsS RX3 48 yX3_requireSlot wsX3_requireSlot) := goodIn_app (goodIn_of _ (by decide +kernel)) ggX3_bounds_X3_requireSlot
set_option maxRecDepth 20000 in
theorem ggX3_bounds_X1_countBounds : GoodIn wsX3_bounds wsX1_countBounds := goodIn_r _ [13, 14, 15, 5, 16, 17, 18, 12, 19, 20, 21, 22, 23, 24, 25, 26, 27, 35, 36, 37, 38, 39, 40] (by decide +kernel) (by decide +kernel)
set_option maxRecDepth 20000 in
theorem gX3_bounds_X1_countBounds : GoodIn wsX3_bounds (wsV RX3 105 RX1 yX1_countBounds wsX1_countBounds) := goodIn_app (goodIn_of _ (by decide +kernel)) ggX3_bounds_X1_countBounds
theorem dX3_bounds_0 : decode cX3_bounds 0 = .ok (.iload_n 1, 1) := by decide +kernel
theorem dX3_bounds_1 : decode cX3_bounds 1 = .ok (.invokestatic 48, 3) := by decide +kernel
theorem dX3_bounds_4 : decode cX3_bounds 4 = .ok (.aload_n 0, 1) := by decide +kernel
theorem dX3_bounds_5 : decode cX3_bounds 5 = .ok (.getfield 13, 3) := by decide +kernel
theorem dX3_bounds_8 : decode cX3_bounds 8 = .ok (.iload_n 1, 1) := by decide +kernel
theorem dX3_bounds_9 : decode cX3_bounds 9 = .ok (.aaload, 1) := by decide +kernel
theorem dX3_bounds_10 : decode cX3_bounds 10 = .ok (.getfield 63, 3) := by decide +kernel
theorem dX3_bounds_13 : decode cX3_bounds 13 = .ok (.ifCond .eq 7, 3) := by decide +kernel
theorem dX3_bounds_16 : decode cX3_bounds 16 = .ok (.iconst (-1), 1) := by decide +kernel
theorem dX3_bounds_17 : decode cX3_bounds 17 = .ok (.goto 12, 3) := by decide +kernel
theorem dX3_bounds_20 : decode cX3_bounds 20 = .ok (.aload_n 0, 1) := by decide +kernel
theorem dX3_bounds_21 : decode cX3_bounds 21 = .ok (.getfield 13, 3) := by decide +kernel
theorem dX3_bounds_24 : decode cX3_bounds 24 = .ok (.iload_n 1, 1) := by decide +kernel
theorem dX3_bounds_25 : decode cX3_bounds 25 = .ok (.aaload, 1) := by decide +kernel
theorem dX3_bounds_26 : decode cX3_bounds 26 = .ok (.invokevirtual 105, 3) := by decide +kernel
theorem dX3_bounds_29 : decode cX3_bounds 29 = .ok (.ireturn, 1) := by decide +kernel
set_option maxRecDepth 20000 in
theorem ggX3_first_X3_requireSlot : GoodIn wsX3_first wsX3_requireSlot := goodIn_ca (goodIn_r _ [6, 7, 8] (by decide +kernel) (by decide +kernel)) (goodIn_sub (fun _ h => List.mem_cons_of_mem _ (List.mem_append_left _ (List.mem_append_right _ h))) (by decide +kernel))
set_option maxRecDepth 20000 in
theorem gX3_first_X3_requireSlot : GoodIn wsX3_first (va_wsS RX3 48 yX3_requireSlot wsX3_requireSlot) := goodIn_app (goodIn_of _ (by decide +kernel)) ggX3_first_X3_requireSlot
set_option maxRecDepth 20000 in
theorem ggX3_first_X3_requireVariable : GoodIn wsX3_first wsX3_requireVariable := goodIn_ca (goodIn_r _ [11, 7, 8] (by decide +kernel) (by decide +kernel)) (goodIn_sub (fun _ h => List.mem_cons_of_mem _ (List.mem_append_left _ (List.mem_append_right _ h))) (by decide +kernel))
set_option maxRecDepth 20000 in
theorem gX3_first_X3_requireVariable : GoodIn wsX3_first (va_wsS RX3 84 yX3_requireVariable wsX3_requireVariable) := goodIn_app (goodIn_of _ (by decide +kernel)) ggX3_first_X3_requireVariable
set_option maxRecDepth 20000 in
theorem ggX3_first_X3_requirePlace : GoodIn wsX3_first wsX3_requirePlace := goodIn_ca (goodIn_r _ [15, 16, 17, 2, 18, 161, 162, 163, 164, 165, 166, 167, 168, 169] (by decide +kernel) (by decide +kernel)) (goodIn_sub (fun _ h => List.mem_cons_of_mem _ (List.mem_append_right _ h)) (by decide +kernel))
set_option maxRecDepth 20000 in
theorem gX3_first_X3_requirePlace : GoodIn wsX3_first (wsV RX3 94 RX3 yX3_requirePlace wsX3_requirePlace) := goodIn_app (goodIn_of _ (by decide +kernel)) ggX3_first_X3_requirePlace
set_option maxRecDepth 20000 in
theorem ggX3_first_X1_takeOver : GoodIn wsX3_first wsX1_takeOver := goodIn_r _ [23, 24, 25, 26, 27, 28, 29, 30, 31, 32, 33, 34, 35, 168, 169, 170, 171, 172, 173] (by decide +kernel) (by decide +kernel)
set_option maxRecDepth 20000 in
theorem gX3_first_X1_takeOver : GoodIn wsX3_first (wsV RX3 67 RX1 yX1_takeOver wsX1_takeOver) := goodIn_app (goodIn_of _ (by decide +kernel)) ggX3_first_X1_takeOver
set_option maxRecDepth 20000 in
theorem ggX3_first_X1_settle : GoodIn wsX3_first wsX1_settle := goodIn_r _ [39, 24, 40, 41, 22, 42, 43, 44, 45, 29, 46, 31, 47, 48, 49, 50, 51, 52, 53, 54, 55, 56, 57, 58, 25, 59, 60, 61, 62, 63, 64, 65, 66, 67, 68, 69, 70, 71, 5, 72, 73, 74, 75, 76, 77, 78, 79, 80, 81, 82, 83, 84, 85, 86, 87, 88, 89, 90, 91, 92, 93, 94, 95, 96, 97, 98, 99, 100, 101, 102, 103, 104, 105, 106, 107, 108, 109, 168, 169, 170, 171, 172, 173] (by decide +kernel) (by decide +kernel)
set_option maxRecDepth 20000 in
theorem gX3_first_X1_settle : GoodIn wsX3_first (wsV RX3 109 RX1 yX1_settle wsX1_settle) := goodIn_app (goodIn_of _ (by decide +kernel)) ggX3_first_X1_settle
set_option maxRecDepth 20000 in
theorem ggX3_first_X3_makeRoom : GoodIn wsX3_first wsX3_makeRoom := goodIn_r _ [113, 18, 114, 2, 115, 116, 1, 117, 118, 119, 29, 120, 54, 31, 47, 48, 121, 122, 123, 124, 5, 125, 126, 127, 128, 129, 130, 131, 132, 133, 134, 135, 136, 137, 138, 139, 140, 141, 142, 143, 144, 145, 33, 34, 35, 146, 147, 148, 149, 53, 98, 99, 100, 101, 168, 169, 161, 162, 163, 164, 165, 166, 167, 170, 171, 172, 173] (by decide +kernel) (by decide +kernel)
set_option maxRecDepth 20000 in
theorem gX3_first_X3_makeRoom : GoodIn wsX3_first (wsV RX3 112 RX3 yX3_makeRoom wsX3_makeRoom) := goodIn_app (goodIn_of _ (by decide +kernel)) ggX3_first_X3_makeRoom
set_option maxRecDepth 20000 in
theorem ggX3_first_X1_mostOf : GoodIn wsX3_first wsX1_mostOf := goodIn_r _ [153, 24, 40, 41, 22, 42, 154, 155, 156, 29, 157, 31, 47, 48, 54, 158, 159, 160, 93, 94, 95, 96, 97, 44, 45, 46, 98, 99, 100, 101, 168, 169, 170, 171, 172, 173] (by decide +kernel) (by decide +kernel)
set_option maxRecDepth 20000 in
theorem gX3_first_X1_mostOf : GoodIn wsX3_first (wsV RX3 97 RX1 yX1_mostOf wsX1_mostOf) := goodIn_app (goodIn_of _ (by decide +kernel)) ggX3_first_X1_mostOf
theorem dX3_first_0 : decode cX3_first 0 = .ok (.iload_n 1, 1) := by decide +kernel
theorem dX3_first_1 : decode cX3_first 1 = .ok (.invokestatic 48, 3) := by decide +kernel
theorem dX3_first_4 : decode cX3_first 4 = .ok (.iload_n 2, 1) := by decide +kernel
theorem dX3_first_5 : decode cX3_first 5 = .ok (.invokestatic 84, 3) := by decide +kernel
theorem dX3_first_8 : decode cX3_first 8 = .ok (.aload_n 0, 1) := by decide +kernel
theorem dX3_first_9 : decode cX3_first 9 = .ok (.iload_n 1, 1) := by decide +kernel
theorem dX3_first_10 : decode cX3_first 10 = .ok (.invokevirtual 94, 3) := by decide +kernel
theorem dX3_first_13 : decode cX3_first 13 = .ok (.aload_n 0, 1) := by decide +kernel
theorem dX3_first_14 : decode cX3_first 14 = .ok (.getfield 29, 3) := by decide +kernel
theorem dX3_first_17 : decode cX3_first 17 = .ok (.aload_n 0, 1) := by decide +kernel
theorem dX3_first_18 : decode cX3_first 18 = .ok (.getfield 13, 3) := by decide +kernel
theorem dX3_first_21 : decode cX3_first 21 = .ok (.iload_n 1, 1) := by decide +kernel
theorem dX3_first_22 : decode cX3_first 22 = .ok (.aaload, 1) := by decide +kernel
theorem dX3_first_23 : decode cX3_first 23 = .ok (.invokevirtual 67, 3) := by decide +kernel
theorem dX3_first_26 : decode cX3_first 26 = .ok (.iconst 0, 1) := by decide +kernel
theorem dX3_first_27 : decode cX3_first 27 = .ok (.istore_n 3, 1) := by decide +kernel
theorem dX3_first_28 : decode cX3_first 28 = .ok (.iload_n 3, 1) := by decide +kernel
theorem dX3_first_29 : decode cX3_first 29 = .ok (.iload_n 2, 1) := by decide +kernel
theorem dX3_first_30 : decode cX3_first 30 = .ok (.if_icmp .gt 25, 3) := by decide +kernel
theorem dX3_first_33 : decode cX3_first 33 = .ok (.aload_n 0, 1) := by decide +kernel
theorem dX3_first_34 : decode cX3_first 34 = .ok (.getfield 29, 3) := by decide +kernel
theorem dX3_first_37 : decode cX3_first 37 = .ok (.iload_n 3, 1) := by decide +kernel
theorem dX3_first_38 : decode cX3_first 38 = .ok (.invokevirtual 109, 3) := by decide +kernel
theorem dX3_first_41 : decode cX3_first 41 = .ok (.aload_n 0, 1) := by decide +kernel
theorem dX3_first_42 : decode cX3_first 42 = .ok (.aload_n 0, 1) := by decide +kernel
theorem dX3_first_43 : decode cX3_first 43 = .ok (.getfield 29, 3) := by decide +kernel
theorem dX3_first_46 : decode cX3_first 46 = .ok (.invokevirtual 112, 3) := by decide +kernel
theorem dX3_first_49 : decode cX3_first 49 = .ok (.iinc 3 1, 3) := by decide +kernel
theorem dX3_first_52 : decode cX3_first 52 = .ok (.goto (-24), 3) := by decide +kernel
theorem dX3_first_55 : decode cX3_first 55 = .ok (.aload_n 0, 1) := by decide +kernel
theorem dX3_first_56 : decode cX3_first 56 = .ok (.getfield 29, 3) := by decide +kernel
theorem dX3_first_59 : decode cX3_first 59 = .ok (.iconst 2, 1) := by decide +kernel
theorem dX3_first_60 : decode cX3_first 60 = .ok (.iload_n 2, 1) := by decide +kernel
theorem dX3_first_61 : decode cX3_first 61 = .ok (.imul, 1) := by decide +kernel
theorem dX3_first_62 : decode cX3_first 62 = .ok (.iconst 2, 1) := by decide +kernel
theorem dX3_first_63 : decode cX3_first 63 = .ok (.iload_n 2, 1) := by decide +kernel
theorem dX3_first_64 : decode cX3_first 64 = .ok (.imul, 1) := by decide +kernel
theorem dX3_first_65 : decode cX3_first 65 = .ok (.invokevirtual 97, 3) := by decide +kernel
theorem dX3_first_68 : decode cX3_first 68 = .ok (.lreturn, 1) := by decide +kernel
set_option maxRecDepth 20000 in
theorem ggX3_places_X3_requireSlot : GoodIn wsX3_places wsX3_requireSlot := goodIn_ca (goodIn_r _ [7, 8, 9] (by decide +kernel) (by decide +kernel)) (goodIn_sub (fun _ h => List.mem_cons_of_mem _ (List.mem_append_right _ h)) (by decide +kernel))
set_option maxRecDepth 20000 in
theorem gX3_places_X3_requireSlot : GoodIn wsX3_places (va_wsS RX3 48 yX3_requireSlot wsX3_requireSlot) := goodIn_app (goodIn_of _ (by decide +kernel)) ggX3_places_X3_requireSlot
set_option maxRecDepth 20000 in
theorem ggX3_places_X1_takeOver : GoodIn wsX3_places wsX1_takeOver := goodIn_r _ [14, 15, 16, 17, 18, 19, 20, 21, 22, 23, 24, 25, 26, 94, 95, 96, 97, 98, 99] (by decide +kernel) (by decide +kernel)
set_option maxRecDepth 20000 in
theorem gX3_places_X1_takeOver : GoodIn wsX3_places (wsV RX3 67 RX1 yX1_takeOver wsX1_takeOver) := goodIn_app (goodIn_of _ (by decide +kernel)) ggX3_places_X1_takeOver
set_option maxRecDepth 20000 in
theorem ggX3_places_X1_shiftToLeast : GoodIn wsX3_places wsX1_shiftToLeast := goodIn_r _ [30, 15, 31, 32, 13, 33, 34, 35, 36, 20, 37, 22, 38, 39, 40, 41, 42, 43, 44, 45, 46, 47, 48, 49, 50, 51, 52, 53, 54, 55, 56, 57, 58, 94, 95, 96, 97, 98, 99] (by decide +kernel) (by decide +kernel)
set_option maxRecDepth 20000 in
theorem gX3_places_X1_shiftToLeast : GoodIn wsX3_places (wsV RX3 115 RX1 yX1_shiftToLeast wsX1_shiftToLeast) := goodIn_app (goodIn_of _ (by decide +kernel)) ggX3_places_X1_shiftToLeast
set_option maxRecDepth 20000 in
theorem ggX3_places_X3_madeFitsTheBox : GoodIn wsX3_places wsX3_madeFitsTheBox := goodIn_r _ [62, 3, 63, 64, 65, 66, 13, 67, 15, 31, 32, 33, 68, 69, 70, 20, 71, 22, 38, 39, 44, 72, 73, 74, 40, 41, 42, 43, 45, 35, 36, 37, 46, 47, 48, 49, 87, 88, 89, 90, 91, 92, 93, 94, 95, 96, 97, 98, 99] (by decide +kernel) (by decide +kernel)
set_option maxRecDepth 20000 in
theorem gX3_places_X3_madeFitsTheBox : GoodIn wsX3_places (wsV RX3 119 RX3 yX3_madeFitsTheBox wsX3_madeFitsTheBox) := goodIn_app (goodIn_of _ (by decide +kernel)) ggX3_places_X3_madeFitsTheBox
set_option maxRecDepth 20000 in
theorem ggX3_places_X3_countFrom : GoodIn wsX3_places wsX3_countFrom := goodIn_r _ [78, 3, 79, 80, 81, 82, 83, 84, 85, 86, 64, 65, 66, 13, 67, 15, 31, 32, 33, 68, 69, 70, 20, 71, 22, 38, 39, 44, 72, 73, 74, 40, 41, 42, 43, 45, 35, 36, 37, 46, 47, 48, 49, 75, 76, 77, 6, 87, 88, 89, 90, 91, 92, 93, 94, 95, 96, 97, 98, 99] (by decide +kernel) (by decide +kernel)
set_option maxRecDepth 20000 in
theorem gX3_places_X3_countFrom : GoodIn wsX3_places (wsV RX3 122 RX3 yX3_countFrom wsX3_countFrom) := goodIn_app (goodIn_of _ (by decide +kernel)) ggX3_places_X3_countFrom
theorem dX3_places_0 : decode cX3_places 0 = .ok (.iload_n 1, 1) := by decide +kernel
theorem dX3_places_1 : decode cX3_places 1 = .ok (.invokestatic 48, 3) := by decide +kernel
theorem dX3_places_4 : decode cX3_places 4 = .ok (.aload_n 0, 1) := by decide +kernel
theorem dX3_places_5 : decode cX3_places 5 = .ok (.getfield 13, 3) := by decide +kernel
theorem dX3_places_8 : decode cX3_places 8 = .ok (.iload_n 1, 1) := by decide +kernel
theorem dX3_places_9 : decode cX3_places 9 = .ok (.aaload, 1) := by decide +kernel
theorem dX3_places_10 : decode cX3_places 10 = .ok (.getfield 63, 3) := by decide +kernel
theorem dX3_places_13 : decode cX3_places 13 = .ok (.ifCond .eq 5, 3) := by decide +kernel
theorem dX3_places_16 : decode cX3_places 16 = .ok (.iconst 0, 1) := by decide +kernel
theorem dX3_places_17 : decode cX3_places 17 = .ok (.ireturn, 1) := by decide +kernel
theorem dX3_places_18 : decode cX3_places 18 = .ok (.aload_n 0, 1) := by decide +kernel
theorem dX3_places_19 : decode cX3_places 19 = .ok (.getfield 29, 3) := by decide +kernel
theorem dX3_places_22 : decode cX3_places 22 = .ok (.aload_n 0, 1) := by decide +kernel
theorem dX3_places_23 : decode cX3_places 23 = .ok (.getfield 13, 3) := by decide +kernel
theorem dX3_places_26 : decode cX3_places 26 = .ok (.iload_n 1, 1) := by decide +kernel
theorem dX3_places_27 : decode cX3_places 27 = .ok (.aaload, 1) := by decide +kernel
theorem dX3_places_28 : decode cX3_places 28 = .ok (.invokevirtual 67, 3) := by decide +kernel
theorem dX3_places_31 : decode cX3_places 31 = .ok (.aload_n 0, 1) := by decide +kernel
theorem dX3_places_32 : decode cX3_places 32 = .ok (.getfield 29, 3) := by decide +kernel
theorem dX3_places_35 : decode cX3_places 35 = .ok (.invokevirtual 115, 3) := by decide +kernel
theorem dX3_places_38 : decode cX3_places 38 = .ok (.ifCond .eq 10, 3) := by decide +kernel
theorem dX3_places_41 : decode cX3_places 41 = .ok (.aload_n 0, 1) := by decide +kernel
theorem dX3_places_42 : decode cX3_places 42 = .ok (.invokevirtual 119, 3) := by decide +kernel
theorem dX3_places_45 : decode cX3_places 45 = .ok (.ifCond .ne 5, 3) := by decide +kernel
theorem dX3_places_48 : decode cX3_places 48 = .ok (.iconst (-1), 1) := by decide +kernel
theorem dX3_places_49 : decode cX3_places 49 = .ok (.ireturn, 1) := by decide +kernel
theorem dX3_places_50 : decode cX3_places 50 = .ok (.aload_n 0, 1) := by decide +kernel
theorem dX3_places_51 : decode cX3_places 51 = .ok (.iconst 0, 1) := by decide +kernel
theorem dX3_places_52 : decode cX3_places 52 = .ok (.invokevirtual 122, 3) := by decide +kernel
theorem dX3_places_55 : decode cX3_places 55 = .ok (.ireturn, 1) := by decide +kernel
set_option maxRecDepth 20000 in
theorem ggX3_step_X3_requireAction : GoodIn wsX3_step wsX3_requireAction := goodIn_ca (goodIn_r _ [10, 1, 2, 11, 12, 9, 13, 14, 15, 16, 17, 18, 19, 20, 21, 22, 23, 24, 25, 26, 27] (by decide +kernel) (by decide +kernel)) (goodIn_sub (fun _ h => List.mem_cons_of_mem _ (List.mem_append_left _ (List.mem_append_right _ h))) (by decide +kernel))
set_option maxRecDepth 20000 in
theorem gX3_step_X3_requireAction : GoodIn wsX3_step (va_wsS RX3 52 yX3_requireAction wsX3_requireAction) := goodIn_app (goodIn_of _ (by decide +kernel)) ggX3_step_X3_requireAction
set_option maxRecDepth 20000 in
theorem ggX3_step_X2_write : GoodIn wsX3_step wsX2_write := goodIn_r _ [32, 33, 34, 35, 36, 37, 38, 46, 47, 48, 49, 50, 51] (by decide +kernel) (by decide +kernel)
set_option maxRecDepth 20000 in
theorem gX3_step_X2_write : GoodIn wsX3_step (wsV RX3 138 RX2 yX2_write wsX2_write) := goodIn_app (goodIn_of _ (by decide +kernel)) ggX3_step_X2_write
theorem dX3_step_0 : decode cX3_step 0 = .ok (.iload_n 1, 1) := by decide +kernel
theorem dX3_step_1 : decode cX3_step 1 = .ok (.ifCond .lt 9, 3) := by decide +kernel
theorem dX3_step_4 : decode cX3_step 4 = .ok (.iload_n 1, 1) := by decide +kernel
theorem dX3_step_5 : decode cX3_step 5 = .ok (.bipush 64, 2) := by decide +kernel
theorem dX3_step_7 : decode cX3_step 7 = .ok (.if_icmp .lt 13, 3) := by decide +kernel
theorem dX3_step_10 : decode cX3_step 10 = .ok (.new 126, 3) := by decide +kernel
theorem dX3_step_13 : decode cX3_step 13 = .ok (.dup, 1) := by decide +kernel
theorem dX3_step_14 : decode cX3_step 14 = .ok (.ldc 128, 2) := by decide +kernel
theorem dX3_step_16 : decode cX3_step 16 = .ok (.invokespecial 130, 3) := by decide +kernel
theorem dX3_step_19 : decode cX3_step 19 = .ok (.athrow, 1) := by decide +kernel
theorem dX3_step_20 : decode cX3_step 20 = .ok (.iload_n 2, 1) := by decide +kernel
theorem dX3_step_21 : decode cX3_step 21 = .ok (.iload_n 3, 1) := by decide +kernel
theorem dX3_step_22 : decode cX3_step 22 = .ok (.iload 4, 2) := by decide +kernel
theorem dX3_step_24 : decode cX3_step 24 = .ok (.iload 5, 2) := by decide +kernel
theorem dX3_step_26 : decode cX3_step 26 = .ok (.invokestatic 52, 3) := by decide +kernel
theorem dX3_step_29 : decode cX3_step 29 = .ok (.aload_n 0, 1) := by decide +kernel
theorem dX3_step_30 : decode cX3_step 30 = .ok (.getfield 37, 3) := by decide +kernel
theorem dX3_step_33 : decode cX3_step 33 = .ok (.bipush 20, 2) := by decide +kernel
theorem dX3_step_35 : decode cX3_step 35 = .ok (.if_icmp .lt 13, 3) := by decide +kernel
theorem dX3_step_38 : decode cX3_step 38 = .ok (.new 133, 3) := by decide +kernel
theorem dX3_step_41 : decode cX3_step 41 = .ok (.dup, 1) := by decide +kernel
theorem dX3_step_42 : decode cX3_step 42 = .ok (.ldc 135, 2) := by decide +kernel
theorem dX3_step_44 : decode cX3_step 44 = .ok (.invokespecial 137, 3) := by decide +kernel
theorem dX3_step_47 : decode cX3_step 47 = .ok (.athrow, 1) := by decide +kernel
theorem dX3_step_48 : decode cX3_step 48 = .ok (.aload_n 0, 1) := by decide +kernel
theorem dX3_step_49 : decode cX3_step 49 = .ok (.getfield 43, 3) := by decide +kernel
theorem dX3_step_52 : decode cX3_step 52 = .ok (.aload_n 0, 1) := by decide +kernel
theorem dX3_step_53 : decode cX3_step 53 = .ok (.getfield 37, 3) := by decide +kernel
theorem dX3_step_56 : decode cX3_step 56 = .ok (.aaload, 1) := by decide +kernel
theorem dX3_step_57 : decode cX3_step 57 = .ok (.iload_n 1, 1) := by decide +kernel
theorem dX3_step_58 : decode cX3_step 58 = .ok (.iload_n 2, 1) := by decide +kernel
theorem dX3_step_59 : decode cX3_step 59 = .ok (.iload_n 3, 1) := by decide +kernel
theorem dX3_step_60 : decode cX3_step 60 = .ok (.iload 4, 2) := by decide +kernel
theorem dX3_step_62 : decode cX3_step 62 = .ok (.iload 5, 2) := by decide +kernel
theorem dX3_step_64 : decode cX3_step 64 = .ok (.invokevirtual 138, 3) := by decide +kernel
theorem dX3_step_67 : decode cX3_step 67 = .ok (.aload_n 0, 1) := by decide +kernel
theorem dX3_step_68 : decode cX3_step 68 = .ok (.dup, 1) := by decide +kernel
theorem dX3_step_69 : decode cX3_step 69 = .ok (.getfield 37, 3) := by decide +kernel
theorem dX3_step_72 : decode cX3_step 72 = .ok (.iconst 1, 1) := by decide +kernel
theorem dX3_step_73 : decode cX3_step 73 = .ok (.iadd, 1) := by decide +kernel
theorem dX3_step_74 : decode cX3_step 74 = .ok (.putfield 37, 3) := by decide +kernel
theorem dX3_step_77 : decode cX3_step 77 = .ok (.aload_n 0, 1) := by decide +kernel
theorem dX3_step_78 : decode cX3_step 78 = .ok (.getfield 37, 3) := by decide +kernel
theorem dX3_step_81 : decode cX3_step 81 = .ok (.iconst 1, 1) := by decide +kernel
theorem dX3_step_82 : decode cX3_step 82 = .ok (.isub, 1) := by decide +kernel
theorem dX3_step_83 : decode cX3_step 83 = .ok (.ireturn, 1) := by decide +kernel
theorem dX3_erase_0 : decode cX3_erase 0 = .ok (.aload_n 0, 1) := by decide +kernel
theorem dX3_erase_1 : decode cX3_erase 1 = .ok (.getfield 37, 3) := by decide +kernel
theorem dX3_erase_4 : decode cX3_erase 4 = .ok (.istore_n 1, 1) := by decide +kernel
theorem dX3_erase_5 : decode cX3_erase 5 = .ok (.aload_n 0, 1) := by decide +kernel
theorem dX3_erase_6 : decode cX3_erase 6 = .ok (.iconst 0, 1) := by decide +kernel
theorem dX3_erase_7 : decode cX3_erase 7 = .ok (.putfield 37, 3) := by decide +kernel
theorem dX3_erase_10 : decode cX3_erase 10 = .ok (.iload_n 1, 1) := by decide +kernel
theorem dX3_erase_11 : decode cX3_erase 11 = .ok (.ireturn, 1) := by decide +kernel
set_option maxRecDepth 20000 in
theorem ggX3_run_X3_requireSlot : GoodIn wsX3_run wsX3_requireSlot := goodIn_ca (goodIn_r _ [9, 10, 11] (by decide +kernel) (by decide +kernel)) (goodIn_sub (fun _ h => List.mem_cons_of_mem _ (List.mem_append_right _ h)) (by decide +kernel))
set_option maxRecDepth 20000 in
theorem gX3_run_X3_requireSlot : GoodIn wsX3_run (va_wsS RX3 48 yX3_requireSlot wsX3_requireSlot) := goodIn_app (goodIn_of _ (by decide +kernel)) ggX3_run_X3_requireSlot
set_option maxRecDepth 20000 in
theorem ggX3_run_X1_takeOver : GoodIn wsX3_run wsX1_takeOver := goodIn_r _ [16, 17, 18, 19, 20, 21, 22, 23, 24, 25, 26, 27, 28, 206, 207, 208, 209, 210, 211] (by decide +kernel) (by decide +kernel)
set_option maxRecDepth 20000 in
theorem gX3_run_X1_takeOver : GoodIn wsX3_run (wsV RX3 67 RX1 yX1_takeOver wsX1_takeOver) := goodIn_app (goodIn_of _ (by decide +kernel)) ggX3_run_X1_takeOver
set_option maxRecDepth 20000 in
theorem ggX3_run_X3_follow : GoodIn wsX3_run wsX3_follow := goodIn_r _ [32, 1, 33, 34, 35, 36, 37, 38, 39, 40, 41, 42, 15, 43, 17, 44, 45, 46, 47, 18, 48, 49, 50, 51, 8, 52, 53, 54, 55, 56, 57, 58, 59, 60, 61, 22, 62, 63, 24, 64, 65, 66, 67, 68, 69, 70, 71, 72, 73, 74, 75, 13, 14, 16, 19, 20, 21, 23, 25, 26, 27, 28, 76, 77, 78, 79, 80, 81, 82, 83, 84, 85, 86, 87, 88, 89, 90, 91, 92, 93, 94, 95, 96, 97, 98, 99, 100, 101, 102, 103, 104, 105, 106, 107, 108, 109, 110, 111, 112, 113, 114, 115, 116, 117, 118, 119, 120, 121, 122, 123, 124, 125, 126, 127, 128, 129, 130, 131, 132, 133, 134, 135, 136, 137, 138, 139, 2, 140, 3, 141, 142, 143, 144, 145, 146, 147, 148, 149, 150, 151, 152, 153, 154, 155, 156, 157, 158, 159, 160, 161, 162, 163, 164, 165, 166, 167, 168, 169, 170, 171, 172, 173, 174, 175, 176, 177, 178, 179, 180, 181, 182, 183, 184, 185, 186, 187, 188, 189, 190, 191, 192, 193, 194, 199, 200, 201, 202, 203, 204, 205, 212, 213, 214, 215, 216, 217, 206, 207, 208, 209, 210, 211] (by decide +kernel) (by decide +kernel)
set_option maxRecDepth 20000 in
theorem gX3_run_X3_follow : GoodIn wsX3_run (wsV RX3 142 RX3 yX3_follow wsX3_follow) := goodIn_app (goodIn_of _ (by decide +kernel)) ggX3_run_X3_follow
set_option maxRecDepth 20000 in
theorem ggX3_run_X3_keepReached : GoodIn wsX3_run wsX3_keepReached := goodIn_r _ [198, 141, 1, 199, 200, 201, 202, 203, 204, 205] (by decide +kernel) (by decide +kernel)
set_option maxRecDepth 20000 in
theorem gX3_run_X3_keepReached : GoodIn wsX3_run (wsV RX3 146 RX3 yX3_keepReached wsX3_keepReached) := goodIn_app (goodIn_of _ (by decide +kernel)) ggX3_run_X3_keepReached
theorem dX3_run_0 : decode cX3_run 0 = .ok (.iload_n 1, 1) := by decide +kernel
theorem dX3_run_1 : decode cX3_run 1 = .ok (.invokestatic 48, 3) := by decide +kernel
theorem dX3_run_4 : decode cX3_run 4 = .ok (.iconst 0, 1) := by decide +kernel
theorem dX3_run_5 : decode cX3_run 5 = .ok (.istore_n 2, 1) := by decide +kernel
theorem dX3_run_6 : decode cX3_run 6 = .ok (.iload_n 2, 1) := by decide +kernel
theorem dX3_run_7 : decode cX3_run 7 = .ok (.bipush 8, 2) := by decide +kernel
theorem dX3_run_9 : decode cX3_run 9 = .ok (.if_icmp .ge 19, 3) := by decide +kernel
theorem dX3_run_12 : decode cX3_run 12 = .ok (.aload_n 0, 1) := by decide +kernel
theorem dX3_run_13 : decode cX3_run 13 = .ok (.getfield 25, 3) := by decide +kernel
theorem dX3_run_16 : decode cX3_run 16 = .ok (.iload_n 2, 1) := by decide +kernel
theorem dX3_run_17 : decode cX3_run 17 = .ok (.aaload, 1) := by decide +kernel
theorem dX3_run_18 : decode cX3_run 18 = .ok (.iconst 1, 1) := by decide +kernel
theorem dX3_run_19 : decode cX3_run 19 = .ok (.putfield 63, 3) := by decide +kernel
theorem dX3_run_22 : decode cX3_run 22 = .ok (.iinc 2 1, 3) := by decide +kernel
theorem dX3_run_25 : decode cX3_run 25 = .ok (.goto (-19), 3) := by decide +kernel
theorem dX3_run_28 : decode cX3_run 28 = .ok (.aload_n 0, 1) := by decide +kernel
theorem dX3_run_29 : decode cX3_run 29 = .ok (.getfield 25, 3) := by decide +kernel
theorem dX3_run_32 : decode cX3_run 32 = .ok (.iconst 0, 1) := by decide +kernel
theorem dX3_run_33 : decode cX3_run 33 = .ok (.aaload, 1) := by decide +kernel
theorem dX3_run_34 : decode cX3_run 34 = .ok (.aload_n 0, 1) := by decide +kernel
theorem dX3_run_35 : decode cX3_run 35 = .ok (.getfield 13, 3) := by decide +kernel
theorem dX3_run_38 : decode cX3_run 38 = .ok (.iload_n 1, 1) := by decide +kernel
theorem dX3_run_39 : decode cX3_run 39 = .ok (.aaload, 1) := by decide +kernel
theorem dX3_run_40 : decode cX3_run 40 = .ok (.invokevirtual 67, 3) := by decide +kernel
theorem dX3_run_43 : decode cX3_run 43 = .ok (.iconst 1, 1) := by decide +kernel
theorem dX3_run_44 : decode cX3_run 44 = .ok (.istore_n 2, 1) := by decide +kernel
theorem dX3_run_45 : decode cX3_run 45 = .ok (.iload_n 2, 1) := by decide +kernel
theorem dX3_run_46 : decode cX3_run 46 = .ok (.bipush 30, 2) := by decide +kernel
theorem dX3_run_48 : decode cX3_run 48 = .ok (.if_icmp .gt 54, 3) := by decide +kernel
theorem dX3_run_51 : decode cX3_run 51 = .ok (.iconst 0, 1) := by decide +kernel
theorem dX3_run_52 : decode cX3_run 52 = .ok (.istore_n 3, 1) := by decide +kernel
theorem dX3_run_53 : decode cX3_run 53 = .ok (.iconst 0, 1) := by decide +kernel
theorem dX3_run_54 : decode cX3_run 54 = .ok (.istore 4, 2) := by decide +kernel
theorem dX3_run_56 : decode cX3_run 56 = .ok (.iload 4, 2) := by decide +kernel
theorem dX3_run_58 : decode cX3_run 58 = .ok (.aload_n 0, 1) := by decide +kernel
theorem dX3_run_59 : decode cX3_run 59 = .ok (.getfield 37, 3) := by decide +kernel
theorem dX3_run_62 : decode cX3_run 62 = .ok (.if_icmp .ge 24, 3) := by decide +kernel
theorem dX3_run_65 : decode cX3_run 65 = .ok (.iload_n 3, 1) := by decide +kernel
theorem dX3_run_66 : decode cX3_run 66 = .ok (.aload_n 0, 1) := by decide +kernel
theorem dX3_run_67 : decode cX3_run 67 = .ok (.aload_n 0, 1) := by decide +kernel
theorem dX3_run_68 : decode cX3_run 68 = .ok (.getfield 43, 3) := by decide +kernel
theorem dX3_run_71 : decode cX3_run 71 = .ok (.iload 4, 2) := by decide +kernel
theorem dX3_run_73 : decode cX3_run 73 = .ok (.aaload, 1) := by decide +kernel
theorem dX3_run_74 : decode cX3_run 74 = .ok (.iload_n 2, 1) := by decide +kernel
theorem dX3_run_75 : decode cX3_run 75 = .ok (.invokevirtual 142, 3) := by decide +kernel
theorem dX3_run_78 : decode cX3_run 78 = .ok (.ior, 1) := by decide +kernel
theorem dX3_run_79 : decode cX3_run 79 = .ok (.istore_n 3, 1) := by decide +kernel
theorem dX3_run_80 : decode cX3_run 80 = .ok (.iinc 4 1, 3) := by decide +kernel
theorem dX3_run_83 : decode cX3_run 83 = .ok (.goto (-27), 3) := by decide +kernel
theorem dX3_run_86 : decode cX3_run 86 = .ok (.iload_n 3, 1) := by decide +kernel
theorem dX3_run_87 : decode cX3_run 87 = .ok (.ifCond .ne 9, 3) := by decide +kernel
theorem dX3_run_90 : decode cX3_run 90 = .ok (.aload_n 0, 1) := by decide +kernel
theorem dX3_run_91 : decode cX3_run 91 = .ok (.invokevirtual 146, 3) := by decide +kernel
theorem dX3_run_94 : decode cX3_run 94 = .ok (.iload_n 2, 1) := by decide +kernel
theorem dX3_run_95 : decode cX3_run 95 = .ok (.ireturn, 1) := by decide +kernel
theorem dX3_run_96 : decode cX3_run 96 = .ok (.iinc 2 1, 3) := by decide +kernel
theorem dX3_run_99 : decode cX3_run 99 = .ok (.goto (-54), 3) := by decide +kernel
theorem dX3_run_102 : decode cX3_run 102 = .ok (.iconst (-1), 1) := by decide +kernel
theorem dX3_run_103 : decode cX3_run 103 = .ok (.ireturn, 1) := by decide +kernel
set_option maxRecDepth 20000 in
theorem ggX3_take_X3_requireSlot : GoodIn wsX3_take wsX3_requireSlot := goodIn_ca (goodIn_r _ [9, 1, 2] (by decide +kernel) (by decide +kernel)) (goodIn_sub (fun _ h => List.mem_cons_of_mem _ (List.mem_append_right _ h)) (by decide +kernel))
set_option maxRecDepth 20000 in
theorem gX3_take_X3_requireSlot : GoodIn wsX3_take (va_wsS RX3 48 yX3_requireSlot wsX3_requireSlot) := goodIn_app (goodIn_of _ (by decide +kernel)) ggX3_take_X3_requireSlot
set_option maxRecDepth 20000 in
theorem ggX3_take_X1_takeOver : GoodIn wsX3_take wsX1_takeOver := goodIn_r _ [14, 15, 16, 17, 18, 19, 20, 21, 22, 23, 24, 25, 26, 34, 35, 36, 37, 38, 39] (by decide +kernel) (by decide +kernel)
set_option maxRecDepth 20000 in
theorem gX3_take_X1_takeOver : GoodIn wsX3_take (wsV RX3 67 RX1 yX1_takeOver wsX1_takeOver) := goodIn_app (goodIn_of _ (by decide +kernel)) ggX3_take_X1_takeOver
theorem dX3_take_0 : decode cX3_take 0 = .ok (.iload_n 1, 1) := by decide +kernel
theorem dX3_take_1 : decode cX3_take 1 = .ok (.invokestatic 48, 3) := by decide +kernel
theorem dX3_take_4 : decode cX3_take 4 = .ok (.iload_n 2, 1) := by decide +kernel
theorem dX3_take_5 : decode cX3_take 5 = .ok (.ifCond .lt 9, 3) := by decide +kernel
theorem dX3_take_8 : decode cX3_take 8 = .ok (.iload_n 2, 1) := by decide +kernel
theorem dX3_take_9 : decode cX3_take 9 = .ok (.bipush 8, 2) := by decide +kernel
theorem dX3_take_11 : decode cX3_take 11 = .ok (.if_icmp .lt 13, 3) := by decide +kernel
theorem dX3_take_14 : decode cX3_take 14 = .ok (.new 126, 3) := by decide +kernel
theorem dX3_take_17 : decode cX3_take 17 = .ok (.dup, 1) := by decide +kernel
theorem dX3_take_18 : decode cX3_take 18 = .ok (.ldc 149, 2) := by decide +kernel
theorem dX3_take_20 : decode cX3_take 20 = .ok (.invokespecial 130, 3) := by decide +kernel
theorem dX3_take_23 : decode cX3_take 23 = .ok (.athrow, 1) := by decide +kernel
theorem dX3_take_24 : decode cX3_take 24 = .ok (.aload_n 0, 1) := by decide +kernel
theorem dX3_take_25 : decode cX3_take 25 = .ok (.getfield 13, 3) := by decide +kernel
theorem dX3_take_28 : decode cX3_take 28 = .ok (.iload_n 1, 1) := by decide +kernel
theorem dX3_take_29 : decode cX3_take 29 = .ok (.aaload, 1) := by decide +kernel
theorem dX3_take_30 : decode cX3_take 30 = .ok (.aload_n 0, 1) := by decide +kernel
theorem dX3_take_31 : decode cX3_take 31 = .ok (.getfield 22, 3) := by decide +kernel
theorem dX3_take_34 : decode cX3_take 34 = .ok (.iload_n 2, 1) := by decide +kernel
theorem dX3_take_35 : decode cX3_take 35 = .ok (.aaload, 1) := by decide +kernel
theorem dX3_take_36 : decode cX3_take 36 = .ok (.invokevirtual 67, 3) := by decide +kernel
theorem dX3_take_39 : decode cX3_take 39 = .ok (.aload_n 0, 1) := by decide +kernel
theorem dX3_take_40 : decode cX3_take 40 = .ok (.getfield 13, 3) := by decide +kernel
theorem dX3_take_43 : decode cX3_take 43 = .ok (.iload_n 1, 1) := by decide +kernel
theorem dX3_take_44 : decode cX3_take 44 = .ok (.aaload, 1) := by decide +kernel
theorem dX3_take_45 : decode cX3_take 45 = .ok (.getfield 63, 3) := by decide +kernel
theorem dX3_take_48 : decode cX3_take 48 = .ok (.ifCond .ne 7, 3) := by decide +kernel
theorem dX3_take_51 : decode cX3_take 51 = .ok (.iconst 1, 1) := by decide +kernel
theorem dX3_take_52 : decode cX3_take 52 = .ok (.goto 4, 3) := by decide +kernel
theorem dX3_take_55 : decode cX3_take 55 = .ok (.iconst 0, 1) := by decide +kernel
theorem dX3_take_56 : decode cX3_take 56 = .ok (.ireturn, 1) := by decide +kernel
set_option maxRecDepth 20000 in
theorem ggX3_emptyShapes_X1_init : GoodIn wsX3_emptyShapes wsX1_init := goodIn_r _ [6, 7, 8, 9, 10, 11, 12, 13, 14, 15, 16, 17, 18, 19, 20, 21, 22, 23, 26, 27, 28, 29, 24, 25] (by decide +kernel) (by decide +kernel)
set_option maxRecDepth 20000 in
theorem gX3_emptyShapes_X1_init : GoodIn wsX3_emptyShapes (wsX1_init) := ggX3_emptyShapes_X1_init
theorem dX3_emptyShapes_0 : decode cX3_emptyShapes 0 = .ok (.iload_n 0, 1) := by decide +kernel
theorem dX3_emptyShapes_1 : decode cX3_emptyShapes 1 = .ok (.anewarray 18, 3) := by decide +kernel
theorem dX3_emptyShapes_4 : decode cX3_emptyShapes 4 = .ok (.astore_n 1, 1) := by decide +kernel
theorem dX3_emptyShapes_5 : decode cX3_emptyShapes 5 = .ok (.iconst 0, 1) := by decide +kernel
theorem dX3_emptyShapes_6 : decode cX3_emptyShapes 6 = .ok (.istore_n 2, 1) := by decide +kernel
theorem dX3_emptyShapes_7 : decode cX3_emptyShapes 7 = .ok (.iload_n 2, 1) := by decide +kernel
theorem dX3_emptyShapes_8 : decode cX3_emptyShapes 8 = .ok (.iload_n 0, 1) := by decide +kernel
theorem dX3_emptyShapes_9 : decode cX3_emptyShapes 9 = .ok (.if_icmp .ge 19, 3) := by decide +kernel
theorem dX3_emptyShapes_12 : decode cX3_emptyShapes 12 = .ok (.aload_n 1, 1) := by decide +kernel
theorem dX3_emptyShapes_13 : decode cX3_emptyShapes 13 = .ok (.iload_n 2, 1) := by decide +kernel
theorem dX3_emptyShapes_14 : decode cX3_emptyShapes 14 = .ok (.new 18, 3) := by decide +kernel
theorem dX3_emptyShapes_17 : decode cX3_emptyShapes 17 = .ok (.dup, 1) := by decide +kernel
theorem dX3_emptyShapes_18 : decode cX3_emptyShapes 18 = .ok (.invokespecial 28, 3) := by decide +kernel
theorem dX3_emptyShapes_21 : decode cX3_emptyShapes 21 = .ok (.aastore, 1) := by decide +kernel
theorem dX3_emptyShapes_22 : decode cX3_emptyShapes 22 = .ok (.iinc 2 1, 3) := by decide +kernel
theorem dX3_emptyShapes_25 : decode cX3_emptyShapes 25 = .ok (.goto (-18), 3) := by decide +kernel
theorem dX3_emptyShapes_28 : decode cX3_emptyShapes 28 = .ok (.aload_n 1, 1) := by decide +kernel
theorem dX3_emptyShapes_29 : decode cX3_emptyShapes 29 = .ok (.areturn, 1) := by decide +kernel
theorem dX3_requireSlot_0 : decode cX3_requireSlot 0 = .ok (.iload_n 0, 1) := by decide +kernel
theorem dX3_requireSlot_1 : decode cX3_requireSlot 1 = .ok (.ifCond .lt 9, 3) := by decide +kernel
theorem dX3_requireSlot_4 : decode cX3_requireSlot 4 = .ok (.iload_n 0, 1) := by decide +kernel
theorem dX3_requireSlot_5 : decode cX3_requireSlot 5 = .ok (.bipush 6, 2) := by decide +kernel
theorem dX3_requireSlot_7 : decode cX3_requireSlot 7 = .ok (.if_icmp .lt 13, 3) := by decide +kernel
theorem dX3_requireSlot_10 : decode cX3_requireSlot 10 = .ok (.new 126, 3) := by decide +kernel
theorem dX3_requireSlot_13 : decode cX3_requireSlot 13 = .ok (.dup, 1) := by decide +kernel
theorem dX3_requireSlot_14 : decode cX3_requireSlot 14 = .ok (.ldc 151, 2) := by decide +kernel
theorem dX3_requireSlot_16 : decode cX3_requireSlot 16 = .ok (.invokespecial 130, 3) := by decide +kernel
theorem dX3_requireSlot_19 : decode cX3_requireSlot 19 = .ok (.athrow, 1) := by decide +kernel
theorem dX3_requireSlot_20 : decode cX3_requireSlot 20 = .ok (.return_, 1) := by decide +kernel
set_option maxRecDepth 20000 in
theorem ggX3_requireThreeSlots_X3_requireSlot : GoodIn wsX3_requireThreeSlots wsX3_requireSlot := goodIn_ca (goodIn_r _ [4, 5, 6] (by decide +kernel) (by decide +kernel)) (goodIn_sub (fun _ h => List.mem_cons_of_mem _ (List.mem_append_right _ h)) (by decide +kernel))
set_option maxRecDepth 20000 in
theorem gX3_requireThreeSlots_X3_requireSlot : GoodIn wsX3_requireThreeSlots (va_wsS RX3 48 yX3_requireSlot wsX3_requireSlot) := goodIn_app (goodIn_of _ (by decide +kernel)) ggX3_requireThreeSlots_X3_requireSlot
theorem dX3_requireThreeSlots_0 : decode cX3_requireThreeSlots 0 = .ok (.iload_n 0, 1) := by decide +kernel
theorem dX3_requireThreeSlots_1 : decode cX3_requireThreeSlots 1 = .ok (.invokestatic 48, 3) := by decide +kernel
theorem dX3_requireThreeSlots_4 : decode cX3_requireThreeSlots 4 = .ok (.iload_n 1, 1) := by decide +kernel
theorem dX3_requireThreeSlots_5 : decode cX3_requireThreeSlots 5 = .ok (.invokestatic 48, 3) := by decide +kernel
theorem dX3_requireThreeSlots_8 : decode cX3_requireThreeSlots 8 = .ok (.iload_n 2, 1) := by decide +kernel
theorem dX3_requireThreeSlots_9 : decode cX3_requireThreeSlots 9 = .ok (.invokestatic 48, 3) := by decide +kernel
theorem dX3_requireThreeSlots_12 : decode cX3_requireThreeSlots 12 = .ok (.return_, 1) := by decide +kernel
theorem dX3_requireVariable_0 : decode cX3_requireVariable 0 = .ok (.iload_n 0, 1) := by decide +kernel
theorem dX3_requireVariable_1 : decode cX3_requireVariable 1 = .ok (.ifCond .lt 9, 3) := by decide +kernel
theorem dX3_requireVariable_4 : decode cX3_requireVariable 4 = .ok (.iload_n 0, 1) := by decide +kernel
theorem dX3_requireVariable_5 : decode cX3_requireVariable 5 = .ok (.bipush 6, 2) := by decide +kernel
theorem dX3_requireVariable_7 : decode cX3_requireVariable 7 = .ok (.if_icmp .lt 13, 3) := by decide +kernel
theorem dX3_requireVariable_10 : decode cX3_requireVariable 10 = .ok (.new 126, 3) := by decide +kernel
theorem dX3_requireVariable_13 : decode cX3_requireVariable 13 = .ok (.dup, 1) := by decide +kernel
theorem dX3_requireVariable_14 : decode cX3_requireVariable 14 = .ok (.ldc 153, 2) := by decide +kernel
theorem dX3_requireVariable_16 : decode cX3_requireVariable 16 = .ok (.invokespecial 130, 3) := by decide +kernel
theorem dX3_requireVariable_19 : decode cX3_requireVariable 19 = .ok (.athrow, 1) := by decide +kernel
theorem dX3_requireVariable_20 : decode cX3_requireVariable 20 = .ok (.return_, 1) := by decide +kernel
theorem dX3_requireTerm_0 : decode cX3_requireTerm 0 = .ok (.iload_n 0, 1) := by decide +kernel
theorem dX3_requireTerm_1 : decode cX3_requireTerm 1 = .ok (.ifCond .lt 9, 3) := by decide +kernel
theorem dX3_requireTerm_4 : decode cX3_requireTerm 4 = .ok (.iload_n 0, 1) := by decide +kernel
theorem dX3_requireTerm_5 : decode cX3_requireTerm 5 = .ok (.bipush 12, 2) := by decide +kernel
theorem dX3_requireTerm_7 : decode cX3_requireTerm 7 = .ok (.if_icmp .lt 13, 3) := by decide +kernel
theorem dX3_requireTerm_10 : decode cX3_requireTerm 10 = .ok (.new 126, 3) := by decide +kernel
theorem dX3_requireTerm_13 : decode cX3_requireTerm 13 = .ok (.dup, 1) := by decide +kernel
theorem dX3_requireTerm_14 : decode cX3_requireTerm 14 = .ok (.ldc 155, 2) := by decide +kernel
theorem dX3_requireTerm_16 : decode cX3_requireTerm 16 = .ok (.invokespecial 130, 3) := by decide +kernel
theorem dX3_requireTerm_19 : decode cX3_requireTerm 19 = .ok (.athrow, 1) := by decide +kernel
theorem dX3_requireTerm_20 : decode cX3_requireTerm 20 = .ok (.return_, 1) := by decide +kernel
set_option maxRecDepth 20000 in
theorem ggX3_requireTerms_X3_requireTerm : GoodIn wsX3_requireTerms wsX3_requireTerm := goodIn_ca (goodIn_r _ [6, 1, 2] (by decide +kernel) (by decide +kernel)) (goodIn_sub (fun _ h => List.mem_cons_of_mem _ (List.mem_append_right _ h)) (by decide +kernel))
set_option maxRecDepth 20000 in
theorem gX3_requireTerms_X3_requireTerm : GoodIn wsX3_requireTerms (va_wsS RX3 157 yX3_requireTerm wsX3_requireTerm) := goodIn_app (goodIn_of _ (by decide +kernel)) ggX3_requireTerms_X3_requireTerm
set_option maxRecDepth 20000 in
theorem ggX3_requireTerms_X3_negation : GoodIn wsX3_requireTerms wsX3_negation := goodIn_r _ [9] (by decide +kernel) (by decide +kernel)
set_option maxRecDepth 20000 in
theorem gX3_requireTerms_X3_negation : GoodIn wsX3_requireTerms (va_wsS RX3 160 yX3_negation wsX3_negation) := goodIn_app (goodIn_of _ (by decide +kernel)) ggX3_requireTerms_X3_negation
theorem dX3_requireTerms_0 : decode cX3_requireTerms 0 = .ok (.iload_n 0, 1) := by decide +kernel
theorem dX3_requireTerms_1 : decode cX3_requireTerms 1 = .ok (.invokestatic 157, 3) := by decide +kernel
theorem dX3_requireTerms_4 : decode cX3_requireTerms 4 = .ok (.iload_n 1, 1) := by decide +kernel
theorem dX3_requireTerms_5 : decode cX3_requireTerms 5 = .ok (.invokestatic 157, 3) := by decide +kernel
theorem dX3_requireTerms_8 : decode cX3_requireTerms 8 = .ok (.iload_n 0, 1) := by decide +kernel
theorem dX3_requireTerms_9 : decode cX3_requireTerms 9 = .ok (.iload_n 1, 1) := by decide +kernel
theorem dX3_requireTerms_10 : decode cX3_requireTerms 10 = .ok (.invokestatic 160, 3) := by decide +kernel
theorem dX3_requireTerms_13 : decode cX3_requireTerms 13 = .ok (.if_icmp .ne 13, 3) := by decide +kernel
theorem dX3_requireTerms_16 : decode cX3_requireTerms 16 = .ok (.new 126, 3) := by decide +kernel
theorem dX3_requireTerms_19 : decode cX3_requireTerms 19 = .ok (.dup, 1) := by decide +kernel
theorem dX3_requireTerms_20 : decode cX3_requireTerms 20 = .ok (.ldc 163, 2) := by decide +kernel
theorem dX3_requireTerms_22 : decode cX3_requireTerms 22 = .ok (.invokespecial 130, 3) := by decide +kernel
theorem dX3_requireTerms_25 : decode cX3_requireTerms 25 = .ok (.athrow, 1) := by decide +kernel
theorem dX3_requireTerms_26 : decode cX3_requireTerms 26 = .ok (.return_, 1) := by decide +kernel
theorem dX3_requireNumber_0 : decode cX3_requireNumber 0 = .ok (.iload_n 0, 1) := by decide +kernel
theorem dX3_requireNumber_1 : decode cX3_requireNumber 1 = .ok (.ldc 165, 2) := by decide +kernel
theorem dX3_requireNumber_3 : decode cX3_requireNumber 3 = .ok (.if_icmp .lt 9, 3) := by decide +kernel
theorem dX3_requireNumber_6 : decode cX3_requireNumber 6 = .ok (.iload_n 0, 1) := by decide +kernel
theorem dX3_requireNumber_7 : decode cX3_requireNumber 7 = .ok (.ldc 166, 2) := by decide +kernel
theorem dX3_requireNumber_9 : decode cX3_requireNumber 9 = .ok (.if_icmp .le 13, 3) := by decide +kernel
theorem dX3_requireNumber_12 : decode cX3_requireNumber 12 = .ok (.new 126, 3) := by decide +kernel
theorem dX3_requireNumber_15 : decode cX3_requireNumber 15 = .ok (.dup, 1) := by decide +kernel
theorem dX3_requireNumber_16 : decode cX3_requireNumber 16 = .ok (.ldc 167, 2) := by decide +kernel
theorem dX3_requireNumber_18 : decode cX3_requireNumber 18 = .ok (.invokespecial 130, 3) := by decide +kernel
theorem dX3_requireNumber_21 : decode cX3_requireNumber 21 = .ok (.athrow, 1) := by decide +kernel
theorem dX3_requireNumber_22 : decode cX3_requireNumber 22 = .ok (.return_, 1) := by decide +kernel
set_option maxRecDepth 20000 in
theorem ggX3_requireAction_X3_requireNumber : GoodIn wsX3_requireAction wsX3_requireNumber := goodIn_ca (goodIn_r _ [6, 1, 2, 7, 8] (by decide +kernel) (by decide +kernel)) (goodIn_sub (fun _ h => List.mem_cons_of_mem _ (List.mem_append_right _ h)) (by decide +kernel))
set_option maxRecDepth 20000 in
theorem gX3_requireAction_X3_requireNumber : GoodIn wsX3_requireAction (va_wsS RX3 169 yX3_requireNumber wsX3_requireNumber) := goodIn_app (goodIn_of _ (by decide +kernel)) ggX3_requireAction_X3_requireNumber
set_option maxRecDepth 20000 in
theorem ggX3_requireAction_X3_requireTerms : GoodIn wsX3_requireAction wsX3_requireTerms := goodIn_ca (goodIn_r _ [11, 1, 2, 12, 13, 5, 14, 15, 16, 17] (by decide +kernel) (by decide +kernel)) (goodIn_sub (fun _ h => List.mem_cons_of_mem _ (List.mem_append_right _ h)) (by decide +kernel))
set_option maxRecDepth 20000 in
theorem gX3_requireAction_X3_requireTerms : GoodIn wsX3_requireAction (va_wsS RX3 90 yX3_requireTerms wsX3_requireTerms) := goodIn_app (goodIn_of _ (by decide +kernel)) ggX3_requireAction_X3_requireTerms
set_option maxRecDepth 20000 in
theorem ggX3_requireAction_X3_requireVariable : GoodIn wsX3_requireAction wsX3_requireVariable := goodIn_ca (goodIn_r _ [20, 1, 2] (by decide +kernel) (by decide +kernel)) (goodIn_sub (fun _ h => List.mem_cons_of_mem _ (List.mem_append_right _ h)) (by decide +kernel))
set_option maxRecDepth 20000 in
theorem gX3_requireAction_X3_requireVariable : GoodIn wsX3_requireAction (va_wsS RX3 84 yX3_requireVariable wsX3_requireVariable) := goodIn_app (goodIn_of _ (by decide +kernel)) ggX3_requireAction_X3_requireVariable
set_option maxRecDepth 20000 in
theorem ggX3_requireAction_X3_requireTerm : GoodIn wsX3_requireAction wsX3_requireTerm := goodIn_ca (goodIn_r _ [14, 1, 2] (by decide +kernel) (by decide +kernel)) (goodIn_sub (fun _ h => List.mem_cons_of_mem _ (List.mem_append_right _ h)) (by decide +kernel))
set_option maxRecDepth 20000 in
theorem gX3_requireAction_X3_requireTerm : GoodIn wsX3_requireAction (va_wsS RX3 157 yX3_requireTerm wsX3_requireTerm) := goodIn_app (goodIn_of _ (by decide +kernel)) ggX3_requireAction_X3_requireTerm
theorem dX3_requireAction_0 : decode cX3_requireAction 0 = .ok (.iload_n 3, 1) := by decide +kernel
theorem dX3_requireAction_1 : decode cX3_requireAction 1 = .ok (.invokestatic 169, 3) := by decide +kernel
theorem dX3_requireAction_4 : decode cX3_requireAction 4 = .ok (.iload_n 0, 1) := by decide +kernel
theorem dX3_requireAction_5 : decode cX3_requireAction 5 = .ok (.ifCond .ne 11, 3) := by decide +kernel
theorem dX3_requireAction_8 : decode cX3_requireAction 8 = .ok (.iload_n 1, 1) := by decide +kernel
theorem dX3_requireAction_9 : decode cX3_requireAction 9 = .ok (.iload_n 2, 1) := by decide +kernel
theorem dX3_requireAction_10 : decode cX3_requireAction 10 = .ok (.invokestatic 90, 3) := by decide +kernel
theorem dX3_requireAction_13 : decode cX3_requireAction 13 = .ok (.goto 57, 3) := by decide +kernel
theorem dX3_requireAction_16 : decode cX3_requireAction 16 = .ok (.iload_n 0, 1) := by decide +kernel
theorem dX3_requireAction_17 : decode cX3_requireAction 17 = .ok (.iconst 1, 1) := by decide +kernel
theorem dX3_requireAction_18 : decode cX3_requireAction 18 = .ok (.if_icmp .ne 14, 3) := by decide +kernel
theorem dX3_requireAction_21 : decode cX3_requireAction 21 = .ok (.iload_n 1, 1) := by decide +kernel
theorem dX3_requireAction_22 : decode cX3_requireAction 22 = .ok (.invokestatic 84, 3) := by decide +kernel
theorem dX3_requireAction_25 : decode cX3_requireAction 25 = .ok (.iload_n 2, 1) := by decide +kernel
theorem dX3_requireAction_26 : decode cX3_requireAction 26 = .ok (.invokestatic 157, 3) := by decide +kernel
theorem dX3_requireAction_29 : decode cX3_requireAction 29 = .ok (.goto 41, 3) := by decide +kernel
theorem dX3_requireAction_32 : decode cX3_requireAction 32 = .ok (.iload_n 0, 1) := by decide +kernel
theorem dX3_requireAction_33 : decode cX3_requireAction 33 = .ok (.iconst 2, 1) := by decide +kernel
theorem dX3_requireAction_34 : decode cX3_requireAction 34 = .ok (.if_icmp .ne 26, 3) := by decide +kernel
theorem dX3_requireAction_37 : decode cX3_requireAction 37 = .ok (.iload_n 1, 1) := by decide +kernel
theorem dX3_requireAction_38 : decode cX3_requireAction 38 = .ok (.invokestatic 84, 3) := by decide +kernel
theorem dX3_requireAction_41 : decode cX3_requireAction 41 = .ok (.iload_n 2, 1) := by decide +kernel
theorem dX3_requireAction_42 : decode cX3_requireAction 42 = .ok (.invokestatic 169, 3) := by decide +kernel
theorem dX3_requireAction_45 : decode cX3_requireAction 45 = .ok (.iload_n 2, 1) := by decide +kernel
theorem dX3_requireAction_46 : decode cX3_requireAction 46 = .ok (.iload_n 3, 1) := by decide +kernel
theorem dX3_requireAction_47 : decode cX3_requireAction 47 = .ok (.if_icmp .le 23, 3) := by decide +kernel
theorem dX3_requireAction_50 : decode cX3_requireAction 50 = .ok (.new 126, 3) := by decide +kernel
theorem dX3_requireAction_53 : decode cX3_requireAction 53 = .ok (.dup, 1) := by decide +kernel
theorem dX3_requireAction_54 : decode cX3_requireAction 54 = .ok (.ldc 172, 2) := by decide +kernel
theorem dX3_requireAction_56 : decode cX3_requireAction 56 = .ok (.invokespecial 130, 3) := by decide +kernel
theorem dX3_requireAction_59 : decode cX3_requireAction 59 = .ok (.athrow, 1) := by decide +kernel
theorem dX3_requireAction_60 : decode cX3_requireAction 60 = .ok (.new 126, 3) := by decide +kernel
theorem dX3_requireAction_63 : decode cX3_requireAction 63 = .ok (.dup, 1) := by decide +kernel
theorem dX3_requireAction_64 : decode cX3_requireAction 64 = .ok (.ldc 174, 2) := by decide +kernel
theorem dX3_requireAction_66 : decode cX3_requireAction 66 = .ok (.invokespecial 130, 3) := by decide +kernel
theorem dX3_requireAction_69 : decode cX3_requireAction 69 = .ok (.athrow, 1) := by decide +kernel
theorem dX3_requireAction_70 : decode cX3_requireAction 70 = .ok (.return_, 1) := by decide +kernel
theorem dX3_requirePlace_0 : decode cX3_requirePlace 0 = .ok (.aload_n 0, 1) := by decide +kernel
theorem dX3_requirePlace_1 : decode cX3_requirePlace 1 = .ok (.getfield 13, 3) := by decide +kernel
theorem dX3_requirePlace_4 : decode cX3_requirePlace 4 = .ok (.iload_n 1, 1) := by decide +kernel
theorem dX3_requirePlace_5 : decode cX3_requirePlace 5 = .ok (.aaload, 1) := by decide +kernel
theorem dX3_requirePlace_6 : decode cX3_requirePlace 6 = .ok (.getfield 63, 3) := by decide +kernel
theorem dX3_requirePlace_9 : decode cX3_requirePlace 9 = .ok (.ifCond .eq 13, 3) := by decide +kernel
theorem dX3_requirePlace_12 : decode cX3_requirePlace 12 = .ok (.new 133, 3) := by decide +kernel
theorem dX3_requirePlace_15 : decode cX3_requirePlace 15 = .ok (.dup, 1) := by decide +kernel
theorem dX3_requirePlace_16 : decode cX3_requirePlace 16 = .ok (.ldc 176, 2) := by decide +kernel
theorem dX3_requirePlace_18 : decode cX3_requirePlace 18 = .ok (.invokespecial 137, 3) := by decide +kernel
theorem dX3_requirePlace_21 : decode cX3_requirePlace 21 = .ok (.athrow, 1) := by decide +kernel
theorem dX3_requirePlace_22 : decode cX3_requirePlace 22 = .ok (.return_, 1) := by decide +kernel
theorem dX3_negation_0 : decode cX3_negation 0 = .ok (.iload_n 0, 1) := by decide +kernel
theorem dX3_negation_1 : decode cX3_negation 1 = .ok (.iconst 1, 1) := by decide +kernel
theorem dX3_negation_2 : decode cX3_negation 2 = .ok (.ixor, 1) := by decide +kernel
theorem dX3_negation_3 : decode cX3_negation 3 = .ok (.ireturn, 1) := by decide +kernel
set_option maxRecDepth 20000 in
theorem ggX3_putMade_X3_makeRoom : GoodIn wsX3_putMade wsX3_makeRoom := goodIn_r _ [7, 8, 9, 2, 10, 11, 1, 12, 13, 14, 15, 16, 17, 18, 19, 20, 21, 22, 23, 24, 6, 25, 26, 27, 28, 29, 30, 31, 32, 33, 34, 35, 36, 37, 38, 39, 40, 41, 42, 43, 44, 45, 46, 47, 48, 49, 50, 51, 52, 53, 54, 55, 56, 57, 77, 78, 70, 71, 72, 73, 74, 75, 76, 79, 80, 81, 82] (by decide +kernel) (by decide +kernel)
set_option maxRecDepth 20000 in
theorem gX3_putMade_X3_makeRoom : GoodIn wsX3_putMade (wsV RX3 112 RX3 yX3_makeRoom wsX3_makeRoom) := goodIn_app (goodIn_of _ (by decide +kernel)) ggX3_putMade_X3_makeRoom
set_option maxRecDepth 20000 in
theorem ggX3_putMade_X1_takeOver : GoodIn wsX3_putMade wsX1_takeOver := goodIn_r _ [62, 63, 64, 65, 66, 67, 15, 68, 18, 69, 46, 47, 48, 77, 78, 79, 80, 81, 82] (by decide +kernel) (by decide +kernel)
set_option maxRecDepth 20000 in
theorem gX3_putMade_X1_takeOver : GoodIn wsX3_putMade (wsV RX3 67 RX1 yX1_takeOver wsX1_takeOver) := goodIn_app (goodIn_of _ (by decide +kernel)) ggX3_putMade_X1_takeOver
theorem dX3_putMade_0 : decode cX3_putMade 0 = .ok (.aload_n 0, 1) := by decide +kernel
theorem dX3_putMade_1 : decode cX3_putMade 1 = .ok (.aload_n 0, 1) := by decide +kernel
theorem dX3_putMade_2 : decode cX3_putMade 2 = .ok (.getfield 29, 3) := by decide +kernel
theorem dX3_putMade_5 : decode cX3_putMade 5 = .ok (.invokevirtual 112, 3) := by decide +kernel
theorem dX3_putMade_8 : decode cX3_putMade 8 = .ok (.aload_n 0, 1) := by decide +kernel
theorem dX3_putMade_9 : decode cX3_putMade 9 = .ok (.getfield 13, 3) := by decide +kernel
theorem dX3_putMade_12 : decode cX3_putMade 12 = .ok (.iload_n 1, 1) := by decide +kernel
theorem dX3_putMade_13 : decode cX3_putMade 13 = .ok (.aaload, 1) := by decide +kernel
theorem dX3_putMade_14 : decode cX3_putMade 14 = .ok (.aload_n 0, 1) := by decide +kernel
theorem dX3_putMade_15 : decode cX3_putMade 15 = .ok (.getfield 29, 3) := by decide +kernel
theorem dX3_putMade_18 : decode cX3_putMade 18 = .ok (.invokevirtual 67, 3) := by decide +kernel
theorem dX3_putMade_21 : decode cX3_putMade 21 = .ok (.return_, 1) := by decide +kernel
set_option maxRecDepth 20000 in
theorem ggX3_makeRoom_X0_isCrowded : GoodIn wsX3_makeRoom wsX0_isCrowded := goodIn_r _ [11, 12, 13, 14, 15, 16, 17, 63, 64, 65, 66] (by decide +kernel) (by decide +kernel)
set_option maxRecDepth 20000 in
theorem gX3_makeRoom_X0_isCrowded : GoodIn wsX3_makeRoom (wsV RX3 182 RX0 yX0_isCrowded wsX0_isCrowded) := goodIn_app (goodIn_of _ (by decide +kernel)) ggX3_makeRoom_X0_isCrowded
set_option maxRecDepth 20000 in
theorem ggX3_makeRoom_X3_growAll : GoodIn wsX3_makeRoom wsX3_growAll := goodIn_r _ [21, 2, 22, 23, 24, 10, 25, 13, 12, 14, 26, 27, 28, 29, 30, 31, 32, 33, 34, 35, 36, 37, 38, 39, 40, 41, 42, 43, 44, 45, 46, 47, 48, 15, 49, 50, 51, 52, 53, 54, 55, 63, 64, 65, 66] (by decide +kernel) (by decide +kernel)
set_option maxRecDepth 20000 in
theorem gX3_makeRoom_X3_growAll : GoodIn wsX3_makeRoom (va_wsS RX3 187 yX3_growAll wsX3_growAll) := goodIn_app (goodIn_of _ (by decide +kernel)) ggX3_makeRoom_X3_growAll
set_option maxRecDepth 20000 in
theorem ggX3_makeRoom_X0_growTwofold : GoodIn wsX3_makeRoom wsX0_growTwofold := goodIn_r _ [25, 13, 12, 14, 26, 27, 28, 29, 30, 31, 32, 33, 34, 35, 36, 37, 38, 39, 40, 41, 42, 43, 44, 45, 46, 47, 10, 48, 15, 49, 50, 51, 52, 53, 63, 64, 65, 66] (by decide +kernel) (by decide +kernel)
set_option maxRecDepth 20000 in
theorem gX3_makeRoom_X0_growTwofold : GoodIn wsX3_makeRoom (wsV RX3 191 RX0 yX0_growTwofold wsX0_growTwofold) := goodIn_app (goodIn_of _ (by decide +kernel)) ggX3_makeRoom_X0_growTwofold
theorem dX3_makeRoom_0 : decode cX3_makeRoom 0 = .ok (.aload_n 1, 1) := by decide +kernel
theorem dX3_makeRoom_1 : decode cX3_makeRoom 1 = .ok (.getfield 63, 3) := by decide +kernel
theorem dX3_makeRoom_4 : decode cX3_makeRoom 4 = .ok (.ifCond .ne 13, 3) := by decide +kernel
theorem dX3_makeRoom_7 : decode cX3_makeRoom 7 = .ok (.aload_n 1, 1) := by decide +kernel
theorem dX3_makeRoom_8 : decode cX3_makeRoom 8 = .ok (.getfield 178, 3) := by decide +kernel
theorem dX3_makeRoom_11 : decode cX3_makeRoom 11 = .ok (.invokevirtual 182, 3) := by decide +kernel
theorem dX3_makeRoom_14 : decode cX3_makeRoom 14 = .ok (.ifCond .ne 4, 3) := by decide +kernel
theorem dX3_makeRoom_17 : decode cX3_makeRoom 17 = .ok (.return_, 1) := by decide +kernel
theorem dX3_makeRoom_18 : decode cX3_makeRoom 18 = .ok (.aload_n 0, 1) := by decide +kernel
theorem dX3_makeRoom_19 : decode cX3_makeRoom 19 = .ok (.getfield 13, 3) := by decide +kernel
theorem dX3_makeRoom_22 : decode cX3_makeRoom 22 = .ok (.invokestatic 187, 3) := by decide +kernel
theorem dX3_makeRoom_25 : decode cX3_makeRoom 25 = .ok (.aload_n 0, 1) := by decide +kernel
theorem dX3_makeRoom_26 : decode cX3_makeRoom 26 = .ok (.getfield 22, 3) := by decide +kernel
theorem dX3_makeRoom_29 : decode cX3_makeRoom 29 = .ok (.invokestatic 187, 3) := by decide +kernel
theorem dX3_makeRoom_32 : decode cX3_makeRoom 32 = .ok (.aload_n 0, 1) := by decide +kernel
theorem dX3_makeRoom_33 : decode cX3_makeRoom 33 = .ok (.getfield 25, 3) := by decide +kernel
theorem dX3_makeRoom_36 : decode cX3_makeRoom 36 = .ok (.invokestatic 187, 3) := by decide +kernel
theorem dX3_makeRoom_39 : decode cX3_makeRoom 39 = .ok (.aload_n 0, 1) := by decide +kernel
theorem dX3_makeRoom_40 : decode cX3_makeRoom 40 = .ok (.getfield 29, 3) := by decide +kernel
theorem dX3_makeRoom_43 : decode cX3_makeRoom 43 = .ok (.getfield 178, 3) := by decide +kernel
theorem dX3_makeRoom_46 : decode cX3_makeRoom 46 = .ok (.invokevirtual 191, 3) := by decide +kernel
theorem dX3_makeRoom_49 : decode cX3_makeRoom 49 = .ok (.return_, 1) := by decide +kernel
set_option maxRecDepth 20000 in
theorem ggX3_growAll_X0_growTwofold : GoodIn wsX3_growAll wsX0_growTwofold := goodIn_r _ [6, 7, 8, 9, 10, 11, 12, 13, 14, 15, 16, 17, 18, 19, 20, 21, 22, 23, 24, 25, 26, 27, 28, 29, 30, 31, 5, 32, 33, 34, 35, 36, 37, 38, 41, 42, 43, 44] (by decide +kernel) (by decide +kernel)
set_option maxRecDepth 20000 in
theorem gX3_growAll_X0_growTwofold : GoodIn wsX3_growAll (wsV RX3 191 RX0 yX0_growTwofold wsX0_growTwofold) := goodIn_app (goodIn_of _ (by decide +kernel)) ggX3_growAll_X0_growTwofold
theorem dX3_growAll_0 : decode cX3_growAll 0 = .ok (.iconst 0, 1) := by decide +kernel
theorem dX3_growAll_1 : decode cX3_growAll 1 = .ok (.istore_n 1, 1) := by decide +kernel
theorem dX3_growAll_2 : decode cX3_growAll 2 = .ok (.iload_n 1, 1) := by decide +kernel
theorem dX3_growAll_3 : decode cX3_growAll 3 = .ok (.aload_n 0, 1) := by decide +kernel
theorem dX3_growAll_4 : decode cX3_growAll 4 = .ok (.arraylength, 1) := by decide +kernel
theorem dX3_growAll_5 : decode cX3_growAll 5 = .ok (.if_icmp .ge 18, 3) := by decide +kernel
theorem dX3_growAll_8 : decode cX3_growAll 8 = .ok (.aload_n 0, 1) := by decide +kernel
theorem dX3_growAll_9 : decode cX3_growAll 9 = .ok (.iload_n 1, 1) := by decide +kernel
theorem dX3_growAll_10 : decode cX3_growAll 10 = .ok (.aaload, 1) := by decide +kernel
theorem dX3_growAll_11 : decode cX3_growAll 11 = .ok (.getfield 178, 3) := by decide +kernel
theorem dX3_growAll_14 : decode cX3_growAll 14 = .ok (.invokevirtual 191, 3) := by decide +kernel
theorem dX3_growAll_17 : decode cX3_growAll 17 = .ok (.iinc 1 1, 3) := by decide +kernel
theorem dX3_growAll_20 : decode cX3_growAll 20 = .ok (.goto (-18), 3) := by decide +kernel
theorem dX3_growAll_23 : decode cX3_growAll 23 = .ok (.return_, 1) := by decide +kernel
set_option maxRecDepth 20000 in
theorem ggX3_follow_X1_makeFrom : GoodIn wsX3_follow wsX1_makeFrom := goodIn_r _ [13, 14, 15, 16, 17, 12, 18, 19, 20, 21, 22, 23, 24, 25, 26, 27, 28, 29, 30, 31, 32, 33, 34, 35, 36, 37, 38, 39, 40, 41, 42, 43, 44, 45, 46, 47, 48, 49, 50, 51, 52, 53, 54, 55, 56, 57, 58, 59, 60, 61, 62, 63, 64, 65, 66, 67, 68, 69, 70, 71, 72, 73, 74, 75, 76, 77, 78, 79, 80, 81, 82, 83, 84, 85, 86, 87, 88, 89, 90, 91, 92, 93, 94, 95, 96, 97, 98, 99, 100, 101, 102, 103, 104, 105, 106, 107, 108, 109, 110, 111, 112, 113, 114, 115, 116, 117, 118, 119, 120, 121, 196, 197, 198, 199, 200, 201] (by decide +kernel) (by decide +kernel)
set_option maxRecDepth 20000 in
theorem gX3_follow_X1_makeFrom : GoodIn wsX3_follow (wsV RX3 56 RX1 yX1_makeFrom wsX1_makeFrom) := goodIn_app (goodIn_of _ (by decide +kernel)) ggX3_follow_X1_makeFrom
set_option maxRecDepth 20000 in
theorem ggX3_follow_X3_makeRoom : GoodIn wsX3_follow wsX3_makeRoom := goodIn_r _ [125, 126, 127, 128, 129, 1, 3, 130, 131, 132, 35, 133, 40, 38, 37, 45, 134, 135, 136, 137, 24, 138, 139, 140, 141, 142, 143, 144, 145, 146, 147, 148, 149, 150, 151, 152, 153, 154, 155, 156, 157, 158, 59, 60, 61, 159, 160, 161, 162, 39, 46, 47, 48, 49, 196, 197, 183, 184, 185, 186, 187, 188, 189, 198, 199, 200, 201] (by decide +kernel) (by decide +kernel)
set_option maxRecDepth 20000 in
theorem gX3_follow_X3_makeRoom : GoodIn wsX3_follow (wsV RX3 112 RX3 yX3_makeRoom wsX3_makeRoom) := goodIn_app (goodIn_of _ (by decide +kernel)) ggX3_follow_X3_makeRoom
set_option maxRecDepth 20000 in
theorem ggX3_follow_X1_isWithin : GoodIn wsX3_follow wsX1_isWithin := goodIn_r _ [166, 19, 14, 70, 71, 72, 35, 73, 37, 38, 40, 196, 197, 198, 199, 200, 201] (by decide +kernel) (by decide +kernel)
set_option maxRecDepth 20000 in
theorem gX3_follow_X1_isWithin : GoodIn wsX3_follow (wsV RX3 101 RX1 yX1_isWithin wsX1_isWithin) := goodIn_app (goodIn_of _ (by decide +kernel)) ggX3_follow_X1_isWithin
set_option maxRecDepth 20000 in
theorem ggX3_follow_X1_loosenBy : GoodIn wsX3_follow wsX1_loosenBy := goodIn_r _ [170, 14, 171, 172, 173, 12, 174, 19, 50, 51, 52, 53, 54, 55, 56, 35, 57, 38, 58, 59, 60, 61, 70, 71, 72, 73, 37, 40, 121, 47, 48, 49, 45, 175, 176, 177, 178, 29, 30, 31, 90, 42, 43, 44, 23, 24, 25, 91, 92, 93, 94, 95, 96, 83, 84, 85, 39, 97, 98, 75, 76, 77, 107, 108, 109, 110, 86, 87, 88, 89, 99, 100, 101, 102, 103, 104, 105, 106, 41, 46, 196, 197, 198, 199, 200, 201] (by decide +kernel) (by decide +kernel)
set_option maxRecDepth 20000 in
theorem gX3_follow_X1_loosenBy : GoodIn wsX3_follow (wsV RX3 81 RX1 yX1_loosenBy wsX1_loosenBy) := goodIn_app (goodIn_of _ (by decide +kernel)) ggX3_follow_X1_loosenBy
set_option maxRecDepth 20000 in
theorem ggX3_follow_X1_stretchOver : GoodIn wsX3_follow wsX1_stretchOver := goodIn_r _ [182, 14, 171, 172, 173, 12, 174, 19, 50, 51, 52, 53, 54, 55, 56, 35, 57, 38, 58, 59, 60, 61, 70, 71, 72, 73, 37, 40, 74, 75, 76, 77, 196, 197, 198, 199, 200, 201] (by decide +kernel) (by decide +kernel)
set_option maxRecDepth 20000 in
theorem gX3_follow_X1_stretchOver : GoodIn wsX3_follow (wsV RX3 78 RX1 yX1_stretchOver wsX1_stretchOver) := goodIn_app (goodIn_of _ (by decide +kernel)) ggX3_follow_X1_stretchOver
theorem dX3_follow_0 : decode cX3_follow 0 = .ok (.aload_n 0, 1) := by decide +kernel
theorem dX3_follow_1 : decode cX3_follow 1 = .ok (.getfield 25, 3) := by decide +kernel
theorem dX3_follow_4 : decode cX3_follow 4 = .ok (.aload_n 1, 1) := by decide +kernel
theorem dX3_follow_5 : decode cX3_follow 5 = .ok (.getfield 194, 3) := by decide +kernel
theorem dX3_follow_8 : decode cX3_follow 8 = .ok (.aaload, 1) := by decide +kernel
theorem dX3_follow_9 : decode cX3_follow 9 = .ok (.astore_n 3, 1) := by decide +kernel
theorem dX3_follow_10 : decode cX3_follow 10 = .ok (.aload_n 0, 1) := by decide +kernel
theorem dX3_follow_11 : decode cX3_follow 11 = .ok (.getfield 29, 3) := by decide +kernel
theorem dX3_follow_14 : decode cX3_follow 14 = .ok (.aload_n 0, 1) := by decide +kernel
theorem dX3_follow_15 : decode cX3_follow 15 = .ok (.getfield 25, 3) := by decide +kernel
theorem dX3_follow_18 : decode cX3_follow 18 = .ok (.aload_n 1, 1) := by decide +kernel
theorem dX3_follow_19 : decode cX3_follow 19 = .ok (.getfield 197, 3) := by decide +kernel
theorem dX3_follow_22 : decode cX3_follow 22 = .ok (.aaload, 1) := by decide +kernel
theorem dX3_follow_23 : decode cX3_follow 23 = .ok (.aload_n 1, 1) := by decide +kernel
theorem dX3_follow_24 : decode cX3_follow 24 = .ok (.getfield 200, 3) := by decide +kernel
theorem dX3_follow_27 : decode cX3_follow 27 = .ok (.aload_n 1, 1) := by decide +kernel
theorem dX3_follow_28 : decode cX3_follow 28 = .ok (.getfield 203, 3) := by decide +kernel
theorem dX3_follow_31 : decode cX3_follow 31 = .ok (.aload_n 1, 1) := by decide +kernel
theorem dX3_follow_32 : decode cX3_follow 32 = .ok (.getfield 206, 3) := by decide +kernel
theorem dX3_follow_35 : decode cX3_follow 35 = .ok (.aload_n 1, 1) := by decide +kernel
theorem dX3_follow_36 : decode cX3_follow 36 = .ok (.getfield 209, 3) := by decide +kernel
theorem dX3_follow_39 : decode cX3_follow 39 = .ok (.invokevirtual 56, 3) := by decide +kernel
theorem dX3_follow_42 : decode cX3_follow 42 = .ok (.aload_n 0, 1) := by decide +kernel
theorem dX3_follow_43 : decode cX3_follow 43 = .ok (.aload_n 0, 1) := by decide +kernel
theorem dX3_follow_44 : decode cX3_follow 44 = .ok (.getfield 29, 3) := by decide +kernel
theorem dX3_follow_47 : decode cX3_follow 47 = .ok (.invokevirtual 112, 3) := by decide +kernel
theorem dX3_follow_50 : decode cX3_follow 50 = .ok (.aload_n 0, 1) := by decide +kernel
theorem dX3_follow_51 : decode cX3_follow 51 = .ok (.getfield 29, 3) := by decide +kernel
theorem dX3_follow_54 : decode cX3_follow 54 = .ok (.aload_n 3, 1) := by decide +kernel
theorem dX3_follow_55 : decode cX3_follow 55 = .ok (.invokevirtual 101, 3) := by decide +kernel
