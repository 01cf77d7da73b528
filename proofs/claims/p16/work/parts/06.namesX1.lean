theorem dX3_negation_0 : decode cX3_negation 0 = .ok (.iload_n 0, 1) := by decide +kernel
theorem dX3_negation_1 : decode cX3_negation 1 = .ok (.iconst 1, 1) := by decide +kernel
theorem dX3_negation_2 : decode cX3_negation 2 = .ok (.ixor, 1) := by decide +kernel
theorem dX3_negation_3 : decode cX3_negation 3 = .ok (.ireturn, 1) := by decide +kernel
set_option maxRecDepth 20000 in
theorem ggX1_init_X0_init : GoodIn wsX1_init wsX0_init := goodIn_r _ [11, 12, 2, 3, 13, 14, 15, 16, 17, 18, 19, 20, 21] rfl (by decide +kernel)
set_option maxRecDepth 20000 in
theorem gX1_init_X0_init : GoodIn wsX1_init (wsX0_init) := ggX1_init_X0_init
theorem dX1_init_0 : decode cX1_init 0 = .ok (.aload_n 0, 1) := by decide +kernel
theorem dX1_init_1 : decode cX1_init 1 = .ok (.invokespecial 5, 3) := by decide +kernel
theorem dX1_init_4 : decode cX1_init 4 = .ok (.aload_n 0, 1) := by decide +kernel
theorem dX1_init_5 : decode cX1_init 5 = .ok (.new 11, 3) := by decide +kernel
theorem dX1_init_8 : decode cX1_init 8 = .ok (.dup, 1) := by decide +kernel
theorem dX1_init_9 : decode cX1_init 9 = .ok (.sipush 157, 3) := by decide +kernel
theorem dX1_init_12 : decode cX1_init 12 = .ok (.invokespecial 13, 3) := by decide +kernel
theorem dX1_init_15 : decode cX1_init 15 = .ok (.putfield 16, 3) := by decide +kernel
theorem dX1_init_18 : decode cX1_init 18 = .ok (.aload_n 0, 1) := by decide +kernel
theorem dX1_init_19 : decode cX1_init 19 = .ok (.iconst 1, 1) := by decide +kernel
theorem dX1_init_20 : decode cX1_init 20 = .ok (.putfield 20, 3) := by decide +kernel
theorem dX1_init_23 : decode cX1_init 23 = .ok (.return_, 1) := by decide +kernel
theorem dX1_cell_0 : decode cX1_cell 0 = .ok (.iload_n 0, 1) := by decide +kernel
theorem dX1_cell_1 : decode cX1_cell 1 = .ok (.bipush 12, 2) := by decide +kernel
theorem dX1_cell_3 : decode cX1_cell 3 = .ok (.imul, 1) := by decide +kernel
theorem dX1_cell_4 : decode cX1_cell 4 = .ok (.iload_n 1, 1) := by decide +kernel
theorem dX1_cell_5 : decode cX1_cell 5 = .ok (.iadd, 1) := by decide +kernel
theorem dX1_cell_6 : decode cX1_cell 6 = .ok (.ireturn, 1) := by decide +kernel
set_option maxRecDepth 20000 in
theorem ggX1_allowAll_X1_release : GoodIn wsX1_allowAll wsX1_release := goodIn_r _ [6, 7, 8, 9, 5, 10, 11, 12, 13, 14, 15, 16, 17, 18, 19, 20, 21, 22, 23, 24, 25, 26, 27, 28, 29, 30] rfl (by decide +kernel)
set_option maxRecDepth 20000 in
theorem gX1_allowAll_X1_release : GoodIn wsX1_allowAll (wsV RX1 24 RX1 yX1_release wsX1_release) := goodIn_app (goodIn_of _ (by decide +kernel)) ggX1_allowAll_X1_release
theorem dX1_allowAll_0 : decode cX1_allowAll 0 = .ok (.aload_n 0, 1) := by decide +kernel
theorem dX1_allowAll_1 : decode cX1_allowAll 1 = .ok (.iconst 0, 1) := by decide +kernel
theorem dX1_allowAll_2 : decode cX1_allowAll 2 = .ok (.putfield 20, 3) := by decide +kernel
theorem dX1_allowAll_5 : decode cX1_allowAll 5 = .ok (.iconst 0, 1) := by decide +kernel
theorem dX1_allowAll_6 : decode cX1_allowAll 6 = .ok (.istore_n 1, 1) := by decide +kernel
theorem dX1_allowAll_7 : decode cX1_allowAll 7 = .ok (.iload_n 1, 1) := by decide +kernel
theorem dX1_allowAll_8 : decode cX1_allowAll 8 = .ok (.bipush 6, 2) := by decide +kernel
theorem dX1_allowAll_10 : decode cX1_allowAll 10 = .ok (.if_icmp .ge 14, 3) := by decide +kernel
theorem dX1_allowAll_13 : decode cX1_allowAll 13 = .ok (.aload_n 0, 1) := by decide +kernel
theorem dX1_allowAll_14 : decode cX1_allowAll 14 = .ok (.iload_n 1, 1) := by decide +kernel
theorem dX1_allowAll_15 : decode cX1_allowAll 15 = .ok (.invokevirtual 24, 3) := by decide +kernel
theorem dX1_allowAll_18 : decode cX1_allowAll 18 = .ok (.iinc 1 1, 3) := by decide +kernel
theorem dX1_allowAll_21 : decode cX1_allowAll 21 = .ok (.goto (-14), 3) := by decide +kernel
theorem dX1_allowAll_24 : decode cX1_allowAll 24 = .ok (.return_, 1) := by decide +kernel
set_option maxRecDepth 20000 in
theorem ggX1_takeOver_X0_takeOver : GoodIn wsX1_takeOver wsX0_takeOver := goodIn_r _ [7, 8, 9, 10, 11, 12, 15, 16, 17, 18] rfl (by decide +kernel)
set_option maxRecDepth 20000 in
theorem gX1_takeOver_X0_takeOver : GoodIn wsX1_takeOver (wsV RX1 27 RX0 yX0_takeOver wsX0_takeOver) := goodIn_app (goodIn_of _ (by decide +kernel)) ggX1_takeOver_X0_takeOver
theorem dX1_takeOver_0 : decode cX1_takeOver 0 = .ok (.aload_n 0, 1) := by decide +kernel
theorem dX1_takeOver_1 : decode cX1_takeOver 1 = .ok (.getfield 16, 3) := by decide +kernel
theorem dX1_takeOver_4 : decode cX1_takeOver 4 = .ok (.aload_n 1, 1) := by decide +kernel
theorem dX1_takeOver_5 : decode cX1_takeOver 5 = .ok (.getfield 16, 3) := by decide +kernel
theorem dX1_takeOver_8 : decode cX1_takeOver 8 = .ok (.invokevirtual 27, 3) := by decide +kernel
theorem dX1_takeOver_11 : decode cX1_takeOver 11 = .ok (.aload_n 0, 1) := by decide +kernel
theorem dX1_takeOver_12 : decode cX1_takeOver 12 = .ok (.aload_n 1, 1) := by decide +kernel
theorem dX1_takeOver_13 : decode cX1_takeOver 13 = .ok (.getfield 20, 3) := by decide +kernel
theorem dX1_takeOver_16 : decode cX1_takeOver 16 = .ok (.putfield 20, 3) := by decide +kernel
theorem dX1_takeOver_19 : decode cX1_takeOver 19 = .ok (.return_, 1) := by decide +kernel
set_option maxRecDepth 20000 in
theorem ggX1_makeFrom_X1_tell : GoodIn wsX1_makeFrom wsX1_tell := goodIn_r _ [6, 7, 1, 8, 9, 5, 10, 11, 12, 13, 14, 15, 16, 17, 18, 19, 20, 21, 22, 23, 24, 25, 26, 27, 28, 29, 30, 31, 32, 33, 34, 35, 36, 37, 110, 111, 112, 113, 114, 115] rfl (by decide +kernel)
set_option maxRecDepth 20000 in
theorem gX1_makeFrom_X1_tell : GoodIn wsX1_makeFrom (wsV RX1 31 RX1 yX1_tell wsX1_tell) := goodIn_app (goodIn_of _ (by decide +kernel)) ggX1_makeFrom_X1_tell
set_option maxRecDepth 20000 in
theorem ggX1_makeFrom_X1_takeOver : GoodIn wsX1_makeFrom wsX1_takeOver := goodIn_r _ [41, 1, 7, 42, 43, 44, 23, 45, 26, 46, 47, 48, 49, 110, 111, 112, 113, 114, 115] rfl (by decide +kernel)
set_option maxRecDepth 20000 in
theorem gX1_makeFrom_X1_takeOver : GoodIn wsX1_makeFrom (wsV RX1 35 RX1 yX1_takeOver wsX1_takeOver) := goodIn_app (goodIn_of _ (by decide +kernel)) ggX1_makeFrom_X1_takeOver
set_option maxRecDepth 20000 in
theorem ggX1_makeFrom_X0_set : GoodIn wsX1_makeFrom wsX0_set := goodIn_r _ [53, 25, 26, 27, 28, 112, 113, 114, 115] rfl (by decide +kernel)
set_option maxRecDepth 20000 in
theorem gX1_makeFrom_X0_set : GoodIn wsX1_makeFrom (wsV RX1 38 RX0 yX0_set wsX0_set) := goodIn_app (goodIn_of _ (by decide +kernel)) ggX1_makeFrom_X0_set
set_option maxRecDepth 20000 in
theorem ggX1_makeFrom_X1_holdToSpare : GoodIn wsX1_makeFrom wsX1_holdToSpare := goodIn_r _ [57, 7, 1, 17, 18, 5, 19, 58, 59, 60, 23, 61, 25, 26, 28, 62, 63, 64, 65, 66, 67, 68, 69, 11, 12, 13, 70, 71, 72, 73, 33, 27, 74, 75, 76, 77, 78, 30, 31, 32, 79, 80, 81, 82, 83, 84, 85, 86, 87, 88, 89, 90, 91, 92, 93, 94, 29, 34, 35, 36, 37, 95, 96, 97, 98, 110, 111, 112, 113, 114, 115] rfl (by decide +kernel)
set_option maxRecDepth 20000 in
theorem gX1_makeFrom_X1_holdToSpare : GoodIn wsX1_makeFrom (wsV RX1 42 RX1 yX1_holdToSpare wsX1_holdToSpare) := goodIn_app (goodIn_of _ (by decide +kernel)) ggX1_makeFrom_X1_holdToSpare
set_option maxRecDepth 20000 in
theorem ggX1_makeFrom_X1_scatter : GoodIn wsX1_makeFrom wsX1_scatter := goodIn_r _ [102, 1, 103, 104, 105, 106, 107, 5, 108, 17, 18, 19, 109, 35, 36, 23, 37, 25, 26, 28, 33, 50, 51, 52, 53, 27, 87, 88, 89, 90, 7, 91, 92, 93, 94, 29, 30, 31, 32, 34, 78, 79, 80, 81, 82, 83, 84, 71, 72, 73, 85, 59, 60, 61, 86, 63, 64, 65, 95, 96, 97, 98, 11, 12, 13, 74, 75, 76, 77, 110, 111, 112, 113, 114, 115] rfl (by decide +kernel)
set_option maxRecDepth 20000 in
theorem gX1_makeFrom_X1_scatter : GoodIn wsX1_makeFrom (wsV RX1 46 RX1 yX1_scatter wsX1_scatter) := goodIn_app (goodIn_of _ (by decide +kernel)) ggX1_makeFrom_X1_scatter
theorem dX1_makeFrom_0 : decode cX1_makeFrom 0 = .ok (.iload_n 2, 1) := by decide +kernel
theorem dX1_makeFrom_1 : decode cX1_makeFrom 1 = .ok (.iconst 1, 1) := by decide +kernel
theorem dX1_makeFrom_2 : decode cX1_makeFrom 2 = .ok (.if_icmp .ne 14, 3) := by decide +kernel
theorem dX1_makeFrom_5 : decode cX1_makeFrom 5 = .ok (.aload_n 0, 1) := by decide +kernel
theorem dX1_makeFrom_6 : decode cX1_makeFrom 6 = .ok (.aload_n 1, 1) := by decide +kernel
theorem dX1_makeFrom_7 : decode cX1_makeFrom 7 = .ok (.iload_n 3, 1) := by decide +kernel
theorem dX1_makeFrom_8 : decode cX1_makeFrom 8 = .ok (.iload 4, 2) := by decide +kernel
theorem dX1_makeFrom_10 : decode cX1_makeFrom 10 = .ok (.iload 5, 2) := by decide +kernel
theorem dX1_makeFrom_12 : decode cX1_makeFrom 12 = .ok (.invokevirtual 31, 3) := by decide +kernel
theorem dX1_makeFrom_15 : decode cX1_makeFrom 15 = .ok (.return_, 1) := by decide +kernel
theorem dX1_makeFrom_16 : decode cX1_makeFrom 16 = .ok (.aload_n 0, 1) := by decide +kernel
theorem dX1_makeFrom_17 : decode cX1_makeFrom 17 = .ok (.aload_n 1, 1) := by decide +kernel
theorem dX1_makeFrom_18 : decode cX1_makeFrom 18 = .ok (.invokevirtual 35, 3) := by decide +kernel
theorem dX1_makeFrom_21 : decode cX1_makeFrom 21 = .ok (.iload_n 2, 1) := by decide +kernel
theorem dX1_makeFrom_22 : decode cX1_makeFrom 22 = .ok (.ifCond .ne 40, 3) := by decide +kernel
theorem dX1_makeFrom_25 : decode cX1_makeFrom 25 = .ok (.aload_n 0, 1) := by decide +kernel
theorem dX1_makeFrom_26 : decode cX1_makeFrom 26 = .ok (.getfield 16, 3) := by decide +kernel
theorem dX1_makeFrom_29 : decode cX1_makeFrom 29 = .ok (.sipush 156, 3) := by decide +kernel
theorem dX1_makeFrom_32 : decode cX1_makeFrom 32 = .ok (.iload_n 3, 1) := by decide +kernel
theorem dX1_makeFrom_33 : decode cX1_makeFrom 33 = .ok (.iload 4, 2) := by decide +kernel
theorem dX1_makeFrom_35 : decode cX1_makeFrom 35 = .ok (.if_icmp .ne 11, 3) := by decide +kernel
theorem dX1_makeFrom_38 : decode cX1_makeFrom 38 = .ok (.iconst 2, 1) := by decide +kernel
theorem dX1_makeFrom_39 : decode cX1_makeFrom 39 = .ok (.iload 5, 2) := by decide +kernel
theorem dX1_makeFrom_41 : decode cX1_makeFrom 41 = .ok (.imul, 1) := by decide +kernel
theorem dX1_makeFrom_42 : decode cX1_makeFrom 42 = .ok (.i2l, 1) := by decide +kernel
theorem dX1_makeFrom_43 : decode cX1_makeFrom 43 = .ok (.goto 6, 3) := by decide +kernel
theorem dX1_makeFrom_46 : decode cX1_makeFrom 46 = .ok (.iload 5, 2) := by decide +kernel
theorem dX1_makeFrom_48 : decode cX1_makeFrom 48 = .ok (.i2l, 1) := by decide +kernel
theorem dX1_makeFrom_49 : decode cX1_makeFrom 49 = .ok (.invokevirtual 38, 3) := by decide +kernel
theorem dX1_makeFrom_52 : decode cX1_makeFrom 52 = .ok (.aload_n 0, 1) := by decide +kernel
theorem dX1_makeFrom_53 : decode cX1_makeFrom 53 = .ok (.iload_n 3, 1) := by decide +kernel
theorem dX1_makeFrom_54 : decode cX1_makeFrom 54 = .ok (.iload 4, 2) := by decide +kernel
theorem dX1_makeFrom_56 : decode cX1_makeFrom 56 = .ok (.invokevirtual 42, 3) := by decide +kernel
theorem dX1_makeFrom_59 : decode cX1_makeFrom 59 = .ok (.goto 14, 3) := by decide +kernel
theorem dX1_makeFrom_62 : decode cX1_makeFrom 62 = .ok (.aload_n 0, 1) := by decide +kernel
theorem dX1_makeFrom_63 : decode cX1_makeFrom 63 = .ok (.iload_n 3, 1) := by decide +kernel
theorem dX1_makeFrom_64 : decode cX1_makeFrom 64 = .ok (.iload 4, 2) := by decide +kernel
theorem dX1_makeFrom_66 : decode cX1_makeFrom 66 = .ok (.i2l, 1) := by decide +kernel
theorem dX1_makeFrom_67 : decode cX1_makeFrom 67 = .ok (.iload 5, 2) := by decide +kernel
theorem dX1_makeFrom_69 : decode cX1_makeFrom 69 = .ok (.i2l, 1) := by decide +kernel
theorem dX1_makeFrom_70 : decode cX1_makeFrom 70 = .ok (.invokevirtual 46, 3) := by decide +kernel
theorem dX1_makeFrom_73 : decode cX1_makeFrom 73 = .ok (.return_, 1) := by decide +kernel
set_option maxRecDepth 20000 in
theorem ggX1_release_X1_cell : GoodIn wsX1_release wsX1_cell := goodIn_r _ [5] rfl (by decide +kernel)
set_option maxRecDepth 20000 in
theorem gX1_release_X1_cell : GoodIn wsX1_release (va_wsS RX1 50 yX1_cell wsX1_cell) := goodIn_app (goodIn_of _ (by decide +kernel)) ggX1_release_X1_cell
set_option maxRecDepth 20000 in
theorem ggX1_release_X0_setInfinite : GoodIn wsX1_release wsX0_setInfinite := goodIn_r _ [10, 11, 12, 13, 14, 22, 23, 24, 25] rfl (by decide +kernel)
set_option maxRecDepth 20000 in
theorem gX1_release_X0_setInfinite : GoodIn wsX1_release (wsV RX1 54 RX0 yX0_setInfinite wsX0_setInfinite) := goodIn_app (goodIn_of _ (by decide +kernel)) ggX1_release_X0_setInfinite
set_option maxRecDepth 20000 in
theorem ggX1_release_X0_set : GoodIn wsX1_release wsX0_set := goodIn_r _ [18, 11, 12, 19, 13, 22, 23, 24, 25] rfl (by decide +kernel)
set_option maxRecDepth 20000 in
theorem gX1_release_X0_set : GoodIn wsX1_release (wsV RX1 38 RX0 yX0_set wsX0_set) := goodIn_app (goodIn_of _ (by decide +kernel)) ggX1_release_X0_set
theorem dX1_release_0 : decode cX1_release 0 = .ok (.iconst 2, 1) := by decide +kernel
theorem dX1_release_1 : decode cX1_release 1 = .ok (.iload_n 1, 1) := by decide +kernel
theorem dX1_release_2 : decode cX1_release 2 = .ok (.imul, 1) := by decide +kernel
theorem dX1_release_3 : decode cX1_release 3 = .ok (.istore_n 2, 1) := by decide +kernel
theorem dX1_release_4 : decode cX1_release 4 = .ok (.iload_n 2, 1) := by decide +kernel
theorem dX1_release_5 : decode cX1_release 5 = .ok (.iconst 2, 1) := by decide +kernel
theorem dX1_release_6 : decode cX1_release 6 = .ok (.iload_n 1, 1) := by decide +kernel
theorem dX1_release_7 : decode cX1_release 7 = .ok (.imul, 1) := by decide +kernel
theorem dX1_release_8 : decode cX1_release 8 = .ok (.iconst 1, 1) := by decide +kernel
theorem dX1_release_9 : decode cX1_release 9 = .ok (.iadd, 1) := by decide +kernel
theorem dX1_release_10 : decode cX1_release 10 = .ok (.if_icmp .gt 47, 3) := by decide +kernel
theorem dX1_release_13 : decode cX1_release 13 = .ok (.iconst 0, 1) := by decide +kernel
theorem dX1_release_14 : decode cX1_release 14 = .ok (.istore_n 3, 1) := by decide +kernel
theorem dX1_release_15 : decode cX1_release 15 = .ok (.iload_n 3, 1) := by decide +kernel
theorem dX1_release_16 : decode cX1_release 16 = .ok (.bipush 12, 2) := by decide +kernel
theorem dX1_release_18 : decode cX1_release 18 = .ok (.if_icmp .ge 33, 3) := by decide +kernel
theorem dX1_release_21 : decode cX1_release 21 = .ok (.aload_n 0, 1) := by decide +kernel
theorem dX1_release_22 : decode cX1_release 22 = .ok (.getfield 16, 3) := by decide +kernel
theorem dX1_release_25 : decode cX1_release 25 = .ok (.iload_n 2, 1) := by decide +kernel
theorem dX1_release_26 : decode cX1_release 26 = .ok (.iload_n 3, 1) := by decide +kernel
theorem dX1_release_27 : decode cX1_release 27 = .ok (.invokestatic 50, 3) := by decide +kernel
theorem dX1_release_30 : decode cX1_release 30 = .ok (.invokevirtual 54, 3) := by decide +kernel
theorem dX1_release_33 : decode cX1_release 33 = .ok (.aload_n 0, 1) := by decide +kernel
theorem dX1_release_34 : decode cX1_release 34 = .ok (.getfield 16, 3) := by decide +kernel
theorem dX1_release_37 : decode cX1_release 37 = .ok (.iload_n 3, 1) := by decide +kernel
theorem dX1_release_38 : decode cX1_release 38 = .ok (.iload_n 2, 1) := by decide +kernel
theorem dX1_release_39 : decode cX1_release 39 = .ok (.invokestatic 50, 3) := by decide +kernel
theorem dX1_release_42 : decode cX1_release 42 = .ok (.invokevirtual 54, 3) := by decide +kernel
theorem dX1_release_45 : decode cX1_release 45 = .ok (.iinc 3 1, 3) := by decide +kernel
theorem dX1_release_48 : decode cX1_release 48 = .ok (.goto (-33), 3) := by decide +kernel
theorem dX1_release_51 : decode cX1_release 51 = .ok (.iinc 2 1, 3) := by decide +kernel
theorem dX1_release_54 : decode cX1_release 54 = .ok (.goto (-50), 3) := by decide +kernel
theorem dX1_release_57 : decode cX1_release 57 = .ok (.aload_n 0, 1) := by decide +kernel
theorem dX1_release_58 : decode cX1_release 58 = .ok (.getfield 16, 3) := by decide +kernel
theorem dX1_release_61 : decode cX1_release 61 = .ok (.iconst 2, 1) := by decide +kernel
theorem dX1_release_62 : decode cX1_release 62 = .ok (.iload_n 1, 1) := by decide +kernel
theorem dX1_release_63 : decode cX1_release 63 = .ok (.imul, 1) := by decide +kernel
theorem dX1_release_64 : decode cX1_release 64 = .ok (.iconst 2, 1) := by decide +kernel
theorem dX1_release_65 : decode cX1_release 65 = .ok (.iload_n 1, 1) := by decide +kernel
theorem dX1_release_66 : decode cX1_release 66 = .ok (.imul, 1) := by decide +kernel
theorem dX1_release_67 : decode cX1_release 67 = .ok (.iconst 1, 1) := by decide +kernel
theorem dX1_release_68 : decode cX1_release 68 = .ok (.iadd, 1) := by decide +kernel
theorem dX1_release_69 : decode cX1_release 69 = .ok (.invokestatic 50, 3) := by decide +kernel
theorem dX1_release_72 : decode cX1_release 72 = .ok (.lconst 0, 1) := by decide +kernel
theorem dX1_release_73 : decode cX1_release 73 = .ok (.invokevirtual 38, 3) := by decide +kernel
theorem dX1_release_76 : decode cX1_release 76 = .ok (.aload_n 0, 1) := by decide +kernel
theorem dX1_release_77 : decode cX1_release 77 = .ok (.getfield 16, 3) := by decide +kernel
theorem dX1_release_80 : decode cX1_release 80 = .ok (.iconst 2, 1) := by decide +kernel
theorem dX1_release_81 : decode cX1_release 81 = .ok (.iload_n 1, 1) := by decide +kernel
theorem dX1_release_82 : decode cX1_release 82 = .ok (.imul, 1) := by decide +kernel
theorem dX1_release_83 : decode cX1_release 83 = .ok (.iconst 1, 1) := by decide +kernel
theorem dX1_release_84 : decode cX1_release 84 = .ok (.iadd, 1) := by decide +kernel
theorem dX1_release_85 : decode cX1_release 85 = .ok (.iconst 2, 1) := by decide +kernel
theorem dX1_release_86 : decode cX1_release 86 = .ok (.iload_n 1, 1) := by decide +kernel
theorem dX1_release_87 : decode cX1_release 87 = .ok (.imul, 1) := by decide +kernel
theorem dX1_release_88 : decode cX1_release 88 = .ok (.invokestatic 50, 3) := by decide +kernel
theorem dX1_release_91 : decode cX1_release 91 = .ok (.lconst 0, 1) := by decide +kernel
theorem dX1_release_92 : decode cX1_release 92 = .ok (.invokevirtual 38, 3) := by decide +kernel
theorem dX1_release_95 : decode cX1_release 95 = .ok (.return_, 1) := by decide +kernel
set_option maxRecDepth 20000 in
theorem ggX1_holdToSpare_X1_cell : GoodIn wsX1_holdToSpare wsX1_cell := goodIn_r _ [6] rfl (by decide +kernel)
set_option maxRecDepth 20000 in
theorem gX1_holdToSpare_X1_cell : GoodIn wsX1_holdToSpare (va_wsS RX1 50 yX1_cell wsX1_cell) := goodIn_app (goodIn_of _ (by decide +kernel)) ggX1_holdToSpare_X1_cell
set_option maxRecDepth 20000 in
theorem ggX1_holdToSpare_X0_isLess : GoodIn wsX1_holdToSpare wsX0_isLess := goodIn_r _ [11, 12, 13, 14, 67, 68, 69, 70] rfl (by decide +kernel)
set_option maxRecDepth 20000 in
theorem gX1_holdToSpare_X0_isLess : GoodIn wsX1_holdToSpare (wsV RX1 57 RX0 yX0_isLess wsX0_isLess) := goodIn_app (goodIn_of _ (by decide +kernel)) ggX1_holdToSpare_X0_isLess
set_option maxRecDepth 20000 in
theorem ggX1_holdToSpare_X0_put : GoodIn wsX1_holdToSpare wsX0_put := goodIn_r _ [18, 12, 13, 14, 67, 68, 69, 70] rfl (by decide +kernel)
set_option maxRecDepth 20000 in
theorem gX1_holdToSpare_X0_put : GoodIn wsX1_holdToSpare (wsV RX1 61 RX0 yX0_put wsX0_put) := goodIn_app (goodIn_of _ (by decide +kernel)) ggX1_holdToSpare_X0_put
set_option maxRecDepth 20000 in
theorem ggX1_holdToSpare_X1_passThrough : GoodIn wsX1_holdToSpare wsX1_passThrough := goodIn_r _ [22, 2, 1, 3, 4, 5, 6, 23, 24, 25, 26, 27, 28, 10, 29, 13, 12, 30, 31, 14, 32, 33, 34, 35, 36, 37, 38, 39, 40, 41, 42, 43, 44, 45, 46, 8, 9, 11, 47, 16, 17, 18, 65, 66, 67, 68, 69, 70] rfl (by decide +kernel)
set_option maxRecDepth 20000 in
theorem gX1_holdToSpare_X1_passThrough : GoodIn wsX1_holdToSpare (wsV RX1 65 RX1 yX1_passThrough wsX1_passThrough) := goodIn_app (goodIn_of _ (by decide +kernel)) ggX1_holdToSpare_X1_passThrough
set_option maxRecDepth 20000 in
theorem ggX1_holdToSpare_X1_combineSingles : GoodIn wsX1_holdToSpare wsX1_combineSingles := goodIn_r _ [51, 1, 2, 3, 4, 5, 6, 52, 53, 54, 10, 55, 13, 12, 14, 56, 37, 38, 39, 30, 57, 58, 59, 60, 36, 40, 41, 42, 43, 44, 45, 27, 28, 29, 31, 46, 8, 9, 11, 47, 16, 17, 18, 61, 62, 63, 64, 23, 24, 25, 32, 33, 34, 35, 65, 66, 67, 68, 69, 70] rfl (by decide +kernel)
set_option maxRecDepth 20000 in
theorem gX1_holdToSpare_X1_combineSingles : GoodIn wsX1_holdToSpare (wsV RX1 68 RX1 yX1_combineSingles wsX1_combineSingles) := goodIn_app (goodIn_of _ (by decide +kernel)) ggX1_holdToSpare_X1_combineSingles
theorem dX1_holdToSpare_0 : decode cX1_holdToSpare 0 = .ok (.aload_n 0, 1) := by decide +kernel
theorem dX1_holdToSpare_1 : decode cX1_holdToSpare 1 = .ok (.getfield 20, 3) := by decide +kernel
theorem dX1_holdToSpare_4 : decode cX1_holdToSpare 4 = .ok (.ifCond .ne 25, 3) := by decide +kernel
theorem dX1_holdToSpare_7 : decode cX1_holdToSpare 7 = .ok (.aload_n 0, 1) := by decide +kernel
theorem dX1_holdToSpare_8 : decode cX1_holdToSpare 8 = .ok (.getfield 16, 3) := by decide +kernel
theorem dX1_holdToSpare_11 : decode cX1_holdToSpare 11 = .ok (.sipush 156, 3) := by decide +kernel
theorem dX1_holdToSpare_14 : decode cX1_holdToSpare 14 = .ok (.aload_n 0, 1) := by decide +kernel
theorem dX1_holdToSpare_15 : decode cX1_holdToSpare 15 = .ok (.getfield 16, 3) := by decide +kernel
theorem dX1_holdToSpare_18 : decode cX1_holdToSpare 18 = .ok (.iload_n 1, 1) := by decide +kernel
theorem dX1_holdToSpare_19 : decode cX1_holdToSpare 19 = .ok (.iload_n 2, 1) := by decide +kernel
theorem dX1_holdToSpare_20 : decode cX1_holdToSpare 20 = .ok (.invokestatic 50, 3) := by decide +kernel
theorem dX1_holdToSpare_23 : decode cX1_holdToSpare 23 = .ok (.invokevirtual 57, 3) := by decide +kernel
theorem dX1_holdToSpare_26 : decode cX1_holdToSpare 26 = .ok (.ifCond .ne 4, 3) := by decide +kernel
theorem dX1_holdToSpare_29 : decode cX1_holdToSpare 29 = .ok (.return_, 1) := by decide +kernel
theorem dX1_holdToSpare_30 : decode cX1_holdToSpare 30 = .ok (.aload_n 0, 1) := by decide +kernel
theorem dX1_holdToSpare_31 : decode cX1_holdToSpare 31 = .ok (.getfield 16, 3) := by decide +kernel
theorem dX1_holdToSpare_34 : decode cX1_holdToSpare 34 = .ok (.iload_n 1, 1) := by decide +kernel
theorem dX1_holdToSpare_35 : decode cX1_holdToSpare 35 = .ok (.iload_n 2, 1) := by decide +kernel
theorem dX1_holdToSpare_36 : decode cX1_holdToSpare 36 = .ok (.invokestatic 50, 3) := by decide +kernel
theorem dX1_holdToSpare_39 : decode cX1_holdToSpare 39 = .ok (.aload_n 0, 1) := by decide +kernel
theorem dX1_holdToSpare_40 : decode cX1_holdToSpare 40 = .ok (.getfield 16, 3) := by decide +kernel
theorem dX1_holdToSpare_43 : decode cX1_holdToSpare 43 = .ok (.sipush 156, 3) := by decide +kernel
theorem dX1_holdToSpare_46 : decode cX1_holdToSpare 46 = .ok (.invokevirtual 61, 3) := by decide +kernel
theorem dX1_holdToSpare_49 : decode cX1_holdToSpare 49 = .ok (.aload_n 0, 1) := by decide +kernel
theorem dX1_holdToSpare_50 : decode cX1_holdToSpare 50 = .ok (.getfield 16, 3) := by decide +kernel
theorem dX1_holdToSpare_53 : decode cX1_holdToSpare 53 = .ok (.iload_n 2, 1) := by decide +kernel
theorem dX1_holdToSpare_54 : decode cX1_holdToSpare 54 = .ok (.iload_n 1, 1) := by decide +kernel
theorem dX1_holdToSpare_55 : decode cX1_holdToSpare 55 = .ok (.invokestatic 50, 3) := by decide +kernel
theorem dX1_holdToSpare_58 : decode cX1_holdToSpare 58 = .ok (.aload_n 0, 1) := by decide +kernel
theorem dX1_holdToSpare_59 : decode cX1_holdToSpare 59 = .ok (.getfield 16, 3) := by decide +kernel
theorem dX1_holdToSpare_62 : decode cX1_holdToSpare 62 = .ok (.sipush 156, 3) := by decide +kernel
theorem dX1_holdToSpare_65 : decode cX1_holdToSpare 65 = .ok (.invokevirtual 61, 3) := by decide +kernel
theorem dX1_holdToSpare_68 : decode cX1_holdToSpare 68 = .ok (.aload_n 0, 1) := by decide +kernel
theorem dX1_holdToSpare_69 : decode cX1_holdToSpare 69 = .ok (.iload_n 1, 1) := by decide +kernel
theorem dX1_holdToSpare_70 : decode cX1_holdToSpare 70 = .ok (.iload_n 2, 1) := by decide +kernel
theorem dX1_holdToSpare_71 : decode cX1_holdToSpare 71 = .ok (.invokevirtual 65, 3) := by decide +kernel
theorem dX1_holdToSpare_74 : decode cX1_holdToSpare 74 = .ok (.iload_n 1, 1) := by decide +kernel
theorem dX1_holdToSpare_75 : decode cX1_holdToSpare 75 = .ok (.iload_n 2, 1) := by decide +kernel
theorem dX1_holdToSpare_76 : decode cX1_holdToSpare 76 = .ok (.if_icmp .eq 9, 3) := by decide +kernel
theorem dX1_holdToSpare_79 : decode cX1_holdToSpare 79 = .ok (.aload_n 0, 1) := by decide +kernel
theorem dX1_holdToSpare_80 : decode cX1_holdToSpare 80 = .ok (.iload_n 2, 1) := by decide +kernel
theorem dX1_holdToSpare_81 : decode cX1_holdToSpare 81 = .ok (.iload_n 1, 1) := by decide +kernel
theorem dX1_holdToSpare_82 : decode cX1_holdToSpare 82 = .ok (.invokevirtual 65, 3) := by decide +kernel
theorem dX1_holdToSpare_85 : decode cX1_holdToSpare 85 = .ok (.aload_n 0, 1) := by decide +kernel
theorem dX1_holdToSpare_86 : decode cX1_holdToSpare 86 = .ok (.invokevirtual 68, 3) := by decide +kernel
theorem dX1_holdToSpare_89 : decode cX1_holdToSpare 89 = .ok (.return_, 1) := by decide +kernel
set_option maxRecDepth 20000 in
theorem ggX1_tell_X1_oldTerm : GoodIn wsX1_tell wsX1_oldTerm := goodIn_r _ [6, 7, 8, 9] rfl (by decide +kernel)
set_option maxRecDepth 20000 in
theorem gX1_tell_X1_oldTerm : GoodIn wsX1_tell (va_wsS RX1 71 yX1_oldTerm wsX1_oldTerm) := goodIn_app (goodIn_of _ (by decide +kernel)) ggX1_tell_X1_oldTerm
set_option maxRecDepth 20000 in
theorem ggX1_tell_X1_moreOf : GoodIn wsX1_tell wsX1_moreOf := goodIn_r _ [12] rfl (by decide +kernel)
set_option maxRecDepth 20000 in
theorem gX1_tell_X1_moreOf : GoodIn wsX1_tell (va_wsS RX1 75 yX1_moreOf wsX1_moreOf) := goodIn_app (goodIn_of _ (by decide +kernel)) ggX1_tell_X1_moreOf
set_option maxRecDepth 20000 in
theorem ggX1_tell_X1_cell : GoodIn wsX1_tell wsX1_cell := goodIn_r _ [15] rfl (by decide +kernel)
set_option maxRecDepth 20000 in
theorem gX1_tell_X1_cell : GoodIn wsX1_tell (va_wsS RX1 50 yX1_cell wsX1_cell) := goodIn_app (goodIn_of _ (by decide +kernel)) ggX1_tell_X1_cell
set_option maxRecDepth 20000 in
theorem ggX1_tell_X0_putMore : GoodIn wsX1_tell wsX0_putMore := goodIn_r _ [20, 21, 22, 23, 24, 25, 26, 27, 19, 28, 29, 30, 31, 32, 33, 36, 37, 38, 39] rfl (by decide +kernel)
set_option maxRecDepth 20000 in
theorem gX1_tell_X0_putMore : GoodIn wsX1_tell (wsV RX1 78 RX0 yX0_putMore wsX0_putMore) := goodIn_app (goodIn_of _ (by decide +kernel)) ggX1_tell_X0_putMore
theorem dX1_tell_0 : decode cX1_tell 0 = .ok (.aload_n 0, 1) := by decide +kernel
theorem dX1_tell_1 : decode cX1_tell 1 = .ok (.aload_n 1, 1) := by decide +kernel
theorem dX1_tell_2 : decode cX1_tell 2 = .ok (.getfield 20, 3) := by decide +kernel
theorem dX1_tell_5 : decode cX1_tell 5 = .ok (.putfield 20, 3) := by decide +kernel
theorem dX1_tell_8 : decode cX1_tell 8 = .ok (.iconst 0, 1) := by decide +kernel
theorem dX1_tell_9 : decode cX1_tell 9 = .ok (.istore 5, 2) := by decide +kernel
theorem dX1_tell_11 : decode cX1_tell 11 = .ok (.iload 5, 2) := by decide +kernel
theorem dX1_tell_13 : decode cX1_tell 13 = .ok (.bipush 12, 2) := by decide +kernel
theorem dX1_tell_15 : decode cX1_tell 15 = .ok (.if_icmp .ge 90, 3) := by decide +kernel
theorem dX1_tell_18 : decode cX1_tell 18 = .ok (.iload 5, 2) := by decide +kernel
theorem dX1_tell_20 : decode cX1_tell 20 = .ok (.iload_n 2, 1) := by decide +kernel
theorem dX1_tell_21 : decode cX1_tell 21 = .ok (.iload_n 3, 1) := by decide +kernel
theorem dX1_tell_22 : decode cX1_tell 22 = .ok (.invokestatic 71, 3) := by decide +kernel
theorem dX1_tell_25 : decode cX1_tell 25 = .ok (.istore 6, 2) := by decide +kernel
theorem dX1_tell_27 : decode cX1_tell 27 = .ok (.iload 5, 2) := by decide +kernel
theorem dX1_tell_29 : decode cX1_tell 29 = .ok (.iload_n 2, 1) := by decide +kernel
theorem dX1_tell_30 : decode cX1_tell 30 = .ok (.iload 4, 2) := by decide +kernel
theorem dX1_tell_32 : decode cX1_tell 32 = .ok (.invokestatic 75, 3) := by decide +kernel
theorem dX1_tell_35 : decode cX1_tell 35 = .ok (.istore 7, 2) := by decide +kernel
theorem dX1_tell_37 : decode cX1_tell 37 = .ok (.iconst 0, 1) := by decide +kernel
theorem dX1_tell_38 : decode cX1_tell 38 = .ok (.istore 8, 2) := by decide +kernel
theorem dX1_tell_40 : decode cX1_tell 40 = .ok (.iload 8, 2) := by decide +kernel
theorem dX1_tell_42 : decode cX1_tell 42 = .ok (.bipush 12, 2) := by decide +kernel
theorem dX1_tell_44 : decode cX1_tell 44 = .ok (.if_icmp .ge 55, 3) := by decide +kernel
theorem dX1_tell_47 : decode cX1_tell 47 = .ok (.iload 6, 2) := by decide +kernel
theorem dX1_tell_49 : decode cX1_tell 49 = .ok (.iload 8, 2) := by decide +kernel
theorem dX1_tell_51 : decode cX1_tell 51 = .ok (.iload_n 2, 1) := by decide +kernel
theorem dX1_tell_52 : decode cX1_tell 52 = .ok (.iload_n 3, 1) := by decide +kernel
theorem dX1_tell_53 : decode cX1_tell 53 = .ok (.invokestatic 71, 3) := by decide +kernel
theorem dX1_tell_56 : decode cX1_tell 56 = .ok (.invokestatic 50, 3) := by decide +kernel
theorem dX1_tell_59 : decode cX1_tell 59 = .ok (.istore 9, 2) := by decide +kernel
theorem dX1_tell_61 : decode cX1_tell 61 = .ok (.aload_n 0, 1) := by decide +kernel
theorem dX1_tell_62 : decode cX1_tell 62 = .ok (.getfield 16, 3) := by decide +kernel
theorem dX1_tell_65 : decode cX1_tell 65 = .ok (.iload 5, 2) := by decide +kernel
theorem dX1_tell_67 : decode cX1_tell 67 = .ok (.iload 8, 2) := by decide +kernel
theorem dX1_tell_69 : decode cX1_tell 69 = .ok (.invokestatic 50, 3) := by decide +kernel
theorem dX1_tell_72 : decode cX1_tell 72 = .ok (.aload_n 1, 1) := by decide +kernel
theorem dX1_tell_73 : decode cX1_tell 73 = .ok (.getfield 16, 3) := by decide +kernel
theorem dX1_tell_76 : decode cX1_tell 76 = .ok (.iload 9, 2) := by decide +kernel
theorem dX1_tell_78 : decode cX1_tell 78 = .ok (.iload 7, 2) := by decide +kernel
theorem dX1_tell_80 : decode cX1_tell 80 = .ok (.iload 8, 2) := by decide +kernel
theorem dX1_tell_82 : decode cX1_tell 82 = .ok (.iload_n 2, 1) := by decide +kernel
theorem dX1_tell_83 : decode cX1_tell 83 = .ok (.iload 4, 2) := by decide +kernel
theorem dX1_tell_85 : decode cX1_tell 85 = .ok (.invokestatic 75, 3) := by decide +kernel
theorem dX1_tell_88 : decode cX1_tell 88 = .ok (.iadd, 1) := by decide +kernel
theorem dX1_tell_89 : decode cX1_tell 89 = .ok (.i2l, 1) := by decide +kernel
theorem dX1_tell_90 : decode cX1_tell 90 = .ok (.invokevirtual 78, 3) := by decide +kernel
theorem dX1_tell_93 : decode cX1_tell 93 = .ok (.iinc 8 1, 3) := by decide +kernel
theorem dX1_tell_96 : decode cX1_tell 96 = .ok (.goto (-56), 3) := by decide +kernel
theorem dX1_tell_99 : decode cX1_tell 99 = .ok (.iinc 5 1, 3) := by decide +kernel
theorem dX1_tell_102 : decode cX1_tell 102 = .ok (.goto (-91), 3) := by decide +kernel
theorem dX1_tell_105 : decode cX1_tell 105 = .ok (.return_, 1) := by decide +kernel
set_option maxRecDepth 20000 in
theorem ggX1_oldTerm_X3_negation : GoodIn wsX1_oldTerm wsX3_negation := goodIn_r _ [3] rfl (by decide +kernel)
set_option maxRecDepth 20000 in
theorem gX1_oldTerm_X3_negation_n82 : GoodIn wsX1_oldTerm (wsX3_negation) := ggX1_oldTerm_X3_negation
theorem dX1_oldTerm_0 : decode cX1_oldTerm 0 = .ok (.iload_n 0, 1) := by decide +kernel
theorem dX1_oldTerm_1 : decode cX1_oldTerm 1 = .ok (.iconst 2, 1) := by decide +kernel
theorem dX1_oldTerm_2 : decode cX1_oldTerm 2 = .ok (.idiv, 1) := by decide +kernel
theorem dX1_oldTerm_3 : decode cX1_oldTerm 3 = .ok (.iload_n 1, 1) := by decide +kernel
theorem dX1_oldTerm_4 : decode cX1_oldTerm 4 = .ok (.if_icmp .eq 5, 3) := by decide +kernel
theorem dX1_oldTerm_7 : decode cX1_oldTerm 7 = .ok (.iload_n 0, 1) := by decide +kernel
theorem dX1_oldTerm_8 : decode cX1_oldTerm 8 = .ok (.ireturn, 1) := by decide +kernel
theorem dX1_oldTerm_9 : decode cX1_oldTerm 9 = .ok (.iload_n 0, 1) := by decide +kernel
theorem dX1_oldTerm_10 : decode cX1_oldTerm 10 = .ok (.iconst 2, 1) := by decide +kernel
theorem dX1_oldTerm_11 : decode cX1_oldTerm 11 = .ok (.irem, 1) := by decide +kernel
theorem dX1_oldTerm_12 : decode cX1_oldTerm 12 = .ok (.ifCond .ne 7, 3) := by decide +kernel
theorem dX1_oldTerm_15 : decode cX1_oldTerm 15 = .ok (.iload_n 2, 1) := by decide +kernel
theorem dX1_oldTerm_16 : decode cX1_oldTerm 16 = .ok (.goto 7, 3) := by decide +kernel
theorem dX1_oldTerm_19 : decode cX1_oldTerm 19 = .ok (.iload_n 2, 1) := by decide +kernel
theorem dX1_oldTerm_20 : decode cX1_oldTerm 20 = .ok (.invokestatic 82, 3) := by decide +kernel
theorem dX1_oldTerm_23 : decode cX1_oldTerm 23 = .ok (.ireturn, 1) := by decide +kernel
theorem dX1_moreOf_0 : decode cX1_moreOf 0 = .ok (.iload_n 0, 1) := by decide +kernel
theorem dX1_moreOf_1 : decode cX1_moreOf 1 = .ok (.iconst 2, 1) := by decide +kernel
theorem dX1_moreOf_2 : decode cX1_moreOf 2 = .ok (.idiv, 1) := by decide +kernel
theorem dX1_moreOf_3 : decode cX1_moreOf 3 = .ok (.iload_n 1, 1) := by decide +kernel
theorem dX1_moreOf_4 : decode cX1_moreOf 4 = .ok (.if_icmp .eq 5, 3) := by decide +kernel
theorem dX1_moreOf_7 : decode cX1_moreOf 7 = .ok (.iconst 0, 1) := by decide +kernel
theorem dX1_moreOf_8 : decode cX1_moreOf 8 = .ok (.ireturn, 1) := by decide +kernel
theorem dX1_moreOf_9 : decode cX1_moreOf 9 = .ok (.iload_n 0, 1) := by decide +kernel
theorem dX1_moreOf_10 : decode cX1_moreOf 10 = .ok (.iconst 2, 1) := by decide +kernel
theorem dX1_moreOf_11 : decode cX1_moreOf 11 = .ok (.irem, 1) := by decide +kernel
theorem dX1_moreOf_12 : decode cX1_moreOf 12 = .ok (.ifCond .ne 7, 3) := by decide +kernel
theorem dX1_moreOf_15 : decode cX1_moreOf 15 = .ok (.iload_n 2, 1) := by decide +kernel
theorem dX1_moreOf_16 : decode cX1_moreOf 16 = .ok (.goto 5, 3) := by decide +kernel
theorem dX1_moreOf_19 : decode cX1_moreOf 19 = .ok (.iload_n 2, 1) := by decide +kernel
theorem dX1_moreOf_20 : decode cX1_moreOf 20 = .ok (.ineg, 1) := by decide +kernel
theorem dX1_moreOf_21 : decode cX1_moreOf 21 = .ok (.ireturn, 1) := by decide +kernel
set_option maxRecDepth 20000 in
theorem ggX1_scatter_X1_release : GoodIn wsX1_scatter wsX1_release := goodIn_r _ [8, 1, 9, 10, 7, 11, 12, 13, 14, 15, 16, 17, 18, 19, 20, 21, 22, 23, 24, 25, 69, 70, 71, 72, 73, 74] rfl (by decide +kernel)
set_option maxRecDepth 20000 in
theorem gX1_scatter_X1_release : GoodIn wsX1_scatter (wsV RX1 24 RX1 yX1_release wsX1_release) := goodIn_app (goodIn_of _ (by decide +kernel)) ggX1_scatter_X1_release
set_option maxRecDepth 20000 in
theorem ggX1_scatter_X1_cell : GoodIn wsX1_scatter wsX1_cell := goodIn_r _ [11] rfl (by decide +kernel)
set_option maxRecDepth 20000 in
theorem gX1_scatter_X1_cell : GoodIn wsX1_scatter (va_wsS RX1 50 yX1_cell wsX1_cell) := goodIn_app (goodIn_of _ (by decide +kernel)) ggX1_scatter_X1_cell
set_option maxRecDepth 20000 in
theorem ggX1_scatter_X0_set : GoodIn wsX1_scatter wsX0_set := goodIn_r _ [24, 17, 18, 25, 19, 71, 72, 73, 74] rfl (by decide +kernel)
set_option maxRecDepth 20000 in
theorem gX1_scatter_X0_set : GoodIn wsX1_scatter (wsV RX1 38 RX0 yX0_set wsX0_set) := goodIn_app (goodIn_of _ (by decide +kernel)) ggX1_scatter_X0_set
set_option maxRecDepth 20000 in
theorem ggX1_scatter_X1_combineSingles : GoodIn wsX1_scatter wsX1_combineSingles := goodIn_r _ [29, 30, 1, 9, 10, 7, 11, 31, 32, 33, 15, 34, 18, 17, 19, 35, 36, 37, 38, 20, 39, 13, 14, 16, 40, 41, 42, 43, 44, 45, 46, 47, 48, 49, 25, 50, 51, 52, 53, 54, 55, 56, 57, 58, 59, 60, 61, 62, 63, 64, 65, 66, 67, 68, 69, 70, 71, 72, 73, 74] rfl (by decide +kernel)
set_option maxRecDepth 20000 in
theorem gX1_scatter_X1_combineSingles : GoodIn wsX1_scatter (wsV RX1 68 RX1 yX1_combineSingles wsX1_combineSingles) := goodIn_app (goodIn_of _ (by decide +kernel)) ggX1_scatter_X1_combineSingles
theorem dX1_scatter_0 : decode cX1_scatter 0 = .ok (.aload_n 0, 1) := by decide +kernel
theorem dX1_scatter_1 : decode cX1_scatter 1 = .ok (.iload_n 1, 1) := by decide +kernel
theorem dX1_scatter_2 : decode cX1_scatter 2 = .ok (.invokevirtual 24, 3) := by decide +kernel
theorem dX1_scatter_5 : decode cX1_scatter 5 = .ok (.aload_n 0, 1) := by decide +kernel
theorem dX1_scatter_6 : decode cX1_scatter 6 = .ok (.getfield 16, 3) := by decide +kernel
theorem dX1_scatter_9 : decode cX1_scatter 9 = .ok (.iconst 2, 1) := by decide +kernel
theorem dX1_scatter_10 : decode cX1_scatter 10 = .ok (.iload_n 1, 1) := by decide +kernel
theorem dX1_scatter_11 : decode cX1_scatter 11 = .ok (.imul, 1) := by decide +kernel
theorem dX1_scatter_12 : decode cX1_scatter 12 = .ok (.iconst 2, 1) := by decide +kernel
theorem dX1_scatter_13 : decode cX1_scatter 13 = .ok (.iload_n 1, 1) := by decide +kernel
theorem dX1_scatter_14 : decode cX1_scatter 14 = .ok (.imul, 1) := by decide +kernel
theorem dX1_scatter_15 : decode cX1_scatter 15 = .ok (.invokestatic 50, 3) := by decide +kernel
theorem dX1_scatter_18 : decode cX1_scatter 18 = .ok (.ldc2_w 86, 3) := by decide +kernel
theorem dX1_scatter_21 : decode cX1_scatter 21 = .ok (.lload 4, 2) := by decide +kernel
theorem dX1_scatter_23 : decode cX1_scatter 23 = .ok (.lmul, 1) := by decide +kernel
theorem dX1_scatter_24 : decode cX1_scatter 24 = .ok (.invokevirtual 38, 3) := by decide +kernel
theorem dX1_scatter_27 : decode cX1_scatter 27 = .ok (.aload_n 0, 1) := by decide +kernel
theorem dX1_scatter_28 : decode cX1_scatter 28 = .ok (.getfield 16, 3) := by decide +kernel
theorem dX1_scatter_31 : decode cX1_scatter 31 = .ok (.iconst 2, 1) := by decide +kernel
theorem dX1_scatter_32 : decode cX1_scatter 32 = .ok (.iload_n 1, 1) := by decide +kernel
theorem dX1_scatter_33 : decode cX1_scatter 33 = .ok (.imul, 1) := by decide +kernel
theorem dX1_scatter_34 : decode cX1_scatter 34 = .ok (.iconst 1, 1) := by decide +kernel
theorem dX1_scatter_35 : decode cX1_scatter 35 = .ok (.iadd, 1) := by decide +kernel
theorem dX1_scatter_36 : decode cX1_scatter 36 = .ok (.iconst 2, 1) := by decide +kernel
theorem dX1_scatter_37 : decode cX1_scatter 37 = .ok (.iload_n 1, 1) := by decide +kernel
theorem dX1_scatter_38 : decode cX1_scatter 38 = .ok (.imul, 1) := by decide +kernel
theorem dX1_scatter_39 : decode cX1_scatter 39 = .ok (.iconst 1, 1) := by decide +kernel
theorem dX1_scatter_40 : decode cX1_scatter 40 = .ok (.iadd, 1) := by decide +kernel
theorem dX1_scatter_41 : decode cX1_scatter 41 = .ok (.invokestatic 50, 3) := by decide +kernel
theorem dX1_scatter_44 : decode cX1_scatter 44 = .ok (.ldc2_w 88, 3) := by decide +kernel
theorem dX1_scatter_47 : decode cX1_scatter 47 = .ok (.lload_n 2, 1) := by decide +kernel
theorem dX1_scatter_48 : decode cX1_scatter 48 = .ok (.lmul, 1) := by decide +kernel
theorem dX1_scatter_49 : decode cX1_scatter 49 = .ok (.invokevirtual 38, 3) := by decide +kernel
theorem dX1_scatter_52 : decode cX1_scatter 52 = .ok (.aload_n 0, 1) := by decide +kernel
theorem dX1_scatter_53 : decode cX1_scatter 53 = .ok (.invokevirtual 68, 3) := by decide +kernel
theorem dX1_scatter_56 : decode cX1_scatter 56 = .ok (.return_, 1) := by decide +kernel
set_option maxRecDepth 20000 in
theorem ggX1_cutTo_X0_isLess : GoodIn wsX1_cutTo wsX0_isLess := goodIn_r _ [7, 8, 9, 10, 66, 67, 68, 69] rfl (by decide +kernel)
set_option maxRecDepth 20000 in
theorem gX1_cutTo_X0_isLess : GoodIn wsX1_cutTo (wsV RX1 57 RX0 yX0_isLess wsX0_isLess) := goodIn_app (goodIn_of _ (by decide +kernel)) ggX1_cutTo_X0_isLess
set_option maxRecDepth 20000 in
theorem ggX1_cutTo_X0_put : GoodIn wsX1_cutTo wsX0_put := goodIn_r _ [14, 8, 9, 10, 66, 67, 68, 69] rfl (by decide +kernel)
set_option maxRecDepth 20000 in
theorem gX1_cutTo_X0_put : GoodIn wsX1_cutTo (wsV RX1 61 RX0 yX0_put wsX0_put) := goodIn_app (goodIn_of _ (by decide +kernel)) ggX1_cutTo_X0_put
set_option maxRecDepth 20000 in
theorem ggX1_cutTo_X1_close : GoodIn wsX1_cutTo wsX1_close := goodIn_r _ [19, 1, 2, 20, 21, 18, 22, 23, 24, 25, 6, 26, 9, 8, 27, 28, 29, 30, 31, 32, 33, 34, 35, 36, 37, 38, 39, 40, 10, 41, 4, 5, 7, 42, 12, 13, 14, 43, 44, 45, 46, 47, 48, 49, 50, 51, 52, 53, 54, 55, 56, 57, 58, 59, 60, 61, 62, 63, 64, 65, 66, 67, 68, 69] rfl (by decide +kernel)
set_option maxRecDepth 20000 in
theorem gX1_cutTo_X1_close : GoodIn wsX1_cutTo (wsV RX1 90 RX1 yX1_close wsX1_close) := goodIn_app (goodIn_of _ (by decide +kernel)) ggX1_cutTo_X1_close
theorem dX1_cutTo_0 : decode cX1_cutTo 0 = .ok (.aload_n 1, 1) := by decide +kernel
theorem dX1_cutTo_1 : decode cX1_cutTo 1 = .ok (.getfield 20, 3) := by decide +kernel
theorem dX1_cutTo_4 : decode cX1_cutTo 4 = .ok (.ifCond .eq 8, 3) := by decide +kernel
theorem dX1_cutTo_7 : decode cX1_cutTo 7 = .ok (.aload_n 0, 1) := by decide +kernel
theorem dX1_cutTo_8 : decode cX1_cutTo 8 = .ok (.iconst 1, 1) := by decide +kernel
theorem dX1_cutTo_9 : decode cX1_cutTo 9 = .ok (.putfield 20, 3) := by decide +kernel
theorem dX1_cutTo_12 : decode cX1_cutTo 12 = .ok (.aload_n 0, 1) := by decide +kernel
theorem dX1_cutTo_13 : decode cX1_cutTo 13 = .ok (.getfield 20, 3) := by decide +kernel
theorem dX1_cutTo_16 : decode cX1_cutTo 16 = .ok (.ifCond .eq 4, 3) := by decide +kernel
theorem dX1_cutTo_19 : decode cX1_cutTo 19 = .ok (.return_, 1) := by decide +kernel
theorem dX1_cutTo_20 : decode cX1_cutTo 20 = .ok (.iconst 0, 1) := by decide +kernel
theorem dX1_cutTo_21 : decode cX1_cutTo 21 = .ok (.istore_n 2, 1) := by decide +kernel
theorem dX1_cutTo_22 : decode cX1_cutTo 22 = .ok (.iload_n 2, 1) := by decide +kernel
theorem dX1_cutTo_23 : decode cX1_cutTo 23 = .ok (.sipush 144, 3) := by decide +kernel
theorem dX1_cutTo_26 : decode cX1_cutTo 26 = .ok (.if_icmp .ge 38, 3) := by decide +kernel
theorem dX1_cutTo_29 : decode cX1_cutTo 29 = .ok (.aload_n 1, 1) := by decide +kernel
theorem dX1_cutTo_30 : decode cX1_cutTo 30 = .ok (.getfield 16, 3) := by decide +kernel
theorem dX1_cutTo_33 : decode cX1_cutTo 33 = .ok (.iload_n 2, 1) := by decide +kernel
theorem dX1_cutTo_34 : decode cX1_cutTo 34 = .ok (.aload_n 0, 1) := by decide +kernel
theorem dX1_cutTo_35 : decode cX1_cutTo 35 = .ok (.getfield 16, 3) := by decide +kernel
theorem dX1_cutTo_38 : decode cX1_cutTo 38 = .ok (.iload_n 2, 1) := by decide +kernel
theorem dX1_cutTo_39 : decode cX1_cutTo 39 = .ok (.invokevirtual 57, 3) := by decide +kernel
theorem dX1_cutTo_42 : decode cX1_cutTo 42 = .ok (.ifCond .eq 16, 3) := by decide +kernel
theorem dX1_cutTo_45 : decode cX1_cutTo 45 = .ok (.aload_n 0, 1) := by decide +kernel
theorem dX1_cutTo_46 : decode cX1_cutTo 46 = .ok (.getfield 16, 3) := by decide +kernel
theorem dX1_cutTo_49 : decode cX1_cutTo 49 = .ok (.iload_n 2, 1) := by decide +kernel
theorem dX1_cutTo_50 : decode cX1_cutTo 50 = .ok (.aload_n 1, 1) := by decide +kernel
theorem dX1_cutTo_51 : decode cX1_cutTo 51 = .ok (.getfield 16, 3) := by decide +kernel
theorem dX1_cutTo_54 : decode cX1_cutTo 54 = .ok (.iload_n 2, 1) := by decide +kernel
theorem dX1_cutTo_55 : decode cX1_cutTo 55 = .ok (.invokevirtual 61, 3) := by decide +kernel
theorem dX1_cutTo_58 : decode cX1_cutTo 58 = .ok (.iinc 2 1, 3) := by decide +kernel
theorem dX1_cutTo_61 : decode cX1_cutTo 61 = .ok (.goto (-39), 3) := by decide +kernel
theorem dX1_cutTo_64 : decode cX1_cutTo 64 = .ok (.aload_n 0, 1) := by decide +kernel
theorem dX1_cutTo_65 : decode cX1_cutTo 65 = .ok (.invokevirtual 90, 3) := by decide +kernel
theorem dX1_cutTo_68 : decode cX1_cutTo 68 = .ok (.return_, 1) := by decide +kernel
set_option maxRecDepth 20000 in
theorem ggX1_isSettledByEmptiness_X1_takeOver : GoodIn wsX1_isSettledByEmptiness wsX1_takeOver := goodIn_r _ [6, 7, 1, 8, 9, 10, 11, 12, 13, 14, 15, 16, 17, 18, 19, 20, 21, 22, 23] rfl (by decide +kernel)
set_option maxRecDepth 20000 in
theorem gX1_isSettledByEmptiness_X1_takeOver : GoodIn wsX1_isSettledByEmptiness (wsV RX1 35 RX1 yX1_takeOver wsX1_takeOver) := goodIn_app (goodIn_of _ (by decide +kernel)) ggX1_isSettledByEmptiness_X1_takeOver
theorem dX1_isSettledByEmptiness_0 : decode cX1_isSettledByEmptiness 0 = .ok (.aload_n 0, 1) := by decide +kernel
theorem dX1_isSettledByEmptiness_1 : decode cX1_isSettledByEmptiness 1 = .ok (.getfield 20, 3) := by decide +kernel
theorem dX1_isSettledByEmptiness_4 : decode cX1_isSettledByEmptiness 4 = .ok (.ifCond .ne 10, 3) := by decide +kernel
theorem dX1_isSettledByEmptiness_7 : decode cX1_isSettledByEmptiness 7 = .ok (.aload_n 1, 1) := by decide +kernel
theorem dX1_isSettledByEmptiness_8 : decode cX1_isSettledByEmptiness 8 = .ok (.getfield 20, 3) := by decide +kernel
theorem dX1_isSettledByEmptiness_11 : decode cX1_isSettledByEmptiness 11 = .ok (.ifCond .eq 7, 3) := by decide +kernel
theorem dX1_isSettledByEmptiness_14 : decode cX1_isSettledByEmptiness 14 = .ok (.iconst 1, 1) := by decide +kernel
theorem dX1_isSettledByEmptiness_15 : decode cX1_isSettledByEmptiness 15 = .ok (.goto 4, 3) := by decide +kernel
theorem dX1_isSettledByEmptiness_18 : decode cX1_isSettledByEmptiness 18 = .ok (.iconst 0, 1) := by decide +kernel
theorem dX1_isSettledByEmptiness_19 : decode cX1_isSettledByEmptiness 19 = .ok (.istore_n 2, 1) := by decide +kernel
theorem dX1_isSettledByEmptiness_20 : decode cX1_isSettledByEmptiness 20 = .ok (.aload_n 0, 1) := by decide +kernel
theorem dX1_isSettledByEmptiness_21 : decode cX1_isSettledByEmptiness 21 = .ok (.getfield 20, 3) := by decide +kernel
theorem dX1_isSettledByEmptiness_24 : decode cX1_isSettledByEmptiness 24 = .ok (.ifCond .eq 8, 3) := by decide +kernel
theorem dX1_isSettledByEmptiness_27 : decode cX1_isSettledByEmptiness 27 = .ok (.aload_n 0, 1) := by decide +kernel
theorem dX1_isSettledByEmptiness_28 : decode cX1_isSettledByEmptiness 28 = .ok (.aload_n 1, 1) := by decide +kernel
theorem dX1_isSettledByEmptiness_29 : decode cX1_isSettledByEmptiness 29 = .ok (.invokevirtual 35, 3) := by decide +kernel
theorem dX1_isSettledByEmptiness_32 : decode cX1_isSettledByEmptiness 32 = .ok (.iload_n 2, 1) := by decide +kernel
theorem dX1_isSettledByEmptiness_33 : decode cX1_isSettledByEmptiness 33 = .ok (.ireturn, 1) := by decide +kernel
set_option maxRecDepth 20000 in
theorem ggX1_stretchOver_X1_isSettledByEmptiness : GoodIn wsX1_stretchOver wsX1_isSettledByEmptiness := goodIn_r _ [6, 7, 8, 9, 10, 5, 11, 1, 12, 13, 14, 15, 16, 17, 18, 19, 20, 21, 32, 33, 34, 35, 36, 37] rfl (by decide +kernel)
set_option maxRecDepth 20000 in
theorem gX1_stretchOver_X1_isSettledByEmptiness : GoodIn wsX1_stretchOver (wsV RX1 93 RX1 yX1_isSettledByEmptiness wsX1_isSettledByEmptiness) := goodIn_app (goodIn_of _ (by decide +kernel)) ggX1_stretchOver_X1_isSettledByEmptiness
set_option maxRecDepth 20000 in
theorem ggX1_stretchOver_X0_isLess : GoodIn wsX1_stretchOver wsX0_isLess := goodIn_r _ [25, 26, 17, 27, 34, 35, 36, 37] rfl (by decide +kernel)
set_option maxRecDepth 20000 in
theorem gX1_stretchOver_X0_isLess : GoodIn wsX1_stretchOver (wsV RX1 57 RX0 yX0_isLess wsX0_isLess) := goodIn_app (goodIn_of _ (by decide +kernel)) ggX1_stretchOver_X0_isLess
set_option maxRecDepth 20000 in
theorem ggX1_stretchOver_X0_put : GoodIn wsX1_stretchOver wsX0_put := goodIn_r _ [31, 26, 17, 27, 34, 35, 36, 37] rfl (by decide +kernel)
set_option maxRecDepth 20000 in
theorem gX1_stretchOver_X0_put : GoodIn wsX1_stretchOver (wsV RX1 61 RX0 yX0_put wsX0_put) := goodIn_app (goodIn_of _ (by decide +kernel)) ggX1_stretchOver_X0_put
theorem dX1_stretchOver_0 : decode cX1_stretchOver 0 = .ok (.aload_n 0, 1) := by decide +kernel
theorem dX1_stretchOver_1 : decode cX1_stretchOver 1 = .ok (.aload_n 1, 1) := by decide +kernel
theorem dX1_stretchOver_2 : decode cX1_stretchOver 2 = .ok (.invokevirtual 93, 3) := by decide +kernel
theorem dX1_stretchOver_5 : decode cX1_stretchOver 5 = .ok (.ifCond .eq 4, 3) := by decide +kernel
theorem dX1_stretchOver_8 : decode cX1_stretchOver 8 = .ok (.return_, 1) := by decide +kernel
theorem dX1_stretchOver_9 : decode cX1_stretchOver 9 = .ok (.iconst 0, 1) := by decide +kernel
theorem dX1_stretchOver_10 : decode cX1_stretchOver 10 = .ok (.istore_n 2, 1) := by decide +kernel
theorem dX1_stretchOver_11 : decode cX1_stretchOver 11 = .ok (.iload_n 2, 1) := by decide +kernel
theorem dX1_stretchOver_12 : decode cX1_stretchOver 12 = .ok (.sipush 144, 3) := by decide +kernel
theorem dX1_stretchOver_15 : decode cX1_stretchOver 15 = .ok (.if_icmp .ge 38, 3) := by decide +kernel
theorem dX1_stretchOver_18 : decode cX1_stretchOver 18 = .ok (.aload_n 0, 1) := by decide +kernel
theorem dX1_stretchOver_19 : decode cX1_stretchOver 19 = .ok (.getfield 16, 3) := by decide +kernel
theorem dX1_stretchOver_22 : decode cX1_stretchOver 22 = .ok (.iload_n 2, 1) := by decide +kernel
theorem dX1_stretchOver_23 : decode cX1_stretchOver 23 = .ok (.aload_n 1, 1) := by decide +kernel
theorem dX1_stretchOver_24 : decode cX1_stretchOver 24 = .ok (.getfield 16, 3) := by decide +kernel
theorem dX1_stretchOver_27 : decode cX1_stretchOver 27 = .ok (.iload_n 2, 1) := by decide +kernel
theorem dX1_stretchOver_28 : decode cX1_stretchOver 28 = .ok (.invokevirtual 57, 3) := by decide +kernel
theorem dX1_stretchOver_31 : decode cX1_stretchOver 31 = .ok (.ifCond .eq 16, 3) := by decide +kernel
theorem dX1_stretchOver_34 : decode cX1_stretchOver 34 = .ok (.aload_n 0, 1) := by decide +kernel
theorem dX1_stretchOver_35 : decode cX1_stretchOver 35 = .ok (.getfield 16, 3) := by decide +kernel
theorem dX1_stretchOver_38 : decode cX1_stretchOver 38 = .ok (.iload_n 2, 1) := by decide +kernel
theorem dX1_stretchOver_39 : decode cX1_stretchOver 39 = .ok (.aload_n 1, 1) := by decide +kernel
theorem dX1_stretchOver_40 : decode cX1_stretchOver 40 = .ok (.getfield 16, 3) := by decide +kernel
theorem dX1_stretchOver_43 : decode cX1_stretchOver 43 = .ok (.iload_n 2, 1) := by decide +kernel
theorem dX1_stretchOver_44 : decode cX1_stretchOver 44 = .ok (.invokevirtual 61, 3) := by decide +kernel
theorem dX1_stretchOver_47 : decode cX1_stretchOver 47 = .ok (.iinc 2 1, 3) := by decide +kernel
theorem dX1_stretchOver_50 : decode cX1_stretchOver 50 = .ok (.goto (-39), 3) := by decide +kernel
theorem dX1_stretchOver_53 : decode cX1_stretchOver 53 = .ok (.return_, 1) := by decide +kernel
set_option maxRecDepth 20000 in
theorem ggX1_loosenBy_X1_isSettledByEmptiness : GoodIn wsX1_loosenBy wsX1_isSettledByEmptiness := goodIn_r _ [6, 7, 8, 9, 10, 5, 11, 1, 12, 13, 14, 15, 16, 17, 18, 19, 20, 21, 80, 81, 82, 83, 84, 85] rfl (by decide +kernel)
set_option maxRecDepth 20000 in
theorem gX1_loosenBy_X1_isSettledByEmptiness : GoodIn wsX1_loosenBy (wsV RX1 93 RX1 yX1_isSettledByEmptiness wsX1_isSettledByEmptiness) := goodIn_app (goodIn_of _ (by decide +kernel)) ggX1_loosenBy_X1_isSettledByEmptiness
set_option maxRecDepth 20000 in
theorem ggX1_loosenBy_X0_isLess : GoodIn wsX1_loosenBy wsX0_isLess := goodIn_r _ [25, 26, 17, 27, 82, 83, 84, 85] rfl (by decide +kernel)
set_option maxRecDepth 20000 in
theorem gX1_loosenBy_X0_isLess : GoodIn wsX1_loosenBy (wsV RX1 57 RX0 yX0_isLess wsX0_isLess) := goodIn_app (goodIn_of _ (by decide +kernel)) ggX1_loosenBy_X0_isLess
set_option maxRecDepth 20000 in
theorem ggX1_loosenBy_X0_setInfinite : GoodIn wsX1_loosenBy wsX0_setInfinite := goodIn_r _ [31, 26, 17, 27, 32, 82, 83, 84, 85] rfl (by decide +kernel)
set_option maxRecDepth 20000 in
theorem gX1_loosenBy_X0_setInfinite : GoodIn wsX1_loosenBy (wsV RX1 54 RX0 yX0_setInfinite wsX0_setInfinite) := goodIn_app (goodIn_of _ (by decide +kernel)) ggX1_loosenBy_X0_setInfinite
set_option maxRecDepth 20000 in
theorem ggX1_loosenBy_X1_close : GoodIn wsX1_loosenBy wsX1_close := goodIn_r _ [36, 7, 1, 37, 38, 5, 39, 40, 41, 42, 15, 43, 17, 26, 32, 44, 45, 46, 47, 48, 49, 50, 51, 52, 53, 54, 55, 56, 27, 57, 23, 24, 25, 58, 59, 60, 61, 62, 63, 64, 65, 66, 67, 68, 69, 70, 71, 72, 73, 74, 75, 76, 77, 78, 79, 29, 30, 31, 80, 81, 82, 83, 84, 85] rfl (by decide +kernel)
set_option maxRecDepth 20000 in
theorem gX1_loosenBy_X1_close : GoodIn wsX1_loosenBy (wsV RX1 90 RX1 yX1_close wsX1_close) := goodIn_app (goodIn_of _ (by decide +kernel)) ggX1_loosenBy_X1_close
theorem dX1_loosenBy_0 : decode cX1_loosenBy 0 = .ok (.aload_n 0, 1) := by decide +kernel
theorem dX1_loosenBy_1 : decode cX1_loosenBy 1 = .ok (.aload_n 1, 1) := by decide +kernel
theorem dX1_loosenBy_2 : decode cX1_loosenBy 2 = .ok (.invokevirtual 93, 3) := by decide +kernel
theorem dX1_loosenBy_5 : decode cX1_loosenBy 5 = .ok (.ifCond .eq 4, 3) := by decide +kernel
theorem dX1_loosenBy_8 : decode cX1_loosenBy 8 = .ok (.return_, 1) := by decide +kernel
theorem dX1_loosenBy_9 : decode cX1_loosenBy 9 = .ok (.iconst 0, 1) := by decide +kernel
theorem dX1_loosenBy_10 : decode cX1_loosenBy 10 = .ok (.istore_n 2, 1) := by decide +kernel
theorem dX1_loosenBy_11 : decode cX1_loosenBy 11 = .ok (.iload_n 2, 1) := by decide +kernel
theorem dX1_loosenBy_12 : decode cX1_loosenBy 12 = .ok (.sipush 144, 3) := by decide +kernel
theorem dX1_loosenBy_15 : decode cX1_loosenBy 15 = .ok (.if_icmp .ge 33, 3) := by decide +kernel
theorem dX1_loosenBy_18 : decode cX1_loosenBy 18 = .ok (.aload_n 0, 1) := by decide +kernel
theorem dX1_loosenBy_19 : decode cX1_loosenBy 19 = .ok (.getfield 16, 3) := by decide +kernel
theorem dX1_loosenBy_22 : decode cX1_loosenBy 22 = .ok (.iload_n 2, 1) := by decide +kernel
theorem dX1_loosenBy_23 : decode cX1_loosenBy 23 = .ok (.aload_n 1, 1) := by decide +kernel
theorem dX1_loosenBy_24 : decode cX1_loosenBy 24 = .ok (.getfield 16, 3) := by decide +kernel
theorem dX1_loosenBy_27 : decode cX1_loosenBy 27 = .ok (.iload_n 2, 1) := by decide +kernel
theorem dX1_loosenBy_28 : decode cX1_loosenBy 28 = .ok (.invokevirtual 57, 3) := by decide +kernel
theorem dX1_loosenBy_31 : decode cX1_loosenBy 31 = .ok (.ifCond .eq 11, 3) := by decide +kernel
theorem dX1_loosenBy_34 : decode cX1_loosenBy 34 = .ok (.aload_n 0, 1) := by decide +kernel
theorem dX1_loosenBy_35 : decode cX1_loosenBy 35 = .ok (.getfield 16, 3) := by decide +kernel
theorem dX1_loosenBy_38 : decode cX1_loosenBy 38 = .ok (.iload_n 2, 1) := by decide +kernel
theorem dX1_loosenBy_39 : decode cX1_loosenBy 39 = .ok (.invokevirtual 54, 3) := by decide +kernel
theorem dX1_loosenBy_42 : decode cX1_loosenBy 42 = .ok (.iinc 2 1, 3) := by decide +kernel
theorem dX1_loosenBy_45 : decode cX1_loosenBy 45 = .ok (.goto (-34), 3) := by decide +kernel
theorem dX1_loosenBy_48 : decode cX1_loosenBy 48 = .ok (.aload_n 0, 1) := by decide +kernel
theorem dX1_loosenBy_49 : decode cX1_loosenBy 49 = .ok (.invokevirtual 90, 3) := by decide +kernel
theorem dX1_loosenBy_52 : decode cX1_loosenBy 52 = .ok (.return_, 1) := by decide +kernel
set_option maxRecDepth 20000 in
theorem ggX1_isWithin_X0_isLess : GoodIn wsX1_isWithin wsX0_isLess := goodIn_r _ [7, 8, 9, 10, 13, 14, 15, 16] rfl (by decide +kernel)
set_option maxRecDepth 20000 in
theorem gX1_isWithin_X0_isLess : GoodIn wsX1_isWithin (wsV RX1 57 RX0 yX0_isLess wsX0_isLess) := goodIn_app (goodIn_of _ (by decide +kernel)) ggX1_isWithin_X0_isLess
theorem dX1_isWithin_0 : decode cX1_isWithin 0 = .ok (.aload_n 0, 1) := by decide +kernel
theorem dX1_isWithin_1 : decode cX1_isWithin 1 = .ok (.getfield 20, 3) := by decide +kernel
theorem dX1_isWithin_4 : decode cX1_isWithin 4 = .ok (.ifCond .ne 10, 3) := by decide +kernel
theorem dX1_isWithin_7 : decode cX1_isWithin 7 = .ok (.aload_n 1, 1) := by decide +kernel
theorem dX1_isWithin_8 : decode cX1_isWithin 8 = .ok (.getfield 20, 3) := by decide +kernel
theorem dX1_isWithin_11 : decode cX1_isWithin 11 = .ok (.ifCond .eq 8, 3) := by decide +kernel
theorem dX1_isWithin_14 : decode cX1_isWithin 14 = .ok (.aload_n 0, 1) := by decide +kernel
theorem dX1_isWithin_15 : decode cX1_isWithin 15 = .ok (.getfield 20, 3) := by decide +kernel
theorem dX1_isWithin_18 : decode cX1_isWithin 18 = .ok (.ireturn, 1) := by decide +kernel
theorem dX1_isWithin_19 : decode cX1_isWithin 19 = .ok (.iconst 0, 1) := by decide +kernel
theorem dX1_isWithin_20 : decode cX1_isWithin 20 = .ok (.istore_n 2, 1) := by decide +kernel
theorem dX1_isWithin_21 : decode cX1_isWithin 21 = .ok (.iload_n 2, 1) := by decide +kernel
theorem dX1_isWithin_22 : decode cX1_isWithin 22 = .ok (.sipush 144, 3) := by decide +kernel
theorem dX1_isWithin_25 : decode cX1_isWithin 25 = .ok (.if_icmp .ge 27, 3) := by decide +kernel
theorem dX1_isWithin_28 : decode cX1_isWithin 28 = .ok (.aload_n 1, 1) := by decide +kernel
theorem dX1_isWithin_29 : decode cX1_isWithin 29 = .ok (.getfield 16, 3) := by decide +kernel
theorem dX1_isWithin_32 : decode cX1_isWithin 32 = .ok (.iload_n 2, 1) := by decide +kernel
theorem dX1_isWithin_33 : decode cX1_isWithin 33 = .ok (.aload_n 0, 1) := by decide +kernel
theorem dX1_isWithin_34 : decode cX1_isWithin 34 = .ok (.getfield 16, 3) := by decide +kernel
theorem dX1_isWithin_37 : decode cX1_isWithin 37 = .ok (.iload_n 2, 1) := by decide +kernel
theorem dX1_isWithin_38 : decode cX1_isWithin 38 = .ok (.invokevirtual 57, 3) := by decide +kernel
theorem dX1_isWithin_41 : decode cX1_isWithin 41 = .ok (.ifCond .eq 5, 3) := by decide +kernel
theorem dX1_isWithin_44 : decode cX1_isWithin 44 = .ok (.iconst 0, 1) := by decide +kernel
theorem dX1_isWithin_45 : decode cX1_isWithin 45 = .ok (.ireturn, 1) := by decide +kernel
theorem dX1_isWithin_46 : decode cX1_isWithin 46 = .ok (.iinc 2 1, 3) := by decide +kernel
theorem dX1_isWithin_49 : decode cX1_isWithin 49 = .ok (.goto (-28), 3) := by decide +kernel
theorem dX1_isWithin_52 : decode cX1_isWithin 52 = .ok (.iconst 1, 1) := by decide +kernel
theorem dX1_isWithin_53 : decode cX1_isWithin 53 = .ok (.ireturn, 1) := by decide +kernel
set_option maxRecDepth 20000 in
theorem ggX1_mostOf_X1_cell : GoodIn wsX1_mostOf wsX1_cell := goodIn_r _ [5] rfl (by decide +kernel)
set_option maxRecDepth 20000 in
theorem gX1_mostOf_X1_cell : GoodIn wsX1_mostOf (va_wsS RX1 50 yX1_cell wsX1_cell) := goodIn_app (goodIn_of _ (by decide +kernel)) ggX1_mostOf_X1_cell
set_option maxRecDepth 20000 in
theorem ggX1_mostOf_X0_nearestLong : GoodIn wsX1_mostOf wsX0_nearestLong := goodIn_r _ [10, 11, 12, 13, 14, 15, 16, 17, 32, 33, 34, 35] rfl (by decide +kernel)
set_option maxRecDepth 20000 in
theorem gX1_mostOf_X0_nearestLong : GoodIn wsX1_mostOf (wsV RX1 97 RX0 yX0_nearestLong wsX0_nearestLong) := goodIn_app (goodIn_of _ (by decide +kernel)) ggX1_mostOf_X0_nearestLong
set_option maxRecDepth 20000 in
theorem ggX1_mostOf_X0_putHalf : GoodIn wsX1_mostOf wsX0_putHalf := goodIn_r _ [21, 11, 12, 14, 22, 23, 24, 9, 25, 13, 26, 27, 28, 29, 32, 33, 34, 35] rfl (by decide +kernel)
set_option maxRecDepth 20000 in
theorem gX1_mostOf_X0_putHalf : GoodIn wsX1_mostOf (wsV RX1 101 RX0 yX0_putHalf wsX0_putHalf) := goodIn_app (goodIn_of _ (by decide +kernel)) ggX1_mostOf_X0_putHalf
theorem dX1_mostOf_0 : decode cX1_mostOf 0 = .ok (.iload_n 1, 1) := by decide +kernel
theorem dX1_mostOf_1 : decode cX1_mostOf 1 = .ok (.iload_n 2, 1) := by decide +kernel
theorem dX1_mostOf_2 : decode cX1_mostOf 2 = .ok (.if_icmp .eq 16, 3) := by decide +kernel
theorem dX1_mostOf_5 : decode cX1_mostOf 5 = .ok (.aload_n 0, 1) := by decide +kernel
theorem dX1_mostOf_6 : decode cX1_mostOf 6 = .ok (.getfield 16, 3) := by decide +kernel
theorem dX1_mostOf_9 : decode cX1_mostOf 9 = .ok (.iload_n 1, 1) := by decide +kernel
theorem dX1_mostOf_10 : decode cX1_mostOf 10 = .ok (.iload_n 2, 1) := by decide +kernel
theorem dX1_mostOf_11 : decode cX1_mostOf 11 = .ok (.invokestatic 50, 3) := by decide +kernel
theorem dX1_mostOf_14 : decode cX1_mostOf 14 = .ok (.invokevirtual 97, 3) := by decide +kernel
theorem dX1_mostOf_17 : decode cX1_mostOf 17 = .ok (.lreturn, 1) := by decide +kernel
theorem dX1_mostOf_18 : decode cX1_mostOf 18 = .ok (.aload_n 0, 1) := by decide +kernel
theorem dX1_mostOf_19 : decode cX1_mostOf 19 = .ok (.getfield 16, 3) := by decide +kernel
theorem dX1_mostOf_22 : decode cX1_mostOf 22 = .ok (.sipush 156, 3) := by decide +kernel
theorem dX1_mostOf_25 : decode cX1_mostOf 25 = .ok (.iload_n 1, 1) := by decide +kernel
theorem dX1_mostOf_26 : decode cX1_mostOf 26 = .ok (.iload_n 1, 1) := by decide +kernel
theorem dX1_mostOf_27 : decode cX1_mostOf 27 = .ok (.invokestatic 50, 3) := by decide +kernel
theorem dX1_mostOf_30 : decode cX1_mostOf 30 = .ok (.invokevirtual 101, 3) := by decide +kernel
theorem dX1_mostOf_33 : decode cX1_mostOf 33 = .ok (.aload_n 0, 1) := by decide +kernel
theorem dX1_mostOf_34 : decode cX1_mostOf 34 = .ok (.getfield 16, 3) := by decide +kernel
theorem dX1_mostOf_37 : decode cX1_mostOf 37 = .ok (.sipush 156, 3) := by decide +kernel
theorem dX1_mostOf_40 : decode cX1_mostOf 40 = .ok (.invokevirtual 97, 3) := by decide +kernel
theorem dX1_mostOf_43 : decode cX1_mostOf 43 = .ok (.lreturn, 1) := by decide +kernel
set_option maxRecDepth 20000 in
theorem ggX1_countBounds_X3_negation : GoodIn wsX1_countBounds wsX3_negation := goodIn_r _ [4] rfl (by decide +kernel)
set_option maxRecDepth 20000 in
theorem gX1_countBounds_X3_negation_n82 : GoodIn wsX1_countBounds (wsX3_negation) := ggX1_countBounds_X3_negation
set_option maxRecDepth 20000 in
theorem ggX1_countBounds_X1_cell : GoodIn wsX1_countBounds wsX1_cell := goodIn_r _ [8] rfl (by decide +kernel)
set_option maxRecDepth 20000 in
theorem gX1_countBounds_X1_cell : GoodIn wsX1_countBounds (va_wsS RX1 50 yX1_cell wsX1_cell) := goodIn_app (goodIn_of _ (by decide +kernel)) ggX1_countBounds_X1_cell
set_option maxRecDepth 20000 in
theorem ggX1_countBounds_X0_isInfinite : GoodIn wsX1_countBounds wsX0_isInfinite := goodIn_r _ [13, 14, 15, 16, 19, 20, 21, 22] rfl (by decide +kernel)
set_option maxRecDepth 20000 in
theorem gX1_countBounds_X0_isInfinite : GoodIn wsX1_countBounds (wsV RX1 104 RX0 yX0_isInfinite wsX0_isInfinite) := goodIn_app (goodIn_of _ (by decide +kernel)) ggX1_countBounds_X0_isInfinite
theorem dX1_countBounds_0 : decode cX1_countBounds 0 = .ok (.iconst 0, 1) := by decide +kernel
theorem dX1_countBounds_1 : decode cX1_countBounds 1 = .ok (.istore_n 1, 1) := by decide +kernel
theorem dX1_countBounds_2 : decode cX1_countBounds 2 = .ok (.iconst 0, 1) := by decide +kernel
theorem dX1_countBounds_3 : decode cX1_countBounds 3 = .ok (.istore_n 2, 1) := by decide +kernel
theorem dX1_countBounds_4 : decode cX1_countBounds 4 = .ok (.iload_n 2, 1) := by decide +kernel
theorem dX1_countBounds_5 : decode cX1_countBounds 5 = .ok (.bipush 12, 2) := by decide +kernel
theorem dX1_countBounds_7 : decode cX1_countBounds 7 = .ok (.if_icmp .ge 49, 3) := by decide +kernel
theorem dX1_countBounds_10 : decode cX1_countBounds 10 = .ok (.iload_n 2, 1) := by decide +kernel
theorem dX1_countBounds_11 : decode cX1_countBounds 11 = .ok (.istore_n 3, 1) := by decide +kernel
theorem dX1_countBounds_12 : decode cX1_countBounds 12 = .ok (.iload_n 3, 1) := by decide +kernel
theorem dX1_countBounds_13 : decode cX1_countBounds 13 = .ok (.bipush 12, 2) := by decide +kernel
theorem dX1_countBounds_15 : decode cX1_countBounds 15 = .ok (.if_icmp .ge 35, 3) := by decide +kernel
theorem dX1_countBounds_18 : decode cX1_countBounds 18 = .ok (.iload_n 3, 1) := by decide +kernel
theorem dX1_countBounds_19 : decode cX1_countBounds 19 = .ok (.iload_n 2, 1) := by decide +kernel
theorem dX1_countBounds_20 : decode cX1_countBounds 20 = .ok (.invokestatic 82, 3) := by decide +kernel
theorem dX1_countBounds_23 : decode cX1_countBounds 23 = .ok (.if_icmp .eq 21, 3) := by decide +kernel
theorem dX1_countBounds_26 : decode cX1_countBounds 26 = .ok (.aload_n 0, 1) := by decide +kernel
theorem dX1_countBounds_27 : decode cX1_countBounds 27 = .ok (.getfield 16, 3) := by decide +kernel
theorem dX1_countBounds_30 : decode cX1_countBounds 30 = .ok (.iload_n 2, 1) := by decide +kernel
theorem dX1_countBounds_31 : decode cX1_countBounds 31 = .ok (.iload_n 3, 1) := by decide +kernel
theorem dX1_countBounds_32 : decode cX1_countBounds 32 = .ok (.invokestatic 50, 3) := by decide +kernel
theorem dX1_countBounds_35 : decode cX1_countBounds 35 = .ok (.invokevirtual 104, 3) := by decide +kernel
theorem dX1_countBounds_38 : decode cX1_countBounds 38 = .ok (.ifCond .ne 6, 3) := by decide +kernel
theorem dX1_countBounds_41 : decode cX1_countBounds 41 = .ok (.iinc 1 1, 3) := by decide +kernel
theorem dX1_countBounds_44 : decode cX1_countBounds 44 = .ok (.iinc 3 1, 3) := by decide +kernel
theorem dX1_countBounds_47 : decode cX1_countBounds 47 = .ok (.goto (-35), 3) := by decide +kernel
theorem dX1_countBounds_50 : decode cX1_countBounds 50 = .ok (.iinc 2 1, 3) := by decide +kernel
theorem dX1_countBounds_53 : decode cX1_countBounds 53 = .ok (.goto (-49), 3) := by decide +kernel
theorem dX1_countBounds_56 : decode cX1_countBounds 56 = .ok (.iload_n 1, 1) := by decide +kernel
theorem dX1_countBounds_57 : decode cX1_countBounds 57 = .ok (.ireturn, 1) := by decide +kernel
set_option maxRecDepth 20000 in
theorem ggX1_settle_X1_cell : GoodIn wsX1_settle wsX1_cell := goodIn_r _ [5] rfl (by decide +kernel)
set_option maxRecDepth 20000 in
theorem gX1_settle_X1_cell : GoodIn wsX1_settle (va_wsS RX1 50 yX1_cell wsX1_cell) := goodIn_app (goodIn_of _ (by decide +kernel)) ggX1_settle_X1_cell
set_option maxRecDepth 20000 in
theorem ggX1_settle_X0_isInfinite : GoodIn wsX1_settle wsX0_isInfinite := goodIn_r _ [10, 11, 12, 13, 79, 80, 81, 82] rfl (by decide +kernel)
set_option maxRecDepth 20000 in
theorem gX1_settle_X0_isInfinite : GoodIn wsX1_settle (wsV RX1 104 RX0 yX0_isInfinite wsX0_isInfinite) := goodIn_app (goodIn_of _ (by decide +kernel)) ggX1_settle_X0_isInfinite
set_option maxRecDepth 20000 in
theorem ggX1_settle_X0_set : GoodIn wsX1_settle wsX0_set := goodIn_r _ [17, 12, 11, 18, 19, 79, 80, 81, 82] rfl (by decide +kernel)
set_option maxRecDepth 20000 in
theorem gX1_settle_X0_set : GoodIn wsX1_settle (wsV RX1 38 RX0 yX0_set wsX0_set) := goodIn_app (goodIn_of _ (by decide +kernel)) ggX1_settle_X0_set
set_option maxRecDepth 20000 in
theorem ggX1_settle_X1_holdToSpare : GoodIn wsX1_settle wsX1_holdToSpare := goodIn_r _ [23, 24, 1, 2, 3, 4, 5, 25, 26, 27, 9, 28, 12, 11, 19, 29, 30, 31, 32, 33, 34, 35, 36, 37, 38, 39, 40, 41, 42, 43, 13, 18, 44, 45, 46, 47, 6, 7, 8, 10, 48, 49, 50, 51, 52, 53, 54, 55, 56, 57, 58, 59, 60, 61, 62, 63, 64, 65, 66, 67, 68, 69, 70, 71, 72, 77, 78, 79, 80, 81, 82] rfl (by decide +kernel)
set_option maxRecDepth 20000 in
theorem gX1_settle_X1_holdToSpare : GoodIn wsX1_settle (wsV RX1 42 RX1 yX1_holdToSpare wsX1_holdToSpare) := goodIn_app (goodIn_of _ (by decide +kernel)) ggX1_settle_X1_holdToSpare
set_option maxRecDepth 20000 in
theorem ggX1_settle_X0_putNegative : GoodIn wsX1_settle wsX0_putNegative := goodIn_r _ [76, 12, 11, 18, 19, 64, 7, 8, 9, 10, 13, 65, 66, 67, 68, 79, 80, 81, 82] rfl (by decide +kernel)
set_option maxRecDepth 20000 in
theorem gX1_settle_X0_putNegative : GoodIn wsX1_settle (wsV RX1 108 RX0 yX0_putNegative wsX0_putNegative) := goodIn_app (goodIn_of _ (by decide +kernel)) ggX1_settle_X0_putNegative
theorem dX1_settle_0 : decode cX1_settle 0 = .ok (.iconst 2, 1) := by decide +kernel
theorem dX1_settle_1 : decode cX1_settle 1 = .ok (.iload_n 1, 1) := by decide +kernel
theorem dX1_settle_2 : decode cX1_settle 2 = .ok (.imul, 1) := by decide +kernel
theorem dX1_settle_3 : decode cX1_settle 3 = .ok (.iconst 2, 1) := by decide +kernel
theorem dX1_settle_4 : decode cX1_settle 4 = .ok (.iload_n 1, 1) := by decide +kernel
theorem dX1_settle_5 : decode cX1_settle 5 = .ok (.imul, 1) := by decide +kernel
theorem dX1_settle_6 : decode cX1_settle 6 = .ok (.invokestatic 50, 3) := by decide +kernel
theorem dX1_settle_9 : decode cX1_settle 9 = .ok (.istore_n 2, 1) := by decide +kernel
theorem dX1_settle_10 : decode cX1_settle 10 = .ok (.iconst 2, 1) := by decide +kernel
theorem dX1_settle_11 : decode cX1_settle 11 = .ok (.iload_n 1, 1) := by decide +kernel
theorem dX1_settle_12 : decode cX1_settle 12 = .ok (.imul, 1) := by decide +kernel
theorem dX1_settle_13 : decode cX1_settle 13 = .ok (.iconst 1, 1) := by decide +kernel
theorem dX1_settle_14 : decode cX1_settle 14 = .ok (.iadd, 1) := by decide +kernel
theorem dX1_settle_15 : decode cX1_settle 15 = .ok (.iconst 2, 1) := by decide +kernel
theorem dX1_settle_16 : decode cX1_settle 16 = .ok (.iload_n 1, 1) := by decide +kernel
theorem dX1_settle_17 : decode cX1_settle 17 = .ok (.imul, 1) := by decide +kernel
theorem dX1_settle_18 : decode cX1_settle 18 = .ok (.iconst 1, 1) := by decide +kernel
theorem dX1_settle_19 : decode cX1_settle 19 = .ok (.iadd, 1) := by decide +kernel
theorem dX1_settle_20 : decode cX1_settle 20 = .ok (.invokestatic 50, 3) := by decide +kernel
theorem dX1_settle_23 : decode cX1_settle 23 = .ok (.istore_n 3, 1) := by decide +kernel
theorem dX1_settle_24 : decode cX1_settle 24 = .ok (.aload_n 0, 1) := by decide +kernel
theorem dX1_settle_25 : decode cX1_settle 25 = .ok (.getfield 16, 3) := by decide +kernel
theorem dX1_settle_28 : decode cX1_settle 28 = .ok (.iload_n 2, 1) := by decide +kernel
theorem dX1_settle_29 : decode cX1_settle 29 = .ok (.invokevirtual 104, 3) := by decide +kernel
theorem dX1_settle_32 : decode cX1_settle 32 = .ok (.ifCond .eq 35, 3) := by decide +kernel
theorem dX1_settle_35 : decode cX1_settle 35 = .ok (.aload_n 0, 1) := by decide +kernel
theorem dX1_settle_36 : decode cX1_settle 36 = .ok (.getfield 16, 3) := by decide +kernel
theorem dX1_settle_39 : decode cX1_settle 39 = .ok (.iload_n 3, 1) := by decide +kernel
theorem dX1_settle_40 : decode cX1_settle 40 = .ok (.invokevirtual 104, 3) := by decide +kernel
theorem dX1_settle_43 : decode cX1_settle 43 = .ok (.ifCond .eq 24, 3) := by decide +kernel
theorem dX1_settle_46 : decode cX1_settle 46 = .ok (.aload_n 0, 1) := by decide +kernel
theorem dX1_settle_47 : decode cX1_settle 47 = .ok (.getfield 16, 3) := by decide +kernel
theorem dX1_settle_50 : decode cX1_settle 50 = .ok (.sipush 156, 3) := by decide +kernel
theorem dX1_settle_53 : decode cX1_settle 53 = .ok (.lconst 0, 1) := by decide +kernel
theorem dX1_settle_54 : decode cX1_settle 54 = .ok (.invokevirtual 38, 3) := by decide +kernel
theorem dX1_settle_57 : decode cX1_settle 57 = .ok (.aload_n 0, 1) := by decide +kernel
theorem dX1_settle_58 : decode cX1_settle 58 = .ok (.iconst 2, 1) := by decide +kernel
theorem dX1_settle_59 : decode cX1_settle 59 = .ok (.iload_n 1, 1) := by decide +kernel
theorem dX1_settle_60 : decode cX1_settle 60 = .ok (.imul, 1) := by decide +kernel
theorem dX1_settle_61 : decode cX1_settle 61 = .ok (.iconst 2, 1) := by decide +kernel
theorem dX1_settle_62 : decode cX1_settle 62 = .ok (.iload_n 1, 1) := by decide +kernel
theorem dX1_settle_63 : decode cX1_settle 63 = .ok (.imul, 1) := by decide +kernel
theorem dX1_settle_64 : decode cX1_settle 64 = .ok (.invokevirtual 42, 3) := by decide +kernel
theorem dX1_settle_67 : decode cX1_settle 67 = .ok (.aload_n 0, 1) := by decide +kernel
theorem dX1_settle_68 : decode cX1_settle 68 = .ok (.getfield 16, 3) := by decide +kernel
theorem dX1_settle_71 : decode cX1_settle 71 = .ok (.iload_n 3, 1) := by decide +kernel
theorem dX1_settle_72 : decode cX1_settle 72 = .ok (.invokevirtual 104, 3) := by decide +kernel
theorem dX1_settle_75 : decode cX1_settle 75 = .ok (.ifCond .eq 31, 3) := by decide +kernel
theorem dX1_settle_78 : decode cX1_settle 78 = .ok (.aload_n 0, 1) := by decide +kernel
theorem dX1_settle_79 : decode cX1_settle 79 = .ok (.getfield 16, 3) := by decide +kernel
theorem dX1_settle_82 : decode cX1_settle 82 = .ok (.sipush 156, 3) := by decide +kernel
theorem dX1_settle_85 : decode cX1_settle 85 = .ok (.iload_n 2, 1) := by decide +kernel
theorem dX1_settle_86 : decode cX1_settle 86 = .ok (.invokevirtual 108, 3) := by decide +kernel
theorem dX1_settle_89 : decode cX1_settle 89 = .ok (.aload_n 0, 1) := by decide +kernel
theorem dX1_settle_90 : decode cX1_settle 90 = .ok (.iconst 2, 1) := by decide +kernel
theorem dX1_settle_91 : decode cX1_settle 91 = .ok (.iload_n 1, 1) := by decide +kernel
theorem dX1_settle_92 : decode cX1_settle 92 = .ok (.imul, 1) := by decide +kernel
theorem dX1_settle_93 : decode cX1_settle 93 = .ok (.iconst 1, 1) := by decide +kernel
theorem dX1_settle_94 : decode cX1_settle 94 = .ok (.iadd, 1) := by decide +kernel
theorem dX1_settle_95 : decode cX1_settle 95 = .ok (.iconst 2, 1) := by decide +kernel
theorem dX1_settle_96 : decode cX1_settle 96 = .ok (.iload_n 1, 1) := by decide +kernel
theorem dX1_settle_97 : decode cX1_settle 97 = .ok (.imul, 1) := by decide +kernel
theorem dX1_settle_98 : decode cX1_settle 98 = .ok (.iconst 1, 1) := by decide +kernel
theorem dX1_settle_99 : decode cX1_settle 99 = .ok (.iadd, 1) := by decide +kernel
theorem dX1_settle_100 : decode cX1_settle 100 = .ok (.invokevirtual 42, 3) := by decide +kernel
theorem dX1_settle_103 : decode cX1_settle 103 = .ok (.goto 24, 3) := by decide +kernel
theorem dX1_settle_106 : decode cX1_settle 106 = .ok (.aload_n 0, 1) := by decide +kernel
theorem dX1_settle_107 : decode cX1_settle 107 = .ok (.getfield 16, 3) := by decide +kernel
theorem dX1_settle_110 : decode cX1_settle 110 = .ok (.sipush 156, 3) := by decide +kernel
theorem dX1_settle_113 : decode cX1_settle 113 = .ok (.iload_n 3, 1) := by decide +kernel
theorem dX1_settle_114 : decode cX1_settle 114 = .ok (.invokevirtual 108, 3) := by decide +kernel
theorem dX1_settle_117 : decode cX1_settle 117 = .ok (.aload_n 0, 1) := by decide +kernel
theorem dX1_settle_118 : decode cX1_settle 118 = .ok (.iconst 2, 1) := by decide +kernel
theorem dX1_settle_119 : decode cX1_settle 119 = .ok (.iload_n 1, 1) := by decide +kernel
theorem dX1_settle_120 : decode cX1_settle 120 = .ok (.imul, 1) := by decide +kernel
theorem dX1_settle_121 : decode cX1_settle 121 = .ok (.iconst 2, 1) := by decide +kernel
theorem dX1_settle_122 : decode cX1_settle 122 = .ok (.iload_n 1, 1) := by decide +kernel
theorem dX1_settle_123 : decode cX1_settle 123 = .ok (.imul, 1) := by decide +kernel
theorem dX1_settle_124 : decode cX1_settle 124 = .ok (.invokevirtual 42, 3) := by decide +kernel
theorem dX1_settle_127 : decode cX1_settle 127 = .ok (.return_, 1) := by decide +kernel
set_option maxRecDepth 20000 in
theorem ggX1_shiftToLeast_X1_cell : GoodIn wsX1_shiftToLeast wsX1_cell := goodIn_r _ [5] rfl (by decide +kernel)
set_option maxRecDepth 20000 in
theorem gX1_shiftToLeast_X1_cell : GoodIn wsX1_shiftToLeast (va_wsS RX1 50 yX1_cell wsX1_cell) := goodIn_app (goodIn_of _ (by decide +kernel)) ggX1_shiftToLeast_X1_cell
set_option maxRecDepth 20000 in
theorem ggX1_shiftToLeast_X0_isInfinite : GoodIn wsX1_shiftToLeast wsX0_isInfinite := goodIn_r _ [10, 11, 12, 13, 35, 36, 37, 38] rfl (by decide +kernel)
set_option maxRecDepth 20000 in
theorem gX1_shiftToLeast_X0_isInfinite : GoodIn wsX1_shiftToLeast (wsV RX1 104 RX0 yX0_isInfinite wsX0_isInfinite) := goodIn_app (goodIn_of _ (by decide +kernel)) ggX1_shiftToLeast_X0_isInfinite
set_option maxRecDepth 20000 in
theorem ggX1_shiftToLeast_X0_putHalf : GoodIn wsX1_shiftToLeast wsX0_putHalf := goodIn_r _ [17, 11, 12, 18, 19, 7, 8, 9, 10, 13, 20, 21, 22, 23, 35, 36, 37, 38] rfl (by decide +kernel)
set_option maxRecDepth 20000 in
theorem gX1_shiftToLeast_X0_putHalf : GoodIn wsX1_shiftToLeast (wsV RX1 101 RX0 yX0_putHalf wsX0_putHalf) := goodIn_app (goodIn_of _ (by decide +kernel)) ggX1_shiftToLeast_X0_putHalf
set_option maxRecDepth 20000 in
theorem ggX1_shiftToLeast_X0_putNegative : GoodIn wsX1_shiftToLeast wsX0_putNegative := goodIn_r _ [27, 12, 11, 28, 18, 19, 7, 8, 9, 10, 13, 20, 21, 22, 23, 35, 36, 37, 38] rfl (by decide +kernel)
set_option maxRecDepth 20000 in
theorem gX1_shiftToLeast_X0_putNegative : GoodIn wsX1_shiftToLeast (wsV RX1 108 RX0 yX0_putNegative wsX0_putNegative) := goodIn_app (goodIn_of _ (by decide +kernel)) ggX1_shiftToLeast_X0_putNegative
set_option maxRecDepth 20000 in
theorem ggX1_shiftToLeast_X0_putSum : GoodIn wsX1_shiftToLeast wsX0_putSum := goodIn_r _ [32, 11, 12, 13, 28, 18, 35, 36, 37, 38] rfl (by decide +kernel)
set_option maxRecDepth 20000 in
theorem gX1_shiftToLeast_X0_putSum : GoodIn wsX1_shiftToLeast (wsV RX1 111 RX0 yX0_putSum wsX0_putSum) := goodIn_app (goodIn_of _ (by decide +kernel)) ggX1_shiftToLeast_X0_putSum
theorem dX1_shiftToLeast_0 : decode cX1_shiftToLeast 0 = .ok (.iconst 0, 1) := by decide +kernel
theorem dX1_shiftToLeast_1 : decode cX1_shiftToLeast 1 = .ok (.istore_n 1, 1) := by decide +kernel
theorem dX1_shiftToLeast_2 : decode cX1_shiftToLeast 2 = .ok (.iload_n 1, 1) := by decide +kernel
theorem dX1_shiftToLeast_3 : decode cX1_shiftToLeast 3 = .ok (.bipush 6, 2) := by decide +kernel
theorem dX1_shiftToLeast_5 : decode cX1_shiftToLeast 5 = .ok (.if_icmp .ge 93, 3) := by decide +kernel
theorem dX1_shiftToLeast_8 : decode cX1_shiftToLeast 8 = .ok (.iconst 2, 1) := by decide +kernel
theorem dX1_shiftToLeast_9 : decode cX1_shiftToLeast 9 = .ok (.iload_n 1, 1) := by decide +kernel
theorem dX1_shiftToLeast_10 : decode cX1_shiftToLeast 10 = .ok (.imul, 1) := by decide +kernel
theorem dX1_shiftToLeast_11 : decode cX1_shiftToLeast 11 = .ok (.iconst 1, 1) := by decide +kernel
theorem dX1_shiftToLeast_12 : decode cX1_shiftToLeast 12 = .ok (.iadd, 1) := by decide +kernel
theorem dX1_shiftToLeast_13 : decode cX1_shiftToLeast 13 = .ok (.iconst 2, 1) := by decide +kernel
theorem dX1_shiftToLeast_14 : decode cX1_shiftToLeast 14 = .ok (.iload_n 1, 1) := by decide +kernel
theorem dX1_shiftToLeast_15 : decode cX1_shiftToLeast 15 = .ok (.imul, 1) := by decide +kernel
theorem dX1_shiftToLeast_16 : decode cX1_shiftToLeast 16 = .ok (.iconst 1, 1) := by decide +kernel
theorem dX1_shiftToLeast_17 : decode cX1_shiftToLeast 17 = .ok (.iadd, 1) := by decide +kernel
theorem dX1_shiftToLeast_18 : decode cX1_shiftToLeast 18 = .ok (.invokestatic 50, 3) := by decide +kernel
theorem dX1_shiftToLeast_21 : decode cX1_shiftToLeast 21 = .ok (.istore_n 2, 1) := by decide +kernel
theorem dX1_shiftToLeast_22 : decode cX1_shiftToLeast 22 = .ok (.aload_n 0, 1) := by decide +kernel
theorem dX1_shiftToLeast_23 : decode cX1_shiftToLeast 23 = .ok (.getfield 16, 3) := by decide +kernel
theorem dX1_shiftToLeast_26 : decode cX1_shiftToLeast 26 = .ok (.iconst 2, 1) := by decide +kernel
theorem dX1_shiftToLeast_27 : decode cX1_shiftToLeast 27 = .ok (.iload_n 1, 1) := by decide +kernel
theorem dX1_shiftToLeast_28 : decode cX1_shiftToLeast 28 = .ok (.imul, 1) := by decide +kernel
theorem dX1_shiftToLeast_29 : decode cX1_shiftToLeast 29 = .ok (.iconst 2, 1) := by decide +kernel
theorem dX1_shiftToLeast_30 : decode cX1_shiftToLeast 30 = .ok (.iload_n 1, 1) := by decide +kernel
theorem dX1_shiftToLeast_31 : decode cX1_shiftToLeast 31 = .ok (.imul, 1) := by decide +kernel
theorem dX1_shiftToLeast_32 : decode cX1_shiftToLeast 32 = .ok (.invokestatic 50, 3) := by decide +kernel
theorem dX1_shiftToLeast_35 : decode cX1_shiftToLeast 35 = .ok (.invokevirtual 104, 3) := by decide +kernel
theorem dX1_shiftToLeast_38 : decode cX1_shiftToLeast 38 = .ok (.ifCond .ne 14, 3) := by decide +kernel
theorem dX1_shiftToLeast_41 : decode cX1_shiftToLeast 41 = .ok (.aload_n 0, 1) := by decide +kernel
theorem dX1_shiftToLeast_42 : decode cX1_shiftToLeast 42 = .ok (.getfield 16, 3) := by decide +kernel
theorem dX1_shiftToLeast_45 : decode cX1_shiftToLeast 45 = .ok (.iload_n 2, 1) := by decide +kernel
theorem dX1_shiftToLeast_46 : decode cX1_shiftToLeast 46 = .ok (.invokevirtual 104, 3) := by decide +kernel
theorem dX1_shiftToLeast_49 : decode cX1_shiftToLeast 49 = .ok (.ifCond .eq 5, 3) := by decide +kernel
theorem dX1_shiftToLeast_52 : decode cX1_shiftToLeast 52 = .ok (.iconst 0, 1) := by decide +kernel
theorem dX1_shiftToLeast_53 : decode cX1_shiftToLeast 53 = .ok (.ireturn, 1) := by decide +kernel
theorem dX1_shiftToLeast_54 : decode cX1_shiftToLeast 54 = .ok (.aload_n 0, 1) := by decide +kernel
theorem dX1_shiftToLeast_55 : decode cX1_shiftToLeast 55 = .ok (.getfield 16, 3) := by decide +kernel
theorem dX1_shiftToLeast_58 : decode cX1_shiftToLeast 58 = .ok (.sipush 144, 3) := by decide +kernel
theorem dX1_shiftToLeast_61 : decode cX1_shiftToLeast 61 = .ok (.iconst 2, 1) := by decide +kernel
theorem dX1_shiftToLeast_62 : decode cX1_shiftToLeast 62 = .ok (.iload_n 1, 1) := by decide +kernel
theorem dX1_shiftToLeast_63 : decode cX1_shiftToLeast 63 = .ok (.imul, 1) := by decide +kernel
theorem dX1_shiftToLeast_64 : decode cX1_shiftToLeast 64 = .ok (.iadd, 1) := by decide +kernel
theorem dX1_shiftToLeast_65 : decode cX1_shiftToLeast 65 = .ok (.iload_n 2, 1) := by decide +kernel
theorem dX1_shiftToLeast_66 : decode cX1_shiftToLeast 66 = .ok (.invokevirtual 101, 3) := by decide +kernel
theorem dX1_shiftToLeast_69 : decode cX1_shiftToLeast 69 = .ok (.aload_n 0, 1) := by decide +kernel
theorem dX1_shiftToLeast_70 : decode cX1_shiftToLeast 70 = .ok (.getfield 16, 3) := by decide +kernel
theorem dX1_shiftToLeast_73 : decode cX1_shiftToLeast 73 = .ok (.sipush 144, 3) := by decide +kernel
theorem dX1_shiftToLeast_76 : decode cX1_shiftToLeast 76 = .ok (.iconst 2, 1) := by decide +kernel
theorem dX1_shiftToLeast_77 : decode cX1_shiftToLeast 77 = .ok (.iload_n 1, 1) := by decide +kernel
theorem dX1_shiftToLeast_78 : decode cX1_shiftToLeast 78 = .ok (.imul, 1) := by decide +kernel
theorem dX1_shiftToLeast_79 : decode cX1_shiftToLeast 79 = .ok (.iadd, 1) := by decide +kernel
theorem dX1_shiftToLeast_80 : decode cX1_shiftToLeast 80 = .ok (.iconst 1, 1) := by decide +kernel
theorem dX1_shiftToLeast_81 : decode cX1_shiftToLeast 81 = .ok (.iadd, 1) := by decide +kernel
theorem dX1_shiftToLeast_82 : decode cX1_shiftToLeast 82 = .ok (.sipush 144, 3) := by decide +kernel
theorem dX1_shiftToLeast_85 : decode cX1_shiftToLeast 85 = .ok (.iconst 2, 1) := by decide +kernel
theorem dX1_shiftToLeast_86 : decode cX1_shiftToLeast 86 = .ok (.iload_n 1, 1) := by decide +kernel
theorem dX1_shiftToLeast_87 : decode cX1_shiftToLeast 87 = .ok (.imul, 1) := by decide +kernel
theorem dX1_shiftToLeast_88 : decode cX1_shiftToLeast 88 = .ok (.iadd, 1) := by decide +kernel
theorem dX1_shiftToLeast_89 : decode cX1_shiftToLeast 89 = .ok (.invokevirtual 108, 3) := by decide +kernel
theorem dX1_shiftToLeast_92 : decode cX1_shiftToLeast 92 = .ok (.iinc 1 1, 3) := by decide +kernel
theorem dX1_shiftToLeast_95 : decode cX1_shiftToLeast 95 = .ok (.goto (-93), 3) := by decide +kernel
theorem dX1_shiftToLeast_98 : decode cX1_shiftToLeast 98 = .ok (.iconst 0, 1) := by decide +kernel
theorem dX1_shiftToLeast_99 : decode cX1_shiftToLeast 99 = .ok (.istore_n 1, 1) := by decide +kernel
theorem dX1_shiftToLeast_100 : decode cX1_shiftToLeast 100 = .ok (.iload_n 1, 1) := by decide +kernel
theorem dX1_shiftToLeast_101 : decode cX1_shiftToLeast 101 = .ok (.bipush 12, 2) := by decide +kernel
theorem dX1_shiftToLeast_103 : decode cX1_shiftToLeast 103 = .ok (.if_icmp .ge 67, 3) := by decide +kernel
theorem dX1_shiftToLeast_106 : decode cX1_shiftToLeast 106 = .ok (.iconst 0, 1) := by decide +kernel
theorem dX1_shiftToLeast_107 : decode cX1_shiftToLeast 107 = .ok (.istore_n 2, 1) := by decide +kernel
theorem dX1_shiftToLeast_108 : decode cX1_shiftToLeast 108 = .ok (.iload_n 2, 1) := by decide +kernel
theorem dX1_shiftToLeast_109 : decode cX1_shiftToLeast 109 = .ok (.bipush 12, 2) := by decide +kernel
theorem dX1_shiftToLeast_111 : decode cX1_shiftToLeast 111 = .ok (.if_icmp .ge 53, 3) := by decide +kernel
theorem dX1_shiftToLeast_114 : decode cX1_shiftToLeast 114 = .ok (.aload_n 0, 1) := by decide +kernel
theorem dX1_shiftToLeast_115 : decode cX1_shiftToLeast 115 = .ok (.getfield 16, 3) := by decide +kernel
theorem dX1_shiftToLeast_118 : decode cX1_shiftToLeast 118 = .ok (.iload_n 1, 1) := by decide +kernel
theorem dX1_shiftToLeast_119 : decode cX1_shiftToLeast 119 = .ok (.iload_n 2, 1) := by decide +kernel
theorem dX1_shiftToLeast_120 : decode cX1_shiftToLeast 120 = .ok (.invokestatic 50, 3) := by decide +kernel
theorem dX1_shiftToLeast_123 : decode cX1_shiftToLeast 123 = .ok (.iload_n 1, 1) := by decide +kernel
theorem dX1_shiftToLeast_124 : decode cX1_shiftToLeast 124 = .ok (.iload_n 2, 1) := by decide +kernel
theorem dX1_shiftToLeast_125 : decode cX1_shiftToLeast 125 = .ok (.invokestatic 50, 3) := by decide +kernel
theorem dX1_shiftToLeast_128 : decode cX1_shiftToLeast 128 = .ok (.sipush 144, 3) := by decide +kernel
theorem dX1_shiftToLeast_131 : decode cX1_shiftToLeast 131 = .ok (.iload_n 1, 1) := by decide +kernel
theorem dX1_shiftToLeast_132 : decode cX1_shiftToLeast 132 = .ok (.iadd, 1) := by decide +kernel
theorem dX1_shiftToLeast_133 : decode cX1_shiftToLeast 133 = .ok (.invokevirtual 111, 3) := by decide +kernel
theorem dX1_shiftToLeast_136 : decode cX1_shiftToLeast 136 = .ok (.aload_n 0, 1) := by decide +kernel
theorem dX1_shiftToLeast_137 : decode cX1_shiftToLeast 137 = .ok (.getfield 16, 3) := by decide +kernel
theorem dX1_shiftToLeast_140 : decode cX1_shiftToLeast 140 = .ok (.iload_n 1, 1) := by decide +kernel
theorem dX1_shiftToLeast_141 : decode cX1_shiftToLeast 141 = .ok (.iload_n 2, 1) := by decide +kernel
theorem dX1_shiftToLeast_142 : decode cX1_shiftToLeast 142 = .ok (.invokestatic 50, 3) := by decide +kernel
theorem dX1_shiftToLeast_145 : decode cX1_shiftToLeast 145 = .ok (.iload_n 1, 1) := by decide +kernel
theorem dX1_shiftToLeast_146 : decode cX1_shiftToLeast 146 = .ok (.iload_n 2, 1) := by decide +kernel
theorem dX1_shiftToLeast_147 : decode cX1_shiftToLeast 147 = .ok (.invokestatic 50, 3) := by decide +kernel
theorem dX1_shiftToLeast_150 : decode cX1_shiftToLeast 150 = .ok (.sipush 144, 3) := by decide +kernel
theorem dX1_shiftToLeast_153 : decode cX1_shiftToLeast 153 = .ok (.iload_n 2, 1) := by decide +kernel
theorem dX1_shiftToLeast_154 : decode cX1_shiftToLeast 154 = .ok (.iadd, 1) := by decide +kernel
theorem dX1_shiftToLeast_155 : decode cX1_shiftToLeast 155 = .ok (.invokevirtual 111, 3) := by decide +kernel
theorem dX1_shiftToLeast_158 : decode cX1_shiftToLeast 158 = .ok (.iinc 2 1, 3) := by decide +kernel
theorem dX1_shiftToLeast_161 : decode cX1_shiftToLeast 161 = .ok (.goto (-53), 3) := by decide +kernel
theorem dX1_shiftToLeast_164 : decode cX1_shiftToLeast 164 = .ok (.iinc 1 1, 3) := by decide +kernel
theorem dX1_shiftToLeast_167 : decode cX1_shiftToLeast 167 = .ok (.goto (-67), 3) := by decide +kernel
theorem dX1_shiftToLeast_170 : decode cX1_shiftToLeast 170 = .ok (.iconst 1, 1) := by decide +kernel
theorem dX1_shiftToLeast_171 : decode cX1_shiftToLeast 171 = .ok (.ireturn, 1) := by decide +kernel
set_option maxRecDepth 20000 in
theorem ggX1_passThrough_X1_cell : GoodIn wsX1_passThrough wsX1_cell := goodIn_r _ [6] rfl (by decide +kernel)
set_option maxRecDepth 20000 in
theorem gX1_passThrough_X1_cell : GoodIn wsX1_passThrough (va_wsS RX1 50 yX1_cell wsX1_cell) := goodIn_app (goodIn_of _ (by decide +kernel)) ggX1_passThrough_X1_cell
set_option maxRecDepth 20000 in
theorem ggX1_passThrough_X3_negation : GoodIn wsX1_passThrough wsX3_negation := goodIn_r _ [9] rfl (by decide +kernel)
set_option maxRecDepth 20000 in
theorem gX1_passThrough_X3_negation_n82 : GoodIn wsX1_passThrough (wsX3_negation) := ggX1_passThrough_X3_negation
set_option maxRecDepth 20000 in
theorem ggX1_passThrough_X0_putSum : GoodIn wsX1_passThrough wsX0_putSum := goodIn_r _ [14, 15, 16, 17, 18, 19, 44, 45, 46, 47] rfl (by decide +kernel)
set_option maxRecDepth 20000 in
theorem gX1_passThrough_X0_putSum : GoodIn wsX1_passThrough (wsV RX1 111 RX0 yX0_putSum wsX0_putSum) := goodIn_app (goodIn_of _ (by decide +kernel)) ggX1_passThrough_X0_putSum
set_option maxRecDepth 20000 in
theorem ggX1_passThrough_X0_isNegative : GoodIn wsX1_passThrough wsX0_isNegative := goodIn_r _ [23, 15, 16, 44, 45, 46, 47] rfl (by decide +kernel)
set_option maxRecDepth 20000 in
theorem gX1_passThrough_X0_isNegative : GoodIn wsX1_passThrough (wsV RX1 115 RX0 yX0_isNegative wsX0_isNegative) := goodIn_app (goodIn_of _ (by decide +kernel)) ggX1_passThrough_X0_isNegative
set_option maxRecDepth 20000 in
theorem ggX1_passThrough_X0_isInfinite : GoodIn wsX1_passThrough wsX0_isInfinite := goodIn_r _ [27, 15, 16, 17, 44, 45, 46, 47] rfl (by decide +kernel)
set_option maxRecDepth 20000 in
theorem gX1_passThrough_X0_isInfinite : GoodIn wsX1_passThrough (wsV RX1 104 RX0 yX0_isInfinite wsX0_isInfinite) := goodIn_app (goodIn_of _ (by decide +kernel)) ggX1_passThrough_X0_isInfinite
set_option maxRecDepth 20000 in
theorem ggX1_passThrough_X0_lower : GoodIn wsX1_passThrough wsX0_lower := goodIn_r _ [31, 32, 33, 11, 12, 13, 14, 15, 16, 17, 18, 19, 34, 35, 36, 37, 38, 39, 40, 41, 44, 45, 46, 47] rfl (by decide +kernel)
set_option maxRecDepth 20000 in
theorem gX1_passThrough_X0_lower : GoodIn wsX1_passThrough (wsV RX1 118 RX0 yX0_lower wsX0_lower) := goodIn_app (goodIn_of _ (by decide +kernel)) ggX1_passThrough_X0_lower
theorem dX1_passThrough_0 : decode cX1_passThrough 0 = .ok (.aload_n 0, 1) := by decide +kernel
theorem dX1_passThrough_1 : decode cX1_passThrough 1 = .ok (.getfield 16, 3) := by decide +kernel
theorem dX1_passThrough_4 : decode cX1_passThrough 4 = .ok (.sipush 156, 3) := by decide +kernel
theorem dX1_passThrough_7 : decode cX1_passThrough 7 = .ok (.iload_n 1, 1) := by decide +kernel
theorem dX1_passThrough_8 : decode cX1_passThrough 8 = .ok (.iload_n 2, 1) := by decide +kernel
theorem dX1_passThrough_9 : decode cX1_passThrough 9 = .ok (.invokestatic 50, 3) := by decide +kernel
theorem dX1_passThrough_12 : decode cX1_passThrough 12 = .ok (.iload_n 2, 1) := by decide +kernel
theorem dX1_passThrough_13 : decode cX1_passThrough 13 = .ok (.invokestatic 82, 3) := by decide +kernel
theorem dX1_passThrough_16 : decode cX1_passThrough 16 = .ok (.iload_n 1, 1) := by decide +kernel
theorem dX1_passThrough_17 : decode cX1_passThrough 17 = .ok (.invokestatic 82, 3) := by decide +kernel
theorem dX1_passThrough_20 : decode cX1_passThrough 20 = .ok (.invokestatic 50, 3) := by decide +kernel
theorem dX1_passThrough_23 : decode cX1_passThrough 23 = .ok (.invokevirtual 111, 3) := by decide +kernel
theorem dX1_passThrough_26 : decode cX1_passThrough 26 = .ok (.aload_n 0, 1) := by decide +kernel
theorem dX1_passThrough_27 : decode cX1_passThrough 27 = .ok (.getfield 20, 3) := by decide +kernel
theorem dX1_passThrough_30 : decode cX1_passThrough 30 = .ok (.ifCond .ne 16, 3) := by decide +kernel
theorem dX1_passThrough_33 : decode cX1_passThrough 33 = .ok (.aload_n 0, 1) := by decide +kernel
theorem dX1_passThrough_34 : decode cX1_passThrough 34 = .ok (.getfield 16, 3) := by decide +kernel
theorem dX1_passThrough_37 : decode cX1_passThrough 37 = .ok (.sipush 156, 3) := by decide +kernel
theorem dX1_passThrough_40 : decode cX1_passThrough 40 = .ok (.invokevirtual 115, 3) := by decide +kernel
theorem dX1_passThrough_43 : decode cX1_passThrough 43 = .ok (.ifCond .eq 9, 3) := by decide +kernel
theorem dX1_passThrough_46 : decode cX1_passThrough 46 = .ok (.aload_n 0, 1) := by decide +kernel
theorem dX1_passThrough_47 : decode cX1_passThrough 47 = .ok (.iconst 1, 1) := by decide +kernel
theorem dX1_passThrough_48 : decode cX1_passThrough 48 = .ok (.putfield 20, 3) := by decide +kernel
theorem dX1_passThrough_51 : decode cX1_passThrough 51 = .ok (.return_, 1) := by decide +kernel
theorem dX1_passThrough_52 : decode cX1_passThrough 52 = .ok (.iconst 0, 1) := by decide +kernel
theorem dX1_passThrough_53 : decode cX1_passThrough 53 = .ok (.istore_n 3, 1) := by decide +kernel
theorem dX1_passThrough_54 : decode cX1_passThrough 54 = .ok (.iload_n 3, 1) := by decide +kernel
theorem dX1_passThrough_55 : decode cX1_passThrough 55 = .ok (.bipush 12, 2) := by decide +kernel
theorem dX1_passThrough_57 : decode cX1_passThrough 57 = .ok (.if_icmp .ge 86, 3) := by decide +kernel
theorem dX1_passThrough_60 : decode cX1_passThrough 60 = .ok (.aload_n 0, 1) := by decide +kernel
theorem dX1_passThrough_61 : decode cX1_passThrough 61 = .ok (.getfield 16, 3) := by decide +kernel
theorem dX1_passThrough_64 : decode cX1_passThrough 64 = .ok (.sipush 156, 3) := by decide +kernel
theorem dX1_passThrough_67 : decode cX1_passThrough 67 = .ok (.iload_n 3, 1) := by decide +kernel
theorem dX1_passThrough_68 : decode cX1_passThrough 68 = .ok (.iload_n 1, 1) := by decide +kernel
theorem dX1_passThrough_69 : decode cX1_passThrough 69 = .ok (.invokestatic 82, 3) := by decide +kernel
theorem dX1_passThrough_72 : decode cX1_passThrough 72 = .ok (.invokestatic 50, 3) := by decide +kernel
theorem dX1_passThrough_75 : decode cX1_passThrough 75 = .ok (.iload_n 1, 1) := by decide +kernel
theorem dX1_passThrough_76 : decode cX1_passThrough 76 = .ok (.iload_n 2, 1) := by decide +kernel
theorem dX1_passThrough_77 : decode cX1_passThrough 77 = .ok (.invokestatic 50, 3) := by decide +kernel
theorem dX1_passThrough_80 : decode cX1_passThrough 80 = .ok (.invokevirtual 111, 3) := by decide +kernel
theorem dX1_passThrough_83 : decode cX1_passThrough 83 = .ok (.iconst 0, 1) := by decide +kernel
theorem dX1_passThrough_84 : decode cX1_passThrough 84 = .ok (.istore 4, 2) := by decide +kernel
theorem dX1_passThrough_86 : decode cX1_passThrough 86 = .ok (.iload 4, 2) := by decide +kernel
theorem dX1_passThrough_88 : decode cX1_passThrough 88 = .ok (.bipush 12, 2) := by decide +kernel
theorem dX1_passThrough_90 : decode cX1_passThrough 90 = .ok (.if_icmp .ge 47, 3) := by decide +kernel
theorem dX1_passThrough_93 : decode cX1_passThrough 93 = .ok (.aload_n 0, 1) := by decide +kernel
theorem dX1_passThrough_94 : decode cX1_passThrough 94 = .ok (.getfield 16, 3) := by decide +kernel
theorem dX1_passThrough_97 : decode cX1_passThrough 97 = .ok (.sipush 156, 3) := by decide +kernel
theorem dX1_passThrough_100 : decode cX1_passThrough 100 = .ok (.invokevirtual 104, 3) := by decide +kernel
theorem dX1_passThrough_103 : decode cX1_passThrough 103 = .ok (.ifCond .ne 34, 3) := by decide +kernel
theorem dX1_passThrough_106 : decode cX1_passThrough 106 = .ok (.aload_n 0, 1) := by decide +kernel
theorem dX1_passThrough_107 : decode cX1_passThrough 107 = .ok (.getfield 16, 3) := by decide +kernel
theorem dX1_passThrough_110 : decode cX1_passThrough 110 = .ok (.iload_n 3, 1) := by decide +kernel
theorem dX1_passThrough_111 : decode cX1_passThrough 111 = .ok (.iload 4, 2) := by decide +kernel
theorem dX1_passThrough_113 : decode cX1_passThrough 113 = .ok (.invokestatic 50, 3) := by decide +kernel
theorem dX1_passThrough_116 : decode cX1_passThrough 116 = .ok (.sipush 156, 3) := by decide +kernel
theorem dX1_passThrough_119 : decode cX1_passThrough 119 = .ok (.iload_n 2, 1) := by decide +kernel
theorem dX1_passThrough_120 : decode cX1_passThrough 120 = .ok (.invokestatic 82, 3) := by decide +kernel
theorem dX1_passThrough_123 : decode cX1_passThrough 123 = .ok (.iload 4, 2) := by decide +kernel
theorem dX1_passThrough_125 : decode cX1_passThrough 125 = .ok (.invokestatic 50, 3) := by decide +kernel
theorem dX1_passThrough_128 : decode cX1_passThrough 128 = .ok (.invokevirtual 118, 3) := by decide +kernel
theorem dX1_passThrough_131 : decode cX1_passThrough 131 = .ok (.iinc 4 1, 3) := by decide +kernel
theorem dX1_passThrough_134 : decode cX1_passThrough 134 = .ok (.goto (-48), 3) := by decide +kernel
theorem dX1_passThrough_137 : decode cX1_passThrough 137 = .ok (.iinc 3 1, 3) := by decide +kernel
theorem dX1_passThrough_140 : decode cX1_passThrough 140 = .ok (.goto (-86), 3) := by decide +kernel
theorem dX1_passThrough_143 : decode cX1_passThrough 143 = .ok (.return_, 1) := by decide +kernel
set_option maxRecDepth 20000 in
theorem ggX1_close_X1_cell : GoodIn wsX1_close wsX1_cell := goodIn_r _ [6] rfl (by decide +kernel)
set_option maxRecDepth 20000 in
theorem gX1_close_X1_cell : GoodIn wsX1_close (va_wsS RX1 50 yX1_cell wsX1_cell) := goodIn_app (goodIn_of _ (by decide +kernel)) ggX1_close_X1_cell
set_option maxRecDepth 20000 in
theorem ggX1_close_X0_isInfinite : GoodIn wsX1_close wsX0_isInfinite := goodIn_r _ [11, 12, 13, 14, 60, 61, 62, 63] rfl (by decide +kernel)
set_option maxRecDepth 20000 in
theorem gX1_close_X0_isInfinite : GoodIn wsX1_close (wsV RX1 104 RX0 yX0_isInfinite wsX0_isInfinite) := goodIn_app (goodIn_of _ (by decide +kernel)) ggX1_close_X0_isInfinite
set_option maxRecDepth 20000 in
theorem ggX1_close_X3_negation : GoodIn wsX1_close wsX3_negation := goodIn_r _ [17] rfl (by decide +kernel)
set_option maxRecDepth 20000 in
theorem gX1_close_X3_negation_n82 : GoodIn wsX1_close (wsX3_negation) := ggX1_close_X3_negation
set_option maxRecDepth 20000 in
theorem ggX1_close_X0_lower : GoodIn wsX1_close wsX0_lower := goodIn_r _ [21, 22, 23, 24, 25, 10, 26, 12, 13, 14, 27, 28, 29, 30, 31, 32, 33, 34, 35, 36, 60, 61, 62, 63] rfl (by decide +kernel)
set_option maxRecDepth 20000 in
theorem gX1_close_X0_lower : GoodIn wsX1_close (wsV RX1 118 RX0 yX0_lower wsX0_lower) := goodIn_app (goodIn_of _ (by decide +kernel)) ggX1_close_X0_lower
set_option maxRecDepth 20000 in
theorem ggX1_close_X1_findContradiction : GoodIn wsX1_close wsX1_findContradiction := goodIn_r _ [40, 2, 1, 15, 16, 17, 3, 4, 5, 6, 41, 42, 43, 10, 44, 12, 13, 58, 59, 60, 61, 62, 63] rfl (by decide +kernel)
set_option maxRecDepth 20000 in
theorem gX1_close_X1_findContradiction : GoodIn wsX1_close (wsV RX1 121 RX1 yX1_findContradiction wsX1_findContradiction) := goodIn_app (goodIn_of _ (by decide +kernel)) ggX1_close_X1_findContradiction
set_option maxRecDepth 20000 in
theorem ggX1_close_X1_combineSingles : GoodIn wsX1_close wsX1_combineSingles := goodIn_r _ [48, 1, 2, 3, 4, 5, 6, 49, 50, 51, 10, 52, 12, 13, 28, 53, 8, 9, 11, 14, 54, 55, 56, 57, 7, 18, 19, 20, 21, 22, 23, 24, 25, 26, 27, 29, 30, 31, 32, 33, 34, 35, 36, 37, 38, 39, 40, 15, 16, 17, 41, 42, 43, 44, 58, 59, 60, 61, 62, 63] rfl (by decide +kernel)
set_option maxRecDepth 20000 in
theorem gX1_close_X1_combineSingles : GoodIn wsX1_close (wsV RX1 68 RX1 yX1_combineSingles wsX1_combineSingles) := goodIn_app (goodIn_of _ (by decide +kernel)) ggX1_close_X1_combineSingles
theorem dX1_close_0 : decode cX1_close 0 = .ok (.iconst 0, 1) := by decide +kernel
theorem dX1_close_1 : decode cX1_close 1 = .ok (.istore_n 1, 1) := by decide +kernel
theorem dX1_close_2 : decode cX1_close 2 = .ok (.iload_n 1, 1) := by decide +kernel
theorem dX1_close_3 : decode cX1_close 3 = .ok (.bipush 12, 2) := by decide +kernel
theorem dX1_close_5 : decode cX1_close 5 = .ok (.if_icmp .ge 88, 3) := by decide +kernel
theorem dX1_close_8 : decode cX1_close 8 = .ok (.aload_n 0, 1) := by decide +kernel
theorem dX1_close_9 : decode cX1_close 9 = .ok (.getfield 20, 3) := by decide +kernel
theorem dX1_close_12 : decode cX1_close 12 = .ok (.ifCond .ne 81, 3) := by decide +kernel
theorem dX1_close_15 : decode cX1_close 15 = .ok (.iconst 0, 1) := by decide +kernel
theorem dX1_close_16 : decode cX1_close 16 = .ok (.istore_n 2, 1) := by decide +kernel
theorem dX1_close_17 : decode cX1_close 17 = .ok (.iload_n 2, 1) := by decide +kernel
theorem dX1_close_18 : decode cX1_close 18 = .ok (.bipush 12, 2) := by decide +kernel
theorem dX1_close_20 : decode cX1_close 20 = .ok (.if_icmp .ge 63, 3) := by decide +kernel
theorem dX1_close_23 : decode cX1_close 23 = .ok (.iconst 0, 1) := by decide +kernel
theorem dX1_close_24 : decode cX1_close 24 = .ok (.istore_n 3, 1) := by decide +kernel
theorem dX1_close_25 : decode cX1_close 25 = .ok (.iload_n 3, 1) := by decide +kernel
theorem dX1_close_26 : decode cX1_close 26 = .ok (.bipush 12, 2) := by decide +kernel
theorem dX1_close_28 : decode cX1_close 28 = .ok (.if_icmp .ge 49, 3) := by decide +kernel
theorem dX1_close_31 : decode cX1_close 31 = .ok (.aload_n 0, 1) := by decide +kernel
theorem dX1_close_32 : decode cX1_close 32 = .ok (.getfield 16, 3) := by decide +kernel
theorem dX1_close_35 : decode cX1_close 35 = .ok (.iload_n 2, 1) := by decide +kernel
theorem dX1_close_36 : decode cX1_close 36 = .ok (.iload_n 1, 1) := by decide +kernel
theorem dX1_close_37 : decode cX1_close 37 = .ok (.invokestatic 50, 3) := by decide +kernel
theorem dX1_close_40 : decode cX1_close 40 = .ok (.invokevirtual 104, 3) := by decide +kernel
theorem dX1_close_43 : decode cX1_close 43 = .ok (.ifCond .ne 34, 3) := by decide +kernel
theorem dX1_close_46 : decode cX1_close 46 = .ok (.aload_n 0, 1) := by decide +kernel
theorem dX1_close_47 : decode cX1_close 47 = .ok (.getfield 16, 3) := by decide +kernel
theorem dX1_close_50 : decode cX1_close 50 = .ok (.iload_n 2, 1) := by decide +kernel
theorem dX1_close_51 : decode cX1_close 51 = .ok (.iload_n 3, 1) := by decide +kernel
theorem dX1_close_52 : decode cX1_close 52 = .ok (.invokestatic 50, 3) := by decide +kernel
theorem dX1_close_55 : decode cX1_close 55 = .ok (.iload_n 2, 1) := by decide +kernel
theorem dX1_close_56 : decode cX1_close 56 = .ok (.iload_n 1, 1) := by decide +kernel
theorem dX1_close_57 : decode cX1_close 57 = .ok (.invokestatic 50, 3) := by decide +kernel
theorem dX1_close_60 : decode cX1_close 60 = .ok (.iload_n 1, 1) := by decide +kernel
theorem dX1_close_61 : decode cX1_close 61 = .ok (.invokestatic 82, 3) := by decide +kernel
theorem dX1_close_64 : decode cX1_close 64 = .ok (.iload_n 3, 1) := by decide +kernel
theorem dX1_close_65 : decode cX1_close 65 = .ok (.invokestatic 50, 3) := by decide +kernel
theorem dX1_close_68 : decode cX1_close 68 = .ok (.invokevirtual 118, 3) := by decide +kernel
theorem dX1_close_71 : decode cX1_close 71 = .ok (.iinc 3 1, 3) := by decide +kernel
theorem dX1_close_74 : decode cX1_close 74 = .ok (.goto (-49), 3) := by decide +kernel
theorem dX1_close_77 : decode cX1_close 77 = .ok (.iinc 2 1, 3) := by decide +kernel
theorem dX1_close_80 : decode cX1_close 80 = .ok (.goto (-63), 3) := by decide +kernel
theorem dX1_close_83 : decode cX1_close 83 = .ok (.aload_n 0, 1) := by decide +kernel
theorem dX1_close_84 : decode cX1_close 84 = .ok (.invokevirtual 121, 3) := by decide +kernel
theorem dX1_close_87 : decode cX1_close 87 = .ok (.iinc 1 1, 3) := by decide +kernel
theorem dX1_close_90 : decode cX1_close 90 = .ok (.goto (-88), 3) := by decide +kernel
theorem dX1_close_93 : decode cX1_close 93 = .ok (.aload_n 0, 1) := by decide +kernel
theorem dX1_close_94 : decode cX1_close 94 = .ok (.invokevirtual 68, 3) := by decide +kernel
theorem dX1_close_97 : decode cX1_close 97 = .ok (.return_, 1) := by decide +kernel
set_option maxRecDepth 20000 in
theorem ggX1_combineSingles_X1_cell : GoodIn wsX1_combineSingles wsX1_cell := goodIn_r _ [6] rfl (by decide +kernel)
set_option maxRecDepth 20000 in
theorem gX1_combineSingles_X1_cell : GoodIn wsX1_combineSingles (va_wsS RX1 50 yX1_cell wsX1_cell) := goodIn_app (goodIn_of _ (by decide +kernel)) ggX1_combineSingles_X1_cell
set_option maxRecDepth 20000 in
theorem ggX1_combineSingles_X0_putHalf : GoodIn wsX1_combineSingles wsX0_putHalf := goodIn_r _ [11, 12, 13, 14, 15, 16, 17, 10, 18, 19, 20, 21, 22, 23, 56, 57, 58, 59] rfl (by decide +kernel)
set_option maxRecDepth 20000 in
theorem gX1_combineSingles_X0_putHalf : GoodIn wsX1_combineSingles (wsV RX1 101 RX0 yX0_putHalf wsX0_putHalf) := goodIn_app (goodIn_of _ (by decide +kernel)) ggX1_combineSingles_X0_putHalf
set_option maxRecDepth 20000 in
theorem ggX1_combineSingles_X0_isInfinite : GoodIn wsX1_combineSingles wsX0_isInfinite := goodIn_r _ [18, 12, 13, 19, 56, 57, 58, 59] rfl (by decide +kernel)
set_option maxRecDepth 20000 in
theorem gX1_combineSingles_X0_isInfinite : GoodIn wsX1_combineSingles (wsV RX1 104 RX0 yX0_isInfinite wsX0_isInfinite) := goodIn_app (goodIn_of _ (by decide +kernel)) ggX1_combineSingles_X0_isInfinite
set_option maxRecDepth 20000 in
theorem ggX1_combineSingles_X0_lower : GoodIn wsX1_combineSingles wsX0_lower := goodIn_r _ [28, 29, 30, 31, 32, 10, 33, 12, 13, 19, 34, 14, 35, 36, 37, 38, 39, 40, 41, 42, 56, 57, 58, 59] rfl (by decide +kernel)
set_option maxRecDepth 20000 in
theorem gX1_combineSingles_X0_lower : GoodIn wsX1_combineSingles (wsV RX1 118 RX0 yX0_lower wsX0_lower) := goodIn_app (goodIn_of _ (by decide +kernel)) ggX1_combineSingles_X0_lower
set_option maxRecDepth 20000 in
theorem ggX1_combineSingles_X1_findContradiction : GoodIn wsX1_combineSingles wsX1_findContradiction := goodIn_r _ [46, 2, 1, 47, 48, 49, 3, 4, 5, 6, 50, 51, 52, 10, 53, 12, 13, 54, 55, 56, 57, 58, 59] rfl (by decide +kernel)
set_option maxRecDepth 20000 in
theorem gX1_combineSingles_X1_findContradiction : GoodIn wsX1_combineSingles (wsV RX1 121 RX1 yX1_findContradiction wsX1_findContradiction) := goodIn_app (goodIn_of _ (by decide +kernel)) ggX1_combineSingles_X1_findContradiction
theorem dX1_combineSingles_0 : decode cX1_combineSingles 0 = .ok (.aload_n 0, 1) := by decide +kernel
theorem dX1_combineSingles_1 : decode cX1_combineSingles 1 = .ok (.getfield 20, 3) := by decide +kernel
theorem dX1_combineSingles_4 : decode cX1_combineSingles 4 = .ok (.ifCond .eq 4, 3) := by decide +kernel
theorem dX1_combineSingles_7 : decode cX1_combineSingles 7 = .ok (.return_, 1) := by decide +kernel
theorem dX1_combineSingles_8 : decode cX1_combineSingles 8 = .ok (.iconst 0, 1) := by decide +kernel
theorem dX1_combineSingles_9 : decode cX1_combineSingles 9 = .ok (.istore_n 1, 1) := by decide +kernel
theorem dX1_combineSingles_10 : decode cX1_combineSingles 10 = .ok (.iload_n 1, 1) := by decide +kernel
theorem dX1_combineSingles_11 : decode cX1_combineSingles 11 = .ok (.bipush 12, 2) := by decide +kernel
theorem dX1_combineSingles_13 : decode cX1_combineSingles 13 = .ok (.if_icmp .ge 26, 3) := by decide +kernel
theorem dX1_combineSingles_16 : decode cX1_combineSingles 16 = .ok (.aload_n 0, 1) := by decide +kernel
theorem dX1_combineSingles_17 : decode cX1_combineSingles 17 = .ok (.getfield 16, 3) := by decide +kernel
theorem dX1_combineSingles_20 : decode cX1_combineSingles 20 = .ok (.sipush 144, 3) := by decide +kernel
theorem dX1_combineSingles_23 : decode cX1_combineSingles 23 = .ok (.iload_n 1, 1) := by decide +kernel
theorem dX1_combineSingles_24 : decode cX1_combineSingles 24 = .ok (.iadd, 1) := by decide +kernel
theorem dX1_combineSingles_25 : decode cX1_combineSingles 25 = .ok (.iload_n 1, 1) := by decide +kernel
theorem dX1_combineSingles_26 : decode cX1_combineSingles 26 = .ok (.iload_n 1, 1) := by decide +kernel
theorem dX1_combineSingles_27 : decode cX1_combineSingles 27 = .ok (.invokestatic 50, 3) := by decide +kernel
theorem dX1_combineSingles_30 : decode cX1_combineSingles 30 = .ok (.invokevirtual 101, 3) := by decide +kernel
theorem dX1_combineSingles_33 : decode cX1_combineSingles 33 = .ok (.iinc 1 1, 3) := by decide +kernel
theorem dX1_combineSingles_36 : decode cX1_combineSingles 36 = .ok (.goto (-26), 3) := by decide +kernel
theorem dX1_combineSingles_39 : decode cX1_combineSingles 39 = .ok (.iconst 0, 1) := by decide +kernel
theorem dX1_combineSingles_40 : decode cX1_combineSingles 40 = .ok (.istore_n 1, 1) := by decide +kernel
theorem dX1_combineSingles_41 : decode cX1_combineSingles 41 = .ok (.iload_n 1, 1) := by decide +kernel
theorem dX1_combineSingles_42 : decode cX1_combineSingles 42 = .ok (.bipush 12, 2) := by decide +kernel
theorem dX1_combineSingles_44 : decode cX1_combineSingles 44 = .ok (.if_icmp .ge 60, 3) := by decide +kernel
theorem dX1_combineSingles_47 : decode cX1_combineSingles 47 = .ok (.iconst 0, 1) := by decide +kernel
theorem dX1_combineSingles_48 : decode cX1_combineSingles 48 = .ok (.istore_n 2, 1) := by decide +kernel
theorem dX1_combineSingles_49 : decode cX1_combineSingles 49 = .ok (.iload_n 2, 1) := by decide +kernel
theorem dX1_combineSingles_50 : decode cX1_combineSingles 50 = .ok (.bipush 12, 2) := by decide +kernel
theorem dX1_combineSingles_52 : decode cX1_combineSingles 52 = .ok (.if_icmp .ge 46, 3) := by decide +kernel
theorem dX1_combineSingles_55 : decode cX1_combineSingles 55 = .ok (.aload_n 0, 1) := by decide +kernel
theorem dX1_combineSingles_56 : decode cX1_combineSingles 56 = .ok (.getfield 16, 3) := by decide +kernel
theorem dX1_combineSingles_59 : decode cX1_combineSingles 59 = .ok (.sipush 144, 3) := by decide +kernel
theorem dX1_combineSingles_62 : decode cX1_combineSingles 62 = .ok (.iload_n 1, 1) := by decide +kernel
theorem dX1_combineSingles_63 : decode cX1_combineSingles 63 = .ok (.iadd, 1) := by decide +kernel
theorem dX1_combineSingles_64 : decode cX1_combineSingles 64 = .ok (.invokevirtual 104, 3) := by decide +kernel
theorem dX1_combineSingles_67 : decode cX1_combineSingles 67 = .ok (.ifCond .ne 31, 3) := by decide +kernel
theorem dX1_combineSingles_70 : decode cX1_combineSingles 70 = .ok (.aload_n 0, 1) := by decide +kernel
theorem dX1_combineSingles_71 : decode cX1_combineSingles 71 = .ok (.getfield 16, 3) := by decide +kernel
theorem dX1_combineSingles_74 : decode cX1_combineSingles 74 = .ok (.iload_n 1, 1) := by decide +kernel
theorem dX1_combineSingles_75 : decode cX1_combineSingles 75 = .ok (.iload_n 2, 1) := by decide +kernel
theorem dX1_combineSingles_76 : decode cX1_combineSingles 76 = .ok (.invokestatic 50, 3) := by decide +kernel
theorem dX1_combineSingles_79 : decode cX1_combineSingles 79 = .ok (.sipush 144, 3) := by decide +kernel
theorem dX1_combineSingles_82 : decode cX1_combineSingles 82 = .ok (.iload_n 1, 1) := by decide +kernel
theorem dX1_combineSingles_83 : decode cX1_combineSingles 83 = .ok (.iadd, 1) := by decide +kernel
theorem dX1_combineSingles_84 : decode cX1_combineSingles 84 = .ok (.sipush 144, 3) := by decide +kernel
theorem dX1_combineSingles_87 : decode cX1_combineSingles 87 = .ok (.iload_n 2, 1) := by decide +kernel
theorem dX1_combineSingles_88 : decode cX1_combineSingles 88 = .ok (.iadd, 1) := by decide +kernel
theorem dX1_combineSingles_89 : decode cX1_combineSingles 89 = .ok (.invokevirtual 118, 3) := by decide +kernel
theorem dX1_combineSingles_92 : decode cX1_combineSingles 92 = .ok (.iinc 2 1, 3) := by decide +kernel
theorem dX1_combineSingles_95 : decode cX1_combineSingles 95 = .ok (.goto (-46), 3) := by decide +kernel
theorem dX1_combineSingles_98 : decode cX1_combineSingles 98 = .ok (.iinc 1 1, 3) := by decide +kernel
theorem dX1_combineSingles_101 : decode cX1_combineSingles 101 = .ok (.goto (-60), 3) := by decide +kernel
theorem dX1_combineSingles_104 : decode cX1_combineSingles 104 = .ok (.aload_n 0, 1) := by decide +kernel
theorem dX1_combineSingles_105 : decode cX1_combineSingles 105 = .ok (.invokevirtual 121, 3) := by decide +kernel
theorem dX1_combineSingles_108 : decode cX1_combineSingles 108 = .ok (.return_, 1) := by decide +kernel
set_option maxRecDepth 20000 in
theorem ggX1_findContradiction_X3_negation : GoodIn wsX1_findContradiction wsX3_negation := goodIn_r _ [5] rfl (by decide +kernel)
set_option maxRecDepth 20000 in
theorem gX1_findContradiction_X3_negation_n82 : GoodIn wsX1_findContradiction (wsX3_negation) := ggX1_findContradiction_X3_negation
set_option maxRecDepth 20000 in
theorem ggX1_findContradiction_X1_cell : GoodIn wsX1_findContradiction wsX1_cell := goodIn_r _ [9] rfl (by decide +kernel)
set_option maxRecDepth 20000 in
theorem gX1_findContradiction_X1_cell : GoodIn wsX1_findContradiction (va_wsS RX1 50 yX1_cell wsX1_cell) := goodIn_app (goodIn_of _ (by decide +kernel)) ggX1_findContradiction_X1_cell
set_option maxRecDepth 20000 in
theorem ggX1_findContradiction_X0_isNegative : GoodIn wsX1_findContradiction wsX0_isNegative := goodIn_r _ [14, 15, 16, 19, 20, 21, 22] rfl (by decide +kernel)
set_option maxRecDepth 20000 in
theorem gX1_findContradiction_X0_isNegative : GoodIn wsX1_findContradiction (wsV RX1 115 RX0 yX0_isNegative wsX0_isNegative) := goodIn_app (goodIn_of _ (by decide +kernel)) ggX1_findContradiction_X0_isNegative
theorem dX1_findContradiction_0 : decode cX1_findContradiction 0 = .ok (.iconst 0, 1) := by decide +kernel
theorem dX1_findContradiction_1 : decode cX1_findContradiction 1 = .ok (.istore_n 1, 1) := by decide +kernel
theorem dX1_findContradiction_2 : decode cX1_findContradiction 2 = .ok (.iload_n 1, 1) := by decide +kernel
theorem dX1_findContradiction_3 : decode cX1_findContradiction 3 = .ok (.bipush 12, 2) := by decide +kernel
theorem dX1_findContradiction_5 : decode cX1_findContradiction 5 = .ok (.if_icmp .ge 32, 3) := by decide +kernel
theorem dX1_findContradiction_8 : decode cX1_findContradiction 8 = .ok (.aload_n 0, 1) := by decide +kernel
theorem dX1_findContradiction_9 : decode cX1_findContradiction 9 = .ok (.getfield 16, 3) := by decide +kernel
theorem dX1_findContradiction_12 : decode cX1_findContradiction 12 = .ok (.iload_n 1, 1) := by decide +kernel
theorem dX1_findContradiction_13 : decode cX1_findContradiction 13 = .ok (.iload_n 1, 1) := by decide +kernel
theorem dX1_findContradiction_14 : decode cX1_findContradiction 14 = .ok (.invokestatic 82, 3) := by decide +kernel
theorem dX1_findContradiction_17 : decode cX1_findContradiction 17 = .ok (.invokestatic 50, 3) := by decide +kernel
theorem dX1_findContradiction_20 : decode cX1_findContradiction 20 = .ok (.invokevirtual 115, 3) := by decide +kernel
theorem dX1_findContradiction_23 : decode cX1_findContradiction 23 = .ok (.ifCond .eq 8, 3) := by decide +kernel
theorem dX1_findContradiction_26 : decode cX1_findContradiction 26 = .ok (.aload_n 0, 1) := by decide +kernel
theorem dX1_findContradiction_27 : decode cX1_findContradiction 27 = .ok (.iconst 1, 1) := by decide +kernel
theorem dX1_findContradiction_28 : decode cX1_findContradiction 28 = .ok (.putfield 20, 3) := by decide +kernel
theorem dX1_findContradiction_31 : decode cX1_findContradiction 31 = .ok (.iinc 1 1, 3) := by decide +kernel
theorem dX1_findContradiction_34 : decode cX1_findContradiction 34 = .ok (.goto (-32), 3) := by decide +kernel
theorem dX1_findContradiction_37 : decode cX1_findContradiction 37 = .ok (.return_, 1) := by decide +kernel
