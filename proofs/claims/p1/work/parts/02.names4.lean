theorem dX6_negation_0 : decode cX6_negation 0 = .ok (.iload_n 0, 1) := by decide +kernel
theorem dX6_negation_1 : decode cX6_negation 1 = .ok (.iconst 1, 1) := by decide +kernel
theorem dX6_negation_2 : decode cX6_negation 2 = .ok (.ixor, 1) := by decide +kernel
theorem dX6_negation_3 : decode cX6_negation 3 = .ok (.ireturn, 1) := by decide +kernel
theorem dX4_init_0 : decode cX4_init 0 = .ok (.aload_n 0, 1) := by decide +kernel
theorem dX4_init_1 : decode cX4_init 1 = .ok (.invokespecial 3, 3) := by decide +kernel
theorem dX4_init_4 : decode cX4_init 4 = .ok (.aload_n 0, 1) := by decide +kernel
theorem dX4_init_5 : decode cX4_init 5 = .ok (.aload_n 1, 1) := by decide +kernel
theorem dX4_init_6 : decode cX4_init 6 = .ok (.putfield 9, 3) := by decide +kernel
theorem dX4_init_9 : decode cX4_init 9 = .ok (.aload_n 0, 1) := by decide +kernel
theorem dX4_init_10 : decode cX4_init 10 = .ok (.aload_n 1, 1) := by decide +kernel
theorem dX4_init_11 : decode cX4_init 11 = .ok (.getfield 15, 3) := by decide +kernel
theorem dX4_init_14 : decode cX4_init 14 = .ok (.putfield 21, 3) := by decide +kernel
theorem dX4_init_17 : decode cX4_init 17 = .ok (.aload_n 0, 1) := by decide +kernel
theorem dX4_init_18 : decode cX4_init 18 = .ok (.bipush 78, 2) := by decide +kernel
theorem dX4_init_20 : decode cX4_init 20 = .ok (.newarray .long, 2) := by decide +kernel
theorem dX4_init_22 : decode cX4_init 22 = .ok (.putfield 22, 3) := by decide +kernel
theorem dX4_init_25 : decode cX4_init 25 = .ok (.aload_n 0, 1) := by decide +kernel
theorem dX4_init_26 : decode cX4_init 26 = .ok (.iconst 1, 1) := by decide +kernel
theorem dX4_init_27 : decode cX4_init 27 = .ok (.putfield 26, 3) := by decide +kernel
theorem dX4_init_30 : decode cX4_init 30 = .ok (.return_, 1) := by decide +kernel
theorem dX4_cell_0 : decode cX4_cell 0 = .ok (.iload_n 0, 1) := by decide +kernel
theorem dX4_cell_1 : decode cX4_cell 1 = .ok (.iload_n 1, 1) := by decide +kernel
theorem dX4_cell_2 : decode cX4_cell 2 = .ok (.if_icmp .ge 15, 3) := by decide +kernel
theorem dX4_cell_5 : decode cX4_cell 5 = .ok (.iload_n 1, 1) := by decide +kernel
theorem dX4_cell_6 : decode cX4_cell 6 = .ok (.iload_n 1, 1) := by decide +kernel
theorem dX4_cell_7 : decode cX4_cell 7 = .ok (.iconst 1, 1) := by decide +kernel
theorem dX4_cell_8 : decode cX4_cell 8 = .ok (.iadd, 1) := by decide +kernel
theorem dX4_cell_9 : decode cX4_cell 9 = .ok (.imul, 1) := by decide +kernel
theorem dX4_cell_10 : decode cX4_cell 10 = .ok (.iconst 2, 1) := by decide +kernel
theorem dX4_cell_11 : decode cX4_cell 11 = .ok (.idiv, 1) := by decide +kernel
theorem dX4_cell_12 : decode cX4_cell 12 = .ok (.iload_n 0, 1) := by decide +kernel
theorem dX4_cell_13 : decode cX4_cell 13 = .ok (.iadd, 1) := by decide +kernel
theorem dX4_cell_14 : decode cX4_cell 14 = .ok (.goto 12, 3) := by decide +kernel
theorem dX4_cell_17 : decode cX4_cell 17 = .ok (.iload_n 0, 1) := by decide +kernel
theorem dX4_cell_18 : decode cX4_cell 18 = .ok (.iload_n 0, 1) := by decide +kernel
theorem dX4_cell_19 : decode cX4_cell 19 = .ok (.iconst 1, 1) := by decide +kernel
theorem dX4_cell_20 : decode cX4_cell 20 = .ok (.iadd, 1) := by decide +kernel
theorem dX4_cell_21 : decode cX4_cell 21 = .ok (.imul, 1) := by decide +kernel
theorem dX4_cell_22 : decode cX4_cell 22 = .ok (.iconst 2, 1) := by decide +kernel
theorem dX4_cell_23 : decode cX4_cell 23 = .ok (.idiv, 1) := by decide +kernel
theorem dX4_cell_24 : decode cX4_cell 24 = .ok (.iload_n 1, 1) := by decide +kernel
theorem dX4_cell_25 : decode cX4_cell 25 = .ok (.iadd, 1) := by decide +kernel
theorem dX4_cell_26 : decode cX4_cell 26 = .ok (.ireturn, 1) := by decide +kernel
set_option maxRecDepth 20000 in
theorem ggX4_put_X3_replace : GoodIn wsX4_put wsX3_replace := goodIn_r _ [7, 8, 9, 10, 6, 11, 12, 13, 14, 15, 16, 17, 18, 19, 20, 21, 22, 23, 24, 25, 26, 27, 28, 33, 34, 35, 36, 37, 38, 39, 40, 41, 42, 43, 44, 45, 46, 47, 48, 49] rfl (by decide +kernel)
set_option maxRecDepth 20000 in
theorem gX4_put_X3_replace : GoodIn wsX4_put (wsV RX4 30 RX3 yX3_replace wsX3_replace) := goodIn_app (goodIn_of _ (by decide +kernel)) ggX4_put_X3_replace
theorem dX4_put_0 : decode cX4_put 0 = .ok (.aload_n 0, 1) := by decide +kernel
theorem dX4_put_1 : decode cX4_put 1 = .ok (.getfield 22, 3) := by decide +kernel
theorem dX4_put_4 : decode cX4_put 4 = .ok (.iload_n 1, 1) := by decide +kernel
theorem dX4_put_5 : decode cX4_put 5 = .ok (.aload_n 0, 1) := by decide +kernel
theorem dX4_put_6 : decode cX4_put 6 = .ok (.getfield 21, 3) := by decide +kernel
theorem dX4_put_9 : decode cX4_put 9 = .ok (.aload_n 0, 1) := by decide +kernel
theorem dX4_put_10 : decode cX4_put 10 = .ok (.getfield 22, 3) := by decide +kernel
theorem dX4_put_13 : decode cX4_put 13 = .ok (.iload_n 1, 1) := by decide +kernel
theorem dX4_put_14 : decode cX4_put 14 = .ok (.laload, 1) := by decide +kernel
theorem dX4_put_15 : decode cX4_put 15 = .ok (.lload_n 2, 1) := by decide +kernel
theorem dX4_put_16 : decode cX4_put 16 = .ok (.invokevirtual 30, 3) := by decide +kernel
theorem dX4_put_19 : decode cX4_put 19 = .ok (.lastore, 1) := by decide +kernel
theorem dX4_put_20 : decode cX4_put 20 = .ok (.return_, 1) := by decide +kernel
set_option maxRecDepth 20000 in
theorem ggX4_allowNone_X3_replace : GoodIn wsX4_allowNone wsX3_replace := goodIn_r _ [8, 9, 10, 11, 7, 12, 13, 14, 15, 16, 17, 18, 19, 20, 21, 22, 23, 24, 25, 26, 27, 28, 29, 34, 35, 36, 37, 38, 39, 40, 41, 42, 43, 44, 45, 46, 47, 48, 49, 50] rfl (by decide +kernel)
set_option maxRecDepth 20000 in
theorem gX4_allowNone_X3_replace : GoodIn wsX4_allowNone (wsV RX4 30 RX3 yX3_replace wsX3_replace) := goodIn_app (goodIn_of _ (by decide +kernel)) ggX4_allowNone_X3_replace
theorem dX4_allowNone_0 : decode cX4_allowNone 0 = .ok (.aload_n 0, 1) := by decide +kernel
theorem dX4_allowNone_1 : decode cX4_allowNone 1 = .ok (.iconst 1, 1) := by decide +kernel
theorem dX4_allowNone_2 : decode cX4_allowNone 2 = .ok (.putfield 26, 3) := by decide +kernel
theorem dX4_allowNone_5 : decode cX4_allowNone 5 = .ok (.iconst 0, 1) := by decide +kernel
theorem dX4_allowNone_6 : decode cX4_allowNone 6 = .ok (.istore_n 1, 1) := by decide +kernel
theorem dX4_allowNone_7 : decode cX4_allowNone 7 = .ok (.iload_n 1, 1) := by decide +kernel
theorem dX4_allowNone_8 : decode cX4_allowNone 8 = .ok (.bipush 78, 2) := by decide +kernel
theorem dX4_allowNone_10 : decode cX4_allowNone 10 = .ok (.if_icmp .ge 29, 3) := by decide +kernel
theorem dX4_allowNone_13 : decode cX4_allowNone 13 = .ok (.aload_n 0, 1) := by decide +kernel
theorem dX4_allowNone_14 : decode cX4_allowNone 14 = .ok (.getfield 22, 3) := by decide +kernel
theorem dX4_allowNone_17 : decode cX4_allowNone 17 = .ok (.iload_n 1, 1) := by decide +kernel
theorem dX4_allowNone_18 : decode cX4_allowNone 18 = .ok (.aload_n 0, 1) := by decide +kernel
theorem dX4_allowNone_19 : decode cX4_allowNone 19 = .ok (.getfield 21, 3) := by decide +kernel
theorem dX4_allowNone_22 : decode cX4_allowNone 22 = .ok (.aload_n 0, 1) := by decide +kernel
theorem dX4_allowNone_23 : decode cX4_allowNone 23 = .ok (.getfield 22, 3) := by decide +kernel
theorem dX4_allowNone_26 : decode cX4_allowNone 26 = .ok (.iload_n 1, 1) := by decide +kernel
theorem dX4_allowNone_27 : decode cX4_allowNone 27 = .ok (.laload, 1) := by decide +kernel
theorem dX4_allowNone_28 : decode cX4_allowNone 28 = .ok (.lconst 0, 1) := by decide +kernel
theorem dX4_allowNone_29 : decode cX4_allowNone 29 = .ok (.invokevirtual 30, 3) := by decide +kernel
theorem dX4_allowNone_32 : decode cX4_allowNone 32 = .ok (.lastore, 1) := by decide +kernel
theorem dX4_allowNone_33 : decode cX4_allowNone 33 = .ok (.iinc 1 1, 3) := by decide +kernel
theorem dX4_allowNone_36 : decode cX4_allowNone 36 = .ok (.goto (-29), 3) := by decide +kernel
theorem dX4_allowNone_39 : decode cX4_allowNone 39 = .ok (.return_, 1) := by decide +kernel
set_option maxRecDepth 20000 in
theorem ggX4_allowAll_X4_release : GoodIn wsX4_allowAll wsX4_release := goodIn_r _ [6, 1, 7, 8, 9, 5, 10, 11, 12, 13, 14, 15, 16, 17, 18, 19, 20, 21, 22, 23, 24, 25, 26, 27, 28, 29, 30, 31, 32, 33, 34, 35, 36, 37, 38, 39, 40, 41, 42, 43, 44, 45, 46, 47, 48, 49, 50, 51, 52, 53, 54, 55, 56, 57, 58, 59, 60, 61, 62, 63, 64, 65, 66] rfl (by decide +kernel)
set_option maxRecDepth 20000 in
theorem gX4_allowAll_X4_release : GoodIn wsX4_allowAll (wsV RX4 36 RX4 yX4_release wsX4_release) := goodIn_app (goodIn_of _ (by decide +kernel)) ggX4_allowAll_X4_release
theorem dX4_allowAll_0 : decode cX4_allowAll 0 = .ok (.aload_n 0, 1) := by decide +kernel
theorem dX4_allowAll_1 : decode cX4_allowAll 1 = .ok (.iconst 0, 1) := by decide +kernel
theorem dX4_allowAll_2 : decode cX4_allowAll 2 = .ok (.putfield 26, 3) := by decide +kernel
theorem dX4_allowAll_5 : decode cX4_allowAll 5 = .ok (.iconst 0, 1) := by decide +kernel
theorem dX4_allowAll_6 : decode cX4_allowAll 6 = .ok (.istore_n 1, 1) := by decide +kernel
theorem dX4_allowAll_7 : decode cX4_allowAll 7 = .ok (.iload_n 1, 1) := by decide +kernel
theorem dX4_allowAll_8 : decode cX4_allowAll 8 = .ok (.bipush 6, 2) := by decide +kernel
theorem dX4_allowAll_10 : decode cX4_allowAll 10 = .ok (.if_icmp .ge 14, 3) := by decide +kernel
theorem dX4_allowAll_13 : decode cX4_allowAll 13 = .ok (.aload_n 0, 1) := by decide +kernel
theorem dX4_allowAll_14 : decode cX4_allowAll 14 = .ok (.iload_n 1, 1) := by decide +kernel
theorem dX4_allowAll_15 : decode cX4_allowAll 15 = .ok (.invokevirtual 36, 3) := by decide +kernel
theorem dX4_allowAll_18 : decode cX4_allowAll 18 = .ok (.iinc 1 1, 3) := by decide +kernel
theorem dX4_allowAll_21 : decode cX4_allowAll 21 = .ok (.goto (-14), 3) := by decide +kernel
theorem dX4_allowAll_24 : decode cX4_allowAll 24 = .ok (.return_, 1) := by decide +kernel
set_option maxRecDepth 20000 in
theorem ggX4_takeOver_X4_put : GoodIn wsX4_takeOver wsX4_put := goodIn_r _ [7, 2, 8, 9, 10, 11, 12, 13, 14, 15, 16, 17, 18, 19, 20, 21, 22, 23, 24, 25, 26, 27, 28, 29, 30, 31, 32, 33, 34, 35, 36, 37, 38, 39, 40, 41, 42, 43, 44, 45, 46, 47, 48, 49, 50, 51, 52, 53, 54, 55] rfl (by decide +kernel)
set_option maxRecDepth 20000 in
theorem gX4_takeOver_X4_put : GoodIn wsX4_takeOver (wsV RX4 40 RX4 yX4_put wsX4_put) := goodIn_app (goodIn_of _ (by decide +kernel)) ggX4_takeOver_X4_put
theorem dX4_takeOver_0 : decode cX4_takeOver 0 = .ok (.aload_n 0, 1) := by decide +kernel
theorem dX4_takeOver_1 : decode cX4_takeOver 1 = .ok (.aload_n 1, 1) := by decide +kernel
theorem dX4_takeOver_2 : decode cX4_takeOver 2 = .ok (.getfield 26, 3) := by decide +kernel
theorem dX4_takeOver_5 : decode cX4_takeOver 5 = .ok (.putfield 26, 3) := by decide +kernel
theorem dX4_takeOver_8 : decode cX4_takeOver 8 = .ok (.iconst 0, 1) := by decide +kernel
theorem dX4_takeOver_9 : decode cX4_takeOver 9 = .ok (.istore_n 2, 1) := by decide +kernel
theorem dX4_takeOver_10 : decode cX4_takeOver 10 = .ok (.iload_n 2, 1) := by decide +kernel
theorem dX4_takeOver_11 : decode cX4_takeOver 11 = .ok (.bipush 78, 2) := by decide +kernel
theorem dX4_takeOver_13 : decode cX4_takeOver 13 = .ok (.if_icmp .ge 20, 3) := by decide +kernel
theorem dX4_takeOver_16 : decode cX4_takeOver 16 = .ok (.aload_n 0, 1) := by decide +kernel
theorem dX4_takeOver_17 : decode cX4_takeOver 17 = .ok (.iload_n 2, 1) := by decide +kernel
theorem dX4_takeOver_18 : decode cX4_takeOver 18 = .ok (.aload_n 1, 1) := by decide +kernel
theorem dX4_takeOver_19 : decode cX4_takeOver 19 = .ok (.getfield 22, 3) := by decide +kernel
theorem dX4_takeOver_22 : decode cX4_takeOver 22 = .ok (.iload_n 2, 1) := by decide +kernel
theorem dX4_takeOver_23 : decode cX4_takeOver 23 = .ok (.laload, 1) := by decide +kernel
theorem dX4_takeOver_24 : decode cX4_takeOver 24 = .ok (.invokevirtual 40, 3) := by decide +kernel
theorem dX4_takeOver_27 : decode cX4_takeOver 27 = .ok (.iinc 2 1, 3) := by decide +kernel
theorem dX4_takeOver_30 : decode cX4_takeOver 30 = .ok (.goto (-20), 3) := by decide +kernel
theorem dX4_takeOver_33 : decode cX4_takeOver 33 = .ok (.return_, 1) := by decide +kernel
set_option maxRecDepth 20000 in
theorem ggX4_makeFrom_X4_allowNone : GoodIn wsX4_makeFrom wsX4_allowNone := goodIn_r _ [7, 1, 8, 9, 10, 11, 12, 13, 14, 15, 16, 17, 18, 19, 20, 21, 22, 23, 24, 25, 26, 27, 28, 29, 30, 31, 32, 33, 34, 35, 189, 190, 191, 192, 193, 194, 195, 196, 197, 198, 199, 200, 201, 202, 203, 204, 205, 206, 207, 208, 209] rfl (by decide +kernel)
set_option maxRecDepth 20000 in
theorem gX4_makeFrom_X4_allowNone : GoodIn wsX4_makeFrom (wsV RX4 44 RX4 yX4_allowNone wsX4_allowNone) := goodIn_app (goodIn_of _ (by decide +kernel)) ggX4_makeFrom_X4_allowNone
set_option maxRecDepth 20000 in
theorem ggX4_makeFrom_X4_tell : GoodIn wsX4_makeFrom wsX4_tell := goodIn_r _ [39, 1, 9, 8, 40, 41, 6, 42, 43, 44, 45, 46, 47, 48, 49, 50, 51, 52, 53, 54, 13, 55, 20, 19, 56, 57, 58, 59, 60, 61, 62, 30, 31, 63, 64, 65, 66, 67, 68, 69, 70, 71, 72, 16, 17, 18, 21, 22, 23, 24, 25, 73, 74, 75, 76, 34, 35, 77, 78, 79, 80, 81, 32, 33, 82, 83, 84, 85, 86, 87, 88, 89, 90, 91, 92, 93, 94, 95, 96, 97, 98, 99, 100, 26, 27, 28, 29, 101, 102, 103, 104, 105, 106, 107, 108, 109, 110, 111, 112, 113, 114, 115, 116, 117, 118, 119, 120, 121, 122, 10, 11, 12, 14, 15, 189, 190, 191, 192, 199, 200, 201, 202, 203, 204, 205, 206, 207, 193, 194, 195, 196, 197, 198, 208, 209] rfl (by decide +kernel)
set_option maxRecDepth 20000 in
theorem gX4_makeFrom_X4_tell : GoodIn wsX4_makeFrom (wsV RX4 47 RX4 yX4_tell wsX4_tell) := goodIn_app (goodIn_of _ (by decide +kernel)) ggX4_makeFrom_X4_tell
set_option maxRecDepth 20000 in
theorem ggX4_makeFrom_X4_takeOver : GoodIn wsX4_makeFrom wsX4_takeOver := goodIn_r _ [126, 1, 8, 119, 120, 121, 6, 122, 9, 10, 11, 12, 13, 14, 15, 16, 17, 18, 19, 20, 21, 22, 23, 24, 25, 26, 27, 28, 29, 30, 31, 32, 33, 34, 35, 189, 190, 191, 192, 193, 194, 195, 196, 197, 198, 199, 200, 201, 202, 203, 204, 205, 206, 207, 208, 209] rfl (by decide +kernel)
set_option maxRecDepth 20000 in
theorem gX4_makeFrom_X4_takeOver : GoodIn wsX4_makeFrom (wsV RX4 51 RX4 yX4_takeOver wsX4_takeOver) := goodIn_app (goodIn_of _ (by decide +kernel)) ggX4_makeFrom_X4_takeOver
set_option maxRecDepth 20000 in
theorem ggX4_makeFrom_X0_note : GoodIn wsX4_makeFrom wsX0_note := goodIn_r _ [131, 132, 133, 134, 11, 12, 13, 14, 15, 16, 17, 18, 19, 20, 21, 22, 23, 24, 25, 26, 27, 28, 29, 30, 31, 32, 33, 34, 35, 210, 211, 212, 193, 194, 195, 196, 197, 198, 199, 200, 201, 202, 203, 204, 205, 206, 207, 208, 209] rfl (by decide +kernel)
set_option maxRecDepth 20000 in
theorem gX4_makeFrom_X0_note : GoodIn wsX4_makeFrom (wsV RX4 55 RX0 yX0_note wsX0_note) := goodIn_app (goodIn_of _ (by decide +kernel)) ggX4_makeFrom_X0_note
set_option maxRecDepth 20000 in
theorem ggX4_makeFrom_X4_holdToSpare : GoodIn wsX4_makeFrom wsX4_holdToSpare := goodIn_r _ [138, 9, 2, 139, 8, 1, 49, 50, 6, 51, 140, 141, 142, 13, 143, 144, 145, 146, 147, 20, 19, 56, 57, 148, 30, 59, 60, 61, 62, 149, 150, 69, 70, 71, 72, 31, 63, 16, 17, 18, 21, 22, 23, 24, 25, 101, 102, 103, 104, 105, 119, 120, 121, 122, 10, 11, 12, 14, 15, 26, 27, 28, 29, 32, 33, 34, 35, 151, 152, 153, 154, 155, 43, 44, 45, 156, 52, 53, 54, 55, 58, 64, 65, 66, 67, 68, 73, 74, 75, 76, 77, 78, 79, 80, 81, 82, 83, 84, 85, 86, 87, 88, 89, 90, 91, 92, 93, 94, 95, 96, 97, 98, 99, 100, 106, 107, 108, 109, 110, 111, 112, 113, 114, 115, 116, 117, 118, 127, 128, 129, 130, 131, 132, 133, 134, 157, 158, 159, 160, 161, 162, 163, 164, 165, 166, 167, 168, 169, 170, 171, 172, 173, 174, 175, 176, 177, 178, 3, 4, 5, 7, 189, 190, 191, 192, 210, 211, 212, 199, 200, 201, 202, 203, 204, 205, 206, 207, 193, 194, 195, 196, 197, 198, 208, 209] rfl (by decide +kernel)
set_option maxRecDepth 20000 in
theorem gX4_makeFrom_X4_holdToSpare : GoodIn wsX4_makeFrom (wsV RX4 58 RX4 yX4_holdToSpare wsX4_holdToSpare) := goodIn_app (goodIn_of _ (by decide +kernel)) ggX4_makeFrom_X4_holdToSpare
set_option maxRecDepth 20000 in
theorem ggX4_makeFrom_X4_scatter : GoodIn wsX4_makeFrom wsX4_scatter := goodIn_r _ [182, 183, 184, 185, 186, 187, 6, 188, 1, 155, 49, 50, 51, 43, 44, 45, 119, 120, 121, 122, 8, 9, 10, 11, 12, 13, 14, 15, 16, 17, 18, 19, 20, 21, 22, 23, 24, 25, 26, 27, 28, 29, 30, 31, 32, 33, 34, 35, 157, 158, 159, 160, 2, 139, 161, 162, 163, 164, 165, 63, 58, 68, 73, 74, 75, 76, 77, 78, 79, 80, 59, 60, 61, 62, 81, 82, 83, 84, 85, 86, 87, 88, 89, 90, 91, 92, 93, 94, 95, 96, 97, 98, 99, 100, 166, 167, 168, 169, 170, 118, 109, 110, 111, 112, 113, 114, 115, 116, 117, 127, 128, 129, 130, 131, 132, 133, 134, 156, 145, 146, 147, 56, 57, 148, 149, 150, 69, 70, 71, 72, 101, 102, 103, 104, 105, 52, 53, 54, 55, 64, 65, 66, 67, 106, 107, 108, 171, 172, 173, 174, 175, 176, 177, 178, 189, 190, 191, 192, 193, 194, 195, 196, 197, 198, 199, 200, 201, 202, 203, 204, 205, 206, 207, 208, 209, 210, 211, 212] rfl (by decide +kernel)
set_option maxRecDepth 20000 in
theorem gX4_makeFrom_X4_scatter : GoodIn wsX4_makeFrom (wsV RX4 62 RX4 yX4_scatter wsX4_scatter) := goodIn_app (goodIn_of _ (by decide +kernel)) ggX4_makeFrom_X4_scatter
theorem dX4_makeFrom_0 : decode cX4_makeFrom 0 = .ok (.aload_n 1, 1) := by decide +kernel
theorem dX4_makeFrom_1 : decode cX4_makeFrom 1 = .ok (.getfield 26, 3) := by decide +kernel
theorem dX4_makeFrom_4 : decode cX4_makeFrom 4 = .ok (.ifCond .eq 8, 3) := by decide +kernel
theorem dX4_makeFrom_7 : decode cX4_makeFrom 7 = .ok (.aload_n 0, 1) := by decide +kernel
theorem dX4_makeFrom_8 : decode cX4_makeFrom 8 = .ok (.invokevirtual 44, 3) := by decide +kernel
theorem dX4_makeFrom_11 : decode cX4_makeFrom 11 = .ok (.return_, 1) := by decide +kernel
theorem dX4_makeFrom_12 : decode cX4_makeFrom 12 = .ok (.iload_n 2, 1) := by decide +kernel
theorem dX4_makeFrom_13 : decode cX4_makeFrom 13 = .ok (.iconst 1, 1) := by decide +kernel
theorem dX4_makeFrom_14 : decode cX4_makeFrom 14 = .ok (.if_icmp .ne 14, 3) := by decide +kernel
theorem dX4_makeFrom_17 : decode cX4_makeFrom 17 = .ok (.aload_n 0, 1) := by decide +kernel
theorem dX4_makeFrom_18 : decode cX4_makeFrom 18 = .ok (.aload_n 1, 1) := by decide +kernel
theorem dX4_makeFrom_19 : decode cX4_makeFrom 19 = .ok (.iload_n 3, 1) := by decide +kernel
theorem dX4_makeFrom_20 : decode cX4_makeFrom 20 = .ok (.iload 4, 2) := by decide +kernel
theorem dX4_makeFrom_22 : decode cX4_makeFrom 22 = .ok (.iload 5, 2) := by decide +kernel
theorem dX4_makeFrom_24 : decode cX4_makeFrom 24 = .ok (.invokevirtual 47, 3) := by decide +kernel
theorem dX4_makeFrom_27 : decode cX4_makeFrom 27 = .ok (.return_, 1) := by decide +kernel
theorem dX4_makeFrom_28 : decode cX4_makeFrom 28 = .ok (.aload_n 0, 1) := by decide +kernel
theorem dX4_makeFrom_29 : decode cX4_makeFrom 29 = .ok (.aload_n 1, 1) := by decide +kernel
theorem dX4_makeFrom_30 : decode cX4_makeFrom 30 = .ok (.invokevirtual 51, 3) := by decide +kernel
theorem dX4_makeFrom_33 : decode cX4_makeFrom 33 = .ok (.iload_n 2, 1) := by decide +kernel
theorem dX4_makeFrom_34 : decode cX4_makeFrom 34 = .ok (.ifCond .ne 39, 3) := by decide +kernel
theorem dX4_makeFrom_37 : decode cX4_makeFrom 37 = .ok (.aload_n 0, 1) := by decide +kernel
theorem dX4_makeFrom_38 : decode cX4_makeFrom 38 = .ok (.getfield 9, 3) := by decide +kernel
theorem dX4_makeFrom_41 : decode cX4_makeFrom 41 = .ok (.bipush 12, 2) := by decide +kernel
theorem dX4_makeFrom_43 : decode cX4_makeFrom 43 = .ok (.iload_n 3, 1) := by decide +kernel
theorem dX4_makeFrom_44 : decode cX4_makeFrom 44 = .ok (.iload 4, 2) := by decide +kernel
theorem dX4_makeFrom_46 : decode cX4_makeFrom 46 = .ok (.if_icmp .ne 11, 3) := by decide +kernel
theorem dX4_makeFrom_49 : decode cX4_makeFrom 49 = .ok (.iconst 2, 1) := by decide +kernel
theorem dX4_makeFrom_50 : decode cX4_makeFrom 50 = .ok (.iload 5, 2) := by decide +kernel
theorem dX4_makeFrom_52 : decode cX4_makeFrom 52 = .ok (.imul, 1) := by decide +kernel
theorem dX4_makeFrom_53 : decode cX4_makeFrom 53 = .ok (.i2l, 1) := by decide +kernel
theorem dX4_makeFrom_54 : decode cX4_makeFrom 54 = .ok (.goto 6, 3) := by decide +kernel
theorem dX4_makeFrom_57 : decode cX4_makeFrom 57 = .ok (.iload 5, 2) := by decide +kernel
theorem dX4_makeFrom_59 : decode cX4_makeFrom 59 = .ok (.i2l, 1) := by decide +kernel
theorem dX4_makeFrom_60 : decode cX4_makeFrom 60 = .ok (.invokevirtual 55, 3) := by decide +kernel
theorem dX4_makeFrom_63 : decode cX4_makeFrom 63 = .ok (.aload_n 0, 1) := by decide +kernel
theorem dX4_makeFrom_64 : decode cX4_makeFrom 64 = .ok (.iload_n 3, 1) := by decide +kernel
theorem dX4_makeFrom_65 : decode cX4_makeFrom 65 = .ok (.iload 4, 2) := by decide +kernel
theorem dX4_makeFrom_67 : decode cX4_makeFrom 67 = .ok (.invokevirtual 58, 3) := by decide +kernel
theorem dX4_makeFrom_70 : decode cX4_makeFrom 70 = .ok (.goto 14, 3) := by decide +kernel
theorem dX4_makeFrom_73 : decode cX4_makeFrom 73 = .ok (.aload_n 0, 1) := by decide +kernel
theorem dX4_makeFrom_74 : decode cX4_makeFrom 74 = .ok (.iload_n 3, 1) := by decide +kernel
theorem dX4_makeFrom_75 : decode cX4_makeFrom 75 = .ok (.iload 4, 2) := by decide +kernel
theorem dX4_makeFrom_77 : decode cX4_makeFrom 77 = .ok (.i2l, 1) := by decide +kernel
theorem dX4_makeFrom_78 : decode cX4_makeFrom 78 = .ok (.iload 5, 2) := by decide +kernel
theorem dX4_makeFrom_80 : decode cX4_makeFrom 80 = .ok (.i2l, 1) := by decide +kernel
theorem dX4_makeFrom_81 : decode cX4_makeFrom 81 = .ok (.invokevirtual 62, 3) := by decide +kernel
theorem dX4_makeFrom_84 : decode cX4_makeFrom 84 = .ok (.return_, 1) := by decide +kernel
set_option maxRecDepth 20000 in
theorem ggX4_release_X4_cell : GoodIn wsX4_release wsX4_cell := goodIn_r _ [6] rfl (by decide +kernel)
set_option maxRecDepth 20000 in
theorem gX4_release_X4_cell : GoodIn wsX4_release (va_wsS RX4 66 yX4_cell wsX4_cell) := goodIn_app (goodIn_of _ (by decide +kernel)) ggX4_release_X4_cell
set_option maxRecDepth 20000 in
theorem ggX4_release_X6_negation : GoodIn wsX4_release wsX6_negation := goodIn_r _ [9] rfl (by decide +kernel)
set_option maxRecDepth 20000 in
theorem gX4_release_X6_negation_n70 : GoodIn wsX4_release (wsX6_negation) := ggX4_release_X6_negation
set_option maxRecDepth 20000 in
theorem ggX4_release_X4_put : GoodIn wsX4_release wsX4_put := goodIn_r _ [13, 14, 15, 16, 17, 18, 19, 20, 21, 22, 23, 24, 25, 26, 27, 28, 29, 30, 31, 32, 33, 34, 35, 36, 37, 38, 39, 40, 41, 42, 43, 44, 45, 46, 47, 48, 49, 50, 51, 52, 53, 54, 55, 56, 57, 58, 59, 60, 61, 62] rfl (by decide +kernel)
set_option maxRecDepth 20000 in
theorem gX4_release_X4_put : GoodIn wsX4_release (wsV RX4 40 RX4 yX4_put wsX4_put) := goodIn_app (goodIn_of _ (by decide +kernel)) ggX4_release_X4_put
theorem dX4_release_0 : decode cX4_release 0 = .ok (.aload_n 0, 1) := by decide +kernel
theorem dX4_release_1 : decode cX4_release 1 = .ok (.getfield 26, 3) := by decide +kernel
theorem dX4_release_4 : decode cX4_release 4 = .ok (.ifCond .eq 4, 3) := by decide +kernel
theorem dX4_release_7 : decode cX4_release 7 = .ok (.return_, 1) := by decide +kernel
theorem dX4_release_8 : decode cX4_release 8 = .ok (.iconst 2, 1) := by decide +kernel
theorem dX4_release_9 : decode cX4_release 9 = .ok (.iload_n 1, 1) := by decide +kernel
theorem dX4_release_10 : decode cX4_release 10 = .ok (.imul, 1) := by decide +kernel
theorem dX4_release_11 : decode cX4_release 11 = .ok (.istore_n 2, 1) := by decide +kernel
theorem dX4_release_12 : decode cX4_release 12 = .ok (.iload_n 2, 1) := by decide +kernel
theorem dX4_release_13 : decode cX4_release 13 = .ok (.iconst 2, 1) := by decide +kernel
theorem dX4_release_14 : decode cX4_release 14 = .ok (.iload_n 1, 1) := by decide +kernel
theorem dX4_release_15 : decode cX4_release 15 = .ok (.imul, 1) := by decide +kernel
theorem dX4_release_16 : decode cX4_release 16 = .ok (.iconst 1, 1) := by decide +kernel
theorem dX4_release_17 : decode cX4_release 17 = .ok (.iadd, 1) := by decide +kernel
theorem dX4_release_18 : decode cX4_release 18 = .ok (.if_icmp .gt 47, 3) := by decide +kernel
theorem dX4_release_21 : decode cX4_release 21 = .ok (.iconst 0, 1) := by decide +kernel
theorem dX4_release_22 : decode cX4_release 22 = .ok (.istore_n 3, 1) := by decide +kernel
theorem dX4_release_23 : decode cX4_release 23 = .ok (.iload_n 3, 1) := by decide +kernel
theorem dX4_release_24 : decode cX4_release 24 = .ok (.bipush 12, 2) := by decide +kernel
theorem dX4_release_26 : decode cX4_release 26 = .ok (.if_icmp .ge 33, 3) := by decide +kernel
theorem dX4_release_29 : decode cX4_release 29 = .ok (.aload_n 0, 1) := by decide +kernel
theorem dX4_release_30 : decode cX4_release 30 = .ok (.iload_n 2, 1) := by decide +kernel
theorem dX4_release_31 : decode cX4_release 31 = .ok (.iload_n 3, 1) := by decide +kernel
theorem dX4_release_32 : decode cX4_release 32 = .ok (.invokestatic 66, 3) := by decide +kernel
theorem dX4_release_35 : decode cX4_release 35 = .ok (.iload_n 3, 1) := by decide +kernel
theorem dX4_release_36 : decode cX4_release 36 = .ok (.iload_n 2, 1) := by decide +kernel
theorem dX4_release_37 : decode cX4_release 37 = .ok (.invokestatic 70, 3) := by decide +kernel
theorem dX4_release_40 : decode cX4_release 40 = .ok (.if_icmp .ne 7, 3) := by decide +kernel
theorem dX4_release_43 : decode cX4_release 43 = .ok (.lconst 0, 1) := by decide +kernel
theorem dX4_release_44 : decode cX4_release 44 = .ok (.goto 6, 3) := by decide +kernel
theorem dX4_release_47 : decode cX4_release 47 = .ok (.ldc2_w 74, 3) := by decide +kernel
theorem dX4_release_50 : decode cX4_release 50 = .ok (.invokevirtual 40, 3) := by decide +kernel
theorem dX4_release_53 : decode cX4_release 53 = .ok (.iinc 3 1, 3) := by decide +kernel
theorem dX4_release_56 : decode cX4_release 56 = .ok (.goto (-33), 3) := by decide +kernel
theorem dX4_release_59 : decode cX4_release 59 = .ok (.iinc 2 1, 3) := by decide +kernel
theorem dX4_release_62 : decode cX4_release 62 = .ok (.goto (-50), 3) := by decide +kernel
theorem dX4_release_65 : decode cX4_release 65 = .ok (.return_, 1) := by decide +kernel
set_option maxRecDepth 20000 in
theorem ggX4_holdToSpare_X4_cell : GoodIn wsX4_holdToSpare wsX4_cell := goodIn_r _ [9] rfl (by decide +kernel)
set_option maxRecDepth 20000 in
theorem gX4_holdToSpare_X4_cell : GoodIn wsX4_holdToSpare (va_wsS RX4 66 yX4_cell wsX4_cell) := goodIn_app (goodIn_of _ (by decide +kernel)) ggX4_holdToSpare_X4_cell
set_option maxRecDepth 20000 in
theorem ggX4_holdToSpare_X3_isLess : GoodIn wsX4_holdToSpare wsX3_isLess := goodIn_r _ [14, 15, 16, 17, 13, 18, 19, 20, 21, 22, 23, 24, 25, 26, 27, 28, 29, 30, 31, 32, 33, 34, 35, 36, 37, 38, 39, 40, 41, 42, 43, 44, 45, 46, 47, 48, 49, 168, 169, 170, 171, 172, 173, 174, 175, 176, 177, 178, 179, 180, 181, 182, 183, 184] rfl (by decide +kernel)
set_option maxRecDepth 20000 in
theorem gX4_holdToSpare_X3_isLess : GoodIn wsX4_holdToSpare (wsV RX4 79 RX3 yX3_isLess wsX3_isLess) := goodIn_app (goodIn_of _ (by decide +kernel)) ggX4_holdToSpare_X3_isLess
set_option maxRecDepth 20000 in
theorem ggX4_holdToSpare_X4_put : GoodIn wsX4_holdToSpare wsX4_put := goodIn_r _ [53, 4, 1, 54, 55, 56, 13, 57, 58, 37, 38, 39, 20, 19, 40, 41, 42, 43, 44, 59, 60, 61, 62, 24, 35, 63, 64, 65, 66, 161, 162, 163, 164, 177, 178, 179, 180, 181, 182, 168, 169, 170, 171, 172, 173, 174, 175, 176, 183, 184] rfl (by decide +kernel)
set_option maxRecDepth 20000 in
theorem gX4_holdToSpare_X4_put : GoodIn wsX4_holdToSpare (wsV RX4 40 RX4 yX4_put wsX4_put) := goodIn_app (goodIn_of _ (by decide +kernel)) ggX4_holdToSpare_X4_put
set_option maxRecDepth 20000 in
theorem ggX4_holdToSpare_X4_passThrough : GoodIn wsX4_holdToSpare wsX4_passThrough := goodIn_r _ [70, 5, 1, 4, 2, 3, 71, 6, 7, 8, 9, 72, 73, 74, 75, 16, 17, 13, 18, 19, 20, 21, 22, 23, 24, 25, 26, 27, 28, 29, 30, 31, 32, 33, 34, 35, 36, 37, 38, 39, 40, 41, 42, 43, 44, 45, 46, 47, 48, 49, 76, 77, 78, 79, 80, 81, 82, 83, 84, 85, 86, 87, 88, 89, 65, 66, 90, 91, 92, 93, 94, 63, 64, 95, 96, 97, 98, 99, 100, 101, 102, 103, 104, 105, 106, 107, 108, 109, 110, 111, 112, 113, 59, 60, 61, 62, 114, 115, 116, 117, 118, 119, 120, 121, 122, 123, 124, 125, 126, 127, 128, 129, 130, 131, 132, 133, 134, 55, 56, 57, 58, 50, 51, 52, 53, 54, 161, 162, 163, 164, 165, 166, 167, 168, 169, 170, 171, 172, 173, 174, 175, 176, 177, 178, 179, 180, 181, 182, 183, 184] rfl (by decide +kernel)
set_option maxRecDepth 20000 in
theorem gX4_holdToSpare_X4_passThrough : GoodIn wsX4_holdToSpare (wsV RX4 83 RX4 yX4_passThrough wsX4_passThrough) := goodIn_app (goodIn_of _ (by decide +kernel)) ggX4_holdToSpare_X4_passThrough
set_option maxRecDepth 20000 in
theorem ggX4_holdToSpare_X4_combineSingles : GoodIn wsX4_holdToSpare wsX4_combineSingles := goodIn_r _ [138, 5, 2, 1, 4, 3, 71, 6, 7, 8, 9, 139, 140, 141, 13, 142, 19, 24, 143, 35, 36, 80, 85, 37, 38, 39, 20, 40, 41, 42, 43, 44, 86, 87, 88, 89, 65, 66, 90, 91, 92, 93, 25, 26, 27, 28, 94, 63, 64, 95, 96, 97, 98, 99, 100, 101, 102, 103, 104, 105, 106, 107, 108, 109, 110, 111, 112, 113, 59, 60, 61, 62, 144, 145, 146, 147, 148, 126, 117, 118, 119, 120, 121, 122, 123, 124, 125, 127, 128, 129, 130, 131, 132, 133, 134, 55, 56, 57, 58, 75, 16, 17, 18, 21, 22, 23, 29, 30, 31, 32, 33, 34, 45, 46, 47, 48, 49, 76, 77, 78, 79, 81, 82, 83, 84, 114, 115, 116, 50, 51, 52, 53, 54, 149, 150, 151, 152, 72, 73, 74, 153, 154, 155, 156, 161, 162, 163, 164, 165, 166, 167, 177, 178, 179, 180, 181, 182, 183, 184, 168, 169, 170, 171, 172, 173, 174, 175, 176] rfl (by decide +kernel)
set_option maxRecDepth 20000 in
theorem gX4_holdToSpare_X4_combineSingles : GoodIn wsX4_holdToSpare (wsV RX4 86 RX4 yX4_combineSingles wsX4_combineSingles) := goodIn_app (goodIn_of _ (by decide +kernel)) ggX4_holdToSpare_X4_combineSingles
set_option maxRecDepth 20000 in
theorem ggX4_holdToSpare_X4_allowNone : GoodIn wsX4_holdToSpare wsX4_allowNone := goodIn_r _ [160, 5, 4, 1, 54, 55, 56, 13, 57, 58, 37, 38, 39, 20, 19, 40, 41, 42, 43, 44, 59, 60, 61, 62, 24, 35, 63, 64, 65, 66, 161, 162, 163, 164, 177, 178, 179, 180, 181, 182, 168, 169, 170, 171, 172, 173, 174, 175, 176, 183, 184] rfl (by decide +kernel)
set_option maxRecDepth 20000 in
theorem gX4_holdToSpare_X4_allowNone : GoodIn wsX4_holdToSpare (wsV RX4 44 RX4 yX4_allowNone wsX4_allowNone) := goodIn_app (goodIn_of _ (by decide +kernel)) ggX4_holdToSpare_X4_allowNone
theorem dX4_holdToSpare_0 : decode cX4_holdToSpare 0 = .ok (.aload_n 0, 1) := by decide +kernel
theorem dX4_holdToSpare_1 : decode cX4_holdToSpare 1 = .ok (.getfield 21, 3) := by decide +kernel
theorem dX4_holdToSpare_4 : decode cX4_holdToSpare 4 = .ok (.aload_n 0, 1) := by decide +kernel
theorem dX4_holdToSpare_5 : decode cX4_holdToSpare 5 = .ok (.getfield 9, 3) := by decide +kernel
theorem dX4_holdToSpare_8 : decode cX4_holdToSpare 8 = .ok (.getfield 76, 3) := by decide +kernel
theorem dX4_holdToSpare_11 : decode cX4_holdToSpare 11 = .ok (.bipush 12, 2) := by decide +kernel
theorem dX4_holdToSpare_13 : decode cX4_holdToSpare 13 = .ok (.laload, 1) := by decide +kernel
theorem dX4_holdToSpare_14 : decode cX4_holdToSpare 14 = .ok (.aload_n 0, 1) := by decide +kernel
theorem dX4_holdToSpare_15 : decode cX4_holdToSpare 15 = .ok (.getfield 22, 3) := by decide +kernel
theorem dX4_holdToSpare_18 : decode cX4_holdToSpare 18 = .ok (.iload_n 1, 1) := by decide +kernel
theorem dX4_holdToSpare_19 : decode cX4_holdToSpare 19 = .ok (.iload_n 2, 1) := by decide +kernel
theorem dX4_holdToSpare_20 : decode cX4_holdToSpare 20 = .ok (.invokestatic 66, 3) := by decide +kernel
theorem dX4_holdToSpare_23 : decode cX4_holdToSpare 23 = .ok (.laload, 1) := by decide +kernel
theorem dX4_holdToSpare_24 : decode cX4_holdToSpare 24 = .ok (.invokevirtual 79, 3) := by decide +kernel
theorem dX4_holdToSpare_27 : decode cX4_holdToSpare 27 = .ok (.ifCond .ne 4, 3) := by decide +kernel
theorem dX4_holdToSpare_30 : decode cX4_holdToSpare 30 = .ok (.return_, 1) := by decide +kernel
theorem dX4_holdToSpare_31 : decode cX4_holdToSpare 31 = .ok (.aload_n 0, 1) := by decide +kernel
theorem dX4_holdToSpare_32 : decode cX4_holdToSpare 32 = .ok (.iload_n 1, 1) := by decide +kernel
theorem dX4_holdToSpare_33 : decode cX4_holdToSpare 33 = .ok (.iload_n 2, 1) := by decide +kernel
theorem dX4_holdToSpare_34 : decode cX4_holdToSpare 34 = .ok (.invokestatic 66, 3) := by decide +kernel
theorem dX4_holdToSpare_37 : decode cX4_holdToSpare 37 = .ok (.aload_n 0, 1) := by decide +kernel
theorem dX4_holdToSpare_38 : decode cX4_holdToSpare 38 = .ok (.getfield 9, 3) := by decide +kernel
theorem dX4_holdToSpare_41 : decode cX4_holdToSpare 41 = .ok (.getfield 76, 3) := by decide +kernel
theorem dX4_holdToSpare_44 : decode cX4_holdToSpare 44 = .ok (.bipush 12, 2) := by decide +kernel
theorem dX4_holdToSpare_46 : decode cX4_holdToSpare 46 = .ok (.laload, 1) := by decide +kernel
theorem dX4_holdToSpare_47 : decode cX4_holdToSpare 47 = .ok (.invokevirtual 40, 3) := by decide +kernel
theorem dX4_holdToSpare_50 : decode cX4_holdToSpare 50 = .ok (.aload_n 0, 1) := by decide +kernel
theorem dX4_holdToSpare_51 : decode cX4_holdToSpare 51 = .ok (.iload_n 1, 1) := by decide +kernel
theorem dX4_holdToSpare_52 : decode cX4_holdToSpare 52 = .ok (.iload_n 2, 1) := by decide +kernel
theorem dX4_holdToSpare_53 : decode cX4_holdToSpare 53 = .ok (.invokevirtual 83, 3) := by decide +kernel
theorem dX4_holdToSpare_56 : decode cX4_holdToSpare 56 = .ok (.iload_n 1, 1) := by decide +kernel
theorem dX4_holdToSpare_57 : decode cX4_holdToSpare 57 = .ok (.iload_n 2, 1) := by decide +kernel
theorem dX4_holdToSpare_58 : decode cX4_holdToSpare 58 = .ok (.if_icmp .eq 9, 3) := by decide +kernel
theorem dX4_holdToSpare_61 : decode cX4_holdToSpare 61 = .ok (.aload_n 0, 1) := by decide +kernel
theorem dX4_holdToSpare_62 : decode cX4_holdToSpare 62 = .ok (.iload_n 2, 1) := by decide +kernel
theorem dX4_holdToSpare_63 : decode cX4_holdToSpare 63 = .ok (.iload_n 1, 1) := by decide +kernel
theorem dX4_holdToSpare_64 : decode cX4_holdToSpare 64 = .ok (.invokevirtual 83, 3) := by decide +kernel
theorem dX4_holdToSpare_67 : decode cX4_holdToSpare 67 = .ok (.aload_n 0, 1) := by decide +kernel
theorem dX4_holdToSpare_68 : decode cX4_holdToSpare 68 = .ok (.invokevirtual 86, 3) := by decide +kernel
theorem dX4_holdToSpare_71 : decode cX4_holdToSpare 71 = .ok (.aload_n 0, 1) := by decide +kernel
theorem dX4_holdToSpare_72 : decode cX4_holdToSpare 72 = .ok (.getfield 26, 3) := by decide +kernel
theorem dX4_holdToSpare_75 : decode cX4_holdToSpare 75 = .ok (.ifCond .eq 7, 3) := by decide +kernel
theorem dX4_holdToSpare_78 : decode cX4_holdToSpare 78 = .ok (.aload_n 0, 1) := by decide +kernel
theorem dX4_holdToSpare_79 : decode cX4_holdToSpare 79 = .ok (.invokevirtual 44, 3) := by decide +kernel
theorem dX4_holdToSpare_82 : decode cX4_holdToSpare 82 = .ok (.return_, 1) := by decide +kernel
set_option maxRecDepth 20000 in
theorem ggX4_tell_X4_oldTerm : GoodIn wsX4_tell wsX4_oldTerm := goodIn_r _ [7, 8, 9, 10] rfl (by decide +kernel)
set_option maxRecDepth 20000 in
theorem gX4_tell_X4_oldTerm : GoodIn wsX4_tell (va_wsS RX4 89 yX4_oldTerm wsX4_oldTerm) := goodIn_app (goodIn_of _ (by decide +kernel)) ggX4_tell_X4_oldTerm
set_option maxRecDepth 20000 in
theorem ggX4_tell_X4_moreOf : GoodIn wsX4_tell wsX4_moreOf := goodIn_r _ [13] rfl (by decide +kernel)
set_option maxRecDepth 20000 in
theorem gX4_tell_X4_moreOf : GoodIn wsX4_tell (va_wsS RX4 93 yX4_moreOf wsX4_moreOf) := goodIn_app (goodIn_of _ (by decide +kernel)) ggX4_tell_X4_moreOf
set_option maxRecDepth 20000 in
theorem ggX4_tell_X4_cell : GoodIn wsX4_tell wsX4_cell := goodIn_r _ [16] rfl (by decide +kernel)
set_option maxRecDepth 20000 in
theorem gX4_tell_X4_cell : GoodIn wsX4_tell (va_wsS RX4 66 yX4_cell wsX4_cell) := goodIn_app (goodIn_of _ (by decide +kernel)) ggX4_tell_X4_cell
set_option maxRecDepth 20000 in
theorem ggX4_tell_X3_sum : GoodIn wsX4_tell wsX3_sum := goodIn_r _ [21, 22, 23, 24, 25, 26, 27, 28, 29, 30, 31, 32, 33, 34, 35, 20, 36, 37, 38, 39, 40, 41, 42, 43, 44, 45, 46, 47, 48, 49, 50, 51, 52, 53, 54, 55, 56, 57, 58, 59, 60, 61, 62, 63, 64, 65, 66, 67, 68, 69, 70, 71, 72, 73, 74, 75, 76, 77, 78, 79, 80, 81, 82, 83, 84, 85, 86, 87, 88, 89, 90, 91, 92, 93, 94, 95, 96, 97, 98, 99, 100, 101, 102, 103, 104, 118, 119, 120, 121, 122, 123, 124, 125, 126, 127, 128, 129, 130, 131, 132, 133, 134] rfl (by decide +kernel)
set_option maxRecDepth 20000 in
theorem gX4_tell_X3_sum : GoodIn wsX4_tell (wsV RX4 96 RX3 yX3_sum wsX3_sum) := goodIn_app (goodIn_of _ (by decide +kernel)) ggX4_tell_X3_sum
set_option maxRecDepth 20000 in
theorem ggX4_tell_X4_put : GoodIn wsX4_tell wsX4_put := goodIn_r _ [108, 3, 2, 109, 110, 111, 20, 112, 113, 43, 44, 45, 23, 22, 46, 47, 48, 49, 50, 83, 84, 85, 86, 31, 32, 62, 63, 55, 56, 114, 115, 116, 117, 127, 128, 129, 130, 131, 132, 118, 119, 120, 121, 122, 123, 124, 125, 126, 133, 134] rfl (by decide +kernel)
set_option maxRecDepth 20000 in
theorem gX4_tell_X4_put : GoodIn wsX4_tell (wsV RX4 40 RX4 yX4_put wsX4_put) := goodIn_app (goodIn_of _ (by decide +kernel)) ggX4_tell_X4_put
theorem dX4_tell_0 : decode cX4_tell 0 = .ok (.aload_n 0, 1) := by decide +kernel
theorem dX4_tell_1 : decode cX4_tell 1 = .ok (.iconst 0, 1) := by decide +kernel
theorem dX4_tell_2 : decode cX4_tell 2 = .ok (.putfield 26, 3) := by decide +kernel
theorem dX4_tell_5 : decode cX4_tell 5 = .ok (.iconst 0, 1) := by decide +kernel
theorem dX4_tell_6 : decode cX4_tell 6 = .ok (.istore 5, 2) := by decide +kernel
theorem dX4_tell_8 : decode cX4_tell 8 = .ok (.iload 5, 2) := by decide +kernel
theorem dX4_tell_10 : decode cX4_tell 10 = .ok (.bipush 12, 2) := by decide +kernel
theorem dX4_tell_12 : decode cX4_tell 12 = .ok (.if_icmp .ge 95, 3) := by decide +kernel
theorem dX4_tell_15 : decode cX4_tell 15 = .ok (.iload 5, 2) := by decide +kernel
theorem dX4_tell_17 : decode cX4_tell 17 = .ok (.iload_n 2, 1) := by decide +kernel
theorem dX4_tell_18 : decode cX4_tell 18 = .ok (.iload_n 3, 1) := by decide +kernel
theorem dX4_tell_19 : decode cX4_tell 19 = .ok (.invokestatic 89, 3) := by decide +kernel
theorem dX4_tell_22 : decode cX4_tell 22 = .ok (.istore 6, 2) := by decide +kernel
theorem dX4_tell_24 : decode cX4_tell 24 = .ok (.iload 5, 2) := by decide +kernel
theorem dX4_tell_26 : decode cX4_tell 26 = .ok (.iload_n 2, 1) := by decide +kernel
theorem dX4_tell_27 : decode cX4_tell 27 = .ok (.iload 4, 2) := by decide +kernel
theorem dX4_tell_29 : decode cX4_tell 29 = .ok (.invokestatic 93, 3) := by decide +kernel
theorem dX4_tell_32 : decode cX4_tell 32 = .ok (.istore 7, 2) := by decide +kernel
theorem dX4_tell_34 : decode cX4_tell 34 = .ok (.iconst 0, 1) := by decide +kernel
theorem dX4_tell_35 : decode cX4_tell 35 = .ok (.istore 8, 2) := by decide +kernel
theorem dX4_tell_37 : decode cX4_tell 37 = .ok (.iload 8, 2) := by decide +kernel
theorem dX4_tell_39 : decode cX4_tell 39 = .ok (.iload 5, 2) := by decide +kernel
theorem dX4_tell_41 : decode cX4_tell 41 = .ok (.if_icmp .gt 60, 3) := by decide +kernel
theorem dX4_tell_44 : decode cX4_tell 44 = .ok (.iload 6, 2) := by decide +kernel
theorem dX4_tell_46 : decode cX4_tell 46 = .ok (.iload 8, 2) := by decide +kernel
theorem dX4_tell_48 : decode cX4_tell 48 = .ok (.iload_n 2, 1) := by decide +kernel
theorem dX4_tell_49 : decode cX4_tell 49 = .ok (.iload_n 3, 1) := by decide +kernel
theorem dX4_tell_50 : decode cX4_tell 50 = .ok (.invokestatic 89, 3) := by decide +kernel
theorem dX4_tell_53 : decode cX4_tell 53 = .ok (.invokestatic 66, 3) := by decide +kernel
theorem dX4_tell_56 : decode cX4_tell 56 = .ok (.istore 9, 2) := by decide +kernel
theorem dX4_tell_58 : decode cX4_tell 58 = .ok (.aload_n 0, 1) := by decide +kernel
theorem dX4_tell_59 : decode cX4_tell 59 = .ok (.iload 5, 2) := by decide +kernel
theorem dX4_tell_61 : decode cX4_tell 61 = .ok (.iload 8, 2) := by decide +kernel
theorem dX4_tell_63 : decode cX4_tell 63 = .ok (.invokestatic 66, 3) := by decide +kernel
theorem dX4_tell_66 : decode cX4_tell 66 = .ok (.aload_n 0, 1) := by decide +kernel
theorem dX4_tell_67 : decode cX4_tell 67 = .ok (.getfield 21, 3) := by decide +kernel
theorem dX4_tell_70 : decode cX4_tell 70 = .ok (.aload_n 1, 1) := by decide +kernel
theorem dX4_tell_71 : decode cX4_tell 71 = .ok (.getfield 22, 3) := by decide +kernel
theorem dX4_tell_74 : decode cX4_tell 74 = .ok (.iload 9, 2) := by decide +kernel
theorem dX4_tell_76 : decode cX4_tell 76 = .ok (.laload, 1) := by decide +kernel
theorem dX4_tell_77 : decode cX4_tell 77 = .ok (.iload 7, 2) := by decide +kernel
theorem dX4_tell_79 : decode cX4_tell 79 = .ok (.iload 8, 2) := by decide +kernel
theorem dX4_tell_81 : decode cX4_tell 81 = .ok (.iload_n 2, 1) := by decide +kernel
theorem dX4_tell_82 : decode cX4_tell 82 = .ok (.iload 4, 2) := by decide +kernel
theorem dX4_tell_84 : decode cX4_tell 84 = .ok (.invokestatic 93, 3) := by decide +kernel
theorem dX4_tell_87 : decode cX4_tell 87 = .ok (.iadd, 1) := by decide +kernel
theorem dX4_tell_88 : decode cX4_tell 88 = .ok (.i2l, 1) := by decide +kernel
theorem dX4_tell_89 : decode cX4_tell 89 = .ok (.invokevirtual 96, 3) := by decide +kernel
theorem dX4_tell_92 : decode cX4_tell 92 = .ok (.invokevirtual 40, 3) := by decide +kernel
theorem dX4_tell_95 : decode cX4_tell 95 = .ok (.iinc 8 1, 3) := by decide +kernel
theorem dX4_tell_98 : decode cX4_tell 98 = .ok (.goto (-61), 3) := by decide +kernel
theorem dX4_tell_101 : decode cX4_tell 101 = .ok (.iinc 5 1, 3) := by decide +kernel
theorem dX4_tell_104 : decode cX4_tell 104 = .ok (.goto (-96), 3) := by decide +kernel
theorem dX4_tell_107 : decode cX4_tell 107 = .ok (.return_, 1) := by decide +kernel
set_option maxRecDepth 20000 in
theorem ggX4_oldTerm_X6_negation : GoodIn wsX4_oldTerm wsX6_negation := goodIn_r _ [3] rfl (by decide +kernel)
set_option maxRecDepth 20000 in
theorem gX4_oldTerm_X6_negation_n70 : GoodIn wsX4_oldTerm (wsX6_negation) := ggX4_oldTerm_X6_negation
theorem dX4_oldTerm_0 : decode cX4_oldTerm 0 = .ok (.iload_n 0, 1) := by decide +kernel
theorem dX4_oldTerm_1 : decode cX4_oldTerm 1 = .ok (.iconst 2, 1) := by decide +kernel
theorem dX4_oldTerm_2 : decode cX4_oldTerm 2 = .ok (.idiv, 1) := by decide +kernel
theorem dX4_oldTerm_3 : decode cX4_oldTerm 3 = .ok (.iload_n 1, 1) := by decide +kernel
theorem dX4_oldTerm_4 : decode cX4_oldTerm 4 = .ok (.if_icmp .eq 5, 3) := by decide +kernel
theorem dX4_oldTerm_7 : decode cX4_oldTerm 7 = .ok (.iload_n 0, 1) := by decide +kernel
theorem dX4_oldTerm_8 : decode cX4_oldTerm 8 = .ok (.ireturn, 1) := by decide +kernel
theorem dX4_oldTerm_9 : decode cX4_oldTerm 9 = .ok (.iload_n 0, 1) := by decide +kernel
theorem dX4_oldTerm_10 : decode cX4_oldTerm 10 = .ok (.iconst 2, 1) := by decide +kernel
theorem dX4_oldTerm_11 : decode cX4_oldTerm 11 = .ok (.irem, 1) := by decide +kernel
theorem dX4_oldTerm_12 : decode cX4_oldTerm 12 = .ok (.ifCond .ne 7, 3) := by decide +kernel
theorem dX4_oldTerm_15 : decode cX4_oldTerm 15 = .ok (.iload_n 2, 1) := by decide +kernel
theorem dX4_oldTerm_16 : decode cX4_oldTerm 16 = .ok (.goto 7, 3) := by decide +kernel
theorem dX4_oldTerm_19 : decode cX4_oldTerm 19 = .ok (.iload_n 2, 1) := by decide +kernel
theorem dX4_oldTerm_20 : decode cX4_oldTerm 20 = .ok (.invokestatic 70, 3) := by decide +kernel
theorem dX4_oldTerm_23 : decode cX4_oldTerm 23 = .ok (.ireturn, 1) := by decide +kernel
theorem dX4_moreOf_0 : decode cX4_moreOf 0 = .ok (.iload_n 0, 1) := by decide +kernel
theorem dX4_moreOf_1 : decode cX4_moreOf 1 = .ok (.iconst 2, 1) := by decide +kernel
theorem dX4_moreOf_2 : decode cX4_moreOf 2 = .ok (.idiv, 1) := by decide +kernel
theorem dX4_moreOf_3 : decode cX4_moreOf 3 = .ok (.iload_n 1, 1) := by decide +kernel
theorem dX4_moreOf_4 : decode cX4_moreOf 4 = .ok (.if_icmp .eq 5, 3) := by decide +kernel
theorem dX4_moreOf_7 : decode cX4_moreOf 7 = .ok (.iconst 0, 1) := by decide +kernel
theorem dX4_moreOf_8 : decode cX4_moreOf 8 = .ok (.ireturn, 1) := by decide +kernel
theorem dX4_moreOf_9 : decode cX4_moreOf 9 = .ok (.iload_n 0, 1) := by decide +kernel
theorem dX4_moreOf_10 : decode cX4_moreOf 10 = .ok (.iconst 2, 1) := by decide +kernel
theorem dX4_moreOf_11 : decode cX4_moreOf 11 = .ok (.irem, 1) := by decide +kernel
theorem dX4_moreOf_12 : decode cX4_moreOf 12 = .ok (.ifCond .ne 7, 3) := by decide +kernel
theorem dX4_moreOf_15 : decode cX4_moreOf 15 = .ok (.iload_n 2, 1) := by decide +kernel
theorem dX4_moreOf_16 : decode cX4_moreOf 16 = .ok (.goto 5, 3) := by decide +kernel
theorem dX4_moreOf_19 : decode cX4_moreOf 19 = .ok (.iload_n 2, 1) := by decide +kernel
theorem dX4_moreOf_20 : decode cX4_moreOf 20 = .ok (.ineg, 1) := by decide +kernel
theorem dX4_moreOf_21 : decode cX4_moreOf 21 = .ok (.ireturn, 1) := by decide +kernel
set_option maxRecDepth 20000 in
theorem ggX4_scatter_X4_release : GoodIn wsX4_scatter wsX4_release := goodIn_r _ [7, 8, 9, 10, 11, 6, 12, 13, 14, 15, 16, 17, 18, 19, 20, 21, 22, 23, 24, 25, 26, 27, 28, 29, 30, 31, 32, 33, 34, 35, 36, 37, 38, 39, 40, 41, 42, 43, 44, 45, 46, 47, 154, 155, 156, 157, 158, 159, 160, 161, 162, 163, 164, 165, 166, 167, 168, 169, 170, 171, 172, 173, 174] rfl (by decide +kernel)
set_option maxRecDepth 20000 in
theorem gX4_scatter_X4_release : GoodIn wsX4_scatter (wsV RX4 36 RX4 yX4_release wsX4_release) := goodIn_app (goodIn_of _ (by decide +kernel)) ggX4_scatter_X4_release
set_option maxRecDepth 20000 in
theorem ggX4_scatter_X4_cell : GoodIn wsX4_scatter wsX4_cell := goodIn_r _ [12] rfl (by decide +kernel)
set_option maxRecDepth 20000 in
theorem gX4_scatter_X4_cell : GoodIn wsX4_scatter (va_wsS RX4 66 yX4_cell wsX4_cell) := goodIn_app (goodIn_of _ (by decide +kernel)) ggX4_scatter_X4_cell
set_option maxRecDepth 20000 in
theorem ggX4_scatter_X4_put : GoodIn wsX4_scatter wsX4_put := goodIn_r _ [19, 20, 21, 22, 23, 24, 25, 26, 27, 28, 29, 30, 31, 32, 33, 34, 35, 36, 37, 38, 39, 40, 41, 42, 43, 44, 45, 46, 47, 154, 155, 156, 157, 158, 159, 160, 161, 162, 163, 164, 165, 166, 167, 168, 169, 170, 171, 172, 173, 174] rfl (by decide +kernel)
set_option maxRecDepth 20000 in
theorem gX4_scatter_X4_put : GoodIn wsX4_scatter (wsV RX4 40 RX4 yX4_put wsX4_put) := goodIn_app (goodIn_of _ (by decide +kernel)) ggX4_scatter_X4_put
set_option maxRecDepth 20000 in
theorem ggX4_scatter_X4_combineSingles : GoodIn wsX4_scatter wsX4_combineSingles := goodIn_r _ [51, 8, 52, 21, 20, 53, 9, 10, 11, 6, 12, 54, 55, 56, 25, 57, 32, 42, 58, 43, 59, 60, 61, 28, 29, 30, 31, 33, 34, 35, 36, 37, 62, 63, 64, 65, 46, 47, 66, 67, 68, 69, 70, 71, 72, 73, 74, 44, 45, 75, 76, 77, 78, 79, 80, 81, 82, 83, 84, 85, 86, 87, 88, 89, 90, 91, 92, 93, 38, 39, 40, 41, 94, 95, 96, 97, 98, 99, 100, 101, 102, 103, 104, 105, 106, 107, 108, 109, 110, 111, 112, 113, 114, 115, 116, 23, 24, 26, 27, 117, 118, 119, 120, 121, 122, 123, 124, 125, 126, 127, 128, 129, 130, 131, 132, 133, 134, 135, 136, 137, 138, 139, 140, 141, 142, 143, 144, 145, 16, 17, 18, 19, 22, 146, 147, 148, 149, 13, 14, 15, 150, 151, 152, 153, 154, 155, 156, 157, 175, 176, 177, 158, 159, 160, 161, 162, 163, 173, 174, 164, 165, 166, 167, 168, 169, 170, 171, 172] rfl (by decide +kernel)
set_option maxRecDepth 20000 in
theorem gX4_scatter_X4_combineSingles : GoodIn wsX4_scatter (wsV RX4 86 RX4 yX4_combineSingles wsX4_combineSingles) := goodIn_app (goodIn_of _ (by decide +kernel)) ggX4_scatter_X4_combineSingles
theorem dX4_scatter_0 : decode cX4_scatter 0 = .ok (.aload_n 0, 1) := by decide +kernel
theorem dX4_scatter_1 : decode cX4_scatter 1 = .ok (.iload_n 1, 1) := by decide +kernel
theorem dX4_scatter_2 : decode cX4_scatter 2 = .ok (.invokevirtual 36, 3) := by decide +kernel
theorem dX4_scatter_5 : decode cX4_scatter 5 = .ok (.aload_n 0, 1) := by decide +kernel
theorem dX4_scatter_6 : decode cX4_scatter 6 = .ok (.iconst 2, 1) := by decide +kernel
theorem dX4_scatter_7 : decode cX4_scatter 7 = .ok (.iload_n 1, 1) := by decide +kernel
theorem dX4_scatter_8 : decode cX4_scatter 8 = .ok (.imul, 1) := by decide +kernel
theorem dX4_scatter_9 : decode cX4_scatter 9 = .ok (.iconst 2, 1) := by decide +kernel
theorem dX4_scatter_10 : decode cX4_scatter 10 = .ok (.iload_n 1, 1) := by decide +kernel
theorem dX4_scatter_11 : decode cX4_scatter 11 = .ok (.imul, 1) := by decide +kernel
theorem dX4_scatter_12 : decode cX4_scatter 12 = .ok (.invokestatic 66, 3) := by decide +kernel
theorem dX4_scatter_15 : decode cX4_scatter 15 = .ok (.ldc2_w 99, 3) := by decide +kernel
theorem dX4_scatter_18 : decode cX4_scatter 18 = .ok (.lload 4, 2) := by decide +kernel
theorem dX4_scatter_20 : decode cX4_scatter 20 = .ok (.lmul, 1) := by decide +kernel
theorem dX4_scatter_21 : decode cX4_scatter 21 = .ok (.invokevirtual 40, 3) := by decide +kernel
theorem dX4_scatter_24 : decode cX4_scatter 24 = .ok (.aload_n 0, 1) := by decide +kernel
theorem dX4_scatter_25 : decode cX4_scatter 25 = .ok (.iconst 2, 1) := by decide +kernel
theorem dX4_scatter_26 : decode cX4_scatter 26 = .ok (.iload_n 1, 1) := by decide +kernel
theorem dX4_scatter_27 : decode cX4_scatter 27 = .ok (.imul, 1) := by decide +kernel
theorem dX4_scatter_28 : decode cX4_scatter 28 = .ok (.iconst 1, 1) := by decide +kernel
theorem dX4_scatter_29 : decode cX4_scatter 29 = .ok (.iadd, 1) := by decide +kernel
theorem dX4_scatter_30 : decode cX4_scatter 30 = .ok (.iconst 2, 1) := by decide +kernel
theorem dX4_scatter_31 : decode cX4_scatter 31 = .ok (.iload_n 1, 1) := by decide +kernel
theorem dX4_scatter_32 : decode cX4_scatter 32 = .ok (.imul, 1) := by decide +kernel
theorem dX4_scatter_33 : decode cX4_scatter 33 = .ok (.iconst 1, 1) := by decide +kernel
theorem dX4_scatter_34 : decode cX4_scatter 34 = .ok (.iadd, 1) := by decide +kernel
theorem dX4_scatter_35 : decode cX4_scatter 35 = .ok (.invokestatic 66, 3) := by decide +kernel
theorem dX4_scatter_38 : decode cX4_scatter 38 = .ok (.ldc2_w 101, 3) := by decide +kernel
theorem dX4_scatter_41 : decode cX4_scatter 41 = .ok (.lload_n 2, 1) := by decide +kernel
theorem dX4_scatter_42 : decode cX4_scatter 42 = .ok (.lmul, 1) := by decide +kernel
theorem dX4_scatter_43 : decode cX4_scatter 43 = .ok (.invokevirtual 40, 3) := by decide +kernel
theorem dX4_scatter_46 : decode cX4_scatter 46 = .ok (.aload_n 0, 1) := by decide +kernel
theorem dX4_scatter_47 : decode cX4_scatter 47 = .ok (.invokevirtual 86, 3) := by decide +kernel
theorem dX4_scatter_50 : decode cX4_scatter 50 = .ok (.return_, 1) := by decide +kernel
set_option maxRecDepth 20000 in
theorem ggX4_cutTo_X4_allowNone : GoodIn wsX4_cutTo wsX4_allowNone := goodIn_r _ [10, 1, 5, 4, 11, 12, 13, 14, 15, 16, 17, 18, 19, 20, 21, 22, 23, 24, 25, 26, 27, 28, 29, 30, 31, 32, 33, 34, 35, 36, 162, 163, 164, 165, 169, 170, 171, 172, 173, 174, 175, 176, 177, 178, 179, 180, 181, 182, 183, 184, 185] rfl (by decide +kernel)
set_option maxRecDepth 20000 in
theorem gX4_cutTo_X4_allowNone : GoodIn wsX4_cutTo (wsV RX4 44 RX4 yX4_allowNone wsX4_allowNone) := goodIn_app (goodIn_of _ (by decide +kernel)) ggX4_cutTo_X4_allowNone
set_option maxRecDepth 20000 in
theorem ggX4_cutTo_X3_isLess : GoodIn wsX4_cutTo wsX3_isLess := goodIn_r _ [40, 41, 42, 43, 14, 44, 21, 20, 45, 46, 47, 31, 48, 49, 50, 51, 52, 53, 54, 55, 56, 57, 32, 58, 17, 18, 19, 22, 23, 24, 25, 26, 59, 60, 61, 62, 63, 175, 176, 177, 178, 179, 180, 181, 182, 183, 169, 170, 171, 172, 173, 174, 184, 185] rfl (by decide +kernel)
set_option maxRecDepth 20000 in
theorem gX4_cutTo_X3_isLess : GoodIn wsX4_cutTo (wsV RX4 79 RX3 yX3_isLess wsX3_isLess) := goodIn_app (goodIn_of _ (by decide +kernel)) ggX4_cutTo_X3_isLess
set_option maxRecDepth 20000 in
theorem ggX4_cutTo_X4_put : GoodIn wsX4_cutTo wsX4_put := goodIn_r _ [67, 5, 4, 11, 12, 13, 14, 15, 16, 17, 18, 19, 20, 21, 22, 23, 24, 25, 26, 27, 28, 29, 30, 31, 32, 33, 34, 35, 36, 162, 163, 164, 165, 169, 170, 171, 172, 173, 174, 175, 176, 177, 178, 179, 180, 181, 182, 183, 184, 185] rfl (by decide +kernel)
set_option maxRecDepth 20000 in
theorem gX4_cutTo_X4_put : GoodIn wsX4_cutTo (wsV RX4 40 RX4 yX4_put wsX4_put) := goodIn_app (goodIn_of _ (by decide +kernel)) ggX4_cutTo_X4_put
set_option maxRecDepth 20000 in
theorem ggX4_cutTo_X4_close : GoodIn wsX4_cutTo wsX4_close := goodIn_r _ [71, 1, 5, 72, 2, 3, 4, 73, 74, 9, 75, 76, 77, 78, 79, 42, 43, 14, 44, 21, 20, 45, 46, 47, 31, 48, 49, 50, 51, 52, 53, 54, 55, 56, 57, 32, 58, 17, 18, 19, 22, 23, 24, 25, 26, 59, 60, 61, 62, 63, 80, 81, 82, 83, 84, 85, 86, 87, 88, 89, 90, 91, 92, 93, 35, 36, 94, 95, 96, 97, 98, 33, 34, 99, 100, 101, 102, 103, 104, 105, 106, 107, 108, 109, 110, 111, 112, 113, 114, 115, 116, 117, 27, 28, 29, 30, 118, 119, 120, 121, 122, 123, 124, 125, 126, 127, 128, 129, 130, 64, 65, 66, 67, 11, 12, 13, 15, 16, 131, 132, 133, 134, 135, 136, 137, 138, 139, 140, 141, 142, 143, 144, 145, 146, 147, 148, 149, 150, 151, 152, 153, 154, 155, 156, 157, 158, 159, 160, 161, 162, 163, 164, 165, 166, 167, 168, 175, 176, 177, 178, 179, 180, 181, 182, 183, 169, 170, 171, 172, 173, 174, 184, 185] rfl (by decide +kernel)
set_option maxRecDepth 20000 in
theorem gX4_cutTo_X4_close : GoodIn wsX4_cutTo (wsV RX4 107 RX4 yX4_close wsX4_close) := goodIn_app (goodIn_of _ (by decide +kernel)) ggX4_cutTo_X4_close
theorem dX4_cutTo_0 : decode cX4_cutTo 0 = .ok (.aload_n 0, 1) := by decide +kernel
theorem dX4_cutTo_1 : decode cX4_cutTo 1 = .ok (.getfield 26, 3) := by decide +kernel
theorem dX4_cutTo_4 : decode cX4_cutTo 4 = .ok (.ifCond .ne 10, 3) := by decide +kernel
theorem dX4_cutTo_7 : decode cX4_cutTo 7 = .ok (.aload_n 1, 1) := by decide +kernel
theorem dX4_cutTo_8 : decode cX4_cutTo 8 = .ok (.getfield 26, 3) := by decide +kernel
theorem dX4_cutTo_11 : decode cX4_cutTo 11 = .ok (.ifCond .eq 8, 3) := by decide +kernel
theorem dX4_cutTo_14 : decode cX4_cutTo 14 = .ok (.aload_n 0, 1) := by decide +kernel
theorem dX4_cutTo_15 : decode cX4_cutTo 15 = .ok (.invokevirtual 44, 3) := by decide +kernel
theorem dX4_cutTo_18 : decode cX4_cutTo 18 = .ok (.return_, 1) := by decide +kernel
theorem dX4_cutTo_19 : decode cX4_cutTo 19 = .ok (.iconst 0, 1) := by decide +kernel
theorem dX4_cutTo_20 : decode cX4_cutTo 20 = .ok (.istore_n 2, 1) := by decide +kernel
theorem dX4_cutTo_21 : decode cX4_cutTo 21 = .ok (.iload_n 2, 1) := by decide +kernel
theorem dX4_cutTo_22 : decode cX4_cutTo 22 = .ok (.bipush 78, 2) := by decide +kernel
theorem dX4_cutTo_24 : decode cX4_cutTo 24 = .ok (.if_icmp .ge 52, 3) := by decide +kernel
theorem dX4_cutTo_27 : decode cX4_cutTo 27 = .ok (.aload_n 0, 1) := by decide +kernel
theorem dX4_cutTo_28 : decode cX4_cutTo 28 = .ok (.getfield 9, 3) := by decide +kernel
theorem dX4_cutTo_31 : decode cX4_cutTo 31 = .ok (.getfield 103, 3) := by decide +kernel
theorem dX4_cutTo_34 : decode cX4_cutTo 34 = .ok (.iload_n 2, 1) := by decide +kernel
theorem dX4_cutTo_35 : decode cX4_cutTo 35 = .ok (.iconst 1, 1) := by decide +kernel
theorem dX4_cutTo_36 : decode cX4_cutTo 36 = .ok (.bastore, 1) := by decide +kernel
theorem dX4_cutTo_37 : decode cX4_cutTo 37 = .ok (.aload_n 0, 1) := by decide +kernel
theorem dX4_cutTo_38 : decode cX4_cutTo 38 = .ok (.getfield 21, 3) := by decide +kernel
theorem dX4_cutTo_41 : decode cX4_cutTo 41 = .ok (.aload_n 1, 1) := by decide +kernel
theorem dX4_cutTo_42 : decode cX4_cutTo 42 = .ok (.getfield 22, 3) := by decide +kernel
theorem dX4_cutTo_45 : decode cX4_cutTo 45 = .ok (.iload_n 2, 1) := by decide +kernel
theorem dX4_cutTo_46 : decode cX4_cutTo 46 = .ok (.laload, 1) := by decide +kernel
theorem dX4_cutTo_47 : decode cX4_cutTo 47 = .ok (.aload_n 0, 1) := by decide +kernel
theorem dX4_cutTo_48 : decode cX4_cutTo 48 = .ok (.getfield 22, 3) := by decide +kernel
theorem dX4_cutTo_51 : decode cX4_cutTo 51 = .ok (.iload_n 2, 1) := by decide +kernel
theorem dX4_cutTo_52 : decode cX4_cutTo 52 = .ok (.laload, 1) := by decide +kernel
theorem dX4_cutTo_53 : decode cX4_cutTo 53 = .ok (.invokevirtual 79, 3) := by decide +kernel
theorem dX4_cutTo_56 : decode cX4_cutTo 56 = .ok (.ifCond .eq 14, 3) := by decide +kernel
theorem dX4_cutTo_59 : decode cX4_cutTo 59 = .ok (.aload_n 0, 1) := by decide +kernel
theorem dX4_cutTo_60 : decode cX4_cutTo 60 = .ok (.iload_n 2, 1) := by decide +kernel
theorem dX4_cutTo_61 : decode cX4_cutTo 61 = .ok (.aload_n 1, 1) := by decide +kernel
theorem dX4_cutTo_62 : decode cX4_cutTo 62 = .ok (.getfield 22, 3) := by decide +kernel
theorem dX4_cutTo_65 : decode cX4_cutTo 65 = .ok (.iload_n 2, 1) := by decide +kernel
theorem dX4_cutTo_66 : decode cX4_cutTo 66 = .ok (.laload, 1) := by decide +kernel
theorem dX4_cutTo_67 : decode cX4_cutTo 67 = .ok (.invokevirtual 40, 3) := by decide +kernel
theorem dX4_cutTo_70 : decode cX4_cutTo 70 = .ok (.iinc 2 1, 3) := by decide +kernel
theorem dX4_cutTo_73 : decode cX4_cutTo 73 = .ok (.goto (-52), 3) := by decide +kernel
theorem dX4_cutTo_76 : decode cX4_cutTo 76 = .ok (.aload_n 0, 1) := by decide +kernel
theorem dX4_cutTo_77 : decode cX4_cutTo 77 = .ok (.invokevirtual 107, 3) := by decide +kernel
theorem dX4_cutTo_80 : decode cX4_cutTo 80 = .ok (.aload_n 0, 1) := by decide +kernel
theorem dX4_cutTo_81 : decode cX4_cutTo 81 = .ok (.getfield 26, 3) := by decide +kernel
theorem dX4_cutTo_84 : decode cX4_cutTo 84 = .ok (.ifCond .eq 7, 3) := by decide +kernel
theorem dX4_cutTo_87 : decode cX4_cutTo 87 = .ok (.aload_n 0, 1) := by decide +kernel
theorem dX4_cutTo_88 : decode cX4_cutTo 88 = .ok (.invokevirtual 44, 3) := by decide +kernel
theorem dX4_cutTo_91 : decode cX4_cutTo 91 = .ok (.return_, 1) := by decide +kernel
set_option maxRecDepth 20000 in
theorem ggX4_isSettledByEmptiness_X4_takeOver : GoodIn wsX4_isSettledByEmptiness wsX4_takeOver := goodIn_r _ [6, 1, 7, 8, 9, 10, 5, 11, 12, 13, 14, 15, 16, 17, 18, 19, 20, 21, 22, 23, 24, 25, 26, 27, 28, 29, 30, 31, 32, 33, 34, 35, 36, 37, 38, 39, 40, 41, 42, 43, 44, 45, 46, 47, 48, 49, 50, 51, 52, 53, 54, 55, 56, 57, 58, 59] rfl (by decide +kernel)
set_option maxRecDepth 20000 in
theorem gX4_isSettledByEmptiness_X4_takeOver : GoodIn wsX4_isSettledByEmptiness (wsV RX4 51 RX4 yX4_takeOver wsX4_takeOver) := goodIn_app (goodIn_of _ (by decide +kernel)) ggX4_isSettledByEmptiness_X4_takeOver
theorem dX4_isSettledByEmptiness_0 : decode cX4_isSettledByEmptiness 0 = .ok (.aload_n 0, 1) := by decide +kernel
theorem dX4_isSettledByEmptiness_1 : decode cX4_isSettledByEmptiness 1 = .ok (.getfield 26, 3) := by decide +kernel
theorem dX4_isSettledByEmptiness_4 : decode cX4_isSettledByEmptiness 4 = .ok (.ifCond .ne 10, 3) := by decide +kernel
theorem dX4_isSettledByEmptiness_7 : decode cX4_isSettledByEmptiness 7 = .ok (.aload_n 1, 1) := by decide +kernel
theorem dX4_isSettledByEmptiness_8 : decode cX4_isSettledByEmptiness 8 = .ok (.getfield 26, 3) := by decide +kernel
theorem dX4_isSettledByEmptiness_11 : decode cX4_isSettledByEmptiness 11 = .ok (.ifCond .eq 7, 3) := by decide +kernel
theorem dX4_isSettledByEmptiness_14 : decode cX4_isSettledByEmptiness 14 = .ok (.iconst 1, 1) := by decide +kernel
theorem dX4_isSettledByEmptiness_15 : decode cX4_isSettledByEmptiness 15 = .ok (.goto 4, 3) := by decide +kernel
theorem dX4_isSettledByEmptiness_18 : decode cX4_isSettledByEmptiness 18 = .ok (.iconst 0, 1) := by decide +kernel
theorem dX4_isSettledByEmptiness_19 : decode cX4_isSettledByEmptiness 19 = .ok (.istore_n 2, 1) := by decide +kernel
theorem dX4_isSettledByEmptiness_20 : decode cX4_isSettledByEmptiness 20 = .ok (.aload_n 0, 1) := by decide +kernel
theorem dX4_isSettledByEmptiness_21 : decode cX4_isSettledByEmptiness 21 = .ok (.getfield 26, 3) := by decide +kernel
theorem dX4_isSettledByEmptiness_24 : decode cX4_isSettledByEmptiness 24 = .ok (.ifCond .eq 8, 3) := by decide +kernel
theorem dX4_isSettledByEmptiness_27 : decode cX4_isSettledByEmptiness 27 = .ok (.aload_n 0, 1) := by decide +kernel
theorem dX4_isSettledByEmptiness_28 : decode cX4_isSettledByEmptiness 28 = .ok (.aload_n 1, 1) := by decide +kernel
theorem dX4_isSettledByEmptiness_29 : decode cX4_isSettledByEmptiness 29 = .ok (.invokevirtual 51, 3) := by decide +kernel
theorem dX4_isSettledByEmptiness_32 : decode cX4_isSettledByEmptiness 32 = .ok (.iload_n 2, 1) := by decide +kernel
theorem dX4_isSettledByEmptiness_33 : decode cX4_isSettledByEmptiness 33 = .ok (.ireturn, 1) := by decide +kernel
set_option maxRecDepth 20000 in
theorem ggX4_stretchOver_X4_isSettledByEmptiness : GoodIn wsX4_stretchOver wsX4_isSettledByEmptiness := goodIn_r _ [7, 8, 9, 10, 11, 6, 12, 2, 13, 14, 15, 16, 1, 17, 18, 19, 20, 21, 22, 23, 24, 25, 26, 27, 28, 29, 30, 31, 32, 33, 34, 35, 36, 37, 38, 39, 40, 41, 42, 70, 71, 72, 73, 74, 75, 76, 77, 78, 79, 80, 81, 82, 83, 84, 85, 86, 87, 88, 89, 90] rfl (by decide +kernel)
set_option maxRecDepth 20000 in
theorem gX4_stretchOver_X4_isSettledByEmptiness : GoodIn wsX4_stretchOver (wsV RX4 110 RX4 yX4_isSettledByEmptiness wsX4_isSettledByEmptiness) := goodIn_app (goodIn_of _ (by decide +kernel)) ggX4_stretchOver_X4_isSettledByEmptiness
set_option maxRecDepth 20000 in
theorem ggX4_stretchOver_X3_isLess : GoodIn wsX4_stretchOver wsX3_isLess := goodIn_r _ [46, 47, 48, 49, 20, 50, 27, 26, 51, 52, 53, 37, 54, 55, 56, 57, 58, 59, 60, 61, 62, 63, 38, 64, 23, 24, 25, 28, 29, 30, 31, 32, 65, 66, 67, 68, 69, 80, 81, 82, 83, 84, 85, 86, 87, 88, 74, 75, 76, 77, 78, 79, 89, 90] rfl (by decide +kernel)
set_option maxRecDepth 20000 in
theorem gX4_stretchOver_X3_isLess : GoodIn wsX4_stretchOver (wsV RX4 79 RX3 yX3_isLess wsX3_isLess) := goodIn_app (goodIn_of _ (by decide +kernel)) ggX4_stretchOver_X3_isLess
set_option maxRecDepth 20000 in
theorem ggX4_stretchOver_X4_put : GoodIn wsX4_stretchOver wsX4_put := goodIn_r _ [16, 2, 1, 17, 18, 19, 20, 21, 22, 23, 24, 25, 26, 27, 28, 29, 30, 31, 32, 33, 34, 35, 36, 37, 38, 39, 40, 41, 42, 70, 71, 72, 73, 74, 75, 76, 77, 78, 79, 80, 81, 82, 83, 84, 85, 86, 87, 88, 89, 90] rfl (by decide +kernel)
set_option maxRecDepth 20000 in
theorem gX4_stretchOver_X4_put : GoodIn wsX4_stretchOver (wsV RX4 40 RX4 yX4_put wsX4_put) := goodIn_app (goodIn_of _ (by decide +kernel)) ggX4_stretchOver_X4_put
theorem dX4_stretchOver_0 : decode cX4_stretchOver 0 = .ok (.aload_n 0, 1) := by decide +kernel
theorem dX4_stretchOver_1 : decode cX4_stretchOver 1 = .ok (.aload_n 1, 1) := by decide +kernel
theorem dX4_stretchOver_2 : decode cX4_stretchOver 2 = .ok (.invokevirtual 110, 3) := by decide +kernel
theorem dX4_stretchOver_5 : decode cX4_stretchOver 5 = .ok (.ifCond .eq 4, 3) := by decide +kernel
theorem dX4_stretchOver_8 : decode cX4_stretchOver 8 = .ok (.return_, 1) := by decide +kernel
theorem dX4_stretchOver_9 : decode cX4_stretchOver 9 = .ok (.iconst 0, 1) := by decide +kernel
theorem dX4_stretchOver_10 : decode cX4_stretchOver 10 = .ok (.istore_n 2, 1) := by decide +kernel
theorem dX4_stretchOver_11 : decode cX4_stretchOver 11 = .ok (.iload_n 2, 1) := by decide +kernel
theorem dX4_stretchOver_12 : decode cX4_stretchOver 12 = .ok (.bipush 78, 2) := by decide +kernel
theorem dX4_stretchOver_14 : decode cX4_stretchOver 14 = .ok (.if_icmp .ge 42, 3) := by decide +kernel
theorem dX4_stretchOver_17 : decode cX4_stretchOver 17 = .ok (.aload_n 0, 1) := by decide +kernel
theorem dX4_stretchOver_18 : decode cX4_stretchOver 18 = .ok (.getfield 21, 3) := by decide +kernel
theorem dX4_stretchOver_21 : decode cX4_stretchOver 21 = .ok (.aload_n 0, 1) := by decide +kernel
theorem dX4_stretchOver_22 : decode cX4_stretchOver 22 = .ok (.getfield 22, 3) := by decide +kernel
theorem dX4_stretchOver_25 : decode cX4_stretchOver 25 = .ok (.iload_n 2, 1) := by decide +kernel
theorem dX4_stretchOver_26 : decode cX4_stretchOver 26 = .ok (.laload, 1) := by decide +kernel
theorem dX4_stretchOver_27 : decode cX4_stretchOver 27 = .ok (.aload_n 1, 1) := by decide +kernel
theorem dX4_stretchOver_28 : decode cX4_stretchOver 28 = .ok (.getfield 22, 3) := by decide +kernel
theorem dX4_stretchOver_31 : decode cX4_stretchOver 31 = .ok (.iload_n 2, 1) := by decide +kernel
theorem dX4_stretchOver_32 : decode cX4_stretchOver 32 = .ok (.laload, 1) := by decide +kernel
theorem dX4_stretchOver_33 : decode cX4_stretchOver 33 = .ok (.invokevirtual 79, 3) := by decide +kernel
theorem dX4_stretchOver_36 : decode cX4_stretchOver 36 = .ok (.ifCond .eq 14, 3) := by decide +kernel
theorem dX4_stretchOver_39 : decode cX4_stretchOver 39 = .ok (.aload_n 0, 1) := by decide +kernel
theorem dX4_stretchOver_40 : decode cX4_stretchOver 40 = .ok (.iload_n 2, 1) := by decide +kernel
theorem dX4_stretchOver_41 : decode cX4_stretchOver 41 = .ok (.aload_n 1, 1) := by decide +kernel
theorem dX4_stretchOver_42 : decode cX4_stretchOver 42 = .ok (.getfield 22, 3) := by decide +kernel
theorem dX4_stretchOver_45 : decode cX4_stretchOver 45 = .ok (.iload_n 2, 1) := by decide +kernel
theorem dX4_stretchOver_46 : decode cX4_stretchOver 46 = .ok (.laload, 1) := by decide +kernel
theorem dX4_stretchOver_47 : decode cX4_stretchOver 47 = .ok (.invokevirtual 40, 3) := by decide +kernel
theorem dX4_stretchOver_50 : decode cX4_stretchOver 50 = .ok (.iinc 2 1, 3) := by decide +kernel
theorem dX4_stretchOver_53 : decode cX4_stretchOver 53 = .ok (.goto (-42), 3) := by decide +kernel
theorem dX4_stretchOver_56 : decode cX4_stretchOver 56 = .ok (.return_, 1) := by decide +kernel
set_option maxRecDepth 20000 in
theorem ggX4_loosenBy_X4_isSettledByEmptiness : GoodIn wsX4_loosenBy wsX4_isSettledByEmptiness := goodIn_r _ [10, 11, 12, 13, 14, 9, 15, 4, 16, 17, 18, 19, 3, 20, 21, 22, 23, 24, 25, 26, 27, 28, 29, 30, 31, 32, 33, 34, 35, 36, 37, 38, 39, 40, 41, 42, 43, 44, 45, 166, 167, 168, 169, 173, 174, 175, 176, 177, 178, 179, 180, 181, 182, 183, 184, 185, 186, 187, 188, 189] rfl (by decide +kernel)
set_option maxRecDepth 20000 in
theorem gX4_loosenBy_X4_isSettledByEmptiness : GoodIn wsX4_loosenBy (wsV RX4 110 RX4 yX4_isSettledByEmptiness wsX4_isSettledByEmptiness) := goodIn_app (goodIn_of _ (by decide +kernel)) ggX4_loosenBy_X4_isSettledByEmptiness
set_option maxRecDepth 20000 in
theorem ggX4_loosenBy_X3_isLess : GoodIn wsX4_loosenBy wsX3_isLess := goodIn_r _ [49, 50, 51, 52, 23, 53, 30, 29, 54, 55, 56, 40, 57, 58, 59, 60, 61, 62, 63, 64, 65, 66, 41, 67, 26, 27, 28, 31, 32, 33, 34, 35, 68, 69, 70, 71, 72, 179, 180, 181, 182, 183, 184, 185, 186, 187, 173, 174, 175, 176, 177, 178, 188, 189] rfl (by decide +kernel)
set_option maxRecDepth 20000 in
theorem gX4_loosenBy_X3_isLess : GoodIn wsX4_loosenBy (wsV RX4 79 RX3 yX3_isLess wsX3_isLess) := goodIn_app (goodIn_of _ (by decide +kernel)) ggX4_loosenBy_X3_isLess
set_option maxRecDepth 20000 in
theorem ggX4_loosenBy_X4_put : GoodIn wsX4_loosenBy wsX4_put := goodIn_r _ [19, 4, 3, 20, 21, 22, 23, 24, 25, 26, 27, 28, 29, 30, 31, 32, 33, 34, 35, 36, 37, 38, 39, 40, 41, 42, 43, 44, 45, 166, 167, 168, 169, 173, 174, 175, 176, 177, 178, 179, 180, 181, 182, 183, 184, 185, 186, 187, 188, 189] rfl (by decide +kernel)
set_option maxRecDepth 20000 in
theorem gX4_loosenBy_X4_put : GoodIn wsX4_loosenBy (wsV RX4 40 RX4 yX4_put wsX4_put) := goodIn_app (goodIn_of _ (by decide +kernel)) ggX4_loosenBy_X4_put
set_option maxRecDepth 20000 in
theorem ggX4_loosenBy_X4_close : GoodIn wsX4_loosenBy wsX4_close := goodIn_r _ [76, 11, 4, 5, 1, 2, 3, 77, 78, 9, 79, 80, 81, 82, 83, 51, 52, 23, 53, 30, 29, 54, 55, 56, 40, 57, 58, 59, 60, 61, 62, 63, 64, 65, 66, 41, 67, 26, 27, 28, 31, 32, 33, 34, 35, 68, 69, 70, 71, 72, 84, 85, 86, 87, 88, 89, 90, 91, 92, 93, 94, 95, 96, 97, 44, 45, 98, 99, 100, 101, 102, 42, 43, 103, 104, 105, 106, 107, 108, 109, 110, 111, 112, 113, 114, 115, 116, 117, 118, 119, 120, 121, 36, 37, 38, 39, 122, 123, 124, 125, 126, 127, 128, 129, 130, 131, 132, 133, 134, 16, 17, 18, 19, 20, 21, 22, 24, 25, 135, 136, 137, 138, 139, 140, 141, 142, 143, 144, 145, 146, 147, 148, 149, 150, 151, 152, 153, 154, 155, 156, 157, 158, 159, 160, 161, 162, 163, 164, 165, 166, 167, 168, 169, 170, 171, 172, 179, 180, 181, 182, 183, 184, 185, 186, 187, 173, 174, 175, 176, 177, 178, 188, 189] rfl (by decide +kernel)
set_option maxRecDepth 20000 in
theorem gX4_loosenBy_X4_close : GoodIn wsX4_loosenBy (wsV RX4 107 RX4 yX4_close wsX4_close) := goodIn_app (goodIn_of _ (by decide +kernel)) ggX4_loosenBy_X4_close
theorem dX4_loosenBy_0 : decode cX4_loosenBy 0 = .ok (.aload_n 0, 1) := by decide +kernel
theorem dX4_loosenBy_1 : decode cX4_loosenBy 1 = .ok (.aload_n 1, 1) := by decide +kernel
theorem dX4_loosenBy_2 : decode cX4_loosenBy 2 = .ok (.invokevirtual 110, 3) := by decide +kernel
theorem dX4_loosenBy_5 : decode cX4_loosenBy 5 = .ok (.ifCond .eq 4, 3) := by decide +kernel
theorem dX4_loosenBy_8 : decode cX4_loosenBy 8 = .ok (.return_, 1) := by decide +kernel
theorem dX4_loosenBy_9 : decode cX4_loosenBy 9 = .ok (.iconst 0, 1) := by decide +kernel
theorem dX4_loosenBy_10 : decode cX4_loosenBy 10 = .ok (.istore_n 2, 1) := by decide +kernel
theorem dX4_loosenBy_11 : decode cX4_loosenBy 11 = .ok (.iload_n 2, 1) := by decide +kernel
theorem dX4_loosenBy_12 : decode cX4_loosenBy 12 = .ok (.bipush 78, 2) := by decide +kernel
theorem dX4_loosenBy_14 : decode cX4_loosenBy 14 = .ok (.if_icmp .ge 57, 3) := by decide +kernel
theorem dX4_loosenBy_17 : decode cX4_loosenBy 17 = .ok (.aload_n 0, 1) := by decide +kernel
theorem dX4_loosenBy_18 : decode cX4_loosenBy 18 = .ok (.getfield 9, 3) := by decide +kernel
theorem dX4_loosenBy_21 : decode cX4_loosenBy 21 = .ok (.getfield 103, 3) := by decide +kernel
theorem dX4_loosenBy_24 : decode cX4_loosenBy 24 = .ok (.iload_n 2, 1) := by decide +kernel
theorem dX4_loosenBy_25 : decode cX4_loosenBy 25 = .ok (.aload_n 0, 1) := by decide +kernel
theorem dX4_loosenBy_26 : decode cX4_loosenBy 26 = .ok (.getfield 21, 3) := by decide +kernel
theorem dX4_loosenBy_29 : decode cX4_loosenBy 29 = .ok (.aload_n 0, 1) := by decide +kernel
theorem dX4_loosenBy_30 : decode cX4_loosenBy 30 = .ok (.getfield 22, 3) := by decide +kernel
theorem dX4_loosenBy_33 : decode cX4_loosenBy 33 = .ok (.iload_n 2, 1) := by decide +kernel
theorem dX4_loosenBy_34 : decode cX4_loosenBy 34 = .ok (.laload, 1) := by decide +kernel
theorem dX4_loosenBy_35 : decode cX4_loosenBy 35 = .ok (.aload_n 1, 1) := by decide +kernel
theorem dX4_loosenBy_36 : decode cX4_loosenBy 36 = .ok (.getfield 22, 3) := by decide +kernel
theorem dX4_loosenBy_39 : decode cX4_loosenBy 39 = .ok (.iload_n 2, 1) := by decide +kernel
theorem dX4_loosenBy_40 : decode cX4_loosenBy 40 = .ok (.laload, 1) := by decide +kernel
theorem dX4_loosenBy_41 : decode cX4_loosenBy 41 = .ok (.invokevirtual 79, 3) := by decide +kernel
theorem dX4_loosenBy_44 : decode cX4_loosenBy 44 = .ok (.bastore, 1) := by decide +kernel
theorem dX4_loosenBy_45 : decode cX4_loosenBy 45 = .ok (.aload_n 0, 1) := by decide +kernel
theorem dX4_loosenBy_46 : decode cX4_loosenBy 46 = .ok (.getfield 9, 3) := by decide +kernel
theorem dX4_loosenBy_49 : decode cX4_loosenBy 49 = .ok (.getfield 103, 3) := by decide +kernel
theorem dX4_loosenBy_52 : decode cX4_loosenBy 52 = .ok (.iload_n 2, 1) := by decide +kernel
theorem dX4_loosenBy_53 : decode cX4_loosenBy 53 = .ok (.baload, 1) := by decide +kernel
theorem dX4_loosenBy_54 : decode cX4_loosenBy 54 = .ok (.ifCond .eq 11, 3) := by decide +kernel
theorem dX4_loosenBy_57 : decode cX4_loosenBy 57 = .ok (.aload_n 0, 1) := by decide +kernel
theorem dX4_loosenBy_58 : decode cX4_loosenBy 58 = .ok (.iload_n 2, 1) := by decide +kernel
theorem dX4_loosenBy_59 : decode cX4_loosenBy 59 = .ok (.ldc2_w 74, 3) := by decide +kernel
theorem dX4_loosenBy_62 : decode cX4_loosenBy 62 = .ok (.invokevirtual 40, 3) := by decide +kernel
theorem dX4_loosenBy_65 : decode cX4_loosenBy 65 = .ok (.iinc 2 1, 3) := by decide +kernel
theorem dX4_loosenBy_68 : decode cX4_loosenBy 68 = .ok (.goto (-57), 3) := by decide +kernel
theorem dX4_loosenBy_71 : decode cX4_loosenBy 71 = .ok (.aload_n 0, 1) := by decide +kernel
theorem dX4_loosenBy_72 : decode cX4_loosenBy 72 = .ok (.invokevirtual 107, 3) := by decide +kernel
theorem dX4_loosenBy_75 : decode cX4_loosenBy 75 = .ok (.return_, 1) := by decide +kernel
set_option maxRecDepth 20000 in
theorem ggX4_isWithin_X3_isLess : GoodIn wsX4_isWithin wsX3_isLess := goodIn_r _ [8, 9, 10, 11, 7, 12, 13, 14, 15, 16, 17, 18, 19, 20, 21, 22, 23, 24, 25, 26, 27, 28, 29, 30, 31, 32, 33, 34, 35, 36, 37, 38, 39, 40, 41, 42, 43, 48, 49, 50, 51, 52, 53, 54, 55, 56, 57, 58, 59, 60, 61, 62, 63, 64] rfl (by decide +kernel)
set_option maxRecDepth 20000 in
theorem gX4_isWithin_X3_isLess : GoodIn wsX4_isWithin (wsV RX4 79 RX3 yX3_isLess wsX3_isLess) := goodIn_app (goodIn_of _ (by decide +kernel)) ggX4_isWithin_X3_isLess
theorem dX4_isWithin_0 : decode cX4_isWithin 0 = .ok (.aload_n 0, 1) := by decide +kernel
theorem dX4_isWithin_1 : decode cX4_isWithin 1 = .ok (.getfield 26, 3) := by decide +kernel
theorem dX4_isWithin_4 : decode cX4_isWithin 4 = .ok (.ifCond .ne 10, 3) := by decide +kernel
theorem dX4_isWithin_7 : decode cX4_isWithin 7 = .ok (.aload_n 1, 1) := by decide +kernel
theorem dX4_isWithin_8 : decode cX4_isWithin 8 = .ok (.getfield 26, 3) := by decide +kernel
theorem dX4_isWithin_11 : decode cX4_isWithin 11 = .ok (.ifCond .eq 8, 3) := by decide +kernel
theorem dX4_isWithin_14 : decode cX4_isWithin 14 = .ok (.aload_n 0, 1) := by decide +kernel
theorem dX4_isWithin_15 : decode cX4_isWithin 15 = .ok (.getfield 26, 3) := by decide +kernel
theorem dX4_isWithin_18 : decode cX4_isWithin 18 = .ok (.ireturn, 1) := by decide +kernel
theorem dX4_isWithin_19 : decode cX4_isWithin 19 = .ok (.iconst 0, 1) := by decide +kernel
theorem dX4_isWithin_20 : decode cX4_isWithin 20 = .ok (.istore_n 2, 1) := by decide +kernel
theorem dX4_isWithin_21 : decode cX4_isWithin 21 = .ok (.iload_n 2, 1) := by decide +kernel
theorem dX4_isWithin_22 : decode cX4_isWithin 22 = .ok (.bipush 78, 2) := by decide +kernel
theorem dX4_isWithin_24 : decode cX4_isWithin 24 = .ok (.if_icmp .ge 33, 3) := by decide +kernel
theorem dX4_isWithin_27 : decode cX4_isWithin 27 = .ok (.aload_n 0, 1) := by decide +kernel
theorem dX4_isWithin_28 : decode cX4_isWithin 28 = .ok (.getfield 21, 3) := by decide +kernel
theorem dX4_isWithin_31 : decode cX4_isWithin 31 = .ok (.aload_n 1, 1) := by decide +kernel
theorem dX4_isWithin_32 : decode cX4_isWithin 32 = .ok (.getfield 22, 3) := by decide +kernel
theorem dX4_isWithin_35 : decode cX4_isWithin 35 = .ok (.iload_n 2, 1) := by decide +kernel
theorem dX4_isWithin_36 : decode cX4_isWithin 36 = .ok (.laload, 1) := by decide +kernel
theorem dX4_isWithin_37 : decode cX4_isWithin 37 = .ok (.aload_n 0, 1) := by decide +kernel
theorem dX4_isWithin_38 : decode cX4_isWithin 38 = .ok (.getfield 22, 3) := by decide +kernel
theorem dX4_isWithin_41 : decode cX4_isWithin 41 = .ok (.iload_n 2, 1) := by decide +kernel
theorem dX4_isWithin_42 : decode cX4_isWithin 42 = .ok (.laload, 1) := by decide +kernel
theorem dX4_isWithin_43 : decode cX4_isWithin 43 = .ok (.invokevirtual 79, 3) := by decide +kernel
theorem dX4_isWithin_46 : decode cX4_isWithin 46 = .ok (.ifCond .eq 5, 3) := by decide +kernel
theorem dX4_isWithin_49 : decode cX4_isWithin 49 = .ok (.iconst 0, 1) := by decide +kernel
theorem dX4_isWithin_50 : decode cX4_isWithin 50 = .ok (.ireturn, 1) := by decide +kernel
theorem dX4_isWithin_51 : decode cX4_isWithin 51 = .ok (.iinc 2 1, 3) := by decide +kernel
theorem dX4_isWithin_54 : decode cX4_isWithin 54 = .ok (.goto (-33), 3) := by decide +kernel
theorem dX4_isWithin_57 : decode cX4_isWithin 57 = .ok (.iconst 1, 1) := by decide +kernel
theorem dX4_isWithin_58 : decode cX4_isWithin 58 = .ok (.ireturn, 1) := by decide +kernel
set_option maxRecDepth 20000 in
theorem ggX4_mostOf_X4_cell : GoodIn wsX4_mostOf wsX4_cell := goodIn_r _ [8] rfl (by decide +kernel)
set_option maxRecDepth 20000 in
theorem gX4_mostOf_X4_cell : GoodIn wsX4_mostOf (va_wsS RX4 66 yX4_cell wsX4_cell) := goodIn_app (goodIn_of _ (by decide +kernel)) ggX4_mostOf_X4_cell
set_option maxRecDepth 20000 in
theorem ggX4_mostOf_X3_nearestLong : GoodIn wsX4_mostOf wsX3_nearestLong := goodIn_r _ [13, 14, 15, 16, 17, 18, 19, 20, 12, 21, 22, 23, 24, 25, 26, 27, 28, 29, 30, 31, 32, 33, 34, 35, 36, 37, 38, 39, 111, 112, 113, 114, 115, 116, 117, 118, 119, 120, 121, 122, 123, 124, 125, 126, 127] rfl (by decide +kernel)
set_option maxRecDepth 20000 in
theorem gX4_mostOf_X3_nearestLong : GoodIn wsX4_mostOf (wsV RX4 114 RX3 yX3_nearestLong wsX3_nearestLong) := goodIn_app (goodIn_of _ (by decide +kernel)) ggX4_mostOf_X3_nearestLong
set_option maxRecDepth 20000 in
theorem ggX4_mostOf_X3_half : GoodIn wsX4_mostOf wsX3_half := goodIn_r _ [43, 18, 44, 45, 46, 47, 14, 48, 19, 20, 12, 21, 22, 23, 24, 25, 26, 27, 49, 50, 51, 52, 53, 54, 55, 56, 57, 31, 58, 59, 60, 61, 62, 63, 64, 65, 66, 67, 68, 69, 70, 71, 72, 73, 74, 75, 76, 33, 77, 78, 79, 80, 81, 82, 83, 84, 85, 86, 28, 29, 30, 32, 34, 35, 87, 88, 89, 90, 91, 36, 37, 38, 39, 111, 112, 113, 114, 115, 116, 126, 127, 117, 118, 119, 120, 121, 122, 123, 124, 125] rfl (by decide +kernel)
set_option maxRecDepth 20000 in
theorem gX4_mostOf_X3_half : GoodIn wsX4_mostOf (wsV RX4 118 RX3 yX3_half wsX3_half) := goodIn_app (goodIn_of _ (by decide +kernel)) ggX4_mostOf_X3_half
set_option maxRecDepth 20000 in
theorem ggX4_mostOf_X0_note : GoodIn wsX4_mostOf wsX0_note := goodIn_r _ [96, 97, 98, 99, 100, 101, 12, 102, 103, 19, 20, 21, 22, 18, 23, 24, 25, 26, 27, 83, 84, 85, 86, 44, 46, 63, 64, 53, 54, 108, 109, 110, 111, 112, 113, 114, 115, 116, 117, 118, 119, 120, 121, 122, 123, 124, 125, 126, 127] rfl (by decide +kernel)
set_option maxRecDepth 20000 in
theorem gX4_mostOf_X0_note : GoodIn wsX4_mostOf (wsV RX4 55 RX0 yX0_note wsX0_note) := goodIn_app (goodIn_of _ (by decide +kernel)) ggX4_mostOf_X0_note
theorem dX4_mostOf_0 : decode cX4_mostOf 0 = .ok (.iload_n 1, 1) := by decide +kernel
theorem dX4_mostOf_1 : decode cX4_mostOf 1 = .ok (.iload_n 2, 1) := by decide +kernel
theorem dX4_mostOf_2 : decode cX4_mostOf 2 = .ok (.if_icmp .eq 21, 3) := by decide +kernel
theorem dX4_mostOf_5 : decode cX4_mostOf 5 = .ok (.aload_n 0, 1) := by decide +kernel
theorem dX4_mostOf_6 : decode cX4_mostOf 6 = .ok (.getfield 21, 3) := by decide +kernel
theorem dX4_mostOf_9 : decode cX4_mostOf 9 = .ok (.aload_n 0, 1) := by decide +kernel
theorem dX4_mostOf_10 : decode cX4_mostOf 10 = .ok (.getfield 22, 3) := by decide +kernel
theorem dX4_mostOf_13 : decode cX4_mostOf 13 = .ok (.iload_n 1, 1) := by decide +kernel
theorem dX4_mostOf_14 : decode cX4_mostOf 14 = .ok (.iload_n 2, 1) := by decide +kernel
theorem dX4_mostOf_15 : decode cX4_mostOf 15 = .ok (.invokestatic 66, 3) := by decide +kernel
theorem dX4_mostOf_18 : decode cX4_mostOf 18 = .ok (.laload, 1) := by decide +kernel
theorem dX4_mostOf_19 : decode cX4_mostOf 19 = .ok (.invokevirtual 114, 3) := by decide +kernel
theorem dX4_mostOf_22 : decode cX4_mostOf 22 = .ok (.lreturn, 1) := by decide +kernel
theorem dX4_mostOf_23 : decode cX4_mostOf 23 = .ok (.aload_n 0, 1) := by decide +kernel
theorem dX4_mostOf_24 : decode cX4_mostOf 24 = .ok (.getfield 9, 3) := by decide +kernel
theorem dX4_mostOf_27 : decode cX4_mostOf 27 = .ok (.bipush 12, 2) := by decide +kernel
theorem dX4_mostOf_29 : decode cX4_mostOf 29 = .ok (.aload_n 0, 1) := by decide +kernel
theorem dX4_mostOf_30 : decode cX4_mostOf 30 = .ok (.getfield 21, 3) := by decide +kernel
theorem dX4_mostOf_33 : decode cX4_mostOf 33 = .ok (.aload_n 0, 1) := by decide +kernel
theorem dX4_mostOf_34 : decode cX4_mostOf 34 = .ok (.getfield 22, 3) := by decide +kernel
theorem dX4_mostOf_37 : decode cX4_mostOf 37 = .ok (.iload_n 1, 1) := by decide +kernel
theorem dX4_mostOf_38 : decode cX4_mostOf 38 = .ok (.iload_n 1, 1) := by decide +kernel
theorem dX4_mostOf_39 : decode cX4_mostOf 39 = .ok (.invokestatic 66, 3) := by decide +kernel
theorem dX4_mostOf_42 : decode cX4_mostOf 42 = .ok (.laload, 1) := by decide +kernel
theorem dX4_mostOf_43 : decode cX4_mostOf 43 = .ok (.invokevirtual 118, 3) := by decide +kernel
theorem dX4_mostOf_46 : decode cX4_mostOf 46 = .ok (.invokevirtual 55, 3) := by decide +kernel
theorem dX4_mostOf_49 : decode cX4_mostOf 49 = .ok (.aload_n 0, 1) := by decide +kernel
theorem dX4_mostOf_50 : decode cX4_mostOf 50 = .ok (.getfield 21, 3) := by decide +kernel
theorem dX4_mostOf_53 : decode cX4_mostOf 53 = .ok (.aload_n 0, 1) := by decide +kernel
theorem dX4_mostOf_54 : decode cX4_mostOf 54 = .ok (.getfield 9, 3) := by decide +kernel
theorem dX4_mostOf_57 : decode cX4_mostOf 57 = .ok (.getfield 76, 3) := by decide +kernel
theorem dX4_mostOf_60 : decode cX4_mostOf 60 = .ok (.bipush 12, 2) := by decide +kernel
theorem dX4_mostOf_62 : decode cX4_mostOf 62 = .ok (.laload, 1) := by decide +kernel
theorem dX4_mostOf_63 : decode cX4_mostOf 63 = .ok (.invokevirtual 114, 3) := by decide +kernel
theorem dX4_mostOf_66 : decode cX4_mostOf 66 = .ok (.lreturn, 1) := by decide +kernel
set_option maxRecDepth 20000 in
theorem ggX4_countBounds_X6_negation : GoodIn wsX4_countBounds wsX6_negation := goodIn_r _ [5] rfl (by decide +kernel)
set_option maxRecDepth 20000 in
theorem gX4_countBounds_X6_negation_n70 : GoodIn wsX4_countBounds (wsX6_negation) := ggX4_countBounds_X6_negation
set_option maxRecDepth 20000 in
theorem ggX4_countBounds_X4_cell : GoodIn wsX4_countBounds wsX4_cell := goodIn_r _ [9] rfl (by decide +kernel)
set_option maxRecDepth 20000 in
theorem gX4_countBounds_X4_cell : GoodIn wsX4_countBounds (va_wsS RX4 66 yX4_cell wsX4_cell) := goodIn_app (goodIn_of _ (by decide +kernel)) ggX4_countBounds_X4_cell
theorem dX4_countBounds_0 : decode cX4_countBounds 0 = .ok (.iconst 0, 1) := by decide +kernel
theorem dX4_countBounds_1 : decode cX4_countBounds 1 = .ok (.istore_n 1, 1) := by decide +kernel
theorem dX4_countBounds_2 : decode cX4_countBounds 2 = .ok (.iconst 0, 1) := by decide +kernel
theorem dX4_countBounds_3 : decode cX4_countBounds 3 = .ok (.istore_n 2, 1) := by decide +kernel
theorem dX4_countBounds_4 : decode cX4_countBounds 4 = .ok (.iload_n 2, 1) := by decide +kernel
theorem dX4_countBounds_5 : decode cX4_countBounds 5 = .ok (.bipush 12, 2) := by decide +kernel
theorem dX4_countBounds_7 : decode cX4_countBounds 7 = .ok (.if_icmp .ge 51, 3) := by decide +kernel
theorem dX4_countBounds_10 : decode cX4_countBounds 10 = .ok (.iload_n 2, 1) := by decide +kernel
theorem dX4_countBounds_11 : decode cX4_countBounds 11 = .ok (.istore_n 3, 1) := by decide +kernel
theorem dX4_countBounds_12 : decode cX4_countBounds 12 = .ok (.iload_n 3, 1) := by decide +kernel
theorem dX4_countBounds_13 : decode cX4_countBounds 13 = .ok (.bipush 12, 2) := by decide +kernel
theorem dX4_countBounds_15 : decode cX4_countBounds 15 = .ok (.if_icmp .ge 37, 3) := by decide +kernel
theorem dX4_countBounds_18 : decode cX4_countBounds 18 = .ok (.iload_n 3, 1) := by decide +kernel
theorem dX4_countBounds_19 : decode cX4_countBounds 19 = .ok (.iload_n 2, 1) := by decide +kernel
theorem dX4_countBounds_20 : decode cX4_countBounds 20 = .ok (.invokestatic 70, 3) := by decide +kernel
theorem dX4_countBounds_23 : decode cX4_countBounds 23 = .ok (.if_icmp .eq 23, 3) := by decide +kernel
theorem dX4_countBounds_26 : decode cX4_countBounds 26 = .ok (.aload_n 0, 1) := by decide +kernel
theorem dX4_countBounds_27 : decode cX4_countBounds 27 = .ok (.getfield 22, 3) := by decide +kernel
theorem dX4_countBounds_30 : decode cX4_countBounds 30 = .ok (.iload_n 2, 1) := by decide +kernel
theorem dX4_countBounds_31 : decode cX4_countBounds 31 = .ok (.iload_n 3, 1) := by decide +kernel
theorem dX4_countBounds_32 : decode cX4_countBounds 32 = .ok (.invokestatic 66, 3) := by decide +kernel
theorem dX4_countBounds_35 : decode cX4_countBounds 35 = .ok (.laload, 1) := by decide +kernel
theorem dX4_countBounds_36 : decode cX4_countBounds 36 = .ok (.ldc2_w 74, 3) := by decide +kernel
theorem dX4_countBounds_39 : decode cX4_countBounds 39 = .ok (.lcmp, 1) := by decide +kernel
theorem dX4_countBounds_40 : decode cX4_countBounds 40 = .ok (.ifCond .eq 6, 3) := by decide +kernel
theorem dX4_countBounds_43 : decode cX4_countBounds 43 = .ok (.iinc 1 1, 3) := by decide +kernel
theorem dX4_countBounds_46 : decode cX4_countBounds 46 = .ok (.iinc 3 1, 3) := by decide +kernel
theorem dX4_countBounds_49 : decode cX4_countBounds 49 = .ok (.goto (-37), 3) := by decide +kernel
theorem dX4_countBounds_52 : decode cX4_countBounds 52 = .ok (.iinc 2 1, 3) := by decide +kernel
theorem dX4_countBounds_55 : decode cX4_countBounds 55 = .ok (.goto (-51), 3) := by decide +kernel
theorem dX4_countBounds_58 : decode cX4_countBounds 58 = .ok (.iload_n 1, 1) := by decide +kernel
theorem dX4_countBounds_59 : decode cX4_countBounds 59 = .ok (.ireturn, 1) := by decide +kernel
set_option maxRecDepth 20000 in
theorem ggX4_settle_X4_cell : GoodIn wsX4_settle wsX4_cell := goodIn_r _ [8] rfl (by decide +kernel)
set_option maxRecDepth 20000 in
theorem gX4_settle_X4_cell : GoodIn wsX4_settle (va_wsS RX4 66 yX4_cell wsX4_cell) := goodIn_app (goodIn_of _ (by decide +kernel)) ggX4_settle_X4_cell
set_option maxRecDepth 20000 in
theorem ggX4_settle_X0_note : GoodIn wsX4_settle wsX0_note := goodIn_r _ [13, 14, 15, 16, 17, 18, 19, 20, 21, 22, 23, 24, 25, 26, 27, 28, 29, 30, 31, 32, 33, 34, 35, 36, 37, 38, 39, 40, 41, 173, 174, 175, 176, 177, 178, 179, 180, 181, 182, 183, 184, 185, 186, 187, 188, 189, 190, 191, 192] rfl (by decide +kernel)
set_option maxRecDepth 20000 in
theorem gX4_settle_X0_note : GoodIn wsX4_settle (wsV RX4 55 RX0 yX0_note wsX0_note) := goodIn_app (goodIn_of _ (by decide +kernel)) ggX4_settle_X0_note
set_option maxRecDepth 20000 in
theorem ggX4_settle_X4_holdToSpare : GoodIn wsX4_settle wsX4_holdToSpare := goodIn_r _ [45, 4, 3, 46, 1, 47, 5, 6, 7, 8, 48, 49, 50, 19, 51, 52, 53, 54, 55, 26, 25, 56, 57, 58, 36, 59, 60, 61, 62, 63, 64, 65, 66, 67, 68, 37, 69, 22, 23, 24, 27, 28, 29, 30, 31, 70, 71, 72, 73, 74, 75, 76, 77, 78, 79, 17, 18, 20, 21, 32, 33, 34, 35, 38, 39, 40, 41, 80, 81, 82, 83, 2, 84, 85, 86, 87, 88, 89, 90, 91, 92, 93, 94, 95, 96, 97, 98, 99, 100, 101, 102, 103, 104, 105, 106, 107, 108, 109, 110, 111, 112, 113, 114, 115, 116, 117, 118, 119, 120, 121, 122, 123, 124, 125, 126, 127, 128, 129, 130, 131, 132, 133, 134, 135, 136, 137, 138, 9, 10, 11, 12, 13, 14, 15, 16, 139, 140, 141, 142, 143, 144, 145, 146, 147, 148, 149, 150, 151, 152, 153, 154, 155, 156, 157, 158, 159, 160, 161, 162, 163, 164, 169, 170, 171, 172, 173, 174, 175, 182, 183, 184, 185, 186, 187, 188, 189, 190, 176, 177, 178, 179, 180, 181, 191, 192] rfl (by decide +kernel)
set_option maxRecDepth 20000 in
theorem gX4_settle_X4_holdToSpare : GoodIn wsX4_settle (wsV RX4 58 RX4 yX4_holdToSpare wsX4_holdToSpare) := goodIn_app (goodIn_of _ (by decide +kernel)) ggX4_settle_X4_holdToSpare
set_option maxRecDepth 20000 in
theorem ggX4_settle_X3_negative : GoodIn wsX4_settle wsX3_negative := goodIn_r _ [168, 26, 25, 56, 92, 36, 37, 69, 74, 93, 94, 19, 95, 96, 97, 65, 66, 67, 68, 22, 23, 24, 27, 28, 29, 30, 31, 98, 99, 100, 101, 40, 41, 102, 103, 104, 105, 59, 60, 61, 62, 106, 38, 39, 107, 108, 109, 110, 111, 112, 113, 114, 115, 116, 117, 118, 119, 120, 121, 122, 123, 124, 125, 32, 33, 34, 35, 70, 71, 72, 73, 126, 127, 128, 129, 130, 131, 132, 133, 134, 135, 136, 137, 138, 182, 183, 184, 185, 186, 187, 188, 189, 190, 176, 177, 178, 179, 180, 181, 191, 192] rfl (by decide +kernel)
set_option maxRecDepth 20000 in
theorem gX4_settle_X3_negative : GoodIn wsX4_settle (wsV RX4 121 RX3 yX3_negative wsX3_negative) := goodIn_app (goodIn_of _ (by decide +kernel)) ggX4_settle_X3_negative
theorem dX4_settle_0 : decode cX4_settle 0 = .ok (.iconst 2, 1) := by decide +kernel
theorem dX4_settle_1 : decode cX4_settle 1 = .ok (.iload_n 1, 1) := by decide +kernel
theorem dX4_settle_2 : decode cX4_settle 2 = .ok (.imul, 1) := by decide +kernel
theorem dX4_settle_3 : decode cX4_settle 3 = .ok (.iconst 2, 1) := by decide +kernel
theorem dX4_settle_4 : decode cX4_settle 4 = .ok (.iload_n 1, 1) := by decide +kernel
theorem dX4_settle_5 : decode cX4_settle 5 = .ok (.imul, 1) := by decide +kernel
theorem dX4_settle_6 : decode cX4_settle 6 = .ok (.invokestatic 66, 3) := by decide +kernel
theorem dX4_settle_9 : decode cX4_settle 9 = .ok (.istore_n 2, 1) := by decide +kernel
theorem dX4_settle_10 : decode cX4_settle 10 = .ok (.iconst 2, 1) := by decide +kernel
theorem dX4_settle_11 : decode cX4_settle 11 = .ok (.iload_n 1, 1) := by decide +kernel
theorem dX4_settle_12 : decode cX4_settle 12 = .ok (.imul, 1) := by decide +kernel
theorem dX4_settle_13 : decode cX4_settle 13 = .ok (.iconst 1, 1) := by decide +kernel
theorem dX4_settle_14 : decode cX4_settle 14 = .ok (.iadd, 1) := by decide +kernel
theorem dX4_settle_15 : decode cX4_settle 15 = .ok (.iconst 2, 1) := by decide +kernel
theorem dX4_settle_16 : decode cX4_settle 16 = .ok (.iload_n 1, 1) := by decide +kernel
theorem dX4_settle_17 : decode cX4_settle 17 = .ok (.imul, 1) := by decide +kernel
theorem dX4_settle_18 : decode cX4_settle 18 = .ok (.iconst 1, 1) := by decide +kernel
theorem dX4_settle_19 : decode cX4_settle 19 = .ok (.iadd, 1) := by decide +kernel
theorem dX4_settle_20 : decode cX4_settle 20 = .ok (.invokestatic 66, 3) := by decide +kernel
theorem dX4_settle_23 : decode cX4_settle 23 = .ok (.istore_n 3, 1) := by decide +kernel
theorem dX4_settle_24 : decode cX4_settle 24 = .ok (.aload_n 0, 1) := by decide +kernel
theorem dX4_settle_25 : decode cX4_settle 25 = .ok (.getfield 22, 3) := by decide +kernel
theorem dX4_settle_28 : decode cX4_settle 28 = .ok (.iload_n 2, 1) := by decide +kernel
theorem dX4_settle_29 : decode cX4_settle 29 = .ok (.laload, 1) := by decide +kernel
theorem dX4_settle_30 : decode cX4_settle 30 = .ok (.ldc2_w 74, 3) := by decide +kernel
theorem dX4_settle_33 : decode cX4_settle 33 = .ok (.lcmp, 1) := by decide +kernel
theorem dX4_settle_34 : decode cX4_settle 34 = .ok (.ifCond .ne 36, 3) := by decide +kernel
theorem dX4_settle_37 : decode cX4_settle 37 = .ok (.aload_n 0, 1) := by decide +kernel
theorem dX4_settle_38 : decode cX4_settle 38 = .ok (.getfield 22, 3) := by decide +kernel
theorem dX4_settle_41 : decode cX4_settle 41 = .ok (.iload_n 3, 1) := by decide +kernel
theorem dX4_settle_42 : decode cX4_settle 42 = .ok (.laload, 1) := by decide +kernel
theorem dX4_settle_43 : decode cX4_settle 43 = .ok (.ldc2_w 74, 3) := by decide +kernel
theorem dX4_settle_46 : decode cX4_settle 46 = .ok (.lcmp, 1) := by decide +kernel
theorem dX4_settle_47 : decode cX4_settle 47 = .ok (.ifCond .ne 23, 3) := by decide +kernel
theorem dX4_settle_50 : decode cX4_settle 50 = .ok (.aload_n 0, 1) := by decide +kernel
theorem dX4_settle_51 : decode cX4_settle 51 = .ok (.getfield 9, 3) := by decide +kernel
theorem dX4_settle_54 : decode cX4_settle 54 = .ok (.bipush 12, 2) := by decide +kernel
theorem dX4_settle_56 : decode cX4_settle 56 = .ok (.lconst 0, 1) := by decide +kernel
theorem dX4_settle_57 : decode cX4_settle 57 = .ok (.invokevirtual 55, 3) := by decide +kernel
theorem dX4_settle_60 : decode cX4_settle 60 = .ok (.aload_n 0, 1) := by decide +kernel
theorem dX4_settle_61 : decode cX4_settle 61 = .ok (.iconst 2, 1) := by decide +kernel
theorem dX4_settle_62 : decode cX4_settle 62 = .ok (.iload_n 1, 1) := by decide +kernel
theorem dX4_settle_63 : decode cX4_settle 63 = .ok (.imul, 1) := by decide +kernel
theorem dX4_settle_64 : decode cX4_settle 64 = .ok (.iconst 2, 1) := by decide +kernel
theorem dX4_settle_65 : decode cX4_settle 65 = .ok (.iload_n 1, 1) := by decide +kernel
theorem dX4_settle_66 : decode cX4_settle 66 = .ok (.imul, 1) := by decide +kernel
theorem dX4_settle_67 : decode cX4_settle 67 = .ok (.invokevirtual 58, 3) := by decide +kernel
theorem dX4_settle_70 : decode cX4_settle 70 = .ok (.aload_n 0, 1) := by decide +kernel
theorem dX4_settle_71 : decode cX4_settle 71 = .ok (.getfield 22, 3) := by decide +kernel
theorem dX4_settle_74 : decode cX4_settle 74 = .ok (.iload_n 3, 1) := by decide +kernel
theorem dX4_settle_75 : decode cX4_settle 75 = .ok (.laload, 1) := by decide +kernel
theorem dX4_settle_76 : decode cX4_settle 76 = .ok (.ldc2_w 74, 3) := by decide +kernel
theorem dX4_settle_79 : decode cX4_settle 79 = .ok (.lcmp, 1) := by decide +kernel
theorem dX4_settle_80 : decode cX4_settle 80 = .ok (.ifCond .ne 42, 3) := by decide +kernel
theorem dX4_settle_83 : decode cX4_settle 83 = .ok (.aload_n 0, 1) := by decide +kernel
theorem dX4_settle_84 : decode cX4_settle 84 = .ok (.getfield 9, 3) := by decide +kernel
theorem dX4_settle_87 : decode cX4_settle 87 = .ok (.bipush 12, 2) := by decide +kernel
theorem dX4_settle_89 : decode cX4_settle 89 = .ok (.aload_n 0, 1) := by decide +kernel
theorem dX4_settle_90 : decode cX4_settle 90 = .ok (.getfield 21, 3) := by decide +kernel
theorem dX4_settle_93 : decode cX4_settle 93 = .ok (.aload_n 0, 1) := by decide +kernel
theorem dX4_settle_94 : decode cX4_settle 94 = .ok (.getfield 22, 3) := by decide +kernel
theorem dX4_settle_97 : decode cX4_settle 97 = .ok (.iload_n 2, 1) := by decide +kernel
theorem dX4_settle_98 : decode cX4_settle 98 = .ok (.laload, 1) := by decide +kernel
theorem dX4_settle_99 : decode cX4_settle 99 = .ok (.invokevirtual 121, 3) := by decide +kernel
theorem dX4_settle_102 : decode cX4_settle 102 = .ok (.invokevirtual 55, 3) := by decide +kernel
theorem dX4_settle_105 : decode cX4_settle 105 = .ok (.aload_n 0, 1) := by decide +kernel
theorem dX4_settle_106 : decode cX4_settle 106 = .ok (.iconst 2, 1) := by decide +kernel
theorem dX4_settle_107 : decode cX4_settle 107 = .ok (.iload_n 1, 1) := by decide +kernel
theorem dX4_settle_108 : decode cX4_settle 108 = .ok (.imul, 1) := by decide +kernel
theorem dX4_settle_109 : decode cX4_settle 109 = .ok (.iconst 1, 1) := by decide +kernel
theorem dX4_settle_110 : decode cX4_settle 110 = .ok (.iadd, 1) := by decide +kernel
theorem dX4_settle_111 : decode cX4_settle 111 = .ok (.iconst 2, 1) := by decide +kernel
theorem dX4_settle_112 : decode cX4_settle 112 = .ok (.iload_n 1, 1) := by decide +kernel
theorem dX4_settle_113 : decode cX4_settle 113 = .ok (.imul, 1) := by decide +kernel
theorem dX4_settle_114 : decode cX4_settle 114 = .ok (.iconst 1, 1) := by decide +kernel
theorem dX4_settle_115 : decode cX4_settle 115 = .ok (.iadd, 1) := by decide +kernel
theorem dX4_settle_116 : decode cX4_settle 116 = .ok (.invokevirtual 58, 3) := by decide +kernel
theorem dX4_settle_119 : decode cX4_settle 119 = .ok (.goto 35, 3) := by decide +kernel
theorem dX4_settle_122 : decode cX4_settle 122 = .ok (.aload_n 0, 1) := by decide +kernel
theorem dX4_settle_123 : decode cX4_settle 123 = .ok (.getfield 9, 3) := by decide +kernel
theorem dX4_settle_126 : decode cX4_settle 126 = .ok (.bipush 12, 2) := by decide +kernel
theorem dX4_settle_128 : decode cX4_settle 128 = .ok (.aload_n 0, 1) := by decide +kernel
theorem dX4_settle_129 : decode cX4_settle 129 = .ok (.getfield 21, 3) := by decide +kernel
theorem dX4_settle_132 : decode cX4_settle 132 = .ok (.aload_n 0, 1) := by decide +kernel
theorem dX4_settle_133 : decode cX4_settle 133 = .ok (.getfield 22, 3) := by decide +kernel
theorem dX4_settle_136 : decode cX4_settle 136 = .ok (.iload_n 3, 1) := by decide +kernel
theorem dX4_settle_137 : decode cX4_settle 137 = .ok (.laload, 1) := by decide +kernel
theorem dX4_settle_138 : decode cX4_settle 138 = .ok (.invokevirtual 121, 3) := by decide +kernel
theorem dX4_settle_141 : decode cX4_settle 141 = .ok (.invokevirtual 55, 3) := by decide +kernel
theorem dX4_settle_144 : decode cX4_settle 144 = .ok (.aload_n 0, 1) := by decide +kernel
theorem dX4_settle_145 : decode cX4_settle 145 = .ok (.iconst 2, 1) := by decide +kernel
theorem dX4_settle_146 : decode cX4_settle 146 = .ok (.iload_n 1, 1) := by decide +kernel
theorem dX4_settle_147 : decode cX4_settle 147 = .ok (.imul, 1) := by decide +kernel
theorem dX4_settle_148 : decode cX4_settle 148 = .ok (.iconst 2, 1) := by decide +kernel
theorem dX4_settle_149 : decode cX4_settle 149 = .ok (.iload_n 1, 1) := by decide +kernel
theorem dX4_settle_150 : decode cX4_settle 150 = .ok (.imul, 1) := by decide +kernel
theorem dX4_settle_151 : decode cX4_settle 151 = .ok (.invokevirtual 58, 3) := by decide +kernel
theorem dX4_settle_154 : decode cX4_settle 154 = .ok (.return_, 1) := by decide +kernel
set_option maxRecDepth 20000 in
theorem ggX4_shiftToLeast_X4_cell : GoodIn wsX4_shiftToLeast wsX4_cell := goodIn_r _ [9] rfl (by decide +kernel)
set_option maxRecDepth 20000 in
theorem gX4_shiftToLeast_X4_cell : GoodIn wsX4_shiftToLeast (va_wsS RX4 66 yX4_cell wsX4_cell) := goodIn_app (goodIn_of _ (by decide +kernel)) ggX4_shiftToLeast_X4_cell
set_option maxRecDepth 20000 in
theorem ggX4_shiftToLeast_X3_half : GoodIn wsX4_shiftToLeast wsX3_half := goodIn_r _ [14, 15, 16, 17, 18, 19, 20, 21, 22, 23, 13, 24, 25, 26, 27, 28, 29, 30, 31, 32, 33, 34, 35, 36, 37, 38, 39, 40, 41, 42, 43, 44, 45, 46, 47, 48, 49, 50, 51, 52, 53, 54, 55, 56, 57, 58, 59, 60, 61, 62, 63, 64, 65, 66, 67, 68, 69, 70, 71, 72, 73, 74, 75, 76, 77, 78, 79, 80, 81, 82, 83, 84, 85, 136, 137, 138, 139, 140, 141, 142, 143, 144, 145, 146, 147, 148, 149, 150, 151, 152] rfl (by decide +kernel)
set_option maxRecDepth 20000 in
theorem gX4_shiftToLeast_X3_half : GoodIn wsX4_shiftToLeast (wsV RX4 118 RX3 yX3_half wsX3_half) := goodIn_app (goodIn_of _ (by decide +kernel)) ggX4_shiftToLeast_X3_half
set_option maxRecDepth 20000 in
theorem ggX4_shiftToLeast_X0_note : GoodIn wsX4_shiftToLeast wsX0_note := goodIn_r _ [90, 91, 92, 93, 94, 95, 13, 96, 97, 22, 23, 24, 25, 15, 26, 27, 28, 29, 30, 67, 68, 69, 70, 16, 18, 46, 47, 35, 36, 133, 134, 135, 136, 137, 138, 139, 140, 141, 144, 145, 146, 147, 148, 149, 150, 151, 152, 142, 143] rfl (by decide +kernel)
set_option maxRecDepth 20000 in
theorem gX4_shiftToLeast_X0_note : GoodIn wsX4_shiftToLeast (wsV RX4 55 RX0 yX0_note wsX0_note) := goodIn_app (goodIn_of _ (by decide +kernel)) ggX4_shiftToLeast_X0_note
set_option maxRecDepth 20000 in
theorem ggX4_shiftToLeast_X3_negative : GoodIn wsX4_shiftToLeast wsX3_negative := goodIn_r _ [101, 15, 25, 102, 20, 16, 18, 19, 103, 104, 105, 13, 106, 107, 21, 108, 109, 110, 111, 22, 23, 24, 26, 27, 28, 29, 30, 31, 32, 33, 34, 35, 36, 37, 38, 39, 40, 41, 42, 43, 44, 45, 46, 47, 48, 49, 50, 51, 52, 53, 54, 55, 56, 57, 58, 59, 60, 61, 62, 63, 64, 65, 66, 67, 68, 69, 70, 112, 113, 114, 115, 116, 117, 118, 77, 78, 79, 80, 81, 82, 83, 84, 85, 76, 144, 145, 146, 147, 148, 149, 150, 151, 152, 136, 137, 138, 139, 140, 141, 142, 143] rfl (by decide +kernel)
set_option maxRecDepth 20000 in
theorem gX4_shiftToLeast_X3_negative : GoodIn wsX4_shiftToLeast (wsV RX4 121 RX3 yX3_negative wsX3_negative) := goodIn_app (goodIn_of _ (by decide +kernel)) ggX4_shiftToLeast_X3_negative
set_option maxRecDepth 20000 in
theorem ggX4_shiftToLeast_X3_sum : GoodIn wsX4_shiftToLeast wsX3_sum := goodIn_r _ [122, 15, 25, 102, 123, 20, 41, 42, 43, 44, 16, 18, 19, 104, 105, 13, 106, 107, 21, 108, 109, 110, 111, 22, 23, 24, 26, 27, 28, 29, 30, 31, 32, 33, 34, 35, 36, 37, 38, 39, 40, 45, 46, 47, 48, 49, 50, 51, 52, 53, 54, 55, 56, 57, 58, 59, 60, 61, 62, 63, 64, 65, 66, 67, 68, 69, 70, 112, 113, 114, 115, 103, 116, 117, 118, 77, 78, 79, 80, 81, 82, 83, 84, 85, 76, 144, 145, 146, 147, 148, 149, 150, 151, 152, 136, 137, 138, 139, 140, 141, 142, 143] rfl (by decide +kernel)
set_option maxRecDepth 20000 in
theorem gX4_shiftToLeast_X3_sum : GoodIn wsX4_shiftToLeast (wsV RX4 96 RX3 yX3_sum wsX3_sum) := goodIn_app (goodIn_of _ (by decide +kernel)) ggX4_shiftToLeast_X3_sum
set_option maxRecDepth 20000 in
theorem ggX4_shiftToLeast_X4_put : GoodIn wsX4_shiftToLeast wsX4_put := goodIn_r _ [127, 1, 4, 128, 94, 95, 13, 96, 97, 22, 23, 24, 25, 15, 26, 27, 28, 29, 30, 67, 68, 69, 70, 16, 18, 46, 47, 35, 36, 129, 130, 131, 132, 136, 137, 138, 139, 140, 141, 144, 145, 146, 147, 148, 149, 150, 151, 152, 142, 143] rfl (by decide +kernel)
set_option maxRecDepth 20000 in
theorem gX4_shiftToLeast_X4_put : GoodIn wsX4_shiftToLeast (wsV RX4 40 RX4 yX4_put wsX4_put) := goodIn_app (goodIn_of _ (by decide +kernel)) ggX4_shiftToLeast_X4_put
theorem dX4_shiftToLeast_0 : decode cX4_shiftToLeast 0 = .ok (.iconst 0, 1) := by decide +kernel
theorem dX4_shiftToLeast_1 : decode cX4_shiftToLeast 1 = .ok (.istore_n 1, 1) := by decide +kernel
theorem dX4_shiftToLeast_2 : decode cX4_shiftToLeast 2 = .ok (.iload_n 1, 1) := by decide +kernel
theorem dX4_shiftToLeast_3 : decode cX4_shiftToLeast 3 = .ok (.bipush 6, 2) := by decide +kernel
theorem dX4_shiftToLeast_5 : decode cX4_shiftToLeast 5 = .ok (.if_icmp .ge 112, 3) := by decide +kernel
theorem dX4_shiftToLeast_8 : decode cX4_shiftToLeast 8 = .ok (.iconst 2, 1) := by decide +kernel
theorem dX4_shiftToLeast_9 : decode cX4_shiftToLeast 9 = .ok (.iload_n 1, 1) := by decide +kernel
theorem dX4_shiftToLeast_10 : decode cX4_shiftToLeast 10 = .ok (.imul, 1) := by decide +kernel
theorem dX4_shiftToLeast_11 : decode cX4_shiftToLeast 11 = .ok (.iconst 1, 1) := by decide +kernel
theorem dX4_shiftToLeast_12 : decode cX4_shiftToLeast 12 = .ok (.iadd, 1) := by decide +kernel
theorem dX4_shiftToLeast_13 : decode cX4_shiftToLeast 13 = .ok (.iconst 2, 1) := by decide +kernel
theorem dX4_shiftToLeast_14 : decode cX4_shiftToLeast 14 = .ok (.iload_n 1, 1) := by decide +kernel
theorem dX4_shiftToLeast_15 : decode cX4_shiftToLeast 15 = .ok (.imul, 1) := by decide +kernel
theorem dX4_shiftToLeast_16 : decode cX4_shiftToLeast 16 = .ok (.iconst 1, 1) := by decide +kernel
theorem dX4_shiftToLeast_17 : decode cX4_shiftToLeast 17 = .ok (.iadd, 1) := by decide +kernel
theorem dX4_shiftToLeast_18 : decode cX4_shiftToLeast 18 = .ok (.invokestatic 66, 3) := by decide +kernel
theorem dX4_shiftToLeast_21 : decode cX4_shiftToLeast 21 = .ok (.istore_n 2, 1) := by decide +kernel
theorem dX4_shiftToLeast_22 : decode cX4_shiftToLeast 22 = .ok (.aload_n 0, 1) := by decide +kernel
theorem dX4_shiftToLeast_23 : decode cX4_shiftToLeast 23 = .ok (.getfield 22, 3) := by decide +kernel
theorem dX4_shiftToLeast_26 : decode cX4_shiftToLeast 26 = .ok (.iconst 2, 1) := by decide +kernel
theorem dX4_shiftToLeast_27 : decode cX4_shiftToLeast 27 = .ok (.iload_n 1, 1) := by decide +kernel
theorem dX4_shiftToLeast_28 : decode cX4_shiftToLeast 28 = .ok (.imul, 1) := by decide +kernel
theorem dX4_shiftToLeast_29 : decode cX4_shiftToLeast 29 = .ok (.iconst 2, 1) := by decide +kernel
theorem dX4_shiftToLeast_30 : decode cX4_shiftToLeast 30 = .ok (.iload_n 1, 1) := by decide +kernel
theorem dX4_shiftToLeast_31 : decode cX4_shiftToLeast 31 = .ok (.imul, 1) := by decide +kernel
theorem dX4_shiftToLeast_32 : decode cX4_shiftToLeast 32 = .ok (.invokestatic 66, 3) := by decide +kernel
theorem dX4_shiftToLeast_35 : decode cX4_shiftToLeast 35 = .ok (.laload, 1) := by decide +kernel
theorem dX4_shiftToLeast_36 : decode cX4_shiftToLeast 36 = .ok (.ldc2_w 74, 3) := by decide +kernel
theorem dX4_shiftToLeast_39 : decode cX4_shiftToLeast 39 = .ok (.lcmp, 1) := by decide +kernel
theorem dX4_shiftToLeast_40 : decode cX4_shiftToLeast 40 = .ok (.ifCond .eq 16, 3) := by decide +kernel
theorem dX4_shiftToLeast_43 : decode cX4_shiftToLeast 43 = .ok (.aload_n 0, 1) := by decide +kernel
theorem dX4_shiftToLeast_44 : decode cX4_shiftToLeast 44 = .ok (.getfield 22, 3) := by decide +kernel
theorem dX4_shiftToLeast_47 : decode cX4_shiftToLeast 47 = .ok (.iload_n 2, 1) := by decide +kernel
theorem dX4_shiftToLeast_48 : decode cX4_shiftToLeast 48 = .ok (.laload, 1) := by decide +kernel
theorem dX4_shiftToLeast_49 : decode cX4_shiftToLeast 49 = .ok (.ldc2_w 74, 3) := by decide +kernel
theorem dX4_shiftToLeast_52 : decode cX4_shiftToLeast 52 = .ok (.lcmp, 1) := by decide +kernel
theorem dX4_shiftToLeast_53 : decode cX4_shiftToLeast 53 = .ok (.ifCond .ne 5, 3) := by decide +kernel
theorem dX4_shiftToLeast_56 : decode cX4_shiftToLeast 56 = .ok (.iconst 0, 1) := by decide +kernel
theorem dX4_shiftToLeast_57 : decode cX4_shiftToLeast 57 = .ok (.ireturn, 1) := by decide +kernel
theorem dX4_shiftToLeast_58 : decode cX4_shiftToLeast 58 = .ok (.aload_n 0, 1) := by decide +kernel
theorem dX4_shiftToLeast_59 : decode cX4_shiftToLeast 59 = .ok (.getfield 9, 3) := by decide +kernel
theorem dX4_shiftToLeast_62 : decode cX4_shiftToLeast 62 = .ok (.iconst 2, 1) := by decide +kernel
theorem dX4_shiftToLeast_63 : decode cX4_shiftToLeast 63 = .ok (.iload_n 1, 1) := by decide +kernel
theorem dX4_shiftToLeast_64 : decode cX4_shiftToLeast 64 = .ok (.imul, 1) := by decide +kernel
theorem dX4_shiftToLeast_65 : decode cX4_shiftToLeast 65 = .ok (.aload_n 0, 1) := by decide +kernel
theorem dX4_shiftToLeast_66 : decode cX4_shiftToLeast 66 = .ok (.getfield 21, 3) := by decide +kernel
theorem dX4_shiftToLeast_69 : decode cX4_shiftToLeast 69 = .ok (.aload_n 0, 1) := by decide +kernel
theorem dX4_shiftToLeast_70 : decode cX4_shiftToLeast 70 = .ok (.getfield 22, 3) := by decide +kernel
theorem dX4_shiftToLeast_73 : decode cX4_shiftToLeast 73 = .ok (.iload_n 2, 1) := by decide +kernel
theorem dX4_shiftToLeast_74 : decode cX4_shiftToLeast 74 = .ok (.laload, 1) := by decide +kernel
theorem dX4_shiftToLeast_75 : decode cX4_shiftToLeast 75 = .ok (.invokevirtual 118, 3) := by decide +kernel
theorem dX4_shiftToLeast_78 : decode cX4_shiftToLeast 78 = .ok (.invokevirtual 55, 3) := by decide +kernel
theorem dX4_shiftToLeast_81 : decode cX4_shiftToLeast 81 = .ok (.aload_n 0, 1) := by decide +kernel
theorem dX4_shiftToLeast_82 : decode cX4_shiftToLeast 82 = .ok (.getfield 9, 3) := by decide +kernel
theorem dX4_shiftToLeast_85 : decode cX4_shiftToLeast 85 = .ok (.iconst 2, 1) := by decide +kernel
theorem dX4_shiftToLeast_86 : decode cX4_shiftToLeast 86 = .ok (.iload_n 1, 1) := by decide +kernel
theorem dX4_shiftToLeast_87 : decode cX4_shiftToLeast 87 = .ok (.imul, 1) := by decide +kernel
theorem dX4_shiftToLeast_88 : decode cX4_shiftToLeast 88 = .ok (.iconst 1, 1) := by decide +kernel
theorem dX4_shiftToLeast_89 : decode cX4_shiftToLeast 89 = .ok (.iadd, 1) := by decide +kernel
theorem dX4_shiftToLeast_90 : decode cX4_shiftToLeast 90 = .ok (.aload_n 0, 1) := by decide +kernel
theorem dX4_shiftToLeast_91 : decode cX4_shiftToLeast 91 = .ok (.getfield 21, 3) := by decide +kernel
theorem dX4_shiftToLeast_94 : decode cX4_shiftToLeast 94 = .ok (.aload_n 0, 1) := by decide +kernel
theorem dX4_shiftToLeast_95 : decode cX4_shiftToLeast 95 = .ok (.getfield 9, 3) := by decide +kernel
theorem dX4_shiftToLeast_98 : decode cX4_shiftToLeast 98 = .ok (.getfield 76, 3) := by decide +kernel
theorem dX4_shiftToLeast_101 : decode cX4_shiftToLeast 101 = .ok (.iconst 2, 1) := by decide +kernel
theorem dX4_shiftToLeast_102 : decode cX4_shiftToLeast 102 = .ok (.iload_n 1, 1) := by decide +kernel
theorem dX4_shiftToLeast_103 : decode cX4_shiftToLeast 103 = .ok (.imul, 1) := by decide +kernel
theorem dX4_shiftToLeast_104 : decode cX4_shiftToLeast 104 = .ok (.laload, 1) := by decide +kernel
theorem dX4_shiftToLeast_105 : decode cX4_shiftToLeast 105 = .ok (.invokevirtual 121, 3) := by decide +kernel
theorem dX4_shiftToLeast_108 : decode cX4_shiftToLeast 108 = .ok (.invokevirtual 55, 3) := by decide +kernel
theorem dX4_shiftToLeast_111 : decode cX4_shiftToLeast 111 = .ok (.iinc 1 1, 3) := by decide +kernel
theorem dX4_shiftToLeast_114 : decode cX4_shiftToLeast 114 = .ok (.goto (-112), 3) := by decide +kernel
theorem dX4_shiftToLeast_117 : decode cX4_shiftToLeast 117 = .ok (.iconst 0, 1) := by decide +kernel
theorem dX4_shiftToLeast_118 : decode cX4_shiftToLeast 118 = .ok (.istore_n 1, 1) := by decide +kernel
theorem dX4_shiftToLeast_119 : decode cX4_shiftToLeast 119 = .ok (.iload_n 1, 1) := by decide +kernel
theorem dX4_shiftToLeast_120 : decode cX4_shiftToLeast 120 = .ok (.bipush 12, 2) := by decide +kernel
theorem dX4_shiftToLeast_122 : decode cX4_shiftToLeast 122 = .ok (.if_icmp .ge 92, 3) := by decide +kernel
theorem dX4_shiftToLeast_125 : decode cX4_shiftToLeast 125 = .ok (.iconst 0, 1) := by decide +kernel
theorem dX4_shiftToLeast_126 : decode cX4_shiftToLeast 126 = .ok (.istore_n 2, 1) := by decide +kernel
theorem dX4_shiftToLeast_127 : decode cX4_shiftToLeast 127 = .ok (.iload_n 2, 1) := by decide +kernel
theorem dX4_shiftToLeast_128 : decode cX4_shiftToLeast 128 = .ok (.iload_n 1, 1) := by decide +kernel
theorem dX4_shiftToLeast_129 : decode cX4_shiftToLeast 129 = .ok (.if_icmp .gt 79, 3) := by decide +kernel
theorem dX4_shiftToLeast_132 : decode cX4_shiftToLeast 132 = .ok (.aload_n 0, 1) := by decide +kernel
theorem dX4_shiftToLeast_133 : decode cX4_shiftToLeast 133 = .ok (.iload_n 1, 1) := by decide +kernel
theorem dX4_shiftToLeast_134 : decode cX4_shiftToLeast 134 = .ok (.iload_n 2, 1) := by decide +kernel
theorem dX4_shiftToLeast_135 : decode cX4_shiftToLeast 135 = .ok (.invokestatic 66, 3) := by decide +kernel
theorem dX4_shiftToLeast_138 : decode cX4_shiftToLeast 138 = .ok (.aload_n 0, 1) := by decide +kernel
theorem dX4_shiftToLeast_139 : decode cX4_shiftToLeast 139 = .ok (.getfield 21, 3) := by decide +kernel
theorem dX4_shiftToLeast_142 : decode cX4_shiftToLeast 142 = .ok (.aload_n 0, 1) := by decide +kernel
theorem dX4_shiftToLeast_143 : decode cX4_shiftToLeast 143 = .ok (.getfield 22, 3) := by decide +kernel
theorem dX4_shiftToLeast_146 : decode cX4_shiftToLeast 146 = .ok (.iload_n 1, 1) := by decide +kernel
theorem dX4_shiftToLeast_147 : decode cX4_shiftToLeast 147 = .ok (.iload_n 2, 1) := by decide +kernel
theorem dX4_shiftToLeast_148 : decode cX4_shiftToLeast 148 = .ok (.invokestatic 66, 3) := by decide +kernel
theorem dX4_shiftToLeast_151 : decode cX4_shiftToLeast 151 = .ok (.laload, 1) := by decide +kernel
theorem dX4_shiftToLeast_152 : decode cX4_shiftToLeast 152 = .ok (.aload_n 0, 1) := by decide +kernel
theorem dX4_shiftToLeast_153 : decode cX4_shiftToLeast 153 = .ok (.getfield 9, 3) := by decide +kernel
theorem dX4_shiftToLeast_156 : decode cX4_shiftToLeast 156 = .ok (.getfield 76, 3) := by decide +kernel
theorem dX4_shiftToLeast_159 : decode cX4_shiftToLeast 159 = .ok (.iload_n 1, 1) := by decide +kernel
theorem dX4_shiftToLeast_160 : decode cX4_shiftToLeast 160 = .ok (.laload, 1) := by decide +kernel
theorem dX4_shiftToLeast_161 : decode cX4_shiftToLeast 161 = .ok (.invokevirtual 96, 3) := by decide +kernel
theorem dX4_shiftToLeast_164 : decode cX4_shiftToLeast 164 = .ok (.invokevirtual 40, 3) := by decide +kernel
theorem dX4_shiftToLeast_167 : decode cX4_shiftToLeast 167 = .ok (.aload_n 0, 1) := by decide +kernel
theorem dX4_shiftToLeast_168 : decode cX4_shiftToLeast 168 = .ok (.iload_n 1, 1) := by decide +kernel
theorem dX4_shiftToLeast_169 : decode cX4_shiftToLeast 169 = .ok (.iload_n 2, 1) := by decide +kernel
theorem dX4_shiftToLeast_170 : decode cX4_shiftToLeast 170 = .ok (.invokestatic 66, 3) := by decide +kernel
theorem dX4_shiftToLeast_173 : decode cX4_shiftToLeast 173 = .ok (.aload_n 0, 1) := by decide +kernel
theorem dX4_shiftToLeast_174 : decode cX4_shiftToLeast 174 = .ok (.getfield 21, 3) := by decide +kernel
theorem dX4_shiftToLeast_177 : decode cX4_shiftToLeast 177 = .ok (.aload_n 0, 1) := by decide +kernel
theorem dX4_shiftToLeast_178 : decode cX4_shiftToLeast 178 = .ok (.getfield 22, 3) := by decide +kernel
theorem dX4_shiftToLeast_181 : decode cX4_shiftToLeast 181 = .ok (.iload_n 1, 1) := by decide +kernel
theorem dX4_shiftToLeast_182 : decode cX4_shiftToLeast 182 = .ok (.iload_n 2, 1) := by decide +kernel
theorem dX4_shiftToLeast_183 : decode cX4_shiftToLeast 183 = .ok (.invokestatic 66, 3) := by decide +kernel
theorem dX4_shiftToLeast_186 : decode cX4_shiftToLeast 186 = .ok (.laload, 1) := by decide +kernel
theorem dX4_shiftToLeast_187 : decode cX4_shiftToLeast 187 = .ok (.aload_n 0, 1) := by decide +kernel
theorem dX4_shiftToLeast_188 : decode cX4_shiftToLeast 188 = .ok (.getfield 9, 3) := by decide +kernel
theorem dX4_shiftToLeast_191 : decode cX4_shiftToLeast 191 = .ok (.getfield 76, 3) := by decide +kernel
theorem dX4_shiftToLeast_194 : decode cX4_shiftToLeast 194 = .ok (.iload_n 2, 1) := by decide +kernel
theorem dX4_shiftToLeast_195 : decode cX4_shiftToLeast 195 = .ok (.laload, 1) := by decide +kernel
theorem dX4_shiftToLeast_196 : decode cX4_shiftToLeast 196 = .ok (.invokevirtual 96, 3) := by decide +kernel
theorem dX4_shiftToLeast_199 : decode cX4_shiftToLeast 199 = .ok (.invokevirtual 40, 3) := by decide +kernel
theorem dX4_shiftToLeast_202 : decode cX4_shiftToLeast 202 = .ok (.iinc 2 1, 3) := by decide +kernel
theorem dX4_shiftToLeast_205 : decode cX4_shiftToLeast 205 = .ok (.goto (-78), 3) := by decide +kernel
theorem dX4_shiftToLeast_208 : decode cX4_shiftToLeast 208 = .ok (.iinc 1 1, 3) := by decide +kernel
theorem dX4_shiftToLeast_211 : decode cX4_shiftToLeast 211 = .ok (.goto (-92), 3) := by decide +kernel
theorem dX4_shiftToLeast_214 : decode cX4_shiftToLeast 214 = .ok (.iconst 1, 1) := by decide +kernel
theorem dX4_shiftToLeast_215 : decode cX4_shiftToLeast 215 = .ok (.ireturn, 1) := by decide +kernel
set_option maxRecDepth 20000 in
theorem ggX4_passThrough_X4_cell : GoodIn wsX4_passThrough wsX4_cell := goodIn_r _ [10] rfl (by decide +kernel)
set_option maxRecDepth 20000 in
theorem gX4_passThrough_X4_cell : GoodIn wsX4_passThrough (va_wsS RX4 66 yX4_cell wsX4_cell) := goodIn_app (goodIn_of _ (by decide +kernel)) ggX4_passThrough_X4_cell
set_option maxRecDepth 20000 in
theorem ggX4_passThrough_X6_negation : GoodIn wsX4_passThrough wsX6_negation := goodIn_r _ [13] rfl (by decide +kernel)
set_option maxRecDepth 20000 in
theorem gX4_passThrough_X6_negation_n70 : GoodIn wsX4_passThrough (wsX6_negation) := ggX4_passThrough_X6_negation
set_option maxRecDepth 20000 in
theorem ggX4_passThrough_X3_isSumLess : GoodIn wsX4_passThrough wsX3_isSumLess := goodIn_r _ [18, 19, 20, 21, 22, 23, 24, 25, 26, 27, 28, 29, 30, 31, 32, 33, 17, 34, 35, 36, 37, 38, 39, 40, 41, 42, 43, 44, 45, 46, 47, 48, 49, 133, 134, 135, 136, 137, 138, 139, 140, 141, 142, 143, 144, 145, 146, 147, 148, 149] rfl (by decide +kernel)
set_option maxRecDepth 20000 in
theorem gX4_passThrough_X3_isSumLess : GoodIn wsX4_passThrough (wsV RX4 124 RX3 yX3_isSumLess wsX3_isSumLess) := goodIn_app (goodIn_of _ (by decide +kernel)) ggX4_passThrough_X3_isSumLess
set_option maxRecDepth 20000 in
theorem ggX4_passThrough_X3_sum : GoodIn wsX4_passThrough wsX3_sum := goodIn_r _ [53, 19, 20, 21, 22, 54, 25, 26, 27, 28, 24, 35, 36, 55, 56, 17, 57, 58, 59, 31, 32, 33, 34, 37, 38, 39, 40, 41, 42, 43, 44, 60, 61, 62, 63, 64, 65, 66, 67, 68, 69, 70, 71, 72, 73, 74, 75, 76, 77, 78, 79, 80, 81, 82, 83, 84, 85, 86, 87, 88, 89, 90, 91, 92, 93, 94, 95, 45, 46, 47, 48, 49, 96, 97, 98, 99, 100, 101, 102, 103, 104, 105, 106, 107, 108, 133, 134, 135, 136, 137, 138, 139, 140, 141, 142, 143, 144, 145, 146, 147, 148, 149] rfl (by decide +kernel)
set_option maxRecDepth 20000 in
theorem gX4_passThrough_X3_sum : GoodIn wsX4_passThrough (wsV RX4 96 RX3 yX3_sum wsX3_sum) := goodIn_app (goodIn_of _ (by decide +kernel)) ggX4_passThrough_X3_sum
set_option maxRecDepth 20000 in
theorem ggX4_passThrough_X0_note : GoodIn wsX4_passThrough wsX0_note := goodIn_r _ [113, 114, 115, 116, 117, 118, 17, 119, 120, 37, 38, 39, 20, 19, 40, 41, 42, 43, 44, 92, 93, 94, 95, 24, 35, 71, 72, 64, 65, 130, 131, 132, 142, 143, 144, 145, 146, 147, 133, 134, 135, 136, 137, 138, 139, 140, 141, 148, 149] rfl (by decide +kernel)
set_option maxRecDepth 20000 in
theorem gX4_passThrough_X0_note : GoodIn wsX4_passThrough (wsV RX4 55 RX0 yX0_note wsX0_note) := goodIn_app (goodIn_of _ (by decide +kernel)) ggX4_passThrough_X0_note
set_option maxRecDepth 20000 in
theorem ggX4_passThrough_X4_put : GoodIn wsX4_passThrough wsX4_put := goodIn_r _ [124, 3, 2, 125, 117, 118, 17, 119, 120, 37, 38, 39, 20, 19, 40, 41, 42, 43, 44, 92, 93, 94, 95, 24, 35, 71, 72, 64, 65, 126, 127, 128, 129, 142, 143, 144, 145, 146, 147, 133, 134, 135, 136, 137, 138, 139, 140, 141, 148, 149] rfl (by decide +kernel)
set_option maxRecDepth 20000 in
theorem gX4_passThrough_X4_put : GoodIn wsX4_passThrough (wsV RX4 40 RX4 yX4_put wsX4_put) := goodIn_app (goodIn_of _ (by decide +kernel)) ggX4_passThrough_X4_put
theorem dX4_passThrough_0 : decode cX4_passThrough 0 = .ok (.aload_n 0, 1) := by decide +kernel
theorem dX4_passThrough_1 : decode cX4_passThrough 1 = .ok (.getfield 26, 3) := by decide +kernel
theorem dX4_passThrough_4 : decode cX4_passThrough 4 = .ok (.ifCond .ne 40, 3) := by decide +kernel
theorem dX4_passThrough_7 : decode cX4_passThrough 7 = .ok (.aload_n 0, 1) := by decide +kernel
theorem dX4_passThrough_8 : decode cX4_passThrough 8 = .ok (.getfield 21, 3) := by decide +kernel
theorem dX4_passThrough_11 : decode cX4_passThrough 11 = .ok (.aload_n 0, 1) := by decide +kernel
theorem dX4_passThrough_12 : decode cX4_passThrough 12 = .ok (.getfield 22, 3) := by decide +kernel
theorem dX4_passThrough_15 : decode cX4_passThrough 15 = .ok (.iload_n 1, 1) := by decide +kernel
theorem dX4_passThrough_16 : decode cX4_passThrough 16 = .ok (.iload_n 2, 1) := by decide +kernel
theorem dX4_passThrough_17 : decode cX4_passThrough 17 = .ok (.invokestatic 66, 3) := by decide +kernel
theorem dX4_passThrough_20 : decode cX4_passThrough 20 = .ok (.laload, 1) := by decide +kernel
theorem dX4_passThrough_21 : decode cX4_passThrough 21 = .ok (.aload_n 0, 1) := by decide +kernel
theorem dX4_passThrough_22 : decode cX4_passThrough 22 = .ok (.getfield 22, 3) := by decide +kernel
theorem dX4_passThrough_25 : decode cX4_passThrough 25 = .ok (.iload_n 2, 1) := by decide +kernel
theorem dX4_passThrough_26 : decode cX4_passThrough 26 = .ok (.invokestatic 70, 3) := by decide +kernel
theorem dX4_passThrough_29 : decode cX4_passThrough 29 = .ok (.iload_n 1, 1) := by decide +kernel
theorem dX4_passThrough_30 : decode cX4_passThrough 30 = .ok (.invokestatic 70, 3) := by decide +kernel
theorem dX4_passThrough_33 : decode cX4_passThrough 33 = .ok (.invokestatic 66, 3) := by decide +kernel
theorem dX4_passThrough_36 : decode cX4_passThrough 36 = .ok (.laload, 1) := by decide +kernel
theorem dX4_passThrough_37 : decode cX4_passThrough 37 = .ok (.lconst 0, 1) := by decide +kernel
theorem dX4_passThrough_38 : decode cX4_passThrough 38 = .ok (.invokevirtual 124, 3) := by decide +kernel
theorem dX4_passThrough_41 : decode cX4_passThrough 41 = .ok (.ifCond .eq 9, 3) := by decide +kernel
theorem dX4_passThrough_44 : decode cX4_passThrough 44 = .ok (.aload_n 0, 1) := by decide +kernel
theorem dX4_passThrough_45 : decode cX4_passThrough 45 = .ok (.iconst 1, 1) := by decide +kernel
theorem dX4_passThrough_46 : decode cX4_passThrough 46 = .ok (.putfield 26, 3) := by decide +kernel
theorem dX4_passThrough_49 : decode cX4_passThrough 49 = .ok (.return_, 1) := by decide +kernel
theorem dX4_passThrough_50 : decode cX4_passThrough 50 = .ok (.iconst 0, 1) := by decide +kernel
theorem dX4_passThrough_51 : decode cX4_passThrough 51 = .ok (.istore_n 3, 1) := by decide +kernel
theorem dX4_passThrough_52 : decode cX4_passThrough 52 = .ok (.iload_n 3, 1) := by decide +kernel
theorem dX4_passThrough_53 : decode cX4_passThrough 53 = .ok (.bipush 12, 2) := by decide +kernel
theorem dX4_passThrough_55 : decode cX4_passThrough 55 = .ok (.if_icmp .ge 147, 3) := by decide +kernel
theorem dX4_passThrough_58 : decode cX4_passThrough 58 = .ok (.aload_n 0, 1) := by decide +kernel
theorem dX4_passThrough_59 : decode cX4_passThrough 59 = .ok (.getfield 9, 3) := by decide +kernel
theorem dX4_passThrough_62 : decode cX4_passThrough 62 = .ok (.bipush 12, 2) := by decide +kernel
theorem dX4_passThrough_64 : decode cX4_passThrough 64 = .ok (.aload_n 0, 1) := by decide +kernel
theorem dX4_passThrough_65 : decode cX4_passThrough 65 = .ok (.getfield 21, 3) := by decide +kernel
theorem dX4_passThrough_68 : decode cX4_passThrough 68 = .ok (.aload_n 0, 1) := by decide +kernel
theorem dX4_passThrough_69 : decode cX4_passThrough 69 = .ok (.getfield 22, 3) := by decide +kernel
theorem dX4_passThrough_72 : decode cX4_passThrough 72 = .ok (.iload_n 3, 1) := by decide +kernel
theorem dX4_passThrough_73 : decode cX4_passThrough 73 = .ok (.iload_n 1, 1) := by decide +kernel
theorem dX4_passThrough_74 : decode cX4_passThrough 74 = .ok (.invokestatic 70, 3) := by decide +kernel
theorem dX4_passThrough_77 : decode cX4_passThrough 77 = .ok (.invokestatic 66, 3) := by decide +kernel
theorem dX4_passThrough_80 : decode cX4_passThrough 80 = .ok (.laload, 1) := by decide +kernel
theorem dX4_passThrough_81 : decode cX4_passThrough 81 = .ok (.aload_n 0, 1) := by decide +kernel
theorem dX4_passThrough_82 : decode cX4_passThrough 82 = .ok (.getfield 22, 3) := by decide +kernel
theorem dX4_passThrough_85 : decode cX4_passThrough 85 = .ok (.iload_n 1, 1) := by decide +kernel
theorem dX4_passThrough_86 : decode cX4_passThrough 86 = .ok (.iload_n 2, 1) := by decide +kernel
theorem dX4_passThrough_87 : decode cX4_passThrough 87 = .ok (.invokestatic 66, 3) := by decide +kernel
theorem dX4_passThrough_90 : decode cX4_passThrough 90 = .ok (.laload, 1) := by decide +kernel
theorem dX4_passThrough_91 : decode cX4_passThrough 91 = .ok (.invokevirtual 96, 3) := by decide +kernel
theorem dX4_passThrough_94 : decode cX4_passThrough 94 = .ok (.invokevirtual 55, 3) := by decide +kernel
theorem dX4_passThrough_97 : decode cX4_passThrough 97 = .ok (.aload_n 0, 1) := by decide +kernel
theorem dX4_passThrough_98 : decode cX4_passThrough 98 = .ok (.getfield 9, 3) := by decide +kernel
theorem dX4_passThrough_101 : decode cX4_passThrough 101 = .ok (.getfield 76, 3) := by decide +kernel
theorem dX4_passThrough_104 : decode cX4_passThrough 104 = .ok (.bipush 12, 2) := by decide +kernel
theorem dX4_passThrough_106 : decode cX4_passThrough 106 = .ok (.laload, 1) := by decide +kernel
theorem dX4_passThrough_107 : decode cX4_passThrough 107 = .ok (.lstore 4, 2) := by decide +kernel
theorem dX4_passThrough_109 : decode cX4_passThrough 109 = .ok (.iconst 0, 1) := by decide +kernel
theorem dX4_passThrough_110 : decode cX4_passThrough 110 = .ok (.istore 6, 2) := by decide +kernel
theorem dX4_passThrough_112 : decode cX4_passThrough 112 = .ok (.iload 6, 2) := by decide +kernel
theorem dX4_passThrough_114 : decode cX4_passThrough 114 = .ok (.bipush 12, 2) := by decide +kernel
theorem dX4_passThrough_116 : decode cX4_passThrough 116 = .ok (.if_icmp .ge 80, 3) := by decide +kernel
theorem dX4_passThrough_119 : decode cX4_passThrough 119 = .ok (.lload 4, 2) := by decide +kernel
theorem dX4_passThrough_121 : decode cX4_passThrough 121 = .ok (.ldc2_w 74, 3) := by decide +kernel
theorem dX4_passThrough_124 : decode cX4_passThrough 124 = .ok (.lcmp, 1) := by decide +kernel
theorem dX4_passThrough_125 : decode cX4_passThrough 125 = .ok (.ifCond .eq 71, 3) := by decide +kernel
theorem dX4_passThrough_128 : decode cX4_passThrough 128 = .ok (.aload_n 0, 1) := by decide +kernel
theorem dX4_passThrough_129 : decode cX4_passThrough 129 = .ok (.getfield 22, 3) := by decide +kernel
theorem dX4_passThrough_132 : decode cX4_passThrough 132 = .ok (.iload_n 2, 1) := by decide +kernel
theorem dX4_passThrough_133 : decode cX4_passThrough 133 = .ok (.invokestatic 70, 3) := by decide +kernel
theorem dX4_passThrough_136 : decode cX4_passThrough 136 = .ok (.iload 6, 2) := by decide +kernel
theorem dX4_passThrough_138 : decode cX4_passThrough 138 = .ok (.invokestatic 66, 3) := by decide +kernel
theorem dX4_passThrough_141 : decode cX4_passThrough 141 = .ok (.laload, 1) := by decide +kernel
theorem dX4_passThrough_142 : decode cX4_passThrough 142 = .ok (.lstore 7, 2) := by decide +kernel
theorem dX4_passThrough_144 : decode cX4_passThrough 144 = .ok (.aload_n 0, 1) := by decide +kernel
theorem dX4_passThrough_145 : decode cX4_passThrough 145 = .ok (.getfield 21, 3) := by decide +kernel
theorem dX4_passThrough_148 : decode cX4_passThrough 148 = .ok (.lload 4, 2) := by decide +kernel
theorem dX4_passThrough_150 : decode cX4_passThrough 150 = .ok (.lload 7, 2) := by decide +kernel
theorem dX4_passThrough_152 : decode cX4_passThrough 152 = .ok (.aload_n 0, 1) := by decide +kernel
theorem dX4_passThrough_153 : decode cX4_passThrough 153 = .ok (.getfield 22, 3) := by decide +kernel
theorem dX4_passThrough_156 : decode cX4_passThrough 156 = .ok (.iload_n 3, 1) := by decide +kernel
theorem dX4_passThrough_157 : decode cX4_passThrough 157 = .ok (.iload 6, 2) := by decide +kernel
theorem dX4_passThrough_159 : decode cX4_passThrough 159 = .ok (.invokestatic 66, 3) := by decide +kernel
theorem dX4_passThrough_162 : decode cX4_passThrough 162 = .ok (.laload, 1) := by decide +kernel
theorem dX4_passThrough_163 : decode cX4_passThrough 163 = .ok (.invokevirtual 124, 3) := by decide +kernel
theorem dX4_passThrough_166 : decode cX4_passThrough 166 = .ok (.ifCond .eq 24, 3) := by decide +kernel
theorem dX4_passThrough_169 : decode cX4_passThrough 169 = .ok (.aload_n 0, 1) := by decide +kernel
theorem dX4_passThrough_170 : decode cX4_passThrough 170 = .ok (.iload_n 3, 1) := by decide +kernel
theorem dX4_passThrough_171 : decode cX4_passThrough 171 = .ok (.iload 6, 2) := by decide +kernel
theorem dX4_passThrough_173 : decode cX4_passThrough 173 = .ok (.invokestatic 66, 3) := by decide +kernel
theorem dX4_passThrough_176 : decode cX4_passThrough 176 = .ok (.aload_n 0, 1) := by decide +kernel
theorem dX4_passThrough_177 : decode cX4_passThrough 177 = .ok (.getfield 21, 3) := by decide +kernel
theorem dX4_passThrough_180 : decode cX4_passThrough 180 = .ok (.lload 4, 2) := by decide +kernel
theorem dX4_passThrough_182 : decode cX4_passThrough 182 = .ok (.lload 7, 2) := by decide +kernel
theorem dX4_passThrough_184 : decode cX4_passThrough 184 = .ok (.invokevirtual 96, 3) := by decide +kernel
theorem dX4_passThrough_187 : decode cX4_passThrough 187 = .ok (.invokevirtual 40, 3) := by decide +kernel
theorem dX4_passThrough_190 : decode cX4_passThrough 190 = .ok (.iinc 6 1, 3) := by decide +kernel
theorem dX4_passThrough_193 : decode cX4_passThrough 193 = .ok (.goto (-81), 3) := by decide +kernel
theorem dX4_passThrough_196 : decode cX4_passThrough 196 = .ok (.iinc 3 1, 3) := by decide +kernel
theorem dX4_passThrough_199 : decode cX4_passThrough 199 = .ok (.goto (-147), 3) := by decide +kernel
theorem dX4_passThrough_202 : decode cX4_passThrough 202 = .ok (.return_, 1) := by decide +kernel
set_option maxRecDepth 20000 in
theorem ggX4_close_X4_cell : GoodIn wsX4_close wsX4_cell := goodIn_r _ [10] rfl (by decide +kernel)
set_option maxRecDepth 20000 in
theorem gX4_close_X4_cell : GoodIn wsX4_close (va_wsS RX4 66 yX4_cell wsX4_cell) := goodIn_app (goodIn_of _ (by decide +kernel)) ggX4_close_X4_cell
set_option maxRecDepth 20000 in
theorem ggX4_close_X6_negation : GoodIn wsX4_close wsX6_negation := goodIn_r _ [13] rfl (by decide +kernel)
set_option maxRecDepth 20000 in
theorem gX4_close_X6_negation_n70 : GoodIn wsX4_close (wsX6_negation) := ggX4_close_X6_negation
set_option maxRecDepth 20000 in
theorem ggX4_close_X3_isSumLess : GoodIn wsX4_close wsX3_isSumLess := goodIn_r _ [18, 19, 20, 21, 22, 23, 24, 25, 26, 27, 28, 29, 30, 31, 32, 33, 17, 34, 35, 36, 37, 38, 39, 40, 41, 42, 43, 44, 45, 46, 47, 48, 49, 156, 157, 158, 159, 160, 161, 162, 163, 164, 165, 166, 167, 168, 169, 170, 171, 172] rfl (by decide +kernel)
set_option maxRecDepth 20000 in
theorem gX4_close_X3_isSumLess : GoodIn wsX4_close (wsV RX4 124 RX3 yX3_isSumLess wsX3_isSumLess) := goodIn_app (goodIn_of _ (by decide +kernel)) ggX4_close_X3_isSumLess
set_option maxRecDepth 20000 in
theorem ggX4_close_X3_sum : GoodIn wsX4_close wsX3_sum := goodIn_r _ [53, 19, 20, 21, 22, 54, 25, 26, 27, 28, 24, 35, 36, 55, 56, 17, 57, 58, 59, 31, 32, 33, 34, 37, 38, 39, 40, 41, 42, 43, 44, 60, 61, 62, 63, 64, 65, 66, 67, 68, 69, 70, 71, 72, 73, 74, 75, 76, 77, 78, 79, 80, 81, 82, 83, 84, 85, 86, 87, 88, 89, 90, 91, 92, 93, 94, 95, 45, 46, 47, 48, 49, 96, 97, 98, 99, 100, 101, 102, 103, 104, 105, 106, 107, 108, 156, 157, 158, 159, 160, 161, 162, 163, 164, 165, 166, 167, 168, 169, 170, 171, 172] rfl (by decide +kernel)
set_option maxRecDepth 20000 in
theorem gX4_close_X3_sum : GoodIn wsX4_close (wsV RX4 96 RX3 yX3_sum wsX3_sum) := goodIn_app (goodIn_of _ (by decide +kernel)) ggX4_close_X3_sum
set_option maxRecDepth 20000 in
theorem ggX4_close_X4_put : GoodIn wsX4_close wsX4_put := goodIn_r _ [112, 2, 6, 113, 114, 115, 17, 116, 117, 37, 38, 39, 20, 19, 40, 41, 42, 43, 44, 92, 93, 94, 95, 24, 35, 71, 72, 64, 65, 149, 150, 151, 152, 165, 166, 167, 168, 169, 170, 156, 157, 158, 159, 160, 161, 162, 163, 164, 171, 172] rfl (by decide +kernel)
set_option maxRecDepth 20000 in
theorem gX4_close_X4_put : GoodIn wsX4_close (wsV RX4 40 RX4 yX4_put wsX4_put) := goodIn_app (goodIn_of _ (by decide +kernel)) ggX4_close_X4_put
set_option maxRecDepth 20000 in
theorem ggX4_close_X4_findContradiction : GoodIn wsX4_close wsX4_findContradiction := goodIn_r _ [121, 6, 2, 1, 11, 12, 13, 7, 8, 9, 10, 122, 123, 124, 17, 125, 37, 38, 39, 20, 19, 40, 41, 42, 43, 44, 126, 127, 128, 69, 129, 85, 130, 108, 149, 150, 151, 152, 156, 157, 158, 159, 160, 161, 162, 163, 164, 165, 166, 167, 168, 169, 170, 171, 172] rfl (by decide +kernel)
set_option maxRecDepth 20000 in
theorem gX4_close_X4_findContradiction : GoodIn wsX4_close (wsV RX4 128 RX4 yX4_findContradiction wsX4_findContradiction) := goodIn_app (goodIn_of _ (by decide +kernel)) ggX4_close_X4_findContradiction
set_option maxRecDepth 20000 in
theorem ggX4_close_X4_combineSingles : GoodIn wsX4_close wsX4_combineSingles := goodIn_r _ [134, 1, 4, 6, 2, 135, 3, 7, 8, 9, 10, 136, 137, 138, 17, 139, 19, 24, 140, 35, 36, 54, 59, 37, 38, 39, 20, 40, 41, 42, 43, 44, 60, 61, 62, 63, 64, 65, 66, 67, 68, 69, 25, 26, 27, 28, 70, 71, 72, 73, 74, 75, 76, 77, 78, 79, 80, 81, 82, 83, 84, 85, 86, 87, 88, 89, 90, 91, 92, 93, 94, 95, 126, 127, 128, 129, 130, 108, 99, 100, 101, 102, 103, 104, 105, 106, 107, 141, 142, 143, 144, 145, 146, 147, 148, 114, 115, 116, 117, 14, 15, 16, 18, 21, 22, 23, 29, 30, 31, 32, 33, 34, 45, 46, 47, 48, 49, 50, 51, 52, 53, 55, 56, 57, 58, 96, 97, 98, 109, 110, 111, 112, 113, 118, 119, 120, 121, 11, 12, 13, 122, 123, 124, 125, 149, 150, 151, 152, 153, 154, 155, 165, 166, 167, 168, 169, 170, 171, 172, 156, 157, 158, 159, 160, 161, 162, 163, 164] rfl (by decide +kernel)
set_option maxRecDepth 20000 in
theorem gX4_close_X4_combineSingles : GoodIn wsX4_close (wsV RX4 86 RX4 yX4_combineSingles wsX4_combineSingles) := goodIn_app (goodIn_of _ (by decide +kernel)) ggX4_close_X4_combineSingles
theorem dX4_close_0 : decode cX4_close 0 = .ok (.iconst 0, 1) := by decide +kernel
theorem dX4_close_1 : decode cX4_close 1 = .ok (.istore_n 1, 1) := by decide +kernel
theorem dX4_close_2 : decode cX4_close 2 = .ok (.iload_n 1, 1) := by decide +kernel
theorem dX4_close_3 : decode cX4_close 3 = .ok (.bipush 12, 2) := by decide +kernel
theorem dX4_close_5 : decode cX4_close 5 = .ok (.if_icmp .ge 150, 3) := by decide +kernel
theorem dX4_close_8 : decode cX4_close 8 = .ok (.aload_n 0, 1) := by decide +kernel
theorem dX4_close_9 : decode cX4_close 9 = .ok (.getfield 26, 3) := by decide +kernel
theorem dX4_close_12 : decode cX4_close 12 = .ok (.ifCond .ne 143, 3) := by decide +kernel
theorem dX4_close_15 : decode cX4_close 15 = .ok (.iconst 0, 1) := by decide +kernel
theorem dX4_close_16 : decode cX4_close 16 = .ok (.istore_n 2, 1) := by decide +kernel
theorem dX4_close_17 : decode cX4_close 17 = .ok (.iload_n 2, 1) := by decide +kernel
theorem dX4_close_18 : decode cX4_close 18 = .ok (.bipush 12, 2) := by decide +kernel
theorem dX4_close_20 : decode cX4_close 20 = .ok (.if_icmp .ge 125, 3) := by decide +kernel
theorem dX4_close_23 : decode cX4_close 23 = .ok (.iconst 0, 1) := by decide +kernel
theorem dX4_close_24 : decode cX4_close 24 = .ok (.istore_n 3, 1) := by decide +kernel
theorem dX4_close_25 : decode cX4_close 25 = .ok (.iload_n 3, 1) := by decide +kernel
theorem dX4_close_26 : decode cX4_close 26 = .ok (.bipush 12, 2) := by decide +kernel
theorem dX4_close_28 : decode cX4_close 28 = .ok (.if_icmp .ge 111, 3) := by decide +kernel
theorem dX4_close_31 : decode cX4_close 31 = .ok (.aload_n 0, 1) := by decide +kernel
theorem dX4_close_32 : decode cX4_close 32 = .ok (.getfield 22, 3) := by decide +kernel
theorem dX4_close_35 : decode cX4_close 35 = .ok (.iload_n 2, 1) := by decide +kernel
theorem dX4_close_36 : decode cX4_close 36 = .ok (.iload_n 1, 1) := by decide +kernel
theorem dX4_close_37 : decode cX4_close 37 = .ok (.invokestatic 66, 3) := by decide +kernel
theorem dX4_close_40 : decode cX4_close 40 = .ok (.laload, 1) := by decide +kernel
theorem dX4_close_41 : decode cX4_close 41 = .ok (.ldc2_w 74, 3) := by decide +kernel
theorem dX4_close_44 : decode cX4_close 44 = .ok (.lcmp, 1) := by decide +kernel
theorem dX4_close_45 : decode cX4_close 45 = .ok (.ifCond .eq 94, 3) := by decide +kernel
theorem dX4_close_48 : decode cX4_close 48 = .ok (.iload_n 2, 1) := by decide +kernel
theorem dX4_close_49 : decode cX4_close 49 = .ok (.iload_n 3, 1) := by decide +kernel
theorem dX4_close_50 : decode cX4_close 50 = .ok (.invokestatic 66, 3) := by decide +kernel
theorem dX4_close_53 : decode cX4_close 53 = .ok (.istore 4, 2) := by decide +kernel
theorem dX4_close_55 : decode cX4_close 55 = .ok (.aload_n 0, 1) := by decide +kernel
theorem dX4_close_56 : decode cX4_close 56 = .ok (.getfield 22, 3) := by decide +kernel
theorem dX4_close_59 : decode cX4_close 59 = .ok (.iload_n 2, 1) := by decide +kernel
theorem dX4_close_60 : decode cX4_close 60 = .ok (.iload_n 1, 1) := by decide +kernel
theorem dX4_close_61 : decode cX4_close 61 = .ok (.invokestatic 66, 3) := by decide +kernel
theorem dX4_close_64 : decode cX4_close 64 = .ok (.laload, 1) := by decide +kernel
theorem dX4_close_65 : decode cX4_close 65 = .ok (.lstore 5, 2) := by decide +kernel
theorem dX4_close_67 : decode cX4_close 67 = .ok (.aload_n 0, 1) := by decide +kernel
theorem dX4_close_68 : decode cX4_close 68 = .ok (.getfield 22, 3) := by decide +kernel
theorem dX4_close_71 : decode cX4_close 71 = .ok (.iload_n 1, 1) := by decide +kernel
theorem dX4_close_72 : decode cX4_close 72 = .ok (.invokestatic 70, 3) := by decide +kernel
theorem dX4_close_75 : decode cX4_close 75 = .ok (.iload_n 3, 1) := by decide +kernel
theorem dX4_close_76 : decode cX4_close 76 = .ok (.invokestatic 66, 3) := by decide +kernel
theorem dX4_close_79 : decode cX4_close 79 = .ok (.laload, 1) := by decide +kernel
theorem dX4_close_80 : decode cX4_close 80 = .ok (.lstore 7, 2) := by decide +kernel
theorem dX4_close_82 : decode cX4_close 82 = .ok (.aload_n 0, 1) := by decide +kernel
theorem dX4_close_83 : decode cX4_close 83 = .ok (.getfield 9, 3) := by decide +kernel
theorem dX4_close_86 : decode cX4_close 86 = .ok (.getfield 103, 3) := by decide +kernel
theorem dX4_close_89 : decode cX4_close 89 = .ok (.iload 4, 2) := by decide +kernel
theorem dX4_close_91 : decode cX4_close 91 = .ok (.baload, 1) := by decide +kernel
theorem dX4_close_92 : decode cX4_close 92 = .ok (.ifCond .eq 41, 3) := by decide +kernel
theorem dX4_close_95 : decode cX4_close 95 = .ok (.aload_n 0, 1) := by decide +kernel
theorem dX4_close_96 : decode cX4_close 96 = .ok (.getfield 21, 3) := by decide +kernel
theorem dX4_close_99 : decode cX4_close 99 = .ok (.lload 5, 2) := by decide +kernel
theorem dX4_close_101 : decode cX4_close 101 = .ok (.lload 7, 2) := by decide +kernel
theorem dX4_close_103 : decode cX4_close 103 = .ok (.aload_n 0, 1) := by decide +kernel
theorem dX4_close_104 : decode cX4_close 104 = .ok (.getfield 22, 3) := by decide +kernel
theorem dX4_close_107 : decode cX4_close 107 = .ok (.iload 4, 2) := by decide +kernel
theorem dX4_close_109 : decode cX4_close 109 = .ok (.laload, 1) := by decide +kernel
theorem dX4_close_110 : decode cX4_close 110 = .ok (.invokevirtual 124, 3) := by decide +kernel
theorem dX4_close_113 : decode cX4_close 113 = .ok (.ifCond .eq 20, 3) := by decide +kernel
theorem dX4_close_116 : decode cX4_close 116 = .ok (.aload_n 0, 1) := by decide +kernel
theorem dX4_close_117 : decode cX4_close 117 = .ok (.iload 4, 2) := by decide +kernel
theorem dX4_close_119 : decode cX4_close 119 = .ok (.aload_n 0, 1) := by decide +kernel
theorem dX4_close_120 : decode cX4_close 120 = .ok (.getfield 21, 3) := by decide +kernel
theorem dX4_close_123 : decode cX4_close 123 = .ok (.lload 5, 2) := by decide +kernel
theorem dX4_close_125 : decode cX4_close 125 = .ok (.lload 7, 2) := by decide +kernel
theorem dX4_close_127 : decode cX4_close 127 = .ok (.invokevirtual 96, 3) := by decide +kernel
theorem dX4_close_130 : decode cX4_close 130 = .ok (.invokevirtual 40, 3) := by decide +kernel
theorem dX4_close_133 : decode cX4_close 133 = .ok (.iinc 3 1, 3) := by decide +kernel
theorem dX4_close_136 : decode cX4_close 136 = .ok (.goto (-111), 3) := by decide +kernel
theorem dX4_close_139 : decode cX4_close 139 = .ok (.iinc 2 1, 3) := by decide +kernel
theorem dX4_close_142 : decode cX4_close 142 = .ok (.goto (-125), 3) := by decide +kernel
theorem dX4_close_145 : decode cX4_close 145 = .ok (.aload_n 0, 1) := by decide +kernel
theorem dX4_close_146 : decode cX4_close 146 = .ok (.invokevirtual 128, 3) := by decide +kernel
theorem dX4_close_149 : decode cX4_close 149 = .ok (.iinc 1 1, 3) := by decide +kernel
theorem dX4_close_152 : decode cX4_close 152 = .ok (.goto (-150), 3) := by decide +kernel
theorem dX4_close_155 : decode cX4_close 155 = .ok (.aload_n 0, 1) := by decide +kernel
theorem dX4_close_156 : decode cX4_close 156 = .ok (.invokevirtual 86, 3) := by decide +kernel
theorem dX4_close_159 : decode cX4_close 159 = .ok (.return_, 1) := by decide +kernel
set_option maxRecDepth 20000 in
theorem ggX4_combineSingles_X4_cell : GoodIn wsX4_combineSingles wsX4_cell := goodIn_r _ [10] rfl (by decide +kernel)
set_option maxRecDepth 20000 in
theorem gX4_combineSingles_X4_cell : GoodIn wsX4_combineSingles (va_wsS RX4 66 yX4_cell wsX4_cell) := goodIn_app (goodIn_of _ (by decide +kernel)) ggX4_combineSingles_X4_cell
set_option maxRecDepth 20000 in
theorem ggX4_combineSingles_X3_half : GoodIn wsX4_combineSingles wsX3_half := goodIn_r _ [15, 16, 17, 18, 19, 20, 21, 22, 23, 24, 14, 25, 26, 27, 28, 29, 30, 31, 32, 33, 34, 35, 36, 37, 38, 39, 40, 41, 42, 43, 44, 45, 46, 47, 48, 49, 50, 51, 52, 53, 54, 55, 56, 57, 58, 59, 60, 61, 62, 63, 64, 65, 66, 67, 68, 69, 70, 71, 72, 73, 74, 75, 76, 77, 78, 79, 80, 81, 82, 83, 84, 85, 86, 151, 152, 153, 154, 155, 156, 157, 158, 159, 160, 161, 162, 163, 164, 165, 166, 167] rfl (by decide +kernel)
set_option maxRecDepth 20000 in
theorem gX4_combineSingles_X3_half : GoodIn wsX4_combineSingles (wsV RX4 118 RX3 yX3_half wsX3_half) := goodIn_app (goodIn_of _ (by decide +kernel)) ggX4_combineSingles_X3_half
set_option maxRecDepth 20000 in
theorem ggX4_combineSingles_X0_note : GoodIn wsX4_combineSingles wsX0_note := goodIn_r _ [91, 92, 93, 94, 95, 96, 14, 97, 98, 23, 24, 25, 26, 16, 27, 28, 29, 30, 31, 68, 69, 70, 71, 17, 19, 47, 48, 36, 37, 148, 149, 150, 151, 152, 153, 154, 155, 156, 159, 160, 161, 162, 163, 164, 165, 166, 167, 157, 158] rfl (by decide +kernel)
set_option maxRecDepth 20000 in
theorem gX4_combineSingles_X0_note : GoodIn wsX4_combineSingles (wsV RX4 55 RX0 yX0_note wsX0_note) := goodIn_app (goodIn_of _ (by decide +kernel)) ggX4_combineSingles_X0_note
set_option maxRecDepth 20000 in
theorem ggX4_combineSingles_X3_isSumLess : GoodIn wsX4_combineSingles wsX3_isSumLess := goodIn_r _ [102, 16, 26, 103, 104, 105, 17, 42, 43, 44, 45, 106, 107, 108, 109, 110, 14, 111, 19, 20, 23, 24, 25, 27, 28, 29, 30, 31, 112, 113, 114, 115, 116, 159, 160, 161, 162, 163, 164, 165, 166, 167, 151, 152, 153, 154, 155, 156, 157, 158] rfl (by decide +kernel)
set_option maxRecDepth 20000 in
theorem gX4_combineSingles_X3_isSumLess : GoodIn wsX4_combineSingles (wsV RX4 124 RX3 yX3_isSumLess wsX3_isSumLess) := goodIn_app (goodIn_of _ (by decide +kernel)) ggX4_combineSingles_X3_isSumLess
set_option maxRecDepth 20000 in
theorem ggX4_combineSingles_X3_sum : GoodIn wsX4_combineSingles wsX3_sum := goodIn_r _ [120, 16, 26, 103, 104, 21, 42, 43, 44, 45, 17, 19, 20, 121, 122, 14, 123, 124, 22, 108, 109, 110, 111, 23, 24, 25, 27, 28, 29, 30, 31, 32, 33, 34, 35, 36, 37, 38, 39, 40, 41, 46, 47, 48, 49, 50, 51, 52, 53, 54, 55, 56, 57, 58, 59, 60, 61, 62, 63, 64, 65, 66, 67, 68, 69, 70, 71, 112, 113, 114, 115, 116, 125, 126, 127, 78, 79, 80, 81, 82, 83, 84, 85, 86, 77, 159, 160, 161, 162, 163, 164, 165, 166, 167, 151, 152, 153, 154, 155, 156, 157, 158] rfl (by decide +kernel)
set_option maxRecDepth 20000 in
theorem gX4_combineSingles_X3_sum : GoodIn wsX4_combineSingles (wsV RX4 96 RX3 yX3_sum wsX3_sum) := goodIn_app (goodIn_of _ (by decide +kernel)) ggX4_combineSingles_X3_sum
set_option maxRecDepth 20000 in
theorem ggX4_combineSingles_X4_put : GoodIn wsX4_combineSingles wsX4_put := goodIn_r _ [131, 4, 3, 132, 95, 96, 14, 97, 98, 23, 24, 25, 26, 16, 27, 28, 29, 30, 31, 68, 69, 70, 71, 17, 19, 47, 48, 36, 37, 144, 145, 146, 147, 151, 152, 153, 154, 155, 156, 159, 160, 161, 162, 163, 164, 165, 166, 167, 157, 158] rfl (by decide +kernel)
set_option maxRecDepth 20000 in
theorem gX4_combineSingles_X4_put : GoodIn wsX4_combineSingles (wsV RX4 40 RX4 yX4_put wsX4_put) := goodIn_app (goodIn_of _ (by decide +kernel)) ggX4_combineSingles_X4_put
set_option maxRecDepth 20000 in
theorem ggX4_combineSingles_X4_findContradiction : GoodIn wsX4_combineSingles wsX4_findContradiction := goodIn_r _ [136, 3, 4, 1, 137, 138, 139, 7, 8, 9, 10, 140, 141, 142, 14, 143, 23, 24, 25, 26, 16, 27, 28, 29, 30, 31, 72, 73, 74, 41, 75, 61, 76, 77, 144, 145, 146, 147, 159, 160, 161, 162, 163, 164, 165, 166, 167, 151, 152, 153, 154, 155, 156, 157, 158] rfl (by decide +kernel)
set_option maxRecDepth 20000 in
theorem gX4_combineSingles_X4_findContradiction : GoodIn wsX4_combineSingles (wsV RX4 128 RX4 yX4_findContradiction wsX4_findContradiction) := goodIn_app (goodIn_of _ (by decide +kernel)) ggX4_combineSingles_X4_findContradiction
theorem dX4_combineSingles_0 : decode cX4_combineSingles 0 = .ok (.aload_n 0, 1) := by decide +kernel
theorem dX4_combineSingles_1 : decode cX4_combineSingles 1 = .ok (.getfield 26, 3) := by decide +kernel
theorem dX4_combineSingles_4 : decode cX4_combineSingles 4 = .ok (.ifCond .eq 4, 3) := by decide +kernel
theorem dX4_combineSingles_7 : decode cX4_combineSingles 7 = .ok (.return_, 1) := by decide +kernel
theorem dX4_combineSingles_8 : decode cX4_combineSingles 8 = .ok (.iconst 0, 1) := by decide +kernel
theorem dX4_combineSingles_9 : decode cX4_combineSingles 9 = .ok (.istore_n 1, 1) := by decide +kernel
theorem dX4_combineSingles_10 : decode cX4_combineSingles 10 = .ok (.iload_n 1, 1) := by decide +kernel
theorem dX4_combineSingles_11 : decode cX4_combineSingles 11 = .ok (.bipush 12, 2) := by decide +kernel
theorem dX4_combineSingles_13 : decode cX4_combineSingles 13 = .ok (.if_icmp .ge 34, 3) := by decide +kernel
theorem dX4_combineSingles_16 : decode cX4_combineSingles 16 = .ok (.aload_n 0, 1) := by decide +kernel
theorem dX4_combineSingles_17 : decode cX4_combineSingles 17 = .ok (.getfield 9, 3) := by decide +kernel
theorem dX4_combineSingles_20 : decode cX4_combineSingles 20 = .ok (.iload_n 1, 1) := by decide +kernel
theorem dX4_combineSingles_21 : decode cX4_combineSingles 21 = .ok (.aload_n 0, 1) := by decide +kernel
theorem dX4_combineSingles_22 : decode cX4_combineSingles 22 = .ok (.getfield 21, 3) := by decide +kernel
theorem dX4_combineSingles_25 : decode cX4_combineSingles 25 = .ok (.aload_n 0, 1) := by decide +kernel
theorem dX4_combineSingles_26 : decode cX4_combineSingles 26 = .ok (.getfield 22, 3) := by decide +kernel
theorem dX4_combineSingles_29 : decode cX4_combineSingles 29 = .ok (.iload_n 1, 1) := by decide +kernel
theorem dX4_combineSingles_30 : decode cX4_combineSingles 30 = .ok (.iload_n 1, 1) := by decide +kernel
theorem dX4_combineSingles_31 : decode cX4_combineSingles 31 = .ok (.invokestatic 66, 3) := by decide +kernel
theorem dX4_combineSingles_34 : decode cX4_combineSingles 34 = .ok (.laload, 1) := by decide +kernel
theorem dX4_combineSingles_35 : decode cX4_combineSingles 35 = .ok (.invokevirtual 118, 3) := by decide +kernel
theorem dX4_combineSingles_38 : decode cX4_combineSingles 38 = .ok (.invokevirtual 55, 3) := by decide +kernel
theorem dX4_combineSingles_41 : decode cX4_combineSingles 41 = .ok (.iinc 1 1, 3) := by decide +kernel
theorem dX4_combineSingles_44 : decode cX4_combineSingles 44 = .ok (.goto (-34), 3) := by decide +kernel
theorem dX4_combineSingles_47 : decode cX4_combineSingles 47 = .ok (.iconst 0, 1) := by decide +kernel
theorem dX4_combineSingles_48 : decode cX4_combineSingles 48 = .ok (.istore_n 1, 1) := by decide +kernel
theorem dX4_combineSingles_49 : decode cX4_combineSingles 49 = .ok (.iload_n 1, 1) := by decide +kernel
theorem dX4_combineSingles_50 : decode cX4_combineSingles 50 = .ok (.bipush 12, 2) := by decide +kernel
theorem dX4_combineSingles_52 : decode cX4_combineSingles 52 = .ok (.if_icmp .ge 110, 3) := by decide +kernel
theorem dX4_combineSingles_55 : decode cX4_combineSingles 55 = .ok (.iconst 0, 1) := by decide +kernel
theorem dX4_combineSingles_56 : decode cX4_combineSingles 56 = .ok (.istore_n 2, 1) := by decide +kernel
theorem dX4_combineSingles_57 : decode cX4_combineSingles 57 = .ok (.iload_n 2, 1) := by decide +kernel
theorem dX4_combineSingles_58 : decode cX4_combineSingles 58 = .ok (.iload_n 1, 1) := by decide +kernel
theorem dX4_combineSingles_59 : decode cX4_combineSingles 59 = .ok (.if_icmp .gt 97, 3) := by decide +kernel
theorem dX4_combineSingles_62 : decode cX4_combineSingles 62 = .ok (.aload_n 0, 1) := by decide +kernel
theorem dX4_combineSingles_63 : decode cX4_combineSingles 63 = .ok (.getfield 9, 3) := by decide +kernel
theorem dX4_combineSingles_66 : decode cX4_combineSingles 66 = .ok (.getfield 76, 3) := by decide +kernel
theorem dX4_combineSingles_69 : decode cX4_combineSingles 69 = .ok (.iload_n 1, 1) := by decide +kernel
theorem dX4_combineSingles_70 : decode cX4_combineSingles 70 = .ok (.laload, 1) := by decide +kernel
theorem dX4_combineSingles_71 : decode cX4_combineSingles 71 = .ok (.ldc2_w 74, 3) := by decide +kernel
theorem dX4_combineSingles_74 : decode cX4_combineSingles 74 = .ok (.lcmp, 1) := by decide +kernel
theorem dX4_combineSingles_75 : decode cX4_combineSingles 75 = .ok (.ifCond .eq 81, 3) := by decide +kernel
theorem dX4_combineSingles_78 : decode cX4_combineSingles 78 = .ok (.aload_n 0, 1) := by decide +kernel
theorem dX4_combineSingles_79 : decode cX4_combineSingles 79 = .ok (.getfield 21, 3) := by decide +kernel
theorem dX4_combineSingles_82 : decode cX4_combineSingles 82 = .ok (.aload_n 0, 1) := by decide +kernel
theorem dX4_combineSingles_83 : decode cX4_combineSingles 83 = .ok (.getfield 9, 3) := by decide +kernel
theorem dX4_combineSingles_86 : decode cX4_combineSingles 86 = .ok (.getfield 76, 3) := by decide +kernel
theorem dX4_combineSingles_89 : decode cX4_combineSingles 89 = .ok (.iload_n 1, 1) := by decide +kernel
theorem dX4_combineSingles_90 : decode cX4_combineSingles 90 = .ok (.laload, 1) := by decide +kernel
theorem dX4_combineSingles_91 : decode cX4_combineSingles 91 = .ok (.aload_n 0, 1) := by decide +kernel
theorem dX4_combineSingles_92 : decode cX4_combineSingles 92 = .ok (.getfield 9, 3) := by decide +kernel
theorem dX4_combineSingles_95 : decode cX4_combineSingles 95 = .ok (.getfield 76, 3) := by decide +kernel
theorem dX4_combineSingles_98 : decode cX4_combineSingles 98 = .ok (.iload_n 2, 1) := by decide +kernel
theorem dX4_combineSingles_99 : decode cX4_combineSingles 99 = .ok (.laload, 1) := by decide +kernel
theorem dX4_combineSingles_100 : decode cX4_combineSingles 100 = .ok (.aload_n 0, 1) := by decide +kernel
theorem dX4_combineSingles_101 : decode cX4_combineSingles 101 = .ok (.getfield 22, 3) := by decide +kernel
theorem dX4_combineSingles_104 : decode cX4_combineSingles 104 = .ok (.iload_n 1, 1) := by decide +kernel
theorem dX4_combineSingles_105 : decode cX4_combineSingles 105 = .ok (.iload_n 2, 1) := by decide +kernel
theorem dX4_combineSingles_106 : decode cX4_combineSingles 106 = .ok (.invokestatic 66, 3) := by decide +kernel
theorem dX4_combineSingles_109 : decode cX4_combineSingles 109 = .ok (.laload, 1) := by decide +kernel
theorem dX4_combineSingles_110 : decode cX4_combineSingles 110 = .ok (.invokevirtual 124, 3) := by decide +kernel
theorem dX4_combineSingles_113 : decode cX4_combineSingles 113 = .ok (.ifCond .eq 37, 3) := by decide +kernel
theorem dX4_combineSingles_116 : decode cX4_combineSingles 116 = .ok (.aload_n 0, 1) := by decide +kernel
theorem dX4_combineSingles_117 : decode cX4_combineSingles 117 = .ok (.iload_n 1, 1) := by decide +kernel
theorem dX4_combineSingles_118 : decode cX4_combineSingles 118 = .ok (.iload_n 2, 1) := by decide +kernel
theorem dX4_combineSingles_119 : decode cX4_combineSingles 119 = .ok (.invokestatic 66, 3) := by decide +kernel
theorem dX4_combineSingles_122 : decode cX4_combineSingles 122 = .ok (.aload_n 0, 1) := by decide +kernel
theorem dX4_combineSingles_123 : decode cX4_combineSingles 123 = .ok (.getfield 21, 3) := by decide +kernel
theorem dX4_combineSingles_126 : decode cX4_combineSingles 126 = .ok (.aload_n 0, 1) := by decide +kernel
theorem dX4_combineSingles_127 : decode cX4_combineSingles 127 = .ok (.getfield 9, 3) := by decide +kernel
theorem dX4_combineSingles_130 : decode cX4_combineSingles 130 = .ok (.getfield 76, 3) := by decide +kernel
theorem dX4_combineSingles_133 : decode cX4_combineSingles 133 = .ok (.iload_n 1, 1) := by decide +kernel
theorem dX4_combineSingles_134 : decode cX4_combineSingles 134 = .ok (.laload, 1) := by decide +kernel
theorem dX4_combineSingles_135 : decode cX4_combineSingles 135 = .ok (.aload_n 0, 1) := by decide +kernel
theorem dX4_combineSingles_136 : decode cX4_combineSingles 136 = .ok (.getfield 9, 3) := by decide +kernel
theorem dX4_combineSingles_139 : decode cX4_combineSingles 139 = .ok (.getfield 76, 3) := by decide +kernel
theorem dX4_combineSingles_142 : decode cX4_combineSingles 142 = .ok (.iload_n 2, 1) := by decide +kernel
theorem dX4_combineSingles_143 : decode cX4_combineSingles 143 = .ok (.laload, 1) := by decide +kernel
theorem dX4_combineSingles_144 : decode cX4_combineSingles 144 = .ok (.invokevirtual 96, 3) := by decide +kernel
theorem dX4_combineSingles_147 : decode cX4_combineSingles 147 = .ok (.invokevirtual 40, 3) := by decide +kernel
theorem dX4_combineSingles_150 : decode cX4_combineSingles 150 = .ok (.iinc 2 1, 3) := by decide +kernel
theorem dX4_combineSingles_153 : decode cX4_combineSingles 153 = .ok (.goto (-96), 3) := by decide +kernel
theorem dX4_combineSingles_156 : decode cX4_combineSingles 156 = .ok (.iinc 1 1, 3) := by decide +kernel
theorem dX4_combineSingles_159 : decode cX4_combineSingles 159 = .ok (.goto (-110), 3) := by decide +kernel
theorem dX4_combineSingles_162 : decode cX4_combineSingles 162 = .ok (.aload_n 0, 1) := by decide +kernel
theorem dX4_combineSingles_163 : decode cX4_combineSingles 163 = .ok (.invokevirtual 128, 3) := by decide +kernel
theorem dX4_combineSingles_166 : decode cX4_combineSingles 166 = .ok (.return_, 1) := by decide +kernel
set_option maxRecDepth 20000 in
theorem ggX4_findContradiction_X6_negation : GoodIn wsX4_findContradiction wsX6_negation := goodIn_r _ [6] rfl (by decide +kernel)
set_option maxRecDepth 20000 in
theorem gX4_findContradiction_X6_negation_n70 : GoodIn wsX4_findContradiction (wsX6_negation) := ggX4_findContradiction_X6_negation
set_option maxRecDepth 20000 in
theorem ggX4_findContradiction_X4_cell : GoodIn wsX4_findContradiction wsX4_cell := goodIn_r _ [10] rfl (by decide +kernel)
set_option maxRecDepth 20000 in
theorem gX4_findContradiction_X4_cell : GoodIn wsX4_findContradiction (va_wsS RX4 66 yX4_cell wsX4_cell) := goodIn_app (goodIn_of _ (by decide +kernel)) ggX4_findContradiction_X4_cell
set_option maxRecDepth 20000 in
theorem ggX4_findContradiction_X3_isNegative : GoodIn wsX4_findContradiction wsX3_isNegative := goodIn_r _ [15, 16, 17, 14, 18, 19, 20, 21, 22, 23, 24, 25, 26, 27, 28, 29, 30, 31, 32, 33, 38, 39, 40, 41, 42, 43, 44, 45, 46, 47, 48, 49, 50, 51, 52, 53, 54] rfl (by decide +kernel)
set_option maxRecDepth 20000 in
theorem gX4_findContradiction_X3_isNegative : GoodIn wsX4_findContradiction (wsV RX4 131 RX3 yX3_isNegative wsX3_isNegative) := goodIn_app (goodIn_of _ (by decide +kernel)) ggX4_findContradiction_X3_isNegative
theorem dX4_findContradiction_0 : decode cX4_findContradiction 0 = .ok (.iconst 0, 1) := by decide +kernel
theorem dX4_findContradiction_1 : decode cX4_findContradiction 1 = .ok (.istore_n 1, 1) := by decide +kernel
theorem dX4_findContradiction_2 : decode cX4_findContradiction 2 = .ok (.iload_n 1, 1) := by decide +kernel
theorem dX4_findContradiction_3 : decode cX4_findContradiction 3 = .ok (.bipush 12, 2) := by decide +kernel
theorem dX4_findContradiction_5 : decode cX4_findContradiction 5 = .ok (.if_icmp .ge 37, 3) := by decide +kernel
theorem dX4_findContradiction_8 : decode cX4_findContradiction 8 = .ok (.aload_n 0, 1) := by decide +kernel
theorem dX4_findContradiction_9 : decode cX4_findContradiction 9 = .ok (.getfield 21, 3) := by decide +kernel
theorem dX4_findContradiction_12 : decode cX4_findContradiction 12 = .ok (.aload_n 0, 1) := by decide +kernel
theorem dX4_findContradiction_13 : decode cX4_findContradiction 13 = .ok (.getfield 22, 3) := by decide +kernel
theorem dX4_findContradiction_16 : decode cX4_findContradiction 16 = .ok (.iload_n 1, 1) := by decide +kernel
theorem dX4_findContradiction_17 : decode cX4_findContradiction 17 = .ok (.iload_n 1, 1) := by decide +kernel
theorem dX4_findContradiction_18 : decode cX4_findContradiction 18 = .ok (.invokestatic 70, 3) := by decide +kernel
theorem dX4_findContradiction_21 : decode cX4_findContradiction 21 = .ok (.invokestatic 66, 3) := by decide +kernel
theorem dX4_findContradiction_24 : decode cX4_findContradiction 24 = .ok (.laload, 1) := by decide +kernel
theorem dX4_findContradiction_25 : decode cX4_findContradiction 25 = .ok (.invokevirtual 131, 3) := by decide +kernel
theorem dX4_findContradiction_28 : decode cX4_findContradiction 28 = .ok (.ifCond .eq 8, 3) := by decide +kernel
theorem dX4_findContradiction_31 : decode cX4_findContradiction 31 = .ok (.aload_n 0, 1) := by decide +kernel
theorem dX4_findContradiction_32 : decode cX4_findContradiction 32 = .ok (.iconst 1, 1) := by decide +kernel
theorem dX4_findContradiction_33 : decode cX4_findContradiction 33 = .ok (.putfield 26, 3) := by decide +kernel
theorem dX4_findContradiction_36 : decode cX4_findContradiction 36 = .ok (.iinc 1 2, 3) := by decide +kernel
theorem dX4_findContradiction_39 : decode cX4_findContradiction 39 = .ok (.goto (-37), 3) := by decide +kernel
theorem dX4_findContradiction_42 : decode cX4_findContradiction 42 = .ok (.return_, 1) := by decide +kernel
