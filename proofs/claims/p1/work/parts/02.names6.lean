theorem dX5_init_0 : decode cX5_init 0 = .ok (.aload_n 0, 1) := by decide +kernel
theorem dX5_init_1 : decode cX5_init 1 = .ok (.invokespecial 3, 3) := by decide +kernel
theorem dX5_init_4 : decode cX5_init 4 = .ok (.return_, 1) := by decide +kernel
theorem dX5_write_0 : decode cX5_write 0 = .ok (.aload_n 0, 1) := by decide +kernel
theorem dX5_write_1 : decode cX5_write 1 = .ok (.iload_n 1, 1) := by decide +kernel
theorem dX5_write_2 : decode cX5_write 2 = .ok (.bipush 8, 2) := by decide +kernel
theorem dX5_write_4 : decode cX5_write 4 = .ok (.idiv, 1) := by decide +kernel
theorem dX5_write_5 : decode cX5_write 5 = .ok (.putfield 9, 3) := by decide +kernel
theorem dX5_write_8 : decode cX5_write 8 = .ok (.aload_n 0, 1) := by decide +kernel
theorem dX5_write_9 : decode cX5_write 9 = .ok (.iload_n 1, 1) := by decide +kernel
theorem dX5_write_10 : decode cX5_write 10 = .ok (.bipush 8, 2) := by decide +kernel
theorem dX5_write_12 : decode cX5_write 12 = .ok (.irem, 1) := by decide +kernel
theorem dX5_write_13 : decode cX5_write 13 = .ok (.putfield 15, 3) := by decide +kernel
theorem dX5_write_16 : decode cX5_write 16 = .ok (.aload_n 0, 1) := by decide +kernel
theorem dX5_write_17 : decode cX5_write 17 = .ok (.iload_n 2, 1) := by decide +kernel
theorem dX5_write_18 : decode cX5_write 18 = .ok (.putfield 18, 3) := by decide +kernel
theorem dX5_write_21 : decode cX5_write 21 = .ok (.aload_n 0, 1) := by decide +kernel
theorem dX5_write_22 : decode cX5_write 22 = .ok (.iload_n 3, 1) := by decide +kernel
theorem dX5_write_23 : decode cX5_write 23 = .ok (.putfield 21, 3) := by decide +kernel
theorem dX5_write_26 : decode cX5_write 26 = .ok (.aload_n 0, 1) := by decide +kernel
theorem dX5_write_27 : decode cX5_write 27 = .ok (.iload 4, 2) := by decide +kernel
theorem dX5_write_29 : decode cX5_write 29 = .ok (.putfield 24, 3) := by decide +kernel
theorem dX5_write_32 : decode cX5_write 32 = .ok (.aload_n 0, 1) := by decide +kernel
theorem dX5_write_33 : decode cX5_write 33 = .ok (.iload 5, 2) := by decide +kernel
theorem dX5_write_35 : decode cX5_write 35 = .ok (.putfield 27, 3) := by decide +kernel
theorem dX5_write_38 : decode cX5_write 38 = .ok (.return_, 1) := by decide +kernel
set_option maxRecDepth 20000 in
theorem ggX6_init_X0_init : GoodIn wsX6_init wsX0_init := goodIn_r _ [23, 24, 2, 3, 25, 26, 27, 28, 14, 29, 30, 31, 32, 33, 34, 35, 36, 37, 38, 39, 40, 41, 42, 43, 44, 45, 46, 47, 48, 49, 50, 51, 52, 53, 54, 55, 56, 57, 58, 59, 60, 61, 62, 63, 64, 65, 66, 143, 144, 145, 146, 147, 148, 149, 150, 151, 123, 124, 125, 152, 153, 154, 155, 156, 157, 158, 159] rfl (by decide +kernel)
set_option maxRecDepth 20000 in
theorem gX6_init_X0_init : GoodIn wsX6_init (wsX0_init) := ggX6_init_X0_init
set_option maxRecDepth 20000 in
theorem ggX6_init_X6_emptyShapes : GoodIn wsX6_init wsX6_emptyShapes := goodIn_r _ [70, 10, 11, 12, 71, 72, 73, 74, 2, 3, 75, 76, 77, 14, 78, 79, 133, 134, 135, 136, 123, 124, 125] rfl (by decide +kernel)
set_option maxRecDepth 20000 in
theorem gX6_init_X6_emptyShapes : GoodIn wsX6_init (va_wsS RX6 12 yX6_emptyShapes wsX6_emptyShapes) := goodIn_app (goodIn_of _ (by decide +kernel)) ggX6_init_X6_emptyShapes
set_option maxRecDepth 20000 in
theorem ggX6_init_X4_allowAll : GoodIn wsX6_init wsX4_allowAll := goodIn_r _ [83, 79, 84, 85, 86, 12, 87, 88, 89, 90, 91, 92, 69, 93, 94, 95, 96, 97, 78, 77, 98, 99, 100, 27, 101, 102, 103, 104, 105, 106, 107, 108, 109, 110, 111, 37, 112, 113, 114, 115, 53, 49, 116, 117, 118, 119, 133, 134, 135, 136, 152, 153, 154, 155, 156, 157, 143, 144, 145, 146, 147, 148, 149, 150, 151, 158, 159] rfl (by decide +kernel)
set_option maxRecDepth 20000 in
theorem gX6_init_X4_allowAll : GoodIn wsX6_init (wsV RX6 20 RX4 yX4_allowAll wsX4_allowAll) := goodIn_app (goodIn_of _ (by decide +kernel)) ggX6_init_X4_allowAll
set_option maxRecDepth 20000 in
theorem ggX6_init_X4_init : GoodIn wsX6_init wsX4_init := goodIn_r _ [73, 74, 2, 3, 75, 76, 77, 14, 78, 79, 133, 134, 135, 136, 123, 124, 125] rfl (by decide +kernel)
set_option maxRecDepth 20000 in
theorem gX6_init_X4_init : GoodIn wsX6_init (wsX4_init) := ggX6_init_X4_init
set_option maxRecDepth 20000 in
theorem ggX6_init_X5_init : GoodIn wsX6_init wsX5_init := goodIn_r _ [121, 122, 2, 3] rfl (by decide +kernel)
set_option maxRecDepth 20000 in
theorem gX6_init_X5_init_n52 : GoodIn wsX6_init (wsX5_init) := ggX6_init_X5_init
theorem dX6_init_0 : decode cX6_init 0 = .ok (.aload_n 0, 1) := by decide +kernel
theorem dX6_init_1 : decode cX6_init 1 = .ok (.invokespecial 3, 3) := by decide +kernel
theorem dX6_init_4 : decode cX6_init 4 = .ok (.new 9, 3) := by decide +kernel
theorem dX6_init_7 : decode cX6_init 7 = .ok (.dup, 1) := by decide +kernel
theorem dX6_init_8 : decode cX6_init 8 = .ok (.invokespecial 11, 3) := by decide +kernel
theorem dX6_init_11 : decode cX6_init 11 = .ok (.astore_n 1, 1) := by decide +kernel
theorem dX6_init_12 : decode cX6_init 12 = .ok (.aload_n 0, 1) := by decide +kernel
theorem dX6_init_13 : decode cX6_init 13 = .ok (.aload_n 1, 1) := by decide +kernel
theorem dX6_init_14 : decode cX6_init 14 = .ok (.bipush 6, 2) := by decide +kernel
theorem dX6_init_16 : decode cX6_init 16 = .ok (.invokestatic 12, 3) := by decide +kernel
theorem dX6_init_19 : decode cX6_init 19 = .ok (.putfield 16, 3) := by decide +kernel
theorem dX6_init_22 : decode cX6_init 22 = .ok (.iconst 0, 1) := by decide +kernel
theorem dX6_init_23 : decode cX6_init 23 = .ok (.istore_n 2, 1) := by decide +kernel
theorem dX6_init_24 : decode cX6_init 24 = .ok (.iload_n 2, 1) := by decide +kernel
theorem dX6_init_25 : decode cX6_init 25 = .ok (.bipush 6, 2) := by decide +kernel
theorem dX6_init_27 : decode cX6_init 27 = .ok (.if_icmp .ge 18, 3) := by decide +kernel
theorem dX6_init_30 : decode cX6_init 30 = .ok (.aload_n 0, 1) := by decide +kernel
theorem dX6_init_31 : decode cX6_init 31 = .ok (.getfield 16, 3) := by decide +kernel
theorem dX6_init_34 : decode cX6_init 34 = .ok (.iload_n 2, 1) := by decide +kernel
theorem dX6_init_35 : decode cX6_init 35 = .ok (.aaload, 1) := by decide +kernel
theorem dX6_init_36 : decode cX6_init 36 = .ok (.invokevirtual 20, 3) := by decide +kernel
theorem dX6_init_39 : decode cX6_init 39 = .ok (.iinc 2 1, 3) := by decide +kernel
theorem dX6_init_42 : decode cX6_init 42 = .ok (.goto (-18), 3) := by decide +kernel
theorem dX6_init_45 : decode cX6_init 45 = .ok (.aload_n 0, 1) := by decide +kernel
theorem dX6_init_46 : decode cX6_init 46 = .ok (.aload_n 1, 1) := by decide +kernel
theorem dX6_init_47 : decode cX6_init 47 = .ok (.bipush 8, 2) := by decide +kernel
theorem dX6_init_49 : decode cX6_init 49 = .ok (.invokestatic 12, 3) := by decide +kernel
theorem dX6_init_52 : decode cX6_init 52 = .ok (.putfield 25, 3) := by decide +kernel
theorem dX6_init_55 : decode cX6_init 55 = .ok (.aload_n 0, 1) := by decide +kernel
theorem dX6_init_56 : decode cX6_init 56 = .ok (.aload_n 1, 1) := by decide +kernel
theorem dX6_init_57 : decode cX6_init 57 = .ok (.bipush 8, 2) := by decide +kernel
theorem dX6_init_59 : decode cX6_init 59 = .ok (.invokestatic 12, 3) := by decide +kernel
theorem dX6_init_62 : decode cX6_init 62 = .ok (.putfield 28, 3) := by decide +kernel
theorem dX6_init_65 : decode cX6_init 65 = .ok (.aload_n 0, 1) := by decide +kernel
theorem dX6_init_66 : decode cX6_init 66 = .ok (.new 21, 3) := by decide +kernel
theorem dX6_init_69 : decode cX6_init 69 = .ok (.dup, 1) := by decide +kernel
theorem dX6_init_70 : decode cX6_init 70 = .ok (.aload_n 1, 1) := by decide +kernel
theorem dX6_init_71 : decode cX6_init 71 = .ok (.invokespecial 31, 3) := by decide +kernel
theorem dX6_init_74 : decode cX6_init 74 = .ok (.putfield 34, 3) := by decide +kernel
theorem dX6_init_77 : decode cX6_init 77 = .ok (.aload_n 0, 1) := by decide +kernel
theorem dX6_init_78 : decode cX6_init 78 = .ok (.bipush 6, 2) := by decide +kernel
theorem dX6_init_80 : decode cX6_init 80 = .ok (.newarray .long, 2) := by decide +kernel
theorem dX6_init_82 : decode cX6_init 82 = .ok (.putfield 38, 3) := by decide +kernel
theorem dX6_init_85 : decode cX6_init 85 = .ok (.aload_n 0, 1) := by decide +kernel
theorem dX6_init_86 : decode cX6_init 86 = .ok (.iconst 0, 1) := by decide +kernel
theorem dX6_init_87 : decode cX6_init 87 = .ok (.putfield 42, 3) := by decide +kernel
theorem dX6_init_90 : decode cX6_init 90 = .ok (.aload_n 0, 1) := by decide +kernel
theorem dX6_init_91 : decode cX6_init 91 = .ok (.bipush 20, 2) := by decide +kernel
theorem dX6_init_93 : decode cX6_init 93 = .ok (.anewarray 46, 3) := by decide +kernel
theorem dX6_init_96 : decode cX6_init 96 = .ok (.putfield 48, 3) := by decide +kernel
theorem dX6_init_99 : decode cX6_init 99 = .ok (.iconst 0, 1) := by decide +kernel
theorem dX6_init_100 : decode cX6_init 100 = .ok (.istore_n 2, 1) := by decide +kernel
theorem dX6_init_101 : decode cX6_init 101 = .ok (.iload_n 2, 1) := by decide +kernel
theorem dX6_init_102 : decode cX6_init 102 = .ok (.bipush 20, 2) := by decide +kernel
theorem dX6_init_104 : decode cX6_init 104 = .ok (.if_icmp .ge 22, 3) := by decide +kernel
theorem dX6_init_107 : decode cX6_init 107 = .ok (.aload_n 0, 1) := by decide +kernel
theorem dX6_init_108 : decode cX6_init 108 = .ok (.getfield 48, 3) := by decide +kernel
theorem dX6_init_111 : decode cX6_init 111 = .ok (.iload_n 2, 1) := by decide +kernel
theorem dX6_init_112 : decode cX6_init 112 = .ok (.new 46, 3) := by decide +kernel
theorem dX6_init_115 : decode cX6_init 115 = .ok (.dup, 1) := by decide +kernel
theorem dX6_init_116 : decode cX6_init 116 = .ok (.invokespecial 52, 3) := by decide +kernel
theorem dX6_init_119 : decode cX6_init 119 = .ok (.aastore, 1) := by decide +kernel
theorem dX6_init_120 : decode cX6_init 120 = .ok (.iinc 2 1, 3) := by decide +kernel
theorem dX6_init_123 : decode cX6_init 123 = .ok (.goto (-22), 3) := by decide +kernel
theorem dX6_init_126 : decode cX6_init 126 = .ok (.return_, 1) := by decide +kernel
set_option maxRecDepth 20000 in
theorem ggX6_act_X6_requireSlot : GoodIn wsX6_act wsX6_requireSlot := goodIn_ca (goodIn_r _ [7, 8, 9] rfl (by decide +kernel)) (goodIn_sub (fun _ h => List.mem_cons_of_mem _ (List.mem_append_right _ h)) (by decide +kernel))
set_option maxRecDepth 20000 in
theorem gX6_act_X6_requireSlot : GoodIn wsX6_act (va_wsS RX6 53 yX6_requireSlot wsX6_requireSlot) := goodIn_app (goodIn_of _ (by decide +kernel)) ggX6_act_X6_requireSlot
set_option maxRecDepth 20000 in
theorem ggX6_act_X6_requireAction : GoodIn wsX6_act wsX6_requireAction := goodIn_ca (goodIn_r _ [12, 8, 9, 13, 14, 6, 15, 16, 17, 18, 19, 20, 21, 22, 23, 24, 25, 26, 27, 28, 29] rfl (by decide +kernel)) (goodIn_sub (fun _ h => List.mem_cons_of_mem _ (List.mem_append_right _ h)) (by decide +kernel))
set_option maxRecDepth 20000 in
theorem gX6_act_X6_requireAction : GoodIn wsX6_act (va_wsS RX6 57 yX6_requireAction wsX6_requireAction) := goodIn_app (goodIn_of _ (by decide +kernel)) ggX6_act_X6_requireAction
set_option maxRecDepth 20000 in
theorem ggX6_act_X4_makeFrom : GoodIn wsX6_act wsX4_makeFrom := goodIn_r _ [34, 35, 36, 37, 38, 39, 33, 40, 41, 42, 43, 44, 45, 46, 47, 48, 49, 50, 51, 52, 53, 54, 55, 56, 57, 58, 59, 60, 61, 62, 63, 64, 65, 66, 67, 68, 69, 70, 71, 72, 73, 74, 75, 25, 6, 26, 76, 77, 78, 79, 80, 81, 82, 83, 84, 85, 86, 87, 88, 89, 90, 91, 92, 93, 94, 95, 96, 97, 98, 99, 100, 101, 102, 103, 104, 105, 106, 107, 108, 109, 110, 111, 112, 113, 114, 115, 116, 117, 118, 119, 120, 121, 122, 123, 124, 125, 126, 127, 128, 129, 130, 131, 132, 133, 134, 135, 136, 137, 138, 139, 140, 141, 142, 143, 144, 145, 146, 147, 148, 149, 150, 151, 152, 153, 154, 155, 156, 157, 158, 159, 160, 161, 162, 163, 164, 165, 166, 167, 168, 169, 170, 171, 172, 173, 174, 175, 176, 177, 178, 179, 180, 181, 182, 183, 184, 185, 186, 187, 188, 189, 190, 191, 192, 193, 194, 195, 196, 197, 198, 199, 200, 201, 202, 203, 204, 205, 206, 207, 208, 209, 210, 211, 212, 213, 214, 215, 216, 217, 218, 227, 228, 229, 230, 231, 232, 233, 234, 235, 236, 237, 238, 239, 240, 241, 242, 243, 244, 245, 246, 247, 248, 249, 250] rfl (by decide +kernel)
set_option maxRecDepth 20000 in
theorem gX6_act_X4_makeFrom : GoodIn wsX6_act (wsV RX6 61 RX4 yX4_makeFrom wsX4_makeFrom) := goodIn_app (goodIn_of _ (by decide +kernel)) ggX6_act_X4_makeFrom
set_option maxRecDepth 20000 in
theorem ggX6_act_X4_takeOver : GoodIn wsX6_act wsX4_takeOver := goodIn_r _ [156, 35, 41, 149, 150, 151, 33, 152, 42, 43, 44, 45, 46, 47, 48, 49, 50, 51, 52, 53, 54, 55, 56, 57, 58, 59, 60, 61, 62, 63, 64, 65, 66, 67, 68, 227, 228, 229, 230, 231, 232, 233, 234, 235, 236, 237, 238, 239, 240, 241, 242, 243, 244, 245, 246, 247] rfl (by decide +kernel)
set_option maxRecDepth 20000 in
theorem gX6_act_X4_takeOver : GoodIn wsX6_act (wsV RX6 65 RX4 yX4_takeOver wsX4_takeOver) := goodIn_app (goodIn_of _ (by decide +kernel)) ggX6_act_X4_takeOver
theorem dX6_act_0 : decode cX6_act 0 = .ok (.iload_n 1, 1) := by decide +kernel
theorem dX6_act_1 : decode cX6_act 1 = .ok (.invokestatic 53, 3) := by decide +kernel
theorem dX6_act_4 : decode cX6_act 4 = .ok (.iload_n 2, 1) := by decide +kernel
theorem dX6_act_5 : decode cX6_act 5 = .ok (.iload_n 3, 1) := by decide +kernel
theorem dX6_act_6 : decode cX6_act 6 = .ok (.iload 4, 2) := by decide +kernel
theorem dX6_act_8 : decode cX6_act 8 = .ok (.iload 5, 2) := by decide +kernel
theorem dX6_act_10 : decode cX6_act 10 = .ok (.invokestatic 57, 3) := by decide +kernel
theorem dX6_act_13 : decode cX6_act 13 = .ok (.aload_n 0, 1) := by decide +kernel
theorem dX6_act_14 : decode cX6_act 14 = .ok (.getfield 34, 3) := by decide +kernel
theorem dX6_act_17 : decode cX6_act 17 = .ok (.aload_n 0, 1) := by decide +kernel
theorem dX6_act_18 : decode cX6_act 18 = .ok (.getfield 16, 3) := by decide +kernel
theorem dX6_act_21 : decode cX6_act 21 = .ok (.iload_n 1, 1) := by decide +kernel
theorem dX6_act_22 : decode cX6_act 22 = .ok (.aaload, 1) := by decide +kernel
theorem dX6_act_23 : decode cX6_act 23 = .ok (.iload_n 2, 1) := by decide +kernel
theorem dX6_act_24 : decode cX6_act 24 = .ok (.iload_n 3, 1) := by decide +kernel
theorem dX6_act_25 : decode cX6_act 25 = .ok (.iload 4, 2) := by decide +kernel
theorem dX6_act_27 : decode cX6_act 27 = .ok (.iload 5, 2) := by decide +kernel
theorem dX6_act_29 : decode cX6_act 29 = .ok (.invokevirtual 61, 3) := by decide +kernel
theorem dX6_act_32 : decode cX6_act 32 = .ok (.aload_n 0, 1) := by decide +kernel
theorem dX6_act_33 : decode cX6_act 33 = .ok (.getfield 16, 3) := by decide +kernel
theorem dX6_act_36 : decode cX6_act 36 = .ok (.iload_n 1, 1) := by decide +kernel
theorem dX6_act_37 : decode cX6_act 37 = .ok (.aaload, 1) := by decide +kernel
theorem dX6_act_38 : decode cX6_act 38 = .ok (.aload_n 0, 1) := by decide +kernel
theorem dX6_act_39 : decode cX6_act 39 = .ok (.getfield 34, 3) := by decide +kernel
theorem dX6_act_42 : decode cX6_act 42 = .ok (.invokevirtual 65, 3) := by decide +kernel
theorem dX6_act_45 : decode cX6_act 45 = .ok (.aload_n 0, 1) := by decide +kernel
theorem dX6_act_46 : decode cX6_act 46 = .ok (.getfield 16, 3) := by decide +kernel
theorem dX6_act_49 : decode cX6_act 49 = .ok (.iload_n 1, 1) := by decide +kernel
theorem dX6_act_50 : decode cX6_act 50 = .ok (.aaload, 1) := by decide +kernel
theorem dX6_act_51 : decode cX6_act 51 = .ok (.getfield 69, 3) := by decide +kernel
theorem dX6_act_54 : decode cX6_act 54 = .ok (.ifCond .ne 7, 3) := by decide +kernel
theorem dX6_act_57 : decode cX6_act 57 = .ok (.iconst 1, 1) := by decide +kernel
theorem dX6_act_58 : decode cX6_act 58 = .ok (.goto 4, 3) := by decide +kernel
theorem dX6_act_61 : decode cX6_act 61 = .ok (.iconst 0, 1) := by decide +kernel
theorem dX6_act_62 : decode cX6_act 62 = .ok (.ireturn, 1) := by decide +kernel
set_option maxRecDepth 20000 in
theorem ggX6_clear_X6_requireSlot : GoodIn wsX6_clear wsX6_requireSlot := goodIn_ca (goodIn_r _ [5, 6, 7] rfl (by decide +kernel)) (goodIn_sub (fun _ h => List.mem_cons_of_mem _ (List.mem_append_right _ h)) (by decide +kernel))
set_option maxRecDepth 20000 in
theorem gX6_clear_X6_requireSlot : GoodIn wsX6_clear (va_wsS RX6 53 yX6_requireSlot wsX6_requireSlot) := goodIn_app (goodIn_of _ (by decide +kernel)) ggX6_clear_X6_requireSlot
set_option maxRecDepth 20000 in
theorem ggX6_clear_X4_allowAll : GoodIn wsX6_clear wsX4_allowAll := goodIn_r _ [12, 13, 14, 15, 16, 11, 17, 18, 19, 20, 21, 22, 4, 23, 24, 25, 26, 27, 28, 29, 30, 31, 32, 33, 34, 35, 36, 37, 38, 39, 40, 41, 42, 43, 44, 45, 46, 47, 48, 49, 50, 51, 52, 53, 54, 55, 63, 64, 65, 66, 67, 68, 69, 70, 71, 72, 73, 74, 75, 76, 77, 78, 79, 80, 81, 82, 83] rfl (by decide +kernel)
set_option maxRecDepth 20000 in
theorem gX6_clear_X4_allowAll : GoodIn wsX6_clear (wsV RX6 20 RX4 yX4_allowAll wsX4_allowAll) := goodIn_app (goodIn_of _ (by decide +kernel)) ggX6_clear_X4_allowAll
theorem dX6_clear_0 : decode cX6_clear 0 = .ok (.iload_n 1, 1) := by decide +kernel
theorem dX6_clear_1 : decode cX6_clear 1 = .ok (.invokestatic 53, 3) := by decide +kernel
theorem dX6_clear_4 : decode cX6_clear 4 = .ok (.aload_n 0, 1) := by decide +kernel
theorem dX6_clear_5 : decode cX6_clear 5 = .ok (.getfield 16, 3) := by decide +kernel
theorem dX6_clear_8 : decode cX6_clear 8 = .ok (.iload_n 1, 1) := by decide +kernel
theorem dX6_clear_9 : decode cX6_clear 9 = .ok (.aaload, 1) := by decide +kernel
theorem dX6_clear_10 : decode cX6_clear 10 = .ok (.invokevirtual 20, 3) := by decide +kernel
theorem dX6_clear_13 : decode cX6_clear 13 = .ok (.return_, 1) := by decide +kernel
set_option maxRecDepth 20000 in
theorem ggX6_copy_X6_requireSlot : GoodIn wsX6_copy wsX6_requireSlot := goodIn_ca (goodIn_r _ [5, 6, 7] rfl (by decide +kernel)) (goodIn_sub (fun _ h => List.mem_cons_of_mem _ (List.mem_append_right _ h)) (by decide +kernel))
set_option maxRecDepth 20000 in
theorem gX6_copy_X6_requireSlot : GoodIn wsX6_copy (va_wsS RX6 53 yX6_requireSlot wsX6_requireSlot) := goodIn_app (goodIn_of _ (by decide +kernel)) ggX6_copy_X6_requireSlot
set_option maxRecDepth 20000 in
theorem ggX6_copy_X4_takeOver : GoodIn wsX6_copy wsX4_takeOver := goodIn_r _ [12, 13, 14, 15, 16, 17, 11, 18, 19, 20, 21, 22, 23, 24, 25, 26, 27, 28, 29, 30, 31, 32, 33, 34, 35, 36, 37, 38, 39, 40, 41, 42, 43, 44, 45, 53, 54, 55, 56, 57, 58, 59, 60, 61, 62, 63, 64, 65, 66, 67, 68, 69, 70, 71, 72, 73] rfl (by decide +kernel)
set_option maxRecDepth 20000 in
theorem gX6_copy_X4_takeOver : GoodIn wsX6_copy (wsV RX6 65 RX4 yX4_takeOver wsX4_takeOver) := goodIn_app (goodIn_of _ (by decide +kernel)) ggX6_copy_X4_takeOver
theorem dX6_copy_0 : decode cX6_copy 0 = .ok (.iload_n 1, 1) := by decide +kernel
theorem dX6_copy_1 : decode cX6_copy 1 = .ok (.invokestatic 53, 3) := by decide +kernel
theorem dX6_copy_4 : decode cX6_copy 4 = .ok (.iload_n 2, 1) := by decide +kernel
theorem dX6_copy_5 : decode cX6_copy 5 = .ok (.invokestatic 53, 3) := by decide +kernel
theorem dX6_copy_8 : decode cX6_copy 8 = .ok (.aload_n 0, 1) := by decide +kernel
theorem dX6_copy_9 : decode cX6_copy 9 = .ok (.getfield 16, 3) := by decide +kernel
theorem dX6_copy_12 : decode cX6_copy 12 = .ok (.iload_n 1, 1) := by decide +kernel
theorem dX6_copy_13 : decode cX6_copy 13 = .ok (.aaload, 1) := by decide +kernel
theorem dX6_copy_14 : decode cX6_copy 14 = .ok (.aload_n 0, 1) := by decide +kernel
theorem dX6_copy_15 : decode cX6_copy 15 = .ok (.getfield 16, 3) := by decide +kernel
theorem dX6_copy_18 : decode cX6_copy 18 = .ok (.iload_n 2, 1) := by decide +kernel
theorem dX6_copy_19 : decode cX6_copy 19 = .ok (.aaload, 1) := by decide +kernel
theorem dX6_copy_20 : decode cX6_copy 20 = .ok (.invokevirtual 65, 3) := by decide +kernel
theorem dX6_copy_23 : decode cX6_copy 23 = .ok (.return_, 1) := by decide +kernel
set_option maxRecDepth 20000 in
theorem ggX6_meet_X6_requireThreeSlots : GoodIn wsX6_meet wsX6_requireThreeSlots := goodIn_ca (goodIn_r _ [7, 8, 9, 6, 10, 11, 12] rfl (by decide +kernel)) (goodIn_sub (fun _ h => List.mem_cons_of_mem _ (List.mem_append_right _ h)) (by decide +kernel))
set_option maxRecDepth 20000 in
theorem gX6_meet_X6_requireThreeSlots : GoodIn wsX6_meet (va_wsS RX6 73 yX6_requireThreeSlots wsX6_requireThreeSlots) := goodIn_app (goodIn_of _ (by decide +kernel)) ggX6_meet_X6_requireThreeSlots
set_option maxRecDepth 20000 in
theorem ggX6_meet_X4_takeOver : GoodIn wsX6_meet wsX4_takeOver := goodIn_r _ [17, 18, 19, 20, 21, 22, 16, 23, 24, 25, 26, 27, 28, 29, 30, 31, 32, 33, 34, 35, 36, 37, 38, 39, 40, 41, 42, 43, 44, 45, 46, 47, 48, 49, 50, 188, 189, 190, 191, 192, 193, 194, 195, 196, 197, 198, 199, 200, 201, 202, 203, 204, 205, 206, 207, 208] rfl (by decide +kernel)
set_option maxRecDepth 20000 in
theorem gX6_meet_X4_takeOver : GoodIn wsX6_meet (wsV RX6 65 RX4 yX4_takeOver wsX4_takeOver) := goodIn_app (goodIn_of _ (by decide +kernel)) ggX6_meet_X4_takeOver
set_option maxRecDepth 20000 in
theorem ggX6_meet_X4_cutTo : GoodIn wsX6_meet wsX4_cutTo := goodIn_r _ [54, 18, 55, 56, 24, 19, 57, 58, 59, 16, 60, 25, 26, 27, 28, 29, 30, 31, 32, 33, 34, 35, 36, 37, 38, 39, 40, 41, 42, 43, 44, 45, 46, 47, 48, 49, 50, 61, 62, 63, 64, 65, 66, 67, 68, 69, 70, 71, 72, 73, 74, 75, 76, 77, 78, 79, 80, 81, 82, 83, 84, 85, 86, 87, 20, 21, 22, 23, 88, 89, 90, 91, 92, 93, 94, 95, 96, 6, 97, 98, 99, 100, 101, 102, 103, 104, 105, 106, 107, 108, 109, 110, 111, 112, 113, 114, 115, 116, 117, 118, 119, 120, 121, 122, 123, 124, 125, 126, 127, 128, 129, 130, 131, 132, 133, 134, 135, 136, 137, 138, 139, 140, 141, 142, 143, 144, 145, 146, 147, 148, 149, 150, 151, 152, 153, 154, 155, 156, 157, 158, 159, 160, 161, 162, 163, 164, 165, 166, 167, 168, 169, 170, 171, 172, 173, 174, 175, 176, 177, 178, 179, 180, 188, 189, 190, 191, 209, 210, 211, 192, 193, 194, 195, 196, 197, 198, 199, 200, 201, 202, 203, 204, 205, 206, 207, 208] rfl (by decide +kernel)
set_option maxRecDepth 20000 in
theorem gX6_meet_X4_cutTo : GoodIn wsX6_meet (wsV RX6 77 RX4 yX4_cutTo wsX4_cutTo) := goodIn_app (goodIn_of _ (by decide +kernel)) ggX6_meet_X4_cutTo
theorem dX6_meet_0 : decode cX6_meet 0 = .ok (.iload_n 1, 1) := by decide +kernel
theorem dX6_meet_1 : decode cX6_meet 1 = .ok (.iload_n 2, 1) := by decide +kernel
theorem dX6_meet_2 : decode cX6_meet 2 = .ok (.iload_n 3, 1) := by decide +kernel
theorem dX6_meet_3 : decode cX6_meet 3 = .ok (.invokestatic 73, 3) := by decide +kernel
theorem dX6_meet_6 : decode cX6_meet 6 = .ok (.aload_n 0, 1) := by decide +kernel
theorem dX6_meet_7 : decode cX6_meet 7 = .ok (.getfield 34, 3) := by decide +kernel
theorem dX6_meet_10 : decode cX6_meet 10 = .ok (.aload_n 0, 1) := by decide +kernel
theorem dX6_meet_11 : decode cX6_meet 11 = .ok (.getfield 16, 3) := by decide +kernel
theorem dX6_meet_14 : decode cX6_meet 14 = .ok (.iload_n 2, 1) := by decide +kernel
theorem dX6_meet_15 : decode cX6_meet 15 = .ok (.aaload, 1) := by decide +kernel
theorem dX6_meet_16 : decode cX6_meet 16 = .ok (.invokevirtual 65, 3) := by decide +kernel
theorem dX6_meet_19 : decode cX6_meet 19 = .ok (.aload_n 0, 1) := by decide +kernel
theorem dX6_meet_20 : decode cX6_meet 20 = .ok (.getfield 34, 3) := by decide +kernel
theorem dX6_meet_23 : decode cX6_meet 23 = .ok (.aload_n 0, 1) := by decide +kernel
theorem dX6_meet_24 : decode cX6_meet 24 = .ok (.getfield 16, 3) := by decide +kernel
theorem dX6_meet_27 : decode cX6_meet 27 = .ok (.iload_n 3, 1) := by decide +kernel
theorem dX6_meet_28 : decode cX6_meet 28 = .ok (.aaload, 1) := by decide +kernel
theorem dX6_meet_29 : decode cX6_meet 29 = .ok (.invokevirtual 77, 3) := by decide +kernel
theorem dX6_meet_32 : decode cX6_meet 32 = .ok (.aload_n 0, 1) := by decide +kernel
theorem dX6_meet_33 : decode cX6_meet 33 = .ok (.getfield 16, 3) := by decide +kernel
theorem dX6_meet_36 : decode cX6_meet 36 = .ok (.iload_n 1, 1) := by decide +kernel
theorem dX6_meet_37 : decode cX6_meet 37 = .ok (.aaload, 1) := by decide +kernel
theorem dX6_meet_38 : decode cX6_meet 38 = .ok (.aload_n 0, 1) := by decide +kernel
theorem dX6_meet_39 : decode cX6_meet 39 = .ok (.getfield 34, 3) := by decide +kernel
theorem dX6_meet_42 : decode cX6_meet 42 = .ok (.invokevirtual 65, 3) := by decide +kernel
theorem dX6_meet_45 : decode cX6_meet 45 = .ok (.aload_n 0, 1) := by decide +kernel
theorem dX6_meet_46 : decode cX6_meet 46 = .ok (.getfield 16, 3) := by decide +kernel
theorem dX6_meet_49 : decode cX6_meet 49 = .ok (.iload_n 1, 1) := by decide +kernel
theorem dX6_meet_50 : decode cX6_meet 50 = .ok (.aaload, 1) := by decide +kernel
theorem dX6_meet_51 : decode cX6_meet 51 = .ok (.getfield 69, 3) := by decide +kernel
theorem dX6_meet_54 : decode cX6_meet 54 = .ok (.ifCond .ne 7, 3) := by decide +kernel
theorem dX6_meet_57 : decode cX6_meet 57 = .ok (.iconst 1, 1) := by decide +kernel
theorem dX6_meet_58 : decode cX6_meet 58 = .ok (.goto 4, 3) := by decide +kernel
theorem dX6_meet_61 : decode cX6_meet 61 = .ok (.iconst 0, 1) := by decide +kernel
theorem dX6_meet_62 : decode cX6_meet 62 = .ok (.ireturn, 1) := by decide +kernel
set_option maxRecDepth 20000 in
theorem ggX6_join_X6_requireThreeSlots : GoodIn wsX6_join wsX6_requireThreeSlots := goodIn_ca (goodIn_r _ [6, 7, 8, 5, 9, 10, 11] rfl (by decide +kernel)) (goodIn_sub (fun _ h => List.mem_cons_of_mem _ (List.mem_append_right _ h)) (by decide +kernel))
set_option maxRecDepth 20000 in
theorem gX6_join_X6_requireThreeSlots : GoodIn wsX6_join (va_wsS RX6 73 yX6_requireThreeSlots wsX6_requireThreeSlots) := goodIn_app (goodIn_of _ (by decide +kernel)) ggX6_join_X6_requireThreeSlots
set_option maxRecDepth 20000 in
theorem ggX6_join_X4_takeOver : GoodIn wsX6_join wsX4_takeOver := goodIn_r _ [16, 17, 18, 19, 20, 21, 15, 22, 23, 24, 25, 26, 27, 28, 29, 30, 31, 32, 33, 34, 35, 36, 37, 38, 39, 40, 41, 42, 43, 44, 45, 46, 47, 48, 49, 93, 94, 95, 96, 97, 98, 99, 100, 101, 102, 103, 104, 105, 106, 107, 108, 109, 110, 111, 112, 113] rfl (by decide +kernel)
set_option maxRecDepth 20000 in
theorem gX6_join_X4_takeOver : GoodIn wsX6_join (wsV RX6 65 RX4 yX4_takeOver wsX4_takeOver) := goodIn_app (goodIn_of _ (by decide +kernel)) ggX6_join_X4_takeOver
set_option maxRecDepth 20000 in
theorem ggX6_join_X4_stretchOver : GoodIn wsX6_join wsX4_stretchOver := goodIn_r _ [53, 23, 18, 54, 55, 56, 15, 57, 17, 58, 13, 14, 16, 19, 20, 21, 22, 24, 25, 26, 27, 28, 29, 30, 31, 32, 33, 34, 35, 36, 37, 38, 39, 40, 41, 42, 43, 44, 45, 46, 47, 48, 49, 59, 60, 61, 62, 63, 64, 65, 66, 67, 68, 69, 70, 71, 72, 73, 74, 75, 76, 77, 78, 79, 80, 81, 82, 83, 84, 85, 93, 94, 95, 96, 97, 98, 99, 100, 101, 102, 103, 104, 105, 106, 107, 108, 109, 110, 111, 112, 113] rfl (by decide +kernel)
set_option maxRecDepth 20000 in
theorem gX6_join_X4_stretchOver : GoodIn wsX6_join (wsV RX6 80 RX4 yX4_stretchOver wsX4_stretchOver) := goodIn_app (goodIn_of _ (by decide +kernel)) ggX6_join_X4_stretchOver
theorem dX6_join_0 : decode cX6_join 0 = .ok (.iload_n 1, 1) := by decide +kernel
theorem dX6_join_1 : decode cX6_join 1 = .ok (.iload_n 2, 1) := by decide +kernel
theorem dX6_join_2 : decode cX6_join 2 = .ok (.iload_n 3, 1) := by decide +kernel
theorem dX6_join_3 : decode cX6_join 3 = .ok (.invokestatic 73, 3) := by decide +kernel
theorem dX6_join_6 : decode cX6_join 6 = .ok (.aload_n 0, 1) := by decide +kernel
theorem dX6_join_7 : decode cX6_join 7 = .ok (.getfield 34, 3) := by decide +kernel
theorem dX6_join_10 : decode cX6_join 10 = .ok (.aload_n 0, 1) := by decide +kernel
theorem dX6_join_11 : decode cX6_join 11 = .ok (.getfield 16, 3) := by decide +kernel
theorem dX6_join_14 : decode cX6_join 14 = .ok (.iload_n 2, 1) := by decide +kernel
theorem dX6_join_15 : decode cX6_join 15 = .ok (.aaload, 1) := by decide +kernel
theorem dX6_join_16 : decode cX6_join 16 = .ok (.invokevirtual 65, 3) := by decide +kernel
theorem dX6_join_19 : decode cX6_join 19 = .ok (.aload_n 0, 1) := by decide +kernel
theorem dX6_join_20 : decode cX6_join 20 = .ok (.getfield 34, 3) := by decide +kernel
theorem dX6_join_23 : decode cX6_join 23 = .ok (.aload_n 0, 1) := by decide +kernel
theorem dX6_join_24 : decode cX6_join 24 = .ok (.getfield 16, 3) := by decide +kernel
theorem dX6_join_27 : decode cX6_join 27 = .ok (.iload_n 3, 1) := by decide +kernel
theorem dX6_join_28 : decode cX6_join 28 = .ok (.aaload, 1) := by decide +kernel
theorem dX6_join_29 : decode cX6_join 29 = .ok (.invokevirtual 80, 3) := by decide +kernel
theorem dX6_join_32 : decode cX6_join 32 = .ok (.aload_n 0, 1) := by decide +kernel
theorem dX6_join_33 : decode cX6_join 33 = .ok (.getfield 16, 3) := by decide +kernel
theorem dX6_join_36 : decode cX6_join 36 = .ok (.iload_n 1, 1) := by decide +kernel
theorem dX6_join_37 : decode cX6_join 37 = .ok (.aaload, 1) := by decide +kernel
theorem dX6_join_38 : decode cX6_join 38 = .ok (.aload_n 0, 1) := by decide +kernel
theorem dX6_join_39 : decode cX6_join 39 = .ok (.getfield 34, 3) := by decide +kernel
theorem dX6_join_42 : decode cX6_join 42 = .ok (.invokevirtual 65, 3) := by decide +kernel
theorem dX6_join_45 : decode cX6_join 45 = .ok (.return_, 1) := by decide +kernel
set_option maxRecDepth 20000 in
theorem ggX6_widen_X6_requireThreeSlots : GoodIn wsX6_widen wsX6_requireThreeSlots := goodIn_ca (goodIn_r _ [6, 7, 8, 5, 9, 10, 11] rfl (by decide +kernel)) (goodIn_sub (fun _ h => List.mem_cons_of_mem _ (List.mem_append_right _ h)) (by decide +kernel))
set_option maxRecDepth 20000 in
theorem gX6_widen_X6_requireThreeSlots : GoodIn wsX6_widen (va_wsS RX6 73 yX6_requireThreeSlots wsX6_requireThreeSlots) := goodIn_app (goodIn_of _ (by decide +kernel)) ggX6_widen_X6_requireThreeSlots
set_option maxRecDepth 20000 in
theorem ggX6_widen_X4_takeOver : GoodIn wsX6_widen wsX4_takeOver := goodIn_r _ [16, 17, 18, 19, 20, 21, 15, 22, 23, 24, 25, 26, 27, 28, 29, 30, 31, 32, 33, 34, 35, 36, 37, 38, 39, 40, 41, 42, 43, 44, 45, 46, 47, 48, 49, 188, 189, 190, 191, 192, 193, 194, 195, 196, 197, 198, 199, 200, 201, 202, 203, 204, 205, 206, 207, 208] rfl (by decide +kernel)
set_option maxRecDepth 20000 in
theorem gX6_widen_X4_takeOver : GoodIn wsX6_widen (wsV RX6 65 RX4 yX4_takeOver wsX4_takeOver) := goodIn_app (goodIn_of _ (by decide +kernel)) ggX6_widen_X4_takeOver
set_option maxRecDepth 20000 in
theorem ggX6_widen_X4_loosenBy : GoodIn wsX6_widen wsX4_loosenBy := goodIn_r _ [53, 54, 55, 23, 18, 56, 57, 58, 59, 15, 60, 17, 61, 13, 14, 16, 19, 20, 21, 22, 24, 25, 26, 27, 28, 29, 30, 31, 32, 33, 34, 35, 36, 37, 38, 39, 40, 41, 42, 43, 44, 45, 46, 47, 48, 49, 62, 63, 64, 65, 66, 67, 68, 69, 70, 71, 72, 73, 74, 75, 76, 77, 78, 79, 80, 81, 82, 83, 84, 85, 86, 87, 88, 89, 90, 91, 92, 93, 94, 95, 96, 5, 97, 98, 99, 100, 101, 102, 103, 104, 105, 106, 107, 108, 109, 110, 111, 112, 113, 114, 115, 116, 117, 118, 119, 120, 121, 122, 123, 124, 125, 126, 127, 128, 129, 130, 131, 132, 133, 134, 135, 136, 137, 138, 139, 140, 141, 142, 143, 144, 145, 146, 147, 148, 149, 150, 151, 152, 153, 154, 155, 156, 157, 158, 159, 160, 161, 162, 163, 164, 165, 166, 167, 168, 169, 170, 171, 172, 173, 174, 175, 176, 177, 178, 179, 180, 188, 189, 190, 191, 209, 210, 211, 192, 193, 194, 195, 196, 197, 198, 199, 200, 201, 202, 203, 204, 205, 206, 207, 208] rfl (by decide +kernel)
set_option maxRecDepth 20000 in
theorem gX6_widen_X4_loosenBy : GoodIn wsX6_widen (wsV RX6 83 RX4 yX4_loosenBy wsX4_loosenBy) := goodIn_app (goodIn_of _ (by decide +kernel)) ggX6_widen_X4_loosenBy
theorem dX6_widen_0 : decode cX6_widen 0 = .ok (.iload_n 1, 1) := by decide +kernel
theorem dX6_widen_1 : decode cX6_widen 1 = .ok (.iload_n 2, 1) := by decide +kernel
theorem dX6_widen_2 : decode cX6_widen 2 = .ok (.iload_n 3, 1) := by decide +kernel
theorem dX6_widen_3 : decode cX6_widen 3 = .ok (.invokestatic 73, 3) := by decide +kernel
theorem dX6_widen_6 : decode cX6_widen 6 = .ok (.aload_n 0, 1) := by decide +kernel
theorem dX6_widen_7 : decode cX6_widen 7 = .ok (.getfield 34, 3) := by decide +kernel
theorem dX6_widen_10 : decode cX6_widen 10 = .ok (.aload_n 0, 1) := by decide +kernel
theorem dX6_widen_11 : decode cX6_widen 11 = .ok (.getfield 16, 3) := by decide +kernel
theorem dX6_widen_14 : decode cX6_widen 14 = .ok (.iload_n 2, 1) := by decide +kernel
theorem dX6_widen_15 : decode cX6_widen 15 = .ok (.aaload, 1) := by decide +kernel
theorem dX6_widen_16 : decode cX6_widen 16 = .ok (.invokevirtual 65, 3) := by decide +kernel
theorem dX6_widen_19 : decode cX6_widen 19 = .ok (.aload_n 0, 1) := by decide +kernel
theorem dX6_widen_20 : decode cX6_widen 20 = .ok (.getfield 34, 3) := by decide +kernel
theorem dX6_widen_23 : decode cX6_widen 23 = .ok (.aload_n 0, 1) := by decide +kernel
theorem dX6_widen_24 : decode cX6_widen 24 = .ok (.getfield 16, 3) := by decide +kernel
theorem dX6_widen_27 : decode cX6_widen 27 = .ok (.iload_n 3, 1) := by decide +kernel
theorem dX6_widen_28 : decode cX6_widen 28 = .ok (.aaload, 1) := by decide +kernel
theorem dX6_widen_29 : decode cX6_widen 29 = .ok (.invokevirtual 83, 3) := by decide +kernel
theorem dX6_widen_32 : decode cX6_widen 32 = .ok (.aload_n 0, 1) := by decide +kernel
theorem dX6_widen_33 : decode cX6_widen 33 = .ok (.getfield 16, 3) := by decide +kernel
theorem dX6_widen_36 : decode cX6_widen 36 = .ok (.iload_n 1, 1) := by decide +kernel
theorem dX6_widen_37 : decode cX6_widen 37 = .ok (.aaload, 1) := by decide +kernel
theorem dX6_widen_38 : decode cX6_widen 38 = .ok (.aload_n 0, 1) := by decide +kernel
theorem dX6_widen_39 : decode cX6_widen 39 = .ok (.getfield 34, 3) := by decide +kernel
theorem dX6_widen_42 : decode cX6_widen 42 = .ok (.invokevirtual 65, 3) := by decide +kernel
theorem dX6_widen_45 : decode cX6_widen 45 = .ok (.return_, 1) := by decide +kernel
set_option maxRecDepth 20000 in
theorem ggX6_forget_X6_requireSlot : GoodIn wsX6_forget wsX6_requireSlot := goodIn_ca (goodIn_r _ [5, 6, 7] rfl (by decide +kernel)) (goodIn_sub (fun _ h => List.mem_cons_of_mem _ (List.mem_append_right _ h)) (by decide +kernel))
set_option maxRecDepth 20000 in
theorem gX6_forget_X6_requireSlot : GoodIn wsX6_forget (va_wsS RX6 53 yX6_requireSlot wsX6_requireSlot) := goodIn_app (goodIn_of _ (by decide +kernel)) ggX6_forget_X6_requireSlot
set_option maxRecDepth 20000 in
theorem ggX6_forget_X6_requireVariable : GoodIn wsX6_forget wsX6_requireVariable := goodIn_ca (goodIn_r _ [10, 6, 7] rfl (by decide +kernel)) (goodIn_sub (fun _ h => List.mem_cons_of_mem _ (List.mem_append_right _ h)) (by decide +kernel))
set_option maxRecDepth 20000 in
theorem gX6_forget_X6_requireVariable : GoodIn wsX6_forget (va_wsS RX6 86 yX6_requireVariable wsX6_requireVariable) := goodIn_app (goodIn_of _ (by decide +kernel)) ggX6_forget_X6_requireVariable
set_option maxRecDepth 20000 in
theorem ggX6_forget_X4_release : GoodIn wsX6_forget wsX4_release := goodIn_r _ [15, 16, 17, 18, 19, 14, 20, 21, 4, 22, 23, 24, 25, 26, 27, 28, 29, 30, 31, 32, 33, 34, 35, 36, 37, 38, 39, 40, 41, 42, 43, 44, 45, 46, 47, 48, 49, 50, 51, 52, 53, 54, 62, 63, 64, 65, 66, 67, 68, 69, 70, 71, 72, 73, 74, 75, 76, 77, 78, 79, 80, 81, 82] rfl (by decide +kernel)
set_option maxRecDepth 20000 in
theorem gX6_forget_X4_release : GoodIn wsX6_forget (wsV RX6 89 RX4 yX4_release wsX4_release) := goodIn_app (goodIn_of _ (by decide +kernel)) ggX6_forget_X4_release
theorem dX6_forget_0 : decode cX6_forget 0 = .ok (.iload_n 1, 1) := by decide +kernel
theorem dX6_forget_1 : decode cX6_forget 1 = .ok (.invokestatic 53, 3) := by decide +kernel
theorem dX6_forget_4 : decode cX6_forget 4 = .ok (.iload_n 2, 1) := by decide +kernel
theorem dX6_forget_5 : decode cX6_forget 5 = .ok (.invokestatic 86, 3) := by decide +kernel
theorem dX6_forget_8 : decode cX6_forget 8 = .ok (.aload_n 0, 1) := by decide +kernel
theorem dX6_forget_9 : decode cX6_forget 9 = .ok (.getfield 16, 3) := by decide +kernel
theorem dX6_forget_12 : decode cX6_forget 12 = .ok (.iload_n 1, 1) := by decide +kernel
theorem dX6_forget_13 : decode cX6_forget 13 = .ok (.aaload, 1) := by decide +kernel
theorem dX6_forget_14 : decode cX6_forget 14 = .ok (.iload_n 2, 1) := by decide +kernel
theorem dX6_forget_15 : decode cX6_forget 15 = .ok (.invokevirtual 89, 3) := by decide +kernel
theorem dX6_forget_18 : decode cX6_forget 18 = .ok (.return_, 1) := by decide +kernel
set_option maxRecDepth 20000 in
theorem ggX6_isEmpty_X6_requireSlot : GoodIn wsX6_isEmpty wsX6_requireSlot := goodIn_ca (goodIn_r _ [6, 7, 8] rfl (by decide +kernel)) (goodIn_sub (fun _ h => List.mem_cons_of_mem _ (List.mem_append_right _ h)) (by decide +kernel))
set_option maxRecDepth 20000 in
theorem gX6_isEmpty_X6_requireSlot : GoodIn wsX6_isEmpty (va_wsS RX6 53 yX6_requireSlot wsX6_requireSlot) := goodIn_app (goodIn_of _ (by decide +kernel)) ggX6_isEmpty_X6_requireSlot
theorem dX6_isEmpty_0 : decode cX6_isEmpty 0 = .ok (.iload_n 1, 1) := by decide +kernel
theorem dX6_isEmpty_1 : decode cX6_isEmpty 1 = .ok (.invokestatic 53, 3) := by decide +kernel
theorem dX6_isEmpty_4 : decode cX6_isEmpty 4 = .ok (.aload_n 0, 1) := by decide +kernel
theorem dX6_isEmpty_5 : decode cX6_isEmpty 5 = .ok (.getfield 16, 3) := by decide +kernel
theorem dX6_isEmpty_8 : decode cX6_isEmpty 8 = .ok (.iload_n 1, 1) := by decide +kernel
theorem dX6_isEmpty_9 : decode cX6_isEmpty 9 = .ok (.aaload, 1) := by decide +kernel
theorem dX6_isEmpty_10 : decode cX6_isEmpty 10 = .ok (.getfield 69, 3) := by decide +kernel
theorem dX6_isEmpty_13 : decode cX6_isEmpty 13 = .ok (.ireturn, 1) := by decide +kernel
set_option maxRecDepth 20000 in
theorem ggX6_most_X6_requireSlot : GoodIn wsX6_most wsX6_requireSlot := goodIn_ca (goodIn_r _ [5, 6, 7] rfl (by decide +kernel)) (goodIn_sub (fun _ h => List.mem_cons_of_mem _ (List.mem_append_left _ (List.mem_append_right _ h))) (by decide +kernel))
set_option maxRecDepth 20000 in
theorem gX6_most_X6_requireSlot : GoodIn wsX6_most (va_wsS RX6 53 yX6_requireSlot wsX6_requireSlot) := goodIn_app (goodIn_of _ (by decide +kernel)) ggX6_most_X6_requireSlot
set_option maxRecDepth 20000 in
theorem ggX6_most_X6_requireTerms : GoodIn wsX6_most wsX6_requireTerms := goodIn_ca (goodIn_r _ [10, 6, 7, 11, 12, 4, 13, 14, 15, 16] rfl (by decide +kernel)) (goodIn_sub (fun _ h => List.mem_cons_of_mem _ (List.mem_append_left _ (List.mem_append_right _ h))) (by decide +kernel))
set_option maxRecDepth 20000 in
theorem gX6_most_X6_requireTerms : GoodIn wsX6_most (va_wsS RX6 92 yX6_requireTerms wsX6_requireTerms) := goodIn_app (goodIn_of _ (by decide +kernel)) ggX6_most_X6_requireTerms
set_option maxRecDepth 20000 in
theorem ggX6_most_X6_requirePlace : GoodIn wsX6_most wsX6_requirePlace := goodIn_ca (goodIn_r _ [20, 21, 22, 1, 23, 131, 132, 133, 134, 135, 136, 137, 138, 139, 140, 141] rfl (by decide +kernel)) (goodIn_sub (fun _ h => List.mem_cons_of_mem _ (List.mem_append_right _ h)) (by decide +kernel))
set_option maxRecDepth 20000 in
theorem gX6_most_X6_requirePlace : GoodIn wsX6_most (wsV RX6 96 RX6 yX6_requirePlace wsX6_requirePlace) := goodIn_app (goodIn_of _ (by decide +kernel)) ggX6_most_X6_requirePlace
set_option maxRecDepth 20000 in
theorem ggX6_most_X4_mostOf : GoodIn wsX6_most wsX4_mostOf := goodIn_r _ [28, 29, 30, 31, 32, 33, 34, 27, 35, 36, 37, 38, 39, 40, 41, 42, 43, 44, 45, 46, 47, 48, 49, 50, 51, 52, 53, 54, 55, 56, 57, 58, 59, 60, 61, 62, 63, 64, 65, 66, 67, 68, 69, 70, 71, 72, 73, 74, 75, 76, 77, 78, 79, 80, 81, 82, 83, 84, 85, 86, 87, 88, 89, 90, 91, 92, 93, 94, 95, 96, 97, 98, 99, 100, 101, 102, 103, 104, 105, 106, 107, 108, 109, 110, 111, 112, 113, 114, 115, 116, 117, 118, 119, 120, 121, 122, 123, 124, 125, 126, 127, 128, 129, 130, 138, 139, 140, 141, 142, 143, 144, 145, 146, 147, 148, 149, 150, 151, 152, 153, 154, 155, 156, 157, 158, 159, 160, 161] rfl (by decide +kernel)
set_option maxRecDepth 20000 in
theorem gX6_most_X4_mostOf : GoodIn wsX6_most (wsV RX6 99 RX4 yX4_mostOf wsX4_mostOf) := goodIn_app (goodIn_of _ (by decide +kernel)) ggX6_most_X4_mostOf
theorem dX6_most_0 : decode cX6_most 0 = .ok (.iload_n 1, 1) := by decide +kernel
theorem dX6_most_1 : decode cX6_most 1 = .ok (.invokestatic 53, 3) := by decide +kernel
theorem dX6_most_4 : decode cX6_most 4 = .ok (.iload_n 2, 1) := by decide +kernel
theorem dX6_most_5 : decode cX6_most 5 = .ok (.iload_n 3, 1) := by decide +kernel
theorem dX6_most_6 : decode cX6_most 6 = .ok (.invokestatic 92, 3) := by decide +kernel
theorem dX6_most_9 : decode cX6_most 9 = .ok (.aload_n 0, 1) := by decide +kernel
theorem dX6_most_10 : decode cX6_most 10 = .ok (.iload_n 1, 1) := by decide +kernel
theorem dX6_most_11 : decode cX6_most 11 = .ok (.invokevirtual 96, 3) := by decide +kernel
theorem dX6_most_14 : decode cX6_most 14 = .ok (.aload_n 0, 1) := by decide +kernel
theorem dX6_most_15 : decode cX6_most 15 = .ok (.getfield 16, 3) := by decide +kernel
theorem dX6_most_18 : decode cX6_most 18 = .ok (.iload_n 1, 1) := by decide +kernel
theorem dX6_most_19 : decode cX6_most 19 = .ok (.aaload, 1) := by decide +kernel
theorem dX6_most_20 : decode cX6_most 20 = .ok (.iload_n 2, 1) := by decide +kernel
theorem dX6_most_21 : decode cX6_most 21 = .ok (.iload_n 3, 1) := by decide +kernel
theorem dX6_most_22 : decode cX6_most 22 = .ok (.invokevirtual 99, 3) := by decide +kernel
theorem dX6_most_25 : decode cX6_most 25 = .ok (.lreturn, 1) := by decide +kernel
set_option maxRecDepth 20000 in
theorem ggX6_inside_X6_requireSlot : GoodIn wsX6_inside wsX6_requireSlot := goodIn_ca (goodIn_r _ [5, 6, 7] rfl (by decide +kernel)) (goodIn_sub (fun _ h => List.mem_cons_of_mem _ (List.mem_append_right _ h)) (by decide +kernel))
set_option maxRecDepth 20000 in
theorem gX6_inside_X6_requireSlot : GoodIn wsX6_inside (va_wsS RX6 53 yX6_requireSlot wsX6_requireSlot) := goodIn_app (goodIn_of _ (by decide +kernel)) ggX6_inside_X6_requireSlot
set_option maxRecDepth 20000 in
theorem ggX6_inside_X4_isWithin : GoodIn wsX6_inside wsX4_isWithin := goodIn_r _ [12, 13, 14, 15, 16, 17, 18, 19, 20, 21, 22, 23, 24, 25, 26, 27, 28, 29, 30, 31, 32, 33, 34, 35, 36, 37, 38, 39, 40, 41, 42, 43, 44, 45, 46, 47, 48, 49, 50, 51, 52, 53, 54, 55, 63, 64, 65, 66, 67, 68, 69, 70, 71, 72, 73, 74, 75, 76, 77, 78, 79, 80, 81, 82, 83] rfl (by decide +kernel)
set_option maxRecDepth 20000 in
theorem gX6_inside_X4_isWithin : GoodIn wsX6_inside (wsV RX6 103 RX4 yX4_isWithin wsX4_isWithin) := goodIn_app (goodIn_of _ (by decide +kernel)) ggX6_inside_X4_isWithin
theorem dX6_inside_0 : decode cX6_inside 0 = .ok (.iload_n 1, 1) := by decide +kernel
theorem dX6_inside_1 : decode cX6_inside 1 = .ok (.invokestatic 53, 3) := by decide +kernel
theorem dX6_inside_4 : decode cX6_inside 4 = .ok (.iload_n 2, 1) := by decide +kernel
theorem dX6_inside_5 : decode cX6_inside 5 = .ok (.invokestatic 53, 3) := by decide +kernel
theorem dX6_inside_8 : decode cX6_inside 8 = .ok (.aload_n 0, 1) := by decide +kernel
theorem dX6_inside_9 : decode cX6_inside 9 = .ok (.getfield 16, 3) := by decide +kernel
theorem dX6_inside_12 : decode cX6_inside 12 = .ok (.iload_n 1, 1) := by decide +kernel
theorem dX6_inside_13 : decode cX6_inside 13 = .ok (.aaload, 1) := by decide +kernel
theorem dX6_inside_14 : decode cX6_inside 14 = .ok (.aload_n 0, 1) := by decide +kernel
theorem dX6_inside_15 : decode cX6_inside 15 = .ok (.getfield 16, 3) := by decide +kernel
theorem dX6_inside_18 : decode cX6_inside 18 = .ok (.iload_n 2, 1) := by decide +kernel
theorem dX6_inside_19 : decode cX6_inside 19 = .ok (.aaload, 1) := by decide +kernel
theorem dX6_inside_20 : decode cX6_inside 20 = .ok (.invokevirtual 103, 3) := by decide +kernel
theorem dX6_inside_23 : decode cX6_inside 23 = .ok (.ireturn, 1) := by decide +kernel
set_option maxRecDepth 20000 in
theorem ggX6_bounds_X6_requireSlot : GoodIn wsX6_bounds wsX6_requireSlot := goodIn_ca (goodIn_r _ [6, 7, 8] rfl (by decide +kernel)) (goodIn_sub (fun _ h => List.mem_cons_of_mem _ (List.mem_append_right _ h)) (by decide +kernel))
set_option maxRecDepth 20000 in
theorem gX6_bounds_X6_requireSlot : GoodIn wsX6_bounds (va_wsS RX6 53 yX6_requireSlot wsX6_requireSlot) := goodIn_app (goodIn_of _ (by decide +kernel)) ggX6_bounds_X6_requireSlot
set_option maxRecDepth 20000 in
theorem ggX6_bounds_X4_countBounds : GoodIn wsX6_bounds wsX4_countBounds := goodIn_r _ [13, 14, 15, 16, 5, 17, 18, 19, 12, 20, 28, 29, 30, 31] rfl (by decide +kernel)
set_option maxRecDepth 20000 in
theorem gX6_bounds_X4_countBounds : GoodIn wsX6_bounds (wsV RX6 107 RX4 yX4_countBounds wsX4_countBounds) := goodIn_app (goodIn_of _ (by decide +kernel)) ggX6_bounds_X4_countBounds
theorem dX6_bounds_0 : decode cX6_bounds 0 = .ok (.iload_n 1, 1) := by decide +kernel
theorem dX6_bounds_1 : decode cX6_bounds 1 = .ok (.invokestatic 53, 3) := by decide +kernel
theorem dX6_bounds_4 : decode cX6_bounds 4 = .ok (.aload_n 0, 1) := by decide +kernel
theorem dX6_bounds_5 : decode cX6_bounds 5 = .ok (.getfield 16, 3) := by decide +kernel
theorem dX6_bounds_8 : decode cX6_bounds 8 = .ok (.iload_n 1, 1) := by decide +kernel
theorem dX6_bounds_9 : decode cX6_bounds 9 = .ok (.aaload, 1) := by decide +kernel
theorem dX6_bounds_10 : decode cX6_bounds 10 = .ok (.getfield 69, 3) := by decide +kernel
theorem dX6_bounds_13 : decode cX6_bounds 13 = .ok (.ifCond .eq 7, 3) := by decide +kernel
theorem dX6_bounds_16 : decode cX6_bounds 16 = .ok (.iconst (-1), 1) := by decide +kernel
theorem dX6_bounds_17 : decode cX6_bounds 17 = .ok (.goto 12, 3) := by decide +kernel
theorem dX6_bounds_20 : decode cX6_bounds 20 = .ok (.aload_n 0, 1) := by decide +kernel
theorem dX6_bounds_21 : decode cX6_bounds 21 = .ok (.getfield 16, 3) := by decide +kernel
theorem dX6_bounds_24 : decode cX6_bounds 24 = .ok (.iload_n 1, 1) := by decide +kernel
theorem dX6_bounds_25 : decode cX6_bounds 25 = .ok (.aaload, 1) := by decide +kernel
theorem dX6_bounds_26 : decode cX6_bounds 26 = .ok (.invokevirtual 107, 3) := by decide +kernel
theorem dX6_bounds_29 : decode cX6_bounds 29 = .ok (.ireturn, 1) := by decide +kernel
set_option maxRecDepth 20000 in
theorem ggX6_first_X6_requireSlot : GoodIn wsX6_first wsX6_requireSlot := goodIn_ca (goodIn_r _ [6, 7, 8] rfl (by decide +kernel)) (goodIn_sub (fun _ h => List.mem_cons_of_mem _ (List.mem_append_left _ (List.mem_append_right _ h))) (by decide +kernel))
set_option maxRecDepth 20000 in
theorem gX6_first_X6_requireSlot : GoodIn wsX6_first (va_wsS RX6 53 yX6_requireSlot wsX6_requireSlot) := goodIn_app (goodIn_of _ (by decide +kernel)) ggX6_first_X6_requireSlot
set_option maxRecDepth 20000 in
theorem ggX6_first_X6_requireVariable : GoodIn wsX6_first wsX6_requireVariable := goodIn_ca (goodIn_r _ [11, 7, 8] rfl (by decide +kernel)) (goodIn_sub (fun _ h => List.mem_cons_of_mem _ (List.mem_append_left _ (List.mem_append_right _ h))) (by decide +kernel))
set_option maxRecDepth 20000 in
theorem gX6_first_X6_requireVariable : GoodIn wsX6_first (va_wsS RX6 86 yX6_requireVariable wsX6_requireVariable) := goodIn_app (goodIn_of _ (by decide +kernel)) ggX6_first_X6_requireVariable
set_option maxRecDepth 20000 in
theorem ggX6_first_X6_requirePlace : GoodIn wsX6_first wsX6_requirePlace := goodIn_ca (goodIn_r _ [15, 16, 17, 2, 18, 205, 206, 207, 208, 209, 210, 211, 212, 213, 214, 215] rfl (by decide +kernel)) (goodIn_sub (fun _ h => List.mem_cons_of_mem _ (List.mem_append_right _ h)) (by decide +kernel))
set_option maxRecDepth 20000 in
theorem gX6_first_X6_requirePlace : GoodIn wsX6_first (wsV RX6 96 RX6 yX6_requirePlace wsX6_requirePlace) := goodIn_app (goodIn_of _ (by decide +kernel)) ggX6_first_X6_requirePlace
set_option maxRecDepth 20000 in
theorem ggX6_first_X4_takeOver : GoodIn wsX6_first wsX4_takeOver := goodIn_r _ [23, 24, 25, 26, 27, 28, 22, 29, 30, 31, 32, 33, 34, 35, 36, 37, 38, 39, 40, 41, 42, 43, 44, 45, 46, 47, 48, 49, 50, 51, 52, 53, 54, 55, 56, 212, 213, 214, 215, 216, 217, 218, 219, 220, 221, 222, 223, 224, 225, 226, 227, 228, 229, 230, 231, 232] rfl (by decide +kernel)
set_option maxRecDepth 20000 in
theorem gX6_first_X4_takeOver : GoodIn wsX6_first (wsV RX6 65 RX4 yX4_takeOver wsX4_takeOver) := goodIn_app (goodIn_of _ (by decide +kernel)) ggX6_first_X4_takeOver
set_option maxRecDepth 20000 in
theorem ggX6_first_X4_settle : GoodIn wsX6_first wsX4_settle := goodIn_r _ [60, 25, 61, 62, 30, 63, 64, 22, 65, 66, 67, 68, 69, 70, 71, 72, 73, 32, 33, 34, 35, 36, 37, 38, 39, 40, 41, 42, 43, 44, 45, 46, 47, 48, 49, 50, 51, 52, 53, 54, 55, 56, 74, 75, 76, 77, 78, 24, 79, 80, 81, 82, 83, 84, 85, 86, 87, 88, 89, 90, 91, 92, 93, 94, 95, 96, 97, 98, 99, 100, 101, 102, 103, 104, 105, 26, 27, 28, 29, 31, 106, 107, 108, 109, 110, 5, 111, 112, 113, 114, 115, 116, 117, 118, 119, 120, 121, 122, 123, 124, 125, 126, 127, 128, 129, 130, 131, 132, 133, 134, 135, 136, 137, 138, 139, 140, 141, 142, 143, 144, 145, 146, 147, 148, 149, 150, 151, 152, 153, 154, 155, 156, 157, 158, 159, 160, 161, 162, 163, 164, 165, 166, 167, 168, 169, 170, 171, 172, 173, 174, 175, 176, 177, 178, 179, 180, 181, 182, 183, 184, 185, 186, 187, 188, 189, 190, 191, 192, 193, 212, 213, 214, 215, 233, 234, 235, 216, 217, 218, 219, 220, 221, 222, 223, 224, 225, 226, 227, 228, 229, 230, 231, 232] rfl (by decide +kernel)
set_option maxRecDepth 20000 in
theorem gX6_first_X4_settle : GoodIn wsX6_first (wsV RX6 111 RX4 yX4_settle wsX4_settle) := goodIn_app (goodIn_of _ (by decide +kernel)) ggX6_first_X4_settle
set_option maxRecDepth 20000 in
theorem ggX6_first_X4_mostOf : GoodIn wsX6_first wsX4_mostOf := goodIn_r _ [197, 30, 25, 62, 78, 63, 64, 22, 65, 198, 199, 200, 34, 201, 117, 202, 203, 204, 41, 37, 38, 39, 40, 42, 43, 44, 45, 46, 173, 174, 175, 130, 176, 144, 177, 163, 159, 160, 161, 162, 168, 169, 170, 171, 51, 172, 52, 100, 122, 123, 124, 125, 126, 55, 56, 127, 128, 129, 90, 91, 92, 93, 131, 53, 54, 132, 133, 134, 135, 136, 137, 138, 139, 140, 141, 142, 143, 145, 146, 147, 148, 149, 150, 47, 48, 49, 50, 154, 155, 156, 157, 158, 66, 67, 68, 69, 70, 71, 72, 73, 32, 33, 35, 36, 212, 213, 214, 215, 233, 234, 235, 216, 217, 218, 219, 220, 221, 222, 223, 224, 225, 226, 227, 228, 229, 230, 231, 232] rfl (by decide +kernel)
set_option maxRecDepth 20000 in
theorem gX6_first_X4_mostOf : GoodIn wsX6_first (wsV RX6 99 RX4 yX4_mostOf wsX4_mostOf) := goodIn_app (goodIn_of _ (by decide +kernel)) ggX6_first_X4_mostOf
theorem dX6_first_0 : decode cX6_first 0 = .ok (.iload_n 1, 1) := by decide +kernel
theorem dX6_first_1 : decode cX6_first 1 = .ok (.invokestatic 53, 3) := by decide +kernel
theorem dX6_first_4 : decode cX6_first 4 = .ok (.iload_n 2, 1) := by decide +kernel
theorem dX6_first_5 : decode cX6_first 5 = .ok (.invokestatic 86, 3) := by decide +kernel
theorem dX6_first_8 : decode cX6_first 8 = .ok (.aload_n 0, 1) := by decide +kernel
theorem dX6_first_9 : decode cX6_first 9 = .ok (.iload_n 1, 1) := by decide +kernel
theorem dX6_first_10 : decode cX6_first 10 = .ok (.invokevirtual 96, 3) := by decide +kernel
theorem dX6_first_13 : decode cX6_first 13 = .ok (.aload_n 0, 1) := by decide +kernel
theorem dX6_first_14 : decode cX6_first 14 = .ok (.getfield 34, 3) := by decide +kernel
theorem dX6_first_17 : decode cX6_first 17 = .ok (.aload_n 0, 1) := by decide +kernel
theorem dX6_first_18 : decode cX6_first 18 = .ok (.getfield 16, 3) := by decide +kernel
theorem dX6_first_21 : decode cX6_first 21 = .ok (.iload_n 1, 1) := by decide +kernel
theorem dX6_first_22 : decode cX6_first 22 = .ok (.aaload, 1) := by decide +kernel
theorem dX6_first_23 : decode cX6_first 23 = .ok (.invokevirtual 65, 3) := by decide +kernel
theorem dX6_first_26 : decode cX6_first 26 = .ok (.iconst 0, 1) := by decide +kernel
theorem dX6_first_27 : decode cX6_first 27 = .ok (.istore_n 3, 1) := by decide +kernel
theorem dX6_first_28 : decode cX6_first 28 = .ok (.iload_n 3, 1) := by decide +kernel
theorem dX6_first_29 : decode cX6_first 29 = .ok (.iload_n 2, 1) := by decide +kernel
theorem dX6_first_30 : decode cX6_first 30 = .ok (.if_icmp .gt 17, 3) := by decide +kernel
theorem dX6_first_33 : decode cX6_first 33 = .ok (.aload_n 0, 1) := by decide +kernel
theorem dX6_first_34 : decode cX6_first 34 = .ok (.getfield 34, 3) := by decide +kernel
theorem dX6_first_37 : decode cX6_first 37 = .ok (.iload_n 3, 1) := by decide +kernel
theorem dX6_first_38 : decode cX6_first 38 = .ok (.invokevirtual 111, 3) := by decide +kernel
theorem dX6_first_41 : decode cX6_first 41 = .ok (.iinc 3 1, 3) := by decide +kernel
theorem dX6_first_44 : decode cX6_first 44 = .ok (.goto (-16), 3) := by decide +kernel
theorem dX6_first_47 : decode cX6_first 47 = .ok (.aload_n 0, 1) := by decide +kernel
theorem dX6_first_48 : decode cX6_first 48 = .ok (.getfield 34, 3) := by decide +kernel
theorem dX6_first_51 : decode cX6_first 51 = .ok (.iconst 2, 1) := by decide +kernel
theorem dX6_first_52 : decode cX6_first 52 = .ok (.iload_n 2, 1) := by decide +kernel
theorem dX6_first_53 : decode cX6_first 53 = .ok (.imul, 1) := by decide +kernel
theorem dX6_first_54 : decode cX6_first 54 = .ok (.iconst 2, 1) := by decide +kernel
theorem dX6_first_55 : decode cX6_first 55 = .ok (.iload_n 2, 1) := by decide +kernel
theorem dX6_first_56 : decode cX6_first 56 = .ok (.imul, 1) := by decide +kernel
theorem dX6_first_57 : decode cX6_first 57 = .ok (.invokevirtual 99, 3) := by decide +kernel
theorem dX6_first_60 : decode cX6_first 60 = .ok (.lreturn, 1) := by decide +kernel
set_option maxRecDepth 20000 in
theorem ggX6_places_X6_requireSlot : GoodIn wsX6_places wsX6_requireSlot := goodIn_ca (goodIn_r _ [7, 8, 9] rfl (by decide +kernel)) (goodIn_sub (fun _ h => List.mem_cons_of_mem _ (List.mem_append_right _ h)) (by decide +kernel))
set_option maxRecDepth 20000 in
theorem gX6_places_X6_requireSlot : GoodIn wsX6_places (va_wsS RX6 53 yX6_requireSlot wsX6_requireSlot) := goodIn_app (goodIn_of _ (by decide +kernel)) ggX6_places_X6_requireSlot
set_option maxRecDepth 20000 in
theorem ggX6_places_X4_takeOver : GoodIn wsX6_places wsX4_takeOver := goodIn_r _ [14, 15, 16, 17, 18, 19, 13, 20, 21, 22, 23, 24, 25, 26, 27, 28, 29, 30, 31, 32, 33, 34, 35, 36, 37, 38, 39, 40, 41, 42, 43, 44, 45, 46, 47, 181, 182, 183, 184, 185, 186, 187, 188, 189, 190, 191, 192, 193, 194, 195, 196, 197, 198, 199, 200, 201] rfl (by decide +kernel)
set_option maxRecDepth 20000 in
theorem gX6_places_X4_takeOver : GoodIn wsX6_places (wsV RX6 65 RX4 yX4_takeOver wsX4_takeOver) := goodIn_app (goodIn_of _ (by decide +kernel)) ggX6_places_X4_takeOver
set_option maxRecDepth 20000 in
theorem ggX6_places_X4_shiftToLeast : GoodIn wsX6_places wsX4_shiftToLeast := goodIn_r _ [51, 16, 52, 53, 21, 54, 55, 56, 13, 57, 58, 59, 60, 25, 61, 32, 42, 62, 43, 63, 64, 65, 28, 29, 30, 31, 33, 34, 35, 36, 37, 66, 67, 68, 69, 46, 47, 70, 71, 72, 73, 74, 75, 76, 77, 78, 44, 45, 79, 80, 81, 82, 83, 84, 85, 86, 87, 88, 89, 90, 91, 92, 93, 94, 95, 96, 97, 38, 39, 40, 41, 98, 99, 100, 101, 102, 103, 104, 105, 106, 107, 108, 109, 110, 111, 112, 113, 114, 115, 116, 117, 118, 119, 120, 23, 24, 26, 27, 121, 122, 123, 124, 125, 126, 127, 128, 129, 130, 131, 132, 133, 134, 135, 136, 137, 138, 139, 140, 141, 142, 143, 144, 145, 146, 17, 18, 19, 20, 22, 181, 182, 183, 184, 202, 203, 204, 185, 186, 187, 188, 189, 190, 200, 201, 191, 192, 193, 194, 195, 196, 197, 198, 199] rfl (by decide +kernel)
set_option maxRecDepth 20000 in
theorem gX6_places_X4_shiftToLeast : GoodIn wsX6_places (wsV RX6 114 RX4 yX4_shiftToLeast wsX4_shiftToLeast) := goodIn_app (goodIn_of _ (by decide +kernel)) ggX6_places_X4_shiftToLeast
theorem dX6_places_0 : decode cX6_places 0 = .ok (.iload_n 1, 1) := by decide +kernel
theorem dX6_places_1 : decode cX6_places 1 = .ok (.invokestatic 53, 3) := by decide +kernel
theorem dX6_places_4 : decode cX6_places 4 = .ok (.aload_n 0, 1) := by decide +kernel
theorem dX6_places_5 : decode cX6_places 5 = .ok (.getfield 16, 3) := by decide +kernel
theorem dX6_places_8 : decode cX6_places 8 = .ok (.iload_n 1, 1) := by decide +kernel
theorem dX6_places_9 : decode cX6_places 9 = .ok (.aaload, 1) := by decide +kernel
theorem dX6_places_10 : decode cX6_places 10 = .ok (.getfield 69, 3) := by decide +kernel
theorem dX6_places_13 : decode cX6_places 13 = .ok (.ifCond .eq 5, 3) := by decide +kernel
theorem dX6_places_16 : decode cX6_places 16 = .ok (.iconst 0, 1) := by decide +kernel
theorem dX6_places_17 : decode cX6_places 17 = .ok (.ireturn, 1) := by decide +kernel
theorem dX6_places_18 : decode cX6_places 18 = .ok (.aload_n 0, 1) := by decide +kernel
theorem dX6_places_19 : decode cX6_places 19 = .ok (.getfield 34, 3) := by decide +kernel
theorem dX6_places_22 : decode cX6_places 22 = .ok (.aload_n 0, 1) := by decide +kernel
theorem dX6_places_23 : decode cX6_places 23 = .ok (.getfield 16, 3) := by decide +kernel
theorem dX6_places_26 : decode cX6_places 26 = .ok (.iload_n 1, 1) := by decide +kernel
theorem dX6_places_27 : decode cX6_places 27 = .ok (.aaload, 1) := by decide +kernel
theorem dX6_places_28 : decode cX6_places 28 = .ok (.invokevirtual 65, 3) := by decide +kernel
theorem dX6_places_31 : decode cX6_places 31 = .ok (.aload_n 0, 1) := by decide +kernel
theorem dX6_places_32 : decode cX6_places 32 = .ok (.getfield 34, 3) := by decide +kernel
theorem dX6_places_35 : decode cX6_places 35 = .ok (.invokevirtual 114, 3) := by decide +kernel
theorem dX6_places_38 : decode cX6_places 38 = .ok (.ifCond .eq 10, 3) := by decide +kernel
theorem dX6_places_41 : decode cX6_places 41 = .ok (.aload_n 0, 1) := by decide +kernel
theorem dX6_places_42 : decode cX6_places 42 = .ok (.invokevirtual 118, 3) := by decide +kernel
theorem dX6_places_45 : decode cX6_places 45 = .ok (.ifCond .ne 5, 3) := by decide +kernel
theorem dX6_places_48 : decode cX6_places 48 = .ok (.iconst (-1), 1) := by decide +kernel
theorem dX6_places_49 : decode cX6_places 49 = .ok (.ireturn, 1) := by decide +kernel
theorem dX6_places_50 : decode cX6_places 50 = .ok (.aload_n 0, 1) := by decide +kernel
theorem dX6_places_51 : decode cX6_places 51 = .ok (.iconst 0, 1) := by decide +kernel
theorem dX6_places_52 : decode cX6_places 52 = .ok (.invokevirtual 121, 3) := by decide +kernel
theorem dX6_places_55 : decode cX6_places 55 = .ok (.ireturn, 1) := by decide +kernel
set_option maxRecDepth 20000 in
theorem ggX6_step_X6_requireAction : GoodIn wsX6_step wsX6_requireAction := goodIn_ca (goodIn_r _ [10, 1, 2, 11, 12, 9, 13, 14, 15, 16, 17, 18, 19, 20, 21, 22, 23, 24, 25, 26, 27] rfl (by decide +kernel)) (goodIn_sub (fun _ h => List.mem_cons_of_mem _ (List.mem_append_left _ (List.mem_append_right _ h))) (by decide +kernel))
set_option maxRecDepth 20000 in
theorem gX6_step_X6_requireAction : GoodIn wsX6_step (va_wsS RX6 57 yX6_requireAction wsX6_requireAction) := goodIn_app (goodIn_of _ (by decide +kernel)) ggX6_step_X6_requireAction
set_option maxRecDepth 20000 in
theorem ggX6_step_X5_write : GoodIn wsX6_step wsX5_write := goodIn_r _ [32, 33, 34, 35, 36, 37, 38, 46, 47, 48, 49, 50, 51] rfl (by decide +kernel)
set_option maxRecDepth 20000 in
theorem gX6_step_X5_write : GoodIn wsX6_step (wsV RX6 137 RX5 yX5_write wsX5_write) := goodIn_app (goodIn_of _ (by decide +kernel)) ggX6_step_X5_write
theorem dX6_step_0 : decode cX6_step 0 = .ok (.iload_n 1, 1) := by decide +kernel
theorem dX6_step_1 : decode cX6_step 1 = .ok (.ifCond .lt 9, 3) := by decide +kernel
theorem dX6_step_4 : decode cX6_step 4 = .ok (.iload_n 1, 1) := by decide +kernel
theorem dX6_step_5 : decode cX6_step 5 = .ok (.bipush 64, 2) := by decide +kernel
theorem dX6_step_7 : decode cX6_step 7 = .ok (.if_icmp .lt 13, 3) := by decide +kernel
theorem dX6_step_10 : decode cX6_step 10 = .ok (.new 125, 3) := by decide +kernel
theorem dX6_step_13 : decode cX6_step 13 = .ok (.dup, 1) := by decide +kernel
theorem dX6_step_14 : decode cX6_step 14 = .ok (.ldc 127, 2) := by decide +kernel
theorem dX6_step_16 : decode cX6_step 16 = .ok (.invokespecial 129, 3) := by decide +kernel
theorem dX6_step_19 : decode cX6_step 19 = .ok (.athrow, 1) := by decide +kernel
theorem dX6_step_20 : decode cX6_step 20 = .ok (.iload_n 2, 1) := by decide +kernel
theorem dX6_step_21 : decode cX6_step 21 = .ok (.iload_n 3, 1) := by decide +kernel
theorem dX6_step_22 : decode cX6_step 22 = .ok (.iload 4, 2) := by decide +kernel
theorem dX6_step_24 : decode cX6_step 24 = .ok (.iload 5, 2) := by decide +kernel
theorem dX6_step_26 : decode cX6_step 26 = .ok (.invokestatic 57, 3) := by decide +kernel
theorem dX6_step_29 : decode cX6_step 29 = .ok (.aload_n 0, 1) := by decide +kernel
theorem dX6_step_30 : decode cX6_step 30 = .ok (.getfield 42, 3) := by decide +kernel
theorem dX6_step_33 : decode cX6_step 33 = .ok (.bipush 20, 2) := by decide +kernel
theorem dX6_step_35 : decode cX6_step 35 = .ok (.if_icmp .lt 13, 3) := by decide +kernel
theorem dX6_step_38 : decode cX6_step 38 = .ok (.new 132, 3) := by decide +kernel
theorem dX6_step_41 : decode cX6_step 41 = .ok (.dup, 1) := by decide +kernel
theorem dX6_step_42 : decode cX6_step 42 = .ok (.ldc 134, 2) := by decide +kernel
theorem dX6_step_44 : decode cX6_step 44 = .ok (.invokespecial 136, 3) := by decide +kernel
theorem dX6_step_47 : decode cX6_step 47 = .ok (.athrow, 1) := by decide +kernel
theorem dX6_step_48 : decode cX6_step 48 = .ok (.aload_n 0, 1) := by decide +kernel
theorem dX6_step_49 : decode cX6_step 49 = .ok (.getfield 48, 3) := by decide +kernel
theorem dX6_step_52 : decode cX6_step 52 = .ok (.aload_n 0, 1) := by decide +kernel
theorem dX6_step_53 : decode cX6_step 53 = .ok (.getfield 42, 3) := by decide +kernel
theorem dX6_step_56 : decode cX6_step 56 = .ok (.aaload, 1) := by decide +kernel
theorem dX6_step_57 : decode cX6_step 57 = .ok (.iload_n 1, 1) := by decide +kernel
theorem dX6_step_58 : decode cX6_step 58 = .ok (.iload_n 2, 1) := by decide +kernel
theorem dX6_step_59 : decode cX6_step 59 = .ok (.iload_n 3, 1) := by decide +kernel
theorem dX6_step_60 : decode cX6_step 60 = .ok (.iload 4, 2) := by decide +kernel
theorem dX6_step_62 : decode cX6_step 62 = .ok (.iload 5, 2) := by decide +kernel
theorem dX6_step_64 : decode cX6_step 64 = .ok (.invokevirtual 137, 3) := by decide +kernel
theorem dX6_step_67 : decode cX6_step 67 = .ok (.aload_n 0, 1) := by decide +kernel
theorem dX6_step_68 : decode cX6_step 68 = .ok (.dup, 1) := by decide +kernel
theorem dX6_step_69 : decode cX6_step 69 = .ok (.getfield 42, 3) := by decide +kernel
theorem dX6_step_72 : decode cX6_step 72 = .ok (.iconst 1, 1) := by decide +kernel
theorem dX6_step_73 : decode cX6_step 73 = .ok (.iadd, 1) := by decide +kernel
theorem dX6_step_74 : decode cX6_step 74 = .ok (.putfield 42, 3) := by decide +kernel
theorem dX6_step_77 : decode cX6_step 77 = .ok (.aload_n 0, 1) := by decide +kernel
theorem dX6_step_78 : decode cX6_step 78 = .ok (.getfield 42, 3) := by decide +kernel
theorem dX6_step_81 : decode cX6_step 81 = .ok (.iconst 1, 1) := by decide +kernel
theorem dX6_step_82 : decode cX6_step 82 = .ok (.isub, 1) := by decide +kernel
theorem dX6_step_83 : decode cX6_step 83 = .ok (.ireturn, 1) := by decide +kernel
theorem dX6_erase_0 : decode cX6_erase 0 = .ok (.aload_n 0, 1) := by decide +kernel
theorem dX6_erase_1 : decode cX6_erase 1 = .ok (.getfield 42, 3) := by decide +kernel
theorem dX6_erase_4 : decode cX6_erase 4 = .ok (.istore_n 1, 1) := by decide +kernel
theorem dX6_erase_5 : decode cX6_erase 5 = .ok (.aload_n 0, 1) := by decide +kernel
theorem dX6_erase_6 : decode cX6_erase 6 = .ok (.iconst 0, 1) := by decide +kernel
theorem dX6_erase_7 : decode cX6_erase 7 = .ok (.putfield 42, 3) := by decide +kernel
theorem dX6_erase_10 : decode cX6_erase 10 = .ok (.iload_n 1, 1) := by decide +kernel
theorem dX6_erase_11 : decode cX6_erase 11 = .ok (.ireturn, 1) := by decide +kernel
set_option maxRecDepth 20000 in
theorem ggX6_run_X6_requireSlot : GoodIn wsX6_run wsX6_requireSlot := goodIn_ca (goodIn_r _ [8, 9, 10] rfl (by decide +kernel)) (goodIn_sub (fun _ h => List.mem_cons_of_mem _ (List.mem_append_right _ h)) (by decide +kernel))
set_option maxRecDepth 20000 in
theorem gX6_run_X6_requireSlot : GoodIn wsX6_run (va_wsS RX6 53 yX6_requireSlot wsX6_requireSlot) := goodIn_app (goodIn_of _ (by decide +kernel)) ggX6_run_X6_requireSlot
set_option maxRecDepth 20000 in
theorem ggX6_run_X4_allowNone : GoodIn wsX6_run wsX4_allowNone := goodIn_r _ [15, 16, 17, 18, 19, 20, 21, 22, 23, 24, 25, 26, 27, 28, 29, 30, 31, 32, 33, 34, 35, 36, 37, 38, 39, 40, 41, 42, 43, 44, 248, 249, 250, 251, 252, 253, 254, 255, 256, 257, 258, 259, 260, 261, 262, 263, 264, 265, 266, 267, 268] rfl (by decide +kernel)
set_option maxRecDepth 20000 in
theorem gX6_run_X4_allowNone : GoodIn wsX6_run (wsV RX6 141 RX4 yX4_allowNone wsX4_allowNone) := goodIn_app (goodIn_of _ (by decide +kernel)) ggX6_run_X4_allowNone
set_option maxRecDepth 20000 in
theorem ggX6_run_X4_takeOver : GoodIn wsX6_run wsX4_takeOver := goodIn_r _ [48, 16, 17, 49, 50, 51, 14, 52, 18, 19, 20, 21, 22, 23, 24, 25, 26, 27, 28, 29, 30, 31, 32, 33, 34, 35, 36, 37, 38, 39, 40, 41, 42, 43, 44, 248, 249, 250, 251, 252, 253, 254, 255, 256, 257, 258, 259, 260, 261, 262, 263, 264, 265, 266, 267, 268] rfl (by decide +kernel)
set_option maxRecDepth 20000 in
theorem gX6_run_X4_takeOver : GoodIn wsX6_run (wsV RX6 65 RX4 yX4_takeOver wsX4_takeOver) := goodIn_app (goodIn_of _ (by decide +kernel)) ggX6_run_X4_takeOver
set_option maxRecDepth 20000 in
theorem ggX6_run_X6_keepReached : GoodIn wsX6_run wsX6_keepReached := goodIn_r _ [239, 240, 1, 241, 242, 243, 244, 245, 246, 247] rfl (by decide +kernel)
set_option maxRecDepth 20000 in
theorem gX6_run_X6_keepReached : GoodIn wsX6_run (wsV RX6 148 RX6 yX6_keepReached wsX6_keepReached) := goodIn_app (goodIn_of _ (by decide +kernel)) ggX6_run_X6_keepReached
theorem dX6_run_0 : decode cX6_run 0 = .ok (.iload_n 1, 1) := by decide +kernel
theorem dX6_run_1 : decode cX6_run 1 = .ok (.invokestatic 53, 3) := by decide +kernel
theorem dX6_run_4 : decode cX6_run 4 = .ok (.iconst 0, 1) := by decide +kernel
theorem dX6_run_5 : decode cX6_run 5 = .ok (.istore_n 2, 1) := by decide +kernel
theorem dX6_run_6 : decode cX6_run 6 = .ok (.iload_n 2, 1) := by decide +kernel
theorem dX6_run_7 : decode cX6_run 7 = .ok (.bipush 8, 2) := by decide +kernel
theorem dX6_run_9 : decode cX6_run 9 = .ok (.if_icmp .ge 18, 3) := by decide +kernel
theorem dX6_run_12 : decode cX6_run 12 = .ok (.aload_n 0, 1) := by decide +kernel
theorem dX6_run_13 : decode cX6_run 13 = .ok (.getfield 28, 3) := by decide +kernel
theorem dX6_run_16 : decode cX6_run 16 = .ok (.iload_n 2, 1) := by decide +kernel
theorem dX6_run_17 : decode cX6_run 17 = .ok (.aaload, 1) := by decide +kernel
theorem dX6_run_18 : decode cX6_run 18 = .ok (.invokevirtual 141, 3) := by decide +kernel
theorem dX6_run_21 : decode cX6_run 21 = .ok (.iinc 2 1, 3) := by decide +kernel
theorem dX6_run_24 : decode cX6_run 24 = .ok (.goto (-18), 3) := by decide +kernel
theorem dX6_run_27 : decode cX6_run 27 = .ok (.aload_n 0, 1) := by decide +kernel
theorem dX6_run_28 : decode cX6_run 28 = .ok (.getfield 28, 3) := by decide +kernel
theorem dX6_run_31 : decode cX6_run 31 = .ok (.iconst 0, 1) := by decide +kernel
theorem dX6_run_32 : decode cX6_run 32 = .ok (.aaload, 1) := by decide +kernel
theorem dX6_run_33 : decode cX6_run 33 = .ok (.aload_n 0, 1) := by decide +kernel
theorem dX6_run_34 : decode cX6_run 34 = .ok (.getfield 16, 3) := by decide +kernel
theorem dX6_run_37 : decode cX6_run 37 = .ok (.iload_n 1, 1) := by decide +kernel
theorem dX6_run_38 : decode cX6_run 38 = .ok (.aaload, 1) := by decide +kernel
theorem dX6_run_39 : decode cX6_run 39 = .ok (.invokevirtual 65, 3) := by decide +kernel
theorem dX6_run_42 : decode cX6_run 42 = .ok (.iconst 1, 1) := by decide +kernel
theorem dX6_run_43 : decode cX6_run 43 = .ok (.istore_n 2, 1) := by decide +kernel
theorem dX6_run_44 : decode cX6_run 44 = .ok (.iload_n 2, 1) := by decide +kernel
theorem dX6_run_45 : decode cX6_run 45 = .ok (.bipush 30, 2) := by decide +kernel
theorem dX6_run_47 : decode cX6_run 47 = .ok (.if_icmp .gt 54, 3) := by decide +kernel
theorem dX6_run_50 : decode cX6_run 50 = .ok (.iconst 0, 1) := by decide +kernel
theorem dX6_run_51 : decode cX6_run 51 = .ok (.istore_n 3, 1) := by decide +kernel
theorem dX6_run_52 : decode cX6_run 52 = .ok (.iconst 0, 1) := by decide +kernel
theorem dX6_run_53 : decode cX6_run 53 = .ok (.istore 4, 2) := by decide +kernel
theorem dX6_run_55 : decode cX6_run 55 = .ok (.iload 4, 2) := by decide +kernel
theorem dX6_run_57 : decode cX6_run 57 = .ok (.aload_n 0, 1) := by decide +kernel
theorem dX6_run_58 : decode cX6_run 58 = .ok (.getfield 42, 3) := by decide +kernel
theorem dX6_run_61 : decode cX6_run 61 = .ok (.if_icmp .ge 24, 3) := by decide +kernel
theorem dX6_run_64 : decode cX6_run 64 = .ok (.iload_n 3, 1) := by decide +kernel
theorem dX6_run_65 : decode cX6_run 65 = .ok (.aload_n 0, 1) := by decide +kernel
theorem dX6_run_66 : decode cX6_run 66 = .ok (.aload_n 0, 1) := by decide +kernel
theorem dX6_run_67 : decode cX6_run 67 = .ok (.getfield 48, 3) := by decide +kernel
theorem dX6_run_70 : decode cX6_run 70 = .ok (.iload 4, 2) := by decide +kernel
theorem dX6_run_72 : decode cX6_run 72 = .ok (.aaload, 1) := by decide +kernel
theorem dX6_run_73 : decode cX6_run 73 = .ok (.iload_n 2, 1) := by decide +kernel
theorem dX6_run_74 : decode cX6_run 74 = .ok (.invokevirtual 144, 3) := by decide +kernel
theorem dX6_run_77 : decode cX6_run 77 = .ok (.ior, 1) := by decide +kernel
theorem dX6_run_78 : decode cX6_run 78 = .ok (.istore_n 3, 1) := by decide +kernel
theorem dX6_run_79 : decode cX6_run 79 = .ok (.iinc 4 1, 3) := by decide +kernel
theorem dX6_run_82 : decode cX6_run 82 = .ok (.goto (-27), 3) := by decide +kernel
theorem dX6_run_85 : decode cX6_run 85 = .ok (.iload_n 3, 1) := by decide +kernel
theorem dX6_run_86 : decode cX6_run 86 = .ok (.ifCond .ne 9, 3) := by decide +kernel
theorem dX6_run_89 : decode cX6_run 89 = .ok (.aload_n 0, 1) := by decide +kernel
theorem dX6_run_90 : decode cX6_run 90 = .ok (.invokevirtual 148, 3) := by decide +kernel
theorem dX6_run_93 : decode cX6_run 93 = .ok (.iload_n 2, 1) := by decide +kernel
theorem dX6_run_94 : decode cX6_run 94 = .ok (.ireturn, 1) := by decide +kernel
theorem dX6_run_95 : decode cX6_run 95 = .ok (.iinc 2 1, 3) := by decide +kernel
theorem dX6_run_98 : decode cX6_run 98 = .ok (.goto (-54), 3) := by decide +kernel
theorem dX6_run_101 : decode cX6_run 101 = .ok (.iconst (-1), 1) := by decide +kernel
theorem dX6_run_102 : decode cX6_run 102 = .ok (.ireturn, 1) := by decide +kernel
set_option maxRecDepth 20000 in
theorem ggX6_take_X6_requireSlot : GoodIn wsX6_take wsX6_requireSlot := goodIn_ca (goodIn_r _ [9, 1, 2] rfl (by decide +kernel)) (goodIn_sub (fun _ h => List.mem_cons_of_mem _ (List.mem_append_right _ h)) (by decide +kernel))
set_option maxRecDepth 20000 in
theorem gX6_take_X6_requireSlot : GoodIn wsX6_take (va_wsS RX6 53 yX6_requireSlot wsX6_requireSlot) := goodIn_app (goodIn_of _ (by decide +kernel)) ggX6_take_X6_requireSlot
set_option maxRecDepth 20000 in
theorem ggX6_take_X4_takeOver : GoodIn wsX6_take wsX4_takeOver := goodIn_r _ [14, 15, 16, 17, 18, 19, 13, 20, 21, 22, 23, 24, 25, 26, 27, 28, 29, 30, 31, 32, 33, 34, 35, 36, 37, 38, 39, 40, 41, 42, 43, 44, 45, 46, 47, 55, 56, 57, 58, 59, 60, 61, 62, 63, 64, 65, 66, 67, 68, 69, 70, 71, 72, 73, 74, 75] rfl (by decide +kernel)
set_option maxRecDepth 20000 in
theorem gX6_take_X4_takeOver : GoodIn wsX6_take (wsV RX6 65 RX4 yX4_takeOver wsX4_takeOver) := goodIn_app (goodIn_of _ (by decide +kernel)) ggX6_take_X4_takeOver
theorem dX6_take_0 : decode cX6_take 0 = .ok (.iload_n 1, 1) := by decide +kernel
theorem dX6_take_1 : decode cX6_take 1 = .ok (.invokestatic 53, 3) := by decide +kernel
theorem dX6_take_4 : decode cX6_take 4 = .ok (.iload_n 2, 1) := by decide +kernel
theorem dX6_take_5 : decode cX6_take 5 = .ok (.ifCond .lt 9, 3) := by decide +kernel
theorem dX6_take_8 : decode cX6_take 8 = .ok (.iload_n 2, 1) := by decide +kernel
theorem dX6_take_9 : decode cX6_take 9 = .ok (.bipush 8, 2) := by decide +kernel
theorem dX6_take_11 : decode cX6_take 11 = .ok (.if_icmp .lt 13, 3) := by decide +kernel
theorem dX6_take_14 : decode cX6_take 14 = .ok (.new 125, 3) := by decide +kernel
theorem dX6_take_17 : decode cX6_take 17 = .ok (.dup, 1) := by decide +kernel
theorem dX6_take_18 : decode cX6_take 18 = .ok (.ldc 151, 2) := by decide +kernel
theorem dX6_take_20 : decode cX6_take 20 = .ok (.invokespecial 129, 3) := by decide +kernel
theorem dX6_take_23 : decode cX6_take 23 = .ok (.athrow, 1) := by decide +kernel
theorem dX6_take_24 : decode cX6_take 24 = .ok (.aload_n 0, 1) := by decide +kernel
theorem dX6_take_25 : decode cX6_take 25 = .ok (.getfield 16, 3) := by decide +kernel
theorem dX6_take_28 : decode cX6_take 28 = .ok (.iload_n 1, 1) := by decide +kernel
theorem dX6_take_29 : decode cX6_take 29 = .ok (.aaload, 1) := by decide +kernel
theorem dX6_take_30 : decode cX6_take 30 = .ok (.aload_n 0, 1) := by decide +kernel
theorem dX6_take_31 : decode cX6_take 31 = .ok (.getfield 25, 3) := by decide +kernel
theorem dX6_take_34 : decode cX6_take 34 = .ok (.iload_n 2, 1) := by decide +kernel
theorem dX6_take_35 : decode cX6_take 35 = .ok (.aaload, 1) := by decide +kernel
theorem dX6_take_36 : decode cX6_take 36 = .ok (.invokevirtual 65, 3) := by decide +kernel
theorem dX6_take_39 : decode cX6_take 39 = .ok (.aload_n 0, 1) := by decide +kernel
theorem dX6_take_40 : decode cX6_take 40 = .ok (.getfield 16, 3) := by decide +kernel
theorem dX6_take_43 : decode cX6_take 43 = .ok (.iload_n 1, 1) := by decide +kernel
theorem dX6_take_44 : decode cX6_take 44 = .ok (.aaload, 1) := by decide +kernel
theorem dX6_take_45 : decode cX6_take 45 = .ok (.getfield 69, 3) := by decide +kernel
theorem dX6_take_48 : decode cX6_take 48 = .ok (.ifCond .ne 7, 3) := by decide +kernel
theorem dX6_take_51 : decode cX6_take 51 = .ok (.iconst 1, 1) := by decide +kernel
theorem dX6_take_52 : decode cX6_take 52 = .ok (.goto 4, 3) := by decide +kernel
theorem dX6_take_55 : decode cX6_take 55 = .ok (.iconst 0, 1) := by decide +kernel
theorem dX6_take_56 : decode cX6_take 56 = .ok (.ireturn, 1) := by decide +kernel
set_option maxRecDepth 20000 in
theorem ggX6_emptyShapes_X4_init : GoodIn wsX6_emptyShapes wsX4_init := goodIn_r _ [6, 7, 8, 9, 10, 11, 12, 13, 14, 15, 16, 17, 18, 19, 20, 21, 22] rfl (by decide +kernel)
set_option maxRecDepth 20000 in
theorem gX6_emptyShapes_X4_init : GoodIn wsX6_emptyShapes (wsX4_init) := ggX6_emptyShapes_X4_init
theorem dX6_emptyShapes_0 : decode cX6_emptyShapes 0 = .ok (.iload_n 1, 1) := by decide +kernel
theorem dX6_emptyShapes_1 : decode cX6_emptyShapes 1 = .ok (.anewarray 21, 3) := by decide +kernel
theorem dX6_emptyShapes_4 : decode cX6_emptyShapes 4 = .ok (.astore_n 2, 1) := by decide +kernel
theorem dX6_emptyShapes_5 : decode cX6_emptyShapes 5 = .ok (.iconst 0, 1) := by decide +kernel
theorem dX6_emptyShapes_6 : decode cX6_emptyShapes 6 = .ok (.istore_n 3, 1) := by decide +kernel
theorem dX6_emptyShapes_7 : decode cX6_emptyShapes 7 = .ok (.iload_n 3, 1) := by decide +kernel
theorem dX6_emptyShapes_8 : decode cX6_emptyShapes 8 = .ok (.iload_n 1, 1) := by decide +kernel
theorem dX6_emptyShapes_9 : decode cX6_emptyShapes 9 = .ok (.if_icmp .ge 20, 3) := by decide +kernel
theorem dX6_emptyShapes_12 : decode cX6_emptyShapes 12 = .ok (.aload_n 2, 1) := by decide +kernel
theorem dX6_emptyShapes_13 : decode cX6_emptyShapes 13 = .ok (.iload_n 3, 1) := by decide +kernel
theorem dX6_emptyShapes_14 : decode cX6_emptyShapes 14 = .ok (.new 21, 3) := by decide +kernel
theorem dX6_emptyShapes_17 : decode cX6_emptyShapes 17 = .ok (.dup, 1) := by decide +kernel
theorem dX6_emptyShapes_18 : decode cX6_emptyShapes 18 = .ok (.aload_n 0, 1) := by decide +kernel
theorem dX6_emptyShapes_19 : decode cX6_emptyShapes 19 = .ok (.invokespecial 31, 3) := by decide +kernel
theorem dX6_emptyShapes_22 : decode cX6_emptyShapes 22 = .ok (.aastore, 1) := by decide +kernel
theorem dX6_emptyShapes_23 : decode cX6_emptyShapes 23 = .ok (.iinc 3 1, 3) := by decide +kernel
theorem dX6_emptyShapes_26 : decode cX6_emptyShapes 26 = .ok (.goto (-19), 3) := by decide +kernel
theorem dX6_emptyShapes_29 : decode cX6_emptyShapes 29 = .ok (.aload_n 2, 1) := by decide +kernel
theorem dX6_emptyShapes_30 : decode cX6_emptyShapes 30 = .ok (.areturn, 1) := by decide +kernel
theorem dX6_requireSlot_0 : decode cX6_requireSlot 0 = .ok (.iload_n 0, 1) := by decide +kernel
theorem dX6_requireSlot_1 : decode cX6_requireSlot 1 = .ok (.ifCond .lt 9, 3) := by decide +kernel
theorem dX6_requireSlot_4 : decode cX6_requireSlot 4 = .ok (.iload_n 0, 1) := by decide +kernel
theorem dX6_requireSlot_5 : decode cX6_requireSlot 5 = .ok (.bipush 6, 2) := by decide +kernel
theorem dX6_requireSlot_7 : decode cX6_requireSlot 7 = .ok (.if_icmp .lt 13, 3) := by decide +kernel
theorem dX6_requireSlot_10 : decode cX6_requireSlot 10 = .ok (.new 125, 3) := by decide +kernel
theorem dX6_requireSlot_13 : decode cX6_requireSlot 13 = .ok (.dup, 1) := by decide +kernel
theorem dX6_requireSlot_14 : decode cX6_requireSlot 14 = .ok (.ldc 153, 2) := by decide +kernel
theorem dX6_requireSlot_16 : decode cX6_requireSlot 16 = .ok (.invokespecial 129, 3) := by decide +kernel
theorem dX6_requireSlot_19 : decode cX6_requireSlot 19 = .ok (.athrow, 1) := by decide +kernel
theorem dX6_requireSlot_20 : decode cX6_requireSlot 20 = .ok (.return_, 1) := by decide +kernel
set_option maxRecDepth 20000 in
theorem ggX6_requireThreeSlots_X6_requireSlot : GoodIn wsX6_requireThreeSlots wsX6_requireSlot := goodIn_ca (goodIn_r _ [4, 5, 6] rfl (by decide +kernel)) (goodIn_sub (fun _ h => List.mem_cons_of_mem _ (List.mem_append_right _ h)) (by decide +kernel))
set_option maxRecDepth 20000 in
theorem gX6_requireThreeSlots_X6_requireSlot : GoodIn wsX6_requireThreeSlots (va_wsS RX6 53 yX6_requireSlot wsX6_requireSlot) := goodIn_app (goodIn_of _ (by decide +kernel)) ggX6_requireThreeSlots_X6_requireSlot
theorem dX6_requireThreeSlots_0 : decode cX6_requireThreeSlots 0 = .ok (.iload_n 0, 1) := by decide +kernel
theorem dX6_requireThreeSlots_1 : decode cX6_requireThreeSlots 1 = .ok (.invokestatic 53, 3) := by decide +kernel
theorem dX6_requireThreeSlots_4 : decode cX6_requireThreeSlots 4 = .ok (.iload_n 1, 1) := by decide +kernel
theorem dX6_requireThreeSlots_5 : decode cX6_requireThreeSlots 5 = .ok (.invokestatic 53, 3) := by decide +kernel
theorem dX6_requireThreeSlots_8 : decode cX6_requireThreeSlots 8 = .ok (.iload_n 2, 1) := by decide +kernel
theorem dX6_requireThreeSlots_9 : decode cX6_requireThreeSlots 9 = .ok (.invokestatic 53, 3) := by decide +kernel
theorem dX6_requireThreeSlots_12 : decode cX6_requireThreeSlots 12 = .ok (.return_, 1) := by decide +kernel
theorem dX6_requireVariable_0 : decode cX6_requireVariable 0 = .ok (.iload_n 0, 1) := by decide +kernel
theorem dX6_requireVariable_1 : decode cX6_requireVariable 1 = .ok (.ifCond .lt 9, 3) := by decide +kernel
theorem dX6_requireVariable_4 : decode cX6_requireVariable 4 = .ok (.iload_n 0, 1) := by decide +kernel
theorem dX6_requireVariable_5 : decode cX6_requireVariable 5 = .ok (.bipush 6, 2) := by decide +kernel
theorem dX6_requireVariable_7 : decode cX6_requireVariable 7 = .ok (.if_icmp .lt 13, 3) := by decide +kernel
theorem dX6_requireVariable_10 : decode cX6_requireVariable 10 = .ok (.new 125, 3) := by decide +kernel
theorem dX6_requireVariable_13 : decode cX6_requireVariable 13 = .ok (.dup, 1) := by decide +kernel
theorem dX6_requireVariable_14 : decode cX6_requireVariable 14 = .ok (.ldc 155, 2) := by decide +kernel
theorem dX6_requireVariable_16 : decode cX6_requireVariable 16 = .ok (.invokespecial 129, 3) := by decide +kernel
theorem dX6_requireVariable_19 : decode cX6_requireVariable 19 = .ok (.athrow, 1) := by decide +kernel
theorem dX6_requireVariable_20 : decode cX6_requireVariable 20 = .ok (.return_, 1) := by decide +kernel
theorem dX6_requireTerm_0 : decode cX6_requireTerm 0 = .ok (.iload_n 0, 1) := by decide +kernel
theorem dX6_requireTerm_1 : decode cX6_requireTerm 1 = .ok (.ifCond .lt 9, 3) := by decide +kernel
theorem dX6_requireTerm_4 : decode cX6_requireTerm 4 = .ok (.iload_n 0, 1) := by decide +kernel
theorem dX6_requireTerm_5 : decode cX6_requireTerm 5 = .ok (.bipush 12, 2) := by decide +kernel
theorem dX6_requireTerm_7 : decode cX6_requireTerm 7 = .ok (.if_icmp .lt 13, 3) := by decide +kernel
theorem dX6_requireTerm_10 : decode cX6_requireTerm 10 = .ok (.new 125, 3) := by decide +kernel
theorem dX6_requireTerm_13 : decode cX6_requireTerm 13 = .ok (.dup, 1) := by decide +kernel
theorem dX6_requireTerm_14 : decode cX6_requireTerm 14 = .ok (.ldc 157, 2) := by decide +kernel
theorem dX6_requireTerm_16 : decode cX6_requireTerm 16 = .ok (.invokespecial 129, 3) := by decide +kernel
theorem dX6_requireTerm_19 : decode cX6_requireTerm 19 = .ok (.athrow, 1) := by decide +kernel
theorem dX6_requireTerm_20 : decode cX6_requireTerm 20 = .ok (.return_, 1) := by decide +kernel
set_option maxRecDepth 20000 in
theorem ggX6_requireTerms_X6_requireTerm : GoodIn wsX6_requireTerms wsX6_requireTerm := goodIn_ca (goodIn_r _ [6, 1, 2] rfl (by decide +kernel)) (goodIn_sub (fun _ h => List.mem_cons_of_mem _ (List.mem_append_right _ h)) (by decide +kernel))
set_option maxRecDepth 20000 in
theorem gX6_requireTerms_X6_requireTerm : GoodIn wsX6_requireTerms (va_wsS RX6 159 yX6_requireTerm wsX6_requireTerm) := goodIn_app (goodIn_of _ (by decide +kernel)) ggX6_requireTerms_X6_requireTerm
set_option maxRecDepth 20000 in
theorem ggX6_requireTerms_X6_negation : GoodIn wsX6_requireTerms wsX6_negation := goodIn_r _ [9] rfl (by decide +kernel)
set_option maxRecDepth 20000 in
theorem gX6_requireTerms_X6_negation : GoodIn wsX6_requireTerms (va_wsS RX6 162 yX6_negation wsX6_negation) := goodIn_app (goodIn_of _ (by decide +kernel)) ggX6_requireTerms_X6_negation
theorem dX6_requireTerms_0 : decode cX6_requireTerms 0 = .ok (.iload_n 0, 1) := by decide +kernel
theorem dX6_requireTerms_1 : decode cX6_requireTerms 1 = .ok (.invokestatic 159, 3) := by decide +kernel
theorem dX6_requireTerms_4 : decode cX6_requireTerms 4 = .ok (.iload_n 1, 1) := by decide +kernel
theorem dX6_requireTerms_5 : decode cX6_requireTerms 5 = .ok (.invokestatic 159, 3) := by decide +kernel
theorem dX6_requireTerms_8 : decode cX6_requireTerms 8 = .ok (.iload_n 0, 1) := by decide +kernel
theorem dX6_requireTerms_9 : decode cX6_requireTerms 9 = .ok (.iload_n 1, 1) := by decide +kernel
theorem dX6_requireTerms_10 : decode cX6_requireTerms 10 = .ok (.invokestatic 162, 3) := by decide +kernel
theorem dX6_requireTerms_13 : decode cX6_requireTerms 13 = .ok (.if_icmp .ne 13, 3) := by decide +kernel
theorem dX6_requireTerms_16 : decode cX6_requireTerms 16 = .ok (.new 125, 3) := by decide +kernel
theorem dX6_requireTerms_19 : decode cX6_requireTerms 19 = .ok (.dup, 1) := by decide +kernel
theorem dX6_requireTerms_20 : decode cX6_requireTerms 20 = .ok (.ldc 165, 2) := by decide +kernel
theorem dX6_requireTerms_22 : decode cX6_requireTerms 22 = .ok (.invokespecial 129, 3) := by decide +kernel
theorem dX6_requireTerms_25 : decode cX6_requireTerms 25 = .ok (.athrow, 1) := by decide +kernel
theorem dX6_requireTerms_26 : decode cX6_requireTerms 26 = .ok (.return_, 1) := by decide +kernel
theorem dX6_requireNumber_0 : decode cX6_requireNumber 0 = .ok (.iload_n 0, 1) := by decide +kernel
theorem dX6_requireNumber_1 : decode cX6_requireNumber 1 = .ok (.ldc 167, 2) := by decide +kernel
theorem dX6_requireNumber_3 : decode cX6_requireNumber 3 = .ok (.if_icmp .lt 9, 3) := by decide +kernel
theorem dX6_requireNumber_6 : decode cX6_requireNumber 6 = .ok (.iload_n 0, 1) := by decide +kernel
theorem dX6_requireNumber_7 : decode cX6_requireNumber 7 = .ok (.ldc 168, 2) := by decide +kernel
theorem dX6_requireNumber_9 : decode cX6_requireNumber 9 = .ok (.if_icmp .le 13, 3) := by decide +kernel
theorem dX6_requireNumber_12 : decode cX6_requireNumber 12 = .ok (.new 125, 3) := by decide +kernel
theorem dX6_requireNumber_15 : decode cX6_requireNumber 15 = .ok (.dup, 1) := by decide +kernel
theorem dX6_requireNumber_16 : decode cX6_requireNumber 16 = .ok (.ldc 169, 2) := by decide +kernel
theorem dX6_requireNumber_18 : decode cX6_requireNumber 18 = .ok (.invokespecial 129, 3) := by decide +kernel
theorem dX6_requireNumber_21 : decode cX6_requireNumber 21 = .ok (.athrow, 1) := by decide +kernel
theorem dX6_requireNumber_22 : decode cX6_requireNumber 22 = .ok (.return_, 1) := by decide +kernel
set_option maxRecDepth 20000 in
theorem ggX6_requireAction_X6_requireNumber : GoodIn wsX6_requireAction wsX6_requireNumber := goodIn_ca (goodIn_r _ [6, 1, 2, 7, 8] rfl (by decide +kernel)) (goodIn_sub (fun _ h => List.mem_cons_of_mem _ (List.mem_append_right _ h)) (by decide +kernel))
set_option maxRecDepth 20000 in
theorem gX6_requireAction_X6_requireNumber : GoodIn wsX6_requireAction (va_wsS RX6 171 yX6_requireNumber wsX6_requireNumber) := goodIn_app (goodIn_of _ (by decide +kernel)) ggX6_requireAction_X6_requireNumber
set_option maxRecDepth 20000 in
theorem ggX6_requireAction_X6_requireTerms : GoodIn wsX6_requireAction wsX6_requireTerms := goodIn_ca (goodIn_r _ [11, 1, 2, 12, 13, 5, 14, 15, 16, 17] rfl (by decide +kernel)) (goodIn_sub (fun _ h => List.mem_cons_of_mem _ (List.mem_append_right _ h)) (by decide +kernel))
set_option maxRecDepth 20000 in
theorem gX6_requireAction_X6_requireTerms : GoodIn wsX6_requireAction (va_wsS RX6 92 yX6_requireTerms wsX6_requireTerms) := goodIn_app (goodIn_of _ (by decide +kernel)) ggX6_requireAction_X6_requireTerms
set_option maxRecDepth 20000 in
theorem ggX6_requireAction_X6_requireVariable : GoodIn wsX6_requireAction wsX6_requireVariable := goodIn_ca (goodIn_r _ [20, 1, 2] rfl (by decide +kernel)) (goodIn_sub (fun _ h => List.mem_cons_of_mem _ (List.mem_append_right _ h)) (by decide +kernel))
set_option maxRecDepth 20000 in
theorem gX6_requireAction_X6_requireVariable : GoodIn wsX6_requireAction (va_wsS RX6 86 yX6_requireVariable wsX6_requireVariable) := goodIn_app (goodIn_of _ (by decide +kernel)) ggX6_requireAction_X6_requireVariable
set_option maxRecDepth 20000 in
theorem ggX6_requireAction_X6_requireTerm : GoodIn wsX6_requireAction wsX6_requireTerm := goodIn_ca (goodIn_r _ [14, 1, 2] rfl (by decide +kernel)) (goodIn_sub (fun _ h => List.mem_cons_of_mem _ (List.mem_append_right _ h)) (by decide +kernel))
set_option maxRecDepth 20000 in
theorem gX6_requireAction_X6_requireTerm : GoodIn wsX6_requireAction (va_wsS RX6 159 yX6_requireTerm wsX6_requireTerm) := goodIn_app (goodIn_of _ (by decide +kernel)) ggX6_requireAction_X6_requireTerm
theorem dX6_requireAction_0 : decode cX6_requireAction 0 = .ok (.iload_n 3, 1) := by decide +kernel
theorem dX6_requireAction_1 : decode cX6_requireAction 1 = .ok (.invokestatic 171, 3) := by decide +kernel
theorem dX6_requireAction_4 : decode cX6_requireAction 4 = .ok (.iload_n 0, 1) := by decide +kernel
theorem dX6_requireAction_5 : decode cX6_requireAction 5 = .ok (.ifCond .ne 11, 3) := by decide +kernel
theorem dX6_requireAction_8 : decode cX6_requireAction 8 = .ok (.iload_n 1, 1) := by decide +kernel
theorem dX6_requireAction_9 : decode cX6_requireAction 9 = .ok (.iload_n 2, 1) := by decide +kernel
theorem dX6_requireAction_10 : decode cX6_requireAction 10 = .ok (.invokestatic 92, 3) := by decide +kernel
theorem dX6_requireAction_13 : decode cX6_requireAction 13 = .ok (.goto 57, 3) := by decide +kernel
theorem dX6_requireAction_16 : decode cX6_requireAction 16 = .ok (.iload_n 0, 1) := by decide +kernel
theorem dX6_requireAction_17 : decode cX6_requireAction 17 = .ok (.iconst 1, 1) := by decide +kernel
theorem dX6_requireAction_18 : decode cX6_requireAction 18 = .ok (.if_icmp .ne 14, 3) := by decide +kernel
theorem dX6_requireAction_21 : decode cX6_requireAction 21 = .ok (.iload_n 1, 1) := by decide +kernel
theorem dX6_requireAction_22 : decode cX6_requireAction 22 = .ok (.invokestatic 86, 3) := by decide +kernel
theorem dX6_requireAction_25 : decode cX6_requireAction 25 = .ok (.iload_n 2, 1) := by decide +kernel
theorem dX6_requireAction_26 : decode cX6_requireAction 26 = .ok (.invokestatic 159, 3) := by decide +kernel
theorem dX6_requireAction_29 : decode cX6_requireAction 29 = .ok (.goto 41, 3) := by decide +kernel
theorem dX6_requireAction_32 : decode cX6_requireAction 32 = .ok (.iload_n 0, 1) := by decide +kernel
theorem dX6_requireAction_33 : decode cX6_requireAction 33 = .ok (.iconst 2, 1) := by decide +kernel
theorem dX6_requireAction_34 : decode cX6_requireAction 34 = .ok (.if_icmp .ne 26, 3) := by decide +kernel
theorem dX6_requireAction_37 : decode cX6_requireAction 37 = .ok (.iload_n 1, 1) := by decide +kernel
theorem dX6_requireAction_38 : decode cX6_requireAction 38 = .ok (.invokestatic 86, 3) := by decide +kernel
theorem dX6_requireAction_41 : decode cX6_requireAction 41 = .ok (.iload_n 2, 1) := by decide +kernel
theorem dX6_requireAction_42 : decode cX6_requireAction 42 = .ok (.invokestatic 171, 3) := by decide +kernel
theorem dX6_requireAction_45 : decode cX6_requireAction 45 = .ok (.iload_n 2, 1) := by decide +kernel
theorem dX6_requireAction_46 : decode cX6_requireAction 46 = .ok (.iload_n 3, 1) := by decide +kernel
theorem dX6_requireAction_47 : decode cX6_requireAction 47 = .ok (.if_icmp .le 23, 3) := by decide +kernel
theorem dX6_requireAction_50 : decode cX6_requireAction 50 = .ok (.new 125, 3) := by decide +kernel
theorem dX6_requireAction_53 : decode cX6_requireAction 53 = .ok (.dup, 1) := by decide +kernel
theorem dX6_requireAction_54 : decode cX6_requireAction 54 = .ok (.ldc 174, 2) := by decide +kernel
theorem dX6_requireAction_56 : decode cX6_requireAction 56 = .ok (.invokespecial 129, 3) := by decide +kernel
theorem dX6_requireAction_59 : decode cX6_requireAction 59 = .ok (.athrow, 1) := by decide +kernel
theorem dX6_requireAction_60 : decode cX6_requireAction 60 = .ok (.new 125, 3) := by decide +kernel
theorem dX6_requireAction_63 : decode cX6_requireAction 63 = .ok (.dup, 1) := by decide +kernel
theorem dX6_requireAction_64 : decode cX6_requireAction 64 = .ok (.ldc 176, 2) := by decide +kernel
theorem dX6_requireAction_66 : decode cX6_requireAction 66 = .ok (.invokespecial 129, 3) := by decide +kernel
theorem dX6_requireAction_69 : decode cX6_requireAction 69 = .ok (.athrow, 1) := by decide +kernel
theorem dX6_requireAction_70 : decode cX6_requireAction 70 = .ok (.return_, 1) := by decide +kernel
theorem dX6_requirePlace_0 : decode cX6_requirePlace 0 = .ok (.aload_n 0, 1) := by decide +kernel
theorem dX6_requirePlace_1 : decode cX6_requirePlace 1 = .ok (.getfield 16, 3) := by decide +kernel
theorem dX6_requirePlace_4 : decode cX6_requirePlace 4 = .ok (.iload_n 1, 1) := by decide +kernel
theorem dX6_requirePlace_5 : decode cX6_requirePlace 5 = .ok (.aaload, 1) := by decide +kernel
theorem dX6_requirePlace_6 : decode cX6_requirePlace 6 = .ok (.getfield 69, 3) := by decide +kernel
theorem dX6_requirePlace_9 : decode cX6_requirePlace 9 = .ok (.ifCond .eq 13, 3) := by decide +kernel
theorem dX6_requirePlace_12 : decode cX6_requirePlace 12 = .ok (.new 132, 3) := by decide +kernel
theorem dX6_requirePlace_15 : decode cX6_requirePlace 15 = .ok (.dup, 1) := by decide +kernel
theorem dX6_requirePlace_16 : decode cX6_requirePlace 16 = .ok (.ldc 178, 2) := by decide +kernel
theorem dX6_requirePlace_18 : decode cX6_requirePlace 18 = .ok (.invokespecial 136, 3) := by decide +kernel
theorem dX6_requirePlace_21 : decode cX6_requirePlace 21 = .ok (.athrow, 1) := by decide +kernel
theorem dX6_requirePlace_22 : decode cX6_requirePlace 22 = .ok (.return_, 1) := by decide +kernel
theorem dX6_keepReached_0 : decode cX6_keepReached 0 = .ok (.aload_n 0, 1) := by decide +kernel
theorem dX6_keepReached_1 : decode cX6_keepReached 1 = .ok (.getfield 25, 3) := by decide +kernel
theorem dX6_keepReached_4 : decode cX6_keepReached 4 = .ok (.astore_n 1, 1) := by decide +kernel
theorem dX6_keepReached_5 : decode cX6_keepReached 5 = .ok (.aload_n 0, 1) := by decide +kernel
theorem dX6_keepReached_6 : decode cX6_keepReached 6 = .ok (.aload_n 0, 1) := by decide +kernel
theorem dX6_keepReached_7 : decode cX6_keepReached 7 = .ok (.getfield 28, 3) := by decide +kernel
theorem dX6_keepReached_10 : decode cX6_keepReached 10 = .ok (.putfield 25, 3) := by decide +kernel
theorem dX6_keepReached_13 : decode cX6_keepReached 13 = .ok (.aload_n 0, 1) := by decide +kernel
theorem dX6_keepReached_14 : decode cX6_keepReached 14 = .ok (.aload_n 1, 1) := by decide +kernel
theorem dX6_keepReached_15 : decode cX6_keepReached 15 = .ok (.putfield 28, 3) := by decide +kernel
theorem dX6_keepReached_18 : decode cX6_keepReached 18 = .ok (.return_, 1) := by decide +kernel
