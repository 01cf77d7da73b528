theorem dX2_init_0 : decode cX2_init 0 = .ok (.aload_n 0, 1) := by decide +kernel
theorem dX2_init_1 : decode cX2_init 1 = .ok (.invokespecial 3, 3) := by decide +kernel
theorem dX2_init_4 : decode cX2_init 4 = .ok (.return_, 1) := by decide +kernel
theorem dX2_write_0 : decode cX2_write 0 = .ok (.aload_n 0, 1) := by decide +kernel
theorem dX2_write_1 : decode cX2_write 1 = .ok (.iload_n 1, 1) := by decide +kernel
theorem dX2_write_2 : decode cX2_write 2 = .ok (.bipush 8, 2) := by decide +kernel
theorem dX2_write_4 : decode cX2_write 4 = .ok (.idiv, 1) := by decide +kernel
theorem dX2_write_5 : decode cX2_write 5 = .ok (.putfield 9, 3) := by decide +kernel
theorem dX2_write_8 : decode cX2_write 8 = .ok (.aload_n 0, 1) := by decide +kernel
theorem dX2_write_9 : decode cX2_write 9 = .ok (.iload_n 1, 1) := by decide +kernel
theorem dX2_write_10 : decode cX2_write 10 = .ok (.bipush 8, 2) := by decide +kernel
theorem dX2_write_12 : decode cX2_write 12 = .ok (.irem, 1) := by decide +kernel
theorem dX2_write_13 : decode cX2_write 13 = .ok (.putfield 15, 3) := by decide +kernel
theorem dX2_write_16 : decode cX2_write 16 = .ok (.aload_n 0, 1) := by decide +kernel
theorem dX2_write_17 : decode cX2_write 17 = .ok (.iload_n 2, 1) := by decide +kernel
theorem dX2_write_18 : decode cX2_write 18 = .ok (.putfield 18, 3) := by decide +kernel
theorem dX2_write_21 : decode cX2_write 21 = .ok (.aload_n 0, 1) := by decide +kernel
theorem dX2_write_22 : decode cX2_write 22 = .ok (.iload_n 3, 1) := by decide +kernel
theorem dX2_write_23 : decode cX2_write 23 = .ok (.putfield 21, 3) := by decide +kernel
theorem dX2_write_26 : decode cX2_write 26 = .ok (.aload_n 0, 1) := by decide +kernel
theorem dX2_write_27 : decode cX2_write 27 = .ok (.iload 4, 2) := by decide +kernel
theorem dX2_write_29 : decode cX2_write 29 = .ok (.putfield 24, 3) := by decide +kernel
theorem dX2_write_32 : decode cX2_write 32 = .ok (.aload_n 0, 1) := by decide +kernel
theorem dX2_write_33 : decode cX2_write 33 = .ok (.iload 5, 2) := by decide +kernel
theorem dX2_write_35 : decode cX2_write 35 = .ok (.putfield 27, 3) := by decide +kernel
theorem dX2_write_38 : decode cX2_write 38 = .ok (.return_, 1) := by decide +kernel
set_option maxRecDepth 20000 in
theorem ggX3_init_X3_emptyShapes : GoodIn wsX3_init wsX3_emptyShapes := goodIn_r _ [21, 7, 8, 9, 22, 23, 24, 25, 2, 3, 26, 27, 28, 29, 30, 31, 32, 33, 34, 35, 36, 11, 37, 38, 70, 71, 78, 79, 80, 81] rfl (by decide +kernel)
set_option maxRecDepth 20000 in
theorem gX3_init_X3_emptyShapes : GoodIn wsX3_init (va_wsS RX3 9 yX3_emptyShapes wsX3_emptyShapes) := goodIn_app (goodIn_of _ (by decide +kernel)) ggX3_init_X3_emptyShapes
set_option maxRecDepth 20000 in
theorem ggX3_init_X1_allowAll : GoodIn wsX3_init wsX1_allowAll := goodIn_r _ [42, 30, 43, 44, 45, 9, 46, 29, 47, 48, 49, 50, 51, 52, 28, 53, 38, 37, 36, 54, 55, 56, 57, 58, 59, 70, 71, 78, 79, 80, 81] rfl (by decide +kernel)
set_option maxRecDepth 20000 in
theorem gX3_init_X1_allowAll : GoodIn wsX3_init (wsV RX3 17 RX1 yX1_allowAll wsX1_allowAll) := goodIn_app (goodIn_of _ (by decide +kernel)) ggX3_init_X1_allowAll
set_option maxRecDepth 20000 in
theorem ggX3_init_X1_init : GoodIn wsX3_init wsX1_init := goodIn_r _ [24, 25, 2, 3, 26, 27, 28, 29, 30, 31, 32, 33, 34, 35, 36, 11, 37, 38, 78, 79, 80, 81, 70, 71] rfl (by decide +kernel)
set_option maxRecDepth 20000 in
theorem gX3_init_X1_init : GoodIn wsX3_init (wsX1_init) := ggX3_init_X1_init
set_option maxRecDepth 20000 in
theorem ggX3_init_X2_init : GoodIn wsX3_init wsX2_init := goodIn_r _ [61, 62, 2, 3] rfl (by decide +kernel)
set_option maxRecDepth 20000 in
theorem gX3_init_X2_init_n47 : GoodIn wsX3_init (wsX2_init) := ggX3_init_X2_init
theorem dX3_init_0 : decode cX3_init 0 = .ok (.aload_n 0, 1) := by decide +kernel
theorem dX3_init_1 : decode cX3_init 1 = .ok (.invokespecial 1, 3) := by decide +kernel
theorem dX3_init_4 : decode cX3_init 4 = .ok (.aload_n 0, 1) := by decide +kernel
theorem dX3_init_5 : decode cX3_init 5 = .ok (.bipush 6, 2) := by decide +kernel
theorem dX3_init_7 : decode cX3_init 7 = .ok (.invokestatic 9, 3) := by decide +kernel
theorem dX3_init_10 : decode cX3_init 10 = .ok (.putfield 13, 3) := by decide +kernel
theorem dX3_init_13 : decode cX3_init 13 = .ok (.iconst 0, 1) := by decide +kernel
theorem dX3_init_14 : decode cX3_init 14 = .ok (.istore_n 1, 1) := by decide +kernel
theorem dX3_init_15 : decode cX3_init 15 = .ok (.iload_n 1, 1) := by decide +kernel
theorem dX3_init_16 : decode cX3_init 16 = .ok (.bipush 6, 2) := by decide +kernel
theorem dX3_init_18 : decode cX3_init 18 = .ok (.if_icmp .ge 18, 3) := by decide +kernel
theorem dX3_init_21 : decode cX3_init 21 = .ok (.aload_n 0, 1) := by decide +kernel
theorem dX3_init_22 : decode cX3_init 22 = .ok (.getfield 13, 3) := by decide +kernel
theorem dX3_init_25 : decode cX3_init 25 = .ok (.iload_n 1, 1) := by decide +kernel
theorem dX3_init_26 : decode cX3_init 26 = .ok (.aaload, 1) := by decide +kernel
theorem dX3_init_27 : decode cX3_init 27 = .ok (.invokevirtual 17, 3) := by decide +kernel
theorem dX3_init_30 : decode cX3_init 30 = .ok (.iinc 1 1, 3) := by decide +kernel
theorem dX3_init_33 : decode cX3_init 33 = .ok (.goto (-18), 3) := by decide +kernel
theorem dX3_init_36 : decode cX3_init 36 = .ok (.aload_n 0, 1) := by decide +kernel
theorem dX3_init_37 : decode cX3_init 37 = .ok (.bipush 8, 2) := by decide +kernel
theorem dX3_init_39 : decode cX3_init 39 = .ok (.invokestatic 9, 3) := by decide +kernel
theorem dX3_init_42 : decode cX3_init 42 = .ok (.putfield 22, 3) := by decide +kernel
theorem dX3_init_45 : decode cX3_init 45 = .ok (.aload_n 0, 1) := by decide +kernel
theorem dX3_init_46 : decode cX3_init 46 = .ok (.bipush 8, 2) := by decide +kernel
theorem dX3_init_48 : decode cX3_init 48 = .ok (.invokestatic 9, 3) := by decide +kernel
theorem dX3_init_51 : decode cX3_init 51 = .ok (.putfield 25, 3) := by decide +kernel
theorem dX3_init_54 : decode cX3_init 54 = .ok (.aload_n 0, 1) := by decide +kernel
theorem dX3_init_55 : decode cX3_init 55 = .ok (.new 18, 3) := by decide +kernel
theorem dX3_init_58 : decode cX3_init 58 = .ok (.dup, 1) := by decide +kernel
theorem dX3_init_59 : decode cX3_init 59 = .ok (.invokespecial 28, 3) := by decide +kernel
theorem dX3_init_62 : decode cX3_init 62 = .ok (.putfield 29, 3) := by decide +kernel
theorem dX3_init_65 : decode cX3_init 65 = .ok (.aload_n 0, 1) := by decide +kernel
theorem dX3_init_66 : decode cX3_init 66 = .ok (.bipush 6, 2) := by decide +kernel
theorem dX3_init_68 : decode cX3_init 68 = .ok (.newarray .long, 2) := by decide +kernel
theorem dX3_init_70 : decode cX3_init 70 = .ok (.putfield 33, 3) := by decide +kernel
theorem dX3_init_73 : decode cX3_init 73 = .ok (.aload_n 0, 1) := by decide +kernel
theorem dX3_init_74 : decode cX3_init 74 = .ok (.iconst 0, 1) := by decide +kernel
theorem dX3_init_75 : decode cX3_init 75 = .ok (.putfield 37, 3) := by decide +kernel
theorem dX3_init_78 : decode cX3_init 78 = .ok (.aload_n 0, 1) := by decide +kernel
theorem dX3_init_79 : decode cX3_init 79 = .ok (.bipush 20, 2) := by decide +kernel
theorem dX3_init_81 : decode cX3_init 81 = .ok (.anewarray 41, 3) := by decide +kernel
theorem dX3_init_84 : decode cX3_init 84 = .ok (.putfield 43, 3) := by decide +kernel
theorem dX3_init_87 : decode cX3_init 87 = .ok (.iconst 0, 1) := by decide +kernel
theorem dX3_init_88 : decode cX3_init 88 = .ok (.istore_n 1, 1) := by decide +kernel
theorem dX3_init_89 : decode cX3_init 89 = .ok (.iload_n 1, 1) := by decide +kernel
theorem dX3_init_90 : decode cX3_init 90 = .ok (.bipush 20, 2) := by decide +kernel
theorem dX3_init_92 : decode cX3_init 92 = .ok (.if_icmp .ge 22, 3) := by decide +kernel
theorem dX3_init_95 : decode cX3_init 95 = .ok (.aload_n 0, 1) := by decide +kernel
theorem dX3_init_96 : decode cX3_init 96 = .ok (.getfield 43, 3) := by decide +kernel
theorem dX3_init_99 : decode cX3_init 99 = .ok (.iload_n 1, 1) := by decide +kernel
theorem dX3_init_100 : decode cX3_init 100 = .ok (.new 41, 3) := by decide +kernel
theorem dX3_init_103 : decode cX3_init 103 = .ok (.dup, 1) := by decide +kernel
theorem dX3_init_104 : decode cX3_init 104 = .ok (.invokespecial 47, 3) := by decide +kernel
theorem dX3_init_107 : decode cX3_init 107 = .ok (.aastore, 1) := by decide +kernel
theorem dX3_init_108 : decode cX3_init 108 = .ok (.iinc 1 1, 3) := by decide +kernel
theorem dX3_init_111 : decode cX3_init 111 = .ok (.goto (-22), 3) := by decide +kernel
theorem dX3_init_114 : decode cX3_init 114 = .ok (.return_, 1) := by decide +kernel
set_option maxRecDepth 20000 in
theorem ggX3_act_X3_requireSlot : GoodIn wsX3_act wsX3_requireSlot := goodIn_ca (goodIn_r _ [7, 8, 9] rfl (by decide +kernel)) (goodIn_sub (fun _ h => List.mem_cons_of_mem _ (List.mem_append_right _ h)) (by decide +kernel))
set_option maxRecDepth 20000 in
theorem gX3_act_X3_requireSlot : GoodIn wsX3_act (va_wsS RX3 48 yX3_requireSlot wsX3_requireSlot) := goodIn_app (goodIn_of _ (by decide +kernel)) ggX3_act_X3_requireSlot
set_option maxRecDepth 20000 in
theorem ggX3_act_X3_requireAction : GoodIn wsX3_act wsX3_requireAction := goodIn_ca (goodIn_r _ [12, 8, 9, 13, 14, 6, 15, 16, 17, 18, 19, 20, 21, 22, 23, 24, 25, 26, 27, 28, 29] rfl (by decide +kernel)) (goodIn_sub (fun _ h => List.mem_cons_of_mem _ (List.mem_append_right _ h)) (by decide +kernel))
set_option maxRecDepth 20000 in
theorem gX3_act_X3_requireAction : GoodIn wsX3_act (va_wsS RX3 52 yX3_requireAction wsX3_requireAction) := goodIn_app (goodIn_of _ (by decide +kernel)) ggX3_act_X3_requireAction
set_option maxRecDepth 20000 in
theorem ggX3_act_X1_makeFrom : GoodIn wsX3_act wsX1_makeFrom := goodIn_r _ [34, 35, 36, 37, 38, 33, 39, 40, 41, 42, 43, 25, 6, 26, 44, 45, 46, 47, 48, 49, 50, 51, 52, 53, 54, 55, 56, 57, 58, 59, 60, 61, 62, 63, 64, 65, 66, 67, 68, 69, 70, 71, 72, 73, 74, 75, 76, 77, 78, 79, 80, 81, 82, 83, 84, 85, 86, 87, 88, 89, 90, 91, 92, 93, 94, 95, 96, 97, 98, 99, 100, 101, 102, 103, 104, 105, 106, 107, 108, 109, 110, 111, 112, 113, 114, 115, 116, 117, 118, 119, 120, 121, 122, 123, 124, 125, 126, 127, 128, 129, 130, 131, 132, 133, 134, 135, 136, 137, 138, 139, 192, 193, 194, 195, 196, 197] rfl (by decide +kernel)
set_option maxRecDepth 20000 in
theorem gX3_act_X1_makeFrom : GoodIn wsX3_act (wsV RX3 56 RX1 yX1_makeFrom wsX1_makeFrom) := goodIn_app (goodIn_of _ (by decide +kernel)) ggX3_act_X1_makeFrom
set_option maxRecDepth 20000 in
theorem ggX3_act_X3_putMade : GoodIn wsX3_act wsX3_putMade := goodIn_r _ [143, 1, 2, 144, 145, 146, 6, 147, 3, 148, 149, 150, 151, 152, 153, 53, 154, 58, 56, 55, 63, 155, 156, 157, 158, 159, 160, 161, 162, 163, 164, 165, 166, 167, 168, 169, 170, 171, 172, 173, 174, 175, 176, 177, 178, 179, 77, 78, 79, 180, 181, 182, 183, 57, 64, 65, 66, 67, 184, 69, 70, 33, 71, 35, 40, 72, 73, 74, 75, 76, 185, 186, 187, 188, 189, 190, 191, 192, 193, 194, 195, 196, 197] rfl (by decide +kernel)
set_option maxRecDepth 20000 in
theorem gX3_act_X3_putMade : GoodIn wsX3_act (wsV RX3 60 RX3 yX3_putMade wsX3_putMade) := goodIn_app (goodIn_of _ (by decide +kernel)) ggX3_act_X3_putMade
theorem dX3_act_0 : decode cX3_act 0 = .ok (.iload_n 1, 1) := by decide +kernel
theorem dX3_act_1 : decode cX3_act 1 = .ok (.invokestatic 48, 3) := by decide +kernel
theorem dX3_act_4 : decode cX3_act 4 = .ok (.iload_n 2, 1) := by decide +kernel
theorem dX3_act_5 : decode cX3_act 5 = .ok (.iload_n 3, 1) := by decide +kernel
theorem dX3_act_6 : decode cX3_act 6 = .ok (.iload 4, 2) := by decide +kernel
theorem dX3_act_8 : decode cX3_act 8 = .ok (.iload 5, 2) := by decide +kernel
theorem dX3_act_10 : decode cX3_act 10 = .ok (.invokestatic 52, 3) := by decide +kernel
theorem dX3_act_13 : decode cX3_act 13 = .ok (.aload_n 0, 1) := by decide +kernel
theorem dX3_act_14 : decode cX3_act 14 = .ok (.getfield 29, 3) := by decide +kernel
theorem dX3_act_17 : decode cX3_act 17 = .ok (.aload_n 0, 1) := by decide +kernel
theorem dX3_act_18 : decode cX3_act 18 = .ok (.getfield 13, 3) := by decide +kernel
theorem dX3_act_21 : decode cX3_act 21 = .ok (.iload_n 1, 1) := by decide +kernel
theorem dX3_act_22 : decode cX3_act 22 = .ok (.aaload, 1) := by decide +kernel
theorem dX3_act_23 : decode cX3_act 23 = .ok (.iload_n 2, 1) := by decide +kernel
theorem dX3_act_24 : decode cX3_act 24 = .ok (.iload_n 3, 1) := by decide +kernel
theorem dX3_act_25 : decode cX3_act 25 = .ok (.iload 4, 2) := by decide +kernel
theorem dX3_act_27 : decode cX3_act 27 = .ok (.iload 5, 2) := by decide +kernel
theorem dX3_act_29 : decode cX3_act 29 = .ok (.invokevirtual 56, 3) := by decide +kernel
theorem dX3_act_32 : decode cX3_act 32 = .ok (.aload_n 0, 1) := by decide +kernel
theorem dX3_act_33 : decode cX3_act 33 = .ok (.iload_n 1, 1) := by decide +kernel
theorem dX3_act_34 : decode cX3_act 34 = .ok (.invokevirtual 60, 3) := by decide +kernel
theorem dX3_act_37 : decode cX3_act 37 = .ok (.aload_n 0, 1) := by decide +kernel
theorem dX3_act_38 : decode cX3_act 38 = .ok (.getfield 13, 3) := by decide +kernel
theorem dX3_act_41 : decode cX3_act 41 = .ok (.iload_n 1, 1) := by decide +kernel
theorem dX3_act_42 : decode cX3_act 42 = .ok (.aaload, 1) := by decide +kernel
theorem dX3_act_43 : decode cX3_act 43 = .ok (.getfield 63, 3) := by decide +kernel
theorem dX3_act_46 : decode cX3_act 46 = .ok (.ifCond .ne 7, 3) := by decide +kernel
theorem dX3_act_49 : decode cX3_act 49 = .ok (.iconst 1, 1) := by decide +kernel
theorem dX3_act_50 : decode cX3_act 50 = .ok (.goto 4, 3) := by decide +kernel
theorem dX3_act_53 : decode cX3_act 53 = .ok (.iconst 0, 1) := by decide +kernel
theorem dX3_act_54 : decode cX3_act 54 = .ok (.ireturn, 1) := by decide +kernel
set_option maxRecDepth 20000 in
theorem ggX3_clear_X3_requireSlot : GoodIn wsX3_clear wsX3_requireSlot := goodIn_ca (goodIn_r _ [5, 6, 7] rfl (by decide +kernel)) (goodIn_sub (fun _ h => List.mem_cons_of_mem _ (List.mem_append_right _ h)) (by decide +kernel))
set_option maxRecDepth 20000 in
theorem gX3_clear_X3_requireSlot : GoodIn wsX3_clear (va_wsS RX3 48 yX3_requireSlot wsX3_requireSlot) := goodIn_app (goodIn_of _ (by decide +kernel)) ggX3_clear_X3_requireSlot
set_option maxRecDepth 20000 in
theorem ggX3_clear_X1_allowAll : GoodIn wsX3_clear wsX1_allowAll := goodIn_r _ [12, 13, 14, 15, 16, 11, 17, 18, 19, 20, 21, 22, 23, 24, 25, 26, 27, 28, 29, 30, 31, 32, 33, 34, 35, 43, 44, 45, 46, 47, 48] rfl (by decide +kernel)
set_option maxRecDepth 20000 in
theorem gX3_clear_X1_allowAll : GoodIn wsX3_clear (wsV RX3 17 RX1 yX1_allowAll wsX1_allowAll) := goodIn_app (goodIn_of _ (by decide +kernel)) ggX3_clear_X1_allowAll
theorem dX3_clear_0 : decode cX3_clear 0 = .ok (.iload_n 1, 1) := by decide +kernel
theorem dX3_clear_1 : decode cX3_clear 1 = .ok (.invokestatic 48, 3) := by decide +kernel
theorem dX3_clear_4 : decode cX3_clear 4 = .ok (.aload_n 0, 1) := by decide +kernel
theorem dX3_clear_5 : decode cX3_clear 5 = .ok (.getfield 13, 3) := by decide +kernel
theorem dX3_clear_8 : decode cX3_clear 8 = .ok (.iload_n 1, 1) := by decide +kernel
theorem dX3_clear_9 : decode cX3_clear 9 = .ok (.aaload, 1) := by decide +kernel
theorem dX3_clear_10 : decode cX3_clear 10 = .ok (.invokevirtual 17, 3) := by decide +kernel
theorem dX3_clear_13 : decode cX3_clear 13 = .ok (.return_, 1) := by decide +kernel
set_option maxRecDepth 20000 in
theorem ggX3_copy_X3_requireSlot : GoodIn wsX3_copy wsX3_requireSlot := goodIn_ca (goodIn_r _ [5, 6, 7] rfl (by decide +kernel)) (goodIn_sub (fun _ h => List.mem_cons_of_mem _ (List.mem_append_right _ h)) (by decide +kernel))
set_option maxRecDepth 20000 in
theorem gX3_copy_X3_requireSlot : GoodIn wsX3_copy (va_wsS RX3 48 yX3_requireSlot wsX3_requireSlot) := goodIn_app (goodIn_of _ (by decide +kernel)) ggX3_copy_X3_requireSlot
set_option maxRecDepth 20000 in
theorem ggX3_copy_X1_takeOver : GoodIn wsX3_copy wsX1_takeOver := goodIn_r _ [12, 13, 14, 15, 16, 17, 18, 19, 20, 21, 22, 23, 24, 32, 33, 34, 35, 36, 37] rfl (by decide +kernel)
set_option maxRecDepth 20000 in
theorem gX3_copy_X1_takeOver : GoodIn wsX3_copy (wsV RX3 67 RX1 yX1_takeOver wsX1_takeOver) := goodIn_app (goodIn_of _ (by decide +kernel)) ggX3_copy_X1_takeOver
theorem dX3_copy_0 : decode cX3_copy 0 = .ok (.iload_n 1, 1) := by decide +kernel
theorem dX3_copy_1 : decode cX3_copy 1 = .ok (.invokestatic 48, 3) := by decide +kernel
theorem dX3_copy_4 : decode cX3_copy 4 = .ok (.iload_n 2, 1) := by decide +kernel
theorem dX3_copy_5 : decode cX3_copy 5 = .ok (.invokestatic 48, 3) := by decide +kernel
theorem dX3_copy_8 : decode cX3_copy 8 = .ok (.aload_n 0, 1) := by decide +kernel
theorem dX3_copy_9 : decode cX3_copy 9 = .ok (.getfield 13, 3) := by decide +kernel
theorem dX3_copy_12 : decode cX3_copy 12 = .ok (.iload_n 1, 1) := by decide +kernel
theorem dX3_copy_13 : decode cX3_copy 13 = .ok (.aaload, 1) := by decide +kernel
theorem dX3_copy_14 : decode cX3_copy 14 = .ok (.aload_n 0, 1) := by decide +kernel
theorem dX3_copy_15 : decode cX3_copy 15 = .ok (.getfield 13, 3) := by decide +kernel
theorem dX3_copy_18 : decode cX3_copy 18 = .ok (.iload_n 2, 1) := by decide +kernel
theorem dX3_copy_19 : decode cX3_copy 19 = .ok (.aaload, 1) := by decide +kernel
theorem dX3_copy_20 : decode cX3_copy 20 = .ok (.invokevirtual 67, 3) := by decide +kernel
theorem dX3_copy_23 : decode cX3_copy 23 = .ok (.return_, 1) := by decide +kernel
set_option maxRecDepth 20000 in
theorem ggX3_meet_X3_requireThreeSlots : GoodIn wsX3_meet wsX3_requireThreeSlots := goodIn_ca (goodIn_r _ [7, 8, 9, 6, 10, 11, 12] rfl (by decide +kernel)) (goodIn_sub (fun _ h => List.mem_cons_of_mem _ (List.mem_append_right _ h)) (by decide +kernel))
set_option maxRecDepth 20000 in
theorem gX3_meet_X3_requireThreeSlots : GoodIn wsX3_meet (va_wsS RX3 71 yX3_requireThreeSlots wsX3_requireThreeSlots) := goodIn_app (goodIn_of _ (by decide +kernel)) ggX3_meet_X3_requireThreeSlots
set_option maxRecDepth 20000 in
theorem ggX3_meet_X1_takeOver : GoodIn wsX3_meet wsX1_takeOver := goodIn_r _ [17, 18, 19, 20, 21, 22, 23, 24, 25, 26, 27, 28, 29, 142, 143, 144, 145, 146, 147] rfl (by decide +kernel)
set_option maxRecDepth 20000 in
theorem gX3_meet_X1_takeOver : GoodIn wsX3_meet (wsV RX3 67 RX1 yX1_takeOver wsX1_takeOver) := goodIn_app (goodIn_of _ (by decide +kernel)) ggX3_meet_X1_takeOver
set_option maxRecDepth 20000 in
theorem ggX3_meet_X1_cutTo : GoodIn wsX3_meet wsX1_cutTo := goodIn_r _ [33, 19, 18, 34, 35, 36, 23, 37, 38, 25, 39, 40, 41, 42, 43, 44, 45, 46, 16, 47, 48, 49, 50, 51, 52, 53, 54, 55, 56, 6, 57, 58, 59, 60, 61, 62, 63, 64, 65, 66, 67, 68, 69, 70, 71, 72, 73, 74, 75, 76, 77, 78, 79, 80, 81, 82, 83, 84, 85, 86, 87, 88, 89, 90, 142, 143, 144, 145, 146, 147] rfl (by decide +kernel)
set_option maxRecDepth 20000 in
theorem gX3_meet_X1_cutTo : GoodIn wsX3_meet (wsV RX3 75 RX1 yX1_cutTo wsX1_cutTo) := goodIn_app (goodIn_of _ (by decide +kernel)) ggX3_meet_X1_cutTo
set_option maxRecDepth 20000 in
theorem ggX3_meet_X3_putMade : GoodIn wsX3_meet wsX3_putMade := goodIn_r _ [94, 1, 2, 95, 96, 97, 6, 98, 3, 99, 100, 101, 102, 103, 104, 23, 105, 39, 25, 38, 55, 106, 107, 108, 109, 110, 111, 112, 113, 114, 115, 116, 117, 118, 119, 120, 121, 122, 123, 124, 125, 126, 127, 128, 129, 130, 27, 28, 29, 131, 132, 133, 134, 67, 87, 88, 89, 90, 13, 14, 15, 16, 17, 18, 19, 20, 21, 22, 24, 26, 135, 136, 137, 138, 139, 140, 141, 142, 143, 144, 145, 146, 147] rfl (by decide +kernel)
set_option maxRecDepth 20000 in
theorem gX3_meet_X3_putMade : GoodIn wsX3_meet (wsV RX3 60 RX3 yX3_putMade wsX3_putMade) := goodIn_app (goodIn_of _ (by decide +kernel)) ggX3_meet_X3_putMade
theorem dX3_meet_0 : decode cX3_meet 0 = .ok (.iload_n 1, 1) := by decide +kernel
theorem dX3_meet_1 : decode cX3_meet 1 = .ok (.iload_n 2, 1) := by decide +kernel
theorem dX3_meet_2 : decode cX3_meet 2 = .ok (.iload_n 3, 1) := by decide +kernel
theorem dX3_meet_3 : decode cX3_meet 3 = .ok (.invokestatic 71, 3) := by decide +kernel
theorem dX3_meet_6 : decode cX3_meet 6 = .ok (.aload_n 0, 1) := by decide +kernel
theorem dX3_meet_7 : decode cX3_meet 7 = .ok (.getfield 29, 3) := by decide +kernel
theorem dX3_meet_10 : decode cX3_meet 10 = .ok (.aload_n 0, 1) := by decide +kernel
theorem dX3_meet_11 : decode cX3_meet 11 = .ok (.getfield 13, 3) := by decide +kernel
theorem dX3_meet_14 : decode cX3_meet 14 = .ok (.iload_n 2, 1) := by decide +kernel
theorem dX3_meet_15 : decode cX3_meet 15 = .ok (.aaload, 1) := by decide +kernel
theorem dX3_meet_16 : decode cX3_meet 16 = .ok (.invokevirtual 67, 3) := by decide +kernel
theorem dX3_meet_19 : decode cX3_meet 19 = .ok (.aload_n 0, 1) := by decide +kernel
theorem dX3_meet_20 : decode cX3_meet 20 = .ok (.getfield 29, 3) := by decide +kernel
theorem dX3_meet_23 : decode cX3_meet 23 = .ok (.aload_n 0, 1) := by decide +kernel
theorem dX3_meet_24 : decode cX3_meet 24 = .ok (.getfield 13, 3) := by decide +kernel
theorem dX3_meet_27 : decode cX3_meet 27 = .ok (.iload_n 3, 1) := by decide +kernel
theorem dX3_meet_28 : decode cX3_meet 28 = .ok (.aaload, 1) := by decide +kernel
theorem dX3_meet_29 : decode cX3_meet 29 = .ok (.invokevirtual 75, 3) := by decide +kernel
theorem dX3_meet_32 : decode cX3_meet 32 = .ok (.aload_n 0, 1) := by decide +kernel
theorem dX3_meet_33 : decode cX3_meet 33 = .ok (.iload_n 1, 1) := by decide +kernel
theorem dX3_meet_34 : decode cX3_meet 34 = .ok (.invokevirtual 60, 3) := by decide +kernel
theorem dX3_meet_37 : decode cX3_meet 37 = .ok (.aload_n 0, 1) := by decide +kernel
theorem dX3_meet_38 : decode cX3_meet 38 = .ok (.getfield 13, 3) := by decide +kernel
theorem dX3_meet_41 : decode cX3_meet 41 = .ok (.iload_n 1, 1) := by decide +kernel
theorem dX3_meet_42 : decode cX3_meet 42 = .ok (.aaload, 1) := by decide +kernel
theorem dX3_meet_43 : decode cX3_meet 43 = .ok (.getfield 63, 3) := by decide +kernel
theorem dX3_meet_46 : decode cX3_meet 46 = .ok (.ifCond .ne 7, 3) := by decide +kernel
theorem dX3_meet_49 : decode cX3_meet 49 = .ok (.iconst 1, 1) := by decide +kernel
theorem dX3_meet_50 : decode cX3_meet 50 = .ok (.goto 4, 3) := by decide +kernel
theorem dX3_meet_53 : decode cX3_meet 53 = .ok (.iconst 0, 1) := by decide +kernel
theorem dX3_meet_54 : decode cX3_meet 54 = .ok (.ireturn, 1) := by decide +kernel
set_option maxRecDepth 20000 in
theorem ggX3_join_X3_requireThreeSlots : GoodIn wsX3_join wsX3_requireThreeSlots := goodIn_ca (goodIn_r _ [6, 7, 8, 5, 9, 10, 11] rfl (by decide +kernel)) (goodIn_sub (fun _ h => List.mem_cons_of_mem _ (List.mem_append_right _ h)) (by decide +kernel))
set_option maxRecDepth 20000 in
theorem gX3_join_X3_requireThreeSlots : GoodIn wsX3_join (va_wsS RX3 71 yX3_requireThreeSlots wsX3_requireThreeSlots) := goodIn_app (goodIn_of _ (by decide +kernel)) ggX3_join_X3_requireThreeSlots
set_option maxRecDepth 20000 in
theorem ggX3_join_X1_takeOver : GoodIn wsX3_join wsX1_takeOver := goodIn_r _ [16, 17, 18, 19, 20, 21, 22, 23, 24, 25, 26, 27, 28, 106, 107, 108, 109, 110, 111] rfl (by decide +kernel)
set_option maxRecDepth 20000 in
theorem gX3_join_X1_takeOver : GoodIn wsX3_join (wsV RX3 67 RX1 yX1_takeOver wsX1_takeOver) := goodIn_app (goodIn_of _ (by decide +kernel)) ggX3_join_X1_takeOver
set_option maxRecDepth 20000 in
theorem ggX3_join_X1_stretchOver : GoodIn wsX3_join wsX1_stretchOver := goodIn_r _ [32, 17, 33, 34, 35, 15, 36, 18, 37, 13, 14, 16, 19, 20, 21, 22, 23, 24, 25, 26, 27, 28, 38, 39, 40, 41, 42, 43, 44, 45, 46, 47, 106, 107, 108, 109, 110, 111] rfl (by decide +kernel)
set_option maxRecDepth 20000 in
theorem gX3_join_X1_stretchOver : GoodIn wsX3_join (wsV RX3 78 RX1 yX1_stretchOver wsX1_stretchOver) := goodIn_app (goodIn_of _ (by decide +kernel)) ggX3_join_X1_stretchOver
set_option maxRecDepth 20000 in
theorem ggX3_join_X3_putMade : GoodIn wsX3_join wsX3_putMade := goodIn_r _ [51, 1, 2, 52, 53, 54, 5, 55, 56, 57, 58, 59, 60, 61, 62, 22, 63, 43, 24, 42, 64, 65, 66, 67, 68, 69, 70, 71, 72, 73, 74, 75, 76, 77, 78, 79, 80, 81, 82, 83, 84, 85, 86, 87, 88, 89, 26, 27, 28, 90, 91, 92, 93, 94, 95, 96, 97, 98, 12, 13, 14, 15, 16, 17, 18, 19, 20, 21, 23, 25, 99, 100, 101, 102, 103, 104, 105, 106, 107, 108, 109, 110, 111] rfl (by decide +kernel)
set_option maxRecDepth 20000 in
theorem gX3_join_X3_putMade : GoodIn wsX3_join (wsV RX3 60 RX3 yX3_putMade wsX3_putMade) := goodIn_app (goodIn_of _ (by decide +kernel)) ggX3_join_X3_putMade
theorem dX3_join_0 : decode cX3_join 0 = .ok (.iload_n 1, 1) := by decide +kernel
theorem dX3_join_1 : decode cX3_join 1 = .ok (.iload_n 2, 1) := by decide +kernel
theorem dX3_join_2 : decode cX3_join 2 = .ok (.iload_n 3, 1) := by decide +kernel
theorem dX3_join_3 : decode cX3_join 3 = .ok (.invokestatic 71, 3) := by decide +kernel
theorem dX3_join_6 : decode cX3_join 6 = .ok (.aload_n 0, 1) := by decide +kernel
theorem dX3_join_7 : decode cX3_join 7 = .ok (.getfield 29, 3) := by decide +kernel
theorem dX3_join_10 : decode cX3_join 10 = .ok (.aload_n 0, 1) := by decide +kernel
theorem dX3_join_11 : decode cX3_join 11 = .ok (.getfield 13, 3) := by decide +kernel
theorem dX3_join_14 : decode cX3_join 14 = .ok (.iload_n 2, 1) := by decide +kernel
theorem dX3_join_15 : decode cX3_join 15 = .ok (.aaload, 1) := by decide +kernel
theorem dX3_join_16 : decode cX3_join 16 = .ok (.invokevirtual 67, 3) := by decide +kernel
theorem dX3_join_19 : decode cX3_join 19 = .ok (.aload_n 0, 1) := by decide +kernel
theorem dX3_join_20 : decode cX3_join 20 = .ok (.getfield 29, 3) := by decide +kernel
theorem dX3_join_23 : decode cX3_join 23 = .ok (.aload_n 0, 1) := by decide +kernel
theorem dX3_join_24 : decode cX3_join 24 = .ok (.getfield 13, 3) := by decide +kernel
theorem dX3_join_27 : decode cX3_join 27 = .ok (.iload_n 3, 1) := by decide +kernel
theorem dX3_join_28 : decode cX3_join 28 = .ok (.aaload, 1) := by decide +kernel
theorem dX3_join_29 : decode cX3_join 29 = .ok (.invokevirtual 78, 3) := by decide +kernel
theorem dX3_join_32 : decode cX3_join 32 = .ok (.aload_n 0, 1) := by decide +kernel
theorem dX3_join_33 : decode cX3_join 33 = .ok (.iload_n 1, 1) := by decide +kernel
theorem dX3_join_34 : decode cX3_join 34 = .ok (.invokevirtual 60, 3) := by decide +kernel
theorem dX3_join_37 : decode cX3_join 37 = .ok (.return_, 1) := by decide +kernel
set_option maxRecDepth 20000 in
theorem ggX3_widen_X3_requireThreeSlots : GoodIn wsX3_widen wsX3_requireThreeSlots := goodIn_ca (goodIn_r _ [6, 7, 8, 5, 9, 10, 11] rfl (by decide +kernel)) (goodIn_sub (fun _ h => List.mem_cons_of_mem _ (List.mem_append_right _ h)) (by decide +kernel))
set_option maxRecDepth 20000 in
theorem gX3_widen_X3_requireThreeSlots : GoodIn wsX3_widen (va_wsS RX3 71 yX3_requireThreeSlots wsX3_requireThreeSlots) := goodIn_app (goodIn_of _ (by decide +kernel)) ggX3_widen_X3_requireThreeSlots
set_option maxRecDepth 20000 in
theorem ggX3_widen_X1_takeOver : GoodIn wsX3_widen wsX1_takeOver := goodIn_r _ [16, 17, 18, 19, 20, 21, 22, 23, 24, 25, 26, 27, 28, 147, 148, 149, 150, 151, 152] rfl (by decide +kernel)
set_option maxRecDepth 20000 in
theorem gX3_widen_X1_takeOver : GoodIn wsX3_widen (wsV RX3 67 RX1 yX1_takeOver wsX1_takeOver) := goodIn_app (goodIn_of _ (by decide +kernel)) ggX3_widen_X1_takeOver
set_option maxRecDepth 20000 in
theorem ggX3_widen_X1_loosenBy : GoodIn wsX3_widen wsX1_loosenBy := goodIn_r _ [32, 17, 33, 34, 35, 15, 36, 18, 37, 13, 14, 16, 19, 20, 21, 22, 23, 24, 25, 26, 27, 28, 38, 39, 40, 41, 42, 43, 44, 45, 46, 47, 48, 49, 50, 51, 52, 53, 54, 55, 56, 57, 58, 59, 60, 5, 61, 62, 63, 64, 65, 66, 67, 68, 69, 70, 71, 72, 73, 74, 75, 76, 77, 78, 79, 80, 81, 82, 83, 84, 85, 86, 87, 88, 89, 90, 91, 92, 93, 94, 147, 148, 149, 150, 151, 152] rfl (by decide +kernel)
set_option maxRecDepth 20000 in
theorem gX3_widen_X1_loosenBy : GoodIn wsX3_widen (wsV RX3 81 RX1 yX1_loosenBy wsX1_loosenBy) := goodIn_app (goodIn_of _ (by decide +kernel)) ggX3_widen_X1_loosenBy
set_option maxRecDepth 20000 in
theorem ggX3_widen_X3_putMade : GoodIn wsX3_widen wsX3_putMade := goodIn_r _ [98, 1, 2, 99, 100, 101, 5, 102, 103, 104, 105, 106, 107, 108, 109, 22, 110, 43, 24, 42, 48, 111, 112, 113, 114, 115, 116, 117, 118, 119, 120, 121, 122, 123, 124, 125, 126, 127, 128, 129, 130, 131, 132, 133, 134, 135, 26, 27, 28, 136, 137, 138, 139, 71, 94, 45, 46, 47, 12, 13, 14, 15, 16, 17, 18, 19, 20, 21, 23, 25, 140, 141, 142, 143, 144, 145, 146, 147, 148, 149, 150, 151, 152] rfl (by decide +kernel)
set_option maxRecDepth 20000 in
theorem gX3_widen_X3_putMade : GoodIn wsX3_widen (wsV RX3 60 RX3 yX3_putMade wsX3_putMade) := goodIn_app (goodIn_of _ (by decide +kernel)) ggX3_widen_X3_putMade
theorem dX3_widen_0 : decode cX3_widen 0 = .ok (.iload_n 1, 1) := by decide +kernel
theorem dX3_widen_1 : decode cX3_widen 1 = .ok (.iload_n 2, 1) := by decide +kernel
theorem dX3_widen_2 : decode cX3_widen 2 = .ok (.iload_n 3, 1) := by decide +kernel
theorem dX3_widen_3 : decode cX3_widen 3 = .ok (.invokestatic 71, 3) := by decide +kernel
theorem dX3_widen_6 : decode cX3_widen 6 = .ok (.aload_n 0, 1) := by decide +kernel
theorem dX3_widen_7 : decode cX3_widen 7 = .ok (.getfield 29, 3) := by decide +kernel
theorem dX3_widen_10 : decode cX3_widen 10 = .ok (.aload_n 0, 1) := by decide +kernel
theorem dX3_widen_11 : decode cX3_widen 11 = .ok (.getfield 13, 3) := by decide +kernel
theorem dX3_widen_14 : decode cX3_widen 14 = .ok (.iload_n 2, 1) := by decide +kernel
theorem dX3_widen_15 : decode cX3_widen 15 = .ok (.aaload, 1) := by decide +kernel
theorem dX3_widen_16 : decode cX3_widen 16 = .ok (.invokevirtual 67, 3) := by decide +kernel
theorem dX3_widen_19 : decode cX3_widen 19 = .ok (.aload_n 0, 1) := by decide +kernel
theorem dX3_widen_20 : decode cX3_widen 20 = .ok (.getfield 29, 3) := by decide +kernel
theorem dX3_widen_23 : decode cX3_widen 23 = .ok (.aload_n 0, 1) := by decide +kernel
theorem dX3_widen_24 : decode cX3_widen 24 = .ok (.getfield 13, 3) := by decide +kernel
theorem dX3_widen_27 : decode cX3_widen 27 = .ok (.iload_n 3, 1) := by decide +kernel
theorem dX3_widen_28 : decode cX3_widen 28 = .ok (.aaload, 1) := by decide +kernel
theorem dX3_widen_29 : decode cX3_widen 29 = .ok (.invokevirtual 81, 3) := by decide +kernel
theorem dX3_widen_32 : decode cX3_widen 32 = .ok (.aload_n 0, 1) := by decide +kernel
theorem dX3_widen_33 : decode cX3_widen 33 = .ok (.iload_n 1, 1) := by decide +kernel
theorem dX3_widen_34 : decode cX3_widen 34 = .ok (.invokevirtual 60, 3) := by decide +kernel
theorem dX3_widen_37 : decode cX3_widen 37 = .ok (.return_, 1) := by decide +kernel
set_option maxRecDepth 20000 in
theorem ggX3_forget_X3_requireSlot : GoodIn wsX3_forget wsX3_requireSlot := goodIn_ca (goodIn_r _ [5, 6, 7] rfl (by decide +kernel)) (goodIn_sub (fun _ h => List.mem_cons_of_mem _ (List.mem_append_right _ h)) (by decide +kernel))
set_option maxRecDepth 20000 in
theorem gX3_forget_X3_requireSlot : GoodIn wsX3_forget (va_wsS RX3 48 yX3_requireSlot wsX3_requireSlot) := goodIn_app (goodIn_of _ (by decide +kernel)) ggX3_forget_X3_requireSlot
set_option maxRecDepth 20000 in
theorem ggX3_forget_X3_requireVariable : GoodIn wsX3_forget wsX3_requireVariable := goodIn_ca (goodIn_r _ [10, 6, 7] rfl (by decide +kernel)) (goodIn_sub (fun _ h => List.mem_cons_of_mem _ (List.mem_append_right _ h)) (by decide +kernel))
set_option maxRecDepth 20000 in
theorem gX3_forget_X3_requireVariable : GoodIn wsX3_forget (va_wsS RX3 84 yX3_requireVariable wsX3_requireVariable) := goodIn_app (goodIn_of _ (by decide +kernel)) ggX3_forget_X3_requireVariable
set_option maxRecDepth 20000 in
theorem ggX3_forget_X1_release : GoodIn wsX3_forget wsX1_release := goodIn_r _ [15, 16, 17, 18, 14, 19, 20, 21, 22, 23, 24, 25, 26, 27, 28, 29, 30, 31, 32, 33, 41, 42, 43, 44, 45, 46] rfl (by decide +kernel)
set_option maxRecDepth 20000 in
theorem gX3_forget_X1_release : GoodIn wsX3_forget (wsV RX3 87 RX1 yX1_release wsX1_release) := goodIn_app (goodIn_of _ (by decide +kernel)) ggX3_forget_X1_release
theorem dX3_forget_0 : decode cX3_forget 0 = .ok (.iload_n 1, 1) := by decide +kernel
theorem dX3_forget_1 : decode cX3_forget 1 = .ok (.invokestatic 48, 3) := by decide +kernel
theorem dX3_forget_4 : decode cX3_forget 4 = .ok (.iload_n 2, 1) := by decide +kernel
theorem dX3_forget_5 : decode cX3_forget 5 = .ok (.invokestatic 84, 3) := by decide +kernel
theorem dX3_forget_8 : decode cX3_forget 8 = .ok (.aload_n 0, 1) := by decide +kernel
theorem dX3_forget_9 : decode cX3_forget 9 = .ok (.getfield 13, 3) := by decide +kernel
theorem dX3_forget_12 : decode cX3_forget 12 = .ok (.iload_n 1, 1) := by decide +kernel
theorem dX3_forget_13 : decode cX3_forget 13 = .ok (.aaload, 1) := by decide +kernel
theorem dX3_forget_14 : decode cX3_forget 14 = .ok (.iload_n 2, 1) := by decide +kernel
theorem dX3_forget_15 : decode cX3_forget 15 = .ok (.invokevirtual 87, 3) := by decide +kernel
theorem dX3_forget_18 : decode cX3_forget 18 = .ok (.return_, 1) := by decide +kernel
set_option maxRecDepth 20000 in
theorem ggX3_isEmpty_X3_requireSlot : GoodIn wsX3_isEmpty wsX3_requireSlot := goodIn_ca (goodIn_r _ [6, 7, 8] rfl (by decide +kernel)) (goodIn_sub (fun _ h => List.mem_cons_of_mem _ (List.mem_append_right _ h)) (by decide +kernel))
set_option maxRecDepth 20000 in
theorem gX3_isEmpty_X3_requireSlot : GoodIn wsX3_isEmpty (va_wsS RX3 48 yX3_requireSlot wsX3_requireSlot) := goodIn_app (goodIn_of _ (by decide +kernel)) ggX3_isEmpty_X3_requireSlot
theorem dX3_isEmpty_0 : decode cX3_isEmpty 0 = .ok (.iload_n 1, 1) := by decide +kernel
theorem dX3_isEmpty_1 : decode cX3_isEmpty 1 = .ok (.invokestatic 48, 3) := by decide +kernel
theorem dX3_isEmpty_4 : decode cX3_isEmpty 4 = .ok (.aload_n 0, 1) := by decide +kernel
theorem dX3_isEmpty_5 : decode cX3_isEmpty 5 = .ok (.getfield 13, 3) := by decide +kernel
theorem dX3_isEmpty_8 : decode cX3_isEmpty 8 = .ok (.iload_n 1, 1) := by decide +kernel
theorem dX3_isEmpty_9 : decode cX3_isEmpty 9 = .ok (.aaload, 1) := by decide +kernel
theorem dX3_isEmpty_10 : decode cX3_isEmpty 10 = .ok (.getfield 63, 3) := by decide +kernel
theorem dX3_isEmpty_13 : decode cX3_isEmpty 13 = .ok (.ireturn, 1) := by decide +kernel
set_option maxRecDepth 20000 in
theorem ggX3_most_X3_requireSlot : GoodIn wsX3_most wsX3_requireSlot := goodIn_ca (goodIn_r _ [5, 6, 7] rfl (by decide +kernel)) (goodIn_sub (fun _ h => List.mem_cons_of_mem _ (List.mem_append_left _ (List.mem_append_right _ h))) (by decide +kernel))
set_option maxRecDepth 20000 in
theorem gX3_most_X3_requireSlot : GoodIn wsX3_most (va_wsS RX3 48 yX3_requireSlot wsX3_requireSlot) := goodIn_app (goodIn_of _ (by decide +kernel)) ggX3_most_X3_requireSlot
set_option maxRecDepth 20000 in
theorem ggX3_most_X3_requireTerms : GoodIn wsX3_most wsX3_requireTerms := goodIn_ca (goodIn_r _ [10, 6, 7, 11, 12, 4, 13, 14, 15, 16] rfl (by decide +kernel)) (goodIn_sub (fun _ h => List.mem_cons_of_mem _ (List.mem_append_left _ (List.mem_append_right _ h))) (by decide +kernel))
set_option maxRecDepth 20000 in
theorem gX3_most_X3_requireTerms : GoodIn wsX3_most (va_wsS RX3 90 yX3_requireTerms wsX3_requireTerms) := goodIn_app (goodIn_of _ (by decide +kernel)) ggX3_most_X3_requireTerms
set_option maxRecDepth 20000 in
theorem ggX3_most_X3_requirePlace : GoodIn wsX3_most wsX3_requirePlace := goodIn_ca (goodIn_r _ [20, 21, 22, 1, 23, 57, 58, 59, 60, 61, 62, 63, 64, 65] rfl (by decide +kernel)) (goodIn_sub (fun _ h => List.mem_cons_of_mem _ (List.mem_append_right _ h)) (by decide +kernel))
set_option maxRecDepth 20000 in
theorem gX3_most_X3_requirePlace : GoodIn wsX3_most (wsV RX3 94 RX3 yX3_requirePlace wsX3_requirePlace) := goodIn_app (goodIn_of _ (by decide +kernel)) ggX3_most_X3_requirePlace
set_option maxRecDepth 20000 in
theorem ggX3_most_X1_mostOf : GoodIn wsX3_most wsX1_mostOf := goodIn_r _ [28, 29, 30, 31, 27, 32, 33, 34, 35, 36, 37, 38, 39, 40, 41, 42, 43, 44, 45, 46, 47, 48, 49, 50, 51, 52, 53, 54, 55, 56, 64, 65, 66, 67, 68, 69] rfl (by decide +kernel)
set_option maxRecDepth 20000 in
theorem gX3_most_X1_mostOf : GoodIn wsX3_most (wsV RX3 97 RX1 yX1_mostOf wsX1_mostOf) := goodIn_app (goodIn_of _ (by decide +kernel)) ggX3_most_X1_mostOf
theorem dX3_most_0 : decode cX3_most 0 = .ok (.iload_n 1, 1) := by decide +kernel
theorem dX3_most_1 : decode cX3_most 1 = .ok (.invokestatic 48, 3) := by decide +kernel
theorem dX3_most_4 : decode cX3_most 4 = .ok (.iload_n 2, 1) := by decide +kernel
theorem dX3_most_5 : decode cX3_most 5 = .ok (.iload_n 3, 1) := by decide +kernel
theorem dX3_most_6 : decode cX3_most 6 = .ok (.invokestatic 90, 3) := by decide +kernel
theorem dX3_most_9 : decode cX3_most 9 = .ok (.aload_n 0, 1) := by decide +kernel
theorem dX3_most_10 : decode cX3_most 10 = .ok (.iload_n 1, 1) := by decide +kernel
theorem dX3_most_11 : decode cX3_most 11 = .ok (.invokevirtual 94, 3) := by decide +kernel
theorem dX3_most_14 : decode cX3_most 14 = .ok (.aload_n 0, 1) := by decide +kernel
theorem dX3_most_15 : decode cX3_most 15 = .ok (.getfield 13, 3) := by decide +kernel
theorem dX3_most_18 : decode cX3_most 18 = .ok (.iload_n 1, 1) := by decide +kernel
theorem dX3_most_19 : decode cX3_most 19 = .ok (.aaload, 1) := by decide +kernel
theorem dX3_most_20 : decode cX3_most 20 = .ok (.iload_n 2, 1) := by decide +kernel
theorem dX3_most_21 : decode cX3_most 21 = .ok (.iload_n 3, 1) := by decide +kernel
theorem dX3_most_22 : decode cX3_most 22 = .ok (.invokevirtual 97, 3) := by decide +kernel
theorem dX3_most_25 : decode cX3_most 25 = .ok (.lreturn, 1) := by decide +kernel
set_option maxRecDepth 20000 in
theorem ggX3_inside_X3_requireSlot : GoodIn wsX3_inside wsX3_requireSlot := goodIn_ca (goodIn_r _ [5, 6, 7] rfl (by decide +kernel)) (goodIn_sub (fun _ h => List.mem_cons_of_mem _ (List.mem_append_right _ h)) (by decide +kernel))
set_option maxRecDepth 20000 in
theorem gX3_inside_X3_requireSlot : GoodIn wsX3_inside (va_wsS RX3 48 yX3_requireSlot wsX3_requireSlot) := goodIn_app (goodIn_of _ (by decide +kernel)) ggX3_inside_X3_requireSlot
set_option maxRecDepth 20000 in
theorem ggX3_inside_X1_isWithin : GoodIn wsX3_inside wsX1_isWithin := goodIn_r _ [12, 13, 14, 15, 16, 17, 18, 19, 20, 21, 22, 30, 31, 32, 33, 34, 35] rfl (by decide +kernel)
set_option maxRecDepth 20000 in
theorem gX3_inside_X1_isWithin : GoodIn wsX3_inside (wsV RX3 101 RX1 yX1_isWithin wsX1_isWithin) := goodIn_app (goodIn_of _ (by decide +kernel)) ggX3_inside_X1_isWithin
theorem dX3_inside_0 : decode cX3_inside 0 = .ok (.iload_n 1, 1) := by decide +kernel
theorem dX3_inside_1 : decode cX3_inside 1 = .ok (.invokestatic 48, 3) := by decide +kernel
theorem dX3_inside_4 : decode cX3_inside 4 = .ok (.iload_n 2, 1) := by decide +kernel
theorem dX3_inside_5 : decode cX3_inside 5 = .ok (.invokestatic 48, 3) := by decide +kernel
theorem dX3_inside_8 : decode cX3_inside 8 = .ok (.aload_n 0, 1) := by decide +kernel
theorem dX3_inside_9 : decode cX3_inside 9 = .ok (.getfield 13, 3) := by decide +kernel
theorem dX3_inside_12 : decode cX3_inside 12 = .ok (.iload_n 1, 1) := by decide +kernel
theorem dX3_inside_13 : decode cX3_inside 13 = .ok (.aaload, 1) := by decide +kernel
theorem dX3_inside_14 : decode cX3_inside 14 = .ok (.aload_n 0, 1) := by decide +kernel
theorem dX3_inside_15 : decode cX3_inside 15 = .ok (.getfield 13, 3) := by decide +kernel
theorem dX3_inside_18 : decode cX3_inside 18 = .ok (.iload_n 2, 1) := by decide +kernel
theorem dX3_inside_19 : decode cX3_inside 19 = .ok (.aaload, 1) := by decide +kernel
theorem dX3_inside_20 : decode cX3_inside 20 = .ok (.invokevirtual 101, 3) := by decide +kernel
theorem dX3_inside_23 : decode cX3_inside 23 = .ok (.ireturn, 1) := by decide +kernel
set_option maxRecDepth 20000 in
theorem ggX3_bounds_X3_requireSlot : GoodIn wsX3_bounds wsX3_requireSlot := goodIn_ca (goodIn_r _ [6, 7, 8] rfl (by decide +kernel)) (goodIn_sub (fun _ h => List.mem_cons_of_mem _ (List.mem_append_right _ h)) (by decide +kernel))
set_option maxRecDepth 20000 in
theorem gX3_bounds_X3_requireSlot : GoodIn wsX3_bounds (va_wsS RX3 48 yX3_requireSlot wsX3_requireSlot) := goodIn_app (goodIn_of _ (by decide +kernel)) ggX3_bounds_X3_requireSlot
set_option maxRecDepth 20000 in
theorem ggX3_bounds_X1_countBounds : GoodIn wsX3_bounds wsX1_countBounds := goodIn_r _ [13, 14, 15, 5, 16, 17, 18, 12, 19, 20, 21, 22, 23, 24, 25, 26, 27, 35, 36, 37, 38, 39, 40] rfl (by decide +kernel)
set_option maxRecDepth 20000 in
theorem gX3_bounds_X1_countBounds : GoodIn wsX3_bounds (wsV RX3 105 RX1 yX1_countBounds wsX1_countBounds) := goodIn_app (goodIn_of _ (by decide +kernel)) ggX3_bounds_X1_countBounds
theorem dX3_bounds_0 : decode cX3_bounds 0 = .ok (.iload_n 1, 1) := by decide +kernel
theorem dX3_bounds_1 : decode cX3_bounds 1 = .ok (.invokestatic 48, 3) := by decide +kernel
theorem dX3_bounds_4 : decode cX3_bounds 4 = .ok (.aload_n 0, 1) := by decide +kernel
theorem dX3_bounds_5 : decode cX3_bounds 5 = .ok (.getfield 13, 3) := by decide +kernel
theorem dX3_bounds_8 : decode cX3_bounds 8 = .ok (.iload_n 1, 1) := by decide +kernel
theorem dX3_bounds_9 : decode cX3_bounds 9 = .ok (.aaload, 1) := by decide +kernel
theorem dX3_bounds_10 : decode cX3_bounds 10 = .ok (.getfield 63, 3) := by decide +kernel
theorem dX3_bounds_13 : decode cX3_bounds 13 = .ok (.ifCond .eq 7, 3) := by decide +kernel
theorem dX3_bounds_16 : decode cX3_bounds 16 = .ok (.iconst (-1), 1) := by decide +kernel
theorem dX3_bounds_17 : decode cX3_bounds 17 = .ok (.goto 12, 3) := by decide +kernel
theorem dX3_bounds_20 : decode cX3_bounds 20 = .ok (.aload_n 0, 1) := by decide +kernel
theorem dX3_bounds_21 : decode cX3_bounds 21 = .ok (.getfield 13, 3) := by decide +kernel
theorem dX3_bounds_24 : decode cX3_bounds 24 = .ok (.iload_n 1, 1) := by decide +kernel
theorem dX3_bounds_25 : decode cX3_bounds 25 = .ok (.aaload, 1) := by decide +kernel
theorem dX3_bounds_26 : decode cX3_bounds 26 = .ok (.invokevirtual 105, 3) := by decide +kernel
theorem dX3_bounds_29 : decode cX3_bounds 29 = .ok (.ireturn, 1) := by decide +kernel
set_option maxRecDepth 20000 in
theorem ggX3_first_X3_requireSlot : GoodIn wsX3_first wsX3_requireSlot := goodIn_ca (goodIn_r _ [6, 7, 8] rfl (by decide +kernel)) (goodIn_sub (fun _ h => List.mem_cons_of_mem _ (List.mem_append_left _ (List.mem_append_right _ h))) (by decide +kernel))
set_option maxRecDepth 20000 in
theorem gX3_first_X3_requireSlot : GoodIn wsX3_first (va_wsS RX3 48 yX3_requireSlot wsX3_requireSlot) := goodIn_app (goodIn_of _ (by decide +kernel)) ggX3_first_X3_requireSlot
set_option maxRecDepth 20000 in
theorem ggX3_first_X3_requireVariable : GoodIn wsX3_first wsX3_requireVariable := goodIn_ca (goodIn_r _ [11, 7, 8] rfl (by decide +kernel)) (goodIn_sub (fun _ h => List.mem_cons_of_mem _ (List.mem_append_left _ (List.mem_append_right _ h))) (by decide +kernel))
set_option maxRecDepth 20000 in
theorem gX3_first_X3_requireVariable : GoodIn wsX3_first (va_wsS RX3 84 yX3_requireVariable wsX3_requireVariable) := goodIn_app (goodIn_of _ (by decide +kernel)) ggX3_first_X3_requireVariable
set_option maxRecDepth 20000 in
theorem ggX3_first_X3_requirePlace : GoodIn wsX3_first wsX3_requirePlace := goodIn_ca (goodIn_r _ [15, 16, 17, 2, 18, 161, 162, 163, 164, 165, 166, 167, 168, 169] rfl (by decide +kernel)) (goodIn_sub (fun _ h => List.mem_cons_of_mem _ (List.mem_append_right _ h)) (by decide +kernel))
set_option maxRecDepth 20000 in
theorem gX3_first_X3_requirePlace : GoodIn wsX3_first (wsV RX3 94 RX3 yX3_requirePlace wsX3_requirePlace) := goodIn_app (goodIn_of _ (by decide +kernel)) ggX3_first_X3_requirePlace
set_option maxRecDepth 20000 in
theorem ggX3_first_X1_takeOver : GoodIn wsX3_first wsX1_takeOver := goodIn_r _ [23, 24, 25, 26, 27, 28, 29, 30, 31, 32, 33, 34, 35, 168, 169, 170, 171, 172, 173] rfl (by decide +kernel)
set_option maxRecDepth 20000 in
theorem gX3_first_X1_takeOver : GoodIn wsX3_first (wsV RX3 67 RX1 yX1_takeOver wsX1_takeOver) := goodIn_app (goodIn_of _ (by decide +kernel)) ggX3_first_X1_takeOver
set_option maxRecDepth 20000 in
theorem ggX3_first_X1_settle : GoodIn wsX3_first wsX1_settle := goodIn_r _ [39, 24, 40, 41, 22, 42, 43, 44, 45, 29, 46, 31, 47, 48, 49, 50, 51, 52, 53, 54, 55, 56, 57, 58, 25, 59, 60, 61, 62, 63, 64, 65, 66, 67, 68, 69, 70, 71, 5, 72, 73, 74, 75, 76, 77, 78, 79, 80, 81, 82, 83, 84, 85, 86, 87, 88, 89, 90, 91, 92, 93, 94, 95, 96, 97, 98, 99, 100, 101, 102, 103, 104, 105, 106, 107, 108, 109, 168, 169, 170, 171, 172, 173] rfl (by decide +kernel)
set_option maxRecDepth 20000 in
theorem gX3_first_X1_settle : GoodIn wsX3_first (wsV RX3 109 RX1 yX1_settle wsX1_settle) := goodIn_app (goodIn_of _ (by decide +kernel)) ggX3_first_X1_settle
set_option maxRecDepth 20000 in
theorem ggX3_first_X3_makeRoom : GoodIn wsX3_first wsX3_makeRoom := goodIn_r _ [113, 18, 114, 2, 115, 116, 1, 117, 118, 119, 29, 120, 54, 31, 47, 48, 121, 122, 123, 124, 5, 125, 126, 127, 128, 129, 130, 131, 132, 133, 134, 135, 136, 137, 138, 139, 140, 141, 142, 143, 144, 145, 33, 34, 35, 146, 147, 148, 149, 53, 98, 99, 100, 101, 168, 169, 161, 162, 163, 164, 165, 166, 167, 170, 171, 172, 173] rfl (by decide +kernel)
set_option maxRecDepth 20000 in
theorem gX3_first_X3_makeRoom : GoodIn wsX3_first (wsV RX3 112 RX3 yX3_makeRoom wsX3_makeRoom) := goodIn_app (goodIn_of _ (by decide +kernel)) ggX3_first_X3_makeRoom
set_option maxRecDepth 20000 in
theorem ggX3_first_X1_mostOf : GoodIn wsX3_first wsX1_mostOf := goodIn_r _ [153, 24, 40, 41, 22, 42, 154, 155, 156, 29, 157, 31, 47, 48, 54, 158, 159, 160, 93, 94, 95, 96, 97, 44, 45, 46, 98, 99, 100, 101, 168, 169, 170, 171, 172, 173] rfl (by decide +kernel)
set_option maxRecDepth 20000 in
theorem gX3_first_X1_mostOf : GoodIn wsX3_first (wsV RX3 97 RX1 yX1_mostOf wsX1_mostOf) := goodIn_app (goodIn_of _ (by decide +kernel)) ggX3_first_X1_mostOf
theorem dX3_first_0 : decode cX3_first 0 = .ok (.iload_n 1, 1) := by decide +kernel
theorem dX3_first_1 : decode cX3_first 1 = .ok (.invokestatic 48, 3) := by decide +kernel
theorem dX3_first_4 : decode cX3_first 4 = .ok (.iload_n 2, 1) := by decide +kernel
theorem dX3_first_5 : decode cX3_first 5 = .ok (.invokestatic 84, 3) := by decide +kernel
theorem dX3_first_8 : decode cX3_first 8 = .ok (.aload_n 0, 1) := by decide +kernel
theorem dX3_first_9 : decode cX3_first 9 = .ok (.iload_n 1, 1) := by decide +kernel
theorem dX3_first_10 : decode cX3_first 10 = .ok (.invokevirtual 94, 3) := by decide +kernel
theorem dX3_first_13 : decode cX3_first 13 = .ok (.aload_n 0, 1) := by decide +kernel
theorem dX3_first_14 : decode cX3_first 14 = .ok (.getfield 29, 3) := by decide +kernel
theorem dX3_first_17 : decode cX3_first 17 = .ok (.aload_n 0, 1) := by decide +kernel
theorem dX3_first_18 : decode cX3_first 18 = .ok (.getfield 13, 3) := by decide +kernel
theorem dX3_first_21 : decode cX3_first 21 = .ok (.iload_n 1, 1) := by decide +kernel
theorem dX3_first_22 : decode cX3_first 22 = .ok (.aaload, 1) := by decide +kernel
theorem dX3_first_23 : decode cX3_first 23 = .ok (.invokevirtual 67, 3) := by decide +kernel
theorem dX3_first_26 : decode cX3_first 26 = .ok (.iconst 0, 1) := by decide +kernel
theorem dX3_first_27 : decode cX3_first 27 = .ok (.istore_n 3, 1) := by decide +kernel
theorem dX3_first_28 : decode cX3_first 28 = .ok (.iload_n 3, 1) := by decide +kernel
theorem dX3_first_29 : decode cX3_first 29 = .ok (.iload_n 2, 1) := by decide +kernel
theorem dX3_first_30 : decode cX3_first 30 = .ok (.if_icmp .gt 25, 3) := by decide +kernel
theorem dX3_first_33 : decode cX3_first 33 = .ok (.aload_n 0, 1) := by decide +kernel
theorem dX3_first_34 : decode cX3_first 34 = .ok (.getfield 29, 3) := by decide +kernel
theorem dX3_first_37 : decode cX3_first 37 = .ok (.iload_n 3, 1) := by decide +kernel
theorem dX3_first_38 : decode cX3_first 38 = .ok (.invokevirtual 109, 3) := by decide +kernel
theorem dX3_first_41 : decode cX3_first 41 = .ok (.aload_n 0, 1) := by decide +kernel
theorem dX3_first_42 : decode cX3_first 42 = .ok (.aload_n 0, 1) := by decide +kernel
theorem dX3_first_43 : decode cX3_first 43 = .ok (.getfield 29, 3) := by decide +kernel
theorem dX3_first_46 : decode cX3_first 46 = .ok (.invokevirtual 112, 3) := by decide +kernel
theorem dX3_first_49 : decode cX3_first 49 = .ok (.iinc 3 1, 3) := by decide +kernel
theorem dX3_first_52 : decode cX3_first 52 = .ok (.goto (-24), 3) := by decide +kernel
theorem dX3_first_55 : decode cX3_first 55 = .ok (.aload_n 0, 1) := by decide +kernel
theorem dX3_first_56 : decode cX3_first 56 = .ok (.getfield 29, 3) := by decide +kernel
theorem dX3_first_59 : decode cX3_first 59 = .ok (.iconst 2, 1) := by decide +kernel
theorem dX3_first_60 : decode cX3_first 60 = .ok (.iload_n 2, 1) := by decide +kernel
theorem dX3_first_61 : decode cX3_first 61 = .ok (.imul, 1) := by decide +kernel
theorem dX3_first_62 : decode cX3_first 62 = .ok (.iconst 2, 1) := by decide +kernel
theorem dX3_first_63 : decode cX3_first 63 = .ok (.iload_n 2, 1) := by decide +kernel
theorem dX3_first_64 : decode cX3_first 64 = .ok (.imul, 1) := by decide +kernel
theorem dX3_first_65 : decode cX3_first 65 = .ok (.invokevirtual 97, 3) := by decide +kernel
theorem dX3_first_68 : decode cX3_first 68 = .ok (.lreturn, 1) := by decide +kernel
set_option maxRecDepth 20000 in
theorem ggX3_places_X3_requireSlot : GoodIn wsX3_places wsX3_requireSlot := goodIn_ca (goodIn_r _ [7, 8, 9] rfl (by decide +kernel)) (goodIn_sub (fun _ h => List.mem_cons_of_mem _ (List.mem_append_right _ h)) (by decide +kernel))
set_option maxRecDepth 20000 in
theorem gX3_places_X3_requireSlot : GoodIn wsX3_places (va_wsS RX3 48 yX3_requireSlot wsX3_requireSlot) := goodIn_app (goodIn_of _ (by decide +kernel)) ggX3_places_X3_requireSlot
set_option maxRecDepth 20000 in
theorem ggX3_places_X1_takeOver : GoodIn wsX3_places wsX1_takeOver := goodIn_r _ [14, 15, 16, 17, 18, 19, 20, 21, 22, 23, 24, 25, 26, 94, 95, 96, 97, 98, 99] rfl (by decide +kernel)
set_option maxRecDepth 20000 in
theorem gX3_places_X1_takeOver : GoodIn wsX3_places (wsV RX3 67 RX1 yX1_takeOver wsX1_takeOver) := goodIn_app (goodIn_of _ (by decide +kernel)) ggX3_places_X1_takeOver
set_option maxRecDepth 20000 in
theorem ggX3_places_X1_shiftToLeast : GoodIn wsX3_places wsX1_shiftToLeast := goodIn_r _ [30, 15, 31, 32, 13, 33, 34, 35, 36, 20, 37, 22, 38, 39, 40, 41, 42, 43, 44, 45, 46, 47, 48, 49, 50, 51, 52, 53, 54, 55, 56, 57, 58, 94, 95, 96, 97, 98, 99] rfl (by decide +kernel)
set_option maxRecDepth 20000 in
theorem gX3_places_X1_shiftToLeast : GoodIn wsX3_places (wsV RX3 115 RX1 yX1_shiftToLeast wsX1_shiftToLeast) := goodIn_app (goodIn_of _ (by decide +kernel)) ggX3_places_X1_shiftToLeast
set_option maxRecDepth 20000 in
theorem ggX3_places_X3_madeFitsTheBox : GoodIn wsX3_places wsX3_madeFitsTheBox := goodIn_r _ [62, 3, 63, 64, 65, 66, 13, 67, 15, 31, 32, 33, 68, 69, 70, 20, 71, 22, 38, 39, 44, 72, 73, 74, 40, 41, 42, 43, 45, 35, 36, 37, 46, 47, 48, 49, 87, 88, 89, 90, 91, 92, 93, 94, 95, 96, 97, 98, 99] rfl (by decide +kernel)
set_option maxRecDepth 20000 in
theorem gX3_places_X3_madeFitsTheBox : GoodIn wsX3_places (wsV RX3 119 RX3 yX3_madeFitsTheBox wsX3_madeFitsTheBox) := goodIn_app (goodIn_of _ (by decide +kernel)) ggX3_places_X3_madeFitsTheBox
set_option maxRecDepth 20000 in
theorem ggX3_places_X3_countFrom : GoodIn wsX3_places wsX3_countFrom := goodIn_r _ [78, 3, 79, 80, 81, 82, 83, 84, 85, 86, 64, 65, 66, 13, 67, 15, 31, 32, 33, 68, 69, 70, 20, 71, 22, 38, 39, 44, 72, 73, 74, 40, 41, 42, 43, 45, 35, 36, 37, 46, 47, 48, 49, 75, 76, 77, 6, 87, 88, 89, 90, 91, 92, 93, 94, 95, 96, 97, 98, 99] rfl (by decide +kernel)
set_option maxRecDepth 20000 in
theorem gX3_places_X3_countFrom : GoodIn wsX3_places (wsV RX3 122 RX3 yX3_countFrom wsX3_countFrom) := goodIn_app (goodIn_of _ (by decide +kernel)) ggX3_places_X3_countFrom
theorem dX3_places_0 : decode cX3_places 0 = .ok (.iload_n 1, 1) := by decide +kernel
theorem dX3_places_1 : decode cX3_places 1 = .ok (.invokestatic 48, 3) := by decide +kernel
theorem dX3_places_4 : decode cX3_places 4 = .ok (.aload_n 0, 1) := by decide +kernel
theorem dX3_places_5 : decode cX3_places 5 = .ok (.getfield 13, 3) := by decide +kernel
theorem dX3_places_8 : decode cX3_places 8 = .ok (.iload_n 1, 1) := by decide +kernel
theorem dX3_places_9 : decode cX3_places 9 = .ok (.aaload, 1) := by decide +kernel
theorem dX3_places_10 : decode cX3_places 10 = .ok (.getfield 63, 3) := by decide +kernel
theorem dX3_places_13 : decode cX3_places 13 = .ok (.ifCond .eq 5, 3) := by decide +kernel
theorem dX3_places_16 : decode cX3_places 16 = .ok (.iconst 0, 1) := by decide +kernel
theorem dX3_places_17 : decode cX3_places 17 = .ok (.ireturn, 1) := by decide +kernel
theorem dX3_places_18 : decode cX3_places 18 = .ok (.aload_n 0, 1) := by decide +kernel
theorem dX3_places_19 : decode cX3_places 19 = .ok (.getfield 29, 3) := by decide +kernel
theorem dX3_places_22 : decode cX3_places 22 = .ok (.aload_n 0, 1) := by decide +kernel
theorem dX3_places_23 : decode cX3_places 23 = .ok (.getfield 13, 3) := by decide +kernel
theorem dX3_places_26 : decode cX3_places 26 = .ok (.iload_n 1, 1) := by decide +kernel
theorem dX3_places_27 : decode cX3_places 27 = .ok (.aaload, 1) := by decide +kernel
theorem dX3_places_28 : decode cX3_places 28 = .ok (.invokevirtual 67, 3) := by decide +kernel
theorem dX3_places_31 : decode cX3_places 31 = .ok (.aload_n 0, 1) := by decide +kernel
theorem dX3_places_32 : decode cX3_places 32 = .ok (.getfield 29, 3) := by decide +kernel
theorem dX3_places_35 : decode cX3_places 35 = .ok (.invokevirtual 115, 3) := by decide +kernel
theorem dX3_places_38 : decode cX3_places 38 = .ok (.ifCond .eq 10, 3) := by decide +kernel
theorem dX3_places_41 : decode cX3_places 41 = .ok (.aload_n 0, 1) := by decide +kernel
theorem dX3_places_42 : decode cX3_places 42 = .ok (.invokevirtual 119, 3) := by decide +kernel
theorem dX3_places_45 : decode cX3_places 45 = .ok (.ifCond .ne 5, 3) := by decide +kernel
theorem dX3_places_48 : decode cX3_places 48 = .ok (.iconst (-1), 1) := by decide +kernel
theorem dX3_places_49 : decode cX3_places 49 = .ok (.ireturn, 1) := by decide +kernel
theorem dX3_places_50 : decode cX3_places 50 = .ok (.aload_n 0, 1) := by decide +kernel
theorem dX3_places_51 : decode cX3_places 51 = .ok (.iconst 0, 1) := by decide +kernel
theorem dX3_places_52 : decode cX3_places 52 = .ok (.invokevirtual 122, 3) := by decide +kernel
theorem dX3_places_55 : decode cX3_places 55 = .ok (.ireturn, 1) := by decide +kernel
set_option maxRecDepth 20000 in
theorem ggX3_step_X3_requireAction : GoodIn wsX3_step wsX3_requireAction := goodIn_ca (goodIn_r _ [10, 1, 2, 11, 12, 9, 13, 14, 15, 16, 17, 18, 19, 20, 21, 22, 23, 24, 25, 26, 27] rfl (by decide +kernel)) (goodIn_sub (fun _ h => List.mem_cons_of_mem _ (List.mem_append_left _ (List.mem_append_right _ h))) (by decide +kernel))
set_option maxRecDepth 20000 in
theorem gX3_step_X3_requireAction : GoodIn wsX3_step (va_wsS RX3 52 yX3_requireAction wsX3_requireAction) := goodIn_app (goodIn_of _ (by decide +kernel)) ggX3_step_X3_requireAction
set_option maxRecDepth 20000 in
theorem ggX3_step_X2_write : GoodIn wsX3_step wsX2_write := goodIn_r _ [32, 33, 34, 35, 36, 37, 38, 46, 47, 48, 49, 50, 51] rfl (by decide +kernel)
set_option maxRecDepth 20000 in
theorem gX3_step_X2_write : GoodIn wsX3_step (wsV RX3 138 RX2 yX2_write wsX2_write) := goodIn_app (goodIn_of _ (by decide +kernel)) ggX3_step_X2_write
theorem dX3_step_0 : decode cX3_step 0 = .ok (.iload_n 1, 1) := by decide +kernel
theorem dX3_step_1 : decode cX3_step 1 = .ok (.ifCond .lt 9, 3) := by decide +kernel
theorem dX3_step_4 : decode cX3_step 4 = .ok (.iload_n 1, 1) := by decide +kernel
theorem dX3_step_5 : decode cX3_step 5 = .ok (.bipush 64, 2) := by decide +kernel
theorem dX3_step_7 : decode cX3_step 7 = .ok (.if_icmp .lt 13, 3) := by decide +kernel
theorem dX3_step_10 : decode cX3_step 10 = .ok (.new 126, 3) := by decide +kernel
theorem dX3_step_13 : decode cX3_step 13 = .ok (.dup, 1) := by decide +kernel
theorem dX3_step_14 : decode cX3_step 14 = .ok (.ldc 128, 2) := by decide +kernel
theorem dX3_step_16 : decode cX3_step 16 = .ok (.invokespecial 130, 3) := by decide +kernel
theorem dX3_step_19 : decode cX3_step 19 = .ok (.athrow, 1) := by decide +kernel
theorem dX3_step_20 : decode cX3_step 20 = .ok (.iload_n 2, 1) := by decide +kernel
theorem dX3_step_21 : decode cX3_step 21 = .ok (.iload_n 3, 1) := by decide +kernel
theorem dX3_step_22 : decode cX3_step 22 = .ok (.iload 4, 2) := by decide +kernel
theorem dX3_step_24 : decode cX3_step 24 = .ok (.iload 5, 2) := by decide +kernel
theorem dX3_step_26 : decode cX3_step 26 = .ok (.invokestatic 52, 3) := by decide +kernel
theorem dX3_step_29 : decode cX3_step 29 = .ok (.aload_n 0, 1) := by decide +kernel
theorem dX3_step_30 : decode cX3_step 30 = .ok (.getfield 37, 3) := by decide +kernel
theorem dX3_step_33 : decode cX3_step 33 = .ok (.bipush 20, 2) := by decide +kernel
theorem dX3_step_35 : decode cX3_step 35 = .ok (.if_icmp .lt 13, 3) := by decide +kernel
theorem dX3_step_38 : decode cX3_step 38 = .ok (.new 133, 3) := by decide +kernel
theorem dX3_step_41 : decode cX3_step 41 = .ok (.dup, 1) := by decide +kernel
theorem dX3_step_42 : decode cX3_step 42 = .ok (.ldc 135, 2) := by decide +kernel
theorem dX3_step_44 : decode cX3_step 44 = .ok (.invokespecial 137, 3) := by decide +kernel
theorem dX3_step_47 : decode cX3_step 47 = .ok (.athrow, 1) := by decide +kernel
theorem dX3_step_48 : decode cX3_step 48 = .ok (.aload_n 0, 1) := by decide +kernel
theorem dX3_step_49 : decode cX3_step 49 = .ok (.getfield 43, 3) := by decide +kernel
theorem dX3_step_52 : decode cX3_step 52 = .ok (.aload_n 0, 1) := by decide +kernel
theorem dX3_step_53 : decode cX3_step 53 = .ok (.getfield 37, 3) := by decide +kernel
theorem dX3_step_56 : decode cX3_step 56 = .ok (.aaload, 1) := by decide +kernel
theorem dX3_step_57 : decode cX3_step 57 = .ok (.iload_n 1, 1) := by decide +kernel
theorem dX3_step_58 : decode cX3_step 58 = .ok (.iload_n 2, 1) := by decide +kernel
theorem dX3_step_59 : decode cX3_step 59 = .ok (.iload_n 3, 1) := by decide +kernel
theorem dX3_step_60 : decode cX3_step 60 = .ok (.iload 4, 2) := by decide +kernel
theorem dX3_step_62 : decode cX3_step 62 = .ok (.iload 5, 2) := by decide +kernel
theorem dX3_step_64 : decode cX3_step 64 = .ok (.invokevirtual 138, 3) := by decide +kernel
theorem dX3_step_67 : decode cX3_step 67 = .ok (.aload_n 0, 1) := by decide +kernel
theorem dX3_step_68 : decode cX3_step 68 = .ok (.dup, 1) := by decide +kernel
theorem dX3_step_69 : decode cX3_step 69 = .ok (.getfield 37, 3) := by decide +kernel
theorem dX3_step_72 : decode cX3_step 72 = .ok (.iconst 1, 1) := by decide +kernel
theorem dX3_step_73 : decode cX3_step 73 = .ok (.iadd, 1) := by decide +kernel
theorem dX3_step_74 : decode cX3_step 74 = .ok (.putfield 37, 3) := by decide +kernel
theorem dX3_step_77 : decode cX3_step 77 = .ok (.aload_n 0, 1) := by decide +kernel
theorem dX3_step_78 : decode cX3_step 78 = .ok (.getfield 37, 3) := by decide +kernel
theorem dX3_step_81 : decode cX3_step 81 = .ok (.iconst 1, 1) := by decide +kernel
theorem dX3_step_82 : decode cX3_step 82 = .ok (.isub, 1) := by decide +kernel
theorem dX3_step_83 : decode cX3_step 83 = .ok (.ireturn, 1) := by decide +kernel
theorem dX3_erase_0 : decode cX3_erase 0 = .ok (.aload_n 0, 1) := by decide +kernel
theorem dX3_erase_1 : decode cX3_erase 1 = .ok (.getfield 37, 3) := by decide +kernel
theorem dX3_erase_4 : decode cX3_erase 4 = .ok (.istore_n 1, 1) := by decide +kernel
theorem dX3_erase_5 : decode cX3_erase 5 = .ok (.aload_n 0, 1) := by decide +kernel
theorem dX3_erase_6 : decode cX3_erase 6 = .ok (.iconst 0, 1) := by decide +kernel
theorem dX3_erase_7 : decode cX3_erase 7 = .ok (.putfield 37, 3) := by decide +kernel
theorem dX3_erase_10 : decode cX3_erase 10 = .ok (.iload_n 1, 1) := by decide +kernel
theorem dX3_erase_11 : decode cX3_erase 11 = .ok (.ireturn, 1) := by decide +kernel
set_option maxRecDepth 20000 in
theorem ggX3_run_X3_requireSlot : GoodIn wsX3_run wsX3_requireSlot := goodIn_ca (goodIn_r _ [9, 10, 11] rfl (by decide +kernel)) (goodIn_sub (fun _ h => List.mem_cons_of_mem _ (List.mem_append_right _ h)) (by decide +kernel))
set_option maxRecDepth 20000 in
theorem gX3_run_X3_requireSlot : GoodIn wsX3_run (va_wsS RX3 48 yX3_requireSlot wsX3_requireSlot) := goodIn_app (goodIn_of _ (by decide +kernel)) ggX3_run_X3_requireSlot
set_option maxRecDepth 20000 in
theorem ggX3_run_X1_takeOver : GoodIn wsX3_run wsX1_takeOver := goodIn_r _ [16, 17, 18, 19, 20, 21, 22, 23, 24, 25, 26, 27, 28, 206, 207, 208, 209, 210, 211] rfl (by decide +kernel)
set_option maxRecDepth 20000 in
theorem gX3_run_X1_takeOver : GoodIn wsX3_run (wsV RX3 67 RX1 yX1_takeOver wsX1_takeOver) := goodIn_app (goodIn_of _ (by decide +kernel)) ggX3_run_X1_takeOver
set_option maxRecDepth 20000 in
theorem ggX3_run_X3_follow : GoodIn wsX3_run wsX3_follow := goodIn_r _ [32, 1, 33, 34, 35, 36, 37, 38, 39, 40, 41, 42, 15, 43, 17, 44, 45, 46, 47, 18, 48, 49, 50, 51, 8, 52, 53, 54, 55, 56, 57, 58, 59, 60, 61, 22, 62, 63, 24, 64, 65, 66, 67, 68, 69, 70, 71, 72, 73, 74, 75, 13, 14, 16, 19, 20, 21, 23, 25, 26, 27, 28, 76, 77, 78, 79, 80, 81, 82, 83, 84, 85, 86, 87, 88, 89, 90, 91, 92, 93, 94, 95, 96, 97, 98, 99, 100, 101, 102, 103, 104, 105, 106, 107, 108, 109, 110, 111, 112, 113, 114, 115, 116, 117, 118, 119, 120, 121, 122, 123, 124, 125, 126, 127, 128, 129, 130, 131, 132, 133, 134, 135, 136, 137, 138, 139, 2, 140, 3, 141, 142, 143, 144, 145, 146, 147, 148, 149, 150, 151, 152, 153, 154, 155, 156, 157, 158, 159, 160, 161, 162, 163, 164, 165, 166, 167, 168, 169, 170, 171, 172, 173, 174, 175, 176, 177, 178, 179, 180, 181, 182, 183, 184, 185, 186, 187, 188, 189, 190, 191, 192, 193, 194, 199, 200, 201, 202, 203, 204, 205, 212, 213, 214, 215, 216, 217, 206, 207, 208, 209, 210, 211] rfl (by decide +kernel)
set_option maxRecDepth 20000 in
theorem gX3_run_X3_follow : GoodIn wsX3_run (wsV RX3 142 RX3 yX3_follow wsX3_follow) := goodIn_app (goodIn_of _ (by decide +kernel)) ggX3_run_X3_follow
set_option maxRecDepth 20000 in
theorem ggX3_run_X3_keepReached : GoodIn wsX3_run wsX3_keepReached := goodIn_r _ [198, 141, 1, 199, 200, 201, 202, 203, 204, 205] rfl (by decide +kernel)
set_option maxRecDepth 20000 in
theorem gX3_run_X3_keepReached : GoodIn wsX3_run (wsV RX3 146 RX3 yX3_keepReached wsX3_keepReached) := goodIn_app (goodIn_of _ (by decide +kernel)) ggX3_run_X3_keepReached
theorem dX3_run_0 : decode cX3_run 0 = .ok (.iload_n 1, 1) := by decide +kernel
theorem dX3_run_1 : decode cX3_run 1 = .ok (.invokestatic 48, 3) := by decide +kernel
theorem dX3_run_4 : decode cX3_run 4 = .ok (.iconst 0, 1) := by decide +kernel
theorem dX3_run_5 : decode cX3_run 5 = .ok (.istore_n 2, 1) := by decide +kernel
theorem dX3_run_6 : decode cX3_run 6 = .ok (.iload_n 2, 1) := by decide +kernel
theorem dX3_run_7 : decode cX3_run 7 = .ok (.bipush 8, 2) := by decide +kernel
theorem dX3_run_9 : decode cX3_run 9 = .ok (.if_icmp .ge 19, 3) := by decide +kernel
theorem dX3_run_12 : decode cX3_run 12 = .ok (.aload_n 0, 1) := by decide +kernel
theorem dX3_run_13 : decode cX3_run 13 = .ok (.getfield 25, 3) := by decide +kernel
theorem dX3_run_16 : decode cX3_run 16 = .ok (.iload_n 2, 1) := by decide +kernel
theorem dX3_run_17 : decode cX3_run 17 = .ok (.aaload, 1) := by decide +kernel
theorem dX3_run_18 : decode cX3_run 18 = .ok (.iconst 1, 1) := by decide +kernel
theorem dX3_run_19 : decode cX3_run 19 = .ok (.putfield 63, 3) := by decide +kernel
theorem dX3_run_22 : decode cX3_run 22 = .ok (.iinc 2 1, 3) := by decide +kernel
theorem dX3_run_25 : decode cX3_run 25 = .ok (.goto (-19), 3) := by decide +kernel
theorem dX3_run_28 : decode cX3_run 28 = .ok (.aload_n 0, 1) := by decide +kernel
theorem dX3_run_29 : decode cX3_run 29 = .ok (.getfield 25, 3) := by decide +kernel
theorem dX3_run_32 : decode cX3_run 32 = .ok (.iconst 0, 1) := by decide +kernel
theorem dX3_run_33 : decode cX3_run 33 = .ok (.aaload, 1) := by decide +kernel
theorem dX3_run_34 : decode cX3_run 34 = .ok (.aload_n 0, 1) := by decide +kernel
theorem dX3_run_35 : decode cX3_run 35 = .ok (.getfield 13, 3) := by decide +kernel
theorem dX3_run_38 : decode cX3_run 38 = .ok (.iload_n 1, 1) := by decide +kernel
theorem dX3_run_39 : decode cX3_run 39 = .ok (.aaload, 1) := by decide +kernel
theorem dX3_run_40 : decode cX3_run 40 = .ok (.invokevirtual 67, 3) := by decide +kernel
theorem dX3_run_43 : decode cX3_run 43 = .ok (.iconst 1, 1) := by decide +kernel
theorem dX3_run_44 : decode cX3_run 44 = .ok (.istore_n 2, 1) := by decide +kernel
theorem dX3_run_45 : decode cX3_run 45 = .ok (.iload_n 2, 1) := by decide +kernel
theorem dX3_run_46 : decode cX3_run 46 = .ok (.bipush 30, 2) := by decide +kernel
theorem dX3_run_48 : decode cX3_run 48 = .ok (.if_icmp .gt 54, 3) := by decide +kernel
theorem dX3_run_51 : decode cX3_run 51 = .ok (.iconst 0, 1) := by decide +kernel
theorem dX3_run_52 : decode cX3_run 52 = .ok (.istore_n 3, 1) := by decide +kernel
theorem dX3_run_53 : decode cX3_run 53 = .ok (.iconst 0, 1) := by decide +kernel
theorem dX3_run_54 : decode cX3_run 54 = .ok (.istore 4, 2) := by decide +kernel
theorem dX3_run_56 : decode cX3_run 56 = .ok (.iload 4, 2) := by decide +kernel
theorem dX3_run_58 : decode cX3_run 58 = .ok (.aload_n 0, 1) := by decide +kernel
theorem dX3_run_59 : decode cX3_run 59 = .ok (.getfield 37, 3) := by decide +kernel
theorem dX3_run_62 : decode cX3_run 62 = .ok (.if_icmp .ge 24, 3) := by decide +kernel
theorem dX3_run_65 : decode cX3_run 65 = .ok (.iload_n 3, 1) := by decide +kernel
theorem dX3_run_66 : decode cX3_run 66 = .ok (.aload_n 0, 1) := by decide +kernel
theorem dX3_run_67 : decode cX3_run 67 = .ok (.aload_n 0, 1) := by decide +kernel
theorem dX3_run_68 : decode cX3_run 68 = .ok (.getfield 43, 3) := by decide +kernel
theorem dX3_run_71 : decode cX3_run 71 = .ok (.iload 4, 2) := by decide +kernel
theorem dX3_run_73 : decode cX3_run 73 = .ok (.aaload, 1) := by decide +kernel
theorem dX3_run_74 : decode cX3_run 74 = .ok (.iload_n 2, 1) := by decide +kernel
theorem dX3_run_75 : decode cX3_run 75 = .ok (.invokevirtual 142, 3) := by decide +kernel
theorem dX3_run_78 : decode cX3_run 78 = .ok (.ior, 1) := by decide +kernel
theorem dX3_run_79 : decode cX3_run 79 = .ok (.istore_n 3, 1) := by decide +kernel
theorem dX3_run_80 : decode cX3_run 80 = .ok (.iinc 4 1, 3) := by decide +kernel
theorem dX3_run_83 : decode cX3_run 83 = .ok (.goto (-27), 3) := by decide +kernel
theorem dX3_run_86 : decode cX3_run 86 = .ok (.iload_n 3, 1) := by decide +kernel
theorem dX3_run_87 : decode cX3_run 87 = .ok (.ifCond .ne 9, 3) := by decide +kernel
theorem dX3_run_90 : decode cX3_run 90 = .ok (.aload_n 0, 1) := by decide +kernel
theorem dX3_run_91 : decode cX3_run 91 = .ok (.invokevirtual 146, 3) := by decide +kernel
theorem dX3_run_94 : decode cX3_run 94 = .ok (.iload_n 2, 1) := by decide +kernel
theorem dX3_run_95 : decode cX3_run 95 = .ok (.ireturn, 1) := by decide +kernel
theorem dX3_run_96 : decode cX3_run 96 = .ok (.iinc 2 1, 3) := by decide +kernel
theorem dX3_run_99 : decode cX3_run 99 = .ok (.goto (-54), 3) := by decide +kernel
theorem dX3_run_102 : decode cX3_run 102 = .ok (.iconst (-1), 1) := by decide +kernel
theorem dX3_run_103 : decode cX3_run 103 = .ok (.ireturn, 1) := by decide +kernel
set_option maxRecDepth 20000 in
theorem ggX3_take_X3_requireSlot : GoodIn wsX3_take wsX3_requireSlot := goodIn_ca (goodIn_r _ [9, 1, 2] rfl (by decide +kernel)) (goodIn_sub (fun _ h => List.mem_cons_of_mem _ (List.mem_append_right _ h)) (by decide +kernel))
set_option maxRecDepth 20000 in
theorem gX3_take_X3_requireSlot : GoodIn wsX3_take (va_wsS RX3 48 yX3_requireSlot wsX3_requireSlot) := goodIn_app (goodIn_of _ (by decide +kernel)) ggX3_take_X3_requireSlot
set_option maxRecDepth 20000 in
theorem ggX3_take_X1_takeOver : GoodIn wsX3_take wsX1_takeOver := goodIn_r _ [14, 15, 16, 17, 18, 19, 20, 21, 22, 23, 24, 25, 26, 34, 35, 36, 37, 38, 39] rfl (by decide +kernel)
set_option maxRecDepth 20000 in
theorem gX3_take_X1_takeOver : GoodIn wsX3_take (wsV RX3 67 RX1 yX1_takeOver wsX1_takeOver) := goodIn_app (goodIn_of _ (by decide +kernel)) ggX3_take_X1_takeOver
theorem dX3_take_0 : decode cX3_take 0 = .ok (.iload_n 1, 1) := by decide +kernel
theorem dX3_take_1 : decode cX3_take 1 = .ok (.invokestatic 48, 3) := by decide +kernel
theorem dX3_take_4 : decode cX3_take 4 = .ok (.iload_n 2, 1) := by decide +kernel
theorem dX3_take_5 : decode cX3_take 5 = .ok (.ifCond .lt 9, 3) := by decide +kernel
theorem dX3_take_8 : decode cX3_take 8 = .ok (.iload_n 2, 1) := by decide +kernel
theorem dX3_take_9 : decode cX3_take 9 = .ok (.bipush 8, 2) := by decide +kernel
theorem dX3_take_11 : decode cX3_take 11 = .ok (.if_icmp .lt 13, 3) := by decide +kernel
theorem dX3_take_14 : decode cX3_take 14 = .ok (.new 126, 3) := by decide +kernel
theorem dX3_take_17 : decode cX3_take 17 = .ok (.dup, 1) := by decide +kernel
theorem dX3_take_18 : decode cX3_take 18 = .ok (.ldc 149, 2) := by decide +kernel
theorem dX3_take_20 : decode cX3_take 20 = .ok (.invokespecial 130, 3) := by decide +kernel
theorem dX3_take_23 : decode cX3_take 23 = .ok (.athrow, 1) := by decide +kernel
theorem dX3_take_24 : decode cX3_take 24 = .ok (.aload_n 0, 1) := by decide +kernel
theorem dX3_take_25 : decode cX3_take 25 = .ok (.getfield 13, 3) := by decide +kernel
theorem dX3_take_28 : decode cX3_take 28 = .ok (.iload_n 1, 1) := by decide +kernel
theorem dX3_take_29 : decode cX3_take 29 = .ok (.aaload, 1) := by decide +kernel
theorem dX3_take_30 : decode cX3_take 30 = .ok (.aload_n 0, 1) := by decide +kernel
theorem dX3_take_31 : decode cX3_take 31 = .ok (.getfield 22, 3) := by decide +kernel
theorem dX3_take_34 : decode cX3_take 34 = .ok (.iload_n 2, 1) := by decide +kernel
theorem dX3_take_35 : decode cX3_take 35 = .ok (.aaload, 1) := by decide +kernel
theorem dX3_take_36 : decode cX3_take 36 = .ok (.invokevirtual 67, 3) := by decide +kernel
theorem dX3_take_39 : decode cX3_take 39 = .ok (.aload_n 0, 1) := by decide +kernel
theorem dX3_take_40 : decode cX3_take 40 = .ok (.getfield 13, 3) := by decide +kernel
theorem dX3_take_43 : decode cX3_take 43 = .ok (.iload_n 1, 1) := by decide +kernel
theorem dX3_take_44 : decode cX3_take 44 = .ok (.aaload, 1) := by decide +kernel
theorem dX3_take_45 : decode cX3_take 45 = .ok (.getfield 63, 3) := by decide +kernel
theorem dX3_take_48 : decode cX3_take 48 = .ok (.ifCond .ne 7, 3) := by decide +kernel
theorem dX3_take_51 : decode cX3_take 51 = .ok (.iconst 1, 1) := by decide +kernel
theorem dX3_take_52 : decode cX3_take 52 = .ok (.goto 4, 3) := by decide +kernel
theorem dX3_take_55 : decode cX3_take 55 = .ok (.iconst 0, 1) := by decide +kernel
theorem dX3_take_56 : decode cX3_take 56 = .ok (.ireturn, 1) := by decide +kernel
set_option maxRecDepth 20000 in
theorem ggX3_emptyShapes_X1_init : GoodIn wsX3_emptyShapes wsX1_init := goodIn_r _ [6, 7, 8, 9, 10, 11, 12, 13, 14, 15, 16, 17, 18, 19, 20, 21, 22, 23, 26, 27, 28, 29, 24, 25] rfl (by decide +kernel)
set_option maxRecDepth 20000 in
theorem gX3_emptyShapes_X1_init : GoodIn wsX3_emptyShapes (wsX1_init) := ggX3_emptyShapes_X1_init
theorem dX3_emptyShapes_0 : decode cX3_emptyShapes 0 = .ok (.iload_n 0, 1) := by decide +kernel
theorem dX3_emptyShapes_1 : decode cX3_emptyShapes 1 = .ok (.anewarray 18, 3) := by decide +kernel
theorem dX3_emptyShapes_4 : decode cX3_emptyShapes 4 = .ok (.astore_n 1, 1) := by decide +kernel
theorem dX3_emptyShapes_5 : decode cX3_emptyShapes 5 = .ok (.iconst 0, 1) := by decide +kernel
theorem dX3_emptyShapes_6 : decode cX3_emptyShapes 6 = .ok (.istore_n 2, 1) := by decide +kernel
theorem dX3_emptyShapes_7 : decode cX3_emptyShapes 7 = .ok (.iload_n 2, 1) := by decide +kernel
theorem dX3_emptyShapes_8 : decode cX3_emptyShapes 8 = .ok (.iload_n 0, 1) := by decide +kernel
theorem dX3_emptyShapes_9 : decode cX3_emptyShapes 9 = .ok (.if_icmp .ge 19, 3) := by decide +kernel
theorem dX3_emptyShapes_12 : decode cX3_emptyShapes 12 = .ok (.aload_n 1, 1) := by decide +kernel
theorem dX3_emptyShapes_13 : decode cX3_emptyShapes 13 = .ok (.iload_n 2, 1) := by decide +kernel
theorem dX3_emptyShapes_14 : decode cX3_emptyShapes 14 = .ok (.new 18, 3) := by decide +kernel
theorem dX3_emptyShapes_17 : decode cX3_emptyShapes 17 = .ok (.dup, 1) := by decide +kernel
theorem dX3_emptyShapes_18 : decode cX3_emptyShapes 18 = .ok (.invokespecial 28, 3) := by decide +kernel
theorem dX3_emptyShapes_21 : decode cX3_emptyShapes 21 = .ok (.aastore, 1) := by decide +kernel
theorem dX3_emptyShapes_22 : decode cX3_emptyShapes 22 = .ok (.iinc 2 1, 3) := by decide +kernel
theorem dX3_emptyShapes_25 : decode cX3_emptyShapes 25 = .ok (.goto (-18), 3) := by decide +kernel
theorem dX3_emptyShapes_28 : decode cX3_emptyShapes 28 = .ok (.aload_n 1, 1) := by decide +kernel
theorem dX3_emptyShapes_29 : decode cX3_emptyShapes 29 = .ok (.areturn, 1) := by decide +kernel
theorem dX3_requireSlot_0 : decode cX3_requireSlot 0 = .ok (.iload_n 0, 1) := by decide +kernel
theorem dX3_requireSlot_1 : decode cX3_requireSlot 1 = .ok (.ifCond .lt 9, 3) := by decide +kernel
theorem dX3_requireSlot_4 : decode cX3_requireSlot 4 = .ok (.iload_n 0, 1) := by decide +kernel
theorem dX3_requireSlot_5 : decode cX3_requireSlot 5 = .ok (.bipush 6, 2) := by decide +kernel
theorem dX3_requireSlot_7 : decode cX3_requireSlot 7 = .ok (.if_icmp .lt 13, 3) := by decide +kernel
theorem dX3_requireSlot_10 : decode cX3_requireSlot 10 = .ok (.new 126, 3) := by decide +kernel
theorem dX3_requireSlot_13 : decode cX3_requireSlot 13 = .ok (.dup, 1) := by decide +kernel
theorem dX3_requireSlot_14 : decode cX3_requireSlot 14 = .ok (.ldc 151, 2) := by decide +kernel
theorem dX3_requireSlot_16 : decode cX3_requireSlot 16 = .ok (.invokespecial 130, 3) := by decide +kernel
theorem dX3_requireSlot_19 : decode cX3_requireSlot 19 = .ok (.athrow, 1) := by decide +kernel
theorem dX3_requireSlot_20 : decode cX3_requireSlot 20 = .ok (.return_, 1) := by decide +kernel
set_option maxRecDepth 20000 in
theorem ggX3_requireThreeSlots_X3_requireSlot : GoodIn wsX3_requireThreeSlots wsX3_requireSlot := goodIn_ca (goodIn_r _ [4, 5, 6] rfl (by decide +kernel)) (goodIn_sub (fun _ h => List.mem_cons_of_mem _ (List.mem_append_right _ h)) (by decide +kernel))
set_option maxRecDepth 20000 in
theorem gX3_requireThreeSlots_X3_requireSlot : GoodIn wsX3_requireThreeSlots (va_wsS RX3 48 yX3_requireSlot wsX3_requireSlot) := goodIn_app (goodIn_of _ (by decide +kernel)) ggX3_requireThreeSlots_X3_requireSlot
theorem dX3_requireThreeSlots_0 : decode cX3_requireThreeSlots 0 = .ok (.iload_n 0, 1) := by decide +kernel
theorem dX3_requireThreeSlots_1 : decode cX3_requireThreeSlots 1 = .ok (.invokestatic 48, 3) := by decide +kernel
theorem dX3_requireThreeSlots_4 : decode cX3_requireThreeSlots 4 = .ok (.iload_n 1, 1) := by decide +kernel
theorem dX3_requireThreeSlots_5 : decode cX3_requireThreeSlots 5 = .ok (.invokestatic 48, 3) := by decide +kernel
theorem dX3_requireThreeSlots_8 : decode cX3_requireThreeSlots 8 = .ok (.iload_n 2, 1) := by decide +kernel
theorem dX3_requireThreeSlots_9 : decode cX3_requireThreeSlots 9 = .ok (.invokestatic 48, 3) := by decide +kernel
theorem dX3_requireThreeSlots_12 : decode cX3_requireThreeSlots 12 = .ok (.return_, 1) := by decide +kernel
theorem dX3_requireVariable_0 : decode cX3_requireVariable 0 = .ok (.iload_n 0, 1) := by decide +kernel
theorem dX3_requireVariable_1 : decode cX3_requireVariable 1 = .ok (.ifCond .lt 9, 3) := by decide +kernel
theorem dX3_requireVariable_4 : decode cX3_requireVariable 4 = .ok (.iload_n 0, 1) := by decide +kernel
theorem dX3_requireVariable_5 : decode cX3_requireVariable 5 = .ok (.bipush 6, 2) := by decide +kernel
theorem dX3_requireVariable_7 : decode cX3_requireVariable 7 = .ok (.if_icmp .lt 13, 3) := by decide +kernel
theorem dX3_requireVariable_10 : decode cX3_requireVariable 10 = .ok (.new 126, 3) := by decide +kernel
theorem dX3_requireVariable_13 : decode cX3_requireVariable 13 = .ok (.dup, 1) := by decide +kernel
theorem dX3_requireVariable_14 : decode cX3_requireVariable 14 = .ok (.ldc 153, 2) := by decide +kernel
theorem dX3_requireVariable_16 : decode cX3_requireVariable 16 = .ok (.invokespecial 130, 3) := by decide +kernel
theorem dX3_requireVariable_19 : decode cX3_requireVariable 19 = .ok (.athrow, 1) := by decide +kernel
theorem dX3_requireVariable_20 : decode cX3_requireVariable 20 = .ok (.return_, 1) := by decide +kernel
theorem dX3_requireTerm_0 : decode cX3_requireTerm 0 = .ok (.iload_n 0, 1) := by decide +kernel
theorem dX3_requireTerm_1 : decode cX3_requireTerm 1 = .ok (.ifCond .lt 9, 3) := by decide +kernel
theorem dX3_requireTerm_4 : decode cX3_requireTerm 4 = .ok (.iload_n 0, 1) := by decide +kernel
theorem dX3_requireTerm_5 : decode cX3_requireTerm 5 = .ok (.bipush 12, 2) := by decide +kernel
theorem dX3_requireTerm_7 : decode cX3_requireTerm 7 = .ok (.if_icmp .lt 13, 3) := by decide +kernel
theorem dX3_requireTerm_10 : decode cX3_requireTerm 10 = .ok (.new 126, 3) := by decide +kernel
theorem dX3_requireTerm_13 : decode cX3_requireTerm 13 = .ok (.dup, 1) := by decide +kernel
theorem dX3_requireTerm_14 : decode cX3_requireTerm 14 = .ok (.ldc 155, 2) := by decide +kernel
theorem dX3_requireTerm_16 : decode cX3_requireTerm 16 = .ok (.invokespecial 130, 3) := by decide +kernel
theorem dX3_requireTerm_19 : decode cX3_requireTerm 19 = .ok (.athrow, 1) := by decide +kernel
theorem dX3_requireTerm_20 : decode cX3_requireTerm 20 = .ok (.return_, 1) := by decide +kernel
set_option maxRecDepth 20000 in
theorem ggX3_requireTerms_X3_requireTerm : GoodIn wsX3_requireTerms wsX3_requireTerm := goodIn_ca (goodIn_r _ [6, 1, 2] rfl (by decide +kernel)) (goodIn_sub (fun _ h => List.mem_cons_of_mem _ (List.mem_append_right _ h)) (by decide +kernel))
set_option maxRecDepth 20000 in
theorem gX3_requireTerms_X3_requireTerm : GoodIn wsX3_requireTerms (va_wsS RX3 157 yX3_requireTerm wsX3_requireTerm) := goodIn_app (goodIn_of _ (by decide +kernel)) ggX3_requireTerms_X3_requireTerm
set_option maxRecDepth 20000 in
theorem ggX3_requireTerms_X3_negation : GoodIn wsX3_requireTerms wsX3_negation := goodIn_r _ [9] rfl (by decide +kernel)
set_option maxRecDepth 20000 in
theorem gX3_requireTerms_X3_negation : GoodIn wsX3_requireTerms (va_wsS RX3 160 yX3_negation wsX3_negation) := goodIn_app (goodIn_of _ (by decide +kernel)) ggX3_requireTerms_X3_negation
theorem dX3_requireTerms_0 : decode cX3_requireTerms 0 = .ok (.iload_n 0, 1) := by decide +kernel
theorem dX3_requireTerms_1 : decode cX3_requireTerms 1 = .ok (.invokestatic 157, 3) := by decide +kernel
theorem dX3_requireTerms_4 : decode cX3_requireTerms 4 = .ok (.iload_n 1, 1) := by decide +kernel
theorem dX3_requireTerms_5 : decode cX3_requireTerms 5 = .ok (.invokestatic 157, 3) := by decide +kernel
theorem dX3_requireTerms_8 : decode cX3_requireTerms 8 = .ok (.iload_n 0, 1) := by decide +kernel
theorem dX3_requireTerms_9 : decode cX3_requireTerms 9 = .ok (.iload_n 1, 1) := by decide +kernel
theorem dX3_requireTerms_10 : decode cX3_requireTerms 10 = .ok (.invokestatic 160, 3) := by decide +kernel
theorem dX3_requireTerms_13 : decode cX3_requireTerms 13 = .ok (.if_icmp .ne 13, 3) := by decide +kernel
theorem dX3_requireTerms_16 : decode cX3_requireTerms 16 = .ok (.new 126, 3) := by decide +kernel
theorem dX3_requireTerms_19 : decode cX3_requireTerms 19 = .ok (.dup, 1) := by decide +kernel
theorem dX3_requireTerms_20 : decode cX3_requireTerms 20 = .ok (.ldc 163, 2) := by decide +kernel
theorem dX3_requireTerms_22 : decode cX3_requireTerms 22 = .ok (.invokespecial 130, 3) := by decide +kernel
theorem dX3_requireTerms_25 : decode cX3_requireTerms 25 = .ok (.athrow, 1) := by decide +kernel
theorem dX3_requireTerms_26 : decode cX3_requireTerms 26 = .ok (.return_, 1) := by decide +kernel
theorem dX3_requireNumber_0 : decode cX3_requireNumber 0 = .ok (.iload_n 0, 1) := by decide +kernel
theorem dX3_requireNumber_1 : decode cX3_requireNumber 1 = .ok (.ldc 165, 2) := by decide +kernel
theorem dX3_requireNumber_3 : decode cX3_requireNumber 3 = .ok (.if_icmp .lt 9, 3) := by decide +kernel
theorem dX3_requireNumber_6 : decode cX3_requireNumber 6 = .ok (.iload_n 0, 1) := by decide +kernel
theorem dX3_requireNumber_7 : decode cX3_requireNumber 7 = .ok (.ldc 166, 2) := by decide +kernel
theorem dX3_requireNumber_9 : decode cX3_requireNumber 9 = .ok (.if_icmp .le 13, 3) := by decide +kernel
theorem dX3_requireNumber_12 : decode cX3_requireNumber 12 = .ok (.new 126, 3) := by decide +kernel
theorem dX3_requireNumber_15 : decode cX3_requireNumber 15 = .ok (.dup, 1) := by decide +kernel
theorem dX3_requireNumber_16 : decode cX3_requireNumber 16 = .ok (.ldc 167, 2) := by decide +kernel
theorem dX3_requireNumber_18 : decode cX3_requireNumber 18 = .ok (.invokespecial 130, 3) := by decide +kernel
theorem dX3_requireNumber_21 : decode cX3_requireNumber 21 = .ok (.athrow, 1) := by decide +kernel
theorem dX3_requireNumber_22 : decode cX3_requireNumber 22 = .ok (.return_, 1) := by decide +kernel
set_option maxRecDepth 20000 in
theorem ggX3_requireAction_X3_requireNumber : GoodIn wsX3_requireAction wsX3_requireNumber := goodIn_ca (goodIn_r _ [6, 1, 2, 7, 8] rfl (by decide +kernel)) (goodIn_sub (fun _ h => List.mem_cons_of_mem _ (List.mem_append_right _ h)) (by decide +kernel))
set_option maxRecDepth 20000 in
theorem gX3_requireAction_X3_requireNumber : GoodIn wsX3_requireAction (va_wsS RX3 169 yX3_requireNumber wsX3_requireNumber) := goodIn_app (goodIn_of _ (by decide +kernel)) ggX3_requireAction_X3_requireNumber
set_option maxRecDepth 20000 in
theorem ggX3_requireAction_X3_requireTerms : GoodIn wsX3_requireAction wsX3_requireTerms := goodIn_ca (goodIn_r _ [11, 1, 2, 12, 13, 5, 14, 15, 16, 17] rfl (by decide +kernel)) (goodIn_sub (fun _ h => List.mem_cons_of_mem _ (List.mem_append_right _ h)) (by decide +kernel))
set_option maxRecDepth 20000 in
theorem gX3_requireAction_X3_requireTerms : GoodIn wsX3_requireAction (va_wsS RX3 90 yX3_requireTerms wsX3_requireTerms) := goodIn_app (goodIn_of _ (by decide +kernel)) ggX3_requireAction_X3_requireTerms
set_option maxRecDepth 20000 in
theorem ggX3_requireAction_X3_requireVariable : GoodIn wsX3_requireAction wsX3_requireVariable := goodIn_ca (goodIn_r _ [20, 1, 2] rfl (by decide +kernel)) (goodIn_sub (fun _ h => List.mem_cons_of_mem _ (List.mem_append_right _ h)) (by decide +kernel))
set_option maxRecDepth 20000 in
theorem gX3_requireAction_X3_requireVariable : GoodIn wsX3_requireAction (va_wsS RX3 84 yX3_requireVariable wsX3_requireVariable) := goodIn_app (goodIn_of _ (by decide +kernel)) ggX3_requireAction_X3_requireVariable
set_option maxRecDepth 20000 in
theorem ggX3_requireAction_X3_requireTerm : GoodIn wsX3_requireAction wsX3_requireTerm := goodIn_ca (goodIn_r _ [14, 1, 2] rfl (by decide +kernel)) (goodIn_sub (fun _ h => List.mem_cons_of_mem _ (List.mem_append_right _ h)) (by decide +kernel))
set_option maxRecDepth 20000 in
theorem gX3_requireAction_X3_requireTerm : GoodIn wsX3_requireAction (va_wsS RX3 157 yX3_requireTerm wsX3_requireTerm) := goodIn_app (goodIn_of _ (by decide +kernel)) ggX3_requireAction_X3_requireTerm
theorem dX3_requireAction_0 : decode cX3_requireAction 0 = .ok (.iload_n 3, 1) := by decide +kernel
theorem dX3_requireAction_1 : decode cX3_requireAction 1 = .ok (.invokestatic 169, 3) := by decide +kernel
theorem dX3_requireAction_4 : decode cX3_requireAction 4 = .ok (.iload_n 0, 1) := by decide +kernel
theorem dX3_requireAction_5 : decode cX3_requireAction 5 = .ok (.ifCond .ne 11, 3) := by decide +kernel
theorem dX3_requireAction_8 : decode cX3_requireAction 8 = .ok (.iload_n 1, 1) := by decide +kernel
theorem dX3_requireAction_9 : decode cX3_requireAction 9 = .ok (.iload_n 2, 1) := by decide +kernel
theorem dX3_requireAction_10 : decode cX3_requireAction 10 = .ok (.invokestatic 90, 3) := by decide +kernel
theorem dX3_requireAction_13 : decode cX3_requireAction 13 = .ok (.goto 57, 3) := by decide +kernel
theorem dX3_requireAction_16 : decode cX3_requireAction 16 = .ok (.iload_n 0, 1) := by decide +kernel
theorem dX3_requireAction_17 : decode cX3_requireAction 17 = .ok (.iconst 1, 1) := by decide +kernel
theorem dX3_requireAction_18 : decode cX3_requireAction 18 = .ok (.if_icmp .ne 14, 3) := by decide +kernel
theorem dX3_requireAction_21 : decode cX3_requireAction 21 = .ok (.iload_n 1, 1) := by decide +kernel
theorem dX3_requireAction_22 : decode cX3_requireAction 22 = .ok (.invokestatic 84, 3) := by decide +kernel
theorem dX3_requireAction_25 : decode cX3_requireAction 25 = .ok (.iload_n 2, 1) := by decide +kernel
theorem dX3_requireAction_26 : decode cX3_requireAction 26 = .ok (.invokestatic 157, 3) := by decide +kernel
theorem dX3_requireAction_29 : decode cX3_requireAction 29 = .ok (.goto 41, 3) := by decide +kernel
theorem dX3_requireAction_32 : decode cX3_requireAction 32 = .ok (.iload_n 0, 1) := by decide +kernel
theorem dX3_requireAction_33 : decode cX3_requireAction 33 = .ok (.iconst 2, 1) := by decide +kernel
theorem dX3_requireAction_34 : decode cX3_requireAction 34 = .ok (.if_icmp .ne 26, 3) := by decide +kernel
theorem dX3_requireAction_37 : decode cX3_requireAction 37 = .ok (.iload_n 1, 1) := by decide +kernel
theorem dX3_requireAction_38 : decode cX3_requireAction 38 = .ok (.invokestatic 84, 3) := by decide +kernel
theorem dX3_requireAction_41 : decode cX3_requireAction 41 = .ok (.iload_n 2, 1) := by decide +kernel
theorem dX3_requireAction_42 : decode cX3_requireAction 42 = .ok (.invokestatic 169, 3) := by decide +kernel
theorem dX3_requireAction_45 : decode cX3_requireAction 45 = .ok (.iload_n 2, 1) := by decide +kernel
theorem dX3_requireAction_46 : decode cX3_requireAction 46 = .ok (.iload_n 3, 1) := by decide +kernel
theorem dX3_requireAction_47 : decode cX3_requireAction 47 = .ok (.if_icmp .le 23, 3) := by decide +kernel
theorem dX3_requireAction_50 : decode cX3_requireAction 50 = .ok (.new 126, 3) := by decide +kernel
theorem dX3_requireAction_53 : decode cX3_requireAction 53 = .ok (.dup, 1) := by decide +kernel
theorem dX3_requireAction_54 : decode cX3_requireAction 54 = .ok (.ldc 172, 2) := by decide +kernel
theorem dX3_requireAction_56 : decode cX3_requireAction 56 = .ok (.invokespecial 130, 3) := by decide +kernel
theorem dX3_requireAction_59 : decode cX3_requireAction 59 = .ok (.athrow, 1) := by decide +kernel
theorem dX3_requireAction_60 : decode cX3_requireAction 60 = .ok (.new 126, 3) := by decide +kernel
theorem dX3_requireAction_63 : decode cX3_requireAction 63 = .ok (.dup, 1) := by decide +kernel
theorem dX3_requireAction_64 : decode cX3_requireAction 64 = .ok (.ldc 174, 2) := by decide +kernel
theorem dX3_requireAction_66 : decode cX3_requireAction 66 = .ok (.invokespecial 130, 3) := by decide +kernel
theorem dX3_requireAction_69 : decode cX3_requireAction 69 = .ok (.athrow, 1) := by decide +kernel
theorem dX3_requireAction_70 : decode cX3_requireAction 70 = .ok (.return_, 1) := by decide +kernel
theorem dX3_requirePlace_0 : decode cX3_requirePlace 0 = .ok (.aload_n 0, 1) := by decide +kernel
theorem dX3_requirePlace_1 : decode cX3_requirePlace 1 = .ok (.getfield 13, 3) := by decide +kernel
theorem dX3_requirePlace_4 : decode cX3_requirePlace 4 = .ok (.iload_n 1, 1) := by decide +kernel
theorem dX3_requirePlace_5 : decode cX3_requirePlace 5 = .ok (.aaload, 1) := by decide +kernel
theorem dX3_requirePlace_6 : decode cX3_requirePlace 6 = .ok (.getfield 63, 3) := by decide +kernel
theorem dX3_requirePlace_9 : decode cX3_requirePlace 9 = .ok (.ifCond .eq 13, 3) := by decide +kernel
theorem dX3_requirePlace_12 : decode cX3_requirePlace 12 = .ok (.new 133, 3) := by decide +kernel
theorem dX3_requirePlace_15 : decode cX3_requirePlace 15 = .ok (.dup, 1) := by decide +kernel
theorem dX3_requirePlace_16 : decode cX3_requirePlace 16 = .ok (.ldc 176, 2) := by decide +kernel
theorem dX3_requirePlace_18 : decode cX3_requirePlace 18 = .ok (.invokespecial 137, 3) := by decide +kernel
theorem dX3_requirePlace_21 : decode cX3_requirePlace 21 = .ok (.athrow, 1) := by decide +kernel
theorem dX3_requirePlace_22 : decode cX3_requirePlace 22 = .ok (.return_, 1) := by decide +kernel
set_option maxRecDepth 20000 in
theorem ggX3_putMade_X3_makeRoom : GoodIn wsX3_putMade wsX3_makeRoom := goodIn_r _ [7, 8, 9, 2, 10, 11, 1, 12, 13, 14, 15, 16, 17, 18, 19, 20, 21, 22, 23, 24, 6, 25, 26, 27, 28, 29, 30, 31, 32, 33, 34, 35, 36, 37, 38, 39, 40, 41, 42, 43, 44, 45, 46, 47, 48, 49, 50, 51, 52, 53, 54, 55, 56, 57, 77, 78, 70, 71, 72, 73, 74, 75, 76, 79, 80, 81, 82] rfl (by decide +kernel)
set_option maxRecDepth 20000 in
theorem gX3_putMade_X3_makeRoom : GoodIn wsX3_putMade (wsV RX3 112 RX3 yX3_makeRoom wsX3_makeRoom) := goodIn_app (goodIn_of _ (by decide +kernel)) ggX3_putMade_X3_makeRoom
set_option maxRecDepth 20000 in
theorem ggX3_putMade_X1_takeOver : GoodIn wsX3_putMade wsX1_takeOver := goodIn_r _ [62, 63, 64, 65, 66, 67, 15, 68, 18, 69, 46, 47, 48, 77, 78, 79, 80, 81, 82] rfl (by decide +kernel)
set_option maxRecDepth 20000 in
theorem gX3_putMade_X1_takeOver : GoodIn wsX3_putMade (wsV RX3 67 RX1 yX1_takeOver wsX1_takeOver) := goodIn_app (goodIn_of _ (by decide +kernel)) ggX3_putMade_X1_takeOver
theorem dX3_putMade_0 : decode cX3_putMade 0 = .ok (.aload_n 0, 1) := by decide +kernel
theorem dX3_putMade_1 : decode cX3_putMade 1 = .ok (.aload_n 0, 1) := by decide +kernel
theorem dX3_putMade_2 : decode cX3_putMade 2 = .ok (.getfield 29, 3) := by decide +kernel
theorem dX3_putMade_5 : decode cX3_putMade 5 = .ok (.invokevirtual 112, 3) := by decide +kernel
theorem dX3_putMade_8 : decode cX3_putMade 8 = .ok (.aload_n 0, 1) := by decide +kernel
theorem dX3_putMade_9 : decode cX3_putMade 9 = .ok (.getfield 13, 3) := by decide +kernel
theorem dX3_putMade_12 : decode cX3_putMade 12 = .ok (.iload_n 1, 1) := by decide +kernel
theorem dX3_putMade_13 : decode cX3_putMade 13 = .ok (.aaload, 1) := by decide +kernel
theorem dX3_putMade_14 : decode cX3_putMade 14 = .ok (.aload_n 0, 1) := by decide +kernel
theorem dX3_putMade_15 : decode cX3_putMade 15 = .ok (.getfield 29, 3) := by decide +kernel
theorem dX3_putMade_18 : decode cX3_putMade 18 = .ok (.invokevirtual 67, 3) := by decide +kernel
theorem dX3_putMade_21 : decode cX3_putMade 21 = .ok (.return_, 1) := by decide +kernel
set_option maxRecDepth 20000 in
theorem ggX3_makeRoom_X0_isCrowded : GoodIn wsX3_makeRoom wsX0_isCrowded := goodIn_r _ [11, 12, 13, 14, 15, 16, 17, 63, 64, 65, 66] rfl (by decide +kernel)
set_option maxRecDepth 20000 in
theorem gX3_makeRoom_X0_isCrowded : GoodIn wsX3_makeRoom (wsV RX3 182 RX0 yX0_isCrowded wsX0_isCrowded) := goodIn_app (goodIn_of _ (by decide +kernel)) ggX3_makeRoom_X0_isCrowded
set_option maxRecDepth 20000 in
theorem ggX3_makeRoom_X3_growAll : GoodIn wsX3_makeRoom wsX3_growAll := goodIn_r _ [21, 2, 22, 23, 24, 10, 25, 13, 12, 14, 26, 27, 28, 29, 30, 31, 32, 33, 34, 35, 36, 37, 38, 39, 40, 41, 42, 43, 44, 45, 46, 47, 48, 15, 49, 50, 51, 52, 53, 54, 55, 63, 64, 65, 66] rfl (by decide +kernel)
set_option maxRecDepth 20000 in
theorem gX3_makeRoom_X3_growAll : GoodIn wsX3_makeRoom (va_wsS RX3 187 yX3_growAll wsX3_growAll) := goodIn_app (goodIn_of _ (by decide +kernel)) ggX3_makeRoom_X3_growAll
set_option maxRecDepth 20000 in
theorem ggX3_makeRoom_X0_growTwofold : GoodIn wsX3_makeRoom wsX0_growTwofold := goodIn_r _ [25, 13, 12, 14, 26, 27, 28, 29, 30, 31, 32, 33, 34, 35, 36, 37, 38, 39, 40, 41, 42, 43, 44, 45, 46, 47, 10, 48, 15, 49, 50, 51, 52, 53, 63, 64, 65, 66] rfl (by decide +kernel)
set_option maxRecDepth 20000 in
theorem gX3_makeRoom_X0_growTwofold : GoodIn wsX3_makeRoom (wsV RX3 191 RX0 yX0_growTwofold wsX0_growTwofold) := goodIn_app (goodIn_of _ (by decide +kernel)) ggX3_makeRoom_X0_growTwofold
theorem dX3_makeRoom_0 : decode cX3_makeRoom 0 = .ok (.aload_n 1, 1) := by decide +kernel
theorem dX3_makeRoom_1 : decode cX3_makeRoom 1 = .ok (.getfield 63, 3) := by decide +kernel
theorem dX3_makeRoom_4 : decode cX3_makeRoom 4 = .ok (.ifCond .ne 13, 3) := by decide +kernel
theorem dX3_makeRoom_7 : decode cX3_makeRoom 7 = .ok (.aload_n 1, 1) := by decide +kernel
theorem dX3_makeRoom_8 : decode cX3_makeRoom 8 = .ok (.getfield 178, 3) := by decide +kernel
theorem dX3_makeRoom_11 : decode cX3_makeRoom 11 = .ok (.invokevirtual 182, 3) := by decide +kernel
theorem dX3_makeRoom_14 : decode cX3_makeRoom 14 = .ok (.ifCond .ne 4, 3) := by decide +kernel
theorem dX3_makeRoom_17 : decode cX3_makeRoom 17 = .ok (.return_, 1) := by decide +kernel
theorem dX3_makeRoom_18 : decode cX3_makeRoom 18 = .ok (.aload_n 0, 1) := by decide +kernel
theorem dX3_makeRoom_19 : decode cX3_makeRoom 19 = .ok (.getfield 13, 3) := by decide +kernel
theorem dX3_makeRoom_22 : decode cX3_makeRoom 22 = .ok (.invokestatic 187, 3) := by decide +kernel
theorem dX3_makeRoom_25 : decode cX3_makeRoom 25 = .ok (.aload_n 0, 1) := by decide +kernel
theorem dX3_makeRoom_26 : decode cX3_makeRoom 26 = .ok (.getfield 22, 3) := by decide +kernel
theorem dX3_makeRoom_29 : decode cX3_makeRoom 29 = .ok (.invokestatic 187, 3) := by decide +kernel
theorem dX3_makeRoom_32 : decode cX3_makeRoom 32 = .ok (.aload_n 0, 1) := by decide +kernel
theorem dX3_makeRoom_33 : decode cX3_makeRoom 33 = .ok (.getfield 25, 3) := by decide +kernel
theorem dX3_makeRoom_36 : decode cX3_makeRoom 36 = .ok (.invokestatic 187, 3) := by decide +kernel
theorem dX3_makeRoom_39 : decode cX3_makeRoom 39 = .ok (.aload_n 0, 1) := by decide +kernel
theorem dX3_makeRoom_40 : decode cX3_makeRoom 40 = .ok (.getfield 29, 3) := by decide +kernel
theorem dX3_makeRoom_43 : decode cX3_makeRoom 43 = .ok (.getfield 178, 3) := by decide +kernel
theorem dX3_makeRoom_46 : decode cX3_makeRoom 46 = .ok (.invokevirtual 191, 3) := by decide +kernel
theorem dX3_makeRoom_49 : decode cX3_makeRoom 49 = .ok (.return_, 1) := by decide +kernel
set_option maxRecDepth 20000 in
theorem ggX3_growAll_X0_growTwofold : GoodIn wsX3_growAll wsX0_growTwofold := goodIn_r _ [6, 7, 8, 9, 10, 11, 12, 13, 14, 15, 16, 17, 18, 19, 20, 21, 22, 23, 24, 25, 26, 27, 28, 29, 30, 31, 5, 32, 33, 34, 35, 36, 37, 38, 41, 42, 43, 44] rfl (by decide +kernel)
set_option maxRecDepth 20000 in
theorem gX3_growAll_X0_growTwofold : GoodIn wsX3_growAll (wsV RX3 191 RX0 yX0_growTwofold wsX0_growTwofold) := goodIn_app (goodIn_of _ (by decide +kernel)) ggX3_growAll_X0_growTwofold
theorem dX3_growAll_0 : decode cX3_growAll 0 = .ok (.iconst 0, 1) := by decide +kernel
theorem dX3_growAll_1 : decode cX3_growAll 1 = .ok (.istore_n 1, 1) := by decide +kernel
theorem dX3_growAll_2 : decode cX3_growAll 2 = .ok (.iload_n 1, 1) := by decide +kernel
theorem dX3_growAll_3 : decode cX3_growAll 3 = .ok (.aload_n 0, 1) := by decide +kernel
theorem dX3_growAll_4 : decode cX3_growAll 4 = .ok (.arraylength, 1) := by decide +kernel
theorem dX3_growAll_5 : decode cX3_growAll 5 = .ok (.if_icmp .ge 18, 3) := by decide +kernel
theorem dX3_growAll_8 : decode cX3_growAll 8 = .ok (.aload_n 0, 1) := by decide +kernel
theorem dX3_growAll_9 : decode cX3_growAll 9 = .ok (.iload_n 1, 1) := by decide +kernel
theorem dX3_growAll_10 : decode cX3_growAll 10 = .ok (.aaload, 1) := by decide +kernel
theorem dX3_growAll_11 : decode cX3_growAll 11 = .ok (.getfield 178, 3) := by decide +kernel
theorem dX3_growAll_14 : decode cX3_growAll 14 = .ok (.invokevirtual 191, 3) := by decide +kernel
theorem dX3_growAll_17 : decode cX3_growAll 17 = .ok (.iinc 1 1, 3) := by decide +kernel
theorem dX3_growAll_20 : decode cX3_growAll 20 = .ok (.goto (-18), 3) := by decide +kernel
theorem dX3_growAll_23 : decode cX3_growAll 23 = .ok (.return_, 1) := by decide +kernel
set_option maxRecDepth 20000 in
theorem ggX3_follow_X1_makeFrom : GoodIn wsX3_follow wsX1_makeFrom := goodIn_r _ [13, 14, 15, 16, 17, 12, 18, 19, 20, 21, 22, 23, 24, 25, 26, 27, 28, 29, 30, 31, 32, 33, 34, 35, 36, 37, 38, 39, 40, 41, 42, 43, 44, 45, 46, 47, 48, 49, 50, 51, 52, 53, 54, 55, 56, 57, 58, 59, 60, 61, 62, 63, 64, 65, 66, 67, 68, 69, 70, 71, 72, 73, 74, 75, 76, 77, 78, 79, 80, 81, 82, 83, 84, 85, 86, 87, 88, 89, 90, 91, 92, 93, 94, 95, 96, 97, 98, 99, 100, 101, 102, 103, 104, 105, 106, 107, 108, 109, 110, 111, 112, 113, 114, 115, 116, 117, 118, 119, 120, 121, 196, 197, 198, 199, 200, 201] rfl (by decide +kernel)
set_option maxRecDepth 20000 in
theorem gX3_follow_X1_makeFrom : GoodIn wsX3_follow (wsV RX3 56 RX1 yX1_makeFrom wsX1_makeFrom) := goodIn_app (goodIn_of _ (by decide +kernel)) ggX3_follow_X1_makeFrom
set_option maxRecDepth 20000 in
theorem ggX3_follow_X3_makeRoom : GoodIn wsX3_follow wsX3_makeRoom := goodIn_r _ [125, 126, 127, 128, 129, 1, 3, 130, 131, 132, 35, 133, 40, 38, 37, 45, 134, 135, 136, 137, 24, 138, 139, 140, 141, 142, 143, 144, 145, 146, 147, 148, 149, 150, 151, 152, 153, 154, 155, 156, 157, 158, 59, 60, 61, 159, 160, 161, 162, 39, 46, 47, 48, 49, 196, 197, 183, 184, 185, 186, 187, 188, 189, 198, 199, 200, 201] rfl (by decide +kernel)
set_option maxRecDepth 20000 in
theorem gX3_follow_X3_makeRoom : GoodIn wsX3_follow (wsV RX3 112 RX3 yX3_makeRoom wsX3_makeRoom) := goodIn_app (goodIn_of _ (by decide +kernel)) ggX3_follow_X3_makeRoom
set_option maxRecDepth 20000 in
theorem ggX3_follow_X1_isWithin : GoodIn wsX3_follow wsX1_isWithin := goodIn_r _ [166, 19, 14, 70, 71, 72, 35, 73, 37, 38, 40, 196, 197, 198, 199, 200, 201] rfl (by decide +kernel)
set_option maxRecDepth 20000 in
theorem gX3_follow_X1_isWithin : GoodIn wsX3_follow (wsV RX3 101 RX1 yX1_isWithin wsX1_isWithin) := goodIn_app (goodIn_of _ (by decide +kernel)) ggX3_follow_X1_isWithin
set_option maxRecDepth 20000 in
theorem ggX3_follow_X1_loosenBy : GoodIn wsX3_follow wsX1_loosenBy := goodIn_r _ [170, 14, 171, 172, 173, 12, 174, 19, 50, 51, 52, 53, 54, 55, 56, 35, 57, 38, 58, 59, 60, 61, 70, 71, 72, 73, 37, 40, 121, 47, 48, 49, 45, 175, 176, 177, 178, 29, 30, 31, 90, 42, 43, 44, 23, 24, 25, 91, 92, 93, 94, 95, 96, 83, 84, 85, 39, 97, 98, 75, 76, 77, 107, 108, 109, 110, 86, 87, 88, 89, 99, 100, 101, 102, 103, 104, 105, 106, 41, 46, 196, 197, 198, 199, 200, 201] rfl (by decide +kernel)
set_option maxRecDepth 20000 in
theorem gX3_follow_X1_loosenBy : GoodIn wsX3_follow (wsV RX3 81 RX1 yX1_loosenBy wsX1_loosenBy) := goodIn_app (goodIn_of _ (by decide +kernel)) ggX3_follow_X1_loosenBy
set_option maxRecDepth 20000 in
theorem ggX3_follow_X1_stretchOver : GoodIn wsX3_follow wsX1_stretchOver := goodIn_r _ [182, 14, 171, 172, 173, 12, 174, 19, 50, 51, 52, 53, 54, 55, 56, 35, 57, 38, 58, 59, 60, 61, 70, 71, 72, 73, 37, 40, 74, 75, 76, 77, 196, 197, 198, 199, 200, 201] rfl (by decide +kernel)
set_option maxRecDepth 20000 in
theorem gX3_follow_X1_stretchOver : GoodIn wsX3_follow (wsV RX3 78 RX1 yX1_stretchOver wsX1_stretchOver) := goodIn_app (goodIn_of _ (by decide +kernel)) ggX3_follow_X1_stretchOver
theorem dX3_follow_0 : decode cX3_follow 0 = .ok (.aload_n 0, 1) := by decide +kernel
theorem dX3_follow_1 : decode cX3_follow 1 = .ok (.getfield 25, 3) := by decide +kernel
theorem dX3_follow_4 : decode cX3_follow 4 = .ok (.aload_n 1, 1) := by decide +kernel
theorem dX3_follow_5 : decode cX3_follow 5 = .ok (.getfield 194, 3) := by decide +kernel
theorem dX3_follow_8 : decode cX3_follow 8 = .ok (.aaload, 1) := by decide +kernel
theorem dX3_follow_9 : decode cX3_follow 9 = .ok (.astore_n 3, 1) := by decide +kernel
theorem dX3_follow_10 : decode cX3_follow 10 = .ok (.aload_n 0, 1) := by decide +kernel
theorem dX3_follow_11 : decode cX3_follow 11 = .ok (.getfield 29, 3) := by decide +kernel
theorem dX3_follow_14 : decode cX3_follow 14 = .ok (.aload_n 0, 1) := by decide +kernel
theorem dX3_follow_15 : decode cX3_follow 15 = .ok (.getfield 25, 3) := by decide +kernel
theorem dX3_follow_18 : decode cX3_follow 18 = .ok (.aload_n 1, 1) := by decide +kernel
theorem dX3_follow_19 : decode cX3_follow 19 = .ok (.getfield 197, 3) := by decide +kernel
theorem dX3_follow_22 : decode cX3_follow 22 = .ok (.aaload, 1) := by decide +kernel
theorem dX3_follow_23 : decode cX3_follow 23 = .ok (.aload_n 1, 1) := by decide +kernel
theorem dX3_follow_24 : decode cX3_follow 24 = .ok (.getfield 200, 3) := by decide +kernel
theorem dX3_follow_27 : decode cX3_follow 27 = .ok (.aload_n 1, 1) := by decide +kernel
theorem dX3_follow_28 : decode cX3_follow 28 = .ok (.getfield 203, 3) := by decide +kernel
theorem dX3_follow_31 : decode cX3_follow 31 = .ok (.aload_n 1, 1) := by decide +kernel
theorem dX3_follow_32 : decode cX3_follow 32 = .ok (.getfield 206, 3) := by decide +kernel
theorem dX3_follow_35 : decode cX3_follow 35 = .ok (.aload_n 1, 1) := by decide +kernel
theorem dX3_follow_36 : decode cX3_follow 36 = .ok (.getfield 209, 3) := by decide +kernel
theorem dX3_follow_39 : decode cX3_follow 39 = .ok (.invokevirtual 56, 3) := by decide +kernel
theorem dX3_follow_42 : decode cX3_follow 42 = .ok (.aload_n 0, 1) := by decide +kernel
theorem dX3_follow_43 : decode cX3_follow 43 = .ok (.aload_n 0, 1) := by decide +kernel
theorem dX3_follow_44 : decode cX3_follow 44 = .ok (.getfield 29, 3) := by decide +kernel
theorem dX3_follow_47 : decode cX3_follow 47 = .ok (.invokevirtual 112, 3) := by decide +kernel
theorem dX3_follow_50 : decode cX3_follow 50 = .ok (.aload_n 0, 1) := by decide +kernel
theorem dX3_follow_51 : decode cX3_follow 51 = .ok (.getfield 29, 3) := by decide +kernel
theorem dX3_follow_54 : decode cX3_follow 54 = .ok (.aload_n 3, 1) := by decide +kernel
theorem dX3_follow_55 : decode cX3_follow 55 = .ok (.invokevirtual 101, 3) := by decide +kernel
theorem dX3_follow_58 : decode cX3_follow 58 = .ok (.ifCond .eq 5, 3) := by decide +kernel
theorem dX3_follow_61 : decode cX3_follow 61 = .ok (.iconst 0, 1) := by decide +kernel
theorem dX3_follow_62 : decode cX3_follow 62 = .ok (.ireturn, 1) := by decide +kernel
theorem dX3_follow_63 : decode cX3_follow 63 = .ok (.iload_n 2, 1) := by decide +kernel
theorem dX3_follow_64 : decode cX3_follow 64 = .ok (.iconst 4, 1) := by decide +kernel
theorem dX3_follow_65 : decode cX3_follow 65 = .ok (.if_icmp .lt 30, 3) := by decide +kernel
theorem dX3_follow_68 : decode cX3_follow 68 = .ok (.aload_n 1, 1) := by decide +kernel
theorem dX3_follow_69 : decode cX3_follow 69 = .ok (.getfield 194, 3) := by decide +kernel
theorem dX3_follow_72 : decode cX3_follow 72 = .ok (.aload_n 1, 1) := by decide +kernel
theorem dX3_follow_73 : decode cX3_follow 73 = .ok (.getfield 197, 3) := by decide +kernel
theorem dX3_follow_76 : decode cX3_follow 76 = .ok (.if_icmp .gt 19, 3) := by decide +kernel
theorem dX3_follow_79 : decode cX3_follow 79 = .ok (.aload_n 3, 1) := by decide +kernel
theorem dX3_follow_80 : decode cX3_follow 80 = .ok (.aload_n 0, 1) := by decide +kernel
theorem dX3_follow_81 : decode cX3_follow 81 = .ok (.getfield 29, 3) := by decide +kernel
theorem dX3_follow_84 : decode cX3_follow 84 = .ok (.invokevirtual 81, 3) := by decide +kernel
theorem dX3_follow_87 : decode cX3_follow 87 = .ok (.aload_n 0, 1) := by decide +kernel
theorem dX3_follow_88 : decode cX3_follow 88 = .ok (.aload_n 3, 1) := by decide +kernel
theorem dX3_follow_89 : decode cX3_follow 89 = .ok (.invokevirtual 112, 3) := by decide +kernel
theorem dX3_follow_92 : decode cX3_follow 92 = .ok (.goto 11, 3) := by decide +kernel
theorem dX3_follow_95 : decode cX3_follow 95 = .ok (.aload_n 3, 1) := by decide +kernel
theorem dX3_follow_96 : decode cX3_follow 96 = .ok (.aload_n 0, 1) := by decide +kernel
theorem dX3_follow_97 : decode cX3_follow 97 = .ok (.getfield 29, 3) := by decide +kernel
theorem dX3_follow_100 : decode cX3_follow 100 = .ok (.invokevirtual 78, 3) := by decide +kernel
theorem dX3_follow_103 : decode cX3_follow 103 = .ok (.iconst 1, 1) := by decide +kernel
theorem dX3_follow_104 : decode cX3_follow 104 = .ok (.ireturn, 1) := by decide +kernel
theorem dX3_keepReached_0 : decode cX3_keepReached 0 = .ok (.aload_n 0, 1) := by decide +kernel
theorem dX3_keepReached_1 : decode cX3_keepReached 1 = .ok (.getfield 22, 3) := by decide +kernel
theorem dX3_keepReached_4 : decode cX3_keepReached 4 = .ok (.astore_n 1, 1) := by decide +kernel
theorem dX3_keepReached_5 : decode cX3_keepReached 5 = .ok (.aload_n 0, 1) := by decide +kernel
theorem dX3_keepReached_6 : decode cX3_keepReached 6 = .ok (.aload_n 0, 1) := by decide +kernel
theorem dX3_keepReached_7 : decode cX3_keepReached 7 = .ok (.getfield 25, 3) := by decide +kernel
theorem dX3_keepReached_10 : decode cX3_keepReached 10 = .ok (.putfield 22, 3) := by decide +kernel
theorem dX3_keepReached_13 : decode cX3_keepReached 13 = .ok (.aload_n 0, 1) := by decide +kernel
theorem dX3_keepReached_14 : decode cX3_keepReached 14 = .ok (.aload_n 1, 1) := by decide +kernel
theorem dX3_keepReached_15 : decode cX3_keepReached 15 = .ok (.putfield 25, 3) := by decide +kernel
theorem dX3_keepReached_18 : decode cX3_keepReached 18 = .ok (.return_, 1) := by decide +kernel
set_option maxRecDepth 20000 in
theorem ggX3_madeFitsTheBox_X1_mostOf : GoodIn wsX3_madeFitsTheBox wsX1_mostOf := goodIn_r _ [7, 8, 9, 10, 6, 11, 12, 13, 14, 15, 16, 17, 18, 19, 20, 21, 22, 23, 24, 25, 26, 27, 28, 29, 30, 31, 32, 33, 34, 35, 43, 44, 45, 46, 47, 48] rfl (by decide +kernel)
set_option maxRecDepth 20000 in
theorem gX3_madeFitsTheBox_X1_mostOf : GoodIn wsX3_madeFitsTheBox (wsV RX3 97 RX1 yX1_mostOf wsX1_mostOf) := goodIn_app (goodIn_of _ (by decide +kernel)) ggX3_madeFitsTheBox_X1_mostOf
theorem dX3_madeFitsTheBox_0 : decode cX3_madeFitsTheBox 0 = .ok (.lconst 1, 1) := by decide +kernel
theorem dX3_madeFitsTheBox_1 : decode cX3_madeFitsTheBox 1 = .ok (.lstore_n 1, 1) := by decide +kernel
theorem dX3_madeFitsTheBox_2 : decode cX3_madeFitsTheBox 2 = .ok (.iconst 0, 1) := by decide +kernel
theorem dX3_madeFitsTheBox_3 : decode cX3_madeFitsTheBox 3 = .ok (.istore_n 3, 1) := by decide +kernel
theorem dX3_madeFitsTheBox_4 : decode cX3_madeFitsTheBox 4 = .ok (.iload_n 3, 1) := by decide +kernel
theorem dX3_madeFitsTheBox_5 : decode cX3_madeFitsTheBox 5 = .ok (.bipush 6, 2) := by decide +kernel
theorem dX3_madeFitsTheBox_7 : decode cX3_madeFitsTheBox 7 = .ok (.if_icmp .ge 59, 3) := by decide +kernel
theorem dX3_madeFitsTheBox_10 : decode cX3_madeFitsTheBox 10 = .ok (.aload_n 0, 1) := by decide +kernel
theorem dX3_madeFitsTheBox_11 : decode cX3_madeFitsTheBox 11 = .ok (.getfield 29, 3) := by decide +kernel
theorem dX3_madeFitsTheBox_14 : decode cX3_madeFitsTheBox 14 = .ok (.iconst 2, 1) := by decide +kernel
theorem dX3_madeFitsTheBox_15 : decode cX3_madeFitsTheBox 15 = .ok (.iload_n 3, 1) := by decide +kernel
theorem dX3_madeFitsTheBox_16 : decode cX3_madeFitsTheBox 16 = .ok (.imul, 1) := by decide +kernel
theorem dX3_madeFitsTheBox_17 : decode cX3_madeFitsTheBox 17 = .ok (.iconst 2, 1) := by decide +kernel
theorem dX3_madeFitsTheBox_18 : decode cX3_madeFitsTheBox 18 = .ok (.iload_n 3, 1) := by decide +kernel
theorem dX3_madeFitsTheBox_19 : decode cX3_madeFitsTheBox 19 = .ok (.imul, 1) := by decide +kernel
theorem dX3_madeFitsTheBox_20 : decode cX3_madeFitsTheBox 20 = .ok (.invokevirtual 97, 3) := by decide +kernel
theorem dX3_madeFitsTheBox_23 : decode cX3_madeFitsTheBox 23 = .ok (.lstore 4, 2) := by decide +kernel
theorem dX3_madeFitsTheBox_25 : decode cX3_madeFitsTheBox 25 = .ok (.lload 4, 2) := by decide +kernel
theorem dX3_madeFitsTheBox_27 : decode cX3_madeFitsTheBox 27 = .ok (.lconst 0, 1) := by decide +kernel
theorem dX3_madeFitsTheBox_28 : decode cX3_madeFitsTheBox 28 = .ok (.lcmp, 1) := by decide +kernel
theorem dX3_madeFitsTheBox_29 : decode cX3_madeFitsTheBox 29 = .ok (.ifCond .lt 12, 3) := by decide +kernel
theorem dX3_madeFitsTheBox_32 : decode cX3_madeFitsTheBox 32 = .ok (.lload 4, 2) := by decide +kernel
theorem dX3_madeFitsTheBox_34 : decode cX3_madeFitsTheBox 34 = .ok (.ldc2_w 212, 3) := by decide +kernel
theorem dX3_madeFitsTheBox_37 : decode cX3_madeFitsTheBox 37 = .ok (.lcmp, 1) := by decide +kernel
theorem dX3_madeFitsTheBox_38 : decode cX3_madeFitsTheBox 38 = .ok (.ifCond .lt 5, 3) := by decide +kernel
theorem dX3_madeFitsTheBox_41 : decode cX3_madeFitsTheBox 41 = .ok (.iconst 0, 1) := by decide +kernel
theorem dX3_madeFitsTheBox_42 : decode cX3_madeFitsTheBox 42 = .ok (.ireturn, 1) := by decide +kernel
theorem dX3_madeFitsTheBox_43 : decode cX3_madeFitsTheBox 43 = .ok (.lload_n 1, 1) := by decide +kernel
theorem dX3_madeFitsTheBox_44 : decode cX3_madeFitsTheBox 44 = .ok (.lload 4, 2) := by decide +kernel
theorem dX3_madeFitsTheBox_46 : decode cX3_madeFitsTheBox 46 = .ok (.lconst 1, 1) := by decide +kernel
theorem dX3_madeFitsTheBox_47 : decode cX3_madeFitsTheBox 47 = .ok (.ladd, 1) := by decide +kernel
theorem dX3_madeFitsTheBox_48 : decode cX3_madeFitsTheBox 48 = .ok (.lmul, 1) := by decide +kernel
theorem dX3_madeFitsTheBox_49 : decode cX3_madeFitsTheBox 49 = .ok (.lstore_n 1, 1) := by decide +kernel
theorem dX3_madeFitsTheBox_50 : decode cX3_madeFitsTheBox 50 = .ok (.lload_n 1, 1) := by decide +kernel
theorem dX3_madeFitsTheBox_51 : decode cX3_madeFitsTheBox 51 = .ok (.ldc2_w 212, 3) := by decide +kernel
theorem dX3_madeFitsTheBox_54 : decode cX3_madeFitsTheBox 54 = .ok (.lcmp, 1) := by decide +kernel
theorem dX3_madeFitsTheBox_55 : decode cX3_madeFitsTheBox 55 = .ok (.ifCond .le 5, 3) := by decide +kernel
theorem dX3_madeFitsTheBox_58 : decode cX3_madeFitsTheBox 58 = .ok (.iconst 0, 1) := by decide +kernel
theorem dX3_madeFitsTheBox_59 : decode cX3_madeFitsTheBox 59 = .ok (.ireturn, 1) := by decide +kernel
theorem dX3_madeFitsTheBox_60 : decode cX3_madeFitsTheBox 60 = .ok (.iinc 3 1, 3) := by decide +kernel
theorem dX3_madeFitsTheBox_63 : decode cX3_madeFitsTheBox 63 = .ok (.goto (-59), 3) := by decide +kernel
theorem dX3_madeFitsTheBox_66 : decode cX3_madeFitsTheBox 66 = .ok (.iconst 1, 1) := by decide +kernel
theorem dX3_madeFitsTheBox_67 : decode cX3_madeFitsTheBox 67 = .ok (.ireturn, 1) := by decide +kernel
set_option maxRecDepth 20000 in
theorem ggX3_countFrom_X1_mostOf : GoodIn wsX3_countFrom wsX1_mostOf := goodIn_r _ [14, 15, 16, 17, 13, 18, 19, 20, 21, 22, 23, 24, 25, 26, 27, 28, 29, 30, 31, 32, 33, 34, 35, 36, 37, 38, 39, 40, 41, 42, 54, 55, 56, 57, 58, 59] rfl (by decide +kernel)
set_option maxRecDepth 20000 in
theorem gX3_countFrom_X1_mostOf : GoodIn wsX3_countFrom (wsV RX3 97 RX1 yX1_mostOf wsX1_mostOf) := goodIn_app (goodIn_of _ (by decide +kernel)) ggX3_countFrom_X1_mostOf
set_option maxRecDepth 20000 in
theorem ggX3_countFrom_X3_countFrom : GoodIn wsX3_countFrom wsX3_countFrom := goodIn_r _ [0, 1, 2, 3, 4, 5, 6, 7, 8, 9, 10, 11, 12, 13, 14, 15, 16, 17, 18, 19, 20, 21, 22, 23, 24, 25, 26, 27, 28, 29, 30, 31, 32, 33, 34, 35, 36, 37, 38, 39, 40, 41, 42, 43, 44, 45, 46, 47, 48, 49, 50, 51, 52, 53, 54, 55, 56, 57, 58, 59] rfl (by decide +kernel)
set_option maxRecDepth 20000 in
theorem gX3_countFrom_X3_countFrom : GoodIn wsX3_countFrom (wsV RX3 122 RX3 yX3_countFrom wsX3_countFrom) := goodIn_app (goodIn_of _ (by decide +kernel)) ggX3_countFrom_X3_countFrom
theorem dX3_countFrom_0 : decode cX3_countFrom 0 = .ok (.iload_n 1, 1) := by decide +kernel
theorem dX3_countFrom_1 : decode cX3_countFrom 1 = .ok (.bipush 6, 2) := by decide +kernel
theorem dX3_countFrom_3 : decode cX3_countFrom 3 = .ok (.if_icmp .lt 5, 3) := by decide +kernel
theorem dX3_countFrom_6 : decode cX3_countFrom 6 = .ok (.iconst 1, 1) := by decide +kernel
theorem dX3_countFrom_7 : decode cX3_countFrom 7 = .ok (.ireturn, 1) := by decide +kernel
theorem dX3_countFrom_8 : decode cX3_countFrom 8 = .ok (.iconst 2, 1) := by decide +kernel
theorem dX3_countFrom_9 : decode cX3_countFrom 9 = .ok (.iload_n 1, 1) := by decide +kernel
theorem dX3_countFrom_10 : decode cX3_countFrom 10 = .ok (.imul, 1) := by decide +kernel
theorem dX3_countFrom_11 : decode cX3_countFrom 11 = .ok (.istore_n 2, 1) := by decide +kernel
theorem dX3_countFrom_12 : decode cX3_countFrom 12 = .ok (.iload_n 2, 1) := by decide +kernel
theorem dX3_countFrom_13 : decode cX3_countFrom 13 = .ok (.iconst 1, 1) := by decide +kernel
theorem dX3_countFrom_14 : decode cX3_countFrom 14 = .ok (.iadd, 1) := by decide +kernel
theorem dX3_countFrom_15 : decode cX3_countFrom 15 = .ok (.istore_n 3, 1) := by decide +kernel
theorem dX3_countFrom_16 : decode cX3_countFrom 16 = .ok (.lconst 0, 1) := by decide +kernel
theorem dX3_countFrom_17 : decode cX3_countFrom 17 = .ok (.lstore 4, 2) := by decide +kernel
theorem dX3_countFrom_19 : decode cX3_countFrom 19 = .ok (.aload_n 0, 1) := by decide +kernel
theorem dX3_countFrom_20 : decode cX3_countFrom 20 = .ok (.getfield 29, 3) := by decide +kernel
theorem dX3_countFrom_23 : decode cX3_countFrom 23 = .ok (.iload_n 2, 1) := by decide +kernel
theorem dX3_countFrom_24 : decode cX3_countFrom 24 = .ok (.iload_n 2, 1) := by decide +kernel
theorem dX3_countFrom_25 : decode cX3_countFrom 25 = .ok (.invokevirtual 97, 3) := by decide +kernel
theorem dX3_countFrom_28 : decode cX3_countFrom 28 = .ok (.lstore 6, 2) := by decide +kernel
theorem dX3_countFrom_30 : decode cX3_countFrom 30 = .ok (.iconst 0, 1) := by decide +kernel
theorem dX3_countFrom_31 : decode cX3_countFrom 31 = .ok (.istore 8, 2) := by decide +kernel
theorem dX3_countFrom_33 : decode cX3_countFrom 33 = .ok (.iload 8, 2) := by decide +kernel
theorem dX3_countFrom_35 : decode cX3_countFrom 35 = .ok (.iload_n 1, 1) := by decide +kernel
theorem dX3_countFrom_36 : decode cX3_countFrom 36 = .ok (.if_icmp .ge 111, 3) := by decide +kernel
theorem dX3_countFrom_39 : decode cX3_countFrom 39 = .ok (.aload_n 0, 1) := by decide +kernel
theorem dX3_countFrom_40 : decode cX3_countFrom 40 = .ok (.getfield 33, 3) := by decide +kernel
theorem dX3_countFrom_43 : decode cX3_countFrom 43 = .ok (.iload 8, 2) := by decide +kernel
theorem dX3_countFrom_45 : decode cX3_countFrom 45 = .ok (.laload, 1) := by decide +kernel
theorem dX3_countFrom_46 : decode cX3_countFrom 46 = .ok (.lstore 9, 2) := by decide +kernel
theorem dX3_countFrom_48 : decode cX3_countFrom 48 = .ok (.lload 6, 2) := by decide +kernel
theorem dX3_countFrom_50 : decode cX3_countFrom 50 = .ok (.aload_n 0, 1) := by decide +kernel
theorem dX3_countFrom_51 : decode cX3_countFrom 51 = .ok (.getfield 29, 3) := by decide +kernel
theorem dX3_countFrom_54 : decode cX3_countFrom 54 = .ok (.iload_n 2, 1) := by decide +kernel
theorem dX3_countFrom_55 : decode cX3_countFrom 55 = .ok (.iconst 2, 1) := by decide +kernel
theorem dX3_countFrom_56 : decode cX3_countFrom 56 = .ok (.iload 8, 2) := by decide +kernel
theorem dX3_countFrom_58 : decode cX3_countFrom 58 = .ok (.imul, 1) := by decide +kernel
theorem dX3_countFrom_59 : decode cX3_countFrom 59 = .ok (.invokevirtual 97, 3) := by decide +kernel
theorem dX3_countFrom_62 : decode cX3_countFrom 62 = .ok (.lload 9, 2) := by decide +kernel
theorem dX3_countFrom_64 : decode cX3_countFrom 64 = .ok (.lsub, 1) := by decide +kernel
theorem dX3_countFrom_65 : decode cX3_countFrom 65 = .ok (.invokestatic 214, 3) := by decide +kernel
theorem dX3_countFrom_68 : decode cX3_countFrom 68 = .ok (.lstore 6, 2) := by decide +kernel
theorem dX3_countFrom_70 : decode cX3_countFrom 70 = .ok (.lload 6, 2) := by decide +kernel
theorem dX3_countFrom_72 : decode cX3_countFrom 72 = .ok (.aload_n 0, 1) := by decide +kernel
theorem dX3_countFrom_73 : decode cX3_countFrom 73 = .ok (.getfield 29, 3) := by decide +kernel
theorem dX3_countFrom_76 : decode cX3_countFrom 76 = .ok (.iload_n 2, 1) := by decide +kernel
theorem dX3_countFrom_77 : decode cX3_countFrom 77 = .ok (.iconst 2, 1) := by decide +kernel
theorem dX3_countFrom_78 : decode cX3_countFrom 78 = .ok (.iload 8, 2) := by decide +kernel
theorem dX3_countFrom_80 : decode cX3_countFrom 80 = .ok (.imul, 1) := by decide +kernel
theorem dX3_countFrom_81 : decode cX3_countFrom 81 = .ok (.iconst 1, 1) := by decide +kernel
theorem dX3_countFrom_82 : decode cX3_countFrom 82 = .ok (.iadd, 1) := by decide +kernel
theorem dX3_countFrom_83 : decode cX3_countFrom 83 = .ok (.invokevirtual 97, 3) := by decide +kernel
theorem dX3_countFrom_86 : decode cX3_countFrom 86 = .ok (.lload 9, 2) := by decide +kernel
theorem dX3_countFrom_88 : decode cX3_countFrom 88 = .ok (.ladd, 1) := by decide +kernel
theorem dX3_countFrom_89 : decode cX3_countFrom 89 = .ok (.invokestatic 214, 3) := by decide +kernel
theorem dX3_countFrom_92 : decode cX3_countFrom 92 = .ok (.lstore 6, 2) := by decide +kernel
theorem dX3_countFrom_94 : decode cX3_countFrom 94 = .ok (.lload 4, 2) := by decide +kernel
theorem dX3_countFrom_96 : decode cX3_countFrom 96 = .ok (.lload 9, 2) := by decide +kernel
theorem dX3_countFrom_98 : decode cX3_countFrom 98 = .ok (.aload_n 0, 1) := by decide +kernel
theorem dX3_countFrom_99 : decode cX3_countFrom 99 = .ok (.getfield 29, 3) := by decide +kernel
theorem dX3_countFrom_102 : decode cX3_countFrom 102 = .ok (.iload_n 3, 1) := by decide +kernel
theorem dX3_countFrom_103 : decode cX3_countFrom 103 = .ok (.iconst 2, 1) := by decide +kernel
theorem dX3_countFrom_104 : decode cX3_countFrom 104 = .ok (.iload 8, 2) := by decide +kernel
theorem dX3_countFrom_106 : decode cX3_countFrom 106 = .ok (.imul, 1) := by decide +kernel
theorem dX3_countFrom_107 : decode cX3_countFrom 107 = .ok (.invokevirtual 97, 3) := by decide +kernel
theorem dX3_countFrom_110 : decode cX3_countFrom 110 = .ok (.lsub, 1) := by decide +kernel
theorem dX3_countFrom_111 : decode cX3_countFrom 111 = .ok (.invokestatic 220, 3) := by decide +kernel
theorem dX3_countFrom_114 : decode cX3_countFrom 114 = .ok (.lstore 4, 2) := by decide +kernel
theorem dX3_countFrom_116 : decode cX3_countFrom 116 = .ok (.lload 4, 2) := by decide +kernel
theorem dX3_countFrom_118 : decode cX3_countFrom 118 = .ok (.lload 9, 2) := by decide +kernel
theorem dX3_countFrom_120 : decode cX3_countFrom 120 = .ok (.lneg, 1) := by decide +kernel
theorem dX3_countFrom_121 : decode cX3_countFrom 121 = .ok (.aload_n 0, 1) := by decide +kernel
theorem dX3_countFrom_122 : decode cX3_countFrom 122 = .ok (.getfield 29, 3) := by decide +kernel
theorem dX3_countFrom_125 : decode cX3_countFrom 125 = .ok (.iload_n 3, 1) := by decide +kernel
theorem dX3_countFrom_126 : decode cX3_countFrom 126 = .ok (.iconst 2, 1) := by decide +kernel
theorem dX3_countFrom_127 : decode cX3_countFrom 127 = .ok (.iload 8, 2) := by decide +kernel
theorem dX3_countFrom_129 : decode cX3_countFrom 129 = .ok (.imul, 1) := by decide +kernel
theorem dX3_countFrom_130 : decode cX3_countFrom 130 = .ok (.iconst 1, 1) := by decide +kernel
theorem dX3_countFrom_131 : decode cX3_countFrom 131 = .ok (.iadd, 1) := by decide +kernel
theorem dX3_countFrom_132 : decode cX3_countFrom 132 = .ok (.invokevirtual 97, 3) := by decide +kernel
theorem dX3_countFrom_135 : decode cX3_countFrom 135 = .ok (.lsub, 1) := by decide +kernel
theorem dX3_countFrom_136 : decode cX3_countFrom 136 = .ok (.invokestatic 220, 3) := by decide +kernel
theorem dX3_countFrom_139 : decode cX3_countFrom 139 = .ok (.lstore 4, 2) := by decide +kernel
theorem dX3_countFrom_141 : decode cX3_countFrom 141 = .ok (.iinc 8 1, 3) := by decide +kernel
theorem dX3_countFrom_144 : decode cX3_countFrom 144 = .ok (.goto (-111), 3) := by decide +kernel
theorem dX3_countFrom_147 : decode cX3_countFrom 147 = .ok (.iconst 0, 1) := by decide +kernel
theorem dX3_countFrom_148 : decode cX3_countFrom 148 = .ok (.istore 8, 2) := by decide +kernel
theorem dX3_countFrom_150 : decode cX3_countFrom 150 = .ok (.lload 4, 2) := by decide +kernel
theorem dX3_countFrom_152 : decode cX3_countFrom 152 = .ok (.lstore 9, 2) := by decide +kernel
theorem dX3_countFrom_154 : decode cX3_countFrom 154 = .ok (.lload 9, 2) := by decide +kernel
theorem dX3_countFrom_156 : decode cX3_countFrom 156 = .ok (.lload 6, 2) := by decide +kernel
theorem dX3_countFrom_158 : decode cX3_countFrom 158 = .ok (.lcmp, 1) := by decide +kernel
theorem dX3_countFrom_159 : decode cX3_countFrom 159 = .ok (.ifCond .gt 32, 3) := by decide +kernel
theorem dX3_countFrom_162 : decode cX3_countFrom 162 = .ok (.aload_n 0, 1) := by decide +kernel
theorem dX3_countFrom_163 : decode cX3_countFrom 163 = .ok (.getfield 33, 3) := by decide +kernel
theorem dX3_countFrom_166 : decode cX3_countFrom 166 = .ok (.iload_n 1, 1) := by decide +kernel
theorem dX3_countFrom_167 : decode cX3_countFrom 167 = .ok (.lload 9, 2) := by decide +kernel
theorem dX3_countFrom_169 : decode cX3_countFrom 169 = .ok (.lastore, 1) := by decide +kernel
theorem dX3_countFrom_170 : decode cX3_countFrom 170 = .ok (.iload 8, 2) := by decide +kernel
theorem dX3_countFrom_172 : decode cX3_countFrom 172 = .ok (.aload_n 0, 1) := by decide +kernel
theorem dX3_countFrom_173 : decode cX3_countFrom 173 = .ok (.iload_n 1, 1) := by decide +kernel
theorem dX3_countFrom_174 : decode cX3_countFrom 174 = .ok (.iconst 1, 1) := by decide +kernel
theorem dX3_countFrom_175 : decode cX3_countFrom 175 = .ok (.iadd, 1) := by decide +kernel
theorem dX3_countFrom_176 : decode cX3_countFrom 176 = .ok (.invokevirtual 122, 3) := by decide +kernel
theorem dX3_countFrom_179 : decode cX3_countFrom 179 = .ok (.iadd, 1) := by decide +kernel
theorem dX3_countFrom_180 : decode cX3_countFrom 180 = .ok (.istore 8, 2) := by decide +kernel
theorem dX3_countFrom_182 : decode cX3_countFrom 182 = .ok (.lload 9, 2) := by decide +kernel
theorem dX3_countFrom_184 : decode cX3_countFrom 184 = .ok (.lconst 1, 1) := by decide +kernel
theorem dX3_countFrom_185 : decode cX3_countFrom 185 = .ok (.ladd, 1) := by decide +kernel
theorem dX3_countFrom_186 : decode cX3_countFrom 186 = .ok (.lstore 9, 2) := by decide +kernel
theorem dX3_countFrom_188 : decode cX3_countFrom 188 = .ok (.goto (-34), 3) := by decide +kernel
theorem dX3_countFrom_191 : decode cX3_countFrom 191 = .ok (.iload 8, 2) := by decide +kernel
theorem dX3_countFrom_193 : decode cX3_countFrom 193 = .ok (.ireturn, 1) := by decide +kernel
