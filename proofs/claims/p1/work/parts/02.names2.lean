set_option maxRecDepth 20000 in
theorem ggX0_init_X3_init : GoodIn wsX0_init wsX3_init := goodIn_r _ [14, 15, 2, 3, 16, 17, 18, 19, 20, 8, 21, 22, 23, 24, 25, 6, 26, 27, 28, 29, 30, 31, 32, 33, 34, 35, 36, 37, 38, 39, 40, 41, 42, 43, 44, 45, 46, 47, 48, 49, 50, 51, 52, 53, 54, 55, 59, 60, 61, 62, 63, 64, 65, 66] rfl (by decide +kernel)
set_option maxRecDepth 20000 in
theorem gX0_init_X3_init : GoodIn wsX0_init (wsX3_init) := ggX0_init_X3_init
theorem dX0_init_0 : decode cX0_init 0 = .ok (.aload_n 0, 1) := by decide +kernel
theorem dX0_init_1 : decode cX0_init 1 = .ok (.invokespecial 3, 3) := by decide +kernel
theorem dX0_init_4 : decode cX0_init 4 = .ok (.aload_n 0, 1) := by decide +kernel
theorem dX0_init_5 : decode cX0_init 5 = .ok (.new 9, 3) := by decide +kernel
theorem dX0_init_8 : decode cX0_init 8 = .ok (.dup, 1) := by decide +kernel
theorem dX0_init_9 : decode cX0_init 9 = .ok (.sipush 1808, 3) := by decide +kernel
theorem dX0_init_12 : decode cX0_init 12 = .ok (.invokespecial 13, 3) := by decide +kernel
theorem dX0_init_15 : decode cX0_init 15 = .ok (.putfield 16, 3) := by decide +kernel
theorem dX0_init_18 : decode cX0_init 18 = .ok (.aload_n 0, 1) := by decide +kernel
theorem dX0_init_19 : decode cX0_init 19 = .ok (.bipush 13, 2) := by decide +kernel
theorem dX0_init_21 : decode cX0_init 21 = .ok (.newarray .long, 2) := by decide +kernel
theorem dX0_init_23 : decode cX0_init 23 = .ok (.putfield 20, 3) := by decide +kernel
theorem dX0_init_26 : decode cX0_init 26 = .ok (.aload_n 0, 1) := by decide +kernel
theorem dX0_init_27 : decode cX0_init 27 = .ok (.bipush 78, 2) := by decide +kernel
theorem dX0_init_29 : decode cX0_init 29 = .ok (.newarray .boolean, 2) := by decide +kernel
theorem dX0_init_31 : decode cX0_init 31 = .ok (.putfield 24, 3) := by decide +kernel
theorem dX0_init_34 : decode cX0_init 34 = .ok (.return_, 1) := by decide +kernel
set_option maxRecDepth 20000 in
theorem ggX0_note_X3_replace : GoodIn wsX0_note wsX3_replace := goodIn_r _ [7, 8, 9, 10, 6, 11, 12, 13, 14, 15, 16, 17, 18, 19, 20, 21, 22, 23, 24, 25, 26, 27, 28, 32, 33, 34, 35, 36, 37, 38, 39, 40, 41, 42, 43, 44, 45, 46, 47, 48] rfl (by decide +kernel)
set_option maxRecDepth 20000 in
theorem gX0_note_X3_replace : GoodIn wsX0_note (wsV RX0 28 RX3 yX3_replace wsX3_replace) := goodIn_app (goodIn_of _ (by decide +kernel)) ggX0_note_X3_replace
theorem dX0_note_0 : decode cX0_note 0 = .ok (.aload_n 0, 1) := by decide +kernel
theorem dX0_note_1 : decode cX0_note 1 = .ok (.getfield 20, 3) := by decide +kernel
theorem dX0_note_4 : decode cX0_note 4 = .ok (.iload_n 1, 1) := by decide +kernel
theorem dX0_note_5 : decode cX0_note 5 = .ok (.aload_n 0, 1) := by decide +kernel
theorem dX0_note_6 : decode cX0_note 6 = .ok (.getfield 16, 3) := by decide +kernel
theorem dX0_note_9 : decode cX0_note 9 = .ok (.aload_n 0, 1) := by decide +kernel
theorem dX0_note_10 : decode cX0_note 10 = .ok (.getfield 20, 3) := by decide +kernel
theorem dX0_note_13 : decode cX0_note 13 = .ok (.iload_n 1, 1) := by decide +kernel
theorem dX0_note_14 : decode cX0_note 14 = .ok (.laload, 1) := by decide +kernel
theorem dX0_note_15 : decode cX0_note 15 = .ok (.lload_n 2, 1) := by decide +kernel
theorem dX0_note_16 : decode cX0_note 16 = .ok (.invokevirtual 28, 3) := by decide +kernel
theorem dX0_note_19 : decode cX0_note 19 = .ok (.lastore, 1) := by decide +kernel
theorem dX0_note_20 : decode cX0_note 20 = .ok (.return_, 1) := by decide +kernel
theorem dX1_init_0 : decode cX1_init 0 = .ok (.aload_n 0, 1) := by decide +kernel
theorem dX1_init_1 : decode cX1_init 1 = .ok (.invokespecial 1, 3) := by decide +kernel
theorem dX1_init_4 : decode cX1_init 4 = .ok (.aload_n 0, 1) := by decide +kernel
theorem dX1_init_5 : decode cX1_init 5 = .ok (.bipush 32, 2) := by decide +kernel
theorem dX1_init_7 : decode cX1_init 7 = .ok (.newarray .long, 2) := by decide +kernel
theorem dX1_init_9 : decode cX1_init 9 = .ok (.putfield 9, 3) := by decide +kernel
theorem dX1_init_12 : decode cX1_init 12 = .ok (.return_, 1) := by decide +kernel
theorem dX2_init_0 : decode cX2_init 0 = .ok (.aload_n 0, 1) := by decide +kernel
theorem dX2_init_1 : decode cX2_init 1 = .ok (.invokespecial 1, 3) := by decide +kernel
theorem dX2_init_4 : decode cX2_init 4 = .ok (.aload_n 0, 1) := by decide +kernel
theorem dX2_init_5 : decode cX2_init 5 = .ok (.lload_n 1, 1) := by decide +kernel
theorem dX2_init_6 : decode cX2_init 6 = .ok (.putfield 7, 3) := by decide +kernel
theorem dX2_init_9 : decode cX2_init 9 = .ok (.aload_n 0, 1) := by decide +kernel
theorem dX2_init_10 : decode cX2_init 10 = .ok (.iconst 4, 1) := by decide +kernel
theorem dX2_init_11 : decode cX2_init 11 = .ok (.anewarray 13, 3) := by decide +kernel
theorem dX2_init_14 : decode cX2_init 14 = .ok (.putfield 15, 3) := by decide +kernel
theorem dX2_init_17 : decode cX2_init 17 = .ok (.return_, 1) := by decide +kernel
set_option maxRecDepth 20000 in
theorem ggX3_init_X3_onePlain : GoodIn wsX3_init wsX3_onePlain := goodIn_r _ [16, 4, 17, 18, 19, 20, 21, 22, 23, 24, 25, 26, 27, 28, 2, 3, 29, 30, 31, 32, 33, 34, 35, 9, 36, 46, 47, 48, 49, 50, 51, 52, 53] rfl (by decide +kernel)
set_option maxRecDepth 20000 in
theorem gX3_init_X3_onePlain : GoodIn wsX3_init (va_wsS RX3 17 yX3_onePlain wsX3_onePlain) := goodIn_app (goodIn_of _ (by decide +kernel)) ggX3_init_X3_onePlain
theorem dX3_init_0 : decode cX3_init 0 = .ok (.aload_n 0, 1) := by decide +kernel
theorem dX3_init_1 : decode cX3_init 1 = .ok (.invokespecial 5, 3) := by decide +kernel
theorem dX3_init_4 : decode cX3_init 4 = .ok (.aload_n 0, 1) := by decide +kernel
theorem dX3_init_5 : decode cX3_init 5 = .ok (.iload_n 1, 1) := by decide +kernel
theorem dX3_init_6 : decode cX3_init 6 = .ok (.anewarray 11, 3) := by decide +kernel
theorem dX3_init_9 : decode cX3_init 9 = .ok (.putfield 13, 3) := by decide +kernel
theorem dX3_init_12 : decode cX3_init 12 = .ok (.aload_n 0, 1) := by decide +kernel
theorem dX3_init_13 : decode cX3_init 13 = .ok (.invokestatic 17, 3) := by decide +kernel
theorem dX3_init_16 : decode cX3_init 16 = .ok (.putfield 21, 3) := by decide +kernel
theorem dX3_init_19 : decode cX3_init 19 = .ok (.aload_n 0, 1) := by decide +kernel
theorem dX3_init_20 : decode cX3_init 20 = .ok (.invokestatic 17, 3) := by decide +kernel
theorem dX3_init_23 : decode cX3_init 23 = .ok (.putfield 25, 3) := by decide +kernel
theorem dX3_init_26 : decode cX3_init 26 = .ok (.aload_n 0, 1) := by decide +kernel
theorem dX3_init_27 : decode cX3_init 27 = .ok (.invokestatic 17, 3) := by decide +kernel
theorem dX3_init_30 : decode cX3_init 30 = .ok (.putfield 28, 3) := by decide +kernel
theorem dX3_init_33 : decode cX3_init 33 = .ok (.aload_n 0, 1) := by decide +kernel
theorem dX3_init_34 : decode cX3_init 34 = .ok (.bipush 32, 2) := by decide +kernel
theorem dX3_init_36 : decode cX3_init 36 = .ok (.newarray .long, 2) := by decide +kernel
theorem dX3_init_38 : decode cX3_init 38 = .ok (.putfield 33, 3) := by decide +kernel
theorem dX3_init_41 : decode cX3_init 41 = .ok (.aload_n 0, 1) := by decide +kernel
theorem dX3_init_42 : decode cX3_init 42 = .ok (.iconst 0, 1) := by decide +kernel
theorem dX3_init_43 : decode cX3_init 43 = .ok (.putfield 37, 3) := by decide +kernel
theorem dX3_init_46 : decode cX3_init 46 = .ok (.aload_n 0, 1) := by decide +kernel
theorem dX3_init_47 : decode cX3_init 47 = .ok (.iconst 0, 1) := by decide +kernel
theorem dX3_init_48 : decode cX3_init 48 = .ok (.putfield 41, 3) := by decide +kernel
theorem dX3_init_51 : decode cX3_init 51 = .ok (.return_, 1) := by decide +kernel
set_option maxRecDepth 20000 in
theorem ggX3_onePlain_X2_init : GoodIn wsX3_onePlain wsX2_init := goodIn_r _ [12, 13, 14, 15, 16, 17, 18, 25, 26, 27, 28, 29, 30] rfl (by decide +kernel)
set_option maxRecDepth 20000 in
theorem gX3_onePlain_X2_init : GoodIn wsX3_onePlain (wsX2_init) := ggX3_onePlain_X2_init
set_option maxRecDepth 20000 in
theorem ggX3_onePlain_X1_init : GoodIn wsX3_onePlain wsX1_init := goodIn_r _ [21, 22, 14, 15, 23, 24, 31, 32] rfl (by decide +kernel)
set_option maxRecDepth 20000 in
theorem gX3_onePlain_X1_init : GoodIn wsX3_onePlain (wsX1_init) := ggX3_onePlain_X1_init
theorem dX3_onePlain_0 : decode cX3_onePlain 0 = .ok (.new 11, 3) := by decide +kernel
theorem dX3_onePlain_3 : decode cX3_onePlain 3 = .ok (.dup, 1) := by decide +kernel
theorem dX3_onePlain_4 : decode cX3_onePlain 4 = .ok (.lconst 0, 1) := by decide +kernel
theorem dX3_onePlain_5 : decode cX3_onePlain 5 = .ok (.invokespecial 44, 3) := by decide +kernel
theorem dX3_onePlain_8 : decode cX3_onePlain 8 = .ok (.astore_n 0, 1) := by decide +kernel
theorem dX3_onePlain_9 : decode cX3_onePlain 9 = .ok (.aload_n 0, 1) := by decide +kernel
theorem dX3_onePlain_10 : decode cX3_onePlain 10 = .ok (.getfield 47, 3) := by decide +kernel
theorem dX3_onePlain_13 : decode cX3_onePlain 13 = .ok (.iconst 0, 1) := by decide +kernel
theorem dX3_onePlain_14 : decode cX3_onePlain 14 = .ok (.new 31, 3) := by decide +kernel
theorem dX3_onePlain_17 : decode cX3_onePlain 17 = .ok (.dup, 1) := by decide +kernel
theorem dX3_onePlain_18 : decode cX3_onePlain 18 = .ok (.invokespecial 51, 3) := by decide +kernel
theorem dX3_onePlain_21 : decode cX3_onePlain 21 = .ok (.aastore, 1) := by decide +kernel
theorem dX3_onePlain_22 : decode cX3_onePlain 22 = .ok (.aload_n 0, 1) := by decide +kernel
theorem dX3_onePlain_23 : decode cX3_onePlain 23 = .ok (.iconst 1, 1) := by decide +kernel
theorem dX3_onePlain_24 : decode cX3_onePlain 24 = .ok (.putfield 52, 3) := by decide +kernel
theorem dX3_onePlain_27 : decode cX3_onePlain 27 = .ok (.aload_n 0, 1) := by decide +kernel
theorem dX3_onePlain_28 : decode cX3_onePlain 28 = .ok (.iconst 1, 1) := by decide +kernel
theorem dX3_onePlain_29 : decode cX3_onePlain 29 = .ok (.putfield 53, 3) := by decide +kernel
theorem dX3_onePlain_32 : decode cX3_onePlain 32 = .ok (.aload_n 0, 1) := by decide +kernel
theorem dX3_onePlain_33 : decode cX3_onePlain 33 = .ok (.areturn, 1) := by decide +kernel
theorem dX3_isGiant_0 : decode cX3_isGiant 0 = .ok (.lload_n 0, 1) := by decide +kernel
theorem dX3_isGiant_1 : decode cX3_isGiant 1 = .ok (.ldc2_w 56, 3) := by decide +kernel
theorem dX3_isGiant_4 : decode cX3_isGiant 4 = .ok (.lcmp, 1) := by decide +kernel
theorem dX3_isGiant_5 : decode cX3_isGiant 5 = .ok (.ifCond .lt 15, 3) := by decide +kernel
theorem dX3_isGiant_8 : decode cX3_isGiant 8 = .ok (.lload_n 0, 1) := by decide +kernel
theorem dX3_isGiant_9 : decode cX3_isGiant 9 = .ok (.ldc2_w 58, 3) := by decide +kernel
theorem dX3_isGiant_12 : decode cX3_isGiant 12 = .ok (.lcmp, 1) := by decide +kernel
theorem dX3_isGiant_13 : decode cX3_isGiant 13 = .ok (.ifCond .eq 7, 3) := by decide +kernel
theorem dX3_isGiant_16 : decode cX3_isGiant 16 = .ok (.iconst 1, 1) := by decide +kernel
theorem dX3_isGiant_17 : decode cX3_isGiant 17 = .ok (.goto 4, 3) := by decide +kernel
theorem dX3_isGiant_20 : decode cX3_isGiant 20 = .ok (.iconst 0, 1) := by decide +kernel
theorem dX3_isGiant_21 : decode cX3_isGiant 21 = .ok (.ireturn, 1) := by decide +kernel
theorem dX3_isPlain_0 : decode cX3_isPlain 0 = .ok (.lload_n 0, 1) := by decide +kernel
theorem dX3_isPlain_1 : decode cX3_isPlain 1 = .ok (.ldc2_w 60, 3) := by decide +kernel
theorem dX3_isPlain_4 : decode cX3_isPlain 4 = .ok (.lcmp, 1) := by decide +kernel
theorem dX3_isPlain_5 : decode cX3_isPlain 5 = .ok (.ifCond .lt 15, 3) := by decide +kernel
theorem dX3_isPlain_8 : decode cX3_isPlain 8 = .ok (.lload_n 0, 1) := by decide +kernel
theorem dX3_isPlain_9 : decode cX3_isPlain 9 = .ok (.ldc2_w 62, 3) := by decide +kernel
theorem dX3_isPlain_12 : decode cX3_isPlain 12 = .ok (.lcmp, 1) := by decide +kernel
theorem dX3_isPlain_13 : decode cX3_isPlain 13 = .ok (.ifCond .gt 7, 3) := by decide +kernel
theorem dX3_isPlain_16 : decode cX3_isPlain 16 = .ok (.iconst 1, 1) := by decide +kernel
theorem dX3_isPlain_17 : decode cX3_isPlain 17 = .ok (.goto 4, 3) := by decide +kernel
theorem dX3_isPlain_20 : decode cX3_isPlain 20 = .ok (.iconst 0, 1) := by decide +kernel
theorem dX3_isPlain_21 : decode cX3_isPlain 21 = .ok (.ireturn, 1) := by decide +kernel
set_option maxRecDepth 20000 in
theorem ggX3_replace_X3_isGiant : GoodIn wsX3_replace wsX3_isGiant := goodIn_r _ [5, 6, 7] rfl (by decide +kernel)
set_option maxRecDepth 20000 in
theorem gX3_replace_X3_isGiant : GoodIn wsX3_replace (va_wsS RX3 64 yX3_isGiant wsX3_isGiant) := goodIn_app (goodIn_of _ (by decide +kernel)) ggX3_replace_X3_isGiant
theorem dX3_replace_0 : decode cX3_replace 0 = .ok (.lload_n 3, 1) := by decide +kernel
theorem dX3_replace_1 : decode cX3_replace 1 = .ok (.invokestatic 64, 3) := by decide +kernel
theorem dX3_replace_4 : decode cX3_replace 4 = .ok (.ifCond .eq 17, 3) := by decide +kernel
theorem dX3_replace_7 : decode cX3_replace 7 = .ok (.aload_n 0, 1) := by decide +kernel
theorem dX3_replace_8 : decode cX3_replace 8 = .ok (.lload_n 3, 1) := by decide +kernel
theorem dX3_replace_9 : decode cX3_replace 9 = .ok (.invokevirtual 68, 3) := by decide +kernel
theorem dX3_replace_12 : decode cX3_replace 12 = .ok (.dup, 1) := by decide +kernel
theorem dX3_replace_13 : decode cX3_replace 13 = .ok (.getfield 72, 3) := by decide +kernel
theorem dX3_replace_16 : decode cX3_replace 16 = .ok (.iconst 1, 1) := by decide +kernel
theorem dX3_replace_17 : decode cX3_replace 17 = .ok (.iadd, 1) := by decide +kernel
theorem dX3_replace_18 : decode cX3_replace 18 = .ok (.putfield 72, 3) := by decide +kernel
theorem dX3_replace_21 : decode cX3_replace 21 = .ok (.lload_n 1, 1) := by decide +kernel
theorem dX3_replace_22 : decode cX3_replace 22 = .ok (.invokestatic 64, 3) := by decide +kernel
theorem dX3_replace_25 : decode cX3_replace 25 = .ok (.ifCond .eq 36, 3) := by decide +kernel
theorem dX3_replace_28 : decode cX3_replace 28 = .ok (.aload_n 0, 1) := by decide +kernel
theorem dX3_replace_29 : decode cX3_replace 29 = .ok (.lload_n 1, 1) := by decide +kernel
theorem dX3_replace_30 : decode cX3_replace 30 = .ok (.invokevirtual 68, 3) := by decide +kernel
theorem dX3_replace_33 : decode cX3_replace 33 = .ok (.astore 5, 2) := by decide +kernel
theorem dX3_replace_35 : decode cX3_replace 35 = .ok (.aload 5, 2) := by decide +kernel
theorem dX3_replace_37 : decode cX3_replace 37 = .ok (.dup, 1) := by decide +kernel
theorem dX3_replace_38 : decode cX3_replace 38 = .ok (.getfield 72, 3) := by decide +kernel
theorem dX3_replace_41 : decode cX3_replace 41 = .ok (.iconst 1, 1) := by decide +kernel
theorem dX3_replace_42 : decode cX3_replace 42 = .ok (.isub, 1) := by decide +kernel
theorem dX3_replace_43 : decode cX3_replace 43 = .ok (.putfield 72, 3) := by decide +kernel
theorem dX3_replace_46 : decode cX3_replace 46 = .ok (.aload 5, 2) := by decide +kernel
theorem dX3_replace_48 : decode cX3_replace 48 = .ok (.getfield 72, 3) := by decide +kernel
theorem dX3_replace_51 : decode cX3_replace 51 = .ok (.ifCond .ne 10, 3) := by decide +kernel
theorem dX3_replace_54 : decode cX3_replace 54 = .ok (.aload_n 0, 1) := by decide +kernel
theorem dX3_replace_55 : decode cX3_replace 55 = .ok (.aload 5, 2) := by decide +kernel
theorem dX3_replace_57 : decode cX3_replace 57 = .ok (.iconst 0, 1) := by decide +kernel
theorem dX3_replace_58 : decode cX3_replace 58 = .ok (.invokevirtual 75, 3) := by decide +kernel
theorem dX3_replace_61 : decode cX3_replace 61 = .ok (.lload_n 3, 1) := by decide +kernel
theorem dX3_replace_62 : decode cX3_replace 62 = .ok (.lreturn, 1) := by decide +kernel
set_option maxRecDepth 20000 in
theorem ggX3_isNegative_X3_isGiant : GoodIn wsX3_isNegative wsX3_isGiant := goodIn_r _ [4, 5, 6] rfl (by decide +kernel)
set_option maxRecDepth 20000 in
theorem gX3_isNegative_X3_isGiant : GoodIn wsX3_isNegative (va_wsS RX3 64 yX3_isGiant wsX3_isGiant) := goodIn_app (goodIn_of _ (by decide +kernel)) ggX3_isNegative_X3_isGiant
theorem dX3_isNegative_0 : decode cX3_isNegative 0 = .ok (.lload_n 1, 1) := by decide +kernel
theorem dX3_isNegative_1 : decode cX3_isNegative 1 = .ok (.invokestatic 64, 3) := by decide +kernel
theorem dX3_isNegative_4 : decode cX3_isNegative 4 = .ok (.ifCond .eq 24, 3) := by decide +kernel
theorem dX3_isNegative_7 : decode cX3_isNegative 7 = .ok (.aload_n 0, 1) := by decide +kernel
theorem dX3_isNegative_8 : decode cX3_isNegative 8 = .ok (.lload_n 1, 1) := by decide +kernel
theorem dX3_isNegative_9 : decode cX3_isNegative 9 = .ok (.invokevirtual 68, 3) := by decide +kernel
theorem dX3_isNegative_12 : decode cX3_isNegative 12 = .ok (.invokevirtual 79, 3) := by decide +kernel
theorem dX3_isNegative_15 : decode cX3_isNegative 15 = .ok (.lconst 0, 1) := by decide +kernel
theorem dX3_isNegative_16 : decode cX3_isNegative 16 = .ok (.lcmp, 1) := by decide +kernel
theorem dX3_isNegative_17 : decode cX3_isNegative 17 = .ok (.ifCond .ge 7, 3) := by decide +kernel
theorem dX3_isNegative_20 : decode cX3_isNegative 20 = .ok (.iconst 1, 1) := by decide +kernel
theorem dX3_isNegative_21 : decode cX3_isNegative 21 = .ok (.goto 18, 3) := by decide +kernel
theorem dX3_isNegative_24 : decode cX3_isNegative 24 = .ok (.iconst 0, 1) := by decide +kernel
theorem dX3_isNegative_25 : decode cX3_isNegative 25 = .ok (.goto 14, 3) := by decide +kernel
theorem dX3_isNegative_28 : decode cX3_isNegative 28 = .ok (.lload_n 1, 1) := by decide +kernel
theorem dX3_isNegative_29 : decode cX3_isNegative 29 = .ok (.lconst 0, 1) := by decide +kernel
theorem dX3_isNegative_30 : decode cX3_isNegative 30 = .ok (.lcmp, 1) := by decide +kernel
theorem dX3_isNegative_31 : decode cX3_isNegative 31 = .ok (.ifCond .ge 7, 3) := by decide +kernel
theorem dX3_isNegative_34 : decode cX3_isNegative 34 = .ok (.iconst 1, 1) := by decide +kernel
theorem dX3_isNegative_35 : decode cX3_isNegative 35 = .ok (.goto 4, 3) := by decide +kernel
theorem dX3_isNegative_38 : decode cX3_isNegative 38 = .ok (.iconst 0, 1) := by decide +kernel
theorem dX3_isNegative_39 : decode cX3_isNegative 39 = .ok (.ireturn, 1) := by decide +kernel
set_option maxRecDepth 20000 in
theorem ggX3_isLess_X3_isSumLess : GoodIn wsX3_isLess wsX3_isSumLess := goodIn_r _ [5, 6, 7, 8, 9, 10, 11, 12, 13, 14, 15, 16, 17, 18, 19, 20, 4, 21, 22, 23, 24, 25, 26, 27, 28, 29, 30, 31, 32, 33, 34, 35, 36, 37, 38, 39, 40, 41, 42, 43, 44, 45, 46, 47, 48, 49, 50, 51, 52, 53] rfl (by decide +kernel)
set_option maxRecDepth 20000 in
theorem gX3_isLess_X3_isSumLess : GoodIn wsX3_isLess (wsV RX3 83 RX3 yX3_isSumLess wsX3_isSumLess) := goodIn_app (goodIn_of _ (by decide +kernel)) ggX3_isLess_X3_isSumLess
theorem dX3_isLess_0 : decode cX3_isLess 0 = .ok (.lload_n 1, 1) := by decide +kernel
theorem dX3_isLess_1 : decode cX3_isLess 1 = .ok (.lload_n 3, 1) := by decide +kernel
theorem dX3_isLess_2 : decode cX3_isLess 2 = .ok (.lcmp, 1) := by decide +kernel
theorem dX3_isLess_3 : decode cX3_isLess 3 = .ok (.ifCond .eq 17, 3) := by decide +kernel
theorem dX3_isLess_6 : decode cX3_isLess 6 = .ok (.aload_n 0, 1) := by decide +kernel
theorem dX3_isLess_7 : decode cX3_isLess 7 = .ok (.lload_n 1, 1) := by decide +kernel
theorem dX3_isLess_8 : decode cX3_isLess 8 = .ok (.lconst 0, 1) := by decide +kernel
theorem dX3_isLess_9 : decode cX3_isLess 9 = .ok (.lload_n 3, 1) := by decide +kernel
theorem dX3_isLess_10 : decode cX3_isLess 10 = .ok (.invokevirtual 83, 3) := by decide +kernel
theorem dX3_isLess_13 : decode cX3_isLess 13 = .ok (.ifCond .eq 7, 3) := by decide +kernel
theorem dX3_isLess_16 : decode cX3_isLess 16 = .ok (.iconst 1, 1) := by decide +kernel
theorem dX3_isLess_17 : decode cX3_isLess 17 = .ok (.goto 4, 3) := by decide +kernel
theorem dX3_isLess_20 : decode cX3_isLess 20 = .ok (.iconst 0, 1) := by decide +kernel
theorem dX3_isLess_21 : decode cX3_isLess 21 = .ok (.ireturn, 1) := by decide +kernel
theorem dX3_isSumLess_0 : decode cX3_isSumLess 0 = .ok (.lload_n 1, 1) := by decide +kernel
theorem dX3_isSumLess_1 : decode cX3_isSumLess 1 = .ok (.ldc2_w 58, 3) := by decide +kernel
theorem dX3_isSumLess_4 : decode cX3_isSumLess 4 = .ok (.lcmp, 1) := by decide +kernel
theorem dX3_isSumLess_5 : decode cX3_isSumLess 5 = .ok (.ifCond .eq 20, 3) := by decide +kernel
theorem dX3_isSumLess_8 : decode cX3_isSumLess 8 = .ok (.lload_n 3, 1) := by decide +kernel
theorem dX3_isSumLess_9 : decode cX3_isSumLess 9 = .ok (.ldc2_w 58, 3) := by decide +kernel
theorem dX3_isSumLess_12 : decode cX3_isSumLess 12 = .ok (.lcmp, 1) := by decide +kernel
theorem dX3_isSumLess_13 : decode cX3_isSumLess 13 = .ok (.ifCond .eq 12, 3) := by decide +kernel
theorem dX3_isSumLess_16 : decode cX3_isSumLess 16 = .ok (.lload 5, 2) := by decide +kernel
theorem dX3_isSumLess_18 : decode cX3_isSumLess 18 = .ok (.ldc2_w 58, 3) := by decide +kernel
theorem dX3_isSumLess_21 : decode cX3_isSumLess 21 = .ok (.lcmp, 1) := by decide +kernel
theorem dX3_isSumLess_22 : decode cX3_isSumLess 22 = .ok (.ifCond .ne 25, 3) := by decide +kernel
theorem dX3_isSumLess_25 : decode cX3_isSumLess 25 = .ok (.lload_n 1, 1) := by decide +kernel
theorem dX3_isSumLess_26 : decode cX3_isSumLess 26 = .ok (.ldc2_w 58, 3) := by decide +kernel
theorem dX3_isSumLess_29 : decode cX3_isSumLess 29 = .ok (.lcmp, 1) := by decide +kernel
theorem dX3_isSumLess_30 : decode cX3_isSumLess 30 = .ok (.ifCond .eq 15, 3) := by decide +kernel
theorem dX3_isSumLess_33 : decode cX3_isSumLess 33 = .ok (.lload_n 3, 1) := by decide +kernel
theorem dX3_isSumLess_34 : decode cX3_isSumLess 34 = .ok (.ldc2_w 58, 3) := by decide +kernel
theorem dX3_isSumLess_37 : decode cX3_isSumLess 37 = .ok (.lcmp, 1) := by decide +kernel
theorem dX3_isSumLess_38 : decode cX3_isSumLess 38 = .ok (.ifCond .eq 7, 3) := by decide +kernel
theorem dX3_isSumLess_41 : decode cX3_isSumLess 41 = .ok (.iconst 1, 1) := by decide +kernel
theorem dX3_isSumLess_42 : decode cX3_isSumLess 42 = .ok (.goto 4, 3) := by decide +kernel
theorem dX3_isSumLess_45 : decode cX3_isSumLess 45 = .ok (.iconst 0, 1) := by decide +kernel
theorem dX3_isSumLess_46 : decode cX3_isSumLess 46 = .ok (.ireturn, 1) := by decide +kernel
theorem dX3_isSumLess_47 : decode cX3_isSumLess 47 = .ok (.lload_n 1, 1) := by decide +kernel
theorem dX3_isSumLess_48 : decode cX3_isSumLess 48 = .ok (.ldc2_w 56, 3) := by decide +kernel
theorem dX3_isSumLess_51 : decode cX3_isSumLess 51 = .ok (.lcmp, 1) := by decide +kernel
theorem dX3_isSumLess_52 : decode cX3_isSumLess 52 = .ok (.ifCond .ge 35, 3) := by decide +kernel
theorem dX3_isSumLess_55 : decode cX3_isSumLess 55 = .ok (.lload_n 3, 1) := by decide +kernel
theorem dX3_isSumLess_56 : decode cX3_isSumLess 56 = .ok (.ldc2_w 56, 3) := by decide +kernel
theorem dX3_isSumLess_59 : decode cX3_isSumLess 59 = .ok (.lcmp, 1) := by decide +kernel
theorem dX3_isSumLess_60 : decode cX3_isSumLess 60 = .ok (.ifCond .ge 27, 3) := by decide +kernel
theorem dX3_isSumLess_63 : decode cX3_isSumLess 63 = .ok (.lload 5, 2) := by decide +kernel
theorem dX3_isSumLess_65 : decode cX3_isSumLess 65 = .ok (.ldc2_w 56, 3) := by decide +kernel
theorem dX3_isSumLess_68 : decode cX3_isSumLess 68 = .ok (.lcmp, 1) := by decide +kernel
theorem dX3_isSumLess_69 : decode cX3_isSumLess 69 = .ok (.ifCond .ge 18, 3) := by decide +kernel
theorem dX3_isSumLess_72 : decode cX3_isSumLess 72 = .ok (.lload_n 1, 1) := by decide +kernel
theorem dX3_isSumLess_73 : decode cX3_isSumLess 73 = .ok (.lload_n 3, 1) := by decide +kernel
theorem dX3_isSumLess_74 : decode cX3_isSumLess 74 = .ok (.ladd, 1) := by decide +kernel
theorem dX3_isSumLess_75 : decode cX3_isSumLess 75 = .ok (.lload 5, 2) := by decide +kernel
theorem dX3_isSumLess_77 : decode cX3_isSumLess 77 = .ok (.lcmp, 1) := by decide +kernel
theorem dX3_isSumLess_78 : decode cX3_isSumLess 78 = .ok (.ifCond .ge 7, 3) := by decide +kernel
theorem dX3_isSumLess_81 : decode cX3_isSumLess 81 = .ok (.iconst 1, 1) := by decide +kernel
theorem dX3_isSumLess_82 : decode cX3_isSumLess 82 = .ok (.goto 4, 3) := by decide +kernel
theorem dX3_isSumLess_85 : decode cX3_isSumLess 85 = .ok (.iconst 0, 1) := by decide +kernel
theorem dX3_isSumLess_86 : decode cX3_isSumLess 86 = .ok (.ireturn, 1) := by decide +kernel
set_option maxRecDepth 20000 in
theorem ggX3_sum_X3_isPlain : GoodIn wsX3_sum wsX3_isPlain := goodIn_r _ [16, 17, 18] rfl (by decide +kernel)
set_option maxRecDepth 20000 in
theorem gX3_sum_X3_isPlain : GoodIn wsX3_sum (va_wsS RX3 105 yX3_isPlain wsX3_isPlain) := goodIn_app (goodIn_of _ (by decide +kernel)) ggX3_sum_X3_isPlain
theorem dX3_sum_0 : decode cX3_sum 0 = .ok (.lload_n 1, 1) := by decide +kernel
theorem dX3_sum_1 : decode cX3_sum 1 = .ok (.ldc2_w 58, 3) := by decide +kernel
theorem dX3_sum_4 : decode cX3_sum 4 = .ok (.lcmp, 1) := by decide +kernel
theorem dX3_sum_5 : decode cX3_sum 5 = .ok (.ifCond .eq 11, 3) := by decide +kernel
theorem dX3_sum_8 : decode cX3_sum 8 = .ok (.lload_n 3, 1) := by decide +kernel
theorem dX3_sum_9 : decode cX3_sum 9 = .ok (.ldc2_w 58, 3) := by decide +kernel
theorem dX3_sum_12 : decode cX3_sum 12 = .ok (.lcmp, 1) := by decide +kernel
theorem dX3_sum_13 : decode cX3_sum 13 = .ok (.ifCond .ne 7, 3) := by decide +kernel
theorem dX3_sum_16 : decode cX3_sum 16 = .ok (.ldc2_w 58, 3) := by decide +kernel
theorem dX3_sum_19 : decode cX3_sum 19 = .ok (.lreturn, 1) := by decide +kernel
theorem dX3_sum_20 : decode cX3_sum 20 = .ok (.lload_n 1, 1) := by decide +kernel
theorem dX3_sum_21 : decode cX3_sum 21 = .ok (.ldc2_w 56, 3) := by decide +kernel
theorem dX3_sum_24 : decode cX3_sum 24 = .ok (.lcmp, 1) := by decide +kernel
theorem dX3_sum_25 : decode cX3_sum 25 = .ok (.ifCond .ge 24, 3) := by decide +kernel
theorem dX3_sum_28 : decode cX3_sum 28 = .ok (.lload_n 3, 1) := by decide +kernel
theorem dX3_sum_29 : decode cX3_sum 29 = .ok (.ldc2_w 56, 3) := by decide +kernel
theorem dX3_sum_32 : decode cX3_sum 32 = .ok (.lcmp, 1) := by decide +kernel
theorem dX3_sum_33 : decode cX3_sum 33 = .ok (.ifCond .ge 16, 3) := by decide +kernel
theorem dX3_sum_36 : decode cX3_sum 36 = .ok (.lload_n 1, 1) := by decide +kernel
theorem dX3_sum_37 : decode cX3_sum 37 = .ok (.lload_n 3, 1) := by decide +kernel
theorem dX3_sum_38 : decode cX3_sum 38 = .ok (.ladd, 1) := by decide +kernel
theorem dX3_sum_39 : decode cX3_sum 39 = .ok (.invokestatic 105, 3) := by decide +kernel
theorem dX3_sum_42 : decode cX3_sum 42 = .ok (.ifCond .eq 7, 3) := by decide +kernel
theorem dX3_sum_45 : decode cX3_sum 45 = .ok (.lload_n 1, 1) := by decide +kernel
theorem dX3_sum_46 : decode cX3_sum 46 = .ok (.lload_n 3, 1) := by decide +kernel
theorem dX3_sum_47 : decode cX3_sum 47 = .ok (.ladd, 1) := by decide +kernel
theorem dX3_sum_48 : decode cX3_sum 48 = .ok (.lreturn, 1) := by decide +kernel
set_option maxRecDepth 20000 in
theorem ggX3_negative_X3_isPlain : GoodIn wsX3_negative wsX3_isPlain := goodIn_r _ [12, 13, 14] rfl (by decide +kernel)
set_option maxRecDepth 20000 in
theorem gX3_negative_X3_isPlain : GoodIn wsX3_negative (va_wsS RX3 105 yX3_isPlain wsX3_isPlain) := goodIn_app (goodIn_of _ (by decide +kernel)) ggX3_negative_X3_isPlain
theorem dX3_negative_0 : decode cX3_negative 0 = .ok (.lload_n 1, 1) := by decide +kernel
theorem dX3_negative_1 : decode cX3_negative 1 = .ok (.ldc2_w 58, 3) := by decide +kernel
theorem dX3_negative_4 : decode cX3_negative 4 = .ok (.lcmp, 1) := by decide +kernel
theorem dX3_negative_5 : decode cX3_negative 5 = .ok (.ifCond .ne 7, 3) := by decide +kernel
theorem dX3_negative_8 : decode cX3_negative 8 = .ok (.ldc2_w 58, 3) := by decide +kernel
theorem dX3_negative_11 : decode cX3_negative 11 = .ok (.lreturn, 1) := by decide +kernel
theorem dX3_negative_12 : decode cX3_negative 12 = .ok (.lload_n 1, 1) := by decide +kernel
theorem dX3_negative_13 : decode cX3_negative 13 = .ok (.ldc2_w 56, 3) := by decide +kernel
theorem dX3_negative_16 : decode cX3_negative 16 = .ok (.lcmp, 1) := by decide +kernel
theorem dX3_negative_17 : decode cX3_negative 17 = .ok (.ifCond .ge 14, 3) := by decide +kernel
theorem dX3_negative_20 : decode cX3_negative 20 = .ok (.lload_n 1, 1) := by decide +kernel
theorem dX3_negative_21 : decode cX3_negative 21 = .ok (.lneg, 1) := by decide +kernel
theorem dX3_negative_22 : decode cX3_negative 22 = .ok (.invokestatic 105, 3) := by decide +kernel
theorem dX3_negative_25 : decode cX3_negative 25 = .ok (.ifCond .eq 6, 3) := by decide +kernel
theorem dX3_negative_28 : decode cX3_negative 28 = .ok (.lload_n 1, 1) := by decide +kernel
theorem dX3_negative_29 : decode cX3_negative 29 = .ok (.lneg, 1) := by decide +kernel
theorem dX3_negative_30 : decode cX3_negative 30 = .ok (.lreturn, 1) := by decide +kernel
set_option maxRecDepth 20000 in
theorem ggX3_half_X3_isGiant : GoodIn wsX3_half wsX3_isGiant := goodIn_r _ [11, 12, 1] rfl (by decide +kernel)
set_option maxRecDepth 20000 in
theorem gX3_half_X3_isGiant : GoodIn wsX3_half (va_wsS RX3 64 yX3_isGiant wsX3_isGiant) := goodIn_app (goodIn_of _ (by decide +kernel)) ggX3_half_X3_isGiant
theorem dX3_half_0 : decode cX3_half 0 = .ok (.lload_n 1, 1) := by decide +kernel
theorem dX3_half_1 : decode cX3_half 1 = .ok (.invokestatic 64, 3) := by decide +kernel
theorem dX3_half_4 : decode cX3_half 4 = .ok (.ifCond .ne 21, 3) := by decide +kernel
theorem dX3_half_7 : decode cX3_half 7 = .ok (.lload_n 1, 1) := by decide +kernel
theorem dX3_half_8 : decode cX3_half 8 = .ok (.ldc2_w 58, 3) := by decide +kernel
theorem dX3_half_11 : decode cX3_half 11 = .ok (.lcmp, 1) := by decide +kernel
theorem dX3_half_12 : decode cX3_half 12 = .ok (.ifCond .ne 9, 3) := by decide +kernel
theorem dX3_half_15 : decode cX3_half 15 = .ok (.ldc2_w 58, 3) := by decide +kernel
theorem dX3_half_18 : decode cX3_half 18 = .ok (.goto 6, 3) := by decide +kernel
theorem dX3_half_21 : decode cX3_half 21 = .ok (.lload_n 1, 1) := by decide +kernel
theorem dX3_half_22 : decode cX3_half 22 = .ok (.iconst 1, 1) := by decide +kernel
theorem dX3_half_23 : decode cX3_half 23 = .ok (.lshr, 1) := by decide +kernel
theorem dX3_half_24 : decode cX3_half 24 = .ok (.lreturn, 1) := by decide +kernel
set_option maxRecDepth 20000 in
theorem ggX3_nearestLong_X3_isGiant : GoodIn wsX3_nearestLong wsX3_isGiant := goodIn_r _ [9, 10, 5] rfl (by decide +kernel)
set_option maxRecDepth 20000 in
theorem gX3_nearestLong_X3_isGiant : GoodIn wsX3_nearestLong (va_wsS RX3 64 yX3_isGiant wsX3_isGiant) := goodIn_app (goodIn_of _ (by decide +kernel)) ggX3_nearestLong_X3_isGiant
theorem dX3_nearestLong_0 : decode cX3_nearestLong 0 = .ok (.lload_n 1, 1) := by decide +kernel
theorem dX3_nearestLong_1 : decode cX3_nearestLong 1 = .ok (.invokestatic 64, 3) := by decide +kernel
theorem dX3_nearestLong_4 : decode cX3_nearestLong 4 = .ok (.ifCond .ne 5, 3) := by decide +kernel
theorem dX3_nearestLong_7 : decode cX3_nearestLong 7 = .ok (.lload_n 1, 1) := by decide +kernel
theorem dX3_nearestLong_8 : decode cX3_nearestLong 8 = .ok (.lreturn, 1) := by decide +kernel
