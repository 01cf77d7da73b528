theorem dX0_init_0 : decode cX0_init 0 = .ok (.aload_n 0, 1) := by decide +kernel
theorem dX0_init_1 : decode cX0_init 1 = .ok (.invokespecial 5, 3) := by decide +kernel
theorem dX0_init_4 : decode cX0_init 4 = .ok (.aload_n 0, 1) := by decide +kernel
theorem dX0_init_5 : decode cX0_init 5 = .ok (.iload_n 1, 1) := by decide +kernel
theorem dX0_init_6 : decode cX0_init 6 = .ok (.putfield 11, 3) := by decide +kernel
theorem dX0_init_9 : decode cX0_init 9 = .ok (.aload_n 0, 1) := by decide +kernel
theorem dX0_init_10 : decode cX0_init 10 = .ok (.iload_n 1, 1) := by decide +kernel
theorem dX0_init_11 : decode cX0_init 11 = .ok (.iconst 1, 1) := by decide +kernel
theorem dX0_init_12 : decode cX0_init 12 = .ok (.iadd, 1) := by decide +kernel
theorem dX0_init_13 : decode cX0_init 13 = .ok (.putfield 15, 3) := by decide +kernel
theorem dX0_init_16 : decode cX0_init 16 = .ok (.aload_n 0, 1) := by decide +kernel
theorem dX0_init_17 : decode cX0_init 17 = .ok (.aload_n 0, 1) := by decide +kernel
theorem dX0_init_18 : decode cX0_init 18 = .ok (.getfield 15, 3) := by decide +kernel
theorem dX0_init_21 : decode cX0_init 21 = .ok (.newarray .long, 2) := by decide +kernel
theorem dX0_init_23 : decode cX0_init 23 = .ok (.putfield 18, 3) := by decide +kernel
theorem dX0_init_26 : decode cX0_init 26 = .ok (.aload_n 0, 1) := by decide +kernel
theorem dX0_init_27 : decode cX0_init 27 = .ok (.iconst 0, 1) := by decide +kernel
theorem dX0_init_28 : decode cX0_init 28 = .ok (.putfield 22, 3) := by decide +kernel
theorem dX0_init_31 : decode cX0_init 31 = .ok (.return_, 1) := by decide +kernel
theorem dX0_isInfinite_0 : decode cX0_isInfinite 0 = .ok (.aload_n 0, 1) := by decide +kernel
theorem dX0_isInfinite_1 : decode cX0_isInfinite 1 = .ok (.getfield 18, 3) := by decide +kernel
theorem dX0_isInfinite_4 : decode cX0_isInfinite 4 = .ok (.aload_n 0, 1) := by decide +kernel
theorem dX0_isInfinite_5 : decode cX0_isInfinite 5 = .ok (.getfield 22, 3) := by decide +kernel
theorem dX0_isInfinite_8 : decode cX0_isInfinite 8 = .ok (.iload_n 1, 1) := by decide +kernel
theorem dX0_isInfinite_9 : decode cX0_isInfinite 9 = .ok (.iadd, 1) := by decide +kernel
theorem dX0_isInfinite_10 : decode cX0_isInfinite 10 = .ok (.laload, 1) := by decide +kernel
theorem dX0_isInfinite_11 : decode cX0_isInfinite 11 = .ok (.ldc2_w 25, 3) := by decide +kernel
theorem dX0_isInfinite_14 : decode cX0_isInfinite 14 = .ok (.lcmp, 1) := by decide +kernel
theorem dX0_isInfinite_15 : decode cX0_isInfinite 15 = .ok (.ifCond .ne 7, 3) := by decide +kernel
theorem dX0_isInfinite_18 : decode cX0_isInfinite 18 = .ok (.iconst 1, 1) := by decide +kernel
theorem dX0_isInfinite_19 : decode cX0_isInfinite 19 = .ok (.goto 4, 3) := by decide +kernel
theorem dX0_isInfinite_22 : decode cX0_isInfinite 22 = .ok (.iconst 0, 1) := by decide +kernel
theorem dX0_isInfinite_23 : decode cX0_isInfinite 23 = .ok (.ireturn, 1) := by decide +kernel
theorem dX0_isNegative_0 : decode cX0_isNegative 0 = .ok (.aload_n 0, 1) := by decide +kernel
theorem dX0_isNegative_1 : decode cX0_isNegative 1 = .ok (.getfield 18, 3) := by decide +kernel
theorem dX0_isNegative_4 : decode cX0_isNegative 4 = .ok (.aload_n 0, 1) := by decide +kernel
theorem dX0_isNegative_5 : decode cX0_isNegative 5 = .ok (.getfield 22, 3) := by decide +kernel
theorem dX0_isNegative_8 : decode cX0_isNegative 8 = .ok (.iload_n 1, 1) := by decide +kernel
theorem dX0_isNegative_9 : decode cX0_isNegative 9 = .ok (.iadd, 1) := by decide +kernel
theorem dX0_isNegative_10 : decode cX0_isNegative 10 = .ok (.laload, 1) := by decide +kernel
theorem dX0_isNegative_11 : decode cX0_isNegative 11 = .ok (.lconst 0, 1) := by decide +kernel
theorem dX0_isNegative_12 : decode cX0_isNegative 12 = .ok (.lcmp, 1) := by decide +kernel
theorem dX0_isNegative_13 : decode cX0_isNegative 13 = .ok (.ifCond .ge 7, 3) := by decide +kernel
theorem dX0_isNegative_16 : decode cX0_isNegative 16 = .ok (.iconst 1, 1) := by decide +kernel
theorem dX0_isNegative_17 : decode cX0_isNegative 17 = .ok (.goto 4, 3) := by decide +kernel
theorem dX0_isNegative_20 : decode cX0_isNegative 20 = .ok (.iconst 0, 1) := by decide +kernel
theorem dX0_isNegative_21 : decode cX0_isNegative 21 = .ok (.ireturn, 1) := by decide +kernel
theorem dX0_isLess_0 : decode cX0_isLess 0 = .ok (.aload_n 0, 1) := by decide +kernel
theorem dX0_isLess_1 : decode cX0_isLess 1 = .ok (.getfield 22, 3) := by decide +kernel
theorem dX0_isLess_4 : decode cX0_isLess 4 = .ok (.istore 4, 2) := by decide +kernel
theorem dX0_isLess_6 : decode cX0_isLess 6 = .ok (.iload 4, 2) := by decide +kernel
theorem dX0_isLess_8 : decode cX0_isLess 8 = .ok (.ifCond .lt 59, 3) := by decide +kernel
theorem dX0_isLess_11 : decode cX0_isLess 11 = .ok (.aload_n 0, 1) := by decide +kernel
theorem dX0_isLess_12 : decode cX0_isLess 12 = .ok (.getfield 18, 3) := by decide +kernel
theorem dX0_isLess_15 : decode cX0_isLess 15 = .ok (.iload 4, 2) := by decide +kernel
theorem dX0_isLess_17 : decode cX0_isLess 17 = .ok (.iload_n 1, 1) := by decide +kernel
theorem dX0_isLess_18 : decode cX0_isLess 18 = .ok (.iadd, 1) := by decide +kernel
theorem dX0_isLess_19 : decode cX0_isLess 19 = .ok (.laload, 1) := by decide +kernel
theorem dX0_isLess_20 : decode cX0_isLess 20 = .ok (.lstore 5, 2) := by decide +kernel
theorem dX0_isLess_22 : decode cX0_isLess 22 = .ok (.aload_n 2, 1) := by decide +kernel
theorem dX0_isLess_23 : decode cX0_isLess 23 = .ok (.getfield 18, 3) := by decide +kernel
theorem dX0_isLess_26 : decode cX0_isLess 26 = .ok (.iload 4, 2) := by decide +kernel
theorem dX0_isLess_28 : decode cX0_isLess 28 = .ok (.iload_n 3, 1) := by decide +kernel
theorem dX0_isLess_29 : decode cX0_isLess 29 = .ok (.iadd, 1) := by decide +kernel
theorem dX0_isLess_30 : decode cX0_isLess 30 = .ok (.laload, 1) := by decide +kernel
theorem dX0_isLess_31 : decode cX0_isLess 31 = .ok (.lstore 7, 2) := by decide +kernel
theorem dX0_isLess_33 : decode cX0_isLess 33 = .ok (.lload 5, 2) := by decide +kernel
theorem dX0_isLess_35 : decode cX0_isLess 35 = .ok (.lload 7, 2) := by decide +kernel
theorem dX0_isLess_37 : decode cX0_isLess 37 = .ok (.lcmp, 1) := by decide +kernel
theorem dX0_isLess_38 : decode cX0_isLess 38 = .ok (.ifCond .eq 17, 3) := by decide +kernel
theorem dX0_isLess_41 : decode cX0_isLess 41 = .ok (.lload 5, 2) := by decide +kernel
theorem dX0_isLess_43 : decode cX0_isLess 43 = .ok (.lload 7, 2) := by decide +kernel
theorem dX0_isLess_45 : decode cX0_isLess 45 = .ok (.lcmp, 1) := by decide +kernel
theorem dX0_isLess_46 : decode cX0_isLess 46 = .ok (.ifCond .ge 7, 3) := by decide +kernel
theorem dX0_isLess_49 : decode cX0_isLess 49 = .ok (.iconst 1, 1) := by decide +kernel
theorem dX0_isLess_50 : decode cX0_isLess 50 = .ok (.goto 4, 3) := by decide +kernel
theorem dX0_isLess_53 : decode cX0_isLess 53 = .ok (.iconst 0, 1) := by decide +kernel
theorem dX0_isLess_54 : decode cX0_isLess 54 = .ok (.ireturn, 1) := by decide +kernel
theorem dX0_isLess_55 : decode cX0_isLess 55 = .ok (.iload 4, 2) := by decide +kernel
theorem dX0_isLess_57 : decode cX0_isLess 57 = .ok (.aload_n 0, 1) := by decide +kernel
theorem dX0_isLess_58 : decode cX0_isLess 58 = .ok (.getfield 15, 3) := by decide +kernel
theorem dX0_isLess_61 : decode cX0_isLess 61 = .ok (.isub, 1) := by decide +kernel
theorem dX0_isLess_62 : decode cX0_isLess 62 = .ok (.istore 4, 2) := by decide +kernel
theorem dX0_isLess_64 : decode cX0_isLess 64 = .ok (.goto (-58), 3) := by decide +kernel
theorem dX0_isLess_67 : decode cX0_isLess 67 = .ok (.iconst 0, 1) := by decide +kernel
theorem dX0_isLess_68 : decode cX0_isLess 68 = .ok (.ireturn, 1) := by decide +kernel
theorem dX0_nearestLong_0 : decode cX0_nearestLong 0 = .ok (.aload_n 0, 1) := by decide +kernel
theorem dX0_nearestLong_1 : decode cX0_nearestLong 1 = .ok (.getfield 18, 3) := by decide +kernel
theorem dX0_nearestLong_4 : decode cX0_nearestLong 4 = .ok (.aload_n 0, 1) := by decide +kernel
theorem dX0_nearestLong_5 : decode cX0_nearestLong 5 = .ok (.getfield 22, 3) := by decide +kernel
theorem dX0_nearestLong_8 : decode cX0_nearestLong 8 = .ok (.iload_n 1, 1) := by decide +kernel
theorem dX0_nearestLong_9 : decode cX0_nearestLong 9 = .ok (.iadd, 1) := by decide +kernel
theorem dX0_nearestLong_10 : decode cX0_nearestLong 10 = .ok (.laload, 1) := by decide +kernel
theorem dX0_nearestLong_11 : decode cX0_nearestLong 11 = .ok (.lstore_n 2, 1) := by decide +kernel
theorem dX0_nearestLong_12 : decode cX0_nearestLong 12 = .ok (.lload_n 2, 1) := by decide +kernel
theorem dX0_nearestLong_13 : decode cX0_nearestLong 13 = .ok (.ldc2_w 25, 3) := by decide +kernel
theorem dX0_nearestLong_16 : decode cX0_nearestLong 16 = .ok (.lcmp, 1) := by decide +kernel
theorem dX0_nearestLong_17 : decode cX0_nearestLong 17 = .ok (.ifCond .ne 7, 3) := by decide +kernel
theorem dX0_nearestLong_20 : decode cX0_nearestLong 20 = .ok (.ldc2_w 25, 3) := by decide +kernel
theorem dX0_nearestLong_23 : decode cX0_nearestLong 23 = .ok (.lreturn, 1) := by decide +kernel
theorem dX0_nearestLong_24 : decode cX0_nearestLong 24 = .ok (.aload_n 0, 1) := by decide +kernel
theorem dX0_nearestLong_25 : decode cX0_nearestLong 25 = .ok (.getfield 22, 3) := by decide +kernel
theorem dX0_nearestLong_28 : decode cX0_nearestLong 28 = .ok (.aload_n 0, 1) := by decide +kernel
theorem dX0_nearestLong_29 : decode cX0_nearestLong 29 = .ok (.getfield 15, 3) := by decide +kernel
theorem dX0_nearestLong_32 : decode cX0_nearestLong 32 = .ok (.isub, 1) := by decide +kernel
theorem dX0_nearestLong_33 : decode cX0_nearestLong 33 = .ok (.istore 4, 2) := by decide +kernel
theorem dX0_nearestLong_35 : decode cX0_nearestLong 35 = .ok (.iload 4, 2) := by decide +kernel
theorem dX0_nearestLong_37 : decode cX0_nearestLong 37 = .ok (.ifCond .lt 54, 3) := by decide +kernel
theorem dX0_nearestLong_40 : decode cX0_nearestLong 40 = .ok (.lload_n 2, 1) := by decide +kernel
theorem dX0_nearestLong_41 : decode cX0_nearestLong 41 = .ok (.ldc2_w 27, 3) := by decide +kernel
theorem dX0_nearestLong_44 : decode cX0_nearestLong 44 = .ok (.lcmp, 1) := by decide +kernel
theorem dX0_nearestLong_45 : decode cX0_nearestLong 45 = .ok (.ifCond .le 7, 3) := by decide +kernel
theorem dX0_nearestLong_48 : decode cX0_nearestLong 48 = .ok (.ldc2_w 25, 3) := by decide +kernel
theorem dX0_nearestLong_51 : decode cX0_nearestLong 51 = .ok (.lreturn, 1) := by decide +kernel
theorem dX0_nearestLong_52 : decode cX0_nearestLong 52 = .ok (.lload_n 2, 1) := by decide +kernel
theorem dX0_nearestLong_53 : decode cX0_nearestLong 53 = .ok (.ldc2_w 29, 3) := by decide +kernel
theorem dX0_nearestLong_56 : decode cX0_nearestLong 56 = .ok (.lcmp, 1) := by decide +kernel
theorem dX0_nearestLong_57 : decode cX0_nearestLong 57 = .ok (.ifCond .ge 7, 3) := by decide +kernel
theorem dX0_nearestLong_60 : decode cX0_nearestLong 60 = .ok (.ldc2_w 31, 3) := by decide +kernel
theorem dX0_nearestLong_63 : decode cX0_nearestLong 63 = .ok (.lreturn, 1) := by decide +kernel
theorem dX0_nearestLong_64 : decode cX0_nearestLong 64 = .ok (.lload_n 2, 1) := by decide +kernel
theorem dX0_nearestLong_65 : decode cX0_nearestLong 65 = .ok (.bipush 60, 2) := by decide +kernel
theorem dX0_nearestLong_67 : decode cX0_nearestLong 67 = .ok (.lshl, 1) := by decide +kernel
theorem dX0_nearestLong_68 : decode cX0_nearestLong 68 = .ok (.aload_n 0, 1) := by decide +kernel
theorem dX0_nearestLong_69 : decode cX0_nearestLong 69 = .ok (.getfield 18, 3) := by decide +kernel
theorem dX0_nearestLong_72 : decode cX0_nearestLong 72 = .ok (.iload 4, 2) := by decide +kernel
theorem dX0_nearestLong_74 : decode cX0_nearestLong 74 = .ok (.iload_n 1, 1) := by decide +kernel
theorem dX0_nearestLong_75 : decode cX0_nearestLong 75 = .ok (.iadd, 1) := by decide +kernel
theorem dX0_nearestLong_76 : decode cX0_nearestLong 76 = .ok (.laload, 1) := by decide +kernel
theorem dX0_nearestLong_77 : decode cX0_nearestLong 77 = .ok (.ladd, 1) := by decide +kernel
theorem dX0_nearestLong_78 : decode cX0_nearestLong 78 = .ok (.lstore_n 2, 1) := by decide +kernel
theorem dX0_nearestLong_79 : decode cX0_nearestLong 79 = .ok (.iload 4, 2) := by decide +kernel
theorem dX0_nearestLong_81 : decode cX0_nearestLong 81 = .ok (.aload_n 0, 1) := by decide +kernel
theorem dX0_nearestLong_82 : decode cX0_nearestLong 82 = .ok (.getfield 15, 3) := by decide +kernel
theorem dX0_nearestLong_85 : decode cX0_nearestLong 85 = .ok (.isub, 1) := by decide +kernel
theorem dX0_nearestLong_86 : decode cX0_nearestLong 86 = .ok (.istore 4, 2) := by decide +kernel
theorem dX0_nearestLong_88 : decode cX0_nearestLong 88 = .ok (.goto (-53), 3) := by decide +kernel
theorem dX0_nearestLong_91 : decode cX0_nearestLong 91 = .ok (.lload_n 2, 1) := by decide +kernel
theorem dX0_nearestLong_92 : decode cX0_nearestLong 92 = .ok (.lreturn, 1) := by decide +kernel
theorem dX0_takeOver_0 : decode cX0_takeOver 0 = .ok (.aload_n 1, 1) := by decide +kernel
theorem dX0_takeOver_1 : decode cX0_takeOver 1 = .ok (.getfield 18, 3) := by decide +kernel
theorem dX0_takeOver_4 : decode cX0_takeOver 4 = .ok (.iconst 0, 1) := by decide +kernel
theorem dX0_takeOver_5 : decode cX0_takeOver 5 = .ok (.aload_n 0, 1) := by decide +kernel
theorem dX0_takeOver_6 : decode cX0_takeOver 6 = .ok (.getfield 18, 3) := by decide +kernel
theorem dX0_takeOver_9 : decode cX0_takeOver 9 = .ok (.iconst 0, 1) := by decide +kernel
theorem dX0_takeOver_10 : decode cX0_takeOver 10 = .ok (.aload_n 0, 1) := by decide +kernel
theorem dX0_takeOver_11 : decode cX0_takeOver 11 = .ok (.getfield 18, 3) := by decide +kernel
theorem dX0_takeOver_14 : decode cX0_takeOver 14 = .ok (.arraylength, 1) := by decide +kernel
theorem dX0_takeOver_15 : decode cX0_takeOver 15 = .ok (.invokestatic 33, 3) := by decide +kernel
theorem dX0_takeOver_18 : decode cX0_takeOver 18 = .ok (.return_, 1) := by decide +kernel
theorem dX0_set_0 : decode cX0_set 0 = .ok (.lload_n 2, 1) := by decide +kernel
theorem dX0_set_1 : decode cX0_set 1 = .ok (.lstore 4, 2) := by decide +kernel
theorem dX0_set_3 : decode cX0_set 3 = .ok (.iconst 0, 1) := by decide +kernel
theorem dX0_set_4 : decode cX0_set 4 = .ok (.istore 6, 2) := by decide +kernel
theorem dX0_set_6 : decode cX0_set 6 = .ok (.iload 6, 2) := by decide +kernel
theorem dX0_set_8 : decode cX0_set 8 = .ok (.aload_n 0, 1) := by decide +kernel
theorem dX0_set_9 : decode cX0_set 9 = .ok (.getfield 22, 3) := by decide +kernel
theorem dX0_set_12 : decode cX0_set 12 = .ok (.if_icmp .ge 37, 3) := by decide +kernel
theorem dX0_set_15 : decode cX0_set 15 = .ok (.aload_n 0, 1) := by decide +kernel
theorem dX0_set_16 : decode cX0_set 16 = .ok (.getfield 18, 3) := by decide +kernel
theorem dX0_set_19 : decode cX0_set 19 = .ok (.iload 6, 2) := by decide +kernel
theorem dX0_set_21 : decode cX0_set 21 = .ok (.iload_n 1, 1) := by decide +kernel
theorem dX0_set_22 : decode cX0_set 22 = .ok (.iadd, 1) := by decide +kernel
theorem dX0_set_23 : decode cX0_set 23 = .ok (.lload 4, 2) := by decide +kernel
theorem dX0_set_25 : decode cX0_set 25 = .ok (.ldc2_w 39, 3) := by decide +kernel
theorem dX0_set_28 : decode cX0_set 28 = .ok (.land, 1) := by decide +kernel
theorem dX0_set_29 : decode cX0_set 29 = .ok (.lastore, 1) := by decide +kernel
theorem dX0_set_30 : decode cX0_set 30 = .ok (.lload 4, 2) := by decide +kernel
theorem dX0_set_32 : decode cX0_set 32 = .ok (.bipush 60, 2) := by decide +kernel
theorem dX0_set_34 : decode cX0_set 34 = .ok (.lshr, 1) := by decide +kernel
theorem dX0_set_35 : decode cX0_set 35 = .ok (.lstore 4, 2) := by decide +kernel
theorem dX0_set_37 : decode cX0_set 37 = .ok (.iload 6, 2) := by decide +kernel
theorem dX0_set_39 : decode cX0_set 39 = .ok (.aload_n 0, 1) := by decide +kernel
theorem dX0_set_40 : decode cX0_set 40 = .ok (.getfield 15, 3) := by decide +kernel
theorem dX0_set_43 : decode cX0_set 43 = .ok (.iadd, 1) := by decide +kernel
theorem dX0_set_44 : decode cX0_set 44 = .ok (.istore 6, 2) := by decide +kernel
theorem dX0_set_46 : decode cX0_set 46 = .ok (.goto (-40), 3) := by decide +kernel
theorem dX0_set_49 : decode cX0_set 49 = .ok (.aload_n 0, 1) := by decide +kernel
theorem dX0_set_50 : decode cX0_set 50 = .ok (.getfield 18, 3) := by decide +kernel
theorem dX0_set_53 : decode cX0_set 53 = .ok (.aload_n 0, 1) := by decide +kernel
theorem dX0_set_54 : decode cX0_set 54 = .ok (.getfield 22, 3) := by decide +kernel
theorem dX0_set_57 : decode cX0_set 57 = .ok (.iload_n 1, 1) := by decide +kernel
theorem dX0_set_58 : decode cX0_set 58 = .ok (.iadd, 1) := by decide +kernel
theorem dX0_set_59 : decode cX0_set 59 = .ok (.lload 4, 2) := by decide +kernel
theorem dX0_set_61 : decode cX0_set 61 = .ok (.lastore, 1) := by decide +kernel
theorem dX0_set_62 : decode cX0_set 62 = .ok (.return_, 1) := by decide +kernel
theorem dX0_setInfinite_0 : decode cX0_setInfinite 0 = .ok (.iconst 0, 1) := by decide +kernel
theorem dX0_setInfinite_1 : decode cX0_setInfinite 1 = .ok (.istore_n 2, 1) := by decide +kernel
theorem dX0_setInfinite_2 : decode cX0_setInfinite 2 = .ok (.iload_n 2, 1) := by decide +kernel
theorem dX0_setInfinite_3 : decode cX0_setInfinite 3 = .ok (.aload_n 0, 1) := by decide +kernel
theorem dX0_setInfinite_4 : decode cX0_setInfinite 4 = .ok (.getfield 22, 3) := by decide +kernel
theorem dX0_setInfinite_7 : decode cX0_setInfinite 7 = .ok (.if_icmp .ge 22, 3) := by decide +kernel
theorem dX0_setInfinite_10 : decode cX0_setInfinite 10 = .ok (.aload_n 0, 1) := by decide +kernel
theorem dX0_setInfinite_11 : decode cX0_setInfinite 11 = .ok (.getfield 18, 3) := by decide +kernel
theorem dX0_setInfinite_14 : decode cX0_setInfinite 14 = .ok (.iload_n 2, 1) := by decide +kernel
theorem dX0_setInfinite_15 : decode cX0_setInfinite 15 = .ok (.iload_n 1, 1) := by decide +kernel
theorem dX0_setInfinite_16 : decode cX0_setInfinite 16 = .ok (.iadd, 1) := by decide +kernel
theorem dX0_setInfinite_17 : decode cX0_setInfinite 17 = .ok (.lconst 0, 1) := by decide +kernel
theorem dX0_setInfinite_18 : decode cX0_setInfinite 18 = .ok (.lastore, 1) := by decide +kernel
theorem dX0_setInfinite_19 : decode cX0_setInfinite 19 = .ok (.iload_n 2, 1) := by decide +kernel
theorem dX0_setInfinite_20 : decode cX0_setInfinite 20 = .ok (.aload_n 0, 1) := by decide +kernel
theorem dX0_setInfinite_21 : decode cX0_setInfinite 21 = .ok (.getfield 15, 3) := by decide +kernel
theorem dX0_setInfinite_24 : decode cX0_setInfinite 24 = .ok (.iadd, 1) := by decide +kernel
theorem dX0_setInfinite_25 : decode cX0_setInfinite 25 = .ok (.istore_n 2, 1) := by decide +kernel
theorem dX0_setInfinite_26 : decode cX0_setInfinite 26 = .ok (.goto (-24), 3) := by decide +kernel
theorem dX0_setInfinite_29 : decode cX0_setInfinite 29 = .ok (.aload_n 0, 1) := by decide +kernel
theorem dX0_setInfinite_30 : decode cX0_setInfinite 30 = .ok (.getfield 18, 3) := by decide +kernel
theorem dX0_setInfinite_33 : decode cX0_setInfinite 33 = .ok (.aload_n 0, 1) := by decide +kernel
theorem dX0_setInfinite_34 : decode cX0_setInfinite 34 = .ok (.getfield 22, 3) := by decide +kernel
theorem dX0_setInfinite_37 : decode cX0_setInfinite 37 = .ok (.iload_n 1, 1) := by decide +kernel
theorem dX0_setInfinite_38 : decode cX0_setInfinite 38 = .ok (.iadd, 1) := by decide +kernel
theorem dX0_setInfinite_39 : decode cX0_setInfinite 39 = .ok (.ldc2_w 25, 3) := by decide +kernel
theorem dX0_setInfinite_42 : decode cX0_setInfinite 42 = .ok (.lastore, 1) := by decide +kernel
theorem dX0_setInfinite_43 : decode cX0_setInfinite 43 = .ok (.return_, 1) := by decide +kernel
theorem dX0_put_0 : decode cX0_put 0 = .ok (.iconst 0, 1) := by decide +kernel
theorem dX0_put_1 : decode cX0_put 1 = .ok (.istore 4, 2) := by decide +kernel
theorem dX0_put_3 : decode cX0_put 3 = .ok (.iload 4, 2) := by decide +kernel
theorem dX0_put_5 : decode cX0_put 5 = .ok (.aload_n 0, 1) := by decide +kernel
theorem dX0_put_6 : decode cX0_put 6 = .ok (.getfield 22, 3) := by decide +kernel
theorem dX0_put_9 : decode cX0_put 9 = .ok (.if_icmp .gt 33, 3) := by decide +kernel
theorem dX0_put_12 : decode cX0_put 12 = .ok (.aload_n 0, 1) := by decide +kernel
theorem dX0_put_13 : decode cX0_put 13 = .ok (.getfield 18, 3) := by decide +kernel
theorem dX0_put_16 : decode cX0_put 16 = .ok (.iload 4, 2) := by decide +kernel
theorem dX0_put_18 : decode cX0_put 18 = .ok (.iload_n 1, 1) := by decide +kernel
theorem dX0_put_19 : decode cX0_put 19 = .ok (.iadd, 1) := by decide +kernel
theorem dX0_put_20 : decode cX0_put 20 = .ok (.aload_n 2, 1) := by decide +kernel
theorem dX0_put_21 : decode cX0_put 21 = .ok (.getfield 18, 3) := by decide +kernel
theorem dX0_put_24 : decode cX0_put 24 = .ok (.iload 4, 2) := by decide +kernel
theorem dX0_put_26 : decode cX0_put 26 = .ok (.iload_n 3, 1) := by decide +kernel
theorem dX0_put_27 : decode cX0_put 27 = .ok (.iadd, 1) := by decide +kernel
theorem dX0_put_28 : decode cX0_put 28 = .ok (.laload, 1) := by decide +kernel
theorem dX0_put_29 : decode cX0_put 29 = .ok (.lastore, 1) := by decide +kernel
theorem dX0_put_30 : decode cX0_put 30 = .ok (.iload 4, 2) := by decide +kernel
theorem dX0_put_32 : decode cX0_put 32 = .ok (.aload_n 0, 1) := by decide +kernel
theorem dX0_put_33 : decode cX0_put 33 = .ok (.getfield 15, 3) := by decide +kernel
theorem dX0_put_36 : decode cX0_put 36 = .ok (.iadd, 1) := by decide +kernel
theorem dX0_put_37 : decode cX0_put 37 = .ok (.istore 4, 2) := by decide +kernel
theorem dX0_put_39 : decode cX0_put 39 = .ok (.goto (-36), 3) := by decide +kernel
theorem dX0_put_42 : decode cX0_put 42 = .ok (.return_, 1) := by decide +kernel
set_option maxRecDepth 20000 in
theorem ggX0_putMore_X0_isInfinite : GoodIn wsX0_putMore wsX0_isInfinite := goodIn_r _ [9, 2, 1, 10, 15, 16, 17, 18] rfl (by decide +kernel)
set_option maxRecDepth 20000 in
theorem gX0_putMore_X0_isInfinite : GoodIn wsX0_putMore (wsV RX0 41 RX0 yX0_isInfinite wsX0_isInfinite) := goodIn_app (goodIn_of _ (by decide +kernel)) ggX0_putMore_X0_isInfinite
set_option maxRecDepth 20000 in
theorem ggX0_putMore_X0_setInfinite : GoodIn wsX0_putMore wsX0_setInfinite := goodIn_r _ [14, 1, 2, 4, 10, 15, 16, 17, 18] rfl (by decide +kernel)
set_option maxRecDepth 20000 in
theorem gX0_putMore_X0_setInfinite : GoodIn wsX0_putMore (wsV RX0 45 RX0 yX0_setInfinite wsX0_setInfinite) := goodIn_app (goodIn_of _ (by decide +kernel)) ggX0_putMore_X0_setInfinite
theorem dX0_putMore_0 : decode cX0_putMore 0 = .ok (.aload_n 2, 1) := by decide +kernel
theorem dX0_putMore_1 : decode cX0_putMore 1 = .ok (.iload_n 3, 1) := by decide +kernel
theorem dX0_putMore_2 : decode cX0_putMore 2 = .ok (.invokevirtual 41, 3) := by decide +kernel
theorem dX0_putMore_5 : decode cX0_putMore 5 = .ok (.ifCond .eq 9, 3) := by decide +kernel
theorem dX0_putMore_8 : decode cX0_putMore 8 = .ok (.aload_n 0, 1) := by decide +kernel
theorem dX0_putMore_9 : decode cX0_putMore 9 = .ok (.iload_n 1, 1) := by decide +kernel
theorem dX0_putMore_10 : decode cX0_putMore 10 = .ok (.invokevirtual 45, 3) := by decide +kernel
theorem dX0_putMore_13 : decode cX0_putMore 13 = .ok (.return_, 1) := by decide +kernel
theorem dX0_putMore_14 : decode cX0_putMore 14 = .ok (.lload 4, 2) := by decide +kernel
theorem dX0_putMore_16 : decode cX0_putMore 16 = .ok (.lstore 6, 2) := by decide +kernel
theorem dX0_putMore_18 : decode cX0_putMore 18 = .ok (.iconst 0, 1) := by decide +kernel
theorem dX0_putMore_19 : decode cX0_putMore 19 = .ok (.istore 8, 2) := by decide +kernel
theorem dX0_putMore_21 : decode cX0_putMore 21 = .ok (.iload 8, 2) := by decide +kernel
theorem dX0_putMore_23 : decode cX0_putMore 23 = .ok (.aload_n 0, 1) := by decide +kernel
theorem dX0_putMore_24 : decode cX0_putMore 24 = .ok (.getfield 22, 3) := by decide +kernel
theorem dX0_putMore_27 : decode cX0_putMore 27 = .ok (.if_icmp .ge 51, 3) := by decide +kernel
theorem dX0_putMore_30 : decode cX0_putMore 30 = .ok (.lload 6, 2) := by decide +kernel
theorem dX0_putMore_32 : decode cX0_putMore 32 = .ok (.aload_n 2, 1) := by decide +kernel
theorem dX0_putMore_33 : decode cX0_putMore 33 = .ok (.getfield 18, 3) := by decide +kernel
theorem dX0_putMore_36 : decode cX0_putMore 36 = .ok (.iload 8, 2) := by decide +kernel
theorem dX0_putMore_38 : decode cX0_putMore 38 = .ok (.iload_n 3, 1) := by decide +kernel
theorem dX0_putMore_39 : decode cX0_putMore 39 = .ok (.iadd, 1) := by decide +kernel
theorem dX0_putMore_40 : decode cX0_putMore 40 = .ok (.laload, 1) := by decide +kernel
theorem dX0_putMore_41 : decode cX0_putMore 41 = .ok (.ladd, 1) := by decide +kernel
theorem dX0_putMore_42 : decode cX0_putMore 42 = .ok (.lstore 6, 2) := by decide +kernel
theorem dX0_putMore_44 : decode cX0_putMore 44 = .ok (.aload_n 0, 1) := by decide +kernel
theorem dX0_putMore_45 : decode cX0_putMore 45 = .ok (.getfield 18, 3) := by decide +kernel
theorem dX0_putMore_48 : decode cX0_putMore 48 = .ok (.iload 8, 2) := by decide +kernel
theorem dX0_putMore_50 : decode cX0_putMore 50 = .ok (.iload_n 1, 1) := by decide +kernel
theorem dX0_putMore_51 : decode cX0_putMore 51 = .ok (.iadd, 1) := by decide +kernel
theorem dX0_putMore_52 : decode cX0_putMore 52 = .ok (.lload 6, 2) := by decide +kernel
theorem dX0_putMore_54 : decode cX0_putMore 54 = .ok (.ldc2_w 39, 3) := by decide +kernel
theorem dX0_putMore_57 : decode cX0_putMore 57 = .ok (.land, 1) := by decide +kernel
theorem dX0_putMore_58 : decode cX0_putMore 58 = .ok (.lastore, 1) := by decide +kernel
theorem dX0_putMore_59 : decode cX0_putMore 59 = .ok (.lload 6, 2) := by decide +kernel
theorem dX0_putMore_61 : decode cX0_putMore 61 = .ok (.bipush 60, 2) := by decide +kernel
theorem dX0_putMore_63 : decode cX0_putMore 63 = .ok (.lshr, 1) := by decide +kernel
theorem dX0_putMore_64 : decode cX0_putMore 64 = .ok (.lstore 6, 2) := by decide +kernel
theorem dX0_putMore_66 : decode cX0_putMore 66 = .ok (.iload 8, 2) := by decide +kernel
theorem dX0_putMore_68 : decode cX0_putMore 68 = .ok (.aload_n 0, 1) := by decide +kernel
theorem dX0_putMore_69 : decode cX0_putMore 69 = .ok (.getfield 15, 3) := by decide +kernel
theorem dX0_putMore_72 : decode cX0_putMore 72 = .ok (.iadd, 1) := by decide +kernel
theorem dX0_putMore_73 : decode cX0_putMore 73 = .ok (.istore 8, 2) := by decide +kernel
theorem dX0_putMore_75 : decode cX0_putMore 75 = .ok (.goto (-54), 3) := by decide +kernel
theorem dX0_putMore_78 : decode cX0_putMore 78 = .ok (.aload_n 0, 1) := by decide +kernel
theorem dX0_putMore_79 : decode cX0_putMore 79 = .ok (.getfield 18, 3) := by decide +kernel
theorem dX0_putMore_82 : decode cX0_putMore 82 = .ok (.aload_n 0, 1) := by decide +kernel
theorem dX0_putMore_83 : decode cX0_putMore 83 = .ok (.getfield 22, 3) := by decide +kernel
theorem dX0_putMore_86 : decode cX0_putMore 86 = .ok (.iload_n 1, 1) := by decide +kernel
theorem dX0_putMore_87 : decode cX0_putMore 87 = .ok (.iadd, 1) := by decide +kernel
theorem dX0_putMore_88 : decode cX0_putMore 88 = .ok (.aload_n 2, 1) := by decide +kernel
theorem dX0_putMore_89 : decode cX0_putMore 89 = .ok (.getfield 18, 3) := by decide +kernel
theorem dX0_putMore_92 : decode cX0_putMore 92 = .ok (.aload_n 0, 1) := by decide +kernel
theorem dX0_putMore_93 : decode cX0_putMore 93 = .ok (.getfield 22, 3) := by decide +kernel
theorem dX0_putMore_96 : decode cX0_putMore 96 = .ok (.iload_n 3, 1) := by decide +kernel
theorem dX0_putMore_97 : decode cX0_putMore 97 = .ok (.iadd, 1) := by decide +kernel
theorem dX0_putMore_98 : decode cX0_putMore 98 = .ok (.laload, 1) := by decide +kernel
theorem dX0_putMore_99 : decode cX0_putMore 99 = .ok (.lload 6, 2) := by decide +kernel
theorem dX0_putMore_101 : decode cX0_putMore 101 = .ok (.ladd, 1) := by decide +kernel
theorem dX0_putMore_102 : decode cX0_putMore 102 = .ok (.lastore, 1) := by decide +kernel
theorem dX0_putMore_103 : decode cX0_putMore 103 = .ok (.return_, 1) := by decide +kernel
theorem dX0_putSum_0 : decode cX0_putSum 0 = .ok (.aload_n 0, 1) := by decide +kernel
theorem dX0_putSum_1 : decode cX0_putSum 1 = .ok (.getfield 18, 3) := by decide +kernel
theorem dX0_putSum_4 : decode cX0_putSum 4 = .ok (.aload_n 0, 1) := by decide +kernel
theorem dX0_putSum_5 : decode cX0_putSum 5 = .ok (.getfield 22, 3) := by decide +kernel
theorem dX0_putSum_8 : decode cX0_putSum 8 = .ok (.iload_n 2, 1) := by decide +kernel
theorem dX0_putSum_9 : decode cX0_putSum 9 = .ok (.iadd, 1) := by decide +kernel
theorem dX0_putSum_10 : decode cX0_putSum 10 = .ok (.laload, 1) := by decide +kernel
theorem dX0_putSum_11 : decode cX0_putSum 11 = .ok (.ldc2_w 25, 3) := by decide +kernel
theorem dX0_putSum_14 : decode cX0_putSum 14 = .ok (.lcmp, 1) := by decide +kernel
theorem dX0_putSum_15 : decode cX0_putSum 15 = .ok (.ifCond .eq 21, 3) := by decide +kernel
theorem dX0_putSum_18 : decode cX0_putSum 18 = .ok (.aload_n 0, 1) := by decide +kernel
theorem dX0_putSum_19 : decode cX0_putSum 19 = .ok (.getfield 18, 3) := by decide +kernel
theorem dX0_putSum_22 : decode cX0_putSum 22 = .ok (.aload_n 0, 1) := by decide +kernel
theorem dX0_putSum_23 : decode cX0_putSum 23 = .ok (.getfield 22, 3) := by decide +kernel
theorem dX0_putSum_26 : decode cX0_putSum 26 = .ok (.iload_n 3, 1) := by decide +kernel
theorem dX0_putSum_27 : decode cX0_putSum 27 = .ok (.iadd, 1) := by decide +kernel
theorem dX0_putSum_28 : decode cX0_putSum 28 = .ok (.laload, 1) := by decide +kernel
theorem dX0_putSum_29 : decode cX0_putSum 29 = .ok (.ldc2_w 25, 3) := by decide +kernel
theorem dX0_putSum_32 : decode cX0_putSum 32 = .ok (.lcmp, 1) := by decide +kernel
theorem dX0_putSum_33 : decode cX0_putSum 33 = .ok (.ifCond .ne 7, 3) := by decide +kernel
theorem dX0_putSum_36 : decode cX0_putSum 36 = .ok (.iconst 1, 1) := by decide +kernel
theorem dX0_putSum_37 : decode cX0_putSum 37 = .ok (.goto 4, 3) := by decide +kernel
theorem dX0_putSum_40 : decode cX0_putSum 40 = .ok (.iconst 0, 1) := by decide +kernel
theorem dX0_putSum_41 : decode cX0_putSum 41 = .ok (.istore 4, 2) := by decide +kernel
theorem dX0_putSum_43 : decode cX0_putSum 43 = .ok (.lconst 0, 1) := by decide +kernel
theorem dX0_putSum_44 : decode cX0_putSum 44 = .ok (.lstore 5, 2) := by decide +kernel
theorem dX0_putSum_46 : decode cX0_putSum 46 = .ok (.iconst 0, 1) := by decide +kernel
theorem dX0_putSum_47 : decode cX0_putSum 47 = .ok (.istore 7, 2) := by decide +kernel
theorem dX0_putSum_49 : decode cX0_putSum 49 = .ok (.iload 7, 2) := by decide +kernel
theorem dX0_putSum_51 : decode cX0_putSum 51 = .ok (.aload_n 0, 1) := by decide +kernel
theorem dX0_putSum_52 : decode cX0_putSum 52 = .ok (.getfield 22, 3) := by decide +kernel
theorem dX0_putSum_55 : decode cX0_putSum 55 = .ok (.if_icmp .ge 70, 3) := by decide +kernel
theorem dX0_putSum_58 : decode cX0_putSum 58 = .ok (.lload 5, 2) := by decide +kernel
theorem dX0_putSum_60 : decode cX0_putSum 60 = .ok (.aload_n 0, 1) := by decide +kernel
theorem dX0_putSum_61 : decode cX0_putSum 61 = .ok (.getfield 18, 3) := by decide +kernel
theorem dX0_putSum_64 : decode cX0_putSum 64 = .ok (.iload 7, 2) := by decide +kernel
theorem dX0_putSum_66 : decode cX0_putSum 66 = .ok (.iload_n 2, 1) := by decide +kernel
theorem dX0_putSum_67 : decode cX0_putSum 67 = .ok (.iadd, 1) := by decide +kernel
theorem dX0_putSum_68 : decode cX0_putSum 68 = .ok (.laload, 1) := by decide +kernel
theorem dX0_putSum_69 : decode cX0_putSum 69 = .ok (.aload_n 0, 1) := by decide +kernel
theorem dX0_putSum_70 : decode cX0_putSum 70 = .ok (.getfield 18, 3) := by decide +kernel
theorem dX0_putSum_73 : decode cX0_putSum 73 = .ok (.iload 7, 2) := by decide +kernel
theorem dX0_putSum_75 : decode cX0_putSum 75 = .ok (.iload_n 3, 1) := by decide +kernel
theorem dX0_putSum_76 : decode cX0_putSum 76 = .ok (.iadd, 1) := by decide +kernel
theorem dX0_putSum_77 : decode cX0_putSum 77 = .ok (.laload, 1) := by decide +kernel
theorem dX0_putSum_78 : decode cX0_putSum 78 = .ok (.ladd, 1) := by decide +kernel
theorem dX0_putSum_79 : decode cX0_putSum 79 = .ok (.ladd, 1) := by decide +kernel
theorem dX0_putSum_80 : decode cX0_putSum 80 = .ok (.lstore 5, 2) := by decide +kernel
theorem dX0_putSum_82 : decode cX0_putSum 82 = .ok (.aload_n 0, 1) := by decide +kernel
theorem dX0_putSum_83 : decode cX0_putSum 83 = .ok (.getfield 18, 3) := by decide +kernel
theorem dX0_putSum_86 : decode cX0_putSum 86 = .ok (.iload 7, 2) := by decide +kernel
theorem dX0_putSum_88 : decode cX0_putSum 88 = .ok (.iload_n 1, 1) := by decide +kernel
theorem dX0_putSum_89 : decode cX0_putSum 89 = .ok (.iadd, 1) := by decide +kernel
theorem dX0_putSum_90 : decode cX0_putSum 90 = .ok (.iload 4, 2) := by decide +kernel
theorem dX0_putSum_92 : decode cX0_putSum 92 = .ok (.ifCond .eq 7, 3) := by decide +kernel
theorem dX0_putSum_95 : decode cX0_putSum 95 = .ok (.lconst 0, 1) := by decide +kernel
theorem dX0_putSum_96 : decode cX0_putSum 96 = .ok (.goto 9, 3) := by decide +kernel
theorem dX0_putSum_99 : decode cX0_putSum 99 = .ok (.lload 5, 2) := by decide +kernel
theorem dX0_putSum_101 : decode cX0_putSum 101 = .ok (.ldc2_w 39, 3) := by decide +kernel
theorem dX0_putSum_104 : decode cX0_putSum 104 = .ok (.land, 1) := by decide +kernel
theorem dX0_putSum_105 : decode cX0_putSum 105 = .ok (.lastore, 1) := by decide +kernel
theorem dX0_putSum_106 : decode cX0_putSum 106 = .ok (.lload 5, 2) := by decide +kernel
theorem dX0_putSum_108 : decode cX0_putSum 108 = .ok (.bipush 60, 2) := by decide +kernel
theorem dX0_putSum_110 : decode cX0_putSum 110 = .ok (.lshr, 1) := by decide +kernel
theorem dX0_putSum_111 : decode cX0_putSum 111 = .ok (.lstore 5, 2) := by decide +kernel
theorem dX0_putSum_113 : decode cX0_putSum 113 = .ok (.iload 7, 2) := by decide +kernel
theorem dX0_putSum_115 : decode cX0_putSum 115 = .ok (.aload_n 0, 1) := by decide +kernel
theorem dX0_putSum_116 : decode cX0_putSum 116 = .ok (.getfield 15, 3) := by decide +kernel
theorem dX0_putSum_119 : decode cX0_putSum 119 = .ok (.iadd, 1) := by decide +kernel
theorem dX0_putSum_120 : decode cX0_putSum 120 = .ok (.istore 7, 2) := by decide +kernel
theorem dX0_putSum_122 : decode cX0_putSum 122 = .ok (.goto (-73), 3) := by decide +kernel
theorem dX0_putSum_125 : decode cX0_putSum 125 = .ok (.aload_n 0, 1) := by decide +kernel
theorem dX0_putSum_126 : decode cX0_putSum 126 = .ok (.getfield 18, 3) := by decide +kernel
theorem dX0_putSum_129 : decode cX0_putSum 129 = .ok (.aload_n 0, 1) := by decide +kernel
theorem dX0_putSum_130 : decode cX0_putSum 130 = .ok (.getfield 22, 3) := by decide +kernel
theorem dX0_putSum_133 : decode cX0_putSum 133 = .ok (.iload_n 1, 1) := by decide +kernel
theorem dX0_putSum_134 : decode cX0_putSum 134 = .ok (.iadd, 1) := by decide +kernel
theorem dX0_putSum_135 : decode cX0_putSum 135 = .ok (.iload 4, 2) := by decide +kernel
theorem dX0_putSum_137 : decode cX0_putSum 137 = .ok (.ifCond .eq 9, 3) := by decide +kernel
theorem dX0_putSum_140 : decode cX0_putSum 140 = .ok (.ldc2_w 25, 3) := by decide +kernel
theorem dX0_putSum_143 : decode cX0_putSum 143 = .ok (.goto 29, 3) := by decide +kernel
theorem dX0_putSum_146 : decode cX0_putSum 146 = .ok (.aload_n 0, 1) := by decide +kernel
theorem dX0_putSum_147 : decode cX0_putSum 147 = .ok (.getfield 18, 3) := by decide +kernel
theorem dX0_putSum_150 : decode cX0_putSum 150 = .ok (.aload_n 0, 1) := by decide +kernel
theorem dX0_putSum_151 : decode cX0_putSum 151 = .ok (.getfield 22, 3) := by decide +kernel
theorem dX0_putSum_154 : decode cX0_putSum 154 = .ok (.iload_n 2, 1) := by decide +kernel
theorem dX0_putSum_155 : decode cX0_putSum 155 = .ok (.iadd, 1) := by decide +kernel
theorem dX0_putSum_156 : decode cX0_putSum 156 = .ok (.laload, 1) := by decide +kernel
theorem dX0_putSum_157 : decode cX0_putSum 157 = .ok (.aload_n 0, 1) := by decide +kernel
theorem dX0_putSum_158 : decode cX0_putSum 158 = .ok (.getfield 18, 3) := by decide +kernel
theorem dX0_putSum_161 : decode cX0_putSum 161 = .ok (.aload_n 0, 1) := by decide +kernel
theorem dX0_putSum_162 : decode cX0_putSum 162 = .ok (.getfield 22, 3) := by decide +kernel
theorem dX0_putSum_165 : decode cX0_putSum 165 = .ok (.iload_n 3, 1) := by decide +kernel
theorem dX0_putSum_166 : decode cX0_putSum 166 = .ok (.iadd, 1) := by decide +kernel
theorem dX0_putSum_167 : decode cX0_putSum 167 = .ok (.laload, 1) := by decide +kernel
theorem dX0_putSum_168 : decode cX0_putSum 168 = .ok (.ladd, 1) := by decide +kernel
theorem dX0_putSum_169 : decode cX0_putSum 169 = .ok (.lload 5, 2) := by decide +kernel
theorem dX0_putSum_171 : decode cX0_putSum 171 = .ok (.ladd, 1) := by decide +kernel
theorem dX0_putSum_172 : decode cX0_putSum 172 = .ok (.lastore, 1) := by decide +kernel
theorem dX0_putSum_173 : decode cX0_putSum 173 = .ok (.return_, 1) := by decide +kernel
set_option maxRecDepth 20000 in
theorem ggX0_lower_X0_putSum : GoodIn wsX0_lower wsX0_putSum := goodIn_r _ [6, 7, 8, 9, 10, 11, 20, 21, 22, 23] rfl (by decide +kernel)
set_option maxRecDepth 20000 in
theorem gX0_lower_X0_putSum : GoodIn wsX0_lower (wsV RX0 49 RX0 yX0_putSum wsX0_putSum) := goodIn_app (goodIn_of _ (by decide +kernel)) ggX0_lower_X0_putSum
set_option maxRecDepth 20000 in
theorem ggX0_lower_X0_isLess : GoodIn wsX0_lower wsX0_isLess := goodIn_r _ [15, 8, 7, 11, 20, 21, 22, 23] rfl (by decide +kernel)
set_option maxRecDepth 20000 in
theorem gX0_lower_X0_isLess : GoodIn wsX0_lower (wsV RX0 53 RX0 yX0_isLess wsX0_isLess) := goodIn_app (goodIn_of _ (by decide +kernel)) ggX0_lower_X0_isLess
set_option maxRecDepth 20000 in
theorem ggX0_lower_X0_put : GoodIn wsX0_lower wsX0_put := goodIn_r _ [19, 8, 7, 11, 20, 21, 22, 23] rfl (by decide +kernel)
set_option maxRecDepth 20000 in
theorem gX0_lower_X0_put : GoodIn wsX0_lower (wsV RX0 57 RX0 yX0_put wsX0_put) := goodIn_app (goodIn_of _ (by decide +kernel)) ggX0_lower_X0_put
theorem dX0_lower_0 : decode cX0_lower 0 = .ok (.aload_n 0, 1) := by decide +kernel
theorem dX0_lower_1 : decode cX0_lower 1 = .ok (.aload_n 0, 1) := by decide +kernel
theorem dX0_lower_2 : decode cX0_lower 2 = .ok (.getfield 11, 3) := by decide +kernel
theorem dX0_lower_5 : decode cX0_lower 5 = .ok (.iload_n 2, 1) := by decide +kernel
theorem dX0_lower_6 : decode cX0_lower 6 = .ok (.iload_n 3, 1) := by decide +kernel
theorem dX0_lower_7 : decode cX0_lower 7 = .ok (.invokevirtual 49, 3) := by decide +kernel
theorem dX0_lower_10 : decode cX0_lower 10 = .ok (.aload_n 0, 1) := by decide +kernel
theorem dX0_lower_11 : decode cX0_lower 11 = .ok (.aload_n 0, 1) := by decide +kernel
theorem dX0_lower_12 : decode cX0_lower 12 = .ok (.getfield 11, 3) := by decide +kernel
theorem dX0_lower_15 : decode cX0_lower 15 = .ok (.aload_n 0, 1) := by decide +kernel
theorem dX0_lower_16 : decode cX0_lower 16 = .ok (.iload_n 1, 1) := by decide +kernel
theorem dX0_lower_17 : decode cX0_lower 17 = .ok (.invokevirtual 53, 3) := by decide +kernel
theorem dX0_lower_20 : decode cX0_lower 20 = .ok (.ifCond .eq 13, 3) := by decide +kernel
theorem dX0_lower_23 : decode cX0_lower 23 = .ok (.aload_n 0, 1) := by decide +kernel
theorem dX0_lower_24 : decode cX0_lower 24 = .ok (.iload_n 1, 1) := by decide +kernel
theorem dX0_lower_25 : decode cX0_lower 25 = .ok (.aload_n 0, 1) := by decide +kernel
theorem dX0_lower_26 : decode cX0_lower 26 = .ok (.aload_n 0, 1) := by decide +kernel
theorem dX0_lower_27 : decode cX0_lower 27 = .ok (.getfield 11, 3) := by decide +kernel
theorem dX0_lower_30 : decode cX0_lower 30 = .ok (.invokevirtual 57, 3) := by decide +kernel
theorem dX0_lower_33 : decode cX0_lower 33 = .ok (.return_, 1) := by decide +kernel
set_option maxRecDepth 20000 in
theorem ggX0_putNegative_X0_isInfinite : GoodIn wsX0_putNegative wsX0_isInfinite := goodIn_r _ [9, 2, 1, 10, 15, 16, 17, 18] rfl (by decide +kernel)
set_option maxRecDepth 20000 in
theorem gX0_putNegative_X0_isInfinite : GoodIn wsX0_putNegative (wsV RX0 41 RX0 yX0_isInfinite wsX0_isInfinite) := goodIn_app (goodIn_of _ (by decide +kernel)) ggX0_putNegative_X0_isInfinite
set_option maxRecDepth 20000 in
theorem ggX0_putNegative_X0_setInfinite : GoodIn wsX0_putNegative wsX0_setInfinite := goodIn_r _ [14, 1, 2, 4, 10, 15, 16, 17, 18] rfl (by decide +kernel)
set_option maxRecDepth 20000 in
theorem gX0_putNegative_X0_setInfinite : GoodIn wsX0_putNegative (wsV RX0 45 RX0 yX0_setInfinite wsX0_setInfinite) := goodIn_app (goodIn_of _ (by decide +kernel)) ggX0_putNegative_X0_setInfinite
theorem dX0_putNegative_0 : decode cX0_putNegative 0 = .ok (.aload_n 0, 1) := by decide +kernel
theorem dX0_putNegative_1 : decode cX0_putNegative 1 = .ok (.iload_n 2, 1) := by decide +kernel
theorem dX0_putNegative_2 : decode cX0_putNegative 2 = .ok (.invokevirtual 41, 3) := by decide +kernel
theorem dX0_putNegative_5 : decode cX0_putNegative 5 = .ok (.ifCond .eq 9, 3) := by decide +kernel
theorem dX0_putNegative_8 : decode cX0_putNegative 8 = .ok (.aload_n 0, 1) := by decide +kernel
theorem dX0_putNegative_9 : decode cX0_putNegative 9 = .ok (.iload_n 1, 1) := by decide +kernel
theorem dX0_putNegative_10 : decode cX0_putNegative 10 = .ok (.invokevirtual 45, 3) := by decide +kernel
theorem dX0_putNegative_13 : decode cX0_putNegative 13 = .ok (.return_, 1) := by decide +kernel
theorem dX0_putNegative_14 : decode cX0_putNegative 14 = .ok (.lconst 0, 1) := by decide +kernel
theorem dX0_putNegative_15 : decode cX0_putNegative 15 = .ok (.lstore_n 3, 1) := by decide +kernel
theorem dX0_putNegative_16 : decode cX0_putNegative 16 = .ok (.iconst 0, 1) := by decide +kernel
theorem dX0_putNegative_17 : decode cX0_putNegative 17 = .ok (.istore 5, 2) := by decide +kernel
theorem dX0_putNegative_19 : decode cX0_putNegative 19 = .ok (.iload 5, 2) := by decide +kernel
theorem dX0_putNegative_21 : decode cX0_putNegative 21 = .ok (.aload_n 0, 1) := by decide +kernel
theorem dX0_putNegative_22 : decode cX0_putNegative 22 = .ok (.getfield 22, 3) := by decide +kernel
theorem dX0_putNegative_25 : decode cX0_putNegative 25 = .ok (.if_icmp .ge 46, 3) := by decide +kernel
theorem dX0_putNegative_28 : decode cX0_putNegative 28 = .ok (.lload_n 3, 1) := by decide +kernel
theorem dX0_putNegative_29 : decode cX0_putNegative 29 = .ok (.aload_n 0, 1) := by decide +kernel
theorem dX0_putNegative_30 : decode cX0_putNegative 30 = .ok (.getfield 18, 3) := by decide +kernel
theorem dX0_putNegative_33 : decode cX0_putNegative 33 = .ok (.iload 5, 2) := by decide +kernel
theorem dX0_putNegative_35 : decode cX0_putNegative 35 = .ok (.iload_n 2, 1) := by decide +kernel
theorem dX0_putNegative_36 : decode cX0_putNegative 36 = .ok (.iadd, 1) := by decide +kernel
theorem dX0_putNegative_37 : decode cX0_putNegative 37 = .ok (.laload, 1) := by decide +kernel
theorem dX0_putNegative_38 : decode cX0_putNegative 38 = .ok (.lsub, 1) := by decide +kernel
theorem dX0_putNegative_39 : decode cX0_putNegative 39 = .ok (.lstore_n 3, 1) := by decide +kernel
theorem dX0_putNegative_40 : decode cX0_putNegative 40 = .ok (.aload_n 0, 1) := by decide +kernel
theorem dX0_putNegative_41 : decode cX0_putNegative 41 = .ok (.getfield 18, 3) := by decide +kernel
theorem dX0_putNegative_44 : decode cX0_putNegative 44 = .ok (.iload 5, 2) := by decide +kernel
theorem dX0_putNegative_46 : decode cX0_putNegative 46 = .ok (.iload_n 1, 1) := by decide +kernel
theorem dX0_putNegative_47 : decode cX0_putNegative 47 = .ok (.iadd, 1) := by decide +kernel
theorem dX0_putNegative_48 : decode cX0_putNegative 48 = .ok (.lload_n 3, 1) := by decide +kernel
theorem dX0_putNegative_49 : decode cX0_putNegative 49 = .ok (.ldc2_w 39, 3) := by decide +kernel
theorem dX0_putNegative_52 : decode cX0_putNegative 52 = .ok (.land, 1) := by decide +kernel
theorem dX0_putNegative_53 : decode cX0_putNegative 53 = .ok (.lastore, 1) := by decide +kernel
theorem dX0_putNegative_54 : decode cX0_putNegative 54 = .ok (.lload_n 3, 1) := by decide +kernel
theorem dX0_putNegative_55 : decode cX0_putNegative 55 = .ok (.bipush 60, 2) := by decide +kernel
theorem dX0_putNegative_57 : decode cX0_putNegative 57 = .ok (.lshr, 1) := by decide +kernel
theorem dX0_putNegative_58 : decode cX0_putNegative 58 = .ok (.lstore_n 3, 1) := by decide +kernel
theorem dX0_putNegative_59 : decode cX0_putNegative 59 = .ok (.iload 5, 2) := by decide +kernel
theorem dX0_putNegative_61 : decode cX0_putNegative 61 = .ok (.aload_n 0, 1) := by decide +kernel
theorem dX0_putNegative_62 : decode cX0_putNegative 62 = .ok (.getfield 15, 3) := by decide +kernel
theorem dX0_putNegative_65 : decode cX0_putNegative 65 = .ok (.iadd, 1) := by decide +kernel
theorem dX0_putNegative_66 : decode cX0_putNegative 66 = .ok (.istore 5, 2) := by decide +kernel
theorem dX0_putNegative_68 : decode cX0_putNegative 68 = .ok (.goto (-49), 3) := by decide +kernel
theorem dX0_putNegative_71 : decode cX0_putNegative 71 = .ok (.aload_n 0, 1) := by decide +kernel
theorem dX0_putNegative_72 : decode cX0_putNegative 72 = .ok (.getfield 18, 3) := by decide +kernel
theorem dX0_putNegative_75 : decode cX0_putNegative 75 = .ok (.aload_n 0, 1) := by decide +kernel
theorem dX0_putNegative_76 : decode cX0_putNegative 76 = .ok (.getfield 22, 3) := by decide +kernel
theorem dX0_putNegative_79 : decode cX0_putNegative 79 = .ok (.iload_n 1, 1) := by decide +kernel
theorem dX0_putNegative_80 : decode cX0_putNegative 80 = .ok (.iadd, 1) := by decide +kernel
theorem dX0_putNegative_81 : decode cX0_putNegative 81 = .ok (.lload_n 3, 1) := by decide +kernel
theorem dX0_putNegative_82 : decode cX0_putNegative 82 = .ok (.aload_n 0, 1) := by decide +kernel
theorem dX0_putNegative_83 : decode cX0_putNegative 83 = .ok (.getfield 18, 3) := by decide +kernel
theorem dX0_putNegative_86 : decode cX0_putNegative 86 = .ok (.aload_n 0, 1) := by decide +kernel
theorem dX0_putNegative_87 : decode cX0_putNegative 87 = .ok (.getfield 22, 3) := by decide +kernel
theorem dX0_putNegative_90 : decode cX0_putNegative 90 = .ok (.iload_n 2, 1) := by decide +kernel
theorem dX0_putNegative_91 : decode cX0_putNegative 91 = .ok (.iadd, 1) := by decide +kernel
theorem dX0_putNegative_92 : decode cX0_putNegative 92 = .ok (.laload, 1) := by decide +kernel
theorem dX0_putNegative_93 : decode cX0_putNegative 93 = .ok (.lsub, 1) := by decide +kernel
theorem dX0_putNegative_94 : decode cX0_putNegative 94 = .ok (.lastore, 1) := by decide +kernel
theorem dX0_putNegative_95 : decode cX0_putNegative 95 = .ok (.return_, 1) := by decide +kernel
set_option maxRecDepth 20000 in
theorem ggX0_putHalf_X0_isInfinite : GoodIn wsX0_putHalf wsX0_isInfinite := goodIn_r _ [8, 1, 2, 9, 14, 15, 16, 17] rfl (by decide +kernel)
set_option maxRecDepth 20000 in
theorem gX0_putHalf_X0_isInfinite : GoodIn wsX0_putHalf (wsV RX0 41 RX0 yX0_isInfinite wsX0_isInfinite) := goodIn_app (goodIn_of _ (by decide +kernel)) ggX0_putHalf_X0_isInfinite
set_option maxRecDepth 20000 in
theorem ggX0_putHalf_X0_setInfinite : GoodIn wsX0_putHalf wsX0_setInfinite := goodIn_r _ [13, 2, 1, 3, 9, 14, 15, 16, 17] rfl (by decide +kernel)
set_option maxRecDepth 20000 in
theorem gX0_putHalf_X0_setInfinite : GoodIn wsX0_putHalf (wsV RX0 45 RX0 yX0_setInfinite wsX0_setInfinite) := goodIn_app (goodIn_of _ (by decide +kernel)) ggX0_putHalf_X0_setInfinite
theorem dX0_putHalf_0 : decode cX0_putHalf 0 = .ok (.aload_n 0, 1) := by decide +kernel
theorem dX0_putHalf_1 : decode cX0_putHalf 1 = .ok (.iload_n 2, 1) := by decide +kernel
theorem dX0_putHalf_2 : decode cX0_putHalf 2 = .ok (.invokevirtual 41, 3) := by decide +kernel
theorem dX0_putHalf_5 : decode cX0_putHalf 5 = .ok (.ifCond .eq 9, 3) := by decide +kernel
theorem dX0_putHalf_8 : decode cX0_putHalf 8 = .ok (.aload_n 0, 1) := by decide +kernel
theorem dX0_putHalf_9 : decode cX0_putHalf 9 = .ok (.iload_n 1, 1) := by decide +kernel
theorem dX0_putHalf_10 : decode cX0_putHalf 10 = .ok (.invokevirtual 45, 3) := by decide +kernel
theorem dX0_putHalf_13 : decode cX0_putHalf 13 = .ok (.return_, 1) := by decide +kernel
theorem dX0_putHalf_14 : decode cX0_putHalf 14 = .ok (.aload_n 0, 1) := by decide +kernel
theorem dX0_putHalf_15 : decode cX0_putHalf 15 = .ok (.getfield 18, 3) := by decide +kernel
theorem dX0_putHalf_18 : decode cX0_putHalf 18 = .ok (.aload_n 0, 1) := by decide +kernel
theorem dX0_putHalf_19 : decode cX0_putHalf 19 = .ok (.getfield 22, 3) := by decide +kernel
theorem dX0_putHalf_22 : decode cX0_putHalf 22 = .ok (.iload_n 2, 1) := by decide +kernel
theorem dX0_putHalf_23 : decode cX0_putHalf 23 = .ok (.iadd, 1) := by decide +kernel
theorem dX0_putHalf_24 : decode cX0_putHalf 24 = .ok (.laload, 1) := by decide +kernel
theorem dX0_putHalf_25 : decode cX0_putHalf 25 = .ok (.lconst 1, 1) := by decide +kernel
theorem dX0_putHalf_26 : decode cX0_putHalf 26 = .ok (.land, 1) := by decide +kernel
theorem dX0_putHalf_27 : decode cX0_putHalf 27 = .ok (.lstore_n 3, 1) := by decide +kernel
theorem dX0_putHalf_28 : decode cX0_putHalf 28 = .ok (.aload_n 0, 1) := by decide +kernel
theorem dX0_putHalf_29 : decode cX0_putHalf 29 = .ok (.getfield 18, 3) := by decide +kernel
theorem dX0_putHalf_32 : decode cX0_putHalf 32 = .ok (.aload_n 0, 1) := by decide +kernel
theorem dX0_putHalf_33 : decode cX0_putHalf 33 = .ok (.getfield 22, 3) := by decide +kernel
theorem dX0_putHalf_36 : decode cX0_putHalf 36 = .ok (.iload_n 1, 1) := by decide +kernel
theorem dX0_putHalf_37 : decode cX0_putHalf 37 = .ok (.iadd, 1) := by decide +kernel
theorem dX0_putHalf_38 : decode cX0_putHalf 38 = .ok (.aload_n 0, 1) := by decide +kernel
theorem dX0_putHalf_39 : decode cX0_putHalf 39 = .ok (.getfield 18, 3) := by decide +kernel
theorem dX0_putHalf_42 : decode cX0_putHalf 42 = .ok (.aload_n 0, 1) := by decide +kernel
theorem dX0_putHalf_43 : decode cX0_putHalf 43 = .ok (.getfield 22, 3) := by decide +kernel
theorem dX0_putHalf_46 : decode cX0_putHalf 46 = .ok (.iload_n 2, 1) := by decide +kernel
theorem dX0_putHalf_47 : decode cX0_putHalf 47 = .ok (.iadd, 1) := by decide +kernel
theorem dX0_putHalf_48 : decode cX0_putHalf 48 = .ok (.laload, 1) := by decide +kernel
theorem dX0_putHalf_49 : decode cX0_putHalf 49 = .ok (.iconst 1, 1) := by decide +kernel
theorem dX0_putHalf_50 : decode cX0_putHalf 50 = .ok (.lshr, 1) := by decide +kernel
theorem dX0_putHalf_51 : decode cX0_putHalf 51 = .ok (.lastore, 1) := by decide +kernel
theorem dX0_putHalf_52 : decode cX0_putHalf 52 = .ok (.aload_n 0, 1) := by decide +kernel
theorem dX0_putHalf_53 : decode cX0_putHalf 53 = .ok (.getfield 22, 3) := by decide +kernel
theorem dX0_putHalf_56 : decode cX0_putHalf 56 = .ok (.aload_n 0, 1) := by decide +kernel
theorem dX0_putHalf_57 : decode cX0_putHalf 57 = .ok (.getfield 15, 3) := by decide +kernel
theorem dX0_putHalf_60 : decode cX0_putHalf 60 = .ok (.isub, 1) := by decide +kernel
theorem dX0_putHalf_61 : decode cX0_putHalf 61 = .ok (.istore 5, 2) := by decide +kernel
theorem dX0_putHalf_63 : decode cX0_putHalf 63 = .ok (.iload 5, 2) := by decide +kernel
theorem dX0_putHalf_65 : decode cX0_putHalf 65 = .ok (.ifCond .lt 49, 3) := by decide +kernel
theorem dX0_putHalf_68 : decode cX0_putHalf 68 = .ok (.aload_n 0, 1) := by decide +kernel
theorem dX0_putHalf_69 : decode cX0_putHalf 69 = .ok (.getfield 18, 3) := by decide +kernel
theorem dX0_putHalf_72 : decode cX0_putHalf 72 = .ok (.iload 5, 2) := by decide +kernel
theorem dX0_putHalf_74 : decode cX0_putHalf 74 = .ok (.iload_n 2, 1) := by decide +kernel
theorem dX0_putHalf_75 : decode cX0_putHalf 75 = .ok (.iadd, 1) := by decide +kernel
theorem dX0_putHalf_76 : decode cX0_putHalf 76 = .ok (.laload, 1) := by decide +kernel
theorem dX0_putHalf_77 : decode cX0_putHalf 77 = .ok (.lload_n 3, 1) := by decide +kernel
theorem dX0_putHalf_78 : decode cX0_putHalf 78 = .ok (.bipush 60, 2) := by decide +kernel
theorem dX0_putHalf_80 : decode cX0_putHalf 80 = .ok (.lshl, 1) := by decide +kernel
theorem dX0_putHalf_81 : decode cX0_putHalf 81 = .ok (.ladd, 1) := by decide +kernel
theorem dX0_putHalf_82 : decode cX0_putHalf 82 = .ok (.lstore 6, 2) := by decide +kernel
theorem dX0_putHalf_84 : decode cX0_putHalf 84 = .ok (.lload 6, 2) := by decide +kernel
theorem dX0_putHalf_86 : decode cX0_putHalf 86 = .ok (.lconst 1, 1) := by decide +kernel
theorem dX0_putHalf_87 : decode cX0_putHalf 87 = .ok (.land, 1) := by decide +kernel
theorem dX0_putHalf_88 : decode cX0_putHalf 88 = .ok (.lstore_n 3, 1) := by decide +kernel
theorem dX0_putHalf_89 : decode cX0_putHalf 89 = .ok (.aload_n 0, 1) := by decide +kernel
theorem dX0_putHalf_90 : decode cX0_putHalf 90 = .ok (.getfield 18, 3) := by decide +kernel
theorem dX0_putHalf_93 : decode cX0_putHalf 93 = .ok (.iload 5, 2) := by decide +kernel
theorem dX0_putHalf_95 : decode cX0_putHalf 95 = .ok (.iload_n 1, 1) := by decide +kernel
theorem dX0_putHalf_96 : decode cX0_putHalf 96 = .ok (.iadd, 1) := by decide +kernel
theorem dX0_putHalf_97 : decode cX0_putHalf 97 = .ok (.lload 6, 2) := by decide +kernel
theorem dX0_putHalf_99 : decode cX0_putHalf 99 = .ok (.iconst 1, 1) := by decide +kernel
theorem dX0_putHalf_100 : decode cX0_putHalf 100 = .ok (.lshr, 1) := by decide +kernel
theorem dX0_putHalf_101 : decode cX0_putHalf 101 = .ok (.lastore, 1) := by decide +kernel
theorem dX0_putHalf_102 : decode cX0_putHalf 102 = .ok (.iload 5, 2) := by decide +kernel
theorem dX0_putHalf_104 : decode cX0_putHalf 104 = .ok (.aload_n 0, 1) := by decide +kernel
theorem dX0_putHalf_105 : decode cX0_putHalf 105 = .ok (.getfield 15, 3) := by decide +kernel
theorem dX0_putHalf_108 : decode cX0_putHalf 108 = .ok (.isub, 1) := by decide +kernel
theorem dX0_putHalf_109 : decode cX0_putHalf 109 = .ok (.istore 5, 2) := by decide +kernel
theorem dX0_putHalf_111 : decode cX0_putHalf 111 = .ok (.goto (-48), 3) := by decide +kernel
theorem dX0_putHalf_114 : decode cX0_putHalf 114 = .ok (.return_, 1) := by decide +kernel
theorem dX0_isCrowded_0 : decode cX0_isCrowded 0 = .ok (.iconst 0, 1) := by decide +kernel
theorem dX0_isCrowded_1 : decode cX0_isCrowded 1 = .ok (.istore_n 1, 1) := by decide +kernel
theorem dX0_isCrowded_2 : decode cX0_isCrowded 2 = .ok (.iload_n 1, 1) := by decide +kernel
theorem dX0_isCrowded_3 : decode cX0_isCrowded 3 = .ok (.aload_n 0, 1) := by decide +kernel
theorem dX0_isCrowded_4 : decode cX0_isCrowded 4 = .ok (.getfield 15, 3) := by decide +kernel
theorem dX0_isCrowded_7 : decode cX0_isCrowded 7 = .ok (.if_icmp .ge 47, 3) := by decide +kernel
theorem dX0_isCrowded_10 : decode cX0_isCrowded 10 = .ok (.aload_n 0, 1) := by decide +kernel
theorem dX0_isCrowded_11 : decode cX0_isCrowded 11 = .ok (.getfield 18, 3) := by decide +kernel
theorem dX0_isCrowded_14 : decode cX0_isCrowded 14 = .ok (.aload_n 0, 1) := by decide +kernel
theorem dX0_isCrowded_15 : decode cX0_isCrowded 15 = .ok (.getfield 22, 3) := by decide +kernel
theorem dX0_isCrowded_18 : decode cX0_isCrowded 18 = .ok (.iload_n 1, 1) := by decide +kernel
theorem dX0_isCrowded_19 : decode cX0_isCrowded 19 = .ok (.iadd, 1) := by decide +kernel
theorem dX0_isCrowded_20 : decode cX0_isCrowded 20 = .ok (.laload, 1) := by decide +kernel
theorem dX0_isCrowded_21 : decode cX0_isCrowded 21 = .ok (.lstore_n 2, 1) := by decide +kernel
theorem dX0_isCrowded_22 : decode cX0_isCrowded 22 = .ok (.lload_n 2, 1) := by decide +kernel
theorem dX0_isCrowded_23 : decode cX0_isCrowded 23 = .ok (.ldc2_w 25, 3) := by decide +kernel
theorem dX0_isCrowded_26 : decode cX0_isCrowded 26 = .ok (.lcmp, 1) := by decide +kernel
theorem dX0_isCrowded_27 : decode cX0_isCrowded 27 = .ok (.ifCond .eq 21, 3) := by decide +kernel
theorem dX0_isCrowded_30 : decode cX0_isCrowded 30 = .ok (.lload_n 2, 1) := by decide +kernel
theorem dX0_isCrowded_31 : decode cX0_isCrowded 31 = .ok (.ldc2_w 61, 3) := by decide +kernel
theorem dX0_isCrowded_34 : decode cX0_isCrowded 34 = .ok (.lcmp, 1) := by decide +kernel
theorem dX0_isCrowded_35 : decode cX0_isCrowded 35 = .ok (.ifCond .ge 11, 3) := by decide +kernel
theorem dX0_isCrowded_38 : decode cX0_isCrowded 38 = .ok (.lload_n 2, 1) := by decide +kernel
theorem dX0_isCrowded_39 : decode cX0_isCrowded 39 = .ok (.ldc2_w 63, 3) := by decide +kernel
theorem dX0_isCrowded_42 : decode cX0_isCrowded 42 = .ok (.lcmp, 1) := by decide +kernel
theorem dX0_isCrowded_43 : decode cX0_isCrowded 43 = .ok (.ifCond .ge 5, 3) := by decide +kernel
theorem dX0_isCrowded_46 : decode cX0_isCrowded 46 = .ok (.iconst 1, 1) := by decide +kernel
theorem dX0_isCrowded_47 : decode cX0_isCrowded 47 = .ok (.ireturn, 1) := by decide +kernel
theorem dX0_isCrowded_48 : decode cX0_isCrowded 48 = .ok (.iinc 1 1, 3) := by decide +kernel
theorem dX0_isCrowded_51 : decode cX0_isCrowded 51 = .ok (.goto (-49), 3) := by decide +kernel
theorem dX0_isCrowded_54 : decode cX0_isCrowded 54 = .ok (.iconst 0, 1) := by decide +kernel
theorem dX0_isCrowded_55 : decode cX0_isCrowded 55 = .ok (.ireturn, 1) := by decide +kernel
set_option maxRecDepth 20000 in
theorem ggX0_growTwofold_J7_copyOf_c38d5 : GoodIn wsX0_growTwofold wsJ7_copyOf_c38d5 := goodIn_r _ [7, 8, 9, 10, 11, 12, 13, 14, 15, 16, 17, 18, 19, 20, 21, 22] rfl (by decide +kernel)
set_option maxRecDepth 20000 in
theorem gX0_growTwofold_J7_copyOf_c38d5 : GoodIn wsX0_growTwofold (va_wsS RX0 65 yJ7_copyOf_c38d5 wsJ7_copyOf_c38d5) := goodIn_app (goodIn_of _ (by decide +kernel)) ggX0_growTwofold_J7_copyOf_c38d5
set_option maxRecDepth 20000 in
theorem ggX0_growTwofold_X0_extend : GoodIn wsX0_growTwofold wsX0_extend := goodIn_r _ [27, 1, 28, 3, 29, 2, 30, 31, 32, 26, 33, 34, 35, 36, 37] rfl (by decide +kernel)
set_option maxRecDepth 20000 in
theorem gX0_growTwofold_X0_extend : GoodIn wsX0_growTwofold (wsV RX0 71 RX0 yX0_extend wsX0_extend) := goodIn_app (goodIn_of _ (by decide +kernel)) ggX0_growTwofold_X0_extend
theorem dX0_growTwofold_0 : decode cX0_growTwofold 0 = .ok (.aload_n 0, 1) := by decide +kernel
theorem dX0_growTwofold_1 : decode cX0_growTwofold 1 = .ok (.getfield 18, 3) := by decide +kernel
theorem dX0_growTwofold_4 : decode cX0_growTwofold 4 = .ok (.arraylength, 1) := by decide +kernel
theorem dX0_growTwofold_5 : decode cX0_growTwofold 5 = .ok (.sipush 512, 3) := by decide +kernel
theorem dX0_growTwofold_8 : decode cX0_growTwofold 8 = .ok (.aload_n 0, 1) := by decide +kernel
theorem dX0_growTwofold_9 : decode cX0_growTwofold 9 = .ok (.getfield 15, 3) := by decide +kernel
theorem dX0_growTwofold_12 : decode cX0_growTwofold 12 = .ok (.imul, 1) := by decide +kernel
theorem dX0_growTwofold_13 : decode cX0_growTwofold 13 = .ok (.if_icmp .lt 4, 3) := by decide +kernel
theorem dX0_growTwofold_16 : decode cX0_growTwofold 16 = .ok (.return_, 1) := by decide +kernel
theorem dX0_growTwofold_17 : decode cX0_growTwofold 17 = .ok (.aload_n 0, 1) := by decide +kernel
theorem dX0_growTwofold_18 : decode cX0_growTwofold 18 = .ok (.getfield 22, 3) := by decide +kernel
theorem dX0_growTwofold_21 : decode cX0_growTwofold 21 = .ok (.istore_n 1, 1) := by decide +kernel
theorem dX0_growTwofold_22 : decode cX0_growTwofold 22 = .ok (.aload_n 0, 1) := by decide +kernel
theorem dX0_growTwofold_23 : decode cX0_growTwofold 23 = .ok (.aload_n 0, 1) := by decide +kernel
theorem dX0_growTwofold_24 : decode cX0_growTwofold 24 = .ok (.getfield 18, 3) := by decide +kernel
theorem dX0_growTwofold_27 : decode cX0_growTwofold 27 = .ok (.iconst 2, 1) := by decide +kernel
theorem dX0_growTwofold_28 : decode cX0_growTwofold 28 = .ok (.aload_n 0, 1) := by decide +kernel
theorem dX0_growTwofold_29 : decode cX0_growTwofold 29 = .ok (.getfield 18, 3) := by decide +kernel
theorem dX0_growTwofold_32 : decode cX0_growTwofold 32 = .ok (.arraylength, 1) := by decide +kernel
theorem dX0_growTwofold_33 : decode cX0_growTwofold 33 = .ok (.imul, 1) := by decide +kernel
theorem dX0_growTwofold_34 : decode cX0_growTwofold 34 = .ok (.invokestatic 65, 3) := by decide +kernel
theorem dX0_growTwofold_37 : decode cX0_growTwofold 37 = .ok (.putfield 18, 3) := by decide +kernel
theorem dX0_growTwofold_40 : decode cX0_growTwofold 40 = .ok (.aload_n 0, 1) := by decide +kernel
theorem dX0_growTwofold_41 : decode cX0_growTwofold 41 = .ok (.aload_n 0, 1) := by decide +kernel
theorem dX0_growTwofold_42 : decode cX0_growTwofold 42 = .ok (.getfield 18, 3) := by decide +kernel
theorem dX0_growTwofold_45 : decode cX0_growTwofold 45 = .ok (.arraylength, 1) := by decide +kernel
theorem dX0_growTwofold_46 : decode cX0_growTwofold 46 = .ok (.aload_n 0, 1) := by decide +kernel
theorem dX0_growTwofold_47 : decode cX0_growTwofold 47 = .ok (.getfield 15, 3) := by decide +kernel
theorem dX0_growTwofold_50 : decode cX0_growTwofold 50 = .ok (.isub, 1) := by decide +kernel
theorem dX0_growTwofold_51 : decode cX0_growTwofold 51 = .ok (.putfield 22, 3) := by decide +kernel
theorem dX0_growTwofold_54 : decode cX0_growTwofold 54 = .ok (.iconst 0, 1) := by decide +kernel
theorem dX0_growTwofold_55 : decode cX0_growTwofold 55 = .ok (.istore_n 2, 1) := by decide +kernel
theorem dX0_growTwofold_56 : decode cX0_growTwofold 56 = .ok (.iload_n 2, 1) := by decide +kernel
theorem dX0_growTwofold_57 : decode cX0_growTwofold 57 = .ok (.aload_n 0, 1) := by decide +kernel
theorem dX0_growTwofold_58 : decode cX0_growTwofold 58 = .ok (.getfield 15, 3) := by decide +kernel
theorem dX0_growTwofold_61 : decode cX0_growTwofold 61 = .ok (.if_icmp .ge 15, 3) := by decide +kernel
theorem dX0_growTwofold_64 : decode cX0_growTwofold 64 = .ok (.aload_n 0, 1) := by decide +kernel
theorem dX0_growTwofold_65 : decode cX0_growTwofold 65 = .ok (.iload_n 2, 1) := by decide +kernel
theorem dX0_growTwofold_66 : decode cX0_growTwofold 66 = .ok (.iload_n 1, 1) := by decide +kernel
theorem dX0_growTwofold_67 : decode cX0_growTwofold 67 = .ok (.invokevirtual 71, 3) := by decide +kernel
theorem dX0_growTwofold_70 : decode cX0_growTwofold 70 = .ok (.iinc 2 1, 3) := by decide +kernel
theorem dX0_growTwofold_73 : decode cX0_growTwofold 73 = .ok (.goto (-17), 3) := by decide +kernel
theorem dX0_growTwofold_76 : decode cX0_growTwofold 76 = .ok (.return_, 1) := by decide +kernel
set_option maxRecDepth 20000 in
theorem ggX0_extend_X0_setInfinite : GoodIn wsX0_extend wsX0_setInfinite := goodIn_r _ [10, 3, 1, 5, 2, 11, 12, 13, 14] rfl (by decide +kernel)
set_option maxRecDepth 20000 in
theorem gX0_extend_X0_setInfinite : GoodIn wsX0_extend (wsV RX0 45 RX0 yX0_setInfinite wsX0_setInfinite) := goodIn_app (goodIn_of _ (by decide +kernel)) ggX0_extend_X0_setInfinite
theorem dX0_extend_0 : decode cX0_extend 0 = .ok (.aload_n 0, 1) := by decide +kernel
theorem dX0_extend_1 : decode cX0_extend 1 = .ok (.getfield 18, 3) := by decide +kernel
theorem dX0_extend_4 : decode cX0_extend 4 = .ok (.iload_n 2, 1) := by decide +kernel
theorem dX0_extend_5 : decode cX0_extend 5 = .ok (.iload_n 1, 1) := by decide +kernel
theorem dX0_extend_6 : decode cX0_extend 6 = .ok (.iadd, 1) := by decide +kernel
theorem dX0_extend_7 : decode cX0_extend 7 = .ok (.laload, 1) := by decide +kernel
theorem dX0_extend_8 : decode cX0_extend 8 = .ok (.lstore_n 3, 1) := by decide +kernel
theorem dX0_extend_9 : decode cX0_extend 9 = .ok (.lload_n 3, 1) := by decide +kernel
theorem dX0_extend_10 : decode cX0_extend 10 = .ok (.ldc2_w 25, 3) := by decide +kernel
theorem dX0_extend_13 : decode cX0_extend 13 = .ok (.lcmp, 1) := by decide +kernel
theorem dX0_extend_14 : decode cX0_extend 14 = .ok (.ifCond .ne 9, 3) := by decide +kernel
theorem dX0_extend_17 : decode cX0_extend 17 = .ok (.aload_n 0, 1) := by decide +kernel
theorem dX0_extend_18 : decode cX0_extend 18 = .ok (.iload_n 1, 1) := by decide +kernel
theorem dX0_extend_19 : decode cX0_extend 19 = .ok (.invokevirtual 45, 3) := by decide +kernel
theorem dX0_extend_22 : decode cX0_extend 22 = .ok (.return_, 1) := by decide +kernel
theorem dX0_extend_23 : decode cX0_extend 23 = .ok (.iload_n 2, 1) := by decide +kernel
theorem dX0_extend_24 : decode cX0_extend 24 = .ok (.istore 5, 2) := by decide +kernel
theorem dX0_extend_26 : decode cX0_extend 26 = .ok (.iload 5, 2) := by decide +kernel
theorem dX0_extend_28 : decode cX0_extend 28 = .ok (.aload_n 0, 1) := by decide +kernel
theorem dX0_extend_29 : decode cX0_extend 29 = .ok (.getfield 22, 3) := by decide +kernel
theorem dX0_extend_32 : decode cX0_extend 32 = .ok (.if_icmp .ge 34, 3) := by decide +kernel
theorem dX0_extend_35 : decode cX0_extend 35 = .ok (.aload_n 0, 1) := by decide +kernel
theorem dX0_extend_36 : decode cX0_extend 36 = .ok (.getfield 18, 3) := by decide +kernel
theorem dX0_extend_39 : decode cX0_extend 39 = .ok (.iload 5, 2) := by decide +kernel
theorem dX0_extend_41 : decode cX0_extend 41 = .ok (.iload_n 1, 1) := by decide +kernel
theorem dX0_extend_42 : decode cX0_extend 42 = .ok (.iadd, 1) := by decide +kernel
theorem dX0_extend_43 : decode cX0_extend 43 = .ok (.lload_n 3, 1) := by decide +kernel
theorem dX0_extend_44 : decode cX0_extend 44 = .ok (.ldc2_w 39, 3) := by decide +kernel
theorem dX0_extend_47 : decode cX0_extend 47 = .ok (.land, 1) := by decide +kernel
theorem dX0_extend_48 : decode cX0_extend 48 = .ok (.lastore, 1) := by decide +kernel
theorem dX0_extend_49 : decode cX0_extend 49 = .ok (.lload_n 3, 1) := by decide +kernel
theorem dX0_extend_50 : decode cX0_extend 50 = .ok (.bipush 60, 2) := by decide +kernel
theorem dX0_extend_52 : decode cX0_extend 52 = .ok (.lshr, 1) := by decide +kernel
theorem dX0_extend_53 : decode cX0_extend 53 = .ok (.lstore_n 3, 1) := by decide +kernel
theorem dX0_extend_54 : decode cX0_extend 54 = .ok (.iload 5, 2) := by decide +kernel
theorem dX0_extend_56 : decode cX0_extend 56 = .ok (.aload_n 0, 1) := by decide +kernel
theorem dX0_extend_57 : decode cX0_extend 57 = .ok (.getfield 15, 3) := by decide +kernel
theorem dX0_extend_60 : decode cX0_extend 60 = .ok (.iadd, 1) := by decide +kernel
theorem dX0_extend_61 : decode cX0_extend 61 = .ok (.istore 5, 2) := by decide +kernel
theorem dX0_extend_63 : decode cX0_extend 63 = .ok (.goto (-37), 3) := by decide +kernel
theorem dX0_extend_66 : decode cX0_extend 66 = .ok (.aload_n 0, 1) := by decide +kernel
theorem dX0_extend_67 : decode cX0_extend 67 = .ok (.getfield 18, 3) := by decide +kernel
theorem dX0_extend_70 : decode cX0_extend 70 = .ok (.aload_n 0, 1) := by decide +kernel
theorem dX0_extend_71 : decode cX0_extend 71 = .ok (.getfield 22, 3) := by decide +kernel
theorem dX0_extend_74 : decode cX0_extend 74 = .ok (.iload_n 1, 1) := by decide +kernel
theorem dX0_extend_75 : decode cX0_extend 75 = .ok (.iadd, 1) := by decide +kernel
theorem dX0_extend_76 : decode cX0_extend 76 = .ok (.lload_n 3, 1) := by decide +kernel
theorem dX0_extend_77 : decode cX0_extend 77 = .ok (.lastore, 1) := by decide +kernel
theorem dX0_extend_78 : decode cX0_extend 78 = .ok (.return_, 1) := by decide +kernel
