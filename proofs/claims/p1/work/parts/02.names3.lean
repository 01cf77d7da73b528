theorem dX3_follow_58 : decode cX3_follow 58 = .ok (.ifCond .eq 5, 3) := by decide +kernel
theorem dX3_follow_61 : decode cX3_follow 61 = .ok (.iconst 0, 1) := by decide +kernel
theorem dX3_follow_62 : decode cX3_follow 62 = .ok (.ireturn, 1) := by decide +kernel
theorem dX3_follow_63 : decode cX3_follow 63 = .ok (.iload_n 2, 1) := by decide +kernel
theorem dX3_follow_64 : decode cX3_follow 64 = .ok (.iconst 4, 1) := by decide +kernel
theorem dX3_follow_65 : decode cX3_follow 65 = .ok (.if_icmp .lt 30, 3) := by decide +kernel
theorem dX3_follow_68 : decode cX3_follow 68 = .ok (.aload_n 1, 1) := by decide +kernel
theorem dX3_follow_69 : decode cX3_follow 69 = .ok (.getfield 194, 3) := by decide +kernel
theorem dX3_follow_72 : decode cX3_follow 72 = .ok (.aload_n 1, 1) := by decide +kernel
theorem dX3_follow_73 : decode cX3_follow 73 = .ok (.getfield 197, 3) := by decide +kernel
theorem dX3_follow_76 : decode cX3_follow 76 = .ok (.if_icmp .gt 19, 3) := by decide +kernel
theorem dX3_follow_79 : decode cX3_follow 79 = .ok (.aload_n 3, 1) := by decide +kernel
theorem dX3_follow_80 : decode cX3_follow 80 = .ok (.aload_n 0, 1) := by decide +kernel
theorem dX3_follow_81 : decode cX3_follow 81 = .ok (.getfield 29, 3) := by decide +kernel
theorem dX3_follow_84 : decode cX3_follow 84 = .ok (.invokevirtual 81, 3) := by decide +kernel
theorem dX3_follow_87 : decode cX3_follow 87 = .ok (.aload_n 0, 1) := by decide +kernel
theorem dX3_follow_88 : decode cX3_follow 88 = .ok (.aload_n 3, 1) := by decide +kernel
theorem dX3_follow_89 : decode cX3_follow 89 = .ok (.invokevirtual 112, 3) := by decide +kernel
theorem dX3_follow_92 : decode cX3_follow 92 = .ok (.goto 11, 3) := by decide +kernel
theorem dX3_follow_95 : decode cX3_follow 95 = .ok (.aload_n 3, 1) := by decide +kernel
theorem dX3_follow_96 : decode cX3_follow 96 = .ok (.aload_n 0, 1) := by decide +kernel
theorem dX3_follow_97 : decode cX3_follow 97 = .ok (.getfield 29, 3) := by decide +kernel
theorem dX3_follow_100 : decode cX3_follow 100 = .ok (.invokevirtual 78, 3) := by decide +kernel
theorem dX3_follow_103 : decode cX3_follow 103 = .ok (.iconst 1, 1) := by decide +kernel
theorem dX3_follow_104 : decode cX3_follow 104 = .ok (.ireturn, 1) := by decide +kernel
theorem dX3_keepReached_0 : decode cX3_keepReached 0 = .ok (.aload_n 0, 1) := by decide +kernel
theorem dX3_keepReached_1 : decode cX3_keepReached 1 = .ok (.getfield 22, 3) := by decide +kernel
theorem dX3_keepReached_4 : decode cX3_keepReached 4 = .ok (.astore_n 1, 1) := by decide +kernel
theorem dX3_keepReached_5 : decode cX3_keepReached 5 = .ok (.aload_n 0, 1) := by decide +kernel
theorem dX3_keepReached_6 : decode cX3_keepReached 6 = .ok (.aload_n 0, 1) := by decide +kernel
theorem dX3_keepReached_7 : decode cX3_keepReached 7 = .ok (.getfield 25, 3) := by decide +kernel
theorem dX3_keepReached_10 : decode cX3_keepReached 10 = .ok (.putfield 22, 3) := by decide +kernel
theorem dX3_keepReached_13 : decode cX3_keepReached 13 = .ok (.aload_n 0, 1) := by decide +kernel
theorem dX3_keepReached_14 : decode cX3_keepReached 14 = .ok (.aload_n 1, 1) := by decide +kernel
theorem dX3_keepReached_15 : decode cX3_keepReached 15 = .ok (.putfield 25, 3) := by decide +kernel
theorem dX3_keepReached_18 : decode cX3_keepReached 18 = .ok (.return_, 1) := by decide +kernel
set_option maxRecDepth 20000 in
theorem ggX3_madeFitsTheBox_X1_mostOf : GoodIn wsX3_madeFitsTheBox wsX1_mostOf := goodIn_r _ [7, 8, 9, 10, 6, 11, 12, 13, 14, 15, 16, 17, 18, 19, 20, 21, 22, 23, 24, 25, 26, 27, 28, 29, 30, 31, 32, 33, 34, 35, 43, 44, 45, 46, 47, 48] (by decide +kernel) (by decide +kernel)
set_option maxRecDepth 20000 in
theorem gX3_madeFitsTheBox_X1_mostOf : GoodIn wsX3_madeFitsTheBox (wsV RX3 97 RX1 yX1_mostOf wsX1_mostOf) := goodIn_app (goodIn_of _ (by decide +kernel)) ggX3_madeFitsTheBox_X1_mostOf
theorem dX3_madeFitsTheBox_0 : decode cX3_madeFitsTheBox 0 = .ok (.lconst 1, 1) := by decide +kernel
theorem dX3_madeFitsTheBox_1 : decode cX3_madeFitsTheBox 1 = .ok (.lstore_n 1, 1) := by decide +kernel
theorem dX3_madeFitsTheBox_2 : decode cX3_madeFitsTheBox 2 = .ok (.iconst 0, 1) := by decide +kernel
theorem dX3_madeFitsTheBox_3 : decode cX3_madeFitsTheBox 3 = .ok (.istore_n 3, 1) := by decide +kernel
theorem dX3_madeFitsTheBox_4 : decode cX3_madeFitsTheBox 4 = .ok (.iload_n 3, 1) := by decide +kernel
theorem dX3_madeFitsTheBox_5 : decode cX3_madeFitsTheBox 5 = .ok (.bipush 6, 2) := by decide +kernel
theorem dX3_madeFitsTheBox_7 : decode cX3_madeFitsTheBox 7 = .ok (.if_icmp .ge 59, 3) := by decide +kernel
theorem dX3_madeFitsTheBox_10 : decode cX3_madeFitsTheBox 10 = .ok (.aload_n 0, 1) := by decide +kernel
theorem dX3_madeFitsTheBox_11 : decode cX3_madeFitsTheBox 11 = .ok (.getfield 29, 3) := by decide +kernel
theorem dX3_madeFitsTheBox_14 : decode cX3_madeFitsTheBox 14 = .ok (.iconst 2, 1) := by decide +kernel
theorem dX3_madeFitsTheBox_15 : decode cX3_madeFitsTheBox 15 = .ok (.iload_n 3, 1) := by decide +kernel
theorem dX3_madeFitsTheBox_16 : decode cX3_madeFitsTheBox 16 = .ok (.imul, 1) := by decide +kernel
theorem dX3_madeFitsTheBox_17 : decode cX3_madeFitsTheBox 17 = .ok (.iconst 2, 1) := by decide +kernel
theorem dX3_madeFitsTheBox_18 : decode cX3_madeFitsTheBox 18 = .ok (.iload_n 3, 1) := by decide +kernel
theorem dX3_madeFitsTheBox_19 : decode cX3_madeFitsTheBox 19 = .ok (.imul, 1) := by decide +kernel
theorem dX3_madeFitsTheBox_20 : decode cX3_madeFitsTheBox 20 = .ok (.invokevirtual 97, 3) := by decide +kernel
theorem dX3_madeFitsTheBox_23 : decode cX3_madeFitsTheBox 23 = .ok (.lstore 4, 2) := by decide +kernel
theorem dX3_madeFitsTheBox_25 : decode cX3_madeFitsTheBox 25 = .ok (.lload 4, 2) := by decide +kernel
theorem dX3_madeFitsTheBox_27 : decode cX3_madeFitsTheBox 27 = .ok (.lconst 0, 1) := by decide +kernel
theorem dX3_madeFitsTheBox_28 : decode cX3_madeFitsTheBox 28 = .ok (.lcmp, 1) := by decide +kernel
theorem dX3_madeFitsTheBox_29 : decode cX3_madeFitsTheBox 29 = .ok (.ifCond .lt 12, 3) := by decide +kernel
theorem dX3_madeFitsTheBox_32 : decode cX3_madeFitsTheBox 32 = .ok (.lload 4, 2) := by decide +kernel
theorem dX3_madeFitsTheBox_34 : decode cX3_madeFitsTheBox 34 = .ok (.ldc2_w 212, 3) := by decide +kernel
theorem dX3_madeFitsTheBox_37 : decode cX3_madeFitsTheBox 37 = .ok (.lcmp, 1) := by decide +kernel
theorem dX3_madeFitsTheBox_38 : decode cX3_madeFitsTheBox 38 = .ok (.ifCond .lt 5, 3) := by decide +kernel
theorem dX3_madeFitsTheBox_41 : decode cX3_madeFitsTheBox 41 = .ok (.iconst 0, 1) := by decide +kernel
theorem dX3_madeFitsTheBox_42 : decode cX3_madeFitsTheBox 42 = .ok (.ireturn, 1) := by decide +kernel
theorem dX3_madeFitsTheBox_43 : decode cX3_madeFitsTheBox 43 = .ok (.lload_n 1, 1) := by decide +kernel
theorem dX3_madeFitsTheBox_44 : decode cX3_madeFitsTheBox 44 = .ok (.lload 4, 2) := by decide +kernel
theorem dX3_madeFitsTheBox_46 : decode cX3_madeFitsTheBox 46 = .ok (.lconst 1, 1) := by decide +kernel
theorem dX3_madeFitsTheBox_47 : decode cX3_madeFitsTheBox 47 = .ok (.ladd, 1) := by decide +kernel
theorem dX3_madeFitsTheBox_48 : decode cX3_madeFitsTheBox 48 = .ok (.lmul, 1) := by decide +kernel
theorem dX3_madeFitsTheBox_49 : decode cX3_madeFitsTheBox 49 = .ok (.lstore_n 1, 1) := by decide +kernel
theorem dX3_madeFitsTheBox_50 : decode cX3_madeFitsTheBox 50 = .ok (.lload_n 1, 1) := by decide +kernel
theorem dX3_madeFitsTheBox_51 : decode cX3_madeFitsTheBox 51 = .ok (.ldc2_w 212, 3) := by decide +kernel
theorem dX3_madeFitsTheBox_54 : decode cX3_madeFitsTheBox 54 = .ok (.lcmp, 1) := by decide +kernel
theorem dX3_madeFitsTheBox_55 : decode cX3_madeFitsTheBox 55 = .ok (.ifCond .le 5, 3) := by decide +kernel
theorem dX3_madeFitsTheBox_58 : decode cX3_madeFitsTheBox 58 = .ok (.iconst 0, 1) := by decide +kernel
theorem dX3_madeFitsTheBox_59 : decode cX3_madeFitsTheBox 59 = .ok (.ireturn, 1) := by decide +kernel
theorem dX3_madeFitsTheBox_60 : decode cX3_madeFitsTheBox 60 = .ok (.iinc 3 1, 3) := by decide +kernel
theorem dX3_madeFitsTheBox_63 : decode cX3_madeFitsTheBox 63 = .ok (.goto (-59), 3) := by decide +kernel
theorem dX3_madeFitsTheBox_66 : decode cX3_madeFitsTheBox 66 = .ok (.iconst 1, 1) := by decide +kernel
theorem dX3_madeFitsTheBox_67 : decode cX3_madeFitsTheBox 67 = .ok (.ireturn, 1) := by decide +kernel
set_option maxRecDepth 20000 in
theorem ggX3_countFrom_X1_mostOf : GoodIn wsX3_countFrom wsX1_mostOf := goodIn_r _ [14, 15, 16, 17, 13, 18, 19, 20, 21, 22, 23, 24, 25, 26, 27, 28, 29, 30, 31, 32, 33, 34, 35, 36, 37, 38, 39, 40, 41, 42, 54, 55, 56, 57, 58, 59] (by decide +kernel) (by decide +kernel)
set_option maxRecDepth 20000 in
theorem gX3_countFrom_X1_mostOf : GoodIn wsX3_countFrom (wsV RX3 97 RX1 yX1_mostOf wsX1_mostOf) := goodIn_app (goodIn_of _ (by decide +kernel)) ggX3_countFrom_X1_mostOf
set_option maxRecDepth 20000 in
theorem ggX3_countFrom_X3_countFrom : GoodIn wsX3_countFrom wsX3_countFrom := goodIn_r _ [0, 1, 2, 3, 4, 5, 6, 7, 8, 9, 10, 11, 12, 13, 14, 15, 16, 17, 18, 19, 20, 21, 22, 23, 24, 25, 26, 27, 28, 29, 30, 31, 32, 33, 34, 35, 36, 37, 38, 39, 40, 41, 42, 43, 44, 45, 46, 47, 48, 49, 50, 51, 52, 53, 54, 55, 56, 57, 58, 59] (by decide +kernel) (by decide +kernel)
set_option maxRecDepth 20000 in
theorem gX3_countFrom_X3_countFrom : GoodIn wsX3_countFrom (wsV RX3 122 RX3 yX3_countFrom wsX3_countFrom) := goodIn_app (goodIn_of _ (by decide +kernel)) ggX3_countFrom_X3_countFrom
theorem dX3_countFrom_0 : decode cX3_countFrom 0 = .ok (.iload_n 1, 1) := by decide +kernel
theorem dX3_countFrom_1 : decode cX3_countFrom 1 = .ok (.bipush 6, 2) := by decide +kernel
theorem dX3_countFrom_3 : decode cX3_countFrom 3 = .ok (.if_icmp .lt 5, 3) := by decide +kernel
theorem dX3_countFrom_6 : decode cX3_countFrom 6 = .ok (.iconst 1, 1) := by decide +kernel
theorem dX3_countFrom_7 : decode cX3_countFrom 7 = .ok (.ireturn, 1) := by decide +kernel
theorem dX3_countFrom_8 : decode cX3_countFrom 8 = .ok (.iconst 2, 1) := by decide +kernel
theorem dX3_countFrom_9 : decode cX3_countFrom 9 = .ok (.iload_n 1, 1) := by decide +kernel
theorem dX3_countFrom_10 : decode cX3_countFrom 10 = .ok (.imul, 1) := by decide +kernel
theorem dX3_countFrom_11 : decode cX3_countFrom 11 = .ok (.istore_n 2, 1) := by decide +kernel
theorem dX3_countFrom_12 : decode cX3_countFrom 12 = .ok (.iload_n 2, 1) := by decide +kernel
theorem dX3_countFrom_13 : decode cX3_countFrom 13 = .ok (.iconst 1, 1) := by decide +kernel
theorem dX3_countFrom_14 : decode cX3_countFrom 14 = .ok (.iadd, 1) := by decide +kernel
theorem dX3_countFrom_15 : decode cX3_countFrom 15 = .ok (.istore_n 3, 1) := by decide +kernel
theorem dX3_countFrom_16 : decode cX3_countFrom 16 = .ok (.lconst 0, 1) := by decide +kernel
theorem dX3_countFrom_17 : decode cX3_countFrom 17 = .ok (.lstore 4, 2) := by decide +kernel
theorem dX3_countFrom_19 : decode cX3_countFrom 19 = .ok (.aload_n 0, 1) := by decide +kernel
theorem dX3_countFrom_20 : decode cX3_countFrom 20 = .ok (.getfield 29, 3) := by decide +kernel
theorem dX3_countFrom_23 : decode cX3_countFrom 23 = .ok (.iload_n 2, 1) := by decide +kernel
theorem dX3_countFrom_24 : decode cX3_countFrom 24 = .ok (.iload_n 2, 1) := by decide +kernel
theorem dX3_countFrom_25 : decode cX3_countFrom 25 = .ok (.invokevirtual 97, 3) := by decide +kernel
theorem dX3_countFrom_28 : decode cX3_countFrom 28 = .ok (.lstore 6, 2) := by decide +kernel
theorem dX3_countFrom_30 : decode cX3_countFrom 30 = .ok (.iconst 0, 1) := by decide +kernel
theorem dX3_countFrom_31 : decode cX3_countFrom 31 = .ok (.istore 8, 2) := by decide +kernel
theorem dX3_countFrom_33 : decode cX3_countFrom 33 = .ok (.iload 8, 2) := by decide +kernel
theorem dX3_countFrom_35 : decode cX3_countFrom 35 = .ok (.iload_n 1, 1) := by decide +kernel
theorem dX3_countFrom_36 : decode cX3_countFrom 36 = .ok (.if_icmp .ge 111, 3) := by decide +kernel
theorem dX3_countFrom_39 : decode cX3_countFrom 39 = .ok (.aload_n 0, 1) := by decide +kernel
theorem dX3_countFrom_40 : decode cX3_countFrom 40 = .ok (.getfield 33, 3) := by decide +kernel
theorem dX3_countFrom_43 : decode cX3_countFrom 43 = .ok (.iload 8, 2) := by decide +kernel
theorem dX3_countFrom_45 : decode cX3_countFrom 45 = .ok (.laload, 1) := by decide +kernel
theorem dX3_countFrom_46 : decode cX3_countFrom 46 = .ok (.lstore 9, 2) := by decide +kernel
theorem dX3_countFrom_48 : decode cX3_countFrom 48 = .ok (.lload 6, 2) := by decide +kernel
theorem dX3_countFrom_50 : decode cX3_countFrom 50 = .ok (.aload_n 0, 1) := by decide +kernel
theorem dX3_countFrom_51 : decode cX3_countFrom 51 = .ok (.getfield 29, 3) := by decide +kernel
theorem dX3_countFrom_54 : decode cX3_countFrom 54 = .ok (.iload_n 2, 1) := by decide +kernel
theorem dX3_countFrom_55 : decode cX3_countFrom 55 = .ok (.iconst 2, 1) := by decide +kernel
theorem dX3_countFrom_56 : decode cX3_countFrom 56 = .ok (.iload 8, 2) := by decide +kernel
theorem dX3_countFrom_58 : decode cX3_countFrom 58 = .ok (.imul, 1) := by decide +kernel
theorem dX3_countFrom_59 : decode cX3_countFrom 59 = .ok (.invokevirtual 97, 3) := by decide +kernel
theorem dX3_countFrom_62 : decode cX3_countFrom 62 = .ok (.lload 9, 2) := by decide +kernel
theorem dX3_countFrom_64 : decode cX3_countFrom 64 = .ok (.lsub, 1) := by decide +kernel
theorem dX3_countFrom_65 : decode cX3_countFrom 65 = .ok (.invokestatic 214, 3) := by decide +kernel
theorem dX3_countFrom_68 : decode cX3_countFrom 68 = .ok (.lstore 6, 2) := by decide +kernel
theorem dX3_countFrom_70 : decode cX3_countFrom 70 = .ok (.lload 6, 2) := by decide +kernel
theorem dX3_countFrom_72 : decode cX3_countFrom 72 = .ok (.aload_n 0, 1) := by decide +kernel
theorem dX3_countFrom_73 : decode cX3_countFrom 73 = .ok (.getfield 29, 3) := by decide +kernel
theorem dX3_countFrom_76 : decode cX3_countFrom 76 = .ok (.iload_n 2, 1) := by decide +kernel
theorem dX3_countFrom_77 : decode cX3_countFrom 77 = .ok (.iconst 2, 1) := by decide +kernel
theorem dX3_countFrom_78 : decode cX3_countFrom 78 = .ok (.iload 8, 2) := by decide +kernel
theorem dX3_countFrom_80 : decode cX3_countFrom 80 = .ok (.imul, 1) := by decide +kernel
theorem dX3_countFrom_81 : decode cX3_countFrom 81 = .ok (.iconst 1, 1) := by decide +kernel
theorem dX3_countFrom_82 : decode cX3_countFrom 82 = .ok (.iadd, 1) := by decide +kernel
theorem dX3_countFrom_83 : decode cX3_countFrom 83 = .ok (.invokevirtual 97, 3) := by decide +kernel
theorem dX3_countFrom_86 : decode cX3_countFrom 86 = .ok (.lload 9, 2) := by decide +kernel
theorem dX3_countFrom_88 : decode cX3_countFrom 88 = .ok (.ladd, 1) := by decide +kernel
theorem dX3_countFrom_89 : decode cX3_countFrom 89 = .ok (.invokestatic 214, 3) := by decide +kernel
theorem dX3_countFrom_92 : decode cX3_countFrom 92 = .ok (.lstore 6, 2) := by decide +kernel
theorem dX3_countFrom_94 : decode cX3_countFrom 94 = .ok (.lload 4, 2) := by decide +kernel
theorem dX3_countFrom_96 : decode cX3_countFrom 96 = .ok (.lload 9, 2) := by decide +kernel
theorem dX3_countFrom_98 : decode cX3_countFrom 98 = .ok (.aload_n 0, 1) := by decide +kernel
theorem dX3_countFrom_99 : decode cX3_countFrom 99 = .ok (.getfield 29, 3) := by decide +kernel
theorem dX3_countFrom_102 : decode cX3_countFrom 102 = .ok (.iload_n 3, 1) := by decide +kernel
theorem dX3_countFrom_103 : decode cX3_countFrom 103 = .ok (.iconst 2, 1) := by decide +kernel
theorem dX3_countFrom_104 : decode cX3_countFrom 104 = .ok (.iload 8, 2) := by decide +kernel
theorem dX3_countFrom_106 : decode cX3_countFrom 106 = .ok (.imul, 1) := by decide +kernel
theorem dX3_countFrom_107 : decode cX3_countFrom 107 = .ok (.invokevirtual 97, 3) := by decide +kernel
theorem dX3_countFrom_110 : decode cX3_countFrom 110 = .ok (.lsub, 1) := by decide +kernel
theorem dX3_countFrom_111 : decode cX3_countFrom 111 = .ok (.invokestatic 220, 3) := by decide +kernel
theorem dX3_countFrom_114 : decode cX3_countFrom 114 = .ok (.lstore 4, 2) := by decide +kernel
theorem dX3_countFrom_116 : decode cX3_countFrom 116 = .ok (.lload 4, 2) := by decide +kernel
theorem dX3_countFrom_118 : decode cX3_countFrom 118 = .ok (.lload 9, 2) := by decide +kernel
theorem dX3_countFrom_120 : decode cX3_countFrom 120 = .ok (.lneg, 1) := by decide +kernel
theorem dX3_countFrom_121 : decode cX3_countFrom 121 = .ok (.aload_n 0, 1) := by decide +kernel
theorem dX3_countFrom_122 : decode cX3_countFrom 122 = .ok (.getfield 29, 3) := by decide +kernel
theorem dX3_countFrom_125 : decode cX3_countFrom 125 = .ok (.iload_n 3, 1) := by decide +kernel
theorem dX3_countFrom_126 : decode cX3_countFrom 126 = .ok (.iconst 2, 1) := by decide +kernel
theorem dX3_countFrom_127 : decode cX3_countFrom 127 = .ok (.iload 8, 2) := by decide +kernel
theorem dX3_countFrom_129 : decode cX3_countFrom 129 = .ok (.imul, 1) := by decide +kernel
theorem dX3_countFrom_130 : decode cX3_countFrom 130 = .ok (.iconst 1, 1) := by decide +kernel
theorem dX3_countFrom_131 : decode cX3_countFrom 131 = .ok (.iadd, 1) := by decide +kernel
theorem dX3_countFrom_132 : decode cX3_countFrom 132 = .ok (.invokevirtual 97, 3) := by decide +kernel
theorem dX3_countFrom_135 : decode cX3_countFrom 135 = .ok (.lsub, 1) := by decide +kernel
theorem dX3_countFrom_136 : decode cX3_countFrom 136 = .ok (.invokestatic 220, 3) := by decide +kernel
theorem dX3_countFrom_139 : decode cX3_countFrom 139 = .ok (.lstore 4, 2) := by decide +kernel
theorem dX3_countFrom_141 : decode cX3_countFrom 141 = .ok (.iinc 8 1, 3) := by decide +kernel
theorem dX3_countFrom_144 : decode cX3_countFrom 144 = .ok (.goto (-111), 3) := by decide +kernel
theorem dX3_countFrom_147 : decode cX3_countFrom 147 = .ok (.iconst 0, 1) := by decide +kernel
theorem dX3_countFrom_148 : decode cX3_countFrom 148 = .ok (.istore 8, 2) := by decide +kernel
theorem dX3_countFrom_150 : decode cX3_countFrom 150 = .ok (.lload 4, 2) := by decide +kernel
theorem dX3_countFrom_152 : decode cX3_countFrom 152 = .ok (.lstore 9, 2) := by decide +kernel
theorem dX3_countFrom_154 : decode cX3_countFrom 154 = .ok (.lload 9, 2) := by decide +kernel
theorem dX3_countFrom_156 : decode cX3_countFrom 156 = .ok (.lload 6, 2) := by decide +kernel
theorem dX3_countFrom_158 : decode cX3_countFrom 158 = .ok (.lcmp, 1) := by decide +kernel
theorem dX3_countFrom_159 : decode cX3_countFrom 159 = .ok (.ifCond .gt 32, 3) := by decide +kernel
theorem dX3_countFrom_162 : decode cX3_countFrom 162 = .ok (.aload_n 0, 1) := by decide +kernel
theorem dX3_countFrom_163 : decode cX3_countFrom 163 = .ok (.getfield 33, 3) := by decide +kernel
theorem dX3_countFrom_166 : decode cX3_countFrom 166 = .ok (.iload_n 1, 1) := by decide +kernel
theorem dX3_countFrom_167 : decode cX3_countFrom 167 = .ok (.lload 9, 2) := by decide +kernel
theorem dX3_countFrom_169 : decode cX3_countFrom 169 = .ok (.lastore, 1) := by decide +kernel
theorem dX3_countFrom_170 : decode cX3_countFrom 170 = .ok (.iload 8, 2) := by decide +kernel
theorem dX3_countFrom_172 : decode cX3_countFrom 172 = .ok (.aload_n 0, 1) := by decide +kernel
theorem dX3_countFrom_173 : decode cX3_countFrom 173 = .ok (.iload_n 1, 1) := by decide +kernel
theorem dX3_countFrom_174 : decode cX3_countFrom 174 = .ok (.iconst 1, 1) := by decide +kernel
theorem dX3_countFrom_175 : decode cX3_countFrom 175 = .ok (.iadd, 1) := by decide +kernel
theorem dX3_countFrom_176 : decode cX3_countFrom 176 = .ok (.invokevirtual 122, 3) := by decide +kernel
theorem dX3_countFrom_179 : decode cX3_countFrom 179 = .ok (.iadd, 1) := by decide +kernel
theorem dX3_countFrom_180 : decode cX3_countFrom 180 = .ok (.istore 8, 2) := by decide +kernel
theorem dX3_countFrom_182 : decode cX3_countFrom 182 = .ok (.lload 9, 2) := by decide +kernel
theorem dX3_countFrom_184 : decode cX3_countFrom 184 = .ok (.lconst 1, 1) := by decide +kernel
theorem dX3_countFrom_185 : decode cX3_countFrom 185 = .ok (.ladd, 1) := by decide +kernel
theorem dX3_countFrom_186 : decode cX3_countFrom 186 = .ok (.lstore 9, 2) := by decide +kernel
theorem dX3_countFrom_188 : decode cX3_countFrom 188 = .ok (.goto (-34), 3) := by decide +kernel
theorem dX3_countFrom_191 : decode cX3_countFrom 191 = .ok (.iload 8, 2) := by decide +kernel
theorem dX3_countFrom_193 : decode cX3_countFrom 193 = .ok (.ireturn, 1) := by decide +kernel
theorem dX4_init_0 : decode cX4_init 0 = .ok (.aload_n 0, 1) := by decide +kernel
theorem dX4_init_1 : decode cX4_init 1 = .ok (.invokespecial 1, 3) := by decide +kernel
theorem dX4_init_4 : decode cX4_init 4 = .ok (.aload_n 0, 1) := by decide +kernel
theorem dX4_init_5 : decode cX4_init 5 = .ok (.sipush 3744, 3) := by decide +kernel
theorem dX4_init_8 : decode cX4_init 8 = .ok (.newarray .long, 2) := by decide +kernel
theorem dX4_init_10 : decode cX4_init 10 = .ok (.putfield 7, 3) := by decide +kernel
theorem dX4_init_13 : decode cX4_init 13 = .ok (.aload_n 0, 1) := by decide +kernel
theorem dX4_init_14 : decode cX4_init 14 = .ok (.bipush 26, 2) := by decide +kernel
theorem dX4_init_16 : decode cX4_init 16 = .ok (.newarray .boolean, 2) := by decide +kernel
theorem dX4_init_18 : decode cX4_init 18 = .ok (.putfield 13, 3) := by decide +kernel
theorem dX4_init_21 : decode cX4_init 21 = .ok (.aload_n 0, 1) := by decide +kernel
theorem dX4_init_22 : decode cX4_init 22 = .ok (.bipush 20, 2) := by decide +kernel
theorem dX4_init_24 : decode cX4_init 24 = .ok (.newarray .int, 2) := by decide +kernel
theorem dX4_init_26 : decode cX4_init 26 = .ok (.putfield 17, 3) := by decide +kernel
theorem dX4_init_29 : decode cX4_init 29 = .ok (.aload_n 0, 1) := by decide +kernel
theorem dX4_init_30 : decode cX4_init 30 = .ok (.bipush 20, 2) := by decide +kernel
theorem dX4_init_32 : decode cX4_init 32 = .ok (.newarray .int, 2) := by decide +kernel
theorem dX4_init_34 : decode cX4_init 34 = .ok (.putfield 21, 3) := by decide +kernel
theorem dX4_init_37 : decode cX4_init 37 = .ok (.aload_n 0, 1) := by decide +kernel
theorem dX4_init_38 : decode cX4_init 38 = .ok (.bipush 20, 2) := by decide +kernel
theorem dX4_init_40 : decode cX4_init 40 = .ok (.newarray .int, 2) := by decide +kernel
theorem dX4_init_42 : decode cX4_init 42 = .ok (.putfield 24, 3) := by decide +kernel
theorem dX4_init_45 : decode cX4_init 45 = .ok (.aload_n 0, 1) := by decide +kernel
theorem dX4_init_46 : decode cX4_init 46 = .ok (.bipush 20, 2) := by decide +kernel
theorem dX4_init_48 : decode cX4_init 48 = .ok (.newarray .int, 2) := by decide +kernel
theorem dX4_init_50 : decode cX4_init 50 = .ok (.putfield 27, 3) := by decide +kernel
theorem dX4_init_53 : decode cX4_init 53 = .ok (.aload_n 0, 1) := by decide +kernel
theorem dX4_init_54 : decode cX4_init 54 = .ok (.bipush 20, 2) := by decide +kernel
theorem dX4_init_56 : decode cX4_init 56 = .ok (.newarray .int, 2) := by decide +kernel
theorem dX4_init_58 : decode cX4_init 58 = .ok (.putfield 30, 3) := by decide +kernel
theorem dX4_init_61 : decode cX4_init 61 = .ok (.aload_n 0, 1) := by decide +kernel
theorem dX4_init_62 : decode cX4_init 62 = .ok (.bipush 20, 2) := by decide +kernel
theorem dX4_init_64 : decode cX4_init 64 = .ok (.newarray .int, 2) := by decide +kernel
theorem dX4_init_66 : decode cX4_init 66 = .ok (.putfield 33, 3) := by decide +kernel
theorem dX4_init_69 : decode cX4_init 69 = .ok (.aload_n 0, 1) := by decide +kernel
theorem dX4_init_70 : decode cX4_init 70 = .ok (.bipush 6, 2) := by decide +kernel
theorem dX4_init_72 : decode cX4_init 72 = .ok (.newarray .long, 2) := by decide +kernel
theorem dX4_init_74 : decode cX4_init 74 = .ok (.putfield 36, 3) := by decide +kernel
theorem dX4_init_77 : decode cX4_init 77 = .ok (.aload_n 0, 1) := by decide +kernel
theorem dX4_init_78 : decode cX4_init 78 = .ok (.bipush 6, 2) := by decide +kernel
theorem dX4_init_80 : decode cX4_init 80 = .ok (.newarray .long, 2) := by decide +kernel
theorem dX4_init_82 : decode cX4_init 82 = .ok (.putfield 39, 3) := by decide +kernel
theorem dX4_init_85 : decode cX4_init 85 = .ok (.aload_n 0, 1) := by decide +kernel
theorem dX4_init_86 : decode cX4_init 86 = .ok (.bipush 6, 2) := by decide +kernel
theorem dX4_init_88 : decode cX4_init 88 = .ok (.newarray .long, 2) := by decide +kernel
theorem dX4_init_90 : decode cX4_init 90 = .ok (.putfield 42, 3) := by decide +kernel
theorem dX4_init_93 : decode cX4_init 93 = .ok (.iconst 0, 1) := by decide +kernel
theorem dX4_init_94 : decode cX4_init 94 = .ok (.istore_n 1, 1) := by decide +kernel
theorem dX4_init_95 : decode cX4_init 95 = .ok (.iload_n 1, 1) := by decide +kernel
theorem dX4_init_96 : decode cX4_init 96 = .ok (.sipush 3744, 3) := by decide +kernel
theorem dX4_init_99 : decode cX4_init 99 = .ok (.if_icmp .ge 18, 3) := by decide +kernel
theorem dX4_init_102 : decode cX4_init 102 = .ok (.aload_n 0, 1) := by decide +kernel
theorem dX4_init_103 : decode cX4_init 103 = .ok (.getfield 7, 3) := by decide +kernel
theorem dX4_init_106 : decode cX4_init 106 = .ok (.iload_n 1, 1) := by decide +kernel
theorem dX4_init_107 : decode cX4_init 107 = .ok (.ldc2_w 45, 3) := by decide +kernel
theorem dX4_init_110 : decode cX4_init 110 = .ok (.lastore, 1) := by decide +kernel
theorem dX4_init_111 : decode cX4_init 111 = .ok (.iinc 1 1, 3) := by decide +kernel
theorem dX4_init_114 : decode cX4_init 114 = .ok (.goto (-19), 3) := by decide +kernel
theorem dX4_init_117 : decode cX4_init 117 = .ok (.iconst 0, 1) := by decide +kernel
theorem dX4_init_118 : decode cX4_init 118 = .ok (.istore_n 1, 1) := by decide +kernel
theorem dX4_init_119 : decode cX4_init 119 = .ok (.iload_n 1, 1) := by decide +kernel
theorem dX4_init_120 : decode cX4_init 120 = .ok (.bipush 8, 2) := by decide +kernel
theorem dX4_init_122 : decode cX4_init 122 = .ok (.if_icmp .ge 19, 3) := by decide +kernel
theorem dX4_init_125 : decode cX4_init 125 = .ok (.aload_n 0, 1) := by decide +kernel
theorem dX4_init_126 : decode cX4_init 126 = .ok (.getfield 13, 3) := by decide +kernel
theorem dX4_init_129 : decode cX4_init 129 = .ok (.bipush 6, 2) := by decide +kernel
theorem dX4_init_131 : decode cX4_init 131 = .ok (.iload_n 1, 1) := by decide +kernel
theorem dX4_init_132 : decode cX4_init 132 = .ok (.iadd, 1) := by decide +kernel
theorem dX4_init_133 : decode cX4_init 133 = .ok (.iconst 1, 1) := by decide +kernel
theorem dX4_init_134 : decode cX4_init 134 = .ok (.bastore, 1) := by decide +kernel
theorem dX4_init_135 : decode cX4_init 135 = .ok (.iinc 1 1, 3) := by decide +kernel
theorem dX4_init_138 : decode cX4_init 138 = .ok (.goto (-19), 3) := by decide +kernel
theorem dX4_init_141 : decode cX4_init 141 = .ok (.return_, 1) := by decide +kernel
theorem dX4_thrown_0 : decode cX4_thrown 0 = .ok (.aload_n 0, 1) := by decide +kernel
theorem dX4_thrown_1 : decode cX4_thrown 1 = .ok (.getfield 47, 3) := by decide +kernel
theorem dX4_thrown_4 : decode cX4_thrown 4 = .ok (.ireturn, 1) := by decide +kernel
theorem dX4_refused_0 : decode cX4_refused 0 = .ok (.aload_n 0, 1) := by decide +kernel
theorem dX4_refused_1 : decode cX4_refused 1 = .ok (.iload_n 1, 1) := by decide +kernel
theorem dX4_refused_2 : decode cX4_refused 2 = .ok (.putfield 47, 3) := by decide +kernel
theorem dX4_refused_5 : decode cX4_refused 5 = .ok (.iload_n 1, 1) := by decide +kernel
theorem dX4_refused_6 : decode cX4_refused 6 = .ok (.ifCond .le 7, 3) := by decide +kernel
theorem dX4_refused_9 : decode cX4_refused 9 = .ok (.iconst 1, 1) := by decide +kernel
theorem dX4_refused_10 : decode cX4_refused 10 = .ok (.goto 4, 3) := by decide +kernel
theorem dX4_refused_13 : decode cX4_refused 13 = .ok (.iconst 0, 1) := by decide +kernel
theorem dX4_refused_14 : decode cX4_refused 14 = .ok (.ireturn, 1) := by decide +kernel
theorem dX4_isIn_0 : decode cX4_isIn 0 = .ok (.iload_n 0, 1) := by decide +kernel
theorem dX4_isIn_1 : decode cX4_isIn 1 = .ok (.iload_n 1, 1) := by decide +kernel
theorem dX4_isIn_2 : decode cX4_isIn 2 = .ok (.if_icmp .lt 12, 3) := by decide +kernel
theorem dX4_isIn_5 : decode cX4_isIn 5 = .ok (.iload_n 0, 1) := by decide +kernel
theorem dX4_isIn_6 : decode cX4_isIn 6 = .ok (.iload_n 2, 1) := by decide +kernel
theorem dX4_isIn_7 : decode cX4_isIn 7 = .ok (.if_icmp .gt 7, 3) := by decide +kernel
theorem dX4_isIn_10 : decode cX4_isIn 10 = .ok (.iconst 1, 1) := by decide +kernel
theorem dX4_isIn_11 : decode cX4_isIn 11 = .ok (.goto 4, 3) := by decide +kernel
theorem dX4_isIn_14 : decode cX4_isIn 14 = .ok (.iconst 0, 1) := by decide +kernel
theorem dX4_isIn_15 : decode cX4_isIn 15 = .ok (.ireturn, 1) := by decide +kernel
set_option maxRecDepth 20000 in
theorem ggX4_isSlot_X4_isIn : GoodIn wsX4_isSlot wsX4_isIn := goodIn_r _ [4] (by decide +kernel) (by decide +kernel)
set_option maxRecDepth 20000 in
theorem gX4_isSlot_X4_isIn : GoodIn wsX4_isSlot (va_wsS RX4 51 yX4_isIn wsX4_isIn) := goodIn_app (goodIn_of _ (by decide +kernel)) ggX4_isSlot_X4_isIn
theorem dX4_isSlot_0 : decode cX4_isSlot 0 = .ok (.iload_n 0, 1) := by decide +kernel
theorem dX4_isSlot_1 : decode cX4_isSlot 1 = .ok (.iconst 0, 1) := by decide +kernel
theorem dX4_isSlot_2 : decode cX4_isSlot 2 = .ok (.iconst 5, 1) := by decide +kernel
theorem dX4_isSlot_3 : decode cX4_isSlot 3 = .ok (.invokestatic 51, 3) := by decide +kernel
theorem dX4_isSlot_6 : decode cX4_isSlot 6 = .ok (.ireturn, 1) := by decide +kernel
set_option maxRecDepth 20000 in
theorem ggX4_isTerm_X4_isIn : GoodIn wsX4_isTerm wsX4_isIn := goodIn_r _ [4] (by decide +kernel) (by decide +kernel)
set_option maxRecDepth 20000 in
theorem gX4_isTerm_X4_isIn : GoodIn wsX4_isTerm (va_wsS RX4 51 yX4_isIn wsX4_isIn) := goodIn_app (goodIn_of _ (by decide +kernel)) ggX4_isTerm_X4_isIn
theorem dX4_isTerm_0 : decode cX4_isTerm 0 = .ok (.iload_n 0, 1) := by decide +kernel
theorem dX4_isTerm_1 : decode cX4_isTerm 1 = .ok (.iconst 0, 1) := by decide +kernel
theorem dX4_isTerm_2 : decode cX4_isTerm 2 = .ok (.bipush 11, 2) := by decide +kernel
theorem dX4_isTerm_4 : decode cX4_isTerm 4 = .ok (.invokestatic 51, 3) := by decide +kernel
theorem dX4_isTerm_7 : decode cX4_isTerm 7 = .ok (.ireturn, 1) := by decide +kernel
set_option maxRecDepth 20000 in
theorem ggX4_isNumber_X4_isIn : GoodIn wsX4_isNumber wsX4_isIn := goodIn_r _ [6] (by decide +kernel) (by decide +kernel)
set_option maxRecDepth 20000 in
theorem gX4_isNumber_X4_isIn : GoodIn wsX4_isNumber (va_wsS RX4 51 yX4_isIn wsX4_isIn) := goodIn_app (goodIn_of _ (by decide +kernel)) ggX4_isNumber_X4_isIn
theorem dX4_isNumber_0 : decode cX4_isNumber 0 = .ok (.iload_n 0, 1) := by decide +kernel
theorem dX4_isNumber_1 : decode cX4_isNumber 1 = .ok (.ldc 55, 2) := by decide +kernel
theorem dX4_isNumber_3 : decode cX4_isNumber 3 = .ok (.ldc 56, 2) := by decide +kernel
theorem dX4_isNumber_5 : decode cX4_isNumber 5 = .ok (.invokestatic 51, 3) := by decide +kernel
theorem dX4_isNumber_8 : decode cX4_isNumber 8 = .ok (.ireturn, 1) := by decide +kernel
theorem dX4_minus_0 : decode cX4_minus 0 = .ok (.iload_n 0, 1) := by decide +kernel
theorem dX4_minus_1 : decode cX4_minus 1 = .ok (.iconst 2, 1) := by decide +kernel
theorem dX4_minus_2 : decode cX4_minus 2 = .ok (.irem, 1) := by decide +kernel
theorem dX4_minus_3 : decode cX4_minus 3 = .ok (.ifCond .ne 9, 3) := by decide +kernel
theorem dX4_minus_6 : decode cX4_minus 6 = .ok (.iload_n 0, 1) := by decide +kernel
theorem dX4_minus_7 : decode cX4_minus 7 = .ok (.iconst 1, 1) := by decide +kernel
theorem dX4_minus_8 : decode cX4_minus 8 = .ok (.iadd, 1) := by decide +kernel
theorem dX4_minus_9 : decode cX4_minus 9 = .ok (.goto 6, 3) := by decide +kernel
theorem dX4_minus_12 : decode cX4_minus 12 = .ok (.iload_n 0, 1) := by decide +kernel
theorem dX4_minus_13 : decode cX4_minus 13 = .ok (.iconst 1, 1) := by decide +kernel
theorem dX4_minus_14 : decode cX4_minus 14 = .ok (.isub, 1) := by decide +kernel
theorem dX4_minus_15 : decode cX4_minus 15 = .ok (.ireturn, 1) := by decide +kernel
theorem dX4_sum_0 : decode cX4_sum 0 = .ok (.lload_n 0, 1) := by decide +kernel
theorem dX4_sum_1 : decode cX4_sum 1 = .ok (.ldc2_w 45, 3) := by decide +kernel
theorem dX4_sum_4 : decode cX4_sum 4 = .ok (.lcmp, 1) := by decide +kernel
theorem dX4_sum_5 : decode cX4_sum 5 = .ok (.ifCond .eq 11, 3) := by decide +kernel
theorem dX4_sum_8 : decode cX4_sum 8 = .ok (.lload_n 2, 1) := by decide +kernel
theorem dX4_sum_9 : decode cX4_sum 9 = .ok (.ldc2_w 45, 3) := by decide +kernel
theorem dX4_sum_12 : decode cX4_sum 12 = .ok (.lcmp, 1) := by decide +kernel
theorem dX4_sum_13 : decode cX4_sum 13 = .ok (.ifCond .ne 9, 3) := by decide +kernel
theorem dX4_sum_16 : decode cX4_sum 16 = .ok (.ldc2_w 45, 3) := by decide +kernel
theorem dX4_sum_19 : decode cX4_sum 19 = .ok (.goto 6, 3) := by decide +kernel
theorem dX4_sum_22 : decode cX4_sum 22 = .ok (.lload_n 0, 1) := by decide +kernel
theorem dX4_sum_23 : decode cX4_sum 23 = .ok (.lload_n 2, 1) := by decide +kernel
theorem dX4_sum_24 : decode cX4_sum 24 = .ok (.ladd, 1) := by decide +kernel
theorem dX4_sum_25 : decode cX4_sum 25 = .ok (.lreturn, 1) := by decide +kernel
theorem dX4_get_0 : decode cX4_get 0 = .ok (.aload_n 0, 1) := by decide +kernel
theorem dX4_get_1 : decode cX4_get 1 = .ok (.getfield 7, 3) := by decide +kernel
theorem dX4_get_4 : decode cX4_get 4 = .ok (.sipush 144, 3) := by decide +kernel
theorem dX4_get_7 : decode cX4_get 7 = .ok (.iload_n 1, 1) := by decide +kernel
theorem dX4_get_8 : decode cX4_get 8 = .ok (.imul, 1) := by decide +kernel
theorem dX4_get_9 : decode cX4_get 9 = .ok (.bipush 12, 2) := by decide +kernel
theorem dX4_get_11 : decode cX4_get 11 = .ok (.iload_n 2, 1) := by decide +kernel
theorem dX4_get_12 : decode cX4_get 12 = .ok (.imul, 1) := by decide +kernel
theorem dX4_get_13 : decode cX4_get 13 = .ok (.iadd, 1) := by decide +kernel
theorem dX4_get_14 : decode cX4_get 14 = .ok (.iload_n 3, 1) := by decide +kernel
theorem dX4_get_15 : decode cX4_get 15 = .ok (.iadd, 1) := by decide +kernel
theorem dX4_get_16 : decode cX4_get 16 = .ok (.laload, 1) := by decide +kernel
theorem dX4_get_17 : decode cX4_get 17 = .ok (.lreturn, 1) := by decide +kernel
theorem dX4_set_0 : decode cX4_set 0 = .ok (.aload_n 0, 1) := by decide +kernel
theorem dX4_set_1 : decode cX4_set 1 = .ok (.getfield 7, 3) := by decide +kernel
theorem dX4_set_4 : decode cX4_set 4 = .ok (.sipush 144, 3) := by decide +kernel
theorem dX4_set_7 : decode cX4_set 7 = .ok (.iload_n 1, 1) := by decide +kernel
theorem dX4_set_8 : decode cX4_set 8 = .ok (.imul, 1) := by decide +kernel
theorem dX4_set_9 : decode cX4_set 9 = .ok (.bipush 12, 2) := by decide +kernel
theorem dX4_set_11 : decode cX4_set 11 = .ok (.iload_n 2, 1) := by decide +kernel
theorem dX4_set_12 : decode cX4_set 12 = .ok (.imul, 1) := by decide +kernel
theorem dX4_set_13 : decode cX4_set 13 = .ok (.iadd, 1) := by decide +kernel
theorem dX4_set_14 : decode cX4_set 14 = .ok (.iload_n 3, 1) := by decide +kernel
theorem dX4_set_15 : decode cX4_set 15 = .ok (.iadd, 1) := by decide +kernel
theorem dX4_set_16 : decode cX4_set 16 = .ok (.lload 4, 2) := by decide +kernel
theorem dX4_set_18 : decode cX4_set 18 = .ok (.lastore, 1) := by decide +kernel
theorem dX4_set_19 : decode cX4_set 19 = .ok (.aload_n 0, 1) := by decide +kernel
theorem dX4_set_20 : decode cX4_set 20 = .ok (.getfield 7, 3) := by decide +kernel
theorem dX4_set_23 : decode cX4_set 23 = .ok (.sipush 144, 3) := by decide +kernel
theorem dX4_set_26 : decode cX4_set 26 = .ok (.iload_n 1, 1) := by decide +kernel
theorem dX4_set_27 : decode cX4_set 27 = .ok (.imul, 1) := by decide +kernel
theorem dX4_set_28 : decode cX4_set 28 = .ok (.bipush 12, 2) := by decide +kernel
theorem dX4_set_30 : decode cX4_set 30 = .ok (.iload_n 3, 1) := by decide +kernel
theorem dX4_set_31 : decode cX4_set 31 = .ok (.imul, 1) := by decide +kernel
theorem dX4_set_32 : decode cX4_set 32 = .ok (.iadd, 1) := by decide +kernel
theorem dX4_set_33 : decode cX4_set 33 = .ok (.iload_n 2, 1) := by decide +kernel
theorem dX4_set_34 : decode cX4_set 34 = .ok (.iadd, 1) := by decide +kernel
theorem dX4_set_35 : decode cX4_set 35 = .ok (.lload 4, 2) := by decide +kernel
theorem dX4_set_37 : decode cX4_set 37 = .ok (.lastore, 1) := by decide +kernel
theorem dX4_set_38 : decode cX4_set 38 = .ok (.return_, 1) := by decide +kernel
set_option maxRecDepth 20000 in
theorem ggX4_sumOf_X4_minus : GoodIn wsX4_sumOf wsX4_minus := goodIn_r _ [4] (by decide +kernel) (by decide +kernel)
set_option maxRecDepth 20000 in
theorem gX4_sumOf_X4_minus : GoodIn wsX4_sumOf (va_wsS RX4 57 yX4_minus wsX4_minus) := goodIn_app (goodIn_of _ (by decide +kernel)) ggX4_sumOf_X4_minus
set_option maxRecDepth 20000 in
theorem ggX4_sumOf_X4_get : GoodIn wsX4_sumOf wsX4_get := goodIn_r _ [8, 9, 14, 15, 16, 17, 18, 19, 20, 21, 22, 23, 24, 25, 26] (by decide +kernel) (by decide +kernel)
set_option maxRecDepth 20000 in
theorem gX4_sumOf_X4_get : GoodIn wsX4_sumOf (wsV RX4 61 RX4 yX4_get wsX4_get) := goodIn_app (goodIn_of _ (by decide +kernel)) ggX4_sumOf_X4_get
set_option maxRecDepth 20000 in
theorem ggX4_sumOf_X4_sum : GoodIn wsX4_sumOf wsX4_sum := goodIn_r _ [12, 13] (by decide +kernel) (by decide +kernel)
set_option maxRecDepth 20000 in
theorem gX4_sumOf_X4_sum : GoodIn wsX4_sumOf (va_wsS RX4 65 yX4_sum wsX4_sum) := goodIn_app (goodIn_of _ (by decide +kernel)) ggX4_sumOf_X4_sum
theorem dX4_sumOf_0 : decode cX4_sumOf 0 = .ok (.iload_n 3, 1) := by decide +kernel
theorem dX4_sumOf_1 : decode cX4_sumOf 1 = .ok (.iload_n 2, 1) := by decide +kernel
theorem dX4_sumOf_2 : decode cX4_sumOf 2 = .ok (.invokestatic 57, 3) := by decide +kernel
theorem dX4_sumOf_5 : decode cX4_sumOf 5 = .ok (.if_icmp .ne 5, 3) := by decide +kernel
theorem dX4_sumOf_8 : decode cX4_sumOf 8 = .ok (.lconst 0, 1) := by decide +kernel
theorem dX4_sumOf_9 : decode cX4_sumOf 9 = .ok (.lreturn, 1) := by decide +kernel
theorem dX4_sumOf_10 : decode cX4_sumOf 10 = .ok (.aload_n 0, 1) := by decide +kernel
theorem dX4_sumOf_11 : decode cX4_sumOf 11 = .ok (.iload_n 1, 1) := by decide +kernel
theorem dX4_sumOf_12 : decode cX4_sumOf 12 = .ok (.iload_n 2, 1) := by decide +kernel
theorem dX4_sumOf_13 : decode cX4_sumOf 13 = .ok (.iload_n 3, 1) := by decide +kernel
theorem dX4_sumOf_14 : decode cX4_sumOf 14 = .ok (.invokevirtual 61, 3) := by decide +kernel
theorem dX4_sumOf_17 : decode cX4_sumOf 17 = .ok (.lstore 4, 2) := by decide +kernel
theorem dX4_sumOf_19 : decode cX4_sumOf 19 = .ok (.iload_n 2, 1) := by decide +kernel
theorem dX4_sumOf_20 : decode cX4_sumOf 20 = .ok (.iload_n 3, 1) := by decide +kernel
theorem dX4_sumOf_21 : decode cX4_sumOf 21 = .ok (.if_icmp .ne 13, 3) := by decide +kernel
theorem dX4_sumOf_24 : decode cX4_sumOf 24 = .ok (.lload 4, 2) := by decide +kernel
theorem dX4_sumOf_26 : decode cX4_sumOf 26 = .ok (.lload 4, 2) := by decide +kernel
theorem dX4_sumOf_28 : decode cX4_sumOf 28 = .ok (.invokestatic 65, 3) := by decide +kernel
theorem dX4_sumOf_31 : decode cX4_sumOf 31 = .ok (.goto 5, 3) := by decide +kernel
theorem dX4_sumOf_34 : decode cX4_sumOf 34 = .ok (.lload 4, 2) := by decide +kernel
theorem dX4_sumOf_36 : decode cX4_sumOf 36 = .ok (.lreturn, 1) := by decide +kernel
set_option maxRecDepth 20000 in
theorem ggX4_lessen_X4_minus : GoodIn wsX4_lessen wsX4_minus := goodIn_r _ [6] (by decide +kernel) (by decide +kernel)
set_option maxRecDepth 20000 in
theorem gX4_lessen_X4_minus : GoodIn wsX4_lessen (va_wsS RX4 57 yX4_minus wsX4_minus) := goodIn_app (goodIn_of _ (by decide +kernel)) ggX4_lessen_X4_minus
set_option maxRecDepth 20000 in
theorem ggX4_lessen_X4_get : GoodIn wsX4_lessen wsX4_get := goodIn_r _ [10, 11, 16, 17, 18, 19, 20, 21, 22, 23, 24, 25, 26, 27, 28] (by decide +kernel) (by decide +kernel)
set_option maxRecDepth 20000 in
theorem gX4_lessen_X4_get : GoodIn wsX4_lessen (wsV RX4 61 RX4 yX4_get wsX4_get) := goodIn_app (goodIn_of _ (by decide +kernel)) ggX4_lessen_X4_get
set_option maxRecDepth 20000 in
theorem ggX4_lessen_X4_set : GoodIn wsX4_lessen wsX4_set := goodIn_r _ [15, 11, 16, 17, 18, 19, 20, 21, 22, 23, 24, 25, 26, 27, 28] (by decide +kernel) (by decide +kernel)
set_option maxRecDepth 20000 in
theorem gX4_lessen_X4_set : GoodIn wsX4_lessen (wsV RX4 69 RX4 yX4_set wsX4_set) := goodIn_app (goodIn_of _ (by decide +kernel)) ggX4_lessen_X4_set
theorem dX4_lessen_0 : decode cX4_lessen 0 = .ok (.lload 4, 2) := by decide +kernel
theorem dX4_lessen_2 : decode cX4_lessen 2 = .ok (.ldc2_w 45, 3) := by decide +kernel
theorem dX4_lessen_5 : decode cX4_lessen 5 = .ok (.lcmp, 1) := by decide +kernel
theorem dX4_lessen_6 : decode cX4_lessen 6 = .ok (.ifCond .ne 5, 3) := by decide +kernel
theorem dX4_lessen_9 : decode cX4_lessen 9 = .ok (.iconst 0, 1) := by decide +kernel
theorem dX4_lessen_10 : decode cX4_lessen 10 = .ok (.ireturn, 1) := by decide +kernel
theorem dX4_lessen_11 : decode cX4_lessen 11 = .ok (.iload_n 3, 1) := by decide +kernel
theorem dX4_lessen_12 : decode cX4_lessen 12 = .ok (.iload_n 2, 1) := by decide +kernel
theorem dX4_lessen_13 : decode cX4_lessen 13 = .ok (.invokestatic 57, 3) := by decide +kernel
theorem dX4_lessen_16 : decode cX4_lessen 16 = .ok (.if_icmp .ne 32, 3) := by decide +kernel
theorem dX4_lessen_19 : decode cX4_lessen 19 = .ok (.aload_n 0, 1) := by decide +kernel
theorem dX4_lessen_20 : decode cX4_lessen 20 = .ok (.getfield 13, 3) := by decide +kernel
theorem dX4_lessen_23 : decode cX4_lessen 23 = .ok (.iload_n 1, 1) := by decide +kernel
theorem dX4_lessen_24 : decode cX4_lessen 24 = .ok (.aload_n 0, 1) := by decide +kernel
theorem dX4_lessen_25 : decode cX4_lessen 25 = .ok (.getfield 13, 3) := by decide +kernel
theorem dX4_lessen_28 : decode cX4_lessen 28 = .ok (.iload_n 1, 1) := by decide +kernel
theorem dX4_lessen_29 : decode cX4_lessen 29 = .ok (.baload, 1) := by decide +kernel
theorem dX4_lessen_30 : decode cX4_lessen 30 = .ok (.ifCond .ne 10, 3) := by decide +kernel
theorem dX4_lessen_33 : decode cX4_lessen 33 = .ok (.lload 4, 2) := by decide +kernel
theorem dX4_lessen_35 : decode cX4_lessen 35 = .ok (.lconst 0, 1) := by decide +kernel
theorem dX4_lessen_36 : decode cX4_lessen 36 = .ok (.lcmp, 1) := by decide +kernel
theorem dX4_lessen_37 : decode cX4_lessen 37 = .ok (.ifCond .ge 7, 3) := by decide +kernel
theorem dX4_lessen_40 : decode cX4_lessen 40 = .ok (.iconst 1, 1) := by decide +kernel
theorem dX4_lessen_41 : decode cX4_lessen 41 = .ok (.goto 4, 3) := by decide +kernel
theorem dX4_lessen_44 : decode cX4_lessen 44 = .ok (.iconst 0, 1) := by decide +kernel
theorem dX4_lessen_45 : decode cX4_lessen 45 = .ok (.bastore, 1) := by decide +kernel
theorem dX4_lessen_46 : decode cX4_lessen 46 = .ok (.iconst 0, 1) := by decide +kernel
theorem dX4_lessen_47 : decode cX4_lessen 47 = .ok (.ireturn, 1) := by decide +kernel
theorem dX4_lessen_48 : decode cX4_lessen 48 = .ok (.iload_n 2, 1) := by decide +kernel
theorem dX4_lessen_49 : decode cX4_lessen 49 = .ok (.iload_n 3, 1) := by decide +kernel
theorem dX4_lessen_50 : decode cX4_lessen 50 = .ok (.if_icmp .ne 10, 3) := by decide +kernel
theorem dX4_lessen_53 : decode cX4_lessen 53 = .ok (.lload 4, 2) := by decide +kernel
theorem dX4_lessen_55 : decode cX4_lessen 55 = .ok (.iconst 1, 1) := by decide +kernel
theorem dX4_lessen_56 : decode cX4_lessen 56 = .ok (.lshr, 1) := by decide +kernel
theorem dX4_lessen_57 : decode cX4_lessen 57 = .ok (.goto 5, 3) := by decide +kernel
theorem dX4_lessen_60 : decode cX4_lessen 60 = .ok (.lload 4, 2) := by decide +kernel
theorem dX4_lessen_62 : decode cX4_lessen 62 = .ok (.lstore 6, 2) := by decide +kernel
theorem dX4_lessen_64 : decode cX4_lessen 64 = .ok (.lload 6, 2) := by decide +kernel
theorem dX4_lessen_66 : decode cX4_lessen 66 = .ok (.aload_n 0, 1) := by decide +kernel
theorem dX4_lessen_67 : decode cX4_lessen 67 = .ok (.iload_n 1, 1) := by decide +kernel
theorem dX4_lessen_68 : decode cX4_lessen 68 = .ok (.iload_n 2, 1) := by decide +kernel
theorem dX4_lessen_69 : decode cX4_lessen 69 = .ok (.iload_n 3, 1) := by decide +kernel
theorem dX4_lessen_70 : decode cX4_lessen 70 = .ok (.invokevirtual 61, 3) := by decide +kernel
theorem dX4_lessen_73 : decode cX4_lessen 73 = .ok (.lcmp, 1) := by decide +kernel
theorem dX4_lessen_74 : decode cX4_lessen 74 = .ok (.ifCond .lt 5, 3) := by decide +kernel
theorem dX4_lessen_77 : decode cX4_lessen 77 = .ok (.iconst 0, 1) := by decide +kernel
theorem dX4_lessen_78 : decode cX4_lessen 78 = .ok (.ireturn, 1) := by decide +kernel
theorem dX4_lessen_79 : decode cX4_lessen 79 = .ok (.aload_n 0, 1) := by decide +kernel
theorem dX4_lessen_80 : decode cX4_lessen 80 = .ok (.iload_n 1, 1) := by decide +kernel
theorem dX4_lessen_81 : decode cX4_lessen 81 = .ok (.iload_n 2, 1) := by decide +kernel
theorem dX4_lessen_82 : decode cX4_lessen 82 = .ok (.iload_n 3, 1) := by decide +kernel
theorem dX4_lessen_83 : decode cX4_lessen 83 = .ok (.lload 6, 2) := by decide +kernel
theorem dX4_lessen_85 : decode cX4_lessen 85 = .ok (.invokevirtual 69, 3) := by decide +kernel
theorem dX4_lessen_88 : decode cX4_lessen 88 = .ok (.iconst 1, 1) := by decide +kernel
theorem dX4_lessen_89 : decode cX4_lessen 89 = .ok (.ireturn, 1) := by decide +kernel
set_option maxRecDepth 20000 in
theorem ggX4_close_X4_get : GoodIn wsX4_close wsX4_get := goodIn_r _ [6, 7, 27, 28, 29, 30, 31, 32, 33, 34, 35, 36, 37, 38, 39] (by decide +kernel) (by decide +kernel)
set_option maxRecDepth 20000 in
theorem gX4_close_X4_get : GoodIn wsX4_close (wsV RX4 61 RX4 yX4_get wsX4_get) := goodIn_app (goodIn_of _ (by decide +kernel)) ggX4_close_X4_get
set_option maxRecDepth 20000 in
theorem ggX4_close_X4_sum : GoodIn wsX4_close wsX4_sum := goodIn_r _ [10, 11] (by decide +kernel) (by decide +kernel)
set_option maxRecDepth 20000 in
theorem gX4_close_X4_sum : GoodIn wsX4_close (va_wsS RX4 65 yX4_sum wsX4_sum) := goodIn_app (goodIn_of _ (by decide +kernel)) ggX4_close_X4_sum
set_option maxRecDepth 20000 in
theorem ggX4_close_X4_lessen : GoodIn wsX4_close wsX4_lessen := goodIn_r _ [15, 11, 1, 16, 17, 5, 18, 2, 3, 4, 6, 7, 19, 20, 21, 22, 27, 28, 29, 30, 31, 32, 33, 34, 35, 36, 37, 38, 39] (by decide +kernel) (by decide +kernel)
set_option maxRecDepth 20000 in
theorem gX4_close_X4_lessen : GoodIn wsX4_close (wsV RX4 73 RX4 yX4_lessen wsX4_lessen) := goodIn_app (goodIn_of _ (by decide +kernel)) ggX4_close_X4_lessen
set_option maxRecDepth 20000 in
theorem ggX4_close_X4_sumOf : GoodIn wsX4_close wsX4_sumOf := goodIn_r _ [26, 16, 17, 5, 18, 2, 3, 4, 6, 7, 8, 9, 10, 11, 27, 28, 29, 30, 31, 32, 33, 34, 35, 36, 37, 38, 39] (by decide +kernel) (by decide +kernel)
set_option maxRecDepth 20000 in
theorem gX4_close_X4_sumOf : GoodIn wsX4_close (wsV RX4 77 RX4 yX4_sumOf wsX4_sumOf) := goodIn_app (goodIn_of _ (by decide +kernel)) ggX4_close_X4_sumOf
set_option maxRecDepth 20000 in
theorem ggX4_close_X4_minus : GoodIn wsX4_close wsX4_minus := goodIn_r _ [18] (by decide +kernel) (by decide +kernel)
set_option maxRecDepth 20000 in
theorem gX4_close_X4_minus : GoodIn wsX4_close (va_wsS RX4 57 yX4_minus wsX4_minus) := goodIn_app (goodIn_of _ (by decide +kernel)) ggX4_close_X4_minus
theorem dX4_close_0 : decode cX4_close 0 = .ok (.aload_n 0, 1) := by decide +kernel
theorem dX4_close_1 : decode cX4_close 1 = .ok (.getfield 13, 3) := by decide +kernel
theorem dX4_close_4 : decode cX4_close 4 = .ok (.iload_n 1, 1) := by decide +kernel
theorem dX4_close_5 : decode cX4_close 5 = .ok (.baload, 1) := by decide +kernel
theorem dX4_close_6 : decode cX4_close 6 = .ok (.ifCond .ne 7, 3) := by decide +kernel
theorem dX4_close_9 : decode cX4_close 9 = .ok (.iconst 1, 1) := by decide +kernel
theorem dX4_close_10 : decode cX4_close 10 = .ok (.goto 4, 3) := by decide +kernel
theorem dX4_close_13 : decode cX4_close 13 = .ok (.iconst 0, 1) := by decide +kernel
theorem dX4_close_14 : decode cX4_close 14 = .ok (.istore_n 2, 1) := by decide +kernel
theorem dX4_close_15 : decode cX4_close 15 = .ok (.iload_n 2, 1) := by decide +kernel
theorem dX4_close_16 : decode cX4_close 16 = .ok (.ifCond .eq 179, 3) := by decide +kernel
theorem dX4_close_19 : decode cX4_close 19 = .ok (.iconst 0, 1) := by decide +kernel
theorem dX4_close_20 : decode cX4_close 20 = .ok (.istore_n 2, 1) := by decide +kernel
theorem dX4_close_21 : decode cX4_close 21 = .ok (.iconst 0, 1) := by decide +kernel
theorem dX4_close_22 : decode cX4_close 22 = .ok (.istore_n 3, 1) := by decide +kernel
theorem dX4_close_23 : decode cX4_close 23 = .ok (.iload_n 3, 1) := by decide +kernel
theorem dX4_close_24 : decode cX4_close 24 = .ok (.bipush 12, 2) := by decide +kernel
theorem dX4_close_26 : decode cX4_close 26 = .ok (.if_icmp .ge 147, 3) := by decide +kernel
theorem dX4_close_29 : decode cX4_close 29 = .ok (.iconst 0, 1) := by decide +kernel
theorem dX4_close_30 : decode cX4_close 30 = .ok (.istore 4, 2) := by decide +kernel
theorem dX4_close_32 : decode cX4_close 32 = .ok (.iload 4, 2) := by decide +kernel
theorem dX4_close_34 : decode cX4_close 34 = .ok (.bipush 12, 2) := by decide +kernel
theorem dX4_close_36 : decode cX4_close 36 = .ok (.if_icmp .ge 131, 3) := by decide +kernel
theorem dX4_close_39 : decode cX4_close 39 = .ok (.iload_n 3, 1) := by decide +kernel
theorem dX4_close_40 : decode cX4_close 40 = .ok (.iload 4, 2) := by decide +kernel
theorem dX4_close_42 : decode cX4_close 42 = .ok (.if_icmp .eq 37, 3) := by decide +kernel
theorem dX4_close_45 : decode cX4_close 45 = .ok (.aload_n 0, 1) := by decide +kernel
theorem dX4_close_46 : decode cX4_close 46 = .ok (.iload_n 1, 1) := by decide +kernel
theorem dX4_close_47 : decode cX4_close 47 = .ok (.iload_n 3, 1) := by decide +kernel
theorem dX4_close_48 : decode cX4_close 48 = .ok (.iload 4, 2) := by decide +kernel
theorem dX4_close_50 : decode cX4_close 50 = .ok (.aload_n 0, 1) := by decide +kernel
theorem dX4_close_51 : decode cX4_close 51 = .ok (.iload_n 1, 1) := by decide +kernel
theorem dX4_close_52 : decode cX4_close 52 = .ok (.iload_n 3, 1) := by decide +kernel
theorem dX4_close_53 : decode cX4_close 53 = .ok (.iload_n 3, 1) := by decide +kernel
theorem dX4_close_54 : decode cX4_close 54 = .ok (.invokevirtual 61, 3) := by decide +kernel
theorem dX4_close_57 : decode cX4_close 57 = .ok (.aload_n 0, 1) := by decide +kernel
theorem dX4_close_58 : decode cX4_close 58 = .ok (.iload_n 1, 1) := by decide +kernel
theorem dX4_close_59 : decode cX4_close 59 = .ok (.iload 4, 2) := by decide +kernel
theorem dX4_close_61 : decode cX4_close 61 = .ok (.iload 4, 2) := by decide +kernel
theorem dX4_close_63 : decode cX4_close 63 = .ok (.invokevirtual 61, 3) := by decide +kernel
theorem dX4_close_66 : decode cX4_close 66 = .ok (.invokestatic 65, 3) := by decide +kernel
theorem dX4_close_69 : decode cX4_close 69 = .ok (.invokevirtual 73, 3) := by decide +kernel
theorem dX4_close_72 : decode cX4_close 72 = .ok (.ifCond .eq 7, 3) := by decide +kernel
theorem dX4_close_75 : decode cX4_close 75 = .ok (.iconst 1, 1) := by decide +kernel
theorem dX4_close_76 : decode cX4_close 76 = .ok (.goto 4, 3) := by decide +kernel
theorem dX4_close_79 : decode cX4_close 79 = .ok (.iconst 0, 1) := by decide +kernel
theorem dX4_close_80 : decode cX4_close 80 = .ok (.istore 5, 2) := by decide +kernel
theorem dX4_close_82 : decode cX4_close 82 = .ok (.iload_n 2, 1) := by decide +kernel
theorem dX4_close_83 : decode cX4_close 83 = .ok (.ifCond .ne 8, 3) := by decide +kernel
theorem dX4_close_86 : decode cX4_close 86 = .ok (.iload 5, 2) := by decide +kernel
theorem dX4_close_88 : decode cX4_close 88 = .ok (.ifCond .eq 7, 3) := by decide +kernel
theorem dX4_close_91 : decode cX4_close 91 = .ok (.iconst 1, 1) := by decide +kernel
theorem dX4_close_92 : decode cX4_close 92 = .ok (.goto 4, 3) := by decide +kernel
theorem dX4_close_95 : decode cX4_close 95 = .ok (.iconst 0, 1) := by decide +kernel
theorem dX4_close_96 : decode cX4_close 96 = .ok (.istore_n 2, 1) := by decide +kernel
theorem dX4_close_97 : decode cX4_close 97 = .ok (.iconst 0, 1) := by decide +kernel
theorem dX4_close_98 : decode cX4_close 98 = .ok (.istore 6, 2) := by decide +kernel
theorem dX4_close_100 : decode cX4_close 100 = .ok (.iload 6, 2) := by decide +kernel
theorem dX4_close_102 : decode cX4_close 102 = .ok (.bipush 12, 2) := by decide +kernel
theorem dX4_close_104 : decode cX4_close 104 = .ok (.if_icmp .ge 57, 3) := by decide +kernel
theorem dX4_close_107 : decode cX4_close 107 = .ok (.aload_n 0, 1) := by decide +kernel
theorem dX4_close_108 : decode cX4_close 108 = .ok (.iload_n 1, 1) := by decide +kernel
theorem dX4_close_109 : decode cX4_close 109 = .ok (.iload_n 3, 1) := by decide +kernel
theorem dX4_close_110 : decode cX4_close 110 = .ok (.iload 4, 2) := by decide +kernel
theorem dX4_close_112 : decode cX4_close 112 = .ok (.aload_n 0, 1) := by decide +kernel
theorem dX4_close_113 : decode cX4_close 113 = .ok (.iload_n 1, 1) := by decide +kernel
theorem dX4_close_114 : decode cX4_close 114 = .ok (.iload_n 3, 1) := by decide +kernel
theorem dX4_close_115 : decode cX4_close 115 = .ok (.iload 6, 2) := by decide +kernel
theorem dX4_close_117 : decode cX4_close 117 = .ok (.invokevirtual 77, 3) := by decide +kernel
theorem dX4_close_120 : decode cX4_close 120 = .ok (.aload_n 0, 1) := by decide +kernel
theorem dX4_close_121 : decode cX4_close 121 = .ok (.iload_n 1, 1) := by decide +kernel
theorem dX4_close_122 : decode cX4_close 122 = .ok (.iload 6, 2) := by decide +kernel
theorem dX4_close_124 : decode cX4_close 124 = .ok (.invokestatic 57, 3) := by decide +kernel
theorem dX4_close_127 : decode cX4_close 127 = .ok (.iload 4, 2) := by decide +kernel
theorem dX4_close_129 : decode cX4_close 129 = .ok (.invokevirtual 77, 3) := by decide +kernel
theorem dX4_close_132 : decode cX4_close 132 = .ok (.invokestatic 65, 3) := by decide +kernel
theorem dX4_close_135 : decode cX4_close 135 = .ok (.invokevirtual 73, 3) := by decide +kernel
theorem dX4_close_138 : decode cX4_close 138 = .ok (.istore 7, 2) := by decide +kernel
theorem dX4_close_140 : decode cX4_close 140 = .ok (.iload_n 2, 1) := by decide +kernel
theorem dX4_close_141 : decode cX4_close 141 = .ok (.ifCond .ne 8, 3) := by decide +kernel
theorem dX4_close_144 : decode cX4_close 144 = .ok (.iload 7, 2) := by decide +kernel
theorem dX4_close_146 : decode cX4_close 146 = .ok (.ifCond .eq 7, 3) := by decide +kernel
theorem dX4_close_149 : decode cX4_close 149 = .ok (.iconst 1, 1) := by decide +kernel
theorem dX4_close_150 : decode cX4_close 150 = .ok (.goto 4, 3) := by decide +kernel
theorem dX4_close_153 : decode cX4_close 153 = .ok (.iconst 0, 1) := by decide +kernel
theorem dX4_close_154 : decode cX4_close 154 = .ok (.istore_n 2, 1) := by decide +kernel
theorem dX4_close_155 : decode cX4_close 155 = .ok (.iinc 6 1, 3) := by decide +kernel
theorem dX4_close_158 : decode cX4_close 158 = .ok (.goto (-58), 3) := by decide +kernel
theorem dX4_close_161 : decode cX4_close 161 = .ok (.iinc 4 1, 3) := by decide +kernel
theorem dX4_close_164 : decode cX4_close 164 = .ok (.goto (-132), 3) := by decide +kernel
theorem dX4_close_167 : decode cX4_close 167 = .ok (.iinc 3 1, 3) := by decide +kernel
theorem dX4_close_170 : decode cX4_close 170 = .ok (.goto (-147), 3) := by decide +kernel
theorem dX4_close_173 : decode cX4_close 173 = .ok (.iload_n 2, 1) := by decide +kernel
theorem dX4_close_174 : decode cX4_close 174 = .ok (.ifCond .eq 16, 3) := by decide +kernel
theorem dX4_close_177 : decode cX4_close 177 = .ok (.aload_n 0, 1) := by decide +kernel
theorem dX4_close_178 : decode cX4_close 178 = .ok (.getfield 13, 3) := by decide +kernel
theorem dX4_close_181 : decode cX4_close 181 = .ok (.iload_n 1, 1) := by decide +kernel
theorem dX4_close_182 : decode cX4_close 182 = .ok (.baload, 1) := by decide +kernel
theorem dX4_close_183 : decode cX4_close 183 = .ok (.ifCond .ne 7, 3) := by decide +kernel
theorem dX4_close_186 : decode cX4_close 186 = .ok (.iconst 1, 1) := by decide +kernel
theorem dX4_close_187 : decode cX4_close 187 = .ok (.goto 4, 3) := by decide +kernel
theorem dX4_close_190 : decode cX4_close 190 = .ok (.iconst 0, 1) := by decide +kernel
theorem dX4_close_191 : decode cX4_close 191 = .ok (.istore_n 2, 1) := by decide +kernel
theorem dX4_close_192 : decode cX4_close 192 = .ok (.goto (-177), 3) := by decide +kernel
theorem dX4_close_195 : decode cX4_close 195 = .ok (.return_, 1) := by decide +kernel
theorem dX4_load_0 : decode cX4_load 0 = .ok (.iconst 0, 1) := by decide +kernel
theorem dX4_load_1 : decode cX4_load 1 = .ok (.istore_n 3, 1) := by decide +kernel
theorem dX4_load_2 : decode cX4_load 2 = .ok (.iload_n 3, 1) := by decide +kernel
theorem dX4_load_3 : decode cX4_load 3 = .ok (.sipush 144, 3) := by decide +kernel
theorem dX4_load_6 : decode cX4_load 6 = .ok (.if_icmp .ge 33, 3) := by decide +kernel
theorem dX4_load_9 : decode cX4_load 9 = .ok (.aload_n 0, 1) := by decide +kernel
theorem dX4_load_10 : decode cX4_load 10 = .ok (.getfield 7, 3) := by decide +kernel
theorem dX4_load_13 : decode cX4_load 13 = .ok (.sipush 144, 3) := by decide +kernel
theorem dX4_load_16 : decode cX4_load 16 = .ok (.iload_n 1, 1) := by decide +kernel
theorem dX4_load_17 : decode cX4_load 17 = .ok (.imul, 1) := by decide +kernel
theorem dX4_load_18 : decode cX4_load 18 = .ok (.iload_n 3, 1) := by decide +kernel
theorem dX4_load_19 : decode cX4_load 19 = .ok (.iadd, 1) := by decide +kernel
theorem dX4_load_20 : decode cX4_load 20 = .ok (.aload_n 0, 1) := by decide +kernel
theorem dX4_load_21 : decode cX4_load 21 = .ok (.getfield 7, 3) := by decide +kernel
theorem dX4_load_24 : decode cX4_load 24 = .ok (.sipush 144, 3) := by decide +kernel
theorem dX4_load_27 : decode cX4_load 27 = .ok (.iload_n 2, 1) := by decide +kernel
theorem dX4_load_28 : decode cX4_load 28 = .ok (.imul, 1) := by decide +kernel
theorem dX4_load_29 : decode cX4_load 29 = .ok (.iload_n 3, 1) := by decide +kernel
theorem dX4_load_30 : decode cX4_load 30 = .ok (.iadd, 1) := by decide +kernel
theorem dX4_load_31 : decode cX4_load 31 = .ok (.laload, 1) := by decide +kernel
theorem dX4_load_32 : decode cX4_load 32 = .ok (.lastore, 1) := by decide +kernel
theorem dX4_load_33 : decode cX4_load 33 = .ok (.iinc 3 1, 3) := by decide +kernel
theorem dX4_load_36 : decode cX4_load 36 = .ok (.goto (-34), 3) := by decide +kernel
theorem dX4_load_39 : decode cX4_load 39 = .ok (.aload_n 0, 1) := by decide +kernel
theorem dX4_load_40 : decode cX4_load 40 = .ok (.getfield 13, 3) := by decide +kernel
theorem dX4_load_43 : decode cX4_load 43 = .ok (.iload_n 1, 1) := by decide +kernel
theorem dX4_load_44 : decode cX4_load 44 = .ok (.aload_n 0, 1) := by decide +kernel
theorem dX4_load_45 : decode cX4_load 45 = .ok (.getfield 13, 3) := by decide +kernel
theorem dX4_load_48 : decode cX4_load 48 = .ok (.iload_n 2, 1) := by decide +kernel
theorem dX4_load_49 : decode cX4_load 49 = .ok (.baload, 1) := by decide +kernel
theorem dX4_load_50 : decode cX4_load 50 = .ok (.bastore, 1) := by decide +kernel
theorem dX4_load_51 : decode cX4_load 51 = .ok (.return_, 1) := by decide +kernel
theorem dX4_all_0 : decode cX4_all 0 = .ok (.iconst 0, 1) := by decide +kernel
theorem dX4_all_1 : decode cX4_all 1 = .ok (.istore_n 2, 1) := by decide +kernel
theorem dX4_all_2 : decode cX4_all 2 = .ok (.iload_n 2, 1) := by decide +kernel
theorem dX4_all_3 : decode cX4_all 3 = .ok (.sipush 144, 3) := by decide +kernel
theorem dX4_all_6 : decode cX4_all 6 = .ok (.if_icmp .ge 24, 3) := by decide +kernel
theorem dX4_all_9 : decode cX4_all 9 = .ok (.aload_n 0, 1) := by decide +kernel
theorem dX4_all_10 : decode cX4_all 10 = .ok (.getfield 7, 3) := by decide +kernel
theorem dX4_all_13 : decode cX4_all 13 = .ok (.sipush 144, 3) := by decide +kernel
theorem dX4_all_16 : decode cX4_all 16 = .ok (.iload_n 1, 1) := by decide +kernel
theorem dX4_all_17 : decode cX4_all 17 = .ok (.imul, 1) := by decide +kernel
theorem dX4_all_18 : decode cX4_all 18 = .ok (.iload_n 2, 1) := by decide +kernel
theorem dX4_all_19 : decode cX4_all 19 = .ok (.iadd, 1) := by decide +kernel
theorem dX4_all_20 : decode cX4_all 20 = .ok (.ldc2_w 45, 3) := by decide +kernel
theorem dX4_all_23 : decode cX4_all 23 = .ok (.lastore, 1) := by decide +kernel
theorem dX4_all_24 : decode cX4_all 24 = .ok (.iinc 2 1, 3) := by decide +kernel
theorem dX4_all_27 : decode cX4_all 27 = .ok (.goto (-25), 3) := by decide +kernel
theorem dX4_all_30 : decode cX4_all 30 = .ok (.aload_n 0, 1) := by decide +kernel
theorem dX4_all_31 : decode cX4_all 31 = .ok (.getfield 13, 3) := by decide +kernel
theorem dX4_all_34 : decode cX4_all 34 = .ok (.iload_n 1, 1) := by decide +kernel
theorem dX4_all_35 : decode cX4_all 35 = .ok (.iconst 0, 1) := by decide +kernel
theorem dX4_all_36 : decode cX4_all 36 = .ok (.bastore, 1) := by decide +kernel
theorem dX4_all_37 : decode cX4_all 37 = .ok (.return_, 1) := by decide +kernel
set_option maxRecDepth 20000 in
theorem ggX4_drop_X4_set : GoodIn wsX4_drop wsX4_set := goodIn_r _ [6, 7, 8, 9, 10, 11, 12, 13, 14, 15, 16, 17, 18, 19, 20] (by decide +kernel) (by decide +kernel)
set_option maxRecDepth 20000 in
theorem gX4_drop_X4_set : GoodIn wsX4_drop (wsV RX4 69 RX4 yX4_set wsX4_set) := goodIn_app (goodIn_of _ (by decide +kernel)) ggX4_drop_X4_set
theorem dX4_drop_0 : decode cX4_drop 0 = .ok (.iconst 0, 1) := by decide +kernel
theorem dX4_drop_1 : decode cX4_drop 1 = .ok (.istore_n 3, 1) := by decide +kernel
theorem dX4_drop_2 : decode cX4_drop 2 = .ok (.iload_n 3, 1) := by decide +kernel
theorem dX4_drop_3 : decode cX4_drop 3 = .ok (.bipush 12, 2) := by decide +kernel
theorem dX4_drop_5 : decode cX4_drop 5 = .ok (.if_icmp .ge 35, 3) := by decide +kernel
theorem dX4_drop_8 : decode cX4_drop 8 = .ok (.aload_n 0, 1) := by decide +kernel
theorem dX4_drop_9 : decode cX4_drop 9 = .ok (.iload_n 1, 1) := by decide +kernel
theorem dX4_drop_10 : decode cX4_drop 10 = .ok (.iconst 2, 1) := by decide +kernel
theorem dX4_drop_11 : decode cX4_drop 11 = .ok (.iload_n 2, 1) := by decide +kernel
theorem dX4_drop_12 : decode cX4_drop 12 = .ok (.imul, 1) := by decide +kernel
theorem dX4_drop_13 : decode cX4_drop 13 = .ok (.iload_n 3, 1) := by decide +kernel
theorem dX4_drop_14 : decode cX4_drop 14 = .ok (.ldc2_w 45, 3) := by decide +kernel
theorem dX4_drop_17 : decode cX4_drop 17 = .ok (.invokevirtual 69, 3) := by decide +kernel
theorem dX4_drop_20 : decode cX4_drop 20 = .ok (.aload_n 0, 1) := by decide +kernel
theorem dX4_drop_21 : decode cX4_drop 21 = .ok (.iload_n 1, 1) := by decide +kernel
theorem dX4_drop_22 : decode cX4_drop 22 = .ok (.iconst 2, 1) := by decide +kernel
theorem dX4_drop_23 : decode cX4_drop 23 = .ok (.iload_n 2, 1) := by decide +kernel
theorem dX4_drop_24 : decode cX4_drop 24 = .ok (.imul, 1) := by decide +kernel
theorem dX4_drop_25 : decode cX4_drop 25 = .ok (.iconst 1, 1) := by decide +kernel
theorem dX4_drop_26 : decode cX4_drop 26 = .ok (.iadd, 1) := by decide +kernel
theorem dX4_drop_27 : decode cX4_drop 27 = .ok (.iload_n 3, 1) := by decide +kernel
theorem dX4_drop_28 : decode cX4_drop 28 = .ok (.ldc2_w 45, 3) := by decide +kernel
theorem dX4_drop_31 : decode cX4_drop 31 = .ok (.invokevirtual 69, 3) := by decide +kernel
theorem dX4_drop_34 : decode cX4_drop 34 = .ok (.iinc 3 1, 3) := by decide +kernel
theorem dX4_drop_37 : decode cX4_drop 37 = .ok (.goto (-35), 3) := by decide +kernel
theorem dX4_drop_40 : decode cX4_drop 40 = .ok (.return_, 1) := by decide +kernel
set_option maxRecDepth 20000 in
theorem ggX4_isAction_X4_isNumber : GoodIn wsX4_isAction wsX4_isNumber := goodIn_r _ [4, 5, 6, 7, 8, 3, 9] (by decide +kernel) (by decide +kernel)
set_option maxRecDepth 20000 in
theorem gX4_isAction_X4_isNumber : GoodIn wsX4_isAction (va_wsS RX4 80 yX4_isNumber wsX4_isNumber) := goodIn_app (goodIn_of _ (by decide +kernel)) ggX4_isAction_X4_isNumber
set_option maxRecDepth 20000 in
theorem ggX4_isAction_X4_isTerm : GoodIn wsX4_isAction wsX4_isTerm := goodIn_r _ [12, 7, 8, 3, 9] (by decide +kernel) (by decide +kernel)
set_option maxRecDepth 20000 in
theorem gX4_isAction_X4_isTerm : GoodIn wsX4_isAction (va_wsS RX4 84 yX4_isTerm wsX4_isTerm) := goodIn_app (goodIn_of _ (by decide +kernel)) ggX4_isAction_X4_isTerm
set_option maxRecDepth 20000 in
theorem ggX4_isAction_X4_minus : GoodIn wsX4_isAction wsX4_minus := goodIn_r _ [15] (by decide +kernel) (by decide +kernel)
set_option maxRecDepth 20000 in
theorem gX4_isAction_X4_minus : GoodIn wsX4_isAction (va_wsS RX4 57 yX4_minus wsX4_minus) := goodIn_app (goodIn_of _ (by decide +kernel)) ggX4_isAction_X4_minus
set_option maxRecDepth 20000 in
theorem ggX4_isAction_X4_isIn : GoodIn wsX4_isAction wsX4_isIn := goodIn_r _ [9] (by decide +kernel) (by decide +kernel)
set_option maxRecDepth 20000 in
theorem gX4_isAction_X4_isIn : GoodIn wsX4_isAction (va_wsS RX4 51 yX4_isIn wsX4_isIn) := goodIn_app (goodIn_of _ (by decide +kernel)) ggX4_isAction_X4_isIn
theorem dX4_isAction_0 : decode cX4_isAction 0 = .ok (.iload_n 3, 1) := by decide +kernel
theorem dX4_isAction_1 : decode cX4_isAction 1 = .ok (.invokestatic 80, 3) := by decide +kernel
theorem dX4_isAction_4 : decode cX4_isAction 4 = .ok (.ifCond .ne 5, 3) := by decide +kernel
theorem dX4_isAction_7 : decode cX4_isAction 7 = .ok (.iconst 0, 1) := by decide +kernel
theorem dX4_isAction_8 : decode cX4_isAction 8 = .ok (.ireturn, 1) := by decide +kernel
theorem dX4_isAction_9 : decode cX4_isAction 9 = .ok (.iload_n 0, 1) := by decide +kernel
theorem dX4_isAction_10 : decode cX4_isAction 10 = .ok (.ifCond .ne 33, 3) := by decide +kernel
theorem dX4_isAction_13 : decode cX4_isAction 13 = .ok (.iload_n 1, 1) := by decide +kernel
theorem dX4_isAction_14 : decode cX4_isAction 14 = .ok (.invokestatic 84, 3) := by decide +kernel
theorem dX4_isAction_17 : decode cX4_isAction 17 = .ok (.ifCond .eq 22, 3) := by decide +kernel
theorem dX4_isAction_20 : decode cX4_isAction 20 = .ok (.iload_n 2, 1) := by decide +kernel
theorem dX4_isAction_21 : decode cX4_isAction 21 = .ok (.invokestatic 84, 3) := by decide +kernel
theorem dX4_isAction_24 : decode cX4_isAction 24 = .ok (.ifCond .eq 15, 3) := by decide +kernel
theorem dX4_isAction_27 : decode cX4_isAction 27 = .ok (.iload_n 1, 1) := by decide +kernel
theorem dX4_isAction_28 : decode cX4_isAction 28 = .ok (.iload_n 2, 1) := by decide +kernel
theorem dX4_isAction_29 : decode cX4_isAction 29 = .ok (.invokestatic 57, 3) := by decide +kernel
theorem dX4_isAction_32 : decode cX4_isAction 32 = .ok (.if_icmp .eq 7, 3) := by decide +kernel
theorem dX4_isAction_35 : decode cX4_isAction 35 = .ok (.iconst 1, 1) := by decide +kernel
theorem dX4_isAction_36 : decode cX4_isAction 36 = .ok (.goto 67, 3) := by decide +kernel
theorem dX4_isAction_39 : decode cX4_isAction 39 = .ok (.iconst 0, 1) := by decide +kernel
theorem dX4_isAction_40 : decode cX4_isAction 40 = .ok (.goto 63, 3) := by decide +kernel
theorem dX4_isAction_43 : decode cX4_isAction 43 = .ok (.iload_n 0, 1) := by decide +kernel
theorem dX4_isAction_44 : decode cX4_isAction 44 = .ok (.iconst 1, 1) := by decide +kernel
theorem dX4_isAction_45 : decode cX4_isAction 45 = .ok (.if_icmp .ne 27, 3) := by decide +kernel
theorem dX4_isAction_48 : decode cX4_isAction 48 = .ok (.iload_n 1, 1) := by decide +kernel
theorem dX4_isAction_49 : decode cX4_isAction 49 = .ok (.iconst 0, 1) := by decide +kernel
theorem dX4_isAction_50 : decode cX4_isAction 50 = .ok (.iconst 5, 1) := by decide +kernel
theorem dX4_isAction_51 : decode cX4_isAction 51 = .ok (.invokestatic 51, 3) := by decide +kernel
theorem dX4_isAction_54 : decode cX4_isAction 54 = .ok (.ifCond .eq 14, 3) := by decide +kernel
theorem dX4_isAction_57 : decode cX4_isAction 57 = .ok (.iload_n 2, 1) := by decide +kernel
theorem dX4_isAction_58 : decode cX4_isAction 58 = .ok (.invokestatic 84, 3) := by decide +kernel
theorem dX4_isAction_61 : decode cX4_isAction 61 = .ok (.ifCond .eq 7, 3) := by decide +kernel
theorem dX4_isAction_64 : decode cX4_isAction 64 = .ok (.iconst 1, 1) := by decide +kernel
theorem dX4_isAction_65 : decode cX4_isAction 65 = .ok (.goto 38, 3) := by decide +kernel
theorem dX4_isAction_68 : decode cX4_isAction 68 = .ok (.iconst 0, 1) := by decide +kernel
theorem dX4_isAction_69 : decode cX4_isAction 69 = .ok (.goto 34, 3) := by decide +kernel
theorem dX4_isAction_72 : decode cX4_isAction 72 = .ok (.iload_n 0, 1) := by decide +kernel
theorem dX4_isAction_73 : decode cX4_isAction 73 = .ok (.iconst 2, 1) := by decide +kernel
theorem dX4_isAction_74 : decode cX4_isAction 74 = .ok (.if_icmp .ne 28, 3) := by decide +kernel
theorem dX4_isAction_77 : decode cX4_isAction 77 = .ok (.iload_n 1, 1) := by decide +kernel
theorem dX4_isAction_78 : decode cX4_isAction 78 = .ok (.iconst 0, 1) := by decide +kernel
theorem dX4_isAction_79 : decode cX4_isAction 79 = .ok (.iconst 5, 1) := by decide +kernel
theorem dX4_isAction_80 : decode cX4_isAction 80 = .ok (.invokestatic 51, 3) := by decide +kernel
theorem dX4_isAction_83 : decode cX4_isAction 83 = .ok (.ifCond .eq 19, 3) := by decide +kernel
theorem dX4_isAction_86 : decode cX4_isAction 86 = .ok (.iload_n 2, 1) := by decide +kernel
theorem dX4_isAction_87 : decode cX4_isAction 87 = .ok (.invokestatic 80, 3) := by decide +kernel
theorem dX4_isAction_90 : decode cX4_isAction 90 = .ok (.ifCond .eq 12, 3) := by decide +kernel
theorem dX4_isAction_93 : decode cX4_isAction 93 = .ok (.iload_n 2, 1) := by decide +kernel
theorem dX4_isAction_94 : decode cX4_isAction 94 = .ok (.iload_n 3, 1) := by decide +kernel
theorem dX4_isAction_95 : decode cX4_isAction 95 = .ok (.if_icmp .gt 7, 3) := by decide +kernel
theorem dX4_isAction_98 : decode cX4_isAction 98 = .ok (.iconst 1, 1) := by decide +kernel
theorem dX4_isAction_99 : decode cX4_isAction 99 = .ok (.goto 4, 3) := by decide +kernel
theorem dX4_isAction_102 : decode cX4_isAction 102 = .ok (.iconst 0, 1) := by decide +kernel
theorem dX4_isAction_103 : decode cX4_isAction 103 = .ok (.ireturn, 1) := by decide +kernel
set_option maxRecDepth 20000 in
theorem ggX4_shift_X4_load : GoodIn wsX4_shift wsX4_load := goodIn_r _ [5, 6, 7, 23, 24, 25, 26, 27, 28, 29, 30, 31, 32, 33, 34, 35] (by decide +kernel) (by decide +kernel)
set_option maxRecDepth 20000 in
theorem gX4_shift_X4_load : GoodIn wsX4_shift (wsV RX4 87 RX4 yX4_load wsX4_load) := goodIn_app (goodIn_of _ (by decide +kernel)) ggX4_shift_X4_load
set_option maxRecDepth 20000 in
theorem ggX4_shift_X4_get : GoodIn wsX4_shift wsX4_get := goodIn_r _ [11, 6, 23, 24, 25, 26, 27, 28, 29, 30, 31, 32, 33, 34, 35] (by decide +kernel) (by decide +kernel)
set_option maxRecDepth 20000 in
theorem gX4_shift_X4_get : GoodIn wsX4_shift (wsV RX4 61 RX4 yX4_get wsX4_get) := goodIn_app (goodIn_of _ (by decide +kernel)) ggX4_shift_X4_get
set_option maxRecDepth 20000 in
theorem ggX4_shift_X4_sum : GoodIn wsX4_shift wsX4_sum := goodIn_r _ [14, 15] (by decide +kernel) (by decide +kernel)
set_option maxRecDepth 20000 in
theorem gX4_shift_X4_sum : GoodIn wsX4_shift (va_wsS RX4 65 yX4_sum wsX4_sum) := goodIn_app (goodIn_of _ (by decide +kernel)) ggX4_shift_X4_sum
set_option maxRecDepth 20000 in
theorem ggX4_shift_X4_set : GoodIn wsX4_shift wsX4_set := goodIn_r _ [19, 6, 23, 24, 25, 26, 27, 28, 29, 30, 31, 32, 33, 34, 35] (by decide +kernel) (by decide +kernel)
set_option maxRecDepth 20000 in
theorem gX4_shift_X4_set : GoodIn wsX4_shift (wsV RX4 69 RX4 yX4_set wsX4_set) := goodIn_app (goodIn_of _ (by decide +kernel)) ggX4_shift_X4_set
set_option maxRecDepth 20000 in
theorem ggX4_shift_X4_minus : GoodIn wsX4_shift wsX4_minus := goodIn_r _ [22] (by decide +kernel) (by decide +kernel)
set_option maxRecDepth 20000 in
theorem gX4_shift_X4_minus : GoodIn wsX4_shift (va_wsS RX4 57 yX4_minus wsX4_minus) := goodIn_app (goodIn_of _ (by decide +kernel)) ggX4_shift_X4_minus
theorem dX4_shift_0 : decode cX4_shift 0 = .ok (.aload_n 0, 1) := by decide +kernel
theorem dX4_shift_1 : decode cX4_shift 1 = .ok (.bipush 24, 2) := by decide +kernel
theorem dX4_shift_3 : decode cX4_shift 3 = .ok (.iload_n 1, 1) := by decide +kernel
theorem dX4_shift_4 : decode cX4_shift 4 = .ok (.invokevirtual 87, 3) := by decide +kernel
theorem dX4_shift_7 : decode cX4_shift 7 = .ok (.iconst 2, 1) := by decide +kernel
theorem dX4_shift_8 : decode cX4_shift 8 = .ok (.iload_n 2, 1) := by decide +kernel
theorem dX4_shift_9 : decode cX4_shift 9 = .ok (.imul, 1) := by decide +kernel
theorem dX4_shift_10 : decode cX4_shift 10 = .ok (.istore 6, 2) := by decide +kernel
theorem dX4_shift_12 : decode cX4_shift 12 = .ok (.iconst 2, 1) := by decide +kernel
theorem dX4_shift_13 : decode cX4_shift 13 = .ok (.iload_n 2, 1) := by decide +kernel
theorem dX4_shift_14 : decode cX4_shift 14 = .ok (.imul, 1) := by decide +kernel
theorem dX4_shift_15 : decode cX4_shift 15 = .ok (.iconst 1, 1) := by decide +kernel
theorem dX4_shift_16 : decode cX4_shift 16 = .ok (.iadd, 1) := by decide +kernel
theorem dX4_shift_17 : decode cX4_shift 17 = .ok (.istore 7, 2) := by decide +kernel
theorem dX4_shift_19 : decode cX4_shift 19 = .ok (.iload_n 3, 1) := by decide +kernel
theorem dX4_shift_20 : decode cX4_shift 20 = .ok (.iload 6, 2) := by decide +kernel
theorem dX4_shift_22 : decode cX4_shift 22 = .ok (.if_icmp .ne 8, 3) := by decide +kernel
theorem dX4_shift_25 : decode cX4_shift 25 = .ok (.iload 6, 2) := by decide +kernel
theorem dX4_shift_27 : decode cX4_shift 27 = .ok (.goto 5, 3) := by decide +kernel
theorem dX4_shift_30 : decode cX4_shift 30 = .ok (.iload 7, 2) := by decide +kernel
theorem dX4_shift_32 : decode cX4_shift 32 = .ok (.istore 8, 2) := by decide +kernel
theorem dX4_shift_34 : decode cX4_shift 34 = .ok (.iconst 0, 1) := by decide +kernel
theorem dX4_shift_35 : decode cX4_shift 35 = .ok (.istore 9, 2) := by decide +kernel
theorem dX4_shift_37 : decode cX4_shift 37 = .ok (.iload 9, 2) := by decide +kernel
theorem dX4_shift_39 : decode cX4_shift 39 = .ok (.bipush 12, 2) := by decide +kernel
theorem dX4_shift_41 : decode cX4_shift 41 = .ok (.if_icmp .ge 75, 3) := by decide +kernel
theorem dX4_shift_44 : decode cX4_shift 44 = .ok (.iload 9, 2) := by decide +kernel
theorem dX4_shift_46 : decode cX4_shift 46 = .ok (.iload 6, 2) := by decide +kernel
theorem dX4_shift_48 : decode cX4_shift 48 = .ok (.if_icmp .eq 62, 3) := by decide +kernel
theorem dX4_shift_51 : decode cX4_shift 51 = .ok (.iload 9, 2) := by decide +kernel
theorem dX4_shift_53 : decode cX4_shift 53 = .ok (.iload 7, 2) := by decide +kernel
theorem dX4_shift_55 : decode cX4_shift 55 = .ok (.if_icmp .eq 55, 3) := by decide +kernel
theorem dX4_shift_58 : decode cX4_shift 58 = .ok (.aload_n 0, 1) := by decide +kernel
theorem dX4_shift_59 : decode cX4_shift 59 = .ok (.iload_n 1, 1) := by decide +kernel
theorem dX4_shift_60 : decode cX4_shift 60 = .ok (.iload 6, 2) := by decide +kernel
theorem dX4_shift_62 : decode cX4_shift 62 = .ok (.iload 9, 2) := by decide +kernel
theorem dX4_shift_64 : decode cX4_shift 64 = .ok (.aload_n 0, 1) := by decide +kernel
theorem dX4_shift_65 : decode cX4_shift 65 = .ok (.bipush 24, 2) := by decide +kernel
theorem dX4_shift_67 : decode cX4_shift 67 = .ok (.iload 8, 2) := by decide +kernel
theorem dX4_shift_69 : decode cX4_shift 69 = .ok (.iload 9, 2) := by decide +kernel
theorem dX4_shift_71 : decode cX4_shift 71 = .ok (.invokevirtual 61, 3) := by decide +kernel
theorem dX4_shift_74 : decode cX4_shift 74 = .ok (.lload 4, 2) := by decide +kernel
theorem dX4_shift_76 : decode cX4_shift 76 = .ok (.invokestatic 65, 3) := by decide +kernel
theorem dX4_shift_79 : decode cX4_shift 79 = .ok (.invokevirtual 69, 3) := by decide +kernel
theorem dX4_shift_82 : decode cX4_shift 82 = .ok (.aload_n 0, 1) := by decide +kernel
theorem dX4_shift_83 : decode cX4_shift 83 = .ok (.iload_n 1, 1) := by decide +kernel
theorem dX4_shift_84 : decode cX4_shift 84 = .ok (.iload 7, 2) := by decide +kernel
theorem dX4_shift_86 : decode cX4_shift 86 = .ok (.iload 9, 2) := by decide +kernel
theorem dX4_shift_88 : decode cX4_shift 88 = .ok (.aload_n 0, 1) := by decide +kernel
theorem dX4_shift_89 : decode cX4_shift 89 = .ok (.bipush 24, 2) := by decide +kernel
theorem dX4_shift_91 : decode cX4_shift 91 = .ok (.iload 8, 2) := by decide +kernel
theorem dX4_shift_93 : decode cX4_shift 93 = .ok (.invokestatic 57, 3) := by decide +kernel
theorem dX4_shift_96 : decode cX4_shift 96 = .ok (.iload 9, 2) := by decide +kernel
theorem dX4_shift_98 : decode cX4_shift 98 = .ok (.invokevirtual 61, 3) := by decide +kernel
theorem dX4_shift_101 : decode cX4_shift 101 = .ok (.lload 4, 2) := by decide +kernel
theorem dX4_shift_103 : decode cX4_shift 103 = .ok (.lneg, 1) := by decide +kernel
theorem dX4_shift_104 : decode cX4_shift 104 = .ok (.invokestatic 65, 3) := by decide +kernel
theorem dX4_shift_107 : decode cX4_shift 107 = .ok (.invokevirtual 69, 3) := by decide +kernel
theorem dX4_shift_110 : decode cX4_shift 110 = .ok (.iinc 9 1, 3) := by decide +kernel
theorem dX4_shift_113 : decode cX4_shift 113 = .ok (.goto (-76), 3) := by decide +kernel
theorem dX4_shift_116 : decode cX4_shift 116 = .ok (.aload_n 0, 1) := by decide +kernel
theorem dX4_shift_117 : decode cX4_shift 117 = .ok (.iload_n 1, 1) := by decide +kernel
theorem dX4_shift_118 : decode cX4_shift 118 = .ok (.iload 6, 2) := by decide +kernel
theorem dX4_shift_120 : decode cX4_shift 120 = .ok (.iload 6, 2) := by decide +kernel
theorem dX4_shift_122 : decode cX4_shift 122 = .ok (.aload_n 0, 1) := by decide +kernel
theorem dX4_shift_123 : decode cX4_shift 123 = .ok (.bipush 24, 2) := by decide +kernel
theorem dX4_shift_125 : decode cX4_shift 125 = .ok (.iload 8, 2) := by decide +kernel
theorem dX4_shift_127 : decode cX4_shift 127 = .ok (.iload 8, 2) := by decide +kernel
theorem dX4_shift_129 : decode cX4_shift 129 = .ok (.invokevirtual 61, 3) := by decide +kernel
theorem dX4_shift_132 : decode cX4_shift 132 = .ok (.lload 4, 2) := by decide +kernel
theorem dX4_shift_134 : decode cX4_shift 134 = .ok (.invokestatic 65, 3) := by decide +kernel
theorem dX4_shift_137 : decode cX4_shift 137 = .ok (.invokevirtual 69, 3) := by decide +kernel
theorem dX4_shift_140 : decode cX4_shift 140 = .ok (.aload_n 0, 1) := by decide +kernel
theorem dX4_shift_141 : decode cX4_shift 141 = .ok (.iload_n 1, 1) := by decide +kernel
theorem dX4_shift_142 : decode cX4_shift 142 = .ok (.iload 7, 2) := by decide +kernel
theorem dX4_shift_144 : decode cX4_shift 144 = .ok (.iload 7, 2) := by decide +kernel
theorem dX4_shift_146 : decode cX4_shift 146 = .ok (.aload_n 0, 1) := by decide +kernel
theorem dX4_shift_147 : decode cX4_shift 147 = .ok (.bipush 24, 2) := by decide +kernel
theorem dX4_shift_149 : decode cX4_shift 149 = .ok (.iload 8, 2) := by decide +kernel
theorem dX4_shift_151 : decode cX4_shift 151 = .ok (.invokestatic 57, 3) := by decide +kernel
theorem dX4_shift_154 : decode cX4_shift 154 = .ok (.iload 8, 2) := by decide +kernel
theorem dX4_shift_156 : decode cX4_shift 156 = .ok (.invokestatic 57, 3) := by decide +kernel
theorem dX4_shift_159 : decode cX4_shift 159 = .ok (.invokevirtual 61, 3) := by decide +kernel
theorem dX4_shift_162 : decode cX4_shift 162 = .ok (.lload 4, 2) := by decide +kernel
theorem dX4_shift_164 : decode cX4_shift 164 = .ok (.lneg, 1) := by decide +kernel
theorem dX4_shift_165 : decode cX4_shift 165 = .ok (.invokestatic 65, 3) := by decide +kernel
theorem dX4_shift_168 : decode cX4_shift 168 = .ok (.invokevirtual 69, 3) := by decide +kernel
theorem dX4_shift_171 : decode cX4_shift 171 = .ok (.return_, 1) := by decide +kernel
set_option maxRecDepth 20000 in
theorem ggX4_make_X4_get : GoodIn wsX4_make wsX4_get := goodIn_r _ [6, 7, 43, 44, 45, 46, 47, 48, 49, 50, 51, 52, 53, 54, 55] (by decide +kernel) (by decide +kernel)
set_option maxRecDepth 20000 in
theorem gX4_make_X4_get : GoodIn wsX4_make (wsV RX4 61 RX4 yX4_get wsX4_get) := goodIn_app (goodIn_of _ (by decide +kernel)) ggX4_make_X4_get
set_option maxRecDepth 20000 in
theorem ggX4_make_X4_set : GoodIn wsX4_make wsX4_set := goodIn_r _ [11, 7, 43, 44, 45, 46, 47, 48, 49, 50, 51, 52, 53, 54, 55] (by decide +kernel) (by decide +kernel)
set_option maxRecDepth 20000 in
theorem gX4_make_X4_set : GoodIn wsX4_make (wsV RX4 69 RX4 yX4_set wsX4_set) := goodIn_app (goodIn_of _ (by decide +kernel)) ggX4_make_X4_set
set_option maxRecDepth 20000 in
theorem ggX4_make_X4_shift : GoodIn wsX4_make wsX4_shift := goodIn_r _ [15, 16, 17, 18, 5, 19, 7, 1, 2, 3, 4, 6, 20, 21, 22, 23, 8, 9, 10, 11, 24, 25, 26, 43, 44, 45, 46, 47, 48, 49, 50, 51, 52, 53, 54, 55] (by decide +kernel) (by decide +kernel)
set_option maxRecDepth 20000 in
theorem gX4_make_X4_shift : GoodIn wsX4_make (wsV RX4 91 RX4 yX4_shift wsX4_shift) := goodIn_app (goodIn_of _ (by decide +kernel)) ggX4_make_X4_shift
set_option maxRecDepth 20000 in
theorem ggX4_make_X4_drop : GoodIn wsX4_make wsX4_drop := goodIn_r _ [30, 23, 8, 9, 10, 5, 11, 7, 43, 44, 45, 46, 47, 48, 49, 50, 51, 52, 53, 54, 55] (by decide +kernel) (by decide +kernel)
set_option maxRecDepth 20000 in
theorem gX4_make_X4_drop : GoodIn wsX4_make (wsV RX4 94 RX4 yX4_drop wsX4_drop) := goodIn_app (goodIn_of _ (by decide +kernel)) ggX4_make_X4_drop
set_option maxRecDepth 20000 in
theorem ggX4_make_X4_minus : GoodIn wsX4_make wsX4_minus := goodIn_r _ [26] (by decide +kernel) (by decide +kernel)
set_option maxRecDepth 20000 in
theorem gX4_make_X4_minus : GoodIn wsX4_make (va_wsS RX4 57 yX4_minus wsX4_minus) := goodIn_app (goodIn_of _ (by decide +kernel)) ggX4_make_X4_minus
set_option maxRecDepth 20000 in
theorem ggX4_make_X4_close : GoodIn wsX4_make wsX4_close := goodIn_r _ [34, 1, 2, 3, 4, 5, 6, 7, 20, 21, 22, 23, 35, 36, 37, 38, 24, 25, 26, 8, 9, 10, 11, 39, 40, 41, 42, 43, 44, 45, 46, 47, 48, 49, 50, 51, 52, 53, 54, 55] (by decide +kernel) (by decide +kernel)
set_option maxRecDepth 20000 in
theorem gX4_make_X4_close : GoodIn wsX4_make (wsV RX4 97 RX4 yX4_close wsX4_close) := goodIn_app (goodIn_of _ (by decide +kernel)) ggX4_make_X4_close
theorem dX4_make_0 : decode cX4_make 0 = .ok (.aload_n 0, 1) := by decide +kernel
theorem dX4_make_1 : decode cX4_make 1 = .ok (.getfield 13, 3) := by decide +kernel
theorem dX4_make_4 : decode cX4_make 4 = .ok (.iload_n 1, 1) := by decide +kernel
theorem dX4_make_5 : decode cX4_make 5 = .ok (.baload, 1) := by decide +kernel
theorem dX4_make_6 : decode cX4_make 6 = .ok (.ifCond .eq 4, 3) := by decide +kernel
theorem dX4_make_9 : decode cX4_make 9 = .ok (.return_, 1) := by decide +kernel
theorem dX4_make_10 : decode cX4_make 10 = .ok (.iload_n 2, 1) := by decide +kernel
theorem dX4_make_11 : decode cX4_make 11 = .ok (.ifCond .ne 32, 3) := by decide +kernel
theorem dX4_make_14 : decode cX4_make 14 = .ok (.iload 5, 2) := by decide +kernel
theorem dX4_make_16 : decode cX4_make 16 = .ok (.i2l, 1) := by decide +kernel
theorem dX4_make_17 : decode cX4_make 17 = .ok (.aload_n 0, 1) := by decide +kernel
theorem dX4_make_18 : decode cX4_make 18 = .ok (.iload_n 1, 1) := by decide +kernel
theorem dX4_make_19 : decode cX4_make 19 = .ok (.iload_n 3, 1) := by decide +kernel
theorem dX4_make_20 : decode cX4_make 20 = .ok (.iload 4, 2) := by decide +kernel
theorem dX4_make_22 : decode cX4_make 22 = .ok (.invokevirtual 61, 3) := by decide +kernel
theorem dX4_make_25 : decode cX4_make 25 = .ok (.lcmp, 1) := by decide +kernel
theorem dX4_make_26 : decode cX4_make 26 = .ok (.ifCond .ge 129, 3) := by decide +kernel
theorem dX4_make_29 : decode cX4_make 29 = .ok (.aload_n 0, 1) := by decide +kernel
theorem dX4_make_30 : decode cX4_make 30 = .ok (.iload_n 1, 1) := by decide +kernel
theorem dX4_make_31 : decode cX4_make 31 = .ok (.iload_n 3, 1) := by decide +kernel
theorem dX4_make_32 : decode cX4_make 32 = .ok (.iload 4, 2) := by decide +kernel
theorem dX4_make_34 : decode cX4_make 34 = .ok (.iload 5, 2) := by decide +kernel
theorem dX4_make_36 : decode cX4_make 36 = .ok (.i2l, 1) := by decide +kernel
theorem dX4_make_37 : decode cX4_make 37 = .ok (.invokevirtual 69, 3) := by decide +kernel
theorem dX4_make_40 : decode cX4_make 40 = .ok (.goto 115, 3) := by decide +kernel
theorem dX4_make_43 : decode cX4_make 43 = .ok (.iload_n 2, 1) := by decide +kernel
theorem dX4_make_44 : decode cX4_make 44 = .ok (.iconst 1, 1) := by decide +kernel
theorem dX4_make_45 : decode cX4_make 45 = .ok (.if_icmp .ne 25, 3) := by decide +kernel
theorem dX4_make_48 : decode cX4_make 48 = .ok (.iload 4, 2) := by decide +kernel
theorem dX4_make_50 : decode cX4_make 50 = .ok (.iconst 2, 1) := by decide +kernel
theorem dX4_make_51 : decode cX4_make 51 = .ok (.idiv, 1) := by decide +kernel
theorem dX4_make_52 : decode cX4_make 52 = .ok (.iload_n 3, 1) := by decide +kernel
theorem dX4_make_53 : decode cX4_make 53 = .ok (.if_icmp .ne 17, 3) := by decide +kernel
theorem dX4_make_56 : decode cX4_make 56 = .ok (.aload_n 0, 1) := by decide +kernel
theorem dX4_make_57 : decode cX4_make 57 = .ok (.iload_n 1, 1) := by decide +kernel
theorem dX4_make_58 : decode cX4_make 58 = .ok (.iload_n 3, 1) := by decide +kernel
theorem dX4_make_59 : decode cX4_make 59 = .ok (.iload 4, 2) := by decide +kernel
theorem dX4_make_61 : decode cX4_make 61 = .ok (.iload 5, 2) := by decide +kernel
theorem dX4_make_63 : decode cX4_make 63 = .ok (.i2l, 1) := by decide +kernel
theorem dX4_make_64 : decode cX4_make 64 = .ok (.invokevirtual 91, 3) := by decide +kernel
theorem dX4_make_67 : decode cX4_make 67 = .ok (.goto 88, 3) := by decide +kernel
theorem dX4_make_70 : decode cX4_make 70 = .ok (.iload_n 2, 1) := by decide +kernel
theorem dX4_make_71 : decode cX4_make 71 = .ok (.iconst 1, 1) := by decide +kernel
theorem dX4_make_72 : decode cX4_make 72 = .ok (.if_icmp .ne 44, 3) := by decide +kernel
theorem dX4_make_75 : decode cX4_make 75 = .ok (.aload_n 0, 1) := by decide +kernel
theorem dX4_make_76 : decode cX4_make 76 = .ok (.iload_n 1, 1) := by decide +kernel
theorem dX4_make_77 : decode cX4_make 77 = .ok (.iload_n 3, 1) := by decide +kernel
theorem dX4_make_78 : decode cX4_make 78 = .ok (.invokevirtual 94, 3) := by decide +kernel
theorem dX4_make_81 : decode cX4_make 81 = .ok (.aload_n 0, 1) := by decide +kernel
theorem dX4_make_82 : decode cX4_make 82 = .ok (.iload_n 1, 1) := by decide +kernel
theorem dX4_make_83 : decode cX4_make 83 = .ok (.iconst 2, 1) := by decide +kernel
theorem dX4_make_84 : decode cX4_make 84 = .ok (.iload_n 3, 1) := by decide +kernel
theorem dX4_make_85 : decode cX4_make 85 = .ok (.imul, 1) := by decide +kernel
theorem dX4_make_86 : decode cX4_make 86 = .ok (.iload 4, 2) := by decide +kernel
theorem dX4_make_88 : decode cX4_make 88 = .ok (.invokestatic 57, 3) := by decide +kernel
theorem dX4_make_91 : decode cX4_make 91 = .ok (.iload 5, 2) := by decide +kernel
theorem dX4_make_93 : decode cX4_make 93 = .ok (.i2l, 1) := by decide +kernel
theorem dX4_make_94 : decode cX4_make 94 = .ok (.invokevirtual 69, 3) := by decide +kernel
theorem dX4_make_97 : decode cX4_make 97 = .ok (.aload_n 0, 1) := by decide +kernel
theorem dX4_make_98 : decode cX4_make 98 = .ok (.iload_n 1, 1) := by decide +kernel
theorem dX4_make_99 : decode cX4_make 99 = .ok (.iconst 2, 1) := by decide +kernel
theorem dX4_make_100 : decode cX4_make 100 = .ok (.iload_n 3, 1) := by decide +kernel
theorem dX4_make_101 : decode cX4_make 101 = .ok (.imul, 1) := by decide +kernel
theorem dX4_make_102 : decode cX4_make 102 = .ok (.iconst 1, 1) := by decide +kernel
theorem dX4_make_103 : decode cX4_make 103 = .ok (.iadd, 1) := by decide +kernel
theorem dX4_make_104 : decode cX4_make 104 = .ok (.iload 4, 2) := by decide +kernel
theorem dX4_make_106 : decode cX4_make 106 = .ok (.iload 5, 2) := by decide +kernel
theorem dX4_make_108 : decode cX4_make 108 = .ok (.i2l, 1) := by decide +kernel
theorem dX4_make_109 : decode cX4_make 109 = .ok (.lneg, 1) := by decide +kernel
theorem dX4_make_110 : decode cX4_make 110 = .ok (.invokevirtual 69, 3) := by decide +kernel
theorem dX4_make_113 : decode cX4_make 113 = .ok (.goto 42, 3) := by decide +kernel
theorem dX4_make_116 : decode cX4_make 116 = .ok (.aload_n 0, 1) := by decide +kernel
theorem dX4_make_117 : decode cX4_make 117 = .ok (.iload_n 1, 1) := by decide +kernel
theorem dX4_make_118 : decode cX4_make 118 = .ok (.iload_n 3, 1) := by decide +kernel
theorem dX4_make_119 : decode cX4_make 119 = .ok (.invokevirtual 94, 3) := by decide +kernel
theorem dX4_make_122 : decode cX4_make 122 = .ok (.aload_n 0, 1) := by decide +kernel
theorem dX4_make_123 : decode cX4_make 123 = .ok (.iload_n 1, 1) := by decide +kernel
theorem dX4_make_124 : decode cX4_make 124 = .ok (.iconst 2, 1) := by decide +kernel
theorem dX4_make_125 : decode cX4_make 125 = .ok (.iload_n 3, 1) := by decide +kernel
theorem dX4_make_126 : decode cX4_make 126 = .ok (.imul, 1) := by decide +kernel
theorem dX4_make_127 : decode cX4_make 127 = .ok (.iconst 2, 1) := by decide +kernel
theorem dX4_make_128 : decode cX4_make 128 = .ok (.iload_n 3, 1) := by decide +kernel
theorem dX4_make_129 : decode cX4_make 129 = .ok (.imul, 1) := by decide +kernel
theorem dX4_make_130 : decode cX4_make 130 = .ok (.iload 5, 2) := by decide +kernel
theorem dX4_make_132 : decode cX4_make 132 = .ok (.i2l, 1) := by decide +kernel
theorem dX4_make_133 : decode cX4_make 133 = .ok (.invokevirtual 69, 3) := by decide +kernel
theorem dX4_make_136 : decode cX4_make 136 = .ok (.aload_n 0, 1) := by decide +kernel
theorem dX4_make_137 : decode cX4_make 137 = .ok (.iload_n 1, 1) := by decide +kernel
theorem dX4_make_138 : decode cX4_make 138 = .ok (.iconst 2, 1) := by decide +kernel
theorem dX4_make_139 : decode cX4_make 139 = .ok (.iload_n 3, 1) := by decide +kernel
theorem dX4_make_140 : decode cX4_make 140 = .ok (.imul, 1) := by decide +kernel
theorem dX4_make_141 : decode cX4_make 141 = .ok (.iconst 1, 1) := by decide +kernel
theorem dX4_make_142 : decode cX4_make 142 = .ok (.iadd, 1) := by decide +kernel
theorem dX4_make_143 : decode cX4_make 143 = .ok (.iconst 2, 1) := by decide +kernel
theorem dX4_make_144 : decode cX4_make 144 = .ok (.iload_n 3, 1) := by decide +kernel
theorem dX4_make_145 : decode cX4_make 145 = .ok (.imul, 1) := by decide +kernel
theorem dX4_make_146 : decode cX4_make 146 = .ok (.iconst 1, 1) := by decide +kernel
theorem dX4_make_147 : decode cX4_make 147 = .ok (.iadd, 1) := by decide +kernel
theorem dX4_make_148 : decode cX4_make 148 = .ok (.iload 4, 2) := by decide +kernel
theorem dX4_make_150 : decode cX4_make 150 = .ok (.i2l, 1) := by decide +kernel
theorem dX4_make_151 : decode cX4_make 151 = .ok (.lneg, 1) := by decide +kernel
theorem dX4_make_152 : decode cX4_make 152 = .ok (.invokevirtual 69, 3) := by decide +kernel
theorem dX4_make_155 : decode cX4_make 155 = .ok (.aload_n 0, 1) := by decide +kernel
theorem dX4_make_156 : decode cX4_make 156 = .ok (.iload_n 1, 1) := by decide +kernel
theorem dX4_make_157 : decode cX4_make 157 = .ok (.invokevirtual 97, 3) := by decide +kernel
theorem dX4_make_160 : decode cX4_make 160 = .ok (.return_, 1) := by decide +kernel
set_option maxRecDepth 20000 in
theorem ggX4_act_X4_isSlot : GoodIn wsX4_act wsX4_isSlot := goodIn_r _ [5, 6, 7, 4, 8] (by decide +kernel) (by decide +kernel)
set_option maxRecDepth 20000 in
theorem gX4_act_X4_isSlot : GoodIn wsX4_act (va_wsS RX4 101 yX4_isSlot wsX4_isSlot) := goodIn_app (goodIn_of _ (by decide +kernel)) ggX4_act_X4_isSlot
set_option maxRecDepth 20000 in
theorem ggX4_act_X4_isAction : GoodIn wsX4_act wsX4_isAction := goodIn_r _ [11, 12, 13, 4, 14, 15, 16, 6, 7, 8, 17, 18, 19, 20, 21, 22] (by decide +kernel) (by decide +kernel)
set_option maxRecDepth 20000 in
theorem gX4_act_X4_isAction : GoodIn wsX4_act (va_wsS RX4 104 yX4_isAction wsX4_isAction) := goodIn_app (goodIn_of _ (by decide +kernel)) ggX4_act_X4_isAction
set_option maxRecDepth 20000 in
theorem ggX4_act_X4_refused : GoodIn wsX4_act wsX4_refused := goodIn_r _ [26, 27, 69, 70, 71, 72, 73, 74, 75, 76, 77, 78, 79, 80, 81] (by decide +kernel) (by decide +kernel)
set_option maxRecDepth 20000 in
theorem gX4_act_X4_refused : GoodIn wsX4_act (wsV RX4 108 RX4 yX4_refused wsX4_refused) := goodIn_app (goodIn_of _ (by decide +kernel)) ggX4_act_X4_refused
set_option maxRecDepth 20000 in
theorem ggX4_act_X4_make : GoodIn wsX4_act wsX4_make := goodIn_r _ [31, 1, 32, 33, 34, 4, 35, 36, 37, 38, 39, 40, 41, 42, 43, 44, 45, 46, 47, 48, 49, 50, 51, 52, 20, 21, 22, 53, 54, 55, 56, 57, 58, 59, 60, 61, 62, 63, 64, 65, 66, 67, 68, 69, 70, 71, 72, 73, 74, 75, 76, 77, 78, 79, 80, 81] (by decide +kernel) (by decide +kernel)
set_option maxRecDepth 20000 in
theorem gX4_act_X4_make : GoodIn wsX4_act (wsV RX4 111 RX4 yX4_make wsX4_make) := goodIn_app (goodIn_of _ (by decide +kernel)) ggX4_act_X4_make
theorem dX4_act_0 : decode cX4_act 0 = .ok (.aload_n 0, 1) := by decide +kernel
theorem dX4_act_1 : decode cX4_act 1 = .ok (.iload_n 1, 1) := by decide +kernel
theorem dX4_act_2 : decode cX4_act 2 = .ok (.invokestatic 101, 3) := by decide +kernel
theorem dX4_act_5 : decode cX4_act 5 = .ok (.ifCond .eq 19, 3) := by decide +kernel
theorem dX4_act_8 : decode cX4_act 8 = .ok (.iload_n 2, 1) := by decide +kernel
theorem dX4_act_9 : decode cX4_act 9 = .ok (.iload_n 3, 1) := by decide +kernel
theorem dX4_act_10 : decode cX4_act 10 = .ok (.iload 4, 2) := by decide +kernel
theorem dX4_act_12 : decode cX4_act 12 = .ok (.iload 5, 2) := by decide +kernel
theorem dX4_act_14 : decode cX4_act 14 = .ok (.invokestatic 104, 3) := by decide +kernel
theorem dX4_act_17 : decode cX4_act 17 = .ok (.ifCond .eq 7, 3) := by decide +kernel
theorem dX4_act_20 : decode cX4_act 20 = .ok (.iconst 0, 1) := by decide +kernel
theorem dX4_act_21 : decode cX4_act 21 = .ok (.goto 4, 3) := by decide +kernel
theorem dX4_act_24 : decode cX4_act 24 = .ok (.iconst 1, 1) := by decide +kernel
theorem dX4_act_25 : decode cX4_act 25 = .ok (.invokevirtual 108, 3) := by decide +kernel
theorem dX4_act_28 : decode cX4_act 28 = .ok (.ifCond .eq 5, 3) := by decide +kernel
theorem dX4_act_31 : decode cX4_act 31 = .ok (.iconst 0, 1) := by decide +kernel
theorem dX4_act_32 : decode cX4_act 32 = .ok (.ireturn, 1) := by decide +kernel
theorem dX4_act_33 : decode cX4_act 33 = .ok (.aload_n 0, 1) := by decide +kernel
theorem dX4_act_34 : decode cX4_act 34 = .ok (.iload_n 1, 1) := by decide +kernel
theorem dX4_act_35 : decode cX4_act 35 = .ok (.iload_n 2, 1) := by decide +kernel
theorem dX4_act_36 : decode cX4_act 36 = .ok (.iload_n 3, 1) := by decide +kernel
theorem dX4_act_37 : decode cX4_act 37 = .ok (.iload 4, 2) := by decide +kernel
theorem dX4_act_39 : decode cX4_act 39 = .ok (.iload 5, 2) := by decide +kernel
theorem dX4_act_41 : decode cX4_act 41 = .ok (.invokevirtual 111, 3) := by decide +kernel
theorem dX4_act_44 : decode cX4_act 44 = .ok (.aload_n 0, 1) := by decide +kernel
theorem dX4_act_45 : decode cX4_act 45 = .ok (.getfield 13, 3) := by decide +kernel
theorem dX4_act_48 : decode cX4_act 48 = .ok (.iload_n 1, 1) := by decide +kernel
theorem dX4_act_49 : decode cX4_act 49 = .ok (.baload, 1) := by decide +kernel
theorem dX4_act_50 : decode cX4_act 50 = .ok (.ifCond .ne 7, 3) := by decide +kernel
theorem dX4_act_53 : decode cX4_act 53 = .ok (.iconst 1, 1) := by decide +kernel
theorem dX4_act_54 : decode cX4_act 54 = .ok (.goto 4, 3) := by decide +kernel
theorem dX4_act_57 : decode cX4_act 57 = .ok (.iconst 0, 1) := by decide +kernel
theorem dX4_act_58 : decode cX4_act 58 = .ok (.ireturn, 1) := by decide +kernel
set_option maxRecDepth 20000 in
theorem ggX4_clear_X4_isSlot : GoodIn wsX4_clear wsX4_isSlot := goodIn_r _ [4, 5, 6, 3, 7] (by decide +kernel) (by decide +kernel)
set_option maxRecDepth 20000 in
theorem gX4_clear_X4_isSlot : GoodIn wsX4_clear (va_wsS RX4 101 yX4_isSlot wsX4_isSlot) := goodIn_app (goodIn_of _ (by decide +kernel)) ggX4_clear_X4_isSlot
set_option maxRecDepth 20000 in
theorem ggX4_clear_X4_refused : GoodIn wsX4_clear wsX4_refused := goodIn_r _ [11, 12, 20, 21, 22, 23, 24, 25, 26, 27, 28, 29, 30, 31, 32] (by decide +kernel) (by decide +kernel)
set_option maxRecDepth 20000 in
theorem gX4_clear_X4_refused : GoodIn wsX4_clear (wsV RX4 108 RX4 yX4_refused wsX4_refused) := goodIn_app (goodIn_of _ (by decide +kernel)) ggX4_clear_X4_refused
set_option maxRecDepth 20000 in
theorem ggX4_clear_X4_all : GoodIn wsX4_clear wsX4_all := goodIn_r _ [16, 17, 18, 19, 20, 21, 22, 23, 24, 25, 26, 27, 28, 29, 30, 31, 32] (by decide +kernel) (by decide +kernel)
set_option maxRecDepth 20000 in
theorem gX4_clear_X4_all : GoodIn wsX4_clear (wsV RX4 115 RX4 yX4_all wsX4_all) := goodIn_app (goodIn_of _ (by decide +kernel)) ggX4_clear_X4_all
theorem dX4_clear_0 : decode cX4_clear 0 = .ok (.aload_n 0, 1) := by decide +kernel
theorem dX4_clear_1 : decode cX4_clear 1 = .ok (.iload_n 1, 1) := by decide +kernel
theorem dX4_clear_2 : decode cX4_clear 2 = .ok (.invokestatic 101, 3) := by decide +kernel
theorem dX4_clear_5 : decode cX4_clear 5 = .ok (.ifCond .eq 7, 3) := by decide +kernel
theorem dX4_clear_8 : decode cX4_clear 8 = .ok (.iconst 0, 1) := by decide +kernel
theorem dX4_clear_9 : decode cX4_clear 9 = .ok (.goto 4, 3) := by decide +kernel
theorem dX4_clear_12 : decode cX4_clear 12 = .ok (.iconst 1, 1) := by decide +kernel
theorem dX4_clear_13 : decode cX4_clear 13 = .ok (.invokevirtual 108, 3) := by decide +kernel
theorem dX4_clear_16 : decode cX4_clear 16 = .ok (.ifCond .ne 8, 3) := by decide +kernel
theorem dX4_clear_19 : decode cX4_clear 19 = .ok (.aload_n 0, 1) := by decide +kernel
theorem dX4_clear_20 : decode cX4_clear 20 = .ok (.iload_n 1, 1) := by decide +kernel
theorem dX4_clear_21 : decode cX4_clear 21 = .ok (.invokevirtual 115, 3) := by decide +kernel
theorem dX4_clear_24 : decode cX4_clear 24 = .ok (.return_, 1) := by decide +kernel
set_option maxRecDepth 20000 in
theorem ggX4_copy_X4_isSlot : GoodIn wsX4_copy wsX4_isSlot := goodIn_r _ [4, 5, 6, 3, 7] (by decide +kernel) (by decide +kernel)
set_option maxRecDepth 20000 in
theorem gX4_copy_X4_isSlot : GoodIn wsX4_copy (va_wsS RX4 101 yX4_isSlot wsX4_isSlot) := goodIn_app (goodIn_of _ (by decide +kernel)) ggX4_copy_X4_isSlot
set_option maxRecDepth 20000 in
theorem ggX4_copy_X4_refused : GoodIn wsX4_copy wsX4_refused := goodIn_r _ [11, 12, 19, 20, 21, 22, 23, 24, 25, 26, 27, 28, 29, 30, 31] (by decide +kernel) (by decide +kernel)
set_option maxRecDepth 20000 in
theorem gX4_copy_X4_refused : GoodIn wsX4_copy (wsV RX4 108 RX4 yX4_refused wsX4_refused) := goodIn_app (goodIn_of _ (by decide +kernel)) ggX4_copy_X4_refused
set_option maxRecDepth 20000 in
theorem ggX4_copy_X4_load : GoodIn wsX4_copy wsX4_load := goodIn_r _ [16, 17, 18, 19, 20, 21, 22, 23, 24, 25, 26, 27, 28, 29, 30, 31] (by decide +kernel) (by decide +kernel)
set_option maxRecDepth 20000 in
theorem gX4_copy_X4_load : GoodIn wsX4_copy (wsV RX4 87 RX4 yX4_load wsX4_load) := goodIn_app (goodIn_of _ (by decide +kernel)) ggX4_copy_X4_load
theorem dX4_copy_0 : decode cX4_copy 0 = .ok (.aload_n 0, 1) := by decide +kernel
theorem dX4_copy_1 : decode cX4_copy 1 = .ok (.iload_n 1, 1) := by decide +kernel
theorem dX4_copy_2 : decode cX4_copy 2 = .ok (.invokestatic 101, 3) := by decide +kernel
theorem dX4_copy_5 : decode cX4_copy 5 = .ok (.ifCond .eq 14, 3) := by decide +kernel
theorem dX4_copy_8 : decode cX4_copy 8 = .ok (.iload_n 2, 1) := by decide +kernel
theorem dX4_copy_9 : decode cX4_copy 9 = .ok (.invokestatic 101, 3) := by decide +kernel
theorem dX4_copy_12 : decode cX4_copy 12 = .ok (.ifCond .eq 7, 3) := by decide +kernel
theorem dX4_copy_15 : decode cX4_copy 15 = .ok (.iconst 0, 1) := by decide +kernel
theorem dX4_copy_16 : decode cX4_copy 16 = .ok (.goto 4, 3) := by decide +kernel
theorem dX4_copy_19 : decode cX4_copy 19 = .ok (.iconst 1, 1) := by decide +kernel
theorem dX4_copy_20 : decode cX4_copy 20 = .ok (.invokevirtual 108, 3) := by decide +kernel
theorem dX4_copy_23 : decode cX4_copy 23 = .ok (.ifCond .ne 9, 3) := by decide +kernel
theorem dX4_copy_26 : decode cX4_copy 26 = .ok (.aload_n 0, 1) := by decide +kernel
theorem dX4_copy_27 : decode cX4_copy 27 = .ok (.iload_n 1, 1) := by decide +kernel
theorem dX4_copy_28 : decode cX4_copy 28 = .ok (.iload_n 2, 1) := by decide +kernel
theorem dX4_copy_29 : decode cX4_copy 29 = .ok (.invokevirtual 87, 3) := by decide +kernel
theorem dX4_copy_32 : decode cX4_copy 32 = .ok (.return_, 1) := by decide +kernel
set_option maxRecDepth 20000 in
theorem ggX4_areSlots_X4_isSlot : GoodIn wsX4_areSlots wsX4_isSlot := goodIn_r _ [4, 5, 6, 3, 7] (by decide +kernel) (by decide +kernel)
set_option maxRecDepth 20000 in
theorem gX4_areSlots_X4_isSlot : GoodIn wsX4_areSlots (va_wsS RX4 101 yX4_isSlot wsX4_isSlot) := goodIn_app (goodIn_of _ (by decide +kernel)) ggX4_areSlots_X4_isSlot
theorem dX4_areSlots_0 : decode cX4_areSlots 0 = .ok (.iload_n 0, 1) := by decide +kernel
theorem dX4_areSlots_1 : decode cX4_areSlots 1 = .ok (.invokestatic 101, 3) := by decide +kernel
theorem dX4_areSlots_4 : decode cX4_areSlots 4 = .ok (.ifCond .eq 21, 3) := by decide +kernel
theorem dX4_areSlots_7 : decode cX4_areSlots 7 = .ok (.iload_n 1, 1) := by decide +kernel
theorem dX4_areSlots_8 : decode cX4_areSlots 8 = .ok (.invokestatic 101, 3) := by decide +kernel
theorem dX4_areSlots_11 : decode cX4_areSlots 11 = .ok (.ifCond .eq 14, 3) := by decide +kernel
theorem dX4_areSlots_14 : decode cX4_areSlots 14 = .ok (.iload_n 2, 1) := by decide +kernel
theorem dX4_areSlots_15 : decode cX4_areSlots 15 = .ok (.invokestatic 101, 3) := by decide +kernel
theorem dX4_areSlots_18 : decode cX4_areSlots 18 = .ok (.ifCond .eq 7, 3) := by decide +kernel
theorem dX4_areSlots_21 : decode cX4_areSlots 21 = .ok (.iconst 1, 1) := by decide +kernel
theorem dX4_areSlots_22 : decode cX4_areSlots 22 = .ok (.goto 4, 3) := by decide +kernel
theorem dX4_areSlots_25 : decode cX4_areSlots 25 = .ok (.iconst 0, 1) := by decide +kernel
theorem dX4_areSlots_26 : decode cX4_areSlots 26 = .ok (.ireturn, 1) := by decide +kernel
set_option maxRecDepth 20000 in
theorem ggX4_meet_X4_areSlots : GoodIn wsX4_meet wsX4_areSlots := goodIn_r _ [6, 7, 8, 5, 9, 10, 11, 12] (by decide +kernel) (by decide +kernel)
set_option maxRecDepth 20000 in
theorem gX4_meet_X4_areSlots : GoodIn wsX4_meet (va_wsS RX4 118 yX4_areSlots wsX4_areSlots) := goodIn_app (goodIn_of _ (by decide +kernel)) ggX4_meet_X4_areSlots
set_option maxRecDepth 20000 in
theorem ggX4_meet_X4_refused : GoodIn wsX4_meet wsX4_refused := goodIn_r _ [16, 17, 49, 50, 51, 52, 53, 54, 55, 56, 57, 58, 59, 60, 61] (by decide +kernel) (by decide +kernel)
set_option maxRecDepth 20000 in
theorem gX4_meet_X4_refused : GoodIn wsX4_meet (wsV RX4 108 RX4 yX4_refused wsX4_refused) := goodIn_app (goodIn_of _ (by decide +kernel)) ggX4_meet_X4_refused
set_option maxRecDepth 20000 in
theorem ggX4_meet_X4_load : GoodIn wsX4_meet wsX4_load := goodIn_r _ [21, 1, 2, 49, 50, 51, 52, 53, 54, 55, 56, 57, 58, 59, 60, 61] (by decide +kernel) (by decide +kernel)
set_option maxRecDepth 20000 in
theorem gX4_meet_X4_load : GoodIn wsX4_meet (wsV RX4 87 RX4 yX4_load wsX4_load) := goodIn_app (goodIn_of _ (by decide +kernel)) ggX4_meet_X4_load
set_option maxRecDepth 20000 in
theorem ggX4_meet_X4_close : GoodIn wsX4_meet wsX4_close := goodIn_r _ [25, 2, 26, 27, 28, 5, 29, 1, 30, 31, 32, 33, 34, 35, 36, 37, 38, 39, 40, 41, 42, 43, 44, 45, 46, 47, 48, 49, 50, 51, 52, 53, 54, 55, 56, 57, 58, 59, 60, 61] (by decide +kernel) (by decide +kernel)
set_option maxRecDepth 20000 in
theorem gX4_meet_X4_close : GoodIn wsX4_meet (wsV RX4 97 RX4 yX4_close wsX4_close) := goodIn_app (goodIn_of _ (by decide +kernel)) ggX4_meet_X4_close
theorem dX4_meet_0 : decode cX4_meet 0 = .ok (.aload_n 0, 1) := by decide +kernel
theorem dX4_meet_1 : decode cX4_meet 1 = .ok (.iload_n 1, 1) := by decide +kernel
theorem dX4_meet_2 : decode cX4_meet 2 = .ok (.iload_n 2, 1) := by decide +kernel
theorem dX4_meet_3 : decode cX4_meet 3 = .ok (.iload_n 3, 1) := by decide +kernel
theorem dX4_meet_4 : decode cX4_meet 4 = .ok (.invokestatic 118, 3) := by decide +kernel
theorem dX4_meet_7 : decode cX4_meet 7 = .ok (.ifCond .eq 7, 3) := by decide +kernel
theorem dX4_meet_10 : decode cX4_meet 10 = .ok (.iconst 0, 1) := by decide +kernel
theorem dX4_meet_11 : decode cX4_meet 11 = .ok (.goto 4, 3) := by decide +kernel
theorem dX4_meet_14 : decode cX4_meet 14 = .ok (.iconst 1, 1) := by decide +kernel
theorem dX4_meet_15 : decode cX4_meet 15 = .ok (.invokevirtual 108, 3) := by decide +kernel
theorem dX4_meet_18 : decode cX4_meet 18 = .ok (.ifCond .eq 5, 3) := by decide +kernel
theorem dX4_meet_21 : decode cX4_meet 21 = .ok (.iconst 0, 1) := by decide +kernel
theorem dX4_meet_22 : decode cX4_meet 22 = .ok (.ireturn, 1) := by decide +kernel
theorem dX4_meet_23 : decode cX4_meet 23 = .ok (.aload_n 0, 1) := by decide +kernel
theorem dX4_meet_24 : decode cX4_meet 24 = .ok (.bipush 22, 2) := by decide +kernel
theorem dX4_meet_26 : decode cX4_meet 26 = .ok (.iload_n 2, 1) := by decide +kernel
theorem dX4_meet_27 : decode cX4_meet 27 = .ok (.invokevirtual 87, 3) := by decide +kernel
theorem dX4_meet_30 : decode cX4_meet 30 = .ok (.iconst 0, 1) := by decide +kernel
theorem dX4_meet_31 : decode cX4_meet 31 = .ok (.istore 4, 2) := by decide +kernel
theorem dX4_meet_33 : decode cX4_meet 33 = .ok (.iload 4, 2) := by decide +kernel
theorem dX4_meet_35 : decode cX4_meet 35 = .ok (.sipush 144, 3) := by decide +kernel
theorem dX4_meet_38 : decode cX4_meet 38 = .ok (.if_icmp .ge 68, 3) := by decide +kernel
theorem dX4_meet_41 : decode cX4_meet 41 = .ok (.aload_n 0, 1) := by decide +kernel
theorem dX4_meet_42 : decode cX4_meet 42 = .ok (.getfield 7, 3) := by decide +kernel
theorem dX4_meet_45 : decode cX4_meet 45 = .ok (.sipush 144, 3) := by decide +kernel
theorem dX4_meet_48 : decode cX4_meet 48 = .ok (.iload_n 3, 1) := by decide +kernel
theorem dX4_meet_49 : decode cX4_meet 49 = .ok (.imul, 1) := by decide +kernel
theorem dX4_meet_50 : decode cX4_meet 50 = .ok (.iload 4, 2) := by decide +kernel
theorem dX4_meet_52 : decode cX4_meet 52 = .ok (.iadd, 1) := by decide +kernel
theorem dX4_meet_53 : decode cX4_meet 53 = .ok (.laload, 1) := by decide +kernel
theorem dX4_meet_54 : decode cX4_meet 54 = .ok (.lstore 5, 2) := by decide +kernel
theorem dX4_meet_56 : decode cX4_meet 56 = .ok (.aload_n 0, 1) := by decide +kernel
theorem dX4_meet_57 : decode cX4_meet 57 = .ok (.getfield 7, 3) := by decide +kernel
theorem dX4_meet_60 : decode cX4_meet 60 = .ok (.sipush 3168, 3) := by decide +kernel
theorem dX4_meet_63 : decode cX4_meet 63 = .ok (.iload 4, 2) := by decide +kernel
theorem dX4_meet_65 : decode cX4_meet 65 = .ok (.iadd, 1) := by decide +kernel
theorem dX4_meet_66 : decode cX4_meet 66 = .ok (.lload 5, 2) := by decide +kernel
theorem dX4_meet_68 : decode cX4_meet 68 = .ok (.aload_n 0, 1) := by decide +kernel
theorem dX4_meet_69 : decode cX4_meet 69 = .ok (.getfield 7, 3) := by decide +kernel
theorem dX4_meet_72 : decode cX4_meet 72 = .ok (.sipush 3168, 3) := by decide +kernel
theorem dX4_meet_75 : decode cX4_meet 75 = .ok (.iload 4, 2) := by decide +kernel
theorem dX4_meet_77 : decode cX4_meet 77 = .ok (.iadd, 1) := by decide +kernel
theorem dX4_meet_78 : decode cX4_meet 78 = .ok (.laload, 1) := by decide +kernel
theorem dX4_meet_79 : decode cX4_meet 79 = .ok (.lcmp, 1) := by decide +kernel
theorem dX4_meet_80 : decode cX4_meet 80 = .ok (.ifCond .ge 8, 3) := by decide +kernel
theorem dX4_meet_83 : decode cX4_meet 83 = .ok (.lload 5, 2) := by decide +kernel
theorem dX4_meet_85 : decode cX4_meet 85 = .ok (.goto 14, 3) := by decide +kernel
theorem dX4_meet_88 : decode cX4_meet 88 = .ok (.aload_n 0, 1) := by decide +kernel
theorem dX4_meet_89 : decode cX4_meet 89 = .ok (.getfield 7, 3) := by decide +kernel
theorem dX4_meet_92 : decode cX4_meet 92 = .ok (.sipush 3168, 3) := by decide +kernel
theorem dX4_meet_95 : decode cX4_meet 95 = .ok (.iload 4, 2) := by decide +kernel
theorem dX4_meet_97 : decode cX4_meet 97 = .ok (.iadd, 1) := by decide +kernel
theorem dX4_meet_98 : decode cX4_meet 98 = .ok (.laload, 1) := by decide +kernel
theorem dX4_meet_99 : decode cX4_meet 99 = .ok (.lastore, 1) := by decide +kernel
theorem dX4_meet_100 : decode cX4_meet 100 = .ok (.iinc 4 1, 3) := by decide +kernel
theorem dX4_meet_103 : decode cX4_meet 103 = .ok (.goto (-70), 3) := by decide +kernel
theorem dX4_meet_106 : decode cX4_meet 106 = .ok (.aload_n 0, 1) := by decide +kernel
theorem dX4_meet_107 : decode cX4_meet 107 = .ok (.getfield 13, 3) := by decide +kernel
theorem dX4_meet_110 : decode cX4_meet 110 = .ok (.bipush 22, 2) := by decide +kernel
theorem dX4_meet_112 : decode cX4_meet 112 = .ok (.aload_n 0, 1) := by decide +kernel
theorem dX4_meet_113 : decode cX4_meet 113 = .ok (.getfield 13, 3) := by decide +kernel
theorem dX4_meet_116 : decode cX4_meet 116 = .ok (.iload_n 2, 1) := by decide +kernel
theorem dX4_meet_117 : decode cX4_meet 117 = .ok (.baload, 1) := by decide +kernel
theorem dX4_meet_118 : decode cX4_meet 118 = .ok (.ifCond .ne 12, 3) := by decide +kernel
theorem dX4_meet_121 : decode cX4_meet 121 = .ok (.aload_n 0, 1) := by decide +kernel
theorem dX4_meet_122 : decode cX4_meet 122 = .ok (.getfield 13, 3) := by decide +kernel
theorem dX4_meet_125 : decode cX4_meet 125 = .ok (.iload_n 3, 1) := by decide +kernel
theorem dX4_meet_126 : decode cX4_meet 126 = .ok (.baload, 1) := by decide +kernel
theorem dX4_meet_127 : decode cX4_meet 127 = .ok (.ifCond .eq 7, 3) := by decide +kernel
theorem dX4_meet_130 : decode cX4_meet 130 = .ok (.iconst 1, 1) := by decide +kernel
theorem dX4_meet_131 : decode cX4_meet 131 = .ok (.goto 4, 3) := by decide +kernel
theorem dX4_meet_134 : decode cX4_meet 134 = .ok (.iconst 0, 1) := by decide +kernel
theorem dX4_meet_135 : decode cX4_meet 135 = .ok (.bastore, 1) := by decide +kernel
theorem dX4_meet_136 : decode cX4_meet 136 = .ok (.aload_n 0, 1) := by decide +kernel
theorem dX4_meet_137 : decode cX4_meet 137 = .ok (.bipush 22, 2) := by decide +kernel
theorem dX4_meet_139 : decode cX4_meet 139 = .ok (.invokevirtual 97, 3) := by decide +kernel
theorem dX4_meet_142 : decode cX4_meet 142 = .ok (.aload_n 0, 1) := by decide +kernel
theorem dX4_meet_143 : decode cX4_meet 143 = .ok (.iload_n 1, 1) := by decide +kernel
theorem dX4_meet_144 : decode cX4_meet 144 = .ok (.bipush 22, 2) := by decide +kernel
theorem dX4_meet_146 : decode cX4_meet 146 = .ok (.invokevirtual 87, 3) := by decide +kernel
theorem dX4_meet_149 : decode cX4_meet 149 = .ok (.aload_n 0, 1) := by decide +kernel
theorem dX4_meet_150 : decode cX4_meet 150 = .ok (.getfield 13, 3) := by decide +kernel
theorem dX4_meet_153 : decode cX4_meet 153 = .ok (.iload_n 1, 1) := by decide +kernel
theorem dX4_meet_154 : decode cX4_meet 154 = .ok (.baload, 1) := by decide +kernel
theorem dX4_meet_155 : decode cX4_meet 155 = .ok (.ifCond .ne 7, 3) := by decide +kernel
theorem dX4_meet_158 : decode cX4_meet 158 = .ok (.iconst 1, 1) := by decide +kernel
theorem dX4_meet_159 : decode cX4_meet 159 = .ok (.goto 4, 3) := by decide +kernel
theorem dX4_meet_162 : decode cX4_meet 162 = .ok (.iconst 0, 1) := by decide +kernel
theorem dX4_meet_163 : decode cX4_meet 163 = .ok (.ireturn, 1) := by decide +kernel
set_option maxRecDepth 20000 in
theorem ggX4_joined_X4_load : GoodIn wsX4_joined wsX4_load := goodIn_r _ [7, 2, 1, 8, 9, 10, 11, 12, 13, 14, 15, 16, 17, 18, 19, 20] (by decide +kernel) (by decide +kernel)
set_option maxRecDepth 20000 in
theorem gX4_joined_X4_load : GoodIn wsX4_joined (wsV RX4 87 RX4 yX4_load wsX4_load) := goodIn_app (goodIn_of _ (by decide +kernel)) ggX4_joined_X4_load
theorem dX4_joined_0 : decode cX4_joined 0 = .ok (.aload_n 0, 1) := by decide +kernel
theorem dX4_joined_1 : decode cX4_joined 1 = .ok (.bipush 22, 2) := by decide +kernel
theorem dX4_joined_3 : decode cX4_joined 3 = .ok (.aload_n 0, 1) := by decide +kernel
theorem dX4_joined_4 : decode cX4_joined 4 = .ok (.getfield 13, 3) := by decide +kernel
theorem dX4_joined_7 : decode cX4_joined 7 = .ok (.iload_n 1, 1) := by decide +kernel
theorem dX4_joined_8 : decode cX4_joined 8 = .ok (.baload, 1) := by decide +kernel
theorem dX4_joined_9 : decode cX4_joined 9 = .ok (.ifCond .eq 7, 3) := by decide +kernel
theorem dX4_joined_12 : decode cX4_joined 12 = .ok (.iload_n 2, 1) := by decide +kernel
theorem dX4_joined_13 : decode cX4_joined 13 = .ok (.goto 4, 3) := by decide +kernel
theorem dX4_joined_16 : decode cX4_joined 16 = .ok (.iload_n 1, 1) := by decide +kernel
theorem dX4_joined_17 : decode cX4_joined 17 = .ok (.invokevirtual 87, 3) := by decide +kernel
theorem dX4_joined_20 : decode cX4_joined 20 = .ok (.aload_n 0, 1) := by decide +kernel
theorem dX4_joined_21 : decode cX4_joined 21 = .ok (.getfield 13, 3) := by decide +kernel
theorem dX4_joined_24 : decode cX4_joined 24 = .ok (.iload_n 1, 1) := by decide +kernel
theorem dX4_joined_25 : decode cX4_joined 25 = .ok (.baload, 1) := by decide +kernel
theorem dX4_joined_26 : decode cX4_joined 26 = .ok (.ifCond .ne 12, 3) := by decide +kernel
theorem dX4_joined_29 : decode cX4_joined 29 = .ok (.aload_n 0, 1) := by decide +kernel
theorem dX4_joined_30 : decode cX4_joined 30 = .ok (.getfield 13, 3) := by decide +kernel
theorem dX4_joined_33 : decode cX4_joined 33 = .ok (.iload_n 2, 1) := by decide +kernel
theorem dX4_joined_34 : decode cX4_joined 34 = .ok (.baload, 1) := by decide +kernel
theorem dX4_joined_35 : decode cX4_joined 35 = .ok (.ifCond .eq 4, 3) := by decide +kernel
theorem dX4_joined_38 : decode cX4_joined 38 = .ok (.return_, 1) := by decide +kernel
theorem dX4_joined_39 : decode cX4_joined 39 = .ok (.iconst 0, 1) := by decide +kernel
theorem dX4_joined_40 : decode cX4_joined 40 = .ok (.istore_n 3, 1) := by decide +kernel
theorem dX4_joined_41 : decode cX4_joined 41 = .ok (.iload_n 3, 1) := by decide +kernel
theorem dX4_joined_42 : decode cX4_joined 42 = .ok (.sipush 144, 3) := by decide +kernel
theorem dX4_joined_45 : decode cX4_joined 45 = .ok (.if_icmp .ge 64, 3) := by decide +kernel
theorem dX4_joined_48 : decode cX4_joined 48 = .ok (.aload_n 0, 1) := by decide +kernel
theorem dX4_joined_49 : decode cX4_joined 49 = .ok (.getfield 7, 3) := by decide +kernel
theorem dX4_joined_52 : decode cX4_joined 52 = .ok (.sipush 144, 3) := by decide +kernel
theorem dX4_joined_55 : decode cX4_joined 55 = .ok (.iload_n 2, 1) := by decide +kernel
theorem dX4_joined_56 : decode cX4_joined 56 = .ok (.imul, 1) := by decide +kernel
theorem dX4_joined_57 : decode cX4_joined 57 = .ok (.iload_n 3, 1) := by decide +kernel
theorem dX4_joined_58 : decode cX4_joined 58 = .ok (.iadd, 1) := by decide +kernel
theorem dX4_joined_59 : decode cX4_joined 59 = .ok (.laload, 1) := by decide +kernel
theorem dX4_joined_60 : decode cX4_joined 60 = .ok (.lstore 4, 2) := by decide +kernel
theorem dX4_joined_62 : decode cX4_joined 62 = .ok (.aload_n 0, 1) := by decide +kernel
theorem dX4_joined_63 : decode cX4_joined 63 = .ok (.getfield 7, 3) := by decide +kernel
theorem dX4_joined_66 : decode cX4_joined 66 = .ok (.sipush 3168, 3) := by decide +kernel
theorem dX4_joined_69 : decode cX4_joined 69 = .ok (.iload_n 3, 1) := by decide +kernel
theorem dX4_joined_70 : decode cX4_joined 70 = .ok (.iadd, 1) := by decide +kernel
theorem dX4_joined_71 : decode cX4_joined 71 = .ok (.lload 4, 2) := by decide +kernel
theorem dX4_joined_73 : decode cX4_joined 73 = .ok (.aload_n 0, 1) := by decide +kernel
theorem dX4_joined_74 : decode cX4_joined 74 = .ok (.getfield 7, 3) := by decide +kernel
theorem dX4_joined_77 : decode cX4_joined 77 = .ok (.sipush 3168, 3) := by decide +kernel
theorem dX4_joined_80 : decode cX4_joined 80 = .ok (.iload_n 3, 1) := by decide +kernel
theorem dX4_joined_81 : decode cX4_joined 81 = .ok (.iadd, 1) := by decide +kernel
theorem dX4_joined_82 : decode cX4_joined 82 = .ok (.laload, 1) := by decide +kernel
theorem dX4_joined_83 : decode cX4_joined 83 = .ok (.lcmp, 1) := by decide +kernel
theorem dX4_joined_84 : decode cX4_joined 84 = .ok (.ifCond .le 8, 3) := by decide +kernel
theorem dX4_joined_87 : decode cX4_joined 87 = .ok (.lload 4, 2) := by decide +kernel
theorem dX4_joined_89 : decode cX4_joined 89 = .ok (.goto 13, 3) := by decide +kernel
theorem dX4_joined_92 : decode cX4_joined 92 = .ok (.aload_n 0, 1) := by decide +kernel
theorem dX4_joined_93 : decode cX4_joined 93 = .ok (.getfield 7, 3) := by decide +kernel
theorem dX4_joined_96 : decode cX4_joined 96 = .ok (.sipush 3168, 3) := by decide +kernel
theorem dX4_joined_99 : decode cX4_joined 99 = .ok (.iload_n 3, 1) := by decide +kernel
theorem dX4_joined_100 : decode cX4_joined 100 = .ok (.iadd, 1) := by decide +kernel
theorem dX4_joined_101 : decode cX4_joined 101 = .ok (.laload, 1) := by decide +kernel
theorem dX4_joined_102 : decode cX4_joined 102 = .ok (.lastore, 1) := by decide +kernel
theorem dX4_joined_103 : decode cX4_joined 103 = .ok (.iinc 3 1, 3) := by decide +kernel
theorem dX4_joined_106 : decode cX4_joined 106 = .ok (.goto (-65), 3) := by decide +kernel
theorem dX4_joined_109 : decode cX4_joined 109 = .ok (.return_, 1) := by decide +kernel
set_option maxRecDepth 20000 in
theorem ggX4_join_X4_areSlots : GoodIn wsX4_join wsX4_areSlots := goodIn_r _ [4, 5, 6, 3, 7, 8, 9, 10] (by decide +kernel) (by decide +kernel)
set_option maxRecDepth 20000 in
theorem gX4_join_X4_areSlots : GoodIn wsX4_join (va_wsS RX4 118 yX4_areSlots wsX4_areSlots) := goodIn_app (goodIn_of _ (by decide +kernel)) ggX4_join_X4_areSlots
set_option maxRecDepth 20000 in
theorem ggX4_join_X4_refused : GoodIn wsX4_join wsX4_refused := goodIn_r _ [14, 15, 26, 27, 28, 29, 30, 31, 32, 33, 34, 35, 36, 37, 38] (by decide +kernel) (by decide +kernel)
set_option maxRecDepth 20000 in
theorem gX4_join_X4_refused : GoodIn wsX4_join (wsV RX4 108 RX4 yX4_refused wsX4_refused) := goodIn_app (goodIn_of _ (by decide +kernel)) ggX4_join_X4_refused
set_option maxRecDepth 20000 in
theorem ggX4_join_X4_joined : GoodIn wsX4_join wsX4_joined := goodIn_r _ [19, 20, 21, 22, 23, 24, 3, 25, 26, 27, 28, 29, 30, 31, 32, 33, 34, 35, 36, 37, 38] (by decide +kernel) (by decide +kernel)
set_option maxRecDepth 20000 in
theorem gX4_join_X4_joined : GoodIn wsX4_join (wsV RX4 121 RX4 yX4_joined wsX4_joined) := goodIn_app (goodIn_of _ (by decide +kernel)) ggX4_join_X4_joined
set_option maxRecDepth 20000 in
theorem ggX4_join_X4_load : GoodIn wsX4_join wsX4_load := goodIn_r _ [25, 21, 20, 26, 27, 28, 29, 30, 31, 32, 33, 34, 35, 36, 37, 38] (by decide +kernel) (by decide +kernel)
set_option maxRecDepth 20000 in
theorem gX4_join_X4_load : GoodIn wsX4_join (wsV RX4 87 RX4 yX4_load wsX4_load) := goodIn_app (goodIn_of _ (by decide +kernel)) ggX4_join_X4_load
theorem dX4_join_0 : decode cX4_join 0 = .ok (.aload_n 0, 1) := by decide +kernel
theorem dX4_join_1 : decode cX4_join 1 = .ok (.iload_n 1, 1) := by decide +kernel
theorem dX4_join_2 : decode cX4_join 2 = .ok (.iload_n 2, 1) := by decide +kernel
theorem dX4_join_3 : decode cX4_join 3 = .ok (.iload_n 3, 1) := by decide +kernel
theorem dX4_join_4 : decode cX4_join 4 = .ok (.invokestatic 118, 3) := by decide +kernel
theorem dX4_join_7 : decode cX4_join 7 = .ok (.ifCond .eq 7, 3) := by decide +kernel
theorem dX4_join_10 : decode cX4_join 10 = .ok (.iconst 0, 1) := by decide +kernel
theorem dX4_join_11 : decode cX4_join 11 = .ok (.goto 4, 3) := by decide +kernel
theorem dX4_join_14 : decode cX4_join 14 = .ok (.iconst 1, 1) := by decide +kernel
theorem dX4_join_15 : decode cX4_join 15 = .ok (.invokevirtual 108, 3) := by decide +kernel
theorem dX4_join_18 : decode cX4_join 18 = .ok (.ifCond .ne 16, 3) := by decide +kernel
theorem dX4_join_21 : decode cX4_join 21 = .ok (.aload_n 0, 1) := by decide +kernel
theorem dX4_join_22 : decode cX4_join 22 = .ok (.iload_n 2, 1) := by decide +kernel
theorem dX4_join_23 : decode cX4_join 23 = .ok (.iload_n 3, 1) := by decide +kernel
theorem dX4_join_24 : decode cX4_join 24 = .ok (.invokevirtual 121, 3) := by decide +kernel
theorem dX4_join_27 : decode cX4_join 27 = .ok (.aload_n 0, 1) := by decide +kernel
theorem dX4_join_28 : decode cX4_join 28 = .ok (.iload_n 1, 1) := by decide +kernel
theorem dX4_join_29 : decode cX4_join 29 = .ok (.bipush 22, 2) := by decide +kernel
theorem dX4_join_31 : decode cX4_join 31 = .ok (.invokevirtual 87, 3) := by decide +kernel
theorem dX4_join_34 : decode cX4_join 34 = .ok (.return_, 1) := by decide +kernel
set_option maxRecDepth 20000 in
theorem ggX4_widened_X4_load : GoodIn wsX4_widened wsX4_load := goodIn_r _ [8, 2, 1, 35, 36, 37, 38, 39, 40, 41, 42, 43, 44, 45, 46, 47] (by decide +kernel) (by decide +kernel)
set_option maxRecDepth 20000 in
theorem gX4_widened_X4_load : GoodIn wsX4_widened (wsV RX4 87 RX4 yX4_load wsX4_load) := goodIn_app (goodIn_of _ (by decide +kernel)) ggX4_widened_X4_load
set_option maxRecDepth 20000 in
theorem ggX4_widened_X4_close : GoodIn wsX4_widened wsX4_close := goodIn_r _ [12, 1, 13, 14, 15, 7, 16, 2, 17, 18, 19, 3, 20, 21, 22, 23, 24, 25, 26, 27, 28, 29, 30, 31, 32, 33, 34, 35, 36, 37, 38, 39, 40, 41, 42, 43, 44, 45, 46, 47] (by decide +kernel) (by decide +kernel)
set_option maxRecDepth 20000 in
theorem gX4_widened_X4_close : GoodIn wsX4_widened (wsV RX4 97 RX4 yX4_close wsX4_close) := goodIn_app (goodIn_of _ (by decide +kernel)) ggX4_widened_X4_close
theorem dX4_widened_0 : decode cX4_widened 0 = .ok (.aload_n 0, 1) := by decide +kernel
theorem dX4_widened_1 : decode cX4_widened 1 = .ok (.bipush 23, 2) := by decide +kernel
theorem dX4_widened_3 : decode cX4_widened 3 = .ok (.aload_n 0, 1) := by decide +kernel
theorem dX4_widened_4 : decode cX4_widened 4 = .ok (.getfield 13, 3) := by decide +kernel
theorem dX4_widened_7 : decode cX4_widened 7 = .ok (.iload_n 1, 1) := by decide +kernel
theorem dX4_widened_8 : decode cX4_widened 8 = .ok (.baload, 1) := by decide +kernel
theorem dX4_widened_9 : decode cX4_widened 9 = .ok (.ifCond .eq 7, 3) := by decide +kernel
theorem dX4_widened_12 : decode cX4_widened 12 = .ok (.iload_n 2, 1) := by decide +kernel
theorem dX4_widened_13 : decode cX4_widened 13 = .ok (.goto 4, 3) := by decide +kernel
theorem dX4_widened_16 : decode cX4_widened 16 = .ok (.iload_n 1, 1) := by decide +kernel
theorem dX4_widened_17 : decode cX4_widened 17 = .ok (.invokevirtual 87, 3) := by decide +kernel
theorem dX4_widened_20 : decode cX4_widened 20 = .ok (.aload_n 0, 1) := by decide +kernel
theorem dX4_widened_21 : decode cX4_widened 21 = .ok (.getfield 13, 3) := by decide +kernel
theorem dX4_widened_24 : decode cX4_widened 24 = .ok (.iload_n 1, 1) := by decide +kernel
theorem dX4_widened_25 : decode cX4_widened 25 = .ok (.baload, 1) := by decide +kernel
theorem dX4_widened_26 : decode cX4_widened 26 = .ok (.ifCond .ne 12, 3) := by decide +kernel
theorem dX4_widened_29 : decode cX4_widened 29 = .ok (.aload_n 0, 1) := by decide +kernel
theorem dX4_widened_30 : decode cX4_widened 30 = .ok (.getfield 13, 3) := by decide +kernel
theorem dX4_widened_33 : decode cX4_widened 33 = .ok (.iload_n 2, 1) := by decide +kernel
theorem dX4_widened_34 : decode cX4_widened 34 = .ok (.baload, 1) := by decide +kernel
theorem dX4_widened_35 : decode cX4_widened 35 = .ok (.ifCond .eq 4, 3) := by decide +kernel
theorem dX4_widened_38 : decode cX4_widened 38 = .ok (.return_, 1) := by decide +kernel
theorem dX4_widened_39 : decode cX4_widened 39 = .ok (.iconst 0, 1) := by decide +kernel
theorem dX4_widened_40 : decode cX4_widened 40 = .ok (.istore_n 3, 1) := by decide +kernel
theorem dX4_widened_41 : decode cX4_widened 41 = .ok (.iload_n 3, 1) := by decide +kernel
theorem dX4_widened_42 : decode cX4_widened 42 = .ok (.sipush 144, 3) := by decide +kernel
theorem dX4_widened_45 : decode cX4_widened 45 = .ok (.if_icmp .ge 77, 3) := by decide +kernel
theorem dX4_widened_48 : decode cX4_widened 48 = .ok (.aload_n 0, 1) := by decide +kernel
theorem dX4_widened_49 : decode cX4_widened 49 = .ok (.getfield 7, 3) := by decide +kernel
theorem dX4_widened_52 : decode cX4_widened 52 = .ok (.sipush 144, 3) := by decide +kernel
theorem dX4_widened_55 : decode cX4_widened 55 = .ok (.iload_n 2, 1) := by decide +kernel
theorem dX4_widened_56 : decode cX4_widened 56 = .ok (.imul, 1) := by decide +kernel
theorem dX4_widened_57 : decode cX4_widened 57 = .ok (.iload_n 3, 1) := by decide +kernel
theorem dX4_widened_58 : decode cX4_widened 58 = .ok (.iadd, 1) := by decide +kernel
theorem dX4_widened_59 : decode cX4_widened 59 = .ok (.laload, 1) := by decide +kernel
theorem dX4_widened_60 : decode cX4_widened 60 = .ok (.aload_n 0, 1) := by decide +kernel
theorem dX4_widened_61 : decode cX4_widened 61 = .ok (.getfield 7, 3) := by decide +kernel
theorem dX4_widened_64 : decode cX4_widened 64 = .ok (.sipush 144, 3) := by decide +kernel
theorem dX4_widened_67 : decode cX4_widened 67 = .ok (.iload_n 1, 1) := by decide +kernel
theorem dX4_widened_68 : decode cX4_widened 68 = .ok (.imul, 1) := by decide +kernel
theorem dX4_widened_69 : decode cX4_widened 69 = .ok (.iload_n 3, 1) := by decide +kernel
theorem dX4_widened_70 : decode cX4_widened 70 = .ok (.iadd, 1) := by decide +kernel
theorem dX4_widened_71 : decode cX4_widened 71 = .ok (.laload, 1) := by decide +kernel
theorem dX4_widened_72 : decode cX4_widened 72 = .ok (.lcmp, 1) := by decide +kernel
theorem dX4_widened_73 : decode cX4_widened 73 = .ok (.ifCond .gt 7, 3) := by decide +kernel
theorem dX4_widened_76 : decode cX4_widened 76 = .ok (.iconst 1, 1) := by decide +kernel
theorem dX4_widened_77 : decode cX4_widened 77 = .ok (.goto 4, 3) := by decide +kernel
theorem dX4_widened_80 : decode cX4_widened 80 = .ok (.iconst 0, 1) := by decide +kernel
theorem dX4_widened_81 : decode cX4_widened 81 = .ok (.istore 4, 2) := by decide +kernel
theorem dX4_widened_83 : decode cX4_widened 83 = .ok (.aload_n 0, 1) := by decide +kernel
theorem dX4_widened_84 : decode cX4_widened 84 = .ok (.getfield 7, 3) := by decide +kernel
theorem dX4_widened_87 : decode cX4_widened 87 = .ok (.sipush 3312, 3) := by decide +kernel
theorem dX4_widened_90 : decode cX4_widened 90 = .ok (.iload_n 3, 1) := by decide +kernel
theorem dX4_widened_91 : decode cX4_widened 91 = .ok (.iadd, 1) := by decide +kernel
theorem dX4_widened_92 : decode cX4_widened 92 = .ok (.iload 4, 2) := by decide +kernel
theorem dX4_widened_94 : decode cX4_widened 94 = .ok (.ifCond .eq 18, 3) := by decide +kernel
theorem dX4_widened_97 : decode cX4_widened 97 = .ok (.aload_n 0, 1) := by decide +kernel
theorem dX4_widened_98 : decode cX4_widened 98 = .ok (.getfield 7, 3) := by decide +kernel
theorem dX4_widened_101 : decode cX4_widened 101 = .ok (.sipush 144, 3) := by decide +kernel
theorem dX4_widened_104 : decode cX4_widened 104 = .ok (.iload_n 1, 1) := by decide +kernel
theorem dX4_widened_105 : decode cX4_widened 105 = .ok (.imul, 1) := by decide +kernel
theorem dX4_widened_106 : decode cX4_widened 106 = .ok (.iload_n 3, 1) := by decide +kernel
theorem dX4_widened_107 : decode cX4_widened 107 = .ok (.iadd, 1) := by decide +kernel
theorem dX4_widened_108 : decode cX4_widened 108 = .ok (.laload, 1) := by decide +kernel
theorem dX4_widened_109 : decode cX4_widened 109 = .ok (.goto 6, 3) := by decide +kernel
theorem dX4_widened_112 : decode cX4_widened 112 = .ok (.ldc2_w 45, 3) := by decide +kernel
theorem dX4_widened_115 : decode cX4_widened 115 = .ok (.lastore, 1) := by decide +kernel
theorem dX4_widened_116 : decode cX4_widened 116 = .ok (.iinc 3 1, 3) := by decide +kernel
theorem dX4_widened_119 : decode cX4_widened 119 = .ok (.goto (-78), 3) := by decide +kernel
theorem dX4_widened_122 : decode cX4_widened 122 = .ok (.aload_n 0, 1) := by decide +kernel
theorem dX4_widened_123 : decode cX4_widened 123 = .ok (.bipush 23, 2) := by decide +kernel
theorem dX4_widened_125 : decode cX4_widened 125 = .ok (.invokevirtual 97, 3) := by decide +kernel
theorem dX4_widened_128 : decode cX4_widened 128 = .ok (.return_, 1) := by decide +kernel
set_option maxRecDepth 20000 in
theorem ggX4_widen_X4_areSlots : GoodIn wsX4_widen wsX4_areSlots := goodIn_r _ [4, 5, 6, 3, 7, 8, 9, 10] (by decide +kernel) (by decide +kernel)
set_option maxRecDepth 20000 in
theorem gX4_widen_X4_areSlots : GoodIn wsX4_widen (va_wsS RX4 118 yX4_areSlots wsX4_areSlots) := goodIn_app (goodIn_of _ (by decide +kernel)) ggX4_widen_X4_areSlots
set_option maxRecDepth 20000 in
theorem ggX4_widen_X4_refused : GoodIn wsX4_widen wsX4_refused := goodIn_r _ [14, 15, 53, 54, 55, 56, 57, 58, 59, 60, 61, 62, 63, 64, 65] (by decide +kernel) (by decide +kernel)
set_option maxRecDepth 20000 in
theorem gX4_widen_X4_refused : GoodIn wsX4_widen (wsV RX4 108 RX4 yX4_refused wsX4_refused) := goodIn_app (goodIn_of _ (by decide +kernel)) ggX4_widen_X4_refused
set_option maxRecDepth 20000 in
theorem ggX4_widen_X4_widened : GoodIn wsX4_widen wsX4_widened := goodIn_r _ [19, 20, 21, 22, 23, 24, 25, 3, 26, 27, 28, 29, 30, 31, 32, 33, 34, 35, 36, 37, 38, 39, 40, 41, 42, 43, 44, 45, 46, 47, 48, 49, 50, 51, 52, 53, 54, 55, 56, 57, 58, 59, 60, 61, 62, 63, 64, 65] (by decide +kernel) (by decide +kernel)
set_option maxRecDepth 20000 in
theorem gX4_widen_X4_widened : GoodIn wsX4_widen (wsV RX4 124 RX4 yX4_widened wsX4_widened) := goodIn_app (goodIn_of _ (by decide +kernel)) ggX4_widen_X4_widened
set_option maxRecDepth 20000 in
theorem ggX4_widen_X4_load : GoodIn wsX4_widen wsX4_load := goodIn_r _ [26, 21, 20, 53, 54, 55, 56, 57, 58, 59, 60, 61, 62, 63, 64, 65] (by decide +kernel) (by decide +kernel)
set_option maxRecDepth 20000 in
theorem gX4_widen_X4_load : GoodIn wsX4_widen (wsV RX4 87 RX4 yX4_load wsX4_load) := goodIn_app (goodIn_of _ (by decide +kernel)) ggX4_widen_X4_load
theorem dX4_widen_0 : decode cX4_widen 0 = .ok (.aload_n 0, 1) := by decide +kernel
theorem dX4_widen_1 : decode cX4_widen 1 = .ok (.iload_n 1, 1) := by decide +kernel
theorem dX4_widen_2 : decode cX4_widen 2 = .ok (.iload_n 2, 1) := by decide +kernel
theorem dX4_widen_3 : decode cX4_widen 3 = .ok (.iload_n 3, 1) := by decide +kernel
theorem dX4_widen_4 : decode cX4_widen 4 = .ok (.invokestatic 118, 3) := by decide +kernel
theorem dX4_widen_7 : decode cX4_widen 7 = .ok (.ifCond .eq 7, 3) := by decide +kernel
theorem dX4_widen_10 : decode cX4_widen 10 = .ok (.iconst 0, 1) := by decide +kernel
theorem dX4_widen_11 : decode cX4_widen 11 = .ok (.goto 4, 3) := by decide +kernel
theorem dX4_widen_14 : decode cX4_widen 14 = .ok (.iconst 1, 1) := by decide +kernel
theorem dX4_widen_15 : decode cX4_widen 15 = .ok (.invokevirtual 108, 3) := by decide +kernel
theorem dX4_widen_18 : decode cX4_widen 18 = .ok (.ifCond .ne 16, 3) := by decide +kernel
theorem dX4_widen_21 : decode cX4_widen 21 = .ok (.aload_n 0, 1) := by decide +kernel
theorem dX4_widen_22 : decode cX4_widen 22 = .ok (.iload_n 2, 1) := by decide +kernel
theorem dX4_widen_23 : decode cX4_widen 23 = .ok (.iload_n 3, 1) := by decide +kernel
theorem dX4_widen_24 : decode cX4_widen 24 = .ok (.invokevirtual 124, 3) := by decide +kernel
theorem dX4_widen_27 : decode cX4_widen 27 = .ok (.aload_n 0, 1) := by decide +kernel
theorem dX4_widen_28 : decode cX4_widen 28 = .ok (.iload_n 1, 1) := by decide +kernel
theorem dX4_widen_29 : decode cX4_widen 29 = .ok (.bipush 23, 2) := by decide +kernel
theorem dX4_widen_31 : decode cX4_widen 31 = .ok (.invokevirtual 87, 3) := by decide +kernel
theorem dX4_widen_34 : decode cX4_widen 34 = .ok (.return_, 1) := by decide +kernel
set_option maxRecDepth 20000 in
theorem ggX4_forget_X4_isSlot : GoodIn wsX4_forget wsX4_isSlot := goodIn_r _ [4, 5, 6, 3, 7] (by decide +kernel) (by decide +kernel)
set_option maxRecDepth 20000 in
theorem gX4_forget_X4_isSlot : GoodIn wsX4_forget (va_wsS RX4 101 yX4_isSlot wsX4_isSlot) := goodIn_app (goodIn_of _ (by decide +kernel)) ggX4_forget_X4_isSlot
set_option maxRecDepth 20000 in
theorem ggX4_forget_X4_isIn : GoodIn wsX4_forget wsX4_isIn := goodIn_r _ [7] (by decide +kernel) (by decide +kernel)
set_option maxRecDepth 20000 in
theorem gX4_forget_X4_isIn : GoodIn wsX4_forget (va_wsS RX4 51 yX4_isIn wsX4_isIn) := goodIn_app (goodIn_of _ (by decide +kernel)) ggX4_forget_X4_isIn
set_option maxRecDepth 20000 in
theorem ggX4_forget_X4_refused : GoodIn wsX4_forget wsX4_refused := goodIn_r _ [11, 12, 23, 24, 25, 26, 27, 28, 29, 30, 31, 32, 33, 34, 35] (by decide +kernel) (by decide +kernel)
set_option maxRecDepth 20000 in
theorem gX4_forget_X4_refused : GoodIn wsX4_forget (wsV RX4 108 RX4 yX4_refused wsX4_refused) := goodIn_app (goodIn_of _ (by decide +kernel)) ggX4_forget_X4_refused
set_option maxRecDepth 20000 in
theorem ggX4_forget_X4_drop : GoodIn wsX4_forget wsX4_drop := goodIn_r _ [16, 17, 18, 19, 20, 3, 21, 22, 23, 24, 25, 26, 27, 28, 29, 30, 31, 32, 33, 34, 35] (by decide +kernel) (by decide +kernel)
set_option maxRecDepth 20000 in
theorem gX4_forget_X4_drop : GoodIn wsX4_forget (wsV RX4 94 RX4 yX4_drop wsX4_drop) := goodIn_app (goodIn_of _ (by decide +kernel)) ggX4_forget_X4_drop
theorem dX4_forget_0 : decode cX4_forget 0 = .ok (.aload_n 0, 1) := by decide +kernel
theorem dX4_forget_1 : decode cX4_forget 1 = .ok (.iload_n 1, 1) := by decide +kernel
theorem dX4_forget_2 : decode cX4_forget 2 = .ok (.invokestatic 101, 3) := by decide +kernel
theorem dX4_forget_5 : decode cX4_forget 5 = .ok (.ifCond .eq 16, 3) := by decide +kernel
theorem dX4_forget_8 : decode cX4_forget 8 = .ok (.iload_n 2, 1) := by decide +kernel
theorem dX4_forget_9 : decode cX4_forget 9 = .ok (.iconst 0, 1) := by decide +kernel
theorem dX4_forget_10 : decode cX4_forget 10 = .ok (.iconst 5, 1) := by decide +kernel
theorem dX4_forget_11 : decode cX4_forget 11 = .ok (.invokestatic 51, 3) := by decide +kernel
theorem dX4_forget_14 : decode cX4_forget 14 = .ok (.ifCond .eq 7, 3) := by decide +kernel
theorem dX4_forget_17 : decode cX4_forget 17 = .ok (.iconst 0, 1) := by decide +kernel
theorem dX4_forget_18 : decode cX4_forget 18 = .ok (.goto 4, 3) := by decide +kernel
theorem dX4_forget_21 : decode cX4_forget 21 = .ok (.iconst 1, 1) := by decide +kernel
theorem dX4_forget_22 : decode cX4_forget 22 = .ok (.invokevirtual 108, 3) := by decide +kernel
theorem dX4_forget_25 : decode cX4_forget 25 = .ok (.ifCond .ne 9, 3) := by decide +kernel
theorem dX4_forget_28 : decode cX4_forget 28 = .ok (.aload_n 0, 1) := by decide +kernel
theorem dX4_forget_29 : decode cX4_forget 29 = .ok (.iload_n 1, 1) := by decide +kernel
theorem dX4_forget_30 : decode cX4_forget 30 = .ok (.iload_n 2, 1) := by decide +kernel
theorem dX4_forget_31 : decode cX4_forget 31 = .ok (.invokevirtual 94, 3) := by decide +kernel
theorem dX4_forget_34 : decode cX4_forget 34 = .ok (.return_, 1) := by decide +kernel
set_option maxRecDepth 20000 in
theorem ggX4_isEmpty_X4_isSlot : GoodIn wsX4_isEmpty wsX4_isSlot := goodIn_r _ [5, 6, 7, 4, 8] (by decide +kernel) (by decide +kernel)
set_option maxRecDepth 20000 in
theorem gX4_isEmpty_X4_isSlot : GoodIn wsX4_isEmpty (va_wsS RX4 101 yX4_isSlot wsX4_isSlot) := goodIn_app (goodIn_of _ (by decide +kernel)) ggX4_isEmpty_X4_isSlot
set_option maxRecDepth 20000 in
theorem ggX4_isEmpty_X4_refused : GoodIn wsX4_isEmpty wsX4_refused := goodIn_r _ [12, 13, 14, 15, 16, 17, 18, 19, 20, 21, 22, 23, 24, 25, 26] (by decide +kernel) (by decide +kernel)
set_option maxRecDepth 20000 in
theorem gX4_isEmpty_X4_refused : GoodIn wsX4_isEmpty (wsV RX4 108 RX4 yX4_refused wsX4_refused) := goodIn_app (goodIn_of _ (by decide +kernel)) ggX4_isEmpty_X4_refused
theorem dX4_isEmpty_0 : decode cX4_isEmpty 0 = .ok (.aload_n 0, 1) := by decide +kernel
theorem dX4_isEmpty_1 : decode cX4_isEmpty 1 = .ok (.iload_n 1, 1) := by decide +kernel
theorem dX4_isEmpty_2 : decode cX4_isEmpty 2 = .ok (.invokestatic 101, 3) := by decide +kernel
theorem dX4_isEmpty_5 : decode cX4_isEmpty 5 = .ok (.ifCond .eq 7, 3) := by decide +kernel
theorem dX4_isEmpty_8 : decode cX4_isEmpty 8 = .ok (.iconst 0, 1) := by decide +kernel
theorem dX4_isEmpty_9 : decode cX4_isEmpty 9 = .ok (.goto 4, 3) := by decide +kernel
theorem dX4_isEmpty_12 : decode cX4_isEmpty 12 = .ok (.iconst 1, 1) := by decide +kernel
theorem dX4_isEmpty_13 : decode cX4_isEmpty 13 = .ok (.invokevirtual 108, 3) := by decide +kernel
theorem dX4_isEmpty_16 : decode cX4_isEmpty 16 = .ok (.ifCond .ne 16, 3) := by decide +kernel
theorem dX4_isEmpty_19 : decode cX4_isEmpty 19 = .ok (.aload_n 0, 1) := by decide +kernel
theorem dX4_isEmpty_20 : decode cX4_isEmpty 20 = .ok (.getfield 13, 3) := by decide +kernel
theorem dX4_isEmpty_23 : decode cX4_isEmpty 23 = .ok (.iload_n 1, 1) := by decide +kernel
theorem dX4_isEmpty_24 : decode cX4_isEmpty 24 = .ok (.baload, 1) := by decide +kernel
theorem dX4_isEmpty_25 : decode cX4_isEmpty 25 = .ok (.ifCond .eq 7, 3) := by decide +kernel
theorem dX4_isEmpty_28 : decode cX4_isEmpty 28 = .ok (.iconst 1, 1) := by decide +kernel
theorem dX4_isEmpty_29 : decode cX4_isEmpty 29 = .ok (.goto 4, 3) := by decide +kernel
theorem dX4_isEmpty_32 : decode cX4_isEmpty 32 = .ok (.iconst 0, 1) := by decide +kernel
theorem dX4_isEmpty_33 : decode cX4_isEmpty 33 = .ok (.ireturn, 1) := by decide +kernel
set_option maxRecDepth 20000 in
theorem ggX4_most_X4_isSlot : GoodIn wsX4_most wsX4_isSlot := goodIn_r _ [5, 6, 7, 4, 8] (by decide +kernel) (by decide +kernel)
set_option maxRecDepth 20000 in
theorem gX4_most_X4_isSlot : GoodIn wsX4_most (va_wsS RX4 101 yX4_isSlot wsX4_isSlot) := goodIn_app (goodIn_of _ (by decide +kernel)) ggX4_most_X4_isSlot
set_option maxRecDepth 20000 in
theorem ggX4_most_X4_isTerm : GoodIn wsX4_most wsX4_isTerm := goodIn_r _ [11, 6, 7, 4, 8] (by decide +kernel) (by decide +kernel)
set_option maxRecDepth 20000 in
theorem gX4_most_X4_isTerm : GoodIn wsX4_most (va_wsS RX4 84 yX4_isTerm wsX4_isTerm) := goodIn_app (goodIn_of _ (by decide +kernel)) ggX4_most_X4_isTerm
set_option maxRecDepth 20000 in
theorem ggX4_most_X4_minus : GoodIn wsX4_most wsX4_minus := goodIn_r _ [14] (by decide +kernel) (by decide +kernel)
set_option maxRecDepth 20000 in
theorem gX4_most_X4_minus : GoodIn wsX4_most (va_wsS RX4 57 yX4_minus wsX4_minus) := goodIn_app (goodIn_of _ (by decide +kernel)) ggX4_most_X4_minus
set_option maxRecDepth 20000 in
theorem ggX4_most_X4_refused : GoodIn wsX4_most wsX4_refused := goodIn_r _ [18, 19, 25, 26, 27, 28, 29, 30, 31, 32, 33, 34, 35, 36, 37] (by decide +kernel) (by decide +kernel)
set_option maxRecDepth 20000 in
theorem gX4_most_X4_refused : GoodIn wsX4_most (wsV RX4 108 RX4 yX4_refused wsX4_refused) := goodIn_app (goodIn_of _ (by decide +kernel)) ggX4_most_X4_refused
set_option maxRecDepth 20000 in
theorem ggX4_most_X4_get : GoodIn wsX4_most wsX4_get := goodIn_r _ [23, 24, 25, 26, 27, 28, 29, 30, 31, 32, 33, 34, 35, 36, 37] (by decide +kernel) (by decide +kernel)
set_option maxRecDepth 20000 in
theorem gX4_most_X4_get : GoodIn wsX4_most (wsV RX4 61 RX4 yX4_get wsX4_get) := goodIn_app (goodIn_of _ (by decide +kernel)) ggX4_most_X4_get
theorem dX4_most_0 : decode cX4_most 0 = .ok (.iload_n 1, 1) := by decide +kernel
theorem dX4_most_1 : decode cX4_most 1 = .ok (.invokestatic 101, 3) := by decide +kernel
theorem dX4_most_4 : decode cX4_most 4 = .ok (.ifCond .eq 29, 3) := by decide +kernel
theorem dX4_most_7 : decode cX4_most 7 = .ok (.iload_n 2, 1) := by decide +kernel
theorem dX4_most_8 : decode cX4_most 8 = .ok (.invokestatic 84, 3) := by decide +kernel
theorem dX4_most_11 : decode cX4_most 11 = .ok (.ifCond .eq 22, 3) := by decide +kernel
theorem dX4_most_14 : decode cX4_most 14 = .ok (.iload_n 3, 1) := by decide +kernel
theorem dX4_most_15 : decode cX4_most 15 = .ok (.invokestatic 84, 3) := by decide +kernel
theorem dX4_most_18 : decode cX4_most 18 = .ok (.ifCond .eq 15, 3) := by decide +kernel
theorem dX4_most_21 : decode cX4_most 21 = .ok (.iload_n 2, 1) := by decide +kernel
theorem dX4_most_22 : decode cX4_most 22 = .ok (.iload_n 3, 1) := by decide +kernel
theorem dX4_most_23 : decode cX4_most 23 = .ok (.invokestatic 57, 3) := by decide +kernel
theorem dX4_most_26 : decode cX4_most 26 = .ok (.if_icmp .eq 7, 3) := by decide +kernel
theorem dX4_most_29 : decode cX4_most 29 = .ok (.iconst 1, 1) := by decide +kernel
theorem dX4_most_30 : decode cX4_most 30 = .ok (.goto 4, 3) := by decide +kernel
theorem dX4_most_33 : decode cX4_most 33 = .ok (.iconst 0, 1) := by decide +kernel
theorem dX4_most_34 : decode cX4_most 34 = .ok (.istore 4, 2) := by decide +kernel
theorem dX4_most_36 : decode cX4_most 36 = .ok (.aload_n 0, 1) := by decide +kernel
theorem dX4_most_37 : decode cX4_most 37 = .ok (.iload 4, 2) := by decide +kernel
theorem dX4_most_39 : decode cX4_most 39 = .ok (.ifCond .ne 7, 3) := by decide +kernel
theorem dX4_most_42 : decode cX4_most 42 = .ok (.iconst 1, 1) := by decide +kernel
theorem dX4_most_43 : decode cX4_most 43 = .ok (.goto 17, 3) := by decide +kernel
theorem dX4_most_46 : decode cX4_most 46 = .ok (.aload_n 0, 1) := by decide +kernel
theorem dX4_most_47 : decode cX4_most 47 = .ok (.getfield 13, 3) := by decide +kernel
theorem dX4_most_50 : decode cX4_most 50 = .ok (.iload_n 1, 1) := by decide +kernel
theorem dX4_most_51 : decode cX4_most 51 = .ok (.baload, 1) := by decide +kernel
theorem dX4_most_52 : decode cX4_most 52 = .ok (.ifCond .eq 7, 3) := by decide +kernel
theorem dX4_most_55 : decode cX4_most 55 = .ok (.iconst 2, 1) := by decide +kernel
theorem dX4_most_56 : decode cX4_most 56 = .ok (.goto 4, 3) := by decide +kernel
theorem dX4_most_59 : decode cX4_most 59 = .ok (.iconst 0, 1) := by decide +kernel
theorem dX4_most_60 : decode cX4_most 60 = .ok (.invokevirtual 108, 3) := by decide +kernel
theorem dX4_most_63 : decode cX4_most 63 = .ok (.ifCond .eq 7, 3) := by decide +kernel
theorem dX4_most_66 : decode cX4_most 66 = .ok (.lconst 0, 1) := by decide +kernel
theorem dX4_most_67 : decode cX4_most 67 = .ok (.goto 10, 3) := by decide +kernel
theorem dX4_most_70 : decode cX4_most 70 = .ok (.aload_n 0, 1) := by decide +kernel
theorem dX4_most_71 : decode cX4_most 71 = .ok (.iload_n 1, 1) := by decide +kernel
theorem dX4_most_72 : decode cX4_most 72 = .ok (.iload_n 2, 1) := by decide +kernel
theorem dX4_most_73 : decode cX4_most 73 = .ok (.iload_n 3, 1) := by decide +kernel
theorem dX4_most_74 : decode cX4_most 74 = .ok (.invokevirtual 61, 3) := by decide +kernel
theorem dX4_most_77 : decode cX4_most 77 = .ok (.lreturn, 1) := by decide +kernel
theorem dX4_isWithin_0 : decode cX4_isWithin 0 = .ok (.aload_n 0, 1) := by decide +kernel
theorem dX4_isWithin_1 : decode cX4_isWithin 1 = .ok (.getfield 13, 3) := by decide +kernel
theorem dX4_isWithin_4 : decode cX4_isWithin 4 = .ok (.iload_n 1, 1) := by decide +kernel
theorem dX4_isWithin_5 : decode cX4_isWithin 5 = .ok (.baload, 1) := by decide +kernel
theorem dX4_isWithin_6 : decode cX4_isWithin 6 = .ok (.ifCond .ne 12, 3) := by decide +kernel
theorem dX4_isWithin_9 : decode cX4_isWithin 9 = .ok (.aload_n 0, 1) := by decide +kernel
theorem dX4_isWithin_10 : decode cX4_isWithin 10 = .ok (.getfield 13, 3) := by decide +kernel
theorem dX4_isWithin_13 : decode cX4_isWithin 13 = .ok (.iload_n 2, 1) := by decide +kernel
theorem dX4_isWithin_14 : decode cX4_isWithin 14 = .ok (.baload, 1) := by decide +kernel
theorem dX4_isWithin_15 : decode cX4_isWithin 15 = .ok (.ifCond .eq 10, 3) := by decide +kernel
theorem dX4_isWithin_18 : decode cX4_isWithin 18 = .ok (.aload_n 0, 1) := by decide +kernel
theorem dX4_isWithin_19 : decode cX4_isWithin 19 = .ok (.getfield 13, 3) := by decide +kernel
theorem dX4_isWithin_22 : decode cX4_isWithin 22 = .ok (.iload_n 1, 1) := by decide +kernel
theorem dX4_isWithin_23 : decode cX4_isWithin 23 = .ok (.baload, 1) := by decide +kernel
theorem dX4_isWithin_24 : decode cX4_isWithin 24 = .ok (.ireturn, 1) := by decide +kernel
theorem dX4_isWithin_25 : decode cX4_isWithin 25 = .ok (.iconst 1, 1) := by decide +kernel
theorem dX4_isWithin_26 : decode cX4_isWithin 26 = .ok (.istore_n 3, 1) := by decide +kernel
theorem dX4_isWithin_27 : decode cX4_isWithin 27 = .ok (.iconst 0, 1) := by decide +kernel
theorem dX4_isWithin_28 : decode cX4_isWithin 28 = .ok (.istore 4, 2) := by decide +kernel
theorem dX4_isWithin_30 : decode cX4_isWithin 30 = .ok (.iload 4, 2) := by decide +kernel
theorem dX4_isWithin_32 : decode cX4_isWithin 32 = .ok (.sipush 144, 3) := by decide +kernel
theorem dX4_isWithin_35 : decode cX4_isWithin 35 = .ok (.if_icmp .ge 49, 3) := by decide +kernel
theorem dX4_isWithin_38 : decode cX4_isWithin 38 = .ok (.iload_n 3, 1) := by decide +kernel
theorem dX4_isWithin_39 : decode cX4_isWithin 39 = .ok (.ifCond .eq 37, 3) := by decide +kernel
theorem dX4_isWithin_42 : decode cX4_isWithin 42 = .ok (.aload_n 0, 1) := by decide +kernel
theorem dX4_isWithin_43 : decode cX4_isWithin 43 = .ok (.getfield 7, 3) := by decide +kernel
theorem dX4_isWithin_46 : decode cX4_isWithin 46 = .ok (.sipush 144, 3) := by decide +kernel
theorem dX4_isWithin_49 : decode cX4_isWithin 49 = .ok (.iload_n 1, 1) := by decide +kernel
theorem dX4_isWithin_50 : decode cX4_isWithin 50 = .ok (.imul, 1) := by decide +kernel
theorem dX4_isWithin_51 : decode cX4_isWithin 51 = .ok (.iload 4, 2) := by decide +kernel
theorem dX4_isWithin_53 : decode cX4_isWithin 53 = .ok (.iadd, 1) := by decide +kernel
theorem dX4_isWithin_54 : decode cX4_isWithin 54 = .ok (.laload, 1) := by decide +kernel
theorem dX4_isWithin_55 : decode cX4_isWithin 55 = .ok (.aload_n 0, 1) := by decide +kernel
theorem dX4_isWithin_56 : decode cX4_isWithin 56 = .ok (.getfield 7, 3) := by decide +kernel
theorem dX4_isWithin_59 : decode cX4_isWithin 59 = .ok (.sipush 144, 3) := by decide +kernel
theorem dX4_isWithin_62 : decode cX4_isWithin 62 = .ok (.iload_n 2, 1) := by decide +kernel
theorem dX4_isWithin_63 : decode cX4_isWithin 63 = .ok (.imul, 1) := by decide +kernel
theorem dX4_isWithin_64 : decode cX4_isWithin 64 = .ok (.iload 4, 2) := by decide +kernel
theorem dX4_isWithin_66 : decode cX4_isWithin 66 = .ok (.iadd, 1) := by decide +kernel
theorem dX4_isWithin_67 : decode cX4_isWithin 67 = .ok (.laload, 1) := by decide +kernel
theorem dX4_isWithin_68 : decode cX4_isWithin 68 = .ok (.lcmp, 1) := by decide +kernel
theorem dX4_isWithin_69 : decode cX4_isWithin 69 = .ok (.ifCond .gt 7, 3) := by decide +kernel
theorem dX4_isWithin_72 : decode cX4_isWithin 72 = .ok (.iconst 1, 1) := by decide +kernel
theorem dX4_isWithin_73 : decode cX4_isWithin 73 = .ok (.goto 4, 3) := by decide +kernel
theorem dX4_isWithin_76 : decode cX4_isWithin 76 = .ok (.iconst 0, 1) := by decide +kernel
theorem dX4_isWithin_77 : decode cX4_isWithin 77 = .ok (.istore_n 3, 1) := by decide +kernel
theorem dX4_isWithin_78 : decode cX4_isWithin 78 = .ok (.iinc 4 1, 3) := by decide +kernel
theorem dX4_isWithin_81 : decode cX4_isWithin 81 = .ok (.goto (-51), 3) := by decide +kernel
theorem dX4_isWithin_84 : decode cX4_isWithin 84 = .ok (.iload_n 3, 1) := by decide +kernel
theorem dX4_isWithin_85 : decode cX4_isWithin 85 = .ok (.ireturn, 1) := by decide +kernel
set_option maxRecDepth 20000 in
theorem ggX4_inside_X4_isSlot : GoodIn wsX4_inside wsX4_isSlot := goodIn_r _ [4, 5, 6, 3, 7] (by decide +kernel) (by decide +kernel)
set_option maxRecDepth 20000 in
theorem gX4_inside_X4_isSlot : GoodIn wsX4_inside (va_wsS RX4 101 yX4_isSlot wsX4_isSlot) := goodIn_app (goodIn_of _ (by decide +kernel)) ggX4_inside_X4_isSlot
set_option maxRecDepth 20000 in
theorem ggX4_inside_X4_refused : GoodIn wsX4_inside wsX4_refused := goodIn_r _ [11, 12, 19, 20, 21, 22, 23, 24, 25, 26, 27, 28, 29, 30, 31] (by decide +kernel) (by decide +kernel)
set_option maxRecDepth 20000 in
theorem gX4_inside_X4_refused : GoodIn wsX4_inside (wsV RX4 108 RX4 yX4_refused wsX4_refused) := goodIn_app (goodIn_of _ (by decide +kernel)) ggX4_inside_X4_refused
set_option maxRecDepth 20000 in
theorem ggX4_inside_X4_isWithin : GoodIn wsX4_inside wsX4_isWithin := goodIn_r _ [16, 17, 18, 19, 20, 21, 22, 23, 24, 25, 26, 27, 28, 29, 30, 31] (by decide +kernel) (by decide +kernel)
set_option maxRecDepth 20000 in
theorem gX4_inside_X4_isWithin : GoodIn wsX4_inside (wsV RX4 127 RX4 yX4_isWithin wsX4_isWithin) := goodIn_app (goodIn_of _ (by decide +kernel)) ggX4_inside_X4_isWithin
theorem dX4_inside_0 : decode cX4_inside 0 = .ok (.aload_n 0, 1) := by decide +kernel
theorem dX4_inside_1 : decode cX4_inside 1 = .ok (.iload_n 1, 1) := by decide +kernel
theorem dX4_inside_2 : decode cX4_inside 2 = .ok (.invokestatic 101, 3) := by decide +kernel
theorem dX4_inside_5 : decode cX4_inside 5 = .ok (.ifCond .eq 14, 3) := by decide +kernel
theorem dX4_inside_8 : decode cX4_inside 8 = .ok (.iload_n 2, 1) := by decide +kernel
theorem dX4_inside_9 : decode cX4_inside 9 = .ok (.invokestatic 101, 3) := by decide +kernel
theorem dX4_inside_12 : decode cX4_inside 12 = .ok (.ifCond .eq 7, 3) := by decide +kernel
theorem dX4_inside_15 : decode cX4_inside 15 = .ok (.iconst 0, 1) := by decide +kernel
theorem dX4_inside_16 : decode cX4_inside 16 = .ok (.goto 4, 3) := by decide +kernel
theorem dX4_inside_19 : decode cX4_inside 19 = .ok (.iconst 1, 1) := by decide +kernel
theorem dX4_inside_20 : decode cX4_inside 20 = .ok (.invokevirtual 108, 3) := by decide +kernel
theorem dX4_inside_23 : decode cX4_inside 23 = .ok (.ifCond .ne 16, 3) := by decide +kernel
theorem dX4_inside_26 : decode cX4_inside 26 = .ok (.aload_n 0, 1) := by decide +kernel
theorem dX4_inside_27 : decode cX4_inside 27 = .ok (.iload_n 1, 1) := by decide +kernel
theorem dX4_inside_28 : decode cX4_inside 28 = .ok (.iload_n 2, 1) := by decide +kernel
theorem dX4_inside_29 : decode cX4_inside 29 = .ok (.invokevirtual 127, 3) := by decide +kernel
theorem dX4_inside_32 : decode cX4_inside 32 = .ok (.ifCond .eq 7, 3) := by decide +kernel
theorem dX4_inside_35 : decode cX4_inside 35 = .ok (.iconst 1, 1) := by decide +kernel
theorem dX4_inside_36 : decode cX4_inside 36 = .ok (.goto 4, 3) := by decide +kernel
theorem dX4_inside_39 : decode cX4_inside 39 = .ok (.iconst 0, 1) := by decide +kernel
theorem dX4_inside_40 : decode cX4_inside 40 = .ok (.ireturn, 1) := by decide +kernel
set_option maxRecDepth 20000 in
theorem ggX4_bounds_X4_isSlot : GoodIn wsX4_bounds wsX4_isSlot := goodIn_r _ [6, 7, 8, 5, 9] (by decide +kernel) (by decide +kernel)
set_option maxRecDepth 20000 in
theorem gX4_bounds_X4_isSlot : GoodIn wsX4_bounds (va_wsS RX4 101 yX4_isSlot wsX4_isSlot) := goodIn_app (goodIn_of _ (by decide +kernel)) ggX4_bounds_X4_isSlot
set_option maxRecDepth 20000 in
theorem ggX4_bounds_X4_refused : GoodIn wsX4_bounds wsX4_refused := goodIn_r _ [13, 14, 23, 24, 25, 26, 27, 28, 29, 30, 31, 32, 33, 34, 35] (by decide +kernel) (by decide +kernel)
set_option maxRecDepth 20000 in
theorem gX4_bounds_X4_refused : GoodIn wsX4_bounds (wsV RX4 108 RX4 yX4_refused wsX4_refused) := goodIn_app (goodIn_of _ (by decide +kernel)) ggX4_bounds_X4_refused
set_option maxRecDepth 20000 in
theorem ggX4_bounds_X4_minus : GoodIn wsX4_bounds wsX4_minus := goodIn_r _ [17] (by decide +kernel) (by decide +kernel)
set_option maxRecDepth 20000 in
theorem gX4_bounds_X4_minus : GoodIn wsX4_bounds (va_wsS RX4 57 yX4_minus wsX4_minus) := goodIn_app (goodIn_of _ (by decide +kernel)) ggX4_bounds_X4_minus
set_option maxRecDepth 20000 in
theorem ggX4_bounds_X4_get : GoodIn wsX4_bounds wsX4_get := goodIn_r _ [21, 22, 23, 24, 25, 26, 27, 28, 29, 30, 31, 32, 33, 34, 35] (by decide +kernel) (by decide +kernel)
set_option maxRecDepth 20000 in
theorem gX4_bounds_X4_get : GoodIn wsX4_bounds (wsV RX4 61 RX4 yX4_get wsX4_get) := goodIn_app (goodIn_of _ (by decide +kernel)) ggX4_bounds_X4_get
theorem dX4_bounds_0 : decode cX4_bounds 0 = .ok (.aload_n 0, 1) := by decide +kernel
theorem dX4_bounds_1 : decode cX4_bounds 1 = .ok (.iload_n 1, 1) := by decide +kernel
theorem dX4_bounds_2 : decode cX4_bounds 2 = .ok (.invokestatic 101, 3) := by decide +kernel
theorem dX4_bounds_5 : decode cX4_bounds 5 = .ok (.ifCond .eq 7, 3) := by decide +kernel
theorem dX4_bounds_8 : decode cX4_bounds 8 = .ok (.iconst 0, 1) := by decide +kernel
theorem dX4_bounds_9 : decode cX4_bounds 9 = .ok (.goto 4, 3) := by decide +kernel
theorem dX4_bounds_12 : decode cX4_bounds 12 = .ok (.iconst 1, 1) := by decide +kernel
theorem dX4_bounds_13 : decode cX4_bounds 13 = .ok (.invokevirtual 108, 3) := by decide +kernel
theorem dX4_bounds_16 : decode cX4_bounds 16 = .ok (.ifCond .eq 5, 3) := by decide +kernel
theorem dX4_bounds_19 : decode cX4_bounds 19 = .ok (.iconst 0, 1) := by decide +kernel
theorem dX4_bounds_20 : decode cX4_bounds 20 = .ok (.ireturn, 1) := by decide +kernel
theorem dX4_bounds_21 : decode cX4_bounds 21 = .ok (.aload_n 0, 1) := by decide +kernel
theorem dX4_bounds_22 : decode cX4_bounds 22 = .ok (.getfield 13, 3) := by decide +kernel
theorem dX4_bounds_25 : decode cX4_bounds 25 = .ok (.iload_n 1, 1) := by decide +kernel
theorem dX4_bounds_26 : decode cX4_bounds 26 = .ok (.baload, 1) := by decide +kernel
theorem dX4_bounds_27 : decode cX4_bounds 27 = .ok (.ifCond .eq 5, 3) := by decide +kernel
theorem dX4_bounds_30 : decode cX4_bounds 30 = .ok (.iconst (-1), 1) := by decide +kernel
theorem dX4_bounds_31 : decode cX4_bounds 31 = .ok (.ireturn, 1) := by decide +kernel
theorem dX4_bounds_32 : decode cX4_bounds 32 = .ok (.iconst 0, 1) := by decide +kernel
theorem dX4_bounds_33 : decode cX4_bounds 33 = .ok (.istore_n 2, 1) := by decide +kernel
theorem dX4_bounds_34 : decode cX4_bounds 34 = .ok (.iconst 0, 1) := by decide +kernel
theorem dX4_bounds_35 : decode cX4_bounds 35 = .ok (.istore_n 3, 1) := by decide +kernel
theorem dX4_bounds_36 : decode cX4_bounds 36 = .ok (.iload_n 3, 1) := by decide +kernel
theorem dX4_bounds_37 : decode cX4_bounds 37 = .ok (.bipush 12, 2) := by decide +kernel
theorem dX4_bounds_39 : decode cX4_bounds 39 = .ok (.if_icmp .ge 56, 3) := by decide +kernel
theorem dX4_bounds_42 : decode cX4_bounds 42 = .ok (.iconst 0, 1) := by decide +kernel
theorem dX4_bounds_43 : decode cX4_bounds 43 = .ok (.istore 4, 2) := by decide +kernel
theorem dX4_bounds_45 : decode cX4_bounds 45 = .ok (.iload 4, 2) := by decide +kernel
theorem dX4_bounds_47 : decode cX4_bounds 47 = .ok (.iload_n 3, 1) := by decide +kernel
theorem dX4_bounds_48 : decode cX4_bounds 48 = .ok (.if_icmp .gt 41, 3) := by decide +kernel
theorem dX4_bounds_51 : decode cX4_bounds 51 = .ok (.iload 4, 2) := by decide +kernel
theorem dX4_bounds_53 : decode cX4_bounds 53 = .ok (.iload_n 3, 1) := by decide +kernel
theorem dX4_bounds_54 : decode cX4_bounds 54 = .ok (.invokestatic 57, 3) := by decide +kernel
theorem dX4_bounds_57 : decode cX4_bounds 57 = .ok (.if_icmp .eq 24, 3) := by decide +kernel
theorem dX4_bounds_60 : decode cX4_bounds 60 = .ok (.aload_n 0, 1) := by decide +kernel
theorem dX4_bounds_61 : decode cX4_bounds 61 = .ok (.iload_n 1, 1) := by decide +kernel
theorem dX4_bounds_62 : decode cX4_bounds 62 = .ok (.iload_n 3, 1) := by decide +kernel
theorem dX4_bounds_63 : decode cX4_bounds 63 = .ok (.iload 4, 2) := by decide +kernel
theorem dX4_bounds_65 : decode cX4_bounds 65 = .ok (.invokevirtual 61, 3) := by decide +kernel
theorem dX4_bounds_68 : decode cX4_bounds 68 = .ok (.ldc2_w 45, 3) := by decide +kernel
theorem dX4_bounds_71 : decode cX4_bounds 71 = .ok (.lcmp, 1) := by decide +kernel
theorem dX4_bounds_72 : decode cX4_bounds 72 = .ok (.ifCond .ge 9, 3) := by decide +kernel
theorem dX4_bounds_75 : decode cX4_bounds 75 = .ok (.iload_n 2, 1) := by decide +kernel
theorem dX4_bounds_76 : decode cX4_bounds 76 = .ok (.iconst 1, 1) := by decide +kernel
theorem dX4_bounds_77 : decode cX4_bounds 77 = .ok (.iadd, 1) := by decide +kernel
theorem dX4_bounds_78 : decode cX4_bounds 78 = .ok (.goto 4, 3) := by decide +kernel
theorem dX4_bounds_81 : decode cX4_bounds 81 = .ok (.iload_n 2, 1) := by decide +kernel
theorem dX4_bounds_82 : decode cX4_bounds 82 = .ok (.istore_n 2, 1) := by decide +kernel
theorem dX4_bounds_83 : decode cX4_bounds 83 = .ok (.iinc 4 1, 3) := by decide +kernel
theorem dX4_bounds_86 : decode cX4_bounds 86 = .ok (.goto (-41), 3) := by decide +kernel
theorem dX4_bounds_89 : decode cX4_bounds 89 = .ok (.iinc 3 1, 3) := by decide +kernel
theorem dX4_bounds_92 : decode cX4_bounds 92 = .ok (.goto (-56), 3) := by decide +kernel
theorem dX4_bounds_95 : decode cX4_bounds 95 = .ok (.iload_n 2, 1) := by decide +kernel
theorem dX4_bounds_96 : decode cX4_bounds 96 = .ok (.ireturn, 1) := by decide +kernel
set_option maxRecDepth 20000 in
theorem ggX4_first_X4_isSlot : GoodIn wsX4_first wsX4_isSlot := goodIn_r _ [6, 7, 8, 5, 9] (by decide +kernel) (by decide +kernel)
set_option maxRecDepth 20000 in
theorem gX4_first_X4_isSlot : GoodIn wsX4_first (va_wsS RX4 101 yX4_isSlot wsX4_isSlot) := goodIn_app (goodIn_of _ (by decide +kernel)) ggX4_first_X4_isSlot
set_option maxRecDepth 20000 in
theorem ggX4_first_X4_isIn : GoodIn wsX4_first wsX4_isIn := goodIn_r _ [9] (by decide +kernel) (by decide +kernel)
set_option maxRecDepth 20000 in
theorem gX4_first_X4_isIn : GoodIn wsX4_first (va_wsS RX4 51 yX4_isIn wsX4_isIn) := goodIn_app (goodIn_of _ (by decide +kernel)) ggX4_first_X4_isIn
set_option maxRecDepth 20000 in
theorem ggX4_first_X4_refused : GoodIn wsX4_first wsX4_refused := goodIn_r _ [13, 14, 46, 47, 48, 49, 50, 51, 52, 53, 54, 55, 56, 57, 58] (by decide +kernel) (by decide +kernel)
set_option maxRecDepth 20000 in
theorem gX4_first_X4_refused : GoodIn wsX4_first (wsV RX4 108 RX4 yX4_refused wsX4_refused) := goodIn_app (goodIn_of _ (by decide +kernel)) ggX4_first_X4_refused
set_option maxRecDepth 20000 in
theorem ggX4_first_X4_load : GoodIn wsX4_first wsX4_load := goodIn_r _ [18, 19, 1, 46, 47, 48, 49, 50, 51, 52, 53, 54, 55, 56, 57, 58] (by decide +kernel) (by decide +kernel)
set_option maxRecDepth 20000 in
theorem gX4_first_X4_load : GoodIn wsX4_first (wsV RX4 87 RX4 yX4_load wsX4_load) := goodIn_app (goodIn_of _ (by decide +kernel)) ggX4_first_X4_load
set_option maxRecDepth 20000 in
theorem ggX4_first_X4_get : GoodIn wsX4_first wsX4_get := goodIn_r _ [23, 19, 46, 47, 48, 49, 50, 51, 52, 53, 54, 55, 56, 57, 58] (by decide +kernel) (by decide +kernel)
set_option maxRecDepth 20000 in
theorem gX4_first_X4_get : GoodIn wsX4_first (wsV RX4 61 RX4 yX4_get wsX4_get) := goodIn_app (goodIn_of _ (by decide +kernel)) ggX4_first_X4_get
set_option maxRecDepth 20000 in
theorem ggX4_first_X4_set : GoodIn wsX4_first wsX4_set := goodIn_r _ [27, 19, 46, 47, 48, 49, 50, 51, 52, 53, 54, 55, 56, 57, 58] (by decide +kernel) (by decide +kernel)
set_option maxRecDepth 20000 in
theorem gX4_first_X4_set : GoodIn wsX4_first (wsV RX4 69 RX4 yX4_set wsX4_set) := goodIn_app (goodIn_of _ (by decide +kernel)) ggX4_first_X4_set
set_option maxRecDepth 20000 in
theorem ggX4_first_X4_close : GoodIn wsX4_first wsX4_close := goodIn_r _ [31, 1, 20, 21, 22, 5, 23, 19, 32, 33, 34, 2, 35, 36, 37, 38, 39, 40, 41, 24, 25, 26, 27, 42, 43, 44, 45, 46, 47, 48, 49, 50, 51, 52, 53, 54, 55, 56, 57, 58] (by decide +kernel) (by decide +kernel)
set_option maxRecDepth 20000 in
theorem gX4_first_X4_close : GoodIn wsX4_first (wsV RX4 97 RX4 yX4_close wsX4_close) := goodIn_app (goodIn_of _ (by decide +kernel)) ggX4_first_X4_close
theorem dX4_first_0 : decode cX4_first 0 = .ok (.aload_n 0, 1) := by decide +kernel
theorem dX4_first_1 : decode cX4_first 1 = .ok (.iload_n 1, 1) := by decide +kernel
theorem dX4_first_2 : decode cX4_first 2 = .ok (.invokestatic 101, 3) := by decide +kernel
theorem dX4_first_5 : decode cX4_first 5 = .ok (.ifCond .eq 12, 3) := by decide +kernel
theorem dX4_first_8 : decode cX4_first 8 = .ok (.iload_n 2, 1) := by decide +kernel
theorem dX4_first_9 : decode cX4_first 9 = .ok (.iconst 0, 1) := by decide +kernel
theorem dX4_first_10 : decode cX4_first 10 = .ok (.iconst 5, 1) := by decide +kernel
theorem dX4_first_11 : decode cX4_first 11 = .ok (.invokestatic 51, 3) := by decide +kernel
theorem dX4_first_14 : decode cX4_first 14 = .ok (.ifCond .ne 7, 3) := by decide +kernel
theorem dX4_first_17 : decode cX4_first 17 = .ok (.iconst 1, 1) := by decide +kernel
theorem dX4_first_18 : decode cX4_first 18 = .ok (.goto 17, 3) := by decide +kernel
theorem dX4_first_21 : decode cX4_first 21 = .ok (.aload_n 0, 1) := by decide +kernel
theorem dX4_first_22 : decode cX4_first 22 = .ok (.getfield 13, 3) := by decide +kernel
theorem dX4_first_25 : decode cX4_first 25 = .ok (.iload_n 1, 1) := by decide +kernel
theorem dX4_first_26 : decode cX4_first 26 = .ok (.baload, 1) := by decide +kernel
theorem dX4_first_27 : decode cX4_first 27 = .ok (.ifCond .eq 7, 3) := by decide +kernel
theorem dX4_first_30 : decode cX4_first 30 = .ok (.iconst 2, 1) := by decide +kernel
theorem dX4_first_31 : decode cX4_first 31 = .ok (.goto 4, 3) := by decide +kernel
theorem dX4_first_34 : decode cX4_first 34 = .ok (.iconst 0, 1) := by decide +kernel
theorem dX4_first_35 : decode cX4_first 35 = .ok (.invokevirtual 108, 3) := by decide +kernel
theorem dX4_first_38 : decode cX4_first 38 = .ok (.ifCond .eq 5, 3) := by decide +kernel
theorem dX4_first_41 : decode cX4_first 41 = .ok (.lconst 0, 1) := by decide +kernel
theorem dX4_first_42 : decode cX4_first 42 = .ok (.lreturn, 1) := by decide +kernel
theorem dX4_first_43 : decode cX4_first 43 = .ok (.aload_n 0, 1) := by decide +kernel
theorem dX4_first_44 : decode cX4_first 44 = .ok (.bipush 22, 2) := by decide +kernel
theorem dX4_first_46 : decode cX4_first 46 = .ok (.iload_n 1, 1) := by decide +kernel
theorem dX4_first_47 : decode cX4_first 47 = .ok (.invokevirtual 87, 3) := by decide +kernel
theorem dX4_first_50 : decode cX4_first 50 = .ok (.lconst 0, 1) := by decide +kernel
theorem dX4_first_51 : decode cX4_first 51 = .ok (.lstore_n 3, 1) := by decide +kernel
theorem dX4_first_52 : decode cX4_first 52 = .ok (.iconst 0, 1) := by decide +kernel
theorem dX4_first_53 : decode cX4_first 53 = .ok (.istore 5, 2) := by decide +kernel
theorem dX4_first_55 : decode cX4_first 55 = .ok (.iload 5, 2) := by decide +kernel
theorem dX4_first_57 : decode cX4_first 57 = .ok (.iload_n 2, 1) := by decide +kernel
theorem dX4_first_58 : decode cX4_first 58 = .ok (.if_icmp .gt 117, 3) := by decide +kernel
theorem dX4_first_61 : decode cX4_first 61 = .ok (.aload_n 0, 1) := by decide +kernel
theorem dX4_first_62 : decode cX4_first 62 = .ok (.bipush 22, 2) := by decide +kernel
theorem dX4_first_64 : decode cX4_first 64 = .ok (.iconst 2, 1) := by decide +kernel
theorem dX4_first_65 : decode cX4_first 65 = .ok (.iload 5, 2) := by decide +kernel
theorem dX4_first_67 : decode cX4_first 67 = .ok (.imul, 1) := by decide +kernel
theorem dX4_first_68 : decode cX4_first 68 = .ok (.iconst 2, 1) := by decide +kernel
theorem dX4_first_69 : decode cX4_first 69 = .ok (.iload 5, 2) := by decide +kernel
theorem dX4_first_71 : decode cX4_first 71 = .ok (.imul, 1) := by decide +kernel
theorem dX4_first_72 : decode cX4_first 72 = .ok (.invokevirtual 61, 3) := by decide +kernel
theorem dX4_first_75 : decode cX4_first 75 = .ok (.lstore 6, 2) := by decide +kernel
theorem dX4_first_77 : decode cX4_first 77 = .ok (.aload_n 0, 1) := by decide +kernel
theorem dX4_first_78 : decode cX4_first 78 = .ok (.bipush 22, 2) := by decide +kernel
theorem dX4_first_80 : decode cX4_first 80 = .ok (.iconst 2, 1) := by decide +kernel
theorem dX4_first_81 : decode cX4_first 81 = .ok (.iload 5, 2) := by decide +kernel
theorem dX4_first_83 : decode cX4_first 83 = .ok (.imul, 1) := by decide +kernel
theorem dX4_first_84 : decode cX4_first 84 = .ok (.iconst 1, 1) := by decide +kernel
theorem dX4_first_85 : decode cX4_first 85 = .ok (.iadd, 1) := by decide +kernel
theorem dX4_first_86 : decode cX4_first 86 = .ok (.iconst 2, 1) := by decide +kernel
theorem dX4_first_87 : decode cX4_first 87 = .ok (.iload 5, 2) := by decide +kernel
theorem dX4_first_89 : decode cX4_first 89 = .ok (.imul, 1) := by decide +kernel
theorem dX4_first_90 : decode cX4_first 90 = .ok (.iconst 1, 1) := by decide +kernel
theorem dX4_first_91 : decode cX4_first 91 = .ok (.iadd, 1) := by decide +kernel
theorem dX4_first_92 : decode cX4_first 92 = .ok (.invokevirtual 61, 3) := by decide +kernel
theorem dX4_first_95 : decode cX4_first 95 = .ok (.lstore 8, 2) := by decide +kernel
theorem dX4_first_97 : decode cX4_first 97 = .ok (.lload 8, 2) := by decide +kernel
theorem dX4_first_99 : decode cX4_first 99 = .ok (.ldc2_w 45, 3) := by decide +kernel
theorem dX4_first_102 : decode cX4_first 102 = .ok (.lcmp, 1) := by decide +kernel
theorem dX4_first_103 : decode cX4_first 103 = .ok (.ifCond .ge 9, 3) := by decide +kernel
theorem dX4_first_106 : decode cX4_first 106 = .ok (.lload 8, 2) := by decide +kernel
theorem dX4_first_108 : decode cX4_first 108 = .ok (.lneg, 1) := by decide +kernel
theorem dX4_first_109 : decode cX4_first 109 = .ok (.goto 18, 3) := by decide +kernel
theorem dX4_first_112 : decode cX4_first 112 = .ok (.lload 6, 2) := by decide +kernel
theorem dX4_first_114 : decode cX4_first 114 = .ok (.ldc2_w 45, 3) := by decide +kernel
theorem dX4_first_117 : decode cX4_first 117 = .ok (.lcmp, 1) := by decide +kernel
theorem dX4_first_118 : decode cX4_first 118 = .ok (.ifCond .ge 8, 3) := by decide +kernel
theorem dX4_first_121 : decode cX4_first 121 = .ok (.lload 6, 2) := by decide +kernel
theorem dX4_first_123 : decode cX4_first 123 = .ok (.goto 4, 3) := by decide +kernel
theorem dX4_first_126 : decode cX4_first 126 = .ok (.lconst 0, 1) := by decide +kernel
theorem dX4_first_127 : decode cX4_first 127 = .ok (.lstore_n 3, 1) := by decide +kernel
theorem dX4_first_128 : decode cX4_first 128 = .ok (.aload_n 0, 1) := by decide +kernel
theorem dX4_first_129 : decode cX4_first 129 = .ok (.bipush 22, 2) := by decide +kernel
theorem dX4_first_131 : decode cX4_first 131 = .ok (.iconst 2, 1) := by decide +kernel
theorem dX4_first_132 : decode cX4_first 132 = .ok (.iload 5, 2) := by decide +kernel
theorem dX4_first_134 : decode cX4_first 134 = .ok (.imul, 1) := by decide +kernel
theorem dX4_first_135 : decode cX4_first 135 = .ok (.iconst 2, 1) := by decide +kernel
theorem dX4_first_136 : decode cX4_first 136 = .ok (.iload 5, 2) := by decide +kernel
theorem dX4_first_138 : decode cX4_first 138 = .ok (.imul, 1) := by decide +kernel
theorem dX4_first_139 : decode cX4_first 139 = .ok (.lload_n 3, 1) := by decide +kernel
theorem dX4_first_140 : decode cX4_first 140 = .ok (.invokevirtual 69, 3) := by decide +kernel
theorem dX4_first_143 : decode cX4_first 143 = .ok (.aload_n 0, 1) := by decide +kernel
theorem dX4_first_144 : decode cX4_first 144 = .ok (.bipush 22, 2) := by decide +kernel
theorem dX4_first_146 : decode cX4_first 146 = .ok (.iconst 2, 1) := by decide +kernel
theorem dX4_first_147 : decode cX4_first 147 = .ok (.iload 5, 2) := by decide +kernel
theorem dX4_first_149 : decode cX4_first 149 = .ok (.imul, 1) := by decide +kernel
theorem dX4_first_150 : decode cX4_first 150 = .ok (.iconst 1, 1) := by decide +kernel
theorem dX4_first_151 : decode cX4_first 151 = .ok (.iadd, 1) := by decide +kernel
theorem dX4_first_152 : decode cX4_first 152 = .ok (.iconst 2, 1) := by decide +kernel
theorem dX4_first_153 : decode cX4_first 153 = .ok (.iload 5, 2) := by decide +kernel
theorem dX4_first_155 : decode cX4_first 155 = .ok (.imul, 1) := by decide +kernel
theorem dX4_first_156 : decode cX4_first 156 = .ok (.iconst 1, 1) := by decide +kernel
theorem dX4_first_157 : decode cX4_first 157 = .ok (.iadd, 1) := by decide +kernel
theorem dX4_first_158 : decode cX4_first 158 = .ok (.lload_n 3, 1) := by decide +kernel
theorem dX4_first_159 : decode cX4_first 159 = .ok (.lneg, 1) := by decide +kernel
theorem dX4_first_160 : decode cX4_first 160 = .ok (.invokevirtual 69, 3) := by decide +kernel
theorem dX4_first_163 : decode cX4_first 163 = .ok (.aload_n 0, 1) := by decide +kernel
theorem dX4_first_164 : decode cX4_first 164 = .ok (.bipush 22, 2) := by decide +kernel
