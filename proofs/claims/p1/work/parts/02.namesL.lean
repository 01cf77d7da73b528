theorem dJ9_max_7cf53_0 : decode cJ9_max_7cf53 0 = .ok (.iload_n 0, 1) := by decide +kernel
theorem dJ9_max_7cf53_1 : decode cJ9_max_7cf53 1 = .ok (.iload_n 1, 1) := by decide +kernel
theorem dJ9_max_7cf53_2 : decode cJ9_max_7cf53 2 = .ok (.if_icmp .lt 7, 3) := by decide +kernel
theorem dJ9_max_7cf53_5 : decode cJ9_max_7cf53 5 = .ok (.iload_n 0, 1) := by decide +kernel
theorem dJ9_max_7cf53_6 : decode cJ9_max_7cf53 6 = .ok (.goto 4, 3) := by decide +kernel
theorem dJ9_max_7cf53_9 : decode cJ9_max_7cf53 9 = .ok (.iload_n 1, 1) := by decide +kernel
theorem dJ9_max_7cf53_10 : decode cJ9_max_7cf53 10 = .ok (.ireturn, 1) := by decide +kernel
theorem dJ9_max_f86c9_0 : decode cJ9_max_f86c9 0 = .ok (.lload_n 0, 1) := by decide +kernel
theorem dJ9_max_f86c9_1 : decode cJ9_max_f86c9 1 = .ok (.lload_n 2, 1) := by decide +kernel
theorem dJ9_max_f86c9_2 : decode cJ9_max_f86c9 2 = .ok (.lcmp, 1) := by decide +kernel
theorem dJ9_max_f86c9_3 : decode cJ9_max_f86c9 3 = .ok (.ifCond .lt 7, 3) := by decide +kernel
theorem dJ9_max_f86c9_6 : decode cJ9_max_f86c9 6 = .ok (.lload_n 0, 1) := by decide +kernel
theorem dJ9_max_f86c9_7 : decode cJ9_max_f86c9 7 = .ok (.goto 4, 3) := by decide +kernel
theorem dJ9_max_f86c9_10 : decode cJ9_max_f86c9 10 = .ok (.lload_n 2, 1) := by decide +kernel
theorem dJ9_max_f86c9_11 : decode cJ9_max_f86c9 11 = .ok (.lreturn, 1) := by decide +kernel
theorem dJ9_min_f86c9_0 : decode cJ9_min_f86c9 0 = .ok (.lload_n 0, 1) := by decide +kernel
theorem dJ9_min_f86c9_1 : decode cJ9_min_f86c9 1 = .ok (.lload_n 2, 1) := by decide +kernel
theorem dJ9_min_f86c9_2 : decode cJ9_min_f86c9 2 = .ok (.lcmp, 1) := by decide +kernel
theorem dJ9_min_f86c9_3 : decode cJ9_min_f86c9 3 = .ok (.ifCond .gt 7, 3) := by decide +kernel
theorem dJ9_min_f86c9_6 : decode cJ9_min_f86c9 6 = .ok (.lload_n 0, 1) := by decide +kernel
theorem dJ9_min_f86c9_7 : decode cJ9_min_f86c9 7 = .ok (.goto 4, 3) := by decide +kernel
theorem dJ9_min_f86c9_10 : decode cJ9_min_f86c9 10 = .ok (.lload_n 2, 1) := by decide +kernel
theorem dJ9_min_f86c9_11 : decode cJ9_min_f86c9 11 = .ok (.lreturn, 1) := by decide +kernel
set_option maxRecDepth 20000 in
theorem ggL_act_X6_act : GoodIn wsL_act wsX6_act := goodIn_ca (goodIn_r _ [6, 7, 8, 9, 10, 11, 5, 12, 13, 14, 15, 16, 17, 18, 19, 20, 21, 22, 23, 24, 25, 26, 27, 28, 29, 30, 31, 32, 33, 34, 35, 36, 37, 38, 39, 40, 41, 42, 43, 44, 45, 46, 47, 48, 49, 50, 51, 52, 53, 54, 55, 56, 57, 58, 59, 60, 61, 62, 63, 64, 65, 66, 67, 68, 69, 70, 71, 72, 73, 74, 75, 76, 77, 78, 79, 80, 81, 82, 83, 84, 85, 86, 87, 88, 89, 90, 91, 92, 93, 94, 95, 96, 97, 98, 99, 100, 101, 102, 103, 104, 105, 106, 107, 108, 109, 110, 111, 112, 113, 114, 115, 116, 117, 118, 119, 120, 121, 122, 123, 124, 125, 126, 127, 128, 129, 130, 131, 132, 133, 134, 135, 136, 137, 138, 139, 140, 141, 142, 143, 144, 145, 146, 147, 148, 149, 150, 151, 152, 153, 154, 155, 156, 157, 158, 159, 160, 161, 162, 163, 164, 165, 166, 167, 168, 169, 170, 171, 172, 173, 174, 175, 176, 177, 178, 179, 180, 181, 182, 183, 184, 185, 186, 187, 188, 189, 190, 191, 192, 193, 194, 195, 196, 197, 198, 199, 200, 201, 202, 203, 204, 205, 206, 207, 208, 209, 210, 211, 212, 213, 214, 215, 216, 217, 218, 219, 220, 221, 222, 223, 224, 225, 226, 227, 228, 229, 230, 231, 232, 233, 234, 235, 236, 237, 238, 239, 240, 241, 242, 243, 244, 245, 246, 247, 248, 249, 250, 251, 252, 253, 254, 255] rfl (by decide +kernel)) (goodIn_sub (fun _ h => List.mem_cons_of_mem _ (List.mem_append_right _ h)) (by decide +kernel))
set_option maxRecDepth 20000 in
theorem gL_act_X6_act : GoodIn wsL_act (wsV RL 7 RX6 yX6_act wsX6_act) := goodIn_app (goodIn_of _ (by decide +kernel)) ggL_act_X6_act
theorem dL_act_0 : decode cL_act 0 = .ok (.aload 6, 2) := by decide +kernel
theorem dL_act_2 : decode cL_act 2 = .ok (.iconst 0, 1) := by decide +kernel
theorem dL_act_3 : decode cL_act 3 = .ok (.aload_n 0, 1) := by decide +kernel
theorem dL_act_4 : decode cL_act 4 = .ok (.iload_n 1, 1) := by decide +kernel
theorem dL_act_5 : decode cL_act 5 = .ok (.iload_n 2, 1) := by decide +kernel
theorem dL_act_6 : decode cL_act 6 = .ok (.iload_n 3, 1) := by decide +kernel
theorem dL_act_7 : decode cL_act 7 = .ok (.iload 4, 2) := by decide +kernel
theorem dL_act_9 : decode cL_act 9 = .ok (.iload 5, 2) := by decide +kernel
theorem dL_act_11 : decode cL_act 11 = .ok (.invokevirtual 7, 3) := by decide +kernel
theorem dL_act_14 : decode cL_act 14 = .ok (.ifCond .eq 7, 3) := by decide +kernel
theorem dL_act_17 : decode cL_act 17 = .ok (.lconst 1, 1) := by decide +kernel
theorem dL_act_18 : decode cL_act 18 = .ok (.goto 4, 3) := by decide +kernel
theorem dL_act_21 : decode cL_act 21 = .ok (.lconst 0, 1) := by decide +kernel
theorem dL_act_22 : decode cL_act 22 = .ok (.lastore, 1) := by decide +kernel
theorem dL_act_23 : decode cL_act 23 = .ok (.goto 7, 3) := by decide +kernel
theorem dL_act_26 : decode cL_act 26 = .ok (.astore 7, 2) := by decide +kernel
theorem dL_act_28 : decode cL_act 28 = .ok (.iconst 1, 1) := by decide +kernel
theorem dL_act_29 : decode cL_act 29 = .ok (.ireturn, 1) := by decide +kernel
theorem dL_act_30 : decode cL_act 30 = .ok (.iconst 0, 1) := by decide +kernel
theorem dL_act_31 : decode cL_act 31 = .ok (.ireturn, 1) := by decide +kernel
set_option maxRecDepth 20000 in
theorem ggL_clear_X6_clear : GoodIn wsL_clear wsX6_clear := goodIn_ca (goodIn_r _ [6, 7, 8, 9, 5, 10, 11, 12, 13, 14, 15, 16, 17, 18, 19, 20, 21, 22, 23, 24, 25, 26, 27, 28, 29, 30, 31, 32, 33, 34, 35, 36, 37, 38, 39, 40, 41, 42, 43, 44, 45, 46, 47, 48, 49, 50, 51, 52, 53, 54, 55, 56, 57, 58, 59, 60, 61, 62, 63, 64, 65, 66, 67, 68, 69, 70, 71, 72, 73, 74, 75, 76, 77, 78, 79, 80, 81, 82, 83, 84, 85, 86, 87, 88] rfl (by decide +kernel)) (goodIn_sub (fun _ h => List.mem_cons_of_mem _ (List.mem_append_right _ h)) (by decide +kernel))
set_option maxRecDepth 20000 in
theorem gL_clear_X6_clear : GoodIn wsL_clear (wsV RL 15 RX6 yX6_clear wsX6_clear) := goodIn_app (goodIn_of _ (by decide +kernel)) ggL_clear_X6_clear
theorem dL_clear_0 : decode cL_clear 0 = .ok (.aload_n 0, 1) := by decide +kernel
theorem dL_clear_1 : decode cL_clear 1 = .ok (.iload_n 1, 1) := by decide +kernel
theorem dL_clear_2 : decode cL_clear 2 = .ok (.invokevirtual 15, 3) := by decide +kernel
theorem dL_clear_5 : decode cL_clear 5 = .ok (.goto 6, 3) := by decide +kernel
theorem dL_clear_8 : decode cL_clear 8 = .ok (.astore_n 2, 1) := by decide +kernel
theorem dL_clear_9 : decode cL_clear 9 = .ok (.iconst 1, 1) := by decide +kernel
theorem dL_clear_10 : decode cL_clear 10 = .ok (.ireturn, 1) := by decide +kernel
theorem dL_clear_11 : decode cL_clear 11 = .ok (.iconst 0, 1) := by decide +kernel
theorem dL_clear_12 : decode cL_clear 12 = .ok (.ireturn, 1) := by decide +kernel
set_option maxRecDepth 20000 in
theorem ggL_copy_X6_copy : GoodIn wsL_copy wsX6_copy := goodIn_ca (goodIn_r _ [6, 7, 8, 9, 5, 10, 11, 12, 13, 14, 15, 16, 17, 18, 19, 20, 21, 22, 23, 24, 25, 26, 27, 28, 29, 30, 31, 32, 33, 34, 35, 36, 37, 38, 39, 40, 41, 42, 43, 44, 45, 46, 47, 48, 49, 50, 51, 52, 53, 54, 55, 56, 57, 58, 59, 60, 61, 62, 63, 64, 65, 66, 67, 68, 69, 70, 71, 72, 73, 74, 75, 76, 77, 78] rfl (by decide +kernel)) (goodIn_sub (fun _ h => List.mem_cons_of_mem _ (List.mem_append_right _ h)) (by decide +kernel))
set_option maxRecDepth 20000 in
theorem gL_copy_X6_copy : GoodIn wsL_copy (wsV RL 19 RX6 yX6_copy wsX6_copy) := goodIn_app (goodIn_of _ (by decide +kernel)) ggL_copy_X6_copy
theorem dL_copy_0 : decode cL_copy 0 = .ok (.aload_n 0, 1) := by decide +kernel
theorem dL_copy_1 : decode cL_copy 1 = .ok (.iload_n 1, 1) := by decide +kernel
theorem dL_copy_2 : decode cL_copy 2 = .ok (.iload_n 2, 1) := by decide +kernel
theorem dL_copy_3 : decode cL_copy 3 = .ok (.invokevirtual 19, 3) := by decide +kernel
theorem dL_copy_6 : decode cL_copy 6 = .ok (.goto 6, 3) := by decide +kernel
theorem dL_copy_9 : decode cL_copy 9 = .ok (.astore_n 3, 1) := by decide +kernel
theorem dL_copy_10 : decode cL_copy 10 = .ok (.iconst 1, 1) := by decide +kernel
theorem dL_copy_11 : decode cL_copy 11 = .ok (.ireturn, 1) := by decide +kernel
theorem dL_copy_12 : decode cL_copy 12 = .ok (.iconst 0, 1) := by decide +kernel
theorem dL_copy_13 : decode cL_copy 13 = .ok (.ireturn, 1) := by decide +kernel
set_option maxRecDepth 20000 in
theorem ggL_meet_X6_meet : GoodIn wsL_meet wsX6_meet := goodIn_ca (goodIn_r _ [6, 7, 8, 9, 10, 11, 5, 12, 13, 14, 15, 16, 17, 18, 19, 20, 21, 22, 23, 24, 25, 26, 27, 28, 29, 30, 31, 32, 33, 34, 35, 36, 37, 38, 39, 40, 41, 42, 43, 44, 45, 46, 47, 48, 49, 50, 51, 52, 53, 54, 55, 56, 57, 58, 59, 60, 61, 62, 63, 64, 65, 66, 67, 68, 69, 70, 71, 72, 73, 74, 75, 76, 77, 78, 79, 80, 81, 82, 83, 84, 85, 86, 87, 88, 89, 90, 91, 92, 93, 94, 95, 96, 97, 98, 99, 100, 101, 102, 103, 104, 105, 106, 107, 108, 109, 110, 111, 112, 113, 114, 115, 116, 117, 118, 119, 120, 121, 122, 123, 124, 125, 126, 127, 128, 129, 130, 131, 132, 133, 134, 135, 136, 137, 138, 139, 140, 141, 142, 143, 144, 145, 146, 147, 148, 149, 150, 151, 152, 153, 154, 155, 156, 157, 158, 159, 160, 161, 162, 163, 164, 165, 166, 167, 168, 169, 170, 171, 172, 173, 174, 175, 176, 177, 178, 179, 180, 181, 182, 183, 184, 185, 186, 187, 188, 189, 190, 191, 192, 193, 194, 195, 196, 197, 198, 199, 200, 201, 202, 203, 204, 205, 206, 207, 208, 209, 210, 211, 212, 213, 214, 215, 216] rfl (by decide +kernel)) (goodIn_sub (fun _ h => List.mem_cons_of_mem _ (List.mem_append_right _ h)) (by decide +kernel))
set_option maxRecDepth 20000 in
theorem gL_meet_X6_meet : GoodIn wsL_meet (wsV RL 23 RX6 yX6_meet wsX6_meet) := goodIn_app (goodIn_of _ (by decide +kernel)) ggL_meet_X6_meet
theorem dL_meet_0 : decode cL_meet 0 = .ok (.aload 4, 2) := by decide +kernel
theorem dL_meet_2 : decode cL_meet 2 = .ok (.iconst 0, 1) := by decide +kernel
theorem dL_meet_3 : decode cL_meet 3 = .ok (.aload_n 0, 1) := by decide +kernel
theorem dL_meet_4 : decode cL_meet 4 = .ok (.iload_n 1, 1) := by decide +kernel
theorem dL_meet_5 : decode cL_meet 5 = .ok (.iload_n 2, 1) := by decide +kernel
theorem dL_meet_6 : decode cL_meet 6 = .ok (.iload_n 3, 1) := by decide +kernel
theorem dL_meet_7 : decode cL_meet 7 = .ok (.invokevirtual 23, 3) := by decide +kernel
theorem dL_meet_10 : decode cL_meet 10 = .ok (.ifCond .eq 7, 3) := by decide +kernel
theorem dL_meet_13 : decode cL_meet 13 = .ok (.lconst 1, 1) := by decide +kernel
theorem dL_meet_14 : decode cL_meet 14 = .ok (.goto 4, 3) := by decide +kernel
theorem dL_meet_17 : decode cL_meet 17 = .ok (.lconst 0, 1) := by decide +kernel
theorem dL_meet_18 : decode cL_meet 18 = .ok (.lastore, 1) := by decide +kernel
theorem dL_meet_19 : decode cL_meet 19 = .ok (.goto 7, 3) := by decide +kernel
theorem dL_meet_22 : decode cL_meet 22 = .ok (.astore 5, 2) := by decide +kernel
theorem dL_meet_24 : decode cL_meet 24 = .ok (.iconst 1, 1) := by decide +kernel
theorem dL_meet_25 : decode cL_meet 25 = .ok (.ireturn, 1) := by decide +kernel
theorem dL_meet_26 : decode cL_meet 26 = .ok (.iconst 0, 1) := by decide +kernel
theorem dL_meet_27 : decode cL_meet 27 = .ok (.ireturn, 1) := by decide +kernel
set_option maxRecDepth 20000 in
theorem ggL_join_X6_join : GoodIn wsL_join wsX6_join := goodIn_ca (goodIn_r _ [6, 7, 8, 9, 10, 5, 11, 12, 13, 14, 15, 16, 17, 18, 19, 20, 21, 22, 23, 24, 25, 26, 27, 28, 29, 30, 31, 32, 33, 34, 35, 36, 37, 38, 39, 40, 41, 42, 43, 44, 45, 46, 47, 48, 49, 50, 51, 52, 53, 54, 55, 56, 57, 58, 59, 60, 61, 62, 63, 64, 65, 66, 67, 68, 69, 70, 71, 72, 73, 74, 75, 76, 77, 78, 79, 80, 81, 82, 83, 84, 85, 86, 87, 88, 89, 90, 91, 92, 93, 94, 95, 96, 97, 98, 99, 100, 101, 102, 103, 104, 105, 106, 107, 108, 109, 110, 111, 112, 113, 114, 115, 116, 117, 118] rfl (by decide +kernel)) (goodIn_sub (fun _ h => List.mem_cons_of_mem _ (List.mem_append_right _ h)) (by decide +kernel))
set_option maxRecDepth 20000 in
theorem gL_join_X6_join : GoodIn wsL_join (wsV RL 27 RX6 yX6_join wsX6_join) := goodIn_app (goodIn_of _ (by decide +kernel)) ggL_join_X6_join
theorem dL_join_0 : decode cL_join 0 = .ok (.aload_n 0, 1) := by decide +kernel
theorem dL_join_1 : decode cL_join 1 = .ok (.iload_n 1, 1) := by decide +kernel
theorem dL_join_2 : decode cL_join 2 = .ok (.iload_n 2, 1) := by decide +kernel
theorem dL_join_3 : decode cL_join 3 = .ok (.iload_n 3, 1) := by decide +kernel
theorem dL_join_4 : decode cL_join 4 = .ok (.invokevirtual 27, 3) := by decide +kernel
theorem dL_join_7 : decode cL_join 7 = .ok (.goto 7, 3) := by decide +kernel
theorem dL_join_10 : decode cL_join 10 = .ok (.astore 4, 2) := by decide +kernel
theorem dL_join_12 : decode cL_join 12 = .ok (.iconst 1, 1) := by decide +kernel
theorem dL_join_13 : decode cL_join 13 = .ok (.ireturn, 1) := by decide +kernel
theorem dL_join_14 : decode cL_join 14 = .ok (.iconst 0, 1) := by decide +kernel
theorem dL_join_15 : decode cL_join 15 = .ok (.ireturn, 1) := by decide +kernel
set_option maxRecDepth 20000 in
theorem ggL_widen_X6_widen : GoodIn wsL_widen wsX6_widen := goodIn_ca (goodIn_r _ [6, 7, 8, 9, 10, 5, 11, 12, 13, 14, 15, 16, 17, 18, 19, 20, 21, 22, 23, 24, 25, 26, 27, 28, 29, 30, 31, 32, 33, 34, 35, 36, 37, 38, 39, 40, 41, 42, 43, 44, 45, 46, 47, 48, 49, 50, 51, 52, 53, 54, 55, 56, 57, 58, 59, 60, 61, 62, 63, 64, 65, 66, 67, 68, 69, 70, 71, 72, 73, 74, 75, 76, 77, 78, 79, 80, 81, 82, 83, 84, 85, 86, 87, 88, 89, 90, 91, 92, 93, 94, 95, 96, 97, 98, 99, 100, 101, 102, 103, 104, 105, 106, 107, 108, 109, 110, 111, 112, 113, 114, 115, 116, 117, 118, 119, 120, 121, 122, 123, 124, 125, 126, 127, 128, 129, 130, 131, 132, 133, 134, 135, 136, 137, 138, 139, 140, 141, 142, 143, 144, 145, 146, 147, 148, 149, 150, 151, 152, 153, 154, 155, 156, 157, 158, 159, 160, 161, 162, 163, 164, 165, 166, 167, 168, 169, 170, 171, 172, 173, 174, 175, 176, 177, 178, 179, 180, 181, 182, 183, 184, 185, 186, 187, 188, 189, 190, 191, 192, 193, 194, 195, 196, 197, 198, 199, 200, 201, 202, 203, 204, 205, 206, 207, 208, 209, 210, 211, 212, 213, 214, 215, 216] rfl (by decide +kernel)) (goodIn_sub (fun _ h => List.mem_cons_of_mem _ (List.mem_append_right _ h)) (by decide +kernel))
set_option maxRecDepth 20000 in
theorem gL_widen_X6_widen : GoodIn wsL_widen (wsV RL 31 RX6 yX6_widen wsX6_widen) := goodIn_app (goodIn_of _ (by decide +kernel)) ggL_widen_X6_widen
theorem dL_widen_0 : decode cL_widen 0 = .ok (.aload_n 0, 1) := by decide +kernel
theorem dL_widen_1 : decode cL_widen 1 = .ok (.iload_n 1, 1) := by decide +kernel
theorem dL_widen_2 : decode cL_widen 2 = .ok (.iload_n 2, 1) := by decide +kernel
theorem dL_widen_3 : decode cL_widen 3 = .ok (.iload_n 3, 1) := by decide +kernel
theorem dL_widen_4 : decode cL_widen 4 = .ok (.invokevirtual 31, 3) := by decide +kernel
theorem dL_widen_7 : decode cL_widen 7 = .ok (.goto 7, 3) := by decide +kernel
theorem dL_widen_10 : decode cL_widen 10 = .ok (.astore 4, 2) := by decide +kernel
theorem dL_widen_12 : decode cL_widen 12 = .ok (.iconst 1, 1) := by decide +kernel
theorem dL_widen_13 : decode cL_widen 13 = .ok (.ireturn, 1) := by decide +kernel
theorem dL_widen_14 : decode cL_widen 14 = .ok (.iconst 0, 1) := by decide +kernel
theorem dL_widen_15 : decode cL_widen 15 = .ok (.ireturn, 1) := by decide +kernel
set_option maxRecDepth 20000 in
theorem ggL_forget_X6_forget : GoodIn wsL_forget wsX6_forget := goodIn_ca (goodIn_r _ [6, 7, 8, 9, 5, 10, 11, 12, 13, 14, 15, 16, 17, 18, 19, 20, 21, 22, 23, 24, 25, 26, 27, 28, 29, 30, 31, 32, 33, 34, 35, 36, 37, 38, 39, 40, 41, 42, 43, 44, 45, 46, 47, 48, 49, 50, 51, 52, 53, 54, 55, 56, 57, 58, 59, 60, 61, 62, 63, 64, 65, 66, 67, 68, 69, 70, 71, 72, 73, 74, 75, 76, 77, 78, 79, 80, 81, 82, 83, 84, 85, 86, 87] rfl (by decide +kernel)) (goodIn_sub (fun _ h => List.mem_cons_of_mem _ (List.mem_append_right _ h)) (by decide +kernel))
set_option maxRecDepth 20000 in
theorem gL_forget_X6_forget : GoodIn wsL_forget (wsV RL 34 RX6 yX6_forget wsX6_forget) := goodIn_app (goodIn_of _ (by decide +kernel)) ggL_forget_X6_forget
theorem dL_forget_0 : decode cL_forget 0 = .ok (.aload_n 0, 1) := by decide +kernel
theorem dL_forget_1 : decode cL_forget 1 = .ok (.iload_n 1, 1) := by decide +kernel
theorem dL_forget_2 : decode cL_forget 2 = .ok (.iload_n 2, 1) := by decide +kernel
theorem dL_forget_3 : decode cL_forget 3 = .ok (.invokevirtual 34, 3) := by decide +kernel
theorem dL_forget_6 : decode cL_forget 6 = .ok (.goto 6, 3) := by decide +kernel
theorem dL_forget_9 : decode cL_forget 9 = .ok (.astore_n 3, 1) := by decide +kernel
theorem dL_forget_10 : decode cL_forget 10 = .ok (.iconst 1, 1) := by decide +kernel
theorem dL_forget_11 : decode cL_forget 11 = .ok (.ireturn, 1) := by decide +kernel
theorem dL_forget_12 : decode cL_forget 12 = .ok (.iconst 0, 1) := by decide +kernel
theorem dL_forget_13 : decode cL_forget 13 = .ok (.ireturn, 1) := by decide +kernel
set_option maxRecDepth 20000 in
theorem ggL_isEmpty_X6_isEmpty : GoodIn wsL_isEmpty wsX6_isEmpty := goodIn_ca (goodIn_r _ [6, 7, 8, 9, 10, 5, 11, 12, 13, 14, 15, 16, 17, 18, 19, 20, 21, 22, 23, 24] rfl (by decide +kernel)) (goodIn_sub (fun _ h => List.mem_cons_of_mem _ (List.mem_append_right _ h)) (by decide +kernel))
set_option maxRecDepth 20000 in
theorem gL_isEmpty_X6_isEmpty : GoodIn wsL_isEmpty (wsV RL 37 RX6 yX6_isEmpty wsX6_isEmpty) := goodIn_app (goodIn_of _ (by decide +kernel)) ggL_isEmpty_X6_isEmpty
theorem dL_isEmpty_0 : decode cL_isEmpty 0 = .ok (.aload_n 2, 1) := by decide +kernel
theorem dL_isEmpty_1 : decode cL_isEmpty 1 = .ok (.iconst 0, 1) := by decide +kernel
theorem dL_isEmpty_2 : decode cL_isEmpty 2 = .ok (.aload_n 0, 1) := by decide +kernel
theorem dL_isEmpty_3 : decode cL_isEmpty 3 = .ok (.iload_n 1, 1) := by decide +kernel
theorem dL_isEmpty_4 : decode cL_isEmpty 4 = .ok (.invokevirtual 37, 3) := by decide +kernel
theorem dL_isEmpty_7 : decode cL_isEmpty 7 = .ok (.ifCond .eq 7, 3) := by decide +kernel
theorem dL_isEmpty_10 : decode cL_isEmpty 10 = .ok (.lconst 1, 1) := by decide +kernel
theorem dL_isEmpty_11 : decode cL_isEmpty 11 = .ok (.goto 4, 3) := by decide +kernel
theorem dL_isEmpty_14 : decode cL_isEmpty 14 = .ok (.lconst 0, 1) := by decide +kernel
theorem dL_isEmpty_15 : decode cL_isEmpty 15 = .ok (.lastore, 1) := by decide +kernel
theorem dL_isEmpty_16 : decode cL_isEmpty 16 = .ok (.goto 6, 3) := by decide +kernel
theorem dL_isEmpty_19 : decode cL_isEmpty 19 = .ok (.astore_n 3, 1) := by decide +kernel
theorem dL_isEmpty_20 : decode cL_isEmpty 20 = .ok (.iconst 1, 1) := by decide +kernel
theorem dL_isEmpty_21 : decode cL_isEmpty 21 = .ok (.ireturn, 1) := by decide +kernel
theorem dL_isEmpty_22 : decode cL_isEmpty 22 = .ok (.iconst 0, 1) := by decide +kernel
theorem dL_isEmpty_23 : decode cL_isEmpty 23 = .ok (.ireturn, 1) := by decide +kernel
set_option maxRecDepth 20000 in
theorem ggL_most_X6_most : GoodIn wsL_most wsX6_most := goodIn_ca (goodIn_ca (goodIn_r _ [7, 8, 9, 10, 6, 11, 12, 13, 14, 15, 16, 17, 18, 19, 20, 21, 22, 23, 24, 25, 26, 27, 28, 29, 30, 31, 32, 33, 34, 35, 36, 37, 38, 39, 40, 41, 42, 43, 44, 45, 46, 47, 48, 49, 50, 51, 52, 53, 54, 55, 56, 57, 58, 59, 60, 61, 62, 63, 64, 65, 66, 67, 68, 69, 70, 71, 72, 73, 74, 75, 76, 77, 78, 79, 80, 81, 82, 83, 84, 85, 86, 87, 88, 89, 90, 91, 92, 93, 94, 95, 96, 97, 98, 99, 100, 101, 102, 103, 104, 105, 106, 107, 108, 109, 110, 111, 112, 113, 114, 115, 116, 117, 118, 119, 120, 121, 122, 123, 124, 125, 126, 127, 128, 129, 130, 131, 132, 133, 134, 135, 136, 137, 138, 139, 140, 141, 142, 143, 144, 145, 146, 147, 148, 149, 150, 151, 152, 153, 154, 155, 156, 157, 158, 159, 160, 161, 162, 163, 164, 165, 166, 167] rfl (by decide +kernel)) (goodIn_sub (fun _ h => List.mem_cons_of_mem _ (List.mem_append_left _ (List.mem_append_right _ h))) (by decide +kernel))) (goodIn_sub (fun _ h => List.mem_cons_of_mem _ (List.mem_append_right _ h)) (by decide +kernel))
set_option maxRecDepth 20000 in
theorem gL_most_X6_most : GoodIn wsL_most (wsV RL 41 RX6 yX6_most wsX6_most) := goodIn_app (goodIn_of _ (by decide +kernel)) ggL_most_X6_most
theorem dL_most_0 : decode cL_most 0 = .ok (.aload 4, 2) := by decide +kernel
theorem dL_most_2 : decode cL_most 2 = .ok (.iconst 0, 1) := by decide +kernel
theorem dL_most_3 : decode cL_most 3 = .ok (.aload_n 0, 1) := by decide +kernel
theorem dL_most_4 : decode cL_most 4 = .ok (.iload_n 1, 1) := by decide +kernel
theorem dL_most_5 : decode cL_most 5 = .ok (.iload_n 2, 1) := by decide +kernel
theorem dL_most_6 : decode cL_most 6 = .ok (.iload_n 3, 1) := by decide +kernel
theorem dL_most_7 : decode cL_most 7 = .ok (.invokevirtual 41, 3) := by decide +kernel
theorem dL_most_10 : decode cL_most 10 = .ok (.lastore, 1) := by decide +kernel
theorem dL_most_11 : decode cL_most 11 = .ok (.goto 11, 3) := by decide +kernel
theorem dL_most_14 : decode cL_most 14 = .ok (.astore 5, 2) := by decide +kernel
theorem dL_most_16 : decode cL_most 16 = .ok (.iconst 1, 1) := by decide +kernel
theorem dL_most_17 : decode cL_most 17 = .ok (.ireturn, 1) := by decide +kernel
theorem dL_most_18 : decode cL_most 18 = .ok (.astore 5, 2) := by decide +kernel
theorem dL_most_20 : decode cL_most 20 = .ok (.iconst 2, 1) := by decide +kernel
theorem dL_most_21 : decode cL_most 21 = .ok (.ireturn, 1) := by decide +kernel
theorem dL_most_22 : decode cL_most 22 = .ok (.iconst 0, 1) := by decide +kernel
theorem dL_most_23 : decode cL_most 23 = .ok (.ireturn, 1) := by decide +kernel
set_option maxRecDepth 20000 in
theorem ggL_inside_X6_inside : GoodIn wsL_inside wsX6_inside := goodIn_ca (goodIn_r _ [6, 7, 8, 9, 5, 10, 11, 12, 13, 14, 15, 16, 17, 18, 19, 20, 21, 22, 23, 24, 25, 26, 27, 28, 29, 30, 31, 32, 33, 34, 35, 36, 37, 38, 39, 40, 41, 42, 43, 44, 45, 46, 47, 48, 49, 50, 51, 52, 53, 54, 55, 56, 57, 58, 59, 60, 61, 62, 63, 64, 65, 66, 67, 68, 69, 70, 71, 72, 73, 74, 75, 76, 77, 78, 79, 80, 81, 82, 83, 84, 85, 86, 87, 88] rfl (by decide +kernel)) (goodIn_sub (fun _ h => List.mem_cons_of_mem _ (List.mem_append_right _ h)) (by decide +kernel))
set_option maxRecDepth 20000 in
theorem gL_inside_X6_inside : GoodIn wsL_inside (wsV RL 47 RX6 yX6_inside wsX6_inside) := goodIn_app (goodIn_of _ (by decide +kernel)) ggL_inside_X6_inside
theorem dL_inside_0 : decode cL_inside 0 = .ok (.aload_n 3, 1) := by decide +kernel
theorem dL_inside_1 : decode cL_inside 1 = .ok (.iconst 0, 1) := by decide +kernel
theorem dL_inside_2 : decode cL_inside 2 = .ok (.aload_n 0, 1) := by decide +kernel
theorem dL_inside_3 : decode cL_inside 3 = .ok (.iload_n 1, 1) := by decide +kernel
theorem dL_inside_4 : decode cL_inside 4 = .ok (.iload_n 2, 1) := by decide +kernel
theorem dL_inside_5 : decode cL_inside 5 = .ok (.invokevirtual 47, 3) := by decide +kernel
theorem dL_inside_8 : decode cL_inside 8 = .ok (.ifCond .eq 7, 3) := by decide +kernel
theorem dL_inside_11 : decode cL_inside 11 = .ok (.lconst 1, 1) := by decide +kernel
theorem dL_inside_12 : decode cL_inside 12 = .ok (.goto 4, 3) := by decide +kernel
theorem dL_inside_15 : decode cL_inside 15 = .ok (.lconst 0, 1) := by decide +kernel
theorem dL_inside_16 : decode cL_inside 16 = .ok (.lastore, 1) := by decide +kernel
theorem dL_inside_17 : decode cL_inside 17 = .ok (.goto 7, 3) := by decide +kernel
theorem dL_inside_20 : decode cL_inside 20 = .ok (.astore 4, 2) := by decide +kernel
theorem dL_inside_22 : decode cL_inside 22 = .ok (.iconst 1, 1) := by decide +kernel
theorem dL_inside_23 : decode cL_inside 23 = .ok (.ireturn, 1) := by decide +kernel
theorem dL_inside_24 : decode cL_inside 24 = .ok (.iconst 0, 1) := by decide +kernel
theorem dL_inside_25 : decode cL_inside 25 = .ok (.ireturn, 1) := by decide +kernel
set_option maxRecDepth 20000 in
theorem ggL_bounds_X6_bounds : GoodIn wsL_bounds wsX6_bounds := goodIn_ca (goodIn_r _ [6, 7, 8, 9, 10, 5, 11, 12, 13, 14, 15, 16, 17, 18, 19, 20, 21, 22, 23, 24, 25, 26, 27, 28, 29, 30, 31, 32, 33, 34, 35, 36] rfl (by decide +kernel)) (goodIn_sub (fun _ h => List.mem_cons_of_mem _ (List.mem_append_right _ h)) (by decide +kernel))
set_option maxRecDepth 20000 in
theorem gL_bounds_X6_bounds : GoodIn wsL_bounds (wsV RL 51 RX6 yX6_bounds wsX6_bounds) := goodIn_app (goodIn_of _ (by decide +kernel)) ggL_bounds_X6_bounds
theorem dL_bounds_0 : decode cL_bounds 0 = .ok (.aload_n 2, 1) := by decide +kernel
theorem dL_bounds_1 : decode cL_bounds 1 = .ok (.iconst 0, 1) := by decide +kernel
theorem dL_bounds_2 : decode cL_bounds 2 = .ok (.aload_n 0, 1) := by decide +kernel
theorem dL_bounds_3 : decode cL_bounds 3 = .ok (.iload_n 1, 1) := by decide +kernel
theorem dL_bounds_4 : decode cL_bounds 4 = .ok (.invokevirtual 51, 3) := by decide +kernel
theorem dL_bounds_7 : decode cL_bounds 7 = .ok (.i2l, 1) := by decide +kernel
theorem dL_bounds_8 : decode cL_bounds 8 = .ok (.lastore, 1) := by decide +kernel
theorem dL_bounds_9 : decode cL_bounds 9 = .ok (.goto 6, 3) := by decide +kernel
theorem dL_bounds_12 : decode cL_bounds 12 = .ok (.astore_n 3, 1) := by decide +kernel
theorem dL_bounds_13 : decode cL_bounds 13 = .ok (.iconst 1, 1) := by decide +kernel
theorem dL_bounds_14 : decode cL_bounds 14 = .ok (.ireturn, 1) := by decide +kernel
theorem dL_bounds_15 : decode cL_bounds 15 = .ok (.iconst 0, 1) := by decide +kernel
theorem dL_bounds_16 : decode cL_bounds 16 = .ok (.ireturn, 1) := by decide +kernel
set_option maxRecDepth 20000 in
theorem ggL_first_X6_first : GoodIn wsL_first wsX6_first := goodIn_ca (goodIn_ca (goodIn_r _ [7, 8, 9, 10, 11, 6, 12, 13, 14, 15, 16, 17, 18, 19, 20, 21, 22, 23, 24, 25, 26, 27, 28, 29, 30, 31, 32, 33, 34, 35, 36, 37, 38, 39, 40, 41, 42, 43, 44, 45, 46, 47, 48, 49, 50, 51, 52, 53, 54, 55, 56, 57, 58, 59, 60, 61, 62, 63, 64, 65, 66, 67, 68, 69, 70, 71, 72, 73, 74, 75, 76, 77, 78, 79, 80, 81, 82, 83, 84, 85, 86, 87, 88, 89, 90, 91, 92, 93, 94, 95, 96, 97, 98, 99, 100, 101, 102, 103, 104, 105, 106, 107, 108, 109, 110, 111, 112, 113, 114, 115, 116, 117, 118, 119, 120, 121, 122, 123, 124, 125, 126, 127, 128, 129, 130, 131, 132, 133, 134, 135, 136, 137, 138, 139, 140, 141, 142, 143, 144, 145, 146, 147, 148, 149, 150, 151, 152, 153, 154, 155, 156, 157, 158, 159, 160, 161, 162, 163, 164, 165, 166, 167, 168, 169, 170, 171, 172, 173, 174, 175, 176, 177, 178, 179, 180, 181, 182, 183, 184, 185, 186, 187, 188, 189, 190, 191, 192, 193, 194, 195, 196, 197, 198, 199, 200, 201, 202, 203, 204, 205, 206, 207, 208, 209, 210, 211, 212, 213, 214, 215, 216, 217, 218, 219, 220, 221, 222, 223, 224, 225, 226, 227, 228, 229, 230, 231, 232, 233, 234, 235, 236, 237, 238, 239, 240, 241] rfl (by decide +kernel)) (goodIn_sub (fun _ h => List.mem_cons_of_mem _ (List.mem_append_left _ (List.mem_append_right _ h))) (by decide +kernel))) (goodIn_sub (fun _ h => List.mem_cons_of_mem _ (List.mem_append_right _ h)) (by decide +kernel))
set_option maxRecDepth 20000 in
theorem gL_first_X6_first : GoodIn wsL_first (wsV RL 55 RX6 yX6_first wsX6_first) := goodIn_app (goodIn_of _ (by decide +kernel)) ggL_first_X6_first
theorem dL_first_0 : decode cL_first 0 = .ok (.aload_n 3, 1) := by decide +kernel
theorem dL_first_1 : decode cL_first 1 = .ok (.iconst 0, 1) := by decide +kernel
theorem dL_first_2 : decode cL_first 2 = .ok (.aload_n 0, 1) := by decide +kernel
theorem dL_first_3 : decode cL_first 3 = .ok (.iload_n 1, 1) := by decide +kernel
theorem dL_first_4 : decode cL_first 4 = .ok (.iload_n 2, 1) := by decide +kernel
theorem dL_first_5 : decode cL_first 5 = .ok (.invokevirtual 55, 3) := by decide +kernel
theorem dL_first_8 : decode cL_first 8 = .ok (.lastore, 1) := by decide +kernel
theorem dL_first_9 : decode cL_first 9 = .ok (.goto 11, 3) := by decide +kernel
theorem dL_first_12 : decode cL_first 12 = .ok (.astore 4, 2) := by decide +kernel
theorem dL_first_14 : decode cL_first 14 = .ok (.iconst 1, 1) := by decide +kernel
theorem dL_first_15 : decode cL_first 15 = .ok (.ireturn, 1) := by decide +kernel
theorem dL_first_16 : decode cL_first 16 = .ok (.astore 4, 2) := by decide +kernel
theorem dL_first_18 : decode cL_first 18 = .ok (.iconst 2, 1) := by decide +kernel
theorem dL_first_19 : decode cL_first 19 = .ok (.ireturn, 1) := by decide +kernel
theorem dL_first_20 : decode cL_first 20 = .ok (.iconst 0, 1) := by decide +kernel
theorem dL_first_21 : decode cL_first 21 = .ok (.ireturn, 1) := by decide +kernel
set_option maxRecDepth 20000 in
theorem ggL_places_X6_places : GoodIn wsL_places wsX6_places := goodIn_ca (goodIn_r _ [6, 7, 8, 9, 10, 11, 5, 12, 13, 14, 15, 16, 17, 18, 19, 20, 21, 22, 23, 24, 25, 26, 27, 28, 29, 30, 31, 32, 33, 34, 35, 36, 37, 38, 39, 40, 41, 42, 43, 44, 45, 46, 47, 48, 49, 50, 51, 52, 53, 54, 55, 56, 57, 58, 59, 60, 61, 62, 63, 64, 65, 66, 67, 68, 69, 70, 71, 72, 73, 74, 75, 76, 77, 78, 79, 80, 81, 82, 83, 84, 85, 86, 87, 88, 89, 90, 91, 92, 93, 94, 95, 96, 97, 98, 99, 100, 101, 102, 103, 104, 105, 106, 107, 108, 109, 110, 111, 112, 113, 114, 115, 116, 117, 118, 119, 120, 121, 122, 123, 124, 125, 126, 127, 128, 129, 130, 131, 132, 133, 134, 135, 136, 137, 138, 139, 140, 141, 142, 143, 144, 145, 146, 147, 148, 149, 150, 151, 152, 153, 154, 155, 156, 157, 158, 159, 160, 161, 162, 163, 164, 165, 166, 167, 168, 169, 170, 171, 172, 173, 174, 175, 176, 177, 178, 179, 180, 181, 182, 183, 184, 185, 186, 187, 188, 189, 190, 191, 192, 193, 194, 195, 196, 197, 198, 199, 200, 201, 202, 203, 204, 205, 206, 207, 208, 209] rfl (by decide +kernel)) (goodIn_sub (fun _ h => List.mem_cons_of_mem _ (List.mem_append_right _ h)) (by decide +kernel))
set_option maxRecDepth 20000 in
theorem gL_places_X6_places : GoodIn wsL_places (wsV RL 59 RX6 yX6_places wsX6_places) := goodIn_app (goodIn_of _ (by decide +kernel)) ggL_places_X6_places
theorem dL_places_0 : decode cL_places 0 = .ok (.aload_n 2, 1) := by decide +kernel
theorem dL_places_1 : decode cL_places 1 = .ok (.iconst 0, 1) := by decide +kernel
theorem dL_places_2 : decode cL_places 2 = .ok (.aload_n 0, 1) := by decide +kernel
theorem dL_places_3 : decode cL_places 3 = .ok (.iload_n 1, 1) := by decide +kernel
theorem dL_places_4 : decode cL_places 4 = .ok (.invokevirtual 59, 3) := by decide +kernel
theorem dL_places_7 : decode cL_places 7 = .ok (.i2l, 1) := by decide +kernel
theorem dL_places_8 : decode cL_places 8 = .ok (.lastore, 1) := by decide +kernel
theorem dL_places_9 : decode cL_places 9 = .ok (.goto 6, 3) := by decide +kernel
theorem dL_places_12 : decode cL_places 12 = .ok (.astore_n 3, 1) := by decide +kernel
theorem dL_places_13 : decode cL_places 13 = .ok (.iconst 1, 1) := by decide +kernel
theorem dL_places_14 : decode cL_places 14 = .ok (.ireturn, 1) := by decide +kernel
theorem dL_places_15 : decode cL_places 15 = .ok (.iconst 0, 1) := by decide +kernel
theorem dL_places_16 : decode cL_places 16 = .ok (.ireturn, 1) := by decide +kernel
set_option maxRecDepth 20000 in
theorem ggL_step_X6_step : GoodIn wsL_step wsX6_step := goodIn_ca (goodIn_ca (goodIn_r _ [7, 8, 9, 10, 11, 12, 13, 14, 15, 6, 16, 17, 18, 19, 20, 21, 22, 23, 24, 25, 26, 27, 28, 29, 30, 31, 32, 33, 34, 35, 36, 37, 38, 39, 40, 41, 42, 43, 44, 45, 46, 47, 48, 49, 50, 51, 52, 53, 54, 55, 56, 57] rfl (by decide +kernel)) (goodIn_sub (fun _ h => List.mem_cons_of_mem _ (List.mem_append_left _ (List.mem_append_right _ h))) (by decide +kernel))) (goodIn_sub (fun _ h => List.mem_cons_of_mem _ (List.mem_append_right _ h)) (by decide +kernel))
set_option maxRecDepth 20000 in
theorem gL_step_X6_step : GoodIn wsL_step (wsV RL 62 RX6 yX6_step wsX6_step) := goodIn_app (goodIn_of _ (by decide +kernel)) ggL_step_X6_step
theorem dL_step_0 : decode cL_step 0 = .ok (.aload 6, 2) := by decide +kernel
theorem dL_step_2 : decode cL_step 2 = .ok (.iconst 0, 1) := by decide +kernel
theorem dL_step_3 : decode cL_step 3 = .ok (.aload_n 0, 1) := by decide +kernel
theorem dL_step_4 : decode cL_step 4 = .ok (.iload_n 1, 1) := by decide +kernel
theorem dL_step_5 : decode cL_step 5 = .ok (.iload_n 2, 1) := by decide +kernel
theorem dL_step_6 : decode cL_step 6 = .ok (.iload_n 3, 1) := by decide +kernel
theorem dL_step_7 : decode cL_step 7 = .ok (.iload 4, 2) := by decide +kernel
theorem dL_step_9 : decode cL_step 9 = .ok (.iload 5, 2) := by decide +kernel
theorem dL_step_11 : decode cL_step 11 = .ok (.invokevirtual 62, 3) := by decide +kernel
theorem dL_step_14 : decode cL_step 14 = .ok (.i2l, 1) := by decide +kernel
theorem dL_step_15 : decode cL_step 15 = .ok (.lastore, 1) := by decide +kernel
theorem dL_step_16 : decode cL_step 16 = .ok (.goto 11, 3) := by decide +kernel
theorem dL_step_19 : decode cL_step 19 = .ok (.astore 7, 2) := by decide +kernel
theorem dL_step_21 : decode cL_step 21 = .ok (.iconst 1, 1) := by decide +kernel
theorem dL_step_22 : decode cL_step 22 = .ok (.ireturn, 1) := by decide +kernel
theorem dL_step_23 : decode cL_step 23 = .ok (.astore 7, 2) := by decide +kernel
theorem dL_step_25 : decode cL_step 25 = .ok (.iconst 2, 1) := by decide +kernel
theorem dL_step_26 : decode cL_step 26 = .ok (.ireturn, 1) := by decide +kernel
theorem dL_step_27 : decode cL_step 27 = .ok (.iconst 0, 1) := by decide +kernel
theorem dL_step_28 : decode cL_step 28 = .ok (.ireturn, 1) := by decide +kernel
set_option maxRecDepth 20000 in
theorem ggL_run_X6_run : GoodIn wsL_run wsX6_run := goodIn_ca (goodIn_r _ [6, 7, 8, 9, 10, 11, 12, 5, 13, 14, 15, 16, 17, 18, 19, 20, 21, 22, 23, 24, 25, 26, 27, 28, 29, 30, 31, 32, 33, 34, 35, 36, 37, 38, 39, 40, 41, 42, 43, 44, 45, 46, 47, 48, 49, 50, 51, 52, 53, 54, 55, 56, 57, 58, 59, 60, 61, 62, 63, 64, 65, 66, 67, 68, 69, 70, 71, 72, 73, 74, 75, 76, 77, 78, 79, 80, 81, 82, 83, 84, 85, 86, 87, 88, 89, 90, 91, 92, 93, 94, 95, 96, 97, 98, 99, 100, 101, 102, 103, 104, 105, 106, 107, 108, 109, 110, 111, 112, 113, 114, 115, 116, 117, 118, 119, 120, 121, 122, 123, 124, 125, 126, 127, 128, 129, 130, 131, 132, 133, 134, 135, 136, 137, 138, 139, 140, 141, 142, 143, 144, 145, 146, 147, 148, 149, 150, 151, 152, 153, 154, 155, 156, 157, 158, 159, 160, 161, 162, 163, 164, 165, 166, 167, 168, 169, 170, 171, 172, 173, 174, 175, 176, 177, 178, 179, 180, 181, 182, 183, 184, 185, 186, 187, 188, 189, 190, 191, 192, 193, 194, 195, 196, 197, 198, 199, 200, 201, 202, 203, 204, 205, 206, 207, 208, 209, 210, 211, 212, 213, 214, 215, 216, 217, 218, 219, 220, 221, 222, 223, 224, 225, 226, 227, 228, 229, 230, 231, 232, 233, 234, 235, 236, 237, 238, 239, 240, 241, 242, 243, 244, 245, 246, 247, 248, 249, 250, 251, 252, 253, 254, 255, 256, 257, 258, 259, 260, 261, 262, 263, 264, 265, 266, 267, 268, 269, 270, 271, 272, 273, 274, 275, 276, 277, 278, 279, 280, 281, 282] rfl (by decide +kernel)) (goodIn_sub (fun _ h => List.mem_cons_of_mem _ (List.mem_append_right _ h)) (by decide +kernel))
set_option maxRecDepth 20000 in
theorem gL_run_X6_run : GoodIn wsL_run (wsV RL 66 RX6 yX6_run wsX6_run) := goodIn_app (goodIn_of _ (by decide +kernel)) ggL_run_X6_run
theorem dL_run_0 : decode cL_run 0 = .ok (.aload_n 2, 1) := by decide +kernel
theorem dL_run_1 : decode cL_run 1 = .ok (.iconst 0, 1) := by decide +kernel
theorem dL_run_2 : decode cL_run 2 = .ok (.aload_n 0, 1) := by decide +kernel
theorem dL_run_3 : decode cL_run 3 = .ok (.iload_n 1, 1) := by decide +kernel
theorem dL_run_4 : decode cL_run 4 = .ok (.invokevirtual 66, 3) := by decide +kernel
theorem dL_run_7 : decode cL_run 7 = .ok (.i2l, 1) := by decide +kernel
theorem dL_run_8 : decode cL_run 8 = .ok (.lastore, 1) := by decide +kernel
theorem dL_run_9 : decode cL_run 9 = .ok (.goto 6, 3) := by decide +kernel
theorem dL_run_12 : decode cL_run 12 = .ok (.astore_n 3, 1) := by decide +kernel
theorem dL_run_13 : decode cL_run 13 = .ok (.iconst 1, 1) := by decide +kernel
theorem dL_run_14 : decode cL_run 14 = .ok (.ireturn, 1) := by decide +kernel
theorem dL_run_15 : decode cL_run 15 = .ok (.iconst 0, 1) := by decide +kernel
theorem dL_run_16 : decode cL_run 16 = .ok (.ireturn, 1) := by decide +kernel
set_option maxRecDepth 20000 in
theorem ggL_take_X6_take : GoodIn wsL_take wsX6_take := goodIn_ca (goodIn_r _ [6, 7, 8, 9, 10, 11, 12, 13, 5, 14, 15, 16, 17, 18, 19, 20, 21, 22, 23, 24, 25, 26, 27, 28, 29, 30, 31, 32, 33, 34, 35, 36, 37, 38, 39, 40, 41, 42, 43, 44, 45, 46, 47, 48, 49, 50, 51, 52, 53, 54, 55, 56, 57, 58, 59, 60, 61, 62, 63, 64, 65, 66, 67, 68, 69, 70, 71, 72, 73, 74, 75, 76, 77, 78, 79, 80] rfl (by decide +kernel)) (goodIn_sub (fun _ h => List.mem_cons_of_mem _ (List.mem_append_right _ h)) (by decide +kernel))
set_option maxRecDepth 20000 in
theorem gL_take_X6_take : GoodIn wsL_take (wsV RL 69 RX6 yX6_take wsX6_take) := goodIn_app (goodIn_of _ (by decide +kernel)) ggL_take_X6_take
theorem dL_take_0 : decode cL_take 0 = .ok (.aload_n 3, 1) := by decide +kernel
theorem dL_take_1 : decode cL_take 1 = .ok (.iconst 0, 1) := by decide +kernel
theorem dL_take_2 : decode cL_take 2 = .ok (.aload_n 0, 1) := by decide +kernel
theorem dL_take_3 : decode cL_take 3 = .ok (.iload_n 1, 1) := by decide +kernel
theorem dL_take_4 : decode cL_take 4 = .ok (.iload_n 2, 1) := by decide +kernel
theorem dL_take_5 : decode cL_take 5 = .ok (.invokevirtual 69, 3) := by decide +kernel
theorem dL_take_8 : decode cL_take 8 = .ok (.ifCond .eq 7, 3) := by decide +kernel
theorem dL_take_11 : decode cL_take 11 = .ok (.lconst 1, 1) := by decide +kernel
theorem dL_take_12 : decode cL_take 12 = .ok (.goto 4, 3) := by decide +kernel
theorem dL_take_15 : decode cL_take 15 = .ok (.lconst 0, 1) := by decide +kernel
theorem dL_take_16 : decode cL_take 16 = .ok (.lastore, 1) := by decide +kernel
theorem dL_take_17 : decode cL_take 17 = .ok (.goto 7, 3) := by decide +kernel
theorem dL_take_20 : decode cL_take 20 = .ok (.astore 4, 2) := by decide +kernel
theorem dL_take_22 : decode cL_take 22 = .ok (.iconst 1, 1) := by decide +kernel
theorem dL_take_23 : decode cL_take 23 = .ok (.ireturn, 1) := by decide +kernel
theorem dL_take_24 : decode cL_take 24 = .ok (.iconst 0, 1) := by decide +kernel
theorem dL_take_25 : decode cL_take 25 = .ok (.ireturn, 1) := by decide +kernel
