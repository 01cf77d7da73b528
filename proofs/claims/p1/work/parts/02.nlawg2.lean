set_option maxRecDepth 20000 in
theorem ggL_law_X7_forget : GoodIn wsL_law wsX7_forget := goodIn_r _ [473, 300, 301, 5, 302, 303, 304, 305, 320, 321, 322, 323, 324, 348, 349, 350, 351, 146, 333, 334, 335, 336, 134, 680, 681, 682, 683, 684, 685, 686, 687, 688, 689, 690, 691, 692] rfl (by decide +kernel)
set_option maxRecDepth 20000 in
theorem gL_law_X7_forget : GoodIn wsL_law (wsV RL 107 RX7 yX7_forget wsX7_forget) := goodIn_app (goodIn_of _ (by decide +kernel)) ggL_law_X7_forget
set_option maxRecDepth 20000 in
theorem ggL_law_L_isEmpty : GoodIn wsL_law wsL_isEmpty := goodIn_ca (goodIn_r _ [476, 151, 477, 478, 479, 2, 480, 16, 156, 157, 158, 159, 160, 161, 673, 674, 675, 676, 677, 678, 679, 696, 697, 698, 699] rfl (by decide +kernel)) (goodIn_sub (fun _ h => List.mem_append_left _ (List.mem_append_right _ h)) (by decide +kernel))
set_option maxRecDepth 20000 in
theorem gL_law_L_isEmpty : GoodIn wsL_law (va_wsS RL 108 yL_isEmpty wsL_isEmpty) := goodIn_app (goodIn_of _ (by decide +kernel)) ggL_law_L_isEmpty
set_option maxRecDepth 20000 in
theorem ggL_law_X7_isEmpty : GoodIn wsL_law wsX7_isEmpty := goodIn_r _ [484, 135, 300, 301, 5, 302, 303, 304, 305, 320, 321, 322, 323, 324, 680, 681, 682, 683, 684, 685, 686, 687, 688, 689, 690, 691, 692] rfl (by decide +kernel)
set_option maxRecDepth 20000 in
theorem gL_law_X7_isEmpty : GoodIn wsL_law (wsV RL 111 RX7 yX7_isEmpty wsX7_isEmpty) := goodIn_app (goodIn_of _ (by decide +kernel)) ggL_law_X7_isEmpty
set_option maxRecDepth 20000 in
theorem ggL_law_L_most : GoodIn wsL_law wsL_most := goodIn_ca (goodIn_ca (goodIn_r _ [487, 151, 488, 489, 490, 491, 2, 492, 16, 157, 158, 159, 160, 161, 170, 171, 172, 173, 174, 175, 176, 99, 100, 493, 494, 495, 496, 497, 498, 156, 499, 500, 501, 21, 502, 84, 85, 82, 251, 96, 97, 98, 503, 504, 505, 35, 506, 62, 507, 508, 509, 114, 110, 111, 112, 113, 115, 116, 117, 118, 45, 276, 277, 278, 56, 279, 69, 280, 237, 233, 234, 235, 236, 271, 272, 273, 274, 61, 275, 57, 206, 211, 216, 217, 218, 219, 125, 126, 50, 44, 55, 202, 203, 204, 205, 58, 123, 124, 51, 220, 59, 60, 63, 64, 65, 66, 11, 12, 67, 68, 70, 71, 72, 73, 6, 74, 119, 120, 121, 122, 228, 229, 230, 231, 232, 242, 243, 244, 15, 245, 37, 36, 246, 106, 107, 108, 109, 673, 674, 675, 676, 677, 678, 679, 696, 697, 698, 699, 693, 694, 695, 715, 716, 717, 718, 719, 720, 706, 707, 708, 709, 710, 711, 712, 713, 714, 721, 722] rfl (by decide +kernel)) (goodIn_sub (fun _ h => List.mem_append_left _ (List.mem_append_right _ h)) (by decide +kernel))) (goodIn_sub (fun _ h => List.mem_append_right _ h) (by decide +kernel))
set_option maxRecDepth 20000 in
theorem gL_law_L_most : GoodIn wsL_law (va_wsS RL 112 yL_most wsL_most) := goodIn_app (goodIn_of _ (by decide +kernel)) ggL_law_L_most
set_option maxRecDepth 20000 in
theorem ggL_law_X7_most : GoodIn wsL_law wsX7_most := goodIn_r _ [513, 135, 300, 301, 5, 302, 303, 304, 305, 314, 315, 316, 317, 318, 319, 320, 321, 322, 323, 324, 329, 330, 331, 332, 134, 680, 681, 682, 683, 684, 685, 686, 687, 688, 689, 690, 691, 692] rfl (by decide +kernel)
set_option maxRecDepth 20000 in
theorem gL_law_X7_most : GoodIn wsL_law (wsV RL 114 RX7 yX7_most wsX7_most) := goodIn_app (goodIn_of _ (by decide +kernel)) ggL_law_X7_most
set_option maxRecDepth 20000 in
theorem ggL_law_L_inside : GoodIn wsL_law wsL_inside := goodIn_ca (goodIn_r _ [516, 151, 517, 518, 519, 2, 520, 16, 157, 158, 159, 160, 161, 521, 522, 523, 21, 524, 86, 84, 85, 252, 253, 254, 35, 255, 256, 257, 258, 259, 114, 113, 46, 47, 48, 61, 202, 203, 204, 205, 260, 261, 212, 213, 214, 215, 57, 206, 110, 111, 112, 115, 116, 117, 118, 45, 221, 222, 223, 224, 49, 673, 674, 675, 676, 677, 678, 679, 696, 697, 698, 699, 706, 707, 708, 709, 710, 711, 712, 713, 714, 715, 716, 717, 718, 719, 720, 721, 722] rfl (by decide +kernel)) (goodIn_sub (fun _ h => List.mem_append_left _ (List.mem_append_right _ h)) (by decide +kernel))
set_option maxRecDepth 20000 in
theorem gL_law_L_inside : GoodIn wsL_law (va_wsS RL 115 yL_inside wsL_inside) := goodIn_app (goodIn_of _ (by decide +kernel)) ggL_law_L_inside
set_option maxRecDepth 20000 in
theorem ggL_law_X7_inside : GoodIn wsL_law wsX7_inside := goodIn_r _ [528, 300, 301, 5, 302, 303, 304, 305, 320, 321, 322, 323, 324, 529, 530, 531, 532, 135, 134, 680, 681, 682, 683, 684, 685, 686, 687, 688, 689, 690, 691, 692] rfl (by decide +kernel)
set_option maxRecDepth 20000 in
theorem gL_law_X7_inside : GoodIn wsL_law (wsV RL 118 RX7 yX7_inside wsX7_inside) := goodIn_app (goodIn_of _ (by decide +kernel)) ggL_law_X7_inside
set_option maxRecDepth 20000 in
theorem ggL_law_L_bounds : GoodIn wsL_law wsL_bounds := goodIn_ca (goodIn_r _ [535, 151, 536, 537, 538, 2, 539, 16, 156, 157, 158, 159, 160, 161, 540, 541, 542, 21, 543, 85, 95, 99, 100, 96, 97, 98, 673, 674, 675, 676, 677, 678, 679, 696, 697, 698, 699] rfl (by decide +kernel)) (goodIn_sub (fun _ h => List.mem_append_left _ (List.mem_append_right _ h)) (by decide +kernel))
set_option maxRecDepth 20000 in
theorem gL_law_L_bounds : GoodIn wsL_law (va_wsS RL 119 yL_bounds wsL_bounds) := goodIn_app (goodIn_of _ (by decide +kernel)) ggL_law_L_bounds
set_option maxRecDepth 20000 in
theorem ggL_law_X7_bounds : GoodIn wsL_law wsX7_bounds := goodIn_r _ [547, 135, 146, 300, 301, 5, 302, 303, 304, 305, 320, 321, 322, 323, 324, 317, 318, 319, 329, 330, 331, 332, 134, 680, 681, 682, 683, 684, 685, 686, 687, 688, 689, 690, 691, 692] rfl (by decide +kernel)
set_option maxRecDepth 20000 in
theorem gL_law_X7_bounds : GoodIn wsL_law (wsV RL 121 RX7 yX7_bounds wsX7_bounds) := goodIn_app (goodIn_of _ (by decide +kernel)) ggL_law_X7_bounds
set_option maxRecDepth 20000 in
theorem ggL_law_L_first : GoodIn wsL_law wsL_first := goodIn_ca (goodIn_ca (goodIn_r _ [550, 151, 488, 551, 552, 553, 2, 554, 22, 16, 157, 158, 159, 160, 161, 177, 178, 179, 493, 494, 495, 496, 497, 498, 156, 295, 239, 240, 21, 241, 86, 85, 101, 102, 103, 104, 84, 105, 106, 107, 35, 108, 109, 110, 111, 112, 113, 114, 115, 116, 117, 118, 45, 119, 120, 121, 122, 61, 57, 123, 124, 125, 126, 555, 556, 557, 558, 95, 82, 96, 97, 98, 242, 243, 244, 15, 245, 37, 36, 246, 247, 248, 249, 250, 251, 252, 253, 254, 255, 256, 257, 258, 259, 46, 47, 48, 202, 203, 204, 205, 260, 261, 212, 213, 214, 215, 206, 221, 222, 223, 224, 49, 262, 263, 264, 265, 99, 100, 266, 198, 199, 200, 201, 62, 207, 208, 209, 210, 211, 216, 217, 218, 219, 50, 44, 55, 56, 58, 51, 220, 59, 60, 63, 64, 65, 66, 11, 12, 67, 68, 69, 70, 71, 72, 73, 6, 74, 225, 226, 227, 228, 229, 230, 231, 232, 233, 234, 235, 236, 237, 267, 268, 269, 270, 271, 272, 273, 274, 275, 276, 277, 278, 279, 280, 281, 282, 283, 284, 285, 286, 287, 288, 184, 185, 186, 187, 559, 560, 561, 562, 499, 500, 501, 502, 503, 504, 505, 506, 507, 508, 509, 673, 674, 675, 676, 677, 678, 679, 696, 697, 698, 699, 715, 716, 717, 718, 719, 720, 706, 707, 708, 709, 710, 711, 712, 713, 714, 721, 722, 693, 694, 695] rfl (by decide +kernel)) (goodIn_sub (fun _ h => List.mem_append_left _ (List.mem_append_right _ h)) (by decide +kernel))) (goodIn_sub (fun _ h => List.mem_append_right _ h) (by decide +kernel))
set_option maxRecDepth 20000 in
theorem gL_law_L_first : GoodIn wsL_law (va_wsS RL 122 yL_first wsL_first) := goodIn_app (goodIn_of _ (by decide +kernel)) ggL_law_L_first
set_option maxRecDepth 20000 in
theorem ggL_law_X7_first : GoodIn wsL_law wsX7_first := goodIn_r _ [566, 135, 146, 300, 301, 5, 302, 303, 304, 305, 320, 321, 322, 323, 324, 341, 342, 343, 344, 134, 329, 330, 331, 332, 333, 334, 335, 336, 352, 353, 354, 355, 345, 346, 347, 356, 357, 358, 359, 317, 318, 319, 360, 361, 362, 363, 680, 681, 682, 683, 684, 685, 686, 687, 688, 689, 690, 691, 692] rfl (by decide +kernel)
set_option maxRecDepth 20000 in
theorem gL_law_X7_first : GoodIn wsL_law (wsV RL 124 RX7 yX7_first wsX7_first) := goodIn_app (goodIn_of _ (by decide +kernel)) ggL_law_X7_first
set_option maxRecDepth 20000 in
theorem ggL_law_L_places : GoodIn wsL_law wsL_places := goodIn_ca (goodIn_r _ [569, 151, 570, 571, 572, 2, 573, 16, 156, 22, 157, 158, 159, 160, 161, 295, 239, 240, 21, 241, 86, 85, 101, 102, 103, 104, 84, 105, 106, 107, 35, 108, 109, 110, 111, 112, 113, 114, 115, 116, 117, 118, 45, 119, 120, 121, 122, 61, 57, 123, 124, 125, 126, 574, 575, 576, 577, 95, 82, 251, 96, 97, 98, 271, 272, 273, 274, 275, 206, 62, 211, 216, 217, 218, 219, 50, 44, 55, 56, 202, 203, 204, 205, 58, 51, 220, 59, 60, 63, 64, 65, 66, 11, 12, 67, 68, 69, 70, 71, 72, 73, 6, 74, 276, 277, 278, 279, 280, 237, 228, 229, 230, 231, 232, 233, 234, 235, 236, 242, 243, 244, 15, 245, 37, 36, 246, 559, 560, 561, 562, 46, 49, 207, 208, 209, 210, 212, 213, 214, 215, 221, 222, 223, 224, 225, 226, 227, 198, 199, 200, 201, 47, 578, 579, 580, 581, 582, 499, 500, 501, 502, 503, 504, 505, 506, 507, 508, 509, 583, 584, 585, 586, 23, 587, 588, 589, 590, 591, 592, 673, 674, 675, 676, 677, 678, 679, 696, 697, 698, 699, 715, 716, 717, 718, 719, 720, 706, 707, 708, 709, 710, 711, 712, 713, 714, 721, 722, 693, 694, 695] rfl (by decide +kernel)) (goodIn_sub (fun _ h => List.mem_append_left _ (List.mem_append_right _ h)) (by decide +kernel))
set_option maxRecDepth 20000 in
theorem gL_law_L_places : GoodIn wsL_law (va_wsS RL 125 yL_places wsL_places) := goodIn_app (goodIn_of _ (by decide +kernel)) ggL_law_L_places
