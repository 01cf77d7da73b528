set_option maxRecDepth 20000 in
theorem ggL_law_X7_places : GoodIn wsL_law wsX7_places := goodIn_r _ [596, 135, 146, 597, 143, 144, 145, 300, 301, 5, 302, 303, 304, 305, 320, 321, 322, 323, 324, 329, 330, 331, 332, 134, 598, 599, 600, 601, 317, 318, 319, 680, 681, 682, 683, 684, 685, 686, 687, 688, 689, 690, 691, 692] rfl (by decide +kernel)
set_option maxRecDepth 20000 in
theorem gL_law_X7_places : GoodIn wsL_law (wsV RL 127 RX7 yX7_places wsX7_places) := goodIn_app (goodIn_of _ (by decide +kernel)) ggL_law_X7_places
set_option maxRecDepth 20000 in
theorem ggL_law_L_step : GoodIn wsL_law wsL_step := goodIn_ca (goodIn_ca (goodIn_r _ [604, 151, 488, 605, 606, 607, 2, 608, 160, 161, 497, 498, 24, 26, 162, 163, 164, 165, 166, 167, 168, 169, 170, 171, 172, 173, 174, 175, 176, 99, 100, 177, 178, 179, 609, 610, 611, 28, 612, 613, 614, 615, 616, 617, 618, 673, 674, 675, 676, 677, 678, 679, 700, 701, 702, 703, 704, 705] rfl (by decide +kernel)) (goodIn_sub (fun _ h => List.mem_append_left _ (List.mem_append_right _ h)) (by decide +kernel))) (goodIn_sub (fun _ h => List.mem_append_right _ h) (by decide +kernel))
set_option maxRecDepth 20000 in
theorem gL_law_L_step : GoodIn wsL_law (va_wsS RL 128 yL_step wsL_step) := goodIn_app (goodIn_of _ (by decide +kernel)) ggL_law_L_step
set_option maxRecDepth 20000 in
theorem ggL_law_X7_step : GoodIn wsL_law wsX7_step := goodIn_r _ [622, 623, 137, 138, 139, 140, 141, 142, 303, 304, 5, 305, 306, 307, 308, 309, 310, 311, 312, 313, 314, 315, 316, 317, 318, 319, 320, 321, 322, 323, 324, 680, 681, 682, 683, 684, 685, 686, 687, 688, 689, 690, 691, 692] rfl (by decide +kernel)
set_option maxRecDepth 20000 in
theorem gL_law_X7_step : GoodIn wsL_law (wsV RL 130 RX7 yX7_step wsX7_step) := goodIn_app (goodIn_of _ (by decide +kernel)) ggL_law_X7_step
set_option maxRecDepth 20000 in
theorem ggL_law_X6_erase : GoodIn wsL_law wsX6_erase := goodIn_r _ [627, 24, 673, 674, 675, 676, 677, 678, 679] rfl (by decide +kernel)
set_option maxRecDepth 20000 in
theorem gL_law_X6_erase : GoodIn wsL_law (wsV RL 131 RX6 yX6_erase wsX6_erase) := goodIn_app (goodIn_of _ (by decide +kernel)) ggL_law_X6_erase
set_option maxRecDepth 20000 in
theorem ggL_law_X7_erase : GoodIn wsL_law wsX7_erase := goodIn_r _ [631, 324, 623, 680, 681, 682, 683, 684, 685, 686, 687, 688, 689, 690, 691, 692] rfl (by decide +kernel)
set_option maxRecDepth 20000 in
theorem gL_law_X7_erase : GoodIn wsL_law (wsV RL 134 RX7 yX7_erase wsX7_erase) := goodIn_app (goodIn_of _ (by decide +kernel)) ggL_law_X7_erase
set_option maxRecDepth 20000 in
theorem ggL_law_L_run : GoodIn wsL_law wsL_run := goodIn_ca (goodIn_r _ [634, 151, 635, 636, 637, 2, 638, 18, 16, 24, 26, 157, 158, 159, 160, 161, 639, 185, 186, 21, 187, 86, 85, 84, 105, 106, 107, 35, 108, 109, 110, 111, 112, 113, 114, 115, 116, 117, 118, 45, 119, 120, 121, 122, 61, 57, 123, 124, 125, 126, 295, 239, 240, 241, 101, 102, 103, 104, 640, 641, 642, 643, 644, 22, 645, 646, 647, 648, 649, 180, 181, 182, 183, 82, 184, 188, 189, 190, 191, 192, 193, 194, 99, 100, 195, 196, 197, 96, 97, 98, 198, 199, 200, 201, 46, 47, 62, 202, 203, 204, 205, 206, 207, 208, 209, 210, 211, 212, 213, 214, 215, 216, 217, 218, 219, 50, 44, 55, 56, 58, 51, 220, 59, 60, 63, 64, 65, 66, 11, 12, 67, 68, 69, 70, 71, 72, 73, 6, 74, 221, 222, 223, 224, 49, 225, 226, 227, 228, 229, 230, 231, 232, 233, 234, 235, 236, 237, 238, 242, 243, 244, 15, 245, 37, 36, 246, 247, 248, 249, 250, 251, 252, 253, 254, 255, 256, 257, 258, 259, 48, 260, 261, 262, 263, 264, 265, 95, 266, 267, 268, 269, 270, 271, 272, 273, 274, 275, 276, 277, 278, 279, 280, 281, 282, 283, 284, 285, 286, 287, 288, 289, 290, 291, 292, 293, 294, 91, 92, 93, 94, 521, 522, 523, 524, 450, 451, 452, 453, 408, 431, 432, 433, 434, 409, 410, 411, 412, 427, 428, 429, 430, 650, 651, 652, 653, 17, 673, 674, 675, 676, 677, 678, 679, 696, 697, 698, 699, 715, 716, 717, 718, 719, 720, 706, 707, 708, 709, 710, 711, 712, 713, 714, 721, 722, 700, 701, 702, 703, 704, 705, 693, 694, 695] rfl (by decide +kernel)) (goodIn_sub (fun _ h => List.mem_append_left _ (List.mem_append_right _ h)) (by decide +kernel))
set_option maxRecDepth 20000 in
theorem gL_law_L_run : GoodIn wsL_law (va_wsS RL 135 yL_run wsL_run) := goodIn_app (goodIn_of _ (by decide +kernel)) ggL_law_L_run
set_option maxRecDepth 20000 in
theorem ggL_law_X7_run : GoodIn wsL_law wsX7_run := goodIn_r _ [657, 135, 623, 300, 301, 5, 302, 303, 304, 305, 320, 321, 322, 323, 324, 379, 380, 381, 382, 134, 146, 341, 342, 343, 344, 658, 659, 660, 661, 138, 137, 139, 140, 141, 142, 325, 326, 327, 328, 329, 330, 331, 332, 333, 334, 335, 336, 337, 338, 339, 340, 345, 346, 347, 317, 318, 319, 348, 349, 350, 351, 352, 353, 354, 355, 356, 357, 358, 359, 360, 361, 362, 363, 529, 530, 531, 532, 439, 440, 441, 442, 458, 459, 460, 461, 680, 681, 682, 683, 684, 685, 686, 687, 688, 689, 690, 691, 692] rfl (by decide +kernel)
set_option maxRecDepth 20000 in
theorem gL_law_X7_run : GoodIn wsL_law (wsV RL 137 RX7 yX7_run wsX7_run) := goodIn_app (goodIn_of _ (by decide +kernel)) ggL_law_X7_run
set_option maxRecDepth 20000 in
theorem ggL_law_L_take : GoodIn wsL_law wsL_take := goodIn_ca (goodIn_r _ [664, 151, 665, 666, 667, 2, 668, 160, 161, 16, 17, 156, 157, 158, 159, 295, 239, 240, 21, 241, 86, 85, 101, 102, 103, 104, 84, 105, 106, 107, 35, 108, 109, 110, 111, 112, 113, 114, 115, 116, 117, 118, 45, 119, 120, 121, 122, 61, 57, 123, 124, 125, 126, 673, 674, 675, 676, 677, 678, 679, 696, 697, 698, 699, 715, 716, 717, 718, 719, 720, 706, 707, 708, 709, 710, 711, 712, 713, 714, 721, 722] rfl (by decide +kernel)) (goodIn_sub (fun _ h => List.mem_append_left _ (List.mem_append_right _ h)) (by decide +kernel))
set_option maxRecDepth 20000 in
theorem gL_law_L_take : GoodIn wsL_law (va_wsS RL 138 yL_take wsL_take) := goodIn_app (goodIn_of _ (by decide +kernel)) ggL_law_L_take
set_option maxRecDepth 20000 in
theorem ggL_law_X7_take : GoodIn wsL_law wsX7_take := goodIn_r _ [672, 135, 300, 301, 5, 302, 303, 304, 305, 320, 321, 322, 323, 324, 341, 342, 343, 344, 134, 680, 681, 682, 683, 684, 685, 686, 687, 688, 689, 690, 691, 692] rfl (by decide +kernel)
set_option maxRecDepth 20000 in
theorem gL_law_X7_take : GoodIn wsL_law (wsV RL 140 RX7 yX7_take wsX7_take) := goodIn_app (goodIn_of _ (by decide +kernel)) ggL_law_X7_take
