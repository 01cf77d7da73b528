set_option maxRecDepth 20000 in
theorem ggL_law_L_step : GoodIn wsL_law wsL_step := goodIn_ca (goodIn_ca (goodIn_r _ [553, 92, 437, 554, 555, 556, 2, 557, 101, 102, 446, 447, 21, 23, 103, 104, 105, 106, 107, 108, 109, 110, 111, 112, 113, 114, 115, 116, 117, 118, 119, 120, 121, 122, 558, 559, 560, 25, 561, 562, 563, 564, 565, 566, 567, 621, 622, 623, 624, 625, 626, 627, 643, 644, 645, 646, 647, 648] rfl (by decide +kernel)) (goodIn_sub (fun _ h => List.mem_append_left _ (List.mem_append_right _ h)) (by decide +kernel))) (goodIn_sub (fun _ h => List.mem_append_right _ h) (by decide +kernel))
set_option maxRecDepth 20000 in
theorem gL_law_L_step : GoodIn wsL_law (va_wsS RL 124 yL_step wsL_step) := goodIn_app (goodIn_of _ (by decide +kernel)) ggL_law_L_step
set_option maxRecDepth 20000 in
theorem ggL_law_X4_step : GoodIn wsL_law wsX4_step := goodIn_r _ [571, 572, 78, 79, 80, 81, 82, 83, 257, 258, 5, 259, 260, 261, 262, 263, 264, 265, 266, 267, 268, 269, 270, 271, 272, 273, 274, 275, 276, 277, 278, 628, 629, 630, 631, 632, 633, 634, 635, 636, 637, 638, 639, 640] rfl (by decide +kernel)
set_option maxRecDepth 20000 in
theorem gL_law_X4_step : GoodIn wsL_law (wsV RL 126 RX4 yX4_step wsX4_step) := goodIn_app (goodIn_of _ (by decide +kernel)) ggL_law_X4_step
set_option maxRecDepth 20000 in
theorem ggL_law_X3_erase : GoodIn wsL_law wsX3_erase := goodIn_r _ [576, 21, 621, 622, 623, 624, 625, 626, 627] rfl (by decide +kernel)
set_option maxRecDepth 20000 in
theorem gL_law_X3_erase : GoodIn wsL_law (wsV RL 127 RX3 yX3_erase wsX3_erase) := goodIn_app (goodIn_of _ (by decide +kernel)) ggL_law_X3_erase
set_option maxRecDepth 20000 in
theorem ggL_law_X4_erase : GoodIn wsL_law wsX4_erase := goodIn_r _ [580, 278, 572, 628, 629, 630, 631, 632, 633, 634, 635, 636, 637, 638, 639, 640] rfl (by decide +kernel)
set_option maxRecDepth 20000 in
theorem gL_law_X4_erase : GoodIn wsL_law (wsV RL 131 RX4 yX4_erase wsX4_erase) := goodIn_app (goodIn_of _ (by decide +kernel)) ggL_law_X4_erase
set_option maxRecDepth 20000 in
theorem ggL_law_L_run : GoodIn wsL_law wsL_run := goodIn_ca (goodIn_r _ [583, 92, 584, 585, 586, 2, 587, 15, 97, 13, 21, 23, 98, 99, 100, 101, 102, 249, 147, 148, 18, 149, 36, 37, 150, 151, 152, 35, 153, 44, 154, 155, 156, 157, 588, 589, 590, 591, 592, 19, 593, 594, 595, 596, 597, 123, 124, 125, 126, 127, 128, 129, 130, 131, 132, 133, 118, 119, 134, 135, 136, 54, 55, 56, 137, 138, 139, 140, 45, 66, 43, 141, 142, 143, 144, 61, 145, 58, 59, 60, 146, 62, 63, 64, 65, 158, 159, 160, 161, 162, 163, 164, 165, 166, 167, 168, 169, 170, 171, 172, 173, 174, 175, 176, 177, 178, 179, 180, 181, 182, 183, 184, 185, 186, 42, 187, 188, 189, 190, 191, 192, 193, 194, 195, 196, 197, 198, 199, 200, 201, 202, 203, 204, 205, 206, 207, 50, 51, 52, 53, 57, 212, 213, 214, 215, 216, 14, 217, 218, 219, 220, 221, 222, 223, 224, 225, 226, 227, 228, 229, 230, 231, 232, 233, 234, 235, 236, 237, 238, 239, 6, 240, 241, 242, 243, 244, 245, 246, 247, 248, 470, 471, 472, 473, 399, 400, 401, 402, 380, 381, 382, 383, 358, 359, 360, 361, 376, 377, 378, 379, 598, 599, 600, 601, 621, 622, 623, 624, 625, 626, 627, 641, 642, 649, 650, 651, 652, 643, 644, 645, 646, 647, 648] rfl (by decide +kernel)) (goodIn_sub (fun _ h => List.mem_append_left _ (List.mem_append_right _ h)) (by decide +kernel))
set_option maxRecDepth 20000 in
theorem gL_law_L_run : GoodIn wsL_law (va_wsS RL 132 yL_run wsL_run) := goodIn_app (goodIn_of _ (by decide +kernel)) ggL_law_L_run
set_option maxRecDepth 20000 in
theorem ggL_law_X4_run : GoodIn wsL_law wsX4_run := goodIn_r _ [605, 76, 572, 254, 255, 5, 256, 257, 258, 259, 274, 275, 276, 277, 278, 329, 330, 331, 332, 74, 87, 295, 296, 297, 298, 606, 607, 608, 609, 79, 78, 80, 81, 82, 83, 279, 280, 281, 282, 283, 284, 285, 286, 287, 288, 289, 290, 291, 292, 293, 294, 299, 300, 301, 271, 272, 273, 302, 303, 304, 305, 306, 307, 308, 309, 310, 311, 312, 313, 314, 315, 316, 317, 478, 479, 480, 481, 388, 389, 390, 391, 407, 408, 409, 410, 628, 629, 630, 631, 632, 633, 634, 635, 636, 637, 638, 639, 640] rfl (by decide +kernel)
set_option maxRecDepth 20000 in
theorem gL_law_X4_run : GoodIn wsL_law (wsV RL 134 RX4 yX4_run wsX4_run) := goodIn_app (goodIn_of _ (by decide +kernel)) ggL_law_X4_run
set_option maxRecDepth 20000 in
theorem ggL_law_L_take : GoodIn wsL_law wsL_take := goodIn_ca (goodIn_r _ [612, 92, 613, 614, 615, 2, 616, 101, 102, 13, 14, 97, 98, 99, 100, 249, 147, 148, 18, 149, 36, 37, 150, 151, 152, 35, 153, 44, 154, 155, 156, 157, 621, 622, 623, 624, 625, 626, 627, 641, 642, 649, 650, 651, 652] rfl (by decide +kernel)) (goodIn_sub (fun _ h => List.mem_append_left _ (List.mem_append_right _ h)) (by decide +kernel))
set_option maxRecDepth 20000 in
theorem gL_law_L_take : GoodIn wsL_law (va_wsS RL 135 yL_take wsL_take) := goodIn_app (goodIn_of _ (by decide +kernel)) ggL_law_L_take
set_option maxRecDepth 20000 in
theorem ggL_law_X4_take : GoodIn wsL_law wsX4_take := goodIn_r _ [620, 76, 254, 255, 5, 256, 257, 258, 259, 274, 275, 276, 277, 278, 295, 296, 297, 298, 74, 628, 629, 630, 631, 632, 633, 634, 635, 636, 637, 638, 639, 640] rfl (by decide +kernel)
set_option maxRecDepth 20000 in
theorem gL_law_X4_take : GoodIn wsL_law (wsV RL 137 RX4 yX4_take wsX4_take) := goodIn_app (goodIn_of _ (by decide +kernel)) ggL_law_X4_take
