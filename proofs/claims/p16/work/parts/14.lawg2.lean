set_option maxRecDepth 20000 in
theorem ggL_law_X4_isEmpty : GoodIn wsL_law wsX4_isEmpty := goodIn_r _ [433, 76, 254, 255, 5, 256, 257, 258, 259, 274, 275, 276, 277, 278, 628, 629, 630, 631, 632, 633, 634, 635, 636, 637, 638, 639, 640] rfl (by decide +kernel)
set_option maxRecDepth 20000 in
theorem gL_law_X4_isEmpty : GoodIn wsL_law (wsV RL 107 RX4 yX4_isEmpty wsX4_isEmpty) := goodIn_app (goodIn_of _ (by decide +kernel)) ggL_law_X4_isEmpty
set_option maxRecDepth 20000 in
theorem ggL_law_L_most : GoodIn wsL_law wsL_most := goodIn_ca (goodIn_ca (goodIn_r _ [436, 92, 437, 438, 439, 440, 2, 441, 13, 98, 99, 100, 101, 102, 111, 112, 113, 114, 115, 116, 117, 118, 119, 442, 443, 444, 445, 446, 447, 97, 448, 449, 450, 18, 451, 36, 54, 55, 56, 452, 453, 454, 35, 455, 44, 45, 61, 43, 456, 457, 458, 194, 195, 196, 197, 141, 142, 143, 144, 145, 58, 59, 60, 621, 622, 623, 624, 625, 626, 627, 641, 642, 649, 650, 651, 652] rfl (by decide +kernel)) (goodIn_sub (fun _ h => List.mem_append_left _ (List.mem_append_right _ h)) (by decide +kernel))) (goodIn_sub (fun _ h => List.mem_append_right _ h) (by decide +kernel))
set_option maxRecDepth 20000 in
theorem gL_law_L_most : GoodIn wsL_law (va_wsS RL 108 yL_most wsL_most) := goodIn_app (goodIn_of _ (by decide +kernel)) ggL_law_L_most
set_option maxRecDepth 20000 in
theorem ggL_law_X4_most : GoodIn wsL_law wsX4_most := goodIn_r _ [462, 76, 254, 255, 5, 256, 257, 258, 259, 268, 269, 270, 271, 272, 273, 274, 275, 276, 277, 278, 283, 284, 285, 286, 74, 628, 629, 630, 631, 632, 633, 634, 635, 636, 637, 638, 639, 640] rfl (by decide +kernel)
set_option maxRecDepth 20000 in
theorem gL_law_X4_most : GoodIn wsL_law (wsV RL 110 RX4 yX4_most wsX4_most) := goodIn_app (goodIn_of _ (by decide +kernel)) ggL_law_X4_most
set_option maxRecDepth 20000 in
theorem ggL_law_L_inside : GoodIn wsL_law wsL_inside := goodIn_ca (goodIn_r _ [465, 92, 466, 467, 468, 2, 469, 13, 98, 99, 100, 101, 102, 470, 471, 472, 18, 473, 37, 36, 162, 163, 164, 35, 165, 45, 44, 43, 621, 622, 623, 624, 625, 626, 627, 641, 642, 649, 650, 651, 652] rfl (by decide +kernel)) (goodIn_sub (fun _ h => List.mem_append_left _ (List.mem_append_right _ h)) (by decide +kernel))
set_option maxRecDepth 20000 in
theorem gL_law_L_inside : GoodIn wsL_law (va_wsS RL 111 yL_inside wsL_inside) := goodIn_app (goodIn_of _ (by decide +kernel)) ggL_law_L_inside
set_option maxRecDepth 20000 in
theorem ggL_law_X4_inside : GoodIn wsL_law wsX4_inside := goodIn_r _ [477, 254, 255, 5, 256, 257, 258, 259, 274, 275, 276, 277, 278, 478, 479, 480, 481, 76, 74, 628, 629, 630, 631, 632, 633, 634, 635, 636, 637, 638, 639, 640] rfl (by decide +kernel)
set_option maxRecDepth 20000 in
theorem gL_law_X4_inside : GoodIn wsL_law (wsV RL 114 RX4 yX4_inside wsX4_inside) := goodIn_app (goodIn_of _ (by decide +kernel)) ggL_law_X4_inside
set_option maxRecDepth 20000 in
theorem ggL_law_L_bounds : GoodIn wsL_law wsL_bounds := goodIn_ca (goodIn_r _ [484, 92, 485, 486, 487, 2, 488, 13, 97, 98, 99, 100, 101, 102, 489, 490, 491, 18, 492, 36, 118, 119, 54, 55, 56, 182, 142, 143, 35, 144, 44, 45, 61, 621, 622, 623, 624, 625, 626, 627, 641, 642, 649, 650, 651, 652] rfl (by decide +kernel)) (goodIn_sub (fun _ h => List.mem_append_left _ (List.mem_append_right _ h)) (by decide +kernel))
set_option maxRecDepth 20000 in
theorem gL_law_L_bounds : GoodIn wsL_law (va_wsS RL 115 yL_bounds wsL_bounds) := goodIn_app (goodIn_of _ (by decide +kernel)) ggL_law_L_bounds
set_option maxRecDepth 20000 in
theorem ggL_law_X4_bounds : GoodIn wsL_law wsX4_bounds := goodIn_r _ [496, 76, 87, 254, 255, 5, 256, 257, 258, 259, 274, 275, 276, 277, 278, 271, 272, 273, 283, 284, 285, 286, 74, 628, 629, 630, 631, 632, 633, 634, 635, 636, 637, 638, 639, 640] rfl (by decide +kernel)
set_option maxRecDepth 20000 in
theorem gL_law_X4_bounds : GoodIn wsL_law (wsV RL 117 RX4 yX4_bounds wsX4_bounds) := goodIn_app (goodIn_of _ (by decide +kernel)) ggL_law_X4_bounds
set_option maxRecDepth 20000 in
theorem ggL_law_L_first : GoodIn wsL_law wsL_first := goodIn_ca (goodIn_ca (goodIn_r _ [499, 92, 437, 500, 501, 502, 2, 503, 19, 13, 98, 99, 100, 101, 102, 120, 121, 122, 442, 443, 444, 445, 446, 447, 97, 249, 147, 148, 18, 149, 36, 37, 150, 151, 152, 35, 153, 44, 154, 155, 156, 157, 504, 505, 506, 507, 54, 55, 56, 182, 142, 143, 144, 45, 61, 62, 63, 64, 65, 66, 43, 158, 159, 160, 161, 162, 163, 164, 165, 166, 167, 168, 169, 170, 171, 172, 173, 118, 119, 174, 175, 176, 177, 178, 179, 180, 181, 183, 184, 185, 186, 42, 187, 188, 189, 190, 191, 192, 193, 194, 195, 196, 197, 141, 145, 58, 59, 60, 198, 199, 200, 201, 508, 509, 510, 511, 212, 213, 214, 215, 216, 14, 15, 217, 218, 219, 220, 221, 222, 223, 224, 225, 226, 227, 228, 229, 230, 231, 232, 233, 234, 235, 236, 237, 238, 239, 6, 240, 241, 242, 243, 244, 245, 246, 247, 248, 448, 449, 450, 451, 452, 453, 454, 455, 456, 457, 458, 621, 622, 623, 624, 625, 626, 627, 641, 642, 649, 650, 651, 652] rfl (by decide +kernel)) (goodIn_sub (fun _ h => List.mem_append_left _ (List.mem_append_right _ h)) (by decide +kernel))) (goodIn_sub (fun _ h => List.mem_append_right _ h) (by decide +kernel))
set_option maxRecDepth 20000 in
theorem gL_law_L_first : GoodIn wsL_law (va_wsS RL 118 yL_first wsL_first) := goodIn_app (goodIn_of _ (by decide +kernel)) ggL_law_L_first
set_option maxRecDepth 20000 in
theorem ggL_law_X4_first : GoodIn wsL_law wsX4_first := goodIn_r _ [515, 76, 87, 254, 255, 5, 256, 257, 258, 259, 274, 275, 276, 277, 278, 295, 296, 297, 298, 74, 283, 284, 285, 286, 287, 288, 289, 290, 306, 307, 308, 309, 299, 300, 301, 310, 311, 312, 313, 271, 272, 273, 314, 315, 316, 317, 628, 629, 630, 631, 632, 633, 634, 635, 636, 637, 638, 639, 640] rfl (by decide +kernel)
set_option maxRecDepth 20000 in
theorem gL_law_X4_first : GoodIn wsL_law (wsV RL 120 RX4 yX4_first wsX4_first) := goodIn_app (goodIn_of _ (by decide +kernel)) ggL_law_X4_first
set_option maxRecDepth 20000 in
theorem ggL_law_L_places : GoodIn wsL_law wsL_places := goodIn_ca (goodIn_r _ [518, 92, 519, 520, 521, 2, 522, 13, 97, 19, 98, 99, 100, 101, 102, 249, 147, 148, 18, 149, 36, 37, 150, 151, 152, 35, 153, 44, 154, 155, 156, 157, 523, 524, 525, 526, 54, 55, 56, 182, 142, 143, 144, 45, 61, 194, 195, 196, 197, 43, 141, 145, 58, 59, 60, 508, 509, 510, 511, 66, 174, 175, 176, 177, 527, 528, 529, 530, 531, 448, 449, 450, 451, 452, 453, 454, 455, 456, 457, 458, 532, 533, 534, 535, 20, 536, 537, 242, 538, 539, 540, 541, 621, 622, 623, 624, 625, 626, 627, 641, 642, 649, 650, 651, 652] rfl (by decide +kernel)) (goodIn_sub (fun _ h => List.mem_append_left _ (List.mem_append_right _ h)) (by decide +kernel))
set_option maxRecDepth 20000 in
theorem gL_law_L_places : GoodIn wsL_law (va_wsS RL 121 yL_places wsL_places) := goodIn_app (goodIn_of _ (by decide +kernel)) ggL_law_L_places
set_option maxRecDepth 20000 in
theorem ggL_law_X4_places : GoodIn wsL_law wsX4_places := goodIn_r _ [545, 76, 87, 546, 84, 85, 86, 254, 255, 5, 256, 257, 258, 259, 274, 275, 276, 277, 278, 283, 284, 285, 286, 74, 547, 548, 549, 550, 271, 272, 273, 628, 629, 630, 631, 632, 633, 634, 635, 636, 637, 638, 639, 640] rfl (by decide +kernel)
set_option maxRecDepth 20000 in
theorem gL_law_X4_places : GoodIn wsL_law (wsV RL 123 RX4 yX4_places wsX4_places) := goodIn_app (goodIn_of _ (by decide +kernel)) ggL_law_X4_places
