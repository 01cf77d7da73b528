theorem inlX0 : ∀ w ∈ wsX00, w ∈ wsL_law := fun _ h => List.mem_append_left _ (List.mem_append_left _ (List.mem_append_left _ (List.mem_append_right _ h)))
theorem inlX1 : ∀ w ∈ wsX10, w ∈ wsL_law := fun _ h => List.mem_append_left _ (List.mem_append_left _ (List.mem_append_left _ (List.mem_append_left _ (List.mem_append_left _ (List.mem_append_right _ h)))))
theorem inlX2 : ∀ w ∈ wsX20, w ∈ wsL_law := fun _ h => List.mem_append_left _ (List.mem_append_left _ (List.mem_append_left _ (List.mem_append_left _ (List.mem_append_right _ h))))
theorem inlX3 : ∀ w ∈ wsX30, w ∈ wsL_law := fun _ h => List.mem_append_left _ (List.mem_append_left _ (List.mem_append_left _ (List.mem_append_left _ (List.mem_append_left _ (List.mem_append_left _ (List.mem_append_left _ (List.mem_append_right _ h)))))))
theorem inlX4 : ∀ w ∈ wsX40, w ∈ wsL_law := fun _ h => List.mem_append_left _ (List.mem_append_left _ (List.mem_append_left _ (List.mem_append_left _ (List.mem_append_left _ (List.mem_append_left _ (List.mem_append_right _ h))))))
set_option maxRecDepth 20000 in
theorem ggL_law_X3_init : GoodIn wsL_law wsX3_init := goodIn_r _ [9, 10, 11, 12, 13, 14, 15, 16, 17, 18, 19, 6, 20, 21, 22, 23, 24, 25, 26, 27, 2, 28, 29, 30, 31, 32, 33, 34, 35, 36, 37, 38, 39, 40, 41, 42, 43, 44, 45, 46, 47, 48, 49, 50, 51, 52, 53, 54, 55, 56, 57, 58, 59, 60, 61, 62, 63, 64, 65, 66, 67, 68, 69, 621, 622, 623, 624, 625, 626, 627, 641, 642, 643, 644, 645, 646, 647, 648, 649, 650, 651, 652] rfl (by decide +kernel)
set_option maxRecDepth 20000 in
theorem gL_law_X3_init : GoodIn wsL_law (wsX3_init) := ggL_law_X3_init
set_option maxRecDepth 20000 in
theorem ggL_law_X4_init : GoodIn wsL_law wsX4_init := goodIn_r _ [72, 73, 11, 12, 6, 74, 75, 76, 77, 78, 79, 80, 81, 82, 83, 84, 85, 86, 87, 628, 629, 630, 631, 632, 633, 634, 635, 636, 637, 638, 639, 640] rfl (by decide +kernel)
set_option maxRecDepth 20000 in
theorem gL_law_X4_init : GoodIn wsL_law (wsX4_init) := ggL_law_X4_init
set_option maxRecDepth 20000 in
theorem ggL_law_L_act : GoodIn wsL_law wsL_act := goodIn_ca (goodIn_r _ [91, 92, 93, 94, 95, 2, 96, 19, 13, 97, 98, 99, 100, 101, 102, 103, 104, 105, 106, 107, 108, 109, 110, 111, 112, 113, 114, 115, 116, 117, 118, 119, 120, 121, 122, 123, 124, 125, 18, 126, 36, 127, 128, 129, 130, 37, 131, 132, 133, 134, 135, 136, 54, 55, 56, 137, 138, 139, 35, 140, 45, 44, 66, 43, 141, 142, 143, 144, 61, 145, 58, 59, 60, 146, 147, 148, 149, 150, 151, 152, 153, 154, 155, 156, 157, 62, 63, 64, 65, 158, 159, 160, 161, 162, 163, 164, 165, 166, 167, 168, 169, 170, 171, 172, 173, 174, 175, 176, 177, 178, 179, 180, 181, 182, 183, 184, 185, 186, 42, 187, 188, 189, 190, 191, 192, 193, 194, 195, 196, 197, 198, 199, 200, 201, 202, 203, 204, 205, 206, 207, 50, 51, 52, 53, 57, 208, 209, 210, 211, 212, 213, 214, 215, 216, 14, 15, 217, 218, 219, 220, 221, 222, 223, 224, 225, 226, 227, 228, 229, 230, 231, 232, 233, 234, 235, 236, 237, 238, 239, 6, 240, 241, 242, 243, 244, 245, 246, 247, 248, 249, 621, 622, 623, 624, 625, 626, 627, 641, 642, 649, 650, 651, 652] rfl (by decide +kernel)) (goodIn_sub (fun _ h => List.mem_append_left _ (List.mem_append_right _ h)) (by decide +kernel))
set_option maxRecDepth 20000 in
theorem gL_law_L_act : GoodIn wsL_law (va_wsS RL 76 yL_act wsL_act) := goodIn_app (goodIn_of _ (by decide +kernel)) ggL_law_L_act
set_option maxRecDepth 20000 in
theorem ggL_law_X4_act : GoodIn wsL_law wsX4_act := goodIn_r _ [253, 76, 254, 255, 5, 256, 257, 258, 259, 260, 261, 262, 263, 264, 265, 266, 267, 268, 269, 270, 271, 272, 273, 274, 275, 276, 277, 278, 279, 280, 281, 282, 283, 284, 285, 286, 74, 287, 288, 289, 290, 291, 292, 293, 294, 295, 296, 297, 298, 299, 300, 301, 87, 302, 303, 304, 305, 306, 307, 308, 309, 310, 311, 312, 313, 314, 315, 316, 317, 628, 629, 630, 631, 632, 633, 634, 635, 636, 637, 638, 639, 640] rfl (by decide +kernel)
set_option maxRecDepth 20000 in
theorem gL_law_X4_act : GoodIn wsL_law (wsV RL 81 RX4 yX4_act wsX4_act) := goodIn_app (goodIn_of _ (by decide +kernel)) ggL_law_X4_act
set_option maxRecDepth 20000 in
theorem ggL_law_L_clear : GoodIn wsL_law wsL_clear := goodIn_ca (goodIn_r _ [320, 92, 321, 322, 323, 2, 324, 13, 98, 99, 100, 101, 102, 46, 47, 48, 18, 49, 37, 50, 51, 52, 53, 36, 54, 55, 56, 57, 58, 59, 35, 60, 45, 44, 43, 61, 62, 63, 64, 65, 66, 621, 622, 623, 624, 625, 626, 627, 641, 642, 649, 650, 651, 652] rfl (by decide +kernel)) (goodIn_sub (fun _ h => List.mem_append_left _ (List.mem_append_right _ h)) (by decide +kernel))
set_option maxRecDepth 20000 in
theorem gL_law_L_clear : GoodIn wsL_law (va_wsS RL 82 yL_clear wsL_clear) := goodIn_app (goodIn_of _ (by decide +kernel)) ggL_law_L_clear
set_option maxRecDepth 20000 in
theorem ggL_law_X4_clear : GoodIn wsL_law wsX4_clear := goodIn_r _ [328, 254, 255, 5, 256, 257, 258, 259, 274, 275, 276, 277, 278, 329, 330, 331, 332, 74, 87, 76, 628, 629, 630, 631, 632, 633, 634, 635, 636, 637, 638, 639, 640] rfl (by decide +kernel)
set_option maxRecDepth 20000 in
theorem gL_law_X4_clear : GoodIn wsL_law (wsV RL 85 RX4 yX4_clear wsX4_clear) := goodIn_app (goodIn_of _ (by decide +kernel)) ggL_law_X4_clear
