set_option maxRecDepth 20000 in
theorem ggL_law_X7_thrown : GoodIn wsL_law wsX7_thrown := goodIn_r _ [367, 324, 680, 681, 682, 683, 684, 685, 686, 687, 688, 689, 690, 691, 692] rfl (by decide +kernel)
set_option maxRecDepth 20000 in
theorem gL_law_X7_thrown : GoodIn wsL_law (wsV RL 82 RX7 yX7_thrown wsX7_thrown) := goodIn_app (goodIn_of _ (by decide +kernel)) ggL_law_X7_thrown
set_option maxRecDepth 20000 in
theorem ggL_law_L_clear : GoodIn wsL_law wsL_clear := goodIn_ca (goodIn_r _ [370, 151, 371, 372, 373, 2, 374, 16, 157, 158, 159, 160, 161, 87, 88, 89, 21, 90, 86, 91, 92, 93, 94, 95, 96, 97, 98, 99, 100, 101, 102, 103, 104, 85, 84, 105, 106, 107, 35, 108, 109, 110, 111, 112, 113, 114, 115, 116, 117, 118, 45, 119, 120, 121, 122, 61, 57, 123, 124, 125, 126, 673, 674, 675, 676, 677, 678, 679, 696, 697, 698, 699, 715, 716, 717, 718, 719, 720, 706, 707, 708, 709, 710, 711, 712, 713, 714, 721, 722] rfl (by decide +kernel)) (goodIn_sub (fun _ h => List.mem_append_left _ (List.mem_append_right _ h)) (by decide +kernel))
set_option maxRecDepth 20000 in
theorem gL_law_L_clear : GoodIn wsL_law (va_wsS RL 86 yL_clear wsL_clear) := goodIn_app (goodIn_of _ (by decide +kernel)) ggL_law_L_clear
set_option maxRecDepth 20000 in
theorem ggL_law_X7_clear : GoodIn wsL_law wsX7_clear := goodIn_r _ [378, 300, 301, 5, 302, 303, 304, 305, 320, 321, 322, 323, 324, 379, 380, 381, 382, 134, 146, 135, 680, 681, 682, 683, 684, 685, 686, 687, 688, 689, 690, 691, 692] rfl (by decide +kernel)
set_option maxRecDepth 20000 in
theorem gL_law_X7_clear : GoodIn wsL_law (wsV RL 89 RX7 yX7_clear wsX7_clear) := goodIn_app (goodIn_of _ (by decide +kernel)) ggL_law_X7_clear
set_option maxRecDepth 20000 in
theorem ggL_law_L_copy : GoodIn wsL_law wsL_copy := goodIn_ca (goodIn_r _ [385, 151, 386, 387, 388, 2, 389, 16, 157, 158, 159, 160, 161, 295, 239, 240, 21, 241, 86, 85, 101, 102, 103, 104, 84, 105, 106, 107, 35, 108, 109, 110, 111, 112, 113, 114, 115, 116, 117, 118, 45, 119, 120, 121, 122, 61, 57, 123, 124, 125, 126, 673, 674, 675, 676, 677, 678, 679, 696, 697, 698, 699, 715, 716, 717, 718, 719, 720, 706, 707, 708, 709, 710, 711, 712, 713, 714, 721, 722] rfl (by decide +kernel)) (goodIn_sub (fun _ h => List.mem_append_left _ (List.mem_append_right _ h)) (by decide +kernel))
set_option maxRecDepth 20000 in
theorem gL_law_L_copy : GoodIn wsL_law (va_wsS RL 90 yL_copy wsL_copy) := goodIn_app (goodIn_of _ (by decide +kernel)) ggL_law_L_copy
set_option maxRecDepth 20000 in
theorem ggL_law_X7_copy : GoodIn wsL_law wsX7_copy := goodIn_r _ [393, 300, 301, 5, 302, 303, 304, 305, 320, 321, 322, 323, 324, 341, 342, 343, 344, 134, 135, 680, 681, 682, 683, 684, 685, 686, 687, 688, 689, 690, 691, 692] rfl (by decide +kernel)
set_option maxRecDepth 20000 in
theorem gL_law_X7_copy : GoodIn wsL_law (wsV RL 93 RX7 yX7_copy wsX7_copy) := goodIn_app (goodIn_of _ (by decide +kernel)) ggL_law_X7_copy
set_option maxRecDepth 20000 in
theorem ggL_law_L_meet : GoodIn wsL_law wsL_meet := goodIn_ca (goodIn_r _ [396, 151, 397, 398, 399, 2, 400, 22, 16, 156, 401, 402, 403, 157, 158, 159, 160, 161, 295, 239, 240, 21, 241, 86, 85, 101, 102, 103, 104, 84, 105, 106, 107, 35, 108, 109, 110, 111, 112, 113, 114, 115, 116, 117, 118, 45, 119, 120, 121, 122, 61, 57, 123, 124, 125, 126, 404, 405, 406, 407, 82, 408, 184, 185, 186, 187, 252, 253, 254, 255, 256, 257, 258, 259, 46, 47, 48, 202, 203, 204, 205, 260, 261, 212, 213, 214, 215, 206, 221, 222, 223, 224, 49, 409, 410, 411, 412, 95, 96, 97, 98, 99, 100, 266, 198, 199, 200, 201, 62, 207, 208, 209, 210, 211, 216, 217, 218, 219, 50, 44, 55, 56, 58, 51, 220, 59, 60, 63, 64, 65, 66, 11, 12, 67, 68, 69, 70, 71, 72, 73, 6, 74, 225, 226, 227, 228, 229, 230, 231, 232, 233, 234, 235, 236, 237, 281, 282, 283, 284, 285, 286, 287, 288, 276, 277, 278, 279, 280, 267, 268, 269, 270, 251, 271, 272, 273, 274, 275, 242, 243, 244, 15, 245, 37, 36, 246, 673, 674, 675, 676, 677, 678, 679, 696, 697, 698, 699, 715, 716, 717, 718, 719, 720, 706, 707, 708, 709, 710, 711, 712, 713, 714, 721, 722, 693, 694, 695] rfl (by decide +kernel)) (goodIn_sub (fun _ h => List.mem_append_left _ (List.mem_append_right _ h)) (by decide +kernel))
set_option maxRecDepth 20000 in
theorem gL_law_L_meet : GoodIn wsL_law (va_wsS RL 94 yL_meet wsL_meet) := goodIn_app (goodIn_of _ (by decide +kernel)) ggL_law_L_meet
set_option maxRecDepth 20000 in
theorem ggL_law_X7_meet : GoodIn wsL_law wsX7_meet := goodIn_r _ [416, 134, 135, 417, 418, 5, 419, 300, 301, 302, 303, 304, 305, 320, 321, 322, 323, 324, 341, 342, 343, 344, 352, 353, 354, 355, 329, 330, 331, 332, 345, 346, 347, 146, 356, 357, 358, 359, 317, 318, 319, 333, 334, 335, 336, 360, 361, 362, 363, 680, 681, 682, 683, 684, 685, 686, 687, 688, 689, 690, 691, 692] rfl (by decide +kernel)
set_option maxRecDepth 20000 in
theorem gL_law_X7_meet : GoodIn wsL_law (wsV RL 97 RX7 yX7_meet wsX7_meet) := goodIn_app (goodIn_of _ (by decide +kernel)) ggL_law_X7_meet
set_option maxRecDepth 20000 in
theorem ggL_law_L_join : GoodIn wsL_law wsL_join := goodIn_ca (goodIn_r _ [422, 151, 423, 424, 425, 2, 426, 22, 16, 401, 402, 403, 157, 158, 159, 160, 161, 295, 239, 240, 21, 241, 86, 85, 101, 102, 103, 104, 84, 105, 106, 107, 35, 108, 109, 110, 111, 112, 113, 114, 115, 116, 117, 118, 45, 119, 120, 121, 122, 61, 57, 123, 124, 125, 126, 427, 428, 429, 430, 431, 432, 433, 434, 238, 252, 253, 254, 255, 256, 257, 258, 259, 46, 47, 48, 202, 203, 204, 205, 260, 261, 212, 213, 214, 215, 206, 221, 222, 223, 224, 49, 673, 674, 675, 676, 677, 678, 679, 696, 697, 698, 699, 715, 716, 717, 718, 719, 720, 706, 707, 708, 709, 710, 711, 712, 713, 714, 721, 722] rfl (by decide +kernel)) (goodIn_sub (fun _ h => List.mem_append_left _ (List.mem_append_right _ h)) (by decide +kernel))
set_option maxRecDepth 20000 in
theorem gL_law_L_join : GoodIn wsL_law (va_wsS RL 98 yL_join wsL_join) := goodIn_app (goodIn_of _ (by decide +kernel)) ggL_law_L_join
set_option maxRecDepth 20000 in
theorem ggL_law_X7_join : GoodIn wsL_law wsX7_join := goodIn_r _ [438, 417, 418, 5, 419, 300, 301, 302, 303, 304, 305, 320, 321, 322, 323, 324, 439, 440, 441, 442, 135, 134, 341, 342, 343, 344, 680, 681, 682, 683, 684, 685, 686, 687, 688, 689, 690, 691, 692] rfl (by decide +kernel)
set_option maxRecDepth 20000 in
theorem gL_law_X7_join : GoodIn wsL_law (wsV RL 101 RX7 yX7_join wsX7_join) := goodIn_app (goodIn_of _ (by decide +kernel)) ggL_law_X7_join
set_option maxRecDepth 20000 in
theorem ggL_law_L_widen : GoodIn wsL_law wsL_widen := goodIn_ca (goodIn_r _ [445, 151, 446, 447, 448, 2, 449, 22, 16, 401, 402, 403, 157, 158, 159, 160, 161, 295, 239, 240, 21, 241, 86, 85, 101, 102, 103, 104, 84, 105, 106, 107, 35, 108, 109, 110, 111, 112, 113, 114, 115, 116, 117, 118, 45, 119, 120, 121, 122, 61, 57, 123, 124, 125, 126, 450, 451, 452, 453, 82, 408, 95, 431, 432, 433, 434, 238, 252, 253, 254, 255, 256, 257, 258, 259, 46, 47, 48, 202, 203, 204, 205, 260, 261, 212, 213, 214, 215, 206, 221, 222, 223, 224, 49, 409, 410, 411, 412, 96, 97, 98, 99, 100, 266, 198, 199, 200, 201, 62, 207, 208, 209, 210, 211, 216, 217, 218, 219, 50, 44, 55, 56, 58, 51, 220, 59, 60, 63, 64, 65, 66, 11, 12, 67, 68, 69, 70, 71, 72, 73, 6, 74, 225, 226, 227, 228, 229, 230, 231, 232, 233, 234, 235, 236, 237, 281, 282, 283, 284, 285, 286, 287, 288, 276, 277, 278, 279, 280, 267, 268, 269, 270, 251, 271, 272, 273, 274, 275, 242, 243, 244, 15, 245, 37, 36, 246, 673, 674, 675, 676, 677, 678, 679, 696, 697, 698, 699, 715, 716, 717, 718, 719, 720, 706, 707, 708, 709, 710, 711, 712, 713, 714, 721, 722, 693, 694, 695] rfl (by decide +kernel)) (goodIn_sub (fun _ h => List.mem_append_left _ (List.mem_append_right _ h)) (by decide +kernel))
set_option maxRecDepth 20000 in
theorem gL_law_L_widen : GoodIn wsL_law (va_wsS RL 102 yL_widen wsL_widen) := goodIn_app (goodIn_of _ (by decide +kernel)) ggL_law_L_widen
set_option maxRecDepth 20000 in
theorem ggL_law_X7_widen : GoodIn wsL_law wsX7_widen := goodIn_r _ [457, 417, 418, 5, 419, 300, 301, 302, 303, 304, 305, 320, 321, 322, 323, 324, 458, 459, 460, 461, 135, 134, 146, 341, 342, 343, 344, 352, 353, 354, 355, 329, 330, 331, 332, 345, 346, 347, 356, 357, 358, 359, 317, 318, 319, 333, 334, 335, 336, 360, 361, 362, 363, 680, 681, 682, 683, 684, 685, 686, 687, 688, 689, 690, 691, 692] rfl (by decide +kernel)
set_option maxRecDepth 20000 in
theorem gL_law_X7_widen : GoodIn wsL_law (wsV RL 104 RX7 yX7_widen wsX7_widen) := goodIn_app (goodIn_of _ (by decide +kernel)) ggL_law_X7_widen
set_option maxRecDepth 20000 in
theorem ggL_law_L_forget : GoodIn wsL_law wsL_forget := goodIn_ca (goodIn_r _ [464, 151, 465, 466, 467, 2, 468, 16, 157, 158, 159, 160, 161, 177, 178, 179, 469, 92, 93, 21, 94, 86, 95, 96, 97, 98, 99, 100, 101, 102, 103, 104, 85, 84, 105, 106, 107, 35, 108, 109, 110, 111, 112, 113, 114, 115, 116, 117, 118, 45, 119, 120, 121, 122, 61, 57, 123, 124, 125, 126, 673, 674, 675, 676, 677, 678, 679, 696, 697, 698, 699, 715, 716, 717, 718, 719, 720, 706, 707, 708, 709, 710, 711, 712, 713, 714, 721, 722] rfl (by decide +kernel)) (goodIn_sub (fun _ h => List.mem_append_left _ (List.mem_append_right _ h)) (by decide +kernel))
set_option maxRecDepth 20000 in
theorem gL_law_L_forget : GoodIn wsL_law (va_wsS RL 105 yL_forget wsL_forget) := goodIn_app (goodIn_of _ (by decide +kernel)) ggL_law_L_forget
