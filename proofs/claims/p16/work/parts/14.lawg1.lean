set_option maxRecDepth 20000 in
theorem ggL_law_L_copy : GoodIn wsL_law wsL_copy := goodIn_ca (goodIn_r _ [335, 92, 336, 337, 338, 2, 339, 13, 98, 99, 100, 101, 102, 249, 147, 148, 18, 149, 36, 37, 150, 151, 152, 35, 153, 44, 154, 155, 156, 157, 621, 622, 623, 624, 625, 626, 627, 641, 642, 649, 650, 651, 652] rfl (by decide +kernel)) (goodIn_sub (fun _ h => List.mem_append_left _ (List.mem_append_right _ h)) (by decide +kernel))
set_option maxRecDepth 20000 in
theorem gL_law_L_copy : GoodIn wsL_law (va_wsS RL 86 yL_copy wsL_copy) := goodIn_app (goodIn_of _ (by decide +kernel)) ggL_law_L_copy
set_option maxRecDepth 20000 in
theorem ggL_law_X4_copy : GoodIn wsL_law wsX4_copy := goodIn_r _ [343, 254, 255, 5, 256, 257, 258, 259, 274, 275, 276, 277, 278, 295, 296, 297, 298, 74, 76, 628, 629, 630, 631, 632, 633, 634, 635, 636, 637, 638, 639, 640] rfl (by decide +kernel)
set_option maxRecDepth 20000 in
theorem gL_law_X4_copy : GoodIn wsL_law (wsV RL 89 RX4 yX4_copy wsX4_copy) := goodIn_app (goodIn_of _ (by decide +kernel)) ggL_law_X4_copy
set_option maxRecDepth 20000 in
theorem ggL_law_L_meet : GoodIn wsL_law wsL_meet := goodIn_ca (goodIn_r _ [346, 92, 347, 348, 349, 2, 350, 19, 13, 97, 351, 352, 353, 98, 99, 100, 101, 102, 249, 147, 148, 18, 149, 36, 37, 150, 151, 152, 35, 153, 44, 154, 155, 156, 157, 354, 355, 356, 357, 162, 163, 164, 165, 45, 43, 166, 167, 168, 169, 358, 359, 360, 361, 54, 55, 56, 182, 142, 143, 144, 61, 118, 119, 183, 184, 185, 186, 42, 187, 175, 176, 177, 66, 188, 189, 198, 199, 200, 201, 178, 179, 180, 181, 190, 191, 192, 193, 194, 195, 196, 197, 141, 145, 58, 59, 60, 208, 209, 210, 211, 212, 213, 214, 215, 216, 14, 15, 217, 218, 219, 220, 221, 222, 223, 224, 225, 226, 227, 228, 229, 230, 231, 232, 233, 234, 235, 236, 237, 238, 239, 6, 240, 241, 242, 243, 244, 245, 246, 247, 248, 621, 622, 623, 624, 625, 626, 627, 641, 642, 649, 650, 651, 652] rfl (by decide +kernel)) (goodIn_sub (fun _ h => List.mem_append_left _ (List.mem_append_right _ h)) (by decide +kernel))
set_option maxRecDepth 20000 in
theorem gL_law_L_meet : GoodIn wsL_law (va_wsS RL 90 yL_meet wsL_meet) := goodIn_app (goodIn_of _ (by decide +kernel)) ggL_law_L_meet
set_option maxRecDepth 20000 in
theorem ggL_law_X4_meet : GoodIn wsL_law wsX4_meet := goodIn_r _ [365, 74, 76, 366, 367, 5, 368, 254, 255, 256, 257, 258, 259, 274, 275, 276, 277, 278, 295, 296, 297, 298, 306, 307, 308, 309, 283, 284, 285, 286, 299, 300, 301, 87, 310, 311, 312, 313, 271, 272, 273, 287, 288, 289, 290, 314, 315, 316, 317, 628, 629, 630, 631, 632, 633, 634, 635, 636, 637, 638, 639, 640] rfl (by decide +kernel)
set_option maxRecDepth 20000 in
theorem gL_law_X4_meet : GoodIn wsL_law (wsV RL 93 RX4 yX4_meet wsX4_meet) := goodIn_app (goodIn_of _ (by decide +kernel)) ggL_law_X4_meet
set_option maxRecDepth 20000 in
theorem ggL_law_L_join : GoodIn wsL_law wsL_join := goodIn_ca (goodIn_r _ [371, 92, 372, 373, 374, 2, 375, 19, 13, 351, 352, 353, 98, 99, 100, 101, 102, 249, 147, 148, 18, 149, 36, 37, 150, 151, 152, 35, 153, 44, 154, 155, 156, 157, 376, 377, 378, 379, 380, 381, 382, 383, 146, 162, 163, 164, 165, 45, 43, 166, 167, 168, 169, 208, 209, 210, 211, 212, 213, 214, 215, 97, 216, 14, 15, 217, 218, 219, 220, 61, 221, 222, 223, 224, 225, 226, 227, 228, 229, 230, 231, 232, 233, 234, 235, 236, 237, 238, 239, 6, 240, 241, 242, 243, 244, 245, 246, 247, 248, 66, 145, 58, 59, 60, 621, 622, 623, 624, 625, 626, 627, 641, 642, 649, 650, 651, 652] rfl (by decide +kernel)) (goodIn_sub (fun _ h => List.mem_append_left _ (List.mem_append_right _ h)) (by decide +kernel))
set_option maxRecDepth 20000 in
theorem gL_law_L_join : GoodIn wsL_law (va_wsS RL 94 yL_join wsL_join) := goodIn_app (goodIn_of _ (by decide +kernel)) ggL_law_L_join
set_option maxRecDepth 20000 in
theorem ggL_law_X4_join : GoodIn wsL_law wsX4_join := goodIn_r _ [387, 366, 367, 5, 368, 254, 255, 256, 257, 258, 259, 274, 275, 276, 277, 278, 388, 389, 390, 391, 76, 74, 295, 296, 297, 298, 628, 629, 630, 631, 632, 633, 634, 635, 636, 637, 638, 639, 640] rfl (by decide +kernel)
set_option maxRecDepth 20000 in
theorem gL_law_X4_join : GoodIn wsL_law (wsV RL 97 RX4 yX4_join wsX4_join) := goodIn_app (goodIn_of _ (by decide +kernel)) ggL_law_X4_join
set_option maxRecDepth 20000 in
theorem ggL_law_L_widen : GoodIn wsL_law wsL_widen := goodIn_ca (goodIn_r _ [394, 92, 395, 396, 397, 2, 398, 19, 13, 351, 352, 353, 98, 99, 100, 101, 102, 249, 147, 148, 18, 149, 36, 37, 150, 151, 152, 35, 153, 44, 154, 155, 156, 157, 399, 400, 401, 402, 380, 381, 382, 383, 146, 162, 163, 164, 165, 45, 43, 57, 58, 59, 60, 61, 358, 359, 360, 361, 54, 55, 56, 182, 142, 143, 144, 118, 119, 183, 184, 185, 186, 42, 187, 175, 176, 177, 66, 188, 189, 167, 168, 169, 198, 199, 200, 201, 178, 179, 180, 181, 190, 191, 192, 193, 194, 195, 196, 197, 141, 145, 208, 209, 210, 211, 212, 213, 214, 215, 97, 216, 14, 15, 217, 218, 219, 220, 221, 222, 223, 224, 225, 226, 227, 228, 229, 230, 231, 232, 233, 234, 235, 236, 237, 238, 239, 6, 240, 241, 242, 243, 244, 245, 246, 247, 248, 621, 622, 623, 624, 625, 626, 627, 641, 642, 649, 650, 651, 652] rfl (by decide +kernel)) (goodIn_sub (fun _ h => List.mem_append_left _ (List.mem_append_right _ h)) (by decide +kernel))
set_option maxRecDepth 20000 in
theorem gL_law_L_widen : GoodIn wsL_law (va_wsS RL 98 yL_widen wsL_widen) := goodIn_app (goodIn_of _ (by decide +kernel)) ggL_law_L_widen
set_option maxRecDepth 20000 in
theorem ggL_law_X4_widen : GoodIn wsL_law wsX4_widen := goodIn_r _ [406, 366, 367, 5, 368, 254, 255, 256, 257, 258, 259, 274, 275, 276, 277, 278, 407, 408, 409, 410, 76, 74, 87, 295, 296, 297, 298, 306, 307, 308, 309, 283, 284, 285, 286, 299, 300, 301, 310, 311, 312, 313, 271, 272, 273, 287, 288, 289, 290, 314, 315, 316, 317, 628, 629, 630, 631, 632, 633, 634, 635, 636, 637, 638, 639, 640] rfl (by decide +kernel)
set_option maxRecDepth 20000 in
theorem gL_law_X4_widen : GoodIn wsL_law (wsV RL 100 RX4 yX4_widen wsX4_widen) := goodIn_app (goodIn_of _ (by decide +kernel)) ggL_law_X4_widen
set_option maxRecDepth 20000 in
theorem ggL_law_L_forget : GoodIn wsL_law wsL_forget := goodIn_ca (goodIn_r _ [413, 92, 414, 415, 416, 2, 417, 13, 98, 99, 100, 101, 102, 120, 121, 122, 418, 51, 52, 18, 53, 36, 54, 55, 56, 57, 58, 59, 35, 60, 45, 44, 43, 61, 62, 63, 64, 65, 66, 621, 622, 623, 624, 625, 626, 627, 641, 642, 649, 650, 651, 652] rfl (by decide +kernel)) (goodIn_sub (fun _ h => List.mem_append_left _ (List.mem_append_right _ h)) (by decide +kernel))
set_option maxRecDepth 20000 in
theorem gL_law_L_forget : GoodIn wsL_law (va_wsS RL 101 yL_forget wsL_forget) := goodIn_app (goodIn_of _ (by decide +kernel)) ggL_law_L_forget
set_option maxRecDepth 20000 in
theorem ggL_law_X4_forget : GoodIn wsL_law wsX4_forget := goodIn_r _ [422, 254, 255, 5, 256, 257, 258, 259, 274, 275, 276, 277, 278, 302, 303, 304, 305, 87, 287, 288, 289, 290, 74, 628, 629, 630, 631, 632, 633, 634, 635, 636, 637, 638, 639, 640] rfl (by decide +kernel)
set_option maxRecDepth 20000 in
theorem gL_law_X4_forget : GoodIn wsL_law (wsV RL 103 RX4 yX4_forget wsX4_forget) := goodIn_app (goodIn_of _ (by decide +kernel)) ggL_law_X4_forget
set_option maxRecDepth 20000 in
theorem ggL_law_L_isEmpty : GoodIn wsL_law wsL_isEmpty := goodIn_ca (goodIn_r _ [425, 92, 426, 427, 428, 2, 429, 13, 97, 98, 99, 100, 101, 102, 621, 622, 623, 624, 625, 626, 627, 641, 642] rfl (by decide +kernel)) (goodIn_sub (fun _ h => List.mem_append_left _ (List.mem_append_right _ h)) (by decide +kernel))
set_option maxRecDepth 20000 in
theorem gL_law_L_isEmpty : GoodIn wsL_law (va_wsS RL 104 yL_isEmpty wsL_isEmpty) := goodIn_app (goodIn_of _ (by decide +kernel)) ggL_law_L_isEmpty
