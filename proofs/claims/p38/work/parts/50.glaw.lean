set_option maxRecDepth 20000 in
theorem ggL_law_X6_init : GoodIn wsL_law wsX6_init := goodIn_r _ [5, 6, 7, 8, 9, 10, 11, 12, 13, 14, 15, 16, 17, 18, 19, 20, 21, 22, 23, 24, 25, 26, 27, 28, 29, 30, 31, 32, 33, 34, 35, 36, 37, 38, 39, 40, 41, 42, 43, 44, 45, 46, 47, 399, 400, 401, 402, 403, 404, 405, 406, 407, 408, 409, 410, 411, 412, 413, 414, 415, 416, 417, 418, 419] (by decide +kernel) (by decide +kernel)
set_option maxRecDepth 20000 in
theorem gL_law_X6_init : GoodIn wsL_law (wsX6_init) := ggL_law_X6_init
set_option maxRecDepth 20000 in
theorem ggL_law_X6_undoCount : GoodIn wsL_law wsX6_undoCount := goodIn_r _ [51, 26, 52, 53, 54, 25, 55, 56, 399, 400, 401, 402, 403, 404, 405, 417, 418, 419] (by decide +kernel) (by decide +kernel)
set_option maxRecDepth 20000 in
theorem gL_law_X6_undoCount : GoodIn wsL_law (wsV RL 95 RX6 yX6_undoCount wsX6_undoCount) := goodIn_app (goodIn_of _ (by decide +kernel)) ggL_law_X6_undoCount
set_option maxRecDepth 20000 in
theorem ggL_law_X6_numeratorOf : GoodIn wsL_law wsX6_numeratorOf := goodIn_ca (goodIn_r _ [60, 10, 61, 62, 2, 63, 64, 65, 66, 67, 68, 69, 70, 71, 72, 399, 400, 401, 402, 403, 404, 405] (by decide +kernel) (by decide +kernel)) (goodIn_sub (fun _ h => List.mem_append_left _ (List.mem_append_left _ (List.mem_append_right _ h))) (by decide +kernel))
set_option maxRecDepth 20000 in
theorem gL_law_X6_numeratorOf : GoodIn wsL_law (wsV RL 12 RX6 yX6_numeratorOf wsX6_numeratorOf) := goodIn_app (goodIn_of _ (by decide +kernel)) ggL_law_X6_numeratorOf
set_option maxRecDepth 20000 in
theorem ggL_law_X6_denominatorOf : GoodIn wsL_law wsX6_denominatorOf := goodIn_ca (goodIn_r _ [76, 10, 61, 62, 2, 63, 64, 65, 66, 67, 68, 77, 78, 71, 79, 80, 81, 82, 83, 84, 399, 400, 401, 402, 403, 404, 405] (by decide +kernel) (by decide +kernel)) (goodIn_sub (fun _ h => List.mem_append_left _ (List.mem_append_left _ (List.mem_append_right _ h))) (by decide +kernel))
set_option maxRecDepth 20000 in
theorem gL_law_X6_denominatorOf : GoodIn wsL_law (wsV RL 18 RX6 yX6_denominatorOf wsX6_denominatorOf) := goodIn_app (goodIn_of _ (by decide +kernel)) ggL_law_X6_denominatorOf
set_option maxRecDepth 20000 in
theorem ggL_law_X6_differentFractions : GoodIn wsL_law wsX6_differentFractions := goodIn_r _ [88, 89, 90, 91, 2, 92, 10, 399, 400, 401, 402, 403, 404, 405] (by decide +kernel) (by decide +kernel)
set_option maxRecDepth 20000 in
theorem gL_law_X6_differentFractions : GoodIn wsL_law (wsV RL 86 RX6 yX6_differentFractions wsX6_differentFractions) := goodIn_app (goodIn_of _ (by decide +kernel)) ggL_law_X6_differentFractions
set_option maxRecDepth 20000 in
theorem ggL_law_X6_commonParts : GoodIn wsL_law wsX6_commonParts := goodIn_r _ [96, 10, 97, 98, 77, 78, 71, 79, 80, 81, 82, 83, 84, 99, 100, 101, 399, 400, 401, 402, 403, 404, 405] (by decide +kernel) (by decide +kernel)
set_option maxRecDepth 20000 in
theorem gL_law_X6_commonParts : GoodIn wsL_law (wsV RL 64 RX6 yX6_commonParts wsX6_commonParts) := goodIn_app (goodIn_of _ (by decide +kernel)) ggL_law_X6_commonParts
set_option maxRecDepth 20000 in
theorem ggL_law_X6_termCount : GoodIn wsL_law wsX6_termCount := goodIn_ca (goodIn_r _ [105, 14, 10, 61, 62, 2, 63, 64, 65, 66, 67, 68, 106, 107, 108, 13, 109, 110, 34, 35, 111, 70, 71, 72, 112, 78, 79, 80, 81, 82, 83, 84, 113, 114, 115, 116, 117, 118, 119, 120, 121, 122, 123, 399, 400, 401, 402, 403, 404, 405, 406, 407, 408] (by decide +kernel) (by decide +kernel)) (goodIn_sub (fun _ h => List.mem_append_left _ (List.mem_append_left _ (List.mem_append_right _ h))) (by decide +kernel))
set_option maxRecDepth 20000 in
theorem gL_law_X6_termCount : GoodIn wsL_law (wsV RL 77 RX6 yX6_termCount wsX6_termCount) := goodIn_app (goodIn_of _ (by decide +kernel)) ggL_law_X6_termCount
set_option maxRecDepth 20000 in
theorem ggL_law_X6_unitCount : GoodIn wsL_law wsX6_unitCount := goodIn_ca (goodIn_ca (goodIn_r _ [127, 10, 61, 62, 2, 63, 64, 65, 66, 67, 68, 128, 129, 130, 131, 132, 133, 134, 135, 136, 71, 137, 138, 70, 72, 139, 78, 79, 80, 81, 82, 83, 84, 140, 141, 142, 143, 144, 145, 146, 147, 148, 149, 150, 399, 400, 401, 402, 403, 404, 405] (by decide +kernel) (by decide +kernel)) (goodIn_sub (fun _ h => List.mem_append_left _ (List.mem_append_left _ (List.mem_append_right _ h))) (by decide +kernel))) (goodIn_sub (fun _ h => List.mem_append_left _ (List.mem_append_right _ h)) (by decide +kernel))
set_option maxRecDepth 20000 in
theorem gL_law_X6_unitCount : GoodIn wsL_law (wsV RL 98 RX6 yX6_unitCount wsX6_unitCount) := goodIn_app (goodIn_of _ (by decide +kernel)) ggL_law_X6_unitCount
set_option maxRecDepth 20000 in
theorem ggL_law_X6_textError : GoodIn wsL_law wsX6_textError := goodIn_r _ [154, 22, 18, 155, 156, 157, 21, 158, 159, 160, 161, 162, 17, 163, 164, 165, 166, 167, 168, 40, 169, 170, 171, 172, 173, 174, 175, 176, 177, 178, 179, 180, 181, 182, 183, 184, 185, 186, 187, 188, 189, 190, 191, 192, 193, 194, 195, 196, 197, 198, 199, 200, 201, 202, 203, 204, 205, 206, 207, 208, 209, 210, 211, 212, 213, 214, 215, 216, 399, 400, 401, 402, 403, 404, 405, 411, 412, 413, 414, 415, 416, 409, 410] (by decide +kernel) (by decide +kernel)
set_option maxRecDepth 20000 in
theorem gL_law_X6_textError : GoodIn wsL_law (wsV RL 101 RX6 yX6_textError wsX6_textError) := goodIn_app (goodIn_of _ (by decide +kernel)) ggL_law_X6_textError
set_option maxRecDepth 20000 in
theorem ggL_law_L_cell : GoodIn wsL_law wsL_cell := goodIn_r _ [220] (by decide +kernel) (by decide +kernel)
set_option maxRecDepth 20000 in
theorem gL_law_L_cell : GoodIn wsL_law (va_wsS RL 104 yL_cell wsL_cell) := goodIn_app (goodIn_of _ (by decide +kernel)) ggL_law_L_cell
set_option maxRecDepth 20000 in
theorem ggL_law_L_told : GoodIn wsL_law wsL_told := goodIn_ca (goodIn_r _ [223, 224, 225, 57, 58, 59, 2, 60, 10, 61, 62, 63, 64, 65, 66, 67, 68, 69, 70, 71, 72, 73, 74, 75, 76, 77, 78, 79, 80, 81, 82, 83, 84, 399, 400, 401, 402, 403, 404, 405] (by decide +kernel) (by decide +kernel)) (goodIn_sub (fun _ h => List.mem_append_left _ (List.mem_append_left _ (List.mem_append_right _ h))) (by decide +kernel))
set_option maxRecDepth 20000 in
theorem gL_law_L_told : GoodIn wsL_law (va_wsS RL 108 yL_told wsL_told) := goodIn_app (goodIn_of _ (by decide +kernel)) ggL_law_L_told
set_option maxRecDepth 20000 in
theorem ggL_law_L_act : GoodIn wsL_law wsL_act := goodIn_ca (goodIn_ca (goodIn_ca (goodIn_r _ [228, 229, 230, 231, 232, 219, 233, 234, 57, 58, 59, 2, 60, 10, 61, 62, 63, 64, 65, 66, 67, 68, 69, 70, 71, 72, 73, 74, 75, 76, 77, 78, 79, 80, 81, 82, 83, 84, 235, 236, 237, 238, 239, 240, 241, 242, 243, 244, 245, 246, 247, 100, 101, 248, 118, 119, 249, 250, 251, 252, 26, 253, 254, 255, 25, 256, 47, 56, 257, 258, 259, 260, 261, 262, 263, 264, 265, 266, 267, 268, 269, 270, 271, 272, 138, 139, 273, 274, 275, 276, 277, 132, 133, 98, 278, 279, 280, 281, 135, 136, 137, 282, 283, 284, 285, 286, 287, 288, 289, 290, 291, 292, 293, 294, 295, 296, 297, 298, 299, 300, 301, 302, 303, 304, 305, 306, 307, 308, 309, 310, 311, 312, 313, 314, 315, 316, 317, 318, 319, 14, 320, 321, 322, 106, 107, 108, 13, 109, 110, 34, 35, 111, 112, 113, 114, 115, 116, 117, 323, 324, 325, 326, 327, 328, 329, 330, 331, 332, 333, 334, 335, 399, 400, 401, 402, 403, 404, 405, 417, 418, 419, 406, 407, 408] (by decide +kernel) (by decide +kernel)) (goodIn_sub (fun _ h => List.mem_append_left _ (List.mem_append_left _ (List.mem_append_right _ h))) (by decide +kernel))) (goodIn_sub (fun _ h => List.mem_append_right _ h) (by decide +kernel))) (goodIn_sub (fun _ h => List.mem_append_left _ (List.mem_append_right _ h)) (by decide +kernel))
set_option maxRecDepth 20000 in
theorem gL_law_L_act : GoodIn wsL_law (va_wsS RL 112 yL_act wsL_act) := goodIn_app (goodIn_of _ (by decide +kernel)) ggL_law_L_act
set_option maxRecDepth 20000 in
theorem ggL_law_X6_undo : GoodIn wsL_law wsX6_undo := goodIn_ca (goodIn_r _ [339, 132, 133, 26, 10, 52, 53, 54, 25, 55, 56, 340, 341, 342, 343, 47, 257, 258, 259, 260, 262, 263, 264, 265, 261, 399, 400, 401, 402, 403, 404, 405, 417, 418, 419] (by decide +kernel) (by decide +kernel)) (goodIn_sub (fun _ h => List.mem_append_left _ (List.mem_append_right _ h)) (by decide +kernel))
set_option maxRecDepth 20000 in
theorem gL_law_X6_undo : GoodIn wsL_law (wsV RL 116 RX6 yX6_undo wsX6_undo) := goodIn_app (goodIn_of _ (by decide +kernel)) ggL_law_X6_undo
set_option maxRecDepth 20000 in
theorem ggL_law_L_low : GoodIn wsL_law wsL_low := goodIn_r _ [233, 234] (by decide +kernel) (by decide +kernel)
set_option maxRecDepth 20000 in
theorem gL_law_L_low : GoodIn wsL_law (va_wsS RL 21 yL_low wsL_low) := goodIn_app (goodIn_of _ (by decide +kernel)) ggL_law_L_low
set_option maxRecDepth 20000 in
theorem ggL_law_L_holds : GoodIn wsL_law wsL_holds := goodIn_ca (goodIn_ca (goodIn_ca (goodIn_r _ [346, 230, 347, 348, 349, 2, 350, 64, 65, 351, 352, 353, 354, 10, 135, 136, 71, 137, 138, 70, 72, 139, 78, 79, 80, 81, 82, 83, 84, 57, 58, 59, 60, 61, 62, 63, 66, 67, 68, 69, 73, 74, 75, 76, 77, 355, 356, 219, 357, 278, 279, 280, 281, 93, 94, 95, 96, 97, 98, 99, 100, 101, 358, 359, 360, 361, 316, 317, 318, 319, 14, 320, 321, 322, 239, 240, 106, 107, 108, 13, 109, 110, 34, 35, 111, 112, 113, 114, 115, 116, 117, 118, 119, 323, 324, 325, 326, 327, 328, 329, 330, 331, 332, 333, 334, 335, 362, 363, 364, 365, 366, 367, 368, 369, 370, 371, 372, 373, 374, 375, 376, 377, 378, 102, 103, 104, 105, 120, 121, 122, 123, 379, 380, 381, 382, 383, 384, 385, 386, 387, 388, 389, 390, 391, 392, 393, 394, 85, 86, 87, 88, 89, 90, 91, 92, 395, 396, 397, 398, 134, 304, 305, 306, 307, 132, 133, 399, 400, 401, 402, 403, 404, 405, 406, 407, 408] (by decide +kernel) (by decide +kernel)) (goodIn_sub (fun _ h => List.mem_append_left _ (List.mem_append_left _ (List.mem_append_right _ h))) (by decide +kernel))) (goodIn_sub (fun _ h => List.mem_append_right _ h) (by decide +kernel))) (goodIn_sub (fun _ h => List.mem_append_left _ (List.mem_append_right _ h)) (by decide +kernel))
set_option maxRecDepth 20000 in
theorem gL_law_L_holds : GoodIn wsL_law (va_wsS RL 119 yL_holds wsL_holds) := goodIn_app (goodIn_of _ (by decide +kernel)) ggL_law_L_holds
