set_option maxRecDepth 20000 in
theorem ggL_law_X6_init : GoodIn wsL_law wsX6_init := goodIn_r _ [10, 11, 12, 13, 6, 14, 15, 16, 17, 18, 19, 20, 21, 22, 23, 24, 25, 26, 27, 28, 29, 30, 31, 32, 33, 34, 35, 36, 37, 38, 39, 40, 41, 42, 43, 44, 45, 46, 47, 48, 49, 50, 51, 882, 883, 884, 885, 886, 887, 888, 910, 911, 912, 913, 914, 915, 916, 917, 918, 919, 920, 921, 922, 923] (by decide +kernel) (by decide +kernel)
set_option maxRecDepth 20000 in
theorem gL_law_X6_init : GoodIn wsL_law (wsX6_init) := ggL_law_X6_init
set_option maxRecDepth 20000 in
theorem ggL_law_X7_init : GoodIn wsL_law wsX7_init := goodIn_r _ [54, 55, 12, 13, 37, 56, 57, 58, 32, 59, 60, 61, 62, 63, 64, 889, 890, 891, 892, 893, 894, 895, 896, 897, 898, 899, 900, 901, 902, 903, 904, 905, 906, 907, 908, 909] (by decide +kernel) (by decide +kernel)
set_option maxRecDepth 20000 in
theorem gL_law_X7_init : GoodIn wsL_law (wsX7_init) := ggL_law_X7_init
set_option maxRecDepth 20000 in
theorem ggL_law_L_set : GoodIn wsL_law wsL_set := goodIn_ca (goodIn_ca (goodIn_r _ [68, 69, 70, 71, 72, 73, 2, 74, 75, 76, 77, 78, 79, 80, 81, 82, 83, 84, 85, 86, 87, 88, 89, 90, 91, 92, 93, 94, 95, 96, 97, 98, 99, 100, 101, 102, 103, 104, 105, 30, 14, 106, 107, 108, 29, 109, 51, 110, 111, 112, 113, 114, 115, 116, 117, 118, 119, 120, 121, 122, 123, 882, 883, 884, 885, 886, 887, 888, 921, 922, 923] (by decide +kernel) (by decide +kernel)) (goodIn_sub (fun _ h => List.mem_append_left _ (List.mem_append_left _ (List.mem_append_right _ h))) (by decide +kernel))) (goodIn_sub (fun _ h => List.mem_append_left _ (List.mem_append_right _ h)) (by decide +kernel))
set_option maxRecDepth 20000 in
theorem gL_law_L_set : GoodIn wsL_law (va_wsS RL 113 yL_set wsL_set) := goodIn_app (goodIn_of _ (by decide +kernel)) ggL_law_L_set
set_option maxRecDepth 20000 in
theorem ggL_law_X7_set : GoodIn wsL_law wsX7_set := goodIn_r _ [127, 64, 128, 129, 5, 130, 131, 132, 133, 134, 135, 136, 137, 138, 139, 140, 141, 142, 143, 144, 145, 146, 147, 148, 149, 57, 56, 150, 151, 152, 153, 154, 155, 156, 157, 158, 159, 160, 161, 162, 163, 889, 890, 891, 892, 893, 894, 895, 896, 897, 898, 899, 900, 901, 902, 903, 904, 905, 906, 907, 908, 909] (by decide +kernel) (by decide +kernel)
set_option maxRecDepth 20000 in
theorem gL_law_X7_set : GoodIn wsL_law (wsV RL 118 RX7 yX7_set wsX7_set) := goodIn_app (goodIn_of _ (by decide +kernel)) ggL_law_X7_set
set_option maxRecDepth 20000 in
theorem ggL_law_X7_thrown : GoodIn wsL_law wsX7_thrown := goodIn_r _ [167, 64, 889, 890, 891, 892, 893, 894, 895, 896, 897, 898, 899, 900, 901, 902, 903, 904, 905, 906, 907, 908, 909] (by decide +kernel) (by decide +kernel)
set_option maxRecDepth 20000 in
theorem gL_law_X7_thrown : GoodIn wsL_law (wsV RL 119 RX7 yX7_thrown wsX7_thrown) := goodIn_app (goodIn_of _ (by decide +kernel)) ggL_law_X7_thrown
set_option maxRecDepth 20000 in
theorem ggL_law_L_add : GoodIn wsL_law wsL_add := goodIn_ca (goodIn_ca (goodIn_r _ [170, 69, 171, 172, 173, 174, 2, 175, 14, 78, 79, 80, 81, 82, 83, 84, 85, 176, 177, 88, 178, 179, 180, 181, 182, 121, 122, 123, 95, 96, 97, 98, 183, 87, 89, 90, 91, 92, 93, 94, 99, 100, 101, 184, 185, 186, 187, 188, 189, 190, 102, 103, 104, 105, 30, 106, 107, 108, 29, 109, 51, 110, 111, 112, 113, 114, 115, 116, 117, 118, 119, 120, 882, 883, 884, 885, 886, 887, 888, 921, 922, 923] (by decide +kernel) (by decide +kernel)) (goodIn_sub (fun _ h => List.mem_append_left _ (List.mem_append_right _ h)) (by decide +kernel))) (goodIn_sub (fun _ h => List.mem_append_right _ h) (by decide +kernel))
set_option maxRecDepth 20000 in
theorem gL_law_L_add : GoodIn wsL_law (va_wsS RL 122 yL_add wsL_add) := goodIn_app (goodIn_of _ (by decide +kernel)) ggL_law_L_add
set_option maxRecDepth 20000 in
theorem ggL_law_X7_add : GoodIn wsL_law wsX7_add := goodIn_r _ [194, 64, 195, 196, 5, 197, 128, 129, 130, 131, 132, 133, 134, 135, 136, 137, 198, 199, 200, 201, 202, 203, 204, 205, 56, 206, 207, 208, 209, 150, 151, 152, 153, 154, 155, 156, 157, 158, 159, 145, 146, 147, 148, 149, 57, 160, 161, 162, 163, 889, 890, 891, 892, 893, 894, 895, 896, 897, 898, 899, 900, 901, 902, 903, 904, 905, 906, 907, 908, 909] (by decide +kernel) (by decide +kernel)
set_option maxRecDepth 20000 in
theorem gL_law_X7_add : GoodIn wsL_law (wsV RL 125 RX7 yX7_add wsX7_add) := goodIn_app (goodIn_of _ (by decide +kernel)) ggL_law_X7_add
set_option maxRecDepth 20000 in
theorem ggL_law_L_takeAway : GoodIn wsL_law wsL_takeAway := goodIn_ca (goodIn_ca (goodIn_r _ [212, 69, 171, 213, 214, 215, 2, 216, 14, 78, 79, 80, 81, 82, 83, 84, 85, 217, 218, 88, 219, 179, 180, 181, 182, 121, 122, 123, 95, 96, 97, 98, 183, 87, 89, 90, 91, 92, 93, 94, 99, 100, 101, 184, 185, 186, 187, 188, 189, 190, 102, 103, 104, 105, 30, 106, 107, 108, 29, 109, 51, 110, 111, 112, 113, 114, 115, 116, 117, 118, 119, 120, 882, 883, 884, 885, 886, 887, 888, 921, 922, 923] (by decide +kernel) (by decide +kernel)) (goodIn_sub (fun _ h => List.mem_append_left _ (List.mem_append_right _ h)) (by decide +kernel))) (goodIn_sub (fun _ h => List.mem_append_right _ h) (by decide +kernel))
set_option maxRecDepth 20000 in
theorem gL_law_L_takeAway : GoodIn wsL_law (va_wsS RL 126 yL_takeAway wsL_takeAway) := goodIn_app (goodIn_of _ (by decide +kernel)) ggL_law_L_takeAway
set_option maxRecDepth 20000 in
theorem ggL_law_X7_takeAway : GoodIn wsL_law wsX7_takeAway := goodIn_r _ [223, 64, 195, 196, 5, 197, 128, 129, 130, 131, 132, 133, 134, 135, 136, 137, 224, 225, 226, 227, 202, 203, 204, 205, 56, 206, 207, 208, 209, 198, 199, 200, 201, 150, 151, 152, 153, 154, 155, 156, 157, 158, 159, 145, 146, 147, 148, 149, 57, 160, 161, 162, 163, 889, 890, 891, 892, 893, 894, 895, 896, 897, 898, 899, 900, 901, 902, 903, 904, 905, 906, 907, 908, 909] (by decide +kernel) (by decide +kernel)
set_option maxRecDepth 20000 in
theorem gL_law_X7_takeAway : GoodIn wsL_law (wsV RL 128 RX7 yX7_takeAway wsX7_takeAway) := goodIn_app (goodIn_of _ (by decide +kernel)) ggL_law_X7_takeAway
set_option maxRecDepth 20000 in
theorem ggL_law_L_multiply : GoodIn wsL_law wsL_multiply := goodIn_ca (goodIn_ca (goodIn_r _ [230, 69, 171, 231, 232, 233, 2, 234, 14, 78, 79, 80, 81, 82, 83, 84, 85, 235, 236, 88, 237, 179, 180, 181, 182, 121, 122, 123, 95, 96, 97, 98, 183, 87, 89, 90, 91, 92, 93, 94, 99, 100, 101, 184, 185, 186, 187, 188, 189, 190, 102, 103, 104, 105, 30, 106, 107, 108, 29, 109, 51, 110, 111, 112, 113, 114, 115, 116, 117, 118, 119, 120, 882, 883, 884, 885, 886, 887, 888, 921, 922, 923] (by decide +kernel) (by decide +kernel)) (goodIn_sub (fun _ h => List.mem_append_left _ (List.mem_append_right _ h)) (by decide +kernel))) (goodIn_sub (fun _ h => List.mem_append_right _ h) (by decide +kernel))
set_option maxRecDepth 20000 in
theorem gL_law_L_multiply : GoodIn wsL_law (va_wsS RL 129 yL_multiply wsL_multiply) := goodIn_app (goodIn_of _ (by decide +kernel)) ggL_law_L_multiply
set_option maxRecDepth 20000 in
theorem ggL_law_X7_multiply : GoodIn wsL_law wsX7_multiply := goodIn_r _ [241, 64, 195, 196, 5, 197, 128, 129, 130, 131, 132, 133, 134, 135, 136, 137, 242, 243, 244, 245, 202, 203, 204, 205, 56, 206, 207, 208, 209, 150, 151, 152, 153, 154, 155, 156, 157, 158, 159, 145, 146, 147, 148, 149, 57, 160, 161, 162, 163, 889, 890, 891, 892, 893, 894, 895, 896, 897, 898, 899, 900, 901, 902, 903, 904, 905, 906, 907, 908, 909] (by decide +kernel) (by decide +kernel)
set_option maxRecDepth 20000 in
theorem gL_law_X7_multiply : GoodIn wsL_law (wsV RL 131 RX7 yX7_multiply wsX7_multiply) := goodIn_app (goodIn_of _ (by decide +kernel)) ggL_law_X7_multiply
set_option maxRecDepth 20000 in
theorem ggL_law_L_copyTo : GoodIn wsL_law wsL_copyTo := goodIn_ca (goodIn_r _ [248, 69, 249, 250, 251, 2, 252, 14, 78, 79, 80, 81, 82, 83, 84, 85, 102, 103, 104, 105, 30, 106, 107, 108, 29, 109, 51, 110, 111, 112, 113, 114, 115, 116, 117, 118, 119, 120, 121, 88, 122, 123, 95, 96, 97, 98, 882, 883, 884, 885, 886, 887, 888, 921, 922, 923] (by decide +kernel) (by decide +kernel)) (goodIn_sub (fun _ h => List.mem_append_left _ (List.mem_append_right _ h)) (by decide +kernel))
set_option maxRecDepth 20000 in
theorem gL_law_L_copyTo : GoodIn wsL_law (va_wsS RL 132 yL_copyTo wsL_copyTo) := goodIn_app (goodIn_of _ (by decide +kernel)) ggL_law_L_copyTo
set_option maxRecDepth 20000 in
theorem ggL_law_X7_copyTo : GoodIn wsL_law wsX7_copyTo := goodIn_r _ [256, 64, 195, 196, 5, 197, 128, 129, 130, 131, 132, 133, 134, 135, 136, 137, 145, 146, 147, 148, 149, 57, 56, 257, 258, 259, 260, 224, 225, 226, 227, 202, 203, 204, 205, 206, 207, 208, 209, 889, 890, 891, 892, 893, 894, 895, 896, 897, 898, 899, 900, 901, 902, 903, 904, 905, 906, 907, 908, 909] (by decide +kernel) (by decide +kernel)
set_option maxRecDepth 20000 in
theorem gL_law_X7_copyTo : GoodIn wsL_law (wsV RL 134 RX7 yX7_copyTo wsX7_copyTo) := goodIn_app (goodIn_of _ (by decide +kernel)) ggL_law_X7_copyTo
set_option maxRecDepth 20000 in
theorem ggL_law_L_invert : GoodIn wsL_law wsL_invert := goodIn_ca (goodIn_ca (goodIn_r _ [263, 69, 171, 264, 265, 266, 2, 267, 14, 268, 269, 270, 271, 188, 189, 78, 79, 80, 81, 82, 83, 84, 85, 120, 121, 88, 122, 123, 95, 96, 97, 98, 272, 180, 181, 86, 87, 89, 90, 91, 92, 93, 94, 99, 100, 101, 102, 103, 104, 105, 30, 106, 107, 108, 29, 109, 51, 110, 111, 112, 113, 114, 115, 116, 117, 118, 119, 882, 883, 884, 885, 886, 887, 888, 921, 922, 923] (by decide +kernel) (by decide +kernel)) (goodIn_sub (fun _ h => List.mem_append_right _ h) (by decide +kernel))) (goodIn_sub (fun _ h => List.mem_append_left _ (List.mem_append_right _ h)) (by decide +kernel))
set_option maxRecDepth 20000 in
theorem gL_law_L_invert : GoodIn wsL_law (va_wsS RL 135 yL_invert wsL_invert) := goodIn_app (goodIn_of _ (by decide +kernel)) ggL_law_L_invert
set_option maxRecDepth 20000 in
theorem ggL_law_X7_invert : GoodIn wsL_law wsX7_invert := goodIn_r _ [276, 64, 128, 129, 5, 130, 131, 132, 133, 134, 135, 136, 137, 202, 203, 204, 205, 56, 145, 146, 147, 148, 149, 57, 206, 207, 208, 209, 150, 151, 152, 153, 154, 155, 156, 157, 158, 159, 160, 161, 162, 163, 889, 890, 891, 892, 893, 894, 895, 896, 897, 898, 899, 900, 901, 902, 903, 904, 905, 906, 907, 908, 909] (by decide +kernel) (by decide +kernel)
set_option maxRecDepth 20000 in
theorem gL_law_X7_invert : GoodIn wsL_law (wsV RL 138 RX7 yX7_invert wsX7_invert) := goodIn_app (goodIn_of _ (by decide +kernel)) ggL_law_X7_invert
set_option maxRecDepth 20000 in
theorem ggL_law_L_share : GoodIn wsL_law wsL_share := goodIn_ca (goodIn_ca (goodIn_ca (goodIn_r _ [279, 69, 70, 171, 280, 281, 282, 2, 283, 75, 76, 14, 78, 79, 80, 81, 82, 83, 84, 85, 272, 180, 88, 181, 120, 121, 122, 123, 95, 96, 97, 98, 86, 87, 89, 90, 91, 92, 93, 94, 99, 100, 101, 184, 185, 186, 187, 188, 189, 190, 102, 103, 104, 105, 30, 106, 107, 108, 29, 109, 51, 110, 111, 112, 113, 114, 115, 116, 117, 118, 119, 882, 883, 884, 885, 886, 887, 888, 921, 922, 923] (by decide +kernel) (by decide +kernel)) (goodIn_sub (fun _ h => List.mem_append_left _ (List.mem_append_left _ (List.mem_append_right _ h))) (by decide +kernel))) (goodIn_sub (fun _ h => List.mem_append_left _ (List.mem_append_right _ h)) (by decide +kernel))) (goodIn_sub (fun _ h => List.mem_append_right _ h) (by decide +kernel))
set_option maxRecDepth 20000 in
theorem gL_law_L_share : GoodIn wsL_law (va_wsS RL 139 yL_share wsL_share) := goodIn_app (goodIn_of _ (by decide +kernel)) ggL_law_L_share
set_option maxRecDepth 20000 in
theorem ggL_law_X7_share : GoodIn wsL_law wsX7_share := goodIn_r _ [287, 64, 128, 129, 5, 130, 131, 132, 133, 134, 135, 136, 137, 202, 203, 204, 205, 56, 206, 207, 208, 209, 150, 151, 152, 153, 154, 155, 156, 157, 158, 159, 145, 146, 147, 148, 149, 57, 160, 161, 162, 163, 889, 890, 891, 892, 893, 894, 895, 896, 897, 898, 899, 900, 901, 902, 903, 904, 905, 906, 907, 908, 909] (by decide +kernel) (by decide +kernel)
set_option maxRecDepth 20000 in
theorem gL_law_X7_share : GoodIn wsL_law (wsV RL 141 RX7 yX7_share wsX7_share) := goodIn_app (goodIn_of _ (by decide +kernel)) ggL_law_X7_share
set_option maxRecDepth 20000 in
theorem ggL_law_L_roundTo : GoodIn wsL_law wsL_roundTo := goodIn_ca (goodIn_ca (goodIn_r _ [290, 69, 70, 291, 292, 293, 2, 294, 295, 296, 297, 298, 18, 14, 78, 79, 80, 81, 82, 83, 84, 85, 299, 300, 301, 75, 76, 302, 303, 304, 17, 305, 306, 38, 39, 307, 180, 88, 181, 308, 121, 122, 123, 95, 96, 97, 98, 309, 310, 311, 312, 313, 100, 101, 314, 315, 316, 317, 318, 319, 320, 321, 322, 323, 324, 325, 326, 179, 182, 102, 103, 104, 105, 30, 106, 107, 108, 29, 109, 51, 110, 111, 112, 113, 114, 115, 116, 117, 118, 119, 120, 882, 883, 884, 885, 886, 887, 888, 910, 911, 912, 921, 922, 923] (by decide +kernel) (by decide +kernel)) (goodIn_sub (fun _ h => List.mem_append_left _ (List.mem_append_right _ h)) (by decide +kernel))) (goodIn_sub (fun _ h => List.mem_append_left _ (List.mem_append_left _ (List.mem_append_right _ h))) (by decide +kernel))
set_option maxRecDepth 20000 in
theorem gL_law_L_roundTo : GoodIn wsL_law (va_wsS RL 142 yL_roundTo wsL_roundTo) := goodIn_app (goodIn_of _ (by decide +kernel)) ggL_law_L_roundTo
set_option maxRecDepth 20000 in
theorem ggL_law_X7_roundTo : GoodIn wsL_law wsX7_roundTo := goodIn_r _ [330, 64, 331, 332, 128, 129, 5, 130, 131, 132, 133, 134, 135, 136, 137, 333, 334, 335, 145, 146, 147, 148, 149, 57, 56, 336, 337, 338, 339, 340, 202, 203, 204, 205, 206, 207, 208, 209, 150, 151, 152, 153, 154, 155, 156, 157, 158, 159, 160, 161, 162, 163, 889, 890, 891, 892, 893, 894, 895, 896, 897, 898, 899, 900, 901, 902, 903, 904, 905, 906, 907, 908, 909] (by decide +kernel) (by decide +kernel)
set_option maxRecDepth 20000 in
theorem gL_law_X7_roundTo : GoodIn wsL_law (wsV RL 144 RX7 yX7_roundTo wsX7_roundTo) := goodIn_app (goodIn_of _ (by decide +kernel)) ggL_law_X7_roundTo
set_option maxRecDepth 20000 in
theorem ggL_law_L_numeratorOf : GoodIn wsL_law wsL_numeratorOf := goodIn_ca (goodIn_r _ [343, 69, 344, 345, 346, 2, 347, 14, 78, 79, 80, 81, 82, 83, 84, 85, 272, 180, 88, 181, 882, 883, 884, 885, 886, 887, 888] (by decide +kernel) (by decide +kernel)) (goodIn_sub (fun _ h => List.mem_append_left _ (List.mem_append_right _ h)) (by decide +kernel))
set_option maxRecDepth 20000 in
theorem gL_law_L_numeratorOf : GoodIn wsL_law (va_wsS RL 145 yL_numeratorOf wsL_numeratorOf) := goodIn_app (goodIn_of _ (by decide +kernel)) ggL_law_L_numeratorOf
set_option maxRecDepth 20000 in
theorem ggL_law_X7_numeratorOf : GoodIn wsL_law wsX7_numeratorOf := goodIn_r _ [351, 64, 128, 129, 5, 130, 131, 132, 133, 202, 203, 204, 205, 56, 134, 135, 136, 137, 889, 890, 891, 892, 893, 894, 895, 896, 897, 898, 899, 900, 901, 902, 903, 904, 905, 906, 907, 908, 909] (by decide +kernel) (by decide +kernel)
set_option maxRecDepth 20000 in
theorem gL_law_X7_numeratorOf : GoodIn wsL_law (wsV RL 147 RX7 yX7_numeratorOf wsX7_numeratorOf) := goodIn_app (goodIn_of _ (by decide +kernel)) ggL_law_X7_numeratorOf
set_option maxRecDepth 20000 in
theorem ggL_law_L_denominatorOf : GoodIn wsL_law wsL_denominatorOf := goodIn_ca (goodIn_r _ [354, 69, 355, 356, 357, 2, 358, 14, 78, 79, 80, 81, 82, 83, 84, 85, 120, 121, 88, 122, 123, 95, 96, 97, 98, 882, 883, 884, 885, 886, 887, 888] (by decide +kernel) (by decide +kernel)) (goodIn_sub (fun _ h => List.mem_append_left _ (List.mem_append_right _ h)) (by decide +kernel))
set_option maxRecDepth 20000 in
theorem gL_law_L_denominatorOf : GoodIn wsL_law (va_wsS RL 148 yL_denominatorOf wsL_denominatorOf) := goodIn_app (goodIn_of _ (by decide +kernel)) ggL_law_L_denominatorOf
set_option maxRecDepth 20000 in
theorem ggL_law_X7_denominatorOf : GoodIn wsL_law wsX7_denominatorOf := goodIn_r _ [362, 64, 128, 129, 5, 130, 131, 132, 133, 206, 207, 208, 209, 56, 134, 135, 136, 137, 889, 890, 891, 892, 893, 894, 895, 896, 897, 898, 899, 900, 901, 902, 903, 904, 905, 906, 907, 908, 909] (by decide +kernel) (by decide +kernel)
set_option maxRecDepth 20000 in
theorem gL_law_X7_denominatorOf : GoodIn wsL_law (wsV RL 150 RX7 yX7_denominatorOf wsX7_denominatorOf) := goodIn_app (goodIn_of _ (by decide +kernel)) ggL_law_X7_denominatorOf
set_option maxRecDepth 20000 in
theorem ggL_law_L_compare : GoodIn wsL_law wsL_compare := goodIn_ca (goodIn_r _ [365, 69, 366, 367, 368, 2, 369, 14, 78, 79, 80, 81, 82, 83, 84, 85, 370, 371, 88, 372, 179, 180, 181, 182, 121, 122, 123, 95, 96, 97, 98, 882, 883, 884, 885, 886, 887, 888] (by decide +kernel) (by decide +kernel)) (goodIn_sub (fun _ h => List.mem_append_left _ (List.mem_append_right _ h)) (by decide +kernel))
set_option maxRecDepth 20000 in
theorem gL_law_L_compare : GoodIn wsL_law (va_wsS RL 151 yL_compare wsL_compare) := goodIn_app (goodIn_of _ (by decide +kernel)) ggL_law_L_compare
set_option maxRecDepth 20000 in
theorem ggL_law_X7_compare : GoodIn wsL_law wsX7_compare := goodIn_r _ [376, 64, 195, 196, 5, 197, 128, 129, 130, 131, 132, 133, 224, 225, 226, 227, 202, 203, 204, 205, 56, 206, 207, 208, 209, 134, 135, 136, 137, 889, 890, 891, 892, 893, 894, 895, 896, 897, 898, 899, 900, 901, 902, 903, 904, 905, 906, 907, 908, 909] (by decide +kernel) (by decide +kernel)
set_option maxRecDepth 20000 in
theorem gL_law_X7_compare : GoodIn wsL_law (wsV RL 153 RX7 yX7_compare wsX7_compare) := goodIn_app (goodIn_of _ (by decide +kernel)) ggL_law_X7_compare
set_option maxRecDepth 20000 in
theorem ggL_law_L_plateByAmount : GoodIn wsL_law wsL_plateByAmount := goodIn_ca (goodIn_r _ [379, 69, 380, 381, 382, 2, 383, 81, 82, 384, 385, 386, 387, 14, 370, 371, 88, 372, 179, 180, 181, 182, 121, 122, 123, 95, 96, 97, 98, 882, 883, 884, 885, 886, 887, 888] (by decide +kernel) (by decide +kernel)) (goodIn_sub (fun _ h => List.mem_append_left _ (List.mem_append_right _ h)) (by decide +kernel))
set_option maxRecDepth 20000 in
theorem gL_law_L_plateByAmount : GoodIn wsL_law (va_wsS RL 154 yL_plateByAmount wsL_plateByAmount) := goodIn_app (goodIn_of _ (by decide +kernel)) ggL_law_L_plateByAmount
set_option maxRecDepth 20000 in
theorem ggL_law_X7_plateByAmount : GoodIn wsL_law wsX7_plateByAmount := goodIn_r _ [391, 64, 128, 129, 5, 130, 131, 132, 133, 392, 393, 394, 395, 224, 225, 226, 227, 202, 203, 204, 205, 56, 206, 207, 208, 209, 134, 135, 136, 137, 889, 890, 891, 892, 893, 894, 895, 896, 897, 898, 899, 900, 901, 902, 903, 904, 905, 906, 907, 908, 909] (by decide +kernel) (by decide +kernel)
set_option maxRecDepth 20000 in
theorem gL_law_X7_plateByAmount : GoodIn wsL_law (wsV RL 156 RX7 yX7_plateByAmount wsX7_plateByAmount) := goodIn_app (goodIn_of _ (by decide +kernel)) ggL_law_X7_plateByAmount
set_option maxRecDepth 20000 in
theorem ggL_law_X6_commonParts : GoodIn wsL_law wsX6_commonParts := goodIn_r _ [399, 14, 400, 190, 120, 121, 88, 122, 123, 95, 96, 97, 98, 401, 93, 94, 882, 883, 884, 885, 886, 887, 888] (by decide +kernel) (by decide +kernel)
set_option maxRecDepth 20000 in
theorem gL_law_X6_commonParts : GoodIn wsL_law (wsV RL 157 RX6 yX6_commonParts wsX6_commonParts) := goodIn_app (goodIn_of _ (by decide +kernel)) ggL_law_X6_commonParts
set_option maxRecDepth 20000 in
theorem ggL_law_X7_commonParts : GoodIn wsL_law wsX7_commonParts := goodIn_r _ [405, 64, 406, 407, 206, 207, 208, 5, 209, 56, 157, 158, 159, 889, 890, 891, 892, 893, 894, 895, 896, 897, 898, 899, 900, 901, 902, 903, 904, 905, 906, 907, 908, 909] (by decide +kernel) (by decide +kernel)
set_option maxRecDepth 20000 in
theorem gL_law_X7_commonParts : GoodIn wsL_law (wsV RL 161 RX7 yX7_commonParts wsX7_commonParts) := goodIn_app (goodIn_of _ (by decide +kernel)) ggL_law_X7_commonParts
set_option maxRecDepth 20000 in
theorem ggL_law_X6_differentFractions : GoodIn wsL_law wsX6_differentFractions := goodIn_r _ [411, 412, 413, 414, 2, 415, 14, 882, 883, 884, 885, 886, 887, 888] (by decide +kernel) (by decide +kernel)
set_option maxRecDepth 20000 in
theorem gL_law_X6_differentFractions : GoodIn wsL_law (wsV RL 162 RX6 yX6_differentFractions wsX6_differentFractions) := goodIn_app (goodIn_of _ (by decide +kernel)) ggL_law_X6_differentFractions
set_option maxRecDepth 20000 in
theorem ggL_law_X7_differentFractions : GoodIn wsL_law wsX7_differentFractions := goodIn_r _ [419, 64, 224, 225, 226, 5, 227, 202, 203, 204, 205, 56, 206, 207, 208, 209, 889, 890, 891, 892, 893, 894, 895, 896, 897, 898, 899, 900, 901, 902, 903, 904, 905, 906, 907, 908, 909] (by decide +kernel) (by decide +kernel)
set_option maxRecDepth 20000 in
theorem gL_law_X7_differentFractions : GoodIn wsL_law (wsV RL 165 RX7 yX7_differentFractions wsX7_differentFractions) := goodIn_app (goodIn_of _ (by decide +kernel)) ggL_law_X7_differentFractions
set_option maxRecDepth 20000 in
theorem ggL_law_L_termCount : GoodIn wsL_law wsL_termCount := goodIn_ca (goodIn_r _ [422, 69, 423, 424, 425, 2, 426, 18, 14, 78, 79, 80, 81, 82, 83, 84, 85, 302, 303, 304, 17, 305, 306, 38, 39, 307, 180, 88, 181, 308, 121, 122, 123, 95, 96, 97, 98, 309, 310, 311, 312, 313, 100, 101, 427, 428, 429, 430, 882, 883, 884, 885, 886, 887, 888, 910, 911, 912] (by decide +kernel) (by decide +kernel)) (goodIn_sub (fun _ h => List.mem_append_left _ (List.mem_append_right _ h)) (by decide +kernel))
set_option maxRecDepth 20000 in
theorem gL_law_L_termCount : GoodIn wsL_law (va_wsS RL 166 yL_termCount wsL_termCount) := goodIn_app (goodIn_of _ (by decide +kernel)) ggL_law_L_termCount
set_option maxRecDepth 20000 in
theorem ggL_law_X7_termCount : GoodIn wsL_law wsX7_termCount := goodIn_r _ [434, 64, 128, 129, 5, 130, 131, 132, 133, 435, 436, 437, 438, 439, 440, 441, 442, 443, 62, 202, 203, 204, 205, 56, 206, 207, 208, 209, 134, 135, 136, 137, 889, 890, 891, 892, 893, 894, 895, 896, 897, 898, 899, 900, 901, 902, 903, 904, 905, 906, 907, 908, 909] (by decide +kernel) (by decide +kernel)
set_option maxRecDepth 20000 in
theorem gL_law_X7_termCount : GoodIn wsL_law (wsV RL 168 RX7 yX7_termCount wsX7_termCount) := goodIn_app (goodIn_of _ (by decide +kernel)) ggL_law_X7_termCount
set_option maxRecDepth 20000 in
theorem ggL_law_L_termAt : GoodIn wsL_law wsL_termAt := goodIn_ca (goodIn_r _ [446, 69, 447, 448, 449, 2, 450, 18, 451, 452, 453, 454, 81, 82, 14, 78, 79, 80, 83, 84, 85, 302, 303, 304, 17, 305, 306, 38, 39, 307, 180, 88, 181, 308, 121, 122, 123, 95, 96, 97, 98, 309, 310, 311, 312, 313, 100, 101, 427, 428, 429, 430, 455, 456, 457, 458, 882, 883, 884, 885, 886, 887, 888, 910, 911, 912] (by decide +kernel) (by decide +kernel)) (goodIn_sub (fun _ h => List.mem_append_left _ (List.mem_append_right _ h)) (by decide +kernel))
set_option maxRecDepth 20000 in
theorem gL_law_L_termAt : GoodIn wsL_law (va_wsS RL 169 yL_termAt wsL_termAt) := goodIn_app (goodIn_of _ (by decide +kernel)) ggL_law_L_termAt
set_option maxRecDepth 20000 in
theorem ggL_law_X7_termAt : GoodIn wsL_law wsX7_termAt := goodIn_r _ [462, 64, 62, 463, 464, 465, 5, 466, 439, 128, 129, 130, 131, 132, 133, 440, 441, 442, 443, 202, 203, 204, 205, 56, 206, 207, 208, 209, 134, 135, 136, 137, 889, 890, 891, 892, 893, 894, 895, 896, 897, 898, 899, 900, 901, 902, 903, 904, 905, 906, 907, 908, 909] (by decide +kernel) (by decide +kernel)
set_option maxRecDepth 20000 in
theorem gL_law_X7_termAt : GoodIn wsL_law (wsV RL 171 RX7 yX7_termAt wsX7_termAt) := goodIn_app (goodIn_of _ (by decide +kernel)) ggL_law_X7_termAt
set_option maxRecDepth 20000 in
theorem ggL_law_L_beginningNumerator : GoodIn wsL_law wsL_beginningNumerator := goodIn_ca (goodIn_r _ [469, 69, 470, 471, 472, 2, 473, 18, 451, 452, 453, 454, 81, 82, 14, 78, 79, 80, 83, 84, 85, 302, 303, 304, 17, 305, 306, 38, 39, 307, 180, 88, 181, 308, 121, 122, 123, 95, 96, 97, 98, 309, 310, 311, 312, 313, 100, 101, 427, 428, 429, 430, 474, 475, 476, 477, 272, 882, 883, 884, 885, 886, 887, 888, 910, 911, 912] (by decide +kernel) (by decide +kernel)) (goodIn_sub (fun _ h => List.mem_append_left _ (List.mem_append_right _ h)) (by decide +kernel))
set_option maxRecDepth 20000 in
theorem gL_law_L_beginningNumerator : GoodIn wsL_law (va_wsS RL 172 yL_beginningNumerator wsL_beginningNumerator) := goodIn_app (goodIn_of _ (by decide +kernel)) ggL_law_L_beginningNumerator
set_option maxRecDepth 20000 in
theorem ggL_law_X7_beginningNumerator : GoodIn wsL_law wsX7_beginningNumerator := goodIn_r _ [481, 64, 154, 463, 464, 465, 5, 466, 439, 128, 129, 130, 131, 132, 133, 440, 441, 442, 443, 62, 202, 203, 204, 205, 56, 206, 207, 208, 209, 134, 135, 136, 137, 482, 483, 484, 485, 155, 889, 890, 891, 892, 893, 894, 895, 896, 897, 898, 899, 900, 901, 902, 903, 904, 905, 906, 907, 908, 909] (by decide +kernel) (by decide +kernel)
set_option maxRecDepth 20000 in
theorem gL_law_X7_beginningNumerator : GoodIn wsL_law (wsV RL 174 RX7 yX7_beginningNumerator wsX7_beginningNumerator) := goodIn_app (goodIn_of _ (by decide +kernel)) ggL_law_X7_beginningNumerator
set_option maxRecDepth 20000 in
theorem ggL_law_L_beginningDenominator : GoodIn wsL_law wsL_beginningDenominator := goodIn_ca (goodIn_r _ [488, 69, 489, 490, 491, 2, 492, 18, 451, 452, 453, 454, 81, 82, 14, 78, 79, 80, 83, 84, 85, 302, 303, 304, 17, 305, 306, 38, 39, 307, 180, 88, 181, 308, 121, 122, 123, 95, 96, 97, 98, 309, 310, 311, 312, 313, 100, 101, 427, 428, 429, 430, 474, 475, 476, 477, 120, 882, 883, 884, 885, 886, 887, 888, 910, 911, 912] (by decide +kernel) (by decide +kernel)) (goodIn_sub (fun _ h => List.mem_append_left _ (List.mem_append_right _ h)) (by decide +kernel))
set_option maxRecDepth 20000 in
theorem gL_law_L_beginningDenominator : GoodIn wsL_law (va_wsS RL 175 yL_beginningDenominator wsL_beginningDenominator) := goodIn_app (goodIn_of _ (by decide +kernel)) ggL_law_L_beginningDenominator
set_option maxRecDepth 20000 in
theorem ggL_law_X7_beginningDenominator : GoodIn wsL_law wsX7_beginningDenominator := goodIn_r _ [496, 64, 155, 463, 464, 465, 5, 466, 439, 128, 129, 130, 131, 132, 133, 440, 441, 442, 443, 62, 202, 203, 204, 205, 56, 206, 207, 208, 209, 134, 135, 136, 137, 482, 483, 484, 485, 154, 889, 890, 891, 892, 893, 894, 895, 896, 897, 898, 899, 900, 901, 902, 903, 904, 905, 906, 907, 908, 909] (by decide +kernel) (by decide +kernel)
set_option maxRecDepth 20000 in
theorem gL_law_X7_beginningDenominator : GoodIn wsL_law (wsV RL 177 RX7 yX7_beginningDenominator wsX7_beginningDenominator) := goodIn_app (goodIn_of _ (by decide +kernel)) ggL_law_X7_beginningDenominator
set_option maxRecDepth 20000 in
theorem ggL_law_L_nearestDenominator : GoodIn wsL_law wsL_nearestDenominator := goodIn_ca (goodIn_ca (goodIn_r _ [499, 69, 70, 500, 501, 502, 2, 503, 295, 296, 297, 298, 18, 14, 78, 79, 80, 81, 82, 83, 84, 85, 299, 300, 301, 75, 76, 302, 303, 304, 17, 305, 306, 38, 39, 307, 180, 88, 181, 308, 121, 122, 123, 95, 96, 97, 98, 309, 310, 311, 312, 313, 100, 101, 314, 315, 316, 317, 318, 319, 320, 321, 322, 323, 324, 325, 326, 179, 182, 120, 882, 883, 884, 885, 886, 887, 888, 910, 911, 912] (by decide +kernel) (by decide +kernel)) (goodIn_sub (fun _ h => List.mem_append_left _ (List.mem_append_right _ h)) (by decide +kernel))) (goodIn_sub (fun _ h => List.mem_append_left _ (List.mem_append_left _ (List.mem_append_right _ h))) (by decide +kernel))
set_option maxRecDepth 20000 in
theorem gL_law_L_nearestDenominator : GoodIn wsL_law (va_wsS RL 178 yL_nearestDenominator wsL_nearestDenominator) := goodIn_app (goodIn_of _ (by decide +kernel)) ggL_law_L_nearestDenominator
set_option maxRecDepth 20000 in
theorem ggL_law_X7_nearestDenominator : GoodIn wsL_law wsX7_nearestDenominator := goodIn_r _ [507, 332, 508, 509, 510, 5, 511, 64, 128, 129, 130, 131, 132, 133, 333, 334, 335, 336, 337, 338, 339, 340, 331, 202, 203, 204, 205, 56, 206, 207, 208, 209, 889, 890, 891, 892, 893, 894, 895, 896, 897, 898, 899, 900, 901, 902, 903, 904, 905, 906, 907, 908, 909] (by decide +kernel) (by decide +kernel)
set_option maxRecDepth 20000 in
theorem gL_law_X7_nearestDenominator : GoodIn wsL_law (wsV RL 180 RX7 yX7_nearestDenominator wsX7_nearestDenominator) := goodIn_app (goodIn_of _ (by decide +kernel)) ggL_law_X7_nearestDenominator
set_option maxRecDepth 20000 in
theorem ggL_law_L_nearestByTrying : GoodIn wsL_law wsL_nearestByTrying := goodIn_ca (goodIn_ca (goodIn_r _ [514, 69, 70, 515, 516, 517, 2, 518, 14, 78, 79, 80, 81, 82, 83, 84, 85, 299, 300, 301, 75, 76, 519, 520, 521, 522, 523, 88, 524, 525, 526, 97, 527, 179, 180, 181, 182, 121, 122, 123, 95, 96, 98, 882, 883, 884, 885, 886, 887, 888] (by decide +kernel) (by decide +kernel)) (goodIn_sub (fun _ h => List.mem_append_left _ (List.mem_append_right _ h)) (by decide +kernel))) (goodIn_sub (fun _ h => List.mem_append_left _ (List.mem_append_left _ (List.mem_append_right _ h))) (by decide +kernel))
set_option maxRecDepth 20000 in
theorem gL_law_L_nearestByTrying : GoodIn wsL_law (va_wsS RL 181 yL_nearestByTrying wsL_nearestByTrying) := goodIn_app (goodIn_of _ (by decide +kernel)) ggL_law_L_nearestByTrying
set_option maxRecDepth 20000 in
theorem ggL_law_X7_nearestByTrying : GoodIn wsL_law wsX7_nearestByTrying := goodIn_r _ [531, 332, 508, 509, 510, 5, 511, 64, 128, 129, 130, 131, 132, 133, 333, 334, 335, 336, 337, 338, 339, 340, 331, 202, 203, 204, 205, 56, 206, 207, 208, 209, 889, 890, 891, 892, 893, 894, 895, 896, 897, 898, 899, 900, 901, 902, 903, 904, 905, 906, 907, 908, 909] (by decide +kernel) (by decide +kernel)
set_option maxRecDepth 20000 in
theorem gL_law_X7_nearestByTrying : GoodIn wsL_law (wsV RL 183 RX7 yX7_nearestByTrying wsX7_nearestByTrying) := goodIn_app (goodIn_of _ (by decide +kernel)) ggL_law_X7_nearestByTrying
set_option maxRecDepth 20000 in
theorem ggL_law_L_nearestNumerator : GoodIn wsL_law wsL_nearestNumerator := goodIn_ca (goodIn_ca (goodIn_r _ [534, 69, 70, 535, 536, 537, 2, 538, 295, 296, 297, 298, 18, 14, 78, 79, 80, 81, 82, 83, 84, 85, 299, 300, 301, 75, 76, 302, 303, 304, 17, 305, 306, 38, 39, 307, 180, 88, 181, 308, 121, 122, 123, 95, 96, 97, 98, 309, 310, 311, 312, 313, 100, 101, 314, 315, 316, 317, 318, 319, 320, 321, 322, 323, 324, 325, 326, 179, 182, 272, 882, 883, 884, 885, 886, 887, 888, 910, 911, 912] (by decide +kernel) (by decide +kernel)) (goodIn_sub (fun _ h => List.mem_append_left _ (List.mem_append_right _ h)) (by decide +kernel))) (goodIn_sub (fun _ h => List.mem_append_left _ (List.mem_append_left _ (List.mem_append_right _ h))) (by decide +kernel))
set_option maxRecDepth 20000 in
theorem gL_law_L_nearestNumerator : GoodIn wsL_law (va_wsS RL 184 yL_nearestNumerator wsL_nearestNumerator) := goodIn_app (goodIn_of _ (by decide +kernel)) ggL_law_L_nearestNumerator
set_option maxRecDepth 20000 in
theorem ggL_law_X7_nearestNumerator : GoodIn wsL_law wsX7_nearestNumerator := goodIn_r _ [542, 331, 508, 509, 510, 5, 511, 64, 128, 129, 130, 131, 132, 133, 333, 334, 335, 336, 337, 338, 339, 340, 332, 202, 203, 204, 205, 56, 206, 207, 208, 209, 889, 890, 891, 892, 893, 894, 895, 896, 897, 898, 899, 900, 901, 902, 903, 904, 905, 906, 907, 908, 909] (by decide +kernel) (by decide +kernel)
set_option maxRecDepth 20000 in
theorem gL_law_X7_nearestNumerator : GoodIn wsL_law (wsV RL 186 RX7 yX7_nearestNumerator wsX7_nearestNumerator) := goodIn_app (goodIn_of _ (by decide +kernel)) ggL_law_X7_nearestNumerator
set_option maxRecDepth 20000 in
theorem ggL_law_L_unitCount : GoodIn wsL_law wsL_unitCount := goodIn_ca (goodIn_ca (goodIn_r _ [545, 69, 171, 546, 547, 548, 2, 549, 14, 78, 79, 80, 81, 82, 83, 84, 85, 550, 551, 552, 553, 188, 189, 554, 370, 371, 88, 372, 179, 180, 181, 182, 121, 122, 123, 95, 96, 97, 98, 555, 556, 557, 558, 559, 560, 561, 562, 563, 564, 565, 882, 883, 884, 885, 886, 887, 888] (by decide +kernel) (by decide +kernel)) (goodIn_sub (fun _ h => List.mem_append_left _ (List.mem_append_right _ h)) (by decide +kernel))) (goodIn_sub (fun _ h => List.mem_append_right _ h) (by decide +kernel))
set_option maxRecDepth 20000 in
theorem gL_law_L_unitCount : GoodIn wsL_law (va_wsS RL 187 yL_unitCount wsL_unitCount) := goodIn_app (goodIn_of _ (by decide +kernel)) ggL_law_L_unitCount
set_option maxRecDepth 20000 in
theorem ggL_law_X7_unitCount : GoodIn wsL_law wsX7_unitCount := goodIn_r _ [569, 64, 570, 571, 128, 129, 5, 130, 131, 132, 133, 134, 135, 136, 137, 572, 573, 574, 575, 202, 203, 204, 205, 56, 206, 207, 208, 209, 576, 577, 578, 579, 580, 63, 581, 157, 158, 159, 889, 890, 891, 892, 893, 894, 895, 896, 897, 898, 899, 900, 901, 902, 903, 904, 905, 906, 907, 908, 909] (by decide +kernel) (by decide +kernel)
set_option maxRecDepth 20000 in
theorem gL_law_X7_unitCount : GoodIn wsL_law (wsV RL 189 RX7 yX7_unitCount wsX7_unitCount) := goodIn_app (goodIn_of _ (by decide +kernel)) ggL_law_X7_unitCount
set_option maxRecDepth 20000 in
theorem ggL_law_L_unitAt : GoodIn wsL_law wsL_unitAt := goodIn_ca (goodIn_ca (goodIn_r _ [584, 69, 171, 585, 586, 587, 2, 588, 81, 82, 14, 78, 79, 80, 83, 84, 85, 550, 551, 552, 553, 188, 189, 554, 370, 371, 88, 372, 179, 180, 181, 182, 121, 122, 123, 95, 96, 97, 98, 589, 560, 557, 561, 562, 563, 564, 565, 882, 883, 884, 885, 886, 887, 888] (by decide +kernel) (by decide +kernel)) (goodIn_sub (fun _ h => List.mem_append_left _ (List.mem_append_right _ h)) (by decide +kernel))) (goodIn_sub (fun _ h => List.mem_append_right _ h) (by decide +kernel))
set_option maxRecDepth 20000 in
theorem gL_law_L_unitAt : GoodIn wsL_law (va_wsS RL 190 yL_unitAt wsL_unitAt) := goodIn_app (goodIn_of _ (by decide +kernel)) ggL_law_L_unitAt
set_option maxRecDepth 20000 in
theorem ggL_law_X7_unitAt : GoodIn wsL_law wsX7_unitAt := goodIn_r _ [593, 64, 571, 63, 128, 129, 5, 130, 131, 132, 133, 134, 135, 136, 137, 572, 573, 574, 575, 202, 203, 204, 205, 56, 206, 207, 208, 209, 576, 577, 578, 579, 570, 580, 581, 157, 158, 159, 889, 890, 891, 892, 893, 894, 895, 896, 897, 898, 899, 900, 901, 902, 903, 904, 905, 906, 907, 908, 909] (by decide +kernel) (by decide +kernel)
set_option maxRecDepth 20000 in
theorem gL_law_X7_unitAt : GoodIn wsL_law (wsV RL 192 RX7 yX7_unitAt wsX7_unitAt) := goodIn_app (goodIn_of _ (by decide +kernel)) ggL_law_X7_unitAt
set_option maxRecDepth 20000 in
theorem ggL_law_L_waySteps : GoodIn wsL_law wsL_waySteps := goodIn_ca (goodIn_ca (goodIn_r _ [596, 69, 171, 597, 598, 599, 2, 600, 18, 14, 268, 269, 270, 271, 188, 189, 78, 79, 80, 81, 82, 83, 84, 85, 302, 303, 304, 17, 305, 306, 38, 39, 307, 180, 88, 181, 308, 121, 122, 123, 95, 96, 97, 98, 309, 310, 311, 312, 313, 100, 101, 601, 602, 603, 604, 882, 883, 884, 885, 886, 887, 888, 910, 911, 912] (by decide +kernel) (by decide +kernel)) (goodIn_sub (fun _ h => List.mem_append_right _ h) (by decide +kernel))) (goodIn_sub (fun _ h => List.mem_append_left _ (List.mem_append_right _ h)) (by decide +kernel))
set_option maxRecDepth 20000 in
theorem gL_law_L_waySteps : GoodIn wsL_law (va_wsS RL 193 yL_waySteps wsL_waySteps) := goodIn_app (goodIn_of _ (by decide +kernel)) ggL_law_L_waySteps
set_option maxRecDepth 20000 in
theorem ggL_law_X7_waySteps : GoodIn wsL_law wsX7_waySteps := goodIn_r _ [608, 64, 128, 129, 5, 130, 131, 132, 133, 134, 135, 136, 137, 202, 203, 204, 205, 56, 609, 610, 611, 612, 439, 62, 440, 441, 442, 443, 206, 207, 208, 209, 889, 890, 891, 892, 893, 894, 895, 896, 897, 898, 899, 900, 901, 902, 903, 904, 905, 906, 907, 908, 909] (by decide +kernel) (by decide +kernel)
set_option maxRecDepth 20000 in
theorem gL_law_X7_waySteps : GoodIn wsL_law (wsV RL 195 RX7 yX7_waySteps wsX7_waySteps) := goodIn_app (goodIn_of _ (by decide +kernel)) ggL_law_X7_waySteps
set_option maxRecDepth 20000 in
theorem ggL_law_L_wayTurns : GoodIn wsL_law wsL_wayTurns := goodIn_ca (goodIn_ca (goodIn_r _ [615, 69, 171, 616, 617, 618, 2, 619, 18, 14, 268, 269, 270, 271, 188, 189, 78, 79, 80, 81, 82, 83, 84, 85, 302, 303, 304, 17, 305, 306, 38, 39, 307, 180, 88, 181, 308, 121, 122, 123, 95, 96, 97, 98, 309, 310, 311, 312, 313, 100, 101, 455, 456, 457, 458, 427, 428, 429, 430, 882, 883, 884, 885, 886, 887, 888, 910, 911, 912] (by decide +kernel) (by decide +kernel)) (goodIn_sub (fun _ h => List.mem_append_right _ h) (by decide +kernel))) (goodIn_sub (fun _ h => List.mem_append_left _ (List.mem_append_right _ h)) (by decide +kernel))
set_option maxRecDepth 20000 in
theorem gL_law_L_wayTurns : GoodIn wsL_law (va_wsS RL 196 yL_wayTurns wsL_wayTurns) := goodIn_app (goodIn_of _ (by decide +kernel)) ggL_law_L_wayTurns
set_option maxRecDepth 20000 in
theorem ggL_law_X7_wayTurns : GoodIn wsL_law wsX7_wayTurns := goodIn_r _ [623, 64, 128, 129, 5, 130, 131, 132, 133, 134, 135, 136, 137, 202, 203, 204, 205, 56, 624, 625, 626, 627, 439, 62, 440, 441, 442, 443, 206, 207, 208, 209, 889, 890, 891, 892, 893, 894, 895, 896, 897, 898, 899, 900, 901, 902, 903, 904, 905, 906, 907, 908, 909] (by decide +kernel) (by decide +kernel)
set_option maxRecDepth 20000 in
theorem gL_law_X7_wayTurns : GoodIn wsL_law (wsV RL 198 RX7 yX7_wayTurns wsX7_wayTurns) := goodIn_app (goodIn_of _ (by decide +kernel)) ggL_law_X7_wayTurns
set_option maxRecDepth 20000 in
theorem ggL_law_L_beginsRight : GoodIn wsL_law wsL_beginsRight := goodIn_ca (goodIn_ca (goodIn_r _ [630, 69, 171, 631, 632, 633, 2, 634, 14, 554, 268, 269, 270, 271, 188, 189, 78, 79, 80, 81, 82, 83, 84, 85, 370, 371, 88, 372, 179, 180, 181, 182, 121, 122, 123, 95, 96, 97, 98, 882, 883, 884, 885, 886, 887, 888] (by decide +kernel) (by decide +kernel)) (goodIn_sub (fun _ h => List.mem_append_right _ h) (by decide +kernel))) (goodIn_sub (fun _ h => List.mem_append_left _ (List.mem_append_right _ h)) (by decide +kernel))
set_option maxRecDepth 20000 in
theorem gL_law_L_beginsRight : GoodIn wsL_law (va_wsS RL 199 yL_beginsRight wsL_beginsRight) := goodIn_app (goodIn_of _ (by decide +kernel)) ggL_law_L_beginsRight
set_option maxRecDepth 20000 in
theorem ggL_law_X7_beginsRight : GoodIn wsL_law wsX7_beginsRight := goodIn_r _ [638, 64, 128, 129, 5, 130, 131, 132, 133, 134, 135, 136, 137, 202, 203, 204, 205, 56, 206, 207, 208, 209, 889, 890, 891, 892, 893, 894, 895, 896, 897, 898, 899, 900, 901, 902, 903, 904, 905, 906, 907, 908, 909] (by decide +kernel) (by decide +kernel)
set_option maxRecDepth 20000 in
theorem gL_law_X7_beginsRight : GoodIn wsL_law (wsV RL 201 RX7 yX7_beginsRight wsX7_beginsRight) := goodIn_app (goodIn_of _ (by decide +kernel)) ggL_law_X7_beginsRight
set_option maxRecDepth 20000 in
theorem ggL_law_L_appendText : GoodIn wsL_law wsL_appendText := goodIn_ca (goodIn_ca (goodIn_r _ [641, 70, 171, 642, 643, 644, 2, 645, 75, 76, 188, 189, 22, 646, 647, 21, 648, 649, 650, 651, 652, 653, 654, 655, 656, 657, 658, 44, 659, 660, 661, 662, 882, 883, 884, 885, 886, 887, 888, 913, 914] (by decide +kernel) (by decide +kernel)) (goodIn_sub (fun _ h => List.mem_append_left _ (List.mem_append_left _ (List.mem_append_right _ h))) (by decide +kernel))) (goodIn_sub (fun _ h => List.mem_append_right _ h) (by decide +kernel))
set_option maxRecDepth 20000 in
theorem gL_law_L_appendText : GoodIn wsL_law (va_wsS RL 204 yL_appendText wsL_appendText) := goodIn_app (goodIn_of _ (by decide +kernel)) ggL_law_L_appendText
set_option maxRecDepth 20000 in
theorem ggL_law_X7_appendText : GoodIn wsL_law wsX7_appendText := goodIn_r _ [666, 64, 667, 668, 60, 131, 132, 5, 133, 134, 135, 136, 137, 889, 890, 891, 892, 893, 894, 895, 896, 897, 898, 899, 900, 901, 902, 903, 904, 905, 906, 907, 908, 909] (by decide +kernel) (by decide +kernel)
set_option maxRecDepth 20000 in
theorem gL_law_X7_appendText : GoodIn wsL_law (wsV RL 207 RX7 yX7_appendText wsX7_appendText) := goodIn_app (goodIn_of _ (by decide +kernel)) ggL_law_X7_appendText
set_option maxRecDepth 20000 in
theorem ggL_law_X6_clearText : GoodIn wsL_law wsX6_clearText := goodIn_r _ [672, 22, 659, 660, 661, 21, 662, 654, 673, 674, 675, 676, 882, 883, 884, 885, 886, 887, 888, 913, 914] (by decide +kernel) (by decide +kernel)
set_option maxRecDepth 20000 in
theorem gL_law_X6_clearText : GoodIn wsL_law (wsV RL 208 RX6 yX6_clearText wsX6_clearText) := goodIn_app (goodIn_of _ (by decide +kernel)) ggL_law_X6_clearText
set_option maxRecDepth 20000 in
theorem ggL_law_X7_clearText : GoodIn wsL_law wsX7_clearText := goodIn_r _ [680, 64, 668, 889, 890, 891, 892, 893, 894, 895, 896, 897, 898, 899, 900, 901, 902, 903, 904, 905, 906, 907, 908, 909] (by decide +kernel) (by decide +kernel)
set_option maxRecDepth 20000 in
theorem gL_law_X7_clearText : GoodIn wsL_law (wsV RL 211 RX7 yX7_clearText wsX7_clearText) := goodIn_app (goodIn_of _ (by decide +kernel)) ggL_law_X7_clearText
set_option maxRecDepth 20000 in
theorem ggL_law_X6_textLength : GoodIn wsL_law wsX6_textLength := goodIn_r _ [684, 22, 659, 660, 661, 21, 662, 654, 882, 883, 884, 885, 886, 887, 888, 913, 914] (by decide +kernel) (by decide +kernel)
set_option maxRecDepth 20000 in
theorem gL_law_X6_textLength : GoodIn wsL_law (wsV RL 212 RX6 yX6_textLength wsX6_textLength) := goodIn_app (goodIn_of _ (by decide +kernel)) ggL_law_X6_textLength
set_option maxRecDepth 20000 in
theorem ggL_law_X7_textLength : GoodIn wsL_law wsX7_textLength := goodIn_r _ [688, 64, 668, 889, 890, 891, 892, 893, 894, 895, 896, 897, 898, 899, 900, 901, 902, 903, 904, 905, 906, 907, 908, 909] (by decide +kernel) (by decide +kernel)
set_option maxRecDepth 20000 in
theorem gL_law_X7_textLength : GoodIn wsL_law (wsV RL 215 RX7 yX7_textLength wsX7_textLength) := goodIn_app (goodIn_of _ (by decide +kernel)) ggL_law_X7_textLength
set_option maxRecDepth 20000 in
theorem ggL_law_X6_textError : GoodIn wsL_law wsX6_textError := goodIn_r _ [692, 26, 22, 693, 694, 695, 25, 696, 697, 659, 660, 661, 21, 662, 654, 698, 699, 700, 701, 44, 702, 703, 704, 705, 706, 707, 708, 709, 710, 711, 712, 713, 714, 715, 716, 717, 718, 719, 720, 721, 722, 723, 724, 725, 726, 727, 728, 729, 730, 731, 732, 733, 734, 735, 736, 737, 738, 739, 740, 741, 742, 743, 744, 745, 746, 747, 748, 749, 882, 883, 884, 885, 886, 887, 888, 915, 916, 917, 918, 919, 920, 913, 914] (by decide +kernel) (by decide +kernel)
set_option maxRecDepth 20000 in
theorem gL_law_X6_textError : GoodIn wsL_law (wsV RL 216 RX6 yX6_textError wsX6_textError) := goodIn_app (goodIn_of _ (by decide +kernel)) ggL_law_X6_textError
set_option maxRecDepth 20000 in
theorem ggL_law_X7_textError : GoodIn wsL_law wsX7_textError := goodIn_r _ [753, 64, 754, 755, 756, 757, 5, 758, 759, 760, 668, 761, 762, 763, 764, 61, 765, 766, 767, 768, 60, 769, 770, 771, 772, 131, 132, 133, 773, 774, 775, 776, 889, 890, 891, 892, 893, 894, 895, 896, 897, 898, 899, 900, 901, 902, 903, 904, 905, 906, 907, 908, 909] (by decide +kernel) (by decide +kernel)
set_option maxRecDepth 20000 in
theorem gL_law_X7_textError : GoodIn wsL_law (wsV RL 219 RX7 yX7_textError wsX7_textError) := goodIn_app (goodIn_of _ (by decide +kernel)) ggL_law_X7_textError
set_option maxRecDepth 20000 in
theorem ggL_law_L_runText : GoodIn wsL_law wsL_runText := goodIn_ca (goodIn_r _ [779, 171, 780, 781, 782, 2, 783, 188, 189, 30, 14, 22, 784, 690, 691, 692, 26, 693, 694, 695, 25, 696, 697, 659, 660, 661, 21, 662, 654, 698, 699, 700, 701, 44, 702, 703, 704, 705, 706, 707, 708, 709, 710, 711, 712, 713, 714, 715, 716, 717, 718, 719, 720, 721, 722, 723, 724, 725, 726, 727, 728, 729, 730, 731, 732, 733, 734, 735, 736, 737, 738, 739, 740, 741, 742, 743, 744, 745, 746, 747, 748, 749, 106, 107, 108, 29, 109, 51, 110, 111, 112, 113, 114, 115, 116, 117, 118, 119, 785, 786, 787, 788, 789, 790, 791, 792, 793, 794, 795, 796, 797, 798, 799, 800, 801, 802, 803, 804, 805, 806, 807, 808, 86, 87, 88, 89, 90, 91, 92, 93, 94, 95, 96, 97, 98, 99, 100, 101, 83, 84, 85, 809, 810, 811, 812, 190, 176, 177, 178, 179, 180, 181, 182, 121, 122, 123, 183, 217, 218, 219, 235, 236, 237, 673, 674, 675, 676, 882, 883, 884, 885, 886, 887, 888, 915, 916, 917, 918, 919, 920, 913, 914, 921, 922, 923] (by decide +kernel) (by decide +kernel)) (goodIn_sub (fun _ h => List.mem_append_right _ h) (by decide +kernel))
set_option maxRecDepth 20000 in
theorem gL_law_L_runText : GoodIn wsL_law (va_wsS RL 220 yL_runText wsL_runText) := goodIn_app (goodIn_of _ (by decide +kernel)) ggL_law_L_runText
set_option maxRecDepth 20000 in
theorem ggL_law_X7_runText : GoodIn wsL_law wsX7_runText := goodIn_r _ [816, 64, 668, 759, 61, 755, 756, 757, 5, 758, 754, 760, 761, 762, 763, 764, 765, 766, 767, 768, 60, 769, 770, 771, 772, 131, 132, 133, 773, 774, 775, 776, 134, 135, 136, 137, 145, 146, 147, 148, 149, 57, 56, 817, 818, 819, 820, 128, 129, 130, 142, 143, 144, 141, 150, 151, 152, 153, 154, 155, 156, 157, 158, 159, 195, 196, 197, 198, 199, 200, 201, 202, 203, 204, 205, 206, 207, 208, 209, 224, 225, 226, 227, 242, 243, 244, 245, 257, 258, 259, 260, 160, 161, 162, 163, 889, 890, 891, 892, 893, 894, 895, 896, 897, 898, 899, 900, 901, 902, 903, 904, 905, 906, 907, 908, 909] (by decide +kernel) (by decide +kernel)
set_option maxRecDepth 20000 in
theorem gL_law_X7_runText : GoodIn wsL_law (wsV RL 223 RX7 yX7_runText wsX7_runText) := goodIn_app (goodIn_of _ (by decide +kernel)) ggL_law_X7_runText
set_option maxRecDepth 20000 in
theorem ggL_law_L_undo : GoodIn wsL_law wsL_undo := goodIn_ca (goodIn_r _ [823, 171, 824, 825, 826, 2, 827, 188, 189, 30, 14, 828, 829, 830, 29, 831, 110, 832, 833, 834, 835, 51, 111, 112, 113, 114, 116, 117, 118, 119, 115, 882, 883, 884, 885, 886, 887, 888, 921, 922, 923] (by decide +kernel) (by decide +kernel)) (goodIn_sub (fun _ h => List.mem_append_right _ h) (by decide +kernel))
set_option maxRecDepth 20000 in
theorem gL_law_L_undo : GoodIn wsL_law (va_wsS RL 224 yL_undo wsL_undo) := goodIn_app (goodIn_of _ (by decide +kernel)) ggL_law_L_undo
set_option maxRecDepth 20000 in
theorem ggL_law_X7_undo : GoodIn wsL_law wsX7_undo := goodIn_r _ [839, 64, 149, 56, 57, 134, 135, 136, 5, 137, 889, 890, 891, 892, 893, 894, 895, 896, 897, 898, 899, 900, 901, 902, 903, 904, 905, 906, 907, 908, 909] (by decide +kernel) (by decide +kernel)
set_option maxRecDepth 20000 in
theorem gL_law_X7_undo : GoodIn wsL_law (wsV RL 226 RX7 yX7_undo wsX7_undo) := goodIn_app (goodIn_of _ (by decide +kernel)) ggL_law_X7_undo
set_option maxRecDepth 20000 in
theorem ggL_law_X6_undoCount : GoodIn wsL_law wsX6_undoCount := goodIn_r _ [843, 30, 828, 829, 830, 29, 831, 110, 882, 883, 884, 885, 886, 887, 888, 921, 922, 923] (by decide +kernel) (by decide +kernel)
set_option maxRecDepth 20000 in
theorem gL_law_X6_undoCount : GoodIn wsL_law (wsV RL 227 RX6 yX6_undoCount wsX6_undoCount) := goodIn_app (goodIn_of _ (by decide +kernel)) ggL_law_X6_undoCount
set_option maxRecDepth 20000 in
theorem ggL_law_X7_undoCount : GoodIn wsL_law wsX7_undoCount := goodIn_r _ [847, 64, 149, 889, 890, 891, 892, 893, 894, 895, 896, 897, 898, 899, 900, 901, 902, 903, 904, 905, 906, 907, 908, 909] (by decide +kernel) (by decide +kernel)
set_option maxRecDepth 20000 in
theorem gL_law_X7_undoCount : GoodIn wsL_law (wsV RL 230 RX7 yX7_undoCount wsX7_undoCount) := goodIn_app (goodIn_of _ (by decide +kernel)) ggL_law_X7_undoCount
set_option maxRecDepth 20000 in
theorem ggL_law_L_saveState : GoodIn wsL_law wsL_saveState := goodIn_ca (goodIn_r _ [850, 69, 851, 852, 853, 2, 854, 14, 31, 855, 112, 113, 114, 33, 856, 857, 858, 81, 82, 859, 860, 861, 862, 882, 883, 884, 885, 886, 887, 888] (by decide +kernel) (by decide +kernel)) (goodIn_sub (fun _ h => List.mem_append_left _ (List.mem_append_right _ h)) (by decide +kernel))
set_option maxRecDepth 20000 in
theorem gL_law_L_saveState : GoodIn wsL_law (va_wsS RL 231 yL_saveState wsL_saveState) := goodIn_app (goodIn_of _ (by decide +kernel)) ggL_law_L_saveState
set_option maxRecDepth 20000 in
theorem ggL_law_X7_saveState : GoodIn wsL_law wsX7_saveState := goodIn_r _ [866, 64, 58, 56, 59, 131, 132, 5, 133, 134, 135, 136, 137, 867, 868, 869, 870, 202, 203, 204, 205, 889, 890, 891, 892, 893, 894, 895, 896, 897, 898, 899, 900, 901, 902, 903, 904, 905, 906, 907, 908, 909] (by decide +kernel) (by decide +kernel)
set_option maxRecDepth 20000 in
theorem gL_law_X7_saveState : GoodIn wsL_law (wsV RL 233 RX7 yX7_saveState wsX7_saveState) := goodIn_app (goodIn_of _ (by decide +kernel)) ggL_law_X7_saveState
set_option maxRecDepth 20000 in
theorem ggL_law_L_loadState : GoodIn wsL_law wsL_loadState := goodIn_ca (goodIn_ca (goodIn_r _ [873, 69, 171, 874, 875, 876, 2, 877, 188, 189, 33, 30, 14, 31, 855, 112, 113, 114, 856, 857, 858, 81, 82, 106, 107, 108, 29, 109, 51, 110, 111, 115, 116, 117, 118, 119, 859, 860, 861, 862, 882, 883, 884, 885, 886, 887, 888, 921, 922, 923] (by decide +kernel) (by decide +kernel)) (goodIn_sub (fun _ h => List.mem_append_right _ h) (by decide +kernel))) (goodIn_sub (fun _ h => List.mem_append_left _ (List.mem_append_right _ h)) (by decide +kernel))
set_option maxRecDepth 20000 in
theorem gL_law_L_loadState : GoodIn wsL_law (va_wsS RL 234 yL_loadState wsL_loadState) := goodIn_app (goodIn_of _ (by decide +kernel)) ggL_law_L_loadState
set_option maxRecDepth 20000 in
theorem ggL_law_X7_loadState : GoodIn wsL_law wsX7_loadState := goodIn_r _ [881, 64, 59, 56, 58, 131, 132, 5, 133, 134, 135, 136, 137, 145, 146, 147, 148, 149, 57, 867, 868, 869, 870, 202, 203, 204, 205, 889, 890, 891, 892, 893, 894, 895, 896, 897, 898, 899, 900, 901, 902, 903, 904, 905, 906, 907, 908, 909] (by decide +kernel) (by decide +kernel)
set_option maxRecDepth 20000 in
theorem gL_law_X7_loadState : GoodIn wsL_law (wsV RL 236 RX7 yX7_loadState wsX7_loadState) := goodIn_app (goodIn_of _ (by decide +kernel)) ggL_law_X7_loadState
