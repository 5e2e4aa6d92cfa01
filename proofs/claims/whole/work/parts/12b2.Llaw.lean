set_option maxRecDepth 20000 in
theorem ggL_law_X6_init : GoodIn wsL_law wsX6_init := goodIn_r _ [9, 10, 11, 12, 13, 14, 15, 16, 17, 18, 19, 20, 21, 22, 23, 24, 25, 26, 27, 28, 29, 30, 31, 32, 33, 34, 35, 36, 37, 38, 39, 40, 41, 42, 43, 44, 45, 46, 47, 48, 49, 50, 51, 52, 53, 54, 55, 56, 57, 58, 59, 60, 61, 62, 63, 64, 65, 66, 67, 68, 69, 70, 71, 72, 73, 74, 75, 76, 77, 78, 79, 80, 81, 82, 83, 84, 85, 86, 87, 88, 89, 887, 888, 889, 890, 891, 892, 893, 864, 865, 866, 867, 868, 894, 895, 896, 897, 898, 899, 900, 901, 902, 903, 904, 905, 906, 907, 908, 909, 910, 911, 912, 913, 914, 915, 916, 917, 918, 919, 920, 921, 922, 923, 924] rfl (by decide +kernel)
set_option maxRecDepth 20000 in
theorem gL_law_X6_init : GoodIn wsL_law (wsX6_init) := ggL_law_X6_init
set_option maxRecDepth 20000 in
theorem ggL_law_X7_init : GoodIn wsL_law wsX7_init := goodIn_r _ [92, 93, 11, 12, 31, 94, 95, 96, 97, 98, 99, 100, 101, 102, 103, 104, 105, 106, 869, 870, 871, 872, 873, 874, 875, 876, 877, 878, 879, 880, 881, 882, 883, 884, 885, 886] rfl (by decide +kernel)
set_option maxRecDepth 20000 in
theorem gL_law_X7_init : GoodIn wsL_law (wsX7_init) := ggL_law_X7_init
set_option maxRecDepth 20000 in
theorem ggL_law_L_addWater : GoodIn wsL_law wsL_addWater := goodIn_ca (goodIn_ca (goodIn_r _ [110, 111, 112, 113, 114, 115, 2, 116, 117, 118, 119, 120, 16, 121, 122, 123, 124, 125, 126, 127, 128, 129, 130, 15, 131, 35, 132, 133, 134, 135, 136, 32, 33, 34, 864, 865, 866, 867, 868, 887, 888, 889, 890, 891, 892, 893] rfl (by decide +kernel)) (goodIn_sub (fun _ h => List.mem_append_left _ (List.mem_append_left _ (List.mem_append_right _ h))) (by decide +kernel))) (goodIn_sub (fun _ h => List.mem_append_left _ (List.mem_append_right _ h)) (by decide +kernel))
set_option maxRecDepth 20000 in
theorem gL_law_L_addWater : GoodIn wsL_law (va_wsS RL 84 yL_addWater wsL_addWater) := goodIn_app (goodIn_of _ (by decide +kernel)) ggL_law_L_addWater
set_option maxRecDepth 20000 in
theorem ggL_law_X7_addWater : GoodIn wsL_law wsX7_addWater := goodIn_r _ [140, 141, 142, 31, 94, 143, 144, 145, 146, 147, 148, 5, 149, 150, 151, 152, 153, 869, 870, 871, 872, 873, 874, 875, 876, 877, 878, 879, 880, 881, 882, 883, 884, 885, 886] rfl (by decide +kernel)
set_option maxRecDepth 20000 in
theorem gL_law_X7_addWater : GoodIn wsL_law (wsV RL 89 RX7 yX7_addWater wsX7_addWater) := goodIn_app (goodIn_of _ (by decide +kernel)) ggL_law_X7_addWater
set_option maxRecDepth 20000 in
theorem ggL_law_X7_thrown : GoodIn wsL_law wsX7_thrown := goodIn_r _ [157, 141, 869, 870, 871, 872, 873, 874, 875, 876, 877, 878, 879, 880, 881, 882, 883, 884, 885, 886] rfl (by decide +kernel)
set_option maxRecDepth 20000 in
theorem gL_law_X7_thrown : GoodIn wsL_law (wsV RL 90 RX7 yX7_thrown wsX7_thrown) := goodIn_app (goodIn_of _ (by decide +kernel)) ggL_law_X7_thrown
set_option maxRecDepth 20000 in
theorem ggL_law_L_sea : GoodIn wsL_law wsL_sea := goodIn_ca (goodIn_r _ [160, 161, 162, 163, 164, 2, 165, 166, 167, 16, 20, 168, 122, 123, 124, 169, 170, 171, 172, 173, 174, 15, 175, 35, 176, 177, 178, 179, 32, 180, 181, 182, 183, 132, 184, 185, 186, 187, 33, 188, 189, 190, 191, 34, 192, 193, 194, 45, 195, 196, 67, 68, 69, 864, 865, 866, 867, 868, 894, 895, 896, 897, 898, 899, 900, 887, 888, 889, 890, 891, 892, 893, 905, 906, 907, 908, 909, 910, 911, 912, 913, 914, 915, 916] rfl (by decide +kernel)) (goodIn_sub (fun _ h => List.mem_append_right _ h) (by decide +kernel))
set_option maxRecDepth 20000 in
theorem gL_law_L_sea : GoodIn wsL_law (va_wsS RL 94 yL_sea wsL_sea) := goodIn_app (goodIn_of _ (by decide +kernel)) ggL_law_L_sea
set_option maxRecDepth 20000 in
theorem ggL_law_X7_sea : GoodIn wsL_law wsX7_sea := goodIn_r _ [200, 141, 201, 147, 148, 5, 149, 150, 151, 152, 153, 202, 203, 204, 205, 142, 94, 206, 207, 208, 209, 210, 211, 212, 213, 214, 215, 216, 217, 96, 869, 870, 871, 872, 873, 874, 875, 876, 877, 878, 879, 880, 881, 882, 883, 884, 885, 886] rfl (by decide +kernel)
set_option maxRecDepth 20000 in
theorem gL_law_X7_sea : GoodIn wsL_law (wsV RL 97 RX7 yX7_sea wsX7_sea) := goodIn_app (goodIn_of _ (by decide +kernel)) ggL_law_X7_sea
set_option maxRecDepth 20000 in
theorem ggL_law_L_setWind : GoodIn wsL_law wsL_setWind := goodIn_ca (goodIn_r _ [220, 111, 221, 222, 223, 2, 224, 117, 118, 16, 225, 226, 125, 126, 127, 864, 865, 866, 867, 868, 887, 888, 889, 890, 891, 892, 893] rfl (by decide +kernel)) (goodIn_sub (fun _ h => List.mem_append_left _ (List.mem_append_left _ (List.mem_append_right _ h))) (by decide +kernel))
set_option maxRecDepth 20000 in
theorem gL_law_L_setWind : GoodIn wsL_law (va_wsS RL 98 yL_setWind wsL_setWind) := goodIn_app (goodIn_of _ (by decide +kernel)) ggL_law_L_setWind
set_option maxRecDepth 20000 in
theorem ggL_law_X7_setWind : GoodIn wsL_law wsX7_setWind := goodIn_r _ [230, 141, 231, 232, 147, 148, 5, 149, 150, 151, 152, 153, 869, 870, 871, 872, 873, 874, 875, 876, 877, 878, 879, 880, 881, 882, 883, 884, 885, 886] rfl (by decide +kernel)
set_option maxRecDepth 20000 in
theorem gL_law_X7_setWind : GoodIn wsL_law (wsV RL 101 RX7 yX7_setWind wsX7_setWind) := goodIn_app (goodIn_of _ (by decide +kernel)) ggL_law_X7_setWind
set_option maxRecDepth 20000 in
theorem ggL_law_L_addBarrel : GoodIn wsL_law wsL_addBarrel := goodIn_ca (goodIn_ca (goodIn_r _ [235, 111, 112, 236, 237, 238, 2, 239, 117, 118, 119, 120, 20, 168, 240, 169, 170, 171, 241, 242, 243, 45, 244, 196, 60, 61, 245, 246, 247, 248, 68, 69, 62, 63, 70, 249, 250, 251, 252, 67, 864, 865, 866, 867, 868, 894, 895, 896, 897, 898, 899, 900, 905, 906, 907, 908, 909, 910, 911, 912, 913, 914, 915, 916] rfl (by decide +kernel)) (goodIn_sub (fun _ h => List.mem_append_left _ (List.mem_append_left _ (List.mem_append_right _ h))) (by decide +kernel))) (goodIn_sub (fun _ h => List.mem_append_left _ (List.mem_append_right _ h)) (by decide +kernel))
set_option maxRecDepth 20000 in
theorem gL_law_L_addBarrel : GoodIn wsL_law (va_wsS RL 102 yL_addBarrel wsL_addBarrel) := goodIn_app (goodIn_of _ (by decide +kernel)) ggL_law_L_addBarrel
set_option maxRecDepth 20000 in
theorem ggL_law_X7_addBarrel : GoodIn wsL_law wsX7_addBarrel := goodIn_r _ [256, 141, 201, 31, 95, 143, 144, 145, 146, 96, 147, 148, 5, 149, 150, 151, 152, 153, 257, 258, 259, 260, 210, 211, 212, 213, 214, 215, 216, 217, 869, 870, 871, 872, 873, 874, 875, 876, 877, 878, 879, 880, 881, 882, 883, 884, 885, 886] rfl (by decide +kernel)
set_option maxRecDepth 20000 in
theorem gL_law_X7_addBarrel : GoodIn wsL_law (wsV RL 105 RX7 yX7_addBarrel wsX7_addBarrel) := goodIn_app (goodIn_of _ (by decide +kernel)) ggL_law_X7_addBarrel
set_option maxRecDepth 20000 in
theorem ggL_law_L_tie : GoodIn wsL_law wsL_tie := goodIn_ca (goodIn_ca (goodIn_ca (goodIn_r _ [263, 161, 111, 112, 264, 265, 266, 2, 267, 166, 167, 117, 118, 119, 120, 20, 168, 26, 268, 269, 270, 271, 272, 273, 274, 275, 276, 277, 278, 45, 279, 196, 280, 281, 282, 283, 60, 284, 285, 286, 61, 68, 69, 287, 288, 289, 290, 67, 291, 292, 293, 294, 53, 295, 296, 297, 298, 299, 300, 301, 302, 79, 80, 303, 304, 305, 306, 81, 82, 307, 308, 309, 310, 311, 312, 313, 314, 315, 316, 317, 318, 319, 320, 321, 19, 322, 46, 54, 323, 324, 325, 326, 327, 328, 329, 70, 330, 331, 332, 333, 334, 335, 864, 865, 866, 867, 868, 894, 895, 896, 897, 898, 899, 900, 905, 906, 907, 908, 909, 910, 911, 912, 913, 914, 915, 916, 920, 921, 922, 923, 924] rfl (by decide +kernel)) (goodIn_sub (fun _ h => List.mem_append_right _ h) (by decide +kernel))) (goodIn_sub (fun _ h => List.mem_append_left _ (List.mem_append_left _ (List.mem_append_right _ h))) (by decide +kernel))) (goodIn_sub (fun _ h => List.mem_append_left _ (List.mem_append_right _ h)) (by decide +kernel))
set_option maxRecDepth 20000 in
theorem gL_law_L_tie : GoodIn wsL_law (va_wsS RL 106 yL_tie wsL_tie) := goodIn_app (goodIn_of _ (by decide +kernel)) ggL_law_L_tie
set_option maxRecDepth 20000 in
theorem ggL_law_X7_tie : GoodIn wsL_law wsX7_tie := goodIn_r _ [339, 141, 100, 97, 98, 340, 341, 342, 5, 343, 201, 147, 148, 149, 150, 151, 152, 153, 210, 211, 212, 213, 214, 215, 216, 217, 96, 344, 345, 346, 347, 348, 285, 271, 286, 257, 258, 259, 260, 95, 349, 350, 351, 352, 270, 272, 353, 274, 275, 869, 870, 871, 872, 873, 874, 875, 876, 877, 878, 879, 880, 881, 882, 883, 884, 885, 886] rfl (by decide +kernel)
set_option maxRecDepth 20000 in
theorem gL_law_X7_tie : GoodIn wsL_law (wsV RL 108 RX7 yX7_tie wsX7_tie) := goodIn_app (goodIn_of _ (by decide +kernel)) ggL_law_X7_tie
set_option maxRecDepth 20000 in
theorem ggL_law_L_cut : GoodIn wsL_law wsL_cut := goodIn_ca (goodIn_ca (goodIn_r _ [356, 161, 112, 357, 358, 359, 2, 360, 166, 167, 119, 120, 20, 168, 268, 26, 269, 270, 271, 272, 276, 277, 278, 45, 279, 196, 361, 298, 299, 53, 300, 301, 302, 274, 275, 296, 79, 80, 362, 363, 364, 365, 81, 366, 367, 368, 369, 315, 316, 317, 318, 82, 319, 320, 321, 19, 322, 46, 54, 323, 324, 325, 326, 327, 328, 329, 70, 67, 330, 331, 332, 333, 334, 335, 864, 865, 866, 867, 868, 894, 895, 896, 897, 898, 899, 900, 905, 906, 907, 908, 909, 910, 911, 912, 913, 914, 915, 916, 920, 921, 922, 923, 924] rfl (by decide +kernel)) (goodIn_sub (fun _ h => List.mem_append_right _ h) (by decide +kernel))) (goodIn_sub (fun _ h => List.mem_append_left _ (List.mem_append_right _ h)) (by decide +kernel))
set_option maxRecDepth 20000 in
theorem gL_law_L_cut : GoodIn wsL_law (va_wsS RL 109 yL_cut wsL_cut) := goodIn_app (goodIn_of _ (by decide +kernel)) ggL_law_L_cut
set_option maxRecDepth 20000 in
theorem ggL_law_X7_cut : GoodIn wsL_law wsX7_cut := goodIn_r _ [373, 141, 100, 352, 270, 271, 272, 340, 341, 342, 5, 343, 201, 147, 148, 149, 150, 151, 152, 153, 374, 375, 376, 377, 97, 349, 350, 351, 353, 274, 275, 378, 379, 380, 381, 98, 869, 870, 871, 872, 873, 874, 875, 876, 877, 878, 879, 880, 881, 882, 883, 884, 885, 886] rfl (by decide +kernel)
set_option maxRecDepth 20000 in
theorem gL_law_X7_cut : GoodIn wsL_law (wsV RL 111 RX7 yX7_cut wsX7_cut) := goodIn_app (goodIn_of _ (by decide +kernel)) ggL_law_X7_cut
set_option maxRecDepth 20000 in
theorem ggL_law_L_load : GoodIn wsL_law wsL_load := goodIn_ca (goodIn_ca (goodIn_ca (goodIn_r _ [384, 161, 111, 112, 385, 386, 387, 2, 388, 166, 167, 117, 118, 119, 120, 20, 168, 389, 276, 277, 278, 45, 279, 196, 390, 288, 289, 290, 67, 291, 864, 865, 866, 867, 868, 894, 895, 896, 897, 898, 899, 900, 905, 906, 907, 908, 909, 910, 911, 912, 913, 914, 915, 916] rfl (by decide +kernel)) (goodIn_sub (fun _ h => List.mem_append_right _ h) (by decide +kernel))) (goodIn_sub (fun _ h => List.mem_append_left _ (List.mem_append_left _ (List.mem_append_right _ h))) (by decide +kernel))) (goodIn_sub (fun _ h => List.mem_append_left _ (List.mem_append_right _ h)) (by decide +kernel))
set_option maxRecDepth 20000 in
theorem gL_law_L_load : GoodIn wsL_law (va_wsS RL 112 yL_load wsL_load) := goodIn_app (goodIn_of _ (by decide +kernel)) ggL_law_L_load
set_option maxRecDepth 20000 in
theorem ggL_law_X7_load : GoodIn wsL_law wsX7_load := goodIn_r _ [394, 141, 340, 341, 342, 5, 343, 201, 147, 148, 149, 150, 151, 152, 153, 210, 211, 212, 213, 214, 215, 216, 217, 96, 395, 396, 397, 398, 869, 870, 871, 872, 873, 874, 875, 876, 877, 878, 879, 880, 881, 882, 883, 884, 885, 886] rfl (by decide +kernel)
set_option maxRecDepth 20000 in
theorem gL_law_X7_load : GoodIn wsL_law (wsV RL 114 RX7 yX7_load wsX7_load) := goodIn_app (goodIn_of _ (by decide +kernel)) ggL_law_X7_load
set_option maxRecDepth 20000 in
theorem ggL_law_L_barrel : GoodIn wsL_law wsL_barrel := goodIn_ca (goodIn_r _ [401, 161, 402, 403, 404, 2, 405, 166, 167, 20, 168, 276, 277, 278, 45, 279, 196, 169, 170, 171, 406, 407, 408, 409, 410, 411, 412, 413, 414, 389, 415, 416, 417, 418, 268, 419, 420, 421, 53, 422, 296, 79, 80, 423, 424, 425, 426, 62, 64, 427, 428, 429, 430, 65, 66, 864, 865, 866, 867, 868, 894, 895, 896, 897, 898, 899, 900, 905, 906, 907, 908, 909, 910, 911, 912, 913, 914, 915, 916, 920, 921, 922, 923, 924] rfl (by decide +kernel)) (goodIn_sub (fun _ h => List.mem_append_right _ h) (by decide +kernel))
set_option maxRecDepth 20000 in
theorem gL_law_L_barrel : GoodIn wsL_law (va_wsS RL 115 yL_barrel wsL_barrel) := goodIn_app (goodIn_of _ (by decide +kernel)) ggL_law_L_barrel
set_option maxRecDepth 20000 in
theorem ggL_law_X7_barrel : GoodIn wsL_law wsX7_barrel := goodIn_r _ [434, 141, 340, 341, 342, 5, 343, 201, 147, 148, 149, 435, 436, 437, 438, 101, 257, 258, 259, 260, 95, 214, 215, 216, 217, 96, 439, 440, 441, 442, 352, 270, 271, 272, 210, 211, 212, 213, 374, 375, 376, 377, 97, 349, 350, 351, 353, 274, 275, 443, 444, 445, 446, 447, 448, 449, 450, 451, 452, 453, 454, 455, 456, 457, 458, 459, 99, 150, 151, 152, 153, 869, 870, 871, 872, 873, 874, 875, 876, 877, 878, 879, 880, 881, 882, 883, 884, 885, 886] rfl (by decide +kernel)
set_option maxRecDepth 20000 in
theorem gL_law_X7_barrel : GoodIn wsL_law (wsV RL 117 RX7 yX7_barrel wsX7_barrel) := goodIn_app (goodIn_of _ (by decide +kernel)) ggL_law_X7_barrel
set_option maxRecDepth 20000 in
theorem ggL_law_L_lashing : GoodIn wsL_law wsL_lashing := goodIn_ca (goodIn_r _ [462, 161, 463, 464, 465, 2, 466, 166, 167, 20, 168, 268, 467, 468, 16, 276, 277, 278, 45, 279, 196, 169, 170, 171, 361, 298, 299, 53, 300, 301, 270, 271, 272, 302, 274, 275, 296, 79, 80, 469, 470, 471, 19, 472, 54, 324, 325, 46, 473, 474, 475, 285, 286, 476, 173, 174, 15, 175, 35, 123, 124, 477, 189, 190, 191, 34, 180, 181, 182, 183, 132, 478, 428, 429, 430, 65, 66, 864, 865, 866, 867, 868, 894, 895, 896, 897, 898, 899, 900, 920, 921, 922, 923, 924, 905, 906, 907, 908, 909, 910, 911, 912, 913, 914, 915, 916, 887, 888, 889, 890, 891, 892, 893] rfl (by decide +kernel)) (goodIn_sub (fun _ h => List.mem_append_right _ h) (by decide +kernel))
set_option maxRecDepth 20000 in
theorem gL_law_L_lashing : GoodIn wsL_law (va_wsS RL 118 yL_lashing wsL_lashing) := goodIn_app (goodIn_of _ (by decide +kernel)) ggL_law_L_lashing
set_option maxRecDepth 20000 in
theorem ggL_law_X7_lashing : GoodIn wsL_law wsX7_lashing := goodIn_r _ [482, 141, 97, 98, 340, 341, 342, 5, 343, 201, 147, 148, 149, 150, 151, 152, 153, 374, 375, 376, 377, 349, 350, 351, 352, 270, 271, 272, 353, 274, 275, 483, 484, 485, 486, 348, 285, 286, 214, 215, 216, 217, 96, 206, 207, 208, 209, 94, 202, 203, 204, 205, 142, 451, 452, 453, 454, 455, 456, 457, 458, 459, 99, 869, 870, 871, 872, 873, 874, 875, 876, 877, 878, 879, 880, 881, 882, 883, 884, 885, 886] rfl (by decide +kernel)
set_option maxRecDepth 20000 in
theorem gL_law_X7_lashing : GoodIn wsL_law (wsV RL 120 RX7 yX7_lashing wsX7_lashing) := goodIn_app (goodIn_of _ (by decide +kernel)) ggL_law_X7_lashing
set_option maxRecDepth 20000 in
theorem ggL_law_L_addCastaway : GoodIn wsL_law wsL_addCastaway := goodIn_ca (goodIn_ca (goodIn_r _ [489, 161, 112, 490, 491, 492, 2, 493, 166, 167, 119, 120, 20, 168, 494, 495, 496, 276, 277, 278, 45, 279, 196, 390, 288, 289, 290, 67, 291, 497, 498, 499, 49, 500, 501, 74, 75, 864, 865, 866, 867, 868, 894, 895, 896, 897, 898, 899, 900, 917, 918, 919, 905, 906, 907, 908, 909, 910, 911, 912, 913, 914, 915, 916] rfl (by decide +kernel)) (goodIn_sub (fun _ h => List.mem_append_right _ h) (by decide +kernel))) (goodIn_sub (fun _ h => List.mem_append_left _ (List.mem_append_right _ h)) (by decide +kernel))
set_option maxRecDepth 20000 in
theorem gL_law_L_addCastaway : GoodIn wsL_law (va_wsS RL 121 yL_addCastaway wsL_addCastaway) := goodIn_app (goodIn_of _ (by decide +kernel)) ggL_law_L_addCastaway
set_option maxRecDepth 20000 in
theorem ggL_law_X7_addCastaway : GoodIn wsL_law wsX7_addCastaway := goodIn_r _ [505, 141, 459, 99, 340, 341, 342, 5, 343, 201, 147, 148, 149, 150, 151, 152, 153, 210, 211, 212, 213, 214, 215, 216, 217, 96, 869, 870, 871, 872, 873, 874, 875, 876, 877, 878, 879, 880, 881, 882, 883, 884, 885, 886] rfl (by decide +kernel)
set_option maxRecDepth 20000 in
theorem gL_law_X7_addCastaway : GoodIn wsL_law (wsV RL 124 RX7 yX7_addCastaway wsX7_addCastaway) := goodIn_app (goodIn_of _ (by decide +kernel)) ggL_law_X7_addCastaway
set_option maxRecDepth 20000 in
theorem ggL_law_L_go : GoodIn wsL_law wsL_go := goodIn_ca (goodIn_ca (goodIn_r _ [508, 161, 112, 509, 510, 511, 2, 512, 166, 167, 119, 120, 20, 494, 168, 513, 268, 496, 514, 515, 516, 49, 517, 501, 276, 277, 278, 45, 279, 196, 361, 298, 299, 53, 300, 301, 270, 271, 272, 302, 274, 275, 296, 79, 80, 864, 865, 866, 867, 868, 894, 895, 896, 897, 898, 899, 900, 917, 918, 919, 905, 906, 907, 908, 909, 910, 911, 912, 913, 914, 915, 916, 920, 921, 922, 923, 924] rfl (by decide +kernel)) (goodIn_sub (fun _ h => List.mem_append_right _ h) (by decide +kernel))) (goodIn_sub (fun _ h => List.mem_append_left _ (List.mem_append_right _ h)) (by decide +kernel))
set_option maxRecDepth 20000 in
theorem gL_law_L_go : GoodIn wsL_law (va_wsS RL 125 yL_go wsL_go) := goodIn_app (goodIn_of _ (by decide +kernel)) ggL_law_L_go
set_option maxRecDepth 20000 in
theorem ggL_law_X7_go : GoodIn wsL_law wsX7_go := goodIn_r _ [521, 141, 99, 522, 523, 524, 5, 525, 459, 147, 148, 149, 340, 341, 342, 343, 201, 150, 151, 152, 153, 374, 375, 376, 377, 97, 349, 350, 351, 352, 270, 271, 272, 353, 274, 275, 455, 456, 457, 458, 869, 870, 871, 872, 873, 874, 875, 876, 877, 878, 879, 880, 881, 882, 883, 884, 885, 886] rfl (by decide +kernel)
set_option maxRecDepth 20000 in
theorem gL_law_X7_go : GoodIn wsL_law (wsV RL 127 RX7 yX7_go wsX7_go) := goodIn_app (goodIn_of _ (by decide +kernel)) ggL_law_X7_go
set_option maxRecDepth 20000 in
theorem ggL_law_L_bail : GoodIn wsL_law wsL_bail := goodIn_ca (goodIn_ca (goodIn_r _ [528, 161, 112, 529, 530, 531, 2, 532, 166, 167, 119, 120, 20, 494, 513, 168, 414, 273, 274, 271, 275, 514, 515, 516, 49, 517, 501, 276, 277, 278, 45, 279, 196, 864, 865, 866, 867, 868, 894, 895, 896, 897, 898, 899, 900, 917, 918, 919, 905, 906, 907, 908, 909, 910, 911, 912, 913, 914, 915, 916] rfl (by decide +kernel)) (goodIn_sub (fun _ h => List.mem_append_right _ h) (by decide +kernel))) (goodIn_sub (fun _ h => List.mem_append_left _ (List.mem_append_right _ h)) (by decide +kernel))
set_option maxRecDepth 20000 in
theorem gL_law_L_bail : GoodIn wsL_law (va_wsS RL 128 yL_bail wsL_bail) := goodIn_app (goodIn_of _ (by decide +kernel)) ggL_law_L_bail
set_option maxRecDepth 20000 in
theorem ggL_law_X7_bail : GoodIn wsL_law wsX7_bail := goodIn_r _ [536, 141, 99, 353, 274, 271, 275, 522, 523, 524, 5, 525, 459, 147, 148, 149, 150, 151, 152, 153, 214, 215, 216, 217, 96, 395, 396, 397, 398, 869, 870, 871, 872, 873, 874, 875, 876, 877, 878, 879, 880, 881, 882, 883, 884, 885, 886] rfl (by decide +kernel)
set_option maxRecDepth 20000 in
theorem gL_law_X7_bail : GoodIn wsL_law (wsV RL 130 RX7 yX7_bail wsX7_bail) := goodIn_app (goodIn_of _ (by decide +kernel)) ggL_law_X7_bail
set_option maxRecDepth 20000 in
theorem ggL_law_L_castaway : GoodIn wsL_law wsL_castaway := goodIn_ca (goodIn_r _ [539, 161, 540, 541, 542, 2, 543, 166, 167, 20, 494, 514, 515, 516, 49, 517, 501, 169, 170, 171, 544, 545, 546, 547, 513, 548, 864, 865, 866, 867, 868, 894, 895, 896, 897, 898, 899, 900, 917, 918, 919] rfl (by decide +kernel)) (goodIn_sub (fun _ h => List.mem_append_right _ h) (by decide +kernel))
set_option maxRecDepth 20000 in
theorem gL_law_L_castaway : GoodIn wsL_law (va_wsS RL 131 yL_castaway wsL_castaway) := goodIn_app (goodIn_of _ (by decide +kernel)) ggL_law_L_castaway
set_option maxRecDepth 20000 in
theorem ggL_law_X7_castaway : GoodIn wsL_law wsX7_castaway := goodIn_r _ [552, 141, 99, 522, 523, 524, 5, 525, 459, 147, 148, 149, 150, 151, 152, 153, 869, 870, 871, 872, 873, 874, 875, 876, 877, 878, 879, 880, 881, 882, 883, 884, 885, 886] rfl (by decide +kernel)
set_option maxRecDepth 20000 in
theorem gL_law_X7_castaway : GoodIn wsL_law (wsV RL 133 RX7 yX7_castaway wsX7_castaway) := goodIn_app (goodIn_of _ (by decide +kernel)) ggL_law_X7_castaway
set_option maxRecDepth 20000 in
theorem ggL_law_L_pass : GoodIn wsL_law wsL_pass := goodIn_ca (goodIn_r _ [555, 111, 556, 557, 558, 2, 559, 117, 118, 20, 560, 16, 561, 562, 563, 19, 564, 46, 565, 566, 250, 251, 45, 252, 196, 67, 567, 568, 569, 570, 64, 63, 334, 270, 271, 272, 571, 572, 573, 574, 575, 576, 56, 55, 577, 578, 579, 580, 581, 424, 425, 426, 62, 478, 428, 429, 430, 65, 66, 582, 583, 584, 585, 70, 586, 587, 588, 589, 50, 54, 323, 324, 590, 591, 592, 49, 593, 501, 74, 594, 75, 595, 277, 278, 279, 596, 288, 289, 290, 291, 597, 363, 364, 53, 365, 81, 598, 367, 368, 369, 296, 315, 316, 317, 318, 79, 80, 82, 599, 600, 601, 602, 603, 604, 605, 470, 471, 472, 325, 473, 474, 475, 285, 286, 476, 173, 174, 15, 175, 35, 123, 124, 477, 189, 190, 191, 34, 180, 181, 182, 183, 132, 606, 607, 608, 609, 610, 320, 321, 322, 326, 327, 328, 329, 330, 331, 332, 333, 335, 274, 275, 611, 612, 613, 614, 615, 616, 617, 618, 619, 620, 621, 622, 623, 177, 178, 179, 32, 624, 185, 186, 187, 33, 625, 626, 627, 628, 864, 865, 866, 867, 868, 894, 895, 896, 897, 898, 899, 900, 905, 906, 907, 908, 909, 910, 911, 912, 913, 914, 915, 916, 920, 921, 922, 923, 924, 917, 918, 919, 887, 888, 889, 890, 891, 892, 893] rfl (by decide +kernel)) (goodIn_sub (fun _ h => List.mem_append_left _ (List.mem_append_left _ (List.mem_append_right _ h))) (by decide +kernel))
set_option maxRecDepth 20000 in
theorem gL_law_L_pass : GoodIn wsL_law (va_wsS RL 134 yL_pass wsL_pass) := goodIn_app (goodIn_of _ (by decide +kernel)) ggL_law_L_pass
set_option maxRecDepth 20000 in
theorem ggL_law_X7_pass : GoodIn wsL_law wsX7_pass := goodIn_r _ [632, 141, 147, 148, 5, 149, 150, 151, 152, 153, 633, 634, 635, 636, 201, 352, 270, 271, 272, 101, 97, 98, 231, 353, 274, 275, 232, 100, 210, 211, 212, 213, 214, 215, 216, 217, 96, 257, 258, 259, 260, 95, 395, 396, 397, 398, 439, 440, 441, 442, 374, 375, 376, 377, 349, 350, 351, 637, 638, 639, 640, 447, 448, 449, 450, 451, 452, 453, 454, 455, 456, 457, 458, 459, 99, 641, 642, 643, 644, 378, 379, 380, 381, 483, 484, 485, 486, 348, 285, 286, 206, 207, 208, 209, 94, 202, 203, 204, 205, 142, 869, 870, 871, 872, 873, 874, 875, 876, 877, 878, 879, 880, 881, 882, 883, 884, 885, 886] rfl (by decide +kernel)
set_option maxRecDepth 20000 in
theorem gL_law_X7_pass : GoodIn wsL_law (wsV RL 136 RX7 yX7_pass wsX7_pass) := goodIn_app (goodIn_of _ (by decide +kernel)) ggL_law_X7_pass
set_option maxRecDepth 20000 in
theorem ggL_law_L_count : GoodIn wsL_law wsL_count := goodIn_ca (goodIn_r _ [647, 161, 648, 649, 650, 2, 651, 166, 167, 169, 170, 171, 652, 653, 654, 655, 20, 656, 168, 240, 494, 495, 268, 657, 26, 560, 658, 659, 660, 45, 661, 196, 67, 662, 663, 664, 49, 665, 501, 75, 666, 667, 668, 669, 70, 670, 671, 672, 673, 65, 864, 865, 866, 867, 868, 894, 895, 896, 897, 898, 899, 900, 905, 906, 907, 908, 909, 910, 911, 912, 913, 914, 915, 916, 917, 918, 919, 920, 921, 922, 923, 924] rfl (by decide +kernel)) (goodIn_sub (fun _ h => List.mem_append_right _ h) (by decide +kernel))
set_option maxRecDepth 20000 in
theorem gL_law_L_count : GoodIn wsL_law (va_wsS RL 137 yL_count wsL_count) := goodIn_app (goodIn_of _ (by decide +kernel)) ggL_law_L_count
set_option maxRecDepth 20000 in
theorem ggL_law_X7_count : GoodIn wsL_law wsX7_count := goodIn_r _ [677, 141, 147, 148, 5, 149, 678, 679, 680, 681, 100, 201, 459, 101, 682, 683, 684, 685, 214, 215, 216, 217, 96, 686, 687, 688, 689, 99, 443, 444, 445, 446, 374, 375, 376, 377, 97, 349, 350, 351, 352, 270, 271, 272, 353, 274, 275, 439, 440, 441, 442, 210, 211, 212, 213, 150, 151, 152, 153, 869, 870, 871, 872, 873, 874, 875, 876, 877, 878, 879, 880, 881, 882, 883, 884, 885, 886] rfl (by decide +kernel)
set_option maxRecDepth 20000 in
theorem gL_law_X7_count : GoodIn wsL_law (wsV RL 139 RX7 yX7_count wsX7_count) := goodIn_app (goodIn_of _ (by decide +kernel)) ggL_law_X7_count
set_option maxRecDepth 20000 in
theorem ggL_law_L_firm : GoodIn wsL_law wsL_firm := goodIn_ca (goodIn_r _ [692, 161, 693, 694, 695, 2, 696, 166, 167, 20, 168, 25, 268, 276, 277, 278, 45, 279, 196, 697, 698, 699, 24, 700, 86, 701, 702, 37, 38, 39, 703, 704, 705, 706, 87, 88, 707, 708, 709, 710, 711, 712, 713, 53, 714, 79, 80, 715, 716, 717, 718, 719, 720, 721, 722, 723, 864, 865, 866, 867, 868, 894, 895, 896, 897, 898, 899, 900, 905, 906, 907, 908, 909, 910, 911, 912, 913, 914, 915, 916, 901, 902, 903, 904, 920, 921, 922, 923, 924] rfl (by decide +kernel)) (goodIn_sub (fun _ h => List.mem_append_right _ h) (by decide +kernel))
set_option maxRecDepth 20000 in
theorem gL_law_L_firm : GoodIn wsL_law (va_wsS RL 140 yL_firm wsL_firm) := goodIn_app (goodIn_of _ (by decide +kernel)) ggL_law_L_firm
set_option maxRecDepth 20000 in
theorem ggL_law_X7_firm : GoodIn wsL_law wsX7_firm := goodIn_r _ [727, 141, 340, 341, 342, 5, 343, 201, 147, 148, 149, 150, 151, 152, 153, 728, 729, 730, 731, 103, 104, 105, 374, 375, 376, 377, 97, 349, 350, 351, 352, 270, 271, 272, 353, 274, 275, 869, 870, 871, 872, 873, 874, 875, 876, 877, 878, 879, 880, 881, 882, 883, 884, 885, 886] rfl (by decide +kernel)
set_option maxRecDepth 20000 in
theorem gL_law_X7_firm : GoodIn wsL_law (wsV RL 142 RX7 yX7_firm wsX7_firm) := goodIn_app (goodIn_of _ (by decide +kernel)) ggL_law_X7_firm
set_option maxRecDepth 20000 in
theorem ggL_law_L_hold : GoodIn wsL_law wsL_hold := goodIn_ca (goodIn_r _ [734, 161, 735, 736, 737, 2, 738, 166, 167, 20, 168, 25, 268, 276, 277, 278, 45, 279, 196, 739, 740, 741, 24, 742, 89, 702, 37, 38, 39, 743, 744, 745, 746, 701, 719, 747, 748, 274, 271, 275, 749, 270, 272, 750, 607, 608, 53, 609, 81, 82, 864, 865, 866, 867, 868, 894, 895, 896, 897, 898, 899, 900, 905, 906, 907, 908, 909, 910, 911, 912, 913, 914, 915, 916, 901, 902, 903, 904, 920, 921, 922, 923, 924] rfl (by decide +kernel)) (goodIn_sub (fun _ h => List.mem_append_right _ h) (by decide +kernel))
set_option maxRecDepth 20000 in
theorem gL_law_L_hold : GoodIn wsL_law (va_wsS RL 143 yL_hold wsL_hold) := goodIn_app (goodIn_of _ (by decide +kernel)) ggL_law_L_hold
set_option maxRecDepth 20000 in
theorem ggL_law_X7_hold : GoodIn wsL_law wsX7_hold := goodIn_r _ [754, 141, 340, 341, 342, 5, 343, 201, 147, 148, 149, 150, 151, 152, 153, 755, 756, 757, 758, 106, 97, 98, 349, 350, 351, 352, 270, 271, 272, 353, 274, 275, 374, 375, 376, 377, 869, 870, 871, 872, 873, 874, 875, 876, 877, 878, 879, 880, 881, 882, 883, 884, 885, 886] rfl (by decide +kernel)
set_option maxRecDepth 20000 in
theorem gL_law_X7_hold : GoodIn wsL_law (wsV RL 145 RX7 yX7_hold wsX7_hold) := goodIn_app (goodIn_of _ (by decide +kernel)) ggL_law_X7_hold
set_option maxRecDepth 20000 in
theorem ggL_law_L_piece : GoodIn wsL_law wsL_piece := goodIn_ca (goodIn_r _ [761, 161, 762, 763, 764, 2, 765, 166, 167, 20, 168, 416, 276, 277, 278, 45, 279, 196, 169, 170, 171, 766, 767, 768, 769, 268, 657, 770, 25, 771, 697, 698, 699, 24, 700, 86, 701, 702, 37, 38, 39, 703, 704, 705, 706, 87, 88, 707, 708, 709, 710, 711, 712, 713, 53, 714, 79, 80, 715, 716, 717, 718, 719, 720, 721, 722, 723, 772, 773, 774, 775, 240, 496, 423, 424, 425, 426, 62, 64, 427, 428, 429, 430, 65, 66, 864, 865, 866, 867, 868, 894, 895, 896, 897, 898, 899, 900, 905, 906, 907, 908, 909, 910, 911, 912, 913, 914, 915, 916, 920, 921, 922, 923, 924, 901, 902, 903, 904] rfl (by decide +kernel)) (goodIn_sub (fun _ h => List.mem_append_right _ h) (by decide +kernel))
set_option maxRecDepth 20000 in
theorem gL_law_L_piece : GoodIn wsL_law (va_wsS RL 146 yL_piece wsL_piece) := goodIn_app (goodIn_of _ (by decide +kernel)) ggL_law_L_piece
set_option maxRecDepth 20000 in
theorem ggL_law_X7_piece : GoodIn wsL_law wsX7_piece := goodIn_r _ [779, 141, 101, 201, 340, 341, 342, 5, 343, 147, 148, 149, 150, 151, 152, 153, 439, 440, 441, 442, 352, 270, 271, 272, 210, 211, 212, 213, 214, 215, 216, 217, 96, 374, 375, 376, 377, 97, 349, 350, 351, 353, 274, 275, 637, 638, 639, 640, 447, 448, 449, 450, 257, 258, 259, 260, 95, 451, 452, 453, 454, 455, 456, 457, 458, 459, 99, 755, 756, 757, 758, 106, 98, 869, 870, 871, 872, 873, 874, 875, 876, 877, 878, 879, 880, 881, 882, 883, 884, 885, 886] rfl (by decide +kernel)
set_option maxRecDepth 20000 in
theorem gL_law_X7_piece : GoodIn wsL_law (wsV RL 148 RX7 yX7_piece wsX7_piece) := goodIn_app (goodIn_of _ (by decide +kernel)) ggL_law_X7_piece
set_option maxRecDepth 20000 in
theorem ggL_law_L_foresee : GoodIn wsL_law wsL_foresee := goodIn_ca (goodIn_ca (goodIn_r _ [782, 111, 161, 783, 784, 785, 2, 786, 117, 118, 166, 167, 21, 20, 16, 168, 494, 268, 657, 169, 170, 171, 787, 788, 789, 19, 790, 46, 50, 54, 565, 604, 791, 792, 793, 45, 794, 60, 795, 144, 145, 146, 61, 62, 63, 64, 65, 66, 67, 68, 69, 70, 196, 796, 797, 798, 49, 799, 74, 800, 75, 501, 801, 802, 803, 53, 804, 79, 805, 80, 81, 82, 296, 561, 562, 563, 564, 566, 250, 251, 252, 567, 568, 569, 570, 334, 270, 271, 272, 571, 572, 573, 574, 575, 576, 56, 55, 577, 578, 579, 580, 581, 424, 425, 426, 478, 428, 429, 430, 582, 583, 584, 585, 586, 587, 588, 589, 323, 324, 590, 591, 592, 593, 594, 595, 277, 278, 279, 596, 288, 289, 290, 291, 597, 363, 364, 365, 598, 367, 368, 369, 315, 316, 317, 318, 599, 600, 601, 602, 603, 605, 470, 471, 472, 325, 473, 474, 475, 285, 286, 476, 173, 174, 15, 175, 35, 123, 124, 477, 189, 190, 191, 34, 180, 181, 182, 183, 132, 606, 607, 608, 609, 610, 320, 321, 322, 326, 327, 328, 329, 330, 331, 332, 333, 335, 274, 275, 611, 612, 613, 614, 615, 616, 617, 618, 619, 620, 621, 622, 623, 177, 178, 179, 32, 624, 185, 186, 187, 33, 625, 626, 627, 628, 658, 659, 660, 661, 662, 663, 664, 665, 666, 667, 668, 669, 864, 865, 866, 867, 868, 894, 895, 896, 897, 898, 899, 900, 920, 921, 922, 923, 924, 905, 906, 907, 908, 909, 910, 911, 912, 913, 914, 915, 916, 917, 918, 919, 887, 888, 889, 890, 891, 892, 893] rfl (by decide +kernel)) (goodIn_sub (fun _ h => List.mem_append_left _ (List.mem_append_left _ (List.mem_append_right _ h))) (by decide +kernel))) (goodIn_sub (fun _ h => List.mem_append_right _ h) (by decide +kernel))
set_option maxRecDepth 20000 in
theorem gL_law_L_foresee : GoodIn wsL_law (va_wsS RL 149 yL_foresee wsL_foresee) := goodIn_app (goodIn_of _ (by decide +kernel)) ggL_law_L_foresee
set_option maxRecDepth 20000 in
theorem ggL_law_X7_foresee : GoodIn wsL_law wsX7_foresee := goodIn_r _ [809, 141, 147, 148, 5, 149, 150, 151, 152, 153, 810, 811, 812, 813, 814, 815, 816, 817, 818, 96, 819, 820, 821, 822, 823, 97, 98, 99, 100, 633, 634, 635, 636, 201, 352, 270, 271, 272, 101, 231, 353, 274, 275, 232, 210, 211, 212, 213, 214, 215, 216, 217, 257, 258, 259, 260, 95, 395, 396, 397, 398, 439, 440, 441, 442, 374, 375, 376, 377, 349, 350, 351, 637, 638, 639, 640, 447, 448, 449, 450, 451, 452, 453, 454, 455, 456, 457, 458, 459, 641, 642, 643, 644, 378, 379, 380, 381, 483, 484, 485, 486, 348, 285, 286, 206, 207, 208, 209, 94, 202, 203, 204, 205, 142, 678, 679, 680, 681, 682, 683, 684, 685, 686, 687, 688, 689, 443, 444, 445, 446, 824, 825, 826, 827, 869, 870, 871, 872, 873, 874, 875, 876, 877, 878, 879, 880, 881, 882, 883, 884, 885, 886] rfl (by decide +kernel)
set_option maxRecDepth 20000 in
theorem gL_law_X7_foresee : GoodIn wsL_law (wsV RL 151 RX7 yX7_foresee wsX7_foresee) := goodIn_app (goodIn_of _ (by decide +kernel)) ggL_law_X7_foresee
set_option maxRecDepth 20000 in
theorem ggL_law_L_advise : GoodIn wsL_law wsL_advise := goodIn_ca (goodIn_r _ [830, 111, 831, 832, 833, 2, 834, 117, 118, 20, 494, 495, 268, 657, 770, 771, 835, 836, 837, 838, 21, 16, 787, 788, 789, 19, 790, 46, 50, 54, 565, 604, 791, 792, 793, 45, 794, 60, 795, 144, 145, 146, 61, 62, 63, 64, 65, 66, 67, 68, 69, 70, 196, 796, 797, 798, 49, 799, 74, 800, 75, 501, 801, 802, 803, 53, 804, 79, 805, 80, 81, 82, 296, 839, 304, 305, 306, 561, 562, 563, 564, 566, 250, 251, 252, 567, 568, 569, 570, 334, 270, 271, 272, 571, 572, 573, 574, 575, 576, 56, 55, 577, 578, 579, 580, 581, 424, 425, 426, 478, 428, 429, 430, 582, 583, 584, 585, 586, 587, 588, 589, 323, 324, 590, 591, 592, 593, 594, 595, 277, 278, 279, 596, 288, 289, 290, 291, 597, 363, 364, 365, 598, 367, 368, 369, 315, 316, 317, 318, 599, 600, 601, 602, 603, 605, 470, 471, 472, 325, 473, 474, 475, 285, 286, 476, 173, 174, 15, 175, 35, 123, 124, 477, 189, 190, 191, 34, 180, 181, 182, 183, 132, 606, 607, 608, 609, 610, 320, 321, 322, 326, 327, 328, 329, 330, 331, 332, 333, 335, 274, 275, 611, 612, 613, 614, 615, 616, 617, 618, 619, 620, 621, 622, 623, 177, 178, 179, 32, 624, 185, 186, 187, 33, 625, 626, 627, 628, 662, 663, 664, 665, 864, 865, 866, 867, 868, 894, 895, 896, 897, 898, 899, 900, 917, 918, 919, 920, 921, 922, 923, 924, 905, 906, 907, 908, 909, 910, 911, 912, 913, 914, 915, 916, 887, 888, 889, 890, 891, 892, 893] rfl (by decide +kernel)) (goodIn_sub (fun _ h => List.mem_append_left _ (List.mem_append_left _ (List.mem_append_right _ h))) (by decide +kernel))
set_option maxRecDepth 20000 in
theorem gL_law_L_advise : GoodIn wsL_law (va_wsS RL 152 yL_advise wsL_advise) := goodIn_app (goodIn_of _ (by decide +kernel)) ggL_law_L_advise
set_option maxRecDepth 20000 in
theorem ggL_law_X7_advise : GoodIn wsL_law wsX7_advise := goodIn_r _ [843, 141, 97, 98, 147, 148, 5, 149, 150, 151, 152, 153, 810, 811, 812, 813, 814, 815, 816, 817, 818, 96, 819, 820, 821, 822, 823, 99, 100, 633, 634, 635, 636, 201, 352, 270, 271, 272, 101, 231, 353, 274, 275, 232, 210, 211, 212, 213, 214, 215, 216, 217, 257, 258, 259, 260, 95, 395, 396, 397, 398, 439, 440, 441, 442, 374, 375, 376, 377, 349, 350, 351, 637, 638, 639, 640, 447, 448, 449, 450, 451, 452, 453, 454, 455, 456, 457, 458, 459, 641, 642, 643, 644, 378, 379, 380, 381, 483, 484, 485, 486, 348, 285, 286, 206, 207, 208, 209, 94, 202, 203, 204, 205, 142, 678, 679, 680, 681, 682, 683, 684, 685, 686, 687, 688, 689, 443, 444, 445, 446, 824, 825, 826, 827, 869, 870, 871, 872, 873, 874, 875, 876, 877, 878, 879, 880, 881, 882, 883, 884, 885, 886] rfl (by decide +kernel)
set_option maxRecDepth 20000 in
theorem gL_law_X7_advise : GoodIn wsL_law (wsV RL 154 RX7 yX7_advise wsX7_advise) := goodIn_app (goodIn_of _ (by decide +kernel)) ggL_law_X7_advise
set_option maxRecDepth 20000 in
theorem ggL_law_X6_spare : GoodIn wsL_law wsX6_spare := goodIn_r _ [847, 20, 168, 240, 658, 659, 660, 45, 661, 196, 67, 390, 288, 289, 290, 291, 277, 278, 279, 423, 424, 425, 426, 62, 64, 427, 428, 429, 430, 65, 66, 864, 865, 866, 867, 868, 894, 895, 896, 897, 898, 899, 900, 905, 906, 907, 908, 909, 910, 911, 912, 913, 914, 915, 916] rfl (by decide +kernel)
set_option maxRecDepth 20000 in
theorem gL_law_X6_spare : GoodIn wsL_law (wsV RL 155 RX6 yX6_spare wsX6_spare) := goodIn_app (goodIn_of _ (by decide +kernel)) ggL_law_X6_spare
