set_option maxRecDepth 20000 in
theorem ggL_law_X7_spare : GoodIn wsL_law wsX7_spare := goodIn_r _ [851, 141, 201, 210, 211, 212, 5, 213, 214, 215, 216, 217, 96, 447, 448, 449, 450, 257, 258, 259, 260, 95, 451, 452, 453, 454, 455, 456, 457, 458, 459, 99, 682, 683, 684, 685, 869, 870, 871, 872, 873, 874, 875, 876, 877, 878, 879, 880, 881, 882, 883, 884, 885, 886] rfl (by decide +kernel)
set_option maxRecDepth 20000 in
theorem gL_law_X7_spare : GoodIn wsL_law (wsV RL 159 RX7 yX7_spare wsX7_spare) := goodIn_app (goodIn_of _ (by decide +kernel)) ggL_law_X7_spare
set_option maxRecDepth 20000 in
theorem ggL_law_X6_digest : GoodIn wsL_law wsX6_digest := goodIn_r _ [855, 856, 857, 20, 168, 240, 268, 657, 770, 771, 467, 468, 494, 495, 652, 653, 654, 2, 655, 656, 26, 560, 658, 659, 660, 45, 661, 196, 67, 662, 663, 664, 49, 665, 501, 75, 666, 667, 668, 669, 70, 670, 671, 672, 673, 65, 406, 407, 408, 409, 410, 411, 412, 413, 414, 389, 415, 416, 417, 418, 419, 420, 421, 53, 422, 296, 79, 80, 423, 424, 425, 426, 62, 64, 427, 428, 429, 430, 66, 544, 545, 546, 547, 513, 548, 864, 865, 866, 867, 868, 894, 895, 896, 897, 898, 899, 900, 905, 906, 907, 908, 909, 910, 911, 912, 913, 914, 915, 916, 920, 921, 922, 923, 924, 917, 918, 919] rfl (by decide +kernel)
set_option maxRecDepth 20000 in
theorem gL_law_X6_digest : GoodIn wsL_law (wsV RL 160 RX6 yX6_digest wsX6_digest) := goodIn_app (goodIn_of _ (by decide +kernel)) ggL_law_X6_digest
set_option maxRecDepth 20000 in
theorem ggL_law_X7_digest : GoodIn wsL_law wsX7_digest := goodIn_r _ [861, 141, 862, 863, 201, 97, 98, 459, 99, 678, 679, 680, 5, 681, 100, 101, 682, 683, 684, 685, 214, 215, 216, 217, 96, 686, 687, 688, 689, 443, 444, 445, 446, 374, 375, 376, 377, 349, 350, 351, 352, 270, 271, 272, 353, 274, 275, 439, 440, 441, 442, 210, 211, 212, 213, 435, 436, 437, 438, 257, 258, 259, 260, 95, 447, 448, 449, 450, 451, 452, 453, 454, 455, 456, 457, 458, 869, 870, 871, 872, 873, 874, 875, 876, 877, 878, 879, 880, 881, 882, 883, 884, 885, 886] rfl (by decide +kernel)
set_option maxRecDepth 20000 in
theorem gL_law_X7_digest : GoodIn wsL_law (wsV RL 164 RX7 yX7_digest wsX7_digest) := goodIn_app (goodIn_of _ (by decide +kernel)) ggL_law_X7_digest
