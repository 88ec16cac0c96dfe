set_option maxRecDepth 20000 in
theorem gL_law_X9_sheet : GoodIn wsL_law (wsV RL 78 RX9 yX9_sheet wsX9_sheet) := goodIn_app (goodIn_of _ (by decide +kernel)) ggL_law_X9_sheet
set_option maxRecDepth 20000 in
theorem ggL_law_X10_sheet : GoodIn wsL_law wsX10_sheet := goodIn_r _ [753, 304, 305, 306, 5, 307, 114, 186, 187, 188, 308, 309, 310, 311, 316, 317, 318, 319, 320, 321, 322, 323, 871, 872, 873, 874, 875, 876, 877, 878, 879] (by decide +kernel) (by decide +kernel)
set_option maxRecDepth 20000 in
theorem gL_law_X10_sheet : GoodIn wsL_law (wsV RL 81 RX10 yX10_sheet wsX10_sheet) := goodIn_app (goodIn_of _ (by decide +kernel)) ggL_law_X10_sheet
set_option maxRecDepth 20000 in
theorem ggL_law_X9_at : GoodIn wsL_law wsX9_at := goodIn_r _ [757, 15, 742, 758, 759, 206, 2, 207, 760, 761, 762, 36, 763, 214, 215, 216, 217, 65, 136, 137, 138, 139, 865, 866, 867, 868, 869, 870, 880, 881, 882, 883, 884, 885, 886, 887, 888, 889, 890, 924, 925, 926, 927, 928, 910, 911] (by decide +kernel) (by decide +kernel)
set_option maxRecDepth 20000 in
theorem gL_law_X9_at : GoodIn wsL_law (wsV RL 82 RX9 yX9_at wsX9_at) := goodIn_app (goodIn_of _ (by decide +kernel)) ggL_law_X9_at
set_option maxRecDepth 20000 in
theorem ggL_law_X10_at : GoodIn wsL_law wsX10_at := goodIn_r _ [767, 186, 187, 5, 188, 248, 249, 250, 251, 114, 320, 321, 322, 323, 871, 872, 873, 874, 875, 876, 877, 878, 879] (by decide +kernel) (by decide +kernel)
set_option maxRecDepth 20000 in
theorem gL_law_X10_at : GoodIn wsL_law (wsV RL 85 RX10 yX10_at wsX10_at) := goodIn_app (goodIn_of _ (by decide +kernel)) ggL_law_X10_at
set_option maxRecDepth 20000 in
theorem ggL_law_X9_ordered : GoodIn wsL_law wsX9_ordered := goodIn_r _ [771, 15, 772, 773, 774, 775, 776, 777, 778, 779, 724, 780, 145, 146, 40, 147, 71, 781, 589, 590, 361, 591, 366, 368, 373, 865, 866, 867, 868, 869, 870, 880, 881, 882, 883, 884, 885, 886, 887, 888, 889, 890, 929, 930, 931, 932, 933, 934, 935, 936, 912, 913] (by decide +kernel) (by decide +kernel)
set_option maxRecDepth 20000 in
theorem gL_law_X9_ordered : GoodIn wsL_law (wsV RL 86 RX9 yX9_ordered wsX9_ordered) := goodIn_app (goodIn_of _ (by decide +kernel)) ggL_law_X9_ordered
set_option maxRecDepth 20000 in
theorem ggL_law_X10_ordered : GoodIn wsL_law wsX10_ordered := goodIn_r _ [785, 416, 417, 418, 5, 419, 114, 186, 187, 188, 604, 605, 606, 607, 420, 421, 422, 423, 424, 425, 426, 427, 871, 872, 873, 874, 875, 876, 877, 878, 879] (by decide +kernel) (by decide +kernel)
set_option maxRecDepth 20000 in
theorem gL_law_X10_ordered : GoodIn wsL_law (wsV RL 89 RX10 yX10_ordered wsX10_ordered) := goodIn_app (goodIn_of _ (by decide +kernel)) ggL_law_X10_ordered
set_option maxRecDepth 20000 in
theorem ggL_law_X9_would : GoodIn wsL_law wsX9_would := goodIn_r _ [789, 15, 772, 742, 790, 123, 791, 792, 793, 794, 795, 796, 780, 145, 146, 40, 147, 71, 747, 269, 270, 36, 271, 65, 272, 748, 137, 138, 139, 797, 441, 442, 44, 443, 444, 445, 446, 447, 448, 449, 450, 76, 451, 452, 453, 454, 455, 456, 457, 77, 78, 80, 81, 458, 292, 293, 223, 294, 230, 231, 459, 460, 461, 361, 462, 371, 372, 463, 464, 465, 466, 467, 468, 469, 470, 79, 82, 83, 84, 85, 749, 279, 280, 281, 214, 215, 216, 217, 865, 866, 867, 868, 869, 870, 880, 881, 882, 883, 884, 885, 886, 887, 888, 889, 890, 914, 915, 916, 917, 918, 919, 920, 921, 922, 923, 912, 913, 910, 911, 924, 925, 926, 927, 928, 929, 930, 931, 932, 933, 934, 935, 936, 905, 906, 907, 908, 909] (by decide +kernel) (by decide +kernel)
set_option maxRecDepth 20000 in
theorem gL_law_X9_would : GoodIn wsL_law (wsV RL 90 RX9 yX9_would wsX9_would) := goodIn_app (goodIn_of _ (by decide +kernel)) ggL_law_X9_would
set_option maxRecDepth 20000 in
theorem ggL_law_X10_would : GoodIn wsL_law wsX10_would := goodIn_r _ [801, 416, 417, 418, 5, 419, 114, 186, 187, 188, 304, 305, 306, 307, 308, 309, 310, 311, 496, 497, 498, 499, 424, 425, 426, 427, 189, 190, 191, 192, 504, 505, 506, 507, 508, 509, 510, 511, 316, 317, 318, 319, 320, 321, 322, 323, 572, 573, 574, 575, 512, 513, 514, 515, 568, 569, 570, 571, 328, 329, 330, 331, 871, 872, 873, 874, 875, 876, 877, 878, 879] (by decide +kernel) (by decide +kernel)
set_option maxRecDepth 20000 in
theorem gL_law_X10_would : GoodIn wsL_law (wsV RL 94 RX10 yX10_would wsX10_would) := goodIn_app (goodIn_of _ (by decide +kernel)) ggL_law_X10_would
set_option maxRecDepth 20000 in
theorem ggL_law_X9_choice : GoodIn wsL_law wsX9_choice := goodIn_r _ [805, 15, 772, 758, 780, 145, 146, 40, 147, 71, 806, 524, 2, 525, 807, 397, 398, 361, 399, 366, 808, 536, 537, 14, 538, 37, 45, 33, 475, 273, 137, 138, 36, 139, 65, 440, 441, 442, 44, 443, 444, 445, 446, 447, 448, 449, 450, 76, 451, 452, 453, 454, 455, 456, 457, 77, 78, 80, 81, 458, 292, 293, 223, 294, 230, 231, 459, 460, 461, 462, 371, 372, 463, 464, 465, 466, 467, 468, 469, 470, 79, 82, 83, 84, 85, 539, 540, 541, 542, 543, 291, 278, 279, 280, 281, 214, 215, 216, 217, 865, 866, 867, 868, 869, 870, 880, 881, 882, 883, 884, 885, 886, 887, 888, 889, 890, 924, 925, 926, 927, 928, 912, 913, 929, 930, 931, 932, 933, 934, 935, 936, 910, 911, 905, 906, 907, 908, 909, 914, 915, 916, 917, 918, 919, 920, 921, 922, 923] (by decide +kernel) (by decide +kernel)
set_option maxRecDepth 20000 in
theorem gL_law_X9_choice : GoodIn wsL_law (wsV RL 95 RX9 yX9_choice wsX9_choice) := goodIn_app (goodIn_of _ (by decide +kernel)) ggL_law_X9_choice
set_option maxRecDepth 20000 in
theorem ggL_law_X10_choice : GoodIn wsL_law wsX10_choice := goodIn_r _ [812, 416, 417, 418, 5, 419, 114, 186, 187, 188, 420, 421, 422, 423, 424, 425, 426, 427, 560, 561, 562, 563, 308, 309, 310, 311, 496, 497, 498, 499, 189, 190, 191, 192, 564, 565, 566, 567, 328, 329, 330, 331, 316, 317, 318, 319, 320, 321, 322, 323, 568, 569, 570, 571, 504, 505, 506, 507, 508, 509, 510, 511, 572, 573, 574, 575, 512, 513, 514, 515, 871, 872, 873, 874, 875, 876, 877, 878, 879] (by decide +kernel) (by decide +kernel)
set_option maxRecDepth 20000 in
theorem gL_law_X10_choice : GoodIn wsL_law (wsV RL 98 RX10 yX10_choice wsX10_choice) := goodIn_app (goodIn_of _ (by decide +kernel)) ggL_law_X10_choice
set_option maxRecDepth 20000 in
theorem ggL_law_X9_next : GoodIn wsL_law wsX9_next := goodIn_r _ [816, 15, 772, 817, 818, 819, 820, 40, 821, 822, 527, 528, 529, 71, 411, 397, 398, 361, 399, 366, 530, 531, 532, 533, 373, 369, 534, 460, 461, 462, 371, 372, 865, 866, 867, 868, 869, 870, 880, 881, 882, 883, 884, 885, 886, 887, 888, 889, 890, 929, 930, 931, 932, 933, 934, 935, 936, 912, 913] (by decide +kernel) (by decide +kernel)
set_option maxRecDepth 20000 in
theorem gL_law_X9_next : GoodIn wsL_law (wsV RL 99 RX9 yX9_next wsX9_next) := goodIn_app (goodIn_of _ (by decide +kernel)) ggL_law_X9_next
set_option maxRecDepth 20000 in
theorem ggL_law_X10_next : GoodIn wsL_law wsX10_next := goodIn_r _ [826, 552, 553, 554, 5, 555, 114, 420, 421, 422, 423, 424, 425, 426, 427, 556, 557, 558, 559, 871, 872, 873, 874, 875, 876, 877, 878, 879] (by decide +kernel) (by decide +kernel)
