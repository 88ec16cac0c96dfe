set_option maxRecDepth 20000 in
theorem gL_law_X10_next : GoodIn wsL_law (wsV RL 102 RX10 yX10_next wsX10_next) := goodIn_app (goodIn_of _ (by decide +kernel)) ggL_law_X10_next
set_option maxRecDepth 20000 in
theorem ggL_law_X9_wouldPlan : GoodIn wsL_law wsX9_wouldPlan := goodIn_r _ [830, 16, 15, 831, 832, 833, 806, 524, 2, 525, 124, 125, 126, 14, 127, 33, 37, 41, 46, 47, 48, 49, 50, 51, 52, 128, 129, 130, 32, 131, 56, 57, 58, 59, 60, 132, 133, 134, 36, 135, 66, 65, 136, 137, 138, 139, 140, 141, 142, 40, 143, 72, 71, 144, 145, 146, 147, 520, 521, 522, 523, 526, 527, 528, 529, 411, 397, 398, 361, 399, 366, 530, 531, 532, 533, 373, 369, 534, 460, 461, 462, 371, 372, 535, 536, 537, 538, 45, 475, 273, 440, 441, 442, 44, 443, 444, 445, 446, 447, 448, 449, 450, 76, 451, 452, 453, 454, 455, 456, 457, 77, 78, 80, 81, 458, 292, 293, 223, 294, 230, 231, 459, 463, 464, 465, 466, 467, 468, 469, 470, 79, 82, 83, 84, 85, 539, 540, 541, 542, 543, 291, 278, 279, 280, 281, 214, 215, 216, 217, 471, 472, 473, 474, 476, 477, 478, 479, 480, 268, 269, 270, 271, 272, 282, 283, 284, 285, 286, 287, 288, 289, 290, 295, 296, 297, 298, 481, 482, 483, 484, 404, 360, 370, 367, 368, 405, 363, 364, 365, 10, 11, 406, 375, 376, 377, 378, 485, 486, 487, 488, 489, 490, 491, 210, 211, 212, 213, 218, 219, 220, 221, 64, 222, 224, 225, 226, 227, 228, 229, 232, 233, 234, 235, 236, 865, 866, 867, 868, 869, 870, 880, 881, 882, 883, 884, 885, 886, 887, 888, 889, 890, 905, 906, 907, 908, 909, 910, 911, 912, 913, 929, 930, 931, 932, 933, 934, 935, 936, 924, 925, 926, 927, 928, 914, 915, 916, 917, 918, 919, 920, 921, 922, 923] (by decide +kernel) (by decide +kernel)
set_option maxRecDepth 20000 in
theorem gL_law_X9_wouldPlan : GoodIn wsL_law (wsV RL 103 RX9 yX9_wouldPlan wsX9_wouldPlan) := goodIn_app (goodIn_of _ (by decide +kernel)) ggL_law_X9_wouldPlan
set_option maxRecDepth 20000 in
theorem ggL_law_X10_wouldPlan : GoodIn wsL_law wsX10_wouldPlan := goodIn_r _ [837, 114, 115, 186, 187, 5, 188, 241, 242, 243, 548, 549, 550, 551, 552, 553, 554, 555, 420, 421, 422, 423, 424, 425, 426, 427, 556, 557, 558, 559, 560, 561, 562, 563, 308, 309, 310, 311, 496, 497, 498, 499, 189, 190, 191, 192, 564, 565, 566, 567, 328, 329, 330, 331, 316, 317, 318, 319, 320, 321, 322, 323, 568, 569, 570, 571, 504, 505, 506, 507, 508, 509, 510, 511, 572, 573, 574, 575, 512, 513, 514, 515, 500, 501, 502, 503, 312, 313, 314, 315, 248, 249, 250, 251, 324, 325, 326, 327, 252, 253, 254, 255, 256, 257, 258, 259, 871, 872, 873, 874, 875, 876, 877, 878, 879] (by decide +kernel) (by decide +kernel)
set_option maxRecDepth 20000 in
theorem gL_law_X10_wouldPlan : GoodIn wsL_law (wsV RL 106 RX10 yX10_wouldPlan wsX10_wouldPlan) := goodIn_app (goodIn_of _ (by decide +kernel)) ggL_law_X10_wouldPlan
set_option maxRecDepth 20000 in
theorem ggL_law_X9_count : GoodIn wsL_law wsX9_count := goodIn_r _ [841, 15, 724, 742, 842, 843, 831, 833, 844, 832, 772, 845, 846, 22, 847, 26, 848, 123, 849, 850, 851, 36, 852, 65, 853, 854, 855, 856, 857, 292, 293, 223, 294, 230, 231, 858, 408, 409, 40, 410, 71, 411, 397, 398, 361, 399, 366, 859, 585, 586, 587, 588, 589, 590, 591, 368, 373, 860, 158, 159, 32, 160, 56, 57, 58, 59, 60, 865, 866, 867, 868, 869, 870, 880, 881, 882, 883, 884, 885, 886, 887, 888, 889, 890, 912, 913, 910, 911, 891, 892, 893, 894, 895, 896, 897, 898, 899, 900, 901, 902, 903, 904, 924, 925, 926, 927, 928, 929, 930, 931, 932, 933, 934, 935, 936, 905, 906, 907, 908, 909] (by decide +kernel) (by decide +kernel)
set_option maxRecDepth 20000 in
theorem gL_law_X9_count : GoodIn wsL_law (wsV RL 107 RX9 yX9_count wsX9_count) := goodIn_app (goodIn_of _ (by decide +kernel)) ggL_law_X9_count
set_option maxRecDepth 20000 in
theorem ggL_law_X10_count : GoodIn wsL_law wsX10_count := goodIn_r _ [864, 114, 197, 671, 308, 309, 310, 5, 311, 328, 329, 330, 331, 186, 187, 188, 189, 190, 191, 192, 428, 429, 430, 431, 420, 421, 422, 423, 424, 425, 426, 427, 600, 601, 602, 603, 604, 605, 606, 607, 871, 872, 873, 874, 875, 876, 877, 878, 879] (by decide +kernel) (by decide +kernel)
set_option maxRecDepth 20000 in
theorem gL_law_X10_count : GoodIn wsL_law (wsV RL 110 RX10 yX10_count wsX10_count) := goodIn_app (goodIn_of _ (by decide +kernel)) ggL_law_X10_count
theorem inX0 : ∀ w ∈ wsX00, w ∈ lw_tbl := fun w h => wsL_law_in w (inlX0 w h)
theorem inX1 : ∀ w ∈ wsX10, w ∈ lw_tbl := fun w h => wsL_law_in w (inlX1 w h)
theorem inX2 : ∀ w ∈ wsX20, w ∈ lw_tbl := fun w h => wsL_law_in w (inlX2 w h)
theorem inX3 : ∀ w ∈ wsX30, w ∈ lw_tbl := fun w h => wsL_law_in w (inlX3 w h)
theorem inX4 : ∀ w ∈ wsX40, w ∈ lw_tbl := fun w h => wsL_law_in w (inlX4 w h)
theorem inX5 : ∀ w ∈ wsX50, w ∈ lw_tbl := fun w h => wsL_law_in w (inlX5 w h)
theorem inX6 : ∀ w ∈ wsX60, w ∈ lw_tbl := fun w h => wsL_law_in w (inlX6 w h)
theorem inX7 : ∀ w ∈ wsX70, w ∈ lw_tbl := fun w h => wsL_law_in w (inlX7 w h)
theorem inX8 : ∀ w ∈ wsX80, w ∈ lw_tbl := fun w h => wsL_law_in w (inlX8 w h)
theorem inX9 : ∀ w ∈ wsX90, w ∈ lw_tbl := fun w h => wsL_law_in w (inlX9 w h)
theorem inX10 : ∀ w ∈ wsX100, w ∈ lw_tbl := fun w h => wsL_law_in w (inlX10 w h)
