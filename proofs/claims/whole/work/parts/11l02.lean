set_option maxRecDepth 20000 in
theorem gL_law_X10_perform : GoodIn wsL_law (wsV RL 56 RX10 yX10_perform wsX10_perform) := goodIn_app (goodIn_of _ (by decide +kernel)) ggL_law_X10_perform
set_option maxRecDepth 20000 in
theorem ggL_law_X9_type : GoodIn wsL_law wsX9_type := goodIn_r _ [687, 26, 688, 689, 690, 25, 691, 98, 97, 865, 866, 867, 868, 869, 870, 893, 894, 895, 896, 897, 898, 899, 900, 901, 902, 903, 904] (by decide +kernel) (by decide +kernel)
set_option maxRecDepth 20000 in
theorem gL_law_X9_type : GoodIn wsL_law (wsV RL 57 RX9 yX9_type wsX9_type) := goodIn_app (goodIn_of _ (by decide +kernel)) ggL_law_X9_type
set_option maxRecDepth 20000 in
theorem ggL_law_X10_type : GoodIn wsL_law wsX10_type := goodIn_r _ [695, 671, 118, 871, 872, 873, 874, 875, 876, 877, 878, 879] (by decide +kernel) (by decide +kernel)
set_option maxRecDepth 20000 in
theorem gL_law_X10_type : GoodIn wsL_law (wsV RL 61 RX10 yX10_type wsX10_type) := goodIn_app (goodIn_of _ (by decide +kernel)) ggL_law_X10_type
set_option maxRecDepth 20000 in
theorem ggL_law_X9_clearText : GoodIn wsL_law wsX9_clearText := goodIn_r _ [699, 26, 700, 701, 702, 25, 703, 98, 865, 866, 867, 868, 869, 870, 893, 894, 895, 896, 897, 898, 899, 900, 901, 902, 903, 904] (by decide +kernel) (by decide +kernel)
set_option maxRecDepth 20000 in
theorem gL_law_X9_clearText : GoodIn wsL_law (wsV RL 62 RX9 yX9_clearText wsX9_clearText) := goodIn_app (goodIn_of _ (by decide +kernel)) ggL_law_X9_clearText
set_option maxRecDepth 20000 in
theorem ggL_law_X10_clearText : GoodIn wsL_law wsX10_clearText := goodIn_r _ [707, 671, 871, 872, 873, 874, 875, 876, 877, 878, 879] (by decide +kernel) (by decide +kernel)
set_option maxRecDepth 20000 in
theorem gL_law_X10_clearText : GoodIn wsL_law (wsV RL 65 RX10 yX10_clearText wsX10_clearText) := goodIn_app (goodIn_of _ (by decide +kernel)) ggL_law_X10_clearText
set_option maxRecDepth 20000 in
theorem ggL_law_X9_undo : GoodIn wsL_law wsX9_undo := goodIn_r _ [711, 22, 15, 712, 713, 714, 21, 715, 92, 177, 178, 179, 180, 91, 181, 125, 126, 14, 127, 33, 37, 41, 46, 47, 48, 49, 50, 51, 52, 128, 129, 130, 32, 131, 56, 57, 58, 59, 60, 132, 133, 134, 36, 135, 66, 65, 136, 137, 138, 139, 140, 141, 142, 40, 143, 72, 71, 144, 145, 146, 147, 865, 866, 867, 868, 869, 870, 891, 892, 880, 881, 882, 883, 884, 885, 886, 887, 888, 889, 890, 905, 906, 907, 908, 909, 910, 911, 912, 913] (by decide +kernel) (by decide +kernel)
set_option maxRecDepth 20000 in
theorem gL_law_X9_undo : GoodIn wsL_law (wsV RL 66 RX9 yX9_undo wsX9_undo) := goodIn_app (goodIn_of _ (by decide +kernel)) ggL_law_X9_undo
set_option maxRecDepth 20000 in
theorem ggL_law_X10_undo : GoodIn wsL_law wsX10_undo := goodIn_r _ [719, 197, 114, 117, 871, 872, 873, 874, 875, 876, 877, 878, 879] (by decide +kernel) (by decide +kernel)
set_option maxRecDepth 20000 in
theorem gL_law_X10_undo : GoodIn wsL_law (wsV RL 69 RX10 yX10_undo wsX10_undo) := goodIn_app (goodIn_of _ (by decide +kernel)) ggL_law_X10_undo
set_option maxRecDepth 20000 in
theorem ggL_law_X9_keep : GoodIn wsL_law wsX9_keep := goodIn_r _ [723, 17, 15, 18, 724, 124, 125, 126, 14, 127, 33, 37, 41, 46, 47, 48, 49, 50, 51, 52, 128, 129, 130, 32, 131, 56, 57, 58, 59, 60, 132, 133, 134, 36, 135, 66, 65, 136, 137, 138, 139, 140, 141, 142, 40, 143, 72, 71, 144, 145, 146, 147, 865, 866, 867, 868, 869, 870, 880, 881, 882, 883, 884, 885, 886, 887, 888, 889, 890, 905, 906, 907, 908, 909, 910, 911, 912, 913] (by decide +kernel) (by decide +kernel)
set_option maxRecDepth 20000 in
theorem gL_law_X9_keep : GoodIn wsL_law (wsV RL 70 RX9 yX9_keep wsX9_keep) := goodIn_app (goodIn_of _ (by decide +kernel)) ggL_law_X9_keep
set_option maxRecDepth 20000 in
theorem ggL_law_X10_keep : GoodIn wsL_law wsX10_keep := goodIn_r _ [728, 114, 116, 729, 241, 242, 5, 243, 871, 872, 873, 874, 875, 876, 877, 878, 879] (by decide +kernel) (by decide +kernel)
set_option maxRecDepth 20000 in
theorem gL_law_X10_keep : GoodIn wsL_law (wsV RL 73 RX10 yX10_keep wsX10_keep) := goodIn_app (goodIn_of _ (by decide +kernel)) ggL_law_X10_keep
set_option maxRecDepth 20000 in
theorem ggL_law_X9_restore : GoodIn wsL_law wsX9_restore := goodIn_r _ [733, 18, 16, 15, 17, 724, 124, 125, 126, 14, 127, 33, 37, 41, 46, 47, 48, 49, 50, 51, 52, 128, 129, 130, 32, 131, 56, 57, 58, 59, 60, 132, 133, 134, 36, 135, 66, 65, 136, 137, 138, 139, 140, 141, 142, 40, 143, 72, 71, 144, 145, 146, 147, 165, 166, 167, 2, 168, 22, 169, 170, 171, 21, 172, 92, 91, 173, 174, 175, 176, 177, 178, 179, 180, 181, 865, 866, 867, 868, 869, 870, 880, 881, 882, 883, 884, 885, 886, 887, 888, 889, 890, 905, 906, 907, 908, 909, 910, 911, 912, 913, 891, 892] (by decide +kernel) (by decide +kernel)
set_option maxRecDepth 20000 in
theorem gL_law_X9_restore : GoodIn wsL_law (wsV RL 74 RX9 yX9_restore wsX9_restore) := goodIn_app (goodIn_of _ (by decide +kernel)) ggL_law_X9_restore
set_option maxRecDepth 20000 in
theorem ggL_law_X10_restore : GoodIn wsL_law wsX10_restore := goodIn_r _ [737, 729, 114, 116, 193, 194, 195, 5, 196, 197, 117, 241, 242, 243, 871, 872, 873, 874, 875, 876, 877, 878, 879] (by decide +kernel) (by decide +kernel)
set_option maxRecDepth 20000 in
theorem gL_law_X10_restore : GoodIn wsL_law (wsV RL 77 RX10 yX10_restore wsX10_restore) := goodIn_app (goodIn_of _ (by decide +kernel)) ggL_law_X10_restore
set_option maxRecDepth 20000 in
theorem ggL_law_X9_sheet : GoodIn wsL_law wsX9_sheet := goodIn_r _ [741, 15, 742, 743, 744, 745, 746, 747, 269, 270, 36, 271, 65, 272, 748, 137, 138, 139, 749, 279, 280, 281, 214, 215, 216, 217, 865, 866, 867, 868, 869, 870, 880, 881, 882, 883, 884, 885, 886, 887, 888, 889, 890, 924, 925, 926, 927, 928, 910, 911] (by decide +kernel) (by decide +kernel)
