set_option maxRecDepth 20000 in
theorem ggX8_measureOf_X7_area : GoodIn wsX8_measureOf wsX7_area := goodIn_r _ [8, 9, 10, 42, 43, 44, 45, 46] (by decide +kernel) (by decide +kernel)
set_option maxRecDepth 20000 in
theorem gX8_measureOf_X7_area : GoodIn wsX8_measureOf (wsV RX8 109 RX7 yX7_area wsX7_area) := goodIn_app (goodIn_of _ (by decide +kernel)) ggX8_measureOf_X7_area
set_option maxRecDepth 20000 in
theorem ggX8_measureOf_X5_sheetsBefore : GoodIn wsX8_measureOf wsX5_sheetsBefore := goodIn_r _ [15, 16, 17, 18, 14, 19, 20, 47, 48] (by decide +kernel) (by decide +kernel)
set_option maxRecDepth 20000 in
theorem gX8_measureOf_X5_sheetsBefore : GoodIn wsX8_measureOf (wsV RX8 99 RX5 yX5_sheetsBefore wsX5_sheetsBefore) := goodIn_app (goodIn_of _ (by decide +kernel)) ggX8_measureOf_X5_sheetsBefore
set_option maxRecDepth 20000 in
theorem ggX8_cutOpenOrder_X5_slotOf : GoodIn wsX8_cutOpenOrder wsX5_slotOf := goodIn_r _ [18, 19, 20, 182, 183, 167, 168, 169, 170, 171] (by decide +kernel) (by decide +kernel)
set_option maxRecDepth 20000 in
theorem gX8_cutOpenOrder_X5_slotOf : GoodIn wsX8_cutOpenOrder (wsV RX8 88 RX5 yX5_slotOf wsX5_slotOf) := goodIn_app (goodIn_of _ (by decide +kernel)) ggX8_cutOpenOrder_X5_slotOf
set_option maxRecDepth 20000 in
theorem ggX8_cutOpenOrder_X8_takeOut : GoodIn wsX8_cutOpenOrder wsX8_takeOut := goodIn_r _ [25, 1, 26, 4, 27, 28, 29, 30, 17, 31, 32, 33, 34, 35, 19, 36, 37, 38, 24, 39, 40, 41, 42, 43, 44, 45, 46, 47, 48, 49, 50, 51, 52, 53, 54, 55, 156, 157, 158, 159, 160, 161, 162, 163, 164, 165, 166, 184, 185, 186, 187, 188, 182, 183, 167, 168, 169, 170, 171] (by decide +kernel) (by decide +kernel)
set_option maxRecDepth 20000 in
theorem gX8_cutOpenOrder_X8_takeOut : GoodIn wsX8_cutOpenOrder (wsV RX8 102 RX8 yX8_takeOut wsX8_takeOut) := goodIn_app (goodIn_of _ (by decide +kernel)) ggX8_cutOpenOrder_X8_takeOut
set_option maxRecDepth 20000 in
theorem ggX8_cutOpenOrder_X1_layOut : GoodIn wsX8_cutOpenOrder wsX1_layOut := goodIn_r _ [60, 61, 62, 63, 64, 65, 66, 67, 68, 69, 70, 71, 72, 59, 73, 74, 75, 76, 77, 78, 79, 80, 46, 47, 48, 49, 50, 51, 81, 82, 83, 84, 85, 86, 87, 88, 89, 90, 91, 92, 93, 94, 95, 96, 97, 98, 99, 100, 189, 190, 191, 192, 193, 194, 195, 196, 167, 168, 169, 170, 171, 184, 185, 186, 187, 188, 172, 173, 174, 175, 176, 177, 178, 179, 180, 181] (by decide +kernel) (by decide +kernel)
set_option maxRecDepth 20000 in
theorem gX8_cutOpenOrder_X1_layOut : GoodIn wsX8_cutOpenOrder (wsV RX8 141 RX1 yX1_layOut wsX1_layOut) := goodIn_app (goodIn_of _ (by decide +kernel)) ggX8_cutOpenOrder_X1_layOut
set_option maxRecDepth 20000 in
theorem ggX8_cutOpenOrder_X3_asCut : GoodIn wsX8_cutOpenOrder wsX3_asCut := goodIn_r _ [104, 105, 106, 84, 107, 108, 86, 87, 109, 110, 111, 112, 113, 114, 115, 116, 117, 118, 189, 190, 191, 192, 193, 194, 195, 196] (by decide +kernel) (by decide +kernel)
set_option maxRecDepth 20000 in
theorem gX8_cutOpenOrder_X3_asCut : GoodIn wsX8_cutOpenOrder (wsV RX8 171 RX3 yX3_asCut wsX3_asCut) := goodIn_app (goodIn_of _ (by decide +kernel)) ggX8_cutOpenOrder_X3_asCut
set_option maxRecDepth 20000 in
theorem ggX8_cutOpenOrder_X4_replace : GoodIn wsX8_cutOpenOrder wsX4_replace := goodIn_r _ [123, 124, 125, 189, 190, 191, 192, 193, 194, 195, 196, 197, 198] (by decide +kernel) (by decide +kernel)
set_option maxRecDepth 20000 in
theorem gX8_cutOpenOrder_X4_replace : GoodIn wsX8_cutOpenOrder (wsV RX8 134 RX4 yX4_replace wsX4_replace) := goodIn_app (goodIn_of _ (by decide +kernel)) ggX8_cutOpenOrder_X4_replace
set_option maxRecDepth 20000 in
theorem ggX8_cutOpenOrder_X3_area : GoodIn wsX8_cutOpenOrder wsX3_area := goodIn_r _ [85, 86, 87, 189, 190, 191, 192, 193, 194, 195, 196] (by decide +kernel) (by decide +kernel)
set_option maxRecDepth 20000 in
theorem gX8_cutOpenOrder_X3_area : GoodIn wsX8_cutOpenOrder (wsV RX8 175 RX3 yX3_area wsX3_area) := goodIn_app (goodIn_of _ (by decide +kernel)) ggX8_cutOpenOrder_X3_area
set_option maxRecDepth 20000 in
theorem ggX8_cutOpenOrder_X8_keepOrScrap : GoodIn wsX8_cutOpenOrder wsX8_keepOrScrap := goodIn_r _ [130, 4, 131, 1, 132, 2, 133, 134, 135, 136, 17, 137, 138, 32, 33, 34, 35, 19, 139, 140, 141, 142, 143, 144, 48, 145, 146, 147, 148, 117, 118, 149, 150, 50, 51, 151, 152, 153, 154, 155, 156, 157, 158, 159, 160, 161, 162, 163, 164, 165, 166, 184, 185, 186, 187, 188, 167, 168, 169, 170, 171, 182, 183] (by decide +kernel) (by decide +kernel)
set_option maxRecDepth 20000 in
theorem gX8_cutOpenOrder_X8_keepOrScrap : GoodIn wsX8_cutOpenOrder (wsV RX8 183 RX8 yX8_keepOrScrap wsX8_keepOrScrap) := goodIn_app (goodIn_of _ (by decide +kernel)) ggX8_cutOpenOrder_X8_keepOrScrap
set_option maxRecDepth 20000 in
theorem ggX8_keepOrScrap_X5_hasRoom : GoodIn wsX8_keepOrScrap wsX5_hasRoom := goodIn_r _ [11, 12, 13, 14, 15, 10, 16, 17, 61, 62] (by decide +kernel) (by decide +kernel)
set_option maxRecDepth 20000 in
theorem gX8_keepOrScrap_X5_hasRoom : GoodIn wsX8_keepOrScrap (wsV RX8 81 RX5 yX5_hasRoom wsX5_hasRoom) := goodIn_app (goodIn_of _ (by decide +kernel)) ggX8_keepOrScrap_X5_hasRoom
set_option maxRecDepth 20000 in
theorem ggX8_keepOrScrap_X5_addNew : GoodIn wsX8_keepOrScrap wsX5_addNew := goodIn_r _ [21, 12, 22, 23, 24, 25, 26, 27, 28, 29, 30, 31, 32, 33, 34, 35, 36, 37, 38, 10, 39, 17, 61, 62, 56, 57, 58, 59, 60] (by decide +kernel) (by decide +kernel)
set_option maxRecDepth 20000 in
theorem gX8_keepOrScrap_X5_addNew : GoodIn wsX8_keepOrScrap (wsV RX8 84 RX5 yX5_addNew wsX5_addNew) := goodIn_app (goodIn_of _ (by decide +kernel)) ggX8_keepOrScrap_X5_addNew
set_option maxRecDepth 20000 in
theorem ggX8_takeOut_X5_sheetsBefore : GoodIn wsX8_takeOut wsX5_sheetsBefore := goodIn_r _ [9, 10, 11, 12, 8, 13, 14, 52, 53] (by decide +kernel) (by decide +kernel)
set_option maxRecDepth 20000 in
theorem gX8_takeOut_X5_sheetsBefore : GoodIn wsX8_takeOut (wsV RX8 99 RX5 yX5_sheetsBefore wsX5_sheetsBefore) := goodIn_app (goodIn_of _ (by decide +kernel)) ggX8_takeOut_X5_sheetsBefore
set_option maxRecDepth 20000 in
theorem ggX8_takeOut_X8_breakSheet : GoodIn wsX8_takeOut wsX8_breakSheet := goodIn_r _ [19, 1, 20, 21, 22, 23, 8, 24, 14, 25, 26, 27, 28, 29, 30, 31, 32, 33, 34, 35, 36, 37, 38, 39, 40, 41, 42, 43, 44, 45, 46, 52, 53, 54, 55, 56, 57, 58] (by decide +kernel) (by decide +kernel)
set_option maxRecDepth 20000 in
theorem gX8_takeOut_X8_breakSheet : GoodIn wsX8_takeOut (wsV RX8 202 RX8 yX8_breakSheet wsX8_breakSheet) := goodIn_app (goodIn_of _ (by decide +kernel)) ggX8_takeOut_X8_breakSheet
set_option maxRecDepth 20000 in
theorem ggX8_takeOut_X5_removeFrom : GoodIn wsX8_takeOut wsX5_removeFrom := goodIn_r _ [35, 14, 52, 53] (by decide +kernel) (by decide +kernel)
set_option maxRecDepth 20000 in
theorem gX8_takeOut_X5_removeFrom : GoodIn wsX8_takeOut (wsV RX8 206 RX5 yX5_removeFrom wsX5_removeFrom) := goodIn_app (goodIn_of _ (by decide +kernel)) ggX8_takeOut_X5_removeFrom
set_option maxRecDepth 20000 in
theorem ggX8_breakSheet_X5_inSlot : GoodIn wsX8_breakSheet wsX5_inSlot := goodIn_r _ [7, 8, 31, 32] (by decide +kernel) (by decide +kernel)
set_option maxRecDepth 20000 in
theorem gX8_breakSheet_X5_inSlot : GoodIn wsX8_breakSheet (wsV RX8 92 RX5 yX5_inSlot wsX5_inSlot) := goodIn_app (goodIn_of _ (by decide +kernel)) ggX8_breakSheet_X5_inSlot
set_option maxRecDepth 20000 in
theorem ggX8_breakSheet_X7_area : GoodIn wsX8_breakSheet wsX7_area := goodIn_r _ [13, 14, 15, 33, 34, 35, 36, 37] (by decide +kernel) (by decide +kernel)
set_option maxRecDepth 20000 in
theorem gX8_breakSheet_X7_area : GoodIn wsX8_breakSheet (wsV RX8 109 RX7 yX7_area wsX7_area) := goodIn_app (goodIn_of _ (by decide +kernel)) ggX8_breakSheet_X7_area
set_option maxRecDepth 20000 in
theorem ggX8_breakSheet_X5_removeFrom : GoodIn wsX8_breakSheet wsX5_removeFrom := goodIn_r _ [19, 8, 31, 32] (by decide +kernel) (by decide +kernel)
set_option maxRecDepth 20000 in
theorem gX8_breakSheet_X5_removeFrom : GoodIn wsX8_breakSheet (wsV RX8 206 RX5 yX5_removeFrom wsX5_removeFrom) := goodIn_app (goodIn_of _ (by decide +kernel)) ggX8_breakSheet_X5_removeFrom
set_option maxRecDepth 20000 in
theorem ggX9_init_X8_init : GoodIn wsX9_init wsX8_init := goodIn_r _ [20, 21, 2, 3, 22, 23, 24, 25, 26, 27, 28, 29, 30, 31, 32, 33, 34, 35, 36, 37, 38, 39, 40, 41, 42, 43, 44, 45, 46, 47, 48, 49, 50, 51, 52, 53, 54, 55, 56, 57, 58, 59, 60, 61, 62, 63, 64, 65, 66, 67, 68, 69, 70, 71, 72, 73, 74, 75, 76, 77, 132, 133, 134, 135, 136, 101, 102, 103, 104, 105, 106, 107, 108, 109, 110, 111, 137, 138, 139, 140, 141, 142, 143, 144, 145, 146, 147, 148, 149, 150] (by decide +kernel) (by decide +kernel)
set_option maxRecDepth 20000 in
theorem gX9_init_X8_init_n11 : GoodIn wsX9_init (wsX8_init) := ggX9_init_X8_init
set_option maxRecDepth 20000 in
theorem ggX9_init_X2_init : GoodIn wsX9_init wsX2_init := goodIn_r _ [80, 81, 2, 3, 82, 83, 84, 5, 6, 19, 20, 21, 22, 23, 24, 25, 26, 27, 28, 29, 30, 31, 32, 33, 34, 35, 36, 37, 38, 39, 40, 41, 42, 43, 44, 45, 46, 47, 48, 49, 50, 51, 52, 53, 54, 55, 56, 57, 58, 59, 60, 61, 62, 63, 64, 65, 66, 67, 68, 69, 70, 71, 72, 73, 74, 75, 76, 77, 118, 119, 101, 102, 103, 104, 105, 106, 107, 108, 109, 110, 111, 132, 133, 134, 135, 136, 137, 138, 139, 140, 141, 142, 143, 144, 145, 146, 147, 148, 149, 150] (by decide +kernel) (by decide +kernel)
set_option maxRecDepth 20000 in
theorem gX9_init_X2_init : GoodIn wsX9_init (wsX2_init) := ggX9_init_X2_init
set_option maxRecDepth 20000 in
theorem ggX9_init_X0_init : GoodIn wsX9_init wsX0_init := goodIn_r _ [86, 87, 2, 3, 88, 89, 90, 91, 92, 93, 94, 95, 96, 97, 98, 99, 100, 120, 121, 122, 123, 124, 125, 126, 127, 128, 129, 130, 131] (by decide +kernel) (by decide +kernel)
set_option maxRecDepth 20000 in
theorem gX9_init_X0_init_n35 : GoodIn wsX9_init (wsX0_init) := ggX9_init_X0_init
set_option maxRecDepth 20000 in
theorem ggX9_set_X8_copyFrom : GoodIn wsX9_set wsX8_copyFrom := goodIn_r _ [8, 9, 10, 11, 12, 13, 14, 15, 16, 17, 18, 19, 20, 21, 22, 23, 24, 25, 26, 27, 28, 29, 30, 31, 32, 33, 34, 35, 36, 37, 38, 39, 40, 41, 42, 43, 44, 45, 46, 47, 48, 49, 50, 96, 97, 98, 99, 100, 101, 102, 103, 104, 105, 106, 107, 108, 109, 110, 111, 112, 113, 114, 115] (by decide +kernel) (by decide +kernel)
set_option maxRecDepth 20000 in
theorem gX9_set_X8_copyFrom : GoodIn wsX9_set (wsV RX9 40 RX8 yX8_copyFrom wsX8_copyFrom) := goodIn_app (goodIn_of _ (by decide +kernel)) ggX9_set_X8_copyFrom
set_option maxRecDepth 20000 in
theorem ggX9_set_X6_change : GoodIn wsX9_set wsX6_change := goodIn_r _ [54, 55, 56, 22, 57, 58, 59, 60, 61, 62, 63, 64, 24, 25, 26, 27, 28, 65, 66, 67, 68, 107, 108, 109, 110, 111] (by decide +kernel) (by decide +kernel)
set_option maxRecDepth 20000 in
theorem gX9_set_X6_change : GoodIn wsX9_set (wsV RX9 48 RX6 yX6_change wsX6_change) := goodIn_app (goodIn_of _ (by decide +kernel)) ggX9_set_X6_change
set_option maxRecDepth 20000 in
theorem ggX9_set_X9_recorded : GoodIn wsX9_set wsX9_recorded := goodIn_r _ [72, 73, 1, 74, 75, 76, 77, 78, 79, 80, 81, 82, 83, 84, 85, 86, 87, 88, 89, 5, 6, 7, 8, 9, 10, 11, 12, 13, 14, 15, 16, 17, 18, 19, 20, 21, 22, 23, 24, 25, 26, 27, 28, 29, 30, 31, 32, 33, 34, 35, 36, 37, 38, 39, 40, 41, 42, 43, 44, 45, 46, 47, 48, 49, 50, 90, 91, 92, 93, 94, 95, 116, 117, 96, 97, 98, 99, 100, 101, 102, 103, 104, 105, 106, 107, 108, 109, 110, 111, 112, 113, 114, 115] (by decide +kernel) (by decide +kernel)
set_option maxRecDepth 20000 in
theorem gX9_set_X9_recorded : GoodIn wsX9_set (wsV RX9 54 RX9 yX9_recorded wsX9_recorded) := goodIn_app (goodIn_of _ (by decide +kernel)) ggX9_set_X9_recorded
set_option maxRecDepth 20000 in
theorem ggX9_buy_X8_copyFrom : GoodIn wsX9_buy wsX8_copyFrom := goodIn_r _ [7, 8, 9, 10, 11, 12, 13, 14, 15, 16, 17, 18, 19, 20, 21, 22, 23, 24, 25, 26, 27, 28, 29, 30, 31, 32, 33, 34, 35, 36, 37, 38, 39, 40, 41, 42, 43, 44, 45, 46, 47, 48, 49, 118, 119, 120, 121, 122, 123, 124, 125, 126, 127, 128, 129, 130, 131, 132, 133, 134, 135, 136, 137] (by decide +kernel) (by decide +kernel)
set_option maxRecDepth 20000 in
theorem gX9_buy_X8_copyFrom : GoodIn wsX9_buy (wsV RX9 40 RX8 yX8_copyFrom wsX8_copyFrom) := goodIn_app (goodIn_of _ (by decide +kernel)) ggX9_buy_X8_copyFrom
set_option maxRecDepth 20000 in
theorem ggX9_buy_X8_buySheet : GoodIn wsX9_buy wsX8_buySheet := goodIn_r _ [53, 9, 12, 54, 55, 56, 57, 58, 59, 60, 61, 62, 63, 31, 64, 33, 65, 66, 67, 68, 34, 69, 70, 71, 72, 73, 74, 75, 76, 77, 78, 79, 80, 81, 82, 83, 84, 85, 86, 87, 88, 89, 90, 118, 119, 120, 121, 122, 123, 124, 125, 126, 127, 128, 134, 135, 138, 139, 140, 141, 142] (by decide +kernel) (by decide +kernel)
set_option maxRecDepth 20000 in
theorem gX9_buy_X8_buySheet : GoodIn wsX9_buy (wsV RX9 58 RX8 yX8_buySheet wsX8_buySheet) := goodIn_app (goodIn_of _ (by decide +kernel)) ggX9_buy_X8_buySheet
set_option maxRecDepth 20000 in
theorem ggX9_buy_X9_recorded : GoodIn wsX9_buy wsX9_recorded := goodIn_r _ [94, 95, 1, 96, 97, 98, 99, 100, 101, 102, 103, 104, 105, 106, 107, 108, 109, 110, 111, 4, 5, 6, 7, 8, 9, 10, 11, 12, 13, 14, 15, 16, 17, 18, 19, 20, 21, 22, 23, 24, 25, 26, 27, 28, 29, 30, 31, 32, 33, 34, 35, 36, 37, 38, 39, 40, 41, 42, 43, 44, 45, 46, 47, 48, 49, 112, 113, 114, 115, 116, 117, 143, 144, 118, 119, 120, 121, 122, 123, 124, 125, 126, 127, 128, 129, 130, 131, 132, 133, 134, 135, 136, 137] (by decide +kernel) (by decide +kernel)
set_option maxRecDepth 20000 in
theorem gX9_buy_X9_recorded : GoodIn wsX9_buy (wsV RX9 54 RX9 yX9_recorded wsX9_recorded) := goodIn_app (goodIn_of _ (by decide +kernel)) ggX9_buy_X9_recorded
set_option maxRecDepth 20000 in
theorem ggX9_move_X8_copyFrom : GoodIn wsX9_move wsX8_copyFrom := goodIn_r _ [7, 8, 9, 10, 11, 12, 13, 14, 15, 16, 17, 18, 19, 20, 21, 22, 23, 24, 25, 26, 27, 28, 29, 30, 31, 32, 33, 34, 35, 36, 37, 38, 39, 40, 41, 42, 43, 44, 45, 46, 47, 48, 49, 126, 127, 128, 129, 130, 131, 132, 133, 134, 135, 136, 137, 138, 139, 140, 141, 142, 143, 144, 145] (by decide +kernel) (by decide +kernel)
set_option maxRecDepth 20000 in
theorem gX9_move_X8_copyFrom : GoodIn wsX9_move (wsV RX9 40 RX8 yX8_copyFrom wsX8_copyFrom) := goodIn_app (goodIn_of _ (by decide +kernel)) ggX9_move_X8_copyFrom
set_option maxRecDepth 20000 in
theorem ggX9_move_X8_moveSheet : GoodIn wsX9_move wsX8_moveSheet := goodIn_r _ [53, 9, 54, 55, 56, 31, 57, 34, 58, 59, 36, 37, 38, 60, 61, 62, 63, 64, 65, 66, 67, 68, 69, 70, 71, 72, 73, 74, 75, 76, 77, 6, 78, 17, 8, 79, 80, 81, 82, 83, 15, 84, 85, 86, 87, 88, 89, 90, 91, 92, 93, 94, 95, 96, 97, 98, 126, 127, 128, 129, 130, 131, 132, 133, 134, 135, 136, 142, 143, 146, 147, 148, 149, 150, 137, 138, 139, 140, 141] (by decide +kernel) (by decide +kernel)
set_option maxRecDepth 20000 in
theorem gX9_move_X8_moveSheet : GoodIn wsX9_move (wsV RX9 62 RX8 yX8_moveSheet wsX8_moveSheet) := goodIn_app (goodIn_of _ (by decide +kernel)) ggX9_move_X8_moveSheet
set_option maxRecDepth 20000 in
theorem ggX9_move_X9_recorded : GoodIn wsX9_move wsX9_recorded := goodIn_r _ [102, 103, 1, 104, 105, 106, 107, 108, 109, 110, 111, 112, 113, 114, 115, 116, 117, 118, 119, 4, 5, 6, 7, 8, 9, 10, 11, 12, 13, 14, 15, 16, 17, 18, 19, 20, 21, 22, 23, 24, 25, 26, 27, 28, 29, 30, 31, 32, 33, 34, 35, 36, 37, 38, 39, 40, 41, 42, 43, 44, 45, 46, 47, 48, 49, 120, 121, 122, 123, 124, 125, 151, 152, 126, 127, 128, 129, 130, 131, 132, 133, 134, 135, 136, 137, 138, 139, 140, 141, 142, 143, 144, 145] (by decide +kernel) (by decide +kernel)
set_option maxRecDepth 20000 in
theorem gX9_move_X9_recorded : GoodIn wsX9_move (wsV RX9 54 RX9 yX9_recorded wsX9_recorded) := goodIn_app (goodIn_of _ (by decide +kernel)) ggX9_move_X9_recorded
set_option maxRecDepth 20000 in
theorem ggX9_scrap_X8_copyFrom : GoodIn wsX9_scrap wsX8_copyFrom := goodIn_r _ [7, 8, 9, 10, 11, 12, 13, 14, 15, 16, 17, 18, 19, 20, 21, 22, 23, 24, 25, 26, 27, 28, 29, 30, 31, 32, 33, 34, 35, 36, 37, 38, 39, 40, 41, 42, 43, 44, 45, 46, 47, 48, 49, 116, 117, 118, 119, 120, 121, 122, 123, 124, 125, 126, 127, 128, 129, 130, 131, 132, 133, 134, 135] (by decide +kernel) (by decide +kernel)
set_option maxRecDepth 20000 in
theorem gX9_scrap_X8_copyFrom : GoodIn wsX9_scrap (wsV RX9 40 RX8 yX8_copyFrom wsX8_copyFrom) := goodIn_app (goodIn_of _ (by decide +kernel)) ggX9_scrap_X8_copyFrom
set_option maxRecDepth 20000 in
theorem ggX9_scrap_X8_scrapSheet : GoodIn wsX9_scrap wsX8_scrapSheet := goodIn_r _ [53, 9, 14, 54, 55, 56, 31, 57, 34, 58, 59, 36, 37, 38, 60, 61, 62, 6, 63, 17, 8, 64, 65, 66, 67, 68, 69, 70, 71, 72, 73, 74, 75, 76, 15, 77, 78, 79, 80, 81, 82, 83, 84, 85, 86, 87, 116, 117, 118, 119, 120, 121, 122, 123, 124, 125, 126, 132, 133, 136, 137, 138, 139, 140, 127, 128, 129, 130, 131] (by decide +kernel) (by decide +kernel)
set_option maxRecDepth 20000 in
theorem gX9_scrap_X8_scrapSheet : GoodIn wsX9_scrap (wsV RX9 65 RX8 yX8_scrapSheet wsX8_scrapSheet) := goodIn_app (goodIn_of _ (by decide +kernel)) ggX9_scrap_X8_scrapSheet
set_option maxRecDepth 20000 in
theorem ggX9_scrap_X9_recorded : GoodIn wsX9_scrap wsX9_recorded := goodIn_r _ [92, 93, 1, 94, 95, 96, 97, 98, 99, 100, 101, 102, 103, 104, 105, 106, 107, 108, 109, 4, 5, 6, 7, 8, 9, 10, 11, 12, 13, 14, 15, 16, 17, 18, 19, 20, 21, 22, 23, 24, 25, 26, 27, 28, 29, 30, 31, 32, 33, 34, 35, 36, 37, 38, 39, 40, 41, 42, 43, 44, 45, 46, 47, 48, 49, 110, 111, 112, 113, 114, 115, 141, 142, 116, 117, 118, 119, 120, 121, 122, 123, 124, 125, 126, 127, 128, 129, 130, 131, 132, 133, 134, 135] (by decide +kernel) (by decide +kernel)
set_option maxRecDepth 20000 in
theorem gX9_scrap_X9_recorded : GoodIn wsX9_scrap (wsV RX9 54 RX9 yX9_recorded wsX9_recorded) := goodIn_app (goodIn_of _ (by decide +kernel)) ggX9_scrap_X9_recorded
set_option maxRecDepth 20000 in
theorem ggX9_order_X8_copyFrom : GoodIn wsX9_order wsX8_copyFrom := goodIn_r _ [7, 8, 9, 10, 11, 12, 13, 14, 15, 16, 17, 18, 19, 20, 21, 22, 23, 24, 25, 26, 27, 28, 29, 30, 31, 32, 33, 34, 35, 36, 37, 38, 39, 40, 41, 42, 43, 44, 45, 46, 47, 48, 49, 116, 117, 118, 119, 120, 121, 122, 123, 124, 125, 126, 127, 128, 129, 130, 131, 132, 133, 134, 135] (by decide +kernel) (by decide +kernel)
set_option maxRecDepth 20000 in
theorem gX9_order_X8_copyFrom : GoodIn wsX9_order (wsV RX9 40 RX8 yX8_copyFrom wsX8_copyFrom) := goodIn_app (goodIn_of _ (by decide +kernel)) ggX9_order_X8_copyFrom
set_option maxRecDepth 20000 in
theorem ggX9_order_X8_takeOrder : GoodIn wsX9_order wsX8_takeOrder := goodIn_r _ [53, 10, 54, 55, 56, 57, 58, 59, 60, 61, 42, 62, 44, 63, 64, 65, 66, 67, 68, 69, 70, 71, 72, 73, 74, 75, 76, 77, 78, 79, 80, 81, 82, 83, 84, 85, 86, 87, 88, 45, 116, 117, 118, 119, 120, 121, 122, 123, 124, 125, 126, 134, 135, 136, 137, 138, 139, 140, 141, 142, 143] (by decide +kernel) (by decide +kernel)
set_option maxRecDepth 20000 in
theorem gX9_order_X8_takeOrder : GoodIn wsX9_order (wsV RX9 68 RX8 yX8_takeOrder wsX8_takeOrder) := goodIn_app (goodIn_of _ (by decide +kernel)) ggX9_order_X8_takeOrder
set_option maxRecDepth 20000 in
theorem ggX9_order_X9_recorded : GoodIn wsX9_order wsX9_recorded := goodIn_r _ [92, 93, 1, 94, 95, 96, 97, 98, 99, 100, 101, 102, 103, 104, 105, 106, 107, 108, 109, 4, 5, 6, 7, 8, 9, 10, 11, 12, 13, 14, 15, 16, 17, 18, 19, 20, 21, 22, 23, 24, 25, 26, 27, 28, 29, 30, 31, 32, 33, 34, 35, 36, 37, 38, 39, 40, 41, 42, 43, 44, 45, 46, 47, 48, 49, 110, 111, 112, 113, 114, 115, 144, 145, 116, 117, 118, 119, 120, 121, 122, 123, 124, 125, 126, 127, 128, 129, 130, 131, 132, 133, 134, 135] (by decide +kernel) (by decide +kernel)
set_option maxRecDepth 20000 in
theorem gX9_order_X9_recorded : GoodIn wsX9_order (wsV RX9 54 RX9 yX9_recorded wsX9_recorded) := goodIn_app (goodIn_of _ (by decide +kernel)) ggX9_order_X9_recorded
set_option maxRecDepth 20000 in
theorem ggX9_cancel_X8_copyFrom : GoodIn wsX9_cancel wsX8_copyFrom := goodIn_r _ [7, 8, 9, 10, 11, 12, 13, 14, 15, 16, 17, 18, 19, 20, 21, 22, 23, 24, 25, 26, 27, 28, 29, 30, 31, 32, 33, 34, 35, 36, 37, 38, 39, 40, 41, 42, 43, 44, 45, 46, 47, 48, 49, 118, 119, 120, 121, 122, 123, 124, 125, 126, 127, 128, 129, 130, 131, 132, 133, 134, 135, 136, 137] (by decide +kernel) (by decide +kernel)
set_option maxRecDepth 20000 in
theorem gX9_cancel_X8_copyFrom : GoodIn wsX9_cancel (wsV RX9 40 RX8 yX8_copyFrom wsX8_copyFrom) := goodIn_app (goodIn_of _ (by decide +kernel)) ggX9_cancel_X8_copyFrom
set_option maxRecDepth 20000 in
theorem ggX9_cancel_X8_cancelOrder : GoodIn wsX9_cancel wsX8_cancelOrder := goodIn_r _ [53, 10, 54, 47, 48, 42, 49, 45, 55, 56, 57, 58, 59, 60, 61, 62, 63, 64, 65, 66, 67, 68, 69, 70, 71, 72, 73, 74, 75, 76, 77, 78, 79, 80, 81, 82, 83, 84, 85, 86, 87, 88, 89, 118, 119, 120, 121, 122, 123, 124, 125, 126, 127, 128, 136, 137, 138, 139, 140, 141, 142, 143, 144, 145] (by decide +kernel) (by decide +kernel)
set_option maxRecDepth 20000 in
theorem gX9_cancel_X8_cancelOrder : GoodIn wsX9_cancel (wsV RX9 71 RX8 yX8_cancelOrder wsX8_cancelOrder) := goodIn_app (goodIn_of _ (by decide +kernel)) ggX9_cancel_X8_cancelOrder
set_option maxRecDepth 20000 in
theorem ggX9_cancel_X9_recorded : GoodIn wsX9_cancel wsX9_recorded := goodIn_r _ [94, 95, 1, 96, 97, 98, 99, 100, 101, 102, 103, 104, 105, 106, 107, 108, 109, 110, 111, 4, 5, 6, 7, 8, 9, 10, 11, 12, 13, 14, 15, 16, 17, 18, 19, 20, 21, 22, 23, 24, 25, 26, 27, 28, 29, 30, 31, 32, 33, 34, 35, 36, 37, 38, 39, 40, 41, 42, 43, 44, 45, 46, 47, 48, 49, 112, 113, 114, 115, 116, 117, 146, 147, 118, 119, 120, 121, 122, 123, 124, 125, 126, 127, 128, 129, 130, 131, 132, 133, 134, 135, 136, 137] (by decide +kernel) (by decide +kernel)
set_option maxRecDepth 20000 in
theorem gX9_cancel_X9_recorded : GoodIn wsX9_cancel (wsV RX9 54 RX9 yX9_recorded wsX9_recorded) := goodIn_app (goodIn_of _ (by decide +kernel)) ggX9_cancel_X9_recorded
set_option maxRecDepth 20000 in
theorem ggX9_cut_X8_copyFrom : GoodIn wsX9_cut wsX8_copyFrom := goodIn_r _ [7, 8, 9, 10, 11, 12, 13, 14, 15, 16, 17, 18, 19, 20, 21, 22, 23, 24, 25, 26, 27, 28, 29, 30, 31, 32, 33, 34, 35, 36, 37, 38, 39, 40, 41, 42, 43, 44, 45, 46, 47, 48, 49, 228, 229, 230, 231, 232, 233, 234, 235, 236, 237, 238, 239, 240, 241, 242, 243, 244, 245, 246, 247] (by decide +kernel) (by decide +kernel)
set_option maxRecDepth 20000 in
theorem gX9_cut_X8_copyFrom : GoodIn wsX9_cut (wsV RX9 40 RX8 yX8_copyFrom wsX8_copyFrom) := goodIn_app (goodIn_of _ (by decide +kernel)) ggX9_cut_X8_copyFrom
set_option maxRecDepth 20000 in
theorem ggX9_cut_X8_cutOrder : GoodIn wsX9_cut wsX8_cutOrder := goodIn_r _ [53, 10, 9, 54, 8, 55, 47, 48, 42, 49, 45, 56, 57, 58, 31, 59, 34, 60, 61, 36, 37, 38, 62, 63, 64, 65, 66, 67, 68, 69, 70, 71, 72, 73, 74, 75, 76, 77, 78, 79, 80, 81, 82, 83, 84, 85, 86, 87, 88, 89, 90, 91, 92, 93, 94, 95, 96, 97, 98, 99, 100, 101, 102, 103, 104, 105, 106, 107, 108, 109, 110, 111, 112, 113, 114, 115, 116, 117, 118, 119, 120, 6, 121, 122, 11, 13, 16, 123, 124, 125, 126, 127, 128, 129, 130, 131, 17, 132, 133, 134, 135, 136, 137, 138, 139, 140, 141, 142, 143, 144, 15, 145, 146, 147, 148, 149, 150, 151, 152, 153, 154, 155, 156, 157, 158, 159, 160, 161, 162, 163, 164, 165, 166, 167, 168, 169, 170, 171, 172, 173, 174, 175, 176, 177, 178, 14, 179, 180, 181, 182, 33, 183, 184, 185, 186, 187, 188, 189, 190, 191, 192, 193, 194, 195, 196, 197, 198, 199, 228, 229, 230, 231, 232, 233, 234, 235, 236, 237, 238, 246, 247, 244, 245, 248, 249, 250, 251, 252, 253, 254, 255, 256, 257, 258, 259, 260, 239, 240, 241, 242, 243, 261, 262, 263, 264, 265, 266, 267, 268, 269, 270] (by decide +kernel) (by decide +kernel)
set_option maxRecDepth 20000 in
theorem gX9_cut_X8_cutOrder : GoodIn wsX9_cut (wsV RX9 74 RX8 yX8_cutOrder wsX8_cutOrder) := goodIn_app (goodIn_of _ (by decide +kernel)) ggX9_cut_X8_cutOrder
set_option maxRecDepth 20000 in
theorem ggX9_cut_X9_recorded : GoodIn wsX9_cut wsX9_recorded := goodIn_r _ [204, 205, 1, 206, 207, 208, 209, 210, 211, 212, 213, 214, 215, 216, 217, 218, 219, 220, 221, 4, 5, 6, 7, 8, 9, 10, 11, 12, 13, 14, 15, 16, 17, 18, 19, 20, 21, 22, 23, 24, 25, 26, 27, 28, 29, 30, 31, 32, 33, 34, 35, 36, 37, 38, 39, 40, 41, 42, 43, 44, 45, 46, 47, 48, 49, 222, 223, 224, 225, 226, 227, 271, 272, 228, 229, 230, 231, 232, 233, 234, 235, 236, 237, 238, 239, 240, 241, 242, 243, 244, 245, 246, 247] (by decide +kernel) (by decide +kernel)
set_option maxRecDepth 20000 in
theorem gX9_cut_X9_recorded : GoodIn wsX9_cut (wsV RX9 54 RX9 yX9_recorded wsX9_recorded) := goodIn_app (goodIn_of _ (by decide +kernel)) ggX9_cut_X9_recorded
set_option maxRecDepth 20000 in
theorem ggX9_plan_X8_copyFrom : GoodIn wsX9_plan wsX8_copyFrom := goodIn_r _ [7, 8, 9, 10, 11, 12, 13, 14, 15, 16, 17, 18, 19, 20, 21, 22, 23, 24, 25, 26, 27, 28, 29, 30, 31, 32, 33, 34, 35, 36, 37, 38, 39, 40, 41, 42, 43, 44, 45, 46, 47, 48, 49, 247, 248, 249, 250, 251, 252, 253, 254, 255, 256, 257, 258, 259, 260, 261, 262, 263, 264, 265, 266] (by decide +kernel) (by decide +kernel)
set_option maxRecDepth 20000 in
theorem gX9_plan_X8_copyFrom : GoodIn wsX9_plan (wsV RX9 40 RX8 yX8_copyFrom wsX8_copyFrom) := goodIn_app (goodIn_of _ (by decide +kernel)) ggX9_plan_X8_copyFrom
set_option maxRecDepth 20000 in
theorem ggX9_plan_X8_planDay : GoodIn wsX9_plan wsX8_planDay := goodIn_r _ [53, 10, 54, 55, 56, 57, 58, 59, 42, 60, 45, 61, 62, 63, 64, 65, 66, 67, 68, 69, 70, 71, 72, 73, 74, 75, 76, 77, 78, 79, 80, 81, 6, 82, 9, 83, 8, 84, 85, 36, 37, 31, 38, 34, 86, 87, 88, 89, 90, 91, 92, 93, 94, 95, 96, 97, 98, 99, 100, 101, 102, 103, 104, 105, 106, 107, 108, 109, 110, 111, 112, 113, 114, 115, 116, 117, 118, 119, 120, 121, 122, 123, 124, 125, 126, 127, 128, 129, 130, 131, 132, 133, 134, 135, 136, 137, 138, 139, 140, 141, 142, 143, 144, 145, 146, 147, 148, 11, 13, 16, 149, 150, 151, 152, 153, 154, 155, 156, 157, 158, 159, 160, 161, 162, 17, 163, 164, 165, 166, 167, 15, 168, 169, 170, 171, 172, 173, 174, 175, 176, 177, 178, 179, 180, 181, 182, 183, 184, 185, 186, 187, 188, 189, 190, 191, 192, 193, 194, 195, 196, 197, 198, 14, 199, 200, 201, 202, 33, 203, 204, 205, 206, 207, 208, 209, 210, 211, 212, 213, 214, 215, 216, 217, 218, 219, 247, 248, 249, 250, 251, 252, 253, 254, 255, 256, 257, 265, 266, 267, 268, 269, 270, 271, 272, 273, 274, 275, 276, 277, 278, 279, 263, 264, 258, 259, 260, 261, 262, 280, 281, 282, 283, 284, 285, 286, 287, 288, 289] (by decide +kernel) (by decide +kernel)
set_option maxRecDepth 20000 in
theorem gX9_plan_X8_planDay : GoodIn wsX9_plan (wsV RX9 77 RX8 yX8_planDay wsX8_planDay) := goodIn_app (goodIn_of _ (by decide +kernel)) ggX9_plan_X8_planDay
set_option maxRecDepth 20000 in
theorem ggX9_plan_X9_recorded : GoodIn wsX9_plan wsX9_recorded := goodIn_r _ [223, 224, 1, 225, 226, 227, 228, 229, 230, 231, 232, 233, 234, 235, 236, 237, 238, 239, 240, 4, 5, 6, 7, 8, 9, 10, 11, 12, 13, 14, 15, 16, 17, 18, 19, 20, 21, 22, 23, 24, 25, 26, 27, 28, 29, 30, 31, 32, 33, 34, 35, 36, 37, 38, 39, 40, 41, 42, 43, 44, 45, 46, 47, 48, 49, 241, 242, 243, 244, 245, 246, 290, 291, 247, 248, 249, 250, 251, 252, 253, 254, 255, 256, 257, 258, 259, 260, 261, 262, 263, 264, 265, 266] (by decide +kernel) (by decide +kernel)
set_option maxRecDepth 20000 in
theorem gX9_plan_X9_recorded : GoodIn wsX9_plan (wsV RX9 54 RX9 yX9_recorded wsX9_recorded) := goodIn_app (goodIn_of _ (by decide +kernel)) ggX9_plan_X9_recorded
set_option maxRecDepth 20000 in
theorem ggX9_pass_X8_copyFrom : GoodIn wsX9_pass wsX8_copyFrom := goodIn_r _ [7, 8, 9, 10, 11, 12, 13, 14, 15, 16, 17, 18, 19, 20, 21, 22, 23, 24, 25, 26, 27, 28, 29, 30, 31, 32, 33, 34, 35, 36, 37, 38, 39, 40, 41, 42, 43, 44, 45, 46, 47, 48, 49, 94, 95, 96, 97, 98, 99, 100, 101, 102, 103, 104, 105, 106, 107, 108, 109, 110, 111, 112, 113] (by decide +kernel) (by decide +kernel)
set_option maxRecDepth 20000 in
theorem gX9_pass_X8_copyFrom : GoodIn wsX9_pass (wsV RX9 40 RX8 yX8_copyFrom wsX8_copyFrom) := goodIn_app (goodIn_of _ (by decide +kernel)) ggX9_pass_X8_copyFrom
set_option maxRecDepth 20000 in
theorem ggX9_pass_X8_passDays : GoodIn wsX9_pass wsX8_passDays := goodIn_r _ [53, 11, 10, 54, 55, 56, 42, 57, 45, 58, 59, 60, 61, 62, 63, 64, 65, 94, 95, 96, 97, 98, 99, 100, 101, 102, 103, 104, 112, 113, 114, 115, 116, 117, 118, 119, 120, 121] (by decide +kernel) (by decide +kernel)
set_option maxRecDepth 20000 in
theorem gX9_pass_X8_passDays : GoodIn wsX9_pass (wsV RX9 80 RX8 yX8_passDays wsX8_passDays) := goodIn_app (goodIn_of _ (by decide +kernel)) ggX9_pass_X8_passDays
set_option maxRecDepth 20000 in
theorem ggX9_pass_X9_recorded : GoodIn wsX9_pass wsX9_recorded := goodIn_r _ [70, 71, 1, 72, 73, 74, 75, 76, 77, 78, 79, 80, 81, 82, 83, 84, 85, 86, 87, 4, 5, 6, 7, 8, 9, 10, 11, 12, 13, 14, 15, 16, 17, 18, 19, 20, 21, 22, 23, 24, 25, 26, 27, 28, 29, 30, 31, 32, 33, 34, 35, 36, 37, 38, 39, 40, 41, 42, 43, 44, 45, 46, 47, 48, 49, 88, 89, 90, 91, 92, 93, 122, 123, 94, 95, 96, 97, 98, 99, 100, 101, 102, 103, 104, 105, 106, 107, 108, 109, 110, 111, 112, 113] (by decide +kernel) (by decide +kernel)
set_option maxRecDepth 20000 in
theorem gX9_pass_X9_recorded : GoodIn wsX9_pass (wsV RX9 54 RX9 yX9_recorded wsX9_recorded) := goodIn_app (goodIn_of _ (by decide +kernel)) ggX9_pass_X9_recorded
set_option maxRecDepth 20000 in
theorem ggX9_perform_X0_commandsOrFault : GoodIn wsX9_perform wsX0_commandsOrFault := goodIn_r _ [8, 9, 10, 11, 12, 13, 14, 7, 15, 16, 17, 18, 19, 20, 21, 22, 23, 24, 25, 26, 27, 28, 29, 30, 31, 32, 33, 34, 35, 36, 37, 38, 39, 40, 41, 42, 43, 44, 45, 46, 47, 48, 49, 50, 51, 52, 348, 349, 350, 351, 352, 353, 354, 355, 356, 357, 358, 359] (by decide +kernel) (by decide +kernel)
set_option maxRecDepth 20000 in
theorem gX9_perform_X0_commandsOrFault : GoodIn wsX9_perform (wsV RX9 83 RX0 yX0_commandsOrFault wsX0_commandsOrFault) := goodIn_app (goodIn_of _ (by decide +kernel)) ggX9_perform_X0_commandsOrFault
set_option maxRecDepth 20000 in
theorem ggX9_perform_X8_copyFrom : GoodIn wsX9_perform wsX8_copyFrom := goodIn_r _ [57, 58, 59, 60, 61, 62, 63, 64, 65, 66, 67, 68, 69, 70, 71, 72, 73, 74, 75, 76, 77, 78, 79, 80, 81, 82, 83, 84, 85, 86, 87, 88, 89, 90, 91, 92, 93, 94, 95, 96, 97, 98, 99, 360, 361, 362, 363, 364, 365, 366, 367, 368, 369, 370, 371, 372, 373, 374, 375, 376, 377, 378, 379] (by decide +kernel) (by decide +kernel)
set_option maxRecDepth 20000 in
theorem gX9_perform_X8_copyFrom : GoodIn wsX9_perform (wsV RX9 40 RX8 yX8_copyFrom wsX8_copyFrom) := goodIn_app (goodIn_of _ (by decide +kernel)) ggX9_perform_X8_copyFrom
set_option maxRecDepth 20000 in
theorem ggX9_perform_X0_rewind : GoodIn wsX9_perform wsX0_rewind := goodIn_r _ [15, 10, 9, 348, 349, 350, 351, 352, 353, 354, 355, 356, 357, 358, 359] (by decide +kernel) (by decide +kernel)
set_option maxRecDepth 20000 in
theorem gX9_perform_X0_rewind : GoodIn wsX9_perform (wsV RX9 87 RX0 yX0_rewind wsX0_rewind) := goodIn_app (goodIn_of _ (by decide +kernel)) ggX9_perform_X0_rewind
set_option maxRecDepth 20000 in
theorem ggX9_perform_X0_readCommand : GoodIn wsX9_perform wsX0_readCommand := goodIn_r _ [19, 10, 20, 21, 22, 9, 23, 24, 25, 7, 26, 27, 28, 29, 30, 11, 31, 32, 33, 34, 35, 36, 37, 38, 39, 40, 41, 42, 43, 44, 45, 46, 47, 48, 49, 50, 51, 52, 348, 349, 350, 351, 352, 353, 354, 355, 356, 357, 358, 359] (by decide +kernel) (by decide +kernel)
set_option maxRecDepth 20000 in
theorem gX9_perform_X0_readCommand : GoodIn wsX9_perform (wsV RX9 90 RX0 yX0_readCommand wsX0_readCommand) := goodIn_app (goodIn_of _ (by decide +kernel)) ggX9_perform_X0_readCommand
set_option maxRecDepth 20000 in
theorem ggX9_perform_X9_runCommand : GoodIn wsX9_perform wsX9_runCommand := goodIn_r _ [106, 1, 107, 3, 108, 109, 110, 111, 112, 113, 114, 115, 116, 117, 56, 118, 59, 62, 119, 105, 120, 121, 122, 123, 124, 125, 126, 127, 81, 128, 83, 129, 130, 131, 132, 84, 133, 134, 135, 136, 137, 138, 139, 140, 141, 142, 143, 144, 145, 146, 147, 148, 149, 150, 151, 152, 153, 154, 155, 156, 157, 158, 60, 159, 160, 161, 92, 162, 94, 163, 164, 165, 166, 167, 168, 169, 170, 171, 172, 173, 174, 175, 176, 177, 178, 179, 180, 181, 182, 183, 184, 185, 186, 95, 187, 188, 189, 190, 191, 192, 193, 194, 195, 196, 197, 198, 199, 200, 201, 202, 203, 204, 205, 206, 207, 208, 209, 210, 211, 212, 213, 58, 214, 215, 86, 87, 88, 216, 217, 218, 219, 220, 221, 222, 223, 224, 225, 226, 227, 228, 229, 230, 231, 232, 233, 234, 235, 236, 237, 238, 239, 240, 241, 242, 243, 244, 245, 246, 247, 248, 249, 250, 251, 252, 253, 254, 255, 256, 257, 258, 259, 260, 261, 262, 263, 264, 265, 266, 267, 268, 269, 270, 271, 61, 63, 66, 272, 273, 274, 275, 276, 277, 278, 279, 280, 281, 282, 283, 284, 285, 67, 286, 287, 288, 289, 290, 65, 291, 292, 293, 294, 295, 296, 297, 298, 299, 300, 301, 302, 303, 304, 305, 306, 307, 308, 64, 309, 310, 311, 312, 313, 314, 315, 316, 317, 318, 319, 320, 342, 343, 344, 345, 346, 347, 348, 349, 350, 351, 352, 353, 354, 355, 356, 357, 358, 359, 360, 361, 362, 363, 364, 365, 366, 367, 368, 369, 370, 376, 377, 380, 381, 382, 383, 384, 378, 379, 385, 386, 387, 388, 389, 390, 391, 392, 371, 372, 373, 374, 375, 393, 394, 395, 396, 397, 398, 399, 400, 401, 402] (by decide +kernel) (by decide +kernel)
set_option maxRecDepth 20000 in
theorem gX9_perform_X9_runCommand : GoodIn wsX9_perform (wsV RX9 93 RX9 yX9_runCommand wsX9_runCommand) := goodIn_app (goodIn_of _ (by decide +kernel)) ggX9_perform_X9_runCommand
set_option maxRecDepth 20000 in
theorem ggX9_perform_X9_recorded : GoodIn wsX9_perform wsX9_recorded := goodIn_r _ [324, 325, 2, 326, 327, 328, 329, 330, 331, 332, 333, 334, 335, 336, 337, 338, 339, 340, 341, 54, 55, 56, 57, 58, 59, 60, 61, 62, 63, 64, 65, 66, 67, 68, 69, 70, 71, 72, 73, 74, 75, 76, 77, 78, 79, 80, 81, 82, 83, 84, 85, 86, 87, 88, 89, 90, 91, 92, 93, 94, 95, 96, 97, 98, 99, 342, 343, 344, 345, 346, 347, 403, 404, 360, 361, 362, 363, 364, 365, 366, 367, 368, 369, 370, 371, 372, 373, 374, 375, 376, 377, 378, 379] (by decide +kernel) (by decide +kernel)
set_option maxRecDepth 20000 in
theorem gX9_perform_X9_recorded : GoodIn wsX9_perform (wsV RX9 54 RX9 yX9_recorded wsX9_recorded) := goodIn_app (goodIn_of _ (by decide +kernel)) ggX9_perform_X9_recorded
set_option maxRecDepth 20000 in
theorem ggX9_type_X0_append : GoodIn wsX9_type wsX0_append := goodIn_r _ [6, 7, 8, 15, 16, 17, 18, 19, 20, 21, 22, 23, 24, 25, 26] (by decide +kernel) (by decide +kernel)
set_option maxRecDepth 20000 in
theorem gX9_type_X0_append : GoodIn wsX9_type (wsV RX9 96 RX0 yX0_append wsX0_append) := goodIn_app (goodIn_of _ (by decide +kernel)) ggX9_type_X0_append
set_option maxRecDepth 20000 in
theorem ggX9_clearText_X0_empty : GoodIn wsX9_clearText wsX0_empty := goodIn_r _ [6, 7, 14, 15, 16, 17, 18, 19, 20, 21, 22, 23, 24, 25] (by decide +kernel) (by decide +kernel)
set_option maxRecDepth 20000 in
theorem gX9_clearText_X0_empty : GoodIn wsX9_clearText (wsV RX9 100 RX0 yX0_empty wsX0_empty) := goodIn_app (goodIn_of _ (by decide +kernel)) ggX9_clearText_X0_empty
set_option maxRecDepth 20000 in
theorem ggX9_undo_X2_takeBack : GoodIn wsX9_undo wsX2_takeBack := goodIn_r _ [7, 8, 9, 10, 11, 6, 12, 13, 14, 15, 16, 17, 18, 19, 20, 21, 22, 23, 24, 25, 26, 27, 28, 29, 30, 31, 32, 33, 34, 35, 36, 37, 38, 39, 40, 41, 42, 43, 44, 45, 46, 47, 48, 49, 50, 51, 52, 53, 54, 55, 56, 57, 58, 59, 60, 67, 68, 69, 70, 71, 72, 73, 74, 75, 76, 77, 78, 79, 80, 81, 82, 83, 84, 85, 86, 87, 88] (by decide +kernel) (by decide +kernel)
set_option maxRecDepth 20000 in
theorem gX9_undo_X2_takeBack : GoodIn wsX9_undo (wsV RX9 103 RX2 yX2_takeBack wsX2_takeBack) := goodIn_app (goodIn_of _ (by decide +kernel)) ggX9_undo_X2_takeBack
set_option maxRecDepth 20000 in
theorem ggX9_keep_X8_copyFrom : GoodIn wsX9_keep wsX8_copyFrom := goodIn_r _ [9, 10, 11, 12, 13, 14, 15, 16, 17, 18, 19, 20, 21, 22, 23, 24, 25, 26, 27, 28, 29, 30, 31, 32, 33, 34, 35, 36, 37, 38, 39, 40, 41, 42, 43, 44, 45, 46, 47, 48, 49, 50, 51, 58, 59, 60, 61, 62, 63, 64, 65, 66, 67, 68, 69, 70, 71, 72, 73, 74, 75, 76, 77] (by decide +kernel) (by decide +kernel)
set_option maxRecDepth 20000 in
theorem gX9_keep_X8_copyFrom : GoodIn wsX9_keep (wsV RX9 40 RX8 yX8_copyFrom wsX8_copyFrom) := goodIn_app (goodIn_of _ (by decide +kernel)) ggX9_keep_X8_copyFrom
set_option maxRecDepth 20000 in
theorem ggX9_restore_X8_copyFrom : GoodIn wsX9_restore wsX8_copyFrom := goodIn_r _ [10, 11, 12, 13, 14, 15, 16, 17, 18, 19, 20, 21, 22, 23, 24, 25, 26, 27, 28, 29, 30, 31, 32, 33, 34, 35, 36, 37, 38, 39, 40, 41, 42, 43, 44, 45, 46, 47, 48, 49, 50, 51, 52, 81, 82, 83, 84, 85, 86, 87, 88, 89, 90, 91, 92, 93, 94, 95, 96, 97, 98, 99, 100] (by decide +kernel) (by decide +kernel)
set_option maxRecDepth 20000 in
theorem gX9_restore_X8_copyFrom : GoodIn wsX9_restore (wsV RX9 40 RX8 yX8_copyFrom wsX8_copyFrom) := goodIn_app (goodIn_of _ (by decide +kernel)) ggX9_restore_X8_copyFrom
set_option maxRecDepth 20000 in
theorem ggX9_restore_X9_recorded : GoodIn wsX9_restore wsX9_recorded := goodIn_r _ [57, 58, 2, 59, 60, 61, 62, 63, 64, 65, 66, 67, 68, 69, 70, 71, 72, 73, 74, 7, 8, 9, 10, 11, 12, 13, 14, 15, 16, 17, 18, 19, 20, 21, 22, 23, 24, 25, 26, 27, 28, 29, 30, 31, 32, 33, 34, 35, 36, 37, 38, 39, 40, 41, 42, 43, 44, 45, 46, 47, 48, 49, 50, 51, 52, 75, 76, 77, 78, 79, 80, 101, 102, 81, 82, 83, 84, 85, 86, 87, 88, 89, 90, 91, 92, 93, 94, 95, 96, 97, 98, 99, 100] (by decide +kernel) (by decide +kernel)
set_option maxRecDepth 20000 in
theorem gX9_restore_X9_recorded : GoodIn wsX9_restore (wsV RX9 54 RX9 yX9_recorded wsX9_recorded) := goodIn_app (goodIn_of _ (by decide +kernel)) ggX9_restore_X9_recorded
set_option maxRecDepth 20000 in
theorem ggX9_sheet_X5_slotOf : GoodIn wsX9_sheet wsX5_slotOf := goodIn_r _ [11, 12, 13, 48, 49, 43, 44, 45, 46, 47] (by decide +kernel) (by decide +kernel)
set_option maxRecDepth 20000 in
theorem gX9_sheet_X5_slotOf : GoodIn wsX9_sheet (wsV RX9 115 RX5 yX5_slotOf wsX5_slotOf) := goodIn_app (goodIn_of _ (by decide +kernel)) ggX9_sheet_X5_slotOf
set_option maxRecDepth 20000 in
theorem ggX9_sheet_X5_inSlot : GoodIn wsX9_sheet wsX5_inSlot := goodIn_r _ [17, 12, 48, 49] (by decide +kernel) (by decide +kernel)
set_option maxRecDepth 20000 in
theorem gX9_sheet_X5_inSlot : GoodIn wsX9_sheet (wsV RX9 120 RX5 yX5_inSlot wsX5_inSlot) := goodIn_app (goodIn_of _ (by decide +kernel)) ggX9_sheet_X5_inSlot
set_option maxRecDepth 20000 in
theorem ggX9_sheet_X5_sheetsBefore : GoodIn wsX9_sheet wsX5_sheetsBefore := goodIn_r _ [21, 22, 23, 24, 10, 25, 12, 48, 49] (by decide +kernel) (by decide +kernel)
set_option maxRecDepth 20000 in
theorem gX9_sheet_X5_sheetsBefore : GoodIn wsX9_sheet (wsV RX9 135 RX5 yX5_sheetsBefore wsX5_sheetsBefore) := goodIn_app (goodIn_of _ (by decide +kernel)) ggX9_sheet_X5_sheetsBefore
set_option maxRecDepth 20000 in
theorem ggX9_at_X9_isRack : GoodIn wsX9_at wsX9_isRack := goodIn_r _ [7] (by decide +kernel) (by decide +kernel)
set_option maxRecDepth 20000 in
theorem gX9_at_X9_isRack : GoodIn wsX9_at (va_wsS RX9 141 yX9_isRack wsX9_isRack) := goodIn_app (goodIn_of _ (by decide +kernel)) ggX9_at_X9_isRack
set_option maxRecDepth 20000 in
theorem ggX9_at_X5_atPlace : GoodIn wsX9_at wsX5_atPlace := goodIn_r _ [12, 13, 14, 15, 11, 16, 17, 18, 19, 20, 21, 44, 45] (by decide +kernel) (by decide +kernel)
set_option maxRecDepth 20000 in
theorem gX9_at_X5_atPlace : GoodIn wsX9_at (wsV RX9 145 RX5 yX5_atPlace wsX5_atPlace) := goodIn_app (goodIn_of _ (by decide +kernel)) ggX9_at_X5_atPlace
set_option maxRecDepth 20000 in
theorem ggX9_ordered_X4_numbered : GoodIn wsX9_ordered wsX4_numbered := goodIn_r _ [15, 16, 50, 51] (by decide +kernel) (by decide +kernel)
set_option maxRecDepth 20000 in
theorem gX9_ordered_X4_numbered : GoodIn wsX9_ordered (wsV RX9 156 RX4 yX4_numbered wsX4_numbered) := goodIn_app (goodIn_of _ (by decide +kernel)) ggX9_ordered_X4_numbered
set_option maxRecDepth 20000 in
theorem ggX9_ordered_X3_isLate : GoodIn wsX9_ordered wsX3_isLate := goodIn_r _ [21, 22, 23, 24, 42, 43, 44, 45, 46, 47, 48, 49] (by decide +kernel) (by decide +kernel)
set_option maxRecDepth 20000 in
theorem gX9_ordered_X3_isLate : GoodIn wsX9_ordered (wsV RX9 175 RX3 yX3_isLate wsX3_isLate) := goodIn_app (goodIn_of _ (by decide +kernel)) ggX9_ordered_X3_isLate
set_option maxRecDepth 20000 in
theorem ggX9_would_X4_numbered : GoodIn wsX9_would wsX4_numbered := goodIn_r _ [16, 17, 115, 116] (by decide +kernel) (by decide +kernel)
set_option maxRecDepth 20000 in
theorem gX9_would_X4_numbered : GoodIn wsX9_would (wsV RX9 156 RX4 yX4_numbered wsX4_numbered) := goodIn_app (goodIn_of _ (by decide +kernel)) ggX9_would_X4_numbered
set_option maxRecDepth 20000 in
theorem ggX9_would_X5_slotOf : GoodIn wsX9_would wsX5_slotOf := goodIn_r _ [22, 23, 24, 117, 118, 119, 120, 121, 122, 123] (by decide +kernel) (by decide +kernel)
set_option maxRecDepth 20000 in
theorem gX9_would_X5_slotOf : GoodIn wsX9_would (wsV RX9 115 RX5 yX5_slotOf wsX5_slotOf) := goodIn_app (goodIn_of _ (by decide +kernel)) ggX9_would_X5_slotOf
set_option maxRecDepth 20000 in
theorem ggX9_would_X5_inSlot : GoodIn wsX9_would wsX5_inSlot := goodIn_r _ [28, 23, 117, 118] (by decide +kernel) (by decide +kernel)
set_option maxRecDepth 20000 in
theorem gX9_would_X5_inSlot : GoodIn wsX9_would (wsV RX9 120 RX5 yX5_inSlot wsX5_inSlot) := goodIn_app (goodIn_of _ (by decide +kernel)) ggX9_would_X5_inSlot
set_option maxRecDepth 20000 in
theorem ggX9_would_X1_layOut : GoodIn wsX9_would wsX1_layOut := goodIn_r _ [33, 34, 35, 36, 37, 38, 39, 40, 41, 42, 43, 44, 45, 32, 46, 47, 48, 49, 50, 51, 52, 53, 54, 55, 56, 57, 58, 59, 60, 61, 62, 63, 64, 65, 66, 67, 68, 69, 70, 71, 72, 73, 74, 75, 76, 77, 78, 79, 124, 125, 126, 127, 128, 129, 130, 131, 119, 120, 121, 122, 123, 132, 133, 134, 135, 136, 105, 106, 107, 108, 109, 110, 111, 112, 113, 114] (by decide +kernel) (by decide +kernel)
set_option maxRecDepth 20000 in
theorem gX9_would_X1_layOut : GoodIn wsX9_would (wsV RX9 182 RX1 yX1_layOut wsX1_layOut) := goodIn_app (goodIn_of _ (by decide +kernel)) ggX9_would_X1_layOut
set_option maxRecDepth 20000 in
theorem ggX9_would_X5_sheetsBefore : GoodIn wsX9_would wsX5_sheetsBefore := goodIn_r _ [83, 84, 85, 86, 21, 87, 23, 117, 118] (by decide +kernel) (by decide +kernel)
set_option maxRecDepth 20000 in
theorem gX9_would_X5_sheetsBefore : GoodIn wsX9_would (wsV RX9 135 RX5 yX5_sheetsBefore wsX5_sheetsBefore) := goodIn_app (goodIn_of _ (by decide +kernel)) ggX9_would_X5_sheetsBefore
set_option maxRecDepth 20000 in
theorem ggX9_choice_X4_numbered : GoodIn wsX9_choice wsX4_numbered := goodIn_r _ [8, 9, 121, 122] (by decide +kernel) (by decide +kernel)
set_option maxRecDepth 20000 in
theorem gX9_choice_X4_numbered : GoodIn wsX9_choice (wsV RX9 156 RX4 yX4_numbered wsX4_numbered) := goodIn_app (goodIn_of _ (by decide +kernel)) ggX9_choice_X4_numbered
set_option maxRecDepth 20000 in
theorem ggX9_choice_X9_isChoice : GoodIn wsX9_choice wsX9_isChoice := goodIn_r _ [13] (by decide +kernel) (by decide +kernel)
set_option maxRecDepth 20000 in
theorem gX9_choice_X9_isChoice : GoodIn wsX9_choice (va_wsS RX9 206 yX9_isChoice wsX9_isChoice) := goodIn_app (goodIn_of _ (by decide +kernel)) ggX9_choice_X9_isChoice
set_option maxRecDepth 20000 in
theorem ggX9_choice_X3_isOpen : GoodIn wsX9_choice wsX3_isOpen := goodIn_r _ [18, 19, 123, 124, 125, 126, 127, 128, 129, 130] (by decide +kernel) (by decide +kernel)
set_option maxRecDepth 20000 in
theorem gX9_choice_X3_isOpen : GoodIn wsX9_choice (wsV RX9 209 RX3 yX3_isOpen wsX3_isOpen) := goodIn_app (goodIn_of _ (by decide +kernel)) ggX9_choice_X3_isOpen
set_option maxRecDepth 20000 in
theorem ggX9_choice_X8_chosenSheet : GoodIn wsX9_choice wsX8_chosenSheet := goodIn_r _ [24, 25, 26, 27, 28, 29, 30, 31, 32, 33, 34, 35, 36, 37, 38, 39, 40, 41, 42, 43, 44, 45, 46, 47, 48, 49, 50, 51, 52, 53, 54, 55, 56, 57, 58, 59, 60, 61, 62, 63, 64, 65, 66, 67, 68, 17, 69, 70, 71, 72, 73, 74, 75, 76, 77, 78, 79, 80, 81, 82, 83, 84, 85, 86, 87, 23, 88, 89, 90, 91, 92, 93, 94, 95, 96, 97, 98, 105, 106, 107, 108, 109, 110, 111, 112, 113, 114, 115, 116, 117, 118, 119, 120, 131, 132, 123, 124, 125, 126, 127, 128, 129, 130, 133, 134, 135, 136, 137, 138, 139, 140, 141, 142, 143, 144, 145, 146, 147] (by decide +kernel) (by decide +kernel)
set_option maxRecDepth 20000 in
theorem gX9_choice_X8_chosenSheet : GoodIn wsX9_choice (wsV RX9 213 RX8 yX8_chosenSheet wsX8_chosenSheet) := goodIn_app (goodIn_of _ (by decide +kernel)) ggX9_choice_X8_chosenSheet
set_option maxRecDepth 20000 in
theorem ggX9_next_X4_openAtRank : GoodIn wsX9_next wsX4_openAtRank := goodIn_r _ [8, 9, 10, 11, 7, 12, 13, 14, 15, 16, 17, 18, 19, 20, 21, 22, 23, 24, 25, 26, 27, 28, 29, 30, 31, 57, 58, 49, 50, 51, 52, 53, 54, 55, 56] (by decide +kernel) (by decide +kernel)
set_option maxRecDepth 20000 in
theorem gX9_next_X4_openAtRank : GoodIn wsX9_next (wsV RX9 217 RX4 yX4_openAtRank wsX4_openAtRank) := goodIn_app (goodIn_of _ (by decide +kernel)) ggX9_next_X4_openAtRank
set_option maxRecDepth 20000 in
theorem ggX9_wouldPlan_X9_isChoice : GoodIn wsX9_wouldPlan wsX9_isChoice := goodIn_r _ [9] (by decide +kernel) (by decide +kernel)
set_option maxRecDepth 20000 in
theorem gX9_wouldPlan_X9_isChoice : GoodIn wsX9_wouldPlan (va_wsS RX9 206 yX9_isChoice wsX9_isChoice) := goodIn_app (goodIn_of _ (by decide +kernel)) ggX9_wouldPlan_X9_isChoice
set_option maxRecDepth 20000 in
theorem ggX9_wouldPlan_X8_copyFrom : GoodIn wsX9_wouldPlan wsX8_copyFrom := goodIn_r _ [14, 15, 16, 17, 18, 19, 20, 21, 22, 23, 24, 25, 26, 27, 28, 29, 30, 31, 32, 33, 34, 35, 36, 37, 38, 39, 40, 41, 42, 43, 44, 45, 46, 47, 48, 49, 50, 51, 52, 53, 54, 55, 56, 230, 231, 232, 233, 234, 235, 236, 237, 238, 239, 240, 241, 242, 243, 244, 245, 246, 247, 248, 249] (by decide +kernel) (by decide +kernel)
set_option maxRecDepth 20000 in
theorem gX9_wouldPlan_X8_copyFrom : GoodIn wsX9_wouldPlan (wsV RX9 40 RX8 yX8_copyFrom wsX8_copyFrom) := goodIn_app (goodIn_of _ (by decide +kernel)) ggX9_wouldPlan_X8_copyFrom
set_option maxRecDepth 20000 in
theorem ggX9_wouldPlan_X8_planDay : GoodIn wsX9_wouldPlan wsX8_planDay := goodIn_r _ [60, 17, 7, 8, 9, 61, 62, 63, 49, 64, 52, 65, 66, 67, 68, 69, 70, 71, 72, 73, 74, 75, 76, 77, 78, 79, 80, 81, 82, 83, 84, 85, 13, 86, 16, 87, 15, 88, 89, 43, 44, 38, 45, 41, 90, 91, 92, 93, 94, 95, 96, 97, 98, 99, 100, 101, 102, 103, 104, 105, 106, 107, 108, 109, 110, 111, 112, 113, 114, 115, 116, 117, 118, 119, 120, 121, 122, 123, 124, 125, 126, 127, 128, 129, 130, 131, 132, 133, 134, 135, 136, 137, 138, 139, 140, 141, 142, 143, 144, 145, 146, 147, 148, 149, 150, 151, 152, 18, 20, 23, 153, 154, 155, 156, 157, 158, 159, 160, 161, 162, 163, 164, 165, 166, 24, 167, 168, 169, 170, 171, 22, 172, 173, 174, 175, 176, 177, 178, 179, 180, 181, 182, 183, 184, 185, 186, 187, 188, 189, 190, 191, 192, 193, 194, 195, 196, 197, 198, 199, 200, 201, 202, 21, 203, 204, 205, 206, 40, 207, 208, 209, 210, 211, 212, 213, 214, 215, 216, 217, 218, 219, 220, 221, 222, 223, 230, 231, 232, 233, 234, 235, 236, 237, 238, 239, 240, 248, 249, 250, 251, 252, 253, 254, 255, 256, 257, 258, 259, 260, 261, 262, 246, 247, 241, 242, 243, 244, 245, 263, 264, 265, 266, 267, 268, 269, 270, 271, 272] (by decide +kernel) (by decide +kernel)
set_option maxRecDepth 20000 in
theorem gX9_wouldPlan_X8_planDay : GoodIn wsX9_wouldPlan (wsV RX9 77 RX8 yX8_planDay wsX8_planDay) := goodIn_app (goodIn_of _ (by decide +kernel)) ggX9_wouldPlan_X8_planDay
set_option maxRecDepth 20000 in
theorem ggX9_count_X5_sheetsThere : GoodIn wsX9_count wsX5_sheetsThere := goodIn_r _ [22, 23, 86, 87] (by decide +kernel) (by decide +kernel)
set_option maxRecDepth 20000 in
theorem gX9_count_X5_sheetsThere : GoodIn wsX9_count (wsV RX9 228 RX5 yX5_sheetsThere wsX5_sheetsThere) := goodIn_app (goodIn_of _ (by decide +kernel)) ggX9_count_X5_sheetsThere
set_option maxRecDepth 20000 in
theorem ggX9_count_X5_areaThere : GoodIn wsX9_count wsX5_areaThere := goodIn_r _ [27, 23, 28, 29, 30, 31, 32, 33, 34, 86, 87, 102, 103, 104, 105, 106] (by decide +kernel) (by decide +kernel)
set_option maxRecDepth 20000 in
theorem gX9_count_X5_areaThere : GoodIn wsX9_count (wsV RX9 231 RX5 yX5_areaThere wsX5_areaThere) := goodIn_app (goodIn_of _ (by decide +kernel)) ggX9_count_X5_areaThere
set_option maxRecDepth 20000 in
theorem ggX9_count_X4_openOnes : GoodIn wsX9_count wsX4_openOnes := goodIn_r _ [39, 40, 41, 42, 43, 44, 45, 46, 84, 85, 107, 108, 109, 110, 111, 112, 113, 114] (by decide +kernel) (by decide +kernel)
set_option maxRecDepth 20000 in
theorem gX9_count_X4_openOnes : GoodIn wsX9_count (wsV RX9 244 RX4 yX4_openOnes wsX4_openOnes) := goodIn_app (goodIn_of _ (by decide +kernel)) ggX9_count_X4_openOnes
set_option maxRecDepth 20000 in
theorem ggX9_count_X4_lateOnes : GoodIn wsX9_count wsX4_lateOnes := goodIn_r _ [50, 40, 51, 52, 53, 44, 54, 46, 55, 56, 84, 85, 107, 108, 109, 110, 111, 112, 113, 114] (by decide +kernel) (by decide +kernel)
set_option maxRecDepth 20000 in
theorem gX9_count_X4_lateOnes : GoodIn wsX9_count (wsV RX9 247 RX4 yX4_lateOnes wsX4_lateOnes) := goodIn_app (goodIn_of _ (by decide +kernel)) ggX9_count_X4_lateOnes
set_option maxRecDepth 20000 in
theorem ggX9_count_X6_value : GoodIn wsX9_count wsX6_value := goodIn_r _ [61, 62, 63, 64, 65, 66, 115, 116, 117, 118, 119] (by decide +kernel) (by decide +kernel)
set_option maxRecDepth 20000 in
theorem gX9_count_X6_value : GoodIn wsX9_count (wsV RX9 258 RX6 yX6_value wsX6_value) := goodIn_app (goodIn_of _ (by decide +kernel)) ggX9_count_X6_value
set_option maxRecDepth 20000 in
theorem ggX9_recorded_X2_record : GoodIn wsX9_recorded wsX2_record := goodIn_r _ [7, 8, 9, 10, 11, 12, 6, 13, 14, 15, 16, 17, 18, 19, 20, 21, 22, 23, 24, 25, 26, 27, 28, 29, 30, 31, 32, 33, 34, 35, 36, 37, 38, 39, 40, 41, 42, 43, 44, 45, 46, 47, 48, 49, 50, 51, 52, 53, 54, 55, 56, 57, 58, 59, 60, 61, 62, 63, 64, 71, 72, 73, 74, 75, 76, 77, 78, 79, 80, 81, 82, 83, 84, 85, 86, 87, 88, 89, 90, 91, 92] (by decide +kernel) (by decide +kernel)
set_option maxRecDepth 20000 in
theorem gX9_recorded_X2_record : GoodIn wsX9_recorded (wsV RX9 261 RX2 yX2_record wsX2_record) := goodIn_app (goodIn_of _ (by decide +kernel)) ggX9_recorded_X2_record
set_option maxRecDepth 20000 in
theorem ggX9_runCommand_X8_buySheet : GoodIn wsX9_runCommand wsX8_buySheet := goodIn_r _ [15, 16, 17, 18, 19, 20, 21, 22, 23, 24, 25, 26, 27, 28, 29, 30, 31, 32, 33, 34, 35, 36, 37, 38, 39, 40, 41, 42, 43, 44, 45, 46, 47, 48, 49, 50, 51, 52, 53, 54, 55, 56, 57, 256, 257, 258, 259, 260, 261, 262, 263, 264, 265, 266, 267, 268, 269, 270, 271, 272, 273] (by decide +kernel) (by decide +kernel)
set_option maxRecDepth 20000 in
theorem gX9_runCommand_X8_buySheet : GoodIn wsX9_runCommand (wsV RX9 58 RX8 yX8_buySheet wsX8_buySheet) := goodIn_app (goodIn_of _ (by decide +kernel)) ggX9_runCommand_X8_buySheet
set_option maxRecDepth 20000 in
theorem ggX9_runCommand_X8_takeOrder : GoodIn wsX9_runCommand wsX8_takeOrder := goodIn_r _ [61, 62, 21, 19, 22, 23, 24, 63, 64, 65, 66, 67, 68, 69, 70, 71, 72, 73, 74, 75, 76, 77, 78, 79, 47, 48, 80, 81, 82, 83, 84, 85, 86, 87, 88, 89, 90, 91, 92, 93, 256, 257, 258, 259, 260, 261, 262, 263, 264, 265, 266, 274, 275, 276, 277, 278, 279, 280, 281, 282, 283] (by decide +kernel) (by decide +kernel)
set_option maxRecDepth 20000 in
theorem gX9_runCommand_X8_takeOrder : GoodIn wsX9_runCommand (wsV RX9 68 RX8 yX8_takeOrder wsX8_takeOrder) := goodIn_app (goodIn_of _ (by decide +kernel)) ggX9_runCommand_X8_takeOrder
set_option maxRecDepth 20000 in
theorem ggX9_runCommand_X8_planDay : GoodIn wsX9_runCommand wsX8_planDay := goodIn_r _ [97, 62, 98, 19, 99, 100, 101, 102, 66, 103, 93, 104, 105, 106, 75, 107, 80, 108, 109, 110, 111, 87, 83, 112, 113, 114, 115, 85, 86, 116, 117, 118, 14, 119, 16, 120, 121, 122, 123, 124, 125, 28, 126, 35, 127, 128, 129, 130, 131, 132, 133, 134, 135, 136, 137, 138, 139, 140, 141, 142, 143, 144, 145, 146, 147, 148, 149, 150, 151, 152, 153, 42, 154, 51, 52, 155, 156, 157, 158, 159, 160, 161, 162, 163, 164, 165, 166, 167, 168, 169, 170, 171, 172, 173, 174, 175, 176, 177, 178, 31, 32, 33, 34, 179, 180, 181, 182, 183, 184, 185, 186, 187, 188, 189, 190, 191, 192, 193, 194, 195, 196, 197, 198, 199, 200, 201, 202, 203, 204, 205, 206, 207, 208, 209, 210, 211, 212, 213, 214, 215, 74, 84, 81, 82, 216, 77, 78, 79, 47, 48, 217, 89, 90, 91, 92, 218, 219, 220, 221, 222, 223, 224, 225, 25, 26, 27, 29, 30, 36, 37, 38, 39, 40, 41, 43, 44, 45, 46, 49, 50, 53, 54, 55, 56, 57, 256, 257, 258, 259, 260, 261, 262, 263, 264, 265, 266, 274, 275, 276, 277, 278, 279, 280, 281, 282, 283, 269, 270, 271, 272, 273, 267, 268, 284, 285, 286, 287, 288, 289, 290, 291, 292, 293, 294, 295, 296, 297, 298] (by decide +kernel) (by decide +kernel)
set_option maxRecDepth 20000 in
theorem gX9_runCommand_X8_planDay : GoodIn wsX9_runCommand (wsV RX9 77 RX8 yX8_planDay wsX8_planDay) := goodIn_app (goodIn_of _ (by decide +kernel)) ggX9_runCommand_X8_planDay
set_option maxRecDepth 20000 in
theorem ggX9_runCommand_X8_passDays : GoodIn wsX9_runCommand wsX8_passDays := goodIn_r _ [229, 183, 62, 230, 231, 232, 66, 233, 93, 234, 235, 236, 75, 237, 80, 82, 87, 256, 257, 258, 259, 260, 261, 262, 263, 264, 265, 266, 274, 275, 276, 277, 278, 279, 280, 281, 282, 283] (by decide +kernel) (by decide +kernel)
set_option maxRecDepth 20000 in
theorem gX9_runCommand_X8_passDays : GoodIn wsX9_runCommand (wsV RX9 80 RX8 yX8_passDays wsX8_passDays) := goodIn_app (goodIn_of _ (by decide +kernel)) ggX9_runCommand_X8_passDays
set_option maxRecDepth 20000 in
theorem ggX10_area_X10_its : GoodIn wsX10_area wsX10_its := goodIn_r _ [5, 6, 7, 8, 9, 10, 11, 12, 13, 14, 15] (by decide +kernel) (by decide +kernel)
set_option maxRecDepth 20000 in
theorem gX10_area_X10_its : GoodIn wsX10_area (wsV RX10 29 RX10 yX10_its wsX10_its) := goodIn_app (goodIn_of _ (by decide +kernel)) ggX10_area_X10_its
set_option maxRecDepth 20000 in
theorem ggX10_isSheet_X10_in : GoodIn wsX10_isSheet wsX10_in := goodIn_r _ [5] (by decide +kernel) (by decide +kernel)
set_option maxRecDepth 20000 in
theorem gX10_isSheet_X10_in : GoodIn wsX10_isSheet (va_wsS RX10 33 yX10_in wsX10_in) := goodIn_app (goodIn_of _ (by decide +kernel)) ggX10_isSheet_X10_in
set_option maxRecDepth 20000 in
theorem ggX10_isSheet_X10_its : GoodIn wsX10_isSheet wsX10_its := goodIn_r _ [9, 1, 10, 11, 12, 13, 14, 15, 16, 17, 18] (by decide +kernel) (by decide +kernel)
set_option maxRecDepth 20000 in
theorem gX10_isSheet_X10_its : GoodIn wsX10_isSheet (wsV RX10 29 RX10 yX10_its wsX10_its) := goodIn_app (goodIn_of _ (by decide +kernel)) ggX10_isSheet_X10_its
set_option maxRecDepth 20000 in
theorem ggX10_before_X10_its : GoodIn wsX10_before wsX10_its := goodIn_r _ [5, 6, 11, 12, 13, 14, 15, 16, 17, 18, 19] (by decide +kernel) (by decide +kernel)
set_option maxRecDepth 20000 in
theorem gX10_before_X10_its : GoodIn wsX10_before (wsV RX10 29 RX10 yX10_its wsX10_its) := goodIn_app (goodIn_of _ (by decide +kernel)) ggX10_before_X10_its
set_option maxRecDepth 20000 in
theorem ggX10_before_X10_standing : GoodIn wsX10_before wsX10_standing := goodIn_r _ [10, 6, 11, 12, 13, 14, 15, 16, 17, 18, 19] (by decide +kernel) (by decide +kernel)
set_option maxRecDepth 20000 in
theorem gX10_before_X10_standing : GoodIn wsX10_before (wsV RX10 37 RX10 yX10_standing wsX10_standing) := goodIn_app (goodIn_of _ (by decide +kernel)) ggX10_before_X10_standing
set_option maxRecDepth 20000 in
theorem ggX10_leans_X10_many : GoodIn wsX10_leans wsX10_many := goodIn_r _ [6, 1, 7, 8, 9, 10, 11, 12, 13, 14, 15] (by decide +kernel) (by decide +kernel)
set_option maxRecDepth 20000 in
theorem gX10_leans_X10_many : GoodIn wsX10_leans (wsV RX10 40 RX10 yX10_many wsX10_many) := goodIn_app (goodIn_of _ (by decide +kernel)) ggX10_leans_X10_many
set_option maxRecDepth 20000 in
theorem ggX10_makes_X10_leans : GoodIn wsX10_makes wsX10_leans := goodIn_r _ [6, 1, 7, 8, 9, 5, 10, 11, 12, 13, 14, 15, 16, 17, 18, 19] (by decide +kernel) (by decide +kernel)
set_option maxRecDepth 20000 in
theorem gX10_makes_X10_leans : GoodIn wsX10_makes (wsV RX10 44 RX10 yX10_leans wsX10_leans) := goodIn_app (goodIn_of _ (by decide +kernel)) ggX10_makes_X10_leans
set_option maxRecDepth 20000 in
theorem ggX10_breaks_X10_setting : GoodIn wsX10_breaks wsX10_setting := goodIn_r _ [6, 1, 15, 16, 17, 18, 19, 20, 21, 22, 23] (by decide +kernel) (by decide +kernel)
set_option maxRecDepth 20000 in
theorem gX10_breaks_X10_setting : GoodIn wsX10_breaks (wsV RX10 48 RX10 yX10_setting wsX10_setting) := goodIn_app (goodIn_of _ (by decide +kernel)) ggX10_breaks_X10_setting
set_option maxRecDepth 20000 in
theorem ggX10_breaks_X10_area : GoodIn wsX10_breaks wsX10_area := goodIn_r _ [10, 11, 12, 13, 5, 14, 1, 15, 16, 17, 18, 19, 20, 21, 22, 23] (by decide +kernel) (by decide +kernel)
set_option maxRecDepth 20000 in
theorem gX10_breaks_X10_area : GoodIn wsX10_breaks (wsV RX10 51 RX10 yX10_area wsX10_area) := goodIn_app (goodIn_of _ (by decide +kernel)) ggX10_breaks_X10_area
set_option maxRecDepth 20000 in
theorem ggX10_takes_X10_its : GoodIn wsX10_takes wsX10_its := goodIn_r _ [6, 1, 31, 32, 33, 34, 35, 36, 37, 38, 39] (by decide +kernel) (by decide +kernel)
set_option maxRecDepth 20000 in
theorem gX10_takes_X10_its : GoodIn wsX10_takes (wsV RX10 29 RX10 yX10_its wsX10_its) := goodIn_app (goodIn_of _ (by decide +kernel)) ggX10_takes_X10_its
set_option maxRecDepth 20000 in
theorem ggX10_takes_X10_before : GoodIn wsX10_takes wsX10_before := goodIn_r _ [10, 2, 3, 4, 5, 6, 1, 11, 12, 13, 14, 31, 32, 33, 34, 35, 36, 37, 38, 39] (by decide +kernel) (by decide +kernel)
set_option maxRecDepth 20000 in
theorem gX10_takes_X10_before : GoodIn wsX10_takes (wsV RX10 54 RX10 yX10_before wsX10_before) := goodIn_app (goodIn_of _ (by decide +kernel)) ggX10_takes_X10_before
