set_option maxRecDepth 20000 in
theorem ggX10_takes_X10_many : GoodIn wsX10_takes wsX10_many := goodIn_r _ [18, 1, 31, 32, 33, 34, 35, 36, 37, 38, 39] (by decide +kernel) (by decide +kernel)
set_option maxRecDepth 20000 in
theorem gX10_takes_X10_many : GoodIn wsX10_takes (wsV RX10 40 RX10 yX10_many wsX10_many) := goodIn_app (goodIn_of _ (by decide +kernel)) ggX10_takes_X10_many
set_option maxRecDepth 20000 in
theorem ggX10_takes_X10_standing : GoodIn wsX10_takes wsX10_standing := goodIn_r _ [14, 1, 31, 32, 33, 34, 35, 36, 37, 38, 39] (by decide +kernel) (by decide +kernel)
set_option maxRecDepth 20000 in
theorem gX10_takes_X10_standing : GoodIn wsX10_takes (wsV RX10 37 RX10 yX10_standing wsX10_standing) := goodIn_app (goodIn_of _ (by decide +kernel)) ggX10_takes_X10_standing
set_option maxRecDepth 20000 in
theorem ggX10_takes_X10_breaks : GoodIn wsX10_takes wsX10_breaks := goodIn_r _ [22, 1, 23, 24, 25, 5, 26, 27, 28, 29, 30, 2, 3, 4, 6, 31, 32, 33, 34, 35, 36, 37, 38, 39] (by decide +kernel) (by decide +kernel)
set_option maxRecDepth 20000 in
theorem gX10_takes_X10_breaks : GoodIn wsX10_takes (wsV RX10 57 RX10 yX10_breaks wsX10_breaks) := goodIn_app (goodIn_of _ (by decide +kernel)) ggX10_takes_X10_breaks
set_option maxRecDepth 20000 in
theorem ggX10_isOrder_X10_in : GoodIn wsX10_isOrder wsX10_in := goodIn_r _ [5] (by decide +kernel) (by decide +kernel)
set_option maxRecDepth 20000 in
theorem gX10_isOrder_X10_in : GoodIn wsX10_isOrder (va_wsS RX10 33 yX10_in wsX10_in) := goodIn_app (goodIn_of _ (by decide +kernel)) ggX10_isOrder_X10_in
set_option maxRecDepth 20000 in
theorem ggX10_isOpen_X10_of : GoodIn wsX10_isOpen wsX10_of := goodIn_r _ [5, 6, 7, 8, 9, 10, 11, 12, 13, 14, 15] (by decide +kernel) (by decide +kernel)
set_option maxRecDepth 20000 in
theorem gX10_isOpen_X10_of : GoodIn wsX10_isOpen (wsV RX10 61 RX10 yX10_of wsX10_of) := goodIn_app (goodIn_of _ (by decide +kernel)) ggX10_isOpen_X10_of
set_option maxRecDepth 20000 in
theorem ggX10_isLate_X10_isOpen : GoodIn wsX10_isLate wsX10_isOpen := goodIn_r _ [6, 7, 8, 9, 5, 10, 1, 11, 12, 13, 14, 15, 16, 17, 18, 19] (by decide +kernel) (by decide +kernel)
set_option maxRecDepth 20000 in
theorem gX10_isLate_X10_isOpen : GoodIn wsX10_isLate (wsV RX10 64 RX10 yX10_isOpen wsX10_isOpen) := goodIn_app (goodIn_of _ (by decide +kernel)) ggX10_isLate_X10_isOpen
set_option maxRecDepth 20000 in
theorem ggX10_isLate_X10_of : GoodIn wsX10_isLate wsX10_of := goodIn_r _ [10, 1, 11, 12, 13, 14, 15, 16, 17, 18, 19] (by decide +kernel) (by decide +kernel)
set_option maxRecDepth 20000 in
theorem gX10_isLate_X10_of : GoodIn wsX10_isLate (wsV RX10 61 RX10 yX10_of wsX10_of) := goodIn_app (goodIn_of _ (by decide +kernel)) ggX10_isLate_X10_of
set_option maxRecDepth 20000 in
theorem ggX10_lies_X10_of : GoodIn wsX10_lies wsX10_of := goodIn_r _ [5, 6, 15, 16, 17, 18, 19, 20, 21, 22, 23] (by decide +kernel) (by decide +kernel)
set_option maxRecDepth 20000 in
theorem gX10_lies_X10_of : GoodIn wsX10_lies (wsV RX10 61 RX10 yX10_of wsX10_of) := goodIn_app (goodIn_of _ (by decide +kernel)) ggX10_lies_X10_of
set_option maxRecDepth 20000 in
theorem ggX10_lies_X10_its : GoodIn wsX10_lies wsX10_its := goodIn_r _ [10, 6, 15, 16, 17, 18, 19, 20, 21, 22, 23] (by decide +kernel) (by decide +kernel)
set_option maxRecDepth 20000 in
theorem gX10_lies_X10_its : GoodIn wsX10_lies (wsV RX10 29 RX10 yX10_its wsX10_its) := goodIn_app (goodIn_of _ (by decide +kernel)) ggX10_lies_X10_its
set_option maxRecDepth 20000 in
theorem ggX10_lies_X10_setting : GoodIn wsX10_lies wsX10_setting := goodIn_r _ [14, 6, 15, 16, 17, 18, 19, 20, 21, 22, 23] (by decide +kernel) (by decide +kernel)
set_option maxRecDepth 20000 in
theorem gX10_lies_X10_setting : GoodIn wsX10_lies (wsV RX10 48 RX10 yX10_setting wsX10_setting) := goodIn_app (goodIn_of _ (by decide +kernel)) ggX10_lies_X10_setting
set_option maxRecDepth 20000 in
theorem ggX10_piece_X10_lies : GoodIn wsX10_piece wsX10_lies := goodIn_r _ [5, 6, 7, 8, 4, 9, 10, 11, 12, 13, 14, 15, 16, 17, 18, 19, 20, 21, 22, 23, 24, 25, 26, 27] (by decide +kernel) (by decide +kernel)
set_option maxRecDepth 20000 in
theorem gX10_piece_X10_lies : GoodIn wsX10_piece (wsV RX10 67 RX10 yX10_lies wsX10_lies) := goodIn_app (goodIn_of _ (by decide +kernel)) ggX10_piece_X10_lies
set_option maxRecDepth 20000 in
theorem ggX10_piece_X10_of : GoodIn wsX10_piece wsX10_of := goodIn_r _ [9, 10, 19, 20, 21, 22, 23, 24, 25, 26, 27] (by decide +kernel) (by decide +kernel)
set_option maxRecDepth 20000 in
theorem gX10_piece_X10_of : GoodIn wsX10_piece (wsV RX10 61 RX10 yX10_of wsX10_of) := goodIn_app (goodIn_of _ (by decide +kernel)) ggX10_piece_X10_of
set_option maxRecDepth 20000 in
theorem ggX10_piece_X10_its : GoodIn wsX10_piece wsX10_its := goodIn_r _ [14, 10, 19, 20, 21, 22, 23, 24, 25, 26, 27] (by decide +kernel) (by decide +kernel)
set_option maxRecDepth 20000 in
theorem gX10_piece_X10_its : GoodIn wsX10_piece (wsV RX10 29 RX10 yX10_its wsX10_its) := goodIn_app (goodIn_of _ (by decide +kernel)) ggX10_piece_X10_its
set_option maxRecDepth 20000 in
theorem ggX10_piece_X10_setting : GoodIn wsX10_piece wsX10_setting := goodIn_r _ [18, 10, 19, 20, 21, 22, 23, 24, 25, 26, 27] (by decide +kernel) (by decide +kernel)
set_option maxRecDepth 20000 in
theorem gX10_piece_X10_setting : GoodIn wsX10_piece (wsV RX10 48 RX10 yX10_setting wsX10_setting) := goodIn_app (goodIn_of _ (by decide +kernel)) ggX10_piece_X10_setting
set_option maxRecDepth 20000 in
theorem ggX10_pieceArea_X10_piece : GoodIn wsX10_pieceArea wsX10_piece := goodIn_r _ [5, 6, 7, 8, 4, 9, 10, 11, 12, 13, 14, 15, 16, 17, 18, 19, 20, 21, 22, 23, 24, 25, 26, 27, 28, 29, 30, 31] (by decide +kernel) (by decide +kernel)
set_option maxRecDepth 20000 in
theorem gX10_pieceArea_X10_piece : GoodIn wsX10_pieceArea (wsV RX10 70 RX10 yX10_piece wsX10_piece) := goodIn_app (goodIn_of _ (by decide +kernel)) ggX10_pieceArea_X10_piece
set_option maxRecDepth 20000 in
theorem ggX10_keeps_X10_piece : GoodIn wsX10_keeps wsX10_piece := goodIn_r _ [5, 6, 7, 8, 4, 9, 10, 11, 12, 13, 14, 15, 16, 17, 18, 19, 20, 21, 22, 23, 24, 25, 26, 27, 28, 29, 30, 31] (by decide +kernel) (by decide +kernel)
set_option maxRecDepth 20000 in
theorem gX10_keeps_X10_piece : GoodIn wsX10_keeps (wsV RX10 70 RX10 yX10_piece wsX10_piece) := goodIn_app (goodIn_of _ (by decide +kernel)) ggX10_keeps_X10_piece
set_option maxRecDepth 20000 in
theorem ggX10_keeps_X10_setting : GoodIn wsX10_keeps wsX10_setting := goodIn_r _ [22, 14, 23, 24, 25, 26, 27, 28, 29, 30, 31] (by decide +kernel) (by decide +kernel)
set_option maxRecDepth 20000 in
theorem gX10_keeps_X10_setting : GoodIn wsX10_keeps (wsV RX10 48 RX10 yX10_setting wsX10_setting) := goodIn_app (goodIn_of _ (by decide +kernel)) ggX10_keeps_X10_setting
set_option maxRecDepth 20000 in
theorem ggX10_keptArea_X10_keeps : GoodIn wsX10_keptArea wsX10_keeps := goodIn_r _ [5, 6, 7, 8, 4, 9, 10, 11, 12, 13, 14, 15, 16, 17, 18, 19, 20, 21, 22, 23, 24, 25, 26, 31, 32, 33, 34, 35, 36, 37, 38, 39] (by decide +kernel) (by decide +kernel)
set_option maxRecDepth 20000 in
theorem gX10_keptArea_X10_keeps : GoodIn wsX10_keptArea (wsV RX10 74 RX10 yX10_keeps wsX10_keeps) := goodIn_app (goodIn_of _ (by decide +kernel)) ggX10_keptArea_X10_keeps
set_option maxRecDepth 20000 in
theorem ggX10_keptArea_X10_pieceArea : GoodIn wsX10_keptArea wsX10_pieceArea := goodIn_r _ [30, 6, 7, 8, 4, 9, 10, 11, 12, 13, 14, 15, 16, 17, 18, 19, 20, 21, 22, 23, 24, 25, 26, 31, 32, 33, 34, 35, 36, 37, 38, 39] (by decide +kernel) (by decide +kernel)
set_option maxRecDepth 20000 in
theorem gX10_keptArea_X10_pieceArea : GoodIn wsX10_keptArea (wsV RX10 77 RX10 yX10_pieceArea wsX10_pieceArea) := goodIn_app (goodIn_of _ (by decide +kernel)) ggX10_keptArea_X10_pieceArea
set_option maxRecDepth 20000 in
theorem ggX10_scrapArea_X10_pieceArea : GoodIn wsX10_scrapArea wsX10_pieceArea := goodIn_r _ [5, 6, 7, 8, 4, 9, 10, 11, 12, 13, 14, 15, 16, 17, 18, 19, 20, 21, 22, 23, 24, 25, 26, 35, 36, 37, 38, 39, 40, 41, 42, 43] (by decide +kernel) (by decide +kernel)
set_option maxRecDepth 20000 in
theorem gX10_scrapArea_X10_pieceArea : GoodIn wsX10_scrapArea (wsV RX10 77 RX10 yX10_pieceArea wsX10_pieceArea) := goodIn_app (goodIn_of _ (by decide +kernel)) ggX10_scrapArea_X10_pieceArea
set_option maxRecDepth 20000 in
theorem ggX10_scrapArea_X10_keptArea : GoodIn wsX10_scrapArea wsX10_keptArea := goodIn_r _ [30, 31, 32, 33, 4, 34, 6, 7, 8, 9, 10, 11, 12, 13, 14, 15, 16, 17, 18, 19, 20, 21, 22, 23, 24, 25, 26, 1, 2, 3, 5, 35, 36, 37, 38, 39, 40, 41, 42, 43] (by decide +kernel) (by decide +kernel)
set_option maxRecDepth 20000 in
theorem gX10_scrapArea_X10_keptArea : GoodIn wsX10_scrapArea (wsV RX10 81 RX10 yX10_keptArea wsX10_keptArea) := goodIn_app (goodIn_of _ (by decide +kernel)) ggX10_scrapArea_X10_keptArea
set_option maxRecDepth 20000 in
theorem ggX10_cuts_X10_its : GoodIn wsX10_cuts wsX10_its := goodIn_r _ [6, 1, 63, 64, 65, 66, 67, 68, 69, 70, 71] (by decide +kernel) (by decide +kernel)
set_option maxRecDepth 20000 in
theorem gX10_cuts_X10_its : GoodIn wsX10_cuts (wsV RX10 29 RX10 yX10_its wsX10_its) := goodIn_app (goodIn_of _ (by decide +kernel)) ggX10_cuts_X10_its
set_option maxRecDepth 20000 in
theorem ggX10_cuts_X10_takes : GoodIn wsX10_cuts wsX10_takes := goodIn_r _ [10, 1, 2, 3, 4, 5, 6, 11, 12, 13, 14, 15, 16, 17, 18, 19, 20, 21, 22, 23, 24, 25, 26, 27, 28, 29, 30, 31, 32, 33, 34, 63, 64, 65, 66, 67, 68, 69, 70, 71] (by decide +kernel) (by decide +kernel)
set_option maxRecDepth 20000 in
theorem gX10_cuts_X10_takes : GoodIn wsX10_cuts (wsV RX10 84 RX10 yX10_takes wsX10_takes) := goodIn_app (goodIn_of _ (by decide +kernel)) ggX10_cuts_X10_takes
set_option maxRecDepth 20000 in
theorem ggX10_cuts_X10_of : GoodIn wsX10_cuts wsX10_of := goodIn_r _ [38, 1, 63, 64, 65, 66, 67, 68, 69, 70, 71] (by decide +kernel) (by decide +kernel)
set_option maxRecDepth 20000 in
theorem gX10_cuts_X10_of : GoodIn wsX10_cuts (wsV RX10 61 RX10 yX10_of wsX10_of) := goodIn_app (goodIn_of _ (by decide +kernel)) ggX10_cuts_X10_of
set_option maxRecDepth 20000 in
theorem ggX10_cuts_X10_area : GoodIn wsX10_cuts wsX10_area := goodIn_r _ [34, 2, 3, 4, 5, 6, 1, 63, 64, 65, 66, 67, 68, 69, 70, 71] (by decide +kernel) (by decide +kernel)
set_option maxRecDepth 20000 in
theorem gX10_cuts_X10_area : GoodIn wsX10_cuts (wsV RX10 51 RX10 yX10_area wsX10_area) := goodIn_app (goodIn_of _ (by decide +kernel)) ggX10_cuts_X10_area
set_option maxRecDepth 20000 in
theorem ggX10_cuts_X10_pieceArea : GoodIn wsX10_cuts wsX10_pieceArea := goodIn_r _ [42, 43, 44, 45, 5, 46, 47, 48, 49, 50, 35, 36, 37, 38, 1, 2, 3, 4, 6, 27, 28, 29, 30, 63, 64, 65, 66, 67, 68, 69, 70, 71] (by decide +kernel) (by decide +kernel)
set_option maxRecDepth 20000 in
theorem gX10_cuts_X10_pieceArea : GoodIn wsX10_cuts (wsV RX10 77 RX10 yX10_pieceArea wsX10_pieceArea) := goodIn_app (goodIn_of _ (by decide +kernel)) ggX10_cuts_X10_pieceArea
set_option maxRecDepth 20000 in
theorem ggX10_cuts_X10_keeps : GoodIn wsX10_cuts wsX10_keeps := goodIn_r _ [54, 43, 44, 45, 5, 46, 47, 48, 49, 50, 35, 36, 37, 38, 1, 2, 3, 4, 6, 27, 28, 29, 30, 63, 64, 65, 66, 67, 68, 69, 70, 71] (by decide +kernel) (by decide +kernel)
set_option maxRecDepth 20000 in
theorem gX10_cuts_X10_keeps : GoodIn wsX10_cuts (wsV RX10 74 RX10 yX10_keeps wsX10_keeps) := goodIn_app (goodIn_of _ (by decide +kernel)) ggX10_cuts_X10_keeps
set_option maxRecDepth 20000 in
theorem ggX10_cuts_X10_many : GoodIn wsX10_cuts wsX10_many := goodIn_r _ [22, 1, 63, 64, 65, 66, 67, 68, 69, 70, 71] (by decide +kernel) (by decide +kernel)
set_option maxRecDepth 20000 in
theorem gX10_cuts_X10_many : GoodIn wsX10_cuts (wsV RX10 40 RX10 yX10_many wsX10_many) := goodIn_app (goodIn_of _ (by decide +kernel)) ggX10_cuts_X10_many
set_option maxRecDepth 20000 in
theorem ggX10_cuts_X10_piece : GoodIn wsX10_cuts wsX10_piece := goodIn_r _ [46, 47, 48, 49, 5, 50, 35, 36, 37, 38, 1, 2, 3, 4, 6, 27, 28, 29, 30, 63, 64, 65, 66, 67, 68, 69, 70, 71] (by decide +kernel) (by decide +kernel)
set_option maxRecDepth 20000 in
theorem gX10_cuts_X10_piece : GoodIn wsX10_cuts (wsV RX10 70 RX10 yX10_piece wsX10_piece) := goodIn_app (goodIn_of _ (by decide +kernel)) ggX10_cuts_X10_piece
set_option maxRecDepth 20000 in
theorem ggX10_cuts_X10_makes : GoodIn wsX10_cuts wsX10_makes := goodIn_r _ [58, 1, 59, 60, 61, 5, 62, 19, 20, 21, 22, 63, 64, 65, 66, 67, 68, 69, 70, 71] (by decide +kernel) (by decide +kernel)
set_option maxRecDepth 20000 in
theorem gX10_cuts_X10_makes : GoodIn wsX10_cuts (wsV RX10 87 RX10 yX10_makes wsX10_makes) := goodIn_app (goodIn_of _ (by decide +kernel)) ggX10_cuts_X10_makes
set_option maxRecDepth 20000 in
theorem ggX10_goes_X10_area : GoodIn wsX10_goes wsX10_area := goodIn_r _ [5, 6, 7, 8, 4, 9, 10, 51, 52, 53, 54, 55, 56, 57, 58, 59] (by decide +kernel) (by decide +kernel)
set_option maxRecDepth 20000 in
theorem gX10_goes_X10_area : GoodIn wsX10_goes (wsV RX10 51 RX10 yX10_area wsX10_area) := goodIn_app (goodIn_of _ (by decide +kernel)) ggX10_goes_X10_area
set_option maxRecDepth 20000 in
theorem ggX10_goes_X10_before : GoodIn wsX10_goes wsX10_before := goodIn_r _ [14, 6, 7, 8, 4, 9, 10, 15, 16, 17, 18, 51, 52, 53, 54, 55, 56, 57, 58, 59] (by decide +kernel) (by decide +kernel)
set_option maxRecDepth 20000 in
theorem gX10_goes_X10_before : GoodIn wsX10_goes (wsV RX10 54 RX10 yX10_before wsX10_before) := goodIn_app (goodIn_of _ (by decide +kernel)) ggX10_goes_X10_before
set_option maxRecDepth 20000 in
theorem ggX10_goes_X10_scrapArea : GoodIn wsX10_goes wsX10_scrapArea := goodIn_r _ [22, 23, 24, 25, 4, 26, 27, 28, 29, 30, 31, 32, 33, 34, 35, 36, 37, 38, 10, 6, 7, 8, 9, 39, 40, 41, 42, 43, 44, 45, 46, 47, 48, 49, 50, 51, 52, 53, 54, 55, 56, 57, 58, 59] (by decide +kernel) (by decide +kernel)
set_option maxRecDepth 20000 in
theorem gX10_goes_X10_scrapArea : GoodIn wsX10_goes (wsV RX10 91 RX10 yX10_scrapArea wsX10_scrapArea) := goodIn_app (goodIn_of _ (by decide +kernel)) ggX10_goes_X10_scrapArea
set_option maxRecDepth 20000 in
theorem ggX10_chosen_X10_its : GoodIn wsX10_chosen wsX10_its := goodIn_r _ [6, 1, 55, 56, 57, 58, 59, 60, 61, 62, 63] (by decide +kernel) (by decide +kernel)
set_option maxRecDepth 20000 in
theorem gX10_chosen_X10_its : GoodIn wsX10_chosen (wsV RX10 29 RX10 yX10_its wsX10_its) := goodIn_app (goodIn_of _ (by decide +kernel)) ggX10_chosen_X10_its
set_option maxRecDepth 20000 in
theorem ggX10_chosen_X10_lies : GoodIn wsX10_chosen wsX10_lies := goodIn_r _ [10, 11, 12, 13, 5, 14, 1, 2, 3, 4, 6, 15, 16, 17, 18, 55, 56, 57, 58, 59, 60, 61, 62, 63] (by decide +kernel) (by decide +kernel)
set_option maxRecDepth 20000 in
theorem gX10_chosen_X10_lies : GoodIn wsX10_chosen (wsV RX10 67 RX10 yX10_lies wsX10_lies) := goodIn_app (goodIn_of _ (by decide +kernel)) ggX10_chosen_X10_lies
set_option maxRecDepth 20000 in
theorem ggX10_chosen_X10_goes : GoodIn wsX10_chosen wsX10_goes := goodIn_r _ [22, 23, 24, 25, 5, 26, 2, 3, 4, 6, 1, 27, 28, 29, 30, 31, 32, 33, 34, 35, 36, 37, 38, 39, 40, 41, 42, 43, 44, 45, 46, 7, 8, 9, 10, 11, 12, 13, 14, 15, 16, 17, 18, 47, 48, 49, 50, 51, 52, 53, 54, 55, 56, 57, 58, 59, 60, 61, 62, 63] (by decide +kernel) (by decide +kernel)
set_option maxRecDepth 20000 in
theorem gX10_chosen_X10_goes : GoodIn wsX10_chosen (wsV RX10 94 RX10 yX10_goes wsX10_goes) := goodIn_app (goodIn_of _ (by decide +kernel)) ggX10_chosen_X10_goes
set_option maxRecDepth 20000 in
theorem ggX10_isAhead_X10_of : GoodIn wsX10_isAhead wsX10_of := goodIn_r _ [5, 6, 7, 8, 9, 10, 11, 12, 13, 14, 15] (by decide +kernel) (by decide +kernel)
set_option maxRecDepth 20000 in
theorem gX10_isAhead_X10_of : GoodIn wsX10_isAhead (wsV RX10 61 RX10 yX10_of wsX10_of) := goodIn_app (goodIn_of _ (by decide +kernel)) ggX10_isAhead_X10_of
set_option maxRecDepth 20000 in
theorem ggX10_first_X10_isOpen : GoodIn wsX10_first wsX10_isOpen := goodIn_r _ [6, 7, 8, 9, 5, 10, 1, 15, 16, 17, 18, 19, 20, 21, 22, 23] (by decide +kernel) (by decide +kernel)
set_option maxRecDepth 20000 in
theorem gX10_first_X10_isOpen : GoodIn wsX10_first (wsV RX10 64 RX10 yX10_isOpen wsX10_isOpen) := goodIn_app (goodIn_of _ (by decide +kernel)) ggX10_first_X10_isOpen
set_option maxRecDepth 20000 in
theorem ggX10_first_X10_isAhead : GoodIn wsX10_first wsX10_isAhead := goodIn_r _ [14, 7, 8, 9, 5, 10, 1, 15, 16, 17, 18, 19, 20, 21, 22, 23] (by decide +kernel) (by decide +kernel)
set_option maxRecDepth 20000 in
theorem gX10_first_X10_isAhead : GoodIn wsX10_first (wsV RX10 97 RX10 yX10_isAhead wsX10_isAhead) := goodIn_app (goodIn_of _ (by decide +kernel)) ggX10_first_X10_isAhead
set_option maxRecDepth 20000 in
theorem ggX10_open_X10_isOpen : GoodIn wsX10_open wsX10_isOpen := goodIn_r _ [6, 7, 8, 9, 5, 10, 1, 11, 12, 13, 14, 15, 16, 17, 18, 19] (by decide +kernel) (by decide +kernel)
set_option maxRecDepth 20000 in
theorem gX10_open_X10_isOpen : GoodIn wsX10_open (wsV RX10 64 RX10 yX10_isOpen wsX10_isOpen) := goodIn_app (goodIn_of _ (by decide +kernel)) ggX10_open_X10_isOpen
set_option maxRecDepth 20000 in
theorem ggX10_late_X10_isLate : GoodIn wsX10_late wsX10_isLate := goodIn_r _ [6, 1, 7, 8, 9, 5, 10, 11, 12, 13, 14, 15, 16, 17, 18, 19, 20, 21, 22, 23] (by decide +kernel) (by decide +kernel)
set_option maxRecDepth 20000 in
theorem gX10_late_X10_isLate : GoodIn wsX10_late (wsV RX10 101 RX10 yX10_isLate wsX10_isLate) := goodIn_app (goodIn_of _ (by decide +kernel)) ggX10_late_X10_isLate
set_option maxRecDepth 20000 in
theorem ggX10_plans_X10_first : GoodIn wsX10_plans wsX10_first := goodIn_r _ [5, 6, 7, 8, 9, 4, 10, 11, 12, 13, 14, 15, 16, 17, 18, 95, 96, 97, 98, 99, 100, 101, 102, 103] (by decide +kernel) (by decide +kernel)
set_option maxRecDepth 20000 in
theorem gX10_plans_X10_first : GoodIn wsX10_plans (wsV RX10 104 RX10 yX10_first wsX10_first) := goodIn_app (goodIn_of _ (by decide +kernel)) ggX10_plans_X10_first
set_option maxRecDepth 20000 in
theorem ggX10_plans_X10_chosen : GoodIn wsX10_plans wsX10_chosen := goodIn_r _ [22, 6, 23, 24, 25, 4, 26, 27, 28, 29, 30, 11, 12, 13, 14, 31, 32, 33, 34, 35, 36, 37, 38, 39, 40, 41, 42, 43, 44, 45, 46, 47, 48, 49, 50, 51, 52, 53, 54, 55, 56, 57, 58, 59, 60, 61, 62, 63, 64, 65, 66, 67, 68, 69, 70, 95, 96, 97, 98, 99, 100, 101, 102, 103] (by decide +kernel) (by decide +kernel)
set_option maxRecDepth 20000 in
theorem gX10_plans_X10_chosen : GoodIn wsX10_plans (wsV RX10 107 RX10 yX10_chosen wsX10_chosen) := goodIn_app (goodIn_of _ (by decide +kernel)) ggX10_plans_X10_chosen
set_option maxRecDepth 20000 in
theorem ggX10_plans_X10_cuts : GoodIn wsX10_plans wsX10_cuts := goodIn_r _ [74, 6, 23, 24, 25, 4, 26, 75, 76, 77, 78, 43, 44, 45, 46, 47, 48, 49, 50, 79, 80, 81, 82, 83, 84, 85, 86, 31, 32, 33, 34, 39, 40, 41, 42, 11, 12, 13, 14, 55, 56, 57, 58, 59, 60, 61, 62, 27, 28, 29, 30, 67, 68, 69, 70, 87, 88, 89, 90, 91, 92, 93, 94, 95, 96, 97, 98, 99, 100, 101, 102, 103] (by decide +kernel) (by decide +kernel)
set_option maxRecDepth 20000 in
theorem gX10_plans_X10_cuts : GoodIn wsX10_plans (wsV RX10 110 RX10 yX10_cuts wsX10_cuts) := goodIn_app (goodIn_of _ (by decide +kernel)) ggX10_plans_X10_cuts
set_option maxRecDepth 20000 in
theorem ggX10_set_X10_in : GoodIn wsX10_set wsX10_in := goodIn_r _ [5] (by decide +kernel) (by decide +kernel)
set_option maxRecDepth 20000 in
theorem gX10_set_X10_in : GoodIn wsX10_set (va_wsS RX10 33 yX10_in wsX10_in) := goodIn_app (goodIn_of _ (by decide +kernel)) ggX10_set_X10_in
set_option maxRecDepth 20000 in
theorem ggX10_set_X10_setting : GoodIn wsX10_set wsX10_setting := goodIn_r _ [9, 1, 16, 17, 18, 19, 20, 21, 22, 23, 24] (by decide +kernel) (by decide +kernel)
set_option maxRecDepth 20000 in
theorem gX10_set_X10_setting : GoodIn wsX10_set (wsV RX10 48 RX10 yX10_setting wsX10_setting) := goodIn_app (goodIn_of _ (by decide +kernel)) ggX10_set_X10_setting
set_option maxRecDepth 20000 in
theorem ggX10_set_X10_record : GoodIn wsX10_set wsX10_record := goodIn_r _ [13, 14, 15, 16, 17, 18, 19, 20, 21, 22, 23, 24] (by decide +kernel) (by decide +kernel)
set_option maxRecDepth 20000 in
theorem gX10_set_X10_record : GoodIn wsX10_set (wsV RX10 113 RX10 yX10_record wsX10_record) := goodIn_app (goodIn_of _ (by decide +kernel)) ggX10_set_X10_record
set_option maxRecDepth 20000 in
theorem ggX10_buys_X10_many : GoodIn wsX10_buys wsX10_many := goodIn_r _ [6, 1, 15, 16, 17, 18, 19, 20, 21, 22, 23] (by decide +kernel) (by decide +kernel)
set_option maxRecDepth 20000 in
theorem gX10_buys_X10_many : GoodIn wsX10_buys (wsV RX10 40 RX10 yX10_many wsX10_many) := goodIn_app (goodIn_of _ (by decide +kernel)) ggX10_buys_X10_many
set_option maxRecDepth 20000 in
theorem ggX10_buys_X10_makes : GoodIn wsX10_buys wsX10_makes := goodIn_r _ [10, 1, 11, 12, 13, 5, 14, 2, 3, 4, 6, 15, 16, 17, 18, 19, 20, 21, 22, 23] (by decide +kernel) (by decide +kernel)
set_option maxRecDepth 20000 in
theorem gX10_buys_X10_makes : GoodIn wsX10_buys (wsV RX10 87 RX10 yX10_makes wsX10_makes) := goodIn_app (goodIn_of _ (by decide +kernel)) ggX10_buys_X10_makes
set_option maxRecDepth 20000 in
theorem ggX10_buy_X10_in : GoodIn wsX10_buy wsX10_in := goodIn_r _ [6] (by decide +kernel) (by decide +kernel)
set_option maxRecDepth 20000 in
theorem gX10_buy_X10_in : GoodIn wsX10_buy (va_wsS RX10 33 yX10_in wsX10_in) := goodIn_app (goodIn_of _ (by decide +kernel)) ggX10_buy_X10_in
set_option maxRecDepth 20000 in
theorem ggX10_buy_X10_copy : GoodIn wsX10_buy wsX10_copy := goodIn_r _ [9] (by decide +kernel) (by decide +kernel)
set_option maxRecDepth 20000 in
theorem gX10_buy_X10_copy : GoodIn wsX10_buy (va_wsS RX10 117 yX10_copy wsX10_copy) := goodIn_app (goodIn_of _ (by decide +kernel)) ggX10_buy_X10_copy
set_option maxRecDepth 20000 in
theorem ggX10_buy_X10_buys : GoodIn wsX10_buy wsX10_buys := goodIn_r _ [13, 1, 14, 15, 16, 5, 17, 18, 19, 20, 21, 22, 23, 24, 25, 32, 33, 34, 35, 36, 37, 38, 39, 40] (by decide +kernel) (by decide +kernel)
set_option maxRecDepth 20000 in
theorem gX10_buy_X10_buys : GoodIn wsX10_buy (wsV RX10 121 RX10 yX10_buys wsX10_buys) := goodIn_app (goodIn_of _ (by decide +kernel)) ggX10_buy_X10_buys
set_option maxRecDepth 20000 in
theorem ggX10_buy_X10_record : GoodIn wsX10_buy wsX10_record := goodIn_r _ [29, 30, 31, 32, 33, 34, 35, 36, 37, 38, 39, 40] (by decide +kernel) (by decide +kernel)
set_option maxRecDepth 20000 in
theorem gX10_buy_X10_record : GoodIn wsX10_buy (wsV RX10 113 RX10 yX10_record wsX10_record) := goodIn_app (goodIn_of _ (by decide +kernel)) ggX10_buy_X10_record
set_option maxRecDepth 20000 in
theorem ggX10_move_X10_isSheet : GoodIn wsX10_move wsX10_isSheet := goodIn_r _ [6, 1, 7, 8, 5, 9, 10, 11, 12, 13, 52, 53, 54, 55, 56, 57, 58, 59, 60] (by decide +kernel) (by decide +kernel)
set_option maxRecDepth 20000 in
theorem gX10_move_X10_isSheet : GoodIn wsX10_move (wsV RX10 124 RX10 yX10_isSheet wsX10_isSheet) := goodIn_app (goodIn_of _ (by decide +kernel)) ggX10_move_X10_isSheet
set_option maxRecDepth 20000 in
theorem ggX10_move_X10_in : GoodIn wsX10_move wsX10_in := goodIn_r _ [9] (by decide +kernel) (by decide +kernel)
set_option maxRecDepth 20000 in
theorem gX10_move_X10_in : GoodIn wsX10_move (va_wsS RX10 33 yX10_in wsX10_in) := goodIn_app (goodIn_of _ (by decide +kernel)) ggX10_move_X10_in
set_option maxRecDepth 20000 in
theorem ggX10_move_X10_its : GoodIn wsX10_move wsX10_its := goodIn_r _ [13, 1, 52, 53, 54, 55, 56, 57, 58, 59, 60] (by decide +kernel) (by decide +kernel)
set_option maxRecDepth 20000 in
theorem gX10_move_X10_its : GoodIn wsX10_move (wsV RX10 29 RX10 yX10_its wsX10_its) := goodIn_app (goodIn_of _ (by decide +kernel)) ggX10_move_X10_its
set_option maxRecDepth 20000 in
theorem ggX10_move_X10_many : GoodIn wsX10_move wsX10_many := goodIn_r _ [17, 1, 52, 53, 54, 55, 56, 57, 58, 59, 60] (by decide +kernel) (by decide +kernel)
set_option maxRecDepth 20000 in
theorem gX10_move_X10_many : GoodIn wsX10_move (wsV RX10 40 RX10 yX10_many wsX10_many) := goodIn_app (goodIn_of _ (by decide +kernel)) ggX10_move_X10_many
set_option maxRecDepth 20000 in
theorem ggX10_move_X10_record : GoodIn wsX10_move wsX10_record := goodIn_r _ [21, 22, 23, 52, 53, 54, 55, 56, 57, 58, 59, 60] (by decide +kernel) (by decide +kernel)
set_option maxRecDepth 20000 in
theorem gX10_move_X10_record : GoodIn wsX10_move (wsV RX10 113 RX10 yX10_record wsX10_record) := goodIn_app (goodIn_of _ (by decide +kernel)) ggX10_move_X10_record
set_option maxRecDepth 20000 in
theorem ggX10_move_X10_takes : GoodIn wsX10_move wsX10_takes := goodIn_r _ [27, 1, 10, 11, 12, 5, 13, 28, 29, 30, 31, 32, 33, 34, 35, 14, 15, 16, 17, 36, 37, 38, 39, 40, 41, 42, 43, 44, 45, 46, 47, 52, 53, 54, 55, 56, 57, 58, 59, 60] (by decide +kernel) (by decide +kernel)
set_option maxRecDepth 20000 in
theorem gX10_move_X10_takes : GoodIn wsX10_move (wsV RX10 84 RX10 yX10_takes wsX10_takes) := goodIn_app (goodIn_of _ (by decide +kernel)) ggX10_move_X10_takes
set_option maxRecDepth 20000 in
theorem ggX10_move_X10_leans : GoodIn wsX10_move wsX10_leans := goodIn_r _ [51, 1, 14, 15, 16, 5, 17, 52, 53, 54, 55, 56, 57, 58, 59, 60] (by decide +kernel) (by decide +kernel)
set_option maxRecDepth 20000 in
theorem gX10_move_X10_leans : GoodIn wsX10_move (wsV RX10 44 RX10 yX10_leans wsX10_leans) := goodIn_app (goodIn_of _ (by decide +kernel)) ggX10_move_X10_leans
set_option maxRecDepth 20000 in
theorem ggX10_scrap_X10_isSheet : GoodIn wsX10_scrap wsX10_isSheet := goodIn_r _ [6, 1, 7, 8, 5, 9, 10, 11, 12, 13, 48, 49, 50, 51, 52, 53, 54, 55, 56] (by decide +kernel) (by decide +kernel)
set_option maxRecDepth 20000 in
theorem gX10_scrap_X10_isSheet : GoodIn wsX10_scrap (wsV RX10 124 RX10 yX10_isSheet wsX10_isSheet) := goodIn_app (goodIn_of _ (by decide +kernel)) ggX10_scrap_X10_isSheet
set_option maxRecDepth 20000 in
theorem ggX10_scrap_X10_record : GoodIn wsX10_scrap wsX10_record := goodIn_r _ [17, 18, 19, 48, 49, 50, 51, 52, 53, 54, 55, 56] (by decide +kernel) (by decide +kernel)
set_option maxRecDepth 20000 in
theorem gX10_scrap_X10_record : GoodIn wsX10_scrap (wsV RX10 113 RX10 yX10_record wsX10_record) := goodIn_app (goodIn_of _ (by decide +kernel)) ggX10_scrap_X10_record
set_option maxRecDepth 20000 in
theorem ggX10_scrap_X10_takes : GoodIn wsX10_scrap wsX10_takes := goodIn_r _ [23, 1, 10, 11, 12, 5, 13, 24, 25, 26, 27, 28, 29, 30, 31, 32, 33, 34, 35, 36, 37, 38, 39, 40, 41, 42, 43, 44, 45, 46, 47, 48, 49, 50, 51, 52, 53, 54, 55, 56] (by decide +kernel) (by decide +kernel)
set_option maxRecDepth 20000 in
theorem gX10_scrap_X10_takes : GoodIn wsX10_scrap (wsV RX10 84 RX10 yX10_takes wsX10_takes) := goodIn_app (goodIn_of _ (by decide +kernel)) ggX10_scrap_X10_takes
set_option maxRecDepth 20000 in
theorem ggX10_scrap_X10_area : GoodIn wsX10_scrap wsX10_area := goodIn_r _ [47, 10, 11, 12, 5, 13, 1, 48, 49, 50, 51, 52, 53, 54, 55, 56] (by decide +kernel) (by decide +kernel)
set_option maxRecDepth 20000 in
theorem gX10_scrap_X10_area : GoodIn wsX10_scrap (wsV RX10 51 RX10 yX10_area wsX10_area) := goodIn_app (goodIn_of _ (by decide +kernel)) ggX10_scrap_X10_area
set_option maxRecDepth 20000 in
theorem ggX10_order_X10_in : GoodIn wsX10_order wsX10_in := goodIn_r _ [6] (by decide +kernel) (by decide +kernel)
set_option maxRecDepth 20000 in
theorem gX10_order_X10_in : GoodIn wsX10_order (va_wsS RX10 33 yX10_in wsX10_in) := goodIn_app (goodIn_of _ (by decide +kernel)) ggX10_order_X10_in
set_option maxRecDepth 20000 in
theorem ggX10_order_X10_copy : GoodIn wsX10_order wsX10_copy := goodIn_r _ [9] (by decide +kernel) (by decide +kernel)
set_option maxRecDepth 20000 in
theorem gX10_order_X10_copy : GoodIn wsX10_order (va_wsS RX10 117 yX10_copy wsX10_copy) := goodIn_app (goodIn_of _ (by decide +kernel)) ggX10_order_X10_copy
set_option maxRecDepth 20000 in
theorem ggX10_order_X10_orders : GoodIn wsX10_order wsX10_orders := goodIn_r _ [13, 1, 20, 21, 22, 23, 24, 25, 26, 27, 28] (by decide +kernel) (by decide +kernel)
set_option maxRecDepth 20000 in
theorem gX10_order_X10_orders : GoodIn wsX10_order (wsV RX10 127 RX10 yX10_orders wsX10_orders) := goodIn_app (goodIn_of _ (by decide +kernel)) ggX10_order_X10_orders
set_option maxRecDepth 20000 in
theorem ggX10_order_X10_record : GoodIn wsX10_order wsX10_record := goodIn_r _ [17, 18, 19, 20, 21, 22, 23, 24, 25, 26, 27, 28] (by decide +kernel) (by decide +kernel)
set_option maxRecDepth 20000 in
theorem gX10_order_X10_record : GoodIn wsX10_order (wsV RX10 113 RX10 yX10_record wsX10_record) := goodIn_app (goodIn_of _ (by decide +kernel)) ggX10_order_X10_record
set_option maxRecDepth 20000 in
theorem ggX10_cancel_X10_isOrder : GoodIn wsX10_cancel wsX10_isOrder := goodIn_r _ [6, 1, 7, 8, 5, 9, 28, 29, 30, 31, 32, 33, 34, 35, 36] (by decide +kernel) (by decide +kernel)
set_option maxRecDepth 20000 in
theorem gX10_cancel_X10_isOrder : GoodIn wsX10_cancel (wsV RX10 130 RX10 yX10_isOrder wsX10_isOrder) := goodIn_app (goodIn_of _ (by decide +kernel)) ggX10_cancel_X10_isOrder
set_option maxRecDepth 20000 in
theorem ggX10_cancel_X10_isOpen : GoodIn wsX10_cancel wsX10_isOpen := goodIn_r _ [13, 14, 15, 16, 5, 17, 1, 28, 29, 30, 31, 32, 33, 34, 35, 36] (by decide +kernel) (by decide +kernel)
set_option maxRecDepth 20000 in
theorem gX10_cancel_X10_isOpen : GoodIn wsX10_cancel (wsV RX10 64 RX10 yX10_isOpen wsX10_isOpen) := goodIn_app (goodIn_of _ (by decide +kernel)) ggX10_cancel_X10_isOpen
set_option maxRecDepth 20000 in
theorem ggX10_cancel_X10_record : GoodIn wsX10_cancel wsX10_record := goodIn_r _ [21, 22, 23, 28, 29, 30, 31, 32, 33, 34, 35, 36] (by decide +kernel) (by decide +kernel)
set_option maxRecDepth 20000 in
theorem gX10_cancel_X10_record : GoodIn wsX10_cancel (wsV RX10 113 RX10 yX10_record wsX10_record) := goodIn_app (goodIn_of _ (by decide +kernel)) ggX10_cancel_X10_record
set_option maxRecDepth 20000 in
theorem ggX10_cancel_X10_open : GoodIn wsX10_cancel wsX10_open := goodIn_r _ [27, 1, 10, 11, 12, 5, 13, 14, 15, 16, 17, 28, 29, 30, 31, 32, 33, 34, 35, 36] (by decide +kernel) (by decide +kernel)
set_option maxRecDepth 20000 in
theorem gX10_cancel_X10_open : GoodIn wsX10_cancel (wsV RX10 133 RX10 yX10_open wsX10_open) := goodIn_app (goodIn_of _ (by decide +kernel)) ggX10_cancel_X10_open
set_option maxRecDepth 20000 in
theorem ggX10_cut_X10_isOrder : GoodIn wsX10_cut wsX10_isOrder := goodIn_r _ [6, 1, 7, 8, 5, 9, 88, 89, 90, 91, 92, 93, 94, 95, 96] (by decide +kernel) (by decide +kernel)
set_option maxRecDepth 20000 in
theorem gX10_cut_X10_isOrder : GoodIn wsX10_cut (wsV RX10 130 RX10 yX10_isOrder wsX10_isOrder) := goodIn_app (goodIn_of _ (by decide +kernel)) ggX10_cut_X10_isOrder
set_option maxRecDepth 20000 in
theorem ggX10_cut_X10_isSheet : GoodIn wsX10_cut wsX10_isSheet := goodIn_r _ [13, 1, 7, 8, 5, 9, 14, 15, 16, 17, 88, 89, 90, 91, 92, 93, 94, 95, 96] (by decide +kernel) (by decide +kernel)
set_option maxRecDepth 20000 in
theorem gX10_cut_X10_isSheet : GoodIn wsX10_cut (wsV RX10 124 RX10 yX10_isSheet wsX10_isSheet) := goodIn_app (goodIn_of _ (by decide +kernel)) ggX10_cut_X10_isSheet
set_option maxRecDepth 20000 in
theorem ggX10_cut_X10_isOpen : GoodIn wsX10_cut wsX10_isOpen := goodIn_r _ [21, 22, 23, 24, 5, 25, 1, 88, 89, 90, 91, 92, 93, 94, 95, 96] (by decide +kernel) (by decide +kernel)
set_option maxRecDepth 20000 in
theorem gX10_cut_X10_isOpen : GoodIn wsX10_cut (wsV RX10 64 RX10 yX10_isOpen wsX10_isOpen) := goodIn_app (goodIn_of _ (by decide +kernel)) ggX10_cut_X10_isOpen
set_option maxRecDepth 20000 in
theorem ggX10_cut_X10_lies : GoodIn wsX10_cut wsX10_lies := goodIn_r _ [29, 22, 23, 24, 5, 25, 1, 14, 15, 16, 17, 30, 31, 32, 33, 88, 89, 90, 91, 92, 93, 94, 95, 96] (by decide +kernel) (by decide +kernel)
set_option maxRecDepth 20000 in
theorem gX10_cut_X10_lies : GoodIn wsX10_cut (wsV RX10 67 RX10 yX10_lies wsX10_lies) := goodIn_app (goodIn_of _ (by decide +kernel)) ggX10_cut_X10_lies
set_option maxRecDepth 20000 in
theorem ggX10_cut_X10_record : GoodIn wsX10_cut wsX10_record := goodIn_r _ [37, 38, 39, 88, 89, 90, 91, 92, 93, 94, 95, 96] (by decide +kernel) (by decide +kernel)
set_option maxRecDepth 20000 in
theorem gX10_cut_X10_record : GoodIn wsX10_cut (wsV RX10 113 RX10 yX10_record wsX10_record) := goodIn_app (goodIn_of _ (by decide +kernel)) ggX10_cut_X10_record
set_option maxRecDepth 20000 in
theorem ggX10_cut_X10_cuts : GoodIn wsX10_cut wsX10_cuts := goodIn_r _ [43, 1, 14, 15, 16, 5, 17, 44, 45, 46, 47, 48, 49, 50, 51, 52, 53, 54, 55, 56, 57, 58, 59, 60, 61, 62, 63, 30, 31, 32, 33, 64, 65, 66, 67, 22, 23, 24, 25, 68, 69, 70, 71, 72, 73, 74, 75, 26, 27, 28, 29, 76, 77, 78, 79, 80, 81, 82, 83, 84, 85, 86, 87, 88, 89, 90, 91, 92, 93, 94, 95, 96] (by decide +kernel) (by decide +kernel)
set_option maxRecDepth 20000 in
theorem gX10_cut_X10_cuts : GoodIn wsX10_cut (wsV RX10 110 RX10 yX10_cuts wsX10_cuts) := goodIn_app (goodIn_of _ (by decide +kernel)) ggX10_cut_X10_cuts
set_option maxRecDepth 20000 in
theorem ggX10_plan_X10_in : GoodIn wsX10_plan wsX10_in := goodIn_r _ [5] (by decide +kernel) (by decide +kernel)
set_option maxRecDepth 20000 in
theorem gX10_plan_X10_in : GoodIn wsX10_plan (va_wsS RX10 33 yX10_in wsX10_in) := goodIn_app (goodIn_of _ (by decide +kernel)) ggX10_plan_X10_in
set_option maxRecDepth 20000 in
theorem ggX10_plan_X10_open : GoodIn wsX10_plan wsX10_open := goodIn_r _ [9, 1, 10, 11, 12, 4, 13, 14, 15, 16, 17, 112, 113, 114, 115, 116, 117, 118, 119, 120] (by decide +kernel) (by decide +kernel)
set_option maxRecDepth 20000 in
theorem gX10_plan_X10_open : GoodIn wsX10_plan (wsV RX10 133 RX10 yX10_open wsX10_open) := goodIn_app (goodIn_of _ (by decide +kernel)) ggX10_plan_X10_open
set_option maxRecDepth 20000 in
theorem ggX10_plan_X10_record : GoodIn wsX10_plan wsX10_record := goodIn_r _ [21, 22, 23, 112, 113, 114, 115, 116, 117, 118, 119, 120] (by decide +kernel) (by decide +kernel)
set_option maxRecDepth 20000 in
theorem gX10_plan_X10_record : GoodIn wsX10_plan (wsV RX10 113 RX10 yX10_record wsX10_record) := goodIn_app (goodIn_of _ (by decide +kernel)) ggX10_plan_X10_record
set_option maxRecDepth 20000 in
theorem ggX10_plan_X10_plans : GoodIn wsX10_plan wsX10_plans := goodIn_r _ [27, 28, 29, 30, 4, 31, 1, 10, 11, 12, 13, 14, 15, 16, 17, 32, 33, 34, 35, 36, 37, 38, 39, 40, 41, 42, 43, 44, 45, 46, 47, 48, 49, 50, 51, 52, 53, 54, 55, 56, 57, 58, 59, 60, 61, 62, 63, 64, 65, 66, 67, 68, 69, 70, 71, 72, 73, 74, 75, 76, 77, 78, 79, 80, 81, 82, 83, 84, 85, 86, 87, 88, 89, 90, 91, 92, 93, 94, 95, 96, 97, 98, 99, 100, 101, 102, 103, 104, 105, 106, 107, 108, 109, 110, 111, 112, 113, 114, 115, 116, 117, 118, 119, 120] (by decide +kernel) (by decide +kernel)
set_option maxRecDepth 20000 in
theorem gX10_plan_X10_plans : GoodIn wsX10_plan (wsV RX10 137 RX10 yX10_plans wsX10_plans) := goodIn_app (goodIn_of _ (by decide +kernel)) ggX10_plan_X10_plans
set_option maxRecDepth 20000 in
theorem ggX10_passes_X10_late : GoodIn wsX10_passes wsX10_late := goodIn_r _ [6, 1, 7, 8, 9, 5, 10, 11, 12, 13, 14, 15, 16, 17, 18, 19, 20, 21, 22, 23, 24, 25, 26, 27] (by decide +kernel) (by decide +kernel)
set_option maxRecDepth 20000 in
theorem gX10_passes_X10_late : GoodIn wsX10_passes (wsV RX10 140 RX10 yX10_late wsX10_late) := goodIn_app (goodIn_of _ (by decide +kernel)) ggX10_passes_X10_late
set_option maxRecDepth 20000 in
theorem ggX10_pass_X10_in : GoodIn wsX10_pass wsX10_in := goodIn_r _ [6] (by decide +kernel) (by decide +kernel)
set_option maxRecDepth 20000 in
theorem gX10_pass_X10_in : GoodIn wsX10_pass (va_wsS RX10 33 yX10_in wsX10_in) := goodIn_app (goodIn_of _ (by decide +kernel)) ggX10_pass_X10_in
set_option maxRecDepth 20000 in
theorem ggX10_pass_X10_copy : GoodIn wsX10_pass wsX10_copy := goodIn_r _ [9] (by decide +kernel) (by decide +kernel)
set_option maxRecDepth 20000 in
theorem gX10_pass_X10_copy : GoodIn wsX10_pass (va_wsS RX10 117 yX10_copy wsX10_copy) := goodIn_app (goodIn_of _ (by decide +kernel)) ggX10_pass_X10_copy
set_option maxRecDepth 20000 in
theorem ggX10_pass_X10_passes : GoodIn wsX10_pass wsX10_passes := goodIn_r _ [13, 1, 14, 15, 16, 5, 17, 18, 19, 20, 21, 22, 23, 24, 25, 26, 27, 28, 29, 36, 37, 38, 39, 40, 41, 42, 43, 44] (by decide +kernel) (by decide +kernel)
set_option maxRecDepth 20000 in
theorem gX10_pass_X10_passes : GoodIn wsX10_pass (wsV RX10 143 RX10 yX10_passes wsX10_passes) := goodIn_app (goodIn_of _ (by decide +kernel)) ggX10_pass_X10_passes
set_option maxRecDepth 20000 in
theorem ggX10_pass_X10_record : GoodIn wsX10_pass wsX10_record := goodIn_r _ [33, 34, 35, 36, 37, 38, 39, 40, 41, 42, 43, 44] (by decide +kernel) (by decide +kernel)
set_option maxRecDepth 20000 in
theorem gX10_pass_X10_record : GoodIn wsX10_pass (wsV RX10 113 RX10 yX10_record wsX10_record) := goodIn_app (goodIn_of _ (by decide +kernel)) ggX10_pass_X10_record
set_option maxRecDepth 20000 in
theorem ggX10_number_X10_in : GoodIn wsX10_number wsX10_in := goodIn_r _ [7] (by decide +kernel) (by decide +kernel)
set_option maxRecDepth 20000 in
theorem gX10_number_X10_in : GoodIn wsX10_number (va_wsS RX10 33 yX10_in wsX10_in) := goodIn_app (goodIn_of _ (by decide +kernel)) ggX10_number_X10_in
set_option maxRecDepth 20000 in
theorem ggX10_command_X10_stands : GoodIn wsX10_command wsX10_stands := goodIn_r _ [5, 6, 7, 8, 133, 134, 135, 136, 137, 138, 139, 140, 141] (by decide +kernel) (by decide +kernel)
set_option maxRecDepth 20000 in
theorem gX10_command_X10_stands : GoodIn wsX10_command (wsV RX10 152 RX10 yX10_stands wsX10_stands) := goodIn_app (goodIn_of _ (by decide +kernel)) ggX10_command_X10_stands
set_option maxRecDepth 20000 in
theorem ggX10_command_X10_number : GoodIn wsX10_command wsX10_number := goodIn_r _ [12, 6, 7, 8, 13, 14, 4, 15, 133, 134, 135, 136, 137, 138, 139, 140, 141] (by decide +kernel) (by decide +kernel)
set_option maxRecDepth 20000 in
theorem gX10_command_X10_number : GoodIn wsX10_command (wsV RX10 155 RX10 yX10_number wsX10_number) := goodIn_app (goodIn_of _ (by decide +kernel)) ggX10_command_X10_number
set_option maxRecDepth 20000 in
theorem ggX10_command_X10_plans : GoodIn wsX10_command wsX10_plans := goodIn_r _ [19, 20, 21, 22, 4, 23, 24, 25, 26, 27, 28, 29, 30, 31, 32, 33, 34, 35, 36, 37, 38, 39, 40, 41, 42, 43, 44, 45, 46, 47, 48, 49, 50, 51, 52, 53, 54, 55, 56, 57, 58, 59, 60, 61, 62, 63, 64, 65, 66, 67, 68, 69, 70, 71, 72, 73, 74, 75, 76, 77, 78, 79, 80, 81, 82, 83, 84, 85, 86, 87, 88, 89, 90, 91, 92, 93, 94, 95, 96, 97, 98, 99, 100, 101, 102, 103, 104, 105, 106, 107, 108, 109, 110, 111, 112, 133, 134, 135, 136, 137, 138, 139, 140, 141] (by decide +kernel) (by decide +kernel)
set_option maxRecDepth 20000 in
theorem gX10_command_X10_plans : GoodIn wsX10_command (wsV RX10 137 RX10 yX10_plans wsX10_plans) := goodIn_app (goodIn_of _ (by decide +kernel)) ggX10_command_X10_plans
set_option maxRecDepth 20000 in
theorem ggX10_command_X10_passes : GoodIn wsX10_command wsX10_passes := goodIn_r _ [116, 24, 117, 118, 119, 4, 120, 121, 122, 123, 124, 25, 26, 27, 28, 29, 30, 31, 32, 133, 134, 135, 136, 137, 138, 139, 140, 141] (by decide +kernel) (by decide +kernel)
set_option maxRecDepth 20000 in
theorem gX10_command_X10_passes : GoodIn wsX10_command (wsV RX10 143 RX10 yX10_passes wsX10_passes) := goodIn_app (goodIn_of _ (by decide +kernel)) ggX10_command_X10_passes
set_option maxRecDepth 20000 in
theorem ggX10_command_X10_buys : GoodIn wsX10_command wsX10_buys := goodIn_r _ [128, 24, 97, 98, 99, 4, 100, 105, 106, 107, 108, 109, 110, 111, 112, 133, 134, 135, 136, 137, 138, 139, 140, 141] (by decide +kernel) (by decide +kernel)
set_option maxRecDepth 20000 in
theorem gX10_command_X10_buys : GoodIn wsX10_command (wsV RX10 121 RX10 yX10_buys wsX10_buys) := goodIn_app (goodIn_of _ (by decide +kernel)) ggX10_command_X10_buys
set_option maxRecDepth 20000 in
theorem ggX10_command_X10_orders : GoodIn wsX10_command wsX10_orders := goodIn_r _ [132, 24, 133, 134, 135, 136, 137, 138, 139, 140, 141] (by decide +kernel) (by decide +kernel)
set_option maxRecDepth 20000 in
theorem gX10_command_X10_orders : GoodIn wsX10_command (wsV RX10 127 RX10 yX10_orders wsX10_orders) := goodIn_app (goodIn_of _ (by decide +kernel)) ggX10_command_X10_orders
set_option maxRecDepth 20000 in
theorem ggX10_commands_X10_command : GoodIn wsX10_commands wsX10_command := goodIn_r _ [7, 8, 9, 10, 6, 11, 1, 2, 12, 13, 14, 15, 16, 17, 18, 19, 20, 21, 22, 23, 24, 25, 26, 27, 28, 29, 30, 31, 32, 33, 34, 35, 36, 37, 38, 39, 40, 41, 42, 43, 44, 45, 46, 47, 48, 49, 50, 51, 52, 53, 54, 55, 56, 57, 58, 59, 60, 61, 62, 63, 64, 65, 66, 67, 68, 69, 70, 71, 72, 73, 74, 75, 76, 77, 78, 79, 80, 81, 82, 83, 84, 85, 86, 87, 88, 89, 90, 91, 92, 93, 94, 95, 96, 97, 98, 99, 100, 101, 102, 103, 104, 105, 106, 107, 108, 109, 110, 111, 112, 113, 114, 115, 116, 117, 118, 119, 120, 121, 122, 123, 124, 125, 126, 127, 128, 129, 130, 131, 132, 133, 134, 135, 136, 137, 138, 139, 140, 141, 142, 143, 144, 145] (by decide +kernel) (by decide +kernel)
set_option maxRecDepth 20000 in
theorem gX10_commands_X10_command : GoodIn wsX10_commands (wsV RX10 158 RX10 yX10_command wsX10_command) := goodIn_app (goodIn_of _ (by decide +kernel)) ggX10_commands_X10_command
set_option maxRecDepth 20000 in
theorem ggX10_commands_X10_stands : GoodIn wsX10_commands wsX10_stands := goodIn_r _ [11, 1, 2, 12, 137, 138, 139, 140, 141, 142, 143, 144, 145] (by decide +kernel) (by decide +kernel)
set_option maxRecDepth 20000 in
theorem gX10_commands_X10_stands : GoodIn wsX10_commands (wsV RX10 152 RX10 yX10_stands wsX10_stands) := goodIn_app (goodIn_of _ (by decide +kernel)) ggX10_commands_X10_stands
set_option maxRecDepth 20000 in
theorem ggX10_perform_X10_commands : GoodIn wsX10_perform wsX10_commands := goodIn_r _ [8, 1, 9, 10, 11, 12, 7, 13, 14, 15, 16, 17, 18, 19, 20, 21, 22, 23, 24, 25, 26, 27, 28, 29, 30, 31, 32, 33, 2, 34, 35, 36, 37, 38, 39, 40, 41, 42, 43, 44, 45, 46, 47, 48, 49, 50, 51, 52, 53, 54, 55, 56, 57, 58, 59, 60, 61, 62, 63, 64, 65, 66, 67, 68, 69, 70, 71, 72, 73, 74, 75, 76, 77, 78, 79, 80, 81, 82, 83, 84, 85, 86, 87, 88, 89, 90, 91, 92, 93, 94, 95, 96, 97, 98, 99, 100, 101, 102, 103, 104, 105, 106, 107, 108, 109, 110, 111, 112, 113, 114, 115, 116, 117, 118, 119, 120, 121, 122, 123, 124, 125, 126, 127, 128, 129, 130, 131, 132, 133, 134, 135, 136, 137, 138, 139, 140, 141, 151, 152, 153, 154, 155, 156, 157, 158, 159] (by decide +kernel) (by decide +kernel)
set_option maxRecDepth 20000 in
theorem gX10_perform_X10_commands : GoodIn wsX10_perform (wsV RX10 162 RX10 yX10_commands wsX10_commands) := goodIn_app (goodIn_of _ (by decide +kernel)) ggX10_perform_X10_commands
set_option maxRecDepth 20000 in
theorem ggX10_perform_X10_copy : GoodIn wsX10_perform wsX10_copy := goodIn_r _ [144] (by decide +kernel) (by decide +kernel)
set_option maxRecDepth 20000 in
theorem gX10_perform_X10_copy : GoodIn wsX10_perform (va_wsS RX10 117 yX10_copy wsX10_copy) := goodIn_app (goodIn_of _ (by decide +kernel)) ggX10_perform_X10_copy
set_option maxRecDepth 20000 in
theorem ggX10_perform_X10_command : GoodIn wsX10_perform wsX10_command := goodIn_r _ [13, 14, 15, 16, 7, 17, 1, 9, 18, 19, 20, 21, 22, 23, 24, 25, 26, 27, 28, 29, 30, 31, 32, 33, 2, 34, 35, 36, 37, 38, 39, 40, 41, 42, 43, 44, 45, 46, 47, 48, 49, 50, 51, 52, 53, 54, 55, 56, 57, 58, 59, 60, 61, 62, 63, 64, 65, 66, 67, 68, 69, 70, 71, 72, 73, 74, 75, 76, 77, 78, 79, 80, 81, 82, 83, 84, 85, 86, 87, 88, 89, 90, 91, 92, 93, 94, 95, 96, 97, 98, 99, 100, 101, 102, 103, 104, 105, 106, 107, 108, 109, 110, 111, 112, 113, 114, 115, 116, 117, 118, 119, 120, 121, 122, 123, 124, 125, 126, 127, 128, 129, 130, 131, 132, 133, 134, 135, 136, 137, 138, 139, 140, 141, 151, 152, 153, 154, 155, 156, 157, 158, 159] (by decide +kernel) (by decide +kernel)
set_option maxRecDepth 20000 in
theorem gX10_perform_X10_command : GoodIn wsX10_perform (wsV RX10 158 RX10 yX10_command wsX10_command) := goodIn_app (goodIn_of _ (by decide +kernel)) ggX10_perform_X10_command
set_option maxRecDepth 20000 in
theorem ggX10_perform_X10_record : GoodIn wsX10_perform wsX10_record := goodIn_r _ [148, 149, 150, 151, 152, 153, 154, 155, 156, 157, 158, 159] (by decide +kernel) (by decide +kernel)
set_option maxRecDepth 20000 in
theorem gX10_perform_X10_record : GoodIn wsX10_perform (wsV RX10 113 RX10 yX10_record wsX10_record) := goodIn_app (goodIn_of _ (by decide +kernel)) ggX10_perform_X10_record
