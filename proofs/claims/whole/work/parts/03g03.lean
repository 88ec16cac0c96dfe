set_option maxRecDepth 20000 in
theorem ggX10_keep_X10_copy : GoodIn wsX10_keep wsX10_copy := goodIn_r _ [7] (by decide +kernel) (by decide +kernel)
set_option maxRecDepth 20000 in
theorem gX10_keep_X10_copy : GoodIn wsX10_keep (va_wsS RX10 117 yX10_copy wsX10_copy) := goodIn_app (goodIn_of _ (by decide +kernel)) ggX10_keep_X10_copy
set_option maxRecDepth 20000 in
theorem ggX10_restore_X10_record : GoodIn wsX10_restore wsX10_record := goodIn_r _ [8, 9, 10, 14, 15, 16, 17, 18, 19, 20, 21, 22] (by decide +kernel) (by decide +kernel)
set_option maxRecDepth 20000 in
theorem gX10_restore_X10_record : GoodIn wsX10_restore (wsV RX10 113 RX10 yX10_record wsX10_record) := goodIn_app (goodIn_of _ (by decide +kernel)) ggX10_restore_X10_record
set_option maxRecDepth 20000 in
theorem ggX10_restore_X10_copy : GoodIn wsX10_restore wsX10_copy := goodIn_r _ [13] (by decide +kernel) (by decide +kernel)
set_option maxRecDepth 20000 in
theorem gX10_restore_X10_copy : GoodIn wsX10_restore (va_wsS RX10 117 yX10_copy wsX10_copy) := goodIn_app (goodIn_of _ (by decide +kernel)) ggX10_restore_X10_copy
set_option maxRecDepth 20000 in
theorem ggX10_sheet_X10_isSheet : GoodIn wsX10_sheet wsX10_isSheet := goodIn_r _ [5, 6, 7, 8, 4, 9, 10, 11, 12, 13, 22, 23, 24, 25, 26, 27, 28, 29, 30] (by decide +kernel) (by decide +kernel)
set_option maxRecDepth 20000 in
theorem gX10_sheet_X10_isSheet : GoodIn wsX10_sheet (wsV RX10 124 RX10 yX10_isSheet wsX10_isSheet) := goodIn_app (goodIn_of _ (by decide +kernel)) ggX10_sheet_X10_isSheet
set_option maxRecDepth 20000 in
theorem ggX10_sheet_X10_in : GoodIn wsX10_sheet wsX10_in := goodIn_r _ [9] (by decide +kernel) (by decide +kernel)
set_option maxRecDepth 20000 in
theorem gX10_sheet_X10_in : GoodIn wsX10_sheet (va_wsS RX10 33 yX10_in wsX10_in) := goodIn_app (goodIn_of _ (by decide +kernel)) ggX10_sheet_X10_in
set_option maxRecDepth 20000 in
theorem ggX10_sheet_X10_before : GoodIn wsX10_sheet wsX10_before := goodIn_r _ [17, 10, 11, 12, 4, 13, 6, 18, 19, 20, 21, 22, 23, 24, 25, 26, 27, 28, 29, 30] (by decide +kernel) (by decide +kernel)
set_option maxRecDepth 20000 in
theorem gX10_sheet_X10_before : GoodIn wsX10_sheet (wsV RX10 54 RX10 yX10_before wsX10_before) := goodIn_app (goodIn_of _ (by decide +kernel)) ggX10_sheet_X10_before
set_option maxRecDepth 20000 in
theorem ggX10_sheet_X10_its : GoodIn wsX10_sheet wsX10_its := goodIn_r _ [13, 6, 22, 23, 24, 25, 26, 27, 28, 29, 30] (by decide +kernel) (by decide +kernel)
set_option maxRecDepth 20000 in
theorem gX10_sheet_X10_its : GoodIn wsX10_sheet (wsV RX10 29 RX10 yX10_its wsX10_its) := goodIn_app (goodIn_of _ (by decide +kernel)) ggX10_sheet_X10_its
set_option maxRecDepth 20000 in
theorem ggX10_at_X10_in : GoodIn wsX10_at wsX10_in := goodIn_r _ [4] (by decide +kernel) (by decide +kernel)
set_option maxRecDepth 20000 in
theorem gX10_at_X10_in : GoodIn wsX10_at (va_wsS RX10 33 yX10_in wsX10_in) := goodIn_app (goodIn_of _ (by decide +kernel)) ggX10_at_X10_in
set_option maxRecDepth 20000 in
theorem ggX10_at_X10_many : GoodIn wsX10_at wsX10_many := goodIn_r _ [8, 9, 14, 15, 16, 17, 18, 19, 20, 21, 22] (by decide +kernel) (by decide +kernel)
set_option maxRecDepth 20000 in
theorem gX10_at_X10_many : GoodIn wsX10_at (wsV RX10 40 RX10 yX10_many wsX10_many) := goodIn_app (goodIn_of _ (by decide +kernel)) ggX10_at_X10_many
set_option maxRecDepth 20000 in
theorem ggX10_at_X10_standing : GoodIn wsX10_at wsX10_standing := goodIn_r _ [13, 9, 14, 15, 16, 17, 18, 19, 20, 21, 22] (by decide +kernel) (by decide +kernel)
set_option maxRecDepth 20000 in
theorem gX10_at_X10_standing : GoodIn wsX10_at (wsV RX10 37 RX10 yX10_standing wsX10_standing) := goodIn_app (goodIn_of _ (by decide +kernel)) ggX10_at_X10_standing
set_option maxRecDepth 20000 in
theorem ggX10_ordered_X10_isOrder : GoodIn wsX10_ordered wsX10_isOrder := goodIn_r _ [5, 6, 7, 8, 4, 9, 22, 23, 24, 25, 26, 27, 28, 29, 30] (by decide +kernel) (by decide +kernel)
set_option maxRecDepth 20000 in
theorem gX10_ordered_X10_isOrder : GoodIn wsX10_ordered (wsV RX10 130 RX10 yX10_isOrder wsX10_isOrder) := goodIn_app (goodIn_of _ (by decide +kernel)) ggX10_ordered_X10_isOrder
set_option maxRecDepth 20000 in
theorem ggX10_ordered_X10_in : GoodIn wsX10_ordered wsX10_in := goodIn_r _ [9] (by decide +kernel) (by decide +kernel)
set_option maxRecDepth 20000 in
theorem gX10_ordered_X10_in : GoodIn wsX10_ordered (va_wsS RX10 33 yX10_in wsX10_in) := goodIn_app (goodIn_of _ (by decide +kernel)) ggX10_ordered_X10_in
set_option maxRecDepth 20000 in
theorem ggX10_ordered_X10_isLate : GoodIn wsX10_ordered wsX10_isLate := goodIn_r _ [13, 6, 14, 15, 16, 4, 17, 18, 19, 20, 21, 22, 23, 24, 25, 26, 27, 28, 29, 30] (by decide +kernel) (by decide +kernel)
set_option maxRecDepth 20000 in
theorem gX10_ordered_X10_isLate : GoodIn wsX10_ordered (wsV RX10 101 RX10 yX10_isLate wsX10_isLate) := goodIn_app (goodIn_of _ (by decide +kernel)) ggX10_ordered_X10_isLate
set_option maxRecDepth 20000 in
theorem ggX10_ordered_X10_of : GoodIn wsX10_ordered wsX10_of := goodIn_r _ [21, 6, 22, 23, 24, 25, 26, 27, 28, 29, 30] (by decide +kernel) (by decide +kernel)
set_option maxRecDepth 20000 in
theorem gX10_ordered_X10_of : GoodIn wsX10_ordered (wsV RX10 61 RX10 yX10_of wsX10_of) := goodIn_app (goodIn_of _ (by decide +kernel)) ggX10_ordered_X10_of
set_option maxRecDepth 20000 in
theorem ggX10_would_X10_isOrder : GoodIn wsX10_would wsX10_isOrder := goodIn_r _ [5, 6, 7, 8, 4, 9, 62, 63, 64, 65, 66, 67, 68, 69, 70] (by decide +kernel) (by decide +kernel)
set_option maxRecDepth 20000 in
theorem gX10_would_X10_isOrder : GoodIn wsX10_would (wsV RX10 130 RX10 yX10_isOrder wsX10_isOrder) := goodIn_app (goodIn_of _ (by decide +kernel)) ggX10_would_X10_isOrder
set_option maxRecDepth 20000 in
theorem ggX10_would_X10_isSheet : GoodIn wsX10_would wsX10_isSheet := goodIn_r _ [13, 6, 7, 8, 4, 9, 14, 15, 16, 17, 62, 63, 64, 65, 66, 67, 68, 69, 70] (by decide +kernel) (by decide +kernel)
set_option maxRecDepth 20000 in
theorem gX10_would_X10_isSheet : GoodIn wsX10_would (wsV RX10 124 RX10 yX10_isSheet wsX10_isSheet) := goodIn_app (goodIn_of _ (by decide +kernel)) ggX10_would_X10_isSheet
set_option maxRecDepth 20000 in
theorem ggX10_would_X10_in : GoodIn wsX10_would wsX10_in := goodIn_r _ [9] (by decide +kernel) (by decide +kernel)
set_option maxRecDepth 20000 in
theorem gX10_would_X10_in : GoodIn wsX10_would (va_wsS RX10 33 yX10_in wsX10_in) := goodIn_app (goodIn_of _ (by decide +kernel)) ggX10_would_X10_in
set_option maxRecDepth 20000 in
theorem ggX10_would_X10_lies : GoodIn wsX10_would wsX10_lies := goodIn_r _ [21, 22, 23, 24, 4, 25, 6, 14, 15, 16, 17, 26, 27, 28, 29, 62, 63, 64, 65, 66, 67, 68, 69, 70] (by decide +kernel) (by decide +kernel)
set_option maxRecDepth 20000 in
theorem gX10_would_X10_lies : GoodIn wsX10_would (wsV RX10 67 RX10 yX10_lies wsX10_lies) := goodIn_app (goodIn_of _ (by decide +kernel)) ggX10_would_X10_lies
set_option maxRecDepth 20000 in
theorem ggX10_would_X10_pieceArea : GoodIn wsX10_would wsX10_pieceArea := goodIn_r _ [33, 34, 35, 36, 4, 37, 18, 19, 20, 21, 22, 23, 24, 25, 6, 14, 15, 16, 17, 26, 27, 28, 29, 62, 63, 64, 65, 66, 67, 68, 69, 70] (by decide +kernel) (by decide +kernel)
set_option maxRecDepth 20000 in
theorem gX10_would_X10_pieceArea : GoodIn wsX10_would (wsV RX10 77 RX10 yX10_pieceArea wsX10_pieceArea) := goodIn_app (goodIn_of _ (by decide +kernel)) ggX10_would_X10_pieceArea
set_option maxRecDepth 20000 in
theorem ggX10_would_X10_before : GoodIn wsX10_would wsX10_before := goodIn_r _ [41, 14, 15, 16, 4, 17, 6, 42, 43, 44, 45, 62, 63, 64, 65, 66, 67, 68, 69, 70] (by decide +kernel) (by decide +kernel)
set_option maxRecDepth 20000 in
theorem gX10_would_X10_before : GoodIn wsX10_would (wsV RX10 54 RX10 yX10_before wsX10_before) := goodIn_app (goodIn_of _ (by decide +kernel)) ggX10_would_X10_before
set_option maxRecDepth 20000 in
theorem ggX10_would_X10_keptArea : GoodIn wsX10_would wsX10_keptArea := goodIn_r _ [49, 50, 51, 52, 4, 53, 34, 35, 36, 37, 18, 19, 20, 21, 22, 23, 24, 25, 6, 14, 15, 16, 17, 26, 27, 28, 29, 30, 31, 32, 33, 62, 63, 64, 65, 66, 67, 68, 69, 70] (by decide +kernel) (by decide +kernel)
set_option maxRecDepth 20000 in
theorem gX10_would_X10_keptArea : GoodIn wsX10_would (wsV RX10 81 RX10 yX10_keptArea wsX10_keptArea) := goodIn_app (goodIn_of _ (by decide +kernel)) ggX10_would_X10_keptArea
set_option maxRecDepth 20000 in
theorem ggX10_would_X10_scrapArea : GoodIn wsX10_would wsX10_scrapArea := goodIn_r _ [57, 30, 31, 32, 4, 33, 34, 35, 36, 37, 18, 19, 20, 21, 22, 23, 24, 25, 6, 14, 15, 16, 17, 26, 27, 28, 29, 46, 47, 48, 49, 50, 51, 52, 53, 62, 63, 64, 65, 66, 67, 68, 69, 70] (by decide +kernel) (by decide +kernel)
set_option maxRecDepth 20000 in
theorem gX10_would_X10_scrapArea : GoodIn wsX10_would (wsV RX10 91 RX10 yX10_scrapArea wsX10_scrapArea) := goodIn_app (goodIn_of _ (by decide +kernel)) ggX10_would_X10_scrapArea
set_option maxRecDepth 20000 in
theorem ggX10_would_X10_area : GoodIn wsX10_would wsX10_area := goodIn_r _ [61, 14, 15, 16, 4, 17, 6, 62, 63, 64, 65, 66, 67, 68, 69, 70] (by decide +kernel) (by decide +kernel)
set_option maxRecDepth 20000 in
theorem gX10_would_X10_area : GoodIn wsX10_would (wsV RX10 51 RX10 yX10_area wsX10_area) := goodIn_app (goodIn_of _ (by decide +kernel)) ggX10_would_X10_area
set_option maxRecDepth 20000 in
theorem ggX10_would_X10_of : GoodIn wsX10_would wsX10_of := goodIn_r _ [25, 6, 62, 63, 64, 65, 66, 67, 68, 69, 70] (by decide +kernel) (by decide +kernel)
set_option maxRecDepth 20000 in
theorem gX10_would_X10_of : GoodIn wsX10_would (wsV RX10 61 RX10 yX10_of wsX10_of) := goodIn_app (goodIn_of _ (by decide +kernel)) ggX10_would_X10_of
set_option maxRecDepth 20000 in
theorem ggX10_choice_X10_isOrder : GoodIn wsX10_choice wsX10_isOrder := goodIn_r _ [5, 6, 7, 8, 4, 9, 70, 71, 72, 73, 74, 75, 76, 77, 78] (by decide +kernel) (by decide +kernel)
set_option maxRecDepth 20000 in
theorem gX10_choice_X10_isOrder : GoodIn wsX10_choice (wsV RX10 130 RX10 yX10_isOrder wsX10_isOrder) := goodIn_app (goodIn_of _ (by decide +kernel)) ggX10_choice_X10_isOrder
set_option maxRecDepth 20000 in
theorem ggX10_choice_X10_in : GoodIn wsX10_choice wsX10_in := goodIn_r _ [9] (by decide +kernel) (by decide +kernel)
set_option maxRecDepth 20000 in
theorem gX10_choice_X10_in : GoodIn wsX10_choice (va_wsS RX10 33 yX10_in wsX10_in) := goodIn_app (goodIn_of _ (by decide +kernel)) ggX10_choice_X10_in
set_option maxRecDepth 20000 in
theorem ggX10_choice_X10_isOpen : GoodIn wsX10_choice wsX10_isOpen := goodIn_r _ [13, 14, 15, 16, 4, 17, 6, 70, 71, 72, 73, 74, 75, 76, 77, 78] (by decide +kernel) (by decide +kernel)
set_option maxRecDepth 20000 in
theorem gX10_choice_X10_isOpen : GoodIn wsX10_choice (wsV RX10 64 RX10 yX10_isOpen wsX10_isOpen) := goodIn_app (goodIn_of _ (by decide +kernel)) ggX10_choice_X10_isOpen
set_option maxRecDepth 20000 in
theorem ggX10_choice_X10_chosen : GoodIn wsX10_choice wsX10_chosen := goodIn_r _ [21, 6, 22, 23, 24, 4, 25, 26, 27, 28, 29, 14, 15, 16, 17, 30, 31, 32, 33, 34, 35, 36, 37, 38, 39, 40, 41, 42, 43, 44, 45, 46, 47, 48, 49, 50, 51, 52, 53, 54, 55, 56, 57, 58, 59, 60, 61, 62, 63, 64, 65, 66, 67, 68, 69, 70, 71, 72, 73, 74, 75, 76, 77, 78] (by decide +kernel) (by decide +kernel)
set_option maxRecDepth 20000 in
theorem gX10_choice_X10_chosen : GoodIn wsX10_choice (wsV RX10 107 RX10 yX10_chosen wsX10_chosen) := goodIn_app (goodIn_of _ (by decide +kernel)) ggX10_choice_X10_chosen
set_option maxRecDepth 20000 in
theorem ggX10_next_X10_first : GoodIn wsX10_next wsX10_first := goodIn_r _ [5, 6, 7, 8, 9, 4, 10, 11, 12, 13, 14, 15, 16, 17, 18, 19, 20, 21, 22, 23, 24, 25, 26, 27] (by decide +kernel) (by decide +kernel)
set_option maxRecDepth 20000 in
theorem gX10_next_X10_first : GoodIn wsX10_next (wsV RX10 104 RX10 yX10_first wsX10_first) := goodIn_app (goodIn_of _ (by decide +kernel)) ggX10_next_X10_first
set_option maxRecDepth 20000 in
theorem ggX10_wouldPlan_X10_in : GoodIn wsX10_wouldPlan wsX10_in := goodIn_r _ [6] (by decide +kernel) (by decide +kernel)
set_option maxRecDepth 20000 in
theorem gX10_wouldPlan_X10_in : GoodIn wsX10_wouldPlan (va_wsS RX10 33 yX10_in wsX10_in) := goodIn_app (goodIn_of _ (by decide +kernel)) ggX10_wouldPlan_X10_in
set_option maxRecDepth 20000 in
theorem ggX10_wouldPlan_X10_copy : GoodIn wsX10_wouldPlan wsX10_copy := goodIn_r _ [9] (by decide +kernel) (by decide +kernel)
set_option maxRecDepth 20000 in
theorem gX10_wouldPlan_X10_copy : GoodIn wsX10_wouldPlan (va_wsS RX10 117 yX10_copy wsX10_copy) := goodIn_app (goodIn_of _ (by decide +kernel)) ggX10_wouldPlan_X10_copy
set_option maxRecDepth 20000 in
theorem ggX10_wouldPlan_X10_plans : GoodIn wsX10_wouldPlan wsX10_plans := goodIn_r _ [13, 14, 15, 16, 5, 17, 1, 18, 19, 20, 21, 22, 23, 24, 25, 26, 27, 28, 29, 30, 31, 32, 33, 34, 35, 36, 37, 38, 39, 40, 41, 42, 43, 44, 45, 46, 47, 48, 49, 50, 51, 52, 53, 54, 55, 56, 57, 58, 59, 60, 61, 62, 63, 64, 65, 66, 67, 68, 69, 70, 71, 72, 73, 74, 75, 76, 77, 78, 79, 80, 81, 82, 83, 84, 85, 86, 87, 88, 89, 90, 91, 92, 93, 94, 95, 96, 97, 98, 99, 100, 101, 102, 103, 104, 105, 106, 107, 108, 109, 110, 111, 112, 113, 114] (by decide +kernel) (by decide +kernel)
set_option maxRecDepth 20000 in
theorem gX10_wouldPlan_X10_plans : GoodIn wsX10_wouldPlan (wsV RX10 137 RX10 yX10_plans wsX10_plans) := goodIn_app (goodIn_of _ (by decide +kernel)) ggX10_wouldPlan_X10_plans
set_option maxRecDepth 20000 in
theorem ggX10_count_X10_its : GoodIn wsX10_count wsX10_its := goodIn_r _ [8, 1, 40, 41, 42, 43, 44, 45, 46, 47, 48] (by decide +kernel) (by decide +kernel)
set_option maxRecDepth 20000 in
theorem gX10_count_X10_its : GoodIn wsX10_count (wsV RX10 29 RX10 yX10_its wsX10_its) := goodIn_app (goodIn_of _ (by decide +kernel)) ggX10_count_X10_its
set_option maxRecDepth 20000 in
theorem ggX10_count_X10_area : GoodIn wsX10_count wsX10_area := goodIn_r _ [12, 4, 5, 6, 7, 8, 1, 40, 41, 42, 43, 44, 45, 46, 47, 48] (by decide +kernel) (by decide +kernel)
set_option maxRecDepth 20000 in
theorem gX10_count_X10_area : GoodIn wsX10_count (wsV RX10 51 RX10 yX10_area wsX10_area) := goodIn_app (goodIn_of _ (by decide +kernel)) ggX10_count_X10_area
set_option maxRecDepth 20000 in
theorem ggX10_count_X10_in : GoodIn wsX10_count wsX10_in := goodIn_r _ [15] (by decide +kernel) (by decide +kernel)
set_option maxRecDepth 20000 in
theorem gX10_count_X10_in : GoodIn wsX10_count (va_wsS RX10 33 yX10_in wsX10_in) := goodIn_app (goodIn_of _ (by decide +kernel)) ggX10_count_X10_in
set_option maxRecDepth 20000 in
theorem ggX10_count_X10_setting : GoodIn wsX10_count wsX10_setting := goodIn_r _ [19, 1, 40, 41, 42, 43, 44, 45, 46, 47, 48] (by decide +kernel) (by decide +kernel)
set_option maxRecDepth 20000 in
theorem gX10_count_X10_setting : GoodIn wsX10_count (wsV RX10 48 RX10 yX10_setting wsX10_setting) := goodIn_app (goodIn_of _ (by decide +kernel)) ggX10_count_X10_setting
set_option maxRecDepth 20000 in
theorem ggX10_count_X10_open : GoodIn wsX10_count wsX10_open := goodIn_r _ [23, 1, 24, 25, 26, 7, 27, 28, 29, 30, 31, 40, 41, 42, 43, 44, 45, 46, 47, 48] (by decide +kernel) (by decide +kernel)
set_option maxRecDepth 20000 in
theorem gX10_count_X10_open : GoodIn wsX10_count (wsV RX10 133 RX10 yX10_open wsX10_open) := goodIn_app (goodIn_of _ (by decide +kernel)) ggX10_count_X10_open
set_option maxRecDepth 20000 in
theorem ggX10_count_X10_late : GoodIn wsX10_count wsX10_late := goodIn_r _ [35, 1, 36, 37, 38, 7, 39, 24, 25, 26, 27, 28, 29, 30, 31, 40, 41, 42, 43, 44, 45, 46, 47, 48] (by decide +kernel) (by decide +kernel)
set_option maxRecDepth 20000 in
theorem gX10_count_X10_late : GoodIn wsX10_count (wsV RX10 140 RX10 yX10_late wsX10_late) := goodIn_app (goodIn_of _ (by decide +kernel)) ggX10_count_X10_late
theorem dJ9_max_7cf53_0 : decode cJ9_max_7cf53 0 = .ok (.iload_n 0, 1) := by decide +kernel
theorem dJ9_max_7cf53_1 : decode cJ9_max_7cf53 1 = .ok (.iload_n 1, 1) := by decide +kernel
theorem dJ9_max_7cf53_2 : decode cJ9_max_7cf53 2 = .ok (.if_icmp .lt 7, 3) := by decide +kernel
theorem dJ9_max_7cf53_5 : decode cJ9_max_7cf53 5 = .ok (.iload_n 0, 1) := by decide +kernel
theorem dJ9_max_7cf53_6 : decode cJ9_max_7cf53 6 = .ok (.goto 4, 3) := by decide +kernel
theorem dJ9_max_7cf53_9 : decode cJ9_max_7cf53 9 = .ok (.iload_n 1, 1) := by decide +kernel
theorem dJ9_max_7cf53_10 : decode cJ9_max_7cf53 10 = .ok (.ireturn, 1) := by decide +kernel
