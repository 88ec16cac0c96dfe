theorem inlX0 : ∀ w ∈ wsX00, w ∈ wsL_law := fun _ h => List.mem_append_left _ (List.mem_append_left _ (List.mem_append_left _ (List.mem_append_left _ (List.mem_append_left _ (List.mem_append_left _ (List.mem_append_left _ (List.mem_append_right _ h)))))))
theorem inlX1 : ∀ w ∈ wsX10, w ∈ wsL_law := fun _ h => List.mem_append_left _ (List.mem_append_left _ (List.mem_append_left _ (List.mem_append_right _ h)))
theorem inlX2 : ∀ w ∈ wsX20, w ∈ wsL_law := fun _ h => List.mem_append_left _ (List.mem_append_left _ (List.mem_append_left _ (List.mem_append_left _ (List.mem_append_left _ (List.mem_append_left _ (List.mem_append_left _ (List.mem_append_left _ (List.mem_append_right _ h))))))))
theorem inlX3 : ∀ w ∈ wsX30, w ∈ wsL_law := fun _ h => List.mem_append_left _ (List.mem_append_right _ h)
theorem inlX4 : ∀ w ∈ wsX40, w ∈ wsL_law := fun _ h => List.mem_append_left _ (List.mem_append_left _ (List.mem_append_left _ (List.mem_append_left _ (List.mem_append_right _ h))))
theorem inlX5 : ∀ w ∈ wsX50, w ∈ wsL_law := fun _ h => List.mem_append_left _ (List.mem_append_left _ (List.mem_append_left _ (List.mem_append_left _ (List.mem_append_left _ (List.mem_append_right _ h)))))
theorem inlX6 : ∀ w ∈ wsX60, w ∈ wsL_law := fun _ h => List.mem_append_left _ (List.mem_append_left _ (List.mem_append_left _ (List.mem_append_left _ (List.mem_append_left _ (List.mem_append_left _ (List.mem_append_right _ h))))))
theorem inlX7 : ∀ w ∈ wsX70, w ∈ wsL_law := fun _ h => List.mem_append_left _ (List.mem_append_left _ (List.mem_append_right _ h))
theorem inlX8 : ∀ w ∈ wsX80, w ∈ wsL_law := fun _ h => List.mem_append_left _ (List.mem_append_left _ (List.mem_append_left _ (List.mem_append_left _ (List.mem_append_left _ (List.mem_append_left _ (List.mem_append_left _ (List.mem_append_left _ (List.mem_append_left _ (List.mem_append_right _ h)))))))))
theorem inlX9 : ∀ w ∈ wsX90, w ∈ wsL_law := fun _ h => List.mem_append_left _ (List.mem_append_left _ (List.mem_append_left _ (List.mem_append_left _ (List.mem_append_left _ (List.mem_append_left _ (List.mem_append_left _ (List.mem_append_left _ (List.mem_append_left _ (List.mem_append_left _ (List.mem_append_left _ (List.mem_append_right _ h)))))))))))
theorem inlX10 : ∀ w ∈ wsX100, w ∈ wsL_law := fun _ h => List.mem_append_left _ (List.mem_append_left _ (List.mem_append_left _ (List.mem_append_left _ (List.mem_append_left _ (List.mem_append_left _ (List.mem_append_left _ (List.mem_append_left _ (List.mem_append_left _ (List.mem_append_left _ (List.mem_append_right _ h))))))))))
theorem inJ9 : ∀ w ∈ wsJ90, w ∈ lw_tbl := by decide +kernel
set_option maxRecDepth 20000 in
theorem ggX0_commandsOrFault_X0_rewind : GoodIn wsX0_commandsOrFault wsX0_rewind := goodIn_r _ [8, 2, 1, 46, 47, 48, 49, 50, 51, 52, 53, 54, 55, 56, 57] (by decide +kernel) (by decide +kernel)
set_option maxRecDepth 20000 in
theorem gX0_commandsOrFault_X0_rewind : GoodIn wsX0_commandsOrFault (wsV RX0 50 RX0 yX0_rewind wsX0_rewind) := goodIn_app (goodIn_of _ (by decide +kernel)) ggX0_commandsOrFault_X0_rewind
set_option maxRecDepth 20000 in
theorem ggX0_commandsOrFault_X0_readCommand : GoodIn wsX0_commandsOrFault wsX0_readCommand := goodIn_r _ [12, 2, 13, 14, 15, 1, 16, 17, 18, 7, 19, 20, 21, 22, 23, 3, 24, 25, 26, 27, 28, 29, 30, 31, 32, 33, 34, 35, 36, 37, 38, 39, 40, 41, 42, 43, 44, 45, 46, 47, 48, 49, 50, 51, 52, 53, 54, 55, 56, 57] (by decide +kernel) (by decide +kernel)
set_option maxRecDepth 20000 in
theorem gX0_commandsOrFault_X0_readCommand : GoodIn wsX0_commandsOrFault (wsV RX0 53 RX0 yX0_readCommand wsX0_readCommand) := goodIn_app (goodIn_of _ (by decide +kernel)) ggX0_commandsOrFault_X0_readCommand
set_option maxRecDepth 20000 in
theorem ggX0_readCommand_X0_expect : GoodIn wsX0_readCommand wsX0_expect := goodIn_r _ [10, 5, 1, 11, 12, 13, 9, 14, 15, 16, 38, 39, 40, 41, 42, 43, 44, 45, 46, 47, 48, 49] (by decide +kernel) (by decide +kernel)
set_option maxRecDepth 20000 in
theorem gX0_readCommand_X0_expect : GoodIn wsX0_readCommand (wsV RX0 56 RX0 yX0_expect wsX0_expect) := goodIn_app (goodIn_of _ (by decide +kernel)) ggX0_readCommand_X0_expect
set_option maxRecDepth 20000 in
theorem ggX0_readCommand_X0_here : GoodIn wsX0_readCommand wsX0_here := goodIn_r _ [14, 1, 15, 16, 38, 39, 40, 41, 42, 43, 44, 45, 46, 47, 48, 49] (by decide +kernel) (by decide +kernel)
set_option maxRecDepth 20000 in
theorem gX0_readCommand_X0_here : GoodIn wsX0_readCommand (wsV RX0 60 RX0 yX0_here wsX0_here) := goodIn_app (goodIn_of _ (by decide +kernel)) ggX0_readCommand_X0_here
set_option maxRecDepth 20000 in
theorem ggX0_readCommand_X0_readPurchase : GoodIn wsX0_readCommand wsX0_readPurchase := goodIn_r _ [20, 21, 22, 23, 24, 25, 26, 27, 9, 28, 5, 1, 6, 7, 8, 10, 11, 12, 13, 14, 15, 16, 29, 30, 31, 32, 38, 39, 40, 41, 42, 43, 44, 45, 46, 47, 48, 49] (by decide +kernel) (by decide +kernel)
set_option maxRecDepth 20000 in
theorem gX0_readCommand_X0_readPurchase : GoodIn wsX0_readCommand (wsV RX0 64 RX0 yX0_readPurchase wsX0_readPurchase) := goodIn_app (goodIn_of _ (by decide +kernel)) ggX0_readCommand_X0_readPurchase
set_option maxRecDepth 20000 in
theorem ggX0_readCommand_X0_readOrder : GoodIn wsX0_readCommand wsX0_readOrder := goodIn_r _ [36, 22, 23, 24, 37, 25, 26, 27, 9, 28, 5, 1, 6, 7, 8, 10, 11, 12, 13, 14, 15, 16, 29, 30, 31, 32, 38, 39, 40, 41, 42, 43, 44, 45, 46, 47, 48, 49] (by decide +kernel) (by decide +kernel)
set_option maxRecDepth 20000 in
theorem gX0_readCommand_X0_readOrder : GoodIn wsX0_readCommand (wsV RX0 67 RX0 yX0_readOrder wsX0_readOrder) := goodIn_app (goodIn_of _ (by decide +kernel)) ggX0_readCommand_X0_readOrder
set_option maxRecDepth 20000 in
theorem ggX0_readCommand_X0_numberBehind : GoodIn wsX0_readCommand wsX0_numberBehind := goodIn_r _ [28, 5, 1, 6, 7, 8, 9, 10, 11, 12, 13, 14, 15, 16, 29, 30, 31, 32, 38, 39, 40, 41, 42, 43, 44, 45, 46, 47, 48, 49] (by decide +kernel) (by decide +kernel)
set_option maxRecDepth 20000 in
theorem gX0_readCommand_X0_numberBehind : GoodIn wsX0_readCommand (wsV RX0 70 RX0 yX0_numberBehind wsX0_numberBehind) := goodIn_app (goodIn_of _ (by decide +kernel)) ggX0_readCommand_X0_numberBehind
set_option maxRecDepth 20000 in
theorem ggX0_readPurchase_X0_numberBehind : GoodIn wsX0_readPurchase wsX0_numberBehind := goodIn_r _ [9, 10, 11, 12, 13, 14, 8, 15, 16, 17, 18, 19, 20, 21, 22, 23, 24, 25, 26, 27, 28, 29, 30, 31, 32, 33, 34, 35, 36, 37] (by decide +kernel) (by decide +kernel)
set_option maxRecDepth 20000 in
theorem gX0_readPurchase_X0_numberBehind : GoodIn wsX0_readPurchase (wsV RX0 70 RX0 yX0_numberBehind wsX0_numberBehind) := goodIn_app (goodIn_of _ (by decide +kernel)) ggX0_readPurchase_X0_numberBehind
set_option maxRecDepth 20000 in
theorem ggX0_readOrder_X0_numberBehind : GoodIn wsX0_readOrder wsX0_numberBehind := goodIn_r _ [9, 10, 11, 12, 13, 14, 8, 15, 16, 17, 18, 19, 20, 21, 22, 23, 24, 25, 26, 27, 28, 29, 30, 31, 32, 33, 34, 35, 36, 37] (by decide +kernel) (by decide +kernel)
set_option maxRecDepth 20000 in
theorem gX0_readOrder_X0_numberBehind : GoodIn wsX0_readOrder (wsV RX0 70 RX0 yX0_numberBehind wsX0_numberBehind) := goodIn_app (goodIn_of _ (by decide +kernel)) ggX0_readOrder_X0_numberBehind
set_option maxRecDepth 20000 in
theorem ggX0_numberBehind_X0_expect : GoodIn wsX0_numberBehind wsX0_expect := goodIn_r _ [7, 1, 2, 8, 9, 10, 6, 11, 12, 13, 18, 19, 20, 21, 22, 23, 24, 25, 26, 27, 28, 29] (by decide +kernel) (by decide +kernel)
set_option maxRecDepth 20000 in
theorem gX0_numberBehind_X0_expect : GoodIn wsX0_numberBehind (wsV RX0 56 RX0 yX0_expect wsX0_expect) := goodIn_app (goodIn_of _ (by decide +kernel)) ggX0_numberBehind_X0_expect
set_option maxRecDepth 20000 in
theorem ggX0_numberBehind_X0_digitHere : GoodIn wsX0_numberBehind wsX0_digitHere := goodIn_r _ [17, 8, 9, 10, 6, 11, 2, 12, 13, 18, 19, 20, 21, 22, 23, 24, 25, 26, 27, 28, 29] (by decide +kernel) (by decide +kernel)
set_option maxRecDepth 20000 in
theorem gX0_numberBehind_X0_digitHere : GoodIn wsX0_numberBehind (wsV RX0 74 RX0 yX0_digitHere wsX0_digitHere) := goodIn_app (goodIn_of _ (by decide +kernel)) ggX0_numberBehind_X0_digitHere
set_option maxRecDepth 20000 in
theorem ggX0_expect_X0_here : GoodIn wsX0_expect wsX0_here := goodIn_r _ [7, 2, 8, 9, 10, 11, 12, 13, 14, 15, 16, 17, 18, 19, 20, 21] (by decide +kernel) (by decide +kernel)
set_option maxRecDepth 20000 in
theorem gX0_expect_X0_here : GoodIn wsX0_expect (wsV RX0 60 RX0 yX0_here wsX0_here) := goodIn_app (goodIn_of _ (by decide +kernel)) ggX0_expect_X0_here
set_option maxRecDepth 20000 in
theorem ggX0_digitHere_X0_here : GoodIn wsX0_digitHere wsX0_here := goodIn_r _ [5, 6, 7, 8, 9, 10, 11, 12, 13, 14, 15, 16, 17, 18, 19, 20] (by decide +kernel) (by decide +kernel)
set_option maxRecDepth 20000 in
theorem gX0_digitHere_X0_here : GoodIn wsX0_digitHere (wsV RX0 60 RX0 yX0_here wsX0_here) := goodIn_app (goodIn_of _ (by decide +kernel)) ggX0_digitHere_X0_here
set_option maxRecDepth 20000 in
theorem ggX1_layOut_X1_splitSheet : GoodIn wsX1_layOut wsX1_splitSheet := goodIn_r _ [14, 15, 4, 16, 17, 6, 18, 19, 20, 61, 62, 63, 64, 65, 56, 57, 58, 59, 60, 66, 67, 68, 69, 70, 71, 72, 73, 74, 75] (by decide +kernel) (by decide +kernel)
set_option maxRecDepth 20000 in
theorem gX1_layOut_X1_splitSheet : GoodIn wsX1_layOut (wsV RX1 62 RX1 yX1_splitSheet wsX1_splitSheet) := goodIn_app (goodIn_of _ (by decide +kernel)) ggX1_layOut_X1_splitSheet
set_option maxRecDepth 20000 in
theorem ggX1_layOut_X7_area : GoodIn wsX1_layOut wsX7_area := goodIn_r _ [25, 26, 27, 56, 57, 58, 59, 60] (by decide +kernel) (by decide +kernel)
set_option maxRecDepth 20000 in
theorem gX1_layOut_X7_area : GoodIn wsX1_layOut (wsV RX1 66 RX7 yX7_area wsX7_area) := goodIn_app (goodIn_of _ (by decide +kernel)) ggX1_layOut_X7_area
set_option maxRecDepth 20000 in
theorem ggX1_layOut_X3_area : GoodIn wsX1_layOut wsX3_area := goodIn_r _ [32, 33, 34, 48, 49, 50, 51, 52, 53, 54, 55] (by decide +kernel) (by decide +kernel)
set_option maxRecDepth 20000 in
theorem gX1_layOut_X3_area : GoodIn wsX1_layOut (wsV RX1 70 RX3 yX3_area wsX3_area) := goodIn_app (goodIn_of _ (by decide +kernel)) ggX1_layOut_X3_area
set_option maxRecDepth 20000 in
theorem ggX1_layOut_X1_sumUp : GoodIn wsX1_layOut wsX1_sumUp := goodIn_r _ [38, 17, 39, 40, 41, 42, 18, 43, 19, 20, 44, 45, 46, 47, 66, 67, 68, 69, 70, 71, 72, 73, 74, 75] (by decide +kernel) (by decide +kernel)
set_option maxRecDepth 20000 in
theorem gX1_layOut_X1_sumUp : GoodIn wsX1_layOut (wsV RX1 74 RX1 yX1_sumUp wsX1_sumUp) := goodIn_app (goodIn_of _ (by decide +kernel)) ggX1_layOut_X1_sumUp
set_option maxRecDepth 20000 in
theorem ggX2_init_X8_init : GoodIn wsX2_init wsX8_init := goodIn_r _ [10, 11, 2, 3, 12, 13, 14, 15, 16, 17, 18, 19, 20, 21, 22, 23, 24, 25, 26, 27, 28, 29, 30, 31, 32, 33, 34, 35, 36, 37, 38, 39, 40, 41, 42, 43, 44, 45, 46, 47, 48, 49, 50, 51, 52, 53, 54, 55, 56, 57, 58, 59, 60, 61, 62, 63, 64, 65, 66, 67, 81, 82, 83, 84, 85, 70, 71, 72, 73, 74, 75, 76, 77, 78, 79, 80, 86, 87, 88, 89, 90, 91, 92, 93, 94, 95, 96, 97, 98, 99] (by decide +kernel) (by decide +kernel)
set_option maxRecDepth 20000 in
theorem gX2_init_X8_init_n21 : GoodIn wsX2_init (wsX8_init) := ggX2_init_X8_init
set_option maxRecDepth 20000 in
theorem ggX2_record_X2_dropOldest : GoodIn wsX2_record wsX2_dropOldest := goodIn_r _ [7, 2, 1, 8, 9, 10, 6, 11, 59, 60] (by decide +kernel) (by decide +kernel)
set_option maxRecDepth 20000 in
theorem gX2_record_X2_dropOldest : GoodIn wsX2_record (wsV RX2 22 RX2 yX2_dropOldest wsX2_dropOldest) := goodIn_app (goodIn_of _ (by decide +kernel)) ggX2_record_X2_dropOldest
set_option maxRecDepth 20000 in
theorem ggX2_record_X2_stateAt : GoodIn wsX2_record wsX2_stateAt := goodIn_r _ [11, 2, 59, 60] (by decide +kernel) (by decide +kernel)
set_option maxRecDepth 20000 in
theorem gX2_record_X2_stateAt : GoodIn wsX2_record (wsV RX2 25 RX2 yX2_stateAt wsX2_stateAt) := goodIn_app (goodIn_of _ (by decide +kernel)) ggX2_record_X2_stateAt
set_option maxRecDepth 20000 in
theorem ggX2_record_X8_copyFrom : GoodIn wsX2_record wsX8_copyFrom := goodIn_r _ [16, 17, 18, 19, 20, 21, 22, 23, 24, 25, 26, 27, 28, 29, 30, 31, 32, 33, 34, 35, 36, 37, 38, 39, 40, 41, 42, 43, 44, 45, 46, 47, 48, 49, 50, 51, 52, 53, 54, 55, 56, 57, 58, 61, 62, 63, 64, 65, 66, 67, 68, 69, 70, 71, 72, 73, 74, 75, 76, 77, 78, 79, 80] (by decide +kernel) (by decide +kernel)
set_option maxRecDepth 20000 in
theorem gX2_record_X8_copyFrom : GoodIn wsX2_record (wsV RX2 29 RX8 yX8_copyFrom wsX8_copyFrom) := goodIn_app (goodIn_of _ (by decide +kernel)) ggX2_record_X8_copyFrom
set_option maxRecDepth 20000 in
theorem ggX2_takeBack_X2_stateAt : GoodIn wsX2_takeBack wsX2_stateAt := goodIn_r _ [6, 7, 55, 56] (by decide +kernel) (by decide +kernel)
set_option maxRecDepth 20000 in
theorem gX2_takeBack_X2_stateAt : GoodIn wsX2_takeBack (wsV RX2 25 RX2 yX2_stateAt wsX2_stateAt) := goodIn_app (goodIn_of _ (by decide +kernel)) ggX2_takeBack_X2_stateAt
set_option maxRecDepth 20000 in
theorem ggX2_takeBack_X8_copyFrom : GoodIn wsX2_takeBack wsX8_copyFrom := goodIn_r _ [12, 13, 14, 15, 16, 17, 18, 19, 20, 21, 22, 23, 24, 25, 26, 27, 28, 29, 30, 31, 32, 33, 34, 35, 36, 37, 38, 39, 40, 41, 42, 43, 44, 45, 46, 47, 48, 49, 50, 51, 52, 53, 54, 57, 58, 59, 60, 61, 62, 63, 64, 65, 66, 67, 68, 69, 70, 71, 72, 73, 74, 75, 76] (by decide +kernel) (by decide +kernel)
set_option maxRecDepth 20000 in
theorem gX2_takeBack_X8_copyFrom : GoodIn wsX2_takeBack (wsV RX2 29 RX8 yX8_copyFrom wsX8_copyFrom) := goodIn_app (goodIn_of _ (by decide +kernel)) ggX2_takeBack_X8_copyFrom
set_option maxRecDepth 20000 in
theorem ggX2_dropOldest_X2_stateAt : GoodIn wsX2_dropOldest wsX2_stateAt := goodIn_r _ [7, 1, 8, 9] (by decide +kernel) (by decide +kernel)
set_option maxRecDepth 20000 in
theorem gX2_dropOldest_X2_stateAt : GoodIn wsX2_dropOldest (wsV RX2 25 RX2 yX2_stateAt wsX2_stateAt) := goodIn_app (goodIn_of _ (by decide +kernel)) ggX2_dropOldest_X2_stateAt
set_option maxRecDepth 20000 in
theorem ggX3_asCut_X3_init : GoodIn wsX3_asCut wsX3_init := goodIn_r _ [14, 15, 16, 17, 9, 10, 11, 4, 5, 6, 7, 8, 18, 19, 20, 21, 22, 23, 24, 25] (by decide +kernel) (by decide +kernel)
set_option maxRecDepth 20000 in
theorem gX3_asCut_X3_init : GoodIn wsX3_asCut (wsX3_init) := ggX3_asCut_X3_init
set_option maxRecDepth 20000 in
theorem ggX3_asCancelled_X3_init : GoodIn wsX3_asCancelled wsX3_init := goodIn_r _ [12, 13, 14, 15, 9, 16, 17, 4, 5, 6, 7, 8, 18, 19, 20, 21, 22, 23, 24, 25] (by decide +kernel) (by decide +kernel)
set_option maxRecDepth 20000 in
theorem gX3_asCancelled_X3_init : GoodIn wsX3_asCancelled (wsX3_init) := ggX3_asCancelled_X3_init
set_option maxRecDepth 20000 in
theorem ggX3_goesBefore_X3_area : GoodIn wsX3_goesBefore wsX3_area := goodIn_r _ [7, 8, 9, 10, 11, 12, 13, 14, 15, 16, 17] (by decide +kernel) (by decide +kernel)
set_option maxRecDepth 20000 in
theorem gX3_goesBefore_X3_area : GoodIn wsX3_goesBefore (wsV RX3 39 RX3 yX3_area wsX3_area) := goodIn_app (goodIn_of _ (by decide +kernel)) ggX3_goesBefore_X3_area
set_option maxRecDepth 20000 in
theorem ggX4_copyFrom_X4_numbered : GoodIn wsX4_copyFrom wsX4_numbered := goodIn_r _ [7, 2, 8, 9] (by decide +kernel) (by decide +kernel)
set_option maxRecDepth 20000 in
theorem gX4_copyFrom_X4_numbered : GoodIn wsX4_copyFrom (wsV RX4 21 RX4 yX4_numbered wsX4_numbered) := goodIn_app (goodIn_of _ (by decide +kernel)) ggX4_copyFrom_X4_numbered
set_option maxRecDepth 20000 in
theorem ggX4_addNew_X3_init : GoodIn wsX4_addNew wsX3_init := goodIn_r _ [7, 8, 9, 10, 11, 12, 13, 14, 15, 16, 17, 18, 28, 29, 30, 31, 32, 33, 34, 35] (by decide +kernel) (by decide +kernel)
set_option maxRecDepth 20000 in
theorem gX4_addNew_X3_init : GoodIn wsX4_addNew (wsX3_init) := ggX4_addNew_X3_init
set_option maxRecDepth 20000 in
theorem ggX4_addNew_X4_replace : GoodIn wsX4_addNew wsX4_replace := goodIn_r _ [23, 24, 25, 28, 29, 30, 31, 32, 33, 34, 35, 26, 27] (by decide +kernel) (by decide +kernel)
set_option maxRecDepth 20000 in
theorem gX4_addNew_X4_replace : GoodIn wsX4_addNew (wsV RX4 28 RX4 yX4_replace wsX4_replace) := goodIn_app (goodIn_of _ (by decide +kernel)) ggX4_addNew_X4_replace
set_option maxRecDepth 20000 in
theorem ggX4_openOnes_X3_isOpen : GoodIn wsX4_openOnes wsX3_isOpen := goodIn_r _ [6, 7, 10, 11, 12, 13, 14, 15, 16, 17] (by decide +kernel) (by decide +kernel)
set_option maxRecDepth 20000 in
theorem gX4_openOnes_X3_isOpen : GoodIn wsX4_openOnes (wsV RX4 35 RX3 yX3_isOpen wsX3_isOpen) := goodIn_app (goodIn_of _ (by decide +kernel)) ggX4_openOnes_X3_isOpen
set_option maxRecDepth 20000 in
theorem ggX4_lateOnes_X3_isLate : GoodIn wsX4_lateOnes wsX3_isLate := goodIn_r _ [6, 7, 8, 9, 12, 13, 14, 15, 16, 17, 18, 19] (by decide +kernel) (by decide +kernel)
set_option maxRecDepth 20000 in
theorem gX4_lateOnes_X3_isLate : GoodIn wsX4_lateOnes (wsV RX4 39 RX3 yX3_isLate wsX3_isLate) := goodIn_app (goodIn_of _ (by decide +kernel)) ggX4_lateOnes_X3_isLate
set_option maxRecDepth 20000 in
theorem ggX4_nextOpen_X3_isOpen : GoodIn wsX4_nextOpen wsX3_isOpen := goodIn_r _ [6, 7, 22, 23, 24, 25, 26, 27, 28, 29] (by decide +kernel) (by decide +kernel)
set_option maxRecDepth 20000 in
theorem gX4_nextOpen_X3_isOpen : GoodIn wsX4_nextOpen (wsV RX4 35 RX3 yX3_isOpen wsX3_isOpen) := goodIn_app (goodIn_of _ (by decide +kernel)) ggX4_nextOpen_X3_isOpen
set_option maxRecDepth 20000 in
theorem ggX4_nextOpen_X3_goesBefore : GoodIn wsX4_nextOpen wsX3_goesBefore := goodIn_r _ [11, 12, 13, 14, 15, 16, 5, 17, 18, 19, 22, 23, 24, 25, 26, 27, 28, 29] (by decide +kernel) (by decide +kernel)
set_option maxRecDepth 20000 in
theorem gX4_nextOpen_X3_goesBefore : GoodIn wsX4_nextOpen (wsV RX4 43 RX3 yX3_goesBefore wsX3_goesBefore) := goodIn_app (goodIn_of _ (by decide +kernel)) ggX4_nextOpen_X3_goesBefore
set_option maxRecDepth 20000 in
theorem ggX4_openAtRank_X4_nextOpen : GoodIn wsX4_openAtRank wsX4_nextOpen := goodIn_r _ [5, 6, 7, 8, 9, 10, 11, 12, 13, 14, 15, 16, 17, 18, 19, 20, 21, 22, 23, 24, 25, 26, 27, 28, 29, 30, 31, 32, 33, 34] (by decide +kernel) (by decide +kernel)
set_option maxRecDepth 20000 in
theorem gX4_openAtRank_X4_nextOpen : GoodIn wsX4_openAtRank (wsV RX4 47 RX4 yX4_nextOpen wsX4_nextOpen) := goodIn_app (goodIn_of _ (by decide +kernel)) ggX4_openAtRank_X4_nextOpen
set_option maxRecDepth 20000 in
theorem ggX5_copyFrom_X5_inSlot : GoodIn wsX5_copyFrom wsX5_inSlot := goodIn_r _ [7, 2, 8, 9] (by decide +kernel) (by decide +kernel)
set_option maxRecDepth 20000 in
theorem gX5_copyFrom_X5_inSlot : GoodIn wsX5_copyFrom (wsV RX5 21 RX5 yX5_inSlot wsX5_inSlot) := goodIn_app (goodIn_of _ (by decide +kernel)) ggX5_copyFrom_X5_inSlot
set_option maxRecDepth 20000 in
theorem ggX5_isFull_X5_filled : GoodIn wsX5_isFull wsX5_filled := goodIn_r _ [5, 6, 7, 8] (by decide +kernel) (by decide +kernel)
set_option maxRecDepth 20000 in
theorem gX5_isFull_X5_filled : GoodIn wsX5_isFull (wsV RX5 28 RX5 yX5_filled wsX5_filled) := goodIn_app (goodIn_of _ (by decide +kernel)) ggX5_isFull_X5_filled
set_option maxRecDepth 20000 in
theorem ggX5_hasRoom_X5_filled : GoodIn wsX5_hasRoom wsX5_filled := goodIn_r _ [6, 7, 8, 9] (by decide +kernel) (by decide +kernel)
set_option maxRecDepth 20000 in
theorem gX5_hasRoom_X5_filled : GoodIn wsX5_hasRoom (wsV RX5 28 RX5 yX5_filled wsX5_filled) := goodIn_app (goodIn_of _ (by decide +kernel)) ggX5_hasRoom_X5_filled
set_option maxRecDepth 20000 in
theorem ggX5_sheetsBefore_X5_filled : GoodIn wsX5_sheetsBefore wsX5_filled := goodIn_r _ [5, 6, 7, 8] (by decide +kernel) (by decide +kernel)
set_option maxRecDepth 20000 in
theorem gX5_sheetsBefore_X5_filled : GoodIn wsX5_sheetsBefore (wsV RX5 28 RX5 yX5_filled wsX5_filled) := goodIn_app (goodIn_of _ (by decide +kernel)) ggX5_sheetsBefore_X5_filled
set_option maxRecDepth 20000 in
theorem ggX5_atPlace_X5_filled : GoodIn wsX5_atPlace wsX5_filled := goodIn_r _ [5, 6, 11, 12] (by decide +kernel) (by decide +kernel)
set_option maxRecDepth 20000 in
theorem gX5_atPlace_X5_filled : GoodIn wsX5_atPlace (wsV RX5 28 RX5 yX5_filled wsX5_filled) := goodIn_app (goodIn_of _ (by decide +kernel)) ggX5_atPlace_X5_filled
set_option maxRecDepth 20000 in
theorem ggX5_atPlace_X5_inSlot : GoodIn wsX5_atPlace wsX5_inSlot := goodIn_r _ [10, 6, 11, 12] (by decide +kernel) (by decide +kernel)
set_option maxRecDepth 20000 in
theorem gX5_atPlace_X5_inSlot : GoodIn wsX5_atPlace (wsV RX5 21 RX5 yX5_inSlot wsX5_inSlot) := goodIn_app (goodIn_of _ (by decide +kernel)) ggX5_atPlace_X5_inSlot
set_option maxRecDepth 20000 in
theorem ggX5_addNew_X7_init : GoodIn wsX5_addNew wsX7_init := goodIn_r _ [7, 8, 9, 10, 11, 12, 13, 14, 15, 24, 25, 26, 27, 28] (by decide +kernel) (by decide +kernel)
set_option maxRecDepth 20000 in
theorem gX5_addNew_X7_init : GoodIn wsX5_addNew (wsX7_init) := ggX5_addNew_X7_init
set_option maxRecDepth 20000 in
theorem ggX5_addNew_X5_putInFront : GoodIn wsX5_addNew wsX5_putInFront := goodIn_r _ [20, 21, 22, 23] (by decide +kernel) (by decide +kernel)
set_option maxRecDepth 20000 in
theorem gX5_addNew_X5_putInFront : GoodIn wsX5_addNew (wsV RX5 35 RX5 yX5_putInFront wsX5_putInFront) := goodIn_app (goodIn_of _ (by decide +kernel)) ggX5_addNew_X5_putInFront
set_option maxRecDepth 20000 in
theorem ggX5_areaThere_X7_area : GoodIn wsX5_areaThere wsX7_area := goodIn_r _ [6, 7, 8, 11, 12, 13, 14, 15] (by decide +kernel) (by decide +kernel)
set_option maxRecDepth 20000 in
theorem gX5_areaThere_X7_area : GoodIn wsX5_areaThere (wsV RX5 39 RX7 yX7_area wsX7_area) := goodIn_app (goodIn_of _ (by decide +kernel)) ggX5_areaThere_X7_area
set_option maxRecDepth 20000 in
theorem ggX6_change_X6_isAllowed : GoodIn wsX6_change wsX6_isAllowed := goodIn_r _ [4, 5, 6, 7] (by decide +kernel) (by decide +kernel)
set_option maxRecDepth 20000 in
theorem gX6_change_X6_isAllowed : GoodIn wsX6_change (va_wsS RX6 27 yX6_isAllowed wsX6_isAllowed) := goodIn_app (goodIn_of _ (by decide +kernel)) ggX6_change_X6_isAllowed
set_option maxRecDepth 20000 in
theorem ggX6_change_X6_value : GoodIn wsX6_change wsX6_value := goodIn_r _ [11, 12, 13, 14, 15, 16, 21, 22, 23, 24, 25] (by decide +kernel) (by decide +kernel)
set_option maxRecDepth 20000 in
theorem gX6_change_X6_value : GoodIn wsX6_change (wsV RX6 31 RX6 yX6_value wsX6_value) := goodIn_app (goodIn_of _ (by decide +kernel)) ggX6_change_X6_value
set_option maxRecDepth 20000 in
theorem ggX6_change_X6_put : GoodIn wsX6_change wsX6_put := goodIn_r _ [20, 12, 13, 14, 15, 16, 21, 22, 23, 24, 25] (by decide +kernel) (by decide +kernel)
set_option maxRecDepth 20000 in
theorem gX6_change_X6_put : GoodIn wsX6_change (wsV RX6 35 RX6 yX6_put wsX6_put) := goodIn_app (goodIn_of _ (by decide +kernel)) ggX6_change_X6_put
set_option maxRecDepth 20000 in
theorem ggX6_isAllowed_X9_isSide : GoodIn wsX6_isAllowed wsX9_isSide := goodIn_r _ [3] (by decide +kernel) (by decide +kernel)
set_option maxRecDepth 20000 in
theorem gX6_isAllowed_X9_isSide_n39 : GoodIn wsX6_isAllowed (wsX9_isSide) := ggX6_isAllowed_X9_isSide
set_option maxRecDepth 20000 in
theorem ggX8_init_X6_init : GoodIn wsX8_init wsX6_init := goodIn_r _ [28, 29, 2, 3, 30, 31, 32, 33, 34, 60, 61, 62, 63, 64] (by decide +kernel) (by decide +kernel)
set_option maxRecDepth 20000 in
theorem gX8_init_X6_init_n11 : GoodIn wsX8_init (wsX6_init) := ggX8_init_X6_init
set_option maxRecDepth 20000 in
theorem ggX8_init_X5_init : GoodIn wsX8_init wsX5_init := goodIn_r _ [36, 37, 2, 3, 38, 39, 40, 76, 77] (by decide +kernel) (by decide +kernel)
set_option maxRecDepth 20000 in
theorem gX8_init_X5_init_n20 : GoodIn wsX8_init (wsX5_init) := ggX8_init_X5_init
set_option maxRecDepth 20000 in
theorem ggX8_init_X4_init : GoodIn wsX8_init wsX4_init := goodIn_r _ [42, 43, 2, 3, 44, 45, 46, 78, 79] (by decide +kernel) (by decide +kernel)
set_option maxRecDepth 20000 in
theorem gX8_init_X4_init_n27 : GoodIn wsX8_init (wsX4_init) := ggX8_init_X4_init
set_option maxRecDepth 20000 in
theorem ggX8_init_X1_init : GoodIn wsX8_init wsX1_init := goodIn_r _ [48, 49, 2, 3, 50, 51, 52, 53, 54, 55, 56, 57, 58, 59, 80, 81, 82, 83, 84, 85, 86, 87, 88, 89] (by decide +kernel) (by decide +kernel)
set_option maxRecDepth 20000 in
theorem gX8_init_X1_init_n34 : GoodIn wsX8_init (wsX1_init) := ggX8_init_X1_init
set_option maxRecDepth 20000 in
theorem ggX8_copyFrom_X6_copyFrom : GoodIn wsX8_copyFrom wsX6_copyFrom := goodIn_r _ [15, 16, 17, 18, 19, 20, 54, 55, 56, 57, 58] (by decide +kernel) (by decide +kernel)
set_option maxRecDepth 20000 in
theorem gX8_copyFrom_X6_copyFrom : GoodIn wsX8_copyFrom (wsV RX8 61 RX6 yX6_copyFrom wsX6_copyFrom) := goodIn_app (goodIn_of _ (by decide +kernel)) ggX8_copyFrom_X6_copyFrom
set_option maxRecDepth 20000 in
theorem ggX8_copyFrom_X5_copyFrom : GoodIn wsX8_copyFrom wsX5_copyFrom := goodIn_r _ [25, 26, 27, 28, 29, 30, 24, 31, 59, 60] (by decide +kernel) (by decide +kernel)
set_option maxRecDepth 20000 in
theorem gX8_copyFrom_X5_copyFrom : GoodIn wsX8_copyFrom (wsV RX8 65 RX5 yX5_copyFrom wsX5_copyFrom) := goodIn_app (goodIn_of _ (by decide +kernel)) ggX8_copyFrom_X5_copyFrom
set_option maxRecDepth 20000 in
theorem ggX8_copyFrom_X4_copyFrom : GoodIn wsX8_copyFrom wsX4_copyFrom := goodIn_r _ [36, 37, 38, 39, 40, 41, 35, 42, 61, 62] (by decide +kernel) (by decide +kernel)
set_option maxRecDepth 20000 in
theorem gX8_copyFrom_X4_copyFrom : GoodIn wsX8_copyFrom (wsV RX8 68 RX4 yX4_copyFrom wsX4_copyFrom) := goodIn_app (goodIn_of _ (by decide +kernel)) ggX8_copyFrom_X4_copyFrom
set_option maxRecDepth 20000 in
theorem ggX8_buySheet_X9_isRack : GoodIn wsX8_buySheet wsX9_isRack := goodIn_r _ [5] (by decide +kernel) (by decide +kernel)
set_option maxRecDepth 20000 in
theorem gX8_buySheet_X9_isRack_n71 : GoodIn wsX8_buySheet (wsX9_isRack) := ggX8_buySheet_X9_isRack
set_option maxRecDepth 20000 in
theorem ggX8_buySheet_X9_isSort : GoodIn wsX8_buySheet wsX9_isSort := goodIn_r _ [7] (by decide +kernel) (by decide +kernel)
set_option maxRecDepth 20000 in
theorem gX8_buySheet_X9_isSort_n75 : GoodIn wsX8_buySheet (wsX9_isSort) := ggX8_buySheet_X9_isSort
set_option maxRecDepth 20000 in
theorem ggX8_buySheet_X9_isSide : GoodIn wsX8_buySheet wsX9_isSide := goodIn_r _ [9] (by decide +kernel) (by decide +kernel)
set_option maxRecDepth 20000 in
theorem gX8_buySheet_X9_isSide_n78 : GoodIn wsX8_buySheet (wsX9_isSide) := ggX8_buySheet_X9_isSide
set_option maxRecDepth 20000 in
theorem ggX8_buySheet_X5_hasRoom : GoodIn wsX8_buySheet wsX5_hasRoom := goodIn_r _ [14, 15, 16, 17, 18, 13, 19, 20, 54, 55] (by decide +kernel) (by decide +kernel)
set_option maxRecDepth 20000 in
theorem gX8_buySheet_X5_hasRoom : GoodIn wsX8_buySheet (wsV RX8 81 RX5 yX5_hasRoom wsX5_hasRoom) := goodIn_app (goodIn_of _ (by decide +kernel)) ggX8_buySheet_X5_hasRoom
set_option maxRecDepth 20000 in
theorem ggX8_buySheet_X5_addNew : GoodIn wsX8_buySheet wsX5_addNew := goodIn_r _ [24, 15, 25, 26, 27, 28, 29, 30, 31, 32, 33, 34, 35, 36, 37, 38, 39, 40, 41, 13, 42, 20, 54, 55, 56, 57, 58, 59, 60] (by decide +kernel) (by decide +kernel)
set_option maxRecDepth 20000 in
theorem gX8_buySheet_X5_addNew : GoodIn wsX8_buySheet (wsV RX8 84 RX5 yX5_addNew wsX5_addNew) := goodIn_app (goodIn_of _ (by decide +kernel)) ggX8_buySheet_X5_addNew
set_option maxRecDepth 20000 in
theorem ggX8_moveSheet_X5_slotOf : GoodIn wsX8_moveSheet wsX5_slotOf := goodIn_r _ [6, 7, 8, 67, 68, 69, 70, 71, 72, 73] (by decide +kernel) (by decide +kernel)
set_option maxRecDepth 20000 in
theorem gX8_moveSheet_X5_slotOf : GoodIn wsX8_moveSheet (wsV RX8 88 RX5 yX5_slotOf wsX5_slotOf) := goodIn_app (goodIn_of _ (by decide +kernel)) ggX8_moveSheet_X5_slotOf
set_option maxRecDepth 20000 in
theorem ggX8_moveSheet_X5_inSlot : GoodIn wsX8_moveSheet wsX5_inSlot := goodIn_r _ [12, 7, 67, 68] (by decide +kernel) (by decide +kernel)
set_option maxRecDepth 20000 in
theorem gX8_moveSheet_X5_inSlot : GoodIn wsX8_moveSheet (wsV RX8 92 RX5 yX5_inSlot wsX5_inSlot) := goodIn_app (goodIn_of _ (by decide +kernel)) ggX8_moveSheet_X5_inSlot
set_option maxRecDepth 20000 in
theorem ggX8_moveSheet_X9_isRack : GoodIn wsX8_moveSheet wsX9_isRack := goodIn_r _ [15] (by decide +kernel) (by decide +kernel)
set_option maxRecDepth 20000 in
theorem gX8_moveSheet_X9_isRack_n71 : GoodIn wsX8_moveSheet (wsX9_isRack) := ggX8_moveSheet_X9_isRack
set_option maxRecDepth 20000 in
theorem ggX8_moveSheet_X5_isFull : GoodIn wsX8_moveSheet wsX5_isFull := goodIn_r _ [19, 20, 21, 22, 5, 23, 7, 67, 68] (by decide +kernel) (by decide +kernel)
set_option maxRecDepth 20000 in
theorem gX8_moveSheet_X5_isFull : GoodIn wsX8_moveSheet (wsV RX8 96 RX5 yX5_isFull wsX5_isFull) := goodIn_app (goodIn_of _ (by decide +kernel)) ggX8_moveSheet_X5_isFull
set_option maxRecDepth 20000 in
theorem ggX8_moveSheet_X5_sheetsBefore : GoodIn wsX8_moveSheet wsX5_sheetsBefore := goodIn_r _ [27, 20, 21, 22, 5, 23, 7, 67, 68] (by decide +kernel) (by decide +kernel)
set_option maxRecDepth 20000 in
theorem gX8_moveSheet_X5_sheetsBefore : GoodIn wsX8_moveSheet (wsV RX8 99 RX5 yX5_sheetsBefore wsX5_sheetsBefore) := goodIn_app (goodIn_of _ (by decide +kernel)) ggX8_moveSheet_X5_sheetsBefore
set_option maxRecDepth 20000 in
theorem ggX8_moveSheet_X8_takeOut : GoodIn wsX8_moveSheet wsX8_takeOut := goodIn_r _ [32, 1, 33, 34, 35, 24, 25, 26, 5, 27, 20, 21, 22, 23, 7, 36, 37, 38, 31, 39, 40, 9, 10, 11, 12, 41, 42, 43, 44, 45, 46, 47, 48, 49, 50, 51, 56, 57, 58, 59, 60, 61, 62, 63, 64, 65, 66, 74, 75, 76, 77, 78, 67, 68, 69, 70, 71, 72, 73] (by decide +kernel) (by decide +kernel)
set_option maxRecDepth 20000 in
theorem gX8_moveSheet_X8_takeOut : GoodIn wsX8_moveSheet (wsV RX8 102 RX8 yX8_takeOut wsX8_takeOut) := goodIn_app (goodIn_of _ (by decide +kernel)) ggX8_moveSheet_X8_takeOut
set_option maxRecDepth 20000 in
theorem ggX8_moveSheet_X5_putInFront : GoodIn wsX8_moveSheet wsX5_putInFront := goodIn_r _ [55, 7, 67, 68] (by decide +kernel) (by decide +kernel)
set_option maxRecDepth 20000 in
theorem gX8_moveSheet_X5_putInFront : GoodIn wsX8_moveSheet (wsV RX8 105 RX5 yX5_putInFront wsX5_putInFront) := goodIn_app (goodIn_of _ (by decide +kernel)) ggX8_moveSheet_X5_putInFront
set_option maxRecDepth 20000 in
theorem ggX8_scrapSheet_X5_slotOf : GoodIn wsX8_scrapSheet wsX5_slotOf := goodIn_r _ [7, 8, 9, 57, 58, 59, 60, 61, 62, 63] (by decide +kernel) (by decide +kernel)
set_option maxRecDepth 20000 in
theorem gX8_scrapSheet_X5_slotOf : GoodIn wsX8_scrapSheet (wsV RX8 88 RX5 yX5_slotOf wsX5_slotOf) := goodIn_app (goodIn_of _ (by decide +kernel)) ggX8_scrapSheet_X5_slotOf
set_option maxRecDepth 20000 in
theorem ggX8_scrapSheet_X5_inSlot : GoodIn wsX8_scrapSheet wsX5_inSlot := goodIn_r _ [13, 8, 57, 58] (by decide +kernel) (by decide +kernel)
set_option maxRecDepth 20000 in
theorem gX8_scrapSheet_X5_inSlot : GoodIn wsX8_scrapSheet (wsV RX8 92 RX5 yX5_inSlot wsX5_inSlot) := goodIn_app (goodIn_of _ (by decide +kernel)) ggX8_scrapSheet_X5_inSlot
set_option maxRecDepth 20000 in
theorem ggX8_scrapSheet_X8_takeOut : GoodIn wsX8_scrapSheet wsX8_takeOut := goodIn_r _ [18, 1, 19, 20, 21, 22, 23, 24, 6, 25, 26, 27, 28, 29, 8, 30, 31, 32, 17, 33, 34, 10, 11, 12, 13, 35, 36, 37, 38, 39, 40, 41, 42, 43, 44, 45, 46, 47, 48, 49, 50, 51, 52, 53, 54, 55, 56, 64, 65, 66, 67, 68, 57, 58, 59, 60, 61, 62, 63] (by decide +kernel) (by decide +kernel)
set_option maxRecDepth 20000 in
theorem gX8_scrapSheet_X8_takeOut : GoodIn wsX8_scrapSheet (wsV RX8 102 RX8 yX8_takeOut wsX8_takeOut) := goodIn_app (goodIn_of _ (by decide +kernel)) ggX8_scrapSheet_X8_takeOut
set_option maxRecDepth 20000 in
theorem ggX8_scrapSheet_X7_area : GoodIn wsX8_scrapSheet wsX7_area := goodIn_r _ [39, 40, 41, 59, 60, 61, 62, 63] (by decide +kernel) (by decide +kernel)
set_option maxRecDepth 20000 in
theorem gX8_scrapSheet_X7_area : GoodIn wsX8_scrapSheet (wsV RX8 109 RX7 yX7_area wsX7_area) := goodIn_app (goodIn_of _ (by decide +kernel)) ggX8_scrapSheet_X7_area
set_option maxRecDepth 20000 in
theorem ggX8_takeOrder_X9_isSort : GoodIn wsX8_takeOrder wsX9_isSort := goodIn_r _ [4] (by decide +kernel) (by decide +kernel)
set_option maxRecDepth 20000 in
theorem gX8_takeOrder_X9_isSort_n75 : GoodIn wsX8_takeOrder (wsX9_isSort) := ggX8_takeOrder_X9_isSort
set_option maxRecDepth 20000 in
theorem ggX8_takeOrder_X9_isSide : GoodIn wsX8_takeOrder wsX9_isSide := goodIn_r _ [6] (by decide +kernel) (by decide +kernel)
set_option maxRecDepth 20000 in
theorem gX8_takeOrder_X9_isSide_n78 : GoodIn wsX8_takeOrder (wsX9_isSide) := ggX8_takeOrder_X9_isSide
set_option maxRecDepth 20000 in
theorem ggX8_takeOrder_X4_isFull : GoodIn wsX8_takeOrder wsX4_isFull := goodIn_r _ [11, 12, 51, 52] (by decide +kernel) (by decide +kernel)
set_option maxRecDepth 20000 in
theorem gX8_takeOrder_X4_isFull : GoodIn wsX8_takeOrder (wsV RX8 115 RX4 yX4_isFull wsX4_isFull) := goodIn_app (goodIn_of _ (by decide +kernel)) ggX8_takeOrder_X4_isFull
set_option maxRecDepth 20000 in
theorem ggX8_takeOrder_X4_addNew : GoodIn wsX8_takeOrder wsX4_addNew := goodIn_r _ [16, 12, 17, 18, 19, 20, 21, 22, 23, 24, 25, 26, 27, 28, 29, 30, 31, 32, 33, 34, 35, 36, 10, 37, 38, 39, 51, 52, 53, 54, 55, 56, 57, 58, 59, 60] (by decide +kernel) (by decide +kernel)
set_option maxRecDepth 20000 in
theorem gX8_takeOrder_X4_addNew : GoodIn wsX8_takeOrder (wsV RX8 118 RX4 yX4_addNew wsX4_addNew) := goodIn_app (goodIn_of _ (by decide +kernel)) ggX8_takeOrder_X4_addNew
set_option maxRecDepth 20000 in
theorem ggX8_cancelOrder_X4_numbered : GoodIn wsX8_cancelOrder wsX4_numbered := goodIn_r _ [6, 7, 54, 55] (by decide +kernel) (by decide +kernel)
set_option maxRecDepth 20000 in
theorem gX8_cancelOrder_X4_numbered : GoodIn wsX8_cancelOrder (wsV RX8 121 RX4 yX4_numbered wsX4_numbered) := goodIn_app (goodIn_of _ (by decide +kernel)) ggX8_cancelOrder_X4_numbered
set_option maxRecDepth 20000 in
theorem ggX8_cancelOrder_X3_isOpen : GoodIn wsX8_cancelOrder wsX3_isOpen := goodIn_r _ [12, 13, 56, 57, 58, 59, 60, 61, 62, 63] (by decide +kernel) (by decide +kernel)
set_option maxRecDepth 20000 in
theorem gX8_cancelOrder_X3_isOpen : GoodIn wsX8_cancelOrder (wsV RX8 125 RX3 yX3_isOpen wsX3_isOpen) := goodIn_app (goodIn_of _ (by decide +kernel)) ggX8_cancelOrder_X3_isOpen
set_option maxRecDepth 20000 in
theorem ggX8_cancelOrder_X3_asCancelled : GoodIn wsX8_cancelOrder wsX3_asCancelled := goodIn_r _ [17, 18, 19, 11, 20, 21, 22, 23, 24, 13, 25, 26, 27, 28, 29, 30, 31, 32, 56, 57, 58, 59, 60, 61, 62, 63] (by decide +kernel) (by decide +kernel)
set_option maxRecDepth 20000 in
theorem gX8_cancelOrder_X3_asCancelled : GoodIn wsX8_cancelOrder (wsV RX8 130 RX3 yX3_asCancelled wsX3_asCancelled) := goodIn_app (goodIn_of _ (by decide +kernel)) ggX8_cancelOrder_X3_asCancelled
set_option maxRecDepth 20000 in
theorem ggX8_cancelOrder_X4_replace : GoodIn wsX8_cancelOrder wsX4_replace := goodIn_r _ [36, 37, 7, 56, 57, 58, 59, 60, 61, 62, 63, 54, 55] (by decide +kernel) (by decide +kernel)
set_option maxRecDepth 20000 in
theorem gX8_cancelOrder_X4_replace : GoodIn wsX8_cancelOrder (wsV RX8 134 RX4 yX4_replace wsX4_replace) := goodIn_app (goodIn_of _ (by decide +kernel)) ggX8_cancelOrder_X4_replace
set_option maxRecDepth 20000 in
theorem ggX8_cancelOrder_X4_openOnes : GoodIn wsX8_cancelOrder wsX4_openOnes := goodIn_r _ [41, 7, 42, 9, 10, 11, 12, 13, 54, 55, 56, 57, 58, 59, 60, 61, 62, 63] (by decide +kernel) (by decide +kernel)
set_option maxRecDepth 20000 in
theorem gX8_cancelOrder_X4_openOnes : GoodIn wsX8_cancelOrder (wsV RX8 138 RX4 yX4_openOnes wsX4_openOnes) := goodIn_app (goodIn_of _ (by decide +kernel)) ggX8_cancelOrder_X4_openOnes
set_option maxRecDepth 20000 in
theorem ggX8_cutOrder_X4_numbered : GoodIn wsX8_cutOrder wsX4_numbered := goodIn_r _ [9, 10, 179, 180] (by decide +kernel) (by decide +kernel)
set_option maxRecDepth 20000 in
theorem gX8_cutOrder_X4_numbered : GoodIn wsX8_cutOrder (wsV RX8 121 RX4 yX4_numbered wsX4_numbered) := goodIn_app (goodIn_of _ (by decide +kernel)) ggX8_cutOrder_X4_numbered
set_option maxRecDepth 20000 in
theorem ggX8_cutOrder_X5_slotOf : GoodIn wsX8_cutOrder wsX5_slotOf := goodIn_r _ [15, 16, 17, 181, 182, 183, 184, 185, 186, 187] (by decide +kernel) (by decide +kernel)
set_option maxRecDepth 20000 in
theorem gX8_cutOrder_X5_slotOf : GoodIn wsX8_cutOrder (wsV RX8 88 RX5 yX5_slotOf wsX5_slotOf) := goodIn_app (goodIn_of _ (by decide +kernel)) ggX8_cutOrder_X5_slotOf
set_option maxRecDepth 20000 in
theorem ggX8_cutOrder_X5_inSlot : GoodIn wsX8_cutOrder wsX5_inSlot := goodIn_r _ [21, 16, 181, 182] (by decide +kernel) (by decide +kernel)
set_option maxRecDepth 20000 in
theorem gX8_cutOrder_X5_inSlot : GoodIn wsX8_cutOrder (wsV RX8 92 RX5 yX5_inSlot wsX5_inSlot) := goodIn_app (goodIn_of _ (by decide +kernel)) ggX8_cutOrder_X5_inSlot
set_option maxRecDepth 20000 in
theorem ggX8_cutOrder_X3_isOpen : GoodIn wsX8_cutOrder wsX3_isOpen := goodIn_r _ [26, 27, 188, 189, 190, 191, 192, 193, 194, 195] (by decide +kernel) (by decide +kernel)
set_option maxRecDepth 20000 in
theorem gX8_cutOrder_X3_isOpen : GoodIn wsX8_cutOrder (wsV RX8 125 RX3 yX3_isOpen wsX3_isOpen) := goodIn_app (goodIn_of _ (by decide +kernel)) ggX8_cutOrder_X3_isOpen
set_option maxRecDepth 20000 in
theorem ggX8_cutOrder_X1_layOut : GoodIn wsX8_cutOrder wsX1_layOut := goodIn_r _ [32, 33, 34, 35, 36, 37, 38, 39, 40, 41, 42, 43, 44, 31, 45, 46, 47, 48, 49, 50, 51, 52, 53, 54, 55, 56, 57, 58, 59, 60, 61, 25, 62, 63, 64, 65, 66, 67, 68, 69, 70, 71, 72, 73, 74, 75, 76, 77, 188, 189, 190, 191, 192, 193, 194, 195, 183, 184, 185, 186, 187, 196, 197, 198, 199, 200, 201, 202, 203, 204, 205, 206, 207, 208, 209, 210] (by decide +kernel) (by decide +kernel)
set_option maxRecDepth 20000 in
theorem gX8_cutOrder_X1_layOut : GoodIn wsX8_cutOrder (wsV RX8 141 RX1 yX1_layOut wsX1_layOut) := goodIn_app (goodIn_of _ (by decide +kernel)) ggX8_cutOrder_X1_layOut
set_option maxRecDepth 20000 in
theorem ggX8_cutOrder_X8_cutOpenOrder : GoodIn wsX8_cutOrder wsX8_cutOpenOrder := goodIn_r _ [82, 2, 83, 3, 4, 1, 84, 85, 86, 87, 88, 89, 90, 91, 11, 12, 13, 14, 15, 16, 17, 92, 93, 94, 81, 95, 96, 97, 98, 99, 100, 101, 102, 103, 104, 105, 106, 107, 108, 109, 110, 18, 19, 20, 21, 111, 53, 54, 55, 56, 57, 58, 112, 113, 114, 115, 28, 29, 30, 31, 32, 33, 34, 35, 36, 37, 38, 39, 40, 41, 42, 43, 44, 45, 46, 47, 48, 49, 50, 51, 52, 59, 60, 61, 25, 62, 63, 64, 65, 66, 67, 68, 69, 70, 71, 72, 73, 74, 75, 76, 77, 116, 117, 118, 119, 120, 121, 122, 123, 124, 27, 125, 126, 127, 128, 129, 130, 131, 132, 133, 134, 135, 8, 136, 137, 10, 138, 139, 140, 141, 142, 143, 144, 145, 146, 147, 148, 149, 150, 151, 152, 153, 154, 155, 156, 157, 158, 159, 160, 161, 162, 163, 164, 165, 166, 167, 168, 169, 170, 171, 172, 173, 174, 175, 176, 177, 178, 183, 184, 185, 186, 187, 201, 202, 203, 204, 205, 206, 207, 208, 209, 210, 181, 182, 196, 197, 198, 199, 200, 188, 189, 190, 191, 192, 193, 194, 195, 179, 180] (by decide +kernel) (by decide +kernel)
set_option maxRecDepth 20000 in
theorem gX8_cutOrder_X8_cutOpenOrder : GoodIn wsX8_cutOrder (wsV RX8 145 RX8 yX8_cutOpenOrder wsX8_cutOpenOrder) := goodIn_app (goodIn_of _ (by decide +kernel)) ggX8_cutOrder_X8_cutOpenOrder
set_option maxRecDepth 20000 in
theorem ggX8_planDay_X9_isChoice : GoodIn wsX8_planDay wsX9_isChoice := goodIn_r _ [4] (by decide +kernel) (by decide +kernel)
set_option maxRecDepth 20000 in
theorem gX8_planDay_X9_isChoice_n149 : GoodIn wsX8_planDay (wsX9_isChoice) := ggX8_planDay_X9_isChoice
set_option maxRecDepth 20000 in
theorem ggX8_planDay_X4_nextOpen : GoodIn wsX8_planDay wsX4_nextOpen := goodIn_r _ [9, 10, 11, 12, 13, 14, 15, 16, 17, 18, 19, 20, 21, 22, 23, 24, 25, 26, 27, 28, 196, 197, 198, 199, 200, 201, 202, 203, 204, 205] (by decide +kernel) (by decide +kernel)
set_option maxRecDepth 20000 in
theorem gX8_planDay_X4_nextOpen : GoodIn wsX8_planDay (wsV RX8 152 RX4 yX4_nextOpen wsX4_nextOpen) := goodIn_app (goodIn_of _ (by decide +kernel)) ggX8_planDay_X4_nextOpen
set_option maxRecDepth 20000 in
theorem ggX8_planDay_X8_chosenSheet : GoodIn wsX8_planDay wsX8_chosenSheet := goodIn_r _ [33, 34, 35, 36, 37, 38, 39, 40, 41, 42, 43, 44, 45, 46, 47, 48, 49, 50, 51, 52, 53, 54, 55, 56, 57, 58, 59, 60, 61, 62, 63, 64, 65, 66, 67, 68, 69, 70, 71, 72, 73, 74, 75, 24, 25, 14, 26, 27, 28, 76, 77, 78, 79, 80, 81, 82, 83, 84, 85, 86, 87, 88, 89, 90, 91, 32, 92, 93, 94, 95, 96, 97, 98, 99, 100, 101, 102, 185, 186, 187, 188, 189, 190, 191, 192, 193, 194, 195, 206, 207, 208, 209, 210, 211, 212, 198, 199, 200, 201, 202, 203, 204, 205, 213, 214, 215, 216, 217, 218, 219, 220, 221, 222, 223, 224, 225, 226, 227] (by decide +kernel) (by decide +kernel)
set_option maxRecDepth 20000 in
theorem gX8_planDay_X8_chosenSheet : GoodIn wsX8_planDay (wsV RX8 156 RX8 yX8_chosenSheet wsX8_chosenSheet) := goodIn_app (goodIn_of _ (by decide +kernel)) ggX8_planDay_X8_chosenSheet
set_option maxRecDepth 20000 in
theorem ggX8_planDay_X8_cutOpenOrder : GoodIn wsX8_planDay wsX8_cutOpenOrder := goodIn_r _ [106, 34, 37, 35, 36, 1, 107, 108, 109, 110, 111, 112, 113, 114, 115, 116, 117, 41, 118, 43, 119, 120, 121, 122, 32, 123, 124, 125, 95, 96, 97, 98, 99, 100, 101, 102, 126, 127, 128, 129, 130, 38, 39, 40, 42, 94, 69, 70, 71, 72, 73, 74, 131, 132, 133, 134, 44, 45, 46, 47, 48, 49, 50, 51, 52, 53, 54, 55, 56, 57, 58, 59, 60, 61, 62, 63, 64, 65, 66, 67, 68, 75, 24, 25, 14, 26, 27, 28, 76, 77, 78, 79, 80, 81, 82, 83, 84, 85, 86, 87, 88, 135, 136, 137, 138, 139, 140, 22, 141, 21, 16, 142, 143, 144, 145, 146, 147, 148, 149, 150, 151, 152, 8, 153, 154, 10, 155, 156, 157, 158, 159, 160, 161, 162, 163, 164, 165, 166, 167, 168, 169, 170, 171, 172, 173, 174, 175, 176, 177, 178, 179, 180, 181, 182, 183, 184, 185, 186, 187, 188, 189, 190, 191, 192, 193, 194, 195, 206, 207, 208, 209, 210, 218, 219, 220, 221, 222, 223, 224, 225, 226, 227, 211, 212, 213, 214, 215, 216, 217, 198, 199, 200, 201, 202, 203, 204, 205, 196, 197] (by decide +kernel) (by decide +kernel)
set_option maxRecDepth 20000 in
theorem gX8_planDay_X8_cutOpenOrder : GoodIn wsX8_planDay (wsV RX8 145 RX8 yX8_cutOpenOrder wsX8_cutOpenOrder) := goodIn_app (goodIn_of _ (by decide +kernel)) ggX8_planDay_X8_cutOpenOrder
set_option maxRecDepth 20000 in
theorem ggX8_passDays_X4_lateOnes : GoodIn wsX8_passDays wsX4_lateOnes := goodIn_r _ [7, 8, 9, 10, 11, 12, 13, 14, 15, 16, 28, 29, 30, 31, 32, 33, 34, 35, 36, 37] (by decide +kernel) (by decide +kernel)
set_option maxRecDepth 20000 in
theorem gX8_passDays_X4_lateOnes : GoodIn wsX8_passDays (wsV RX8 160 RX4 yX4_lateOnes wsX4_lateOnes) := goodIn_app (goodIn_of _ (by decide +kernel)) ggX8_passDays_X4_lateOnes
set_option maxRecDepth 20000 in
theorem ggX8_chosenSheet_X5_inSlot : GoodIn wsX8_chosenSheet wsX5_inSlot := goodIn_r _ [9, 10, 93, 94] (by decide +kernel) (by decide +kernel)
set_option maxRecDepth 20000 in
theorem gX8_chosenSheet_X5_inSlot : GoodIn wsX8_chosenSheet (wsV RX8 92 RX5 yX5_inSlot wsX5_inSlot) := goodIn_app (goodIn_of _ (by decide +kernel)) ggX8_chosenSheet_X5_inSlot
set_option maxRecDepth 20000 in
theorem ggX8_chosenSheet_X1_layOut : GoodIn wsX8_chosenSheet wsX1_layOut := goodIn_r _ [15, 16, 17, 18, 19, 20, 21, 22, 23, 24, 25, 26, 27, 14, 28, 29, 30, 31, 32, 33, 34, 35, 36, 37, 38, 39, 40, 41, 42, 43, 44, 45, 46, 47, 48, 49, 50, 51, 52, 53, 54, 55, 56, 57, 58, 59, 60, 61, 95, 96, 97, 98, 99, 100, 101, 102, 88, 89, 90, 91, 92, 103, 104, 105, 106, 107, 108, 109, 110, 111, 112, 113, 114, 115, 116, 117] (by decide +kernel) (by decide +kernel)
set_option maxRecDepth 20000 in
theorem gX8_chosenSheet_X1_layOut : GoodIn wsX8_chosenSheet (wsV RX8 141 RX1 yX1_layOut wsX1_layOut) := goodIn_app (goodIn_of _ (by decide +kernel)) ggX8_chosenSheet_X1_layOut
set_option maxRecDepth 20000 in
theorem ggX8_chosenSheet_X8_measureOf : GoodIn wsX8_chosenSheet wsX8_measureOf := goodIn_r _ [66, 1, 2, 67, 68, 36, 37, 38, 39, 40, 41, 69, 70, 71, 8, 72, 73, 74, 75, 76, 10, 77, 78, 79, 80, 81, 82, 83, 84, 85, 86, 87, 108, 109, 110, 111, 112, 113, 114, 115, 116, 117, 88, 89, 90, 91, 92, 93, 94] (by decide +kernel) (by decide +kernel)
set_option maxRecDepth 20000 in
theorem gX8_chosenSheet_X8_measureOf : GoodIn wsX8_chosenSheet (wsV RX8 163 RX8 yX8_measureOf wsX8_measureOf) := goodIn_app (goodIn_of _ (by decide +kernel)) ggX8_chosenSheet_X8_measureOf
