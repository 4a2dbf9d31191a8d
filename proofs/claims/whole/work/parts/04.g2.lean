set_option maxRecDepth 20000 in
theorem ggL_roundTo_X6_roundTo : GoodIn wsL_roundTo wsX6_roundTo := goodIn_ca (goodIn_ca (goodIn_r _ [7, 8, 9, 10, 6, 11, 12, 13, 14, 15, 16, 17, 18, 19, 20, 21, 22, 23, 24, 25, 26, 27, 28, 29, 30, 31, 32, 33, 34, 35, 36, 37, 38, 39, 40, 41, 42, 43, 44, 45, 46, 47, 48, 49, 50, 51, 52, 53, 54, 55, 56, 57, 58, 59, 60, 61, 62, 63, 64, 65, 66, 67, 68, 69, 70, 71, 72, 73, 74, 75, 76, 77, 78, 79, 80, 81, 82, 83, 84, 85, 86, 87, 88, 89, 90, 91, 92, 93, 94, 95, 96, 97, 98, 99, 100, 101, 102, 103] (by decide +kernel) (by decide +kernel)) (goodIn_sub (fun _ h => List.mem_cons_of_mem _ (List.mem_append_left _ (List.mem_append_right _ h))) (by decide +kernel))) (goodIn_sub (fun _ h => List.mem_cons_of_mem _ (List.mem_append_right _ h)) (by decide +kernel))
set_option maxRecDepth 20000 in
theorem gL_roundTo_X6_roundTo : GoodIn wsL_roundTo (wsV RL 40 RX6 yX6_roundTo wsX6_roundTo) := goodIn_app (goodIn_of _ (by decide +kernel)) ggL_roundTo_X6_roundTo
set_option maxRecDepth 20000 in
theorem ggL_numeratorOf_X6_numeratorOf : GoodIn wsL_numeratorOf wsX6_numeratorOf := goodIn_ca (goodIn_r _ [6, 7, 8, 9, 5, 10, 11, 12, 13, 14, 15, 16, 17, 18, 19, 20, 21, 22, 23, 24, 25, 26] (by decide +kernel) (by decide +kernel)) (goodIn_sub (fun _ h => List.mem_cons_of_mem _ (List.mem_append_right _ h)) (by decide +kernel))
set_option maxRecDepth 20000 in
theorem gL_numeratorOf_X6_numeratorOf : GoodIn wsL_numeratorOf (wsV RL 43 RX6 yX6_numeratorOf wsX6_numeratorOf) := goodIn_app (goodIn_of _ (by decide +kernel)) ggL_numeratorOf_X6_numeratorOf
set_option maxRecDepth 20000 in
theorem ggL_denominatorOf_X6_denominatorOf : GoodIn wsL_denominatorOf wsX6_denominatorOf := goodIn_ca (goodIn_r _ [6, 7, 8, 9, 5, 10, 11, 12, 13, 14, 15, 16, 17, 18, 19, 20, 21, 22, 23, 24, 25, 26, 27, 28, 29, 30, 31] (by decide +kernel) (by decide +kernel)) (goodIn_sub (fun _ h => List.mem_cons_of_mem _ (List.mem_append_right _ h)) (by decide +kernel))
set_option maxRecDepth 20000 in
theorem gL_denominatorOf_X6_denominatorOf : GoodIn wsL_denominatorOf (wsV RL 46 RX6 yX6_denominatorOf wsX6_denominatorOf) := goodIn_app (goodIn_of _ (by decide +kernel)) ggL_denominatorOf_X6_denominatorOf
set_option maxRecDepth 20000 in
theorem ggL_compare_X6_compare : GoodIn wsL_compare wsX6_compare := goodIn_ca (goodIn_r _ [6, 7, 8, 9, 5, 10, 11, 12, 13, 14, 15, 16, 17, 18, 19, 20, 21, 22, 23, 24, 25, 26, 27, 28, 29, 30, 31, 32, 33, 34, 35, 36, 37] (by decide +kernel) (by decide +kernel)) (goodIn_sub (fun _ h => List.mem_cons_of_mem _ (List.mem_append_right _ h)) (by decide +kernel))
set_option maxRecDepth 20000 in
theorem gL_compare_X6_compare : GoodIn wsL_compare (wsV RL 49 RX6 yX6_compare wsX6_compare) := goodIn_app (goodIn_of _ (by decide +kernel)) ggL_compare_X6_compare
set_option maxRecDepth 20000 in
theorem ggL_plateByAmount_X6_plateByAmount : GoodIn wsL_plateByAmount wsX6_plateByAmount := goodIn_ca (goodIn_r _ [6, 7, 8, 9, 10, 11, 5, 12, 13, 14, 15, 16, 17, 18, 19, 20, 21, 22, 23, 24, 25, 26, 27, 28, 29, 30, 31, 32, 33, 34, 35] (by decide +kernel) (by decide +kernel)) (goodIn_sub (fun _ h => List.mem_cons_of_mem _ (List.mem_append_right _ h)) (by decide +kernel))
set_option maxRecDepth 20000 in
theorem gL_plateByAmount_X6_plateByAmount : GoodIn wsL_plateByAmount (wsV RL 52 RX6 yX6_plateByAmount wsX6_plateByAmount) := goodIn_app (goodIn_of _ (by decide +kernel)) ggL_plateByAmount_X6_plateByAmount
set_option maxRecDepth 20000 in
theorem ggL_termCount_X6_termCount : GoodIn wsL_termCount wsX6_termCount := goodIn_ca (goodIn_r _ [6, 7, 8, 9, 10, 5, 11, 12, 13, 14, 15, 16, 17, 18, 19, 20, 21, 22, 23, 24, 25, 26, 27, 28, 29, 30, 31, 32, 33, 34, 35, 36, 37, 38, 39, 40, 41, 42, 43, 44, 45, 46, 47, 48, 49, 50, 51, 52, 53, 54, 55, 56, 57] (by decide +kernel) (by decide +kernel)) (goodIn_sub (fun _ h => List.mem_cons_of_mem _ (List.mem_append_right _ h)) (by decide +kernel))
set_option maxRecDepth 20000 in
theorem gL_termCount_X6_termCount : GoodIn wsL_termCount (wsV RL 55 RX6 yX6_termCount wsX6_termCount) := goodIn_app (goodIn_of _ (by decide +kernel)) ggL_termCount_X6_termCount
set_option maxRecDepth 20000 in
theorem ggL_termAt_X6_termAt : GoodIn wsL_termAt wsX6_termAt := goodIn_ca (goodIn_r _ [6, 7, 8, 9, 10, 5, 11, 12, 13, 14, 15, 16, 17, 18, 19, 20, 21, 22, 23, 24, 25, 26, 27, 28, 29, 30, 31, 32, 33, 34, 35, 36, 37, 38, 39, 40, 41, 42, 43, 44, 45, 46, 47, 48, 49, 50, 51, 52, 53, 54, 55, 56, 57, 58, 59, 60, 61, 62, 63, 64, 65] (by decide +kernel) (by decide +kernel)) (goodIn_sub (fun _ h => List.mem_cons_of_mem _ (List.mem_append_right _ h)) (by decide +kernel))
set_option maxRecDepth 20000 in
theorem gL_termAt_X6_termAt : GoodIn wsL_termAt (wsV RL 58 RX6 yX6_termAt wsX6_termAt) := goodIn_app (goodIn_of _ (by decide +kernel)) ggL_termAt_X6_termAt
set_option maxRecDepth 20000 in
theorem ggL_beginningNumerator_X6_beginningNumerator : GoodIn wsL_beginningNumerator wsX6_beginningNumerator := goodIn_ca (goodIn_r _ [6, 7, 8, 9, 10, 5, 11, 12, 13, 14, 15, 16, 17, 18, 19, 20, 21, 22, 23, 24, 25, 26, 27, 28, 29, 30, 31, 32, 33, 34, 35, 36, 37, 38, 39, 40, 41, 42, 43, 44, 45, 46, 47, 48, 49, 50, 51, 52, 53, 54, 55, 56, 57, 58, 59, 60, 61, 62, 63, 64, 65, 66] (by decide +kernel) (by decide +kernel)) (goodIn_sub (fun _ h => List.mem_cons_of_mem _ (List.mem_append_right _ h)) (by decide +kernel))
set_option maxRecDepth 20000 in
theorem gL_beginningNumerator_X6_beginningNumerator : GoodIn wsL_beginningNumerator (wsV RL 61 RX6 yX6_beginningNumerator wsX6_beginningNumerator) := goodIn_app (goodIn_of _ (by decide +kernel)) ggL_beginningNumerator_X6_beginningNumerator
set_option maxRecDepth 20000 in
theorem ggL_beginningDenominator_X6_beginningDenominator : GoodIn wsL_beginningDenominator wsX6_beginningDenominator := goodIn_ca (goodIn_r _ [6, 7, 8, 9, 10, 5, 11, 12, 13, 14, 15, 16, 17, 18, 19, 20, 21, 22, 23, 24, 25, 26, 27, 28, 29, 30, 31, 32, 33, 34, 35, 36, 37, 38, 39, 40, 41, 42, 43, 44, 45, 46, 47, 48, 49, 50, 51, 52, 53, 54, 55, 56, 57, 58, 59, 60, 61, 62, 63, 64, 65, 66] (by decide +kernel) (by decide +kernel)) (goodIn_sub (fun _ h => List.mem_cons_of_mem _ (List.mem_append_right _ h)) (by decide +kernel))
set_option maxRecDepth 20000 in
theorem gL_beginningDenominator_X6_beginningDenominator : GoodIn wsL_beginningDenominator (wsV RL 64 RX6 yX6_beginningDenominator wsX6_beginningDenominator) := goodIn_app (goodIn_of _ (by decide +kernel)) ggL_beginningDenominator_X6_beginningDenominator
set_option maxRecDepth 20000 in
theorem ggL_nearestDenominator_X6_nearestDenominator : GoodIn wsL_nearestDenominator wsX6_nearestDenominator := goodIn_ca (goodIn_ca (goodIn_r _ [7, 8, 9, 10, 6, 11, 12, 13, 14, 15, 16, 17, 18, 19, 20, 21, 22, 23, 24, 25, 26, 27, 28, 29, 30, 31, 32, 33, 34, 35, 36, 37, 38, 39, 40, 41, 42, 43, 44, 45, 46, 47, 48, 49, 50, 51, 52, 53, 54, 55, 56, 57, 58, 59, 60, 61, 62, 63, 64, 65, 66, 67, 68, 69, 70, 71, 72, 73, 74, 75, 76, 77, 78, 79] (by decide +kernel) (by decide +kernel)) (goodIn_sub (fun _ h => List.mem_cons_of_mem _ (List.mem_append_left _ (List.mem_append_right _ h))) (by decide +kernel))) (goodIn_sub (fun _ h => List.mem_cons_of_mem _ (List.mem_append_right _ h)) (by decide +kernel))
set_option maxRecDepth 20000 in
theorem gL_nearestDenominator_X6_nearestDenominator : GoodIn wsL_nearestDenominator (wsV RL 67 RX6 yX6_nearestDenominator wsX6_nearestDenominator) := goodIn_app (goodIn_of _ (by decide +kernel)) ggL_nearestDenominator_X6_nearestDenominator
set_option maxRecDepth 20000 in
theorem ggL_nearestByTrying_X6_nearestByTrying : GoodIn wsL_nearestByTrying wsX6_nearestByTrying := goodIn_ca (goodIn_ca (goodIn_r _ [7, 8, 9, 10, 6, 11, 12, 13, 14, 15, 16, 17, 18, 19, 20, 21, 22, 23, 24, 25, 26, 27, 28, 29, 30, 31, 32, 33, 34, 35, 36, 37, 38, 39, 40, 41, 42, 43, 44, 45, 46, 47, 48, 49] (by decide +kernel) (by decide +kernel)) (goodIn_sub (fun _ h => List.mem_cons_of_mem _ (List.mem_append_left _ (List.mem_append_right _ h))) (by decide +kernel))) (goodIn_sub (fun _ h => List.mem_cons_of_mem _ (List.mem_append_right _ h)) (by decide +kernel))
set_option maxRecDepth 20000 in
theorem gL_nearestByTrying_X6_nearestByTrying : GoodIn wsL_nearestByTrying (wsV RL 70 RX6 yX6_nearestByTrying wsX6_nearestByTrying) := goodIn_app (goodIn_of _ (by decide +kernel)) ggL_nearestByTrying_X6_nearestByTrying
set_option maxRecDepth 20000 in
theorem ggL_nearestNumerator_X6_nearestNumerator : GoodIn wsL_nearestNumerator wsX6_nearestNumerator := goodIn_ca (goodIn_ca (goodIn_r _ [7, 8, 9, 10, 6, 11, 12, 13, 14, 15, 16, 17, 18, 19, 20, 21, 22, 23, 24, 25, 26, 27, 28, 29, 30, 31, 32, 33, 34, 35, 36, 37, 38, 39, 40, 41, 42, 43, 44, 45, 46, 47, 48, 49, 50, 51, 52, 53, 54, 55, 56, 57, 58, 59, 60, 61, 62, 63, 64, 65, 66, 67, 68, 69, 70, 71, 72, 73, 74, 75, 76, 77, 78, 79] (by decide +kernel) (by decide +kernel)) (goodIn_sub (fun _ h => List.mem_cons_of_mem _ (List.mem_append_left _ (List.mem_append_right _ h))) (by decide +kernel))) (goodIn_sub (fun _ h => List.mem_cons_of_mem _ (List.mem_append_right _ h)) (by decide +kernel))
set_option maxRecDepth 20000 in
theorem gL_nearestNumerator_X6_nearestNumerator : GoodIn wsL_nearestNumerator (wsV RL 73 RX6 yX6_nearestNumerator wsX6_nearestNumerator) := goodIn_app (goodIn_of _ (by decide +kernel)) ggL_nearestNumerator_X6_nearestNumerator
set_option maxRecDepth 20000 in
theorem ggL_unitCount_X6_unitCount : GoodIn wsL_unitCount wsX6_unitCount := goodIn_ca (goodIn_ca (goodIn_r _ [7, 8, 9, 10, 6, 11, 12, 13, 14, 15, 16, 17, 18, 19, 20, 21, 22, 23, 24, 25, 26, 27, 28, 29, 30, 31, 32, 33, 34, 35, 36, 37, 38, 39, 40, 41, 42, 43, 44, 45, 46, 47, 48, 49, 50, 51, 52, 53, 54, 55, 56] (by decide +kernel) (by decide +kernel)) (goodIn_sub (fun _ h => List.mem_cons_of_mem _ (List.mem_append_left _ (List.mem_append_right _ h))) (by decide +kernel))) (goodIn_sub (fun _ h => List.mem_cons_of_mem _ (List.mem_append_right _ h)) (by decide +kernel))
set_option maxRecDepth 20000 in
theorem gL_unitCount_X6_unitCount : GoodIn wsL_unitCount (wsV RL 76 RX6 yX6_unitCount wsX6_unitCount) := goodIn_app (goodIn_of _ (by decide +kernel)) ggL_unitCount_X6_unitCount
set_option maxRecDepth 20000 in
theorem ggL_unitAt_X6_unitAt : GoodIn wsL_unitAt wsX6_unitAt := goodIn_ca (goodIn_ca (goodIn_r _ [7, 8, 9, 10, 11, 12, 6, 13, 14, 15, 16, 17, 18, 19, 20, 21, 22, 23, 24, 25, 26, 27, 28, 29, 30, 31, 32, 33, 34, 35, 36, 37, 38, 39, 40, 41, 42, 43, 44, 45, 46, 47, 48, 49, 50, 51, 52, 53] (by decide +kernel) (by decide +kernel)) (goodIn_sub (fun _ h => List.mem_cons_of_mem _ (List.mem_append_left _ (List.mem_append_right _ h))) (by decide +kernel))) (goodIn_sub (fun _ h => List.mem_cons_of_mem _ (List.mem_append_right _ h)) (by decide +kernel))
set_option maxRecDepth 20000 in
theorem gL_unitAt_X6_unitAt : GoodIn wsL_unitAt (wsV RL 79 RX6 yX6_unitAt wsX6_unitAt) := goodIn_app (goodIn_of _ (by decide +kernel)) ggL_unitAt_X6_unitAt
set_option maxRecDepth 20000 in
theorem ggL_waySteps_X6_waySteps : GoodIn wsL_waySteps wsX6_waySteps := goodIn_ca (goodIn_ca (goodIn_r _ [7, 8, 9, 10, 11, 12, 6, 13, 14, 15, 16, 17, 18, 19, 20, 21, 22, 23, 24, 25, 26, 27, 28, 29, 30, 31, 32, 33, 34, 35, 36, 37, 38, 39, 40, 41, 42, 43, 44, 45, 46, 47, 48, 49, 50, 51, 52, 53, 54, 55, 56, 57, 58, 59, 60, 61, 62, 63, 64] (by decide +kernel) (by decide +kernel)) (goodIn_sub (fun _ h => List.mem_cons_of_mem _ (List.mem_append_left _ (List.mem_append_right _ h))) (by decide +kernel))) (goodIn_sub (fun _ h => List.mem_cons_of_mem _ (List.mem_append_right _ h)) (by decide +kernel))
set_option maxRecDepth 20000 in
theorem gL_waySteps_X6_waySteps : GoodIn wsL_waySteps (wsV RL 82 RX6 yX6_waySteps wsX6_waySteps) := goodIn_app (goodIn_of _ (by decide +kernel)) ggL_waySteps_X6_waySteps
set_option maxRecDepth 20000 in
theorem ggL_wayTurns_X6_wayTurns : GoodIn wsL_wayTurns wsX6_wayTurns := goodIn_ca (goodIn_ca (goodIn_r _ [7, 8, 9, 10, 11, 12, 6, 13, 14, 15, 16, 17, 18, 19, 20, 21, 22, 23, 24, 25, 26, 27, 28, 29, 30, 31, 32, 33, 34, 35, 36, 37, 38, 39, 40, 41, 42, 43, 44, 45, 46, 47, 48, 49, 50, 51, 52, 53, 54, 55, 56, 57, 58, 59, 60, 61, 62, 63, 64, 65, 66, 67, 68] (by decide +kernel) (by decide +kernel)) (goodIn_sub (fun _ h => List.mem_cons_of_mem _ (List.mem_append_left _ (List.mem_append_right _ h))) (by decide +kernel))) (goodIn_sub (fun _ h => List.mem_cons_of_mem _ (List.mem_append_right _ h)) (by decide +kernel))
set_option maxRecDepth 20000 in
theorem gL_wayTurns_X6_wayTurns : GoodIn wsL_wayTurns (wsV RL 85 RX6 yX6_wayTurns wsX6_wayTurns) := goodIn_app (goodIn_of _ (by decide +kernel)) ggL_wayTurns_X6_wayTurns
set_option maxRecDepth 20000 in
theorem ggL_beginsRight_X6_beginsRight : GoodIn wsL_beginsRight wsX6_beginsRight := goodIn_ca (goodIn_ca (goodIn_r _ [7, 8, 9, 10, 11, 12, 6, 13, 14, 15, 16, 17, 18, 19, 20, 21, 22, 23, 24, 25, 26, 27, 28, 29, 30, 31, 32, 33, 34, 35, 36, 37, 38, 39, 40, 41, 42, 43, 44, 45] (by decide +kernel) (by decide +kernel)) (goodIn_sub (fun _ h => List.mem_cons_of_mem _ (List.mem_append_left _ (List.mem_append_right _ h))) (by decide +kernel))) (goodIn_sub (fun _ h => List.mem_cons_of_mem _ (List.mem_append_right _ h)) (by decide +kernel))
set_option maxRecDepth 20000 in
theorem gL_beginsRight_X6_beginsRight : GoodIn wsL_beginsRight (wsV RL 88 RX6 yX6_beginsRight wsX6_beginsRight) := goodIn_app (goodIn_of _ (by decide +kernel)) ggL_beginsRight_X6_beginsRight
set_option maxRecDepth 20000 in
theorem ggL_appendText_X6_appendText : GoodIn wsL_appendText wsX6_appendText := goodIn_ca (goodIn_ca (goodIn_r _ [7, 8, 9, 10, 11, 12, 13, 14, 15, 16, 17, 18, 19, 20, 21, 22, 23, 24, 25, 26, 27, 28, 29, 30, 31, 32, 33, 34, 35, 36, 37, 38, 39, 40] (by decide +kernel) (by decide +kernel)) (goodIn_sub (fun _ h => List.mem_cons_of_mem _ (List.mem_append_left _ (List.mem_append_right _ h))) (by decide +kernel))) (goodIn_sub (fun _ h => List.mem_cons_of_mem _ (List.mem_append_right _ h)) (by decide +kernel))
set_option maxRecDepth 20000 in
theorem gL_appendText_X6_appendText : GoodIn wsL_appendText (wsV RL 92 RX6 yX6_appendText wsX6_appendText) := goodIn_app (goodIn_of _ (by decide +kernel)) ggL_appendText_X6_appendText
set_option maxRecDepth 20000 in
theorem ggL_runText_X6_runText : GoodIn wsL_runText wsX6_runText := goodIn_ca (goodIn_r _ [6, 7, 8, 9, 10, 11, 12, 13, 14, 5, 15, 16, 17, 18, 19, 20, 21, 22, 23, 24, 25, 26, 27, 28, 29, 30, 31, 32, 33, 34, 35, 36, 37, 38, 39, 40, 41, 42, 43, 44, 45, 46, 47, 48, 49, 50, 51, 52, 53, 54, 55, 56, 57, 58, 59, 60, 61, 62, 63, 64, 65, 66, 67, 68, 69, 70, 71, 72, 73, 74, 75, 76, 77, 78, 79, 80, 81, 82, 83, 84, 85, 86, 87, 88, 89, 90, 91, 92, 93, 94, 95, 96, 97, 98, 99, 100, 101, 102, 103, 104, 105, 106, 107, 108, 109, 110, 111, 112, 113, 114, 115, 116, 117, 118, 119, 120, 121, 122, 123, 124, 125, 126, 127, 128, 129, 130, 131, 132, 133, 134, 135, 136, 137, 138, 139, 140, 141, 142, 143, 144, 145, 146, 147, 148, 149, 150, 151, 152, 153, 154, 155, 156, 157, 158, 159, 160, 161, 162, 163, 164, 165, 166, 167, 168, 169, 170, 171, 172, 173, 174, 175, 176, 177, 178, 179, 180, 181, 182, 183, 184] (by decide +kernel) (by decide +kernel)) (goodIn_sub (fun _ h => List.mem_cons_of_mem _ (List.mem_append_right _ h)) (by decide +kernel))
set_option maxRecDepth 20000 in
theorem gL_runText_X6_runText : GoodIn wsL_runText (wsV RL 96 RX6 yX6_runText wsX6_runText) := goodIn_app (goodIn_of _ (by decide +kernel)) ggL_runText_X6_runText
set_option maxRecDepth 20000 in
theorem ggL_undo_X6_undo : GoodIn wsL_undo wsX6_undo := goodIn_ca (goodIn_r _ [6, 7, 8, 9, 10, 11, 12, 13, 14, 15, 16, 17, 18, 19, 20, 21, 22, 23, 24, 25, 26, 27, 28, 29, 30, 31, 32, 33, 34, 35, 36, 37, 38, 39, 40] (by decide +kernel) (by decide +kernel)) (goodIn_sub (fun _ h => List.mem_cons_of_mem _ (List.mem_append_right _ h)) (by decide +kernel))
set_option maxRecDepth 20000 in
theorem gL_undo_X6_undo : GoodIn wsL_undo (wsV RL 100 RX6 yX6_undo wsX6_undo) := goodIn_app (goodIn_of _ (by decide +kernel)) ggL_undo_X6_undo
set_option maxRecDepth 20000 in
theorem ggL_saveState_X6_saveState : GoodIn wsL_saveState wsX6_saveState := goodIn_ca (goodIn_r _ [6, 7, 8, 9, 10, 11, 12, 13, 14, 15, 5, 16, 17, 18, 19, 20, 21, 22, 23, 24, 25, 26, 27, 28, 29] (by decide +kernel) (by decide +kernel)) (goodIn_sub (fun _ h => List.mem_cons_of_mem _ (List.mem_append_right _ h)) (by decide +kernel))
set_option maxRecDepth 20000 in
theorem gL_saveState_X6_saveState : GoodIn wsL_saveState (wsV RL 103 RX6 yX6_saveState wsX6_saveState) := goodIn_app (goodIn_of _ (by decide +kernel)) ggL_saveState_X6_saveState
set_option maxRecDepth 20000 in
theorem ggL_loadState_X6_loadState : GoodIn wsL_loadState wsX6_loadState := goodIn_ca (goodIn_ca (goodIn_r _ [7, 8, 9, 10, 11, 12, 13, 14, 15, 16, 17, 18, 19, 6, 20, 21, 22, 23, 24, 25, 26, 27, 28, 29, 30, 31, 32, 33, 34, 35, 36, 37, 38, 39, 40, 41, 42, 43, 44, 45, 46, 47, 48, 49] (by decide +kernel) (by decide +kernel)) (goodIn_sub (fun _ h => List.mem_cons_of_mem _ (List.mem_append_left _ (List.mem_append_right _ h))) (by decide +kernel))) (goodIn_sub (fun _ h => List.mem_cons_of_mem _ (List.mem_append_right _ h)) (by decide +kernel))
set_option maxRecDepth 20000 in
theorem gL_loadState_X6_loadState : GoodIn wsL_loadState (wsV RL 106 RX6 yX6_loadState wsX6_loadState) := goodIn_app (goodIn_of _ (by decide +kernel)) ggL_loadState_X6_loadState
abbrev vwCl : List vw_C := [(RX0, TX0, 6), (RX1, TX1, 2), (RX2, TX2, 3), (RX4, TX4, 3), (RX6, TX6, 7), (RX7, TX7, 21)]
