set_option maxRecDepth 20000 in
theorem ggX7_makes_X7_divisor : GoodIn wsX7_makes wsX7_divisor := goodIn_r _ [7] (by decide +kernel) (by decide +kernel)
set_option maxRecDepth 20000 in
theorem gX7_makes_X7_divisor : GoodIn wsX7_makes (va_wsS RX7 50 yX7_divisor wsX7_divisor) := goodIn_app (goodIn_of _ (by decide +kernel)) ggX7_makes_X7_divisor
set_option maxRecDepth 20000 in
theorem ggX7_makesSum_X7_above : GoodIn wsX7_makesSum wsX7_above := goodIn_r _ [5, 6, 21, 22, 23, 24, 25, 26, 27, 28, 29, 30, 31, 32, 33, 34, 35, 36, 37, 38, 39, 40, 41] (by decide +kernel) (by decide +kernel)
set_option maxRecDepth 20000 in
theorem gX7_makesSum_X7_above : GoodIn wsX7_makesSum (wsV RX7 63 RX7 yX7_above wsX7_above) := goodIn_app (goodIn_of _ (by decide +kernel)) ggX7_makesSum_X7_above
set_option maxRecDepth 20000 in
theorem ggX7_makesSum_X7_below : GoodIn wsX7_makesSum wsX7_below := goodIn_r _ [10, 6, 21, 22, 23, 24, 25, 26, 27, 28, 29, 30, 31, 32, 33, 34, 35, 36, 37, 38, 39, 40, 41] (by decide +kernel) (by decide +kernel)
set_option maxRecDepth 20000 in
theorem gX7_makesSum_X7_below : GoodIn wsX7_makesSum (wsV RX7 67 RX7 yX7_below wsX7_below) := goodIn_app (goodIn_of _ (by decide +kernel)) ggX7_makesSum_X7_below
set_option maxRecDepth 20000 in
theorem ggX7_makesSum_X7_makes : GoodIn wsX7_makesSum wsX7_makes := goodIn_r _ [14, 15, 16, 17, 18, 19, 4, 20, 21, 22, 23, 24, 25, 26, 27, 28, 29, 30, 31, 32, 33, 34, 35, 36, 37, 38, 39, 40, 41] (by decide +kernel) (by decide +kernel)
set_option maxRecDepth 20000 in
theorem gX7_makesSum_X7_makes : GoodIn wsX7_makesSum (wsV RX7 70 RX7 yX7_makes wsX7_makes) := goodIn_app (goodIn_of _ (by decide +kernel)) ggX7_makesSum_X7_makes
set_option maxRecDepth 20000 in
theorem ggX7_makesProduct_X7_above : GoodIn wsX7_makesProduct wsX7_above := goodIn_r _ [5, 6, 21, 22, 23, 24, 25, 26, 27, 28, 29, 30, 31, 32, 33, 34, 35, 36, 37, 38, 39, 40, 41] (by decide +kernel) (by decide +kernel)
set_option maxRecDepth 20000 in
theorem gX7_makesProduct_X7_above : GoodIn wsX7_makesProduct (wsV RX7 63 RX7 yX7_above wsX7_above) := goodIn_app (goodIn_of _ (by decide +kernel)) ggX7_makesProduct_X7_above
set_option maxRecDepth 20000 in
theorem ggX7_makesProduct_X7_below : GoodIn wsX7_makesProduct wsX7_below := goodIn_r _ [10, 6, 21, 22, 23, 24, 25, 26, 27, 28, 29, 30, 31, 32, 33, 34, 35, 36, 37, 38, 39, 40, 41] (by decide +kernel) (by decide +kernel)
set_option maxRecDepth 20000 in
theorem gX7_makesProduct_X7_below : GoodIn wsX7_makesProduct (wsV RX7 67 RX7 yX7_below wsX7_below) := goodIn_app (goodIn_of _ (by decide +kernel)) ggX7_makesProduct_X7_below
set_option maxRecDepth 20000 in
theorem ggX7_makesProduct_X7_makes : GoodIn wsX7_makesProduct wsX7_makes := goodIn_r _ [14, 15, 16, 17, 18, 19, 4, 20, 21, 22, 23, 24, 25, 26, 27, 28, 29, 30, 31, 32, 33, 34, 35, 36, 37, 38, 39, 40, 41] (by decide +kernel) (by decide +kernel)
set_option maxRecDepth 20000 in
theorem gX7_makesProduct_X7_makes : GoodIn wsX7_makesProduct (wsV RX7 70 RX7 yX7_makes wsX7_makes) := goodIn_app (goodIn_of _ (by decide +kernel)) ggX7_makesProduct_X7_makes
set_option maxRecDepth 20000 in
theorem ggX7_holds_X7_above : GoodIn wsX7_holds wsX7_above := goodIn_r _ [5, 6, 11, 12, 13, 14, 15, 16, 17, 18, 19, 20, 21, 22, 23, 24, 25, 26, 27, 28, 29, 30, 31] (by decide +kernel) (by decide +kernel)
set_option maxRecDepth 20000 in
theorem gX7_holds_X7_above : GoodIn wsX7_holds (wsV RX7 63 RX7 yX7_above wsX7_above) := goodIn_app (goodIn_of _ (by decide +kernel)) ggX7_holds_X7_above
set_option maxRecDepth 20000 in
theorem ggX7_holds_X7_below : GoodIn wsX7_holds wsX7_below := goodIn_r _ [10, 6, 11, 12, 13, 14, 15, 16, 17, 18, 19, 20, 21, 22, 23, 24, 25, 26, 27, 28, 29, 30, 31] (by decide +kernel) (by decide +kernel)
set_option maxRecDepth 20000 in
theorem gX7_holds_X7_below : GoodIn wsX7_holds (wsV RX7 67 RX7 yX7_below wsX7_below) := goodIn_app (goodIn_of _ (by decide +kernel)) ggX7_holds_X7_below
set_option maxRecDepth 20000 in
theorem ggX7_wholeMany_X7_above : GoodIn wsX7_wholeMany wsX7_above := goodIn_r _ [5, 6, 7, 8, 9, 10, 11, 12, 13, 14, 15, 16, 17, 18, 19, 20, 21, 22, 23, 24, 25, 26, 27] (by decide +kernel) (by decide +kernel)
set_option maxRecDepth 20000 in
theorem gX7_wholeMany_X7_above : GoodIn wsX7_wholeMany (wsV RX7 63 RX7 yX7_above wsX7_above) := goodIn_app (goodIn_of _ (by decide +kernel)) ggX7_wholeMany_X7_above
set_option maxRecDepth 20000 in
theorem ggX7_tellsTerms_X7_above : GoodIn wsX7_tellsTerms wsX7_above := goodIn_r _ [7, 8, 13, 14, 15, 16, 17, 18, 19, 20, 21, 22, 23, 24, 25, 26, 27, 28, 29, 30, 31, 32, 33] (by decide +kernel) (by decide +kernel)
set_option maxRecDepth 20000 in
theorem gX7_tellsTerms_X7_above : GoodIn wsX7_tellsTerms (wsV RX7 63 RX7 yX7_above wsX7_above) := goodIn_app (goodIn_of _ (by decide +kernel)) ggX7_tellsTerms_X7_above
set_option maxRecDepth 20000 in
theorem ggX7_tellsTerms_X7_below : GoodIn wsX7_tellsTerms wsX7_below := goodIn_r _ [12, 8, 13, 14, 15, 16, 17, 18, 19, 20, 21, 22, 23, 24, 25, 26, 27, 28, 29, 30, 31, 32, 33] (by decide +kernel) (by decide +kernel)
set_option maxRecDepth 20000 in
theorem gX7_tellsTerms_X7_below : GoodIn wsX7_tellsTerms (wsV RX7 67 RX7 yX7_below wsX7_below) := goodIn_app (goodIn_of _ (by decide +kernel)) ggX7_tellsTerms_X7_below
set_option maxRecDepth 20000 in
theorem ggX7_isTerm_X7_isPlate : GoodIn wsX7_isTerm wsX7_isPlate := goodIn_r _ [5, 6, 7, 4, 8] (by decide +kernel) (by decide +kernel)
set_option maxRecDepth 20000 in
theorem gX7_isTerm_X7_isPlate : GoodIn wsX7_isTerm (va_wsS RX7 43 yX7_isPlate wsX7_isPlate) := goodIn_app (goodIn_of _ (by decide +kernel)) ggX7_isTerm_X7_isPlate
set_option maxRecDepth 20000 in
theorem ggX7_isTerm_X7_tellsTerms : GoodIn wsX7_isTerm wsX7_tellsTerms := goodIn_r _ [12, 1, 13, 14, 15, 16, 4, 17, 18, 19, 20, 21, 22, 23, 24, 25, 26, 27, 28, 29, 30, 31, 32, 33, 34, 35, 36, 37, 38, 39, 40, 41, 42, 43] (by decide +kernel) (by decide +kernel)
set_option maxRecDepth 20000 in
theorem gX7_isTerm_X7_tellsTerms : GoodIn wsX7_isTerm (wsV RX7 77 RX7 yX7_tellsTerms wsX7_tellsTerms) := goodIn_app (goodIn_of _ (by decide +kernel)) ggX7_isTerm_X7_tellsTerms
set_option maxRecDepth 20000 in
theorem ggX7_isTerm_X7_in : GoodIn wsX7_isTerm wsX7_in := goodIn_r _ [8] (by decide +kernel) (by decide +kernel)
set_option maxRecDepth 20000 in
theorem gX7_isTerm_X7_in : GoodIn wsX7_isTerm (va_wsS RX7 39 yX7_in wsX7_in) := goodIn_app (goodIn_of _ (by decide +kernel)) ggX7_isTerm_X7_in
set_option maxRecDepth 20000 in
theorem ggX7_tellsNearest_X7_above : GoodIn wsX7_tellsNearest wsX7_above := goodIn_r _ [8, 9, 14, 15, 16, 17, 18, 19, 20, 21, 22, 23, 24, 25, 26, 27, 28, 29, 30, 31, 32, 33, 34] (by decide +kernel) (by decide +kernel)
set_option maxRecDepth 20000 in
theorem gX7_tellsNearest_X7_above : GoodIn wsX7_tellsNearest (wsV RX7 63 RX7 yX7_above wsX7_above) := goodIn_app (goodIn_of _ (by decide +kernel)) ggX7_tellsNearest_X7_above
set_option maxRecDepth 20000 in
theorem ggX7_tellsNearest_X7_below : GoodIn wsX7_tellsNearest wsX7_below := goodIn_r _ [13, 9, 14, 15, 16, 17, 18, 19, 20, 21, 22, 23, 24, 25, 26, 27, 28, 29, 30, 31, 32, 33, 34] (by decide +kernel) (by decide +kernel)
set_option maxRecDepth 20000 in
theorem gX7_tellsNearest_X7_below : GoodIn wsX7_tellsNearest (wsV RX7 67 RX7 yX7_below wsX7_below) := goodIn_app (goodIn_of _ (by decide +kernel)) ggX7_tellsNearest_X7_below
set_option maxRecDepth 20000 in
theorem ggX7_tellsUnits_X7_above : GoodIn wsX7_tellsUnits wsX7_above := goodIn_r _ [10, 11, 19, 20, 21, 22, 23, 24, 25, 26, 27, 28, 29, 30, 31, 32, 33, 34, 35, 36, 37, 38, 39] (by decide +kernel) (by decide +kernel)
set_option maxRecDepth 20000 in
theorem gX7_tellsUnits_X7_above : GoodIn wsX7_tellsUnits (wsV RX7 63 RX7 yX7_above wsX7_above) := goodIn_app (goodIn_of _ (by decide +kernel)) ggX7_tellsUnits_X7_above
set_option maxRecDepth 20000 in
theorem ggX7_tellsUnits_X7_below : GoodIn wsX7_tellsUnits wsX7_below := goodIn_r _ [15, 11, 19, 20, 21, 22, 23, 24, 25, 26, 27, 28, 29, 30, 31, 32, 33, 34, 35, 36, 37, 38, 39] (by decide +kernel) (by decide +kernel)
set_option maxRecDepth 20000 in
theorem gX7_tellsUnits_X7_below : GoodIn wsX7_tellsUnits (wsV RX7 67 RX7 yX7_below wsX7_below) := goodIn_app (goodIn_of _ (by decide +kernel)) ggX7_tellsUnits_X7_below
set_option maxRecDepth 20000 in
theorem ggX7_tellsUnits_X7_divisor : GoodIn wsX7_tellsUnits wsX7_divisor := goodIn_r _ [18] (by decide +kernel) (by decide +kernel)
set_option maxRecDepth 20000 in
theorem gX7_tellsUnits_X7_divisor : GoodIn wsX7_tellsUnits (va_wsS RX7 50 yX7_divisor wsX7_divisor) := goodIn_app (goodIn_of _ (by decide +kernel)) ggX7_tellsUnits_X7_divisor
set_option maxRecDepth 20000 in
theorem ggX7_isTop_X7_in : GoodIn wsX7_isTop wsX7_in := goodIn_r _ [5] (by decide +kernel) (by decide +kernel)
set_option maxRecDepth 20000 in
theorem gX7_isTop_X7_in : GoodIn wsX7_isTop (va_wsS RX7 39 yX7_in wsX7_in) := goodIn_app (goodIn_of _ (by decide +kernel)) ggX7_isTop_X7_in
set_option maxRecDepth 20000 in
theorem ggX7_isBottom_X7_in : GoodIn wsX7_isBottom wsX7_in := goodIn_r _ [5] (by decide +kernel) (by decide +kernel)
set_option maxRecDepth 20000 in
theorem gX7_isBottom_X7_in : GoodIn wsX7_isBottom (va_wsS RX7 39 yX7_in wsX7_in) := goodIn_app (goodIn_of _ (by decide +kernel)) ggX7_isBottom_X7_in
set_option maxRecDepth 20000 in
theorem ggX7_set_X7_isPlate : GoodIn wsX7_set wsX7_isPlate := goodIn_r _ [5, 6, 7, 4, 8] (by decide +kernel) (by decide +kernel)
set_option maxRecDepth 20000 in
theorem gX7_set_X7_isPlate : GoodIn wsX7_set (va_wsS RX7 43 yX7_isPlate wsX7_isPlate) := goodIn_app (goodIn_of _ (by decide +kernel)) ggX7_set_X7_isPlate
set_option maxRecDepth 20000 in
theorem ggX7_set_X7_fails : GoodIn wsX7_set wsX7_fails := goodIn_r _ [12, 1, 41, 42, 43, 44, 45, 46, 47, 48, 49, 50, 51, 52, 53, 54, 55, 56, 57, 58, 59, 60, 61] (by decide +kernel) (by decide +kernel)
set_option maxRecDepth 20000 in
theorem gX7_set_X7_fails : GoodIn wsX7_set (wsV RX7 101 RX7 yX7_fails wsX7_fails) := goodIn_app (goodIn_of _ (by decide +kernel)) ggX7_set_X7_fails
set_option maxRecDepth 20000 in
theorem ggX7_set_X7_isTop : GoodIn wsX7_set wsX7_isTop := goodIn_r _ [15, 16, 6, 7, 4, 8] (by decide +kernel) (by decide +kernel)
set_option maxRecDepth 20000 in
theorem gX7_set_X7_isTop : GoodIn wsX7_set (va_wsS RX7 104 yX7_isTop wsX7_isTop) := goodIn_app (goodIn_of _ (by decide +kernel)) ggX7_set_X7_isTop
set_option maxRecDepth 20000 in
theorem ggX7_set_X7_isBottom : GoodIn wsX7_set wsX7_isBottom := goodIn_r _ [19, 16, 6, 7, 4, 8] (by decide +kernel) (by decide +kernel)
set_option maxRecDepth 20000 in
theorem gX7_set_X7_isBottom : GoodIn wsX7_set (va_wsS RX7 107 yX7_isBottom wsX7_isBottom) := goodIn_app (goodIn_of _ (by decide +kernel)) ggX7_set_X7_isBottom
set_option maxRecDepth 20000 in
theorem ggX7_set_X7_records : GoodIn wsX7_set wsX7_records := goodIn_r _ [23, 24, 25, 26, 41, 42, 43, 44, 45, 46, 47, 48, 49, 50, 51, 52, 53, 54, 55, 56, 57, 58, 59, 60, 61] (by decide +kernel) (by decide +kernel)
set_option maxRecDepth 20000 in
theorem gX7_set_X7_records : GoodIn wsX7_set (wsV RX7 110 RX7 yX7_records wsX7_records) := goodIn_app (goodIn_of _ (by decide +kernel)) ggX7_set_X7_records
set_option maxRecDepth 20000 in
theorem ggX7_set_X7_makes : GoodIn wsX7_set wsX7_makes := goodIn_r _ [30, 31, 32, 33, 34, 35, 4, 36, 41, 42, 43, 44, 45, 46, 47, 48, 49, 50, 51, 52, 53, 54, 55, 56, 57, 58, 59, 60, 61] (by decide +kernel) (by decide +kernel)
set_option maxRecDepth 20000 in
theorem gX7_set_X7_makes : GoodIn wsX7_set (wsV RX7 70 RX7 yX7_makes wsX7_makes) := goodIn_app (goodIn_of _ (by decide +kernel)) ggX7_set_X7_makes
set_option maxRecDepth 20000 in
theorem ggX7_set_X7_puts : GoodIn wsX7_set wsX7_puts := goodIn_r _ [40, 26, 31, 32, 41, 42, 43, 44, 45, 46, 47, 48, 49, 50, 51, 52, 53, 54, 55, 56, 57, 58, 59, 60, 61] (by decide +kernel) (by decide +kernel)
set_option maxRecDepth 20000 in
theorem gX7_set_X7_puts : GoodIn wsX7_set (wsV RX7 113 RX7 yX7_puts wsX7_puts) := goodIn_app (goodIn_of _ (by decide +kernel)) ggX7_set_X7_puts
set_option maxRecDepth 20000 in
theorem ggX7_add_X7_arePlates : GoodIn wsX7_add wsX7_arePlates := goodIn_r _ [5, 6, 7, 4, 8, 9, 10, 11] (by decide +kernel) (by decide +kernel)
set_option maxRecDepth 20000 in
theorem gX7_add_X7_arePlates : GoodIn wsX7_add (va_wsS RX7 116 yX7_arePlates wsX7_arePlates) := goodIn_app (goodIn_of _ (by decide +kernel)) ggX7_add_X7_arePlates
set_option maxRecDepth 20000 in
theorem ggX7_add_X7_fails : GoodIn wsX7_add wsX7_fails := goodIn_r _ [15, 1, 49, 50, 51, 52, 53, 54, 55, 56, 57, 58, 59, 60, 61, 62, 63, 64, 65, 66, 67, 68, 69] (by decide +kernel) (by decide +kernel)
set_option maxRecDepth 20000 in
theorem gX7_add_X7_fails : GoodIn wsX7_add (wsV RX7 101 RX7 yX7_fails wsX7_fails) := goodIn_app (goodIn_of _ (by decide +kernel)) ggX7_add_X7_fails
set_option maxRecDepth 20000 in
theorem ggX7_add_X7_makesSum : GoodIn wsX7_add wsX7_makesSum := goodIn_r _ [19, 20, 21, 22, 4, 23, 24, 25, 26, 27, 28, 29, 30, 31, 32, 33, 34, 35, 36, 37, 38, 49, 50, 51, 52, 53, 54, 55, 56, 57, 58, 59, 60, 61, 62, 63, 64, 65, 66, 67, 68, 69] (by decide +kernel) (by decide +kernel)
set_option maxRecDepth 20000 in
theorem gX7_add_X7_makesSum : GoodIn wsX7_add (wsV RX7 120 RX7 yX7_makesSum wsX7_makesSum) := goodIn_app (goodIn_of _ (by decide +kernel)) ggX7_add_X7_makesSum
set_option maxRecDepth 20000 in
theorem ggX7_add_X7_records : GoodIn wsX7_add wsX7_records := goodIn_r _ [42, 43, 44, 24, 49, 50, 51, 52, 53, 54, 55, 56, 57, 58, 59, 60, 61, 62, 63, 64, 65, 66, 67, 68, 69] (by decide +kernel) (by decide +kernel)
set_option maxRecDepth 20000 in
theorem gX7_add_X7_records : GoodIn wsX7_add (wsV RX7 110 RX7 yX7_records wsX7_records) := goodIn_app (goodIn_of _ (by decide +kernel)) ggX7_add_X7_records
set_option maxRecDepth 20000 in
theorem ggX7_add_X7_puts : GoodIn wsX7_add wsX7_puts := goodIn_r _ [48, 24, 33, 34, 49, 50, 51, 52, 53, 54, 55, 56, 57, 58, 59, 60, 61, 62, 63, 64, 65, 66, 67, 68, 69] (by decide +kernel) (by decide +kernel)
set_option maxRecDepth 20000 in
theorem gX7_add_X7_puts : GoodIn wsX7_add (wsV RX7 113 RX7 yX7_puts wsX7_puts) := goodIn_app (goodIn_of _ (by decide +kernel)) ggX7_add_X7_puts
set_option maxRecDepth 20000 in
theorem ggX7_takeAway_X7_arePlates : GoodIn wsX7_takeAway wsX7_arePlates := goodIn_r _ [5, 6, 7, 4, 8, 9, 10, 11] (by decide +kernel) (by decide +kernel)
set_option maxRecDepth 20000 in
theorem gX7_takeAway_X7_arePlates : GoodIn wsX7_takeAway (va_wsS RX7 116 yX7_arePlates wsX7_arePlates) := goodIn_app (goodIn_of _ (by decide +kernel)) ggX7_takeAway_X7_arePlates
set_option maxRecDepth 20000 in
theorem ggX7_takeAway_X7_fails : GoodIn wsX7_takeAway wsX7_fails := goodIn_r _ [15, 1, 53, 54, 55, 56, 57, 58, 59, 60, 61, 62, 63, 64, 65, 66, 67, 68, 69, 70, 71, 72, 73] (by decide +kernel) (by decide +kernel)
set_option maxRecDepth 20000 in
theorem gX7_takeAway_X7_fails : GoodIn wsX7_takeAway (wsV RX7 101 RX7 yX7_fails wsX7_fails) := goodIn_app (goodIn_of _ (by decide +kernel)) ggX7_takeAway_X7_fails
set_option maxRecDepth 20000 in
theorem ggX7_takeAway_X7_holds : GoodIn wsX7_takeAway wsX7_holds := goodIn_r _ [19, 20, 21, 22, 4, 23, 24, 25, 26, 27, 28, 53, 54, 55, 56, 57, 58, 59, 60, 61, 62, 63, 64, 65, 66, 67, 68, 69, 70, 71, 72, 73] (by decide +kernel) (by decide +kernel)
set_option maxRecDepth 20000 in
theorem gX7_takeAway_X7_holds : GoodIn wsX7_takeAway (wsV RX7 123 RX7 yX7_holds wsX7_holds) := goodIn_app (goodIn_of _ (by decide +kernel)) ggX7_takeAway_X7_holds
set_option maxRecDepth 20000 in
theorem ggX7_takeAway_X7_makesSum : GoodIn wsX7_takeAway wsX7_makesSum := goodIn_r _ [32, 20, 21, 22, 4, 23, 24, 25, 26, 27, 28, 33, 34, 35, 36, 37, 38, 39, 40, 41, 42, 53, 54, 55, 56, 57, 58, 59, 60, 61, 62, 63, 64, 65, 66, 67, 68, 69, 70, 71, 72, 73] (by decide +kernel) (by decide +kernel)
set_option maxRecDepth 20000 in
theorem gX7_takeAway_X7_makesSum : GoodIn wsX7_takeAway (wsV RX7 120 RX7 yX7_makesSum wsX7_makesSum) := goodIn_app (goodIn_of _ (by decide +kernel)) ggX7_takeAway_X7_makesSum
set_option maxRecDepth 20000 in
theorem ggX7_takeAway_X7_records : GoodIn wsX7_takeAway wsX7_records := goodIn_r _ [46, 47, 48, 24, 53, 54, 55, 56, 57, 58, 59, 60, 61, 62, 63, 64, 65, 66, 67, 68, 69, 70, 71, 72, 73] (by decide +kernel) (by decide +kernel)
set_option maxRecDepth 20000 in
theorem gX7_takeAway_X7_records : GoodIn wsX7_takeAway (wsV RX7 110 RX7 yX7_records wsX7_records) := goodIn_app (goodIn_of _ (by decide +kernel)) ggX7_takeAway_X7_records
set_option maxRecDepth 20000 in
theorem ggX7_takeAway_X7_puts : GoodIn wsX7_takeAway wsX7_puts := goodIn_r _ [52, 24, 37, 38, 53, 54, 55, 56, 57, 58, 59, 60, 61, 62, 63, 64, 65, 66, 67, 68, 69, 70, 71, 72, 73] (by decide +kernel) (by decide +kernel)
set_option maxRecDepth 20000 in
theorem gX7_takeAway_X7_puts : GoodIn wsX7_takeAway (wsV RX7 113 RX7 yX7_puts wsX7_puts) := goodIn_app (goodIn_of _ (by decide +kernel)) ggX7_takeAway_X7_puts
set_option maxRecDepth 20000 in
theorem ggX7_multiply_X7_arePlates : GoodIn wsX7_multiply wsX7_arePlates := goodIn_r _ [5, 6, 7, 4, 8, 9, 10, 11] (by decide +kernel) (by decide +kernel)
set_option maxRecDepth 20000 in
theorem gX7_multiply_X7_arePlates : GoodIn wsX7_multiply (va_wsS RX7 116 yX7_arePlates wsX7_arePlates) := goodIn_app (goodIn_of _ (by decide +kernel)) ggX7_multiply_X7_arePlates
set_option maxRecDepth 20000 in
theorem ggX7_multiply_X7_fails : GoodIn wsX7_multiply wsX7_fails := goodIn_r _ [15, 1, 49, 50, 51, 52, 53, 54, 55, 56, 57, 58, 59, 60, 61, 62, 63, 64, 65, 66, 67, 68, 69] (by decide +kernel) (by decide +kernel)
set_option maxRecDepth 20000 in
theorem gX7_multiply_X7_fails : GoodIn wsX7_multiply (wsV RX7 101 RX7 yX7_fails wsX7_fails) := goodIn_app (goodIn_of _ (by decide +kernel)) ggX7_multiply_X7_fails
set_option maxRecDepth 20000 in
theorem ggX7_multiply_X7_makesProduct : GoodIn wsX7_multiply wsX7_makesProduct := goodIn_r _ [19, 20, 21, 22, 4, 23, 24, 25, 26, 27, 28, 29, 30, 31, 32, 33, 34, 35, 36, 37, 38, 49, 50, 51, 52, 53, 54, 55, 56, 57, 58, 59, 60, 61, 62, 63, 64, 65, 66, 67, 68, 69] (by decide +kernel) (by decide +kernel)
set_option maxRecDepth 20000 in
theorem gX7_multiply_X7_makesProduct : GoodIn wsX7_multiply (wsV RX7 127 RX7 yX7_makesProduct wsX7_makesProduct) := goodIn_app (goodIn_of _ (by decide +kernel)) ggX7_multiply_X7_makesProduct
set_option maxRecDepth 20000 in
theorem ggX7_multiply_X7_records : GoodIn wsX7_multiply wsX7_records := goodIn_r _ [42, 43, 44, 24, 49, 50, 51, 52, 53, 54, 55, 56, 57, 58, 59, 60, 61, 62, 63, 64, 65, 66, 67, 68, 69] (by decide +kernel) (by decide +kernel)
set_option maxRecDepth 20000 in
theorem gX7_multiply_X7_records : GoodIn wsX7_multiply (wsV RX7 110 RX7 yX7_records wsX7_records) := goodIn_app (goodIn_of _ (by decide +kernel)) ggX7_multiply_X7_records
set_option maxRecDepth 20000 in
theorem ggX7_multiply_X7_puts : GoodIn wsX7_multiply wsX7_puts := goodIn_r _ [48, 24, 33, 34, 49, 50, 51, 52, 53, 54, 55, 56, 57, 58, 59, 60, 61, 62, 63, 64, 65, 66, 67, 68, 69] (by decide +kernel) (by decide +kernel)
set_option maxRecDepth 20000 in
theorem gX7_multiply_X7_puts : GoodIn wsX7_multiply (wsV RX7 113 RX7 yX7_puts wsX7_puts) := goodIn_app (goodIn_of _ (by decide +kernel)) ggX7_multiply_X7_puts
set_option maxRecDepth 20000 in
theorem ggX7_copies_X7_holds : GoodIn wsX7_copies wsX7_holds := goodIn_r _ [6, 7, 8, 9, 5, 10, 1, 11, 12, 13, 14, 15, 16, 17, 18, 19, 20, 21, 22, 23, 24, 25, 26, 27, 28, 29, 30, 31, 32, 33, 34, 35] (by decide +kernel) (by decide +kernel)
set_option maxRecDepth 20000 in
theorem gX7_copies_X7_holds : GoodIn wsX7_copies (wsV RX7 123 RX7 yX7_holds wsX7_holds) := goodIn_app (goodIn_of _ (by decide +kernel)) ggX7_copies_X7_holds
set_option maxRecDepth 20000 in
theorem ggX7_copies_X7_above : GoodIn wsX7_copies wsX7_above := goodIn_r _ [10, 1, 15, 16, 17, 18, 19, 20, 21, 22, 23, 24, 25, 26, 27, 28, 29, 30, 31, 32, 33, 34, 35] (by decide +kernel) (by decide +kernel)
set_option maxRecDepth 20000 in
theorem gX7_copies_X7_above : GoodIn wsX7_copies (wsV RX7 63 RX7 yX7_above wsX7_above) := goodIn_app (goodIn_of _ (by decide +kernel)) ggX7_copies_X7_above
set_option maxRecDepth 20000 in
theorem ggX7_copies_X7_below : GoodIn wsX7_copies wsX7_below := goodIn_r _ [14, 1, 15, 16, 17, 18, 19, 20, 21, 22, 23, 24, 25, 26, 27, 28, 29, 30, 31, 32, 33, 34, 35] (by decide +kernel) (by decide +kernel)
set_option maxRecDepth 20000 in
theorem gX7_copies_X7_below : GoodIn wsX7_copies (wsV RX7 67 RX7 yX7_below wsX7_below) := goodIn_app (goodIn_of _ (by decide +kernel)) ggX7_copies_X7_below
set_option maxRecDepth 20000 in
theorem ggX7_copyTo_X7_arePlates : GoodIn wsX7_copyTo wsX7_arePlates := goodIn_r _ [5, 6, 7, 4, 8, 9, 10, 11] (by decide +kernel) (by decide +kernel)
set_option maxRecDepth 20000 in
theorem gX7_copyTo_X7_arePlates : GoodIn wsX7_copyTo (va_wsS RX7 116 yX7_arePlates wsX7_arePlates) := goodIn_app (goodIn_of _ (by decide +kernel)) ggX7_copyTo_X7_arePlates
set_option maxRecDepth 20000 in
theorem ggX7_copyTo_X7_fails : GoodIn wsX7_copyTo wsX7_fails := goodIn_r _ [15, 1, 39, 40, 41, 42, 43, 44, 45, 46, 47, 48, 49, 50, 51, 52, 53, 54, 55, 56, 57, 58, 59] (by decide +kernel) (by decide +kernel)
set_option maxRecDepth 20000 in
theorem gX7_copyTo_X7_fails : GoodIn wsX7_copyTo (wsV RX7 101 RX7 yX7_fails wsX7_fails) := goodIn_app (goodIn_of _ (by decide +kernel)) ggX7_copyTo_X7_fails
set_option maxRecDepth 20000 in
theorem ggX7_copyTo_X7_records : GoodIn wsX7_copyTo wsX7_records := goodIn_r _ [19, 20, 21, 22, 39, 40, 41, 42, 43, 44, 45, 46, 47, 48, 49, 50, 51, 52, 53, 54, 55, 56, 57, 58, 59] (by decide +kernel) (by decide +kernel)
set_option maxRecDepth 20000 in
theorem gX7_copyTo_X7_records : GoodIn wsX7_copyTo (wsV RX7 110 RX7 yX7_records wsX7_records) := goodIn_app (goodIn_of _ (by decide +kernel)) ggX7_copyTo_X7_records
set_option maxRecDepth 20000 in
theorem ggX7_copyTo_X7_copies : GoodIn wsX7_copyTo wsX7_copies := goodIn_r _ [26, 22, 27, 28, 29, 4, 30, 31, 32, 33, 34, 35, 36, 37, 38, 39, 40, 41, 42, 43, 44, 45, 46, 47, 48, 49, 50, 51, 52, 53, 54, 55, 56, 57, 58, 59] (by decide +kernel) (by decide +kernel)
set_option maxRecDepth 20000 in
theorem gX7_copyTo_X7_copies : GoodIn wsX7_copyTo (wsV RX7 130 RX7 yX7_copies wsX7_copies) := goodIn_app (goodIn_of _ (by decide +kernel)) ggX7_copyTo_X7_copies
set_option maxRecDepth 20000 in
theorem ggX7_invert_X7_isPlate : GoodIn wsX7_invert wsX7_isPlate := goodIn_r _ [5, 6, 7, 4, 8] (by decide +kernel) (by decide +kernel)
set_option maxRecDepth 20000 in
theorem gX7_invert_X7_isPlate : GoodIn wsX7_invert (va_wsS RX7 43 yX7_isPlate wsX7_isPlate) := goodIn_app (goodIn_of _ (by decide +kernel)) ggX7_invert_X7_isPlate
set_option maxRecDepth 20000 in
theorem ggX7_invert_X7_fails : GoodIn wsX7_invert wsX7_fails := goodIn_r _ [12, 1, 42, 43, 44, 45, 46, 47, 48, 49, 50, 51, 52, 53, 54, 55, 56, 57, 58, 59, 60, 61, 62] (by decide +kernel) (by decide +kernel)
set_option maxRecDepth 20000 in
theorem gX7_invert_X7_fails : GoodIn wsX7_invert (wsV RX7 101 RX7 yX7_fails wsX7_fails) := goodIn_app (goodIn_of _ (by decide +kernel)) ggX7_invert_X7_fails
set_option maxRecDepth 20000 in
theorem ggX7_invert_X7_above : GoodIn wsX7_invert wsX7_above := goodIn_r _ [16, 17, 42, 43, 44, 45, 46, 47, 48, 49, 50, 51, 52, 53, 54, 55, 56, 57, 58, 59, 60, 61, 62] (by decide +kernel) (by decide +kernel)
set_option maxRecDepth 20000 in
theorem gX7_invert_X7_above : GoodIn wsX7_invert (wsV RX7 63 RX7 yX7_above wsX7_above) := goodIn_app (goodIn_of _ (by decide +kernel)) ggX7_invert_X7_above
set_option maxRecDepth 20000 in
theorem ggX7_invert_X7_records : GoodIn wsX7_invert wsX7_records := goodIn_r _ [21, 22, 23, 17, 42, 43, 44, 45, 46, 47, 48, 49, 50, 51, 52, 53, 54, 55, 56, 57, 58, 59, 60, 61, 62] (by decide +kernel) (by decide +kernel)
set_option maxRecDepth 20000 in
theorem gX7_invert_X7_records : GoodIn wsX7_invert (wsV RX7 110 RX7 yX7_records wsX7_records) := goodIn_app (goodIn_of _ (by decide +kernel)) ggX7_invert_X7_records
set_option maxRecDepth 20000 in
theorem ggX7_invert_X7_below : GoodIn wsX7_invert wsX7_below := goodIn_r _ [27, 17, 42, 43, 44, 45, 46, 47, 48, 49, 50, 51, 52, 53, 54, 55, 56, 57, 58, 59, 60, 61, 62] (by decide +kernel) (by decide +kernel)
set_option maxRecDepth 20000 in
theorem gX7_invert_X7_below : GoodIn wsX7_invert (wsV RX7 67 RX7 yX7_below wsX7_below) := goodIn_app (goodIn_of _ (by decide +kernel)) ggX7_invert_X7_below
set_option maxRecDepth 20000 in
theorem ggX7_invert_X7_makes : GoodIn wsX7_invert wsX7_makes := goodIn_r _ [31, 32, 33, 34, 35, 36, 4, 37, 42, 43, 44, 45, 46, 47, 48, 49, 50, 51, 52, 53, 54, 55, 56, 57, 58, 59, 60, 61, 62] (by decide +kernel) (by decide +kernel)
set_option maxRecDepth 20000 in
theorem gX7_invert_X7_makes : GoodIn wsX7_invert (wsV RX7 70 RX7 yX7_makes wsX7_makes) := goodIn_app (goodIn_of _ (by decide +kernel)) ggX7_invert_X7_makes
set_option maxRecDepth 20000 in
theorem ggX7_invert_X7_puts : GoodIn wsX7_invert wsX7_puts := goodIn_r _ [41, 17, 32, 33, 42, 43, 44, 45, 46, 47, 48, 49, 50, 51, 52, 53, 54, 55, 56, 57, 58, 59, 60, 61, 62] (by decide +kernel) (by decide +kernel)
set_option maxRecDepth 20000 in
theorem gX7_invert_X7_puts : GoodIn wsX7_invert (wsV RX7 113 RX7 yX7_puts wsX7_puts) := goodIn_app (goodIn_of _ (by decide +kernel)) ggX7_invert_X7_puts
set_option maxRecDepth 20000 in
theorem ggX7_share_X7_isPlate : GoodIn wsX7_share wsX7_isPlate := goodIn_r _ [5, 6, 7, 4, 8] (by decide +kernel) (by decide +kernel)
set_option maxRecDepth 20000 in
theorem gX7_share_X7_isPlate : GoodIn wsX7_share (va_wsS RX7 43 yX7_isPlate wsX7_isPlate) := goodIn_app (goodIn_of _ (by decide +kernel)) ggX7_share_X7_isPlate
set_option maxRecDepth 20000 in
theorem ggX7_share_X7_fails : GoodIn wsX7_share wsX7_fails := goodIn_r _ [12, 1, 42, 43, 44, 45, 46, 47, 48, 49, 50, 51, 52, 53, 54, 55, 56, 57, 58, 59, 60, 61, 62] (by decide +kernel) (by decide +kernel)
set_option maxRecDepth 20000 in
theorem gX7_share_X7_fails : GoodIn wsX7_share (wsV RX7 101 RX7 yX7_fails wsX7_fails) := goodIn_app (goodIn_of _ (by decide +kernel)) ggX7_share_X7_fails
set_option maxRecDepth 20000 in
theorem ggX7_share_X7_in : GoodIn wsX7_share wsX7_in := goodIn_r _ [8] (by decide +kernel) (by decide +kernel)
set_option maxRecDepth 20000 in
theorem gX7_share_X7_in : GoodIn wsX7_share (va_wsS RX7 39 yX7_in wsX7_in) := goodIn_app (goodIn_of _ (by decide +kernel)) ggX7_share_X7_in
set_option maxRecDepth 20000 in
theorem ggX7_share_X7_above : GoodIn wsX7_share wsX7_above := goodIn_r _ [16, 17, 42, 43, 44, 45, 46, 47, 48, 49, 50, 51, 52, 53, 54, 55, 56, 57, 58, 59, 60, 61, 62] (by decide +kernel) (by decide +kernel)
set_option maxRecDepth 20000 in
theorem gX7_share_X7_above : GoodIn wsX7_share (wsV RX7 63 RX7 yX7_above wsX7_above) := goodIn_app (goodIn_of _ (by decide +kernel)) ggX7_share_X7_above
set_option maxRecDepth 20000 in
theorem ggX7_share_X7_below : GoodIn wsX7_share wsX7_below := goodIn_r _ [21, 17, 42, 43, 44, 45, 46, 47, 48, 49, 50, 51, 52, 53, 54, 55, 56, 57, 58, 59, 60, 61, 62] (by decide +kernel) (by decide +kernel)
set_option maxRecDepth 20000 in
theorem gX7_share_X7_below : GoodIn wsX7_share (wsV RX7 67 RX7 yX7_below wsX7_below) := goodIn_app (goodIn_of _ (by decide +kernel)) ggX7_share_X7_below
set_option maxRecDepth 20000 in
theorem ggX7_share_X7_makes : GoodIn wsX7_share wsX7_makes := goodIn_r _ [25, 26, 27, 28, 29, 30, 4, 31, 42, 43, 44, 45, 46, 47, 48, 49, 50, 51, 52, 53, 54, 55, 56, 57, 58, 59, 60, 61, 62] (by decide +kernel) (by decide +kernel)
set_option maxRecDepth 20000 in
theorem gX7_share_X7_makes : GoodIn wsX7_share (wsV RX7 70 RX7 yX7_makes wsX7_makes) := goodIn_app (goodIn_of _ (by decide +kernel)) ggX7_share_X7_makes
set_option maxRecDepth 20000 in
theorem ggX7_share_X7_records : GoodIn wsX7_share wsX7_records := goodIn_r _ [35, 36, 37, 17, 42, 43, 44, 45, 46, 47, 48, 49, 50, 51, 52, 53, 54, 55, 56, 57, 58, 59, 60, 61, 62] (by decide +kernel) (by decide +kernel)
set_option maxRecDepth 20000 in
theorem gX7_share_X7_records : GoodIn wsX7_share (wsV RX7 110 RX7 yX7_records wsX7_records) := goodIn_app (goodIn_of _ (by decide +kernel)) ggX7_share_X7_records
set_option maxRecDepth 20000 in
theorem ggX7_share_X7_puts : GoodIn wsX7_share wsX7_puts := goodIn_r _ [41, 17, 26, 27, 42, 43, 44, 45, 46, 47, 48, 49, 50, 51, 52, 53, 54, 55, 56, 57, 58, 59, 60, 61, 62] (by decide +kernel) (by decide +kernel)
set_option maxRecDepth 20000 in
theorem gX7_share_X7_puts : GoodIn wsX7_share (wsV RX7 113 RX7 yX7_puts wsX7_puts) := goodIn_app (goodIn_of _ (by decide +kernel)) ggX7_share_X7_puts
set_option maxRecDepth 20000 in
theorem ggX7_isGreatest_X7_in : GoodIn wsX7_isGreatest wsX7_in := goodIn_r _ [4] (by decide +kernel) (by decide +kernel)
set_option maxRecDepth 20000 in
theorem gX7_isGreatest_X7_in : GoodIn wsX7_isGreatest (va_wsS RX7 39 yX7_in wsX7_in) := goodIn_app (goodIn_of _ (by decide +kernel)) ggX7_isGreatest_X7_in
set_option maxRecDepth 20000 in
theorem ggX7_roundTo_X7_isPlate : GoodIn wsX7_roundTo wsX7_isPlate := goodIn_r _ [7, 8, 9, 6, 10] (by decide +kernel) (by decide +kernel)
set_option maxRecDepth 20000 in
theorem gX7_roundTo_X7_isPlate : GoodIn wsX7_roundTo (va_wsS RX7 43 yX7_isPlate wsX7_isPlate) := goodIn_app (goodIn_of _ (by decide +kernel)) ggX7_roundTo_X7_isPlate
set_option maxRecDepth 20000 in
theorem ggX7_roundTo_X7_fails : GoodIn wsX7_roundTo wsX7_fails := goodIn_r _ [14, 1, 52, 53, 54, 55, 56, 57, 58, 59, 60, 61, 62, 63, 64, 65, 66, 67, 68, 69, 70, 71, 72] (by decide +kernel) (by decide +kernel)
set_option maxRecDepth 20000 in
theorem gX7_roundTo_X7_fails : GoodIn wsX7_roundTo (wsV RX7 101 RX7 yX7_fails wsX7_fails) := goodIn_app (goodIn_of _ (by decide +kernel)) ggX7_roundTo_X7_fails
set_option maxRecDepth 20000 in
theorem ggX7_roundTo_X7_isGreatest : GoodIn wsX7_roundTo wsX7_isGreatest := goodIn_r _ [17, 8, 9, 6, 10] (by decide +kernel) (by decide +kernel)
set_option maxRecDepth 20000 in
theorem gX7_roundTo_X7_isGreatest : GoodIn wsX7_roundTo (va_wsS RX7 133 yX7_isGreatest wsX7_isGreatest) := goodIn_app (goodIn_of _ (by decide +kernel)) ggX7_roundTo_X7_isGreatest
set_option maxRecDepth 20000 in
theorem ggX7_roundTo_X7_records : GoodIn wsX7_roundTo wsX7_records := goodIn_r _ [21, 22, 23, 24, 52, 53, 54, 55, 56, 57, 58, 59, 60, 61, 62, 63, 64, 65, 66, 67, 68, 69, 70, 71, 72] (by decide +kernel) (by decide +kernel)
set_option maxRecDepth 20000 in
theorem gX7_roundTo_X7_records : GoodIn wsX7_roundTo (wsV RX7 110 RX7 yX7_records wsX7_records) := goodIn_app (goodIn_of _ (by decide +kernel)) ggX7_roundTo_X7_records
set_option maxRecDepth 20000 in
theorem ggX7_roundTo_X7_tellsNearest : GoodIn wsX7_roundTo wsX7_tellsNearest := goodIn_r _ [28, 29, 3, 2, 30, 31, 32, 6, 33, 24, 34, 35, 36, 37, 52, 53, 54, 55, 56, 57, 58, 59, 60, 61, 62, 63, 64, 65, 66, 67, 68, 69, 70, 71, 72] (by decide +kernel) (by decide +kernel)
set_option maxRecDepth 20000 in
theorem gX7_roundTo_X7_tellsNearest : GoodIn wsX7_roundTo (wsV RX7 136 RX7 yX7_tellsNearest wsX7_tellsNearest) := goodIn_app (goodIn_of _ (by decide +kernel)) ggX7_roundTo_X7_tellsNearest
set_option maxRecDepth 20000 in
theorem ggX7_roundTo_X7_makes : GoodIn wsX7_roundTo wsX7_makes := goodIn_r _ [41, 42, 43, 44, 45, 46, 6, 47, 52, 53, 54, 55, 56, 57, 58, 59, 60, 61, 62, 63, 64, 65, 66, 67, 68, 69, 70, 71, 72] (by decide +kernel) (by decide +kernel)
set_option maxRecDepth 20000 in
theorem gX7_roundTo_X7_makes : GoodIn wsX7_roundTo (wsV RX7 70 RX7 yX7_makes wsX7_makes) := goodIn_app (goodIn_of _ (by decide +kernel)) ggX7_roundTo_X7_makes
set_option maxRecDepth 20000 in
theorem ggX7_roundTo_X7_puts : GoodIn wsX7_roundTo wsX7_puts := goodIn_r _ [51, 24, 42, 43, 52, 53, 54, 55, 56, 57, 58, 59, 60, 61, 62, 63, 64, 65, 66, 67, 68, 69, 70, 71, 72] (by decide +kernel) (by decide +kernel)
set_option maxRecDepth 20000 in
theorem gX7_roundTo_X7_puts : GoodIn wsX7_roundTo (wsV RX7 113 RX7 yX7_puts wsX7_puts) := goodIn_app (goodIn_of _ (by decide +kernel)) ggX7_roundTo_X7_puts
set_option maxRecDepth 20000 in
theorem ggX7_numeratorOf_X7_isPlate : GoodIn wsX7_numeratorOf wsX7_isPlate := goodIn_r _ [5, 6, 7, 4, 8] (by decide +kernel) (by decide +kernel)
set_option maxRecDepth 20000 in
theorem gX7_numeratorOf_X7_isPlate : GoodIn wsX7_numeratorOf (va_wsS RX7 43 yX7_isPlate wsX7_isPlate) := goodIn_app (goodIn_of _ (by decide +kernel)) ggX7_numeratorOf_X7_isPlate
set_option maxRecDepth 20000 in
theorem ggX7_numeratorOf_X7_above : GoodIn wsX7_numeratorOf wsX7_above := goodIn_r _ [12, 13, 18, 19, 20, 21, 22, 23, 24, 25, 26, 27, 28, 29, 30, 31, 32, 33, 34, 35, 36, 37, 38] (by decide +kernel) (by decide +kernel)
set_option maxRecDepth 20000 in
theorem gX7_numeratorOf_X7_above : GoodIn wsX7_numeratorOf (wsV RX7 63 RX7 yX7_above wsX7_above) := goodIn_app (goodIn_of _ (by decide +kernel)) ggX7_numeratorOf_X7_above
set_option maxRecDepth 20000 in
theorem ggX7_numeratorOf_X7_fails : GoodIn wsX7_numeratorOf wsX7_fails := goodIn_r _ [17, 1, 18, 19, 20, 21, 22, 23, 24, 25, 26, 27, 28, 29, 30, 31, 32, 33, 34, 35, 36, 37, 38] (by decide +kernel) (by decide +kernel)
set_option maxRecDepth 20000 in
theorem gX7_numeratorOf_X7_fails : GoodIn wsX7_numeratorOf (wsV RX7 101 RX7 yX7_fails wsX7_fails) := goodIn_app (goodIn_of _ (by decide +kernel)) ggX7_numeratorOf_X7_fails
set_option maxRecDepth 20000 in
theorem ggX7_denominatorOf_X7_isPlate : GoodIn wsX7_denominatorOf wsX7_isPlate := goodIn_r _ [5, 6, 7, 4, 8] (by decide +kernel) (by decide +kernel)
set_option maxRecDepth 20000 in
theorem gX7_denominatorOf_X7_isPlate : GoodIn wsX7_denominatorOf (va_wsS RX7 43 yX7_isPlate wsX7_isPlate) := goodIn_app (goodIn_of _ (by decide +kernel)) ggX7_denominatorOf_X7_isPlate
set_option maxRecDepth 20000 in
theorem ggX7_denominatorOf_X7_below : GoodIn wsX7_denominatorOf wsX7_below := goodIn_r _ [12, 13, 18, 19, 20, 21, 22, 23, 24, 25, 26, 27, 28, 29, 30, 31, 32, 33, 34, 35, 36, 37, 38] (by decide +kernel) (by decide +kernel)
set_option maxRecDepth 20000 in
theorem gX7_denominatorOf_X7_below : GoodIn wsX7_denominatorOf (wsV RX7 67 RX7 yX7_below wsX7_below) := goodIn_app (goodIn_of _ (by decide +kernel)) ggX7_denominatorOf_X7_below
set_option maxRecDepth 20000 in
theorem ggX7_denominatorOf_X7_fails : GoodIn wsX7_denominatorOf wsX7_fails := goodIn_r _ [17, 1, 18, 19, 20, 21, 22, 23, 24, 25, 26, 27, 28, 29, 30, 31, 32, 33, 34, 35, 36, 37, 38] (by decide +kernel) (by decide +kernel)
set_option maxRecDepth 20000 in
theorem gX7_denominatorOf_X7_fails : GoodIn wsX7_denominatorOf (wsV RX7 101 RX7 yX7_fails wsX7_fails) := goodIn_app (goodIn_of _ (by decide +kernel)) ggX7_denominatorOf_X7_fails
set_option maxRecDepth 20000 in
theorem ggX7_compare_X7_arePlates : GoodIn wsX7_compare wsX7_arePlates := goodIn_r _ [5, 6, 7, 4, 8, 9, 10, 11] (by decide +kernel) (by decide +kernel)
set_option maxRecDepth 20000 in
theorem gX7_compare_X7_arePlates : GoodIn wsX7_compare (va_wsS RX7 116 yX7_arePlates wsX7_arePlates) := goodIn_app (goodIn_of _ (by decide +kernel)) ggX7_compare_X7_arePlates
set_option maxRecDepth 20000 in
theorem ggX7_compare_X7_holds : GoodIn wsX7_compare wsX7_holds := goodIn_r _ [15, 16, 17, 18, 4, 19, 20, 21, 22, 23, 24, 29, 30, 31, 32, 33, 34, 35, 36, 37, 38, 39, 40, 41, 42, 43, 44, 45, 46, 47, 48, 49] (by decide +kernel) (by decide +kernel)
set_option maxRecDepth 20000 in
theorem gX7_compare_X7_holds : GoodIn wsX7_compare (wsV RX7 123 RX7 yX7_holds wsX7_holds) := goodIn_app (goodIn_of _ (by decide +kernel)) ggX7_compare_X7_holds
set_option maxRecDepth 20000 in
theorem ggX7_compare_X7_fails : GoodIn wsX7_compare wsX7_fails := goodIn_r _ [28, 1, 29, 30, 31, 32, 33, 34, 35, 36, 37, 38, 39, 40, 41, 42, 43, 44, 45, 46, 47, 48, 49] (by decide +kernel) (by decide +kernel)
set_option maxRecDepth 20000 in
theorem gX7_compare_X7_fails : GoodIn wsX7_compare (wsV RX7 101 RX7 yX7_fails wsX7_fails) := goodIn_app (goodIn_of _ (by decide +kernel)) ggX7_compare_X7_fails
set_option maxRecDepth 20000 in
theorem ggX7_ranked_X7_holds : GoodIn wsX7_ranked wsX7_holds := goodIn_r _ [5, 6, 7, 8, 4, 9, 10, 11, 12, 13, 14, 15, 16, 17, 18, 19, 20, 21, 22, 23, 24, 25, 26, 27, 28, 29, 30, 31, 32, 33, 34, 35] (by decide +kernel) (by decide +kernel)
set_option maxRecDepth 20000 in
theorem gX7_ranked_X7_holds : GoodIn wsX7_ranked (wsV RX7 123 RX7 yX7_holds wsX7_holds) := goodIn_app (goodIn_of _ (by decide +kernel)) ggX7_ranked_X7_holds
set_option maxRecDepth 20000 in
theorem ggX7_plateByAmount_X7_isPlate : GoodIn wsX7_plateByAmount wsX7_isPlate := goodIn_r _ [5, 6, 7, 4, 8] (by decide +kernel) (by decide +kernel)
set_option maxRecDepth 20000 in
theorem gX7_plateByAmount_X7_isPlate : GoodIn wsX7_plateByAmount (va_wsS RX7 43 yX7_isPlate wsX7_isPlate) := goodIn_app (goodIn_of _ (by decide +kernel)) ggX7_plateByAmount_X7_isPlate
set_option maxRecDepth 20000 in
theorem ggX7_plateByAmount_X7_ranked : GoodIn wsX7_plateByAmount wsX7_ranked := goodIn_r _ [12, 13, 14, 15, 4, 16, 17, 18, 19, 20, 21, 22, 23, 24, 25, 30, 31, 32, 33, 34, 35, 36, 37, 38, 39, 40, 41, 42, 43, 44, 45, 46, 47, 48, 49, 50] (by decide +kernel) (by decide +kernel)
set_option maxRecDepth 20000 in
theorem gX7_plateByAmount_X7_ranked : GoodIn wsX7_plateByAmount (wsV RX7 140 RX7 yX7_ranked wsX7_ranked) := goodIn_app (goodIn_of _ (by decide +kernel)) ggX7_plateByAmount_X7_ranked
set_option maxRecDepth 20000 in
theorem ggX7_plateByAmount_X7_fails : GoodIn wsX7_plateByAmount wsX7_fails := goodIn_r _ [29, 1, 30, 31, 32, 33, 34, 35, 36, 37, 38, 39, 40, 41, 42, 43, 44, 45, 46, 47, 48, 49, 50] (by decide +kernel) (by decide +kernel)
set_option maxRecDepth 20000 in
theorem gX7_plateByAmount_X7_fails : GoodIn wsX7_plateByAmount (wsV RX7 101 RX7 yX7_fails wsX7_fails) := goodIn_app (goodIn_of _ (by decide +kernel)) ggX7_plateByAmount_X7_fails
set_option maxRecDepth 20000 in
theorem ggX7_commonParts_X7_below : GoodIn wsX7_commonParts wsX7_below := goodIn_r _ [8, 9, 13, 14, 15, 16, 17, 18, 19, 20, 21, 22, 23, 24, 25, 26, 27, 28, 29, 30, 31, 32, 33] (by decide +kernel) (by decide +kernel)
set_option maxRecDepth 20000 in
theorem gX7_commonParts_X7_below : GoodIn wsX7_commonParts (wsV RX7 67 RX7 yX7_below wsX7_below) := goodIn_app (goodIn_of _ (by decide +kernel)) ggX7_commonParts_X7_below
set_option maxRecDepth 20000 in
theorem ggX7_commonParts_X7_divisor : GoodIn wsX7_commonParts wsX7_divisor := goodIn_r _ [12] (by decide +kernel) (by decide +kernel)
set_option maxRecDepth 20000 in
theorem gX7_commonParts_X7_divisor : GoodIn wsX7_commonParts (va_wsS RX7 50 yX7_divisor wsX7_divisor) := goodIn_app (goodIn_of _ (by decide +kernel)) ggX7_commonParts_X7_divisor
set_option maxRecDepth 20000 in
theorem ggX7_differentFractions_X7_holds : GoodIn wsX7_differentFractions wsX7_holds := goodIn_r _ [6, 7, 8, 9, 5, 10, 11, 12, 13, 14, 15, 16, 17, 18, 19, 20, 21, 22, 23, 24, 25, 26, 27, 28, 29, 30, 31, 32, 33, 34, 35, 36] (by decide +kernel) (by decide +kernel)
set_option maxRecDepth 20000 in
theorem gX7_differentFractions_X7_holds : GoodIn wsX7_differentFractions (wsV RX7 123 RX7 yX7_holds wsX7_holds) := goodIn_app (goodIn_of _ (by decide +kernel)) ggX7_differentFractions_X7_holds
set_option maxRecDepth 20000 in
theorem ggX7_countsTerms_X7_tellsTerms : GoodIn wsX7_countsTerms wsX7_tellsTerms := goodIn_r _ [6, 1, 7, 8, 9, 10, 5, 11, 12, 13, 14, 15, 16, 17, 18, 19, 20, 21, 22, 23, 24, 25, 26, 27, 28, 29, 30, 31, 32, 33, 34, 35, 36, 37] (by decide +kernel) (by decide +kernel)
set_option maxRecDepth 20000 in
theorem gX7_countsTerms_X7_tellsTerms : GoodIn wsX7_countsTerms (wsV RX7 77 RX7 yX7_tellsTerms wsX7_tellsTerms) := goodIn_app (goodIn_of _ (by decide +kernel)) ggX7_countsTerms_X7_tellsTerms
set_option maxRecDepth 20000 in
theorem ggX7_termCount_X7_isPlate : GoodIn wsX7_termCount wsX7_isPlate := goodIn_r _ [5, 6, 7, 4, 8] (by decide +kernel) (by decide +kernel)
set_option maxRecDepth 20000 in
theorem gX7_termCount_X7_isPlate : GoodIn wsX7_termCount (va_wsS RX7 43 yX7_isPlate wsX7_isPlate) := goodIn_app (goodIn_of _ (by decide +kernel)) ggX7_termCount_X7_isPlate
set_option maxRecDepth 20000 in
theorem ggX7_termCount_X7_countsTerms : GoodIn wsX7_termCount wsX7_countsTerms := goodIn_r _ [12, 13, 14, 15, 16, 4, 17, 18, 19, 20, 21, 22, 23, 24, 25, 26, 27, 32, 33, 34, 35, 36, 37, 38, 39, 40, 41, 42, 43, 44, 45, 46, 47, 48, 49, 50, 51, 52] (by decide +kernel) (by decide +kernel)
set_option maxRecDepth 20000 in
theorem gX7_termCount_X7_countsTerms : GoodIn wsX7_termCount (wsV RX7 147 RX7 yX7_countsTerms wsX7_countsTerms) := goodIn_app (goodIn_of _ (by decide +kernel)) ggX7_termCount_X7_countsTerms
set_option maxRecDepth 20000 in
theorem ggX7_termCount_X7_fails : GoodIn wsX7_termCount wsX7_fails := goodIn_r _ [31, 1, 32, 33, 34, 35, 36, 37, 38, 39, 40, 41, 42, 43, 44, 45, 46, 47, 48, 49, 50, 51, 52] (by decide +kernel) (by decide +kernel)
set_option maxRecDepth 20000 in
theorem gX7_termCount_X7_fails : GoodIn wsX7_termCount (wsV RX7 101 RX7 yX7_fails wsX7_fails) := goodIn_app (goodIn_of _ (by decide +kernel)) ggX7_termCount_X7_fails
set_option maxRecDepth 20000 in
theorem ggX7_termAt_X7_isTerm : GoodIn wsX7_termAt wsX7_isTerm := goodIn_r _ [7, 8, 9, 10, 6, 11, 12, 13, 14, 15, 16, 17, 18, 2, 19, 20, 21, 22, 23, 24, 25, 26, 27, 32, 33, 34, 35, 36, 37, 38, 39, 40, 41, 42, 43, 44, 45, 46, 47, 48, 49, 50, 51, 52] (by decide +kernel) (by decide +kernel)
set_option maxRecDepth 20000 in
theorem gX7_termAt_X7_isTerm : GoodIn wsX7_termAt (wsV RX7 150 RX7 yX7_isTerm wsX7_isTerm) := goodIn_app (goodIn_of _ (by decide +kernel)) ggX7_termAt_X7_isTerm
set_option maxRecDepth 20000 in
theorem ggX7_termAt_X7_fails : GoodIn wsX7_termAt wsX7_fails := goodIn_r _ [31, 1, 32, 33, 34, 35, 36, 37, 38, 39, 40, 41, 42, 43, 44, 45, 46, 47, 48, 49, 50, 51, 52] (by decide +kernel) (by decide +kernel)
set_option maxRecDepth 20000 in
theorem gX7_termAt_X7_fails : GoodIn wsX7_termAt (wsV RX7 101 RX7 yX7_fails wsX7_fails) := goodIn_app (goodIn_of _ (by decide +kernel)) ggX7_termAt_X7_fails
set_option maxRecDepth 20000 in
theorem ggX7_beginningNumerator_X7_isTerm : GoodIn wsX7_beginningNumerator wsX7_isTerm := goodIn_r _ [7, 8, 9, 10, 6, 11, 12, 13, 14, 15, 16, 17, 18, 19, 20, 21, 22, 23, 24, 25, 26, 27, 28, 38, 39, 40, 41, 42, 43, 44, 45, 46, 47, 48, 49, 50, 51, 52, 53, 54, 55, 56, 57, 58] (by decide +kernel) (by decide +kernel)
set_option maxRecDepth 20000 in
theorem gX7_beginningNumerator_X7_isTerm : GoodIn wsX7_beginningNumerator (wsV RX7 150 RX7 yX7_isTerm wsX7_isTerm) := goodIn_app (goodIn_of _ (by decide +kernel)) ggX7_beginningNumerator_X7_isTerm
set_option maxRecDepth 20000 in
theorem ggX7_beginningNumerator_X7_fails : GoodIn wsX7_beginningNumerator wsX7_fails := goodIn_r _ [32, 1, 38, 39, 40, 41, 42, 43, 44, 45, 46, 47, 48, 49, 50, 51, 52, 53, 54, 55, 56, 57, 58] (by decide +kernel) (by decide +kernel)
set_option maxRecDepth 20000 in
theorem gX7_beginningNumerator_X7_fails : GoodIn wsX7_beginningNumerator (wsV RX7 101 RX7 yX7_fails wsX7_fails) := goodIn_app (goodIn_of _ (by decide +kernel)) ggX7_beginningNumerator_X7_fails
set_option maxRecDepth 20000 in
theorem ggX7_beginningNumerator_X7_makesBeginning : GoodIn wsX7_beginningNumerator wsX7_makesBeginning := goodIn_r _ [36, 19, 2, 37, 38, 39, 40, 41, 42, 43, 44, 45, 46, 47, 48, 49, 50, 51, 52, 53, 54, 55, 56, 57, 58] (by decide +kernel) (by decide +kernel)
set_option maxRecDepth 20000 in
theorem gX7_beginningNumerator_X7_makesBeginning : GoodIn wsX7_beginningNumerator (wsV RX7 153 RX7 yX7_makesBeginning wsX7_makesBeginning) := goodIn_app (goodIn_of _ (by decide +kernel)) ggX7_beginningNumerator_X7_makesBeginning
set_option maxRecDepth 20000 in
theorem ggX7_beginningDenominator_X7_isTerm : GoodIn wsX7_beginningDenominator wsX7_isTerm := goodIn_r _ [7, 8, 9, 10, 6, 11, 12, 13, 14, 15, 16, 17, 18, 19, 20, 21, 22, 23, 24, 25, 26, 27, 28, 38, 39, 40, 41, 42, 43, 44, 45, 46, 47, 48, 49, 50, 51, 52, 53, 54, 55, 56, 57, 58] (by decide +kernel) (by decide +kernel)
set_option maxRecDepth 20000 in
theorem gX7_beginningDenominator_X7_isTerm : GoodIn wsX7_beginningDenominator (wsV RX7 150 RX7 yX7_isTerm wsX7_isTerm) := goodIn_app (goodIn_of _ (by decide +kernel)) ggX7_beginningDenominator_X7_isTerm
set_option maxRecDepth 20000 in
theorem ggX7_beginningDenominator_X7_fails : GoodIn wsX7_beginningDenominator wsX7_fails := goodIn_r _ [32, 1, 38, 39, 40, 41, 42, 43, 44, 45, 46, 47, 48, 49, 50, 51, 52, 53, 54, 55, 56, 57, 58] (by decide +kernel) (by decide +kernel)
set_option maxRecDepth 20000 in
theorem gX7_beginningDenominator_X7_fails : GoodIn wsX7_beginningDenominator (wsV RX7 101 RX7 yX7_fails wsX7_fails) := goodIn_app (goodIn_of _ (by decide +kernel)) ggX7_beginningDenominator_X7_fails
set_option maxRecDepth 20000 in
theorem ggX7_beginningDenominator_X7_makesBeginning : GoodIn wsX7_beginningDenominator wsX7_makesBeginning := goodIn_r _ [36, 19, 37, 2, 38, 39, 40, 41, 42, 43, 44, 45, 46, 47, 48, 49, 50, 51, 52, 53, 54, 55, 56, 57, 58] (by decide +kernel) (by decide +kernel)
set_option maxRecDepth 20000 in
theorem gX7_beginningDenominator_X7_makesBeginning : GoodIn wsX7_beginningDenominator (wsV RX7 153 RX7 yX7_makesBeginning wsX7_makesBeginning) := goodIn_app (goodIn_of _ (by decide +kernel)) ggX7_beginningDenominator_X7_makesBeginning
set_option maxRecDepth 20000 in
theorem ggX7_isNear_X7_isPlate : GoodIn wsX7_isNear wsX7_isPlate := goodIn_r _ [5, 6, 7, 4, 8] (by decide +kernel) (by decide +kernel)
set_option maxRecDepth 20000 in
theorem gX7_isNear_X7_isPlate : GoodIn wsX7_isNear (va_wsS RX7 43 yX7_isPlate wsX7_isPlate) := goodIn_app (goodIn_of _ (by decide +kernel)) ggX7_isNear_X7_isPlate
set_option maxRecDepth 20000 in
theorem ggX7_isNear_X7_isGreatest : GoodIn wsX7_isNear wsX7_isGreatest := goodIn_r _ [11, 6, 7, 4, 8] (by decide +kernel) (by decide +kernel)
set_option maxRecDepth 20000 in
theorem gX7_isNear_X7_isGreatest : GoodIn wsX7_isNear (va_wsS RX7 133 yX7_isGreatest wsX7_isGreatest) := goodIn_app (goodIn_of _ (by decide +kernel)) ggX7_isNear_X7_isGreatest
set_option maxRecDepth 20000 in
theorem ggX7_isNear_X7_tellsNearest : GoodIn wsX7_isNear wsX7_tellsNearest := goodIn_r _ [15, 16, 17, 18, 19, 20, 21, 4, 22, 23, 24, 25, 26, 27, 28, 29, 30, 31, 32, 33, 34, 35, 36, 37, 38, 39, 40, 41, 42, 43, 44, 45, 46, 47, 48] (by decide +kernel) (by decide +kernel)
set_option maxRecDepth 20000 in
theorem gX7_isNear_X7_tellsNearest : GoodIn wsX7_isNear (wsV RX7 136 RX7 yX7_tellsNearest wsX7_tellsNearest) := goodIn_app (goodIn_of _ (by decide +kernel)) ggX7_isNear_X7_tellsNearest
set_option maxRecDepth 20000 in
theorem ggX7_nearestDenominator_X7_isNear : GoodIn wsX7_nearestDenominator wsX7_isNear := goodIn_r _ [6, 7, 8, 9, 5, 10, 11, 12, 13, 14, 15, 16, 17, 18, 19, 20, 21, 1, 22, 23, 24, 25, 26, 27, 28, 29, 30, 31, 32, 33, 34, 35, 36, 37, 38, 39, 40, 41, 42, 43, 44, 45, 46, 47, 48, 49, 50, 51, 52] (by decide +kernel) (by decide +kernel)
set_option maxRecDepth 20000 in
theorem gX7_nearestDenominator_X7_isNear : GoodIn wsX7_nearestDenominator (wsV RX7 156 RX7 yX7_isNear wsX7_isNear) := goodIn_app (goodIn_of _ (by decide +kernel)) ggX7_nearestDenominator_X7_isNear
set_option maxRecDepth 20000 in
theorem ggX7_nearestByTrying_X7_isNear : GoodIn wsX7_nearestByTrying wsX7_isNear := goodIn_r _ [6, 7, 8, 9, 5, 10, 11, 12, 13, 14, 15, 16, 17, 18, 19, 20, 21, 1, 22, 23, 24, 25, 26, 27, 28, 29, 30, 31, 32, 33, 34, 35, 36, 37, 38, 39, 40, 41, 42, 43, 44, 45, 46, 47, 48, 49, 50, 51, 52] (by decide +kernel) (by decide +kernel)
set_option maxRecDepth 20000 in
theorem gX7_nearestByTrying_X7_isNear : GoodIn wsX7_nearestByTrying (wsV RX7 156 RX7 yX7_isNear wsX7_isNear) := goodIn_app (goodIn_of _ (by decide +kernel)) ggX7_nearestByTrying_X7_isNear
set_option maxRecDepth 20000 in
theorem ggX7_nearestNumerator_X7_isNear : GoodIn wsX7_nearestNumerator wsX7_isNear := goodIn_r _ [6, 7, 8, 9, 5, 10, 11, 12, 13, 14, 15, 16, 17, 18, 19, 20, 21, 22, 1, 23, 24, 25, 26, 27, 28, 29, 30, 31, 32, 33, 34, 35, 36, 37, 38, 39, 40, 41, 42, 43, 44, 45, 46, 47, 48, 49, 50, 51, 52] (by decide +kernel) (by decide +kernel)
set_option maxRecDepth 20000 in
theorem gX7_nearestNumerator_X7_isNear : GoodIn wsX7_nearestNumerator (wsV RX7 156 RX7 yX7_isNear wsX7_isNear) := goodIn_app (goodIn_of _ (by decide +kernel)) ggX7_nearestNumerator_X7_isNear
set_option maxRecDepth 20000 in
theorem ggX7_isLess_X7_above : GoodIn wsX7_isLess wsX7_above := goodIn_r _ [5, 6, 11, 12, 13, 14, 15, 16, 17, 18, 19, 20, 21, 22, 23, 24, 25, 26, 27, 28, 29, 30, 31] (by decide +kernel) (by decide +kernel)
set_option maxRecDepth 20000 in
theorem gX7_isLess_X7_above : GoodIn wsX7_isLess (wsV RX7 63 RX7 yX7_above wsX7_above) := goodIn_app (goodIn_of _ (by decide +kernel)) ggX7_isLess_X7_above
set_option maxRecDepth 20000 in
theorem ggX7_isLess_X7_below : GoodIn wsX7_isLess wsX7_below := goodIn_r _ [10, 6, 11, 12, 13, 14, 15, 16, 17, 18, 19, 20, 21, 22, 23, 24, 25, 26, 27, 28, 29, 30, 31] (by decide +kernel) (by decide +kernel)
set_option maxRecDepth 20000 in
theorem gX7_isLess_X7_below : GoodIn wsX7_isLess (wsV RX7 67 RX7 yX7_below wsX7_below) := goodIn_app (goodIn_of _ (by decide +kernel)) ggX7_isLess_X7_below
set_option maxRecDepth 20000 in
theorem ggX7_unitCount_X7_isPlate : GoodIn wsX7_unitCount wsX7_isPlate := goodIn_r _ [7, 8, 9, 6, 10] (by decide +kernel) (by decide +kernel)
set_option maxRecDepth 20000 in
theorem gX7_unitCount_X7_isPlate : GoodIn wsX7_unitCount (va_wsS RX7 43 yX7_isPlate wsX7_isPlate) := goodIn_app (goodIn_of _ (by decide +kernel)) ggX7_unitCount_X7_isPlate
set_option maxRecDepth 20000 in
theorem ggX7_unitCount_X7_fails : GoodIn wsX7_unitCount wsX7_fails := goodIn_r _ [14, 1, 38, 39, 40, 41, 42, 43, 44, 45, 46, 47, 48, 49, 50, 51, 52, 53, 54, 55, 56, 57, 58] (by decide +kernel) (by decide +kernel)
set_option maxRecDepth 20000 in
theorem gX7_unitCount_X7_fails : GoodIn wsX7_unitCount (wsV RX7 101 RX7 yX7_fails wsX7_fails) := goodIn_app (goodIn_of _ (by decide +kernel)) ggX7_unitCount_X7_fails
set_option maxRecDepth 20000 in
theorem ggX7_unitCount_X7_isLess : GoodIn wsX7_unitCount wsX7_isLess := goodIn_r _ [18, 19, 20, 21, 6, 22, 23, 24, 25, 26, 27, 38, 39, 40, 41, 42, 43, 44, 45, 46, 47, 48, 49, 50, 51, 52, 53, 54, 55, 56, 57, 58] (by decide +kernel) (by decide +kernel)
set_option maxRecDepth 20000 in
theorem gX7_unitCount_X7_isLess : GoodIn wsX7_unitCount (wsV RX7 159 RX7 yX7_isLess wsX7_isLess) := goodIn_app (goodIn_of _ (by decide +kernel)) ggX7_unitCount_X7_isLess
set_option maxRecDepth 20000 in
theorem ggX7_unitCount_X7_tellsUnits : GoodIn wsX7_unitCount wsX7_tellsUnits := goodIn_r _ [31, 3, 2, 32, 33, 34, 19, 20, 21, 6, 22, 23, 24, 25, 26, 27, 35, 36, 37, 38, 39, 40, 41, 42, 43, 44, 45, 46, 47, 48, 49, 50, 51, 52, 53, 54, 55, 56, 57, 58] (by decide +kernel) (by decide +kernel)
set_option maxRecDepth 20000 in
theorem gX7_unitCount_X7_tellsUnits : GoodIn wsX7_unitCount (wsV RX7 162 RX7 yX7_tellsUnits wsX7_tellsUnits) := goodIn_app (goodIn_of _ (by decide +kernel)) ggX7_unitCount_X7_tellsUnits
set_option maxRecDepth 20000 in
theorem ggX7_unitAt_X7_isPlate : GoodIn wsX7_unitAt wsX7_isPlate := goodIn_r _ [7, 8, 9, 6, 10] (by decide +kernel) (by decide +kernel)
set_option maxRecDepth 20000 in
theorem gX7_unitAt_X7_isPlate : GoodIn wsX7_unitAt (va_wsS RX7 43 yX7_isPlate wsX7_isPlate) := goodIn_app (goodIn_of _ (by decide +kernel)) ggX7_unitAt_X7_isPlate
set_option maxRecDepth 20000 in
theorem ggX7_unitAt_X7_in : GoodIn wsX7_unitAt wsX7_in := goodIn_r _ [10] (by decide +kernel) (by decide +kernel)
set_option maxRecDepth 20000 in
theorem gX7_unitAt_X7_in : GoodIn wsX7_unitAt (va_wsS RX7 39 yX7_in wsX7_in) := goodIn_app (goodIn_of _ (by decide +kernel)) ggX7_unitAt_X7_in
set_option maxRecDepth 20000 in
theorem ggX7_unitAt_X7_fails : GoodIn wsX7_unitAt wsX7_fails := goodIn_r _ [14, 1, 38, 39, 40, 41, 42, 43, 44, 45, 46, 47, 48, 49, 50, 51, 52, 53, 54, 55, 56, 57, 58] (by decide +kernel) (by decide +kernel)
set_option maxRecDepth 20000 in
theorem gX7_unitAt_X7_fails : GoodIn wsX7_unitAt (wsV RX7 101 RX7 yX7_fails wsX7_fails) := goodIn_app (goodIn_of _ (by decide +kernel)) ggX7_unitAt_X7_fails
set_option maxRecDepth 20000 in
theorem ggX7_unitAt_X7_isLess : GoodIn wsX7_unitAt wsX7_isLess := goodIn_r _ [18, 19, 20, 21, 6, 22, 23, 24, 25, 26, 27, 38, 39, 40, 41, 42, 43, 44, 45, 46, 47, 48, 49, 50, 51, 52, 53, 54, 55, 56, 57, 58] (by decide +kernel) (by decide +kernel)
set_option maxRecDepth 20000 in
theorem gX7_unitAt_X7_isLess : GoodIn wsX7_unitAt (wsV RX7 159 RX7 yX7_isLess wsX7_isLess) := goodIn_app (goodIn_of _ (by decide +kernel)) ggX7_unitAt_X7_isLess
set_option maxRecDepth 20000 in
theorem ggX7_unitAt_X7_tellsUnits : GoodIn wsX7_unitAt wsX7_tellsUnits := goodIn_r _ [31, 2, 32, 33, 3, 34, 19, 20, 21, 6, 22, 23, 24, 25, 26, 27, 35, 36, 37, 38, 39, 40, 41, 42, 43, 44, 45, 46, 47, 48, 49, 50, 51, 52, 53, 54, 55, 56, 57, 58] (by decide +kernel) (by decide +kernel)
set_option maxRecDepth 20000 in
theorem gX7_unitAt_X7_tellsUnits : GoodIn wsX7_unitAt (wsV RX7 162 RX7 yX7_tellsUnits wsX7_tellsUnits) := goodIn_app (goodIn_of _ (by decide +kernel)) ggX7_unitAt_X7_tellsUnits
set_option maxRecDepth 20000 in
theorem ggX7_steps_X7_tellsTerms : GoodIn wsX7_steps wsX7_tellsTerms := goodIn_r _ [7, 1, 2, 8, 9, 10, 6, 11, 12, 13, 14, 15, 16, 17, 18, 19, 20, 21, 22, 23, 24, 25, 26, 27, 28, 29, 30, 31, 32, 33, 34, 35, 36, 37] (by decide +kernel) (by decide +kernel)
set_option maxRecDepth 20000 in
theorem gX7_steps_X7_tellsTerms : GoodIn wsX7_steps (wsV RX7 77 RX7 yX7_tellsTerms wsX7_tellsTerms) := goodIn_app (goodIn_of _ (by decide +kernel)) ggX7_steps_X7_tellsTerms
set_option maxRecDepth 20000 in
theorem ggX7_waySteps_X7_isPlate : GoodIn wsX7_waySteps wsX7_isPlate := goodIn_r _ [5, 6, 7, 4, 8] (by decide +kernel) (by decide +kernel)
set_option maxRecDepth 20000 in
theorem gX7_waySteps_X7_isPlate : GoodIn wsX7_waySteps (va_wsS RX7 43 yX7_isPlate wsX7_isPlate) := goodIn_app (goodIn_of _ (by decide +kernel)) ggX7_waySteps_X7_isPlate
set_option maxRecDepth 20000 in
theorem ggX7_waySteps_X7_fails : GoodIn wsX7_waySteps wsX7_fails := goodIn_r _ [12, 1, 32, 33, 34, 35, 36, 37, 38, 39, 40, 41, 42, 43, 44, 45, 46, 47, 48, 49, 50, 51, 52] (by decide +kernel) (by decide +kernel)
set_option maxRecDepth 20000 in
theorem gX7_waySteps_X7_fails : GoodIn wsX7_waySteps (wsV RX7 101 RX7 yX7_fails wsX7_fails) := goodIn_app (goodIn_of _ (by decide +kernel)) ggX7_waySteps_X7_fails
set_option maxRecDepth 20000 in
theorem ggX7_waySteps_X7_above : GoodIn wsX7_waySteps wsX7_above := goodIn_r _ [16, 17, 32, 33, 34, 35, 36, 37, 38, 39, 40, 41, 42, 43, 44, 45, 46, 47, 48, 49, 50, 51, 52] (by decide +kernel) (by decide +kernel)
set_option maxRecDepth 20000 in
theorem gX7_waySteps_X7_above : GoodIn wsX7_waySteps (wsV RX7 63 RX7 yX7_above wsX7_above) := goodIn_app (goodIn_of _ (by decide +kernel)) ggX7_waySteps_X7_above
set_option maxRecDepth 20000 in
theorem ggX7_waySteps_X7_steps : GoodIn wsX7_waySteps wsX7_steps := goodIn_r _ [21, 22, 23, 24, 25, 26, 4, 27, 13, 14, 15, 16, 17, 28, 29, 30, 31, 32, 33, 34, 35, 36, 37, 38, 39, 40, 41, 42, 43, 44, 45, 46, 47, 48, 49, 50, 51, 52] (by decide +kernel) (by decide +kernel)
set_option maxRecDepth 20000 in
theorem gX7_waySteps_X7_steps : GoodIn wsX7_waySteps (wsV RX7 165 RX7 yX7_steps wsX7_steps) := goodIn_app (goodIn_of _ (by decide +kernel)) ggX7_waySteps_X7_steps
set_option maxRecDepth 20000 in
theorem ggX7_turns_X7_tellsTerms : GoodIn wsX7_turns wsX7_tellsTerms := goodIn_r _ [7, 1, 2, 8, 9, 10, 6, 11, 12, 13, 14, 15, 16, 17, 18, 19, 20, 21, 22, 23, 24, 25, 26, 27, 28, 29, 30, 31, 32, 33, 34, 35, 36, 37] (by decide +kernel) (by decide +kernel)
set_option maxRecDepth 20000 in
theorem gX7_turns_X7_tellsTerms : GoodIn wsX7_turns (wsV RX7 77 RX7 yX7_tellsTerms wsX7_tellsTerms) := goodIn_app (goodIn_of _ (by decide +kernel)) ggX7_turns_X7_tellsTerms
set_option maxRecDepth 20000 in
theorem ggX7_wayTurns_X7_isPlate : GoodIn wsX7_wayTurns wsX7_isPlate := goodIn_r _ [5, 6, 7, 4, 8] (by decide +kernel) (by decide +kernel)
set_option maxRecDepth 20000 in
theorem gX7_wayTurns_X7_isPlate : GoodIn wsX7_wayTurns (va_wsS RX7 43 yX7_isPlate wsX7_isPlate) := goodIn_app (goodIn_of _ (by decide +kernel)) ggX7_wayTurns_X7_isPlate
set_option maxRecDepth 20000 in
theorem ggX7_wayTurns_X7_fails : GoodIn wsX7_wayTurns wsX7_fails := goodIn_r _ [12, 1, 32, 33, 34, 35, 36, 37, 38, 39, 40, 41, 42, 43, 44, 45, 46, 47, 48, 49, 50, 51, 52] (by decide +kernel) (by decide +kernel)
set_option maxRecDepth 20000 in
theorem gX7_wayTurns_X7_fails : GoodIn wsX7_wayTurns (wsV RX7 101 RX7 yX7_fails wsX7_fails) := goodIn_app (goodIn_of _ (by decide +kernel)) ggX7_wayTurns_X7_fails
set_option maxRecDepth 20000 in
theorem ggX7_wayTurns_X7_above : GoodIn wsX7_wayTurns wsX7_above := goodIn_r _ [16, 17, 32, 33, 34, 35, 36, 37, 38, 39, 40, 41, 42, 43, 44, 45, 46, 47, 48, 49, 50, 51, 52] (by decide +kernel) (by decide +kernel)
set_option maxRecDepth 20000 in
theorem gX7_wayTurns_X7_above : GoodIn wsX7_wayTurns (wsV RX7 63 RX7 yX7_above wsX7_above) := goodIn_app (goodIn_of _ (by decide +kernel)) ggX7_wayTurns_X7_above
set_option maxRecDepth 20000 in
theorem ggX7_wayTurns_X7_turns : GoodIn wsX7_wayTurns wsX7_turns := goodIn_r _ [21, 22, 23, 24, 25, 26, 4, 27, 13, 14, 15, 16, 17, 28, 29, 30, 31, 32, 33, 34, 35, 36, 37, 38, 39, 40, 41, 42, 43, 44, 45, 46, 47, 48, 49, 50, 51, 52] (by decide +kernel) (by decide +kernel)
set_option maxRecDepth 20000 in
theorem gX7_wayTurns_X7_turns : GoodIn wsX7_wayTurns (wsV RX7 168 RX7 yX7_turns wsX7_turns) := goodIn_app (goodIn_of _ (by decide +kernel)) ggX7_wayTurns_X7_turns
set_option maxRecDepth 20000 in
theorem ggX7_beginsRight_X7_isPlate : GoodIn wsX7_beginsRight wsX7_isPlate := goodIn_r _ [5, 6, 7, 4, 8] (by decide +kernel) (by decide +kernel)
set_option maxRecDepth 20000 in
theorem gX7_beginsRight_X7_isPlate : GoodIn wsX7_beginsRight (va_wsS RX7 43 yX7_isPlate wsX7_isPlate) := goodIn_app (goodIn_of _ (by decide +kernel)) ggX7_beginsRight_X7_isPlate
set_option maxRecDepth 20000 in
theorem ggX7_beginsRight_X7_fails : GoodIn wsX7_beginsRight wsX7_fails := goodIn_r _ [12, 1, 22, 23, 24, 25, 26, 27, 28, 29, 30, 31, 32, 33, 34, 35, 36, 37, 38, 39, 40, 41, 42] (by decide +kernel) (by decide +kernel)
set_option maxRecDepth 20000 in
theorem gX7_beginsRight_X7_fails : GoodIn wsX7_beginsRight (wsV RX7 101 RX7 yX7_fails wsX7_fails) := goodIn_app (goodIn_of _ (by decide +kernel)) ggX7_beginsRight_X7_fails
set_option maxRecDepth 20000 in
theorem ggX7_beginsRight_X7_above : GoodIn wsX7_beginsRight wsX7_above := goodIn_r _ [16, 17, 22, 23, 24, 25, 26, 27, 28, 29, 30, 31, 32, 33, 34, 35, 36, 37, 38, 39, 40, 41, 42] (by decide +kernel) (by decide +kernel)
set_option maxRecDepth 20000 in
theorem gX7_beginsRight_X7_above : GoodIn wsX7_beginsRight (wsV RX7 63 RX7 yX7_above wsX7_above) := goodIn_app (goodIn_of _ (by decide +kernel)) ggX7_beginsRight_X7_above
set_option maxRecDepth 20000 in
theorem ggX7_beginsRight_X7_below : GoodIn wsX7_beginsRight wsX7_below := goodIn_r _ [21, 17, 22, 23, 24, 25, 26, 27, 28, 29, 30, 31, 32, 33, 34, 35, 36, 37, 38, 39, 40, 41, 42] (by decide +kernel) (by decide +kernel)
set_option maxRecDepth 20000 in
theorem gX7_beginsRight_X7_below : GoodIn wsX7_beginsRight (wsV RX7 67 RX7 yX7_below wsX7_below) := goodIn_app (goodIn_of _ (by decide +kernel)) ggX7_beginsRight_X7_below
set_option maxRecDepth 20000 in
theorem ggX7_appendText_X7_in : GoodIn wsX7_appendText wsX7_in := goodIn_r _ [8] (by decide +kernel) (by decide +kernel)
set_option maxRecDepth 20000 in
theorem gX7_appendText_X7_in : GoodIn wsX7_appendText (va_wsS RX7 39 yX7_in wsX7_in) := goodIn_app (goodIn_of _ (by decide +kernel)) ggX7_appendText_X7_in
set_option maxRecDepth 20000 in
theorem ggX7_appendText_X7_fails : GoodIn wsX7_appendText wsX7_fails := goodIn_r _ [12, 1, 13, 14, 15, 16, 17, 18, 19, 20, 21, 22, 23, 24, 25, 26, 27, 28, 29, 30, 31, 32, 33] (by decide +kernel) (by decide +kernel)
set_option maxRecDepth 20000 in
theorem gX7_appendText_X7_fails : GoodIn wsX7_appendText (wsV RX7 101 RX7 yX7_fails wsX7_fails) := goodIn_app (goodIn_of _ (by decide +kernel)) ggX7_appendText_X7_fails
set_option maxRecDepth 20000 in
theorem ggX7_takes_X7_sign : GoodIn wsX7_takes wsX7_sign := goodIn_r _ [7, 2, 8, 9, 13, 14, 15, 16, 17, 18, 19, 20, 21, 22, 23, 24, 25, 26, 27, 28, 29, 30, 31, 32, 33] (by decide +kernel) (by decide +kernel)
set_option maxRecDepth 20000 in
theorem gX7_takes_X7_sign : GoodIn wsX7_takes (wsV RX7 182 RX7 yX7_sign wsX7_sign) := goodIn_app (goodIn_of _ (by decide +kernel)) ggX7_takes_X7_sign
set_option maxRecDepth 20000 in
theorem ggX7_takes_X7_in : GoodIn wsX7_takes wsX7_in := goodIn_r _ [12] (by decide +kernel) (by decide +kernel)
set_option maxRecDepth 20000 in
theorem gX7_takes_X7_in : GoodIn wsX7_takes (va_wsS RX7 39 yX7_in wsX7_in) := goodIn_app (goodIn_of _ (by decide +kernel)) ggX7_takes_X7_in
set_option maxRecDepth 20000 in
theorem ggX7_number_X7_takes : GoodIn wsX7_number wsX7_takes := goodIn_r _ [7, 1, 2, 8, 9, 10, 6, 11, 12, 13, 14, 15, 16, 17, 18, 19, 20, 21, 22, 23, 24, 25, 26, 27, 28, 29, 30, 31, 32, 33, 34, 35, 36, 37] (by decide +kernel) (by decide +kernel)
set_option maxRecDepth 20000 in
theorem gX7_number_X7_takes : GoodIn wsX7_number (wsV RX7 186 RX7 yX7_takes wsX7_takes) := goodIn_app (goodIn_of _ (by decide +kernel)) ggX7_number_X7_takes
set_option maxRecDepth 20000 in
theorem ggX7_number_X7_sign : GoodIn wsX7_number wsX7_sign := goodIn_r _ [11, 2, 12, 13, 17, 18, 19, 20, 21, 22, 23, 24, 25, 26, 27, 28, 29, 30, 31, 32, 33, 34, 35, 36, 37] (by decide +kernel) (by decide +kernel)
set_option maxRecDepth 20000 in
theorem gX7_number_X7_sign : GoodIn wsX7_number (wsV RX7 182 RX7 yX7_sign wsX7_sign) := goodIn_app (goodIn_of _ (by decide +kernel)) ggX7_number_X7_sign
set_option maxRecDepth 20000 in
theorem ggX7_number_X7_in : GoodIn wsX7_number wsX7_in := goodIn_r _ [16] (by decide +kernel) (by decide +kernel)
set_option maxRecDepth 20000 in
theorem gX7_number_X7_in : GoodIn wsX7_number (va_wsS RX7 39 yX7_in wsX7_in) := goodIn_app (goodIn_of _ (by decide +kernel)) ggX7_number_X7_in
set_option maxRecDepth 20000 in
theorem ggX7_readsCommand_X7_sign : GoodIn wsX7_readsCommand wsX7_sign := goodIn_r _ [9, 3, 10, 11, 23, 24, 25, 26, 27, 28, 29, 30, 31, 32, 33, 34, 35, 36, 37, 38, 39, 40, 41, 42, 43] (by decide +kernel) (by decide +kernel)
set_option maxRecDepth 20000 in
theorem gX7_readsCommand_X7_sign : GoodIn wsX7_readsCommand (wsV RX7 182 RX7 yX7_sign wsX7_sign) := goodIn_app (goodIn_of _ (by decide +kernel)) ggX7_readsCommand_X7_sign
set_option maxRecDepth 20000 in
theorem ggX7_readsCommand_X7_takes : GoodIn wsX7_readsCommand wsX7_takes := goodIn_r _ [15, 2, 3, 5, 6, 7, 8, 9, 10, 11, 16, 17, 18, 23, 24, 25, 26, 27, 28, 29, 30, 31, 32, 33, 34, 35, 36, 37, 38, 39, 40, 41, 42, 43] (by decide +kernel) (by decide +kernel)
set_option maxRecDepth 20000 in
theorem gX7_readsCommand_X7_takes : GoodIn wsX7_readsCommand (wsV RX7 186 RX7 yX7_takes wsX7_takes) := goodIn_app (goodIn_of _ (by decide +kernel)) ggX7_readsCommand_X7_takes
set_option maxRecDepth 20000 in
theorem ggX7_readsCommand_X7_number : GoodIn wsX7_readsCommand wsX7_number := goodIn_r _ [22, 2, 3, 12, 13, 14, 8, 15, 5, 6, 7, 9, 10, 11, 16, 17, 18, 23, 24, 25, 26, 27, 28, 29, 30, 31, 32, 33, 34, 35, 36, 37, 38, 39, 40, 41, 42, 43] (by decide +kernel) (by decide +kernel)
set_option maxRecDepth 20000 in
theorem gX7_readsCommand_X7_number : GoodIn wsX7_readsCommand (wsV RX7 192 RX7 yX7_number wsX7_number) := goodIn_app (goodIn_of _ (by decide +kernel)) ggX7_readsCommand_X7_number
set_option maxRecDepth 20000 in
theorem ggX7_readsText_X7_readsCommand : GoodIn wsX7_readsText wsX7_readsCommand := goodIn_r _ [9, 2, 3, 1, 10, 11, 12, 13, 8, 14, 4, 15, 16, 17, 18, 19, 20, 21, 22, 23, 24, 25, 26, 27, 28, 29, 30, 31, 32, 33, 34, 35, 36, 37, 38, 39, 40, 41, 42, 43, 44, 45, 46, 47] (by decide +kernel) (by decide +kernel)
set_option maxRecDepth 20000 in
theorem gX7_readsText_X7_readsCommand : GoodIn wsX7_readsText (wsV RX7 195 RX7 yX7_readsCommand wsX7_readsCommand) := goodIn_app (goodIn_of _ (by decide +kernel)) ggX7_readsText_X7_readsCommand
set_option maxRecDepth 20000 in
theorem ggX7_readsText_X7_takes : GoodIn wsX7_readsText wsX7_takes := goodIn_r _ [19, 3, 1, 11, 12, 13, 8, 14, 4, 15, 20, 21, 22, 27, 28, 29, 30, 31, 32, 33, 34, 35, 36, 37, 38, 39, 40, 41, 42, 43, 44, 45, 46, 47] (by decide +kernel) (by decide +kernel)
set_option maxRecDepth 20000 in
theorem gX7_readsText_X7_takes : GoodIn wsX7_readsText (wsV RX7 186 RX7 yX7_takes wsX7_takes) := goodIn_app (goodIn_of _ (by decide +kernel)) ggX7_readsText_X7_takes
set_option maxRecDepth 20000 in
theorem ggX7_textError_X7_readsText : GoodIn wsX7_textError wsX7_readsText := goodIn_r _ [7, 2, 8, 9, 10, 11, 12, 13, 6, 14, 15, 16, 17, 18, 19, 20, 21, 22, 23, 24, 25, 26, 27, 28, 29, 30, 31, 32, 33, 34, 35, 36, 37, 38, 39, 40, 41, 42, 43, 44, 45, 46, 47, 48, 49, 50, 51, 52] (by decide +kernel) (by decide +kernel)
set_option maxRecDepth 20000 in
theorem gX7_textError_X7_readsText : GoodIn wsX7_textError (wsV RX7 198 RX7 yX7_readsText wsX7_readsText) := goodIn_app (goodIn_of _ (by decide +kernel)) ggX7_textError_X7_readsText
set_option maxRecDepth 20000 in
theorem ggX7_can_X7_isPlate : GoodIn wsX7_can wsX7_isPlate := goodIn_r _ [5, 6, 7, 4, 8] (by decide +kernel) (by decide +kernel)
set_option maxRecDepth 20000 in
theorem gX7_can_X7_isPlate : GoodIn wsX7_can (va_wsS RX7 43 yX7_isPlate wsX7_isPlate) := goodIn_app (goodIn_of _ (by decide +kernel)) ggX7_can_X7_isPlate
set_option maxRecDepth 20000 in
theorem ggX7_can_X7_isBottom : GoodIn wsX7_can wsX7_isBottom := goodIn_r _ [11, 12, 6, 7, 4, 8] (by decide +kernel) (by decide +kernel)
set_option maxRecDepth 20000 in
theorem gX7_can_X7_isBottom : GoodIn wsX7_can (va_wsS RX7 107 yX7_isBottom wsX7_isBottom) := goodIn_app (goodIn_of _ (by decide +kernel)) ggX7_can_X7_isBottom
set_option maxRecDepth 20000 in
theorem ggX7_can_X7_makes : GoodIn wsX7_can wsX7_makes := goodIn_r _ [16, 17, 18, 19, 20, 21, 4, 22, 47, 48, 49, 50, 51, 52, 53, 54, 55, 56, 57, 58, 59, 60, 61, 62, 63, 64, 65, 66, 67] (by decide +kernel) (by decide +kernel)
set_option maxRecDepth 20000 in
theorem gX7_can_X7_makes : GoodIn wsX7_can (wsV RX7 70 RX7 yX7_makes wsX7_makes) := goodIn_app (goodIn_of _ (by decide +kernel)) ggX7_can_X7_makes
set_option maxRecDepth 20000 in
theorem ggX7_can_X7_arePlates : GoodIn wsX7_can wsX7_arePlates := goodIn_r _ [25, 2, 3, 4, 5, 6, 7, 8] (by decide +kernel) (by decide +kernel)
set_option maxRecDepth 20000 in
theorem gX7_can_X7_arePlates : GoodIn wsX7_can (va_wsS RX7 116 yX7_arePlates wsX7_arePlates) := goodIn_app (goodIn_of _ (by decide +kernel)) ggX7_can_X7_arePlates
set_option maxRecDepth 20000 in
theorem ggX7_can_X7_makesSum : GoodIn wsX7_can wsX7_makesSum := goodIn_r _ [29, 30, 31, 32, 4, 33, 34, 35, 36, 37, 38, 13, 14, 15, 16, 17, 18, 19, 20, 21, 22, 47, 48, 49, 50, 51, 52, 53, 54, 55, 56, 57, 58, 59, 60, 61, 62, 63, 64, 65, 66, 67] (by decide +kernel) (by decide +kernel)
set_option maxRecDepth 20000 in
theorem gX7_can_X7_makesSum : GoodIn wsX7_can (wsV RX7 120 RX7 yX7_makesSum wsX7_makesSum) := goodIn_app (goodIn_of _ (by decide +kernel)) ggX7_can_X7_makesSum
set_option maxRecDepth 20000 in
theorem ggX7_can_X7_holds : GoodIn wsX7_can wsX7_holds := goodIn_r _ [42, 30, 31, 32, 4, 33, 34, 35, 36, 37, 38, 47, 48, 49, 50, 51, 52, 53, 54, 55, 56, 57, 58, 59, 60, 61, 62, 63, 64, 65, 66, 67] (by decide +kernel) (by decide +kernel)
set_option maxRecDepth 20000 in
theorem gX7_can_X7_holds : GoodIn wsX7_can (wsV RX7 123 RX7 yX7_holds wsX7_holds) := goodIn_app (goodIn_of _ (by decide +kernel)) ggX7_can_X7_holds
set_option maxRecDepth 20000 in
theorem ggX7_can_X7_makesProduct : GoodIn wsX7_can wsX7_makesProduct := goodIn_r _ [46, 30, 31, 32, 4, 33, 34, 35, 36, 37, 38, 13, 14, 15, 16, 17, 18, 19, 20, 21, 22, 47, 48, 49, 50, 51, 52, 53, 54, 55, 56, 57, 58, 59, 60, 61, 62, 63, 64, 65, 66, 67] (by decide +kernel) (by decide +kernel)
set_option maxRecDepth 20000 in
theorem gX7_can_X7_makesProduct : GoodIn wsX7_can (wsV RX7 127 RX7 yX7_makesProduct wsX7_makesProduct) := goodIn_app (goodIn_of _ (by decide +kernel)) ggX7_can_X7_makesProduct
set_option maxRecDepth 20000 in
theorem ggX7_runText_X7_readsText : GoodIn wsX7_runText wsX7_readsText := goodIn_r _ [9, 10, 3, 11, 2, 12, 13, 14, 8, 15, 4, 16, 17, 18, 19, 20, 21, 22, 23, 24, 25, 26, 27, 28, 29, 30, 31, 95, 96, 97, 98, 99, 100, 101, 102, 103, 104, 105, 106, 107, 108, 109, 110, 111, 112, 113, 114, 115] (by decide +kernel) (by decide +kernel)
set_option maxRecDepth 20000 in
theorem gX7_runText_X7_readsText : GoodIn wsX7_runText (wsV RX7 198 RX7 yX7_readsText wsX7_readsText) := goodIn_app (goodIn_of _ (by decide +kernel)) ggX7_runText_X7_readsText
set_option maxRecDepth 20000 in
theorem ggX7_runText_X7_fails : GoodIn wsX7_runText wsX7_fails := goodIn_r _ [35, 1, 95, 96, 97, 98, 99, 100, 101, 102, 103, 104, 105, 106, 107, 108, 109, 110, 111, 112, 113, 114, 115] (by decide +kernel) (by decide +kernel)
set_option maxRecDepth 20000 in
theorem gX7_runText_X7_fails : GoodIn wsX7_runText (wsV RX7 101 RX7 yX7_fails wsX7_fails) := goodIn_app (goodIn_of _ (by decide +kernel)) ggX7_runText_X7_fails
set_option maxRecDepth 20000 in
theorem ggX7_runText_X7_records : GoodIn wsX7_runText wsX7_records := goodIn_r _ [39, 40, 41, 42, 95, 96, 97, 98, 99, 100, 101, 102, 103, 104, 105, 106, 107, 108, 109, 110, 111, 112, 113, 114, 115] (by decide +kernel) (by decide +kernel)
set_option maxRecDepth 20000 in
theorem gX7_runText_X7_records : GoodIn wsX7_runText (wsV RX7 110 RX7 yX7_records wsX7_records) := goodIn_app (goodIn_of _ (by decide +kernel)) ggX7_runText_X7_records
set_option maxRecDepth 20000 in
theorem ggX7_runText_X7_can : GoodIn wsX7_runText wsX7_can := goodIn_r _ [46, 4, 47, 48, 8, 49, 25, 26, 27, 50, 51, 52, 53, 54, 55, 56, 57, 58, 59, 60, 61, 62, 63, 64, 65, 66, 67, 68, 69, 70, 71, 72, 73, 74, 42, 75, 76, 77, 78, 79, 80, 81, 82, 83, 84, 85, 86, 95, 96, 97, 98, 99, 100, 101, 102, 103, 104, 105, 106, 107, 108, 109, 110, 111, 112, 113, 114, 115] (by decide +kernel) (by decide +kernel)
set_option maxRecDepth 20000 in
theorem gX7_runText_X7_can : GoodIn wsX7_runText (wsV RX7 202 RX7 yX7_can wsX7_can) := goodIn_app (goodIn_of _ (by decide +kernel)) ggX7_runText_X7_can
set_option maxRecDepth 20000 in
theorem ggX7_runText_X7_copies : GoodIn wsX7_runText wsX7_copies := goodIn_r _ [90, 42, 79, 80, 81, 8, 82, 71, 72, 73, 74, 75, 76, 77, 78, 95, 96, 97, 98, 99, 100, 101, 102, 103, 104, 105, 106, 107, 108, 109, 110, 111, 112, 113, 114, 115] (by decide +kernel) (by decide +kernel)
set_option maxRecDepth 20000 in
theorem gX7_runText_X7_copies : GoodIn wsX7_runText (wsV RX7 130 RX7 yX7_copies wsX7_copies) := goodIn_app (goodIn_of _ (by decide +kernel)) ggX7_runText_X7_copies
set_option maxRecDepth 20000 in
theorem ggX7_runText_X7_puts : GoodIn wsX7_runText wsX7_puts := goodIn_r _ [94, 42, 58, 59, 95, 96, 97, 98, 99, 100, 101, 102, 103, 104, 105, 106, 107, 108, 109, 110, 111, 112, 113, 114, 115] (by decide +kernel) (by decide +kernel)
set_option maxRecDepth 20000 in
theorem gX7_runText_X7_puts : GoodIn wsX7_runText (wsV RX7 113 RX7 yX7_puts wsX7_puts) := goodIn_app (goodIn_of _ (by decide +kernel)) ggX7_runText_X7_puts
set_option maxRecDepth 20000 in
theorem ggX7_undo_X7_fails : GoodIn wsX7_undo wsX7_fails := goodIn_r _ [9, 1, 10, 11, 12, 13, 14, 15, 16, 17, 18, 19, 20, 21, 22, 23, 24, 25, 26, 27, 28, 29, 30] (by decide +kernel) (by decide +kernel)
set_option maxRecDepth 20000 in
theorem gX7_undo_X7_fails : GoodIn wsX7_undo (wsV RX7 101 RX7 yX7_fails wsX7_fails) := goodIn_app (goodIn_of _ (by decide +kernel)) ggX7_undo_X7_fails
set_option maxRecDepth 20000 in
theorem ggX7_saveState_X7_in : GoodIn wsX7_saveState wsX7_in := goodIn_r _ [8] (by decide +kernel) (by decide +kernel)
set_option maxRecDepth 20000 in
theorem gX7_saveState_X7_in : GoodIn wsX7_saveState (va_wsS RX7 39 yX7_in wsX7_in) := goodIn_app (goodIn_of _ (by decide +kernel)) ggX7_saveState_X7_in
set_option maxRecDepth 20000 in
theorem ggX7_saveState_X7_fails : GoodIn wsX7_saveState wsX7_fails := goodIn_r _ [12, 1, 21, 22, 23, 24, 25, 26, 27, 28, 29, 30, 31, 32, 33, 34, 35, 36, 37, 38, 39, 40, 41] (by decide +kernel) (by decide +kernel)
set_option maxRecDepth 20000 in
theorem gX7_saveState_X7_fails : GoodIn wsX7_saveState (wsV RX7 101 RX7 yX7_fails wsX7_fails) := goodIn_app (goodIn_of _ (by decide +kernel)) ggX7_saveState_X7_fails
set_option maxRecDepth 20000 in
theorem ggX7_saveState_X7_wholeMany : GoodIn wsX7_saveState wsX7_wholeMany := goodIn_r _ [16, 17, 18, 19, 7, 20, 3, 21, 22, 23, 24, 25, 26, 27, 28, 29, 30, 31, 32, 33, 34, 35, 36, 37, 38, 39, 40, 41] (by decide +kernel) (by decide +kernel)
set_option maxRecDepth 20000 in
theorem gX7_saveState_X7_wholeMany : GoodIn wsX7_saveState (wsV RX7 205 RX7 yX7_wholeMany wsX7_wholeMany) := goodIn_app (goodIn_of _ (by decide +kernel)) ggX7_saveState_X7_wholeMany
set_option maxRecDepth 20000 in
theorem ggX7_loadState_X7_in : GoodIn wsX7_loadState wsX7_in := goodIn_r _ [8] (by decide +kernel) (by decide +kernel)
set_option maxRecDepth 20000 in
theorem gX7_loadState_X7_in : GoodIn wsX7_loadState (va_wsS RX7 39 yX7_in wsX7_in) := goodIn_app (goodIn_of _ (by decide +kernel)) ggX7_loadState_X7_in
set_option maxRecDepth 20000 in
theorem ggX7_loadState_X7_fails : GoodIn wsX7_loadState wsX7_fails := goodIn_r _ [12, 1, 27, 28, 29, 30, 31, 32, 33, 34, 35, 36, 37, 38, 39, 40, 41, 42, 43, 44, 45, 46, 47] (by decide +kernel) (by decide +kernel)
set_option maxRecDepth 20000 in
theorem gX7_loadState_X7_fails : GoodIn wsX7_loadState (wsV RX7 101 RX7 yX7_fails wsX7_fails) := goodIn_app (goodIn_of _ (by decide +kernel)) ggX7_loadState_X7_fails
set_option maxRecDepth 20000 in
theorem ggX7_loadState_X7_records : GoodIn wsX7_loadState wsX7_records := goodIn_r _ [16, 17, 18, 3, 27, 28, 29, 30, 31, 32, 33, 34, 35, 36, 37, 38, 39, 40, 41, 42, 43, 44, 45, 46, 47] (by decide +kernel) (by decide +kernel)
set_option maxRecDepth 20000 in
theorem gX7_loadState_X7_records : GoodIn wsX7_loadState (wsV RX7 110 RX7 yX7_records wsX7_records) := goodIn_app (goodIn_of _ (by decide +kernel)) ggX7_loadState_X7_records
set_option maxRecDepth 20000 in
theorem ggX7_loadState_X7_wholeMany : GoodIn wsX7_loadState wsX7_wholeMany := goodIn_r _ [22, 23, 24, 25, 7, 26, 3, 27, 28, 29, 30, 31, 32, 33, 34, 35, 36, 37, 38, 39, 40, 41, 42, 43, 44, 45, 46, 47] (by decide +kernel) (by decide +kernel)
set_option maxRecDepth 20000 in
theorem gX7_loadState_X7_wholeMany : GoodIn wsX7_loadState (wsV RX7 205 RX7 yX7_wholeMany wsX7_wholeMany) := goodIn_app (goodIn_of _ (by decide +kernel)) ggX7_loadState_X7_wholeMany
set_option maxRecDepth 20000 in
theorem ggL_set_X6_set : GoodIn wsL_set wsX6_set := goodIn_ca (goodIn_ca (goodIn_r _ [7, 8, 9, 10, 11, 12, 6, 13, 14, 15, 16, 17, 18, 19, 20, 21, 22, 23, 24, 25, 26, 27, 28, 29, 30, 31, 32, 33, 34, 35, 36, 37, 38, 39, 40, 41, 42, 43, 44, 45, 46, 47, 48, 49, 50, 51, 52, 53, 54, 55, 56, 57, 58, 59, 60, 61, 62, 63, 64, 65, 66, 67, 68, 69, 70] (by decide +kernel) (by decide +kernel)) (goodIn_sub (fun _ h => List.mem_cons_of_mem _ (List.mem_append_left _ (List.mem_append_right _ h))) (by decide +kernel))) (goodIn_sub (fun _ h => List.mem_cons_of_mem _ (List.mem_append_right _ h)) (by decide +kernel))
set_option maxRecDepth 20000 in
theorem gL_set_X6_set : GoodIn wsL_set (wsV RL 7 RX6 yX6_set wsX6_set) := goodIn_app (goodIn_of _ (by decide +kernel)) ggL_set_X6_set
set_option maxRecDepth 20000 in
theorem ggL_add_X6_add : GoodIn wsL_add wsX6_add := goodIn_ca (goodIn_ca (goodIn_r _ [7, 8, 9, 10, 6, 11, 12, 13, 14, 15, 16, 17, 18, 19, 20, 21, 22, 23, 24, 25, 26, 27, 28, 29, 30, 31, 32, 33, 34, 35, 36, 37, 38, 39, 40, 41, 42, 43, 44, 45, 46, 47, 48, 49, 50, 51, 52, 53, 54, 55, 56, 57, 58, 59, 60, 61, 62, 63, 64, 65, 66, 67, 68, 69, 70, 71, 72, 73, 74, 75, 76, 77, 78, 79, 80, 81] (by decide +kernel) (by decide +kernel)) (goodIn_sub (fun _ h => List.mem_cons_of_mem _ (List.mem_append_left _ (List.mem_append_right _ h))) (by decide +kernel))) (goodIn_sub (fun _ h => List.mem_cons_of_mem _ (List.mem_append_right _ h)) (by decide +kernel))
set_option maxRecDepth 20000 in
theorem gL_add_X6_add : GoodIn wsL_add (wsV RL 17 RX6 yX6_add wsX6_add) := goodIn_app (goodIn_of _ (by decide +kernel)) ggL_add_X6_add
set_option maxRecDepth 20000 in
theorem ggL_takeAway_X6_takeAway : GoodIn wsL_takeAway wsX6_takeAway := goodIn_ca (goodIn_ca (goodIn_r _ [7, 8, 9, 10, 6, 11, 12, 13, 14, 15, 16, 17, 18, 19, 20, 21, 22, 23, 24, 25, 26, 27, 28, 29, 30, 31, 32, 33, 34, 35, 36, 37, 38, 39, 40, 41, 42, 43, 44, 45, 46, 47, 48, 49, 50, 51, 52, 53, 54, 55, 56, 57, 58, 59, 60, 61, 62, 63, 64, 65, 66, 67, 68, 69, 70, 71, 72, 73, 74, 75, 76, 77, 78, 79, 80, 81] (by decide +kernel) (by decide +kernel)) (goodIn_sub (fun _ h => List.mem_cons_of_mem _ (List.mem_append_left _ (List.mem_append_right _ h))) (by decide +kernel))) (goodIn_sub (fun _ h => List.mem_cons_of_mem _ (List.mem_append_right _ h)) (by decide +kernel))
set_option maxRecDepth 20000 in
theorem gL_takeAway_X6_takeAway : GoodIn wsL_takeAway (wsV RL 23 RX6 yX6_takeAway wsX6_takeAway) := goodIn_app (goodIn_of _ (by decide +kernel)) ggL_takeAway_X6_takeAway
set_option maxRecDepth 20000 in
theorem ggL_multiply_X6_multiply : GoodIn wsL_multiply wsX6_multiply := goodIn_ca (goodIn_ca (goodIn_r _ [7, 8, 9, 10, 6, 11, 12, 13, 14, 15, 16, 17, 18, 19, 20, 21, 22, 23, 24, 25, 26, 27, 28, 29, 30, 31, 32, 33, 34, 35, 36, 37, 38, 39, 40, 41, 42, 43, 44, 45, 46, 47, 48, 49, 50, 51, 52, 53, 54, 55, 56, 57, 58, 59, 60, 61, 62, 63, 64, 65, 66, 67, 68, 69, 70, 71, 72, 73, 74, 75, 76, 77, 78, 79, 80, 81] (by decide +kernel) (by decide +kernel)) (goodIn_sub (fun _ h => List.mem_cons_of_mem _ (List.mem_append_left _ (List.mem_append_right _ h))) (by decide +kernel))) (goodIn_sub (fun _ h => List.mem_cons_of_mem _ (List.mem_append_right _ h)) (by decide +kernel))
set_option maxRecDepth 20000 in
theorem gL_multiply_X6_multiply : GoodIn wsL_multiply (wsV RL 26 RX6 yX6_multiply wsX6_multiply) := goodIn_app (goodIn_of _ (by decide +kernel)) ggL_multiply_X6_multiply
set_option maxRecDepth 20000 in
theorem ggL_copyTo_X6_copyTo : GoodIn wsL_copyTo wsX6_copyTo := goodIn_ca (goodIn_r _ [6, 7, 8, 9, 5, 10, 11, 12, 13, 14, 15, 16, 17, 18, 19, 20, 21, 22, 23, 24, 25, 26, 27, 28, 29, 30, 31, 32, 33, 34, 35, 36, 37, 38, 39, 40, 41, 42, 43, 44, 45, 46, 47, 48, 49, 50, 51, 52, 53, 54, 55] (by decide +kernel) (by decide +kernel)) (goodIn_sub (fun _ h => List.mem_cons_of_mem _ (List.mem_append_right _ h)) (by decide +kernel))
set_option maxRecDepth 20000 in
theorem gL_copyTo_X6_copyTo : GoodIn wsL_copyTo (wsV RL 29 RX6 yX6_copyTo wsX6_copyTo) := goodIn_app (goodIn_of _ (by decide +kernel)) ggL_copyTo_X6_copyTo
set_option maxRecDepth 20000 in
theorem ggL_invert_X6_invert : GoodIn wsL_invert wsX6_invert := goodIn_ca (goodIn_ca (goodIn_r _ [7, 8, 9, 10, 11, 6, 12, 13, 14, 15, 16, 17, 18, 19, 20, 21, 22, 23, 24, 25, 26, 27, 28, 29, 30, 31, 32, 33, 34, 35, 36, 37, 38, 39, 40, 41, 42, 43, 44, 45, 46, 47, 48, 49, 50, 51, 52, 53, 54, 55, 56, 57, 58, 59, 60, 61, 62, 63, 64, 65, 66, 67, 68, 69, 70, 71, 72, 73, 74, 75, 76] (by decide +kernel) (by decide +kernel)) (goodIn_sub (fun _ h => List.mem_cons_of_mem _ (List.mem_append_left _ (List.mem_append_right _ h))) (by decide +kernel))) (goodIn_sub (fun _ h => List.mem_cons_of_mem _ (List.mem_append_right _ h)) (by decide +kernel))
set_option maxRecDepth 20000 in
theorem gL_invert_X6_invert : GoodIn wsL_invert (wsV RL 33 RX6 yX6_invert wsX6_invert) := goodIn_app (goodIn_of _ (by decide +kernel)) ggL_invert_X6_invert
set_option maxRecDepth 20000 in
theorem ggL_share_X6_share : GoodIn wsL_share wsX6_share := goodIn_ca (goodIn_ca (goodIn_ca (goodIn_r _ [8, 9, 10, 11, 12, 13, 7, 14, 15, 16, 17, 18, 19, 20, 21, 22, 23, 24, 25, 26, 27, 28, 29, 30, 31, 32, 33, 34, 35, 36, 37, 38, 39, 40, 41, 42, 43, 44, 45, 46, 47, 48, 49, 50, 51, 52, 53, 54, 55, 56, 57, 58, 59, 60, 61, 62, 63, 64, 65, 66, 67, 68, 69, 70, 71, 72, 73, 74, 75, 76, 77, 78, 79, 80] (by decide +kernel) (by decide +kernel)) (goodIn_sub (fun _ h => List.mem_cons_of_mem _ (List.mem_append_left _ (List.mem_append_left _ (List.mem_append_right _ h)))) (by decide +kernel))) (goodIn_sub (fun _ h => List.mem_cons_of_mem _ (List.mem_append_left _ (List.mem_append_right _ h))) (by decide +kernel))) (goodIn_sub (fun _ h => List.mem_cons_of_mem _ (List.mem_append_right _ h)) (by decide +kernel))
set_option maxRecDepth 20000 in
theorem gL_share_X6_share : GoodIn wsL_share (wsV RL 37 RX6 yX6_share wsX6_share) := goodIn_app (goodIn_of _ (by decide +kernel)) ggL_share_X6_share
