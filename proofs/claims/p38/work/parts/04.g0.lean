set_option maxRecDepth 20000 in
theorem ggX0_accept_X0_acceptLetter : GoodIn wsX0_accept wsX0_acceptLetter := goodIn_r _ [6, 7, 8, 9, 10, 1, 43, 44, 45, 46, 47, 48] (by decide +kernel) (by decide +kernel)
set_option maxRecDepth 20000 in
theorem gX0_accept_X0_acceptLetter : GoodIn wsX0_accept (wsV RX0 28 RX0 yX0_acceptLetter wsX0_acceptLetter) := goodIn_app (goodIn_of _ (by decide +kernel)) ggX0_accept_X0_acceptLetter
set_option maxRecDepth 20000 in
theorem ggX0_accept_X0_acceptPlate : GoodIn wsX0_accept wsX0_acceptPlate := goodIn_r _ [14, 15, 1, 16, 17, 5, 18, 43, 44, 45, 46, 47, 48] (by decide +kernel) (by decide +kernel)
set_option maxRecDepth 20000 in
theorem gX0_accept_X0_acceptPlate : GoodIn wsX0_accept (wsV RX0 32 RX0 yX0_acceptPlate wsX0_acceptPlate) := goodIn_app (goodIn_of _ (by decide +kernel)) ggX0_accept_X0_acceptPlate
set_option maxRecDepth 20000 in
theorem ggX0_accept_X0_acceptSignBehindPlate : GoodIn wsX0_accept wsX0_acceptSignBehindPlate := goodIn_r _ [22, 7, 1, 43, 44, 45, 46, 47, 48] (by decide +kernel) (by decide +kernel)
set_option maxRecDepth 20000 in
theorem gX0_accept_X0_acceptSignBehindPlate : GoodIn wsX0_accept (wsV RX0 35 RX0 yX0_acceptSignBehindPlate wsX0_acceptSignBehindPlate) := goodIn_app (goodIn_of _ (by decide +kernel)) ggX0_accept_X0_acceptSignBehindPlate
set_option maxRecDepth 20000 in
theorem ggX0_accept_X0_acceptFirstNumber : GoodIn wsX0_accept wsX0_acceptFirstNumber := goodIn_r _ [26, 8, 10, 1, 27, 28, 29, 5, 30, 16, 17, 18, 43, 44, 45, 46, 47, 48] (by decide +kernel) (by decide +kernel)
set_option maxRecDepth 20000 in
theorem gX0_accept_X0_acceptFirstNumber : GoodIn wsX0_accept (wsV RX0 38 RX0 yX0_acceptFirstNumber wsX0_acceptFirstNumber) := goodIn_app (goodIn_of _ (by decide +kernel)) ggX0_accept_X0_acceptFirstNumber
set_option maxRecDepth 20000 in
theorem ggX0_accept_X0_acceptSecondNumber : GoodIn wsX0_accept wsX0_acceptSecondNumber := goodIn_r _ [34, 9, 10, 27, 28, 29, 5, 30, 16, 17, 18, 35, 36, 37, 38, 1, 43, 44, 45, 46, 47, 48] (by decide +kernel) (by decide +kernel)
set_option maxRecDepth 20000 in
theorem gX0_accept_X0_acceptSecondNumber : GoodIn wsX0_accept (wsV RX0 41 RX0 yX0_acceptSecondNumber wsX0_acceptSecondNumber) := goodIn_app (goodIn_of _ (by decide +kernel)) ggX0_accept_X0_acceptSecondNumber
set_option maxRecDepth 20000 in
theorem ggX0_accept_X0_acceptOtherPlate : GoodIn wsX0_accept wsX0_acceptOtherPlate := goodIn_r _ [42, 9, 1, 16, 17, 5, 18, 43, 44, 45, 46, 47, 48] (by decide +kernel) (by decide +kernel)
set_option maxRecDepth 20000 in
theorem gX0_accept_X0_acceptOtherPlate : GoodIn wsX0_accept (wsV RX0 44 RX0 yX0_acceptOtherPlate wsX0_acceptOtherPlate) := goodIn_app (goodIn_of _ (by decide +kernel)) ggX0_accept_X0_acceptOtherPlate
set_option maxRecDepth 20000 in
theorem ggX0_accept_X0_acceptEnd : GoodIn wsX0_accept wsX0_acceptEnd := goodIn_r _ [38, 1, 43, 44, 45, 46, 47, 48] (by decide +kernel) (by decide +kernel)
set_option maxRecDepth 20000 in
theorem gX0_accept_X0_acceptEnd : GoodIn wsX0_accept (wsV RX0 47 RX0 yX0_acceptEnd wsX0_acceptEnd) := goodIn_app (goodIn_of _ (by decide +kernel)) ggX0_accept_X0_acceptEnd
set_option maxRecDepth 20000 in
theorem ggX0_acceptPlate_X0_isDigit : GoodIn wsX0_acceptPlate wsX0_isDigit := goodIn_r _ [6] (by decide +kernel) (by decide +kernel)
set_option maxRecDepth 20000 in
theorem gX0_acceptPlate_X0_isDigit : GoodIn wsX0_acceptPlate (va_wsS RX0 50 yX0_isDigit wsX0_isDigit) := goodIn_app (goodIn_of _ (by decide +kernel)) ggX0_acceptPlate_X0_isDigit
set_option maxRecDepth 20000 in
theorem ggX0_acceptFirstNumber_X0_canFollow : GoodIn wsX0_acceptFirstNumber wsX0_canFollow := goodIn_r _ [8, 2, 9, 10, 7, 11, 12, 13, 14, 15, 16, 17] (by decide +kernel) (by decide +kernel)
set_option maxRecDepth 20000 in
theorem gX0_acceptFirstNumber_X0_canFollow : GoodIn wsX0_acceptFirstNumber (wsV RX0 53 RX0 yX0_canFollow wsX0_canFollow) := goodIn_app (goodIn_of _ (by decide +kernel)) ggX0_acceptFirstNumber_X0_canFollow
set_option maxRecDepth 20000 in
theorem ggX0_acceptSecondNumber_X0_canFollow : GoodIn wsX0_acceptSecondNumber wsX0_canFollow := goodIn_r _ [7, 2, 8, 9, 6, 10, 16, 17, 18, 19, 20, 21] (by decide +kernel) (by decide +kernel)
set_option maxRecDepth 20000 in
theorem gX0_acceptSecondNumber_X0_canFollow : GoodIn wsX0_acceptSecondNumber (wsV RX0 53 RX0 yX0_canFollow wsX0_canFollow) := goodIn_app (goodIn_of _ (by decide +kernel)) ggX0_acceptSecondNumber_X0_canFollow
set_option maxRecDepth 20000 in
theorem ggX0_acceptSecondNumber_X0_acceptEnd : GoodIn wsX0_acceptSecondNumber wsX0_acceptEnd := goodIn_r _ [14, 15, 16, 17, 18, 19, 20, 21] (by decide +kernel) (by decide +kernel)
set_option maxRecDepth 20000 in
theorem gX0_acceptSecondNumber_X0_acceptEnd : GoodIn wsX0_acceptSecondNumber (wsV RX0 47 RX0 yX0_acceptEnd wsX0_acceptEnd) := goodIn_app (goodIn_of _ (by decide +kernel)) ggX0_acceptSecondNumber_X0_acceptEnd
set_option maxRecDepth 20000 in
theorem ggX0_acceptOtherPlate_X0_isDigit : GoodIn wsX0_acceptOtherPlate wsX0_isDigit := goodIn_r _ [6] (by decide +kernel) (by decide +kernel)
set_option maxRecDepth 20000 in
theorem gX0_acceptOtherPlate_X0_isDigit : GoodIn wsX0_acceptOtherPlate (va_wsS RX0 50 yX0_isDigit wsX0_isDigit) := goodIn_app (goodIn_of _ (by decide +kernel)) ggX0_acceptOtherPlate_X0_isDigit
set_option maxRecDepth 20000 in
theorem ggX0_canFollow_X0_isDigit : GoodIn wsX0_canFollow wsX0_isDigit := goodIn_r _ [5] (by decide +kernel) (by decide +kernel)
set_option maxRecDepth 20000 in
theorem gX0_canFollow_X0_isDigit : GoodIn wsX0_canFollow (va_wsS RX0 50 yX0_isDigit wsX0_isDigit) := goodIn_app (goodIn_of _ (by decide +kernel)) ggX0_canFollow_X0_isDigit
set_option maxRecDepth 20000 in
theorem ggX2_expand_X3_numerator : GoodIn wsX2_expand wsX3_numerator := goodIn_r _ [7] (by decide +kernel) (by decide +kernel)
set_option maxRecDepth 20000 in
theorem gX2_expand_X3_numerator : GoodIn wsX2_expand (va_wsS RX2 17 yX3_numerator wsX3_numerator) := goodIn_app (goodIn_of _ (by decide +kernel)) ggX2_expand_X3_numerator
set_option maxRecDepth 20000 in
theorem ggX2_expand_X3_denominator : GoodIn wsX2_expand wsX3_denominator := goodIn_r _ [10, 11, 12, 13, 14, 15] (by decide +kernel) (by decide +kernel)
set_option maxRecDepth 20000 in
theorem gX2_expand_X3_denominator : GoodIn wsX2_expand (va_wsS RX2 23 yX3_denominator wsX3_denominator) := goodIn_app (goodIn_of _ (by decide +kernel)) ggX2_expand_X3_denominator
set_option maxRecDepth 20000 in
theorem ggX2_expand_X2_nextBeginning : GoodIn wsX2_expand wsX2_nextBeginning := goodIn_r _ [20, 3, 21, 22, 6, 23, 4, 5, 7, 8, 9, 10, 11, 12, 13, 14, 15, 24, 25, 26] (by decide +kernel) (by decide +kernel)
set_option maxRecDepth 20000 in
theorem gX2_expand_X2_nextBeginning : GoodIn wsX2_expand (wsV RX2 30 RX2 yX2_nextBeginning wsX2_nextBeginning) := goodIn_app (goodIn_of _ (by decide +kernel)) ggX2_expand_X2_nextBeginning
set_option maxRecDepth 20000 in
theorem ggX2_nextBeginning_X3_pair : GoodIn wsX2_nextBeginning wsX3_pair := goodIn_r _ [5] (by decide +kernel) (by decide +kernel)
set_option maxRecDepth 20000 in
theorem gX2_nextBeginning_X3_pair : GoodIn wsX2_nextBeginning (va_wsS RX2 34 yX3_pair wsX3_pair) := goodIn_app (goodIn_of _ (by decide +kernel)) ggX2_nextBeginning_X3_pair
set_option maxRecDepth 20000 in
theorem ggX2_nextBeginning_X3_numerator : GoodIn wsX2_nextBeginning wsX3_numerator := goodIn_r _ [8] (by decide +kernel) (by decide +kernel)
set_option maxRecDepth 20000 in
theorem gX2_nextBeginning_X3_numerator : GoodIn wsX2_nextBeginning (va_wsS RX2 17 yX3_numerator wsX3_numerator) := goodIn_app (goodIn_of _ (by decide +kernel)) ggX2_nextBeginning_X3_numerator
set_option maxRecDepth 20000 in
theorem ggX2_nextBeginning_X3_denominator : GoodIn wsX2_nextBeginning wsX3_denominator := goodIn_r _ [11, 12, 13, 14, 15, 16] (by decide +kernel) (by decide +kernel)
set_option maxRecDepth 20000 in
theorem gX2_nextBeginning_X3_denominator : GoodIn wsX2_nextBeginning (va_wsS RX2 23 yX3_denominator wsX3_denominator) := goodIn_app (goodIn_of _ (by decide +kernel)) ggX2_nextBeginning_X3_denominator
set_option maxRecDepth 20000 in
theorem ggX2_nearest_X3_denominator : GoodIn wsX2_nearest wsX3_denominator := goodIn_r _ [6, 7, 8, 9, 10, 11] (by decide +kernel) (by decide +kernel)
set_option maxRecDepth 20000 in
theorem gX2_nearest_X3_denominator : GoodIn wsX2_nearest (va_wsS RX2 23 yX3_denominator wsX3_denominator) := goodIn_app (goodIn_of _ (by decide +kernel)) ggX2_nearest_X3_denominator
set_option maxRecDepth 20000 in
theorem ggX2_nearest_X2_nextBeginning : GoodIn wsX2_nearest wsX2_nextBeginning := goodIn_r _ [16, 2, 17, 18, 5, 19, 20, 21, 22, 3, 4, 6, 7, 8, 9, 10, 11, 34, 35, 36] (by decide +kernel) (by decide +kernel)
set_option maxRecDepth 20000 in
theorem gX2_nearest_X2_nextBeginning : GoodIn wsX2_nearest (wsV RX2 30 RX2 yX2_nextBeginning wsX2_nextBeginning) := goodIn_app (goodIn_of _ (by decide +kernel)) ggX2_nearest_X2_nextBeginning
set_option maxRecDepth 20000 in
theorem ggX2_nearest_X3_nearer : GoodIn wsX2_nearest wsX3_nearer := goodIn_r _ [25, 26, 27, 5, 28, 29, 30, 10, 31, 32, 21, 22, 33, 4, 6, 7, 8, 9, 11] (by decide +kernel) (by decide +kernel)
set_option maxRecDepth 20000 in
theorem gX2_nearest_X3_nearer : GoodIn wsX2_nearest (va_wsS RX2 38 yX3_nearer wsX3_nearer) := goodIn_app (goodIn_of _ (by decide +kernel)) ggX2_nearest_X3_nearer
set_option maxRecDepth 20000 in
theorem ggX3_inLowestTerms_X3_commonDivisor : GoodIn wsX3_inLowestTerms wsX3_commonDivisor := goodIn_r _ [6, 7, 8, 9, 10] (by decide +kernel) (by decide +kernel)
set_option maxRecDepth 20000 in
theorem gX3_inLowestTerms_X3_commonDivisor : GoodIn wsX3_inLowestTerms (va_wsS RX3 21 yX3_commonDivisor wsX3_commonDivisor) := goodIn_app (goodIn_of _ (by decide +kernel)) ggX3_inLowestTerms_X3_commonDivisor
set_option maxRecDepth 20000 in
theorem ggX3_inLowestTerms_X3_pair : GoodIn wsX3_inLowestTerms wsX3_pair := goodIn_r _ [13] (by decide +kernel) (by decide +kernel)
set_option maxRecDepth 20000 in
theorem gX3_inLowestTerms_X3_pair : GoodIn wsX3_inLowestTerms (va_wsS RX3 26 yX3_pair wsX3_pair) := goodIn_app (goodIn_of _ (by decide +kernel)) ggX3_inLowestTerms_X3_pair
set_option maxRecDepth 20000 in
theorem ggX3_sum_X3_numerator : GoodIn wsX3_sum wsX3_numerator := goodIn_r _ [4] (by decide +kernel) (by decide +kernel)
set_option maxRecDepth 20000 in
theorem gX3_sum_X3_numerator : GoodIn wsX3_sum (va_wsS RX3 29 yX3_numerator wsX3_numerator) := goodIn_app (goodIn_of _ (by decide +kernel)) ggX3_sum_X3_numerator
set_option maxRecDepth 20000 in
theorem ggX3_sum_X3_denominator : GoodIn wsX3_sum wsX3_denominator := goodIn_r _ [7, 8, 9, 10, 11, 12] (by decide +kernel) (by decide +kernel)
set_option maxRecDepth 20000 in
theorem gX3_sum_X3_denominator : GoodIn wsX3_sum (va_wsS RX3 33 yX3_denominator wsX3_denominator) := goodIn_app (goodIn_of _ (by decide +kernel)) ggX3_sum_X3_denominator
set_option maxRecDepth 20000 in
theorem ggX3_sum_X3_inLowestTerms : GoodIn wsX3_sum wsX3_inLowestTerms := goodIn_r _ [15, 16, 17, 18, 19, 3, 20, 9, 10, 11, 12, 21, 22, 23] (by decide +kernel) (by decide +kernel)
set_option maxRecDepth 20000 in
theorem gX3_sum_X3_inLowestTerms : GoodIn wsX3_sum (va_wsS RX3 36 yX3_inLowestTerms wsX3_inLowestTerms) := goodIn_app (goodIn_of _ (by decide +kernel)) ggX3_sum_X3_inLowestTerms
set_option maxRecDepth 20000 in
theorem ggX3_difference_X3_numerator : GoodIn wsX3_difference wsX3_numerator := goodIn_r _ [4] (by decide +kernel) (by decide +kernel)
set_option maxRecDepth 20000 in
theorem gX3_difference_X3_numerator : GoodIn wsX3_difference (va_wsS RX3 29 yX3_numerator wsX3_numerator) := goodIn_app (goodIn_of _ (by decide +kernel)) ggX3_difference_X3_numerator
set_option maxRecDepth 20000 in
theorem ggX3_difference_X3_denominator : GoodIn wsX3_difference wsX3_denominator := goodIn_r _ [7, 8, 9, 10, 11, 12] (by decide +kernel) (by decide +kernel)
set_option maxRecDepth 20000 in
theorem gX3_difference_X3_denominator : GoodIn wsX3_difference (va_wsS RX3 33 yX3_denominator wsX3_denominator) := goodIn_app (goodIn_of _ (by decide +kernel)) ggX3_difference_X3_denominator
set_option maxRecDepth 20000 in
theorem ggX3_difference_X3_inLowestTerms : GoodIn wsX3_difference wsX3_inLowestTerms := goodIn_r _ [15, 16, 17, 18, 19, 3, 20, 9, 10, 11, 12, 21, 22, 23] (by decide +kernel) (by decide +kernel)
set_option maxRecDepth 20000 in
theorem gX3_difference_X3_inLowestTerms : GoodIn wsX3_difference (va_wsS RX3 36 yX3_inLowestTerms wsX3_inLowestTerms) := goodIn_app (goodIn_of _ (by decide +kernel)) ggX3_difference_X3_inLowestTerms
set_option maxRecDepth 20000 in
theorem ggX3_product_X3_numerator : GoodIn wsX3_product wsX3_numerator := goodIn_r _ [4] (by decide +kernel) (by decide +kernel)
set_option maxRecDepth 20000 in
theorem gX3_product_X3_numerator : GoodIn wsX3_product (va_wsS RX3 29 yX3_numerator wsX3_numerator) := goodIn_app (goodIn_of _ (by decide +kernel)) ggX3_product_X3_numerator
set_option maxRecDepth 20000 in
theorem ggX3_product_X3_denominator : GoodIn wsX3_product wsX3_denominator := goodIn_r _ [7, 8, 9, 10, 11, 12] (by decide +kernel) (by decide +kernel)
set_option maxRecDepth 20000 in
theorem gX3_product_X3_denominator : GoodIn wsX3_product (va_wsS RX3 33 yX3_denominator wsX3_denominator) := goodIn_app (goodIn_of _ (by decide +kernel)) ggX3_product_X3_denominator
set_option maxRecDepth 20000 in
theorem ggX3_product_X3_inLowestTerms : GoodIn wsX3_product wsX3_inLowestTerms := goodIn_r _ [15, 16, 17, 18, 19, 3, 20, 9, 10, 11, 12, 21, 22, 23] (by decide +kernel) (by decide +kernel)
set_option maxRecDepth 20000 in
theorem gX3_product_X3_inLowestTerms : GoodIn wsX3_product (va_wsS RX3 36 yX3_inLowestTerms wsX3_inLowestTerms) := goodIn_app (goodIn_of _ (by decide +kernel)) ggX3_product_X3_inLowestTerms
set_option maxRecDepth 20000 in
theorem ggX3_order_X3_numerator : GoodIn wsX3_order wsX3_numerator := goodIn_r _ [4] (by decide +kernel) (by decide +kernel)
set_option maxRecDepth 20000 in
theorem gX3_order_X3_numerator : GoodIn wsX3_order (va_wsS RX3 29 yX3_numerator wsX3_numerator) := goodIn_app (goodIn_of _ (by decide +kernel)) ggX3_order_X3_numerator
set_option maxRecDepth 20000 in
theorem ggX3_order_X3_denominator : GoodIn wsX3_order wsX3_denominator := goodIn_r _ [7, 8, 9, 10, 11, 12] (by decide +kernel) (by decide +kernel)
set_option maxRecDepth 20000 in
theorem gX3_order_X3_denominator : GoodIn wsX3_order (va_wsS RX3 33 yX3_denominator wsX3_denominator) := goodIn_app (goodIn_of _ (by decide +kernel)) ggX3_order_X3_denominator
set_option maxRecDepth 20000 in
theorem ggX3_partsApart_X3_numerator : GoodIn wsX3_partsApart wsX3_numerator := goodIn_r _ [8] (by decide +kernel) (by decide +kernel)
set_option maxRecDepth 20000 in
theorem gX3_partsApart_X3_numerator : GoodIn wsX3_partsApart (va_wsS RX3 29 yX3_numerator wsX3_numerator) := goodIn_app (goodIn_of _ (by decide +kernel)) ggX3_partsApart_X3_numerator
set_option maxRecDepth 20000 in
theorem ggX3_partsApart_X3_denominator : GoodIn wsX3_partsApart wsX3_denominator := goodIn_r _ [11, 12, 13, 14, 3, 15] (by decide +kernel) (by decide +kernel)
set_option maxRecDepth 20000 in
theorem gX3_partsApart_X3_denominator : GoodIn wsX3_partsApart (va_wsS RX3 33 yX3_denominator wsX3_denominator) := goodIn_app (goodIn_of _ (by decide +kernel)) ggX3_partsApart_X3_denominator
set_option maxRecDepth 20000 in
theorem ggX3_nearer_X3_distanceTimesDenominators : GoodIn wsX3_nearer wsX3_distanceTimesDenominators := goodIn_r _ [4, 5, 6, 7, 8, 9, 10, 3, 11, 12, 13, 14, 15, 16, 17, 18] (by decide +kernel) (by decide +kernel)
set_option maxRecDepth 20000 in
theorem gX3_nearer_X3_distanceTimesDenominators : GoodIn wsX3_nearer (va_wsS RX3 42 yX3_distanceTimesDenominators wsX3_distanceTimesDenominators) := goodIn_app (goodIn_of _ (by decide +kernel)) ggX3_nearer_X3_distanceTimesDenominators
set_option maxRecDepth 20000 in
theorem ggX3_nearer_X3_denominator : GoodIn wsX3_nearer wsX3_denominator := goodIn_r _ [14, 15, 16, 17, 7, 18] (by decide +kernel) (by decide +kernel)
set_option maxRecDepth 20000 in
theorem gX3_nearer_X3_denominator : GoodIn wsX3_nearer (va_wsS RX3 33 yX3_denominator wsX3_denominator) := goodIn_app (goodIn_of _ (by decide +kernel)) ggX3_nearer_X3_denominator
set_option maxRecDepth 20000 in
theorem ggX3_distanceTimesDenominators_X3_numerator : GoodIn wsX3_distanceTimesDenominators wsX3_numerator := goodIn_r _ [8] (by decide +kernel) (by decide +kernel)
set_option maxRecDepth 20000 in
theorem gX3_distanceTimesDenominators_X3_numerator : GoodIn wsX3_distanceTimesDenominators (va_wsS RX3 29 yX3_numerator wsX3_numerator) := goodIn_app (goodIn_of _ (by decide +kernel)) ggX3_distanceTimesDenominators_X3_numerator
set_option maxRecDepth 20000 in
theorem ggX3_distanceTimesDenominators_X3_denominator : GoodIn wsX3_distanceTimesDenominators wsX3_denominator := goodIn_r _ [11, 12, 13, 14, 3, 15] (by decide +kernel) (by decide +kernel)
set_option maxRecDepth 20000 in
theorem gX3_distanceTimesDenominators_X3_denominator : GoodIn wsX3_distanceTimesDenominators (va_wsS RX3 33 yX3_denominator wsX3_denominator) := goodIn_app (goodIn_of _ (by decide +kernel)) ggX3_distanceTimesDenominators_X3_denominator
set_option maxRecDepth 20000 in
theorem ggX4_record_X4_startBehindOldest : GoodIn wsX4_record wsX4_startBehindOldest := goodIn_r _ [12, 7, 13, 14, 15] (by decide +kernel) (by decide +kernel)
set_option maxRecDepth 20000 in
theorem gX4_record_X4_startBehindOldest : GoodIn wsX4_record (wsV RX4 19 RX4 yX4_startBehindOldest wsX4_startBehindOldest) := goodIn_app (goodIn_of _ (by decide +kernel)) ggX4_record_X4_startBehindOldest
set_option maxRecDepth 20000 in
theorem ggX4_restore_X4_startBehindOldest : GoodIn wsX4_restore wsX4_startBehindOldest := goodIn_r _ [11, 12, 13, 14, 15] (by decide +kernel) (by decide +kernel)
set_option maxRecDepth 20000 in
theorem gX4_restore_X4_startBehindOldest : GoodIn wsX4_restore (wsV RX4 19 RX4 yX4_startBehindOldest wsX4_startBehindOldest) := goodIn_app (goodIn_of _ (by decide +kernel)) ggX4_restore_X4_startBehindOldest
set_option maxRecDepth 20000 in
theorem ggX5_count_X5_unit : GoodIn wsX5_count wsX5_unit := goodIn_r _ [4, 5, 6, 7, 8, 9, 10, 11, 12, 13, 14, 15, 16, 17, 18] (by decide +kernel) (by decide +kernel)
set_option maxRecDepth 20000 in
theorem gX5_count_X5_unit : GoodIn wsX5_count (va_wsS RX5 9 yX5_unit wsX5_unit) := goodIn_app (goodIn_of _ (by decide +kernel)) ggX5_count_X5_unit
set_option maxRecDepth 20000 in
theorem ggX5_unit_X3_numerator : GoodIn wsX5_unit wsX3_numerator := goodIn_r _ [6] (by decide +kernel) (by decide +kernel)
set_option maxRecDepth 20000 in
theorem gX5_unit_X3_numerator : GoodIn wsX5_unit (va_wsS RX5 15 yX3_numerator wsX3_numerator) := goodIn_app (goodIn_of _ (by decide +kernel)) ggX5_unit_X3_numerator
set_option maxRecDepth 20000 in
theorem ggX5_unit_X3_denominator : GoodIn wsX5_unit wsX3_denominator := goodIn_r _ [9, 10, 11, 12, 13, 14] (by decide +kernel) (by decide +kernel)
set_option maxRecDepth 20000 in
theorem gX5_unit_X3_denominator : GoodIn wsX5_unit (va_wsS RX5 21 yX3_denominator wsX3_denominator) := goodIn_app (goodIn_of _ (by decide +kernel)) ggX5_unit_X3_denominator
set_option maxRecDepth 20000 in
theorem ggX6_init_X2_init : GoodIn wsX6_init wsX2_init := goodIn_r _ [26, 27, 2, 3, 28, 29, 4, 30, 50, 51, 52] (by decide +kernel) (by decide +kernel)
set_option maxRecDepth 20000 in
theorem gX6_init_X2_init_n17 : GoodIn wsX6_init (wsX2_init) := ggX6_init_X2_init
set_option maxRecDepth 20000 in
theorem ggX6_init_X1_init : GoodIn wsX6_init wsX1_init := goodIn_r _ [32, 33, 2, 3, 34, 35, 53, 54] (by decide +kernel) (by decide +kernel)
set_option maxRecDepth 20000 in
theorem gX6_init_X1_init_n24 : GoodIn wsX6_init (wsX1_init) := ggX6_init_X1_init
set_option maxRecDepth 20000 in
theorem ggX6_init_X0_init : GoodIn wsX6_init wsX0_init := goodIn_r _ [37, 38, 2, 3] (by decide +kernel) (by decide +kernel)
set_option maxRecDepth 20000 in
theorem gX6_init_X0_init_n31 : GoodIn wsX6_init (wsX0_init) := ggX6_init_X0_init
set_option maxRecDepth 20000 in
theorem ggX6_init_X4_init : GoodIn wsX6_init wsX4_init := goodIn_r _ [40, 41, 2, 3, 4, 42, 61, 62, 63] (by decide +kernel) (by decide +kernel)
set_option maxRecDepth 20000 in
theorem gX6_init_X4_init_n38 : GoodIn wsX6_init (wsX4_init) := ggX6_init_X4_init
set_option maxRecDepth 20000 in
theorem ggX6_set_X6_requirePlate : GoodIn wsX6_set wsX6_requirePlate := goodIn_ca (goodIn_r _ [7, 8, 9, 10, 11, 6, 12] (by decide +kernel) (by decide +kernel)) (goodIn_sub (fun _ h => List.mem_cons_of_mem _ (List.mem_append_right _ h)) (by decide +kernel))
set_option maxRecDepth 20000 in
theorem gX6_set_X6_requirePlate : GoodIn wsX6_set (va_wsS RX6 50 yX6_requirePlate wsX6_requirePlate) := goodIn_app (goodIn_of _ (by decide +kernel)) ggX6_set_X6_requirePlate
set_option maxRecDepth 20000 in
theorem ggX6_set_X3_inLowestTerms : GoodIn wsX6_set wsX3_inLowestTerms := goodIn_r _ [16, 17, 18, 19, 20, 15, 21, 22, 23, 24, 25, 26, 27, 28] (by decide +kernel) (by decide +kernel)
set_option maxRecDepth 20000 in
theorem gX6_set_X3_inLowestTerms : GoodIn wsX6_set (va_wsS RX6 64 yX3_inLowestTerms wsX3_inLowestTerms) := goodIn_app (goodIn_of _ (by decide +kernel)) ggX6_set_X3_inLowestTerms
set_option maxRecDepth 20000 in
theorem ggX6_set_X6_change : GoodIn wsX6_set wsX6_change := goodIn_r _ [32, 33, 34, 35, 36, 37, 38, 39, 40, 41, 42, 43, 44, 45, 46, 47, 48, 49, 50, 51, 52, 15, 53, 54, 22, 23, 24, 25, 55, 56, 57, 58, 59, 60, 61, 62, 63, 64] (by decide +kernel) (by decide +kernel)
set_option maxRecDepth 20000 in
theorem gX6_set_X6_change : GoodIn wsX6_set (wsV RX6 68 RX6 yX6_change wsX6_change) := goodIn_app (goodIn_of _ (by decide +kernel)) ggX6_set_X6_change
set_option maxRecDepth 20000 in
theorem ggX6_add_X6_requirePlate : GoodIn wsX6_add wsX6_requirePlate := goodIn_ca (goodIn_r _ [5, 6, 7, 8, 9, 4, 10] (by decide +kernel) (by decide +kernel)) (goodIn_sub (fun _ h => List.mem_cons_of_mem _ (List.mem_append_left _ (List.mem_append_right _ h))) (by decide +kernel))
set_option maxRecDepth 20000 in
theorem gX6_add_X6_requirePlate : GoodIn wsX6_add (va_wsS RX6 50 yX6_requirePlate wsX6_requirePlate) := goodIn_app (goodIn_of _ (by decide +kernel)) ggX6_add_X6_requirePlate
set_option maxRecDepth 20000 in
theorem ggX6_add_X3_sum : GoodIn wsX6_add wsX3_sum := goodIn_r _ [14, 15, 16, 13, 17, 18, 19, 20, 21, 22, 23, 24, 25, 26, 27, 28, 29, 30, 31, 32, 33, 34, 35, 36] (by decide +kernel) (by decide +kernel)
set_option maxRecDepth 20000 in
theorem gX6_add_X3_sum : GoodIn wsX6_add (va_wsS RX6 72 yX3_sum wsX3_sum) := goodIn_app (goodIn_of _ (by decide +kernel)) ggX6_add_X3_sum
set_option maxRecDepth 20000 in
theorem ggX6_add_X6_changeIfPossible : GoodIn wsX6_add wsX6_changeIfPossible := goodIn_ca (goodIn_r _ [40, 41, 42, 43, 44, 45, 46, 4, 47, 48, 1, 49, 50, 51, 52, 53, 54, 55, 56, 57, 58, 59, 60, 61, 62, 63, 64, 65, 19, 13, 20, 21, 22, 23, 24, 25, 66, 67, 68, 69, 70, 71, 72, 73, 74, 75] (by decide +kernel) (by decide +kernel)) (goodIn_sub (fun _ h => List.mem_cons_of_mem _ (List.mem_append_right _ h)) (by decide +kernel))
set_option maxRecDepth 20000 in
theorem gX6_add_X6_changeIfPossible : GoodIn wsX6_add (wsV RX6 75 RX6 yX6_changeIfPossible wsX6_changeIfPossible) := goodIn_app (goodIn_of _ (by decide +kernel)) ggX6_add_X6_changeIfPossible
set_option maxRecDepth 20000 in
theorem ggX6_takeAway_X6_requirePlate : GoodIn wsX6_takeAway wsX6_requirePlate := goodIn_ca (goodIn_r _ [5, 6, 7, 8, 9, 4, 10] (by decide +kernel) (by decide +kernel)) (goodIn_sub (fun _ h => List.mem_cons_of_mem _ (List.mem_append_left _ (List.mem_append_right _ h))) (by decide +kernel))
set_option maxRecDepth 20000 in
theorem gX6_takeAway_X6_requirePlate : GoodIn wsX6_takeAway (va_wsS RX6 50 yX6_requirePlate wsX6_requirePlate) := goodIn_app (goodIn_of _ (by decide +kernel)) ggX6_takeAway_X6_requirePlate
set_option maxRecDepth 20000 in
theorem ggX6_takeAway_X3_difference : GoodIn wsX6_takeAway wsX3_difference := goodIn_r _ [14, 15, 16, 13, 17, 18, 19, 20, 21, 22, 23, 24, 25, 26, 27, 28, 29, 30, 31, 32, 33, 34, 35, 36] (by decide +kernel) (by decide +kernel)
set_option maxRecDepth 20000 in
theorem gX6_takeAway_X3_difference : GoodIn wsX6_takeAway (va_wsS RX6 78 yX3_difference wsX3_difference) := goodIn_app (goodIn_of _ (by decide +kernel)) ggX6_takeAway_X3_difference
set_option maxRecDepth 20000 in
theorem ggX6_takeAway_X6_changeIfPossible : GoodIn wsX6_takeAway wsX6_changeIfPossible := goodIn_ca (goodIn_r _ [40, 41, 42, 43, 44, 45, 46, 4, 47, 48, 1, 49, 50, 51, 52, 53, 54, 55, 56, 57, 58, 59, 60, 61, 62, 63, 64, 65, 19, 13, 20, 21, 22, 23, 24, 25, 66, 67, 68, 69, 70, 71, 72, 73, 74, 75] (by decide +kernel) (by decide +kernel)) (goodIn_sub (fun _ h => List.mem_cons_of_mem _ (List.mem_append_right _ h)) (by decide +kernel))
set_option maxRecDepth 20000 in
theorem gX6_takeAway_X6_changeIfPossible : GoodIn wsX6_takeAway (wsV RX6 75 RX6 yX6_changeIfPossible wsX6_changeIfPossible) := goodIn_app (goodIn_of _ (by decide +kernel)) ggX6_takeAway_X6_changeIfPossible
set_option maxRecDepth 20000 in
theorem ggX6_multiply_X6_requirePlate : GoodIn wsX6_multiply wsX6_requirePlate := goodIn_ca (goodIn_r _ [5, 6, 7, 8, 9, 4, 10] (by decide +kernel) (by decide +kernel)) (goodIn_sub (fun _ h => List.mem_cons_of_mem _ (List.mem_append_left _ (List.mem_append_right _ h))) (by decide +kernel))
set_option maxRecDepth 20000 in
theorem gX6_multiply_X6_requirePlate : GoodIn wsX6_multiply (va_wsS RX6 50 yX6_requirePlate wsX6_requirePlate) := goodIn_app (goodIn_of _ (by decide +kernel)) ggX6_multiply_X6_requirePlate
set_option maxRecDepth 20000 in
theorem ggX6_multiply_X3_product : GoodIn wsX6_multiply wsX3_product := goodIn_r _ [14, 15, 16, 13, 17, 18, 19, 20, 21, 22, 23, 24, 25, 26, 27, 28, 29, 30, 31, 32, 33, 34, 35, 36] (by decide +kernel) (by decide +kernel)
set_option maxRecDepth 20000 in
theorem gX6_multiply_X3_product : GoodIn wsX6_multiply (va_wsS RX6 81 yX3_product wsX3_product) := goodIn_app (goodIn_of _ (by decide +kernel)) ggX6_multiply_X3_product
set_option maxRecDepth 20000 in
theorem ggX6_multiply_X6_changeIfPossible : GoodIn wsX6_multiply wsX6_changeIfPossible := goodIn_ca (goodIn_r _ [40, 41, 42, 43, 44, 45, 46, 4, 47, 48, 1, 49, 50, 51, 52, 53, 54, 55, 56, 57, 58, 59, 60, 61, 62, 63, 64, 65, 19, 13, 20, 21, 22, 23, 24, 25, 66, 67, 68, 69, 70, 71, 72, 73, 74, 75] (by decide +kernel) (by decide +kernel)) (goodIn_sub (fun _ h => List.mem_cons_of_mem _ (List.mem_append_right _ h)) (by decide +kernel))
set_option maxRecDepth 20000 in
theorem gX6_multiply_X6_changeIfPossible : GoodIn wsX6_multiply (wsV RX6 75 RX6 yX6_changeIfPossible wsX6_changeIfPossible) := goodIn_app (goodIn_of _ (by decide +kernel)) ggX6_multiply_X6_changeIfPossible
set_option maxRecDepth 20000 in
theorem ggX6_copyTo_X6_requirePlate : GoodIn wsX6_copyTo wsX6_requirePlate := goodIn_ca (goodIn_r _ [5, 6, 7, 8, 9, 4, 10] (by decide +kernel) (by decide +kernel)) (goodIn_sub (fun _ h => List.mem_cons_of_mem _ (List.mem_append_right _ h)) (by decide +kernel))
set_option maxRecDepth 20000 in
theorem gX6_copyTo_X6_requirePlate : GoodIn wsX6_copyTo (va_wsS RX6 50 yX6_requirePlate wsX6_requirePlate) := goodIn_app (goodIn_of _ (by decide +kernel)) ggX6_copyTo_X6_requirePlate
set_option maxRecDepth 20000 in
theorem ggX6_copyTo_X6_change : GoodIn wsX6_copyTo wsX6_change := goodIn_r _ [14, 15, 1, 16, 17, 18, 19, 20, 21, 22, 23, 24, 25, 26, 27, 28, 29, 30, 31, 32, 33, 34, 35, 36, 37, 38, 39, 40, 41, 42, 43, 44, 45, 46, 47, 48, 49, 50] (by decide +kernel) (by decide +kernel)
set_option maxRecDepth 20000 in
theorem gX6_copyTo_X6_change : GoodIn wsX6_copyTo (wsV RX6 68 RX6 yX6_change wsX6_change) := goodIn_app (goodIn_of _ (by decide +kernel)) ggX6_copyTo_X6_change
set_option maxRecDepth 20000 in
theorem ggX6_invert_X6_requireNotZero : GoodIn wsX6_invert wsX6_requireNotZero := goodIn_ca (goodIn_ca (goodIn_r _ [6, 7, 8, 1, 9, 10, 5, 11, 12, 13, 14, 15, 16, 61, 62, 63, 64, 65, 66, 67] (by decide +kernel) (by decide +kernel)) (goodIn_sub (fun _ h => List.mem_cons_of_mem _ (List.mem_append_left _ (List.mem_append_right _ h))) (by decide +kernel))) (goodIn_sub (fun _ h => List.mem_cons_of_mem _ (List.mem_append_right _ h)) (by decide +kernel))
set_option maxRecDepth 20000 in
theorem gX6_invert_X6_requireNotZero : GoodIn wsX6_invert (wsV RX6 84 RX6 yX6_requireNotZero wsX6_requireNotZero) := goodIn_app (goodIn_of _ (by decide +kernel)) ggX6_invert_X6_requireNotZero
set_option maxRecDepth 20000 in
theorem ggX6_invert_X3_denominator : GoodIn wsX6_invert wsX3_denominator := goodIn_r _ [20, 21, 22, 23, 24, 25] (by decide +kernel) (by decide +kernel)
set_option maxRecDepth 20000 in
theorem gX6_invert_X3_denominator : GoodIn wsX6_invert (va_wsS RX6 87 yX3_denominator wsX3_denominator) := goodIn_app (goodIn_of _ (by decide +kernel)) ggX6_invert_X3_denominator
set_option maxRecDepth 20000 in
theorem ggX6_invert_X3_numerator : GoodIn wsX6_invert wsX3_numerator := goodIn_r _ [28] (by decide +kernel) (by decide +kernel)
set_option maxRecDepth 20000 in
theorem gX6_invert_X3_numerator : GoodIn wsX6_invert (va_wsS RX6 91 yX3_numerator wsX3_numerator) := goodIn_app (goodIn_of _ (by decide +kernel)) ggX6_invert_X3_numerator
set_option maxRecDepth 20000 in
theorem ggX6_invert_X3_inLowestTerms : GoodIn wsX6_invert wsX3_inLowestTerms := goodIn_r _ [31, 32, 33, 34, 35, 19, 36, 22, 23, 24, 25, 37, 38, 39] (by decide +kernel) (by decide +kernel)
set_option maxRecDepth 20000 in
theorem gX6_invert_X3_inLowestTerms : GoodIn wsX6_invert (va_wsS RX6 64 yX3_inLowestTerms wsX3_inLowestTerms) := goodIn_app (goodIn_of _ (by decide +kernel)) ggX6_invert_X3_inLowestTerms
set_option maxRecDepth 20000 in
theorem ggX6_invert_X6_change : GoodIn wsX6_invert wsX6_change := goodIn_r _ [43, 44, 1, 45, 46, 47, 48, 49, 50, 51, 52, 53, 54, 55, 56, 57, 58, 59, 60, 17, 18, 19, 20, 21, 22, 23, 24, 25, 61, 62, 63, 64, 65, 66, 67, 68, 69, 70] (by decide +kernel) (by decide +kernel)
set_option maxRecDepth 20000 in
theorem gX6_invert_X6_change : GoodIn wsX6_invert (wsV RX6 68 RX6 yX6_change wsX6_change) := goodIn_app (goodIn_of _ (by decide +kernel)) ggX6_invert_X6_change
set_option maxRecDepth 20000 in
theorem ggX6_share_X6_requirePlate : GoodIn wsX6_share wsX6_requirePlate := goodIn_ca (goodIn_r _ [7, 8, 9, 10, 11, 6, 12] (by decide +kernel) (by decide +kernel)) (goodIn_sub (fun _ h => List.mem_cons_of_mem _ (List.mem_append_left _ (List.mem_append_right _ h))) (by decide +kernel))
set_option maxRecDepth 20000 in
theorem gX6_share_X6_requirePlate : GoodIn wsX6_share (va_wsS RX6 50 yX6_requirePlate wsX6_requirePlate) := goodIn_app (goodIn_of _ (by decide +kernel)) ggX6_share_X6_requirePlate
set_option maxRecDepth 20000 in
theorem ggX6_share_X3_numerator : GoodIn wsX6_share wsX3_numerator := goodIn_r _ [16] (by decide +kernel) (by decide +kernel)
set_option maxRecDepth 20000 in
theorem gX6_share_X3_numerator : GoodIn wsX6_share (va_wsS RX6 91 yX3_numerator wsX3_numerator) := goodIn_app (goodIn_of _ (by decide +kernel)) ggX6_share_X3_numerator
set_option maxRecDepth 20000 in
theorem ggX6_share_X3_denominator : GoodIn wsX6_share wsX3_denominator := goodIn_r _ [19, 20, 21, 22, 23, 24] (by decide +kernel) (by decide +kernel)
set_option maxRecDepth 20000 in
theorem gX6_share_X3_denominator : GoodIn wsX6_share (va_wsS RX6 87 yX3_denominator wsX3_denominator) := goodIn_app (goodIn_of _ (by decide +kernel)) ggX6_share_X3_denominator
set_option maxRecDepth 20000 in
theorem ggX6_share_X3_inLowestTerms : GoodIn wsX6_share wsX3_inLowestTerms := goodIn_r _ [27, 28, 29, 30, 31, 15, 32, 21, 22, 23, 24, 33, 34, 35] (by decide +kernel) (by decide +kernel)
set_option maxRecDepth 20000 in
theorem gX6_share_X3_inLowestTerms : GoodIn wsX6_share (va_wsS RX6 64 yX3_inLowestTerms wsX3_inLowestTerms) := goodIn_app (goodIn_of _ (by decide +kernel)) ggX6_share_X3_inLowestTerms
set_option maxRecDepth 20000 in
theorem ggX6_share_X6_changeIfPossible : GoodIn wsX6_share wsX6_changeIfPossible := goodIn_ca (goodIn_r _ [39, 40, 41, 42, 43, 44, 45, 6, 46, 47, 3, 48, 49, 50, 51, 52, 53, 54, 55, 56, 57, 58, 59, 60, 61, 62, 63, 17, 18, 15, 19, 20, 21, 22, 23, 24, 64, 65, 66, 67, 68, 69, 70, 71, 72, 73] (by decide +kernel) (by decide +kernel)) (goodIn_sub (fun _ h => List.mem_cons_of_mem _ (List.mem_append_right _ h)) (by decide +kernel))
set_option maxRecDepth 20000 in
theorem gX6_share_X6_changeIfPossible : GoodIn wsX6_share (wsV RX6 75 RX6 yX6_changeIfPossible wsX6_changeIfPossible) := goodIn_app (goodIn_of _ (by decide +kernel)) ggX6_share_X6_changeIfPossible
set_option maxRecDepth 20000 in
theorem ggX6_roundTo_X6_nearest : GoodIn wsX6_roundTo wsX6_nearest := goodIn_ca (goodIn_ca (goodIn_r _ [5, 6, 7, 8, 9, 4, 10, 11, 12, 13, 14, 15, 16, 17, 18, 19, 20, 21, 22, 23, 24, 25, 26, 27, 28, 29, 30, 31, 32, 33, 34, 35, 36, 37, 38, 39, 40, 41, 42, 43, 44, 45, 46, 47, 48, 49, 50, 51, 52, 53, 54, 55, 56, 57, 58, 59, 60, 61, 62, 85, 86, 87, 88, 89, 90, 91, 92, 93, 94] (by decide +kernel) (by decide +kernel)) (goodIn_sub (fun _ h => List.mem_cons_of_mem _ (List.mem_append_left _ (List.mem_append_right _ h))) (by decide +kernel))) (goodIn_sub (fun _ h => List.mem_cons_of_mem _ (List.mem_append_right _ h)) (by decide +kernel))
set_option maxRecDepth 20000 in
theorem gX6_roundTo_X6_nearest : GoodIn wsX6_roundTo (wsV RX6 96 RX6 yX6_nearest wsX6_nearest) := goodIn_app (goodIn_of _ (by decide +kernel)) ggX6_roundTo_X6_nearest
set_option maxRecDepth 20000 in
theorem ggX6_roundTo_X6_change : GoodIn wsX6_roundTo wsX6_change := goodIn_r _ [66, 67, 7, 68, 69, 70, 71, 72, 73, 74, 75, 76, 77, 78, 79, 80, 81, 82, 83, 84, 34, 31, 35, 36, 37, 38, 39, 40, 85, 86, 87, 88, 89, 90, 91, 95, 96, 97] (by decide +kernel) (by decide +kernel)
set_option maxRecDepth 20000 in
theorem gX6_roundTo_X6_change : GoodIn wsX6_roundTo (wsV RX6 68 RX6 yX6_change wsX6_change) := goodIn_app (goodIn_of _ (by decide +kernel)) ggX6_roundTo_X6_change
set_option maxRecDepth 20000 in
theorem ggX6_numeratorOf_X6_requirePlate : GoodIn wsX6_numeratorOf wsX6_requirePlate := goodIn_ca (goodIn_r _ [5, 6, 7, 8, 9, 4, 10] (by decide +kernel) (by decide +kernel)) (goodIn_sub (fun _ h => List.mem_cons_of_mem _ (List.mem_append_right _ h)) (by decide +kernel))
set_option maxRecDepth 20000 in
theorem gX6_numeratorOf_X6_requirePlate : GoodIn wsX6_numeratorOf (va_wsS RX6 50 yX6_requirePlate wsX6_requirePlate) := goodIn_app (goodIn_of _ (by decide +kernel)) ggX6_numeratorOf_X6_requirePlate
set_option maxRecDepth 20000 in
theorem ggX6_numeratorOf_X3_numerator : GoodIn wsX6_numeratorOf wsX3_numerator := goodIn_r _ [14] (by decide +kernel) (by decide +kernel)
set_option maxRecDepth 20000 in
theorem gX6_numeratorOf_X3_numerator : GoodIn wsX6_numeratorOf (va_wsS RX6 91 yX3_numerator wsX3_numerator) := goodIn_app (goodIn_of _ (by decide +kernel)) ggX6_numeratorOf_X3_numerator
set_option maxRecDepth 20000 in
theorem ggX6_denominatorOf_X6_requirePlate : GoodIn wsX6_denominatorOf wsX6_requirePlate := goodIn_ca (goodIn_r _ [5, 6, 7, 8, 9, 4, 10] (by decide +kernel) (by decide +kernel)) (goodIn_sub (fun _ h => List.mem_cons_of_mem _ (List.mem_append_right _ h)) (by decide +kernel))
set_option maxRecDepth 20000 in
theorem gX6_denominatorOf_X6_requirePlate : GoodIn wsX6_denominatorOf (va_wsS RX6 50 yX6_requirePlate wsX6_requirePlate) := goodIn_app (goodIn_of _ (by decide +kernel)) ggX6_denominatorOf_X6_requirePlate
set_option maxRecDepth 20000 in
theorem ggX6_denominatorOf_X3_denominator : GoodIn wsX6_denominatorOf wsX3_denominator := goodIn_r _ [14, 15, 16, 17, 18, 19] (by decide +kernel) (by decide +kernel)
set_option maxRecDepth 20000 in
theorem gX6_denominatorOf_X3_denominator : GoodIn wsX6_denominatorOf (va_wsS RX6 87 yX3_denominator wsX3_denominator) := goodIn_app (goodIn_of _ (by decide +kernel)) ggX6_denominatorOf_X3_denominator
set_option maxRecDepth 20000 in
theorem ggX6_compare_X6_requirePlate : GoodIn wsX6_compare wsX6_requirePlate := goodIn_ca (goodIn_r _ [5, 6, 7, 8, 9, 4, 10] (by decide +kernel) (by decide +kernel)) (goodIn_sub (fun _ h => List.mem_cons_of_mem _ (List.mem_append_right _ h)) (by decide +kernel))
set_option maxRecDepth 20000 in
theorem gX6_compare_X6_requirePlate : GoodIn wsX6_compare (va_wsS RX6 50 yX6_requirePlate wsX6_requirePlate) := goodIn_app (goodIn_of _ (by decide +kernel)) ggX6_compare_X6_requirePlate
set_option maxRecDepth 20000 in
theorem ggX6_compare_X3_order : GoodIn wsX6_compare wsX3_order := goodIn_r _ [14, 15, 16, 13, 17, 18, 19, 20, 21, 22, 23, 24, 25] (by decide +kernel) (by decide +kernel)
set_option maxRecDepth 20000 in
theorem gX6_compare_X3_order : GoodIn wsX6_compare (va_wsS RX6 100 yX3_order wsX3_order) := goodIn_app (goodIn_of _ (by decide +kernel)) ggX6_compare_X3_order
set_option maxRecDepth 20000 in
theorem ggX6_plateByAmount_X6_platesAhead : GoodIn wsX6_plateByAmount wsX6_platesAhead := goodIn_r _ [7, 8, 9, 10, 11, 12, 13, 14, 15, 16, 17, 18, 19, 20, 21, 22, 23, 24, 25, 26, 27, 28, 29, 30] (by decide +kernel) (by decide +kernel)
set_option maxRecDepth 20000 in
theorem gX6_plateByAmount_X6_platesAhead : GoodIn wsX6_plateByAmount (wsV RX6 109 RX6 yX6_platesAhead wsX6_platesAhead) := goodIn_app (goodIn_of _ (by decide +kernel)) ggX6_plateByAmount_X6_platesAhead
set_option maxRecDepth 20000 in
theorem ggX6_commonParts_X3_denominator : GoodIn wsX6_commonParts wsX3_denominator := goodIn_r _ [7, 8, 9, 10, 11, 12] (by decide +kernel) (by decide +kernel)
set_option maxRecDepth 20000 in
theorem gX6_commonParts_X3_denominator : GoodIn wsX6_commonParts (va_wsS RX6 87 yX3_denominator wsX3_denominator) := goodIn_app (goodIn_of _ (by decide +kernel)) ggX6_commonParts_X3_denominator
set_option maxRecDepth 20000 in
theorem ggX6_commonParts_X3_commonDivisor : GoodIn wsX6_commonParts wsX3_commonDivisor := goodIn_r _ [15, 9, 10, 11, 12] (by decide +kernel) (by decide +kernel)
set_option maxRecDepth 20000 in
theorem gX6_commonParts_X3_commonDivisor : GoodIn wsX6_commonParts (va_wsS RX6 113 yX3_commonDivisor wsX3_commonDivisor) := goodIn_app (goodIn_of _ (by decide +kernel)) ggX6_commonParts_X3_commonDivisor
set_option maxRecDepth 20000 in
theorem ggX6_differentFractions_X6_isOnLowerPlate : GoodIn wsX6_differentFractions wsX6_isOnLowerPlate := goodIn_r _ [5, 6, 7, 8, 9, 10, 11, 12, 13] (by decide +kernel) (by decide +kernel)
set_option maxRecDepth 20000 in
theorem gX6_differentFractions_X6_isOnLowerPlate : GoodIn wsX6_differentFractions (wsV RX6 120 RX6 yX6_isOnLowerPlate wsX6_isOnLowerPlate) := goodIn_app (goodIn_of _ (by decide +kernel)) ggX6_differentFractions_X6_isOnLowerPlate
set_option maxRecDepth 20000 in
theorem ggX6_termCount_X6_requirePlate : GoodIn wsX6_termCount wsX6_requirePlate := goodIn_ca (goodIn_r _ [6, 7, 8, 9, 10, 5, 11] (by decide +kernel) (by decide +kernel)) (goodIn_sub (fun _ h => List.mem_cons_of_mem _ (List.mem_append_right _ h)) (by decide +kernel))
set_option maxRecDepth 20000 in
theorem gX6_termCount_X6_requirePlate : GoodIn wsX6_termCount (va_wsS RX6 50 yX6_requirePlate wsX6_requirePlate) := goodIn_app (goodIn_of _ (by decide +kernel)) ggX6_termCount_X6_requirePlate
set_option maxRecDepth 20000 in
theorem ggX6_termCount_X2_expand : GoodIn wsX6_termCount wsX2_expand := goodIn_r _ [16, 17, 18, 19, 20, 21, 22, 23, 24, 25, 26, 27, 28, 29, 30, 31, 32, 33, 34, 15, 35, 36, 37, 38, 50, 51, 52] (by decide +kernel) (by decide +kernel)
set_option maxRecDepth 20000 in
theorem gX6_termCount_X2_expand : GoodIn wsX6_termCount (wsV RX6 124 RX2 yX2_expand wsX2_expand) := goodIn_app (goodIn_of _ (by decide +kernel)) ggX6_termCount_X2_expand
set_option maxRecDepth 20000 in
theorem ggX6_termCount_X2_count : GoodIn wsX6_termCount wsX2_count := goodIn_r _ [42, 17, 50, 51, 52] (by decide +kernel) (by decide +kernel)
set_option maxRecDepth 20000 in
theorem gX6_termCount_X2_count : GoodIn wsX6_termCount (wsV RX6 128 RX2 yX2_count wsX2_count) := goodIn_app (goodIn_of _ (by decide +kernel)) ggX6_termCount_X2_count
set_option maxRecDepth 20000 in
theorem ggX6_beginningNumerator_X6_expandToTerm : GoodIn wsX6_beginningNumerator wsX6_expandToTerm := goodIn_ca (goodIn_r _ [6, 7, 8, 1, 9, 10, 11, 5, 12, 13, 14, 15, 16, 17, 18, 19, 20, 21, 22, 23, 24, 25, 26, 27, 28, 29, 30, 31, 32, 33, 34, 35, 36, 37, 38, 39, 40, 41, 42, 43, 44, 45, 46, 52, 53, 54, 55, 56, 57, 58, 59, 60, 61] (by decide +kernel) (by decide +kernel)) (goodIn_sub (fun _ h => List.mem_cons_of_mem _ (List.mem_append_right _ h)) (by decide +kernel))
set_option maxRecDepth 20000 in
theorem gX6_beginningNumerator_X6_expandToTerm : GoodIn wsX6_beginningNumerator (wsV RX6 132 RX6 yX6_expandToTerm wsX6_expandToTerm) := goodIn_app (goodIn_of _ (by decide +kernel)) ggX6_beginningNumerator_X6_expandToTerm
set_option maxRecDepth 20000 in
theorem ggX6_beginningNumerator_X2_beginning : GoodIn wsX6_beginningNumerator wsX2_beginning := goodIn_r _ [50, 23, 59, 60, 61] (by decide +kernel) (by decide +kernel)
set_option maxRecDepth 20000 in
theorem gX6_beginningNumerator_X2_beginning : GoodIn wsX6_beginningNumerator (wsV RX6 139 RX2 yX2_beginning wsX2_beginning) := goodIn_app (goodIn_of _ (by decide +kernel)) ggX6_beginningNumerator_X2_beginning
set_option maxRecDepth 20000 in
theorem ggX6_beginningNumerator_X3_numerator : GoodIn wsX6_beginningNumerator wsX3_numerator := goodIn_r _ [27] (by decide +kernel) (by decide +kernel)
set_option maxRecDepth 20000 in
theorem gX6_beginningNumerator_X3_numerator : GoodIn wsX6_beginningNumerator (va_wsS RX6 91 yX3_numerator wsX3_numerator) := goodIn_app (goodIn_of _ (by decide +kernel)) ggX6_beginningNumerator_X3_numerator
set_option maxRecDepth 20000 in
theorem ggX6_beginningDenominator_X6_expandToTerm : GoodIn wsX6_beginningDenominator wsX6_expandToTerm := goodIn_ca (goodIn_r _ [6, 7, 8, 1, 9, 10, 11, 5, 12, 13, 14, 15, 16, 17, 18, 19, 20, 21, 22, 23, 24, 25, 26, 27, 28, 29, 30, 31, 32, 33, 34, 35, 36, 37, 38, 39, 40, 41, 42, 43, 44, 45, 46, 52, 53, 54, 55, 56, 57, 58, 59, 60, 61] (by decide +kernel) (by decide +kernel)) (goodIn_sub (fun _ h => List.mem_cons_of_mem _ (List.mem_append_right _ h)) (by decide +kernel))
set_option maxRecDepth 20000 in
theorem gX6_beginningDenominator_X6_expandToTerm : GoodIn wsX6_beginningDenominator (wsV RX6 132 RX6 yX6_expandToTerm wsX6_expandToTerm) := goodIn_app (goodIn_of _ (by decide +kernel)) ggX6_beginningDenominator_X6_expandToTerm
set_option maxRecDepth 20000 in
theorem ggX6_beginningDenominator_X2_beginning : GoodIn wsX6_beginningDenominator wsX2_beginning := goodIn_r _ [50, 23, 59, 60, 61] (by decide +kernel) (by decide +kernel)
set_option maxRecDepth 20000 in
theorem gX6_beginningDenominator_X2_beginning : GoodIn wsX6_beginningDenominator (wsV RX6 139 RX2 yX2_beginning wsX2_beginning) := goodIn_app (goodIn_of _ (by decide +kernel)) ggX6_beginningDenominator_X2_beginning
set_option maxRecDepth 20000 in
theorem ggX6_beginningDenominator_X3_denominator : GoodIn wsX6_beginningDenominator wsX3_denominator := goodIn_r _ [30, 31, 32, 33, 34, 35] (by decide +kernel) (by decide +kernel)
set_option maxRecDepth 20000 in
theorem gX6_beginningDenominator_X3_denominator : GoodIn wsX6_beginningDenominator (va_wsS RX6 87 yX3_denominator wsX3_denominator) := goodIn_app (goodIn_of _ (by decide +kernel)) ggX6_beginningDenominator_X3_denominator
set_option maxRecDepth 20000 in
theorem ggX6_nearestDenominator_X6_nearest : GoodIn wsX6_nearestDenominator wsX6_nearest := goodIn_ca (goodIn_ca (goodIn_r _ [5, 6, 7, 8, 9, 4, 10, 11, 12, 13, 14, 15, 16, 17, 18, 19, 20, 21, 22, 23, 24, 25, 26, 27, 28, 29, 30, 31, 32, 33, 34, 35, 36, 37, 38, 39, 40, 41, 42, 43, 44, 45, 46, 47, 48, 49, 50, 51, 52, 53, 54, 55, 56, 57, 58, 59, 60, 61, 62, 64, 65, 66, 67, 68, 69, 70, 71, 72, 73] (by decide +kernel) (by decide +kernel)) (goodIn_sub (fun _ h => List.mem_cons_of_mem _ (List.mem_append_left _ (List.mem_append_right _ h))) (by decide +kernel))) (goodIn_sub (fun _ h => List.mem_cons_of_mem _ (List.mem_append_right _ h)) (by decide +kernel))
set_option maxRecDepth 20000 in
theorem gX6_nearestDenominator_X6_nearest : GoodIn wsX6_nearestDenominator (wsV RX6 96 RX6 yX6_nearest wsX6_nearest) := goodIn_app (goodIn_of _ (by decide +kernel)) ggX6_nearestDenominator_X6_nearest
set_option maxRecDepth 20000 in
theorem ggX6_nearestDenominator_X3_denominator : GoodIn wsX6_nearestDenominator wsX3_denominator := goodIn_r _ [35, 36, 37, 38, 39, 40] (by decide +kernel) (by decide +kernel)
set_option maxRecDepth 20000 in
theorem gX6_nearestDenominator_X3_denominator : GoodIn wsX6_nearestDenominator (va_wsS RX6 87 yX3_denominator wsX3_denominator) := goodIn_app (goodIn_of _ (by decide +kernel)) ggX6_nearestDenominator_X3_denominator
set_option maxRecDepth 20000 in
theorem ggX6_nearestByTrying_X6_requirePlate : GoodIn wsX6_nearestByTrying wsX6_requirePlate := goodIn_ca (goodIn_r _ [5, 6, 7, 8, 9, 4, 10] (by decide +kernel) (by decide +kernel)) (goodIn_sub (fun _ h => List.mem_cons_of_mem _ (List.mem_append_left _ (List.mem_append_right _ h))) (by decide +kernel))
set_option maxRecDepth 20000 in
theorem gX6_nearestByTrying_X6_requirePlate : GoodIn wsX6_nearestByTrying (va_wsS RX6 50 yX6_requirePlate wsX6_requirePlate) := goodIn_app (goodIn_of _ (by decide +kernel)) ggX6_nearestByTrying_X6_requirePlate
set_option maxRecDepth 20000 in
theorem ggX6_nearestByTrying_X6_requireLimit : GoodIn wsX6_nearestByTrying wsX6_requireLimit := goodIn_ca (goodIn_r _ [13, 14, 15] (by decide +kernel) (by decide +kernel)) (goodIn_sub (fun _ h => List.mem_cons_of_mem _ (List.mem_append_right _ h)) (by decide +kernel))
set_option maxRecDepth 20000 in
theorem gX6_nearestByTrying_X6_requireLimit : GoodIn wsX6_nearestByTrying (va_wsS RX6 143 yX6_requireLimit wsX6_requireLimit) := goodIn_app (goodIn_of _ (by decide +kernel)) ggX6_nearestByTrying_X6_requireLimit
set_option maxRecDepth 20000 in
theorem ggX6_nearestByTrying_X6_triedDenominator : GoodIn wsX6_nearestByTrying wsX6_triedDenominator := goodIn_r _ [18, 19, 20, 21, 22, 23, 24, 25, 26, 27, 28, 29, 30, 31, 32, 33, 34, 35, 36] (by decide +kernel) (by decide +kernel)
set_option maxRecDepth 20000 in
theorem gX6_nearestByTrying_X6_triedDenominator : GoodIn wsX6_nearestByTrying (va_wsS RX6 146 yX6_triedDenominator wsX6_triedDenominator) := goodIn_app (goodIn_of _ (by decide +kernel)) ggX6_nearestByTrying_X6_triedDenominator
set_option maxRecDepth 20000 in
theorem ggX6_nearestNumerator_X6_nearest : GoodIn wsX6_nearestNumerator wsX6_nearest := goodIn_ca (goodIn_ca (goodIn_r _ [5, 6, 7, 8, 9, 4, 10, 11, 12, 13, 14, 15, 16, 17, 18, 19, 20, 21, 22, 23, 24, 25, 26, 27, 28, 29, 30, 31, 32, 33, 34, 35, 36, 37, 38, 39, 40, 41, 42, 43, 44, 45, 46, 47, 48, 49, 50, 51, 52, 53, 54, 55, 56, 57, 58, 59, 60, 61, 62, 64, 65, 66, 67, 68, 69, 70, 71, 72, 73] (by decide +kernel) (by decide +kernel)) (goodIn_sub (fun _ h => List.mem_cons_of_mem _ (List.mem_append_left _ (List.mem_append_right _ h))) (by decide +kernel))) (goodIn_sub (fun _ h => List.mem_cons_of_mem _ (List.mem_append_right _ h)) (by decide +kernel))
set_option maxRecDepth 20000 in
theorem gX6_nearestNumerator_X6_nearest : GoodIn wsX6_nearestNumerator (wsV RX6 96 RX6 yX6_nearest wsX6_nearest) := goodIn_app (goodIn_of _ (by decide +kernel)) ggX6_nearestNumerator_X6_nearest
set_option maxRecDepth 20000 in
theorem ggX6_nearestNumerator_X3_numerator : GoodIn wsX6_nearestNumerator wsX3_numerator := goodIn_r _ [32] (by decide +kernel) (by decide +kernel)
set_option maxRecDepth 20000 in
theorem gX6_nearestNumerator_X3_numerator : GoodIn wsX6_nearestNumerator (va_wsS RX6 91 yX3_numerator wsX3_numerator) := goodIn_app (goodIn_of _ (by decide +kernel)) ggX6_nearestNumerator_X3_numerator
set_option maxRecDepth 20000 in
theorem ggX6_unitCount_X6_requirePlate : GoodIn wsX6_unitCount wsX6_requirePlate := goodIn_ca (goodIn_r _ [5, 6, 7, 8, 9, 4, 10] (by decide +kernel) (by decide +kernel)) (goodIn_sub (fun _ h => List.mem_cons_of_mem _ (List.mem_append_left _ (List.mem_append_right _ h))) (by decide +kernel))
set_option maxRecDepth 20000 in
theorem gX6_unitCount_X6_requirePlate : GoodIn wsX6_unitCount (va_wsS RX6 50 yX6_requirePlate wsX6_requirePlate) := goodIn_app (goodIn_of _ (by decide +kernel)) ggX6_unitCount_X6_requirePlate
set_option maxRecDepth 20000 in
theorem ggX6_unitCount_X6_requireLessThanOne : GoodIn wsX6_unitCount wsX6_requireLessThanOne := goodIn_ca (goodIn_r _ [14, 15, 16, 1, 17, 18, 19, 20, 21, 22, 23, 24, 25, 26, 27, 28, 29, 30, 31, 32, 44, 45, 46, 47, 48, 49, 50] (by decide +kernel) (by decide +kernel)) (goodIn_sub (fun _ h => List.mem_cons_of_mem _ (List.mem_append_right _ h)) (by decide +kernel))
set_option maxRecDepth 20000 in
theorem gX6_unitCount_X6_requireLessThanOne : GoodIn wsX6_unitCount (wsV RX6 150 RX6 yX6_requireLessThanOne wsX6_requireLessThanOne) := goodIn_app (goodIn_of _ (by decide +kernel)) ggX6_unitCount_X6_requireLessThanOne
set_option maxRecDepth 20000 in
theorem ggX6_unitCount_X5_count : GoodIn wsX6_unitCount wsX5_count := goodIn_r _ [36, 37, 38, 35, 39, 40, 41, 42, 23, 20, 24, 43, 26, 27, 28, 29, 30, 31, 32] (by decide +kernel) (by decide +kernel)
set_option maxRecDepth 20000 in
theorem gX6_unitCount_X5_count : GoodIn wsX6_unitCount (va_wsS RX6 153 yX5_count wsX5_count) := goodIn_app (goodIn_of _ (by decide +kernel)) ggX6_unitCount_X5_count
set_option maxRecDepth 20000 in
theorem ggX6_beginsRight_X6_requireNotZero : GoodIn wsX6_beginsRight wsX6_requireNotZero := goodIn_ca (goodIn_ca (goodIn_r _ [7, 8, 9, 1, 10, 11, 6, 12, 13, 14, 15, 16, 17, 33, 34, 35, 36, 37, 38, 39] (by decide +kernel) (by decide +kernel)) (goodIn_sub (fun _ h => List.mem_cons_of_mem _ (List.mem_append_left _ (List.mem_append_right _ h))) (by decide +kernel))) (goodIn_sub (fun _ h => List.mem_cons_of_mem _ (List.mem_append_right _ h)) (by decide +kernel))
set_option maxRecDepth 20000 in
theorem gX6_beginsRight_X6_requireNotZero : GoodIn wsX6_beginsRight (wsV RX6 84 RX6 yX6_requireNotZero wsX6_requireNotZero) := goodIn_app (goodIn_of _ (by decide +kernel)) ggX6_beginsRight_X6_requireNotZero
set_option maxRecDepth 20000 in
theorem ggX6_beginsRight_X3_order : GoodIn wsX6_beginsRight wsX3_order := goodIn_r _ [21, 22, 23, 20, 24, 25, 26, 27, 28, 29, 30, 31, 32] (by decide +kernel) (by decide +kernel)
set_option maxRecDepth 20000 in
theorem gX6_beginsRight_X3_order : GoodIn wsX6_beginsRight (va_wsS RX6 100 yX3_order wsX3_order) := goodIn_app (goodIn_of _ (by decide +kernel)) ggX6_beginsRight_X3_order
set_option maxRecDepth 20000 in
theorem ggX6_textError_X0_begin : GoodIn wsX6_textError wsX0_begin := goodIn_r _ [7, 8, 75, 76, 77, 78, 79, 80] (by decide +kernel) (by decide +kernel)
set_option maxRecDepth 20000 in
theorem gX6_textError_X0_begin : GoodIn wsX6_textError (wsV RX6 191 RX0 yX0_begin wsX0_begin) := goodIn_app (goodIn_of _ (by decide +kernel)) ggX6_textError_X0_begin
set_option maxRecDepth 20000 in
theorem ggX6_textError_X1_length : GoodIn wsX6_textError wsX1_length := goodIn_r _ [13, 14, 81, 82] (by decide +kernel) (by decide +kernel)
set_option maxRecDepth 20000 in
theorem gX6_textError_X1_length : GoodIn wsX6_textError (wsV RX6 185 RX1 yX1_length wsX1_length) := goodIn_app (goodIn_of _ (by decide +kernel)) ggX6_textError_X1_length
set_option maxRecDepth 20000 in
theorem ggX6_textError_X1_character : GoodIn wsX6_textError wsX1_character := goodIn_r _ [18, 19, 81, 82] (by decide +kernel) (by decide +kernel)
set_option maxRecDepth 20000 in
theorem gX6_textError_X1_character : GoodIn wsX6_textError (wsV RX6 194 RX1 yX1_character wsX1_character) := goodIn_app (goodIn_of _ (by decide +kernel)) ggX6_textError_X1_character
set_option maxRecDepth 20000 in
theorem ggX6_textError_X0_accept : GoodIn wsX6_textError wsX0_accept := goodIn_r _ [23, 8, 24, 25, 26, 6, 27, 28, 29, 30, 31, 32, 33, 34, 35, 36, 37, 38, 39, 40, 41, 42, 43, 44, 45, 46, 47, 48, 49, 50, 51, 52, 53, 54, 55, 56, 57, 58, 59, 60, 61, 62, 63, 75, 76, 77, 78, 79, 80] (by decide +kernel) (by decide +kernel)
set_option maxRecDepth 20000 in
theorem gX6_textError_X0_accept : GoodIn wsX6_textError (wsV RX6 198 RX0 yX0_accept wsX0_accept) := goodIn_app (goodIn_of _ (by decide +kernel)) ggX6_textError_X0_accept
set_option maxRecDepth 20000 in
theorem ggX6_textError_X0_isComplete : GoodIn wsX6_textError wsX0_isComplete := goodIn_r _ [67, 8, 31, 75, 76, 77, 78, 79, 80] (by decide +kernel) (by decide +kernel)
set_option maxRecDepth 20000 in
theorem gX6_textError_X0_isComplete : GoodIn wsX6_textError (wsV RX6 202 RX0 yX0_isComplete wsX0_isComplete) := goodIn_app (goodIn_of _ (by decide +kernel)) ggX6_textError_X0_isComplete
set_option maxRecDepth 20000 in
theorem ggX6_undo_X4_count : GoodIn wsX6_undo wsX4_count := goodIn_r _ [9, 10, 32, 33, 34] (by decide +kernel) (by decide +kernel)
set_option maxRecDepth 20000 in
theorem gX6_undo_X4_count : GoodIn wsX6_undo (wsV RX6 218 RX4 yX4_count wsX4_count) := goodIn_app (goodIn_of _ (by decide +kernel)) ggX6_undo_X4_count
set_option maxRecDepth 20000 in
theorem ggX6_undo_X4_restore : GoodIn wsX6_undo wsX4_restore := goodIn_r _ [14, 10, 15, 16, 17, 18, 19, 20, 21, 22, 8, 23, 24, 32, 33, 34] (by decide +kernel) (by decide +kernel)
set_option maxRecDepth 20000 in
theorem gX6_undo_X4_restore : GoodIn wsX6_undo (wsV RX6 221 RX4 yX4_restore wsX4_restore) := goodIn_app (goodIn_of _ (by decide +kernel)) ggX6_undo_X4_restore
set_option maxRecDepth 20000 in
theorem ggX6_undoCount_X4_count : GoodIn wsX6_undoCount wsX4_count := goodIn_r _ [6, 7, 15, 16, 17] (by decide +kernel) (by decide +kernel)
set_option maxRecDepth 20000 in
theorem gX6_undoCount_X4_count : GoodIn wsX6_undoCount (wsV RX6 218 RX4 yX4_count wsX4_count) := goodIn_app (goodIn_of _ (by decide +kernel)) ggX6_undoCount_X4_count
set_option maxRecDepth 20000 in
theorem ggX6_requirePlate_X6_isPlate : GoodIn wsX6_requirePlate wsX6_isPlate := goodIn_r _ [6] (by decide +kernel) (by decide +kernel)
set_option maxRecDepth 20000 in
theorem gX6_requirePlate_X6_isPlate : GoodIn wsX6_requirePlate (va_wsS RX6 238 yX6_isPlate wsX6_isPlate) := goodIn_app (goodIn_of _ (by decide +kernel)) ggX6_requirePlate_X6_isPlate
set_option maxRecDepth 20000 in
theorem ggX6_requireNotZero_X6_requirePlate : GoodIn wsX6_requireNotZero wsX6_requirePlate := goodIn_ca (goodIn_r _ [7, 8, 9, 10, 11, 6, 12] (by decide +kernel) (by decide +kernel)) (goodIn_sub (fun _ h => List.mem_cons_of_mem _ (List.mem_append_right _ h)) (by decide +kernel))
set_option maxRecDepth 20000 in
theorem gX6_requireNotZero_X6_requirePlate : GoodIn wsX6_requireNotZero (va_wsS RX6 50 yX6_requirePlate wsX6_requirePlate) := goodIn_app (goodIn_of _ (by decide +kernel)) ggX6_requireNotZero_X6_requirePlate
set_option maxRecDepth 20000 in
theorem ggX6_requireLessThanOne_X3_order : GoodIn wsX6_requireLessThanOne wsX3_order := goodIn_r _ [8, 9, 10, 7, 11, 12, 13, 14, 15, 16, 17, 18, 19] (by decide +kernel) (by decide +kernel)
set_option maxRecDepth 20000 in
theorem gX6_requireLessThanOne_X3_order : GoodIn wsX6_requireLessThanOne (va_wsS RX6 100 yX3_order wsX3_order) := goodIn_app (goodIn_of _ (by decide +kernel)) ggX6_requireLessThanOne_X3_order
set_option maxRecDepth 20000 in
theorem ggX6_change_X4_record : GoodIn wsX6_change wsX4_record := goodIn_r _ [7, 8, 9, 10, 11, 12, 13, 14, 15, 16, 17, 6, 18, 35, 36, 37] (by decide +kernel) (by decide +kernel)
set_option maxRecDepth 20000 in
theorem gX6_change_X4_record : GoodIn wsX6_change (wsV RX6 211 RX4 yX4_record wsX4_record) := goodIn_app (goodIn_of _ (by decide +kernel)) ggX6_change_X4_record
set_option maxRecDepth 20000 in
theorem ggX6_change_X3_denominator : GoodIn wsX6_change wsX3_denominator := goodIn_r _ [22, 23, 24, 25, 26, 27] (by decide +kernel) (by decide +kernel)
set_option maxRecDepth 20000 in
theorem gX6_change_X3_denominator : GoodIn wsX6_change (va_wsS RX6 87 yX3_denominator wsX3_denominator) := goodIn_app (goodIn_of _ (by decide +kernel)) ggX6_change_X3_denominator
set_option maxRecDepth 20000 in
theorem ggX6_changeIfPossible_X6_change : GoodIn wsX6_changeIfPossible wsX6_change := goodIn_r _ [8, 9, 10, 11, 12, 13, 14, 15, 16, 17, 18, 19, 20, 21, 22, 23, 24, 25, 26, 27, 28, 29, 30, 31, 32, 33, 34, 35, 36, 37, 38, 39, 40, 41, 42, 43, 44, 45] (by decide +kernel) (by decide +kernel)
set_option maxRecDepth 20000 in
theorem gX6_changeIfPossible_X6_change : GoodIn wsX6_changeIfPossible (wsV RX6 68 RX6 yX6_change wsX6_change) := goodIn_app (goodIn_of _ (by decide +kernel)) ggX6_changeIfPossible_X6_change
set_option maxRecDepth 20000 in
theorem ggX6_platesAhead_X3_order : GoodIn wsX6_platesAhead wsX3_order := goodIn_r _ [5, 6, 7, 4, 8, 9, 10, 11, 12, 13, 14, 15, 16] (by decide +kernel) (by decide +kernel)
set_option maxRecDepth 20000 in
theorem gX6_platesAhead_X3_order : GoodIn wsX6_platesAhead (va_wsS RX6 100 yX3_order wsX3_order) := goodIn_app (goodIn_of _ (by decide +kernel)) ggX6_platesAhead_X3_order
set_option maxRecDepth 20000 in
theorem ggX6_expandToTerm_X6_requirePlate : GoodIn wsX6_expandToTerm wsX6_requirePlate := goodIn_ca (goodIn_r _ [8, 1, 2, 9, 10, 7, 11] (by decide +kernel) (by decide +kernel)) (goodIn_sub (fun _ h => List.mem_cons_of_mem _ (List.mem_append_right _ h)) (by decide +kernel))
set_option maxRecDepth 20000 in
theorem gX6_expandToTerm_X6_requirePlate : GoodIn wsX6_expandToTerm (va_wsS RX6 50 yX6_requirePlate wsX6_requirePlate) := goodIn_app (goodIn_of _ (by decide +kernel)) ggX6_expandToTerm_X6_requirePlate
set_option maxRecDepth 20000 in
theorem ggX6_expandToTerm_X2_expand : GoodIn wsX6_expandToTerm wsX2_expand := goodIn_r _ [16, 17, 18, 19, 20, 21, 22, 23, 24, 25, 26, 27, 28, 29, 30, 31, 32, 33, 34, 15, 35, 36, 37, 38, 50, 51, 52] (by decide +kernel) (by decide +kernel)
set_option maxRecDepth 20000 in
theorem gX6_expandToTerm_X2_expand : GoodIn wsX6_expandToTerm (wsV RX6 124 RX2 yX2_expand wsX2_expand) := goodIn_app (goodIn_of _ (by decide +kernel)) ggX6_expandToTerm_X2_expand
set_option maxRecDepth 20000 in
theorem ggX6_expandToTerm_X2_count : GoodIn wsX6_expandToTerm wsX2_count := goodIn_r _ [42, 17, 50, 51, 52] (by decide +kernel) (by decide +kernel)
set_option maxRecDepth 20000 in
theorem gX6_expandToTerm_X2_count : GoodIn wsX6_expandToTerm (wsV RX6 128 RX2 yX2_count wsX2_count) := goodIn_app (goodIn_of _ (by decide +kernel)) ggX6_expandToTerm_X2_count
set_option maxRecDepth 20000 in
theorem ggX6_nearest_X6_requirePlate : GoodIn wsX6_nearest wsX6_requirePlate := goodIn_ca (goodIn_r _ [6, 7, 8, 9, 10, 5, 11] (by decide +kernel) (by decide +kernel)) (goodIn_sub (fun _ h => List.mem_cons_of_mem _ (List.mem_append_left _ (List.mem_append_right _ h))) (by decide +kernel))
set_option maxRecDepth 20000 in
theorem gX6_nearest_X6_requirePlate : GoodIn wsX6_nearest (va_wsS RX6 50 yX6_requirePlate wsX6_requirePlate) := goodIn_app (goodIn_of _ (by decide +kernel)) ggX6_nearest_X6_requirePlate
set_option maxRecDepth 20000 in
theorem ggX6_nearest_X6_requireLimit : GoodIn wsX6_nearest wsX6_requireLimit := goodIn_ca (goodIn_r _ [14, 15, 16] (by decide +kernel) (by decide +kernel)) (goodIn_sub (fun _ h => List.mem_cons_of_mem _ (List.mem_append_right _ h)) (by decide +kernel))
set_option maxRecDepth 20000 in
theorem gX6_nearest_X6_requireLimit : GoodIn wsX6_nearest (va_wsS RX6 143 yX6_requireLimit wsX6_requireLimit) := goodIn_app (goodIn_of _ (by decide +kernel)) ggX6_nearest_X6_requireLimit
set_option maxRecDepth 20000 in
theorem ggX6_nearest_X2_expand : GoodIn wsX6_nearest wsX2_expand := goodIn_r _ [21, 22, 23, 24, 25, 26, 27, 28, 29, 30, 31, 32, 33, 34, 35, 36, 37, 38, 39, 20, 40, 41, 42, 43, 66, 67, 68] (by decide +kernel) (by decide +kernel)
set_option maxRecDepth 20000 in
theorem gX6_nearest_X2_expand : GoodIn wsX6_nearest (wsV RX6 124 RX2 yX2_expand wsX2_expand) := goodIn_app (goodIn_of _ (by decide +kernel)) ggX6_nearest_X2_expand
set_option maxRecDepth 20000 in
theorem ggX6_nearest_X2_nearest : GoodIn wsX6_nearest wsX2_nearest := goodIn_r _ [47, 22, 24, 29, 30, 27, 31, 32, 33, 34, 35, 36, 37, 38, 39, 20, 40, 41, 42, 43, 25, 26, 28, 48, 49, 50, 51, 52, 53, 54, 55, 56, 57, 58, 66, 67, 68] (by decide +kernel) (by decide +kernel)
set_option maxRecDepth 20000 in
theorem gX6_nearest_X2_nearest : GoodIn wsX6_nearest (wsV RX6 255 RX2 yX2_nearest wsX2_nearest) := goodIn_app (goodIn_of _ (by decide +kernel)) ggX6_nearest_X2_nearest
set_option maxRecDepth 20000 in
theorem ggX6_triedDenominator_X3_partsApart : GoodIn wsX6_triedDenominator wsX3_partsApart := goodIn_r _ [4, 5, 6, 7, 8, 9, 10, 3, 11, 12, 13, 14, 15, 16, 17, 18] (by decide +kernel) (by decide +kernel)
set_option maxRecDepth 20000 in
theorem gX6_triedDenominator_X3_partsApart : GoodIn wsX6_triedDenominator (va_wsS RX6 257 yX3_partsApart wsX3_partsApart) := goodIn_app (goodIn_of _ (by decide +kernel)) ggX6_triedDenominator_X3_partsApart
set_option maxRecDepth 20000 in
theorem ggL_told_X6_numeratorOf : GoodIn wsL_told wsX6_numeratorOf := goodIn_ca (goodIn_r _ [7, 8, 9, 10, 6, 11, 12, 13, 14, 15, 16, 17, 18, 19, 20, 33, 34, 35, 36, 37, 38, 39] (by decide +kernel) (by decide +kernel)) (goodIn_sub (fun _ h => List.mem_cons_of_mem _ (List.mem_append_right _ h)) (by decide +kernel))
set_option maxRecDepth 20000 in
theorem gL_told_X6_numeratorOf : GoodIn wsL_told (wsV RL 12 RX6 yX6_numeratorOf wsX6_numeratorOf) := goodIn_app (goodIn_of _ (by decide +kernel)) ggL_told_X6_numeratorOf
set_option maxRecDepth 20000 in
theorem ggL_told_X6_denominatorOf : GoodIn wsL_told wsX6_denominatorOf := goodIn_ca (goodIn_r _ [24, 8, 9, 10, 6, 11, 12, 13, 14, 15, 16, 25, 26, 19, 27, 28, 29, 30, 31, 32, 33, 34, 35, 36, 37, 38, 39] (by decide +kernel) (by decide +kernel)) (goodIn_sub (fun _ h => List.mem_cons_of_mem _ (List.mem_append_right _ h)) (by decide +kernel))
set_option maxRecDepth 20000 in
theorem gL_told_X6_denominatorOf : GoodIn wsL_told (wsV RL 18 RX6 yX6_denominatorOf wsX6_denominatorOf) := goodIn_app (goodIn_of _ (by decide +kernel)) ggL_told_X6_denominatorOf
set_option maxRecDepth 20000 in
theorem ggL_act_L_low : GoodIn wsL_act wsL_low := goodIn_r _ [6, 7] (by decide +kernel) (by decide +kernel)
set_option maxRecDepth 20000 in
theorem gL_act_L_low : GoodIn wsL_act (va_wsS RL 21 yL_low wsL_low) := goodIn_app (goodIn_of _ (by decide +kernel)) ggL_act_L_low
set_option maxRecDepth 20000 in
theorem ggL_act_X6_numeratorOf : GoodIn wsL_act wsX6_numeratorOf := goodIn_ca (goodIn_r _ [12, 13, 14, 15, 11, 16, 17, 18, 19, 20, 21, 22, 23, 24, 25, 171, 172, 173, 174, 175, 176, 177] (by decide +kernel) (by decide +kernel)) (goodIn_sub (fun _ h => List.mem_cons_of_mem _ (List.mem_append_left _ (List.mem_append_left _ (List.mem_append_right _ h)))) (by decide +kernel))
set_option maxRecDepth 20000 in
theorem gL_act_X6_numeratorOf : GoodIn wsL_act (wsV RL 12 RX6 yX6_numeratorOf wsX6_numeratorOf) := goodIn_app (goodIn_of _ (by decide +kernel)) ggL_act_X6_numeratorOf
set_option maxRecDepth 20000 in
theorem ggL_act_X6_denominatorOf : GoodIn wsL_act wsX6_denominatorOf := goodIn_ca (goodIn_r _ [29, 13, 14, 15, 11, 16, 17, 18, 19, 20, 21, 30, 31, 24, 32, 33, 34, 35, 36, 37, 171, 172, 173, 174, 175, 176, 177] (by decide +kernel) (by decide +kernel)) (goodIn_sub (fun _ h => List.mem_cons_of_mem _ (List.mem_append_left _ (List.mem_append_left _ (List.mem_append_right _ h)))) (by decide +kernel))
set_option maxRecDepth 20000 in
theorem gL_act_X6_denominatorOf : GoodIn wsL_act (wsV RL 18 RX6 yX6_denominatorOf wsX6_denominatorOf) := goodIn_app (goodIn_of _ (by decide +kernel)) ggL_act_X6_denominatorOf
set_option maxRecDepth 20000 in
theorem ggL_act_X6_set : GoodIn wsL_act wsX6_set := goodIn_ca (goodIn_ca (goodIn_r _ [41, 42, 43, 44, 14, 15, 11, 16, 17, 18, 19, 20, 21, 45, 46, 24, 47, 48, 49, 50, 51, 52, 34, 35, 36, 37, 53, 54, 55, 56, 57, 58, 59, 60, 13, 61, 62, 63, 64, 65, 66, 67, 68, 69, 70, 71, 72, 73, 74, 75, 76, 30, 31, 32, 33, 171, 172, 173, 174, 175, 176, 177, 178, 179, 180] (by decide +kernel) (by decide +kernel)) (goodIn_sub (fun _ h => List.mem_cons_of_mem _ (List.mem_append_left _ (List.mem_append_right _ h))) (by decide +kernel))) (goodIn_sub (fun _ h => List.mem_cons_of_mem _ (List.mem_append_left _ (List.mem_append_left _ (List.mem_append_right _ h)))) (by decide +kernel))
set_option maxRecDepth 20000 in
theorem gL_act_X6_set : GoodIn wsL_act (wsV RL 29 RX6 yX6_set wsX6_set) := goodIn_app (goodIn_of _ (by decide +kernel)) ggL_act_X6_set
set_option maxRecDepth 20000 in
theorem ggL_act_X6_add : GoodIn wsL_act wsX6_add := goodIn_ca (goodIn_ca (goodIn_r _ [80, 13, 14, 15, 11, 16, 17, 18, 19, 20, 21, 81, 82, 24, 83, 84, 23, 25, 85, 31, 32, 33, 34, 35, 36, 37, 86, 46, 47, 48, 49, 50, 51, 52, 53, 54, 55, 87, 88, 89, 90, 91, 92, 93, 56, 57, 58, 59, 60, 61, 62, 63, 64, 65, 66, 67, 68, 69, 70, 71, 72, 73, 74, 75, 76, 30, 171, 172, 173, 174, 175, 176, 177, 178, 179, 180] (by decide +kernel) (by decide +kernel)) (goodIn_sub (fun _ h => List.mem_cons_of_mem _ (List.mem_append_left _ (List.mem_append_left _ (List.mem_append_right _ h)))) (by decide +kernel))) (goodIn_sub (fun _ h => List.mem_cons_of_mem _ (List.mem_append_right _ h)) (by decide +kernel))
set_option maxRecDepth 20000 in
theorem gL_act_X6_add : GoodIn wsL_act (wsV RL 33 RX6 yX6_add wsX6_add) := goodIn_app (goodIn_of _ (by decide +kernel)) ggL_act_X6_add
set_option maxRecDepth 20000 in
theorem ggL_act_X6_compare : GoodIn wsL_act wsX6_compare := goodIn_ca (goodIn_r _ [97, 13, 14, 15, 11, 16, 17, 18, 19, 20, 21, 98, 99, 24, 100, 84, 23, 25, 85, 31, 32, 33, 34, 35, 36, 37, 171, 172, 173, 174, 175, 176, 177] (by decide +kernel) (by decide +kernel)) (goodIn_sub (fun _ h => List.mem_cons_of_mem _ (List.mem_append_left _ (List.mem_append_left _ (List.mem_append_right _ h)))) (by decide +kernel))
set_option maxRecDepth 20000 in
theorem gL_act_X6_compare : GoodIn wsL_act (wsV RL 36 RX6 yX6_compare wsX6_compare) := goodIn_app (goodIn_of _ (by decide +kernel)) ggL_act_X6_compare
set_option maxRecDepth 20000 in
theorem ggL_act_X6_takeAway : GoodIn wsL_act wsX6_takeAway := goodIn_ca (goodIn_ca (goodIn_r _ [104, 13, 14, 15, 11, 16, 17, 18, 19, 20, 21, 105, 106, 24, 107, 84, 23, 25, 85, 31, 32, 33, 34, 35, 36, 37, 86, 46, 47, 48, 49, 50, 51, 52, 53, 54, 55, 87, 88, 89, 90, 91, 92, 93, 56, 57, 58, 59, 60, 61, 62, 63, 64, 65, 66, 67, 68, 69, 70, 71, 72, 73, 74, 75, 76, 30, 171, 172, 173, 174, 175, 176, 177, 178, 179, 180] (by decide +kernel) (by decide +kernel)) (goodIn_sub (fun _ h => List.mem_cons_of_mem _ (List.mem_append_left _ (List.mem_append_left _ (List.mem_append_right _ h)))) (by decide +kernel))) (goodIn_sub (fun _ h => List.mem_cons_of_mem _ (List.mem_append_right _ h)) (by decide +kernel))
set_option maxRecDepth 20000 in
theorem gL_act_X6_takeAway : GoodIn wsL_act (wsV RL 39 RX6 yX6_takeAway wsX6_takeAway) := goodIn_app (goodIn_of _ (by decide +kernel)) ggL_act_X6_takeAway
set_option maxRecDepth 20000 in
theorem ggL_act_X6_multiply : GoodIn wsL_act wsX6_multiply := goodIn_ca (goodIn_ca (goodIn_r _ [111, 13, 14, 15, 11, 16, 17, 18, 19, 20, 21, 112, 113, 24, 114, 84, 23, 25, 85, 31, 32, 33, 34, 35, 36, 37, 86, 46, 47, 48, 49, 50, 51, 52, 53, 54, 55, 87, 88, 89, 90, 91, 92, 93, 56, 57, 58, 59, 60, 61, 62, 63, 64, 65, 66, 67, 68, 69, 70, 71, 72, 73, 74, 75, 76, 30, 171, 172, 173, 174, 175, 176, 177, 178, 179, 180] (by decide +kernel) (by decide +kernel)) (goodIn_sub (fun _ h => List.mem_cons_of_mem _ (List.mem_append_left _ (List.mem_append_left _ (List.mem_append_right _ h)))) (by decide +kernel))) (goodIn_sub (fun _ h => List.mem_cons_of_mem _ (List.mem_append_right _ h)) (by decide +kernel))
set_option maxRecDepth 20000 in
theorem gL_act_X6_multiply : GoodIn wsL_act (wsV RL 42 RX6 yX6_multiply wsX6_multiply) := goodIn_app (goodIn_of _ (by decide +kernel)) ggL_act_X6_multiply
set_option maxRecDepth 20000 in
theorem ggL_act_X6_copyTo : GoodIn wsL_act wsX6_copyTo := goodIn_ca (goodIn_r _ [118, 13, 14, 15, 11, 16, 17, 18, 19, 20, 21, 56, 57, 58, 59, 60, 61, 62, 63, 64, 65, 66, 67, 68, 69, 70, 71, 72, 73, 74, 75, 76, 30, 31, 24, 32, 33, 34, 35, 36, 37, 171, 172, 173, 174, 175, 176, 177, 178, 179, 180] (by decide +kernel) (by decide +kernel)) (goodIn_sub (fun _ h => List.mem_cons_of_mem _ (List.mem_append_left _ (List.mem_append_left _ (List.mem_append_right _ h)))) (by decide +kernel))
set_option maxRecDepth 20000 in
theorem gL_act_X6_copyTo : GoodIn wsL_act (wsV RL 45 RX6 yX6_copyTo wsX6_copyTo) := goodIn_app (goodIn_of _ (by decide +kernel)) ggL_act_X6_copyTo
set_option maxRecDepth 20000 in
theorem ggL_act_X6_invert : GoodIn wsL_act wsX6_invert := goodIn_ca (goodIn_ca (goodIn_r _ [122, 13, 123, 124, 125, 11, 126, 91, 92, 14, 15, 16, 17, 18, 19, 20, 21, 30, 31, 24, 32, 33, 34, 35, 36, 37, 22, 23, 25, 45, 46, 47, 48, 49, 50, 51, 52, 53, 54, 55, 56, 57, 58, 59, 60, 61, 62, 63, 64, 65, 66, 67, 68, 69, 70, 71, 72, 73, 74, 75, 76, 171, 172, 173, 174, 175, 176, 177, 178, 179, 180] (by decide +kernel) (by decide +kernel)) (goodIn_sub (fun _ h => List.mem_cons_of_mem _ (List.mem_append_right _ h)) (by decide +kernel))) (goodIn_sub (fun _ h => List.mem_cons_of_mem _ (List.mem_append_left _ (List.mem_append_left _ (List.mem_append_right _ h)))) (by decide +kernel))
set_option maxRecDepth 20000 in
theorem gL_act_X6_invert : GoodIn wsL_act (wsV RL 49 RX6 yX6_invert wsX6_invert) := goodIn_app (goodIn_of _ (by decide +kernel)) ggL_act_X6_invert
set_option maxRecDepth 20000 in
theorem ggL_act_X6_share : GoodIn wsL_act wsX6_share := goodIn_ca (goodIn_ca (goodIn_ca (goodIn_r _ [130, 42, 43, 13, 14, 15, 11, 16, 17, 18, 19, 20, 21, 22, 23, 24, 25, 30, 31, 32, 33, 34, 35, 36, 37, 45, 46, 47, 48, 49, 50, 51, 52, 53, 54, 55, 87, 88, 89, 90, 91, 92, 93, 56, 57, 58, 59, 60, 61, 62, 63, 64, 65, 66, 67, 68, 69, 70, 71, 72, 73, 74, 75, 76, 171, 172, 173, 174, 175, 176, 177, 178, 179, 180] (by decide +kernel) (by decide +kernel)) (goodIn_sub (fun _ h => List.mem_cons_of_mem _ (List.mem_append_left _ (List.mem_append_right _ h))) (by decide +kernel))) (goodIn_sub (fun _ h => List.mem_cons_of_mem _ (List.mem_append_left _ (List.mem_append_left _ (List.mem_append_right _ h)))) (by decide +kernel))) (goodIn_sub (fun _ h => List.mem_cons_of_mem _ (List.mem_append_right _ h)) (by decide +kernel))
set_option maxRecDepth 20000 in
theorem gL_act_X6_share : GoodIn wsL_act (wsV RL 52 RX6 yX6_share wsX6_share) := goodIn_app (goodIn_of _ (by decide +kernel)) ggL_act_X6_share
set_option maxRecDepth 20000 in
theorem ggL_act_X6_roundTo : GoodIn wsL_act wsX6_roundTo := goodIn_ca (goodIn_ca (goodIn_r _ [134, 135, 136, 137, 11, 138, 139, 13, 14, 15, 16, 17, 18, 19, 20, 21, 140, 141, 142, 42, 43, 143, 144, 145, 146, 147, 148, 149, 150, 151, 23, 24, 25, 152, 31, 32, 33, 34, 35, 36, 37, 153, 154, 155, 156, 157, 54, 55, 158, 159, 160, 161, 162, 163, 164, 165, 166, 167, 168, 169, 170, 84, 85, 56, 57, 58, 59, 60, 61, 62, 63, 64, 65, 66, 67, 68, 69, 70, 71, 72, 73, 74, 75, 76, 30, 171, 172, 173, 174, 175, 176, 177, 181, 182, 183, 178, 179, 180] (by decide +kernel) (by decide +kernel)) (goodIn_sub (fun _ h => List.mem_cons_of_mem _ (List.mem_append_left _ (List.mem_append_left _ (List.mem_append_right _ h)))) (by decide +kernel))) (goodIn_sub (fun _ h => List.mem_cons_of_mem _ (List.mem_append_left _ (List.mem_append_right _ h))) (by decide +kernel))
set_option maxRecDepth 20000 in
theorem gL_act_X6_roundTo : GoodIn wsL_act (wsV RL 55 RX6 yX6_roundTo wsX6_roundTo) := goodIn_app (goodIn_of _ (by decide +kernel)) ggL_act_X6_roundTo
set_option maxRecDepth 20000 in
theorem ggL_holds_X6_plateByAmount : GoodIn wsL_holds wsX6_plateByAmount := goodIn_ca (goodIn_r _ [6, 7, 8, 9, 10, 11, 5, 12, 13, 14, 15, 16, 17, 18, 19, 20, 21, 22, 23, 24, 25, 26, 27, 28, 166, 167, 168, 169, 170, 171, 172] (by decide +kernel) (by decide +kernel)) (goodIn_sub (fun _ h => List.mem_cons_of_mem _ (List.mem_append_left _ (List.mem_append_left _ (List.mem_append_right _ h)))) (by decide +kernel))
set_option maxRecDepth 20000 in
theorem gL_holds_X6_plateByAmount : GoodIn wsL_holds (wsV RL 58 RX6 yX6_plateByAmount wsX6_plateByAmount) := goodIn_app (goodIn_of _ (by decide +kernel)) ggL_holds_X6_plateByAmount
set_option maxRecDepth 20000 in
theorem ggL_holds_X6_numeratorOf : GoodIn wsL_holds wsX6_numeratorOf := goodIn_ca (goodIn_r _ [32, 13, 33, 34, 5, 35, 7, 8, 36, 37, 38, 39, 19, 16, 20, 166, 167, 168, 169, 170, 171, 172] (by decide +kernel) (by decide +kernel)) (goodIn_sub (fun _ h => List.mem_cons_of_mem _ (List.mem_append_left _ (List.mem_append_left _ (List.mem_append_right _ h)))) (by decide +kernel))
set_option maxRecDepth 20000 in
theorem gL_holds_X6_numeratorOf : GoodIn wsL_holds (wsV RL 12 RX6 yX6_numeratorOf wsX6_numeratorOf) := goodIn_app (goodIn_of _ (by decide +kernel)) ggL_holds_X6_numeratorOf
set_option maxRecDepth 20000 in
theorem ggL_holds_X6_denominatorOf : GoodIn wsL_holds wsX6_denominatorOf := goodIn_ca (goodIn_r _ [43, 13, 33, 34, 5, 35, 7, 8, 36, 37, 38, 44, 22, 16, 23, 24, 25, 26, 27, 28, 166, 167, 168, 169, 170, 171, 172] (by decide +kernel) (by decide +kernel)) (goodIn_sub (fun _ h => List.mem_cons_of_mem _ (List.mem_append_left _ (List.mem_append_left _ (List.mem_append_right _ h)))) (by decide +kernel))
set_option maxRecDepth 20000 in
theorem gL_holds_X6_denominatorOf : GoodIn wsL_holds (wsV RL 18 RX6 yX6_denominatorOf wsX6_denominatorOf) := goodIn_app (goodIn_of _ (by decide +kernel)) ggL_holds_X6_denominatorOf
set_option maxRecDepth 20000 in
theorem ggL_holds_L_common : GoodIn wsL_holds wsL_common := goodIn_r _ [48] (by decide +kernel) (by decide +kernel)
set_option maxRecDepth 20000 in
theorem gL_holds_L_common : GoodIn wsL_holds (va_wsS RL 61 yL_common wsL_common) := goodIn_app (goodIn_of _ (by decide +kernel)) ggL_holds_L_common
set_option maxRecDepth 20000 in
theorem ggL_holds_X6_compare : GoodIn wsL_holds wsX6_compare := goodIn_ca (goodIn_r _ [52, 13, 33, 34, 5, 35, 7, 8, 36, 37, 38, 14, 15, 16, 17, 18, 19, 20, 21, 22, 23, 24, 25, 26, 27, 28, 166, 167, 168, 169, 170, 171, 172] (by decide +kernel) (by decide +kernel)) (goodIn_sub (fun _ h => List.mem_cons_of_mem _ (List.mem_append_left _ (List.mem_append_left _ (List.mem_append_right _ h)))) (by decide +kernel))
set_option maxRecDepth 20000 in
theorem gL_holds_X6_compare : GoodIn wsL_holds (wsV RL 36 RX6 yX6_compare wsX6_compare) := goodIn_app (goodIn_of _ (by decide +kernel)) ggL_holds_X6_compare
set_option maxRecDepth 20000 in
theorem ggL_holds_X6_commonParts : GoodIn wsL_holds wsX6_commonParts := goodIn_r _ [56, 13, 57, 58, 44, 22, 16, 23, 24, 25, 26, 27, 28, 59, 60, 61, 166, 167, 168, 169, 170, 171, 172] (by decide +kernel) (by decide +kernel)
set_option maxRecDepth 20000 in
theorem gL_holds_X6_commonParts : GoodIn wsL_holds (wsV RL 64 RX6 yX6_commonParts wsX6_commonParts) := goodIn_app (goodIn_of _ (by decide +kernel)) ggL_holds_X6_commonParts
set_option maxRecDepth 20000 in
theorem ggL_holds_X6_nearestDenominator : GoodIn wsL_holds wsX6_nearestDenominator := goodIn_ca (goodIn_ca (goodIn_r _ [65, 66, 67, 68, 5, 69, 70, 13, 33, 34, 35, 7, 8, 36, 37, 38, 71, 72, 73, 74, 75, 76, 77, 78, 79, 80, 81, 82, 83, 84, 19, 16, 20, 85, 22, 23, 24, 25, 26, 27, 28, 86, 87, 88, 89, 90, 91, 92, 93, 94, 95, 96, 97, 98, 99, 100, 101, 102, 103, 104, 105, 18, 21, 44, 166, 167, 168, 169, 170, 171, 172, 173, 174, 175] (by decide +kernel) (by decide +kernel)) (goodIn_sub (fun _ h => List.mem_cons_of_mem _ (List.mem_append_left _ (List.mem_append_left _ (List.mem_append_right _ h)))) (by decide +kernel))) (goodIn_sub (fun _ h => List.mem_cons_of_mem _ (List.mem_append_left _ (List.mem_append_right _ h))) (by decide +kernel))
set_option maxRecDepth 20000 in
theorem gL_holds_X6_nearestDenominator : GoodIn wsL_holds (wsV RL 68 RX6 yX6_nearestDenominator wsX6_nearestDenominator) := goodIn_app (goodIn_of _ (by decide +kernel)) ggL_holds_X6_nearestDenominator
set_option maxRecDepth 20000 in
theorem ggL_holds_X6_nearestByTrying : GoodIn wsL_holds wsX6_nearestByTrying := goodIn_ca (goodIn_ca (goodIn_r _ [109, 13, 33, 34, 5, 35, 7, 8, 36, 37, 38, 71, 72, 73, 74, 75, 110, 111, 112, 113, 114, 16, 115, 116, 117, 27, 118, 18, 19, 20, 21, 22, 23, 24, 25, 26, 28, 166, 167, 168, 169, 170, 171, 172] (by decide +kernel) (by decide +kernel)) (goodIn_sub (fun _ h => List.mem_cons_of_mem _ (List.mem_append_left _ (List.mem_append_left _ (List.mem_append_right _ h)))) (by decide +kernel))) (goodIn_sub (fun _ h => List.mem_cons_of_mem _ (List.mem_append_left _ (List.mem_append_right _ h))) (by decide +kernel))
set_option maxRecDepth 20000 in
theorem gL_holds_X6_nearestByTrying : GoodIn wsL_holds (wsV RL 71 RX6 yX6_nearestByTrying wsX6_nearestByTrying) := goodIn_app (goodIn_of _ (by decide +kernel)) ggL_holds_X6_nearestByTrying
set_option maxRecDepth 20000 in
theorem ggL_holds_X6_nearestNumerator : GoodIn wsL_holds wsX6_nearestNumerator := goodIn_ca (goodIn_ca (goodIn_r _ [122, 66, 67, 68, 5, 69, 70, 13, 33, 34, 35, 7, 8, 36, 37, 38, 71, 72, 73, 74, 75, 76, 77, 78, 79, 80, 81, 82, 83, 84, 19, 16, 20, 85, 22, 23, 24, 25, 26, 27, 28, 86, 87, 88, 89, 90, 91, 92, 93, 94, 95, 96, 97, 98, 99, 100, 101, 102, 103, 104, 105, 18, 21, 39, 166, 167, 168, 169, 170, 171, 172, 173, 174, 175] (by decide +kernel) (by decide +kernel)) (goodIn_sub (fun _ h => List.mem_cons_of_mem _ (List.mem_append_left _ (List.mem_append_left _ (List.mem_append_right _ h)))) (by decide +kernel))) (goodIn_sub (fun _ h => List.mem_cons_of_mem _ (List.mem_append_left _ (List.mem_append_right _ h))) (by decide +kernel))
set_option maxRecDepth 20000 in
theorem gL_holds_X6_nearestNumerator : GoodIn wsL_holds (wsV RL 74 RX6 yX6_nearestNumerator wsX6_nearestNumerator) := goodIn_app (goodIn_of _ (by decide +kernel)) ggL_holds_X6_nearestNumerator
set_option maxRecDepth 20000 in
theorem ggL_holds_X6_termCount : GoodIn wsL_holds wsX6_termCount := goodIn_ca (goodIn_r _ [126, 70, 13, 33, 34, 5, 35, 7, 8, 36, 37, 38, 76, 77, 78, 79, 80, 81, 82, 83, 84, 19, 16, 20, 85, 22, 23, 24, 25, 26, 27, 28, 86, 87, 88, 89, 90, 91, 92, 127, 128, 129, 130, 166, 167, 168, 169, 170, 171, 172, 173, 174, 175] (by decide +kernel) (by decide +kernel)) (goodIn_sub (fun _ h => List.mem_cons_of_mem _ (List.mem_append_left _ (List.mem_append_left _ (List.mem_append_right _ h)))) (by decide +kernel))
set_option maxRecDepth 20000 in
theorem gL_holds_X6_termCount : GoodIn wsL_holds (wsV RL 77 RX6 yX6_termCount wsX6_termCount) := goodIn_app (goodIn_of _ (by decide +kernel)) ggL_holds_X6_termCount
set_option maxRecDepth 20000 in
theorem ggL_holds_X6_beginningNumerator : GoodIn wsL_holds wsX6_beginningNumerator := goodIn_ca (goodIn_r _ [134, 70, 135, 136, 137, 5, 138, 7, 8, 13, 33, 34, 35, 36, 37, 38, 76, 77, 78, 79, 80, 81, 82, 83, 84, 19, 16, 20, 85, 22, 23, 24, 25, 26, 27, 28, 86, 87, 88, 89, 90, 91, 92, 127, 128, 129, 130, 139, 140, 141, 142, 39, 166, 167, 168, 169, 170, 171, 172, 173, 174, 175] (by decide +kernel) (by decide +kernel)) (goodIn_sub (fun _ h => List.mem_cons_of_mem _ (List.mem_append_left _ (List.mem_append_left _ (List.mem_append_right _ h)))) (by decide +kernel))
set_option maxRecDepth 20000 in
theorem gL_holds_X6_beginningNumerator : GoodIn wsL_holds (wsV RL 80 RX6 yX6_beginningNumerator wsX6_beginningNumerator) := goodIn_app (goodIn_of _ (by decide +kernel)) ggL_holds_X6_beginningNumerator
set_option maxRecDepth 20000 in
theorem ggL_holds_X6_beginningDenominator : GoodIn wsL_holds wsX6_beginningDenominator := goodIn_ca (goodIn_r _ [146, 70, 135, 136, 137, 5, 138, 7, 8, 13, 33, 34, 35, 36, 37, 38, 76, 77, 78, 79, 80, 81, 82, 83, 84, 19, 16, 20, 85, 22, 23, 24, 25, 26, 27, 28, 86, 87, 88, 89, 90, 91, 92, 127, 128, 129, 130, 139, 140, 141, 142, 44, 166, 167, 168, 169, 170, 171, 172, 173, 174, 175] (by decide +kernel) (by decide +kernel)) (goodIn_sub (fun _ h => List.mem_cons_of_mem _ (List.mem_append_left _ (List.mem_append_left _ (List.mem_append_right _ h)))) (by decide +kernel))
set_option maxRecDepth 20000 in
theorem gL_holds_X6_beginningDenominator : GoodIn wsL_holds (wsV RL 83 RX6 yX6_beginningDenominator wsX6_beginningDenominator) := goodIn_app (goodIn_of _ (by decide +kernel)) ggL_holds_X6_beginningDenominator
set_option maxRecDepth 20000 in
theorem ggL_holds_X6_differentFractions : GoodIn wsL_holds wsX6_differentFractions := goodIn_r _ [150, 151, 152, 153, 5, 154, 13, 166, 167, 168, 169, 170, 171, 172] (by decide +kernel) (by decide +kernel)
set_option maxRecDepth 20000 in
theorem gL_holds_X6_differentFractions : GoodIn wsL_holds (wsV RL 86 RX6 yX6_differentFractions wsX6_differentFractions) := goodIn_app (goodIn_of _ (by decide +kernel)) ggL_holds_X6_differentFractions
set_option maxRecDepth 20000 in
theorem ggL_holds_X6_beginsRight : GoodIn wsL_holds wsX6_beginsRight := goodIn_ca (goodIn_ca (goodIn_r _ [158, 13, 159, 160, 161, 162, 5, 163, 164, 165, 33, 34, 35, 7, 8, 36, 37, 38, 14, 15, 16, 17, 18, 19, 20, 21, 22, 23, 24, 25, 26, 27, 28, 166, 167, 168, 169, 170, 171, 172] (by decide +kernel) (by decide +kernel)) (goodIn_sub (fun _ h => List.mem_cons_of_mem _ (List.mem_append_right _ h)) (by decide +kernel))) (goodIn_sub (fun _ h => List.mem_cons_of_mem _ (List.mem_append_left _ (List.mem_append_left _ (List.mem_append_right _ h)))) (by decide +kernel))
set_option maxRecDepth 20000 in
theorem gL_holds_X6_beginsRight : GoodIn wsL_holds (wsV RL 90 RX6 yX6_beginsRight wsX6_beginsRight) := goodIn_app (goodIn_of _ (by decide +kernel)) ggL_holds_X6_beginsRight
abbrev vwCl : List vw_C := [(RX0, TX0, 6), (RX1, TX1, 2), (RX2, TX2, 3), (RX4, TX4, 3), (RX6, TX6, 7)]
