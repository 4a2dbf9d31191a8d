set_option maxRecDepth 20000 in
theorem ggX0_accept_X0_acceptLetter : GoodIn wsX0_accept wsX0_acceptLetter := goodIn_r _ [6, 7, 8, 9, 10, 1, 43, 44, 45, 46, 47, 48] (by decide +kernel) (by decide +kernel)
set_option maxRecDepth 20000 in
theorem gX0_accept_X0_acceptLetter : GoodIn wsX0_accept (wsV RX0 28 RX0 yX0_acceptLetter wsX0_acceptLetter) := goodIn_app (goodIn_of _ (by decide +kernel)) ggX0_accept_X0_acceptLetter
set_option maxRecDepth 20000 in
theorem ggX0_accept_X0_acceptPlate : GoodIn wsX0_accept wsX0_acceptPlate := goodIn_r _ [14, 15, 1, 16, 17, 5, 18, 43, 44, 45, 46, 47, 48] (by decide +kernel) (by decide +kernel)
set_option maxRecDepth 20000 in
theorem gX0_accept_X0_acceptPlate : GoodIn wsX0_accept (wsV RX0 32 RX0 yX0_acceptPlate wsX0_acceptPlate) := goodIn_app (goodIn_of _ (by decide +kernel)) ggX0_accept_X0_acceptPlate
set_option maxRecDepth 20000 in
theorem ggX0_accept_X0_acceptSignBehindPlate : GoodIn wsX0_accept wsX0_acceptSignBehindPlate := goodIn_r _ [22, 7, 1, 43, 44, 45, 46, 47, 48] (by decide +kernel) (by decide +kernel)
set_option maxRecDepth 20000 in
theorem gX0_accept_X0_acceptSignBehindPlate : GoodIn wsX0_accept (wsV RX0 35 RX0 yX0_acceptSignBehindPlate wsX0_acceptSignBehindPlate) := goodIn_app (goodIn_of _ (by decide +kernel)) ggX0_accept_X0_acceptSignBehindPlate
set_option maxRecDepth 20000 in
theorem ggX0_accept_X0_acceptFirstNumber : GoodIn wsX0_accept wsX0_acceptFirstNumber := goodIn_r _ [26, 8, 10, 1, 27, 28, 29, 5, 30, 16, 17, 18, 43, 44, 45, 46, 47, 48] (by decide +kernel) (by decide +kernel)
set_option maxRecDepth 20000 in
theorem gX0_accept_X0_acceptFirstNumber : GoodIn wsX0_accept (wsV RX0 38 RX0 yX0_acceptFirstNumber wsX0_acceptFirstNumber) := goodIn_app (goodIn_of _ (by decide +kernel)) ggX0_accept_X0_acceptFirstNumber
set_option maxRecDepth 20000 in
theorem ggX0_accept_X0_acceptSecondNumber : GoodIn wsX0_accept wsX0_acceptSecondNumber := goodIn_r _ [34, 9, 10, 27, 28, 29, 5, 30, 16, 17, 18, 35, 36, 37, 38, 1, 43, 44, 45, 46, 47, 48] (by decide +kernel) (by decide +kernel)
set_option maxRecDepth 20000 in
theorem gX0_accept_X0_acceptSecondNumber : GoodIn wsX0_accept (wsV RX0 41 RX0 yX0_acceptSecondNumber wsX0_acceptSecondNumber) := goodIn_app (goodIn_of _ (by decide +kernel)) ggX0_accept_X0_acceptSecondNumber
set_option maxRecDepth 20000 in
theorem ggX0_accept_X0_acceptOtherPlate : GoodIn wsX0_accept wsX0_acceptOtherPlate := goodIn_r _ [42, 9, 1, 16, 17, 5, 18, 43, 44, 45, 46, 47, 48] (by decide +kernel) (by decide +kernel)
set_option maxRecDepth 20000 in
theorem gX0_accept_X0_acceptOtherPlate : GoodIn wsX0_accept (wsV RX0 44 RX0 yX0_acceptOtherPlate wsX0_acceptOtherPlate) := goodIn_app (goodIn_of _ (by decide +kernel)) ggX0_accept_X0_acceptOtherPlate
set_option maxRecDepth 20000 in
theorem ggX0_accept_X0_acceptEnd : GoodIn wsX0_accept wsX0_acceptEnd := goodIn_r _ [38, 1, 43, 44, 45, 46, 47, 48] (by decide +kernel) (by decide +kernel)
set_option maxRecDepth 20000 in
theorem gX0_accept_X0_acceptEnd : GoodIn wsX0_accept (wsV RX0 47 RX0 yX0_acceptEnd wsX0_acceptEnd) := goodIn_app (goodIn_of _ (by decide +kernel)) ggX0_accept_X0_acceptEnd
set_option maxRecDepth 20000 in
theorem ggX0_acceptPlate_X0_isDigit : GoodIn wsX0_acceptPlate wsX0_isDigit := goodIn_r _ [6] (by decide +kernel) (by decide +kernel)
set_option maxRecDepth 20000 in
theorem gX0_acceptPlate_X0_isDigit : GoodIn wsX0_acceptPlate (va_wsS RX0 50 yX0_isDigit wsX0_isDigit) := goodIn_app (goodIn_of _ (by decide +kernel)) ggX0_acceptPlate_X0_isDigit
set_option maxRecDepth 20000 in
theorem ggX0_acceptFirstNumber_X0_canFollow : GoodIn wsX0_acceptFirstNumber wsX0_canFollow := goodIn_r _ [8, 2, 9, 10, 7, 11, 12, 13, 14, 15, 16, 17] (by decide +kernel) (by decide +kernel)
set_option maxRecDepth 20000 in
theorem gX0_acceptFirstNumber_X0_canFollow : GoodIn wsX0_acceptFirstNumber (wsV RX0 53 RX0 yX0_canFollow wsX0_canFollow) := goodIn_app (goodIn_of _ (by decide +kernel)) ggX0_acceptFirstNumber_X0_canFollow
set_option maxRecDepth 20000 in
theorem ggX0_acceptSecondNumber_X0_canFollow : GoodIn wsX0_acceptSecondNumber wsX0_canFollow := goodIn_r _ [7, 2, 8, 9, 6, 10, 16, 17, 18, 19, 20, 21] (by decide +kernel) (by decide +kernel)
set_option maxRecDepth 20000 in
theorem gX0_acceptSecondNumber_X0_canFollow : GoodIn wsX0_acceptSecondNumber (wsV RX0 53 RX0 yX0_canFollow wsX0_canFollow) := goodIn_app (goodIn_of _ (by decide +kernel)) ggX0_acceptSecondNumber_X0_canFollow
set_option maxRecDepth 20000 in
theorem ggX0_acceptSecondNumber_X0_acceptEnd : GoodIn wsX0_acceptSecondNumber wsX0_acceptEnd := goodIn_r _ [14, 15, 16, 17, 18, 19, 20, 21] (by decide +kernel) (by decide +kernel)
set_option maxRecDepth 20000 in
theorem gX0_acceptSecondNumber_X0_acceptEnd : GoodIn wsX0_acceptSecondNumber (wsV RX0 47 RX0 yX0_acceptEnd wsX0_acceptEnd) := goodIn_app (goodIn_of _ (by decide +kernel)) ggX0_acceptSecondNumber_X0_acceptEnd
set_option maxRecDepth 20000 in
theorem ggX0_acceptOtherPlate_X0_isDigit : GoodIn wsX0_acceptOtherPlate wsX0_isDigit := goodIn_r _ [6] (by decide +kernel) (by decide +kernel)
set_option maxRecDepth 20000 in
theorem gX0_acceptOtherPlate_X0_isDigit : GoodIn wsX0_acceptOtherPlate (va_wsS RX0 50 yX0_isDigit wsX0_isDigit) := goodIn_app (goodIn_of _ (by decide +kernel)) ggX0_acceptOtherPlate_X0_isDigit
set_option maxRecDepth 20000 in
theorem ggX0_canFollow_X0_isDigit : GoodIn wsX0_canFollow wsX0_isDigit := goodIn_r _ [5] (by decide +kernel) (by decide +kernel)
set_option maxRecDepth 20000 in
theorem gX0_canFollow_X0_isDigit : GoodIn wsX0_canFollow (va_wsS RX0 50 yX0_isDigit wsX0_isDigit) := goodIn_app (goodIn_of _ (by decide +kernel)) ggX0_canFollow_X0_isDigit
set_option maxRecDepth 20000 in
theorem ggX2_expand_X3_numerator : GoodIn wsX2_expand wsX3_numerator := goodIn_r _ [7] (by decide +kernel) (by decide +kernel)
set_option maxRecDepth 20000 in
theorem gX2_expand_X3_numerator : GoodIn wsX2_expand (va_wsS RX2 17 yX3_numerator wsX3_numerator) := goodIn_app (goodIn_of _ (by decide +kernel)) ggX2_expand_X3_numerator
set_option maxRecDepth 20000 in
theorem ggX2_expand_X3_denominator : GoodIn wsX2_expand wsX3_denominator := goodIn_r _ [10, 11, 12, 13, 14, 15] (by decide +kernel) (by decide +kernel)
set_option maxRecDepth 20000 in
theorem gX2_expand_X3_denominator : GoodIn wsX2_expand (va_wsS RX2 23 yX3_denominator wsX3_denominator) := goodIn_app (goodIn_of _ (by decide +kernel)) ggX2_expand_X3_denominator
set_option maxRecDepth 20000 in
theorem ggX2_expand_X2_nextBeginning : GoodIn wsX2_expand wsX2_nextBeginning := goodIn_r _ [20, 3, 21, 22, 6, 23, 4, 5, 7, 8, 9, 10, 11, 12, 13, 14, 15, 24, 25, 26] (by decide +kernel) (by decide +kernel)
set_option maxRecDepth 20000 in
theorem gX2_expand_X2_nextBeginning : GoodIn wsX2_expand (wsV RX2 30 RX2 yX2_nextBeginning wsX2_nextBeginning) := goodIn_app (goodIn_of _ (by decide +kernel)) ggX2_expand_X2_nextBeginning
set_option maxRecDepth 20000 in
theorem ggX2_nextBeginning_X3_pair : GoodIn wsX2_nextBeginning wsX3_pair := goodIn_r _ [5] (by decide +kernel) (by decide +kernel)
set_option maxRecDepth 20000 in
theorem gX2_nextBeginning_X3_pair : GoodIn wsX2_nextBeginning (va_wsS RX2 34 yX3_pair wsX3_pair) := goodIn_app (goodIn_of _ (by decide +kernel)) ggX2_nextBeginning_X3_pair
set_option maxRecDepth 20000 in
theorem ggX2_nextBeginning_X3_numerator : GoodIn wsX2_nextBeginning wsX3_numerator := goodIn_r _ [8] (by decide +kernel) (by decide +kernel)
set_option maxRecDepth 20000 in
theorem gX2_nextBeginning_X3_numerator : GoodIn wsX2_nextBeginning (va_wsS RX2 17 yX3_numerator wsX3_numerator) := goodIn_app (goodIn_of _ (by decide +kernel)) ggX2_nextBeginning_X3_numerator
set_option maxRecDepth 20000 in
theorem ggX2_nextBeginning_X3_denominator : GoodIn wsX2_nextBeginning wsX3_denominator := goodIn_r _ [11, 12, 13, 14, 15, 16] (by decide +kernel) (by decide +kernel)
set_option maxRecDepth 20000 in
theorem gX2_nextBeginning_X3_denominator : GoodIn wsX2_nextBeginning (va_wsS RX2 23 yX3_denominator wsX3_denominator) := goodIn_app (goodIn_of _ (by decide +kernel)) ggX2_nextBeginning_X3_denominator
set_option maxRecDepth 20000 in
theorem ggX2_nearest_X3_denominator : GoodIn wsX2_nearest wsX3_denominator := goodIn_r _ [6, 7, 8, 9, 10, 11] (by decide +kernel) (by decide +kernel)
set_option maxRecDepth 20000 in
theorem gX2_nearest_X3_denominator : GoodIn wsX2_nearest (va_wsS RX2 23 yX3_denominator wsX3_denominator) := goodIn_app (goodIn_of _ (by decide +kernel)) ggX2_nearest_X3_denominator
set_option maxRecDepth 20000 in
theorem ggX2_nearest_X2_nextBeginning : GoodIn wsX2_nearest wsX2_nextBeginning := goodIn_r _ [16, 2, 17, 18, 5, 19, 20, 21, 22, 3, 4, 6, 7, 8, 9, 10, 11, 34, 35, 36] (by decide +kernel) (by decide +kernel)
set_option maxRecDepth 20000 in
theorem gX2_nearest_X2_nextBeginning : GoodIn wsX2_nearest (wsV RX2 30 RX2 yX2_nextBeginning wsX2_nextBeginning) := goodIn_app (goodIn_of _ (by decide +kernel)) ggX2_nearest_X2_nextBeginning
set_option maxRecDepth 20000 in
theorem ggX2_nearest_X3_nearer : GoodIn wsX2_nearest wsX3_nearer := goodIn_r _ [25, 26, 27, 5, 28, 29, 30, 10, 31, 32, 21, 22, 33, 4, 6, 7, 8, 9, 11] (by decide +kernel) (by decide +kernel)
set_option maxRecDepth 20000 in
theorem gX2_nearest_X3_nearer : GoodIn wsX2_nearest (va_wsS RX2 38 yX3_nearer wsX3_nearer) := goodIn_app (goodIn_of _ (by decide +kernel)) ggX2_nearest_X3_nearer
set_option maxRecDepth 20000 in
theorem ggX3_inLowestTerms_X3_commonDivisor : GoodIn wsX3_inLowestTerms wsX3_commonDivisor := goodIn_r _ [6, 7, 8, 9, 10] (by decide +kernel) (by decide +kernel)
set_option maxRecDepth 20000 in
theorem gX3_inLowestTerms_X3_commonDivisor : GoodIn wsX3_inLowestTerms (va_wsS RX3 21 yX3_commonDivisor wsX3_commonDivisor) := goodIn_app (goodIn_of _ (by decide +kernel)) ggX3_inLowestTerms_X3_commonDivisor
set_option maxRecDepth 20000 in
theorem ggX3_inLowestTerms_X3_pair : GoodIn wsX3_inLowestTerms wsX3_pair := goodIn_r _ [13] (by decide +kernel) (by decide +kernel)
set_option maxRecDepth 20000 in
theorem gX3_inLowestTerms_X3_pair : GoodIn wsX3_inLowestTerms (va_wsS RX3 26 yX3_pair wsX3_pair) := goodIn_app (goodIn_of _ (by decide +kernel)) ggX3_inLowestTerms_X3_pair
set_option maxRecDepth 20000 in
theorem ggX3_sum_X3_numerator : GoodIn wsX3_sum wsX3_numerator := goodIn_r _ [4] (by decide +kernel) (by decide +kernel)
set_option maxRecDepth 20000 in
theorem gX3_sum_X3_numerator : GoodIn wsX3_sum (va_wsS RX3 29 yX3_numerator wsX3_numerator) := goodIn_app (goodIn_of _ (by decide +kernel)) ggX3_sum_X3_numerator
set_option maxRecDepth 20000 in
theorem ggX3_sum_X3_denominator : GoodIn wsX3_sum wsX3_denominator := goodIn_r _ [7, 8, 9, 10, 11, 12] (by decide +kernel) (by decide +kernel)
set_option maxRecDepth 20000 in
theorem gX3_sum_X3_denominator : GoodIn wsX3_sum (va_wsS RX3 33 yX3_denominator wsX3_denominator) := goodIn_app (goodIn_of _ (by decide +kernel)) ggX3_sum_X3_denominator
set_option maxRecDepth 20000 in
theorem ggX3_sum_X3_inLowestTerms : GoodIn wsX3_sum wsX3_inLowestTerms := goodIn_r _ [15, 16, 17, 18, 19, 3, 20, 9, 10, 11, 12, 21, 22, 23] (by decide +kernel) (by decide +kernel)
set_option maxRecDepth 20000 in
theorem gX3_sum_X3_inLowestTerms : GoodIn wsX3_sum (va_wsS RX3 36 yX3_inLowestTerms wsX3_inLowestTerms) := goodIn_app (goodIn_of _ (by decide +kernel)) ggX3_sum_X3_inLowestTerms
set_option maxRecDepth 20000 in
theorem ggX3_difference_X3_numerator : GoodIn wsX3_difference wsX3_numerator := goodIn_r _ [4] (by decide +kernel) (by decide +kernel)
set_option maxRecDepth 20000 in
theorem gX3_difference_X3_numerator : GoodIn wsX3_difference (va_wsS RX3 29 yX3_numerator wsX3_numerator) := goodIn_app (goodIn_of _ (by decide +kernel)) ggX3_difference_X3_numerator
set_option maxRecDepth 20000 in
theorem ggX3_difference_X3_denominator : GoodIn wsX3_difference wsX3_denominator := goodIn_r _ [7, 8, 9, 10, 11, 12] (by decide +kernel) (by decide +kernel)
set_option maxRecDepth 20000 in
theorem gX3_difference_X3_denominator : GoodIn wsX3_difference (va_wsS RX3 33 yX3_denominator wsX3_denominator) := goodIn_app (goodIn_of _ (by decide +kernel)) ggX3_difference_X3_denominator
set_option maxRecDepth 20000 in
theorem ggX3_difference_X3_inLowestTerms : GoodIn wsX3_difference wsX3_inLowestTerms := goodIn_r _ [15, 16, 17, 18, 19, 3, 20, 9, 10, 11, 12, 21, 22, 23] (by decide +kernel) (by decide +kernel)
set_option maxRecDepth 20000 in
theorem gX3_difference_X3_inLowestTerms : GoodIn wsX3_difference (va_wsS RX3 36 yX3_inLowestTerms wsX3_inLowestTerms) := goodIn_app (goodIn_of _ (by decide +kernel)) ggX3_difference_X3_inLowestTerms
set_option maxRecDepth 20000 in
theorem ggX3_product_X3_numerator : GoodIn wsX3_product wsX3_numerator := goodIn_r _ [4] (by decide +kernel) (by decide +kernel)
set_option maxRecDepth 20000 in
theorem gX3_product_X3_numerator : GoodIn wsX3_product (va_wsS RX3 29 yX3_numerator wsX3_numerator) := goodIn_app (goodIn_of _ (by decide +kernel)) ggX3_product_X3_numerator
set_option maxRecDepth 20000 in
theorem ggX3_product_X3_denominator : GoodIn wsX3_product wsX3_denominator := goodIn_r _ [7, 8, 9, 10, 11, 12] (by decide +kernel) (by decide +kernel)
set_option maxRecDepth 20000 in
theorem gX3_product_X3_denominator : GoodIn wsX3_product (va_wsS RX3 33 yX3_denominator wsX3_denominator) := goodIn_app (goodIn_of _ (by decide +kernel)) ggX3_product_X3_denominator
set_option maxRecDepth 20000 in
theorem ggX3_product_X3_inLowestTerms : GoodIn wsX3_product wsX3_inLowestTerms := goodIn_r _ [15, 16, 17, 18, 19, 3, 20, 9, 10, 11, 12, 21, 22, 23] (by decide +kernel) (by decide +kernel)
set_option maxRecDepth 20000 in
theorem gX3_product_X3_inLowestTerms : GoodIn wsX3_product (va_wsS RX3 36 yX3_inLowestTerms wsX3_inLowestTerms) := goodIn_app (goodIn_of _ (by decide +kernel)) ggX3_product_X3_inLowestTerms
set_option maxRecDepth 20000 in
theorem ggX3_order_X3_numerator : GoodIn wsX3_order wsX3_numerator := goodIn_r _ [4] (by decide +kernel) (by decide +kernel)
set_option maxRecDepth 20000 in
theorem gX3_order_X3_numerator : GoodIn wsX3_order (va_wsS RX3 29 yX3_numerator wsX3_numerator) := goodIn_app (goodIn_of _ (by decide +kernel)) ggX3_order_X3_numerator
set_option maxRecDepth 20000 in
theorem ggX3_order_X3_denominator : GoodIn wsX3_order wsX3_denominator := goodIn_r _ [7, 8, 9, 10, 11, 12] (by decide +kernel) (by decide +kernel)
set_option maxRecDepth 20000 in
theorem gX3_order_X3_denominator : GoodIn wsX3_order (va_wsS RX3 33 yX3_denominator wsX3_denominator) := goodIn_app (goodIn_of _ (by decide +kernel)) ggX3_order_X3_denominator
set_option maxRecDepth 20000 in
theorem ggX3_partsApart_X3_numerator : GoodIn wsX3_partsApart wsX3_numerator := goodIn_r _ [8] (by decide +kernel) (by decide +kernel)
set_option maxRecDepth 20000 in
theorem gX3_partsApart_X3_numerator : GoodIn wsX3_partsApart (va_wsS RX3 29 yX3_numerator wsX3_numerator) := goodIn_app (goodIn_of _ (by decide +kernel)) ggX3_partsApart_X3_numerator
set_option maxRecDepth 20000 in
theorem ggX3_partsApart_X3_denominator : GoodIn wsX3_partsApart wsX3_denominator := goodIn_r _ [11, 12, 13, 14, 3, 15] (by decide +kernel) (by decide +kernel)
set_option maxRecDepth 20000 in
theorem gX3_partsApart_X3_denominator : GoodIn wsX3_partsApart (va_wsS RX3 33 yX3_denominator wsX3_denominator) := goodIn_app (goodIn_of _ (by decide +kernel)) ggX3_partsApart_X3_denominator
set_option maxRecDepth 20000 in
theorem ggX3_nearer_X3_distanceTimesDenominators : GoodIn wsX3_nearer wsX3_distanceTimesDenominators := goodIn_r _ [4, 5, 6, 7, 8, 9, 10, 3, 11, 12, 13, 14, 15, 16, 17, 18] (by decide +kernel) (by decide +kernel)
set_option maxRecDepth 20000 in
theorem gX3_nearer_X3_distanceTimesDenominators : GoodIn wsX3_nearer (va_wsS RX3 42 yX3_distanceTimesDenominators wsX3_distanceTimesDenominators) := goodIn_app (goodIn_of _ (by decide +kernel)) ggX3_nearer_X3_distanceTimesDenominators
set_option maxRecDepth 20000 in
theorem ggX3_nearer_X3_denominator : GoodIn wsX3_nearer wsX3_denominator := goodIn_r _ [14, 15, 16, 17, 7, 18] (by decide +kernel) (by decide +kernel)
set_option maxRecDepth 20000 in
theorem gX3_nearer_X3_denominator : GoodIn wsX3_nearer (va_wsS RX3 33 yX3_denominator wsX3_denominator) := goodIn_app (goodIn_of _ (by decide +kernel)) ggX3_nearer_X3_denominator
set_option maxRecDepth 20000 in
theorem ggX3_distanceTimesDenominators_X3_numerator : GoodIn wsX3_distanceTimesDenominators wsX3_numerator := goodIn_r _ [8] (by decide +kernel) (by decide +kernel)
set_option maxRecDepth 20000 in
theorem gX3_distanceTimesDenominators_X3_numerator : GoodIn wsX3_distanceTimesDenominators (va_wsS RX3 29 yX3_numerator wsX3_numerator) := goodIn_app (goodIn_of _ (by decide +kernel)) ggX3_distanceTimesDenominators_X3_numerator
set_option maxRecDepth 20000 in
theorem ggX3_distanceTimesDenominators_X3_denominator : GoodIn wsX3_distanceTimesDenominators wsX3_denominator := goodIn_r _ [11, 12, 13, 14, 3, 15] (by decide +kernel) (by decide +kernel)
set_option maxRecDepth 20000 in
theorem gX3_distanceTimesDenominators_X3_denominator : GoodIn wsX3_distanceTimesDenominators (va_wsS RX3 33 yX3_denominator wsX3_denominator) := goodIn_app (goodIn_of _ (by decide +kernel)) ggX3_distanceTimesDenominators_X3_denominator
set_option maxRecDepth 20000 in
theorem ggX4_record_X4_startBehindOldest : GoodIn wsX4_record wsX4_startBehindOldest := goodIn_r _ [12, 7, 13, 14, 15] (by decide +kernel) (by decide +kernel)
set_option maxRecDepth 20000 in
theorem gX4_record_X4_startBehindOldest : GoodIn wsX4_record (wsV RX4 19 RX4 yX4_startBehindOldest wsX4_startBehindOldest) := goodIn_app (goodIn_of _ (by decide +kernel)) ggX4_record_X4_startBehindOldest
set_option maxRecDepth 20000 in
theorem ggX4_restore_X4_startBehindOldest : GoodIn wsX4_restore wsX4_startBehindOldest := goodIn_r _ [11, 12, 13, 14, 15] (by decide +kernel) (by decide +kernel)
set_option maxRecDepth 20000 in
theorem gX4_restore_X4_startBehindOldest : GoodIn wsX4_restore (wsV RX4 19 RX4 yX4_startBehindOldest wsX4_startBehindOldest) := goodIn_app (goodIn_of _ (by decide +kernel)) ggX4_restore_X4_startBehindOldest
set_option maxRecDepth 20000 in
theorem ggX5_count_X5_unit : GoodIn wsX5_count wsX5_unit := goodIn_r _ [4, 5, 6, 7, 8, 9, 10, 11, 12, 13, 14, 15, 16, 17, 18] (by decide +kernel) (by decide +kernel)
set_option maxRecDepth 20000 in
theorem gX5_count_X5_unit : GoodIn wsX5_count (va_wsS RX5 9 yX5_unit wsX5_unit) := goodIn_app (goodIn_of _ (by decide +kernel)) ggX5_count_X5_unit
set_option maxRecDepth 20000 in
theorem ggX5_unit_X3_numerator : GoodIn wsX5_unit wsX3_numerator := goodIn_r _ [6] (by decide +kernel) (by decide +kernel)
set_option maxRecDepth 20000 in
theorem gX5_unit_X3_numerator : GoodIn wsX5_unit (va_wsS RX5 15 yX3_numerator wsX3_numerator) := goodIn_app (goodIn_of _ (by decide +kernel)) ggX5_unit_X3_numerator
set_option maxRecDepth 20000 in
theorem ggX5_unit_X3_denominator : GoodIn wsX5_unit wsX3_denominator := goodIn_r _ [9, 10, 11, 12, 13, 14] (by decide +kernel) (by decide +kernel)
set_option maxRecDepth 20000 in
theorem gX5_unit_X3_denominator : GoodIn wsX5_unit (va_wsS RX5 21 yX3_denominator wsX3_denominator) := goodIn_app (goodIn_of _ (by decide +kernel)) ggX5_unit_X3_denominator
set_option maxRecDepth 20000 in
theorem ggX6_init_X2_init : GoodIn wsX6_init wsX2_init := goodIn_r _ [26, 27, 2, 3, 28, 29, 4, 30, 50, 51, 52] (by decide +kernel) (by decide +kernel)
set_option maxRecDepth 20000 in
theorem gX6_init_X2_init_n17 : GoodIn wsX6_init (wsX2_init) := ggX6_init_X2_init
set_option maxRecDepth 20000 in
theorem ggX6_init_X1_init : GoodIn wsX6_init wsX1_init := goodIn_r _ [32, 33, 2, 3, 34, 35, 53, 54] (by decide +kernel) (by decide +kernel)
set_option maxRecDepth 20000 in
theorem gX6_init_X1_init_n24 : GoodIn wsX6_init (wsX1_init) := ggX6_init_X1_init
set_option maxRecDepth 20000 in
theorem ggX6_init_X0_init : GoodIn wsX6_init wsX0_init := goodIn_r _ [37, 38, 2, 3] (by decide +kernel) (by decide +kernel)
set_option maxRecDepth 20000 in
theorem gX6_init_X0_init_n31 : GoodIn wsX6_init (wsX0_init) := ggX6_init_X0_init
set_option maxRecDepth 20000 in
theorem ggX6_init_X4_init : GoodIn wsX6_init wsX4_init := goodIn_r _ [40, 41, 2, 3, 4, 42, 61, 62, 63] (by decide +kernel) (by decide +kernel)
set_option maxRecDepth 20000 in
theorem gX6_init_X4_init_n38 : GoodIn wsX6_init (wsX4_init) := ggX6_init_X4_init
set_option maxRecDepth 20000 in
theorem ggX6_set_X6_requirePlate : GoodIn wsX6_set wsX6_requirePlate := goodIn_ca (goodIn_r _ [7, 8, 9, 10, 11, 6, 12] (by decide +kernel) (by decide +kernel)) (goodIn_sub (fun _ h => List.mem_cons_of_mem _ (List.mem_append_right _ h)) (by decide +kernel))
set_option maxRecDepth 20000 in
theorem gX6_set_X6_requirePlate : GoodIn wsX6_set (va_wsS RX6 50 yX6_requirePlate wsX6_requirePlate) := goodIn_app (goodIn_of _ (by decide +kernel)) ggX6_set_X6_requirePlate
set_option maxRecDepth 20000 in
theorem ggX6_set_X3_inLowestTerms : GoodIn wsX6_set wsX3_inLowestTerms := goodIn_r _ [16, 17, 18, 19, 20, 15, 21, 22, 23, 24, 25, 26, 27, 28] (by decide +kernel) (by decide +kernel)
set_option maxRecDepth 20000 in
theorem gX6_set_X3_inLowestTerms : GoodIn wsX6_set (va_wsS RX6 64 yX3_inLowestTerms wsX3_inLowestTerms) := goodIn_app (goodIn_of _ (by decide +kernel)) ggX6_set_X3_inLowestTerms
set_option maxRecDepth 20000 in
theorem ggX6_set_X6_change : GoodIn wsX6_set wsX6_change := goodIn_r _ [32, 33, 34, 35, 36, 37, 38, 39, 40, 41, 42, 43, 44, 45, 46, 47, 48, 49, 50, 51, 52, 15, 53, 54, 22, 23, 24, 25, 55, 56, 57, 58, 59, 60, 61, 62, 63, 64] (by decide +kernel) (by decide +kernel)
set_option maxRecDepth 20000 in
theorem gX6_set_X6_change : GoodIn wsX6_set (wsV RX6 68 RX6 yX6_change wsX6_change) := goodIn_app (goodIn_of _ (by decide +kernel)) ggX6_set_X6_change
set_option maxRecDepth 20000 in
theorem ggX6_add_X6_requirePlate : GoodIn wsX6_add wsX6_requirePlate := goodIn_ca (goodIn_r _ [5, 6, 7, 8, 9, 4, 10] (by decide +kernel) (by decide +kernel)) (goodIn_sub (fun _ h => List.mem_cons_of_mem _ (List.mem_append_left _ (List.mem_append_right _ h))) (by decide +kernel))
set_option maxRecDepth 20000 in
theorem gX6_add_X6_requirePlate : GoodIn wsX6_add (va_wsS RX6 50 yX6_requirePlate wsX6_requirePlate) := goodIn_app (goodIn_of _ (by decide +kernel)) ggX6_add_X6_requirePlate
set_option maxRecDepth 20000 in
theorem ggX6_add_X3_sum : GoodIn wsX6_add wsX3_sum := goodIn_r _ [14, 15, 16, 13, 17, 18, 19, 20, 21, 22, 23, 24, 25, 26, 27, 28, 29, 30, 31, 32, 33, 34, 35, 36] (by decide +kernel) (by decide +kernel)
set_option maxRecDepth 20000 in
theorem gX6_add_X3_sum : GoodIn wsX6_add (va_wsS RX6 72 yX3_sum wsX3_sum) := goodIn_app (goodIn_of _ (by decide +kernel)) ggX6_add_X3_sum
set_option maxRecDepth 20000 in
theorem ggX6_add_X6_changeIfPossible : GoodIn wsX6_add wsX6_changeIfPossible := goodIn_ca (goodIn_r _ [40, 41, 42, 43, 44, 45, 46, 4, 47, 48, 1, 49, 50, 51, 52, 53, 54, 55, 56, 57, 58, 59, 60, 61, 62, 63, 64, 65, 19, 13, 20, 21, 22, 23, 24, 25, 66, 67, 68, 69, 70, 71, 72, 73, 74, 75] (by decide +kernel) (by decide +kernel)) (goodIn_sub (fun _ h => List.mem_cons_of_mem _ (List.mem_append_right _ h)) (by decide +kernel))
set_option maxRecDepth 20000 in
theorem gX6_add_X6_changeIfPossible : GoodIn wsX6_add (wsV RX6 75 RX6 yX6_changeIfPossible wsX6_changeIfPossible) := goodIn_app (goodIn_of _ (by decide +kernel)) ggX6_add_X6_changeIfPossible
set_option maxRecDepth 20000 in
theorem ggX6_takeAway_X6_requirePlate : GoodIn wsX6_takeAway wsX6_requirePlate := goodIn_ca (goodIn_r _ [5, 6, 7, 8, 9, 4, 10] (by decide +kernel) (by decide +kernel)) (goodIn_sub (fun _ h => List.mem_cons_of_mem _ (List.mem_append_left _ (List.mem_append_right _ h))) (by decide +kernel))
set_option maxRecDepth 20000 in
theorem gX6_takeAway_X6_requirePlate : GoodIn wsX6_takeAway (va_wsS RX6 50 yX6_requirePlate wsX6_requirePlate) := goodIn_app (goodIn_of _ (by decide +kernel)) ggX6_takeAway_X6_requirePlate
set_option maxRecDepth 20000 in
theorem ggX6_takeAway_X3_difference : GoodIn wsX6_takeAway wsX3_difference := goodIn_r _ [14, 15, 16, 13, 17, 18, 19, 20, 21, 22, 23, 24, 25, 26, 27, 28, 29, 30, 31, 32, 33, 34, 35, 36] (by decide +kernel) (by decide +kernel)
set_option maxRecDepth 20000 in
theorem gX6_takeAway_X3_difference : GoodIn wsX6_takeAway (va_wsS RX6 78 yX3_difference wsX3_difference) := goodIn_app (goodIn_of _ (by decide +kernel)) ggX6_takeAway_X3_difference
set_option maxRecDepth 20000 in
theorem ggX6_takeAway_X6_changeIfPossible : GoodIn wsX6_takeAway wsX6_changeIfPossible := goodIn_ca (goodIn_r _ [40, 41, 42, 43, 44, 45, 46, 4, 47, 48, 1, 49, 50, 51, 52, 53, 54, 55, 56, 57, 58, 59, 60, 61, 62, 63, 64, 65, 19, 13, 20, 21, 22, 23, 24, 25, 66, 67, 68, 69, 70, 71, 72, 73, 74, 75] (by decide +kernel) (by decide +kernel)) (goodIn_sub (fun _ h => List.mem_cons_of_mem _ (List.mem_append_right _ h)) (by decide +kernel))
set_option maxRecDepth 20000 in
theorem gX6_takeAway_X6_changeIfPossible : GoodIn wsX6_takeAway (wsV RX6 75 RX6 yX6_changeIfPossible wsX6_changeIfPossible) := goodIn_app (goodIn_of _ (by decide +kernel)) ggX6_takeAway_X6_changeIfPossible
set_option maxRecDepth 20000 in
theorem ggX6_multiply_X6_requirePlate : GoodIn wsX6_multiply wsX6_requirePlate := goodIn_ca (goodIn_r _ [5, 6, 7, 8, 9, 4, 10] (by decide +kernel) (by decide +kernel)) (goodIn_sub (fun _ h => List.mem_cons_of_mem _ (List.mem_append_left _ (List.mem_append_right _ h))) (by decide +kernel))
set_option maxRecDepth 20000 in
theorem gX6_multiply_X6_requirePlate : GoodIn wsX6_multiply (va_wsS RX6 50 yX6_requirePlate wsX6_requirePlate) := goodIn_app (goodIn_of _ (by decide +kernel)) ggX6_multiply_X6_requirePlate
set_option maxRecDepth 20000 in
theorem ggX6_multiply_X3_product : GoodIn wsX6_multiply wsX3_product := goodIn_r _ [14, 15, 16, 13, 17, 18, 19, 20, 21, 22, 23, 24, 25, 26, 27, 28, 29, 30, 31, 32, 33, 34, 35, 36] (by decide +kernel) (by decide +kernel)
set_option maxRecDepth 20000 in
theorem gX6_multiply_X3_product : GoodIn wsX6_multiply (va_wsS RX6 81 yX3_product wsX3_product) := goodIn_app (goodIn_of _ (by decide +kernel)) ggX6_multiply_X3_product
set_option maxRecDepth 20000 in
theorem ggX6_multiply_X6_changeIfPossible : GoodIn wsX6_multiply wsX6_changeIfPossible := goodIn_ca (goodIn_r _ [40, 41, 42, 43, 44, 45, 46, 4, 47, 48, 1, 49, 50, 51, 52, 53, 54, 55, 56, 57, 58, 59, 60, 61, 62, 63, 64, 65, 19, 13, 20, 21, 22, 23, 24, 25, 66, 67, 68, 69, 70, 71, 72, 73, 74, 75] (by decide +kernel) (by decide +kernel)) (goodIn_sub (fun _ h => List.mem_cons_of_mem _ (List.mem_append_right _ h)) (by decide +kernel))
set_option maxRecDepth 20000 in
theorem gX6_multiply_X6_changeIfPossible : GoodIn wsX6_multiply (wsV RX6 75 RX6 yX6_changeIfPossible wsX6_changeIfPossible) := goodIn_app (goodIn_of _ (by decide +kernel)) ggX6_multiply_X6_changeIfPossible
set_option maxRecDepth 20000 in
theorem ggX6_copyTo_X6_requirePlate : GoodIn wsX6_copyTo wsX6_requirePlate := goodIn_ca (goodIn_r _ [5, 6, 7, 8, 9, 4, 10] (by decide +kernel) (by decide +kernel)) (goodIn_sub (fun _ h => List.mem_cons_of_mem _ (List.mem_append_right _ h)) (by decide +kernel))
set_option maxRecDepth 20000 in
theorem gX6_copyTo_X6_requirePlate : GoodIn wsX6_copyTo (va_wsS RX6 50 yX6_requirePlate wsX6_requirePlate) := goodIn_app (goodIn_of _ (by decide +kernel)) ggX6_copyTo_X6_requirePlate
set_option maxRecDepth 20000 in
theorem ggX6_copyTo_X6_change : GoodIn wsX6_copyTo wsX6_change := goodIn_r _ [14, 15, 1, 16, 17, 18, 19, 20, 21, 22, 23, 24, 25, 26, 27, 28, 29, 30, 31, 32, 33, 34, 35, 36, 37, 38, 39, 40, 41, 42, 43, 44, 45, 46, 47, 48, 49, 50] (by decide +kernel) (by decide +kernel)
set_option maxRecDepth 20000 in
theorem gX6_copyTo_X6_change : GoodIn wsX6_copyTo (wsV RX6 68 RX6 yX6_change wsX6_change) := goodIn_app (goodIn_of _ (by decide +kernel)) ggX6_copyTo_X6_change
set_option maxRecDepth 20000 in
theorem ggX6_invert_X6_requireNotZero : GoodIn wsX6_invert wsX6_requireNotZero := goodIn_ca (goodIn_ca (goodIn_r _ [6, 7, 8, 1, 9, 10, 5, 11, 12, 13, 14, 15, 16, 61, 62, 63, 64, 65, 66, 67] (by decide +kernel) (by decide +kernel)) (goodIn_sub (fun _ h => List.mem_cons_of_mem _ (List.mem_append_left _ (List.mem_append_right _ h))) (by decide +kernel))) (goodIn_sub (fun _ h => List.mem_cons_of_mem _ (List.mem_append_right _ h)) (by decide +kernel))
set_option maxRecDepth 20000 in
theorem gX6_invert_X6_requireNotZero : GoodIn wsX6_invert (wsV RX6 84 RX6 yX6_requireNotZero wsX6_requireNotZero) := goodIn_app (goodIn_of _ (by decide +kernel)) ggX6_invert_X6_requireNotZero
set_option maxRecDepth 20000 in
theorem ggX6_invert_X3_denominator : GoodIn wsX6_invert wsX3_denominator := goodIn_r _ [20, 21, 22, 23, 24, 25] (by decide +kernel) (by decide +kernel)
set_option maxRecDepth 20000 in
theorem gX6_invert_X3_denominator : GoodIn wsX6_invert (va_wsS RX6 87 yX3_denominator wsX3_denominator) := goodIn_app (goodIn_of _ (by decide +kernel)) ggX6_invert_X3_denominator
set_option maxRecDepth 20000 in
theorem ggX6_invert_X3_numerator : GoodIn wsX6_invert wsX3_numerator := goodIn_r _ [28] (by decide +kernel) (by decide +kernel)
set_option maxRecDepth 20000 in
theorem gX6_invert_X3_numerator : GoodIn wsX6_invert (va_wsS RX6 91 yX3_numerator wsX3_numerator) := goodIn_app (goodIn_of _ (by decide +kernel)) ggX6_invert_X3_numerator
set_option maxRecDepth 20000 in
theorem ggX6_invert_X3_inLowestTerms : GoodIn wsX6_invert wsX3_inLowestTerms := goodIn_r _ [31, 32, 33, 34, 35, 19, 36, 22, 23, 24, 25, 37, 38, 39] (by decide +kernel) (by decide +kernel)
set_option maxRecDepth 20000 in
theorem gX6_invert_X3_inLowestTerms : GoodIn wsX6_invert (va_wsS RX6 64 yX3_inLowestTerms wsX3_inLowestTerms) := goodIn_app (goodIn_of _ (by decide +kernel)) ggX6_invert_X3_inLowestTerms
set_option maxRecDepth 20000 in
theorem ggX6_invert_X6_change : GoodIn wsX6_invert wsX6_change := goodIn_r _ [43, 44, 1, 45, 46, 47, 48, 49, 50, 51, 52, 53, 54, 55, 56, 57, 58, 59, 60, 17, 18, 19, 20, 21, 22, 23, 24, 25, 61, 62, 63, 64, 65, 66, 67, 68, 69, 70] (by decide +kernel) (by decide +kernel)
set_option maxRecDepth 20000 in
theorem gX6_invert_X6_change : GoodIn wsX6_invert (wsV RX6 68 RX6 yX6_change wsX6_change) := goodIn_app (goodIn_of _ (by decide +kernel)) ggX6_invert_X6_change
set_option maxRecDepth 20000 in
theorem ggX6_share_X6_requirePlate : GoodIn wsX6_share wsX6_requirePlate := goodIn_ca (goodIn_r _ [7, 8, 9, 10, 11, 6, 12] (by decide +kernel) (by decide +kernel)) (goodIn_sub (fun _ h => List.mem_cons_of_mem _ (List.mem_append_left _ (List.mem_append_right _ h))) (by decide +kernel))
set_option maxRecDepth 20000 in
theorem gX6_share_X6_requirePlate : GoodIn wsX6_share (va_wsS RX6 50 yX6_requirePlate wsX6_requirePlate) := goodIn_app (goodIn_of _ (by decide +kernel)) ggX6_share_X6_requirePlate
set_option maxRecDepth 20000 in
theorem ggX6_share_X3_numerator : GoodIn wsX6_share wsX3_numerator := goodIn_r _ [16] (by decide +kernel) (by decide +kernel)
set_option maxRecDepth 20000 in
theorem gX6_share_X3_numerator : GoodIn wsX6_share (va_wsS RX6 91 yX3_numerator wsX3_numerator) := goodIn_app (goodIn_of _ (by decide +kernel)) ggX6_share_X3_numerator
set_option maxRecDepth 20000 in
theorem ggX6_share_X3_denominator : GoodIn wsX6_share wsX3_denominator := goodIn_r _ [19, 20, 21, 22, 23, 24] (by decide +kernel) (by decide +kernel)
set_option maxRecDepth 20000 in
theorem gX6_share_X3_denominator : GoodIn wsX6_share (va_wsS RX6 87 yX3_denominator wsX3_denominator) := goodIn_app (goodIn_of _ (by decide +kernel)) ggX6_share_X3_denominator
set_option maxRecDepth 20000 in
theorem ggX6_share_X3_inLowestTerms : GoodIn wsX6_share wsX3_inLowestTerms := goodIn_r _ [27, 28, 29, 30, 31, 15, 32, 21, 22, 23, 24, 33, 34, 35] (by decide +kernel) (by decide +kernel)
set_option maxRecDepth 20000 in
theorem gX6_share_X3_inLowestTerms : GoodIn wsX6_share (va_wsS RX6 64 yX3_inLowestTerms wsX3_inLowestTerms) := goodIn_app (goodIn_of _ (by decide +kernel)) ggX6_share_X3_inLowestTerms
set_option maxRecDepth 20000 in
theorem ggX6_share_X6_changeIfPossible : GoodIn wsX6_share wsX6_changeIfPossible := goodIn_ca (goodIn_r _ [39, 40, 41, 42, 43, 44, 45, 6, 46, 47, 3, 48, 49, 50, 51, 52, 53, 54, 55, 56, 57, 58, 59, 60, 61, 62, 63, 17, 18, 15, 19, 20, 21, 22, 23, 24, 64, 65, 66, 67, 68, 69, 70, 71, 72, 73] (by decide +kernel) (by decide +kernel)) (goodIn_sub (fun _ h => List.mem_cons_of_mem _ (List.mem_append_right _ h)) (by decide +kernel))
set_option maxRecDepth 20000 in
theorem gX6_share_X6_changeIfPossible : GoodIn wsX6_share (wsV RX6 75 RX6 yX6_changeIfPossible wsX6_changeIfPossible) := goodIn_app (goodIn_of _ (by decide +kernel)) ggX6_share_X6_changeIfPossible
set_option maxRecDepth 20000 in
theorem ggX6_roundTo_X6_nearest : GoodIn wsX6_roundTo wsX6_nearest := goodIn_ca (goodIn_ca (goodIn_r _ [5, 6, 7, 8, 9, 4, 10, 11, 12, 13, 14, 15, 16, 17, 18, 19, 20, 21, 22, 23, 24, 25, 26, 27, 28, 29, 30, 31, 32, 33, 34, 35, 36, 37, 38, 39, 40, 41, 42, 43, 44, 45, 46, 47, 48, 49, 50, 51, 52, 53, 54, 55, 56, 57, 58, 59, 60, 61, 62, 85, 86, 87, 88, 89, 90, 91, 92, 93, 94] (by decide +kernel) (by decide +kernel)) (goodIn_sub (fun _ h => List.mem_cons_of_mem _ (List.mem_append_left _ (List.mem_append_right _ h))) (by decide +kernel))) (goodIn_sub (fun _ h => List.mem_cons_of_mem _ (List.mem_append_right _ h)) (by decide +kernel))
set_option maxRecDepth 20000 in
theorem gX6_roundTo_X6_nearest : GoodIn wsX6_roundTo (wsV RX6 96 RX6 yX6_nearest wsX6_nearest) := goodIn_app (goodIn_of _ (by decide +kernel)) ggX6_roundTo_X6_nearest
set_option maxRecDepth 20000 in
theorem ggX6_roundTo_X6_change : GoodIn wsX6_roundTo wsX6_change := goodIn_r _ [66, 67, 7, 68, 69, 70, 71, 72, 73, 74, 75, 76, 77, 78, 79, 80, 81, 82, 83, 84, 34, 31, 35, 36, 37, 38, 39, 40, 85, 86, 87, 88, 89, 90, 91, 95, 96, 97] (by decide +kernel) (by decide +kernel)
set_option maxRecDepth 20000 in
theorem gX6_roundTo_X6_change : GoodIn wsX6_roundTo (wsV RX6 68 RX6 yX6_change wsX6_change) := goodIn_app (goodIn_of _ (by decide +kernel)) ggX6_roundTo_X6_change
set_option maxRecDepth 20000 in
theorem ggX6_numeratorOf_X6_requirePlate : GoodIn wsX6_numeratorOf wsX6_requirePlate := goodIn_ca (goodIn_r _ [5, 6, 7, 8, 9, 4, 10] (by decide +kernel) (by decide +kernel)) (goodIn_sub (fun _ h => List.mem_cons_of_mem _ (List.mem_append_right _ h)) (by decide +kernel))
set_option maxRecDepth 20000 in
theorem gX6_numeratorOf_X6_requirePlate : GoodIn wsX6_numeratorOf (va_wsS RX6 50 yX6_requirePlate wsX6_requirePlate) := goodIn_app (goodIn_of _ (by decide +kernel)) ggX6_numeratorOf_X6_requirePlate
set_option maxRecDepth 20000 in
theorem ggX6_numeratorOf_X3_numerator : GoodIn wsX6_numeratorOf wsX3_numerator := goodIn_r _ [14] (by decide +kernel) (by decide +kernel)
set_option maxRecDepth 20000 in
theorem gX6_numeratorOf_X3_numerator : GoodIn wsX6_numeratorOf (va_wsS RX6 91 yX3_numerator wsX3_numerator) := goodIn_app (goodIn_of _ (by decide +kernel)) ggX6_numeratorOf_X3_numerator
set_option maxRecDepth 20000 in
theorem ggX6_denominatorOf_X6_requirePlate : GoodIn wsX6_denominatorOf wsX6_requirePlate := goodIn_ca (goodIn_r _ [5, 6, 7, 8, 9, 4, 10] (by decide +kernel) (by decide +kernel)) (goodIn_sub (fun _ h => List.mem_cons_of_mem _ (List.mem_append_right _ h)) (by decide +kernel))
set_option maxRecDepth 20000 in
theorem gX6_denominatorOf_X6_requirePlate : GoodIn wsX6_denominatorOf (va_wsS RX6 50 yX6_requirePlate wsX6_requirePlate) := goodIn_app (goodIn_of _ (by decide +kernel)) ggX6_denominatorOf_X6_requirePlate
set_option maxRecDepth 20000 in
theorem ggX6_denominatorOf_X3_denominator : GoodIn wsX6_denominatorOf wsX3_denominator := goodIn_r _ [14, 15, 16, 17, 18, 19] (by decide +kernel) (by decide +kernel)
set_option maxRecDepth 20000 in
theorem gX6_denominatorOf_X3_denominator : GoodIn wsX6_denominatorOf (va_wsS RX6 87 yX3_denominator wsX3_denominator) := goodIn_app (goodIn_of _ (by decide +kernel)) ggX6_denominatorOf_X3_denominator
set_option maxRecDepth 20000 in
theorem ggX6_compare_X6_requirePlate : GoodIn wsX6_compare wsX6_requirePlate := goodIn_ca (goodIn_r _ [5, 6, 7, 8, 9, 4, 10] (by decide +kernel) (by decide +kernel)) (goodIn_sub (fun _ h => List.mem_cons_of_mem _ (List.mem_append_right _ h)) (by decide +kernel))
set_option maxRecDepth 20000 in
theorem gX6_compare_X6_requirePlate : GoodIn wsX6_compare (va_wsS RX6 50 yX6_requirePlate wsX6_requirePlate) := goodIn_app (goodIn_of _ (by decide +kernel)) ggX6_compare_X6_requirePlate
set_option maxRecDepth 20000 in
theorem ggX6_compare_X3_order : GoodIn wsX6_compare wsX3_order := goodIn_r _ [14, 15, 16, 13, 17, 18, 19, 20, 21, 22, 23, 24, 25] (by decide +kernel) (by decide +kernel)
set_option maxRecDepth 20000 in
theorem gX6_compare_X3_order : GoodIn wsX6_compare (va_wsS RX6 100 yX3_order wsX3_order) := goodIn_app (goodIn_of _ (by decide +kernel)) ggX6_compare_X3_order
set_option maxRecDepth 20000 in
theorem ggX6_plateByAmount_X6_platesAhead : GoodIn wsX6_plateByAmount wsX6_platesAhead := goodIn_r _ [7, 8, 9, 10, 11, 12, 13, 14, 15, 16, 17, 18, 19, 20, 21, 22, 23, 24, 25, 26, 27, 28, 29, 30] (by decide +kernel) (by decide +kernel)
set_option maxRecDepth 20000 in
theorem gX6_plateByAmount_X6_platesAhead : GoodIn wsX6_plateByAmount (wsV RX6 109 RX6 yX6_platesAhead wsX6_platesAhead) := goodIn_app (goodIn_of _ (by decide +kernel)) ggX6_plateByAmount_X6_platesAhead
set_option maxRecDepth 20000 in
theorem ggX6_commonParts_X3_denominator : GoodIn wsX6_commonParts wsX3_denominator := goodIn_r _ [7, 8, 9, 10, 11, 12] (by decide +kernel) (by decide +kernel)
set_option maxRecDepth 20000 in
theorem gX6_commonParts_X3_denominator : GoodIn wsX6_commonParts (va_wsS RX6 87 yX3_denominator wsX3_denominator) := goodIn_app (goodIn_of _ (by decide +kernel)) ggX6_commonParts_X3_denominator
set_option maxRecDepth 20000 in
theorem ggX6_commonParts_X3_commonDivisor : GoodIn wsX6_commonParts wsX3_commonDivisor := goodIn_r _ [15, 9, 10, 11, 12] (by decide +kernel) (by decide +kernel)
set_option maxRecDepth 20000 in
theorem gX6_commonParts_X3_commonDivisor : GoodIn wsX6_commonParts (va_wsS RX6 113 yX3_commonDivisor wsX3_commonDivisor) := goodIn_app (goodIn_of _ (by decide +kernel)) ggX6_commonParts_X3_commonDivisor
set_option maxRecDepth 20000 in
theorem ggX6_differentFractions_X6_isOnLowerPlate : GoodIn wsX6_differentFractions wsX6_isOnLowerPlate := goodIn_r _ [5, 6, 7, 8, 9, 10, 11, 12, 13] (by decide +kernel) (by decide +kernel)
set_option maxRecDepth 20000 in
theorem gX6_differentFractions_X6_isOnLowerPlate : GoodIn wsX6_differentFractions (wsV RX6 120 RX6 yX6_isOnLowerPlate wsX6_isOnLowerPlate) := goodIn_app (goodIn_of _ (by decide +kernel)) ggX6_differentFractions_X6_isOnLowerPlate
set_option maxRecDepth 20000 in
theorem ggX6_termCount_X6_requirePlate : GoodIn wsX6_termCount wsX6_requirePlate := goodIn_ca (goodIn_r _ [6, 7, 8, 9, 10, 5, 11] (by decide +kernel) (by decide +kernel)) (goodIn_sub (fun _ h => List.mem_cons_of_mem _ (List.mem_append_right _ h)) (by decide +kernel))
set_option maxRecDepth 20000 in
theorem gX6_termCount_X6_requirePlate : GoodIn wsX6_termCount (va_wsS RX6 50 yX6_requirePlate wsX6_requirePlate) := goodIn_app (goodIn_of _ (by decide +kernel)) ggX6_termCount_X6_requirePlate
set_option maxRecDepth 20000 in
theorem ggX6_termCount_X2_expand : GoodIn wsX6_termCount wsX2_expand := goodIn_r _ [16, 17, 18, 19, 20, 21, 22, 23, 24, 25, 26, 27, 28, 29, 30, 31, 32, 33, 34, 15, 35, 36, 37, 38, 50, 51, 52] (by decide +kernel) (by decide +kernel)
set_option maxRecDepth 20000 in
theorem gX6_termCount_X2_expand : GoodIn wsX6_termCount (wsV RX6 124 RX2 yX2_expand wsX2_expand) := goodIn_app (goodIn_of _ (by decide +kernel)) ggX6_termCount_X2_expand
set_option maxRecDepth 20000 in
theorem ggX6_termCount_X2_count : GoodIn wsX6_termCount wsX2_count := goodIn_r _ [42, 17, 50, 51, 52] (by decide +kernel) (by decide +kernel)
set_option maxRecDepth 20000 in
theorem gX6_termCount_X2_count : GoodIn wsX6_termCount (wsV RX6 128 RX2 yX2_count wsX2_count) := goodIn_app (goodIn_of _ (by decide +kernel)) ggX6_termCount_X2_count
set_option maxRecDepth 20000 in
theorem ggX6_termAt_X6_expandToTerm : GoodIn wsX6_termAt wsX6_expandToTerm := goodIn_ca (goodIn_r _ [6, 7, 8, 1, 9, 10, 11, 5, 12, 13, 14, 15, 16, 17, 18, 19, 20, 21, 22, 23, 24, 25, 26, 27, 28, 29, 30, 31, 32, 33, 34, 35, 36, 37, 38, 39, 40, 41, 42, 43, 44, 45, 46, 51, 52, 53, 54, 55, 56, 57, 58, 59, 60] (by decide +kernel) (by decide +kernel)) (goodIn_sub (fun _ h => List.mem_cons_of_mem _ (List.mem_append_right _ h)) (by decide +kernel))
set_option maxRecDepth 20000 in
theorem gX6_termAt_X6_expandToTerm : GoodIn wsX6_termAt (wsV RX6 132 RX6 yX6_expandToTerm wsX6_expandToTerm) := goodIn_app (goodIn_of _ (by decide +kernel)) ggX6_termAt_X6_expandToTerm
set_option maxRecDepth 20000 in
theorem ggX6_termAt_X2_term : GoodIn wsX6_termAt wsX2_term := goodIn_r _ [50, 22, 58, 59, 60] (by decide +kernel) (by decide +kernel)
set_option maxRecDepth 20000 in
theorem gX6_termAt_X2_term : GoodIn wsX6_termAt (wsV RX6 136 RX2 yX2_term wsX2_term) := goodIn_app (goodIn_of _ (by decide +kernel)) ggX6_termAt_X2_term
set_option maxRecDepth 20000 in
theorem ggX6_beginningNumerator_X6_expandToTerm : GoodIn wsX6_beginningNumerator wsX6_expandToTerm := goodIn_ca (goodIn_r _ [6, 7, 8, 1, 9, 10, 11, 5, 12, 13, 14, 15, 16, 17, 18, 19, 20, 21, 22, 23, 24, 25, 26, 27, 28, 29, 30, 31, 32, 33, 34, 35, 36, 37, 38, 39, 40, 41, 42, 43, 44, 45, 46, 52, 53, 54, 55, 56, 57, 58, 59, 60, 61] (by decide +kernel) (by decide +kernel)) (goodIn_sub (fun _ h => List.mem_cons_of_mem _ (List.mem_append_right _ h)) (by decide +kernel))
set_option maxRecDepth 20000 in
theorem gX6_beginningNumerator_X6_expandToTerm : GoodIn wsX6_beginningNumerator (wsV RX6 132 RX6 yX6_expandToTerm wsX6_expandToTerm) := goodIn_app (goodIn_of _ (by decide +kernel)) ggX6_beginningNumerator_X6_expandToTerm
set_option maxRecDepth 20000 in
theorem ggX6_beginningNumerator_X2_beginning : GoodIn wsX6_beginningNumerator wsX2_beginning := goodIn_r _ [50, 23, 59, 60, 61] (by decide +kernel) (by decide +kernel)
set_option maxRecDepth 20000 in
theorem gX6_beginningNumerator_X2_beginning : GoodIn wsX6_beginningNumerator (wsV RX6 139 RX2 yX2_beginning wsX2_beginning) := goodIn_app (goodIn_of _ (by decide +kernel)) ggX6_beginningNumerator_X2_beginning
set_option maxRecDepth 20000 in
theorem ggX6_beginningNumerator_X3_numerator : GoodIn wsX6_beginningNumerator wsX3_numerator := goodIn_r _ [27] (by decide +kernel) (by decide +kernel)
set_option maxRecDepth 20000 in
theorem gX6_beginningNumerator_X3_numerator : GoodIn wsX6_beginningNumerator (va_wsS RX6 91 yX3_numerator wsX3_numerator) := goodIn_app (goodIn_of _ (by decide +kernel)) ggX6_beginningNumerator_X3_numerator
set_option maxRecDepth 20000 in
theorem ggX6_beginningDenominator_X6_expandToTerm : GoodIn wsX6_beginningDenominator wsX6_expandToTerm := goodIn_ca (goodIn_r _ [6, 7, 8, 1, 9, 10, 11, 5, 12, 13, 14, 15, 16, 17, 18, 19, 20, 21, 22, 23, 24, 25, 26, 27, 28, 29, 30, 31, 32, 33, 34, 35, 36, 37, 38, 39, 40, 41, 42, 43, 44, 45, 46, 52, 53, 54, 55, 56, 57, 58, 59, 60, 61] (by decide +kernel) (by decide +kernel)) (goodIn_sub (fun _ h => List.mem_cons_of_mem _ (List.mem_append_right _ h)) (by decide +kernel))
set_option maxRecDepth 20000 in
theorem gX6_beginningDenominator_X6_expandToTerm : GoodIn wsX6_beginningDenominator (wsV RX6 132 RX6 yX6_expandToTerm wsX6_expandToTerm) := goodIn_app (goodIn_of _ (by decide +kernel)) ggX6_beginningDenominator_X6_expandToTerm
set_option maxRecDepth 20000 in
theorem ggX6_beginningDenominator_X2_beginning : GoodIn wsX6_beginningDenominator wsX2_beginning := goodIn_r _ [50, 23, 59, 60, 61] (by decide +kernel) (by decide +kernel)
set_option maxRecDepth 20000 in
theorem gX6_beginningDenominator_X2_beginning : GoodIn wsX6_beginningDenominator (wsV RX6 139 RX2 yX2_beginning wsX2_beginning) := goodIn_app (goodIn_of _ (by decide +kernel)) ggX6_beginningDenominator_X2_beginning
set_option maxRecDepth 20000 in
theorem ggX6_beginningDenominator_X3_denominator : GoodIn wsX6_beginningDenominator wsX3_denominator := goodIn_r _ [30, 31, 32, 33, 34, 35] (by decide +kernel) (by decide +kernel)
set_option maxRecDepth 20000 in
theorem gX6_beginningDenominator_X3_denominator : GoodIn wsX6_beginningDenominator (va_wsS RX6 87 yX3_denominator wsX3_denominator) := goodIn_app (goodIn_of _ (by decide +kernel)) ggX6_beginningDenominator_X3_denominator
set_option maxRecDepth 20000 in
theorem ggX6_nearestDenominator_X6_nearest : GoodIn wsX6_nearestDenominator wsX6_nearest := goodIn_ca (goodIn_ca (goodIn_r _ [5, 6, 7, 8, 9, 4, 10, 11, 12, 13, 14, 15, 16, 17, 18, 19, 20, 21, 22, 23, 24, 25, 26, 27, 28, 29, 30, 31, 32, 33, 34, 35, 36, 37, 38, 39, 40, 41, 42, 43, 44, 45, 46, 47, 48, 49, 50, 51, 52, 53, 54, 55, 56, 57, 58, 59, 60, 61, 62, 64, 65, 66, 67, 68, 69, 70, 71, 72, 73] (by decide +kernel) (by decide +kernel)) (goodIn_sub (fun _ h => List.mem_cons_of_mem _ (List.mem_append_left _ (List.mem_append_right _ h))) (by decide +kernel))) (goodIn_sub (fun _ h => List.mem_cons_of_mem _ (List.mem_append_right _ h)) (by decide +kernel))
set_option maxRecDepth 20000 in
theorem gX6_nearestDenominator_X6_nearest : GoodIn wsX6_nearestDenominator (wsV RX6 96 RX6 yX6_nearest wsX6_nearest) := goodIn_app (goodIn_of _ (by decide +kernel)) ggX6_nearestDenominator_X6_nearest
set_option maxRecDepth 20000 in
theorem ggX6_nearestDenominator_X3_denominator : GoodIn wsX6_nearestDenominator wsX3_denominator := goodIn_r _ [35, 36, 37, 38, 39, 40] (by decide +kernel) (by decide +kernel)
set_option maxRecDepth 20000 in
theorem gX6_nearestDenominator_X3_denominator : GoodIn wsX6_nearestDenominator (va_wsS RX6 87 yX3_denominator wsX3_denominator) := goodIn_app (goodIn_of _ (by decide +kernel)) ggX6_nearestDenominator_X3_denominator
set_option maxRecDepth 20000 in
theorem ggX6_nearestByTrying_X6_requirePlate : GoodIn wsX6_nearestByTrying wsX6_requirePlate := goodIn_ca (goodIn_r _ [5, 6, 7, 8, 9, 4, 10] (by decide +kernel) (by decide +kernel)) (goodIn_sub (fun _ h => List.mem_cons_of_mem _ (List.mem_append_left _ (List.mem_append_right _ h))) (by decide +kernel))
set_option maxRecDepth 20000 in
theorem gX6_nearestByTrying_X6_requirePlate : GoodIn wsX6_nearestByTrying (va_wsS RX6 50 yX6_requirePlate wsX6_requirePlate) := goodIn_app (goodIn_of _ (by decide +kernel)) ggX6_nearestByTrying_X6_requirePlate
set_option maxRecDepth 20000 in
theorem ggX6_nearestByTrying_X6_requireLimit : GoodIn wsX6_nearestByTrying wsX6_requireLimit := goodIn_ca (goodIn_r _ [13, 14, 15] (by decide +kernel) (by decide +kernel)) (goodIn_sub (fun _ h => List.mem_cons_of_mem _ (List.mem_append_right _ h)) (by decide +kernel))
set_option maxRecDepth 20000 in
theorem gX6_nearestByTrying_X6_requireLimit : GoodIn wsX6_nearestByTrying (va_wsS RX6 143 yX6_requireLimit wsX6_requireLimit) := goodIn_app (goodIn_of _ (by decide +kernel)) ggX6_nearestByTrying_X6_requireLimit
set_option maxRecDepth 20000 in
theorem ggX6_nearestByTrying_X6_triedDenominator : GoodIn wsX6_nearestByTrying wsX6_triedDenominator := goodIn_r _ [18, 19, 20, 21, 22, 23, 24, 25, 26, 27, 28, 29, 30, 31, 32, 33, 34, 35, 36] (by decide +kernel) (by decide +kernel)
set_option maxRecDepth 20000 in
theorem gX6_nearestByTrying_X6_triedDenominator : GoodIn wsX6_nearestByTrying (va_wsS RX6 146 yX6_triedDenominator wsX6_triedDenominator) := goodIn_app (goodIn_of _ (by decide +kernel)) ggX6_nearestByTrying_X6_triedDenominator
set_option maxRecDepth 20000 in
theorem ggX6_nearestNumerator_X6_nearest : GoodIn wsX6_nearestNumerator wsX6_nearest := goodIn_ca (goodIn_ca (goodIn_r _ [5, 6, 7, 8, 9, 4, 10, 11, 12, 13, 14, 15, 16, 17, 18, 19, 20, 21, 22, 23, 24, 25, 26, 27, 28, 29, 30, 31, 32, 33, 34, 35, 36, 37, 38, 39, 40, 41, 42, 43, 44, 45, 46, 47, 48, 49, 50, 51, 52, 53, 54, 55, 56, 57, 58, 59, 60, 61, 62, 64, 65, 66, 67, 68, 69, 70, 71, 72, 73] (by decide +kernel) (by decide +kernel)) (goodIn_sub (fun _ h => List.mem_cons_of_mem _ (List.mem_append_left _ (List.mem_append_right _ h))) (by decide +kernel))) (goodIn_sub (fun _ h => List.mem_cons_of_mem _ (List.mem_append_right _ h)) (by decide +kernel))
set_option maxRecDepth 20000 in
theorem gX6_nearestNumerator_X6_nearest : GoodIn wsX6_nearestNumerator (wsV RX6 96 RX6 yX6_nearest wsX6_nearest) := goodIn_app (goodIn_of _ (by decide +kernel)) ggX6_nearestNumerator_X6_nearest
set_option maxRecDepth 20000 in
theorem ggX6_nearestNumerator_X3_numerator : GoodIn wsX6_nearestNumerator wsX3_numerator := goodIn_r _ [32] (by decide +kernel) (by decide +kernel)
set_option maxRecDepth 20000 in
theorem gX6_nearestNumerator_X3_numerator : GoodIn wsX6_nearestNumerator (va_wsS RX6 91 yX3_numerator wsX3_numerator) := goodIn_app (goodIn_of _ (by decide +kernel)) ggX6_nearestNumerator_X3_numerator
set_option maxRecDepth 20000 in
theorem ggX6_unitCount_X6_requirePlate : GoodIn wsX6_unitCount wsX6_requirePlate := goodIn_ca (goodIn_r _ [5, 6, 7, 8, 9, 4, 10] (by decide +kernel) (by decide +kernel)) (goodIn_sub (fun _ h => List.mem_cons_of_mem _ (List.mem_append_left _ (List.mem_append_right _ h))) (by decide +kernel))
set_option maxRecDepth 20000 in
theorem gX6_unitCount_X6_requirePlate : GoodIn wsX6_unitCount (va_wsS RX6 50 yX6_requirePlate wsX6_requirePlate) := goodIn_app (goodIn_of _ (by decide +kernel)) ggX6_unitCount_X6_requirePlate
set_option maxRecDepth 20000 in
theorem ggX6_unitCount_X6_requireLessThanOne : GoodIn wsX6_unitCount wsX6_requireLessThanOne := goodIn_ca (goodIn_r _ [14, 15, 16, 1, 17, 18, 19, 20, 21, 22, 23, 24, 25, 26, 27, 28, 29, 30, 31, 32, 44, 45, 46, 47, 48, 49, 50] (by decide +kernel) (by decide +kernel)) (goodIn_sub (fun _ h => List.mem_cons_of_mem _ (List.mem_append_right _ h)) (by decide +kernel))
set_option maxRecDepth 20000 in
theorem gX6_unitCount_X6_requireLessThanOne : GoodIn wsX6_unitCount (wsV RX6 150 RX6 yX6_requireLessThanOne wsX6_requireLessThanOne) := goodIn_app (goodIn_of _ (by decide +kernel)) ggX6_unitCount_X6_requireLessThanOne
set_option maxRecDepth 20000 in
theorem ggX6_unitCount_X5_count : GoodIn wsX6_unitCount wsX5_count := goodIn_r _ [36, 37, 38, 35, 39, 40, 41, 42, 23, 20, 24, 43, 26, 27, 28, 29, 30, 31, 32] (by decide +kernel) (by decide +kernel)
set_option maxRecDepth 20000 in
theorem gX6_unitCount_X5_count : GoodIn wsX6_unitCount (va_wsS RX6 153 yX5_count wsX5_count) := goodIn_app (goodIn_of _ (by decide +kernel)) ggX6_unitCount_X5_count
set_option maxRecDepth 20000 in
theorem ggX6_unitAt_X6_requirePlate : GoodIn wsX6_unitAt wsX6_requirePlate := goodIn_ca (goodIn_r _ [7, 1, 2, 8, 9, 6, 10] (by decide +kernel) (by decide +kernel)) (goodIn_sub (fun _ h => List.mem_cons_of_mem _ (List.mem_append_left _ (List.mem_append_right _ h))) (by decide +kernel))
set_option maxRecDepth 20000 in
theorem gX6_unitAt_X6_requirePlate : GoodIn wsX6_unitAt (va_wsS RX6 50 yX6_requirePlate wsX6_requirePlate) := goodIn_app (goodIn_of _ (by decide +kernel)) ggX6_unitAt_X6_requirePlate
set_option maxRecDepth 20000 in
theorem ggX6_unitAt_X6_requireLessThanOne : GoodIn wsX6_unitAt wsX6_requireLessThanOne := goodIn_ca (goodIn_r _ [14, 15, 16, 3, 17, 18, 19, 20, 21, 22, 23, 24, 25, 26, 27, 28, 29, 30, 31, 32, 41, 42, 43, 44, 45, 46, 47] (by decide +kernel) (by decide +kernel)) (goodIn_sub (fun _ h => List.mem_cons_of_mem _ (List.mem_append_right _ h)) (by decide +kernel))
set_option maxRecDepth 20000 in
theorem gX6_unitAt_X6_requireLessThanOne : GoodIn wsX6_unitAt (wsV RX6 150 RX6 yX6_requireLessThanOne wsX6_requireLessThanOne) := goodIn_app (goodIn_of _ (by decide +kernel)) ggX6_unitAt_X6_requireLessThanOne
set_option maxRecDepth 20000 in
theorem ggX6_unitAt_X5_unit : GoodIn wsX6_unitAt wsX5_unit := goodIn_r _ [36, 37, 38, 39, 23, 20, 24, 40, 26, 27, 28, 29, 30, 31, 32] (by decide +kernel) (by decide +kernel)
set_option maxRecDepth 20000 in
theorem gX6_unitAt_X5_unit : GoodIn wsX6_unitAt (va_wsS RX6 160 yX5_unit wsX5_unit) := goodIn_app (goodIn_of _ (by decide +kernel)) ggX6_unitAt_X5_unit
set_option maxRecDepth 20000 in
theorem ggX6_waySteps_X6_requireNotZero : GoodIn wsX6_waySteps wsX6_requireNotZero := goodIn_ca (goodIn_ca (goodIn_r _ [7, 8, 9, 2, 10, 11, 6, 12, 13, 14, 15, 16, 17, 49, 50, 51, 52, 53, 54, 55] (by decide +kernel) (by decide +kernel)) (goodIn_sub (fun _ h => List.mem_cons_of_mem _ (List.mem_append_left _ (List.mem_append_right _ h))) (by decide +kernel))) (goodIn_sub (fun _ h => List.mem_cons_of_mem _ (List.mem_append_right _ h)) (by decide +kernel))
set_option maxRecDepth 20000 in
theorem gX6_waySteps_X6_requireNotZero : GoodIn wsX6_waySteps (wsV RX6 84 RX6 yX6_requireNotZero wsX6_requireNotZero) := goodIn_app (goodIn_of _ (by decide +kernel)) ggX6_waySteps_X6_requireNotZero
set_option maxRecDepth 20000 in
theorem ggX6_waySteps_X2_expand : GoodIn wsX6_waySteps wsX2_expand := goodIn_r _ [22, 23, 24, 25, 26, 27, 28, 29, 30, 31, 32, 33, 34, 35, 36, 37, 38, 39, 40, 21, 41, 42, 43, 44, 56, 57, 58] (by decide +kernel) (by decide +kernel)
set_option maxRecDepth 20000 in
theorem gX6_waySteps_X2_expand : GoodIn wsX6_waySteps (wsV RX6 124 RX2 yX2_expand wsX2_expand) := goodIn_app (goodIn_of _ (by decide +kernel)) ggX6_waySteps_X2_expand
set_option maxRecDepth 20000 in
theorem ggX6_waySteps_X2_sumOfTerms : GoodIn wsX6_waySteps wsX2_sumOfTerms := goodIn_r _ [48, 23, 24, 56, 57, 58] (by decide +kernel) (by decide +kernel)
set_option maxRecDepth 20000 in
theorem gX6_waySteps_X2_sumOfTerms : GoodIn wsX6_waySteps (wsV RX6 163 RX2 yX2_sumOfTerms wsX2_sumOfTerms) := goodIn_app (goodIn_of _ (by decide +kernel)) ggX6_waySteps_X2_sumOfTerms
set_option maxRecDepth 20000 in
theorem ggX6_wayTurns_X6_requireNotZero : GoodIn wsX6_wayTurns wsX6_requireNotZero := goodIn_ca (goodIn_ca (goodIn_r _ [7, 8, 9, 2, 10, 11, 6, 12, 13, 14, 15, 16, 17, 53, 54, 55, 56, 57, 58, 59] (by decide +kernel) (by decide +kernel)) (goodIn_sub (fun _ h => List.mem_cons_of_mem _ (List.mem_append_left _ (List.mem_append_right _ h))) (by decide +kernel))) (goodIn_sub (fun _ h => List.mem_cons_of_mem _ (List.mem_append_right _ h)) (by decide +kernel))
set_option maxRecDepth 20000 in
theorem gX6_wayTurns_X6_requireNotZero : GoodIn wsX6_wayTurns (wsV RX6 84 RX6 yX6_requireNotZero wsX6_requireNotZero) := goodIn_app (goodIn_of _ (by decide +kernel)) ggX6_wayTurns_X6_requireNotZero
set_option maxRecDepth 20000 in
theorem ggX6_wayTurns_X2_expand : GoodIn wsX6_wayTurns wsX2_expand := goodIn_r _ [22, 23, 24, 25, 26, 27, 28, 29, 30, 31, 32, 33, 34, 35, 36, 37, 38, 39, 40, 21, 41, 42, 43, 44, 60, 61, 62] (by decide +kernel) (by decide +kernel)
set_option maxRecDepth 20000 in
theorem gX6_wayTurns_X2_expand : GoodIn wsX6_wayTurns (wsV RX6 124 RX2 yX2_expand wsX2_expand) := goodIn_app (goodIn_of _ (by decide +kernel)) ggX6_wayTurns_X2_expand
set_option maxRecDepth 20000 in
theorem ggX6_wayTurns_X2_term : GoodIn wsX6_wayTurns wsX2_term := goodIn_r _ [48, 24, 60, 61, 62] (by decide +kernel) (by decide +kernel)
set_option maxRecDepth 20000 in
theorem gX6_wayTurns_X2_term : GoodIn wsX6_wayTurns (wsV RX6 136 RX2 yX2_term wsX2_term) := goodIn_app (goodIn_of _ (by decide +kernel)) ggX6_wayTurns_X2_term
set_option maxRecDepth 20000 in
theorem ggX6_wayTurns_X2_count : GoodIn wsX6_wayTurns wsX2_count := goodIn_r _ [52, 23, 60, 61, 62] (by decide +kernel) (by decide +kernel)
set_option maxRecDepth 20000 in
theorem gX6_wayTurns_X2_count : GoodIn wsX6_wayTurns (wsV RX6 128 RX2 yX2_count wsX2_count) := goodIn_app (goodIn_of _ (by decide +kernel)) ggX6_wayTurns_X2_count
set_option maxRecDepth 20000 in
theorem ggX6_beginsRight_X6_requireNotZero : GoodIn wsX6_beginsRight wsX6_requireNotZero := goodIn_ca (goodIn_ca (goodIn_r _ [7, 8, 9, 1, 10, 11, 6, 12, 13, 14, 15, 16, 17, 33, 34, 35, 36, 37, 38, 39] (by decide +kernel) (by decide +kernel)) (goodIn_sub (fun _ h => List.mem_cons_of_mem _ (List.mem_append_left _ (List.mem_append_right _ h))) (by decide +kernel))) (goodIn_sub (fun _ h => List.mem_cons_of_mem _ (List.mem_append_right _ h)) (by decide +kernel))
set_option maxRecDepth 20000 in
theorem gX6_beginsRight_X6_requireNotZero : GoodIn wsX6_beginsRight (wsV RX6 84 RX6 yX6_requireNotZero wsX6_requireNotZero) := goodIn_app (goodIn_of _ (by decide +kernel)) ggX6_beginsRight_X6_requireNotZero
set_option maxRecDepth 20000 in
theorem ggX6_beginsRight_X3_order : GoodIn wsX6_beginsRight wsX3_order := goodIn_r _ [21, 22, 23, 20, 24, 25, 26, 27, 28, 29, 30, 31, 32] (by decide +kernel) (by decide +kernel)
set_option maxRecDepth 20000 in
theorem gX6_beginsRight_X3_order : GoodIn wsX6_beginsRight (va_wsS RX6 100 yX3_order wsX3_order) := goodIn_app (goodIn_of _ (by decide +kernel)) ggX6_beginsRight_X3_order
set_option maxRecDepth 20000 in
theorem ggX6_appendText_X1_characterCount : GoodIn wsX6_appendText wsX1_characterCount := goodIn_r _ [9, 10] (by decide +kernel) (by decide +kernel)
set_option maxRecDepth 20000 in
theorem gX6_appendText_X1_characterCount : GoodIn wsX6_appendText (va_wsS RX6 168 yX1_characterCount wsX1_characterCount) := goodIn_app (goodIn_of _ (by decide +kernel)) ggX6_appendText_X1_characterCount
set_option maxRecDepth 20000 in
theorem ggX6_appendText_X1_hasRoomFor : GoodIn wsX6_appendText wsX1_hasRoomFor := goodIn_r _ [14, 15, 32, 33] (by decide +kernel) (by decide +kernel)
set_option maxRecDepth 20000 in
theorem gX6_appendText_X1_hasRoomFor : GoodIn wsX6_appendText (wsV RX6 173 RX1 yX1_hasRoomFor wsX1_hasRoomFor) := goodIn_app (goodIn_of _ (by decide +kernel)) ggX6_appendText_X1_hasRoomFor
set_option maxRecDepth 20000 in
theorem ggX6_appendText_X1_append : GoodIn wsX6_appendText wsX1_append := goodIn_r _ [19, 20, 15, 10, 32, 33] (by decide +kernel) (by decide +kernel)
set_option maxRecDepth 20000 in
theorem gX6_appendText_X1_append : GoodIn wsX6_appendText (wsV RX6 181 RX1 yX1_append wsX1_append) := goodIn_app (goodIn_of _ (by decide +kernel)) ggX6_appendText_X1_append
set_option maxRecDepth 20000 in
theorem ggX6_appendText_X1_length : GoodIn wsX6_appendText wsX1_length := goodIn_r _ [24, 15, 32, 33] (by decide +kernel) (by decide +kernel)
set_option maxRecDepth 20000 in
theorem gX6_appendText_X1_length : GoodIn wsX6_appendText (wsV RX6 185 RX1 yX1_length wsX1_length) := goodIn_app (goodIn_of _ (by decide +kernel)) ggX6_appendText_X1_length
set_option maxRecDepth 20000 in
theorem ggX6_clearText_X1_length : GoodIn wsX6_clearText wsX1_length := goodIn_r _ [6, 7, 19, 20] (by decide +kernel) (by decide +kernel)
set_option maxRecDepth 20000 in
theorem gX6_clearText_X1_length : GoodIn wsX6_clearText (wsV RX6 185 RX1 yX1_length wsX1_length) := goodIn_app (goodIn_of _ (by decide +kernel)) ggX6_clearText_X1_length
set_option maxRecDepth 20000 in
theorem ggX6_clearText_X1_empty : GoodIn wsX6_clearText wsX1_empty := goodIn_r _ [11, 7, 19, 20] (by decide +kernel) (by decide +kernel)
set_option maxRecDepth 20000 in
theorem gX6_clearText_X1_empty : GoodIn wsX6_clearText (wsV RX6 188 RX1 yX1_empty wsX1_empty) := goodIn_app (goodIn_of _ (by decide +kernel)) ggX6_clearText_X1_empty
set_option maxRecDepth 20000 in
theorem ggX6_textLength_X1_length : GoodIn wsX6_textLength wsX1_length := goodIn_r _ [6, 7, 15, 16] (by decide +kernel) (by decide +kernel)
set_option maxRecDepth 20000 in
theorem gX6_textLength_X1_length : GoodIn wsX6_textLength (wsV RX6 185 RX1 yX1_length wsX1_length) := goodIn_app (goodIn_of _ (by decide +kernel)) ggX6_textLength_X1_length
set_option maxRecDepth 20000 in
theorem ggX6_textError_X0_begin : GoodIn wsX6_textError wsX0_begin := goodIn_r _ [7, 8, 75, 76, 77, 78, 79, 80] (by decide +kernel) (by decide +kernel)
set_option maxRecDepth 20000 in
theorem gX6_textError_X0_begin : GoodIn wsX6_textError (wsV RX6 191 RX0 yX0_begin wsX0_begin) := goodIn_app (goodIn_of _ (by decide +kernel)) ggX6_textError_X0_begin
set_option maxRecDepth 20000 in
theorem ggX6_textError_X1_length : GoodIn wsX6_textError wsX1_length := goodIn_r _ [13, 14, 81, 82] (by decide +kernel) (by decide +kernel)
set_option maxRecDepth 20000 in
theorem gX6_textError_X1_length : GoodIn wsX6_textError (wsV RX6 185 RX1 yX1_length wsX1_length) := goodIn_app (goodIn_of _ (by decide +kernel)) ggX6_textError_X1_length
set_option maxRecDepth 20000 in
theorem ggX6_textError_X1_character : GoodIn wsX6_textError wsX1_character := goodIn_r _ [18, 19, 81, 82] (by decide +kernel) (by decide +kernel)
set_option maxRecDepth 20000 in
theorem gX6_textError_X1_character : GoodIn wsX6_textError (wsV RX6 194 RX1 yX1_character wsX1_character) := goodIn_app (goodIn_of _ (by decide +kernel)) ggX6_textError_X1_character
set_option maxRecDepth 20000 in
theorem ggX6_textError_X0_accept : GoodIn wsX6_textError wsX0_accept := goodIn_r _ [23, 8, 24, 25, 26, 6, 27, 28, 29, 30, 31, 32, 33, 34, 35, 36, 37, 38, 39, 40, 41, 42, 43, 44, 45, 46, 47, 48, 49, 50, 51, 52, 53, 54, 55, 56, 57, 58, 59, 60, 61, 62, 63, 75, 76, 77, 78, 79, 80] (by decide +kernel) (by decide +kernel)
set_option maxRecDepth 20000 in
theorem gX6_textError_X0_accept : GoodIn wsX6_textError (wsV RX6 198 RX0 yX0_accept wsX0_accept) := goodIn_app (goodIn_of _ (by decide +kernel)) ggX6_textError_X0_accept
set_option maxRecDepth 20000 in
theorem ggX6_textError_X0_isComplete : GoodIn wsX6_textError wsX0_isComplete := goodIn_r _ [67, 8, 31, 75, 76, 77, 78, 79, 80] (by decide +kernel) (by decide +kernel)
set_option maxRecDepth 20000 in
theorem gX6_textError_X0_isComplete : GoodIn wsX6_textError (wsV RX6 202 RX0 yX0_isComplete wsX0_isComplete) := goodIn_app (goodIn_of _ (by decide +kernel)) ggX6_textError_X0_isComplete
set_option maxRecDepth 20000 in
theorem ggX6_runText_X6_textError : GoodIn wsX6_runText wsX6_textError := goodIn_r _ [10, 11, 5, 12, 13, 14, 15, 16, 17, 18, 19, 20, 21, 22, 23, 24, 25, 26, 27, 28, 29, 30, 31, 32, 33, 34, 35, 36, 37, 38, 39, 40, 41, 42, 43, 44, 45, 46, 47, 48, 49, 50, 51, 52, 53, 54, 55, 56, 57, 58, 59, 60, 61, 62, 63, 64, 65, 66, 67, 68, 69, 70, 71, 72, 73, 74, 75, 76, 162, 163, 164, 165, 166, 167, 168, 169, 170, 171, 172, 173, 174, 175, 176] (by decide +kernel) (by decide +kernel)
set_option maxRecDepth 20000 in
theorem gX6_runText_X6_textError : GoodIn wsX6_runText (wsV RX6 206 RX6 yX6_textError wsX6_textError) := goodIn_app (goodIn_of _ (by decide +kernel)) ggX6_runText_X6_textError
set_option maxRecDepth 20000 in
theorem ggX6_runText_X4_record : GoodIn wsX6_runText wsX4_record := goodIn_r _ [81, 82, 83, 84, 85, 86, 87, 88, 89, 90, 91, 80, 92, 177, 178, 179] (by decide +kernel) (by decide +kernel)
set_option maxRecDepth 20000 in
theorem gX6_runText_X4_record : GoodIn wsX6_runText (wsV RX6 211 RX4 yX4_record wsX4_record) := goodIn_app (goodIn_of _ (by decide +kernel)) ggX6_runText_X4_record
set_option maxRecDepth 20000 in
theorem ggX6_runText_X6_executeCommands : GoodIn wsX6_runText wsX6_executeCommands := goodIn_r _ [96, 11, 5, 12, 13, 14, 15, 16, 17, 18, 19, 20, 21, 22, 23, 24, 25, 26, 27, 28, 97, 98, 99, 9, 100, 4, 101, 102, 103, 104, 45, 105, 106, 107, 108, 37, 109, 110, 111, 112, 38, 113, 114, 115, 116, 39, 117, 118, 119, 120, 121, 122, 123, 124, 125, 126, 127, 128, 129, 130, 131, 132, 133, 134, 135, 136, 137, 138, 139, 140, 141, 142, 143, 144, 145, 146, 147, 148, 149, 150, 151, 152, 153, 154, 155, 156, 157, 29, 30, 31, 32, 33, 34, 35, 36, 40, 41, 42, 43, 44, 46, 47, 48, 49, 50, 51, 52, 53, 54, 55, 56, 57, 58, 59, 60, 61, 62, 63, 64, 65, 66, 67, 68, 69, 70, 71, 72, 162, 163, 164, 165, 166, 167, 168, 169, 170, 171, 172, 173, 174, 175, 176] (by decide +kernel) (by decide +kernel)
set_option maxRecDepth 20000 in
theorem gX6_runText_X6_executeCommands : GoodIn wsX6_runText (wsV RX6 215 RX6 yX6_executeCommands wsX6_executeCommands) := goodIn_app (goodIn_of _ (by decide +kernel)) ggX6_runText_X6_executeCommands
set_option maxRecDepth 20000 in
theorem ggX6_runText_X1_empty : GoodIn wsX6_runText wsX1_empty := goodIn_r _ [161, 23, 175, 176] (by decide +kernel) (by decide +kernel)
set_option maxRecDepth 20000 in
theorem gX6_runText_X1_empty : GoodIn wsX6_runText (wsV RX6 188 RX1 yX1_empty wsX1_empty) := goodIn_app (goodIn_of _ (by decide +kernel)) ggX6_runText_X1_empty
set_option maxRecDepth 20000 in
theorem ggX6_undo_X4_count : GoodIn wsX6_undo wsX4_count := goodIn_r _ [9, 10, 32, 33, 34] (by decide +kernel) (by decide +kernel)
set_option maxRecDepth 20000 in
theorem gX6_undo_X4_count : GoodIn wsX6_undo (wsV RX6 218 RX4 yX4_count wsX4_count) := goodIn_app (goodIn_of _ (by decide +kernel)) ggX6_undo_X4_count
set_option maxRecDepth 20000 in
theorem ggX6_undo_X4_restore : GoodIn wsX6_undo wsX4_restore := goodIn_r _ [14, 10, 15, 16, 17, 18, 19, 20, 21, 22, 8, 23, 24, 32, 33, 34] (by decide +kernel) (by decide +kernel)
set_option maxRecDepth 20000 in
theorem gX6_undo_X4_restore : GoodIn wsX6_undo (wsV RX6 221 RX4 yX4_restore wsX4_restore) := goodIn_app (goodIn_of _ (by decide +kernel)) ggX6_undo_X4_restore
set_option maxRecDepth 20000 in
theorem ggX6_undoCount_X4_count : GoodIn wsX6_undoCount wsX4_count := goodIn_r _ [6, 7, 15, 16, 17] (by decide +kernel) (by decide +kernel)
set_option maxRecDepth 20000 in
theorem gX6_undoCount_X4_count : GoodIn wsX6_undoCount (wsV RX6 218 RX4 yX4_count wsX4_count) := goodIn_app (goodIn_of _ (by decide +kernel)) ggX6_undoCount_X4_count
set_option maxRecDepth 20000 in
theorem ggX6_saveState_X6_requireSlot : GoodIn wsX6_saveState wsX6_requireSlot := goodIn_ca (goodIn_r _ [11, 12, 13] (by decide +kernel) (by decide +kernel)) (goodIn_sub (fun _ h => List.mem_cons_of_mem _ (List.mem_append_right _ h)) (by decide +kernel))
set_option maxRecDepth 20000 in
theorem gX6_saveState_X6_requireSlot : GoodIn wsX6_saveState (va_wsS RX6 224 yX6_requireSlot wsX6_requireSlot) := goodIn_app (goodIn_of _ (by decide +kernel)) ggX6_saveState_X6_requireSlot
set_option maxRecDepth 20000 in
theorem ggX6_saveState_X6_platesNotZero : GoodIn wsX6_saveState wsX6_platesNotZero := goodIn_r _ [17, 1, 18, 19, 20, 21, 22, 23, 24] (by decide +kernel) (by decide +kernel)
set_option maxRecDepth 20000 in
theorem gX6_saveState_X6_platesNotZero : GoodIn wsX6_saveState (wsV RX6 233 RX6 yX6_platesNotZero wsX6_platesNotZero) := goodIn_app (goodIn_of _ (by decide +kernel)) ggX6_saveState_X6_platesNotZero
set_option maxRecDepth 20000 in
theorem ggX6_loadState_X6_requireSlot : GoodIn wsX6_loadState wsX6_requireSlot := goodIn_ca (goodIn_r _ [14, 15, 16] (by decide +kernel) (by decide +kernel)) (goodIn_sub (fun _ h => List.mem_cons_of_mem _ (List.mem_append_right _ h)) (by decide +kernel))
set_option maxRecDepth 20000 in
theorem gX6_loadState_X6_requireSlot : GoodIn wsX6_loadState (va_wsS RX6 224 yX6_requireSlot wsX6_requireSlot) := goodIn_app (goodIn_of _ (by decide +kernel)) ggX6_loadState_X6_requireSlot
set_option maxRecDepth 20000 in
theorem ggX6_loadState_X4_record : GoodIn wsX6_loadState wsX4_record := goodIn_r _ [21, 22, 23, 24, 8, 9, 10, 25, 26, 27, 28, 20, 29, 41, 42, 43] (by decide +kernel) (by decide +kernel)
set_option maxRecDepth 20000 in
theorem gX6_loadState_X4_record : GoodIn wsX6_loadState (wsV RX6 211 RX4 yX4_record wsX4_record) := goodIn_app (goodIn_of _ (by decide +kernel)) ggX6_loadState_X4_record
set_option maxRecDepth 20000 in
theorem ggX6_loadState_X6_platesNotZero : GoodIn wsX6_loadState wsX6_platesNotZero := goodIn_r _ [33, 5, 34, 35, 36, 37, 38, 39, 40] (by decide +kernel) (by decide +kernel)
set_option maxRecDepth 20000 in
theorem gX6_loadState_X6_platesNotZero : GoodIn wsX6_loadState (wsV RX6 233 RX6 yX6_platesNotZero wsX6_platesNotZero) := goodIn_app (goodIn_of _ (by decide +kernel)) ggX6_loadState_X6_platesNotZero
set_option maxRecDepth 20000 in
theorem ggX6_requirePlate_X6_isPlate : GoodIn wsX6_requirePlate wsX6_isPlate := goodIn_r _ [6] (by decide +kernel) (by decide +kernel)
set_option maxRecDepth 20000 in
theorem gX6_requirePlate_X6_isPlate : GoodIn wsX6_requirePlate (va_wsS RX6 238 yX6_isPlate wsX6_isPlate) := goodIn_app (goodIn_of _ (by decide +kernel)) ggX6_requirePlate_X6_isPlate
set_option maxRecDepth 20000 in
theorem ggX6_requireNotZero_X6_requirePlate : GoodIn wsX6_requireNotZero wsX6_requirePlate := goodIn_ca (goodIn_r _ [7, 8, 9, 10, 11, 6, 12] (by decide +kernel) (by decide +kernel)) (goodIn_sub (fun _ h => List.mem_cons_of_mem _ (List.mem_append_right _ h)) (by decide +kernel))
set_option maxRecDepth 20000 in
theorem gX6_requireNotZero_X6_requirePlate : GoodIn wsX6_requireNotZero (va_wsS RX6 50 yX6_requirePlate wsX6_requirePlate) := goodIn_app (goodIn_of _ (by decide +kernel)) ggX6_requireNotZero_X6_requirePlate
set_option maxRecDepth 20000 in
theorem ggX6_requireLessThanOne_X3_order : GoodIn wsX6_requireLessThanOne wsX3_order := goodIn_r _ [8, 9, 10, 7, 11, 12, 13, 14, 15, 16, 17, 18, 19] (by decide +kernel) (by decide +kernel)
set_option maxRecDepth 20000 in
theorem gX6_requireLessThanOne_X3_order : GoodIn wsX6_requireLessThanOne (va_wsS RX6 100 yX3_order wsX3_order) := goodIn_app (goodIn_of _ (by decide +kernel)) ggX6_requireLessThanOne_X3_order
set_option maxRecDepth 20000 in
theorem ggX6_change_X4_record : GoodIn wsX6_change wsX4_record := goodIn_r _ [7, 8, 9, 10, 11, 12, 13, 14, 15, 16, 17, 6, 18, 35, 36, 37] (by decide +kernel) (by decide +kernel)
set_option maxRecDepth 20000 in
theorem gX6_change_X4_record : GoodIn wsX6_change (wsV RX6 211 RX4 yX4_record wsX4_record) := goodIn_app (goodIn_of _ (by decide +kernel)) ggX6_change_X4_record
set_option maxRecDepth 20000 in
theorem ggX6_change_X3_denominator : GoodIn wsX6_change wsX3_denominator := goodIn_r _ [22, 23, 24, 25, 26, 27] (by decide +kernel) (by decide +kernel)
set_option maxRecDepth 20000 in
theorem gX6_change_X3_denominator : GoodIn wsX6_change (va_wsS RX6 87 yX3_denominator wsX3_denominator) := goodIn_app (goodIn_of _ (by decide +kernel)) ggX6_change_X3_denominator
set_option maxRecDepth 20000 in
theorem ggX6_changeIfPossible_X6_change : GoodIn wsX6_changeIfPossible wsX6_change := goodIn_r _ [8, 9, 10, 11, 12, 13, 14, 15, 16, 17, 18, 19, 20, 21, 22, 23, 24, 25, 26, 27, 28, 29, 30, 31, 32, 33, 34, 35, 36, 37, 38, 39, 40, 41, 42, 43, 44, 45] (by decide +kernel) (by decide +kernel)
set_option maxRecDepth 20000 in
theorem gX6_changeIfPossible_X6_change : GoodIn wsX6_changeIfPossible (wsV RX6 68 RX6 yX6_change wsX6_change) := goodIn_app (goodIn_of _ (by decide +kernel)) ggX6_changeIfPossible_X6_change
set_option maxRecDepth 20000 in
theorem ggX6_platesAhead_X3_order : GoodIn wsX6_platesAhead wsX3_order := goodIn_r _ [5, 6, 7, 4, 8, 9, 10, 11, 12, 13, 14, 15, 16] (by decide +kernel) (by decide +kernel)
set_option maxRecDepth 20000 in
theorem gX6_platesAhead_X3_order : GoodIn wsX6_platesAhead (va_wsS RX6 100 yX3_order wsX3_order) := goodIn_app (goodIn_of _ (by decide +kernel)) ggX6_platesAhead_X3_order
set_option maxRecDepth 20000 in
theorem ggX6_expandToTerm_X6_requirePlate : GoodIn wsX6_expandToTerm wsX6_requirePlate := goodIn_ca (goodIn_r _ [8, 1, 2, 9, 10, 7, 11] (by decide +kernel) (by decide +kernel)) (goodIn_sub (fun _ h => List.mem_cons_of_mem _ (List.mem_append_right _ h)) (by decide +kernel))
set_option maxRecDepth 20000 in
theorem gX6_expandToTerm_X6_requirePlate : GoodIn wsX6_expandToTerm (va_wsS RX6 50 yX6_requirePlate wsX6_requirePlate) := goodIn_app (goodIn_of _ (by decide +kernel)) ggX6_expandToTerm_X6_requirePlate
set_option maxRecDepth 20000 in
theorem ggX6_expandToTerm_X2_expand : GoodIn wsX6_expandToTerm wsX2_expand := goodIn_r _ [16, 17, 18, 19, 20, 21, 22, 23, 24, 25, 26, 27, 28, 29, 30, 31, 32, 33, 34, 15, 35, 36, 37, 38, 50, 51, 52] (by decide +kernel) (by decide +kernel)
set_option maxRecDepth 20000 in
theorem gX6_expandToTerm_X2_expand : GoodIn wsX6_expandToTerm (wsV RX6 124 RX2 yX2_expand wsX2_expand) := goodIn_app (goodIn_of _ (by decide +kernel)) ggX6_expandToTerm_X2_expand
set_option maxRecDepth 20000 in
theorem ggX6_expandToTerm_X2_count : GoodIn wsX6_expandToTerm wsX2_count := goodIn_r _ [42, 17, 50, 51, 52] (by decide +kernel) (by decide +kernel)
set_option maxRecDepth 20000 in
theorem gX6_expandToTerm_X2_count : GoodIn wsX6_expandToTerm (wsV RX6 128 RX2 yX2_count wsX2_count) := goodIn_app (goodIn_of _ (by decide +kernel)) ggX6_expandToTerm_X2_count
set_option maxRecDepth 20000 in
theorem ggX6_nearest_X6_requirePlate : GoodIn wsX6_nearest wsX6_requirePlate := goodIn_ca (goodIn_r _ [6, 7, 8, 9, 10, 5, 11] (by decide +kernel) (by decide +kernel)) (goodIn_sub (fun _ h => List.mem_cons_of_mem _ (List.mem_append_left _ (List.mem_append_right _ h))) (by decide +kernel))
set_option maxRecDepth 20000 in
theorem gX6_nearest_X6_requirePlate : GoodIn wsX6_nearest (va_wsS RX6 50 yX6_requirePlate wsX6_requirePlate) := goodIn_app (goodIn_of _ (by decide +kernel)) ggX6_nearest_X6_requirePlate
set_option maxRecDepth 20000 in
theorem ggX6_nearest_X6_requireLimit : GoodIn wsX6_nearest wsX6_requireLimit := goodIn_ca (goodIn_r _ [14, 15, 16] (by decide +kernel) (by decide +kernel)) (goodIn_sub (fun _ h => List.mem_cons_of_mem _ (List.mem_append_right _ h)) (by decide +kernel))
set_option maxRecDepth 20000 in
theorem gX6_nearest_X6_requireLimit : GoodIn wsX6_nearest (va_wsS RX6 143 yX6_requireLimit wsX6_requireLimit) := goodIn_app (goodIn_of _ (by decide +kernel)) ggX6_nearest_X6_requireLimit
set_option maxRecDepth 20000 in
theorem ggX6_nearest_X2_expand : GoodIn wsX6_nearest wsX2_expand := goodIn_r _ [21, 22, 23, 24, 25, 26, 27, 28, 29, 30, 31, 32, 33, 34, 35, 36, 37, 38, 39, 20, 40, 41, 42, 43, 66, 67, 68] (by decide +kernel) (by decide +kernel)
set_option maxRecDepth 20000 in
theorem gX6_nearest_X2_expand : GoodIn wsX6_nearest (wsV RX6 124 RX2 yX2_expand wsX2_expand) := goodIn_app (goodIn_of _ (by decide +kernel)) ggX6_nearest_X2_expand
set_option maxRecDepth 20000 in
theorem ggX6_nearest_X2_nearest : GoodIn wsX6_nearest wsX2_nearest := goodIn_r _ [47, 22, 24, 29, 30, 27, 31, 32, 33, 34, 35, 36, 37, 38, 39, 20, 40, 41, 42, 43, 25, 26, 28, 48, 49, 50, 51, 52, 53, 54, 55, 56, 57, 58, 66, 67, 68] (by decide +kernel) (by decide +kernel)
set_option maxRecDepth 20000 in
theorem gX6_nearest_X2_nearest : GoodIn wsX6_nearest (wsV RX6 255 RX2 yX2_nearest wsX2_nearest) := goodIn_app (goodIn_of _ (by decide +kernel)) ggX6_nearest_X2_nearest
set_option maxRecDepth 20000 in
theorem ggX6_triedDenominator_X3_partsApart : GoodIn wsX6_triedDenominator wsX3_partsApart := goodIn_r _ [4, 5, 6, 7, 8, 9, 10, 3, 11, 12, 13, 14, 15, 16, 17, 18] (by decide +kernel) (by decide +kernel)
set_option maxRecDepth 20000 in
theorem gX6_triedDenominator_X3_partsApart : GoodIn wsX6_triedDenominator (va_wsS RX6 257 yX3_partsApart wsX3_partsApart) := goodIn_app (goodIn_of _ (by decide +kernel)) ggX6_triedDenominator_X3_partsApart
set_option maxRecDepth 20000 in
theorem ggX6_executeCommands_X0_begin : GoodIn wsX6_executeCommands wsX0_begin := goodIn_r _ [7, 8, 134, 135, 136, 137, 138, 139] (by decide +kernel) (by decide +kernel)
set_option maxRecDepth 20000 in
theorem gX6_executeCommands_X0_begin : GoodIn wsX6_executeCommands (wsV RX6 191 RX0 yX0_begin wsX0_begin) := goodIn_app (goodIn_of _ (by decide +kernel)) ggX6_executeCommands_X0_begin
set_option maxRecDepth 20000 in
theorem ggX6_executeCommands_X1_length : GoodIn wsX6_executeCommands wsX1_length := goodIn_r _ [13, 14, 140, 141] (by decide +kernel) (by decide +kernel)
set_option maxRecDepth 20000 in
theorem gX6_executeCommands_X1_length : GoodIn wsX6_executeCommands (wsV RX6 185 RX1 yX1_length wsX1_length) := goodIn_app (goodIn_of _ (by decide +kernel)) ggX6_executeCommands_X1_length
set_option maxRecDepth 20000 in
theorem ggX6_executeCommands_X1_character : GoodIn wsX6_executeCommands wsX1_character := goodIn_r _ [18, 19, 140, 141] (by decide +kernel) (by decide +kernel)
set_option maxRecDepth 20000 in
theorem gX6_executeCommands_X1_character : GoodIn wsX6_executeCommands (wsV RX6 194 RX1 yX1_character wsX1_character) := goodIn_app (goodIn_of _ (by decide +kernel)) ggX6_executeCommands_X1_character
set_option maxRecDepth 20000 in
theorem ggX6_executeCommands_X6_execute : GoodIn wsX6_executeCommands wsX6_execute := goodIn_r _ [24, 1, 25, 26, 27, 28, 6, 29, 30, 31, 32, 33, 34, 35, 36, 37, 38, 39, 40, 41, 42, 43, 44, 45, 46, 47, 48, 49, 50, 51, 52, 53, 54, 55, 56, 57, 58, 59, 60, 61, 62, 63, 23, 64, 65, 66, 67, 68, 69, 70, 71, 72, 73, 74, 75, 76, 77, 78, 79, 80, 81, 82, 83, 84, 85, 86, 127, 128, 129, 130, 131, 132, 133, 134, 135, 136, 137, 138, 139] (by decide +kernel) (by decide +kernel)
set_option maxRecDepth 20000 in
theorem gX6_executeCommands_X6_execute : GoodIn wsX6_executeCommands (wsV RX6 261 RX6 yX6_execute wsX6_execute) := goodIn_app (goodIn_of _ (by decide +kernel)) ggX6_executeCommands_X6_execute
set_option maxRecDepth 20000 in
theorem ggX6_executeCommands_X0_accept : GoodIn wsX6_executeCommands wsX0_accept := goodIn_r _ [90, 8, 91, 92, 93, 6, 94, 35, 40, 45, 95, 96, 97, 98, 99, 30, 100, 101, 102, 103, 104, 105, 106, 107, 108, 109, 110, 111, 112, 113, 114, 115, 116, 117, 118, 119, 120, 121, 122, 123, 124, 125, 126, 134, 135, 136, 137, 138, 139] (by decide +kernel) (by decide +kernel)
set_option maxRecDepth 20000 in
theorem gX6_executeCommands_X0_accept : GoodIn wsX6_executeCommands (wsV RX6 198 RX0 yX0_accept wsX0_accept) := goodIn_app (goodIn_of _ (by decide +kernel)) ggX6_executeCommands_X0_accept
set_option maxRecDepth 20000 in
theorem ggX6_execute_X0_plate : GoodIn wsX6_execute wsX0_plate := goodIn_r _ [7, 8, 73, 74, 75, 76, 77, 78] (by decide +kernel) (by decide +kernel)
set_option maxRecDepth 20000 in
theorem gX6_execute_X0_plate : GoodIn wsX6_execute (wsV RX6 264 RX0 yX0_plate wsX0_plate) := goodIn_app (goodIn_of _ (by decide +kernel)) ggX6_execute_X0_plate
set_option maxRecDepth 20000 in
theorem ggX6_execute_X0_letter : GoodIn wsX6_execute wsX0_letter := goodIn_r _ [12, 13, 73, 74, 75, 76, 77, 78] (by decide +kernel) (by decide +kernel)
set_option maxRecDepth 20000 in
theorem gX6_execute_X0_letter : GoodIn wsX6_execute (wsV RX6 267 RX0 yX0_letter wsX0_letter) := goodIn_app (goodIn_of _ (by decide +kernel)) ggX6_execute_X0_letter
set_option maxRecDepth 20000 in
theorem ggX6_execute_X0_first : GoodIn wsX6_execute wsX0_first := goodIn_r _ [17, 18, 73, 74, 75, 76, 77, 78] (by decide +kernel) (by decide +kernel)
set_option maxRecDepth 20000 in
theorem gX6_execute_X0_first : GoodIn wsX6_execute (wsV RX6 270 RX0 yX0_first wsX0_first) := goodIn_app (goodIn_of _ (by decide +kernel)) ggX6_execute_X0_first
set_option maxRecDepth 20000 in
theorem ggX6_execute_X0_second : GoodIn wsX6_execute wsX0_second := goodIn_r _ [22, 23, 73, 74, 75, 76, 77, 78] (by decide +kernel) (by decide +kernel)
set_option maxRecDepth 20000 in
theorem gX6_execute_X0_second : GoodIn wsX6_execute (wsV RX6 273 RX0 yX0_second wsX0_second) := goodIn_app (goodIn_of _ (by decide +kernel)) ggX6_execute_X0_second
set_option maxRecDepth 20000 in
theorem ggX6_execute_X3_inLowestTerms : GoodIn wsX6_execute wsX3_inLowestTerms := goodIn_r _ [27, 28, 29, 30, 31, 26, 32, 33, 34, 35, 36, 37, 38, 39] (by decide +kernel) (by decide +kernel)
set_option maxRecDepth 20000 in
theorem gX6_execute_X3_inLowestTerms : GoodIn wsX6_execute (va_wsS RX6 64 yX3_inLowestTerms wsX3_inLowestTerms) := goodIn_app (goodIn_of _ (by decide +kernel)) ggX6_execute_X3_inLowestTerms
set_option maxRecDepth 20000 in
theorem ggX6_execute_X6_isPlate : GoodIn wsX6_execute wsX6_isPlate := goodIn_r _ [43] (by decide +kernel) (by decide +kernel)
set_option maxRecDepth 20000 in
theorem gX6_execute_X6_isPlate : GoodIn wsX6_execute (va_wsS RX6 238 yX6_isPlate wsX6_isPlate) := goodIn_app (goodIn_of _ (by decide +kernel)) ggX6_execute_X6_isPlate
set_option maxRecDepth 20000 in
theorem ggX6_execute_X6_putIfPossible : GoodIn wsX6_execute wsX6_putIfPossible := goodIn_r _ [47, 48, 2, 66, 67, 68, 69, 70, 71, 72] (by decide +kernel) (by decide +kernel)
set_option maxRecDepth 20000 in
theorem gX6_execute_X6_putIfPossible : GoodIn wsX6_execute (wsV RX6 276 RX6 yX6_putIfPossible wsX6_putIfPossible) := goodIn_app (goodIn_of _ (by decide +kernel)) ggX6_execute_X6_putIfPossible
set_option maxRecDepth 20000 in
theorem ggX6_execute_X3_sum : GoodIn wsX6_execute wsX3_sum := goodIn_r _ [51, 52, 53, 26, 54, 55, 56, 57, 58, 33, 34, 35, 36, 59, 25, 27, 28, 29, 30, 31, 32, 37, 38, 39] (by decide +kernel) (by decide +kernel)
set_option maxRecDepth 20000 in
theorem gX6_execute_X3_sum : GoodIn wsX6_execute (va_wsS RX6 72 yX3_sum wsX3_sum) := goodIn_app (goodIn_of _ (by decide +kernel)) ggX6_execute_X3_sum
set_option maxRecDepth 20000 in
theorem ggX6_execute_X3_difference : GoodIn wsX6_execute wsX3_difference := goodIn_r _ [62, 52, 53, 26, 54, 55, 56, 57, 58, 33, 34, 35, 36, 59, 25, 27, 28, 29, 30, 31, 32, 37, 38, 39] (by decide +kernel) (by decide +kernel)
set_option maxRecDepth 20000 in
theorem gX6_execute_X3_difference : GoodIn wsX6_execute (va_wsS RX6 78 yX3_difference wsX3_difference) := goodIn_app (goodIn_of _ (by decide +kernel)) ggX6_execute_X3_difference
set_option maxRecDepth 20000 in
theorem ggX6_execute_X3_product : GoodIn wsX6_execute wsX3_product := goodIn_r _ [65, 52, 53, 26, 54, 55, 56, 57, 58, 33, 34, 35, 36, 59, 25, 27, 28, 29, 30, 31, 32, 37, 38, 39] (by decide +kernel) (by decide +kernel)
set_option maxRecDepth 20000 in
theorem gX6_execute_X3_product : GoodIn wsX6_execute (va_wsS RX6 81 yX3_product wsX3_product) := goodIn_app (goodIn_of _ (by decide +kernel)) ggX6_execute_X3_product
set_option maxRecDepth 20000 in
theorem ggX7_isPlate_X7_in : GoodIn wsX7_isPlate wsX7_in := goodIn_r _ [4] (by decide +kernel) (by decide +kernel)
set_option maxRecDepth 20000 in
theorem gX7_isPlate_X7_in : GoodIn wsX7_isPlate (va_wsS RX7 39 yX7_in wsX7_in) := goodIn_app (goodIn_of _ (by decide +kernel)) ggX7_isPlate_X7_in
set_option maxRecDepth 20000 in
theorem ggX7_arePlates_X7_isPlate : GoodIn wsX7_arePlates wsX7_isPlate := goodIn_r _ [4, 5, 6, 3, 7] (by decide +kernel) (by decide +kernel)
set_option maxRecDepth 20000 in
theorem gX7_arePlates_X7_isPlate : GoodIn wsX7_arePlates (va_wsS RX7 43 yX7_isPlate wsX7_isPlate) := goodIn_app (goodIn_of _ (by decide +kernel)) ggX7_arePlates_X7_isPlate
