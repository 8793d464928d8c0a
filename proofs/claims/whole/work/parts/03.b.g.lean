set_option maxRecDepth 20000 in
theorem ggX0_countOfSize_X1_count : GoodIn wsX0_countOfSize wsX1_count := goodIn_r _ [5, 6, 53, 54, 55, 56] (by decide +kernel) (by decide +kernel)
set_option maxRecDepth 20000 in
theorem gX0_countOfSize_X1_count : GoodIn wsX0_countOfSize (wsV RX0 15 RX1 yX1_count wsX1_count) := goodIn_app (goodIn_of _ (by decide +kernel)) ggX0_countOfSize_X1_count
set_option maxRecDepth 20000 in
theorem ggX0_countOfSize_X1_forkBehind : GoodIn wsX0_countOfSize wsX1_forkBehind := goodIn_r _ [10, 11, 12, 13, 14, 15, 4, 16, 6, 17, 18, 19, 20, 21, 22, 23, 24, 25, 26, 27, 28, 29, 30, 31, 32, 53, 54, 55, 56] (by decide +kernel) (by decide +kernel)
set_option maxRecDepth 20000 in
theorem gX0_countOfSize_X1_forkBehind : GoodIn wsX0_countOfSize (wsV RX0 21 RX1 yX1_forkBehind wsX1_forkBehind) := goodIn_app (goodIn_of _ (by decide +kernel)) ggX0_countOfSize_X1_forkBehind
set_option maxRecDepth 20000 in
theorem ggX0_countOfSize_X0_endLongerThan : GoodIn wsX0_countOfSize wsX0_endLongerThan := goodIn_r _ [37, 38, 39, 22, 40, 41, 42, 43, 36, 44, 57] (by decide +kernel) (by decide +kernel)
set_option maxRecDepth 20000 in
theorem gX0_countOfSize_X0_endLongerThan : GoodIn wsX0_countOfSize (wsV RX0 25 RX0 yX0_endLongerThan wsX0_endLongerThan) := goodIn_app (goodIn_of _ (by decide +kernel)) ggX0_countOfSize_X0_endLongerThan
set_option maxRecDepth 20000 in
theorem ggX0_countOfSize_X1_sizeAt : GoodIn wsX0_countOfSize wsX1_sizeAt := goodIn_r _ [48, 12, 13, 14, 15, 4, 16, 6, 53, 54, 55, 56] (by decide +kernel) (by decide +kernel)
set_option maxRecDepth 20000 in
theorem gX0_countOfSize_X1_sizeAt : GoodIn wsX0_countOfSize (wsV RX0 29 RX1 yX1_sizeAt wsX1_sizeAt) := goodIn_app (goodIn_of _ (by decide +kernel)) ggX0_countOfSize_X1_sizeAt
set_option maxRecDepth 20000 in
theorem ggX0_countOfSize_X0_addBranch : GoodIn wsX0_countOfSize wsX0_addBranch := goodIn_r _ [52, 41, 57] (by decide +kernel) (by decide +kernel)
set_option maxRecDepth 20000 in
theorem gX0_countOfSize_X0_addBranch : GoodIn wsX0_countOfSize (wsV RX0 32 RX0 yX0_addBranch wsX0_addBranch) := goodIn_app (goodIn_of _ (by decide +kernel)) ggX0_countOfSize_X0_addBranch
set_option maxRecDepth 20000 in
theorem ggX0_endLongerThan_X0_sizeOf : GoodIn wsX0_endLongerThan wsX0_sizeOf := goodIn_r _ [9] (by decide +kernel) (by decide +kernel)
set_option maxRecDepth 20000 in
theorem gX0_endLongerThan_X0_sizeOf : GoodIn wsX0_endLongerThan (va_wsS RX0 41 yX0_sizeOf wsX0_sizeOf) := goodIn_app (goodIn_of _ (by decide +kernel)) ggX0_endLongerThan_X0_sizeOf
set_option maxRecDepth 20000 in
theorem ggX1_standsAt_X1_isPlace : GoodIn wsX1_standsAt wsX1_isPlace := goodIn_r _ [7, 8, 9, 10, 11, 12] (by decide +kernel) (by decide +kernel)
set_option maxRecDepth 20000 in
theorem gX1_standsAt_X1_isPlace : GoodIn wsX1_standsAt (wsV RX1 26 RX1 yX1_isPlace wsX1_isPlace) := goodIn_app (goodIn_of _ (by decide +kernel)) ggX1_standsAt_X1_isPlace
set_option maxRecDepth 20000 in
theorem ggX1_wordAt_X1_isPlace : GoodIn wsX1_wordAt wsX1_isPlace := goodIn_r _ [6, 7, 8, 9, 10, 11] (by decide +kernel) (by decide +kernel)
set_option maxRecDepth 20000 in
theorem gX1_wordAt_X1_isPlace : GoodIn wsX1_wordAt (wsV RX1 26 RX1 yX1_isPlace wsX1_isPlace) := goodIn_app (goodIn_of _ (by decide +kernel)) ggX1_wordAt_X1_isPlace
set_option maxRecDepth 20000 in
theorem ggX1_sizeAt_X1_isPlace : GoodIn wsX1_sizeAt wsX1_isPlace := goodIn_r _ [6, 7, 8, 9, 10, 11] (by decide +kernel) (by decide +kernel)
set_option maxRecDepth 20000 in
theorem gX1_sizeAt_X1_isPlace : GoodIn wsX1_sizeAt (wsV RX1 26 RX1 yX1_isPlace wsX1_isPlace) := goodIn_app (goodIn_of _ (by decide +kernel)) ggX1_sizeAt_X1_isPlace
set_option maxRecDepth 20000 in
theorem ggX1_numberAt_X1_isPlace : GoodIn wsX1_numberAt wsX1_isPlace := goodIn_r _ [6, 7, 8, 9, 10, 11] (by decide +kernel) (by decide +kernel)
set_option maxRecDepth 20000 in
theorem gX1_numberAt_X1_isPlace : GoodIn wsX1_numberAt (wsV RX1 26 RX1 yX1_isPlace wsX1_isPlace) := goodIn_app (goodIn_of _ (by decide +kernel)) ggX1_numberAt_X1_isPlace
set_option maxRecDepth 20000 in
theorem ggX1_setNumber_X1_isPlace : GoodIn wsX1_setNumber wsX1_isPlace := goodIn_r _ [6, 7, 8, 9, 10, 11] (by decide +kernel) (by decide +kernel)
set_option maxRecDepth 20000 in
theorem gX1_setNumber_X1_isPlace : GoodIn wsX1_setNumber (wsV RX1 26 RX1 yX1_isPlace wsX1_isPlace) := goodIn_app (goodIn_of _ (by decide +kernel)) ggX1_setNumber_X1_isPlace
set_option maxRecDepth 20000 in
theorem ggX1_countBefore_J13_compareUnsigned_74951 : GoodIn wsX1_countBefore wsJ13_compareUnsigned_74951 := goodIn_r _ [7, 8, 9, 10, 6, 11] (by decide +kernel) (by decide +kernel)
set_option maxRecDepth 20000 in
theorem gX1_countBefore_J13_compareUnsigned_74951 : GoodIn wsX1_countBefore (va_wsS RX1 30 yJ13_compareUnsigned_74951 wsJ13_compareUnsigned_74951) := goodIn_app (goodIn_of _ (by decide +kernel)) ggX1_countBefore_J13_compareUnsigned_74951
set_option maxRecDepth 20000 in
theorem ggX1_countBeginningWith_X3_bytesInCommon : GoodIn wsX1_countBeginningWith wsX3_bytesInCommon := goodIn_r _ [6, 7, 8, 9, 10, 11, 12, 13, 14, 15, 16, 17, 18, 19] (by decide +kernel) (by decide +kernel)
set_option maxRecDepth 20000 in
theorem gX1_countBeginningWith_X3_bytesInCommon_n36 : GoodIn wsX1_countBeginningWith (wsX3_bytesInCommon) := ggX1_countBeginningWith_X3_bytesInCommon
set_option maxRecDepth 20000 in
theorem ggX1_forkBehind_X1_isPlace : GoodIn wsX1_forkBehind wsX1_isPlace := goodIn_r _ [7, 8, 25, 26, 27, 28] (by decide +kernel) (by decide +kernel)
set_option maxRecDepth 20000 in
theorem gX1_forkBehind_X1_isPlace : GoodIn wsX1_forkBehind (wsV RX1 26 RX1 yX1_isPlace wsX1_isPlace) := goodIn_app (goodIn_of _ (by decide +kernel)) ggX1_forkBehind_X1_isPlace
set_option maxRecDepth 20000 in
theorem ggX1_forkBehind_X3_bytesInCommon : GoodIn wsX1_forkBehind wsX3_bytesInCommon := goodIn_r _ [11, 12, 13, 14, 15, 16, 17, 18, 19, 20, 21, 22, 23, 24] (by decide +kernel) (by decide +kernel)
set_option maxRecDepth 20000 in
theorem gX1_forkBehind_X3_bytesInCommon_n36 : GoodIn wsX1_forkBehind (wsX3_bytesInCommon) := ggX1_forkBehind_X3_bytesInCommon
set_option maxRecDepth 20000 in
theorem ggX1_countForksOnTheWayTo_X1_forkBehind : GoodIn wsX1_countForksOnTheWayTo wsX1_forkBehind := goodIn_r _ [8, 2, 3, 9, 10, 11, 7, 12, 1, 13, 14, 15, 16, 17, 18, 19, 20, 21, 22, 23, 24, 25, 26, 27, 28, 35, 36, 37, 38] (by decide +kernel) (by decide +kernel)
set_option maxRecDepth 20000 in
theorem gX1_countForksOnTheWayTo_X1_forkBehind : GoodIn wsX1_countForksOnTheWayTo (wsV RX1 40 RX1 yX1_forkBehind wsX1_forkBehind) := goodIn_app (goodIn_of _ (by decide +kernel)) ggX1_countForksOnTheWayTo_X1_forkBehind
set_option maxRecDepth 20000 in
theorem ggX1_countForksOnTheWayTo_X3_bytesInCommon : GoodIn wsX1_countForksOnTheWayTo wsX3_bytesInCommon := goodIn_r _ [15, 16, 17, 18, 19, 20, 21, 22, 23, 24, 25, 26, 27, 28] (by decide +kernel) (by decide +kernel)
set_option maxRecDepth 20000 in
theorem gX1_countForksOnTheWayTo_X3_bytesInCommon_n36 : GoodIn wsX1_countForksOnTheWayTo (wsX3_bytesInCommon) := ggX1_countForksOnTheWayTo_X3_bytesInCommon
set_option maxRecDepth 20000 in
theorem ggX1_countForksOnTheWayTo_J6_bitCount_0f7a4 : GoodIn wsX1_countForksOnTheWayTo wsJ6_bitCount_0f7a4 := goodIn_r _ [31, 32, 33, 34] (by decide +kernel) (by decide +kernel)
set_option maxRecDepth 20000 in
theorem gX1_countForksOnTheWayTo_J6_bitCount_0f7a4 : GoodIn wsX1_countForksOnTheWayTo (va_wsS RX1 44 yJ6_bitCount_0f7a4 wsJ6_bitCount_0f7a4) := goodIn_app (goodIn_of _ (by decide +kernel)) ggX1_countForksOnTheWayTo_J6_bitCount_0f7a4
set_option maxRecDepth 20000 in
theorem ggX1_insert_X1_isFull : GoodIn wsX1_insert wsX1_isFull := goodIn_r _ [9, 1, 10, 11, 12, 13] (by decide +kernel) (by decide +kernel)
set_option maxRecDepth 20000 in
theorem gX1_insert_X1_isFull : GoodIn wsX1_insert (wsV RX1 49 RX1 yX1_isFull wsX1_isFull) := goodIn_app (goodIn_of _ (by decide +kernel)) ggX1_insert_X1_isFull
set_option maxRecDepth 20000 in
theorem ggX1_takeOut_X1_isPlace : GoodIn wsX1_takeOut wsX1_isPlace := goodIn_r _ [9, 1, 10, 11, 12, 13] (by decide +kernel) (by decide +kernel)
set_option maxRecDepth 20000 in
theorem gX1_takeOut_X1_isPlace : GoodIn wsX1_takeOut (wsV RX1 26 RX1 yX1_isPlace wsX1_isPlace) := goodIn_app (goodIn_of _ (by decide +kernel)) ggX1_takeOut_X1_isPlace
set_option maxRecDepth 20000 in
theorem ggX2_init_X1_init : GoodIn wsX2_init wsX1_init := goodIn_r _ [11, 12, 2, 3, 13, 14, 15, 16, 17, 18, 19, 20, 21, 22] (by decide +kernel) (by decide +kernel)
set_option maxRecDepth 20000 in
theorem gX2_init_X1_init_n11 : GoodIn wsX2_init (wsX1_init) := ggX2_init_X1_init
set_option maxRecDepth 20000 in
theorem ggX2_begin_X1_copyFrom : GoodIn wsX2_begin wsX1_copyFrom := goodIn_r _ [8, 9, 10, 11, 12, 16, 17, 18, 19] (by decide +kernel) (by decide +kernel)
set_option maxRecDepth 20000 in
theorem gX2_begin_X1_copyFrom : GoodIn wsX2_begin (wsV RX2 26 RX1 yX1_copyFrom wsX1_copyFrom) := goodIn_app (goodIn_of _ (by decide +kernel)) ggX2_begin_X1_copyFrom
set_option maxRecDepth 20000 in
theorem ggX2_goToOrBehind_X1_countBefore : GoodIn wsX2_goToOrBehind wsX1_countBefore := goodIn_r _ [7, 8, 9, 10, 11, 12, 13, 14, 15, 16, 17, 18, 26, 27, 28, 29] (by decide +kernel) (by decide +kernel)
set_option maxRecDepth 20000 in
theorem gX2_goToOrBehind_X1_countBefore : GoodIn wsX2_goToOrBehind (wsV RX2 30 RX1 yX1_countBefore wsX1_countBefore) := goodIn_app (goodIn_of _ (by decide +kernel)) ggX2_goToOrBehind_X1_countBefore
set_option maxRecDepth 20000 in
theorem ggX2_goToOrBehind_X1_isPlace : GoodIn wsX2_goToOrBehind wsX1_isPlace := goodIn_r _ [22, 8, 26, 27, 28, 29] (by decide +kernel) (by decide +kernel)
set_option maxRecDepth 20000 in
theorem gX2_goToOrBehind_X1_isPlace : GoodIn wsX2_goToOrBehind (wsV RX2 34 RX1 yX1_isPlace wsX1_isPlace) := goodIn_app (goodIn_of _ (by decide +kernel)) ggX2_goToOrBehind_X1_isPlace
set_option maxRecDepth 20000 in
theorem ggX2_goOn_X1_count : GoodIn wsX2_goOn wsX1_count := goodIn_r _ [11, 12, 20, 21, 22, 23] (by decide +kernel) (by decide +kernel)
set_option maxRecDepth 20000 in
theorem gX2_goOn_X1_count : GoodIn wsX2_goOn (wsV RX2 38 RX1 yX1_count wsX1_count) := goodIn_app (goodIn_of _ (by decide +kernel)) ggX2_goOn_X1_count
set_option maxRecDepth 20000 in
theorem ggX2_goOn_X1_isPlace : GoodIn wsX2_goOn wsX1_isPlace := goodIn_r _ [16, 12, 20, 21, 22, 23] (by decide +kernel) (by decide +kernel)
set_option maxRecDepth 20000 in
theorem gX2_goOn_X1_isPlace : GoodIn wsX2_goOn (wsV RX2 34 RX1 yX1_isPlace wsX1_isPlace) := goodIn_app (goodIn_of _ (by decide +kernel)) ggX2_goOn_X1_isPlace
set_option maxRecDepth 20000 in
theorem ggX2_bytesHere_X1_wordAt : GoodIn wsX2_bytesHere wsX1_wordAt := goodIn_r _ [7, 8, 9, 10, 11, 6, 12, 13, 17, 18, 19, 20] (by decide +kernel) (by decide +kernel)
set_option maxRecDepth 20000 in
theorem gX2_bytesHere_X1_wordAt : GoodIn wsX2_bytesHere (wsV RX2 48 RX1 yX1_wordAt wsX1_wordAt) := goodIn_app (goodIn_of _ (by decide +kernel)) ggX2_bytesHere_X1_wordAt
set_option maxRecDepth 20000 in
theorem ggX2_sizeHere_X1_sizeAt : GoodIn wsX2_sizeHere wsX1_sizeAt := goodIn_r _ [7, 8, 9, 10, 11, 6, 12, 13, 17, 18, 19, 20] (by decide +kernel) (by decide +kernel)
set_option maxRecDepth 20000 in
theorem gX2_sizeHere_X1_sizeAt : GoodIn wsX2_sizeHere (wsV RX2 52 RX1 yX1_sizeAt wsX1_sizeAt) := goodIn_app (goodIn_of _ (by decide +kernel)) ggX2_sizeHere_X1_sizeAt
set_option maxRecDepth 20000 in
theorem ggX2_numberHere_X1_numberAt : GoodIn wsX2_numberHere wsX1_numberAt := goodIn_r _ [7, 8, 9, 10, 11, 6, 12, 13, 17, 18, 19, 20] (by decide +kernel) (by decide +kernel)
set_option maxRecDepth 20000 in
theorem gX2_numberHere_X1_numberAt : GoodIn wsX2_numberHere (wsV RX2 56 RX1 yX1_numberAt wsX1_numberAt) := goodIn_app (goodIn_of _ (by decide +kernel)) ggX2_numberHere_X1_numberAt
set_option maxRecDepth 20000 in
theorem ggJ13_compareUnsigned_74951_J13_compare_74951 : GoodIn wsJ13_compareUnsigned_74951 wsJ13_compare_74951 := goodIn_r _ [5] (by decide +kernel) (by decide +kernel)
set_option maxRecDepth 20000 in
theorem gJ13_compareUnsigned_74951_J13_compare_74951 : GoodIn wsJ13_compareUnsigned_74951 (va_wsS RJ13 302 yJ13_compare_74951 wsJ13_compare_74951) := goodIn_app (goodIn_of _ (by decide +kernel)) ggJ13_compareUnsigned_74951_J13_compare_74951
set_option maxRecDepth 20000 in
theorem ggJ13_numberOfLeadingZeros_95d88_J6_numberOfLeadingZeros_0f7a4 : GoodIn wsJ13_numberOfLeadingZeros_95d88 wsJ6_numberOfLeadingZeros_0f7a4 := goodIn_r _ [4, 5] (by decide +kernel) (by decide +kernel)
set_option maxRecDepth 20000 in
theorem gJ13_numberOfLeadingZeros_95d88_J6_numberOfLeadingZeros_0f7a4 : GoodIn wsJ13_numberOfLeadingZeros_95d88 (va_wsS RJ13 308 yJ6_numberOfLeadingZeros_0f7a4 wsJ6_numberOfLeadingZeros_0f7a4) := goodIn_app (goodIn_of _ (by decide +kernel)) ggJ13_numberOfLeadingZeros_95d88_J6_numberOfLeadingZeros_0f7a4
