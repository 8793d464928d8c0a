set_option maxRecDepth 20000 in
theorem ggX3_init_X1_init : GoodIn wsX3_init wsX1_init := goodIn_r _ [17, 18, 2, 3, 19, 20, 21, 22, 23, 24, 36, 37, 38, 39] (by decide +kernel) (by decide +kernel)
set_option maxRecDepth 20000 in
theorem gX3_init_X1_init_n9 : GoodIn wsX3_init (wsX1_init) := ggX3_init_X1_init
set_option maxRecDepth 20000 in
theorem ggX3_init_X0_init : GoodIn wsX3_init wsX0_init := goodIn_r _ [26, 27, 2, 3, 21, 28, 43] (by decide +kernel) (by decide +kernel)
set_option maxRecDepth 20000 in
theorem gX3_init_X0_init_n18 : GoodIn wsX3_init (wsX0_init) := ggX3_init_X0_init
set_option maxRecDepth 20000 in
theorem ggX3_init_X2_init : GoodIn wsX3_init wsX2_init := goodIn_r _ [30, 31, 2, 3, 32, 5, 6, 33, 34, 35, 16, 17, 18, 19, 20, 21, 22, 23, 24, 36, 37, 38, 39, 44, 45, 46] (by decide +kernel) (by decide +kernel)
set_option maxRecDepth 20000 in
theorem gX3_init_X2_init_n29 : GoodIn wsX3_init (wsX2_init) := ggX3_init_X2_init
set_option maxRecDepth 20000 in
theorem ggX3_put_X3_isKeySize : GoodIn wsX3_put wsX3_isKeySize := goodIn_r _ [9] (by decide +kernel) (by decide +kernel)
set_option maxRecDepth 20000 in
theorem gX3_put_X3_isKeySize : GoodIn wsX3_put (va_wsS RX3 30 yX3_isKeySize wsX3_isKeySize) := goodIn_app (goodIn_of _ (by decide +kernel)) ggX3_put_X3_isKeySize
set_option maxRecDepth 20000 in
theorem ggX3_put_X3_highestBytes : GoodIn wsX3_put wsX3_highestBytes := goodIn_r _ [12, 13] (by decide +kernel) (by decide +kernel)
set_option maxRecDepth 20000 in
theorem gX3_put_X3_highestBytes : GoodIn wsX3_put (va_wsS RX3 41 yX3_highestBytes wsX3_highestBytes) := goodIn_app (goodIn_of _ (by decide +kernel)) ggX3_put_X3_highestBytes
set_option maxRecDepth 20000 in
theorem ggX3_put_X1_countBefore : GoodIn wsX3_put wsX1_countBefore := goodIn_r _ [18, 19, 20, 21, 22, 23, 24, 25, 26, 27, 28, 29, 55, 56, 57, 58] (by decide +kernel) (by decide +kernel)
set_option maxRecDepth 20000 in
theorem gX3_put_X1_countBefore : GoodIn wsX3_put (wsV RX3 45 RX1 yX1_countBefore wsX1_countBefore) := goodIn_app (goodIn_of _ (by decide +kernel)) ggX3_put_X1_countBefore
set_option maxRecDepth 20000 in
theorem ggX3_put_X1_standsAt : GoodIn wsX3_put wsX1_standsAt := goodIn_r _ [33, 20, 21, 34, 35, 36, 17, 37, 19, 55, 56, 57, 58] (by decide +kernel) (by decide +kernel)
set_option maxRecDepth 20000 in
theorem gX3_put_X1_standsAt : GoodIn wsX3_put (wsV RX3 49 RX1 yX1_standsAt wsX1_standsAt) := goodIn_app (goodIn_of _ (by decide +kernel)) ggX3_put_X1_standsAt
set_option maxRecDepth 20000 in
theorem ggX3_put_X1_setNumber : GoodIn wsX3_put wsX1_setNumber := goodIn_r _ [41, 42, 34, 35, 36, 17, 37, 19, 55, 56, 57, 58] (by decide +kernel) (by decide +kernel)
set_option maxRecDepth 20000 in
theorem gX3_put_X1_setNumber : GoodIn wsX3_put (wsV RX3 53 RX1 yX1_setNumber wsX1_setNumber) := goodIn_app (goodIn_of _ (by decide +kernel)) ggX3_put_X1_setNumber
set_option maxRecDepth 20000 in
theorem ggX3_put_X1_isFull : GoodIn wsX3_put wsX1_isFull := goodIn_r _ [46, 19, 55, 56, 57, 58] (by decide +kernel) (by decide +kernel)
set_option maxRecDepth 20000 in
theorem gX3_put_X1_isFull : GoodIn wsX3_put (wsV RX3 57 RX1 yX1_isFull wsX1_isFull) := goodIn_app (goodIn_of _ (by decide +kernel)) ggX3_put_X1_isFull
set_option maxRecDepth 20000 in
theorem ggX3_put_X1_insert : GoodIn wsX3_put wsX1_insert := goodIn_r _ [50, 19, 20, 21, 42, 51, 44, 45, 17, 46, 55, 56, 57, 58] (by decide +kernel) (by decide +kernel)
set_option maxRecDepth 20000 in
theorem gX3_put_X1_insert : GoodIn wsX3_put (wsV RX3 66 RX1 yX1_insert wsX1_insert) := goodIn_app (goodIn_of _ (by decide +kernel)) ggX3_put_X1_insert
set_option maxRecDepth 20000 in
theorem ggX3_get_X3_isKeySize : GoodIn wsX3_get wsX3_isKeySize := goodIn_r _ [9] (by decide +kernel) (by decide +kernel)
set_option maxRecDepth 20000 in
theorem gX3_get_X3_isKeySize : GoodIn wsX3_get (va_wsS RX3 30 yX3_isKeySize wsX3_isKeySize) := goodIn_app (goodIn_of _ (by decide +kernel)) ggX3_get_X3_isKeySize
set_option maxRecDepth 20000 in
theorem ggX3_get_X3_highestBytes : GoodIn wsX3_get wsX3_highestBytes := goodIn_r _ [12, 13] (by decide +kernel) (by decide +kernel)
set_option maxRecDepth 20000 in
theorem gX3_get_X3_highestBytes : GoodIn wsX3_get (va_wsS RX3 41 yX3_highestBytes wsX3_highestBytes) := goodIn_app (goodIn_of _ (by decide +kernel)) ggX3_get_X3_highestBytes
set_option maxRecDepth 20000 in
theorem ggX3_get_X1_countBefore : GoodIn wsX3_get wsX1_countBefore := goodIn_r _ [18, 19, 20, 21, 22, 23, 24, 25, 26, 27, 28, 29, 46, 47, 48, 49] (by decide +kernel) (by decide +kernel)
set_option maxRecDepth 20000 in
theorem gX3_get_X1_countBefore : GoodIn wsX3_get (wsV RX3 45 RX1 yX1_countBefore wsX1_countBefore) := goodIn_app (goodIn_of _ (by decide +kernel)) ggX3_get_X1_countBefore
set_option maxRecDepth 20000 in
theorem ggX3_get_X1_standsAt : GoodIn wsX3_get wsX1_standsAt := goodIn_r _ [33, 20, 21, 34, 35, 36, 17, 37, 19, 46, 47, 48, 49] (by decide +kernel) (by decide +kernel)
set_option maxRecDepth 20000 in
theorem gX3_get_X1_standsAt : GoodIn wsX3_get (wsV RX3 49 RX1 yX1_standsAt wsX1_standsAt) := goodIn_app (goodIn_of _ (by decide +kernel)) ggX3_get_X1_standsAt
set_option maxRecDepth 20000 in
theorem ggX3_get_X1_numberAt : GoodIn wsX3_get wsX1_numberAt := goodIn_r _ [41, 42, 34, 35, 36, 17, 37, 19, 46, 47, 48, 49] (by decide +kernel) (by decide +kernel)
set_option maxRecDepth 20000 in
theorem gX3_get_X1_numberAt : GoodIn wsX3_get (wsV RX3 75 RX1 yX1_numberAt wsX1_numberAt) := goodIn_app (goodIn_of _ (by decide +kernel)) ggX3_get_X1_numberAt
set_option maxRecDepth 20000 in
theorem ggX3_remove_X3_isKeySize : GoodIn wsX3_remove wsX3_isKeySize := goodIn_r _ [5] (by decide +kernel) (by decide +kernel)
set_option maxRecDepth 20000 in
theorem gX3_remove_X3_isKeySize : GoodIn wsX3_remove (va_wsS RX3 30 yX3_isKeySize wsX3_isKeySize) := goodIn_app (goodIn_of _ (by decide +kernel)) ggX3_remove_X3_isKeySize
set_option maxRecDepth 20000 in
theorem ggX3_remove_X3_highestBytes : GoodIn wsX3_remove wsX3_highestBytes := goodIn_r _ [8, 9] (by decide +kernel) (by decide +kernel)
set_option maxRecDepth 20000 in
theorem gX3_remove_X3_highestBytes : GoodIn wsX3_remove (va_wsS RX3 41 yX3_highestBytes wsX3_highestBytes) := goodIn_app (goodIn_of _ (by decide +kernel)) ggX3_remove_X3_highestBytes
set_option maxRecDepth 20000 in
theorem ggX3_remove_X1_countBefore : GoodIn wsX3_remove wsX1_countBefore := goodIn_r _ [14, 15, 16, 17, 18, 19, 20, 21, 22, 23, 24, 25, 42, 43, 44, 45] (by decide +kernel) (by decide +kernel)
set_option maxRecDepth 20000 in
theorem gX3_remove_X1_countBefore : GoodIn wsX3_remove (wsV RX3 45 RX1 yX1_countBefore wsX1_countBefore) := goodIn_app (goodIn_of _ (by decide +kernel)) ggX3_remove_X1_countBefore
set_option maxRecDepth 20000 in
theorem ggX3_remove_X1_standsAt : GoodIn wsX3_remove wsX1_standsAt := goodIn_r _ [29, 16, 17, 30, 31, 32, 13, 33, 15, 42, 43, 44, 45] (by decide +kernel) (by decide +kernel)
set_option maxRecDepth 20000 in
theorem gX3_remove_X1_standsAt : GoodIn wsX3_remove (wsV RX3 49 RX1 yX1_standsAt wsX1_standsAt) := goodIn_app (goodIn_of _ (by decide +kernel)) ggX3_remove_X1_standsAt
set_option maxRecDepth 20000 in
theorem ggX3_remove_X1_takeOut : GoodIn wsX3_remove wsX1_takeOut := goodIn_r _ [37, 15, 16, 17, 38, 30, 31, 32, 13, 33, 42, 43, 44, 45] (by decide +kernel) (by decide +kernel)
set_option maxRecDepth 20000 in
theorem gX3_remove_X1_takeOut : GoodIn wsX3_remove (wsV RX3 79 RX1 yX1_takeOut wsX1_takeOut) := goodIn_app (goodIn_of _ (by decide +kernel)) ggX3_remove_X1_takeOut
set_option maxRecDepth 20000 in
theorem ggX3_size_X1_count : GoodIn wsX3_size wsX1_count := goodIn_r _ [6, 7, 11, 12, 13, 14] (by decide +kernel) (by decide +kernel)
set_option maxRecDepth 20000 in
theorem gX3_size_X1_count : GoodIn wsX3_size (wsV RX3 83 RX1 yX1_count wsX1_count) := goodIn_app (goodIn_of _ (by decide +kernel)) ggX3_size_X1_count
set_option maxRecDepth 20000 in
theorem ggX3_within_X3_isKeySize : GoodIn wsX3_within wsX3_isKeySize := goodIn_r _ [5] (by decide +kernel) (by decide +kernel)
set_option maxRecDepth 20000 in
theorem gX3_within_X3_isKeySize : GoodIn wsX3_within (va_wsS RX3 30 yX3_isKeySize wsX3_isKeySize) := goodIn_app (goodIn_of _ (by decide +kernel)) ggX3_within_X3_isKeySize
set_option maxRecDepth 20000 in
theorem ggX3_within_X3_highestBytes : GoodIn wsX3_within wsX3_highestBytes := goodIn_r _ [8, 9] (by decide +kernel) (by decide +kernel)
set_option maxRecDepth 20000 in
theorem gX3_within_X3_highestBytes : GoodIn wsX3_within (va_wsS RX3 41 yX3_highestBytes wsX3_highestBytes) := goodIn_app (goodIn_of _ (by decide +kernel)) ggX3_within_X3_highestBytes
set_option maxRecDepth 20000 in
theorem ggX3_within_X1_countBeginningWith : GoodIn wsX3_within wsX1_countBeginningWith := goodIn_r _ [14, 15, 16, 17, 18, 4, 19, 20, 21, 22, 23, 24, 25, 26, 27, 28, 29, 30, 31, 32, 36, 37, 38, 39] (by decide +kernel) (by decide +kernel)
set_option maxRecDepth 20000 in
theorem gX3_within_X1_countBeginningWith : GoodIn wsX3_within (wsV RX3 87 RX1 yX1_countBeginningWith wsX1_countBeginningWith) := goodIn_app (goodIn_of _ (by decide +kernel)) ggX3_within_X1_countBeginningWith
set_option maxRecDepth 20000 in
theorem ggX3_rank_X3_isKeySize : GoodIn wsX3_rank wsX3_isKeySize := goodIn_r _ [5] (by decide +kernel) (by decide +kernel)
set_option maxRecDepth 20000 in
theorem gX3_rank_X3_isKeySize : GoodIn wsX3_rank (va_wsS RX3 30 yX3_isKeySize wsX3_isKeySize) := goodIn_app (goodIn_of _ (by decide +kernel)) ggX3_rank_X3_isKeySize
set_option maxRecDepth 20000 in
theorem ggX3_rank_X3_highestBytes : GoodIn wsX3_rank wsX3_highestBytes := goodIn_r _ [8, 9] (by decide +kernel) (by decide +kernel)
set_option maxRecDepth 20000 in
theorem gX3_rank_X3_highestBytes : GoodIn wsX3_rank (va_wsS RX3 41 yX3_highestBytes wsX3_highestBytes) := goodIn_app (goodIn_of _ (by decide +kernel)) ggX3_rank_X3_highestBytes
set_option maxRecDepth 20000 in
theorem ggX3_rank_X1_countBefore : GoodIn wsX3_rank wsX1_countBefore := goodIn_r _ [14, 15, 16, 17, 18, 19, 20, 21, 22, 23, 24, 25, 29, 30, 31, 32] (by decide +kernel) (by decide +kernel)
set_option maxRecDepth 20000 in
theorem gX3_rank_X1_countBefore : GoodIn wsX3_rank (wsV RX3 45 RX1 yX1_countBefore wsX1_countBefore) := goodIn_app (goodIn_of _ (by decide +kernel)) ggX3_rank_X1_countBefore
set_option maxRecDepth 20000 in
theorem ggX3_forks_X0_countOfSize : GoodIn wsX3_forks wsX0_countOfSize := goodIn_r _ [7, 8, 9, 10, 11, 12, 13, 14, 15, 16, 17, 18, 19, 20, 21, 22, 23, 24, 25, 26, 27, 28, 29, 30, 31, 32, 33, 34, 35, 36, 37, 38, 39, 40, 41, 42, 6, 43, 44, 45, 46, 47, 48, 49, 50, 51, 52, 53, 54, 55, 56, 57, 58, 62, 63, 64, 65, 66] (by decide +kernel) (by decide +kernel)
set_option maxRecDepth 20000 in
theorem gX3_forks_X0_countOfSize : GoodIn wsX3_forks (wsV RX3 90 RX0 yX0_countOfSize wsX0_countOfSize) := goodIn_app (goodIn_of _ (by decide +kernel)) ggX3_forks_X0_countOfSize
set_option maxRecDepth 20000 in
theorem ggX3_depth_X3_isKeySize : GoodIn wsX3_depth wsX3_isKeySize := goodIn_r _ [5] (by decide +kernel) (by decide +kernel)
set_option maxRecDepth 20000 in
theorem gX3_depth_X3_isKeySize : GoodIn wsX3_depth (va_wsS RX3 30 yX3_isKeySize wsX3_isKeySize) := goodIn_app (goodIn_of _ (by decide +kernel)) ggX3_depth_X3_isKeySize
set_option maxRecDepth 20000 in
theorem ggX3_depth_X3_highestBytes : GoodIn wsX3_depth wsX3_highestBytes := goodIn_r _ [8, 9] (by decide +kernel) (by decide +kernel)
set_option maxRecDepth 20000 in
theorem gX3_depth_X3_highestBytes : GoodIn wsX3_depth (va_wsS RX3 41 yX3_highestBytes wsX3_highestBytes) := goodIn_app (goodIn_of _ (by decide +kernel)) ggX3_depth_X3_highestBytes
set_option maxRecDepth 20000 in
theorem ggX3_depth_X1_countForksOnTheWayTo : GoodIn wsX3_depth wsX1_countForksOnTheWayTo := goodIn_r _ [14, 15, 16, 17, 18, 19, 20, 13, 21, 22, 23, 24, 25, 26, 4, 27, 28, 29, 30, 31, 32, 33, 34, 35, 36, 37, 38, 39, 40, 41, 42, 43, 44, 45, 46, 50, 51, 52, 53] (by decide +kernel) (by decide +kernel)
set_option maxRecDepth 20000 in
theorem gX3_depth_X1_countForksOnTheWayTo : GoodIn wsX3_depth (wsV RX3 94 RX1 yX1_countForksOnTheWayTo wsX1_countForksOnTheWayTo) := goodIn_app (goodIn_of _ (by decide +kernel)) ggX3_depth_X1_countForksOnTheWayTo
set_option maxRecDepth 20000 in
theorem ggX3_open_X3_readerOrNull : GoodIn wsX3_open wsX3_readerOrNull := goodIn_r _ [6, 7, 29, 30, 31] (by decide +kernel) (by decide +kernel)
set_option maxRecDepth 20000 in
theorem gX3_open_X3_readerOrNull : GoodIn wsX3_open (wsV RX3 97 RX3 yX3_readerOrNull wsX3_readerOrNull) := goodIn_app (goodIn_of _ (by decide +kernel)) ggX3_open_X3_readerOrNull
set_option maxRecDepth 20000 in
theorem ggX3_open_X2_isOpen : GoodIn wsX3_open wsX2_isOpen := goodIn_r _ [12, 13, 32, 33, 34] (by decide +kernel) (by decide +kernel)
set_option maxRecDepth 20000 in
theorem gX3_open_X2_isOpen : GoodIn wsX3_open (wsV RX3 101 RX2 yX2_isOpen wsX2_isOpen) := goodIn_app (goodIn_of _ (by decide +kernel)) ggX3_open_X2_isOpen
set_option maxRecDepth 20000 in
theorem ggX3_open_X2_begin : GoodIn wsX3_open wsX2_begin := goodIn_r _ [17, 18, 19, 13, 20, 21, 22, 23, 24, 25, 26, 27, 28, 32, 33, 34, 35, 36, 37, 38] (by decide +kernel) (by decide +kernel)
set_option maxRecDepth 20000 in
theorem gX3_open_X2_begin : GoodIn wsX3_open (wsV RX3 104 RX2 yX2_begin wsX2_begin) := goodIn_app (goodIn_of _ (by decide +kernel)) ggX3_open_X2_begin
set_option maxRecDepth 20000 in
theorem ggX3_close_X3_openReaderOrNull : GoodIn wsX3_close wsX3_openReaderOrNull := goodIn_r _ [5, 6, 7, 8, 4, 9, 10, 11, 12, 13, 14, 15, 16, 21, 22, 23, 24, 25, 26] (by decide +kernel) (by decide +kernel)
set_option maxRecDepth 20000 in
theorem gX3_close_X3_openReaderOrNull : GoodIn wsX3_close (wsV RX3 108 RX3 yX3_openReaderOrNull wsX3_openReaderOrNull) := goodIn_app (goodIn_of _ (by decide +kernel)) ggX3_close_X3_openReaderOrNull
set_option maxRecDepth 20000 in
theorem ggX3_close_X2_end : GoodIn wsX3_close wsX2_end := goodIn_r _ [20, 16, 24, 25, 26] (by decide +kernel) (by decide +kernel)
set_option maxRecDepth 20000 in
theorem gX3_close_X2_end : GoodIn wsX3_close (wsV RX3 111 RX2 yX2_end wsX2_end) := goodIn_app (goodIn_of _ (by decide +kernel)) ggX3_close_X2_end
set_option maxRecDepth 20000 in
theorem ggX3_seek_X3_isKeySize : GoodIn wsX3_seek wsX3_isKeySize := goodIn_r _ [8] (by decide +kernel) (by decide +kernel)
set_option maxRecDepth 20000 in
theorem gX3_seek_X3_isKeySize : GoodIn wsX3_seek (va_wsS RX3 30 yX3_isKeySize wsX3_isKeySize) := goodIn_app (goodIn_of _ (by decide +kernel)) ggX3_seek_X3_isKeySize
set_option maxRecDepth 20000 in
theorem ggX3_seek_X3_openReaderOrNull : GoodIn wsX3_seek wsX3_openReaderOrNull := goodIn_r _ [12, 13, 14, 15, 7, 16, 17, 18, 19, 20, 21, 22, 23, 54, 55, 56, 57, 58, 59] (by decide +kernel) (by decide +kernel)
set_option maxRecDepth 20000 in
theorem gX3_seek_X3_openReaderOrNull : GoodIn wsX3_seek (wsV RX3 108 RX3 yX3_openReaderOrNull wsX3_openReaderOrNull) := goodIn_app (goodIn_of _ (by decide +kernel)) ggX3_seek_X3_openReaderOrNull
set_option maxRecDepth 20000 in
theorem ggX3_seek_X3_highestBytes : GoodIn wsX3_seek wsX3_highestBytes := goodIn_r _ [26, 27] (by decide +kernel) (by decide +kernel)
set_option maxRecDepth 20000 in
theorem gX3_seek_X3_highestBytes : GoodIn wsX3_seek (va_wsS RX3 41 yX3_highestBytes wsX3_highestBytes) := goodIn_app (goodIn_of _ (by decide +kernel)) ggX3_seek_X3_highestBytes
set_option maxRecDepth 20000 in
theorem ggX3_seek_X2_goToOrBehind : GoodIn wsX3_seek wsX2_goToOrBehind := goodIn_r _ [31, 32, 33, 34, 35, 36, 37, 38, 39, 40, 41, 42, 43, 44, 45, 46, 47, 48, 49, 50, 51, 52, 53, 57, 58, 59, 60, 61, 62, 63] (by decide +kernel) (by decide +kernel)
set_option maxRecDepth 20000 in
theorem gX3_seek_X2_goToOrBehind : GoodIn wsX3_seek (wsV RX3 116 RX2 yX2_goToOrBehind wsX2_goToOrBehind) := goodIn_app (goodIn_of _ (by decide +kernel)) ggX3_seek_X2_goToOrBehind
set_option maxRecDepth 20000 in
theorem ggX3_next_X3_openReaderOrNull : GoodIn wsX3_next wsX3_openReaderOrNull := goodIn_r _ [7, 8, 9, 10, 6, 11, 12, 13, 14, 15, 16, 17, 18, 39, 40, 41, 42, 43, 44] (by decide +kernel) (by decide +kernel)
set_option maxRecDepth 20000 in
theorem gX3_next_X3_openReaderOrNull : GoodIn wsX3_next (wsV RX3 108 RX3 yX3_openReaderOrNull wsX3_openReaderOrNull) := goodIn_app (goodIn_of _ (by decide +kernel)) ggX3_next_X3_openReaderOrNull
set_option maxRecDepth 20000 in
theorem ggX3_next_X2_goOn : GoodIn wsX3_next wsX2_goOn := goodIn_r _ [22, 23, 24, 25, 26, 27, 28, 29, 30, 31, 32, 33, 34, 35, 36, 37, 38, 42, 43, 44, 45, 46, 47, 48] (by decide +kernel) (by decide +kernel)
set_option maxRecDepth 20000 in
theorem gX3_next_X2_goOn : GoodIn wsX3_next (wsV RX3 120 RX2 yX2_goOn wsX2_goOn) := goodIn_app (goodIn_of _ (by decide +kernel)) ggX3_next_X2_goOn
set_option maxRecDepth 20000 in
theorem ggX3_key_X3_openReaderOrNull : GoodIn wsX3_key wsX3_openReaderOrNull := goodIn_r _ [5, 6, 7, 8, 4, 9, 10, 11, 12, 13, 14, 15, 16, 34, 35, 36, 37, 38, 39] (by decide +kernel) (by decide +kernel)
set_option maxRecDepth 20000 in
theorem gX3_key_X3_openReaderOrNull : GoodIn wsX3_key (wsV RX3 108 RX3 yX3_openReaderOrNull wsX3_openReaderOrNull) := goodIn_app (goodIn_of _ (by decide +kernel)) ggX3_key_X3_openReaderOrNull
set_option maxRecDepth 20000 in
theorem ggX3_key_X2_bytesHere : GoodIn wsX3_key wsX2_bytesHere := goodIn_r _ [20, 21, 22, 23, 24, 25, 26, 27, 28, 29, 30, 31, 32, 33, 37, 38, 39, 40, 41, 42, 43] (by decide +kernel) (by decide +kernel)
set_option maxRecDepth 20000 in
theorem gX3_key_X2_bytesHere : GoodIn wsX3_key (wsV RX3 123 RX2 yX2_bytesHere wsX2_bytesHere) := goodIn_app (goodIn_of _ (by decide +kernel)) ggX3_key_X2_bytesHere
set_option maxRecDepth 20000 in
theorem ggX3_length_X3_openReaderOrNull : GoodIn wsX3_length wsX3_openReaderOrNull := goodIn_r _ [5, 6, 7, 8, 4, 9, 10, 11, 12, 13, 14, 15, 16, 34, 35, 36, 37, 38, 39] (by decide +kernel) (by decide +kernel)
set_option maxRecDepth 20000 in
theorem gX3_length_X3_openReaderOrNull : GoodIn wsX3_length (wsV RX3 108 RX3 yX3_openReaderOrNull wsX3_openReaderOrNull) := goodIn_app (goodIn_of _ (by decide +kernel)) ggX3_length_X3_openReaderOrNull
set_option maxRecDepth 20000 in
theorem ggX3_length_X2_sizeHere : GoodIn wsX3_length wsX2_sizeHere := goodIn_r _ [20, 21, 22, 23, 24, 25, 26, 27, 28, 29, 30, 31, 32, 33, 37, 38, 39, 40, 41, 42, 43] (by decide +kernel) (by decide +kernel)
set_option maxRecDepth 20000 in
theorem gX3_length_X2_sizeHere : GoodIn wsX3_length (wsV RX3 127 RX2 yX2_sizeHere wsX2_sizeHere) := goodIn_app (goodIn_of _ (by decide +kernel)) ggX3_length_X2_sizeHere
set_option maxRecDepth 20000 in
theorem ggX3_value_X3_openReaderOrNull : GoodIn wsX3_value wsX3_openReaderOrNull := goodIn_r _ [5, 6, 7, 8, 4, 9, 10, 11, 12, 13, 14, 15, 16, 34, 35, 36, 37, 38, 39] (by decide +kernel) (by decide +kernel)
set_option maxRecDepth 20000 in
theorem gX3_value_X3_openReaderOrNull : GoodIn wsX3_value (wsV RX3 108 RX3 yX3_openReaderOrNull wsX3_openReaderOrNull) := goodIn_app (goodIn_of _ (by decide +kernel)) ggX3_value_X3_openReaderOrNull
set_option maxRecDepth 20000 in
theorem ggX3_value_X2_numberHere : GoodIn wsX3_value wsX2_numberHere := goodIn_r _ [20, 21, 22, 23, 24, 25, 26, 27, 28, 29, 30, 31, 32, 33, 37, 38, 39, 40, 41, 42, 43] (by decide +kernel) (by decide +kernel)
set_option maxRecDepth 20000 in
theorem gX3_value_X2_numberHere : GoodIn wsX3_value (wsV RX3 130 RX2 yX2_numberHere wsX2_numberHere) := goodIn_app (goodIn_of _ (by decide +kernel)) ggX3_value_X2_numberHere
set_option maxRecDepth 20000 in
theorem ggX3_openReaderOrNull_X3_readerOrNull : GoodIn wsX3_openReaderOrNull wsX3_readerOrNull := goodIn_r _ [5, 6, 13, 14, 15] (by decide +kernel) (by decide +kernel)
set_option maxRecDepth 20000 in
theorem gX3_openReaderOrNull_X3_readerOrNull : GoodIn wsX3_openReaderOrNull (wsV RX3 97 RX3 yX3_readerOrNull wsX3_readerOrNull) := goodIn_app (goodIn_of _ (by decide +kernel)) ggX3_openReaderOrNull_X3_readerOrNull
set_option maxRecDepth 20000 in
theorem ggX3_openReaderOrNull_X2_isOpen : GoodIn wsX3_openReaderOrNull wsX2_isOpen := goodIn_r _ [11, 12, 16, 17, 18] (by decide +kernel) (by decide +kernel)
set_option maxRecDepth 20000 in
theorem gX3_openReaderOrNull_X2_isOpen : GoodIn wsX3_openReaderOrNull (wsV RX3 101 RX2 yX2_isOpen wsX2_isOpen) := goodIn_app (goodIn_of _ (by decide +kernel)) ggX3_openReaderOrNull_X2_isOpen
set_option maxRecDepth 20000 in
theorem ggX3_bytesInCommon_J13_numberOfLeadingZeros_95d88 : GoodIn wsX3_bytesInCommon wsJ13_numberOfLeadingZeros_95d88 := goodIn_r _ [8, 9, 10, 11, 12, 13] (by decide +kernel) (by decide +kernel)
set_option maxRecDepth 20000 in
theorem gX3_bytesInCommon_J13_numberOfLeadingZeros_95d88 : GoodIn wsX3_bytesInCommon (va_wsS RX3 135 yJ13_numberOfLeadingZeros_95d88 wsJ13_numberOfLeadingZeros_95d88) := goodIn_app (goodIn_of _ (by decide +kernel)) ggX3_bytesInCommon_J13_numberOfLeadingZeros_95d88
