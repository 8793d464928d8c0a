set_option maxRecDepth 20000 in
theorem ggX4_place_X4_order : GoodIn wsX4_place wsX4_order := goodIn_r _ [6, 7, 8, 9, 10, 11, 12, 13, 14, 15, 16] (by decide +kernel) (by decide +kernel)
set_option maxRecDepth 20000 in
theorem gX4_place_X4_order : GoodIn wsX4_place (wsV RX4 36 RX4 yX4_order wsX4_order) := goodIn_app (goodIn_of _ (by decide +kernel)) ggX4_place_X4_order
set_option maxRecDepth 20000 in
theorem ggX4_has_X4_order : GoodIn wsX4_has wsX4_order := goodIn_r _ [6, 7, 8, 9, 10, 11, 12, 13, 14, 15, 16] (by decide +kernel) (by decide +kernel)
set_option maxRecDepth 20000 in
theorem gX4_has_X4_order : GoodIn wsX4_has (wsV RX4 36 RX4 yX4_order wsX4_order) := goodIn_app (goodIn_of _ (by decide +kernel)) ggX4_has_X4_order
set_option maxRecDepth 20000 in
theorem ggX4_begins_X4_cut : GoodIn wsX4_begins wsX4_cut := goodIn_r _ [6] (by decide +kernel) (by decide +kernel)
set_option maxRecDepth 20000 in
theorem gX4_begins_X4_cut : GoodIn wsX4_begins (va_wsS RX4 40 yX4_cut wsX4_cut) := goodIn_app (goodIn_of _ (by decide +kernel)) ggX4_begins_X4_cut
set_option maxRecDepth 20000 in
theorem ggX4_put_X4_cut : GoodIn wsX4_put wsX4_cut := goodIn_r _ [9] (by decide +kernel) (by decide +kernel)
set_option maxRecDepth 20000 in
theorem gX4_put_X4_cut : GoodIn wsX4_put (va_wsS RX4 40 yX4_cut wsX4_cut) := goodIn_app (goodIn_of _ (by decide +kernel)) ggX4_put_X4_cut
set_option maxRecDepth 20000 in
theorem ggX4_put_X4_place : GoodIn wsX4_put wsX4_place := goodIn_r _ [13, 1, 14, 15, 16, 8, 17, 3, 4, 18, 27, 28, 29, 30, 31, 32, 33] (by decide +kernel) (by decide +kernel)
set_option maxRecDepth 20000 in
theorem gX4_put_X4_place : GoodIn wsX4_put (wsV RX4 44 RX4 yX4_place wsX4_place) := goodIn_app (goodIn_of _ (by decide +kernel)) ggX4_put_X4_place
set_option maxRecDepth 20000 in
theorem ggX4_put_X4_has : GoodIn wsX4_put wsX4_has := goodIn_r _ [22, 1, 14, 15, 16, 8, 17, 3, 4, 18, 27, 28, 29, 30, 31, 32, 33] (by decide +kernel) (by decide +kernel)
set_option maxRecDepth 20000 in
theorem gX4_put_X4_has : GoodIn wsX4_put (wsV RX4 47 RX4 yX4_has wsX4_has) := goodIn_app (goodIn_of _ (by decide +kernel)) ggX4_put_X4_has
set_option maxRecDepth 20000 in
theorem ggX4_put_X4_copy : GoodIn wsX4_put wsX4_copy := goodIn_r _ [26, 3, 4, 5, 27, 28, 29, 30, 31, 32, 33] (by decide +kernel) (by decide +kernel)
set_option maxRecDepth 20000 in
theorem gX4_put_X4_copy : GoodIn wsX4_put (wsV RX4 51 RX4 yX4_copy wsX4_copy) := goodIn_app (goodIn_of _ (by decide +kernel)) ggX4_put_X4_copy
set_option maxRecDepth 20000 in
theorem ggX4_get_X4_cut : GoodIn wsX4_get wsX4_cut := goodIn_r _ [6] (by decide +kernel) (by decide +kernel)
set_option maxRecDepth 20000 in
theorem gX4_get_X4_cut : GoodIn wsX4_get (va_wsS RX4 40 yX4_cut wsX4_cut) := goodIn_app (goodIn_of _ (by decide +kernel)) ggX4_get_X4_cut
set_option maxRecDepth 20000 in
theorem ggX4_get_X4_place : GoodIn wsX4_get wsX4_place := goodIn_r _ [10, 11, 12, 13, 14, 5, 15, 16, 17, 18, 23, 24, 25, 26, 27, 28, 29] (by decide +kernel) (by decide +kernel)
set_option maxRecDepth 20000 in
theorem gX4_get_X4_place : GoodIn wsX4_get (wsV RX4 44 RX4 yX4_place wsX4_place) := goodIn_app (goodIn_of _ (by decide +kernel)) ggX4_get_X4_place
set_option maxRecDepth 20000 in
theorem ggX4_get_X4_has : GoodIn wsX4_get wsX4_has := goodIn_r _ [22, 11, 12, 13, 14, 5, 15, 16, 17, 18, 23, 24, 25, 26, 27, 28, 29] (by decide +kernel) (by decide +kernel)
set_option maxRecDepth 20000 in
theorem gX4_get_X4_has : GoodIn wsX4_get (wsV RX4 47 RX4 yX4_has wsX4_has) := goodIn_app (goodIn_of _ (by decide +kernel)) ggX4_get_X4_has
set_option maxRecDepth 20000 in
theorem ggX4_remove_X4_cut : GoodIn wsX4_remove wsX4_cut := goodIn_r _ [6] (by decide +kernel) (by decide +kernel)
set_option maxRecDepth 20000 in
theorem gX4_remove_X4_cut : GoodIn wsX4_remove (va_wsS RX4 40 yX4_cut wsX4_cut) := goodIn_app (goodIn_of _ (by decide +kernel)) ggX4_remove_X4_cut
set_option maxRecDepth 20000 in
theorem ggX4_remove_X4_place : GoodIn wsX4_remove wsX4_place := goodIn_r _ [10, 2, 11, 12, 13, 5, 14, 15, 16, 17, 27, 28, 29, 30, 31, 32, 33] (by decide +kernel) (by decide +kernel)
set_option maxRecDepth 20000 in
theorem gX4_remove_X4_place : GoodIn wsX4_remove (wsV RX4 44 RX4 yX4_place wsX4_place) := goodIn_app (goodIn_of _ (by decide +kernel)) ggX4_remove_X4_place
set_option maxRecDepth 20000 in
theorem ggX4_remove_X4_has : GoodIn wsX4_remove wsX4_has := goodIn_r _ [21, 2, 11, 12, 13, 5, 14, 15, 16, 17, 27, 28, 29, 30, 31, 32, 33] (by decide +kernel) (by decide +kernel)
set_option maxRecDepth 20000 in
theorem gX4_remove_X4_has : GoodIn wsX4_remove (wsV RX4 47 RX4 yX4_has wsX4_has) := goodIn_app (goodIn_of _ (by decide +kernel)) ggX4_remove_X4_has
set_option maxRecDepth 20000 in
theorem ggX4_remove_X4_copy : GoodIn wsX4_remove wsX4_copy := goodIn_r _ [25, 15, 16, 26, 27, 28, 29, 30, 31, 32, 33] (by decide +kernel) (by decide +kernel)
set_option maxRecDepth 20000 in
theorem gX4_remove_X4_copy : GoodIn wsX4_remove (wsV RX4 51 RX4 yX4_copy wsX4_copy) := goodIn_app (goodIn_of _ (by decide +kernel)) ggX4_remove_X4_copy
set_option maxRecDepth 20000 in
theorem ggX4_within_X4_cut : GoodIn wsX4_within wsX4_cut := goodIn_r _ [6] (by decide +kernel) (by decide +kernel)
set_option maxRecDepth 20000 in
theorem gX4_within_X4_cut : GoodIn wsX4_within (va_wsS RX4 40 yX4_cut wsX4_cut) := goodIn_app (goodIn_of _ (by decide +kernel)) ggX4_within_X4_cut
set_option maxRecDepth 20000 in
theorem ggX4_within_X4_begins : GoodIn wsX4_within wsX4_begins := goodIn_r _ [10, 11, 12, 3, 4, 5, 6, 13, 14, 15, 16, 17, 18, 19] (by decide +kernel) (by decide +kernel)
set_option maxRecDepth 20000 in
theorem gX4_within_X4_begins : GoodIn wsX4_within (wsV RX4 55 RX4 yX4_begins wsX4_begins) := goodIn_app (goodIn_of _ (by decide +kernel)) ggX4_within_X4_begins
set_option maxRecDepth 20000 in
theorem ggX4_rank_X4_cut : GoodIn wsX4_rank wsX4_cut := goodIn_r _ [5] (by decide +kernel) (by decide +kernel)
set_option maxRecDepth 20000 in
theorem gX4_rank_X4_cut : GoodIn wsX4_rank (va_wsS RX4 40 yX4_cut wsX4_cut) := goodIn_app (goodIn_of _ (by decide +kernel)) ggX4_rank_X4_cut
set_option maxRecDepth 20000 in
theorem ggX4_rank_X4_place : GoodIn wsX4_rank wsX4_place := goodIn_r _ [9, 10, 11, 12, 13, 4, 14, 15, 16, 17, 18, 19, 20, 21, 22, 23, 24] (by decide +kernel) (by decide +kernel)
set_option maxRecDepth 20000 in
theorem gX4_rank_X4_place : GoodIn wsX4_rank (wsV RX4 44 RX4 yX4_place wsX4_place) := goodIn_app (goodIn_of _ (by decide +kernel)) ggX4_rank_X4_place
set_option maxRecDepth 20000 in
theorem ggX4_branches_X4_begins : GoodIn wsX4_branches wsX4_begins := goodIn_r _ [8, 2, 3, 9, 10, 7, 11, 15, 16, 17, 18, 19, 20, 21] (by decide +kernel) (by decide +kernel)
set_option maxRecDepth 20000 in
theorem gX4_branches_X4_begins : GoodIn wsX4_branches (wsV RX4 55 RX4 yX4_begins wsX4_begins) := goodIn_app (goodIn_of _ (by decide +kernel)) ggX4_branches_X4_begins
set_option maxRecDepth 20000 in
theorem ggX4_branches_X4_part : GoodIn wsX4_branches wsX4_part := goodIn_r _ [14] (by decide +kernel) (by decide +kernel)
set_option maxRecDepth 20000 in
theorem gX4_branches_X4_part : GoodIn wsX4_branches (va_wsS RX4 59 yX4_part wsX4_part) := goodIn_app (goodIn_of _ (by decide +kernel)) ggX4_branches_X4_part
set_option maxRecDepth 20000 in
theorem ggX4_forks_X4_cut : GoodIn wsX4_forks wsX4_cut := goodIn_r _ [8] (by decide +kernel) (by decide +kernel)
set_option maxRecDepth 20000 in
theorem gX4_forks_X4_cut : GoodIn wsX4_forks (va_wsS RX4 40 yX4_cut wsX4_cut) := goodIn_app (goodIn_of _ (by decide +kernel)) ggX4_forks_X4_cut
set_option maxRecDepth 20000 in
theorem ggX4_forks_X4_begins : GoodIn wsX4_forks wsX4_begins := goodIn_r _ [12, 3, 4, 5, 6, 7, 8, 23, 24, 25, 26, 27, 28, 29] (by decide +kernel) (by decide +kernel)
set_option maxRecDepth 20000 in
theorem gX4_forks_X4_begins : GoodIn wsX4_forks (wsV RX4 55 RX4 yX4_begins wsX4_begins) := goodIn_app (goodIn_of _ (by decide +kernel)) ggX4_forks_X4_begins
set_option maxRecDepth 20000 in
theorem ggX4_forks_X4_branches : GoodIn wsX4_forks wsX4_branches := goodIn_r _ [16, 2, 3, 4, 9, 10, 11, 7, 12, 5, 6, 8, 17, 18, 19, 23, 24, 25, 26, 27, 28, 29] (by decide +kernel) (by decide +kernel)
set_option maxRecDepth 20000 in
theorem gX4_forks_X4_branches : GoodIn wsX4_forks (wsV RX4 63 RX4 yX4_branches wsX4_branches) := goodIn_app (goodIn_of _ (by decide +kernel)) ggX4_forks_X4_branches
set_option maxRecDepth 20000 in
theorem ggX4_forks_X4_sizeOf : GoodIn wsX4_forks wsX4_sizeOf := goodIn_r _ [22] (by decide +kernel) (by decide +kernel)
set_option maxRecDepth 20000 in
theorem gX4_forks_X4_sizeOf : GoodIn wsX4_forks (va_wsS RX4 66 yX4_sizeOf wsX4_sizeOf) := goodIn_app (goodIn_of _ (by decide +kernel)) ggX4_forks_X4_sizeOf
set_option maxRecDepth 20000 in
theorem ggX4_depth_X4_cut : GoodIn wsX4_depth wsX4_cut := goodIn_r _ [5] (by decide +kernel) (by decide +kernel)
set_option maxRecDepth 20000 in
theorem gX4_depth_X4_cut : GoodIn wsX4_depth (va_wsS RX4 40 yX4_cut wsX4_cut) := goodIn_app (goodIn_of _ (by decide +kernel)) ggX4_depth_X4_cut
set_option maxRecDepth 20000 in
theorem ggX4_depth_X4_branches : GoodIn wsX4_depth wsX4_branches := goodIn_r _ [9, 10, 11, 12, 13, 14, 15, 4, 16, 2, 3, 5, 17, 18, 19, 20, 21, 22, 23, 24, 25, 26] (by decide +kernel) (by decide +kernel)
set_option maxRecDepth 20000 in
theorem gX4_depth_X4_branches : GoodIn wsX4_depth (wsV RX4 63 RX4 yX4_branches wsX4_branches) := goodIn_app (goodIn_of _ (by decide +kernel)) ggX4_depth_X4_branches
set_option maxRecDepth 20000 in
theorem ggX4_open_X4_copy : GoodIn wsX4_open wsX4_copy := goodIn_r _ [9, 10, 11, 12, 13, 14, 15, 16, 17, 18, 19] (by decide +kernel) (by decide +kernel)
set_option maxRecDepth 20000 in
theorem gX4_open_X4_copy : GoodIn wsX4_open (wsV RX4 51 RX4 yX4_copy wsX4_copy) := goodIn_app (goodIn_of _ (by decide +kernel)) ggX4_open_X4_copy
set_option maxRecDepth 20000 in
theorem ggX4_close_X4_isOpen : GoodIn wsX4_close wsX4_isOpen := goodIn_r _ [7, 2, 8, 9, 10, 11, 12, 13, 14] (by decide +kernel) (by decide +kernel)
set_option maxRecDepth 20000 in
theorem gX4_close_X4_isOpen : GoodIn wsX4_close (wsV RX4 70 RX4 yX4_isOpen wsX4_isOpen) := goodIn_app (goodIn_of _ (by decide +kernel)) ggX4_close_X4_isOpen
set_option maxRecDepth 20000 in
theorem ggX4_seek_X4_isOpen : GoodIn wsX4_seek wsX4_isOpen := goodIn_r _ [8, 9, 24, 25, 26, 27, 28, 29, 30] (by decide +kernel) (by decide +kernel)
set_option maxRecDepth 20000 in
theorem gX4_seek_X4_isOpen : GoodIn wsX4_seek (wsV RX4 70 RX4 yX4_isOpen wsX4_isOpen) := goodIn_app (goodIn_of _ (by decide +kernel)) ggX4_seek_X4_isOpen
set_option maxRecDepth 20000 in
theorem ggX4_seek_X4_cut : GoodIn wsX4_seek wsX4_cut := goodIn_r _ [12] (by decide +kernel) (by decide +kernel)
set_option maxRecDepth 20000 in
theorem gX4_seek_X4_cut : GoodIn wsX4_seek (va_wsS RX4 40 yX4_cut wsX4_cut) := goodIn_app (goodIn_of _ (by decide +kernel)) ggX4_seek_X4_cut
set_option maxRecDepth 20000 in
theorem ggX4_seek_X4_place : GoodIn wsX4_seek wsX4_place := goodIn_r _ [16, 3, 17, 18, 19, 7, 20, 21, 22, 23, 24, 25, 26, 27, 28, 29, 30] (by decide +kernel) (by decide +kernel)
set_option maxRecDepth 20000 in
theorem gX4_seek_X4_place : GoodIn wsX4_seek (wsV RX4 44 RX4 yX4_place wsX4_place) := goodIn_app (goodIn_of _ (by decide +kernel)) ggX4_seek_X4_place
set_option maxRecDepth 20000 in
theorem ggX4_next_X4_isOpen : GoodIn wsX4_next wsX4_isOpen := goodIn_r _ [8, 9, 10, 11, 12, 13, 14, 15, 16] (by decide +kernel) (by decide +kernel)
set_option maxRecDepth 20000 in
theorem gX4_next_X4_isOpen : GoodIn wsX4_next (wsV RX4 70 RX4 yX4_isOpen wsX4_isOpen) := goodIn_app (goodIn_of _ (by decide +kernel)) ggX4_next_X4_isOpen
set_option maxRecDepth 20000 in
theorem ggX4_on_X4_isOpen : GoodIn wsX4_on wsX4_isOpen := goodIn_r _ [7, 8, 9, 10, 11, 12, 13, 14, 15] (by decide +kernel) (by decide +kernel)
set_option maxRecDepth 20000 in
theorem gX4_on_X4_isOpen : GoodIn wsX4_on (wsV RX4 70 RX4 yX4_isOpen wsX4_isOpen) := goodIn_app (goodIn_of _ (by decide +kernel)) ggX4_on_X4_isOpen
set_option maxRecDepth 20000 in
theorem ggX4_key_X4_on : GoodIn wsX4_key wsX4_on := goodIn_r _ [7, 8, 9, 10, 11, 12, 6, 13, 14, 15, 16, 17, 18, 19, 20, 21] (by decide +kernel) (by decide +kernel)
set_option maxRecDepth 20000 in
theorem gX4_key_X4_on : GoodIn wsX4_key (wsV RX4 74 RX4 yX4_on wsX4_on) := goodIn_app (goodIn_of _ (by decide +kernel)) ggX4_key_X4_on
set_option maxRecDepth 20000 in
theorem ggX4_length_X4_on : GoodIn wsX4_length wsX4_on := goodIn_r _ [7, 8, 9, 10, 11, 12, 6, 13, 14, 15, 16, 17, 18, 19, 20, 21] (by decide +kernel) (by decide +kernel)
set_option maxRecDepth 20000 in
theorem gX4_length_X4_on : GoodIn wsX4_length (wsV RX4 74 RX4 yX4_on wsX4_on) := goodIn_app (goodIn_of _ (by decide +kernel)) ggX4_length_X4_on
set_option maxRecDepth 20000 in
theorem ggX4_value_X4_on : GoodIn wsX4_value wsX4_on := goodIn_r _ [7, 8, 9, 10, 11, 12, 6, 13, 14, 15, 16, 17, 18, 19, 20, 21] (by decide +kernel) (by decide +kernel)
set_option maxRecDepth 20000 in
theorem gX4_value_X4_on : GoodIn wsX4_value (wsV RX4 74 RX4 yX4_on wsX4_on) := goodIn_app (goodIn_of _ (by decide +kernel)) ggX4_value_X4_on
