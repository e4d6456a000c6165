set_option maxRecDepth 20000 in
theorem gX6_machine_X4_restart : GoodIn wsX6_machine (wsV RX6 58 RX4 yX4_restart wsX4_restart) := goodIn_app (goodIn_of _ (by decide +kernel)) ggX6_machine_X4_restart
set_option maxRecDepth 20000 in
theorem ggX6_machine_X5_restart : GoodIn wsX6_machine wsX5_restart := goodIn_r _ [17, 18, 19, 35, 36, 37] rfl (by decide +kernel)
set_option maxRecDepth 20000 in
theorem gX6_machine_X5_restart : GoodIn wsX6_machine (wsV RX6 62 RX5 yX5_restart wsX5_restart) := goodIn_app (goodIn_of _ (by decide +kernel)) ggX6_machine_X5_restart
set_option maxRecDepth 20000 in
theorem ggX6_rule_X4_isControl : GoodIn wsX6_rule wsX4_isControl := goodIn_r _ [6, 7, 34, 35, 36, 37, 38, 39, 40, 41] rfl (by decide +kernel)
set_option maxRecDepth 20000 in
theorem gX6_rule_X4_isControl : GoodIn wsX6_rule (wsV RX6 65 RX4 yX4_isControl wsX4_isControl) := goodIn_app (goodIn_of _ (by decide +kernel)) ggX6_rule_X4_isControl
set_option maxRecDepth 20000 in
theorem ggX6_rule_X4_isSign : GoodIn wsX6_rule wsX4_isSign := goodIn_r _ [11, 12, 34, 35, 36, 37, 38, 39, 40, 41] rfl (by decide +kernel)
set_option maxRecDepth 20000 in
theorem gX6_rule_X4_isSign : GoodIn wsX6_rule (wsV RX6 69 RX4 yX4_isSign wsX4_isSign) := goodIn_app (goodIn_of _ (by decide +kernel)) ggX6_rule_X4_isSign
set_option maxRecDepth 20000 in
theorem ggX6_rule_X6_headOf : GoodIn wsX6_rule wsX6_headOf := goodIn_r _ [16] rfl (by decide +kernel)
set_option maxRecDepth 20000 in
theorem gX6_rule_X6_headOf : GoodIn wsX6_rule (va_wsS RX6 72 yX6_headOf wsX6_headOf) := goodIn_app (goodIn_of _ (by decide +kernel)) ggX6_rule_X6_headOf
set_option maxRecDepth 20000 in
theorem ggX6_rule_X4_add : GoodIn wsX6_rule wsX4_add := goodIn_r _ [20, 21, 22, 23, 24, 25, 26, 34, 35, 36, 37, 38, 39, 40, 41] rfl (by decide +kernel)
set_option maxRecDepth 20000 in
theorem gX6_rule_X4_add : GoodIn wsX6_rule (wsV RX6 76 RX4 yX4_add wsX4_add) := goodIn_app (goodIn_of _ (by decide +kernel)) ggX6_rule_X4_add
set_option maxRecDepth 20000 in
theorem ggX6_unrule_X4_dropNewest : GoodIn wsX6_unrule wsX4_dropNewest := goodIn_r _ [6, 7, 8, 16, 17, 18, 19, 20, 21, 22, 23] rfl (by decide +kernel)
set_option maxRecDepth 20000 in
theorem gX6_unrule_X4_dropNewest : GoodIn wsX6_unrule (wsV RX6 80 RX4 yX4_dropNewest wsX4_dropNewest) := goodIn_app (goodIn_of _ (by decide +kernel)) ggX6_unrule_X4_dropNewest
set_option maxRecDepth 20000 in
theorem ggX6_stand_X4_isControl : GoodIn wsX6_stand wsX4_isControl := goodIn_r _ [7, 8, 26, 27, 28, 29, 30, 31, 32, 33] rfl (by decide +kernel)
set_option maxRecDepth 20000 in
theorem gX6_stand_X4_isControl : GoodIn wsX6_stand (wsV RX6 65 RX4 yX4_isControl wsX4_isControl) := goodIn_app (goodIn_of _ (by decide +kernel)) ggX6_stand_X4_isControl
set_option maxRecDepth 20000 in
theorem ggX6_stand_X5_restart : GoodIn wsX6_stand wsX5_restart := goodIn_r _ [13, 14, 15, 23, 24, 25] rfl (by decide +kernel)
set_option maxRecDepth 20000 in
theorem gX6_stand_X5_restart : GoodIn wsX6_stand (wsV RX6 62 RX5 yX5_restart wsX5_restart) := goodIn_app (goodIn_of _ (by decide +kernel)) ggX6_stand_X5_restart
set_option maxRecDepth 20000 in
theorem ggX6_push_X4_isSign : GoodIn wsX6_push wsX4_isSign := goodIn_r _ [7, 8, 26, 27, 28, 29, 30, 31, 32, 33] rfl (by decide +kernel)
set_option maxRecDepth 20000 in
theorem gX6_push_X4_isSign : GoodIn wsX6_push (wsV RX6 69 RX4 yX4_isSign wsX4_isSign) := goodIn_app (goodIn_of _ (by decide +kernel)) ggX6_push_X4_isSign
set_option maxRecDepth 20000 in
theorem ggX6_push_X5_cover : GoodIn wsX6_push wsX5_cover := goodIn_r _ [13, 14, 15, 23, 24, 25] rfl (by decide +kernel)
set_option maxRecDepth 20000 in
theorem gX6_push_X5_cover : GoodIn wsX6_push (wsV RX6 87 RX5 yX5_cover wsX5_cover) := goodIn_app (goodIn_of _ (by decide +kernel)) ggX6_push_X5_cover
set_option maxRecDepth 20000 in
theorem ggX6_go_X5_head : GoodIn wsX6_go wsX5_head := goodIn_r _ [7, 8, 9, 10, 11, 12, 13, 41, 42, 43] rfl (by decide +kernel)
set_option maxRecDepth 20000 in
theorem gX6_go_X5_head : GoodIn wsX6_go (wsV RX6 100 RX5 yX5_head wsX5_head) := goodIn_app (goodIn_of _ (by decide +kernel)) ggX6_go_X5_head
set_option maxRecDepth 20000 in
theorem ggX6_go_X5_hasRoom : GoodIn wsX6_go wsX5_hasRoom := goodIn_r _ [17, 8, 33, 34, 35, 36, 37, 38, 39, 40, 41, 42, 43] rfl (by decide +kernel)
set_option maxRecDepth 20000 in
theorem gX6_go_X5_hasRoom : GoodIn wsX6_go (wsV RX6 102 RX5 yX5_hasRoom wsX5_hasRoom) := goodIn_app (goodIn_of _ (by decide +kernel)) ggX6_go_X5_hasRoom
set_option maxRecDepth 20000 in
theorem ggX6_go_X5_change : GoodIn wsX6_go wsX5_change := goodIn_r _ [21, 8, 9, 22, 23, 24, 6, 25, 10, 41, 42, 43, 33, 34, 35, 36, 37, 38, 39, 40] rfl (by decide +kernel)
set_option maxRecDepth 20000 in
theorem gX6_go_X5_change : GoodIn wsX6_go (wsV RX6 106 RX5 yX5_change wsX5_change) := goodIn_app (goodIn_of _ (by decide +kernel)) ggX6_go_X5_change
set_option maxRecDepth 20000 in
theorem ggX6_set_X2_restart : GoodIn wsX6_set wsX2_restart := goodIn_r _ [7, 8, 9, 10, 11, 12, 13, 14, 15, 23, 24, 25, 26, 27, 28] rfl (by decide +kernel)
set_option maxRecDepth 20000 in
theorem gX6_set_X2_restart : GoodIn wsX6_set (wsV RX6 110 RX2 yX2_restart wsX2_restart) := goodIn_app (goodIn_of _ (by decide +kernel)) ggX6_set_X2_restart
set_option maxRecDepth 20000 in
theorem ggX6_link_X6_isSet : GoodIn wsX6_link wsX6_isSet := goodIn_r _ [7, 8, 35, 36, 37, 38, 39, 40, 41] rfl (by decide +kernel)
set_option maxRecDepth 20000 in
theorem gX6_link_X6_isSet : GoodIn wsX6_link (wsV RX6 112 RX6 yX6_isSet wsX6_isSet) := goodIn_app (goodIn_of _ (by decide +kernel)) ggX6_link_X6_isSet
set_option maxRecDepth 20000 in
theorem ggX6_link_X6_isPlace : GoodIn wsX6_link wsX6_isPlace := goodIn_r _ [12, 1, 13, 14, 15, 16, 17, 18, 35, 36, 37, 38, 39, 40, 41, 48, 49, 50, 51, 52, 53, 54, 55] rfl (by decide +kernel)
set_option maxRecDepth 20000 in
theorem gX6_link_X6_isPlace : GoodIn wsX6_link (wsV RX6 115 RX6 yX6_isPlace wsX6_isPlace) := goodIn_app (goodIn_of _ (by decide +kernel)) ggX6_link_X6_isPlace
set_option maxRecDepth 20000 in
theorem ggX6_link_X4_isSign : GoodIn wsX6_link wsX4_isSign := goodIn_r _ [22, 23, 48, 49, 50, 51, 52, 53, 54, 55] rfl (by decide +kernel)
set_option maxRecDepth 20000 in
theorem gX6_link_X4_isSign : GoodIn wsX6_link (wsV RX6 69 RX4 yX4_isSign wsX4_isSign) := goodIn_app (goodIn_of _ (by decide +kernel)) ggX6_link_X4_isSign
set_option maxRecDepth 20000 in
theorem ggX6_link_X6_placeOf : GoodIn wsX6_link wsX6_placeOf := goodIn_r _ [26] rfl (by decide +kernel)
set_option maxRecDepth 20000 in
theorem gX6_link_X6_placeOf : GoodIn wsX6_link (va_wsS RX6 122 yX6_placeOf wsX6_placeOf) := goodIn_app (goodIn_of _ (by decide +kernel)) ggX6_link_X6_placeOf
set_option maxRecDepth 20000 in
theorem ggX6_link_X2_join : GoodIn wsX6_link wsX2_join := goodIn_r _ [31, 32, 33, 34, 42, 43, 44, 45, 46, 47] rfl (by decide +kernel)
set_option maxRecDepth 20000 in
theorem gX6_link_X2_join : GoodIn wsX6_link (wsV RX6 125 RX2 yX2_join wsX2_join) := goodIn_app (goodIn_of _ (by decide +kernel)) ggX6_link_X2_join
set_option maxRecDepth 20000 in
theorem ggX6_last_X6_isSet : GoodIn wsX6_last wsX6_isSet := goodIn_r _ [6, 7, 34, 35, 36, 37, 38, 39, 40] rfl (by decide +kernel)
set_option maxRecDepth 20000 in
theorem gX6_last_X6_isSet : GoodIn wsX6_last (wsV RX6 112 RX6 yX6_isSet wsX6_isSet) := goodIn_app (goodIn_of _ (by decide +kernel)) ggX6_last_X6_isSet
set_option maxRecDepth 20000 in
theorem ggX6_last_X6_isPlace : GoodIn wsX6_last wsX6_isPlace := goodIn_r _ [11, 12, 13, 14, 15, 16, 17, 18, 34, 35, 36, 37, 38, 39, 40, 41, 42, 43, 44, 45, 46, 47, 48] rfl (by decide +kernel)
set_option maxRecDepth 20000 in
theorem gX6_last_X6_isPlace : GoodIn wsX6_last (wsV RX6 115 RX6 yX6_isPlace wsX6_isPlace) := goodIn_app (goodIn_of _ (by decide +kernel)) ggX6_last_X6_isPlace
set_option maxRecDepth 20000 in
theorem ggX6_last_X6_placeOf : GoodIn wsX6_last wsX6_placeOf := goodIn_r _ [21] rfl (by decide +kernel)
set_option maxRecDepth 20000 in
theorem gX6_last_X6_placeOf : GoodIn wsX6_last (va_wsS RX6 122 yX6_placeOf wsX6_placeOf) := goodIn_app (goodIn_of _ (by decide +kernel)) ggX6_last_X6_placeOf
set_option maxRecDepth 20000 in
theorem ggX6_last_X2_mark : GoodIn wsX6_last wsX2_mark := goodIn_r _ [26, 27, 28, 29, 30, 25, 31, 32, 5, 33, 49, 50, 51, 52, 53, 54] rfl (by decide +kernel)
set_option maxRecDepth 20000 in
theorem gX6_last_X2_mark : GoodIn wsX6_last (wsV RX6 129 RX2 yX2_mark wsX2_mark) := goodIn_app (goodIn_of _ (by decide +kernel)) ggX6_last_X2_mark
set_option maxRecDepth 20000 in
theorem ggX6_in_X6_isSet : GoodIn wsX6_in wsX6_isSet := goodIn_r _ [7, 8, 22, 23, 24, 25, 26, 27, 28] rfl (by decide +kernel)
set_option maxRecDepth 20000 in
theorem gX6_in_X6_isSet : GoodIn wsX6_in (wsV RX6 112 RX6 yX6_isSet wsX6_isSet) := goodIn_app (goodIn_of _ (by decide +kernel)) ggX6_in_X6_isSet
set_option maxRecDepth 20000 in
theorem ggX6_in_X2_holds : GoodIn wsX6_in wsX2_holds := goodIn_r _ [13, 14, 15, 16, 17, 12, 18, 19, 20, 6, 21, 29, 30, 31, 32, 33, 34, 35, 36, 37] rfl (by decide +kernel)
set_option maxRecDepth 20000 in
theorem gX6_in_X2_holds : GoodIn wsX6_in (wsV RX6 133 RX2 yX2_holds wsX2_holds) := goodIn_app (goodIn_of _ (by decide +kernel)) ggX6_in_X2_holds
set_option maxRecDepth 20000 in
theorem ggX6_far_X6_isSet : GoodIn wsX6_far wsX6_isSet := goodIn_r _ [6, 7, 113, 114, 115, 116, 117, 118, 119] rfl (by decide +kernel)
set_option maxRecDepth 20000 in
theorem gX6_far_X6_isSet : GoodIn wsX6_far (wsV RX6 112 RX6 yX6_isSet wsX6_isSet) := goodIn_app (goodIn_of _ (by decide +kernel)) ggX6_far_X6_isSet
set_option maxRecDepth 20000 in
theorem ggX6_far_X6_distance : GoodIn wsX6_far wsX6_distance := goodIn_r _ [11, 12, 13, 14, 15, 16, 17, 18, 19, 20, 21, 22, 23, 24, 25, 26, 27, 28, 29, 30, 31, 32, 33, 34, 35, 36, 37, 5, 38, 39, 40, 41, 42, 43, 44, 45, 46, 47, 48, 49, 50, 51, 52, 53, 54, 55, 56, 57, 58, 59, 60, 61, 62, 63, 64, 65, 66, 67, 68, 69, 70, 71, 72, 73, 74, 75, 76, 77, 78, 79, 80, 81, 82, 83, 84, 85, 86, 87, 88, 89, 90, 91, 92, 93, 94, 95, 96, 97, 98, 99, 100, 101, 102, 103, 104, 105, 106, 107, 108, 113, 114, 115, 116, 117, 118, 119, 120, 121, 122, 123, 124, 125, 126, 127, 128, 129, 130, 131, 132, 133, 134, 135, 136, 137, 138, 139] rfl (by decide +kernel)
set_option maxRecDepth 20000 in
theorem gX6_far_X6_distance : GoodIn wsX6_far (wsV RX6 139 RX6 yX6_distance wsX6_distance) := goodIn_app (goodIn_of _ (by decide +kernel)) ggX6_far_X6_distance
set_option maxRecDepth 20000 in
theorem ggX6_far_X6_told : GoodIn wsX6_far wsX6_told := goodIn_r _ [111, 41, 112] rfl (by decide +kernel)
set_option maxRecDepth 20000 in
theorem gX6_far_X6_told : GoodIn wsX6_far (va_wsS RX6 143 yX6_told wsX6_told) := goodIn_app (goodIn_of _ (by decide +kernel)) ggX6_far_X6_told
set_option maxRecDepth 20000 in
theorem ggX6_step_X6_isSet : GoodIn wsX6_step wsX6_isSet := goodIn_r _ [8, 9, 136, 137, 138, 139, 140, 141, 142] rfl (by decide +kernel)
set_option maxRecDepth 20000 in
theorem gX6_step_X6_isSet : GoodIn wsX6_step (wsV RX6 112 RX6 yX6_isSet wsX6_isSet) := goodIn_app (goodIn_of _ (by decide +kernel)) ggX6_step_X6_isSet
set_option maxRecDepth 20000 in
theorem ggX6_step_X6_distance : GoodIn wsX6_step wsX6_distance := goodIn_r _ [13, 14, 15, 3, 16, 2, 17, 18, 19, 20, 21, 22, 23, 24, 25, 26, 27, 28, 29, 30, 31, 32, 33, 34, 35, 36, 37, 7, 38, 39, 40, 41, 1, 42, 43, 44, 45, 46, 47, 48, 49, 50, 51, 52, 53, 54, 55, 56, 57, 58, 59, 60, 61, 62, 63, 64, 65, 66, 67, 68, 69, 70, 71, 72, 73, 74, 75, 76, 77, 78, 79, 80, 81, 82, 83, 84, 85, 86, 87, 88, 89, 90, 91, 92, 93, 94, 95, 96, 97, 98, 99, 100, 101, 102, 103, 104, 105, 106, 107, 136, 137, 138, 139, 140, 141, 142, 143, 144, 145, 146, 147, 148, 149, 150, 151, 152, 153, 154, 155, 156, 157, 158, 159, 160, 161, 162] rfl (by decide +kernel)
set_option maxRecDepth 20000 in
theorem gX6_step_X6_distance : GoodIn wsX6_step (wsV RX6 139 RX6 yX6_distance wsX6_distance) := goodIn_app (goodIn_of _ (by decide +kernel)) ggX6_step_X6_distance
set_option maxRecDepth 20000 in
theorem ggX6_step_X6_nearing : GoodIn wsX6_step wsX6_nearing := goodIn_r _ [111, 2, 3, 16, 14, 112, 113, 114, 115, 116, 117, 118, 119, 37, 7, 38, 120, 121, 122, 89, 123, 91, 92, 106, 43, 44, 45, 102, 103, 104, 105, 107, 83, 84, 53, 85, 57, 62, 63, 64, 65, 66, 67, 68, 69, 39, 40, 41, 1, 42, 136, 137, 138, 139, 140, 141, 142, 149, 150, 151, 152, 153, 154, 155, 156, 144, 145, 146, 143, 157, 158, 159, 160, 161, 162] rfl (by decide +kernel)
set_option maxRecDepth 20000 in
theorem gX6_step_X6_nearing : GoodIn wsX6_step (wsV RX6 149 RX6 yX6_nearing wsX6_nearing) := goodIn_app (goodIn_of _ (by decide +kernel)) ggX6_step_X6_nearing
set_option maxRecDepth 20000 in
theorem ggX6_step_X5_hasRoom : GoodIn wsX6_step wsX5_hasRoom := goodIn_r _ [127, 117, 149, 150, 151, 152, 153, 154, 155, 156, 144, 145, 146] rfl (by decide +kernel)
set_option maxRecDepth 20000 in
theorem gX6_step_X5_hasRoom : GoodIn wsX6_step (wsV RX6 102 RX5 yX5_hasRoom wsX5_hasRoom) := goodIn_app (goodIn_of _ (by decide +kernel)) ggX6_step_X5_hasRoom
set_option maxRecDepth 20000 in
theorem ggX6_step_X5_change : GoodIn wsX6_step wsX5_change := goodIn_r _ [131, 117, 118, 132, 133, 134, 115, 135, 119, 144, 145, 146, 149, 150, 151, 152, 153, 154, 155, 156] rfl (by decide +kernel)
set_option maxRecDepth 20000 in
theorem gX6_step_X5_change : GoodIn wsX6_step (wsV RX6 106 RX5 yX5_change wsX5_change) := goodIn_app (goodIn_of _ (by decide +kernel)) ggX6_step_X5_change
set_option maxRecDepth 20000 in
theorem ggX6_run_X6_isSet : GoodIn wsX6_run wsX6_isSet := goodIn_r _ [10, 11, 136, 137, 138, 139, 140, 141, 142] rfl (by decide +kernel)
set_option maxRecDepth 20000 in
theorem gX6_run_X6_isSet : GoodIn wsX6_run (wsV RX6 112 RX6 yX6_isSet wsX6_isSet) := goodIn_app (goodIn_of _ (by decide +kernel)) ggX6_run_X6_isSet
set_option maxRecDepth 20000 in
theorem ggX6_run_X6_distance : GoodIn wsX6_run wsX6_distance := goodIn_r _ [15, 5, 16, 3, 4, 2, 17, 18, 19, 20, 21, 22, 23, 24, 25, 26, 27, 28, 29, 30, 31, 32, 33, 34, 35, 36, 37, 9, 38, 39, 40, 41, 1, 42, 43, 44, 45, 46, 47, 48, 49, 50, 51, 52, 53, 54, 55, 56, 57, 58, 59, 60, 61, 62, 63, 64, 65, 66, 67, 68, 69, 70, 71, 72, 73, 74, 75, 76, 77, 78, 79, 80, 81, 82, 83, 84, 85, 86, 87, 88, 89, 90, 91, 92, 93, 94, 95, 96, 97, 98, 99, 100, 101, 102, 103, 104, 105, 106, 107, 136, 137, 138, 139, 140, 141, 142, 146, 143, 144, 145, 147, 148, 149, 150, 151, 152, 153, 154, 155, 156, 157, 158, 159, 160, 161, 162] rfl (by decide +kernel)
set_option maxRecDepth 20000 in
theorem gX6_run_X6_distance : GoodIn wsX6_run (wsV RX6 139 RX6 yX6_distance wsX6_distance) := goodIn_app (goodIn_of _ (by decide +kernel)) ggX6_run_X6_distance
set_option maxRecDepth 20000 in
theorem ggX6_run_X6_nearing : GoodIn wsX6_run wsX6_nearing := goodIn_r _ [111, 2, 3, 4, 5, 112, 113, 114, 115, 116, 117, 118, 119, 37, 9, 38, 120, 121, 122, 89, 123, 91, 92, 106, 43, 44, 45, 102, 103, 104, 105, 107, 83, 84, 53, 85, 57, 62, 63, 64, 65, 66, 67, 68, 69, 39, 40, 41, 1, 42, 136, 137, 138, 139, 140, 141, 142, 149, 150, 151, 152, 153, 154, 155, 156, 143, 144, 145, 146, 157, 158, 159, 160, 161, 162] rfl (by decide +kernel)
set_option maxRecDepth 20000 in
theorem gX6_run_X6_nearing : GoodIn wsX6_run (wsV RX6 149 RX6 yX6_nearing wsX6_nearing) := goodIn_app (goodIn_of _ (by decide +kernel)) ggX6_run_X6_nearing
set_option maxRecDepth 20000 in
theorem ggX6_run_X5_hasRoom : GoodIn wsX6_run wsX5_hasRoom := goodIn_r _ [127, 117, 149, 150, 151, 152, 153, 154, 155, 156, 143, 144, 145] rfl (by decide +kernel)
set_option maxRecDepth 20000 in
theorem gX6_run_X5_hasRoom : GoodIn wsX6_run (wsV RX6 102 RX5 yX5_hasRoom wsX5_hasRoom) := goodIn_app (goodIn_of _ (by decide +kernel)) ggX6_run_X5_hasRoom
set_option maxRecDepth 20000 in
theorem ggX6_run_X5_change : GoodIn wsX6_run wsX5_change := goodIn_r _ [131, 117, 118, 132, 133, 134, 115, 135, 119, 143, 144, 145, 149, 150, 151, 152, 153, 154, 155, 156] rfl (by decide +kernel)
set_option maxRecDepth 20000 in
theorem gX6_run_X5_change : GoodIn wsX6_run (wsV RX6 106 RX5 yX5_change wsX5_change) := goodIn_app (goodIn_of _ (by decide +kernel)) ggX6_run_X5_change
set_option maxRecDepth 20000 in
theorem ggX6_run_X1_build : GoodIn wsX6_run wsX1_build := goodIn_r _ [101, 91, 102, 103, 104, 89, 105, 92, 106, 43, 44, 45, 107, 83, 84, 53, 85, 57, 62, 37, 9, 38, 63, 64, 65, 66, 67, 68, 69, 39, 40, 41, 1, 42, 143, 144, 145, 146, 157, 158, 159, 160, 161, 162] rfl (by decide +kernel)
set_option maxRecDepth 20000 in
theorem gX6_run_X1_build : GoodIn wsX6_run (wsV RX6 153 RX1 yX1_build wsX1_build) := goodIn_app (goodIn_of _ (by decide +kernel)) ggX6_run_X1_build
set_option maxRecDepth 20000 in
theorem ggX6_pop_X4_isControl : GoodIn wsX6_pop wsX4_isControl := goodIn_r _ [8, 9, 64, 65, 66, 67, 68, 69, 70, 71] rfl (by decide +kernel)
set_option maxRecDepth 20000 in
theorem gX6_pop_X4_isControl : GoodIn wsX6_pop (wsV RX6 65 RX4 yX4_isControl wsX4_isControl) := goodIn_app (goodIn_of _ (by decide +kernel)) ggX6_pop_X4_isControl
set_option maxRecDepth 20000 in
theorem ggX6_pop_X4_isSign : GoodIn wsX6_pop wsX4_isSign := goodIn_r _ [13, 14, 64, 65, 66, 67, 68, 69, 70, 71] rfl (by decide +kernel)
set_option maxRecDepth 20000 in
theorem gX6_pop_X4_isSign : GoodIn wsX6_pop (wsV RX6 69 RX4 yX4_isSign wsX4_isSign) := goodIn_app (goodIn_of _ (by decide +kernel)) ggX6_pop_X4_isSign
set_option maxRecDepth 20000 in
theorem ggX6_pop_X3_renew : GoodIn wsX6_pop wsX3_renew := goodIn_r _ [19, 20, 21, 22, 23, 24, 25, 26, 27, 28, 29, 18, 30, 31, 32, 33, 34, 35, 36, 37, 38, 39, 40, 41, 42, 43, 44, 45, 46, 47, 48, 49, 62, 63, 64, 65, 66, 67, 68, 69, 70, 71] rfl (by decide +kernel)
set_option maxRecDepth 20000 in
theorem gX6_pop_X3_renew : GoodIn wsX6_pop (wsV RX6 157 RX3 yX3_renew wsX3_renew) := goodIn_app (goodIn_of _ (by decide +kernel)) ggX6_pop_X3_renew
set_option maxRecDepth 20000 in
theorem ggX6_pop_X6_headOf : GoodIn wsX6_pop wsX6_headOf := goodIn_r _ [37] rfl (by decide +kernel)
set_option maxRecDepth 20000 in
theorem gX6_pop_X6_headOf : GoodIn wsX6_pop (va_wsS RX6 72 yX6_headOf wsX6_headOf) := goodIn_app (goodIn_of _ (by decide +kernel)) ggX6_pop_X6_headOf
set_option maxRecDepth 20000 in
theorem ggX6_pop_X6_told : GoodIn wsX6_pop wsX6_told := goodIn_r _ [53, 40, 54] rfl (by decide +kernel)
set_option maxRecDepth 20000 in
theorem gX6_pop_X6_told : GoodIn wsX6_pop (va_wsS RX6 143 yX6_told wsX6_told) := goodIn_app (goodIn_of _ (by decide +kernel)) ggX6_pop_X6_told
set_option maxRecDepth 20000 in
theorem ggX6_endless_X3_renew : GoodIn wsX6_endless wsX3_renew := goodIn_r _ [9, 10, 11, 12, 13, 14, 15, 16, 17, 18, 19, 8, 20, 21, 22, 23, 24, 25, 26, 27, 28, 29, 30, 31, 32, 33, 34, 35, 36, 37, 38, 39, 107, 108, 109, 110, 111, 112, 113, 114, 115, 116] rfl (by decide +kernel)
set_option maxRecDepth 20000 in
theorem gX6_endless_X3_renew : GoodIn wsX6_endless (wsV RX6 157 RX3 yX3_renew wsX3_renew) := goodIn_app (goodIn_of _ (by decide +kernel)) ggX6_endless_X3_renew
set_option maxRecDepth 20000 in
theorem ggX6_endless_X0_renew : GoodIn wsX6_endless wsX0_renew := goodIn_r _ [44, 45, 46, 47, 48, 43, 49, 50, 51, 52, 53, 54, 55, 56, 57, 58, 15, 59, 25, 26, 27, 60, 61, 62, 63, 64, 65, 66, 67, 68, 69, 70, 71, 72, 73, 74, 75, 76, 77, 78, 79, 80, 81, 82, 83, 84, 85, 86, 34, 87, 117, 118, 119, 120, 121, 122, 109, 110, 111, 112, 113, 114, 115, 116, 107, 108] rfl (by decide +kernel)
set_option maxRecDepth 20000 in
theorem gX6_endless_X0_renew : GoodIn wsX6_endless (wsV RX6 165 RX0 yX0_renew wsX0_renew) := goodIn_app (goodIn_of _ (by decide +kernel)) ggX6_endless_X0_renew
set_option maxRecDepth 20000 in
theorem ggX6_endless_X0_goOnFrom : GoodIn wsX6_endless wsX0_goOnFrom := goodIn_r _ [91, 70, 92, 93, 94, 43, 95, 64, 26, 65, 25, 27, 96, 97, 98, 99, 50, 123, 124, 125, 117, 118, 119, 120, 121, 122] rfl (by decide +kernel)
set_option maxRecDepth 20000 in
theorem gX6_endless_X0_goOnFrom : GoodIn wsX6_endless (wsV RX6 168 RX0 yX0_goOnFrom wsX0_goOnFrom) := goodIn_app (goodIn_of _ (by decide +kernel)) ggX6_endless_X0_goOnFrom
set_option maxRecDepth 20000 in
theorem ggX6_high_X3_renew : GoodIn wsX6_high wsX3_renew := goodIn_r _ [9, 10, 11, 12, 13, 14, 15, 16, 17, 18, 19, 8, 20, 21, 22, 23, 24, 25, 26, 27, 28, 29, 30, 31, 32, 33, 34, 35, 36, 37, 38, 39, 107, 108, 109, 110, 111, 112, 113, 114, 115, 116] rfl (by decide +kernel)
set_option maxRecDepth 20000 in
theorem gX6_high_X3_renew : GoodIn wsX6_high (wsV RX6 157 RX3 yX3_renew wsX3_renew) := goodIn_app (goodIn_of _ (by decide +kernel)) ggX6_high_X3_renew
set_option maxRecDepth 20000 in
theorem ggX6_high_X0_renew : GoodIn wsX6_high wsX0_renew := goodIn_r _ [44, 45, 46, 47, 48, 43, 49, 50, 51, 52, 53, 54, 55, 56, 57, 58, 15, 59, 25, 26, 27, 60, 61, 62, 63, 64, 65, 66, 67, 68, 69, 70, 71, 72, 73, 74, 75, 76, 77, 78, 79, 80, 81, 82, 83, 84, 85, 86, 34, 87, 117, 118, 119, 120, 121, 122, 109, 110, 111, 112, 113, 114, 115, 116, 107, 108] rfl (by decide +kernel)
set_option maxRecDepth 20000 in
theorem gX6_high_X0_renew : GoodIn wsX6_high (wsV RX6 165 RX0 yX0_renew wsX0_renew) := goodIn_app (goodIn_of _ (by decide +kernel)) ggX6_high_X0_renew
set_option maxRecDepth 20000 in
theorem ggX6_high_X0_topFrom : GoodIn wsX6_high wsX0_topFrom := goodIn_r _ [91, 71, 80, 85, 86, 34, 87, 92, 93, 94, 43, 95, 64, 26, 65, 25, 27, 96, 97, 98, 99, 50, 123, 124, 125, 117, 118, 119, 120, 121, 122] rfl (by decide +kernel)
set_option maxRecDepth 20000 in
theorem gX6_high_X0_topFrom : GoodIn wsX6_high (wsV RX6 171 RX0 yX0_topFrom wsX0_topFrom) := goodIn_app (goodIn_of _ (by decide +kernel)) ggX6_high_X0_topFrom
set_option maxRecDepth 20000 in
theorem ggX6_count_X5_head : GoodIn wsX6_count wsX5_head := goodIn_r _ [8, 9, 10, 11, 12, 13, 14, 37, 38, 39] rfl (by decide +kernel)
set_option maxRecDepth 20000 in
theorem gX6_count_X5_head : GoodIn wsX6_count (wsV RX6 100 RX5 yX5_head wsX5_head) := goodIn_app (goodIn_of _ (by decide +kernel)) ggX6_count_X5_head
set_option maxRecDepth 20000 in
theorem ggX6_count_X4_matching : GoodIn wsX6_count wsX4_matching := goodIn_r _ [19, 20, 21, 29, 30, 31, 32, 33, 34, 35, 36] rfl (by decide +kernel)
set_option maxRecDepth 20000 in
theorem gX6_count_X4_matching : GoodIn wsX6_count (wsV RX6 181 RX4 yX4_matching wsX4_matching) := goodIn_app (goodIn_of _ (by decide +kernel)) ggX6_count_X4_matching
set_option maxRecDepth 20000 in
theorem ggX6_isPlace_X4_isControl : GoodIn wsX6_isPlace wsX4_isControl := goodIn_r _ [6, 7, 15, 16, 17, 18, 19, 20, 21, 22] rfl (by decide +kernel)
set_option maxRecDepth 20000 in
theorem gX6_isPlace_X4_isControl : GoodIn wsX6_isPlace (wsV RX6 65 RX4 yX4_isControl wsX4_isControl) := goodIn_app (goodIn_of _ (by decide +kernel)) ggX6_isPlace_X4_isControl
set_option maxRecDepth 20000 in
theorem ggX6_distance_X3_renew : GoodIn wsX6_distance wsX3_renew := goodIn_r _ [10, 11, 12, 13, 14, 15, 16, 17, 18, 19, 20, 9, 21, 22, 23, 24, 25, 26, 27, 28, 29, 30, 31, 32, 33, 34, 35, 36, 37, 38, 39, 40, 110, 111, 112, 113, 114, 115, 116, 117, 118, 119] rfl (by decide +kernel)
set_option maxRecDepth 20000 in
theorem gX6_distance_X3_renew : GoodIn wsX6_distance (wsV RX6 157 RX3 yX3_renew wsX3_renew) := goodIn_app (goodIn_of _ (by decide +kernel)) ggX6_distance_X3_renew
set_option maxRecDepth 20000 in
theorem ggX6_distance_X2_renew : GoodIn wsX6_distance wsX2_renew := goodIn_r _ [45, 46, 47, 48, 49, 50, 51, 44, 52, 53, 54, 55, 56, 57, 58, 59, 27, 60, 61, 62, 63, 64, 26, 28, 29, 30, 31, 32, 33, 34, 35, 36, 65, 66, 67, 68, 69, 70, 71, 72, 73, 74, 75, 76, 120, 121, 122, 123, 124, 125, 112, 113, 114, 115, 116, 117, 118, 119, 110, 111] rfl (by decide +kernel)
set_option maxRecDepth 20000 in
theorem gX6_distance_X2_renew : GoodIn wsX6_distance (wsV RX6 195 RX2 yX2_renew wsX2_renew) := goodIn_app (goodIn_of _ (by decide +kernel)) ggX6_distance_X2_renew
set_option maxRecDepth 20000 in
theorem ggX6_distance_X1_start : GoodIn wsX6_distance wsX1_start := goodIn_r _ [81, 82, 83, 84, 85, 86, 44, 87, 88, 59, 27, 60, 106, 120, 121, 122, 123, 124, 125] rfl (by decide +kernel)
set_option maxRecDepth 20000 in
theorem gX6_distance_X1_start : GoodIn wsX6_distance (wsV RX6 196 RX1 yX1_start wsX1_start) := goodIn_app (goodIn_of _ (by decide +kernel)) ggX6_distance_X1_start
set_option maxRecDepth 20000 in
theorem ggX6_distance_X1_build : GoodIn wsX6_distance wsX1_build := goodIn_r _ [92, 82, 93, 94, 95, 80, 96, 83, 97, 34, 35, 36, 98, 74, 75, 44, 76, 48, 53, 26, 27, 28, 54, 55, 56, 57, 58, 59, 60, 29, 30, 31, 32, 33, 107, 108, 109, 106, 120, 121, 122, 123, 124, 125] rfl (by decide +kernel)
set_option maxRecDepth 20000 in
theorem gX6_distance_X1_build : GoodIn wsX6_distance (wsV RX6 153 RX1 yX1_build wsX1_build) := goodIn_app (goodIn_of _ (by decide +kernel)) ggX6_distance_X1_build
set_option maxRecDepth 20000 in
theorem ggX6_nearing_X5_head : GoodIn wsX6_nearing wsX5_head := goodIn_r _ [9, 10, 11, 12, 13, 14, 15, 65, 66, 67] rfl (by decide +kernel)
set_option maxRecDepth 20000 in
theorem gX6_nearing_X5_head : GoodIn wsX6_nearing (wsV RX6 100 RX5 yX5_head wsX5_head) := goodIn_app (goodIn_of _ (by decide +kernel)) ggX6_nearing_X5_head
set_option maxRecDepth 20000 in
theorem ggX6_nearing_X1_after : GoodIn wsX6_nearing wsX1_after := goodIn_r _ [20, 21, 22, 23, 24, 25, 26, 27, 28, 29, 19, 30, 31, 32, 33, 34, 35, 36, 37, 13, 14, 15, 38, 39, 40, 41, 42, 43, 44, 45, 46, 47, 48, 49, 57, 58, 59, 60, 61, 62, 63, 64, 68, 69, 70, 71, 72, 73, 74] rfl (by decide +kernel)
set_option maxRecDepth 20000 in
theorem gX6_nearing_X1_after : GoodIn wsX6_nearing (wsV RX6 203 RX1 yX1_after wsX1_after) := goodIn_app (goodIn_of _ (by decide +kernel)) ggX6_nearing_X1_after
set_option maxRecDepth 20000 in
theorem ggX7_isControl_X7_isIn : GoodIn wsX7_isControl wsX7_isIn := goodIn_r _ [5] rfl (by decide +kernel)
set_option maxRecDepth 20000 in
theorem gX7_isControl_X7_isIn : GoodIn wsX7_isControl (va_wsS RX7 73 yX7_isIn wsX7_isIn) := goodIn_app (goodIn_of _ (by decide +kernel)) ggX7_isControl_X7_isIn
set_option maxRecDepth 20000 in
theorem ggX7_isSign_X7_isIn : GoodIn wsX7_isSign wsX7_isIn := goodIn_r _ [5] rfl (by decide +kernel)
set_option maxRecDepth 20000 in
theorem gX7_isSign_X7_isIn : GoodIn wsX7_isSign (va_wsS RX7 73 yX7_isIn wsX7_isIn) := goodIn_app (goodIn_of _ (by decide +kernel)) ggX7_isSign_X7_isIn
set_option maxRecDepth 20000 in
theorem ggX7_machine_X7_isIn : GoodIn wsX7_machine wsX7_isIn := goodIn_r _ [11] rfl (by decide +kernel)
set_option maxRecDepth 20000 in
theorem gX7_machine_X7_isIn : GoodIn wsX7_machine (va_wsS RX7 73 yX7_isIn wsX7_isIn) := goodIn_app (goodIn_of _ (by decide +kernel)) ggX7_machine_X7_isIn
set_option maxRecDepth 20000 in
theorem ggX7_rule_X7_isControl : GoodIn wsX7_rule wsX7_isControl := goodIn_r _ [11, 12, 13, 14, 10, 15, 21, 22, 23, 24, 25, 26, 27, 28, 29, 30, 31, 32, 33, 34, 35, 36, 37, 38, 39, 40, 41, 42, 43, 44, 45] rfl (by decide +kernel)
set_option maxRecDepth 20000 in
theorem gX7_rule_X7_isControl : GoodIn wsX7_rule (wsV RX7 91 RX7 yX7_isControl wsX7_isControl) := goodIn_app (goodIn_of _ (by decide +kernel)) ggX7_rule_X7_isControl
set_option maxRecDepth 20000 in
theorem ggX7_rule_X7_isSign : GoodIn wsX7_rule wsX7_isSign := goodIn_r _ [19, 20, 13, 14, 10, 15, 21, 22, 23, 24, 25, 26, 27, 28, 29, 30, 31, 32, 33, 34, 35, 36, 37, 38, 39, 40, 41, 42, 43, 44, 45] rfl (by decide +kernel)
set_option maxRecDepth 20000 in
theorem gX7_rule_X7_isSign : GoodIn wsX7_rule (wsV RX7 95 RX7 yX7_isSign wsX7_isSign) := goodIn_app (goodIn_of _ (by decide +kernel)) ggX7_rule_X7_isSign
set_option maxRecDepth 20000 in
theorem ggX7_stand_X7_isControl : GoodIn wsX7_stand wsX7_isControl := goodIn_r _ [7, 8, 9, 10, 6, 11, 12, 13, 14, 15, 16, 17, 18, 19, 20, 21, 22, 23, 24, 25, 26, 27, 28, 29, 30, 31, 32, 33, 34, 35, 36] rfl (by decide +kernel)
set_option maxRecDepth 20000 in
theorem gX7_stand_X7_isControl : GoodIn wsX7_stand (wsV RX7 91 RX7 yX7_isControl wsX7_isControl) := goodIn_app (goodIn_of _ (by decide +kernel)) ggX7_stand_X7_isControl
set_option maxRecDepth 20000 in
theorem ggX7_push_X7_isSign : GoodIn wsX7_push wsX7_isSign := goodIn_r _ [7, 8, 9, 10, 6, 11, 12, 13, 14, 15, 16, 17, 18, 19, 20, 21, 22, 23, 24, 25, 26, 27, 28, 29, 30, 31, 32, 33, 34, 35, 36] rfl (by decide +kernel)
set_option maxRecDepth 20000 in
theorem gX7_push_X7_isSign : GoodIn wsX7_push (wsV RX7 95 RX7 yX7_isSign wsX7_isSign) := goodIn_app (goodIn_of _ (by decide +kernel)) ggX7_push_X7_isSign
set_option maxRecDepth 20000 in
theorem ggX7_at_X7_isIn : GoodIn wsX7_at wsX7_isIn := goodIn_r _ [7] rfl (by decide +kernel)
set_option maxRecDepth 20000 in
theorem gX7_at_X7_isIn : GoodIn wsX7_at (va_wsS RX7 73 yX7_isIn wsX7_isIn) := goodIn_app (goodIn_of _ (by decide +kernel)) ggX7_at_X7_isIn
set_option maxRecDepth 20000 in
theorem ggX7_does_X7_puts : GoodIn wsX7_does wsX7_puts := goodIn_r _ [11, 4, 3, 12, 13, 14, 15, 16, 17, 18, 19, 20, 21, 22, 23, 24, 25, 26, 27, 28, 29, 30, 31, 32, 33, 34, 35, 36] rfl (by decide +kernel)
set_option maxRecDepth 20000 in
theorem gX7_does_X7_puts : GoodIn wsX7_does (wsV RX7 98 RX7 yX7_puts wsX7_puts) := goodIn_app (goodIn_of _ (by decide +kernel)) ggX7_does_X7_puts
