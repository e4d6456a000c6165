set_option maxRecDepth 20000 in
theorem ggX7_go_X7_isIn : GoodIn wsX7_go wsX7_isIn := goodIn_r _ [6] rfl (by decide +kernel)
set_option maxRecDepth 20000 in
theorem gX7_go_X7_isIn : GoodIn wsX7_go (va_wsS RX7 73 yX7_isIn wsX7_isIn) := goodIn_app (goodIn_of _ (by decide +kernel)) ggX7_go_X7_isIn
set_option maxRecDepth 20000 in
theorem ggX7_go_X7_goes : GoodIn wsX7_go wsX7_goes := goodIn_r _ [10, 2, 11, 12, 13, 14, 26, 27, 28, 29, 30, 31, 32, 33, 34, 35, 36, 37, 38, 39, 40, 41, 42, 43, 44, 45, 46, 47, 48, 49, 50] rfl (by decide +kernel)
set_option maxRecDepth 20000 in
theorem gX7_go_X7_goes : GoodIn wsX7_go (wsV RX7 102 RX7 yX7_goes wsX7_goes) := goodIn_app (goodIn_of _ (by decide +kernel)) ggX7_go_X7_goes
set_option maxRecDepth 20000 in
theorem ggX7_go_X7_puts : GoodIn wsX7_go wsX7_puts := goodIn_r _ [18, 19, 20, 26, 27, 28, 29, 30, 31, 32, 33, 34, 35, 36, 37, 38, 39, 40, 41, 42, 43, 44, 45, 46, 47, 48, 49, 50] rfl (by decide +kernel)
set_option maxRecDepth 20000 in
theorem gX7_go_X7_puts : GoodIn wsX7_go (wsV RX7 98 RX7 yX7_puts wsX7_puts) := goodIn_app (goodIn_of _ (by decide +kernel)) ggX7_go_X7_puts
set_option maxRecDepth 20000 in
theorem ggX7_go_X7_does : GoodIn wsX7_go wsX7_does := goodIn_r _ [24, 2, 14, 20, 19, 25, 12, 15, 16, 17, 5, 18, 26, 27, 28, 29, 30, 31, 32, 33, 34, 35, 36, 37, 38, 39, 40, 41, 42, 43, 44, 45, 46, 47, 48, 49, 50] rfl (by decide +kernel)
set_option maxRecDepth 20000 in
theorem gX7_go_X7_does : GoodIn wsX7_go (wsV RX7 105 RX7 yX7_does wsX7_does) := goodIn_app (goodIn_of _ (by decide +kernel)) ggX7_go_X7_does
set_option maxRecDepth 20000 in
theorem ggX7_isSet_X7_isIn : GoodIn wsX7_isSet wsX7_isIn := goodIn_r _ [5] rfl (by decide +kernel)
set_option maxRecDepth 20000 in
theorem gX7_isSet_X7_isIn : GoodIn wsX7_isSet (va_wsS RX7 73 yX7_isIn wsX7_isIn) := goodIn_app (goodIn_of _ (by decide +kernel)) ggX7_isSet_X7_isIn
set_option maxRecDepth 20000 in
theorem ggX7_isPlace_X7_isControl : GoodIn wsX7_isPlace wsX7_isControl := goodIn_r _ [6, 7, 8, 9, 5, 10, 11, 12, 13, 14, 15, 16, 17, 18, 19, 20, 21, 22, 23, 24, 25, 26, 27, 28, 29, 30, 31, 32, 33, 34, 35] rfl (by decide +kernel)
set_option maxRecDepth 20000 in
theorem gX7_isPlace_X7_isControl : GoodIn wsX7_isPlace (wsV RX7 91 RX7 yX7_isControl wsX7_isControl) := goodIn_app (goodIn_of _ (by decide +kernel)) ggX7_isPlace_X7_isControl
set_option maxRecDepth 20000 in
theorem ggX7_isPlace_X7_isIn : GoodIn wsX7_isPlace wsX7_isIn := goodIn_r _ [10] rfl (by decide +kernel)
set_option maxRecDepth 20000 in
theorem gX7_isPlace_X7_isIn : GoodIn wsX7_isPlace (va_wsS RX7 73 yX7_isIn wsX7_isIn) := goodIn_app (goodIn_of _ (by decide +kernel)) ggX7_isPlace_X7_isIn
set_option maxRecDepth 20000 in
theorem ggX7_link_X7_isSet : GoodIn wsX7_link wsX7_isSet := goodIn_r _ [10, 11, 12, 13, 9, 14, 29, 30, 31, 32, 33, 34, 35, 36, 37, 38, 39, 40, 41, 42, 43, 44, 45, 46, 47, 48, 49, 50, 51, 52, 53] rfl (by decide +kernel)
set_option maxRecDepth 20000 in
theorem gX7_link_X7_isSet : GoodIn wsX7_link (wsV RX7 109 RX7 yX7_isSet wsX7_isSet) := goodIn_app (goodIn_of _ (by decide +kernel)) ggX7_link_X7_isSet
set_option maxRecDepth 20000 in
theorem ggX7_link_X7_isPlace : GoodIn wsX7_link wsX7_isPlace := goodIn_r _ [18, 1, 19, 20, 21, 9, 22, 23, 12, 13, 14, 29, 30, 31, 32, 33, 34, 35, 36, 37, 38, 39, 40, 41, 42, 43, 44, 45, 46, 47, 48, 49, 50, 51, 52, 53] rfl (by decide +kernel)
set_option maxRecDepth 20000 in
theorem gX7_link_X7_isPlace : GoodIn wsX7_link (wsV RX7 112 RX7 yX7_isPlace wsX7_isPlace) := goodIn_app (goodIn_of _ (by decide +kernel)) ggX7_link_X7_isPlace
set_option maxRecDepth 20000 in
theorem ggX7_link_X7_isSign : GoodIn wsX7_link wsX7_isSign := goodIn_r _ [27, 28, 12, 13, 9, 14, 29, 30, 31, 32, 33, 34, 35, 36, 37, 38, 39, 40, 41, 42, 43, 44, 45, 46, 47, 48, 49, 50, 51, 52, 53] rfl (by decide +kernel)
set_option maxRecDepth 20000 in
theorem gX7_link_X7_isSign : GoodIn wsX7_link (wsV RX7 95 RX7 yX7_isSign wsX7_isSign) := goodIn_app (goodIn_of _ (by decide +kernel)) ggX7_link_X7_isSign
set_option maxRecDepth 20000 in
theorem ggX7_link_X7_isIn : GoodIn wsX7_link wsX7_isIn := goodIn_r _ [14] rfl (by decide +kernel)
set_option maxRecDepth 20000 in
theorem gX7_link_X7_isIn : GoodIn wsX7_link (va_wsS RX7 73 yX7_isIn wsX7_isIn) := goodIn_app (goodIn_of _ (by decide +kernel)) ggX7_link_X7_isIn
set_option maxRecDepth 20000 in
theorem ggX7_last_X7_isSet : GoodIn wsX7_last wsX7_isSet := goodIn_r _ [6, 7, 8, 9, 5, 10, 21, 22, 23, 24, 25, 26, 27, 28, 29, 30, 31, 32, 33, 34, 35, 36, 37, 38, 39, 40, 41, 42, 43, 44, 45] rfl (by decide +kernel)
set_option maxRecDepth 20000 in
theorem gX7_last_X7_isSet : GoodIn wsX7_last (wsV RX7 109 RX7 yX7_isSet wsX7_isSet) := goodIn_app (goodIn_of _ (by decide +kernel)) ggX7_last_X7_isSet
set_option maxRecDepth 20000 in
theorem ggX7_last_X7_isPlace : GoodIn wsX7_last wsX7_isPlace := goodIn_r _ [14, 15, 16, 17, 18, 5, 19, 20, 8, 9, 10, 21, 22, 23, 24, 25, 26, 27, 28, 29, 30, 31, 32, 33, 34, 35, 36, 37, 38, 39, 40, 41, 42, 43, 44, 45] rfl (by decide +kernel)
set_option maxRecDepth 20000 in
theorem gX7_last_X7_isPlace : GoodIn wsX7_last (wsV RX7 112 RX7 yX7_isPlace wsX7_isPlace) := goodIn_app (goodIn_of _ (by decide +kernel)) ggX7_last_X7_isPlace
set_option maxRecDepth 20000 in
theorem ggX7_holds_X7_isLinked : GoodIn wsX7_holds wsX7_isLinked := goodIn_r _ [9, 10, 11, 12, 13, 14, 15, 16, 17, 18, 19, 20, 21, 22, 23, 24, 25, 26, 27, 28, 29, 30, 31, 32, 33, 34, 35, 36, 37, 38] rfl (by decide +kernel)
set_option maxRecDepth 20000 in
theorem gX7_holds_X7_isLinked : GoodIn wsX7_holds (wsV RX7 116 RX7 yX7_isLinked wsX7_isLinked) := goodIn_app (goodIn_of _ (by decide +kernel)) ggX7_holds_X7_isLinked
set_option maxRecDepth 20000 in
theorem ggX7_in_X7_isSet : GoodIn wsX7_in wsX7_isSet := goodIn_r _ [5, 6, 7, 8, 4, 9, 26, 27, 28, 29, 30, 31, 32, 33, 34, 35, 36, 37, 38, 39, 40, 41, 42, 43, 44, 45, 46, 47, 48, 49, 50] rfl (by decide +kernel)
set_option maxRecDepth 20000 in
theorem gX7_in_X7_isSet : GoodIn wsX7_in (wsV RX7 109 RX7 yX7_isSet wsX7_isSet) := goodIn_app (goodIn_of _ (by decide +kernel)) ggX7_in_X7_isSet
set_option maxRecDepth 20000 in
theorem ggX7_in_X7_holds : GoodIn wsX7_in wsX7_holds := goodIn_r _ [13, 14, 15, 16, 17, 18, 19, 20, 4, 21, 22, 23, 24, 25, 26, 27, 28, 29, 30, 31, 32, 33, 34, 35, 36, 37, 38, 39, 40, 41, 42, 43, 44, 45, 46, 47, 48, 49, 50] rfl (by decide +kernel)
set_option maxRecDepth 20000 in
theorem gX7_in_X7_holds : GoodIn wsX7_in (wsV RX7 120 RX7 yX7_holds wsX7_holds) := goodIn_app (goodIn_of _ (by decide +kernel)) ggX7_in_X7_holds
set_option maxRecDepth 20000 in
theorem ggX7_reading_X7_costAt : GoodIn wsX7_reading wsX7_costAt := goodIn_r _ [7] rfl (by decide +kernel)
set_option maxRecDepth 20000 in
theorem gX7_reading_X7_costAt : GoodIn wsX7_reading (va_wsS RX7 127 yX7_costAt wsX7_costAt) := goodIn_app (goodIn_of _ (by decide +kernel)) ggX7_reading_X7_costAt
set_option maxRecDepth 20000 in
theorem ggX7_byRule_X7_puts : GoodIn wsX7_byRule wsX7_puts := goodIn_r _ [9, 3, 4, 26, 27, 28, 29, 30, 31, 32, 33, 34, 35, 36, 37, 38, 39, 40, 41, 42, 43, 44, 45, 46, 47, 48, 49, 50] rfl (by decide +kernel)
set_option maxRecDepth 20000 in
theorem gX7_byRule_X7_puts : GoodIn wsX7_byRule (wsV RX7 98 RX7 yX7_puts wsX7_puts) := goodIn_app (goodIn_of _ (by decide +kernel)) ggX7_byRule_X7_puts
set_option maxRecDepth 20000 in
theorem ggX7_byRule_X7_reading : GoodIn wsX7_byRule wsX7_reading := goodIn_r _ [13, 14, 15, 2, 16, 17, 8, 18, 26, 27, 28, 29, 30, 31, 32, 33, 34, 35, 36, 37, 38, 39, 40, 41, 42, 43, 44, 45, 46, 47, 48, 49, 50] rfl (by decide +kernel)
set_option maxRecDepth 20000 in
theorem gX7_byRule_X7_reading : GoodIn wsX7_byRule (wsV RX7 131 RX7 yX7_reading wsX7_reading) := goodIn_app (goodIn_of _ (by decide +kernel)) ggX7_byRule_X7_reading
set_option maxRecDepth 20000 in
theorem ggX7_byRule_X7_plus : GoodIn wsX7_byRule wsX7_plus := goodIn_r _ [21, 2, 22] rfl (by decide +kernel)
set_option maxRecDepth 20000 in
theorem gX7_byRule_X7_plus : GoodIn wsX7_byRule (va_wsS RX7 135 yX7_plus wsX7_plus) := goodIn_app (goodIn_of _ (by decide +kernel)) ggX7_byRule_X7_plus
set_option maxRecDepth 20000 in
theorem ggX7_byRule_X7_lesser : GoodIn wsX7_byRule wsX7_lesser := goodIn_r _ [25] rfl (by decide +kernel)
set_option maxRecDepth 20000 in
theorem gX7_byRule_X7_lesser : GoodIn wsX7_byRule (va_wsS RX7 139 yX7_lesser wsX7_lesser) := goodIn_app (goodIn_of _ (by decide +kernel)) ggX7_byRule_X7_lesser
set_option maxRecDepth 20000 in
theorem ggX7_findCosts_X7_isLinked : GoodIn wsX7_findCosts wsX7_isLinked := goodIn_r _ [12, 13, 14, 15, 16, 50, 51, 52, 53, 54, 55, 56, 57, 58, 59, 60, 61, 62, 63, 64, 65, 66, 67, 68, 69, 70, 71, 72, 73, 74] rfl (by decide +kernel)
set_option maxRecDepth 20000 in
theorem gX7_findCosts_X7_isLinked : GoodIn wsX7_findCosts (wsV RX7 116 RX7 yX7_isLinked wsX7_isLinked) := goodIn_app (goodIn_of _ (by decide +kernel)) ggX7_findCosts_X7_isLinked
set_option maxRecDepth 20000 in
theorem ggX7_findCosts_X7_costAt : GoodIn wsX7_findCosts wsX7_costAt := goodIn_r _ [19] rfl (by decide +kernel)
set_option maxRecDepth 20000 in
theorem gX7_findCosts_X7_costAt : GoodIn wsX7_findCosts (va_wsS RX7 127 yX7_costAt wsX7_costAt) := goodIn_app (goodIn_of _ (by decide +kernel)) ggX7_findCosts_X7_costAt
set_option maxRecDepth 20000 in
theorem ggX7_findCosts_X7_settle : GoodIn wsX7_findCosts wsX7_settle := goodIn_r _ [23, 4, 24, 25, 26, 27, 5, 3, 17, 18, 11, 19, 28, 29, 30, 31, 32, 33, 34, 35, 36, 37, 38, 39, 40, 41, 42, 2, 43, 44, 45, 46, 47, 48, 49, 50, 51, 52, 53, 54, 55, 56, 57, 58, 59, 60, 61, 62, 63, 64, 65, 66, 67, 68, 69, 70, 71, 72, 73, 74] rfl (by decide +kernel)
set_option maxRecDepth 20000 in
theorem gX7_findCosts_X7_settle : GoodIn wsX7_findCosts (wsV RX7 145 RX7 yX7_settle wsX7_settle) := goodIn_app (goodIn_of _ (by decide +kernel)) ggX7_findCosts_X7_settle
set_option maxRecDepth 20000 in
theorem ggX7_settle_X7_costAt : GoodIn wsX7_settle wsX7_costAt := goodIn_r _ [11] rfl (by decide +kernel)
set_option maxRecDepth 20000 in
theorem gX7_settle_X7_costAt : GoodIn wsX7_settle (va_wsS RX7 127 yX7_costAt wsX7_costAt) := goodIn_app (goodIn_of _ (by decide +kernel)) ggX7_settle_X7_costAt
set_option maxRecDepth 20000 in
theorem ggX7_settle_X7_byRule : GoodIn wsX7_settle wsX7_byRule := goodIn_r _ [15, 16, 1, 17, 18, 19, 20, 21, 10, 22, 23, 24, 25, 26, 7, 27, 8, 9, 11, 28, 29, 30, 31, 32, 33, 34, 35, 36, 37, 38, 39, 40, 41, 42, 43, 44, 45, 46, 47, 48, 49, 50, 51, 52, 53, 54, 55, 56, 57, 58, 59] rfl (by decide +kernel)
set_option maxRecDepth 20000 in
theorem gX7_settle_X7_byRule : GoodIn wsX7_settle (wsV RX7 149 RX7 yX7_byRule wsX7_byRule) := goodIn_app (goodIn_of _ (by decide +kernel)) ggX7_settle_X7_byRule
set_option maxRecDepth 20000 in
theorem ggX7_settle_X7_lesser : GoodIn wsX7_settle wsX7_lesser := goodIn_r _ [34] rfl (by decide +kernel)
set_option maxRecDepth 20000 in
theorem gX7_settle_X7_lesser : GoodIn wsX7_settle (va_wsS RX7 139 yX7_lesser wsX7_lesser) := goodIn_app (goodIn_of _ (by decide +kernel)) ggX7_settle_X7_lesser
set_option maxRecDepth 20000 in
theorem ggX7_readStack_X7_reading : GoodIn wsX7_readStack wsX7_reading := goodIn_r _ [11, 12, 13, 4, 14, 15, 10, 16, 24, 25, 26, 27, 28, 29, 30, 31, 32, 33, 34, 35, 36, 37, 38, 39, 40, 41, 42, 43, 44, 45, 46, 47, 48] rfl (by decide +kernel)
set_option maxRecDepth 20000 in
theorem gX7_readStack_X7_reading : GoodIn wsX7_readStack (wsV RX7 131 RX7 yX7_reading wsX7_reading) := goodIn_app (goodIn_of _ (by decide +kernel)) ggX7_readStack_X7_reading
set_option maxRecDepth 20000 in
theorem ggX7_readStack_X7_plus : GoodIn wsX7_readStack wsX7_plus := goodIn_r _ [19, 4, 20] rfl (by decide +kernel)
set_option maxRecDepth 20000 in
theorem gX7_readStack_X7_plus : GoodIn wsX7_readStack (va_wsS RX7 135 yX7_plus wsX7_plus) := goodIn_app (goodIn_of _ (by decide +kernel)) ggX7_readStack_X7_plus
set_option maxRecDepth 20000 in
theorem ggX7_readStack_X7_lesser : GoodIn wsX7_readStack wsX7_lesser := goodIn_r _ [23] rfl (by decide +kernel)
set_option maxRecDepth 20000 in
theorem gX7_readStack_X7_lesser : GoodIn wsX7_readStack (va_wsS RX7 139 yX7_lesser wsX7_lesser) := goodIn_app (goodIn_of _ (by decide +kernel)) ggX7_readStack_X7_lesser
set_option maxRecDepth 20000 in
theorem ggX7_farNow_X7_readStack : GoodIn wsX7_farNow wsX7_readStack := goodIn_r _ [8, 1, 9, 10, 11, 2, 12, 13, 14, 15, 7, 16, 17, 18, 19, 20, 21, 22, 23, 24, 25, 26, 27, 28, 29, 30, 31, 32, 33, 34, 35, 36, 37, 38, 39, 40, 41, 42, 43, 44, 45, 46, 47, 48, 49, 50, 51, 52, 53] rfl (by decide +kernel)
set_option maxRecDepth 20000 in
theorem gX7_farNow_X7_readStack : GoodIn wsX7_farNow (wsV RX7 153 RX7 yX7_readStack wsX7_readStack) := goodIn_app (goodIn_of _ (by decide +kernel)) ggX7_farNow_X7_readStack
set_option maxRecDepth 20000 in
theorem ggX7_far_X7_isSet : GoodIn wsX7_far wsX7_isSet := goodIn_r _ [6, 7, 8, 9, 5, 10, 76, 77, 78, 79, 80, 81, 82, 83, 84, 85, 86, 87, 88, 89, 90, 91, 92, 93, 94, 95, 96, 97, 98, 99, 100] rfl (by decide +kernel)
set_option maxRecDepth 20000 in
theorem gX7_far_X7_isSet : GoodIn wsX7_far (wsV RX7 109 RX7 yX7_isSet wsX7_isSet) := goodIn_app (goodIn_of _ (by decide +kernel)) ggX7_far_X7_isSet
set_option maxRecDepth 20000 in
theorem ggX7_far_X7_findCosts : GoodIn wsX7_far wsX7_findCosts := goodIn_r _ [14, 15, 16, 17, 18, 19, 20, 21, 22, 23, 24, 5, 25, 26, 27, 28, 29, 30, 31, 32, 33, 34, 35, 36, 37, 38, 39, 40, 41, 42, 43, 44, 45, 46, 47, 48, 49, 50, 51, 52, 53, 54, 55, 56, 57, 58, 59, 60, 61, 62, 76, 77, 78, 79, 80, 81, 82, 83, 84, 85, 86, 87, 88, 89, 90, 91, 92, 93, 94, 95, 96, 97, 98, 99, 100] rfl (by decide +kernel)
set_option maxRecDepth 20000 in
theorem gX7_far_X7_findCosts : GoodIn wsX7_far (wsV RX7 158 RX7 yX7_findCosts wsX7_findCosts) := goodIn_app (goodIn_of _ (by decide +kernel)) ggX7_far_X7_findCosts
set_option maxRecDepth 20000 in
theorem ggX7_far_X7_farNow : GoodIn wsX7_far wsX7_farNow := goodIn_r _ [66, 67, 68, 69, 70, 71, 72, 5, 73, 74, 15, 18, 75, 52, 53, 54, 55, 17, 16, 30, 31, 32, 56, 57, 58, 59, 60, 61, 62, 76, 77, 78, 79, 80, 81, 82, 83, 84, 85, 86, 87, 88, 89, 90, 91, 92, 93, 94, 95, 96, 97, 98, 99, 100] rfl (by decide +kernel)
set_option maxRecDepth 20000 in
theorem gX7_far_X7_farNow : GoodIn wsX7_far (wsV RX7 161 RX7 yX7_farNow wsX7_farNow) := goodIn_app (goodIn_of _ (by decide +kernel)) ggX7_far_X7_farNow
set_option maxRecDepth 20000 in
theorem ggX7_nextRule_X7_goes : GoodIn wsX7_nextRule wsX7_goes := goodIn_r _ [9, 4, 10, 11, 12, 13, 41, 42, 43, 44, 45, 46, 47, 48, 49, 50, 51, 52, 53, 54, 55, 56, 57, 58, 59, 60, 61, 62, 63, 64, 65] rfl (by decide +kernel)
set_option maxRecDepth 20000 in
theorem gX7_nextRule_X7_goes : GoodIn wsX7_nextRule (wsV RX7 102 RX7 yX7_goes wsX7_goes) := goodIn_app (goodIn_of _ (by decide +kernel)) ggX7_nextRule_X7_goes
set_option maxRecDepth 20000 in
theorem ggX7_nextRule_X7_byRule : GoodIn wsX7_nextRule wsX7_byRule := goodIn_r _ [17, 18, 2, 19, 20, 21, 22, 23, 8, 24, 25, 26, 27, 28, 29, 30, 31, 32, 33, 34, 35, 36, 37, 38, 39, 40, 41, 42, 43, 44, 45, 46, 47, 48, 49, 50, 51, 52, 53, 54, 55, 56, 57, 58, 59, 60, 61, 62, 63, 64, 65] rfl (by decide +kernel)
set_option maxRecDepth 20000 in
theorem gX7_nextRule_X7_byRule : GoodIn wsX7_nextRule (wsV RX7 149 RX7 yX7_byRule wsX7_byRule) := goodIn_app (goodIn_of _ (by decide +kernel)) ggX7_nextRule_X7_byRule
set_option maxRecDepth 20000 in
theorem ggX7_nextRule_X7_plus : GoodIn wsX7_nextRule wsX7_plus := goodIn_r _ [36, 2, 37] rfl (by decide +kernel)
set_option maxRecDepth 20000 in
theorem gX7_nextRule_X7_plus : GoodIn wsX7_nextRule (va_wsS RX7 135 yX7_plus wsX7_plus) := goodIn_app (goodIn_of _ (by decide +kernel)) ggX7_nextRule_X7_plus
set_option maxRecDepth 20000 in
theorem ggX7_nextRule_X7_lesser : GoodIn wsX7_nextRule wsX7_lesser := goodIn_r _ [40] rfl (by decide +kernel)
set_option maxRecDepth 20000 in
theorem gX7_nextRule_X7_lesser : GoodIn wsX7_nextRule (va_wsS RX7 139 yX7_lesser wsX7_lesser) := goodIn_app (goodIn_of _ (by decide +kernel)) ggX7_nextRule_X7_lesser
set_option maxRecDepth 20000 in
theorem ggX7_step_X7_isSet : GoodIn wsX7_step wsX7_isSet := goodIn_r _ [7, 8, 9, 10, 6, 11, 87, 88, 89, 90, 91, 92, 93, 94, 95, 96, 97, 98, 99, 100, 101, 102, 103, 104, 105, 106, 107, 108, 109, 110, 111] rfl (by decide +kernel)
set_option maxRecDepth 20000 in
theorem gX7_step_X7_isSet : GoodIn wsX7_step (wsV RX7 109 RX7 yX7_isSet wsX7_isSet) := goodIn_app (goodIn_of _ (by decide +kernel)) ggX7_step_X7_isSet
set_option maxRecDepth 20000 in
theorem ggX7_step_X7_findCosts : GoodIn wsX7_step wsX7_findCosts := goodIn_r _ [15, 16, 17, 18, 19, 20, 21, 22, 23, 24, 25, 6, 26, 27, 28, 29, 30, 31, 32, 33, 34, 35, 36, 37, 38, 39, 40, 41, 42, 43, 44, 45, 46, 47, 48, 49, 50, 51, 52, 53, 54, 55, 56, 57, 58, 59, 1, 60, 61, 62, 87, 88, 89, 90, 91, 92, 93, 94, 95, 96, 97, 98, 99, 100, 101, 102, 103, 104, 105, 106, 107, 108, 109, 110, 111] rfl (by decide +kernel)
set_option maxRecDepth 20000 in
theorem gX7_step_X7_findCosts : GoodIn wsX7_step (wsV RX7 158 RX7 yX7_findCosts wsX7_findCosts) := goodIn_app (goodIn_of _ (by decide +kernel)) ggX7_step_X7_findCosts
set_option maxRecDepth 20000 in
theorem ggX7_step_X7_farNow : GoodIn wsX7_step wsX7_farNow := goodIn_r _ [66, 67, 2, 68, 69, 70, 71, 6, 72, 73, 16, 19, 74, 53, 54, 55, 56, 18, 17, 31, 32, 33, 57, 58, 59, 1, 60, 61, 62, 87, 88, 89, 90, 91, 92, 93, 94, 95, 96, 97, 98, 99, 100, 101, 102, 103, 104, 105, 106, 107, 108, 109, 110, 111] rfl (by decide +kernel)
set_option maxRecDepth 20000 in
theorem gX7_step_X7_farNow : GoodIn wsX7_step (wsV RX7 161 RX7 yX7_farNow wsX7_farNow) := goodIn_app (goodIn_of _ (by decide +kernel)) ggX7_step_X7_farNow
set_option maxRecDepth 20000 in
theorem ggX7_step_X7_nextRule : GoodIn wsX7_step wsX7_nextRule := goodIn_r _ [78, 39, 19, 67, 2, 79, 80, 81, 6, 82, 40, 68, 41, 74, 42, 43, 44, 45, 46, 47, 48, 49, 50, 51, 52, 53, 54, 55, 56, 18, 17, 31, 32, 33, 57, 58, 59, 1, 60, 61, 62, 87, 88, 89, 90, 91, 92, 93, 94, 95, 96, 97, 98, 99, 100, 101, 102, 103, 104, 105, 106, 107, 108, 109, 110, 111] rfl (by decide +kernel)
set_option maxRecDepth 20000 in
theorem gX7_step_X7_nextRule : GoodIn wsX7_step (wsV RX7 165 RX7 yX7_nextRule wsX7_nextRule) := goodIn_app (goodIn_of _ (by decide +kernel)) ggX7_step_X7_nextRule
set_option maxRecDepth 20000 in
theorem ggX7_step_X7_puts : GoodIn wsX7_step wsX7_puts := goodIn_r _ [52, 47, 48, 87, 88, 89, 90, 91, 92, 93, 94, 95, 96, 97, 98, 99, 100, 101, 102, 103, 104, 105, 106, 107, 108, 109, 110, 111] rfl (by decide +kernel)
set_option maxRecDepth 20000 in
theorem gX7_step_X7_puts : GoodIn wsX7_step (wsV RX7 98 RX7 yX7_puts wsX7_puts) := goodIn_app (goodIn_of _ (by decide +kernel)) ggX7_step_X7_puts
set_option maxRecDepth 20000 in
theorem ggX7_step_X7_does : GoodIn wsX7_step wsX7_does := goodIn_r _ [86, 2, 74, 48, 47, 46, 68, 49, 50, 51, 6, 52, 87, 88, 89, 90, 91, 92, 93, 94, 95, 96, 97, 98, 99, 100, 101, 102, 103, 104, 105, 106, 107, 108, 109, 110, 111] rfl (by decide +kernel)
set_option maxRecDepth 20000 in
theorem gX7_step_X7_does : GoodIn wsX7_step (wsV RX7 105 RX7 yX7_does wsX7_does) := goodIn_app (goodIn_of _ (by decide +kernel)) ggX7_step_X7_does
set_option maxRecDepth 20000 in
theorem ggX7_run_X7_isSet : GoodIn wsX7_run wsX7_isSet := goodIn_r _ [8, 9, 10, 11, 7, 12, 88, 89, 90, 91, 92, 93, 94, 95, 96, 97, 98, 99, 100, 101, 102, 103, 104, 105, 106, 107, 108, 109, 110, 111, 112] rfl (by decide +kernel)
set_option maxRecDepth 20000 in
theorem gX7_run_X7_isSet : GoodIn wsX7_run (wsV RX7 109 RX7 yX7_isSet wsX7_isSet) := goodIn_app (goodIn_of _ (by decide +kernel)) ggX7_run_X7_isSet
set_option maxRecDepth 20000 in
theorem ggX7_run_X7_isIn : GoodIn wsX7_run wsX7_isIn := goodIn_r _ [12] rfl (by decide +kernel)
set_option maxRecDepth 20000 in
theorem gX7_run_X7_isIn : GoodIn wsX7_run (va_wsS RX7 73 yX7_isIn wsX7_isIn) := goodIn_app (goodIn_of _ (by decide +kernel)) ggX7_run_X7_isIn
set_option maxRecDepth 20000 in
theorem ggX7_run_X7_findCosts : GoodIn wsX7_run wsX7_findCosts := goodIn_r _ [16, 17, 18, 19, 20, 21, 22, 23, 24, 25, 26, 7, 27, 28, 29, 30, 31, 32, 33, 34, 35, 36, 37, 38, 39, 40, 41, 42, 43, 44, 45, 46, 47, 48, 49, 50, 51, 52, 53, 54, 55, 56, 57, 58, 59, 60, 2, 61, 62, 63, 88, 89, 90, 91, 92, 93, 94, 95, 96, 97, 98, 99, 100, 101, 102, 103, 104, 105, 106, 107, 108, 109, 110, 111, 112] rfl (by decide +kernel)
set_option maxRecDepth 20000 in
theorem gX7_run_X7_findCosts : GoodIn wsX7_run (wsV RX7 158 RX7 yX7_findCosts wsX7_findCosts) := goodIn_app (goodIn_of _ (by decide +kernel)) ggX7_run_X7_findCosts
set_option maxRecDepth 20000 in
theorem ggX7_run_X7_farNow : GoodIn wsX7_run wsX7_farNow := goodIn_r _ [67, 68, 3, 69, 70, 71, 72, 7, 73, 74, 17, 20, 75, 54, 55, 56, 57, 19, 18, 32, 33, 34, 58, 59, 60, 2, 61, 62, 63, 88, 89, 90, 91, 92, 93, 94, 95, 96, 97, 98, 99, 100, 101, 102, 103, 104, 105, 106, 107, 108, 109, 110, 111, 112] rfl (by decide +kernel)
set_option maxRecDepth 20000 in
theorem gX7_run_X7_farNow : GoodIn wsX7_run (wsV RX7 161 RX7 yX7_farNow wsX7_farNow) := goodIn_app (goodIn_of _ (by decide +kernel)) ggX7_run_X7_farNow
set_option maxRecDepth 20000 in
theorem ggX7_run_X7_nextRule : GoodIn wsX7_run wsX7_nextRule := goodIn_r _ [79, 40, 20, 68, 3, 80, 81, 82, 7, 83, 41, 69, 42, 75, 43, 44, 45, 46, 47, 48, 49, 50, 51, 52, 53, 54, 55, 56, 57, 19, 18, 32, 33, 34, 58, 59, 60, 2, 61, 62, 63, 88, 89, 90, 91, 92, 93, 94, 95, 96, 97, 98, 99, 100, 101, 102, 103, 104, 105, 106, 107, 108, 109, 110, 111, 112] rfl (by decide +kernel)
set_option maxRecDepth 20000 in
theorem gX7_run_X7_nextRule : GoodIn wsX7_run (wsV RX7 165 RX7 yX7_nextRule wsX7_nextRule) := goodIn_app (goodIn_of _ (by decide +kernel)) ggX7_run_X7_nextRule
set_option maxRecDepth 20000 in
theorem ggX7_run_X7_puts : GoodIn wsX7_run wsX7_puts := goodIn_r _ [53, 48, 49, 88, 89, 90, 91, 92, 93, 94, 95, 96, 97, 98, 99, 100, 101, 102, 103, 104, 105, 106, 107, 108, 109, 110, 111, 112] rfl (by decide +kernel)
set_option maxRecDepth 20000 in
theorem gX7_run_X7_puts : GoodIn wsX7_run (wsV RX7 98 RX7 yX7_puts wsX7_puts) := goodIn_app (goodIn_of _ (by decide +kernel)) ggX7_run_X7_puts
set_option maxRecDepth 20000 in
theorem ggX7_run_X7_does : GoodIn wsX7_run wsX7_does := goodIn_r _ [87, 3, 75, 49, 48, 47, 69, 50, 51, 52, 7, 53, 88, 89, 90, 91, 92, 93, 94, 95, 96, 97, 98, 99, 100, 101, 102, 103, 104, 105, 106, 107, 108, 109, 110, 111, 112] rfl (by decide +kernel)
set_option maxRecDepth 20000 in
theorem gX7_run_X7_does : GoodIn wsX7_run (wsV RX7 105 RX7 yX7_does wsX7_does) := goodIn_app (goodIn_of _ (by decide +kernel)) ggX7_run_X7_does
set_option maxRecDepth 20000 in
theorem ggX7_pop_X7_isControl : GoodIn wsX7_pop wsX7_isControl := goodIn_r _ [7, 8, 9, 10, 6, 11, 66, 67, 68, 69, 70, 71, 72, 73, 74, 75, 76, 77, 78, 79, 80, 81, 82, 83, 84, 85, 86, 87, 88, 89, 90] rfl (by decide +kernel)
set_option maxRecDepth 20000 in
theorem gX7_pop_X7_isControl : GoodIn wsX7_pop (wsV RX7 91 RX7 yX7_isControl wsX7_isControl) := goodIn_app (goodIn_of _ (by decide +kernel)) ggX7_pop_X7_isControl
set_option maxRecDepth 20000 in
theorem ggX7_pop_X7_isSign : GoodIn wsX7_pop wsX7_isSign := goodIn_r _ [15, 16, 9, 10, 6, 11, 66, 67, 68, 69, 70, 71, 72, 73, 74, 75, 76, 77, 78, 79, 80, 81, 82, 83, 84, 85, 86, 87, 88, 89, 90] rfl (by decide +kernel)
set_option maxRecDepth 20000 in
theorem gX7_pop_X7_isSign : GoodIn wsX7_pop (wsV RX7 95 RX7 yX7_isSign wsX7_isSign) := goodIn_app (goodIn_of _ (by decide +kernel)) ggX7_pop_X7_isSign
set_option maxRecDepth 20000 in
theorem ggX7_pop_X7_findCosts : GoodIn wsX7_pop wsX7_findCosts := goodIn_r _ [20, 21, 22, 2, 23, 24, 8, 16, 25, 26, 27, 6, 28, 29, 30, 31, 32, 33, 34, 35, 36, 37, 38, 39, 40, 41, 42, 43, 44, 45, 46, 47, 48, 49, 50, 51, 52, 53, 54, 55, 56, 57, 58, 59, 60, 61, 62, 63, 64, 65, 66, 67, 68, 69, 70, 71, 72, 73, 74, 75, 76, 77, 78, 79, 80, 81, 82, 83, 84, 85, 86, 87, 88, 89, 90] rfl (by decide +kernel)
set_option maxRecDepth 20000 in
theorem gX7_pop_X7_findCosts : GoodIn wsX7_pop (wsV RX7 158 RX7 yX7_findCosts wsX7_findCosts) := goodIn_app (goodIn_of _ (by decide +kernel)) ggX7_pop_X7_findCosts
set_option maxRecDepth 20000 in
theorem ggX7_pop_X7_costAt : GoodIn wsX7_pop wsX7_costAt := goodIn_r _ [35] rfl (by decide +kernel)
set_option maxRecDepth 20000 in
theorem gX7_pop_X7_costAt : GoodIn wsX7_pop (va_wsS RX7 127 yX7_costAt wsX7_costAt) := goodIn_app (goodIn_of _ (by decide +kernel)) ggX7_pop_X7_costAt
set_option maxRecDepth 20000 in
theorem ggX7_headsBy_X7_puts : GoodIn wsX7_headsBy wsX7_puts := goodIn_r _ [10, 2, 5, 14, 15, 16, 17, 18, 19, 20, 21, 22, 23, 24, 25, 26, 27, 28, 29, 30, 31, 32, 33, 34, 35, 36, 37, 38] rfl (by decide +kernel)
set_option maxRecDepth 20000 in
theorem gX7_headsBy_X7_puts : GoodIn wsX7_headsBy (wsV RX7 98 RX7 yX7_puts wsX7_puts) := goodIn_app (goodIn_of _ (by decide +kernel)) ggX7_headsBy_X7_puts
set_option maxRecDepth 20000 in
theorem ggX7_headsBy_X7_costAt : GoodIn wsX7_headsBy wsX7_costAt := goodIn_r _ [13] rfl (by decide +kernel)
set_option maxRecDepth 20000 in
theorem gX7_headsBy_X7_costAt : GoodIn wsX7_headsBy (va_wsS RX7 127 yX7_costAt wsX7_costAt) := goodIn_app (goodIn_of _ (by decide +kernel)) ggX7_headsBy_X7_costAt
set_option maxRecDepth 20000 in
theorem ggX7_findReach_X7_headsBy : GoodIn wsX7_findReach wsX7_headsBy := goodIn_r _ [9, 10, 11, 12, 13, 14, 15, 16, 17, 8, 18, 19, 20, 21, 22, 23, 24, 25, 26, 27, 28, 29, 30, 31, 32, 33, 34, 35, 36, 37, 38, 39, 40, 41, 42, 43, 44, 45, 46] rfl (by decide +kernel)
set_option maxRecDepth 20000 in
theorem gX7_findReach_X7_headsBy : GoodIn wsX7_findReach (wsV RX7 171 RX7 yX7_headsBy wsX7_headsBy) := goodIn_app (goodIn_of _ (by decide +kernel)) ggX7_findReach_X7_headsBy
set_option maxRecDepth 20000 in
theorem ggX7_popped_X7_costAt : GoodIn wsX7_popped wsX7_costAt := goodIn_r _ [6] rfl (by decide +kernel)
set_option maxRecDepth 20000 in
theorem gX7_popped_X7_costAt : GoodIn wsX7_popped (va_wsS RX7 127 yX7_costAt wsX7_costAt) := goodIn_app (goodIn_of _ (by decide +kernel)) ggX7_popped_X7_costAt
set_option maxRecDepth 20000 in
theorem ggX7_endless_X7_findCosts : GoodIn wsX7_endless wsX7_findCosts := goodIn_r _ [9, 10, 11, 12, 13, 14, 3, 15, 16, 17, 18, 8, 19, 20, 21, 22, 23, 24, 25, 26, 27, 28, 29, 30, 31, 32, 33, 34, 35, 36, 37, 38, 39, 40, 41, 42, 43, 44, 45, 46, 47, 48, 49, 50, 51, 52, 53, 54, 55, 56, 74, 75, 76, 77, 78, 79, 80, 81, 82, 83, 84, 85, 86, 87, 88, 89, 90, 91, 92, 93, 94, 95, 96, 97, 98] rfl (by decide +kernel)
set_option maxRecDepth 20000 in
theorem gX7_endless_X7_findCosts : GoodIn wsX7_endless (wsV RX7 158 RX7 yX7_findCosts wsX7_findCosts) := goodIn_app (goodIn_of _ (by decide +kernel)) ggX7_endless_X7_findCosts
set_option maxRecDepth 20000 in
theorem ggX7_endless_X7_findReach : GoodIn wsX7_endless wsX7_findReach := goodIn_r _ [60, 61, 32, 33, 34, 62, 63, 64, 8, 65, 39, 40, 3, 12, 41, 42, 43, 44, 45, 24, 25, 26, 74, 75, 76, 77, 78, 79, 80, 81, 82, 83, 84, 85, 86, 87, 88, 89, 90, 91, 92, 93, 94, 95, 96, 97, 98] rfl (by decide +kernel)
set_option maxRecDepth 20000 in
theorem gX7_endless_X7_findReach : GoodIn wsX7_endless (wsV RX7 174 RX7 yX7_findReach wsX7_findReach) := goodIn_app (goodIn_of _ (by decide +kernel)) ggX7_endless_X7_findReach
set_option maxRecDepth 20000 in
theorem ggX7_endless_X7_isForEver : GoodIn wsX7_endless wsX7_isForEver := goodIn_r _ [69, 61, 74, 75, 76, 77, 78, 79, 80, 81, 82, 83, 84, 85, 86, 87, 88, 89, 90, 91, 92, 93, 94, 95, 96, 97, 98] rfl (by decide +kernel)
set_option maxRecDepth 20000 in
theorem gX7_endless_X7_isForEver : GoodIn wsX7_endless (wsV RX7 177 RX7 yX7_isForEver wsX7_isForEver) := goodIn_app (goodIn_of _ (by decide +kernel)) ggX7_endless_X7_isForEver
set_option maxRecDepth 20000 in
theorem ggX7_endless_X7_popped : GoodIn wsX7_endless wsX7_popped := goodIn_r _ [73, 3, 12, 24, 25, 8, 26, 74, 75, 76, 77, 78, 79, 80, 81, 82, 83, 84, 85, 86, 87, 88, 89, 90, 91, 92, 93, 94, 95, 96, 97, 98] rfl (by decide +kernel)
set_option maxRecDepth 20000 in
theorem gX7_endless_X7_popped : GoodIn wsX7_endless (wsV RX7 180 RX7 yX7_popped wsX7_popped) := goodIn_app (goodIn_of _ (by decide +kernel)) ggX7_endless_X7_popped
set_option maxRecDepth 20000 in
theorem ggX7_findHigh_X7_headsBy : GoodIn wsX7_findHigh wsX7_headsBy := goodIn_r _ [11, 5, 6, 12, 13, 14, 15, 16, 17, 10, 18, 19, 20, 21, 22, 23, 24, 25, 26, 27, 28, 29, 30, 31, 32, 33, 34, 35, 36, 37, 38, 39, 40, 41, 42, 43, 44, 45, 46] rfl (by decide +kernel)
set_option maxRecDepth 20000 in
theorem gX7_findHigh_X7_headsBy : GoodIn wsX7_findHigh (wsV RX7 171 RX7 yX7_headsBy wsX7_headsBy) := goodIn_app (goodIn_of _ (by decide +kernel)) ggX7_findHigh_X7_headsBy
set_option maxRecDepth 20000 in
theorem ggX7_findHigh_X7_puts : GoodIn wsX7_findHigh wsX7_puts := goodIn_r _ [18, 6, 14, 22, 23, 24, 25, 26, 27, 28, 29, 30, 31, 32, 33, 34, 35, 36, 37, 38, 39, 40, 41, 42, 43, 44, 45, 46] rfl (by decide +kernel)
set_option maxRecDepth 20000 in
theorem gX7_findHigh_X7_puts : GoodIn wsX7_findHigh (wsV RX7 98 RX7 yX7_puts wsX7_puts) := goodIn_app (goodIn_of _ (by decide +kernel)) ggX7_findHigh_X7_puts
set_option maxRecDepth 20000 in
theorem ggX7_high_X7_findCosts : GoodIn wsX7_high wsX7_findCosts := goodIn_r _ [10, 11, 12, 13, 14, 15, 3, 16, 17, 18, 19, 9, 20, 21, 22, 23, 24, 25, 26, 27, 28, 29, 30, 31, 32, 33, 34, 35, 36, 37, 38, 39, 40, 41, 42, 43, 44, 45, 46, 47, 48, 49, 50, 51, 52, 53, 54, 55, 56, 57, 70, 71, 72, 73, 74, 75, 76, 77, 78, 79, 80, 81, 82, 83, 84, 85, 86, 87, 88, 89, 90, 91, 92, 93, 94] rfl (by decide +kernel)
set_option maxRecDepth 20000 in
theorem gX7_high_X7_findCosts : GoodIn wsX7_high (wsV RX7 158 RX7 yX7_findCosts wsX7_findCosts) := goodIn_app (goodIn_of _ (by decide +kernel)) ggX7_high_X7_findCosts
set_option maxRecDepth 20000 in
theorem ggX7_high_X7_findHigh : GoodIn wsX7_high wsX7_findHigh := goodIn_r _ [61, 4, 33, 34, 35, 40, 41, 62, 63, 64, 9, 65, 3, 13, 42, 43, 44, 45, 46, 25, 26, 27, 70, 71, 72, 73, 74, 75, 76, 77, 78, 79, 80, 81, 82, 83, 84, 85, 86, 87, 88, 89, 90, 91, 92, 93, 94] rfl (by decide +kernel)
set_option maxRecDepth 20000 in
theorem gX7_high_X7_findHigh : GoodIn wsX7_high (wsV RX7 184 RX7 yX7_findHigh wsX7_findHigh) := goodIn_app (goodIn_of _ (by decide +kernel)) ggX7_high_X7_findHigh
set_option maxRecDepth 20000 in
theorem ggX7_high_X7_popped : GoodIn wsX7_high wsX7_popped := goodIn_r _ [69, 3, 13, 25, 26, 9, 27, 70, 71, 72, 73, 74, 75, 76, 77, 78, 79, 80, 81, 82, 83, 84, 85, 86, 87, 88, 89, 90, 91, 92, 93, 94] rfl (by decide +kernel)
set_option maxRecDepth 20000 in
theorem gX7_high_X7_popped : GoodIn wsX7_high (wsV RX7 180 RX7 yX7_popped wsX7_popped) := goodIn_app (goodIn_of _ (by decide +kernel)) ggX7_high_X7_popped
set_option maxRecDepth 20000 in
theorem ggX7_count_X7_goes : GoodIn wsX7_count wsX7_goes := goodIn_r _ [10, 5, 11, 12, 13, 14, 15, 16, 17, 18, 19, 20, 21, 22, 23, 24, 25, 26, 27, 28, 29, 30, 31, 32, 33, 34, 35, 36, 37, 38, 39] rfl (by decide +kernel)
set_option maxRecDepth 20000 in
theorem gX7_count_X7_goes : GoodIn wsX7_count (wsV RX7 102 RX7 yX7_goes wsX7_goes) := goodIn_app (goodIn_of _ (by decide +kernel)) ggX7_count_X7_goes
