set_option maxRecDepth 20000 in
theorem ggX0_renew_X0_findExits : GoodIn wsX0_renew wsX0_findExits := goodIn_r _ [6, 7, 8, 50, 51, 52, 53, 54, 55, 64, 65] rfl (by decide +kernel)
set_option maxRecDepth 20000 in
theorem gX0_renew_X0_findExits : GoodIn wsX0_renew (wsV RX0 36 RX0 yX0_findExits wsX0_findExits) := goodIn_app (goodIn_of _ (by decide +kernel)) ggX0_renew_X0_findExits
set_option maxRecDepth 20000 in
theorem ggX0_renew_X0_findAhead : GoodIn wsX0_renew wsX0_findAhead := goodIn_r _ [12, 13, 14, 15, 16, 17, 18, 19, 20, 21, 22, 23, 5, 24, 7, 25, 26, 50, 51, 52, 53, 54, 55, 56, 57, 58, 59, 60, 61, 62, 63] rfl (by decide +kernel)
set_option maxRecDepth 20000 in
theorem gX0_renew_X0_findAhead : GoodIn wsX0_renew (wsV RX0 40 RX0 yX0_findAhead wsX0_findAhead) := goodIn_app (goodIn_of _ (by decide +kernel)) ggX0_renew_X0_findAhead
set_option maxRecDepth 20000 in
theorem ggX0_renew_X0_findCircles : GoodIn wsX0_renew wsX0_findCircles := goodIn_r _ [30, 13, 31, 32, 18, 19, 20, 33, 34, 35, 5, 36, 50, 51, 52, 53, 54, 55, 56, 57, 58, 59, 60, 61, 62, 63] rfl (by decide +kernel)
set_option maxRecDepth 20000 in
theorem gX0_renew_X0_findCircles : GoodIn wsX0_renew (wsV RX0 44 RX0 yX0_findCircles wsX0_findCircles) := goodIn_app (goodIn_of _ (by decide +kernel)) ggX0_renew_X0_findCircles
set_option maxRecDepth 20000 in
theorem ggX0_renew_X0_findTallest : GoodIn wsX0_renew wsX0_findTallest := goodIn_r _ [40, 41, 32, 14, 15, 16, 17, 25, 19, 26, 42, 43, 44, 5, 45, 46, 47, 48, 49, 18, 20, 21, 22, 23, 24, 7, 50, 51, 52, 53, 54, 55, 56, 57, 58, 59, 60, 61, 62, 63] rfl (by decide +kernel)
set_option maxRecDepth 20000 in
theorem gX0_renew_X0_findTallest : GoodIn wsX0_renew (wsV RX0 47 RX0 yX0_findTallest wsX0_findTallest) := goodIn_app (goodIn_of _ (by decide +kernel)) ggX0_renew_X0_findTallest
set_option maxRecDepth 20000 in
theorem ggX0_findAhead_J7_fill_53178 : GoodIn wsX0_findAhead wsJ7_fill_53178 := goodIn_r _ [5] rfl (by decide +kernel)
set_option maxRecDepth 20000 in
theorem gX0_findAhead_J7_fill_53178 : GoodIn wsX0_findAhead (va_wsS RX0 58 yJ7_fill_53178 wsJ7_fill_53178) := goodIn_app (goodIn_of _ (by decide +kernel)) ggX0_findAhead_J7_fill_53178
set_option maxRecDepth 20000 in
theorem ggX0_findAhead_X6_headOf : GoodIn wsX0_findAhead wsX6_headOf := goodIn_r _ [8] rfl (by decide +kernel)
set_option maxRecDepth 20000 in
theorem gX0_findAhead_X6_headOf_n76 : GoodIn wsX0_findAhead (wsX6_headOf) := ggX0_findAhead_X6_headOf
set_option maxRecDepth 20000 in
theorem ggX0_findAhead_X0_uncovered : GoodIn wsX0_findAhead wsX0_uncovered := goodIn_r _ [13, 14, 6, 7, 8, 15, 16, 23, 24, 25, 26, 27, 28, 29, 30, 17, 18, 19, 20, 21, 22] rfl (by decide +kernel)
set_option maxRecDepth 20000 in
theorem gX0_findAhead_X0_uncovered : GoodIn wsX0_findAhead (wsV RX0 80 RX0 yX0_uncovered wsX0_uncovered) := goodIn_app (goodIn_of _ (by decide +kernel)) ggX0_findAhead_X0_uncovered
set_option maxRecDepth 20000 in
theorem ggX0_findAhead_X6_hasBit : GoodIn wsX0_findAhead wsX6_hasBit := goodIn_r _ [16] rfl (by decide +kernel)
set_option maxRecDepth 20000 in
theorem gX0_findAhead_X6_hasBit_n84 : GoodIn wsX0_findAhead (wsX6_hasBit) := ggX0_findAhead_X6_hasBit
set_option maxRecDepth 20000 in
theorem ggX0_uncovered_X6_headOf : GoodIn wsX0_uncovered wsX6_headOf := goodIn_r _ [4] rfl (by decide +kernel)
set_option maxRecDepth 20000 in
theorem gX0_uncovered_X6_headOf_n76 : GoodIn wsX0_uncovered (wsX6_headOf) := ggX0_uncovered_X6_headOf
set_option maxRecDepth 20000 in
theorem ggX0_uncovered_X6_hasBit : GoodIn wsX0_uncovered wsX6_hasBit := goodIn_r _ [6] rfl (by decide +kernel)
set_option maxRecDepth 20000 in
theorem gX0_uncovered_X6_hasBit_n84 : GoodIn wsX0_uncovered (wsX6_hasBit) := ggX0_uncovered_X6_hasBit
set_option maxRecDepth 20000 in
theorem ggX0_findCircles_X6_headOf : GoodIn wsX0_findCircles wsX6_headOf := goodIn_r _ [6] rfl (by decide +kernel)
set_option maxRecDepth 20000 in
theorem gX0_findCircles_X6_headOf_n76 : GoodIn wsX0_findCircles (wsX6_headOf) := ggX0_findCircles_X6_headOf
set_option maxRecDepth 20000 in
theorem ggX0_findCircles_X0_leadingTo : GoodIn wsX0_findCircles wsX0_leadingTo := goodIn_r _ [11, 1, 12, 13, 14, 15, 16, 17] rfl (by decide +kernel)
set_option maxRecDepth 20000 in
theorem gX0_findCircles_X0_leadingTo : GoodIn wsX0_findCircles (wsV RX0 91 RX0 yX0_leadingTo wsX0_leadingTo) := goodIn_app (goodIn_of _ (by decide +kernel)) ggX0_findCircles_X0_leadingTo
set_option maxRecDepth 20000 in
theorem ggX0_findTallest_J7_fill_53178 : GoodIn wsX0_findTallest wsJ7_fill_53178 := goodIn_r _ [6] rfl (by decide +kernel)
set_option maxRecDepth 20000 in
theorem gX0_findTallest_J7_fill_53178 : GoodIn wsX0_findTallest (va_wsS RX0 58 yJ7_fill_53178 wsJ7_fill_53178) := goodIn_app (goodIn_of _ (by decide +kernel)) ggX0_findTallest_J7_fill_53178
set_option maxRecDepth 20000 in
theorem ggX0_findTallest_X6_hasBit : GoodIn wsX0_findTallest wsX6_hasBit := goodIn_r _ [9] rfl (by decide +kernel)
set_option maxRecDepth 20000 in
theorem gX0_findTallest_X6_hasBit_n84 : GoodIn wsX0_findTallest (wsX6_hasBit) := ggX0_findTallest_X6_hasBit
set_option maxRecDepth 20000 in
theorem ggX0_findTallest_X0_raiseBy : GoodIn wsX0_findTallest wsX0_raiseBy := goodIn_r _ [14, 1, 15, 16, 17, 18, 19, 8, 20, 21, 22, 23, 13, 24, 25, 7, 9, 32, 33, 34, 35, 36, 37, 38, 39, 26, 27, 28, 29, 30, 31] rfl (by decide +kernel)
set_option maxRecDepth 20000 in
theorem gX0_findTallest_X0_raiseBy : GoodIn wsX0_findTallest (wsV RX0 95 RX0 yX0_raiseBy wsX0_raiseBy) := goodIn_app (goodIn_of _ (by decide +kernel)) ggX0_findTallest_X0_raiseBy
set_option maxRecDepth 20000 in
theorem ggX0_raiseBy_X6_headOf : GoodIn wsX0_raiseBy wsX6_headOf := goodIn_r _ [8] rfl (by decide +kernel)
set_option maxRecDepth 20000 in
theorem gX0_raiseBy_X6_headOf_n76 : GoodIn wsX0_raiseBy (wsX6_headOf) := ggX0_raiseBy_X6_headOf
set_option maxRecDepth 20000 in
theorem ggX0_raiseBy_X0_uncovered : GoodIn wsX0_raiseBy wsX0_uncovered := goodIn_r _ [13, 14, 6, 7, 8, 15, 16, 17, 18, 19, 20, 21, 22, 23, 24, 25, 26, 27, 28, 29, 30] rfl (by decide +kernel)
set_option maxRecDepth 20000 in
theorem gX0_raiseBy_X0_uncovered : GoodIn wsX0_raiseBy (wsV RX0 80 RX0 yX0_uncovered wsX0_uncovered) := goodIn_app (goodIn_of _ (by decide +kernel)) ggX0_raiseBy_X0_uncovered
set_option maxRecDepth 20000 in
theorem ggX0_raiseBy_X6_hasBit : GoodIn wsX0_raiseBy wsX6_hasBit := goodIn_r _ [16] rfl (by decide +kernel)
set_option maxRecDepth 20000 in
theorem gX0_raiseBy_X6_hasBit_n84 : GoodIn wsX0_raiseBy (wsX6_hasBit) := ggX0_raiseBy_X6_hasBit
set_option maxRecDepth 20000 in
theorem ggX0_goOnFrom_X0_headsOf : GoodIn wsX0_goOnFrom wsX0_headsOf := goodIn_r _ [6, 7, 8, 9, 10, 11] rfl (by decide +kernel)
set_option maxRecDepth 20000 in
theorem gX0_goOnFrom_X0_headsOf : GoodIn wsX0_goOnFrom (wsV RX0 115 RX0 yX0_headsOf wsX0_headsOf) := goodIn_app (goodIn_of _ (by decide +kernel)) ggX0_goOnFrom_X0_headsOf
set_option maxRecDepth 20000 in
theorem ggX0_goOnFrom_X0_allExits : GoodIn wsX0_goOnFrom wsX0_allExits := goodIn_r _ [15, 16, 7, 8, 9, 10, 11, 20, 21, 22, 23, 24, 25] rfl (by decide +kernel)
set_option maxRecDepth 20000 in
theorem gX0_goOnFrom_X0_allExits : GoodIn wsX0_goOnFrom (wsV RX0 118 RX0 yX0_allExits wsX0_allExits) := goodIn_app (goodIn_of _ (by decide +kernel)) ggX0_goOnFrom_X0_allExits
set_option maxRecDepth 20000 in
theorem ggX0_topFrom_X0_headsOf : GoodIn wsX0_topFrom wsX0_headsOf := goodIn_r _ [11, 12, 13, 14, 15, 16] rfl (by decide +kernel)
set_option maxRecDepth 20000 in
theorem gX0_topFrom_X0_headsOf : GoodIn wsX0_topFrom (wsV RX0 115 RX0 yX0_headsOf wsX0_headsOf) := goodIn_app (goodIn_of _ (by decide +kernel)) ggX0_topFrom_X0_headsOf
set_option maxRecDepth 20000 in
theorem ggX0_topFrom_X6_hasBit : GoodIn wsX0_topFrom wsX6_hasBit := goodIn_r _ [14] rfl (by decide +kernel)
set_option maxRecDepth 20000 in
theorem gX0_topFrom_X6_hasBit_n84 : GoodIn wsX0_topFrom (wsX6_hasBit) := ggX0_topFrom_X6_hasBit
set_option maxRecDepth 20000 in
theorem ggX0_topFrom_X0_allExits : GoodIn wsX0_topFrom wsX0_allExits := goodIn_r _ [20, 21, 12, 13, 14, 15, 16, 25, 26, 27, 28, 29, 30] rfl (by decide +kernel)
set_option maxRecDepth 20000 in
theorem gX0_topFrom_X0_allExits : GoodIn wsX0_topFrom (wsV RX0 118 RX0 yX0_allExits wsX0_allExits) := goodIn_app (goodIn_of _ (by decide +kernel)) ggX0_topFrom_X0_allExits
set_option maxRecDepth 20000 in
theorem ggX0_headsOf_X6_hasBit : GoodIn wsX0_headsOf wsX6_hasBit := goodIn_r _ [3] rfl (by decide +kernel)
set_option maxRecDepth 20000 in
theorem gX0_headsOf_X6_hasBit_n84 : GoodIn wsX0_headsOf (wsX6_hasBit) := ggX0_headsOf_X6_hasBit
set_option maxRecDepth 20000 in
theorem ggX0_headsOf_X6_headOf : GoodIn wsX0_headsOf wsX6_headOf := goodIn_r _ [5] rfl (by decide +kernel)
set_option maxRecDepth 20000 in
theorem gX0_headsOf_X6_headOf_n76 : GoodIn wsX0_headsOf (wsX6_headOf) := ggX0_headsOf_X6_headOf
set_option maxRecDepth 20000 in
theorem ggX0_allExits_X6_hasBit : GoodIn wsX0_allExits wsX6_hasBit := goodIn_r _ [4] rfl (by decide +kernel)
set_option maxRecDepth 20000 in
theorem gX0_allExits_X6_hasBit_n84 : GoodIn wsX0_allExits (wsX6_hasBit) := ggX0_allExits_X6_hasBit
set_option maxRecDepth 20000 in
theorem ggX0_allExits_X6_headOf : GoodIn wsX0_allExits wsX6_headOf := goodIn_r _ [6] rfl (by decide +kernel)
set_option maxRecDepth 20000 in
theorem gX0_allExits_X6_headOf_n76 : GoodIn wsX0_allExits (wsX6_headOf) := ggX0_allExits_X6_headOf
set_option maxRecDepth 20000 in
theorem ggX1_start_X2_isLast : GoodIn wsX1_start wsX2_isLast := goodIn_r _ [7, 8, 9, 10, 11, 13, 14, 15, 16, 17, 18] rfl (by decide +kernel)
set_option maxRecDepth 20000 in
theorem gX1_start_X2_isLast : GoodIn wsX1_start (wsV RX1 15 RX2 yX2_isLast wsX2_isLast) := goodIn_app (goodIn_of _ (by decide +kernel)) ggX1_start_X2_isLast
set_option maxRecDepth 20000 in
theorem ggX1_build_X1_across : GoodIn wsX1_build wsX1_across := goodIn_r _ [6, 7, 1, 8, 9, 10, 11, 12, 13, 14, 15, 16, 17, 18, 19, 20, 21, 22, 23, 24, 25, 26, 27, 28, 29, 30, 31, 32, 33, 37, 38, 39, 40, 41, 42, 43] rfl (by decide +kernel)
set_option maxRecDepth 20000 in
theorem gX1_build_X1_across : GoodIn wsX1_build (wsV RX1 33 RX1 yX1_across wsX1_across) := goodIn_app (goodIn_of _ (by decide +kernel)) ggX1_build_X1_across
set_option maxRecDepth 20000 in
theorem ggX1_across_X2_through : GoodIn wsX1_across wsX2_through := goodIn_r _ [11, 12, 13, 14, 15, 16, 17, 18, 19, 10, 20, 21, 22, 23, 30, 31, 32, 33, 34, 35] rfl (by decide +kernel)
set_option maxRecDepth 20000 in
theorem gX1_across_X2_through : GoodIn wsX1_across (wsV RX1 37 RX2 yX2_through wsX2_through) := goodIn_app (goodIn_of _ (by decide +kernel)) ggX1_across_X2_through
set_option maxRecDepth 20000 in
theorem ggX1_across_X6_sum : GoodIn wsX1_across wsX6_sum := goodIn_r _ [25, 26, 27, 28, 4, 5, 6] rfl (by decide +kernel)
set_option maxRecDepth 20000 in
theorem gX1_across_X6_sum_n41 : GoodIn wsX1_across (wsX6_sum) := ggX1_across_X6_sum
set_option maxRecDepth 20000 in
theorem ggX1_after_X1_across : GoodIn wsX1_after wsX1_across := goodIn_r _ [11, 2, 1, 3, 4, 5, 6, 12, 13, 14, 15, 16, 17, 18, 19, 20, 21, 22, 23, 24, 25, 26, 27, 28, 29, 30, 31, 32, 33, 42, 43, 44, 45, 46, 47, 48] rfl (by decide +kernel)
set_option maxRecDepth 20000 in
theorem gX1_after_X1_across : GoodIn wsX1_after (wsV RX1 33 RX1 yX1_across wsX1_across) := goodIn_app (goodIn_of _ (by decide +kernel)) ggX1_after_X1_across
set_option maxRecDepth 20000 in
theorem ggX1_after_X2_through : GoodIn wsX1_after wsX2_through := goodIn_r _ [16, 17, 18, 19, 20, 21, 22, 23, 24, 15, 25, 26, 27, 28, 43, 44, 45, 46, 47, 48] rfl (by decide +kernel)
set_option maxRecDepth 20000 in
theorem gX1_after_X2_through : GoodIn wsX1_after (wsV RX1 37 RX2 yX2_through wsX2_through) := goodIn_app (goodIn_of _ (by decide +kernel)) ggX1_after_X2_through
set_option maxRecDepth 20000 in
theorem ggX1_after_X6_sum : GoodIn wsX1_after wsX6_sum := goodIn_r _ [30, 31, 32, 33, 4, 5, 6] rfl (by decide +kernel)
set_option maxRecDepth 20000 in
theorem gX1_after_X6_sum_n41 : GoodIn wsX1_after (wsX6_sum) := ggX1_after_X6_sum
set_option maxRecDepth 20000 in
theorem ggX2_restart_J7_fill_53178 : GoodIn wsX2_restart wsJ7_fill_53178 := goodIn_r _ [8] rfl (by decide +kernel)
set_option maxRecDepth 20000 in
theorem gX2_restart_J7_fill_53178 : GoodIn wsX2_restart (va_wsS RX2 33 yJ7_fill_53178 wsJ7_fill_53178) := goodIn_app (goodIn_of _ (by decide +kernel)) ggX2_restart_J7_fill_53178
set_option maxRecDepth 20000 in
theorem ggX2_mark_X2_isLast : GoodIn wsX2_mark wsX2_isLast := goodIn_r _ [6, 1, 7, 8, 9, 10, 11, 12, 13, 14, 15] rfl (by decide +kernel)
set_option maxRecDepth 20000 in
theorem gX2_mark_X2_isLast : GoodIn wsX2_mark (wsV RX2 39 RX2 yX2_isLast wsX2_isLast) := goodIn_app (goodIn_of _ (by decide +kernel)) ggX2_mark_X2_isLast
set_option maxRecDepth 20000 in
theorem ggX2_isLast_X6_hasBit : GoodIn wsX2_isLast wsX6_hasBit := goodIn_r _ [4] rfl (by decide +kernel)
set_option maxRecDepth 20000 in
theorem gX2_isLast_X6_hasBit_n43 : GoodIn wsX2_isLast (wsX6_hasBit) := ggX2_isLast_X6_hasBit
set_option maxRecDepth 20000 in
theorem ggX2_hasHop_X6_hasBit : GoodIn wsX2_hasHop wsX6_hasBit := goodIn_r _ [4] rfl (by decide +kernel)
set_option maxRecDepth 20000 in
theorem gX2_hasHop_X6_hasBit_n43 : GoodIn wsX2_hasHop (wsX6_hasBit) := ggX2_hasHop_X6_hasBit
set_option maxRecDepth 20000 in
theorem ggX2_holds_X2_allHops : GoodIn wsX2_holds wsX2_allHops := goodIn_r _ [6, 7, 8, 9, 10, 14, 15, 16, 17, 18, 19] rfl (by decide +kernel)
set_option maxRecDepth 20000 in
theorem gX2_holds_X2_allHops : GoodIn wsX2_holds (wsV RX2 58 RX2 yX2_allHops wsX2_allHops) := goodIn_app (goodIn_of _ (by decide +kernel)) ggX2_holds_X2_allHops
set_option maxRecDepth 20000 in
theorem ggX2_allHops_X6_hasBit : GoodIn wsX2_allHops wsX6_hasBit := goodIn_r _ [4] rfl (by decide +kernel)
set_option maxRecDepth 20000 in
theorem gX2_allHops_X6_hasBit_n43 : GoodIn wsX2_allHops (wsX6_hasBit) := ggX2_allHops_X6_hasBit
set_option maxRecDepth 20000 in
theorem ggX2_renew_X2_startFrom : GoodIn wsX2_renew wsX2_startFrom := goodIn_r _ [8, 3, 9, 10, 11, 12, 7, 13, 14, 15, 16, 17, 44, 45, 46, 47, 48, 49, 58, 59] rfl (by decide +kernel)
set_option maxRecDepth 20000 in
theorem gX2_renew_X2_startFrom : GoodIn wsX2_renew (wsV RX2 67 RX2 yX2_startFrom wsX2_startFrom) := goodIn_app (goodIn_of _ (by decide +kernel)) ggX2_renew_X2_startFrom
set_option maxRecDepth 20000 in
theorem ggX2_renew_X2_lowerBy : GoodIn wsX2_renew wsX2_lowerBy := goodIn_r _ [21, 3, 9, 22, 16, 23, 24, 25, 26, 27, 28, 29, 30, 31, 32, 33, 34, 7, 35, 36, 37, 38, 39, 40, 41, 42, 43, 10, 11, 12, 13, 14, 15, 17, 50, 51, 52, 53, 54, 55, 56, 57, 44, 45, 46, 47, 48, 49] rfl (by decide +kernel)
set_option maxRecDepth 20000 in
theorem gX2_renew_X2_lowerBy : GoodIn wsX2_renew (wsV RX2 74 RX2 yX2_lowerBy wsX2_lowerBy) := goodIn_app (goodIn_of _ (by decide +kernel)) ggX2_renew_X2_lowerBy
set_option maxRecDepth 20000 in
theorem ggX2_startFrom_X2_hasHop : GoodIn wsX2_startFrom wsX2_hasHop := goodIn_r _ [7, 8, 9, 10, 11, 12, 13, 14, 15, 16, 17] rfl (by decide +kernel)
set_option maxRecDepth 20000 in
theorem gX2_startFrom_X2_hasHop : GoodIn wsX2_startFrom (wsV RX2 83 RX2 yX2_hasHop wsX2_hasHop) := goodIn_app (goodIn_of _ (by decide +kernel)) ggX2_startFrom_X2_hasHop
set_option maxRecDepth 20000 in
theorem ggX2_lowerBy_X6_headOf : GoodIn wsX2_lowerBy wsX6_headOf := goodIn_r _ [5] rfl (by decide +kernel)
set_option maxRecDepth 20000 in
theorem gX2_lowerBy_X6_headOf_n95 : GoodIn wsX2_lowerBy (wsX6_headOf) := ggX2_lowerBy_X6_headOf
set_option maxRecDepth 20000 in
theorem ggX2_lowerBy_X6_sum : GoodIn wsX2_lowerBy wsX6_sum := goodIn_r _ [7, 8, 9, 10, 11, 12, 13] rfl (by decide +kernel)
set_option maxRecDepth 20000 in
theorem gX2_lowerBy_X6_sum_n98 : GoodIn wsX2_lowerBy (wsX6_sum) := ggX2_lowerBy_X6_sum
set_option maxRecDepth 20000 in
theorem ggX2_lowerBy_X2_lower : GoodIn wsX2_lowerBy wsX2_lower := goodIn_r _ [18, 1, 42, 43, 44, 45, 46, 47] rfl (by decide +kernel)
set_option maxRecDepth 20000 in
theorem gX2_lowerBy_X2_lower : GoodIn wsX2_lowerBy (wsV RX2 108 RX2 yX2_lower wsX2_lower) := goodIn_app (goodIn_of _ (by decide +kernel)) ggX2_lowerBy_X2_lower
set_option maxRecDepth 20000 in
theorem ggX2_lowerBy_X2_lowerRow : GoodIn wsX2_lowerBy wsX2_lowerRow := goodIn_r _ [22, 23, 24, 25, 17, 26, 1, 2, 3, 4, 5, 27, 28, 29, 30, 31, 32, 33, 6, 7, 8, 9, 10, 11, 12, 13, 14, 15, 16, 18, 42, 43, 44, 45, 46, 47] rfl (by decide +kernel)
set_option maxRecDepth 20000 in
theorem gX2_lowerBy_X2_lowerRow : GoodIn wsX2_lowerBy (wsV RX2 112 RX2 yX2_lowerRow wsX2_lowerRow) := goodIn_app (goodIn_of _ (by decide +kernel)) ggX2_lowerBy_X2_lowerRow
set_option maxRecDepth 20000 in
theorem ggX2_lowerRow_X2_through : GoodIn wsX2_lowerRow wsX2_through := goodIn_r _ [5, 6, 7, 8, 9, 10, 11, 12, 13, 4, 14, 15, 16, 17, 30, 31, 32, 33, 34, 35] rfl (by decide +kernel)
set_option maxRecDepth 20000 in
theorem gX2_lowerRow_X2_through : GoodIn wsX2_lowerRow (wsV RX2 116 RX2 yX2_through wsX2_through) := goodIn_app (goodIn_of _ (by decide +kernel)) ggX2_lowerRow_X2_through
set_option maxRecDepth 20000 in
theorem ggX2_lowerRow_X6_sum : GoodIn wsX2_lowerRow wsX6_sum := goodIn_r _ [19, 20, 21, 22, 23, 24, 25] rfl (by decide +kernel)
set_option maxRecDepth 20000 in
theorem gX2_lowerRow_X6_sum_n98 : GoodIn wsX2_lowerRow (wsX6_sum) := ggX2_lowerRow_X6_sum
set_option maxRecDepth 20000 in
theorem ggX2_lowerRow_X2_lower : GoodIn wsX2_lowerRow wsX2_lower := goodIn_r _ [29, 6, 30, 31, 32, 33, 34, 35] rfl (by decide +kernel)
set_option maxRecDepth 20000 in
theorem gX2_lowerRow_X2_lower : GoodIn wsX2_lowerRow (wsV RX2 108 RX2 yX2_lower wsX2_lower) := goodIn_app (goodIn_of _ (by decide +kernel)) ggX2_lowerRow_X2_lower
set_option maxRecDepth 20000 in
theorem ggX2_through_X6_headOf : GoodIn wsX2_through wsX6_headOf := goodIn_r _ [5] rfl (by decide +kernel)
set_option maxRecDepth 20000 in
theorem gX2_through_X6_headOf_n95 : GoodIn wsX2_through (wsX6_headOf) := ggX2_through_X6_headOf
set_option maxRecDepth 20000 in
theorem ggX2_through_X2_hasHop : GoodIn wsX2_through wsX2_hasHop := goodIn_r _ [10, 11, 12, 4, 13, 14, 15, 16, 17, 18, 19] rfl (by decide +kernel)
set_option maxRecDepth 20000 in
theorem gX2_through_X2_hasHop : GoodIn wsX2_through (wsV RX2 83 RX2 yX2_hasHop wsX2_hasHop) := goodIn_app (goodIn_of _ (by decide +kernel)) ggX2_through_X2_hasHop
set_option maxRecDepth 20000 in
theorem ggX3_renew_J7_fill_d0a16 : GoodIn wsX3_renew wsJ7_fill_d0a16 := goodIn_r _ [7] rfl (by decide +kernel)
set_option maxRecDepth 20000 in
theorem gX3_renew_J7_fill_d0a16 : GoodIn wsX3_renew (va_wsS RX3 26 yJ7_fill_d0a16 wsJ7_fill_d0a16) := goodIn_app (goodIn_of _ (by decide +kernel)) ggX3_renew_J7_fill_d0a16
set_option maxRecDepth 20000 in
theorem ggX3_renew_X3_lowerBy : GoodIn wsX3_renew wsX3_lowerBy := goodIn_r _ [12, 2, 3, 13, 14, 15, 11, 16, 17, 18, 19, 20, 21, 22, 23, 24, 25, 26, 27, 28, 29, 30, 31, 34, 35, 36, 37, 38, 39, 40, 41, 32, 33] rfl (by decide +kernel)
set_option maxRecDepth 20000 in
theorem gX3_renew_X3_lowerBy : GoodIn wsX3_renew (wsV RX3 35 RX3 yX3_lowerBy wsX3_lowerBy) := goodIn_app (goodIn_of _ (by decide +kernel)) ggX3_renew_X3_lowerBy
set_option maxRecDepth 20000 in
theorem ggX3_lowerBy_X3_lower : GoodIn wsX3_lowerBy wsX3_lower := goodIn_r _ [7, 1, 31, 32] rfl (by decide +kernel)
set_option maxRecDepth 20000 in
theorem gX3_lowerBy_X3_lower : GoodIn wsX3_lowerBy (wsV RX3 49 RX3 yX3_lower wsX3_lower) := goodIn_app (goodIn_of _ (by decide +kernel)) ggX3_lowerBy_X3_lower
set_option maxRecDepth 20000 in
theorem ggX3_lowerBy_X6_headOf : GoodIn wsX3_lowerBy wsX6_headOf := goodIn_r _ [10] rfl (by decide +kernel)
set_option maxRecDepth 20000 in
theorem gX3_lowerBy_X6_headOf_n53 : GoodIn wsX3_lowerBy (wsX6_headOf) := ggX3_lowerBy_X6_headOf
set_option maxRecDepth 20000 in
theorem ggX3_lowerBy_X6_sum : GoodIn wsX3_lowerBy wsX6_sum := goodIn_r _ [12, 13, 14, 15, 16, 17, 18] rfl (by decide +kernel)
set_option maxRecDepth 20000 in
theorem gX3_lowerBy_X6_sum_n60 : GoodIn wsX3_lowerBy (wsX6_sum) := ggX3_lowerBy_X6_sum
set_option maxRecDepth 20000 in
theorem ggX3_lowerBy_X3_lowerRow : GoodIn wsX3_lowerBy wsX3_lowerRow := goodIn_r _ [22, 1, 11, 9, 12, 13, 14, 15, 16, 17, 18, 3, 4, 5, 6, 7, 23, 24, 25, 26, 27, 28, 29, 30, 31, 32] rfl (by decide +kernel)
set_option maxRecDepth 20000 in
theorem gX3_lowerBy_X3_lowerRow : GoodIn wsX3_lowerBy (wsV RX3 67 RX3 yX3_lowerRow wsX3_lowerRow) := goodIn_app (goodIn_of _ (by decide +kernel)) ggX3_lowerBy_X3_lowerRow
set_option maxRecDepth 20000 in
theorem ggX3_lowerRow_X6_sum : GoodIn wsX3_lowerRow wsX6_sum := goodIn_r _ [4, 5, 6, 7, 8, 9, 10] rfl (by decide +kernel)
set_option maxRecDepth 20000 in
theorem gX3_lowerRow_X6_sum_n60 : GoodIn wsX3_lowerRow (wsX6_sum) := ggX3_lowerRow_X6_sum
set_option maxRecDepth 20000 in
theorem ggX3_lowerRow_X3_lower : GoodIn wsX3_lowerRow wsX3_lower := goodIn_r _ [15, 1, 24, 25] rfl (by decide +kernel)
set_option maxRecDepth 20000 in
theorem gX3_lowerRow_X3_lower : GoodIn wsX3_lowerRow (wsV RX3 49 RX3 yX3_lower wsX3_lower) := goodIn_app (goodIn_of _ (by decide +kernel)) ggX3_lowerRow_X3_lower
set_option maxRecDepth 20000 in
theorem ggX5_head_X6_headOf : GoodIn wsX5_head wsX6_headOf := goodIn_r _ [6] rfl (by decide +kernel)
set_option maxRecDepth 20000 in
theorem gX5_head_X6_headOf_n22 : GoodIn wsX5_head (wsX6_headOf) := ggX5_head_X6_headOf
set_option maxRecDepth 20000 in
theorem ggX5_change_X5_cover : GoodIn wsX5_change wsX5_cover := goodIn_r _ [7, 8, 1, 9, 10, 11] rfl (by decide +kernel)
set_option maxRecDepth 20000 in
theorem gX5_change_X5_cover : GoodIn wsX5_change (wsV RX5 31 RX5 yX5_cover wsX5_cover) := goodIn_app (goodIn_of _ (by decide +kernel)) ggX5_change_X5_cover
set_option maxRecDepth 20000 in
theorem ggX6_init_X4_init : GoodIn wsX6_init wsX4_init := goodIn_r _ [30, 31, 2, 3, 32, 33, 34, 35, 36, 37, 38, 39, 40, 75, 76, 77, 78, 79, 80, 81, 82] rfl (by decide +kernel)
set_option maxRecDepth 20000 in
theorem gX6_init_X4_init_n11 : GoodIn wsX6_init (wsX4_init) := ggX6_init_X4_init
set_option maxRecDepth 20000 in
theorem ggX6_init_X5_init : GoodIn wsX6_init wsX5_init := goodIn_r _ [42, 43, 2, 3, 44, 45, 36, 46, 90, 91, 92] rfl (by decide +kernel)
set_option maxRecDepth 20000 in
theorem gX6_init_X5_init_n18 : GoodIn wsX6_init (wsX5_init) := ggX6_init_X5_init
set_option maxRecDepth 20000 in
theorem ggX6_init_X3_init : GoodIn wsX6_init wsX3_init := goodIn_r _ [48, 49, 2, 3, 50, 51, 52, 93, 94] rfl (by decide +kernel)
set_option maxRecDepth 20000 in
theorem gX6_init_X3_init_n31 : GoodIn wsX6_init (wsX3_init) := ggX6_init_X3_init
set_option maxRecDepth 20000 in
theorem ggX6_init_X0_init : GoodIn wsX6_init wsX0_init := goodIn_r _ [54, 55, 2, 3, 36, 56, 57, 58, 59, 60, 61, 95, 96, 97, 98, 99, 100] rfl (by decide +kernel)
set_option maxRecDepth 20000 in
theorem gX6_init_X0_init_n38 : GoodIn wsX6_init (wsX0_init) := ggX6_init_X0_init
set_option maxRecDepth 20000 in
theorem ggX6_init_X1_init : GoodIn wsX6_init wsX1_init := goodIn_r _ [63, 64, 2, 3, 50, 65, 101] rfl (by decide +kernel)
set_option maxRecDepth 20000 in
theorem gX6_init_X1_init_n45 : GoodIn wsX6_init (wsX1_init) := ggX6_init_X1_init
set_option maxRecDepth 20000 in
theorem ggX6_init_X2_init : GoodIn wsX6_init wsX2_init := goodIn_r _ [67, 68, 2, 3, 69, 70, 36, 71, 50, 72, 73, 74, 102, 103, 104, 105, 106, 107] rfl (by decide +kernel)
set_option maxRecDepth 20000 in
theorem gX6_init_X2_init_n54 : GoodIn wsX6_init (wsX2_init) := ggX6_init_X2_init
set_option maxRecDepth 20000 in
theorem ggX6_machine_X4_restart : GoodIn wsX6_machine wsX4_restart := goodIn_r _ [8, 9, 10, 11, 12, 27, 28, 29, 30, 31, 32, 33, 34] rfl (by decide +kernel)
