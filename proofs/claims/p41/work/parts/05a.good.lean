set_option maxRecDepth 20000 in
theorem ggX0_init_X5_init : GoodIn wsX0_init wsX5_init := goodIn_r _ [13, 14, 2, 3, 15, 16, 17, 18, 19] (by decide +kernel) (by decide +kernel)
set_option maxRecDepth 20000 in
theorem gX0_init_X5_init : GoodIn wsX0_init (wsX5_init) := ggX0_init_X5_init
set_option maxRecDepth 20000 in
theorem ggX0_add_X5_get : GoodIn wsX0_add wsX5_get := goodIn_r _ [7, 8, 9, 22, 23] (by decide +kernel) (by decide +kernel)
set_option maxRecDepth 20000 in
theorem gX0_add_X5_get : GoodIn wsX0_add (wsV RX0 30 RX5 yX5_get wsX5_get) := goodIn_app (goodIn_of _ (by decide +kernel)) ggX0_add_X5_get
set_option maxRecDepth 20000 in
theorem ggX0_add_X5_set : GoodIn wsX0_add wsX5_set := goodIn_r _ [13, 8, 9, 22, 23] (by decide +kernel) (by decide +kernel)
set_option maxRecDepth 20000 in
theorem gX0_add_X5_set : GoodIn wsX0_add (wsV RX0 34 RX5 yX5_set wsX5_set) := goodIn_app (goodIn_of _ (by decide +kernel)) ggX0_add_X5_set
set_option maxRecDepth 20000 in
theorem ggX0_add_X5_add : GoodIn wsX0_add wsX5_add := goodIn_r _ [17, 8, 9, 22, 23] (by decide +kernel) (by decide +kernel)
set_option maxRecDepth 20000 in
theorem gX0_add_X5_add : GoodIn wsX0_add (wsV RX0 38 RX5 yX5_add wsX5_add) := goodIn_app (goodIn_of _ (by decide +kernel)) ggX0_add_X5_add
set_option maxRecDepth 20000 in
theorem ggX0_countOf_X5_get : GoodIn wsX0_countOf wsX5_get := goodIn_r _ [6, 7, 8, 13, 14] (by decide +kernel) (by decide +kernel)
set_option maxRecDepth 20000 in
theorem gX0_countOf_X5_get : GoodIn wsX0_countOf (wsV RX0 30 RX5 yX5_get wsX5_get) := goodIn_app (goodIn_of _ (by decide +kernel)) ggX0_countOf_X5_get
set_option maxRecDepth 20000 in
theorem ggX0_count_X5_get : GoodIn wsX0_count wsX5_get := goodIn_r _ [6, 7, 8, 13, 14] (by decide +kernel) (by decide +kernel)
set_option maxRecDepth 20000 in
theorem gX0_count_X5_get : GoodIn wsX0_count (wsV RX0 30 RX5 yX5_get wsX5_get) := goodIn_app (goodIn_of _ (by decide +kernel)) ggX0_count_X5_get
set_option maxRecDepth 20000 in
theorem ggX0_toldFromTo_X5_get : GoodIn wsX0_toldFromTo wsX5_get := goodIn_r _ [7, 8, 9, 14, 15] (by decide +kernel) (by decide +kernel)
set_option maxRecDepth 20000 in
theorem gX0_toldFromTo_X5_get : GoodIn wsX0_toldFromTo (wsV RX0 30 RX5 yX5_get wsX5_get) := goodIn_app (goodIn_of _ (by decide +kernel)) ggX0_toldFromTo_X5_get
set_option maxRecDepth 20000 in
theorem ggX0_come_X0_toldFromTo : GoodIn wsX0_come wsX0_toldFromTo := goodIn_r _ [7, 8, 9, 10, 11, 12, 13, 14, 15, 16, 21, 22, 23, 24, 25, 26] (by decide +kernel) (by decide +kernel)
set_option maxRecDepth 20000 in
theorem gX0_come_X0_toldFromTo : GoodIn wsX0_come (wsV RX0 41 RX0 yX0_toldFromTo wsX0_toldFromTo) := goodIn_app (goodIn_of _ (by decide +kernel)) ggX0_come_X0_toldFromTo
set_option maxRecDepth 20000 in
theorem ggX0_come_X5_set : GoodIn wsX0_come wsX5_set := goodIn_r _ [20, 15, 16, 25, 26] (by decide +kernel) (by decide +kernel)
set_option maxRecDepth 20000 in
theorem gX0_come_X5_set : GoodIn wsX0_come (wsV RX0 34 RX5 yX5_set wsX5_set) := goodIn_app (goodIn_of _ (by decide +kernel)) ggX0_come_X5_set
set_option maxRecDepth 20000 in
theorem ggX0_seenOf_X5_get : GoodIn wsX0_seenOf wsX5_get := goodIn_r _ [6, 7, 8, 13, 14] (by decide +kernel) (by decide +kernel)
set_option maxRecDepth 20000 in
theorem gX0_seenOf_X5_get : GoodIn wsX0_seenOf (wsV RX0 30 RX5 yX5_get wsX5_get) := goodIn_app (goodIn_of _ (by decide +kernel)) ggX0_seenOf_X5_get
set_option maxRecDepth 20000 in
theorem ggX0_guessOn_X5_get : GoodIn wsX0_guessOn wsX5_get := goodIn_r _ [6, 7, 8, 24, 25] (by decide +kernel) (by decide +kernel)
set_option maxRecDepth 20000 in
theorem gX0_guessOn_X5_get : GoodIn wsX0_guessOn (wsV RX0 30 RX5 yX5_get wsX5_get) := goodIn_app (goodIn_of _ (by decide +kernel)) ggX0_guessOn_X5_get
set_option maxRecDepth 20000 in
theorem ggX0_guessOn_X0_isPossible : GoodIn wsX0_guessOn wsX0_isPossible := goodIn_r _ [13, 14, 15, 16, 17, 12, 18, 1, 19, 2, 3, 4, 5, 6, 7, 8, 20, 21, 22, 23, 24, 25] (by decide +kernel) (by decide +kernel)
set_option maxRecDepth 20000 in
theorem gX0_guessOn_X0_isPossible : GoodIn wsX0_guessOn (wsV RX0 45 RX0 yX0_isPossible wsX0_isPossible) := goodIn_app (goodIn_of _ (by decide +kernel)) ggX0_guessOn_X0_isPossible
set_option maxRecDepth 20000 in
theorem ggX0_isPossible_X0_toldFromTo : GoodIn wsX0_isPossible wsX0_toldFromTo := goodIn_r _ [6, 7, 8, 9, 10, 11, 12, 13, 14, 15, 16, 17, 18, 19, 20, 21] (by decide +kernel) (by decide +kernel)
set_option maxRecDepth 20000 in
theorem gX0_isPossible_X0_toldFromTo : GoodIn wsX0_isPossible (wsV RX0 41 RX0 yX0_toldFromTo wsX0_toldFromTo) := goodIn_app (goodIn_of _ (by decide +kernel)) ggX0_isPossible_X0_toldFromTo
set_option maxRecDepth 20000 in
theorem ggX0_isPossible_X5_get : GoodIn wsX0_isPossible wsX5_get := goodIn_r _ [13, 14, 15, 20, 21] (by decide +kernel) (by decide +kernel)
set_option maxRecDepth 20000 in
theorem gX0_isPossible_X5_get : GoodIn wsX0_isPossible (wsV RX0 30 RX5 yX5_get wsX5_get) := goodIn_app (goodIn_of _ (by decide +kernel)) ggX0_isPossible_X5_get
set_option maxRecDepth 20000 in
theorem ggX1_init_X5_init : GoodIn wsX1_init wsX5_init := goodIn_r _ [15, 16, 2, 3, 17, 18, 19, 20, 21] (by decide +kernel) (by decide +kernel)
set_option maxRecDepth 20000 in
theorem gX1_init_X5_init : GoodIn wsX1_init (wsX5_init) := ggX1_init_X5_init
set_option maxRecDepth 20000 in
theorem ggX1_getStation_X5_get : GoodIn wsX1_getStation wsX5_get := goodIn_r _ [6, 7, 8, 15, 16] (by decide +kernel) (by decide +kernel)
set_option maxRecDepth 20000 in
theorem gX1_getStation_X5_get : GoodIn wsX1_getStation (wsV RX1 36 RX5 yX5_get wsX5_get) := goodIn_app (goodIn_of _ (by decide +kernel)) ggX1_getStation_X5_get
set_option maxRecDepth 20000 in
theorem ggX1_setStation_X5_set : GoodIn wsX1_setStation wsX5_set := goodIn_r _ [6, 7, 8, 15, 16] (by decide +kernel) (by decide +kernel)
set_option maxRecDepth 20000 in
theorem gX1_setStation_X5_set : GoodIn wsX1_setStation (wsV RX1 40 RX5 yX5_set wsX5_set) := goodIn_app (goodIn_of _ (by decide +kernel)) ggX1_setStation_X5_set
set_option maxRecDepth 20000 in
theorem ggX1_getLine_X5_get : GoodIn wsX1_getLine wsX5_get := goodIn_r _ [6, 7, 8, 15, 16] (by decide +kernel) (by decide +kernel)
set_option maxRecDepth 20000 in
theorem gX1_getLine_X5_get : GoodIn wsX1_getLine (wsV RX1 36 RX5 yX5_get wsX5_get) := goodIn_app (goodIn_of _ (by decide +kernel)) ggX1_getLine_X5_get
set_option maxRecDepth 20000 in
theorem ggX1_addStation_X5_set : GoodIn wsX1_addStation wsX5_set := goodIn_r _ [7, 8, 9, 49, 50] (by decide +kernel) (by decide +kernel)
set_option maxRecDepth 20000 in
theorem gX1_addStation_X5_set : GoodIn wsX1_addStation (wsV RX1 40 RX5 yX5_set wsX5_set) := goodIn_app (goodIn_of _ (by decide +kernel)) ggX1_addStation_X5_set
set_option maxRecDepth 20000 in
theorem ggX1_addStation_X1_findWays : GoodIn wsX1_addStation wsX1_findWays := goodIn_r _ [14, 15, 16, 1, 17, 18, 19, 20, 6, 21, 9, 3, 4, 5, 7, 8, 22, 23, 24, 13, 25, 26, 27, 28, 29, 30, 31, 32, 33, 34, 35, 36, 37, 38, 39, 40, 41, 42, 43, 44, 45, 46, 47, 48, 49, 50] (by decide +kernel) (by decide +kernel)
set_option maxRecDepth 20000 in
theorem gX1_addStation_X1_findWays : GoodIn wsX1_addStation (wsV RX1 44 RX1 yX1_findWays wsX1_findWays) := goodIn_app (goodIn_of _ (by decide +kernel)) ggX1_addStation_X1_findWays
set_option maxRecDepth 20000 in
theorem ggX1_addLine_X5_set : GoodIn wsX1_addLine wsX5_set := goodIn_r _ [7, 8, 9, 48, 49] (by decide +kernel) (by decide +kernel)
set_option maxRecDepth 20000 in
theorem gX1_addLine_X5_set : GoodIn wsX1_addLine (wsV RX1 40 RX5 yX5_set wsX5_set) := goodIn_app (goodIn_of _ (by decide +kernel)) ggX1_addLine_X5_set
set_option maxRecDepth 20000 in
theorem ggX1_addLine_X1_findWays : GoodIn wsX1_addLine wsX1_findWays := goodIn_r _ [14, 15, 16, 17, 1, 18, 19, 20, 6, 21, 9, 3, 4, 5, 7, 8, 22, 23, 24, 13, 25, 2, 26, 27, 28, 29, 30, 31, 32, 33, 34, 35, 36, 37, 38, 39, 40, 41, 42, 43, 44, 45, 46, 47, 48, 49] (by decide +kernel) (by decide +kernel)
set_option maxRecDepth 20000 in
theorem gX1_addLine_X1_findWays : GoodIn wsX1_addLine (wsV RX1 44 RX1 yX1_findWays wsX1_findWays) := goodIn_app (goodIn_of _ (by decide +kernel)) ggX1_addLine_X1_findWays
set_option maxRecDepth 20000 in
theorem ggX1_addWhole_X1_addStation : GoodIn wsX1_addWhole wsX1_addStation := goodIn_r _ [5, 6, 7, 8, 9, 10, 11, 12, 13, 14, 15, 16, 17, 4, 18, 19, 20, 21, 22, 23, 24, 25, 26, 27, 28, 29, 30, 31, 32, 33, 34, 35, 36, 37, 38, 39, 40, 41, 42, 43, 44, 45, 46, 51, 52, 53, 54, 55, 56, 57, 58] (by decide +kernel) (by decide +kernel)
set_option maxRecDepth 20000 in
theorem gX1_addWhole_X1_addStation : GoodIn wsX1_addWhole (wsV RX1 47 RX1 yX1_addStation wsX1_addStation) := goodIn_app (goodIn_of _ (by decide +kernel)) ggX1_addWhole_X1_addStation
set_option maxRecDepth 20000 in
theorem ggX1_addWhole_X1_addLine : GoodIn wsX1_addWhole wsX1_addLine := goodIn_r _ [50, 21, 30, 8, 9, 10, 11, 12, 13, 14, 15, 16, 17, 4, 18, 19, 20, 6, 22, 23, 24, 25, 26, 27, 28, 29, 31, 32, 33, 34, 35, 36, 37, 38, 39, 40, 41, 42, 43, 44, 45, 46, 51, 52, 53, 54, 55, 56, 57, 58] (by decide +kernel) (by decide +kernel)
set_option maxRecDepth 20000 in
theorem gX1_addWhole_X1_addLine : GoodIn wsX1_addWhole (wsV RX1 51 RX1 yX1_addLine wsX1_addLine) := goodIn_app (goodIn_of _ (by decide +kernel)) ggX1_addWhole_X1_addLine
set_option maxRecDepth 20000 in
theorem ggX1_turnBridge_X5_get : GoodIn wsX1_turnBridge wsX5_get := goodIn_r _ [6, 7, 8, 48, 49] (by decide +kernel) (by decide +kernel)
set_option maxRecDepth 20000 in
theorem gX1_turnBridge_X5_get : GoodIn wsX1_turnBridge (wsV RX1 36 RX5 yX5_get wsX5_get) := goodIn_app (goodIn_of _ (by decide +kernel)) ggX1_turnBridge_X5_get
set_option maxRecDepth 20000 in
theorem ggX1_turnBridge_X5_set : GoodIn wsX1_turnBridge wsX5_set := goodIn_r _ [12, 7, 8, 48, 49] (by decide +kernel) (by decide +kernel)
set_option maxRecDepth 20000 in
theorem gX1_turnBridge_X5_set : GoodIn wsX1_turnBridge (wsV RX1 40 RX5 yX5_set wsX5_set) := goodIn_app (goodIn_of _ (by decide +kernel)) ggX1_turnBridge_X5_set
set_option maxRecDepth 20000 in
theorem ggX1_turnBridge_X1_findWays : GoodIn wsX1_turnBridge wsX1_findWays := goodIn_r _ [17, 18, 19, 20, 21, 22, 23, 24, 5, 25, 8, 9, 10, 11, 12, 7, 26, 27, 28, 16, 29, 1, 30, 31, 32, 33, 2, 3, 4, 6, 34, 35, 36, 37, 38, 39, 40, 41, 42, 43, 44, 45, 46, 47, 48, 49] (by decide +kernel) (by decide +kernel)
set_option maxRecDepth 20000 in
theorem gX1_turnBridge_X1_findWays : GoodIn wsX1_turnBridge (wsV RX1 44 RX1 yX1_findWays wsX1_findWays) := goodIn_app (goodIn_of _ (by decide +kernel)) ggX1_turnBridge_X1_findWays
set_option maxRecDepth 20000 in
theorem ggX1_addEngines_X5_add : GoodIn wsX1_addEngines wsX5_add := goodIn_r _ [6, 7, 8, 15, 16] (by decide +kernel) (by decide +kernel)
set_option maxRecDepth 20000 in
theorem gX1_addEngines_X5_add : GoodIn wsX1_addEngines (wsV RX1 55 RX5 yX5_add wsX5_add) := goodIn_app (goodIn_of _ (by decide +kernel)) ggX1_addEngines_X5_add
set_option maxRecDepth 20000 in
theorem ggX1_addThrough_X5_add : GoodIn wsX1_addThrough wsX5_add := goodIn_r _ [6, 7, 8, 15, 16] (by decide +kernel) (by decide +kernel)
set_option maxRecDepth 20000 in
theorem gX1_addThrough_X5_add : GoodIn wsX1_addThrough (wsV RX1 55 RX5 yX5_add wsX5_add) := goodIn_app (goodIn_of _ (by decide +kernel)) ggX1_addThrough_X5_add
set_option maxRecDepth 20000 in
theorem ggX1_clearFoul_X5_get : GoodIn wsX1_clearFoul wsX5_get := goodIn_r _ [7, 8, 9, 20, 21] (by decide +kernel) (by decide +kernel)
set_option maxRecDepth 20000 in
theorem gX1_clearFoul_X5_get : GoodIn wsX1_clearFoul (wsV RX1 36 RX5 yX5_get wsX5_get) := goodIn_app (goodIn_of _ (by decide +kernel)) ggX1_clearFoul_X5_get
set_option maxRecDepth 20000 in
theorem ggX1_clearFoul_X5_add : GoodIn wsX1_clearFoul wsX5_add := goodIn_r _ [13, 8, 9, 20, 21] (by decide +kernel) (by decide +kernel)
set_option maxRecDepth 20000 in
theorem gX1_clearFoul_X5_add : GoodIn wsX1_clearFoul (wsV RX1 55 RX5 yX5_add wsX5_add) := goodIn_app (goodIn_of _ (by decide +kernel)) ggX1_clearFoul_X5_add
set_option maxRecDepth 20000 in
theorem ggX1_isDouble_X5_get : GoodIn wsX1_isDouble wsX5_get := goodIn_r _ [6, 7, 8, 15, 16] (by decide +kernel) (by decide +kernel)
set_option maxRecDepth 20000 in
theorem gX1_isDouble_X5_get : GoodIn wsX1_isDouble (wsV RX1 36 RX5 yX5_get wsX5_get) := goodIn_app (goodIn_of _ (by decide +kernel)) ggX1_isDouble_X5_get
set_option maxRecDepth 20000 in
theorem ggX1_endOf_X5_get : GoodIn wsX1_endOf wsX5_get := goodIn_r _ [6, 7, 8, 15, 16] (by decide +kernel) (by decide +kernel)
set_option maxRecDepth 20000 in
theorem gX1_endOf_X5_get : GoodIn wsX1_endOf (wsV RX1 36 RX5 yX5_get wsX5_get) := goodIn_app (goodIn_of _ (by decide +kernel)) ggX1_endOf_X5_get
set_option maxRecDepth 20000 in
theorem ggX1_timeOf_X5_get : GoodIn wsX1_timeOf wsX5_get := goodIn_r _ [6, 7, 8, 15, 16] (by decide +kernel) (by decide +kernel)
set_option maxRecDepth 20000 in
theorem gX1_timeOf_X5_get : GoodIn wsX1_timeOf (wsV RX1 36 RX5 yX5_get wsX5_get) := goodIn_app (goodIn_of _ (by decide +kernel)) ggX1_timeOf_X5_get
set_option maxRecDepth 20000 in
theorem ggX1_firstOf_X5_get : GoodIn wsX1_firstOf wsX5_get := goodIn_r _ [6, 7, 8, 15, 16] (by decide +kernel) (by decide +kernel)
set_option maxRecDepth 20000 in
theorem gX1_firstOf_X5_get : GoodIn wsX1_firstOf (wsV RX1 36 RX5 yX5_get wsX5_get) := goodIn_app (goodIn_of _ (by decide +kernel)) ggX1_firstOf_X5_get
set_option maxRecDepth 20000 in
theorem ggX1_linesOf_X5_get : GoodIn wsX1_linesOf wsX5_get := goodIn_r _ [8, 9, 10, 22, 23] (by decide +kernel) (by decide +kernel)
set_option maxRecDepth 20000 in
theorem gX1_linesOf_X5_get : GoodIn wsX1_linesOf (wsV RX1 36 RX5 yX5_get wsX5_get) := goodIn_app (goodIn_of _ (by decide +kernel)) ggX1_linesOf_X5_get
set_option maxRecDepth 20000 in
theorem ggX1_linesOf_X1_endOf : GoodIn wsX1_linesOf wsX1_endOf := goodIn_r _ [15, 3, 4, 5, 6, 7, 8, 9, 10, 16, 17, 18, 19, 20, 21, 22, 23] (by decide +kernel) (by decide +kernel)
set_option maxRecDepth 20000 in
theorem gX1_linesOf_X1_endOf : GoodIn wsX1_linesOf (wsV RX1 58 RX1 yX1_endOf wsX1_endOf) := goodIn_app (goodIn_of _ (by decide +kernel)) ggX1_linesOf_X1_endOf
set_option maxRecDepth 20000 in
theorem ggX1_findWays_X5_fill : GoodIn wsX1_findWays wsX5_fill := goodIn_r _ [9, 10, 44, 45] (by decide +kernel) (by decide +kernel)
set_option maxRecDepth 20000 in
theorem gX1_findWays_X5_fill : GoodIn wsX1_findWays (wsV RX1 62 RX5 yX5_fill wsX5_fill) := goodIn_app (goodIn_of _ (by decide +kernel)) ggX1_findWays_X5_fill
set_option maxRecDepth 20000 in
theorem ggX1_findWays_X5_set : GoodIn wsX1_findWays wsX5_set := goodIn_r _ [14, 15, 10, 44, 45] (by decide +kernel) (by decide +kernel)
set_option maxRecDepth 20000 in
theorem gX1_findWays_X5_set : GoodIn wsX1_findWays (wsV RX1 40 RX5 yX5_set wsX5_set) := goodIn_app (goodIn_of _ (by decide +kernel)) ggX1_findWays_X5_set
set_option maxRecDepth 20000 in
theorem ggX1_findWays_X1_shorten : GoodIn wsX1_findWays wsX1_shorten := goodIn_r _ [20, 1, 21, 22, 23, 24, 25, 26, 27, 28, 8, 29, 15, 10, 11, 12, 13, 14, 38, 39, 40, 41, 42, 43, 44, 45] (by decide +kernel) (by decide +kernel)
set_option maxRecDepth 20000 in
theorem gX1_findWays_X1_shorten : GoodIn wsX1_findWays (wsV RX1 66 RX1 yX1_shorten wsX1_shorten) := goodIn_app (goodIn_of _ (by decide +kernel)) ggX1_findWays_X1_shorten
set_option maxRecDepth 20000 in
theorem ggX1_findWays_X1_findFirsts : GoodIn wsX1_findWays wsX1_findFirsts := goodIn_r _ [33, 4, 34, 35, 36, 19, 37, 21, 1, 2, 26, 27, 28, 8, 29, 15, 10, 11, 12, 13, 14, 38, 39, 40, 41, 42, 43, 44, 45] (by decide +kernel) (by decide +kernel)
set_option maxRecDepth 20000 in
theorem gX1_findWays_X1_findFirsts : GoodIn wsX1_findWays (wsV RX1 70 RX1 yX1_findFirsts wsX1_findFirsts) := goodIn_app (goodIn_of _ (by decide +kernel)) ggX1_findWays_X1_findFirsts
set_option maxRecDepth 20000 in
theorem ggX1_shorten_X5_get : GoodIn wsX1_shorten wsX5_get := goodIn_r _ [11, 12, 13, 24, 25] (by decide +kernel) (by decide +kernel)
set_option maxRecDepth 20000 in
theorem gX1_shorten_X5_get : GoodIn wsX1_shorten (wsV RX1 36 RX5 yX5_get wsX5_get) := goodIn_app (goodIn_of _ (by decide +kernel)) ggX1_shorten_X5_get
set_option maxRecDepth 20000 in
theorem ggX1_shorten_X5_set : GoodIn wsX1_shorten wsX5_set := goodIn_r _ [17, 12, 13, 24, 25] (by decide +kernel) (by decide +kernel)
set_option maxRecDepth 20000 in
theorem gX1_shorten_X5_set : GoodIn wsX1_shorten (wsV RX1 40 RX5 yX5_set wsX5_set) := goodIn_app (goodIn_of _ (by decide +kernel)) ggX1_shorten_X5_set
set_option maxRecDepth 20000 in
theorem ggX1_findFirsts_X1_noteFirst : GoodIn wsX1_findFirsts wsX1_noteFirst := goodIn_r _ [6, 7, 8, 9, 10, 11, 12, 13, 14, 15, 16, 17, 18, 19, 20, 21, 22, 23, 24, 25, 26, 27, 28] (by decide +kernel) (by decide +kernel)
set_option maxRecDepth 20000 in
theorem gX1_findFirsts_X1_noteFirst : GoodIn wsX1_findFirsts (wsV RX1 78 RX1 yX1_noteFirst wsX1_noteFirst) := goodIn_app (goodIn_of _ (by decide +kernel)) ggX1_findFirsts_X1_noteFirst
set_option maxRecDepth 20000 in
theorem ggX1_noteFirst_X5_get : GoodIn wsX1_noteFirst wsX5_get := goodIn_r _ [8, 9, 10, 21, 22] (by decide +kernel) (by decide +kernel)
set_option maxRecDepth 20000 in
theorem gX1_noteFirst_X5_get : GoodIn wsX1_noteFirst (wsV RX1 36 RX5 yX5_get wsX5_get) := goodIn_app (goodIn_of _ (by decide +kernel)) ggX1_noteFirst_X5_get
set_option maxRecDepth 20000 in
theorem ggX1_noteFirst_X5_set : GoodIn wsX1_noteFirst wsX5_set := goodIn_r _ [14, 9, 10, 21, 22] (by decide +kernel) (by decide +kernel)
set_option maxRecDepth 20000 in
theorem gX1_noteFirst_X5_set : GoodIn wsX1_noteFirst (wsV RX1 40 RX5 yX5_set wsX5_set) := goodIn_app (goodIn_of _ (by decide +kernel)) ggX1_noteFirst_X5_set
set_option maxRecDepth 20000 in
theorem ggX2_init_X5_init : GoodIn wsX2_init wsX5_init := goodIn_r _ [14, 15, 2, 3, 16, 17, 18, 23, 24] (by decide +kernel) (by decide +kernel)
set_option maxRecDepth 20000 in
theorem gX2_init_X5_init : GoodIn wsX2_init (wsX5_init) := ggX2_init_X5_init
set_option maxRecDepth 20000 in
theorem ggX2_init_X5_set : GoodIn wsX2_init wsX5_set := goodIn_r _ [22, 16, 18, 23, 24] (by decide +kernel) (by decide +kernel)
set_option maxRecDepth 20000 in
theorem gX2_init_X5_set : GoodIn wsX2_init (wsV RX2 38 RX5 yX5_set wsX5_set) := goodIn_app (goodIn_of _ (by decide +kernel)) ggX2_init_X5_set
set_option maxRecDepth 20000 in
theorem ggX2_copyFrom_X5_copyFrom : GoodIn wsX2_copyFrom wsX5_copyFrom := goodIn_r _ [10, 11, 17, 18] (by decide +kernel) (by decide +kernel)
set_option maxRecDepth 20000 in
theorem gX2_copyFrom_X5_copyFrom : GoodIn wsX2_copyFrom (wsV RX2 42 RX5 yX5_copyFrom wsX5_copyFrom) := goodIn_app (goodIn_of _ (by decide +kernel)) ggX2_copyFrom_X5_copyFrom
set_option maxRecDepth 20000 in
theorem ggX2_get_X5_get : GoodIn wsX2_get wsX5_get := goodIn_r _ [6, 7, 8, 14, 15] (by decide +kernel) (by decide +kernel)
set_option maxRecDepth 20000 in
theorem gX2_get_X5_get : GoodIn wsX2_get (wsV RX2 46 RX5 yX5_get wsX5_get) := goodIn_app (goodIn_of _ (by decide +kernel)) ggX2_get_X5_get
set_option maxRecDepth 20000 in
theorem ggX2_isKept_X5_get : GoodIn wsX2_isKept wsX5_get := goodIn_r _ [6, 7, 8, 14, 15] (by decide +kernel) (by decide +kernel)
set_option maxRecDepth 20000 in
theorem gX2_isKept_X5_get : GoodIn wsX2_isKept (wsV RX2 46 RX5 yX5_get wsX5_get) := goodIn_app (goodIn_of _ (by decide +kernel)) ggX2_isKept_X5_get
set_option maxRecDepth 20000 in
theorem ggX2_arrivesOf_X5_get : GoodIn wsX2_arrivesOf wsX5_get := goodIn_r _ [6, 7, 8, 14, 15] (by decide +kernel) (by decide +kernel)
set_option maxRecDepth 20000 in
theorem gX2_arrivesOf_X5_get : GoodIn wsX2_arrivesOf (wsV RX2 46 RX5 yX5_get wsX5_get) := goodIn_app (goodIn_of _ (by decide +kernel)) ggX2_arrivesOf_X5_get
set_option maxRecDepth 20000 in
theorem ggX2_takeOut_X2_isKept : GoodIn wsX2_takeOut wsX2_isKept := goodIn_r _ [6, 1, 7, 8, 9, 10, 11, 12, 13, 18, 19, 20, 21, 22, 23, 24] (by decide +kernel) (by decide +kernel)
set_option maxRecDepth 20000 in
theorem gX2_takeOut_X2_isKept : GoodIn wsX2_takeOut (wsV RX2 50 RX2 yX2_isKept wsX2_isKept) := goodIn_app (goodIn_of _ (by decide +kernel)) ggX2_takeOut_X2_isKept
set_option maxRecDepth 20000 in
theorem ggX2_takeOut_X5_set : GoodIn wsX2_takeOut wsX5_set := goodIn_r _ [17, 12, 13, 23, 24] (by decide +kernel) (by decide +kernel)
set_option maxRecDepth 20000 in
theorem gX2_takeOut_X5_set : GoodIn wsX2_takeOut (wsV RX2 38 RX5 yX5_set wsX5_set) := goodIn_app (goodIn_of _ (by decide +kernel)) ggX2_takeOut_X5_set
set_option maxRecDepth 20000 in
theorem ggX2_countKept_X2_isKept : GoodIn wsX2_countKept wsX2_isKept := goodIn_r _ [5, 6, 7, 8, 9, 10, 11, 12, 13, 14, 15, 16, 17, 18, 19, 20] (by decide +kernel) (by decide +kernel)
set_option maxRecDepth 20000 in
theorem gX2_countKept_X2_isKept : GoodIn wsX2_countKept (wsV RX2 50 RX2 yX2_isKept wsX2_isKept) := goodIn_app (goodIn_of _ (by decide +kernel)) ggX2_countKept_X2_isKept
set_option maxRecDepth 20000 in
theorem ggX2_hasFor_X2_isKept : GoodIn wsX2_hasFor wsX2_isKept := goodIn_r _ [6, 1, 7, 8, 9, 10, 11, 12, 13, 14, 15, 16, 17, 18, 19, 20] (by decide +kernel) (by decide +kernel)
set_option maxRecDepth 20000 in
theorem gX2_hasFor_X2_isKept : GoodIn wsX2_hasFor (wsV RX2 50 RX2 yX2_isKept wsX2_isKept) := goodIn_app (goodIn_of _ (by decide +kernel)) ggX2_hasFor_X2_isKept
set_option maxRecDepth 20000 in
theorem ggX2_hasFor_X5_get : GoodIn wsX2_hasFor wsX5_get := goodIn_r _ [11, 12, 13, 19, 20] (by decide +kernel) (by decide +kernel)
set_option maxRecDepth 20000 in
theorem gX2_hasFor_X5_get : GoodIn wsX2_hasFor (wsV RX2 46 RX5 yX5_get wsX5_get) := goodIn_app (goodIn_of _ (by decide +kernel)) ggX2_hasFor_X5_get
set_option maxRecDepth 20000 in
theorem ggX2_isDueAt_X2_isKept : GoodIn wsX2_isDueAt wsX2_isKept := goodIn_r _ [6, 1, 7, 8, 9, 10, 11, 12, 13, 18, 19, 20, 21, 22, 23, 24] (by decide +kernel) (by decide +kernel)
set_option maxRecDepth 20000 in
theorem gX2_isDueAt_X2_isKept : GoodIn wsX2_isDueAt (wsV RX2 50 RX2 yX2_isKept wsX2_isKept) := goodIn_app (goodIn_of _ (by decide +kernel)) ggX2_isDueAt_X2_isKept
set_option maxRecDepth 20000 in
theorem ggX2_isDueAt_X5_get : GoodIn wsX2_isDueAt wsX5_get := goodIn_r _ [11, 12, 13, 23, 24] (by decide +kernel) (by decide +kernel)
set_option maxRecDepth 20000 in
theorem gX2_isDueAt_X5_get : GoodIn wsX2_isDueAt (wsV RX2 46 RX5 yX5_get wsX5_get) := goodIn_app (goodIn_of _ (by decide +kernel)) ggX2_isDueAt_X5_get
set_option maxRecDepth 20000 in
theorem ggX2_isDueAt_X2_arrivesOf : GoodIn wsX2_isDueAt wsX2_arrivesOf := goodIn_r _ [17, 1, 7, 8, 9, 10, 11, 12, 13, 18, 19, 20, 21, 22, 23, 24] (by decide +kernel) (by decide +kernel)
set_option maxRecDepth 20000 in
theorem gX2_isDueAt_X2_arrivesOf : GoodIn wsX2_isDueAt (wsV RX2 54 RX2 yX2_arrivesOf wsX2_arrivesOf) := goodIn_app (goodIn_of _ (by decide +kernel)) ggX2_isDueAt_X2_arrivesOf
set_option maxRecDepth 20000 in
theorem ggX2_describe_X5_set : GoodIn wsX2_describe wsX5_set := goodIn_r _ [6, 7, 8, 14, 15] (by decide +kernel) (by decide +kernel)
set_option maxRecDepth 20000 in
theorem gX2_describe_X5_set : GoodIn wsX2_describe (wsV RX2 38 RX5 yX5_set wsX5_set) := goodIn_app (goodIn_of _ (by decide +kernel)) ggX2_describe_X5_set
set_option maxRecDepth 20000 in
theorem ggX2_lay_X5_get : GoodIn wsX2_lay wsX5_get := goodIn_r _ [9, 10, 11, 62, 63] (by decide +kernel) (by decide +kernel)
set_option maxRecDepth 20000 in
theorem gX2_lay_X5_get : GoodIn wsX2_lay (wsV RX2 46 RX5 yX5_get wsX5_get) := goodIn_app (goodIn_of _ (by decide +kernel)) ggX2_lay_X5_get
set_option maxRecDepth 20000 in
theorem ggX2_lay_X1_timeOf : GoodIn wsX2_lay wsX1_timeOf := goodIn_r _ [16, 17, 18, 6, 7, 8, 9, 10, 11, 64, 65, 66, 67, 68, 69, 62, 63] (by decide +kernel) (by decide +kernel)
set_option maxRecDepth 20000 in
theorem gX2_lay_X1_timeOf : GoodIn wsX2_lay (wsV RX2 58 RX1 yX1_timeOf wsX1_timeOf) := goodIn_app (goodIn_of _ (by decide +kernel)) ggX2_lay_X1_timeOf
set_option maxRecDepth 20000 in
theorem ggX2_lay_X5_set : GoodIn wsX2_lay wsX5_set := goodIn_r _ [22, 10, 11, 62, 63] (by decide +kernel) (by decide +kernel)
set_option maxRecDepth 20000 in
theorem gX2_lay_X5_set : GoodIn wsX2_lay (wsV RX2 38 RX5 yX5_set wsX5_set) := goodIn_app (goodIn_of _ (by decide +kernel)) ggX2_lay_X5_set
set_option maxRecDepth 20000 in
theorem ggX2_lay_X1_linesOf : GoodIn wsX2_lay wsX1_linesOf := goodIn_r _ [26, 17, 27, 28, 18, 6, 7, 8, 9, 10, 11, 29, 30, 31, 15, 32, 64, 65, 66, 67, 68, 69, 62, 63] (by decide +kernel) (by decide +kernel)
set_option maxRecDepth 20000 in
theorem gX2_lay_X1_linesOf : GoodIn wsX2_lay (wsV RX2 61 RX1 yX1_linesOf wsX1_linesOf) := goodIn_app (goodIn_of _ (by decide +kernel)) ggX2_lay_X1_linesOf
set_option maxRecDepth 20000 in
theorem ggX2_lay_X1_firstOf : GoodIn wsX2_lay wsX1_firstOf := goodIn_r _ [36, 27, 18, 6, 7, 8, 9, 10, 11, 64, 65, 66, 67, 68, 69, 62, 63] (by decide +kernel) (by decide +kernel)
set_option maxRecDepth 20000 in
theorem gX2_lay_X1_firstOf : GoodIn wsX2_lay (wsV RX2 64 RX1 yX1_firstOf wsX1_firstOf) := goodIn_app (goodIn_of _ (by decide +kernel)) ggX2_lay_X1_firstOf
set_option maxRecDepth 20000 in
theorem ggX2_lay_X1_getLine : GoodIn wsX2_lay wsX1_getLine := goodIn_r _ [40, 28, 18, 6, 7, 8, 9, 10, 11, 64, 65, 66, 67, 68, 69, 62, 63] (by decide +kernel) (by decide +kernel)
set_option maxRecDepth 20000 in
theorem gX2_lay_X1_getLine : GoodIn wsX2_lay (wsV RX2 67 RX1 yX1_getLine wsX1_getLine) := goodIn_app (goodIn_of _ (by decide +kernel)) ggX2_lay_X1_getLine
set_option maxRecDepth 20000 in
theorem ggX2_lay_X2_noteTrack : GoodIn wsX2_lay wsX2_noteTrack := goodIn_r _ [45, 46, 37, 38, 39, 15, 40, 28, 18, 6, 7, 8, 9, 10, 11, 19, 20, 21, 22, 47, 48, 49, 50, 57, 58, 59, 60, 61, 64, 65, 66, 67, 68, 69, 62, 63] (by decide +kernel) (by decide +kernel)
set_option maxRecDepth 20000 in
theorem gX2_lay_X2_noteTrack : GoodIn wsX2_lay (wsV RX2 70 RX2 yX2_noteTrack wsX2_noteTrack) := goodIn_app (goodIn_of _ (by decide +kernel)) ggX2_lay_X2_noteTrack
set_option maxRecDepth 20000 in
theorem ggX2_lay_X1_endOf : GoodIn wsX2_lay wsX1_endOf := goodIn_r _ [32, 28, 18, 6, 7, 8, 9, 10, 11, 64, 65, 66, 67, 68, 69, 62, 63] (by decide +kernel) (by decide +kernel)
set_option maxRecDepth 20000 in
theorem gX2_lay_X1_endOf : GoodIn wsX2_lay (wsV RX2 74 RX1 yX1_endOf wsX1_endOf) := goodIn_app (goodIn_of _ (by decide +kernel)) ggX2_lay_X1_endOf
set_option maxRecDepth 20000 in
theorem ggX2_lay_X1_getStation : GoodIn wsX2_lay wsX1_getStation := goodIn_r _ [55, 56, 18, 6, 7, 8, 9, 10, 11, 64, 65, 66, 67, 68, 69, 62, 63] (by decide +kernel) (by decide +kernel)
set_option maxRecDepth 20000 in
theorem gX2_lay_X1_getStation : GoodIn wsX2_lay (wsV RX2 78 RX1 yX1_getStation wsX1_getStation) := goodIn_app (goodIn_of _ (by decide +kernel)) ggX2_lay_X1_getStation
set_option maxRecDepth 20000 in
theorem ggX2_noteTrack_X1_getLine : GoodIn wsX2_noteTrack wsX1_getLine := goodIn_r _ [6, 7, 8, 9, 10, 11, 12, 13, 14, 28, 29, 30, 31, 32, 33, 34, 35] (by decide +kernel) (by decide +kernel)
set_option maxRecDepth 20000 in
theorem gX2_noteTrack_X1_getLine : GoodIn wsX2_noteTrack (wsV RX2 67 RX1 yX1_getLine wsX1_getLine) := goodIn_app (goodIn_of _ (by decide +kernel)) ggX2_noteTrack_X1_getLine
set_option maxRecDepth 20000 in
theorem ggX2_noteTrack_X5_set : GoodIn wsX2_noteTrack wsX5_set := goodIn_r _ [18, 13, 14, 34, 35] (by decide +kernel) (by decide +kernel)
set_option maxRecDepth 20000 in
theorem gX2_noteTrack_X5_set : GoodIn wsX2_noteTrack (wsV RX2 38 RX5 yX5_set wsX5_set) := goodIn_app (goodIn_of _ (by decide +kernel)) ggX2_noteTrack_X5_set
set_option maxRecDepth 20000 in
theorem ggX2_noteTrack_X1_isDouble : GoodIn wsX2_noteTrack wsX1_isDouble := goodIn_r _ [22, 7, 8, 9, 10, 11, 12, 13, 14, 28, 29, 30, 31, 32, 33, 34, 35] (by decide +kernel) (by decide +kernel)
set_option maxRecDepth 20000 in
theorem gX2_noteTrack_X1_isDouble : GoodIn wsX2_noteTrack (wsV RX2 81 RX1 yX1_isDouble wsX1_isDouble) := goodIn_app (goodIn_of _ (by decide +kernel)) ggX2_noteTrack_X1_isDouble
set_option maxRecDepth 20000 in
theorem ggX2_findStart_X5_set : GoodIn wsX2_findStart wsX5_set := goodIn_r _ [6, 7, 8, 47, 48] (by decide +kernel) (by decide +kernel)
set_option maxRecDepth 20000 in
theorem gX2_findStart_X5_set : GoodIn wsX2_findStart (wsV RX2 38 RX5 yX5_set wsX5_set) := goodIn_app (goodIn_of _ (by decide +kernel)) ggX2_findStart_X5_set
set_option maxRecDepth 20000 in
theorem ggX2_findStart_X2_firstFouledLine : GoodIn wsX2_findStart wsX2_firstFouledLine := goodIn_r _ [13, 1, 14, 15, 16, 17, 5, 18, 7, 8, 19, 20, 21, 12, 22, 23, 24, 25, 26, 27, 28, 29, 42, 43, 44, 45, 46, 47, 48] (by decide +kernel) (by decide +kernel)
set_option maxRecDepth 20000 in
theorem gX2_findStart_X2_firstFouledLine : GoodIn wsX2_findStart (wsV RX2 84 RX2 yX2_firstFouledLine wsX2_firstFouledLine) := goodIn_app (goodIn_of _ (by decide +kernel)) ggX2_findStart_X2_firstFouledLine
set_option maxRecDepth 20000 in
theorem ggX2_findStart_X2_foulsAtRamps : GoodIn wsX2_findStart wsX2_foulsAtRamps := goodIn_r _ [33, 1, 34, 35, 36, 12, 37, 15, 16, 17, 5, 18, 7, 8, 38, 39, 40, 41, 42, 43, 44, 45, 46, 47, 48] (by decide +kernel) (by decide +kernel)
set_option maxRecDepth 20000 in
theorem gX2_findStart_X2_foulsAtRamps : GoodIn wsX2_findStart (wsV RX2 87 RX2 yX2_foulsAtRamps wsX2_foulsAtRamps) := goodIn_app (goodIn_of _ (by decide +kernel)) ggX2_findStart_X2_foulsAtRamps
set_option maxRecDepth 20000 in
theorem ggX2_firstFouledLine_X5_get : GoodIn wsX2_firstFouledLine wsX5_get := goodIn_r _ [7, 8, 9, 27, 28] (by decide +kernel) (by decide +kernel)
set_option maxRecDepth 20000 in
theorem gX2_firstFouledLine_X5_get : GoodIn wsX2_firstFouledLine (wsV RX2 46 RX5 yX5_get wsX5_get) := goodIn_app (goodIn_of _ (by decide +kernel)) ggX2_firstFouledLine_X5_get
set_option maxRecDepth 20000 in
theorem ggX2_firstFouledLine_X2_foulsOn : GoodIn wsX2_firstFouledLine wsX2_foulsOn := goodIn_r _ [14, 1, 15, 16, 17, 18, 19, 20, 21, 3, 4, 5, 6, 7, 8, 9, 22, 23, 24, 25, 26, 27, 28] (by decide +kernel) (by decide +kernel)
set_option maxRecDepth 20000 in
theorem gX2_firstFouledLine_X2_foulsOn : GoodIn wsX2_firstFouledLine (wsV RX2 90 RX2 yX2_foulsOn wsX2_foulsOn) := goodIn_app (goodIn_of _ (by decide +kernel)) ggX2_firstFouledLine_X2_foulsOn
set_option maxRecDepth 20000 in
theorem ggX2_foulsOn_X5_get : GoodIn wsX2_foulsOn wsX5_get := goodIn_r _ [13, 14, 15, 21, 22] (by decide +kernel) (by decide +kernel)
set_option maxRecDepth 20000 in
theorem gX2_foulsOn_X5_get : GoodIn wsX2_foulsOn (wsV RX2 46 RX5 yX5_get wsX5_get) := goodIn_app (goodIn_of _ (by decide +kernel)) ggX2_foulsOn_X5_get
set_option maxRecDepth 20000 in
theorem ggX2_foulsAtRamps_X2_arrivesOf : GoodIn wsX2_foulsAtRamps wsX2_arrivesOf := goodIn_r _ [6, 1, 7, 8, 9, 10, 11, 12, 13, 18, 19, 20, 21, 22, 23, 24] (by decide +kernel) (by decide +kernel)
set_option maxRecDepth 20000 in
theorem gX2_foulsAtRamps_X2_arrivesOf : GoodIn wsX2_foulsAtRamps (wsV RX2 54 RX2 yX2_arrivesOf wsX2_arrivesOf) := goodIn_app (goodIn_of _ (by decide +kernel)) ggX2_foulsAtRamps_X2_arrivesOf
set_option maxRecDepth 20000 in
theorem ggX2_foulsAtRamps_X5_get : GoodIn wsX2_foulsAtRamps wsX5_get := goodIn_r _ [11, 12, 13, 23, 24] (by decide +kernel) (by decide +kernel)
set_option maxRecDepth 20000 in
theorem gX2_foulsAtRamps_X5_get : GoodIn wsX2_foulsAtRamps (wsV RX2 46 RX5 yX5_get wsX5_get) := goodIn_app (goodIn_of _ (by decide +kernel)) ggX2_foulsAtRamps_X5_get
set_option maxRecDepth 20000 in
theorem ggX2_foulsAtRamps_X2_countAtRamps : GoodIn wsX2_foulsAtRamps wsX2_countAtRamps := goodIn_r _ [17, 1, 7, 8, 9, 10, 11, 12, 13, 18, 19, 20, 21, 22, 23, 24] (by decide +kernel) (by decide +kernel)
set_option maxRecDepth 20000 in
theorem gX2_foulsAtRamps_X2_countAtRamps : GoodIn wsX2_foulsAtRamps (wsV RX2 99 RX2 yX2_countAtRamps wsX2_countAtRamps) := goodIn_app (goodIn_of _ (by decide +kernel)) ggX2_foulsAtRamps_X2_countAtRamps
set_option maxRecDepth 20000 in
theorem ggX2_countAtRamps_X5_get : GoodIn wsX2_countAtRamps wsX5_get := goodIn_r _ [6, 7, 8, 14, 15] (by decide +kernel) (by decide +kernel)
set_option maxRecDepth 20000 in
theorem gX2_countAtRamps_X5_get : GoodIn wsX2_countAtRamps (wsV RX2 46 RX5 yX5_get wsX5_get) := goodIn_app (goodIn_of _ (by decide +kernel)) ggX2_countAtRamps_X5_get
set_option maxRecDepth 20000 in
theorem ggX2_areApart_X2_isKept : GoodIn wsX2_areApart wsX2_isKept := goodIn_r _ [5, 6, 7, 8, 9, 10, 11, 12, 13, 30, 31, 32, 33, 34, 35, 36] (by decide +kernel) (by decide +kernel)
set_option maxRecDepth 20000 in
theorem gX2_areApart_X2_isKept : GoodIn wsX2_areApart (wsV RX2 50 RX2 yX2_isKept wsX2_isKept) := goodIn_app (goodIn_of _ (by decide +kernel)) ggX2_areApart_X2_isKept
set_option maxRecDepth 20000 in
theorem ggX2_areApart_X2_firstFouledLine : GoodIn wsX2_areApart wsX2_firstFouledLine := goodIn_r _ [17, 6, 18, 7, 8, 9, 10, 11, 12, 13, 19, 20, 21, 4, 22, 23, 24, 25, 26, 27, 28, 29, 30, 31, 32, 33, 34, 35, 36] (by decide +kernel) (by decide +kernel)
set_option maxRecDepth 20000 in
theorem gX2_areApart_X2_firstFouledLine : GoodIn wsX2_areApart (wsV RX2 84 RX2 yX2_firstFouledLine wsX2_firstFouledLine) := goodIn_app (goodIn_of _ (by decide +kernel)) ggX2_areApart_X2_firstFouledLine
set_option maxRecDepth 20000 in
theorem ggX3_init_X5_init : GoodIn wsX3_init wsX5_init := goodIn_r _ [10, 11, 2, 3, 12, 13, 14, 19, 20] (by decide +kernel) (by decide +kernel)
set_option maxRecDepth 20000 in
theorem gX3_init_X5_init : GoodIn wsX3_init (wsX5_init) := ggX3_init_X5_init
set_option maxRecDepth 20000 in
theorem ggX3_init_X5_set : GoodIn wsX3_init wsX5_set := goodIn_r _ [18, 12, 14, 19, 20] (by decide +kernel) (by decide +kernel)
set_option maxRecDepth 20000 in
theorem gX3_init_X5_set : GoodIn wsX3_init (wsV RX3 20 RX5 yX5_set wsX5_set) := goodIn_app (goodIn_of _ (by decide +kernel)) ggX3_init_X5_set
set_option maxRecDepth 20000 in
theorem ggX3_get_X5_get : GoodIn wsX3_get wsX5_get := goodIn_r _ [6, 7, 8, 10, 11] (by decide +kernel) (by decide +kernel)
set_option maxRecDepth 20000 in
theorem gX3_get_X5_get : GoodIn wsX3_get (wsV RX3 24 RX5 yX5_get wsX5_get) := goodIn_app (goodIn_of _ (by decide +kernel)) ggX3_get_X5_get
set_option maxRecDepth 20000 in
theorem ggX3_set_X5_set : GoodIn wsX3_set wsX5_set := goodIn_r _ [6, 7, 8, 10, 11] (by decide +kernel) (by decide +kernel)
set_option maxRecDepth 20000 in
theorem gX3_set_X5_set : GoodIn wsX3_set (wsV RX3 20 RX5 yX5_set wsX5_set) := goodIn_app (goodIn_of _ (by decide +kernel)) ggX3_set_X5_set
set_option maxRecDepth 20000 in
theorem ggX3_add_X5_add : GoodIn wsX3_add wsX5_add := goodIn_r _ [6, 7, 8, 10, 11] (by decide +kernel) (by decide +kernel)
set_option maxRecDepth 20000 in
theorem gX3_add_X5_add : GoodIn wsX3_add (wsV RX3 28 RX5 yX5_add wsX5_add) := goodIn_app (goodIn_of _ (by decide +kernel)) ggX3_add_X5_add
set_option maxRecDepth 20000 in
theorem ggX3_store_X5_get : GoodIn wsX3_store wsX5_get := goodIn_r _ [10, 11, 12, 18, 19] (by decide +kernel) (by decide +kernel)
set_option maxRecDepth 20000 in
theorem gX3_store_X5_get : GoodIn wsX3_store (wsV RX3 24 RX5 yX5_get wsX5_get) := goodIn_app (goodIn_of _ (by decide +kernel)) ggX3_store_X5_get
set_option maxRecDepth 20000 in
theorem ggX3_store_X5_set : GoodIn wsX3_store wsX5_set := goodIn_r _ [16, 11, 12, 18, 19] (by decide +kernel) (by decide +kernel)
set_option maxRecDepth 20000 in
theorem gX3_store_X5_set : GoodIn wsX3_store (wsV RX3 20 RX5 yX5_set wsX5_set) := goodIn_app (goodIn_of _ (by decide +kernel)) ggX3_store_X5_set
set_option maxRecDepth 20000 in
theorem ggX3_feed_X3_store : GoodIn wsX3_feed wsX3_store := goodIn_r _ [10, 1, 11, 12, 4, 13, 14, 15, 16, 17, 18, 19, 20, 21, 22, 23, 24, 25, 26, 27] (by decide +kernel) (by decide +kernel)
set_option maxRecDepth 20000 in
theorem gX3_feed_X3_store : GoodIn wsX3_feed (wsV RX3 36 RX3 yX3_store wsX3_store) := goodIn_app (goodIn_of _ (by decide +kernel)) ggX3_feed_X3_store
set_option maxRecDepth 20000 in
theorem ggX3_feed_X5_get : GoodIn wsX3_feed wsX5_get := goodIn_r _ [18, 19, 20, 26, 27] (by decide +kernel) (by decide +kernel)
set_option maxRecDepth 20000 in
theorem gX3_feed_X5_get : GoodIn wsX3_feed (wsV RX3 24 RX5 yX5_get wsX5_get) := goodIn_app (goodIn_of _ (by decide +kernel)) ggX3_feed_X5_get
set_option maxRecDepth 20000 in
theorem ggX3_feed_X5_set : GoodIn wsX3_feed wsX5_set := goodIn_r _ [24, 19, 20, 26, 27] (by decide +kernel) (by decide +kernel)
set_option maxRecDepth 20000 in
theorem gX3_feed_X5_set : GoodIn wsX3_feed (wsV RX3 20 RX5 yX5_set wsX5_set) := goodIn_app (goodIn_of _ (by decide +kernel)) ggX3_feed_X5_set
set_option maxRecDepth 20000 in
theorem ggX3_fight_X5_get : GoodIn wsX3_fight wsX5_get := goodIn_r _ [13, 14, 15, 29, 30] (by decide +kernel) (by decide +kernel)
set_option maxRecDepth 20000 in
theorem gX3_fight_X5_get : GoodIn wsX3_fight (wsV RX3 24 RX5 yX5_get wsX5_get) := goodIn_app (goodIn_of _ (by decide +kernel)) ggX3_fight_X5_get
set_option maxRecDepth 20000 in
theorem ggX3_fight_J6_compare_7cf53 : GoodIn wsX3_fight wsJ6_compare_7cf53 := goodIn_r _ [19] (by decide +kernel) (by decide +kernel)
set_option maxRecDepth 20000 in
theorem gX3_fight_J6_compare_7cf53 : GoodIn wsX3_fight (va_wsS RX3 42 yJ6_compare_7cf53 wsJ6_compare_7cf53) := goodIn_app (goodIn_of _ (by decide +kernel)) ggX3_fight_J6_compare_7cf53
set_option maxRecDepth 20000 in
theorem ggX3_fight_X5_set : GoodIn wsX3_fight wsX5_set := goodIn_r _ [23, 14, 15, 29, 30] (by decide +kernel) (by decide +kernel)
set_option maxRecDepth 20000 in
theorem gX3_fight_X5_set : GoodIn wsX3_fight (wsV RX3 20 RX5 yX5_set wsX5_set) := goodIn_app (goodIn_of _ (by decide +kernel)) ggX3_fight_X5_set
set_option maxRecDepth 20000 in
theorem ggX3_fight_X5_add : GoodIn wsX3_fight wsX5_add := goodIn_r _ [27, 14, 15, 29, 30] (by decide +kernel) (by decide +kernel)
set_option maxRecDepth 20000 in
theorem gX3_fight_X5_add : GoodIn wsX3_fight (wsV RX3 28 RX5 yX5_add wsX5_add) := goodIn_app (goodIn_of _ (by decide +kernel)) ggX3_fight_X5_add
set_option maxRecDepth 20000 in
theorem ggX3_takeHome_X5_get : GoodIn wsX3_takeHome wsX5_get := goodIn_r _ [10, 11, 12, 18, 19] (by decide +kernel) (by decide +kernel)
set_option maxRecDepth 20000 in
theorem gX3_takeHome_X5_get : GoodIn wsX3_takeHome (wsV RX3 24 RX5 yX5_get wsX5_get) := goodIn_app (goodIn_of _ (by decide +kernel)) ggX3_takeHome_X5_get
set_option maxRecDepth 20000 in
theorem ggX3_takeHome_X5_add : GoodIn wsX3_takeHome wsX5_add := goodIn_r _ [16, 11, 12, 18, 19] (by decide +kernel) (by decide +kernel)
set_option maxRecDepth 20000 in
theorem gX3_takeHome_X5_add : GoodIn wsX3_takeHome (wsV RX3 28 RX5 yX5_add wsX5_add) := goodIn_app (goodIn_of _ (by decide +kernel)) ggX3_takeHome_X5_add
set_option maxRecDepth 20000 in
theorem ggX3_takeRoad_X5_get : GoodIn wsX3_takeRoad wsX5_get := goodIn_r _ [10, 11, 12, 18, 19] (by decide +kernel) (by decide +kernel)
set_option maxRecDepth 20000 in
theorem gX3_takeRoad_X5_get : GoodIn wsX3_takeRoad (wsV RX3 24 RX5 yX5_get wsX5_get) := goodIn_app (goodIn_of _ (by decide +kernel)) ggX3_takeRoad_X5_get
set_option maxRecDepth 20000 in
theorem ggX3_takeRoad_X5_set : GoodIn wsX3_takeRoad wsX5_set := goodIn_r _ [16, 11, 12, 18, 19] (by decide +kernel) (by decide +kernel)
set_option maxRecDepth 20000 in
theorem gX3_takeRoad_X5_set : GoodIn wsX3_takeRoad (wsV RX3 20 RX5 yX5_set wsX5_set) := goodIn_app (goodIn_of _ (by decide +kernel)) ggX3_takeRoad_X5_set
set_option maxRecDepth 20000 in
theorem ggX4_init_X5_init : GoodIn wsX4_init wsX5_init := goodIn_r _ [11, 12, 2, 3, 13, 14, 15, 16, 17] (by decide +kernel) (by decide +kernel)
set_option maxRecDepth 20000 in
theorem gX4_init_X5_init : GoodIn wsX4_init (wsX5_init) := ggX4_init_X5_init
set_option maxRecDepth 20000 in
theorem ggX4_get_X5_get : GoodIn wsX4_get wsX5_get := goodIn_r _ [6, 7, 8, 11, 12] (by decide +kernel) (by decide +kernel)
set_option maxRecDepth 20000 in
theorem gX4_get_X5_get : GoodIn wsX4_get (wsV RX4 24 RX5 yX5_get wsX5_get) := goodIn_app (goodIn_of _ (by decide +kernel)) ggX4_get_X5_get
set_option maxRecDepth 20000 in
theorem ggX4_freeRow_X5_get : GoodIn wsX4_freeRow wsX5_get := goodIn_r _ [6, 7, 8, 11, 12] (by decide +kernel) (by decide +kernel)
set_option maxRecDepth 20000 in
theorem gX4_freeRow_X5_get : GoodIn wsX4_freeRow (wsV RX4 24 RX5 yX5_get wsX5_get) := goodIn_app (goodIn_of _ (by decide +kernel)) ggX4_freeRow_X5_get
set_option maxRecDepth 20000 in
theorem ggX4_count_X5_get : GoodIn wsX4_count wsX5_get := goodIn_r _ [6, 7, 8, 11, 12] (by decide +kernel) (by decide +kernel)
set_option maxRecDepth 20000 in
theorem gX4_count_X5_get : GoodIn wsX4_count (wsV RX4 24 RX5 yX5_get wsX5_get) := goodIn_app (goodIn_of _ (by decide +kernel)) ggX4_count_X5_get
set_option maxRecDepth 20000 in
theorem ggX4_send_X5_set : GoodIn wsX4_send wsX5_set := goodIn_r _ [7, 8, 9, 12, 13] (by decide +kernel) (by decide +kernel)
set_option maxRecDepth 20000 in
theorem gX4_send_X5_set : GoodIn wsX4_send (wsV RX4 28 RX5 yX5_set wsX5_set) := goodIn_app (goodIn_of _ (by decide +kernel)) ggX4_send_X5_set
set_option maxRecDepth 20000 in
theorem ggX4_leave_X5_set : GoodIn wsX4_leave wsX5_set := goodIn_r _ [6, 7, 8, 11, 12] (by decide +kernel) (by decide +kernel)
set_option maxRecDepth 20000 in
theorem gX4_leave_X5_set : GoodIn wsX4_leave (wsV RX4 28 RX5 yX5_set wsX5_set) := goodIn_app (goodIn_of _ (by decide +kernel)) ggX4_leave_X5_set
set_option maxRecDepth 20000 in
theorem ggX4_free_X5_set : GoodIn wsX4_free wsX5_set := goodIn_r _ [6, 7, 8, 11, 12] (by decide +kernel) (by decide +kernel)
set_option maxRecDepth 20000 in
theorem gX4_free_X5_set : GoodIn wsX4_free (wsV RX4 28 RX5 yX5_set wsX5_set) := goodIn_app (goodIn_of _ (by decide +kernel)) ggX4_free_X5_set
set_option maxRecDepth 20000 in
theorem ggX4_nextBehind_X5_get : GoodIn wsX4_nextBehind wsX5_get := goodIn_r _ [6, 7, 8, 11, 12] (by decide +kernel) (by decide +kernel)
set_option maxRecDepth 20000 in
theorem gX4_nextBehind_X5_get : GoodIn wsX4_nextBehind (wsV RX4 24 RX5 yX5_get wsX5_get) := goodIn_app (goodIn_of _ (by decide +kernel)) ggX4_nextBehind_X5_get
