set_option maxRecDepth 20000 in
theorem ggX6_init_X5_init : GoodIn wsX6_init wsX5_init := goodIn_r _ [12, 13, 2, 3, 14, 15, 16, 17, 18] (by decide +kernel) (by decide +kernel)
set_option maxRecDepth 20000 in
theorem gX6_init_X5_init : GoodIn wsX6_init (wsX5_init) := ggX6_init_X5_init
set_option maxRecDepth 20000 in
theorem ggX6_get_X5_get : GoodIn wsX6_get wsX5_get := goodIn_r _ [6, 7, 8, 12, 13] (by decide +kernel) (by decide +kernel)
set_option maxRecDepth 20000 in
theorem gX6_get_X5_get : GoodIn wsX6_get (wsV RX6 27 RX5 yX5_get wsX5_get) := goodIn_app (goodIn_of _ (by decide +kernel)) ggX6_get_X5_get
set_option maxRecDepth 20000 in
theorem ggX6_set_X5_set : GoodIn wsX6_set wsX5_set := goodIn_r _ [6, 7, 8, 12, 13] (by decide +kernel) (by decide +kernel)
set_option maxRecDepth 20000 in
theorem gX6_set_X5_set : GoodIn wsX6_set (wsV RX6 31 RX5 yX5_set wsX5_set) := goodIn_app (goodIn_of _ (by decide +kernel)) ggX6_set_X5_set
set_option maxRecDepth 20000 in
theorem ggX6_add_X5_add : GoodIn wsX6_add wsX5_add := goodIn_r _ [6, 7, 8, 12, 13] (by decide +kernel) (by decide +kernel)
set_option maxRecDepth 20000 in
theorem gX6_add_X5_add : GoodIn wsX6_add (wsV RX6 35 RX5 yX5_add wsX5_add) := goodIn_app (goodIn_of _ (by decide +kernel)) ggX6_add_X5_add
set_option maxRecDepth 20000 in
theorem ggX6_stand_X5_set : GoodIn wsX6_stand wsX5_set := goodIn_r _ [7, 8, 9, 13, 14] (by decide +kernel) (by decide +kernel)
set_option maxRecDepth 20000 in
theorem gX6_stand_X5_set : GoodIn wsX6_stand (wsV RX6 31 RX5 yX5_set wsX5_set) := goodIn_app (goodIn_of _ (by decide +kernel)) ggX6_stand_X5_set
set_option maxRecDepth 20000 in
theorem ggX6_lateOf_X5_get : GoodIn wsX6_lateOf wsX5_get := goodIn_r _ [10, 11, 12, 16, 17] (by decide +kernel) (by decide +kernel)
set_option maxRecDepth 20000 in
theorem gX6_lateOf_X5_get : GoodIn wsX6_lateOf (wsV RX6 27 RX5 yX5_get wsX5_get) := goodIn_app (goodIn_of _ (by decide +kernel)) ggX6_lateOf_X5_get
set_option maxRecDepth 20000 in
theorem ggX6_greatestLate_X6_lateOf : GoodIn wsX6_greatestLate wsX6_lateOf := goodIn_r _ [10, 11, 2, 3, 4, 5, 12, 13, 14, 15, 16, 17, 18, 19, 20, 21, 22, 23] (by decide +kernel) (by decide +kernel)
set_option maxRecDepth 20000 in
theorem gX6_greatestLate_X6_lateOf : GoodIn wsX6_greatestLate (wsV RX6 43 RX6 yX6_lateOf wsX6_lateOf) := goodIn_app (goodIn_of _ (by decide +kernel)) ggX6_greatestLate_X6_lateOf
set_option maxRecDepth 20000 in
theorem ggX6_countDone_X5_get : GoodIn wsX6_countDone wsX5_get := goodIn_r _ [7, 8, 9, 13, 14] (by decide +kernel) (by decide +kernel)
set_option maxRecDepth 20000 in
theorem gX6_countDone_X5_get : GoodIn wsX6_countDone (wsV RX6 27 RX5 yX5_get wsX5_get) := goodIn_app (goodIn_of _ (by decide +kernel)) ggX6_countDone_X5_get
set_option maxRecDepth 20000 in
theorem ggX6_hasFor_X5_get : GoodIn wsX6_hasFor wsX5_get := goodIn_r _ [7, 8, 9, 13, 14] (by decide +kernel) (by decide +kernel)
set_option maxRecDepth 20000 in
theorem gX6_hasFor_X5_get : GoodIn wsX6_hasFor (wsV RX6 27 RX5 yX5_get wsX5_get) := goodIn_app (goodIn_of _ (by decide +kernel)) ggX6_hasFor_X5_get
set_option maxRecDepth 20000 in
theorem ggX6_isAt_X5_get : GoodIn wsX6_isAt wsX5_get := goodIn_r _ [6, 7, 8, 12, 13] (by decide +kernel) (by decide +kernel)
set_option maxRecDepth 20000 in
theorem gX6_isAt_X5_get : GoodIn wsX6_isAt (wsV RX6 27 RX5 yX5_get wsX5_get) := goodIn_app (goodIn_of _ (by decide +kernel)) ggX6_isAt_X5_get
set_option maxRecDepth 20000 in
theorem ggX6_countAt_X6_isAt : GoodIn wsX6_countAt wsX6_isAt := goodIn_r _ [6, 7, 8, 9, 10, 11, 12, 13, 14, 15, 16, 17, 18, 19] (by decide +kernel) (by decide +kernel)
set_option maxRecDepth 20000 in
theorem gX6_countAt_X6_isAt : GoodIn wsX6_countAt (wsV RX6 46 RX6 yX6_isAt wsX6_isAt) := goodIn_app (goodIn_of _ (by decide +kernel)) ggX6_countAt_X6_isAt
set_option maxRecDepth 20000 in
theorem ggX6_countGuestsAt_X6_isAt : GoodIn wsX6_countGuestsAt wsX6_isAt := goodIn_r _ [7, 2, 8, 9, 10, 11, 12, 13, 14, 15, 16, 17, 18, 19] (by decide +kernel) (by decide +kernel)
set_option maxRecDepth 20000 in
theorem gX6_countGuestsAt_X6_isAt : GoodIn wsX6_countGuestsAt (wsV RX6 46 RX6 yX6_isAt wsX6_isAt) := goodIn_app (goodIn_of _ (by decide +kernel)) ggX6_countGuestsAt_X6_isAt
set_option maxRecDepth 20000 in
theorem ggX6_countGuestsAt_X5_get : GoodIn wsX6_countGuestsAt wsX5_get := goodIn_r _ [12, 13, 14, 18, 19] (by decide +kernel) (by decide +kernel)
set_option maxRecDepth 20000 in
theorem gX6_countGuestsAt_X5_get : GoodIn wsX6_countGuestsAt (wsV RX6 27 RX5 yX5_get wsX5_get) := goodIn_app (goodIn_of _ (by decide +kernel)) ggX6_countGuestsAt_X5_get
set_option maxRecDepth 20000 in
theorem ggX6_countUnloadingAt_X6_isAt : GoodIn wsX6_countUnloadingAt wsX6_isAt := goodIn_r _ [7, 2, 8, 9, 10, 11, 12, 13, 14, 15, 16, 17, 18, 19] (by decide +kernel) (by decide +kernel)
set_option maxRecDepth 20000 in
theorem gX6_countUnloadingAt_X6_isAt : GoodIn wsX6_countUnloadingAt (wsV RX6 46 RX6 yX6_isAt wsX6_isAt) := goodIn_app (goodIn_of _ (by decide +kernel)) ggX6_countUnloadingAt_X6_isAt
set_option maxRecDepth 20000 in
theorem ggX6_countUnloadingAt_X5_get : GoodIn wsX6_countUnloadingAt wsX5_get := goodIn_r _ [12, 13, 14, 18, 19] (by decide +kernel) (by decide +kernel)
set_option maxRecDepth 20000 in
theorem gX6_countUnloadingAt_X5_get : GoodIn wsX6_countUnloadingAt (wsV RX6 27 RX5 yX5_get wsX5_get) := goodIn_app (goodIn_of _ (by decide +kernel)) ggX6_countUnloadingAt_X5_get
set_option maxRecDepth 20000 in
theorem ggX6_countOn_X6_isOn : GoodIn wsX6_countOn wsX6_isOn := goodIn_r _ [6, 7, 8, 9, 10, 11, 12, 13, 14, 15, 16, 17, 18, 19] (by decide +kernel) (by decide +kernel)
set_option maxRecDepth 20000 in
theorem gX6_countOn_X6_isOn : GoodIn wsX6_countOn (wsV RX6 50 RX6 yX6_isOn wsX6_isOn) := goodIn_app (goodIn_of _ (by decide +kernel)) ggX6_countOn_X6_isOn
set_option maxRecDepth 20000 in
theorem ggX6_isOn_X5_get : GoodIn wsX6_isOn wsX5_get := goodIn_r _ [6, 7, 8, 12, 13] (by decide +kernel) (by decide +kernel)
set_option maxRecDepth 20000 in
theorem gX6_isOn_X5_get : GoodIn wsX6_isOn (wsV RX6 27 RX5 yX5_get wsX5_get) := goodIn_app (goodIn_of _ (by decide +kernel)) ggX6_isOn_X5_get
set_option maxRecDepth 20000 in
theorem ggX6_isTaken_X6_isOn : GoodIn wsX6_isTaken wsX6_isOn := goodIn_r _ [7, 2, 8, 9, 10, 11, 12, 13, 14, 15, 16, 17, 18, 19] (by decide +kernel) (by decide +kernel)
set_option maxRecDepth 20000 in
theorem gX6_isTaken_X6_isOn : GoodIn wsX6_isTaken (wsV RX6 50 RX6 yX6_isOn wsX6_isOn) := goodIn_app (goodIn_of _ (by decide +kernel)) ggX6_isTaken_X6_isOn
set_option maxRecDepth 20000 in
theorem ggX6_isTaken_X5_get : GoodIn wsX6_isTaken wsX5_get := goodIn_r _ [12, 13, 14, 18, 19] (by decide +kernel) (by decide +kernel)
set_option maxRecDepth 20000 in
theorem gX6_isTaken_X5_get : GoodIn wsX6_isTaken (wsV RX6 27 RX5 yX5_get wsX5_get) := goodIn_app (goodIn_of _ (by decide +kernel)) ggX6_isTaken_X5_get
set_option maxRecDepth 20000 in
theorem ggX6_isComing_X6_isOn : GoodIn wsX6_isComing wsX6_isOn := goodIn_r _ [7, 2, 8, 9, 10, 11, 12, 13, 14, 15, 16, 17, 18, 19] (by decide +kernel) (by decide +kernel)
set_option maxRecDepth 20000 in
theorem gX6_isComing_X6_isOn : GoodIn wsX6_isComing (wsV RX6 50 RX6 yX6_isOn wsX6_isOn) := goodIn_app (goodIn_of _ (by decide +kernel)) ggX6_isComing_X6_isOn
set_option maxRecDepth 20000 in
theorem ggX6_isComing_X5_get : GoodIn wsX6_isComing wsX5_get := goodIn_r _ [12, 13, 14, 18, 19] (by decide +kernel) (by decide +kernel)
set_option maxRecDepth 20000 in
theorem gX6_isComing_X5_get : GoodIn wsX6_isComing (wsV RX6 27 RX5 yX5_get wsX5_get) := goodIn_app (goodIn_of _ (by decide +kernel)) ggX6_isComing_X5_get
set_option maxRecDepth 20000 in
theorem ggX6_lineUp_X5_get : GoodIn wsX6_lineUp wsX5_get := goodIn_r _ [7, 8, 9, 31, 32] (by decide +kernel) (by decide +kernel)
set_option maxRecDepth 20000 in
theorem gX6_lineUp_X5_get : GoodIn wsX6_lineUp (wsV RX6 27 RX5 yX5_get wsX5_get) := goodIn_app (goodIn_of _ (by decide +kernel)) ggX6_lineUp_X5_get
set_option maxRecDepth 20000 in
theorem ggX6_lineUp_X6_placeIn : GoodIn wsX6_lineUp wsX6_placeIn := goodIn_r _ [14, 15, 16, 17, 18, 13, 19, 2, 20, 21, 22, 23, 3, 4, 5, 6, 7, 8, 9, 24, 25, 26, 27, 28, 29, 30, 31, 32] (by decide +kernel) (by decide +kernel)
set_option maxRecDepth 20000 in
theorem gX6_lineUp_X6_placeIn : GoodIn wsX6_lineUp (wsV RX6 53 RX6 yX6_placeIn wsX6_placeIn) := goodIn_app (goodIn_of _ (by decide +kernel)) ggX6_lineUp_X6_placeIn
set_option maxRecDepth 20000 in
theorem ggX6_placeIn_X6_lateOf : GoodIn wsX6_placeIn wsX6_lateOf := goodIn_r _ [6, 7, 8, 9, 10, 11, 12, 13, 14, 15, 16, 17, 18, 23, 24, 25, 26, 27] (by decide +kernel) (by decide +kernel)
set_option maxRecDepth 20000 in
theorem gX6_placeIn_X6_lateOf : GoodIn wsX6_placeIn (wsV RX6 43 RX6 yX6_lateOf wsX6_lateOf) := goodIn_app (goodIn_of _ (by decide +kernel)) ggX6_placeIn_X6_lateOf
set_option maxRecDepth 20000 in
theorem ggX6_placeIn_X5_get : GoodIn wsX6_placeIn wsX5_get := goodIn_r _ [16, 17, 18, 26, 27] (by decide +kernel) (by decide +kernel)
set_option maxRecDepth 20000 in
theorem gX6_placeIn_X5_get : GoodIn wsX6_placeIn (wsV RX6 27 RX5 yX5_get wsX5_get) := goodIn_app (goodIn_of _ (by decide +kernel)) ggX6_placeIn_X5_get
set_option maxRecDepth 20000 in
theorem ggX6_placeIn_X5_set : GoodIn wsX6_placeIn wsX5_set := goodIn_r _ [22, 17, 18, 26, 27] (by decide +kernel) (by decide +kernel)
set_option maxRecDepth 20000 in
theorem gX6_placeIn_X5_set : GoodIn wsX6_placeIn (wsV RX6 31 RX5 yX5_set wsX5_set) := goodIn_app (goodIn_of _ (by decide +kernel)) ggX6_placeIn_X5_set
set_option maxRecDepth 20000 in
theorem ggX6_inPlace_X5_get : GoodIn wsX6_inPlace wsX5_get := goodIn_r _ [6, 7, 8, 12, 13] (by decide +kernel) (by decide +kernel)
set_option maxRecDepth 20000 in
theorem gX6_inPlace_X5_get : GoodIn wsX6_inPlace (wsV RX6 27 RX5 yX5_get wsX5_get) := goodIn_app (goodIn_of _ (by decide +kernel)) ggX6_inPlace_X5_get
set_option maxRecDepth 20000 in
theorem ggX6_waitOf_X5_get : GoodIn wsX6_waitOf wsX5_get := goodIn_r _ [6, 7, 8, 75, 76] (by decide +kernel) (by decide +kernel)
set_option maxRecDepth 20000 in
theorem gX6_waitOf_X5_get : GoodIn wsX6_waitOf (wsV RX6 27 RX5 yX5_get wsX5_get) := goodIn_app (goodIn_of _ (by decide +kernel)) ggX6_waitOf_X5_get
set_option maxRecDepth 20000 in
theorem ggX6_waitOf_X6_waitAtStation : GoodIn wsX6_waitOf wsX6_waitAtStation := goodIn_r _ [13, 1, 2, 3, 4, 5, 6, 7, 8, 14, 15, 16, 12, 17, 18, 19, 20, 21, 22, 23, 24, 25, 26, 27, 28, 29, 30, 31, 32, 33, 34, 35, 36, 37, 38, 39, 40, 41, 42, 43, 44, 45, 46, 47, 48, 49, 50, 51, 52, 53, 54, 55, 72, 73, 74, 75, 76, 77, 78, 79, 80, 81, 82] (by decide +kernel) (by decide +kernel)
set_option maxRecDepth 20000 in
theorem gX6_waitOf_X6_waitAtStation : GoodIn wsX6_waitOf (wsV RX6 56 RX6 yX6_waitAtStation wsX6_waitAtStation) := goodIn_app (goodIn_of _ (by decide +kernel)) ggX6_waitOf_X6_waitAtStation
set_option maxRecDepth 20000 in
theorem ggX6_waitOf_X6_waitOnBlock : GoodIn wsX6_waitOf wsX6_waitOnBlock := goodIn_r _ [59, 1, 2, 3, 4, 5, 6, 7, 8, 60, 61, 62, 12, 63, 40, 41, 42, 26, 43, 39, 29, 35, 36, 37, 38, 44, 45, 46, 47, 18, 48, 49, 50, 51, 64, 65, 66, 67, 23, 24, 25, 27, 28, 68, 69, 70, 71, 19, 20, 21, 22, 72, 73, 74, 75, 76, 77, 78, 79, 80, 81, 82] (by decide +kernel) (by decide +kernel)
set_option maxRecDepth 20000 in
theorem gX6_waitOf_X6_waitOnBlock : GoodIn wsX6_waitOf (wsV RX6 60 RX6 yX6_waitOnBlock wsX6_waitOnBlock) := goodIn_app (goodIn_of _ (by decide +kernel)) ggX6_waitOf_X6_waitOnBlock
set_option maxRecDepth 20000 in
theorem ggX6_waitAtStation_X5_get : GoodIn wsX6_waitAtStation wsX5_get := goodIn_r _ [6, 7, 8, 55, 56] (by decide +kernel) (by decide +kernel)
set_option maxRecDepth 20000 in
theorem gX6_waitAtStation_X5_get : GoodIn wsX6_waitAtStation (wsV RX6 27 RX5 yX5_get wsX5_get) := goodIn_app (goodIn_of _ (by decide +kernel)) ggX6_waitAtStation_X5_get
set_option maxRecDepth 20000 in
theorem ggX6_waitAtStation_X6_countUnloadingAt : GoodIn wsX6_waitAtStation wsX6_countUnloadingAt := goodIn_r _ [13, 14, 1, 15, 16, 17, 12, 18, 2, 3, 4, 5, 6, 7, 8, 52, 53, 54, 55, 56] (by decide +kernel) (by decide +kernel)
set_option maxRecDepth 20000 in
theorem gX6_waitAtStation_X6_countUnloadingAt : GoodIn wsX6_waitAtStation (wsV RX6 63 RX6 yX6_countUnloadingAt wsX6_countUnloadingAt) := goodIn_app (goodIn_of _ (by decide +kernel)) ggX6_waitAtStation_X6_countUnloadingAt
set_option maxRecDepth 20000 in
theorem ggX6_waitAtStation_X1_getStation : GoodIn wsX6_waitAtStation wsX1_getStation := goodIn_r _ [23, 24, 25, 3, 4, 5, 6, 7, 8, 57, 58, 59, 60, 61, 62, 55, 56] (by decide +kernel) (by decide +kernel)
set_option maxRecDepth 20000 in
theorem gX6_waitAtStation_X1_getStation : GoodIn wsX6_waitAtStation (wsV RX6 69 RX1 yX1_getStation wsX1_getStation) := goodIn_app (goodIn_of _ (by decide +kernel)) ggX6_waitAtStation_X1_getStation
set_option maxRecDepth 20000 in
theorem ggX6_waitAtStation_X1_firstOf : GoodIn wsX6_waitAtStation wsX1_firstOf := goodIn_r _ [29, 30, 25, 3, 4, 5, 6, 7, 8, 57, 58, 59, 60, 61, 62, 55, 56] (by decide +kernel) (by decide +kernel)
set_option maxRecDepth 20000 in
theorem gX6_waitAtStation_X1_firstOf : GoodIn wsX6_waitAtStation (wsV RX6 72 RX1 yX1_firstOf wsX1_firstOf) := goodIn_app (goodIn_of _ (by decide +kernel)) ggX6_waitAtStation_X1_firstOf
set_option maxRecDepth 20000 in
theorem ggX6_waitAtStation_X1_isDouble : GoodIn wsX6_waitAtStation wsX1_isDouble := goodIn_r _ [34, 35, 25, 3, 4, 5, 6, 7, 8, 57, 58, 59, 60, 61, 62, 55, 56] (by decide +kernel) (by decide +kernel)
set_option maxRecDepth 20000 in
theorem gX6_waitAtStation_X1_isDouble : GoodIn wsX6_waitAtStation (wsV RX6 75 RX1 yX1_isDouble wsX1_isDouble) := goodIn_app (goodIn_of _ (by decide +kernel)) ggX6_waitAtStation_X1_isDouble
set_option maxRecDepth 20000 in
theorem ggX6_waitAtStation_X1_getLine : GoodIn wsX6_waitAtStation wsX1_getLine := goodIn_r _ [39, 35, 25, 3, 4, 5, 6, 7, 8, 57, 58, 59, 60, 61, 62, 55, 56] (by decide +kernel) (by decide +kernel)
set_option maxRecDepth 20000 in
theorem gX6_waitAtStation_X1_getLine : GoodIn wsX6_waitAtStation (wsV RX6 79 RX1 yX1_getLine wsX1_getLine) := goodIn_app (goodIn_of _ (by decide +kernel)) ggX6_waitAtStation_X1_getLine
set_option maxRecDepth 20000 in
theorem ggX6_waitAtStation_X6_isTaken : GoodIn wsX6_waitAtStation wsX6_isTaken := goodIn_r _ [43, 14, 1, 44, 45, 46, 12, 47, 2, 3, 4, 5, 6, 7, 8, 52, 53, 54, 55, 56] (by decide +kernel) (by decide +kernel)
set_option maxRecDepth 20000 in
theorem gX6_waitAtStation_X6_isTaken : GoodIn wsX6_waitAtStation (wsV RX6 82 RX6 yX6_isTaken wsX6_isTaken) := goodIn_app (goodIn_of _ (by decide +kernel)) ggX6_waitAtStation_X6_isTaken
set_option maxRecDepth 20000 in
theorem ggX6_waitAtStation_X6_isComing : GoodIn wsX6_waitAtStation wsX6_isComing := goodIn_r _ [51, 14, 1, 44, 45, 46, 12, 47, 2, 3, 4, 5, 6, 7, 8, 52, 53, 54, 55, 56] (by decide +kernel) (by decide +kernel)
set_option maxRecDepth 20000 in
theorem gX6_waitAtStation_X6_isComing : GoodIn wsX6_waitAtStation (wsV RX6 86 RX6 yX6_isComing wsX6_isComing) := goodIn_app (goodIn_of _ (by decide +kernel)) ggX6_waitAtStation_X6_isComing
set_option maxRecDepth 20000 in
theorem ggX6_waitOnBlock_X5_get : GoodIn wsX6_waitOnBlock wsX5_get := goodIn_r _ [6, 7, 8, 54, 55] (by decide +kernel) (by decide +kernel)
set_option maxRecDepth 20000 in
theorem gX6_waitOnBlock_X5_get : GoodIn wsX6_waitOnBlock (wsV RX6 27 RX5 yX5_get wsX5_get) := goodIn_app (goodIn_of _ (by decide +kernel)) ggX6_waitOnBlock_X5_get
set_option maxRecDepth 20000 in
theorem ggX6_waitOnBlock_X6_nextBlock : GoodIn wsX6_waitOnBlock wsX6_nextBlock := goodIn_r _ [13, 1, 2, 3, 4, 5, 6, 7, 8, 51, 52, 53, 54, 55] (by decide +kernel) (by decide +kernel)
set_option maxRecDepth 20000 in
theorem gX6_waitOnBlock_X6_nextBlock : GoodIn wsX6_waitOnBlock (wsV RX6 89 RX6 yX6_nextBlock wsX6_nextBlock) := goodIn_app (goodIn_of _ (by decide +kernel)) ggX6_waitOnBlock_X6_nextBlock
set_option maxRecDepth 20000 in
theorem ggX6_waitOnBlock_X1_getLine : GoodIn wsX6_waitOnBlock wsX1_getLine := goodIn_r _ [18, 19, 20, 3, 4, 5, 6, 7, 8, 56, 57, 58, 59, 60, 61, 54, 55] (by decide +kernel) (by decide +kernel)
set_option maxRecDepth 20000 in
theorem gX6_waitOnBlock_X1_getLine : GoodIn wsX6_waitOnBlock (wsV RX6 79 RX1 yX1_getLine wsX1_getLine) := goodIn_app (goodIn_of _ (by decide +kernel)) ggX6_waitOnBlock_X1_getLine
set_option maxRecDepth 20000 in
theorem ggX6_waitOnBlock_X1_isDouble : GoodIn wsX6_waitOnBlock wsX1_isDouble := goodIn_r _ [24, 19, 20, 3, 4, 5, 6, 7, 8, 56, 57, 58, 59, 60, 61, 54, 55] (by decide +kernel) (by decide +kernel)
set_option maxRecDepth 20000 in
theorem gX6_waitOnBlock_X1_isDouble : GoodIn wsX6_waitOnBlock (wsV RX6 75 RX1 yX1_isDouble wsX1_isDouble) := goodIn_app (goodIn_of _ (by decide +kernel)) ggX6_waitOnBlock_X1_isDouble
set_option maxRecDepth 20000 in
theorem ggX6_waitOnBlock_X6_isTaken : GoodIn wsX6_waitOnBlock wsX6_isTaken := goodIn_r _ [28, 29, 1, 30, 31, 32, 12, 33, 2, 3, 4, 5, 6, 7, 8, 51, 52, 53, 54, 55] (by decide +kernel) (by decide +kernel)
set_option maxRecDepth 20000 in
theorem gX6_waitOnBlock_X6_isTaken : GoodIn wsX6_waitOnBlock (wsV RX6 82 RX6 yX6_isTaken wsX6_isTaken) := goodIn_app (goodIn_of _ (by decide +kernel)) ggX6_waitOnBlock_X6_isTaken
set_option maxRecDepth 20000 in
theorem ggX6_waitOnBlock_X1_endOf : GoodIn wsX6_waitOnBlock wsX1_endOf := goodIn_r _ [37, 19, 20, 3, 4, 5, 6, 7, 8, 56, 57, 58, 59, 60, 61, 54, 55] (by decide +kernel) (by decide +kernel)
set_option maxRecDepth 20000 in
theorem gX6_waitOnBlock_X1_endOf : GoodIn wsX6_waitOnBlock (wsV RX6 92 RX1 yX1_endOf wsX1_endOf) := goodIn_app (goodIn_of _ (by decide +kernel)) ggX6_waitOnBlock_X1_endOf
set_option maxRecDepth 20000 in
theorem ggX6_waitOnBlock_X1_getStation : GoodIn wsX6_waitOnBlock wsX1_getStation := goodIn_r _ [41, 42, 20, 3, 4, 5, 6, 7, 8, 56, 57, 58, 59, 60, 61, 54, 55] (by decide +kernel) (by decide +kernel)
set_option maxRecDepth 20000 in
theorem gX6_waitOnBlock_X1_getStation : GoodIn wsX6_waitOnBlock (wsV RX6 69 RX1 yX1_getStation wsX1_getStation) := goodIn_app (goodIn_of _ (by decide +kernel)) ggX6_waitOnBlock_X1_getStation
set_option maxRecDepth 20000 in
theorem ggX6_waitOnBlock_X6_countAt : GoodIn wsX6_waitOnBlock wsX6_countAt := goodIn_r _ [46, 29, 47, 48, 49, 12, 50, 1, 2, 3, 4, 5, 6, 7, 8, 51, 52, 53, 54, 55] (by decide +kernel) (by decide +kernel)
set_option maxRecDepth 20000 in
theorem gX6_waitOnBlock_X6_countAt : GoodIn wsX6_waitOnBlock (wsV RX6 96 RX6 yX6_countAt wsX6_countAt) := goodIn_app (goodIn_of _ (by decide +kernel)) ggX6_waitOnBlock_X6_countAt
set_option maxRecDepth 20000 in
theorem ggX6_nextBlock_X5_get : GoodIn wsX6_nextBlock wsX5_get := goodIn_r _ [6, 7, 8, 12, 13] (by decide +kernel) (by decide +kernel)
set_option maxRecDepth 20000 in
theorem gX6_nextBlock_X5_get : GoodIn wsX6_nextBlock (wsV RX6 27 RX5 yX5_get wsX5_get) := goodIn_app (goodIn_of _ (by decide +kernel)) ggX6_nextBlock_X5_get
set_option maxRecDepth 20000 in
theorem ggX6_move_X5_get : GoodIn wsX6_move wsX5_get := goodIn_r _ [6, 7, 8, 67, 68] (by decide +kernel) (by decide +kernel)
set_option maxRecDepth 20000 in
theorem gX6_move_X5_get : GoodIn wsX6_move (wsV RX6 27 RX5 yX5_get wsX5_get) := goodIn_app (goodIn_of _ (by decide +kernel)) ggX6_move_X5_get
set_option maxRecDepth 20000 in
theorem ggX6_move_X6_run : GoodIn wsX6_move wsX6_run := goodIn_r _ [13, 1, 2, 3, 4, 5, 6, 7, 8, 14, 15, 16, 17, 18, 19, 20, 12, 21, 22, 23, 24, 25, 26, 27, 28, 29, 30, 31, 32, 33, 34, 35, 36, 37, 38, 39, 40, 41, 42, 43, 44, 45, 46, 47, 48, 49, 50, 51, 52, 53, 54, 64, 65, 66, 67, 68, 69, 70, 71, 72, 73, 74] (by decide +kernel) (by decide +kernel)
set_option maxRecDepth 20000 in
theorem gX6_move_X6_run : GoodIn wsX6_move (wsV RX6 99 RX6 yX6_run wsX6_run) := goodIn_app (goodIn_of _ (by decide +kernel)) ggX6_move_X6_run
set_option maxRecDepth 20000 in
theorem ggX6_move_X6_stay : GoodIn wsX6_move wsX6_stay := goodIn_r _ [58, 1, 2, 3, 4, 5, 6, 7, 8, 14, 15, 16, 17, 33, 34, 35, 36, 59, 60, 61, 25, 62, 63, 28, 22, 23, 24, 26, 27, 29, 30, 31, 12, 32, 64, 65, 66, 67, 68, 69, 70, 71, 72, 73, 74] (by decide +kernel) (by decide +kernel)
set_option maxRecDepth 20000 in
theorem gX6_move_X6_stay : GoodIn wsX6_move (wsV RX6 103 RX6 yX6_stay wsX6_stay) := goodIn_app (goodIn_of _ (by decide +kernel)) ggX6_move_X6_stay
set_option maxRecDepth 20000 in
theorem ggX6_move_X5_add : GoodIn wsX6_move wsX5_add := goodIn_r _ [17, 7, 8, 67, 68] (by decide +kernel) (by decide +kernel)
set_option maxRecDepth 20000 in
theorem gX6_move_X5_add : GoodIn wsX6_move (wsV RX6 35 RX5 yX5_add wsX5_add) := goodIn_app (goodIn_of _ (by decide +kernel)) ggX6_move_X5_add
set_option maxRecDepth 20000 in
theorem ggX6_move_X5_set : GoodIn wsX6_move wsX5_set := goodIn_r _ [36, 7, 8, 67, 68] (by decide +kernel) (by decide +kernel)
set_option maxRecDepth 20000 in
theorem gX6_move_X5_set : GoodIn wsX6_move (wsV RX6 31 RX5 yX5_set wsX5_set) := goodIn_app (goodIn_of _ (by decide +kernel)) ggX6_move_X5_set
set_option maxRecDepth 20000 in
theorem ggX6_run_X5_get : GoodIn wsX6_run wsX5_get := goodIn_r _ [6, 7, 8, 54, 55] (by decide +kernel) (by decide +kernel)
set_option maxRecDepth 20000 in
theorem gX6_run_X5_get : GoodIn wsX6_run (wsV RX6 27 RX5 yX5_get wsX5_get) := goodIn_app (goodIn_of _ (by decide +kernel)) ggX6_run_X5_get
set_option maxRecDepth 20000 in
theorem ggX6_run_X5_add : GoodIn wsX6_run wsX5_add := goodIn_r _ [12, 7, 8, 54, 55] (by decide +kernel) (by decide +kernel)
set_option maxRecDepth 20000 in
theorem gX6_run_X5_add : GoodIn wsX6_run (wsV RX6 35 RX5 yX5_add wsX5_add) := goodIn_app (goodIn_of _ (by decide +kernel)) ggX6_run_X5_add
set_option maxRecDepth 20000 in
theorem ggX6_run_X6_nextBlock : GoodIn wsX6_run wsX6_nextBlock := goodIn_r _ [17, 1, 2, 3, 4, 5, 6, 7, 8, 51, 52, 53, 54, 55] (by decide +kernel) (by decide +kernel)
set_option maxRecDepth 20000 in
theorem gX6_run_X6_nextBlock : GoodIn wsX6_run (wsV RX6 89 RX6 yX6_nextBlock wsX6_nextBlock) := goodIn_app (goodIn_of _ (by decide +kernel)) ggX6_run_X6_nextBlock
set_option maxRecDepth 20000 in
theorem ggX6_run_X1_getLine : GoodIn wsX6_run wsX1_getLine := goodIn_r _ [22, 23, 24, 3, 4, 5, 6, 7, 8, 56, 57, 58, 59, 60, 61, 54, 55] (by decide +kernel) (by decide +kernel)
set_option maxRecDepth 20000 in
theorem gX6_run_X1_getLine : GoodIn wsX6_run (wsV RX6 79 RX1 yX1_getLine wsX1_getLine) := goodIn_app (goodIn_of _ (by decide +kernel)) ggX6_run_X1_getLine
set_option maxRecDepth 20000 in
theorem ggX6_run_X6_enter : GoodIn wsX6_run wsX6_enter := goodIn_r _ [28, 1, 18, 19, 20, 21, 22, 23, 24, 3, 4, 5, 6, 7, 8, 2, 29, 30, 31, 32, 9, 10, 11, 12, 51, 52, 53, 56, 57, 58, 59, 60, 61, 54, 55] (by decide +kernel) (by decide +kernel)
set_option maxRecDepth 20000 in
theorem gX6_run_X6_enter : GoodIn wsX6_run (wsV RX6 106 RX6 yX6_enter wsX6_enter) := goodIn_app (goodIn_of _ (by decide +kernel)) ggX6_run_X6_enter
set_option maxRecDepth 20000 in
theorem ggX6_run_X6_arrive : GoodIn wsX6_run wsX6_arrive := goodIn_r _ [36, 1, 2, 3, 4, 5, 6, 7, 8, 37, 38, 39, 21, 40, 23, 24, 41, 42, 43, 44, 45, 10, 11, 12, 29, 30, 31, 32, 46, 47, 48, 49, 50, 51, 52, 53, 54, 55, 56, 57, 58, 59, 60, 61] (by decide +kernel) (by decide +kernel)
set_option maxRecDepth 20000 in
theorem gX6_run_X6_arrive : GoodIn wsX6_run (wsV RX6 110 RX6 yX6_arrive wsX6_arrive) := goodIn_app (goodIn_of _ (by decide +kernel)) ggX6_run_X6_arrive
set_option maxRecDepth 20000 in
theorem ggX6_stay_X5_get : GoodIn wsX6_stay wsX5_get := goodIn_r _ [6, 7, 8, 37, 38] (by decide +kernel) (by decide +kernel)
set_option maxRecDepth 20000 in
theorem gX6_stay_X5_get : GoodIn wsX6_stay (wsV RX6 27 RX5 yX5_get wsX5_get) := goodIn_app (goodIn_of _ (by decide +kernel)) ggX6_stay_X5_get
set_option maxRecDepth 20000 in
theorem ggX6_stay_X5_add : GoodIn wsX6_stay wsX5_add := goodIn_r _ [12, 7, 8, 37, 38] (by decide +kernel) (by decide +kernel)
set_option maxRecDepth 20000 in
theorem gX6_stay_X5_add : GoodIn wsX6_stay (wsV RX6 35 RX5 yX5_add wsX5_add) := goodIn_app (goodIn_of _ (by decide +kernel)) ggX6_stay_X5_add
set_option maxRecDepth 20000 in
theorem ggX6_stay_X5_set : GoodIn wsX6_stay wsX5_set := goodIn_r _ [16, 7, 8, 37, 38] (by decide +kernel) (by decide +kernel)
set_option maxRecDepth 20000 in
theorem gX6_stay_X5_set : GoodIn wsX6_stay (wsV RX6 31 RX5 yX5_set wsX5_set) := goodIn_app (goodIn_of _ (by decide +kernel)) ggX6_stay_X5_set
set_option maxRecDepth 20000 in
theorem ggX6_stay_X1_firstOf : GoodIn wsX6_stay wsX1_firstOf := goodIn_r _ [21, 22, 23, 3, 4, 5, 6, 7, 8, 39, 40, 41, 42, 43, 44, 37, 38] (by decide +kernel) (by decide +kernel)
set_option maxRecDepth 20000 in
theorem gX6_stay_X1_firstOf : GoodIn wsX6_stay (wsV RX6 72 RX1 yX1_firstOf wsX1_firstOf) := goodIn_app (goodIn_of _ (by decide +kernel)) ggX6_stay_X1_firstOf
set_option maxRecDepth 20000 in
theorem ggX6_stay_X1_getLine : GoodIn wsX6_stay wsX1_getLine := goodIn_r _ [27, 28, 23, 3, 4, 5, 6, 7, 8, 39, 40, 41, 42, 43, 44, 37, 38] (by decide +kernel) (by decide +kernel)
set_option maxRecDepth 20000 in
theorem gX6_stay_X1_getLine : GoodIn wsX6_stay (wsV RX6 79 RX1 yX1_getLine wsX1_getLine) := goodIn_app (goodIn_of _ (by decide +kernel)) ggX6_stay_X1_getLine
set_option maxRecDepth 20000 in
theorem ggX6_stay_X6_enter : GoodIn wsX6_stay wsX6_enter := goodIn_r _ [33, 1, 24, 25, 26, 20, 27, 28, 23, 3, 4, 5, 6, 7, 8, 2, 13, 14, 15, 16, 9, 10, 11, 12, 34, 35, 36, 39, 40, 41, 42, 43, 44, 37, 38] (by decide +kernel) (by decide +kernel)
set_option maxRecDepth 20000 in
theorem gX6_stay_X6_enter : GoodIn wsX6_stay (wsV RX6 106 RX6 yX6_enter wsX6_enter) := goodIn_app (goodIn_of _ (by decide +kernel)) ggX6_stay_X6_enter
set_option maxRecDepth 20000 in
theorem ggX6_enter_X1_getLine : GoodIn wsX6_enter wsX1_getLine := goodIn_r _ [6, 7, 8, 9, 10, 11, 12, 13, 14, 27, 28, 29, 30, 31, 32, 33, 34] (by decide +kernel) (by decide +kernel)
set_option maxRecDepth 20000 in
theorem gX6_enter_X1_getLine : GoodIn wsX6_enter (wsV RX6 79 RX1 yX1_getLine wsX1_getLine) := goodIn_app (goodIn_of _ (by decide +kernel)) ggX6_enter_X1_getLine
set_option maxRecDepth 20000 in
theorem ggX6_enter_X5_get : GoodIn wsX6_enter wsX5_get := goodIn_r _ [12, 13, 14, 33, 34] (by decide +kernel) (by decide +kernel)
set_option maxRecDepth 20000 in
theorem gX6_enter_X5_get : GoodIn wsX6_enter (wsV RX6 27 RX5 yX5_get wsX5_get) := goodIn_app (goodIn_of _ (by decide +kernel)) ggX6_enter_X5_get
set_option maxRecDepth 20000 in
theorem ggX6_enter_X5_set : GoodIn wsX6_enter wsX5_set := goodIn_r _ [19, 13, 14, 33, 34] (by decide +kernel) (by decide +kernel)
set_option maxRecDepth 20000 in
theorem gX6_enter_X5_set : GoodIn wsX6_enter (wsV RX6 31 RX5 yX5_set wsX5_set) := goodIn_app (goodIn_of _ (by decide +kernel)) ggX6_enter_X5_set
set_option maxRecDepth 20000 in
theorem ggX6_enter_X5_add : GoodIn wsX6_enter wsX5_add := goodIn_r _ [23, 13, 14, 33, 34] (by decide +kernel) (by decide +kernel)
set_option maxRecDepth 20000 in
theorem gX6_enter_X5_add : GoodIn wsX6_enter (wsV RX6 35 RX5 yX5_add wsX5_add) := goodIn_app (goodIn_of _ (by decide +kernel)) ggX6_enter_X5_add
set_option maxRecDepth 20000 in
theorem ggX6_arrive_X5_get : GoodIn wsX6_arrive wsX5_get := goodIn_r _ [6, 7, 8, 36, 37] (by decide +kernel) (by decide +kernel)
set_option maxRecDepth 20000 in
theorem gX6_arrive_X5_get : GoodIn wsX6_arrive (wsV RX6 27 RX5 yX5_get wsX5_get) := goodIn_app (goodIn_of _ (by decide +kernel)) ggX6_arrive_X5_get
set_option maxRecDepth 20000 in
theorem ggX6_arrive_X1_endOf : GoodIn wsX6_arrive wsX1_endOf := goodIn_r _ [13, 14, 15, 3, 4, 5, 6, 7, 8, 38, 39, 40, 41, 42, 43, 36, 37] (by decide +kernel) (by decide +kernel)
set_option maxRecDepth 20000 in
theorem gX6_arrive_X1_endOf : GoodIn wsX6_arrive (wsV RX6 92 RX1 yX1_endOf wsX1_endOf) := goodIn_app (goodIn_of _ (by decide +kernel)) ggX6_arrive_X1_endOf
set_option maxRecDepth 20000 in
theorem ggX6_arrive_X1_addThrough : GoodIn wsX6_arrive wsX1_addThrough := goodIn_r _ [19, 14, 20, 21, 22, 5, 23, 7, 8, 38, 39, 40, 41, 42, 43, 36, 37] (by decide +kernel) (by decide +kernel)
set_option maxRecDepth 20000 in
theorem gX6_arrive_X1_addThrough : GoodIn wsX6_arrive (wsV RX6 114 RX1 yX1_addThrough wsX1_addThrough) := goodIn_app (goodIn_of _ (by decide +kernel)) ggX6_arrive_X1_addThrough
set_option maxRecDepth 20000 in
theorem ggX6_arrive_X5_set : GoodIn wsX6_arrive wsX5_set := goodIn_r _ [27, 7, 8, 36, 37] (by decide +kernel) (by decide +kernel)
set_option maxRecDepth 20000 in
theorem gX6_arrive_X5_set : GoodIn wsX6_arrive (wsV RX6 31 RX5 yX5_set wsX5_set) := goodIn_app (goodIn_of _ (by decide +kernel)) ggX6_arrive_X5_set
set_option maxRecDepth 20000 in
theorem ggX6_arrive_X1_getStation : GoodIn wsX6_arrive wsX1_getStation := goodIn_r _ [31, 32, 15, 3, 4, 5, 6, 7, 8, 38, 39, 40, 41, 42, 43, 36, 37] (by decide +kernel) (by decide +kernel)
set_option maxRecDepth 20000 in
theorem gX6_arrive_X1_getStation : GoodIn wsX6_arrive (wsV RX6 69 RX1 yX1_getStation wsX1_getStation) := goodIn_app (goodIn_of _ (by decide +kernel)) ggX6_arrive_X1_getStation
set_option maxRecDepth 20000 in
theorem ggX6_areApart_X5_get : GoodIn wsX6_areApart wsX5_get := goodIn_r _ [7, 8, 9, 29, 30] (by decide +kernel) (by decide +kernel)
set_option maxRecDepth 20000 in
theorem gX6_areApart_X5_get : GoodIn wsX6_areApart (wsV RX6 27 RX5 yX5_get wsX5_get) := goodIn_app (goodIn_of _ (by decide +kernel)) ggX6_areApart_X5_get
set_option maxRecDepth 20000 in
theorem ggX6_areApart_X6_isOn : GoodIn wsX6_areApart wsX6_isOn := goodIn_r _ [14, 2, 3, 4, 5, 6, 7, 8, 9, 26, 27, 28, 29, 30] (by decide +kernel) (by decide +kernel)
set_option maxRecDepth 20000 in
theorem gX6_areApart_X6_isOn : GoodIn wsX6_areApart (wsV RX6 50 RX6 yX6_isOn wsX6_isOn) := goodIn_app (goodIn_of _ (by decide +kernel)) ggX6_areApart_X6_isOn
set_option maxRecDepth 20000 in
theorem ggX6_areApart_X1_isDouble : GoodIn wsX6_areApart wsX1_isDouble := goodIn_r _ [19, 20, 21, 4, 5, 6, 7, 8, 9, 31, 32, 33, 34, 35, 36, 29, 30] (by decide +kernel) (by decide +kernel)
set_option maxRecDepth 20000 in
theorem gX6_areApart_X1_isDouble : GoodIn wsX6_areApart (wsV RX6 75 RX1 yX1_isDouble wsX1_isDouble) := goodIn_app (goodIn_of _ (by decide +kernel)) ggX6_areApart_X1_isDouble
set_option maxRecDepth 20000 in
theorem ggX6_areApart_X6_clash : GoodIn wsX6_areApart wsX6_clash := goodIn_r _ [25, 2, 3, 4, 5, 6, 7, 8, 9, 26, 27, 28, 29, 30] (by decide +kernel) (by decide +kernel)
set_option maxRecDepth 20000 in
theorem gX6_areApart_X6_clash : GoodIn wsX6_areApart (wsV RX6 118 RX6 yX6_clash wsX6_clash) := goodIn_app (goodIn_of _ (by decide +kernel)) ggX6_areApart_X6_clash
set_option maxRecDepth 20000 in
theorem ggX6_clash_X5_get : GoodIn wsX6_clash wsX5_get := goodIn_r _ [6, 7, 8, 12, 13] (by decide +kernel) (by decide +kernel)
set_option maxRecDepth 20000 in
theorem gX6_clash_X5_get : GoodIn wsX6_clash (wsV RX6 27 RX5 yX5_get wsX5_get) := goodIn_app (goodIn_of _ (by decide +kernel)) ggX6_clash_X5_get
set_option maxRecDepth 20000 in
theorem ggX7_init_X5_init : GoodIn wsX7_init wsX5_init := goodIn_r _ [12, 13, 2, 3, 14, 15, 16, 17, 18] (by decide +kernel) (by decide +kernel)
set_option maxRecDepth 20000 in
theorem gX7_init_X5_init : GoodIn wsX7_init (wsX5_init) := ggX7_init_X5_init
set_option maxRecDepth 20000 in
theorem ggX7_get_X5_get : GoodIn wsX7_get wsX5_get := goodIn_r _ [6, 7, 8, 12, 13] (by decide +kernel) (by decide +kernel)
set_option maxRecDepth 20000 in
theorem gX7_get_X5_get : GoodIn wsX7_get (wsV RX7 47 RX5 yX5_get wsX5_get) := goodIn_app (goodIn_of _ (by decide +kernel)) ggX7_get_X5_get
set_option maxRecDepth 20000 in
theorem ggX7_set_X5_set : GoodIn wsX7_set wsX5_set := goodIn_r _ [6, 7, 8, 12, 13] (by decide +kernel) (by decide +kernel)
set_option maxRecDepth 20000 in
theorem gX7_set_X5_set : GoodIn wsX7_set (wsV RX7 51 RX5 yX5_set wsX5_set) := goodIn_app (goodIn_of _ (by decide +kernel)) ggX7_set_X5_set
set_option maxRecDepth 20000 in
theorem ggX7_add_X5_set : GoodIn wsX7_add wsX5_set := goodIn_r _ [7, 8, 9, 13, 14] (by decide +kernel) (by decide +kernel)
set_option maxRecDepth 20000 in
theorem gX7_add_X5_set : GoodIn wsX7_add (wsV RX7 51 RX5 yX5_set wsX5_set) := goodIn_app (goodIn_of _ (by decide +kernel)) ggX7_add_X5_set
set_option maxRecDepth 20000 in
theorem ggX7_sumOf_X5_get : GoodIn wsX7_sumOf wsX5_get := goodIn_r _ [7, 8, 9, 13, 14] (by decide +kernel) (by decide +kernel)
set_option maxRecDepth 20000 in
theorem gX7_sumOf_X5_get : GoodIn wsX7_sumOf (wsV RX7 47 RX5 yX5_get wsX5_get) := goodIn_app (goodIn_of _ (by decide +kernel)) ggX7_sumOf_X5_get
set_option maxRecDepth 20000 in
theorem ggX7_countWires_X5_get : GoodIn wsX7_countWires wsX5_get := goodIn_r _ [7, 8, 9, 13, 14] (by decide +kernel) (by decide +kernel)
set_option maxRecDepth 20000 in
theorem gX7_countWires_X5_get : GoodIn wsX7_countWires (wsV RX7 47 RX5 yX5_get wsX5_get) := goodIn_app (goodIn_of _ (by decide +kernel)) ggX7_countWires_X5_get
set_option maxRecDepth 20000 in
theorem ggX7_ticksToStop_X5_get : GoodIn wsX7_ticksToStop wsX5_get := goodIn_r _ [10, 11, 12, 16, 17] (by decide +kernel) (by decide +kernel)
set_option maxRecDepth 20000 in
theorem gX7_ticksToStop_X5_get : GoodIn wsX7_ticksToStop (wsV RX7 47 RX5 yX5_get wsX5_get) := goodIn_app (goodIn_of _ (by decide +kernel)) ggX7_ticksToStop_X5_get
set_option maxRecDepth 20000 in
theorem ggX7_takeOrders_X5_get : GoodIn wsX7_takeOrders wsX5_get := goodIn_r _ [7, 8, 9, 17, 18] (by decide +kernel) (by decide +kernel)
set_option maxRecDepth 20000 in
theorem gX7_takeOrders_X5_get : GoodIn wsX7_takeOrders (wsV RX7 47 RX5 yX5_get wsX5_get) := goodIn_app (goodIn_of _ (by decide +kernel)) ggX7_takeOrders_X5_get
set_option maxRecDepth 20000 in
theorem ggX7_takeOrders_X5_set : GoodIn wsX7_takeOrders wsX5_set := goodIn_r _ [13, 8, 9, 17, 18] (by decide +kernel) (by decide +kernel)
set_option maxRecDepth 20000 in
theorem gX7_takeOrders_X5_set : GoodIn wsX7_takeOrders (wsV RX7 51 RX5 yX5_set wsX5_set) := goodIn_app (goodIn_of _ (by decide +kernel)) ggX7_takeOrders_X5_set
set_option maxRecDepth 20000 in
theorem ggX7_takeStop_X5_get : GoodIn wsX7_takeStop wsX5_get := goodIn_r _ [6, 7, 8, 25, 26] (by decide +kernel) (by decide +kernel)
set_option maxRecDepth 20000 in
theorem gX7_takeStop_X5_get : GoodIn wsX7_takeStop (wsV RX7 47 RX5 yX5_get wsX5_get) := goodIn_app (goodIn_of _ (by decide +kernel)) ggX7_takeStop_X5_get
set_option maxRecDepth 20000 in
theorem ggX7_takeStop_X5_set : GoodIn wsX7_takeStop wsX5_set := goodIn_r _ [12, 7, 8, 25, 26] (by decide +kernel) (by decide +kernel)
set_option maxRecDepth 20000 in
theorem gX7_takeStop_X5_set : GoodIn wsX7_takeStop (wsV RX7 51 RX5 yX5_set wsX5_set) := goodIn_app (goodIn_of _ (by decide +kernel)) ggX7_takeStop_X5_set
set_option maxRecDepth 20000 in
theorem ggX7_takeStop_X7_ticksToStop : GoodIn wsX7_takeStop wsX7_ticksToStop := goodIn_r _ [17, 1, 18, 19, 20, 21, 2, 3, 4, 5, 6, 7, 8, 22, 23, 24, 25, 26] (by decide +kernel) (by decide +kernel)
set_option maxRecDepth 20000 in
theorem gX7_takeStop_X7_ticksToStop : GoodIn wsX7_takeStop (wsV RX7 60 RX7 yX7_ticksToStop wsX7_ticksToStop) := goodIn_app (goodIn_of _ (by decide +kernel)) ggX7_takeStop_X7_ticksToStop
set_option maxRecDepth 20000 in
theorem ggX7_workAt_X7_nextOf : GoodIn wsX7_workAt wsX7_nextOf := goodIn_r _ [6, 7, 1, 8, 9, 10, 11, 12, 13, 14, 27, 28, 29, 30, 31] (by decide +kernel) (by decide +kernel)
set_option maxRecDepth 20000 in
theorem gX7_workAt_X7_nextOf : GoodIn wsX7_workAt (wsV RX7 63 RX7 yX7_nextOf wsX7_nextOf) := goodIn_app (goodIn_of _ (by decide +kernel)) ggX7_workAt_X7_nextOf
set_option maxRecDepth 20000 in
theorem ggX7_workAt_X5_add : GoodIn wsX7_workAt wsX5_add := goodIn_r _ [18, 13, 14, 30, 31] (by decide +kernel) (by decide +kernel)
set_option maxRecDepth 20000 in
theorem gX7_workAt_X5_add : GoodIn wsX7_workAt (wsV RX7 67 RX5 yX5_add wsX5_add) := goodIn_app (goodIn_of _ (by decide +kernel)) ggX7_workAt_X5_add
set_option maxRecDepth 20000 in
theorem ggX7_workAt_X5_get : GoodIn wsX7_workAt wsX5_get := goodIn_r _ [12, 13, 14, 30, 31] (by decide +kernel) (by decide +kernel)
set_option maxRecDepth 20000 in
theorem gX7_workAt_X5_get : GoodIn wsX7_workAt (wsV RX7 47 RX5 yX5_get wsX5_get) := goodIn_app (goodIn_of _ (by decide +kernel)) ggX7_workAt_X5_get
set_option maxRecDepth 20000 in
theorem ggX7_workAt_X7_workOf : GoodIn wsX7_workAt wsX7_workOf := goodIn_r _ [21, 22] (by decide +kernel) (by decide +kernel)
set_option maxRecDepth 20000 in
theorem gX7_workAt_X7_workOf : GoodIn wsX7_workAt (va_wsS RX7 70 yX7_workOf wsX7_workOf) := goodIn_app (goodIn_of _ (by decide +kernel)) ggX7_workAt_X7_workOf
set_option maxRecDepth 20000 in
theorem ggX7_workAt_X5_set : GoodIn wsX7_workAt wsX5_set := goodIn_r _ [26, 13, 14, 30, 31] (by decide +kernel) (by decide +kernel)
set_option maxRecDepth 20000 in
theorem gX7_workAt_X5_set : GoodIn wsX7_workAt (wsV RX7 51 RX5 yX5_set wsX5_set) := goodIn_app (goodIn_of _ (by decide +kernel)) ggX7_workAt_X5_set
set_option maxRecDepth 20000 in
theorem ggX7_nextOf_X5_get : GoodIn wsX7_nextOf wsX5_get := goodIn_r _ [7, 8, 9, 13, 14] (by decide +kernel) (by decide +kernel)
set_option maxRecDepth 20000 in
theorem gX7_nextOf_X5_get : GoodIn wsX7_nextOf (wsV RX7 47 RX5 yX5_get wsX5_get) := goodIn_app (goodIn_of _ (by decide +kernel)) ggX7_nextOf_X5_get
set_option maxRecDepth 20000 in
theorem ggX7_leave_X5_set : GoodIn wsX7_leave wsX5_set := goodIn_r _ [7, 8, 9, 17, 18] (by decide +kernel) (by decide +kernel)
set_option maxRecDepth 20000 in
theorem gX7_leave_X5_set : GoodIn wsX7_leave (wsV RX7 51 RX5 yX5_set wsX5_set) := goodIn_app (goodIn_of _ (by decide +kernel)) ggX7_leave_X5_set
set_option maxRecDepth 20000 in
theorem ggX7_leave_X5_add : GoodIn wsX7_leave wsX5_add := goodIn_r _ [13, 8, 9, 17, 18] (by decide +kernel) (by decide +kernel)
set_option maxRecDepth 20000 in
theorem gX7_leave_X5_add : GoodIn wsX7_leave (wsV RX7 67 RX5 yX5_add wsX5_add) := goodIn_app (goodIn_of _ (by decide +kernel)) ggX7_leave_X5_add
set_option maxRecDepth 20000 in
theorem ggX7_march_X5_set : GoodIn wsX7_march wsX5_set := goodIn_r _ [7, 8, 9, 17, 18] (by decide +kernel) (by decide +kernel)
set_option maxRecDepth 20000 in
theorem gX7_march_X5_set : GoodIn wsX7_march (wsV RX7 51 RX5 yX5_set wsX5_set) := goodIn_app (goodIn_of _ (by decide +kernel)) ggX7_march_X5_set
set_option maxRecDepth 20000 in
theorem ggX7_march_X5_add : GoodIn wsX7_march wsX5_add := goodIn_r _ [13, 8, 9, 17, 18] (by decide +kernel) (by decide +kernel)
set_option maxRecDepth 20000 in
theorem gX7_march_X5_add : GoodIn wsX7_march (wsV RX7 67 RX5 yX5_add wsX5_add) := goodIn_app (goodIn_of _ (by decide +kernel)) ggX7_march_X5_add
set_option maxRecDepth 20000 in
theorem ggX7_come_X5_get : GoodIn wsX7_come wsX5_get := goodIn_r _ [8, 9, 10, 26, 27] (by decide +kernel) (by decide +kernel)
set_option maxRecDepth 20000 in
theorem gX7_come_X5_get : GoodIn wsX7_come (wsV RX7 47 RX5 yX5_get wsX5_get) := goodIn_app (goodIn_of _ (by decide +kernel)) ggX7_come_X5_get
set_option maxRecDepth 20000 in
theorem ggX7_come_X2_slotOf : GoodIn wsX7_come wsX2_slotOf := goodIn_r _ [14] (by decide +kernel) (by decide +kernel)
set_option maxRecDepth 20000 in
theorem gX7_come_X2_slotOf : GoodIn wsX7_come (va_wsS RX7 73 yX2_slotOf wsX2_slotOf) := goodIn_app (goodIn_of _ (by decide +kernel)) ggX7_come_X2_slotOf
set_option maxRecDepth 20000 in
theorem ggX7_come_X5_set : GoodIn wsX7_come wsX5_set := goodIn_r _ [18, 9, 10, 26, 27] (by decide +kernel) (by decide +kernel)
set_option maxRecDepth 20000 in
theorem gX7_come_X5_set : GoodIn wsX7_come (wsV RX7 51 RX5 yX5_set wsX5_set) := goodIn_app (goodIn_of _ (by decide +kernel)) ggX7_come_X5_set
set_option maxRecDepth 20000 in
theorem ggX7_come_X5_add : GoodIn wsX7_come wsX5_add := goodIn_r _ [22, 9, 10, 26, 27] (by decide +kernel) (by decide +kernel)
set_option maxRecDepth 20000 in
theorem gX7_come_X5_add : GoodIn wsX7_come (wsV RX7 67 RX5 yX5_add wsX5_add) := goodIn_app (goodIn_of _ (by decide +kernel)) ggX7_come_X5_add
set_option maxRecDepth 20000 in
theorem ggX7_isAtBy_X5_get : GoodIn wsX7_isAtBy wsX5_get := goodIn_r _ [6, 7, 8, 12, 13] (by decide +kernel) (by decide +kernel)
set_option maxRecDepth 20000 in
theorem gX7_isAtBy_X5_get : GoodIn wsX7_isAtBy (wsV RX7 47 RX5 yX5_get wsX5_get) := goodIn_app (goodIn_of _ (by decide +kernel)) ggX7_isAtBy_X5_get
set_option maxRecDepth 20000 in
theorem ggX7_countAt_X5_get : GoodIn wsX7_countAt wsX5_get := goodIn_r _ [7, 8, 9, 23, 24] (by decide +kernel) (by decide +kernel)
set_option maxRecDepth 20000 in
theorem gX7_countAt_X5_get : GoodIn wsX7_countAt (wsV RX7 47 RX5 yX5_get wsX5_get) := goodIn_app (goodIn_of _ (by decide +kernel)) ggX7_countAt_X5_get
set_option maxRecDepth 20000 in
theorem ggX7_countAt_X7_countLoadsAt : GoodIn wsX7_countAt wsX7_countLoadsAt := goodIn_r _ [14, 2, 15, 3, 4, 5, 6, 7, 8, 9, 16, 17, 18, 19, 20, 21, 22, 23, 24] (by decide +kernel) (by decide +kernel)
set_option maxRecDepth 20000 in
theorem gX7_countAt_X7_countLoadsAt : GoodIn wsX7_countAt (wsV RX7 78 RX7 yX7_countLoadsAt wsX7_countLoadsAt) := goodIn_app (goodIn_of _ (by decide +kernel)) ggX7_countAt_X7_countLoadsAt
set_option maxRecDepth 20000 in
theorem ggX7_weightAt_X7_countLoadsAt : GoodIn wsX7_weightAt wsX7_countLoadsAt := goodIn_r _ [7, 2, 8, 9, 10, 11, 12, 13, 14, 15, 16, 17, 18, 19, 24, 25, 26, 27, 28] (by decide +kernel) (by decide +kernel)
set_option maxRecDepth 20000 in
theorem gX7_weightAt_X7_countLoadsAt : GoodIn wsX7_weightAt (wsV RX7 78 RX7 yX7_countLoadsAt wsX7_countLoadsAt) := goodIn_app (goodIn_of _ (by decide +kernel)) ggX7_weightAt_X7_countLoadsAt
set_option maxRecDepth 20000 in
theorem ggX7_weightAt_X5_get : GoodIn wsX7_weightAt wsX5_get := goodIn_r _ [13, 14, 15, 27, 28] (by decide +kernel) (by decide +kernel)
set_option maxRecDepth 20000 in
theorem gX7_weightAt_X5_get : GoodIn wsX7_weightAt (wsV RX7 47 RX5 yX5_get wsX5_get) := goodIn_app (goodIn_of _ (by decide +kernel)) ggX7_weightAt_X5_get
set_option maxRecDepth 20000 in
theorem ggX7_weightAt_X7_weightOf : GoodIn wsX7_weightAt wsX7_weightOf := goodIn_r _ [22, 23] (by decide +kernel) (by decide +kernel)
set_option maxRecDepth 20000 in
theorem gX7_weightAt_X7_weightOf : GoodIn wsX7_weightAt (va_wsS RX7 81 yX7_weightOf wsX7_weightOf) := goodIn_app (goodIn_of _ (by decide +kernel)) ggX7_weightAt_X7_weightOf
set_option maxRecDepth 20000 in
theorem ggX7_countLoadsAt_X5_get : GoodIn wsX7_countLoadsAt wsX5_get := goodIn_r _ [7, 8, 9, 17, 18] (by decide +kernel) (by decide +kernel)
set_option maxRecDepth 20000 in
theorem gX7_countLoadsAt_X5_get : GoodIn wsX7_countLoadsAt (wsV RX7 47 RX5 yX5_get wsX5_get) := goodIn_app (goodIn_of _ (by decide +kernel)) ggX7_countLoadsAt_X5_get
set_option maxRecDepth 20000 in
theorem ggX7_countLoadsAt_X2_slotOf : GoodIn wsX7_countLoadsAt wsX2_slotOf := goodIn_r _ [13] (by decide +kernel) (by decide +kernel)
set_option maxRecDepth 20000 in
theorem gX7_countLoadsAt_X2_slotOf : GoodIn wsX7_countLoadsAt (va_wsS RX7 73 yX2_slotOf wsX2_slotOf) := goodIn_app (goodIn_of _ (by decide +kernel)) ggX7_countLoadsAt_X2_slotOf
set_option maxRecDepth 20000 in
theorem ggX7_areSound_X5_get : GoodIn wsX7_areSound wsX5_get := goodIn_r _ [7, 8, 9, 13, 14] (by decide +kernel) (by decide +kernel)
set_option maxRecDepth 20000 in
theorem gX7_areSound_X5_get : GoodIn wsX7_areSound (wsV RX7 47 RX5 yX5_get wsX5_get) := goodIn_app (goodIn_of _ (by decide +kernel)) ggX7_areSound_X5_get
