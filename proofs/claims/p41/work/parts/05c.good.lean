set_option maxRecDepth 20000 in
theorem ggX8_init_X1_init : GoodIn wsX8_init wsX1_init := goodIn_r _ [40, 41, 2, 3, 42, 34, 35, 43, 44, 45, 46, 47, 48, 49, 50, 51, 52, 53, 54, 55, 147, 148, 112, 113, 114, 115, 116, 117] rfl (by decide +kernel)
set_option maxRecDepth 20000 in
theorem gX8_init_X1_init_n9 : GoodIn wsX8_init (wsX1_init) := ggX8_init_X1_init
set_option maxRecDepth 20000 in
theorem ggX8_init_X7_init : GoodIn wsX8_init wsX7_init := goodIn_r _ [57, 58, 2, 3, 59, 34, 35, 60, 61, 62, 63, 50, 51, 52, 53, 54, 55, 147, 148, 129, 130, 131] rfl (by decide +kernel)
set_option maxRecDepth 20000 in
theorem gX8_init_X7_init_n18 : GoodIn wsX8_init (wsX7_init) := ggX8_init_X7_init
set_option maxRecDepth 20000 in
theorem ggX8_init_X2_init : GoodIn wsX8_init wsX2_init := goodIn_r _ [66, 67, 2, 3, 68, 34, 35, 69, 70, 71, 72, 73, 74, 50, 51, 52, 53, 54, 55, 75, 76, 77, 78, 147, 148, 132, 133, 134, 135, 136] rfl (by decide +kernel)
set_option maxRecDepth 20000 in
theorem gX8_init_X2_init : GoodIn wsX8_init (wsX2_init) := ggX8_init_X2_init
set_option maxRecDepth 20000 in
theorem ggX8_init_X6_init : GoodIn wsX8_init wsX6_init := goodIn_r _ [80, 81, 2, 3, 82, 34, 35, 83, 84, 85, 86, 50, 51, 52, 53, 54, 55, 147, 148, 137, 138, 139] rfl (by decide +kernel)
set_option maxRecDepth 20000 in
theorem gX8_init_X6_init_n35 : GoodIn wsX8_init (wsX6_init) := ggX8_init_X6_init
set_option maxRecDepth 20000 in
theorem ggX8_init_X4_init : GoodIn wsX8_init wsX4_init := goodIn_r _ [88, 89, 2, 3, 90, 34, 35, 91, 92, 93, 50, 51, 52, 53, 54, 55, 147, 148, 140, 141] rfl (by decide +kernel)
set_option maxRecDepth 20000 in
theorem gX8_init_X4_init_n42 : GoodIn wsX8_init (wsX4_init) := ggX8_init_X4_init
set_option maxRecDepth 20000 in
theorem ggX8_init_X3_init : GoodIn wsX8_init wsX3_init := goodIn_r _ [96, 97, 2, 3, 98, 34, 35, 99, 100, 50, 51, 52, 53, 54, 55, 101, 76, 77, 78, 147, 148, 142] rfl (by decide +kernel)
set_option maxRecDepth 20000 in
theorem gX8_init_X3_init : GoodIn wsX8_init (wsX3_init) := ggX8_init_X3_init
set_option maxRecDepth 20000 in
theorem ggX8_init_X0_init : GoodIn wsX8_init wsX0_init := goodIn_r _ [103, 104, 2, 3, 105, 34, 35, 106, 107, 108, 109, 110, 50, 51, 52, 53, 54, 55, 147, 148, 143, 144, 145, 146] rfl (by decide +kernel)
set_option maxRecDepth 20000 in
theorem gX8_init_X0_init_n56 : GoodIn wsX8_init (wsX0_init) := ggX8_init_X0_init
set_option maxRecDepth 20000 in
theorem ggX8_init_X5_init : GoodIn wsX8_init wsX5_init := goodIn_r _ [51, 52, 2, 3, 53, 54, 55, 147, 148] rfl (by decide +kernel)
set_option maxRecDepth 20000 in
theorem gX8_init_X5_init : GoodIn wsX8_init (wsX5_init) := ggX8_init_X5_init
set_option maxRecDepth 20000 in
theorem ggX8_land_X8_isNoTrack : GoodIn wsX8_land wsX8_isNoTrack := goodIn_r _ [9] rfl (by decide +kernel)
set_option maxRecDepth 20000 in
theorem gX8_land_X8_isNoTrack : GoodIn wsX8_land (va_wsS RX8 112 yX8_isNoTrack wsX8_isNoTrack) := goodIn_app (goodIn_of _ (by decide +kernel)) ggX8_land_X8_isNoTrack
set_option maxRecDepth 20000 in
theorem ggX8_land_X1_countStations : GoodIn wsX8_land wsX1_countStations := goodIn_r _ [14, 15, 83, 84, 85, 86, 87, 88] rfl (by decide +kernel)
set_option maxRecDepth 20000 in
theorem gX8_land_X1_countStations : GoodIn wsX8_land (wsV RX8 88 RX1 yX1_countStations wsX1_countStations) := goodIn_app (goodIn_of _ (by decide +kernel)) ggX8_land_X1_countStations
set_option maxRecDepth 20000 in
theorem ggX8_land_X1_addWhole : GoodIn wsX8_land wsX1_addWhole := goodIn_r _ [19, 20, 21, 22, 13, 23, 15, 24, 25, 26, 27, 28, 29, 30, 31, 32, 33, 34, 35, 36, 37, 38, 39, 40, 41, 42, 43, 44, 45, 46, 47, 48, 49, 50, 51, 52, 53, 54, 55, 56, 57, 58, 59, 60, 61, 62, 63, 64, 65, 66, 67, 83, 84, 85, 86, 87, 88, 89, 90] rfl (by decide +kernel)
set_option maxRecDepth 20000 in
theorem gX8_land_X1_addWhole : GoodIn wsX8_land (wsV RX8 129 RX1 yX1_addWhole wsX1_addWhole) := goodIn_app (goodIn_of _ (by decide +kernel)) ggX8_land_X1_addWhole
set_option maxRecDepth 20000 in
theorem ggX8_land_X1_countLines : GoodIn wsX8_land wsX1_countLines := goodIn_r _ [71, 38, 83, 84, 85, 86, 87, 88] rfl (by decide +kernel)
set_option maxRecDepth 20000 in
theorem gX8_land_X1_countLines : GoodIn wsX8_land (wsV RX8 118 RX1 yX1_countLines wsX1_countLines) := goodIn_app (goodIn_of _ (by decide +kernel)) ggX8_land_X1_countLines
set_option maxRecDepth 20000 in
theorem ggX8_bridge_X1_hasLine : GoodIn wsX8_bridge wsX1_hasLine := goodIn_r _ [8, 9, 64, 65, 66, 67, 68, 69] rfl (by decide +kernel)
set_option maxRecDepth 20000 in
theorem gX8_bridge_X1_hasLine : GoodIn wsX8_bridge (wsV RX8 132 RX1 yX1_hasLine wsX1_hasLine) := goodIn_app (goodIn_of _ (by decide +kernel)) ggX8_bridge_X1_hasLine
set_option maxRecDepth 20000 in
theorem ggX8_bridge_X1_turnBridge : GoodIn wsX8_bridge wsX1_turnBridge := goodIn_r _ [13, 14, 15, 16, 17, 18, 19, 20, 21, 22, 23, 24, 25, 26, 27, 28, 7, 29, 30, 31, 32, 9, 33, 34, 35, 36, 37, 38, 39, 40, 41, 42, 43, 44, 45, 46, 47, 48, 49, 50, 51, 52, 64, 65, 66, 67, 68, 69, 70, 71] rfl (by decide +kernel)
set_option maxRecDepth 20000 in
theorem gX8_bridge_X1_turnBridge : GoodIn wsX8_bridge (wsV RX8 137 RX1 yX1_turnBridge wsX1_turnBridge) := goodIn_app (goodIn_of _ (by decide +kernel)) ggX8_bridge_X1_turnBridge
set_option maxRecDepth 20000 in
theorem ggX8_ofStation_X1_hasStation : GoodIn wsX8_ofStation wsX1_hasStation := goodIn_r _ [10, 11, 57, 58, 59, 60, 61, 62] rfl (by decide +kernel)
set_option maxRecDepth 20000 in
theorem gX8_ofStation_X1_hasStation : GoodIn wsX8_ofStation (wsV RX8 101 RX1 yX1_hasStation wsX1_hasStation) := goodIn_app (goodIn_of _ (by decide +kernel)) ggX8_ofStation_X1_hasStation
set_option maxRecDepth 20000 in
theorem ggX8_ofStation_X8_stationFact : GoodIn wsX8_ofStation wsX8_stationFact := goodIn_r _ [16, 17, 5, 18, 19, 20, 21, 22, 23, 24, 25, 26, 27, 28, 29, 30, 31, 32, 33, 34, 35, 36, 37, 38, 39, 40, 41, 42, 9, 43, 44, 45, 46, 47, 48, 49, 50, 51, 52, 53, 54, 55, 56, 63, 64, 65, 66, 67, 57, 58, 59, 60, 61, 62] rfl (by decide +kernel)
set_option maxRecDepth 20000 in
theorem gX8_ofStation_X8_stationFact : GoodIn wsX8_ofStation (wsV RX8 154 RX8 yX8_stationFact wsX8_stationFact) := goodIn_app (goodIn_of _ (by decide +kernel)) ggX8_ofStation_X8_stationFact
set_option maxRecDepth 20000 in
theorem ggX8_ofLine_X1_hasLine : GoodIn wsX8_ofLine wsX1_hasLine := goodIn_r _ [10, 11, 53, 54, 55, 56, 57, 58] rfl (by decide +kernel)
set_option maxRecDepth 20000 in
theorem gX8_ofLine_X1_hasLine : GoodIn wsX8_ofLine (wsV RX8 132 RX1 yX1_hasLine wsX1_hasLine) := goodIn_app (goodIn_of _ (by decide +kernel)) ggX8_ofLine_X1_hasLine
set_option maxRecDepth 20000 in
theorem ggX8_ofLine_X8_lineFact : GoodIn wsX8_ofLine wsX8_lineFact := goodIn_r _ [16, 17, 5, 18, 19, 20, 21, 22, 23, 24, 25, 26, 27, 28, 29, 30, 31, 32, 33, 34, 35, 36, 37, 38, 9, 39, 40, 41, 42, 43, 44, 45, 46, 47, 48, 49, 50, 51, 52, 59, 60, 61, 62, 63, 53, 54, 55, 56, 57, 58] rfl (by decide +kernel)
set_option maxRecDepth 20000 in
theorem gX8_ofLine_X8_lineFact : GoodIn wsX8_ofLine (wsV RX8 159 RX8 yX8_lineFact wsX8_lineFact) := goodIn_app (goodIn_of _ (by decide +kernel)) ggX8_ofLine_X8_lineFact
set_option maxRecDepth 20000 in
theorem ggX8_unit_X1_hasStation : GoodIn wsX8_unit wsX1_hasStation := goodIn_r _ [14, 15, 50, 51, 52, 53, 54, 55] rfl (by decide +kernel)
set_option maxRecDepth 20000 in
theorem gX8_unit_X1_hasStation : GoodIn wsX8_unit (wsV RX8 101 RX1 yX1_hasStation wsX1_hasStation) := goodIn_app (goodIn_of _ (by decide +kernel)) ggX8_unit_X1_hasStation
set_option maxRecDepth 20000 in
theorem ggX8_unit_X8_isNoSector : GoodIn wsX8_unit wsX8_isNoSector := goodIn_r _ [19] rfl (by decide +kernel)
set_option maxRecDepth 20000 in
theorem gX8_unit_X8_isNoSector : GoodIn wsX8_unit (va_wsS RX8 162 yX8_isNoSector wsX8_isNoSector) := goodIn_app (goodIn_of _ (by decide +kernel)) ggX8_unit_X8_isNoSector
set_option maxRecDepth 20000 in
theorem ggX8_unit_X7_count : GoodIn wsX8_unit wsX7_count := goodIn_r _ [24, 25, 56, 57, 58] rfl (by decide +kernel)
set_option maxRecDepth 20000 in
theorem gX8_unit_X7_count : GoodIn wsX8_unit (wsV RX8 171 RX7 yX7_count wsX7_count) := goodIn_app (goodIn_of _ (by decide +kernel)) ggX8_unit_X7_count
set_option maxRecDepth 20000 in
theorem ggX8_unit_X7_add : GoodIn wsX8_unit wsX7_add := goodIn_r _ [29, 25, 30, 31, 32, 33, 34, 35, 36, 37, 56, 57, 58, 59, 60] rfl (by decide +kernel)
set_option maxRecDepth 20000 in
theorem gX8_unit_X7_add : GoodIn wsX8_unit (wsV RX8 176 RX7 yX7_add wsX7_add) := goodIn_app (goodIn_of _ (by decide +kernel)) ggX8_unit_X7_add
set_option maxRecDepth 20000 in
theorem ggX8_unit_X5_set : GoodIn wsX8_unit wsX5_set := goodIn_r _ [35, 36, 37, 59, 60] rfl (by decide +kernel)
set_option maxRecDepth 20000 in
theorem gX8_unit_X5_set : GoodIn wsX8_unit (wsV RX8 180 RX5 yX5_set wsX5_set) := goodIn_app (goodIn_of _ (by decide +kernel)) ggX8_unit_X5_set
set_option maxRecDepth 20000 in
theorem ggX8_railhead_X8_isNoSector : GoodIn wsX8_railhead wsX8_isNoSector := goodIn_r _ [14] rfl (by decide +kernel)
set_option maxRecDepth 20000 in
theorem gX8_railhead_X8_isNoSector : GoodIn wsX8_railhead (va_wsS RX8 162 yX8_isNoSector wsX8_isNoSector) := goodIn_app (goodIn_of _ (by decide +kernel)) ggX8_railhead_X8_isNoSector
set_option maxRecDepth 20000 in
theorem ggX8_railhead_X1_hasStation : GoodIn wsX8_railhead wsX1_hasStation := goodIn_r _ [19, 20, 72, 73, 74, 75, 76, 77] rfl (by decide +kernel)
set_option maxRecDepth 20000 in
theorem gX8_railhead_X1_hasStation : GoodIn wsX8_railhead (wsV RX8 101 RX1 yX1_hasStation wsX1_hasStation) := goodIn_app (goodIn_of _ (by decide +kernel)) ggX8_railhead_X1_hasStation
set_option maxRecDepth 20000 in
theorem ggX8_railhead_X2_hasFor : GoodIn wsX8_railhead wsX2_hasFor := goodIn_r _ [25, 26, 27, 28, 29, 24, 30, 31, 32, 33, 34, 35, 36, 37, 78, 79, 80, 81, 82, 83, 84] rfl (by decide +kernel)
set_option maxRecDepth 20000 in
theorem gX8_railhead_X2_hasFor : GoodIn wsX8_railhead (wsV RX8 186 RX2 yX2_hasFor wsX2_hasFor) := goodIn_app (goodIn_of _ (by decide +kernel)) ggX8_railhead_X2_hasFor
set_option maxRecDepth 20000 in
theorem ggX8_railhead_X6_hasFor : GoodIn wsX8_railhead wsX6_hasFor := goodIn_r _ [42, 43, 44, 45, 32, 33, 34, 35, 36, 37, 85, 86, 87, 83, 84] rfl (by decide +kernel)
set_option maxRecDepth 20000 in
theorem gX8_railhead_X6_hasFor : GoodIn wsX8_railhead (wsV RX8 189 RX6 yX6_hasFor wsX6_hasFor) := goodIn_app (goodIn_of _ (by decide +kernel)) ggX8_railhead_X6_hasFor
set_option maxRecDepth 20000 in
theorem ggX8_railhead_X3_get : GoodIn wsX8_railhead wsX3_get := goodIn_r _ [50, 51, 52, 32, 33, 34, 35, 36, 37, 88, 83, 84] rfl (by decide +kernel)
set_option maxRecDepth 20000 in
theorem gX8_railhead_X3_get : GoodIn wsX8_railhead (wsV RX8 192 RX3 yX3_get wsX3_get) := goodIn_app (goodIn_of _ (by decide +kernel)) ggX8_railhead_X3_get
set_option maxRecDepth 20000 in
theorem ggX8_railhead_X3_set : GoodIn wsX8_railhead wsX3_set := goodIn_r _ [56, 51, 57, 58, 59, 34, 60, 36, 37, 88, 83, 84] rfl (by decide +kernel)
set_option maxRecDepth 20000 in
theorem gX8_railhead_X3_set : GoodIn wsX8_railhead (wsV RX8 195 RX3 yX3_set wsX3_set) := goodIn_app (goodIn_of _ (by decide +kernel)) ggX8_railhead_X3_set
set_option maxRecDepth 20000 in
theorem ggX8_order_X7_count : GoodIn wsX8_order wsX7_count := goodIn_r _ [12, 13, 68, 69, 70] rfl (by decide +kernel)
set_option maxRecDepth 20000 in
theorem gX8_order_X7_count : GoodIn wsX8_order (wsV RX8 171 RX7 yX7_count wsX7_count) := goodIn_app (goodIn_of _ (by decide +kernel)) ggX8_order_X7_count
set_option maxRecDepth 20000 in
theorem ggX8_order_X1_countStations : GoodIn wsX8_order wsX1_countStations := goodIn_r _ [18, 19, 71, 72, 73, 74, 75, 76] rfl (by decide +kernel)
set_option maxRecDepth 20000 in
theorem gX8_order_X1_countStations : GoodIn wsX8_order (wsV RX8 88 RX1 yX1_countStations wsX1_countStations) := goodIn_app (goodIn_of _ (by decide +kernel)) ggX8_order_X1_countStations
set_option maxRecDepth 20000 in
theorem ggX8_order_X7_get : GoodIn wsX8_order wsX7_get := goodIn_r _ [23, 24, 25, 26, 27, 28, 29, 30, 31, 68, 69, 70, 77, 78] rfl (by decide +kernel)
set_option maxRecDepth 20000 in
theorem gX8_order_X7_get : GoodIn wsX8_order (wsV RX8 200 RX7 yX7_get wsX7_get) := goodIn_app (goodIn_of _ (by decide +kernel)) ggX8_order_X7_get
set_option maxRecDepth 20000 in
theorem ggX8_order_X7_set : GoodIn wsX8_order wsX7_set := goodIn_r _ [35, 24, 36, 37, 38, 28, 39, 30, 31, 68, 69, 70, 77, 78] rfl (by decide +kernel)
set_option maxRecDepth 20000 in
theorem gX8_order_X7_set : GoodIn wsX8_order (wsV RX8 201 RX7 yX7_set wsX7_set) := goodIn_app (goodIn_of _ (by decide +kernel)) ggX8_order_X7_set
set_option maxRecDepth 20000 in
theorem ggX8_order_X8_wireTicks : GoodIn wsX8_order wsX8_wireTicks := goodIn_r _ [44, 6, 5, 20, 21, 22, 11, 23, 24, 25, 26, 27, 28, 29, 30, 31, 45, 46, 47, 17, 48, 49, 50, 51, 52, 53, 54, 55, 56, 57, 58, 59, 60, 61, 62, 63, 64, 65, 66, 67, 68, 69, 70, 77, 78, 71, 72, 73, 74, 75, 76] rfl (by decide +kernel)
set_option maxRecDepth 20000 in
theorem gX8_order_X8_wireTicks : GoodIn wsX8_order (wsV RX8 202 RX8 yX8_wireTicks wsX8_wireTicks) := goodIn_app (goodIn_of _ (by decide +kernel)) ggX8_order_X8_wireTicks
set_option maxRecDepth 20000 in
theorem ggX8_stop_X7_has : GoodIn wsX8_stop wsX7_has := goodIn_r _ [11, 12, 63, 64, 65] rfl (by decide +kernel)
set_option maxRecDepth 20000 in
theorem gX8_stop_X7_has : GoodIn wsX8_stop (wsV RX8 206 RX7 yX7_has wsX7_has) := goodIn_app (goodIn_of _ (by decide +kernel)) ggX8_stop_X7_has
set_option maxRecDepth 20000 in
theorem ggX8_stop_X7_get : GoodIn wsX8_stop wsX7_get := goodIn_r _ [16, 17, 18, 19, 20, 21, 22, 23, 24, 63, 64, 65, 66, 67] rfl (by decide +kernel)
set_option maxRecDepth 20000 in
theorem gX8_stop_X7_get : GoodIn wsX8_stop (wsV RX8 200 RX7 yX7_get wsX7_get) := goodIn_app (goodIn_of _ (by decide +kernel)) ggX8_stop_X7_get
set_option maxRecDepth 20000 in
theorem ggX8_stop_X8_wireTicks : GoodIn wsX8_stop wsX8_wireTicks := goodIn_r _ [29, 30, 5, 13, 14, 15, 10, 16, 17, 18, 19, 20, 21, 22, 23, 24, 31, 32, 33, 34, 35, 36, 37, 38, 39, 40, 41, 42, 43, 52, 53, 54, 55, 56, 57, 58, 59, 60, 61, 62, 63, 64, 65, 66, 67, 68, 69, 70, 71, 72, 73] rfl (by decide +kernel)
set_option maxRecDepth 20000 in
theorem gX8_stop_X8_wireTicks : GoodIn wsX8_stop (wsV RX8 202 RX8 yX8_wireTicks wsX8_wireTicks) := goodIn_app (goodIn_of _ (by decide +kernel)) ggX8_stop_X8_wireTicks
set_option maxRecDepth 20000 in
theorem ggX8_stop_X7_set : GoodIn wsX8_stop wsX7_set := goodIn_r _ [47, 17, 48, 49, 50, 21, 51, 23, 24, 63, 64, 65, 66, 67] rfl (by decide +kernel)
set_option maxRecDepth 20000 in
theorem gX8_stop_X7_set : GoodIn wsX8_stop (wsV RX8 201 RX7 yX7_set wsX7_set) := goodIn_app (goodIn_of _ (by decide +kernel)) ggX8_stop_X7_set
set_option maxRecDepth 20000 in
theorem ggX8_ofUnit_X7_has : GoodIn wsX8_ofUnit wsX7_has := goodIn_r _ [10, 11, 64, 65, 66] rfl (by decide +kernel)
set_option maxRecDepth 20000 in
theorem gX8_ofUnit_X7_has : GoodIn wsX8_ofUnit (wsV RX8 206 RX7 yX7_has wsX7_has) := goodIn_app (goodIn_of _ (by decide +kernel)) ggX8_ofUnit_X7_has
set_option maxRecDepth 20000 in
theorem ggX8_ofUnit_X8_unitFact : GoodIn wsX8_ofUnit wsX8_unitFact := goodIn_r _ [16, 5, 17, 18, 19, 20, 21, 9, 22, 23, 24, 25, 26, 27, 28, 29, 30, 31, 32, 33, 34, 35, 36, 37, 38, 39, 40, 41, 42, 43, 44, 45, 46, 47, 48, 49, 50, 51, 52, 53, 54, 55, 56, 57, 58, 59, 60, 61, 62, 63, 64, 65, 66, 67, 68, 69, 70, 71, 72, 73] rfl (by decide +kernel)
set_option maxRecDepth 20000 in
theorem gX8_ofUnit_X8_unitFact : GoodIn wsX8_ofUnit (wsV RX8 217 RX8 yX8_unitFact wsX8_unitFact) := goodIn_app (goodIn_of _ (by decide +kernel)) ggX8_ofUnit_X8_unitFact
set_option maxRecDepth 20000 in
theorem ggX8_plan_X7_has : GoodIn wsX8_plan wsX7_has := goodIn_r _ [14, 15, 171, 172, 173] rfl (by decide +kernel)
set_option maxRecDepth 20000 in
theorem gX8_plan_X7_has : GoodIn wsX8_plan (wsV RX8 206 RX7 yX7_has wsX7_has) := goodIn_app (goodIn_of _ (by decide +kernel)) ggX8_plan_X7_has
set_option maxRecDepth 20000 in
theorem ggX8_plan_X8_isNoTickToPlan : GoodIn wsX8_plan wsX8_isNoTickToPlan := goodIn_r _ [20, 21, 160, 161, 162, 163, 164, 165, 166, 167, 168, 169, 170] rfl (by decide +kernel)
set_option maxRecDepth 20000 in
theorem gX8_plan_X8_isNoTickToPlan : GoodIn wsX8_plan (wsV RX8 220 RX8 yX8_isNoTickToPlan wsX8_isNoTickToPlan) := goodIn_app (goodIn_of _ (by decide +kernel)) ggX8_plan_X8_isNoTickToPlan
set_option maxRecDepth 20000 in
theorem ggX8_plan_X8_countWaitingPaths : GoodIn wsX8_plan wsX8_countWaitingPaths := goodIn_r _ [25, 7, 9, 26, 27, 28, 13, 29, 30, 31, 32, 33, 34, 35, 36, 37, 38, 39, 40, 41, 42, 43, 44, 45, 46, 47, 160, 161, 162, 163, 164, 165, 166, 167, 168, 169, 170, 171, 172, 173, 174, 175, 176, 177, 178, 179, 180] rfl (by decide +kernel)
set_option maxRecDepth 20000 in
theorem gX8_plan_X8_countWaitingPaths : GoodIn wsX8_plan (wsV RX8 225 RX8 yX8_countWaitingPaths wsX8_countWaitingPaths) := goodIn_app (goodIn_of _ (by decide +kernel)) ggX8_plan_X8_countWaitingPaths
set_option maxRecDepth 20000 in
theorem ggX8_plan_X8_isNotPlannable : GoodIn wsX8_plan wsX8_isNotPlannable := goodIn_r _ [51, 7, 52, 26, 27, 28, 13, 29, 30, 31, 32, 33, 34, 35, 36, 37, 53, 54, 55, 56, 57, 58, 59, 160, 161, 162, 163, 164, 165, 166, 167, 168, 169, 170, 171, 172, 173, 174, 175, 181] rfl (by decide +kernel)
set_option maxRecDepth 20000 in
theorem gX8_plan_X8_isNotPlannable : GoodIn wsX8_plan (wsV RX8 230 RX8 yX8_isNotPlannable wsX8_isNotPlannable) := goodIn_app (goodIn_of _ (by decide +kernel)) ggX8_plan_X8_isNotPlannable
set_option maxRecDepth 20000 in
theorem ggX8_plan_X2_copyFrom : GoodIn wsX8_plan wsX2_copyFrom := goodIn_r _ [63, 46, 64, 65, 66, 67, 68, 69, 70, 34, 71, 37, 176, 177, 178, 179, 180, 174, 175] rfl (by decide +kernel)
set_option maxRecDepth 20000 in
theorem gX8_plan_X2_copyFrom : GoodIn wsX8_plan (wsV RX8 235 RX2 yX2_copyFrom wsX2_copyFrom) := goodIn_app (goodIn_of _ (by decide +kernel)) ggX8_plan_X2_copyFrom
set_option maxRecDepth 20000 in
theorem ggX8_plan_X7_get : GoodIn wsX8_plan wsX7_get := goodIn_r _ [29, 30, 31, 32, 33, 34, 35, 36, 37, 171, 172, 173, 174, 175] rfl (by decide +kernel)
set_option maxRecDepth 20000 in
theorem gX8_plan_X7_get : GoodIn wsX8_plan (wsV RX8 200 RX7 yX7_get wsX7_get) := goodIn_app (goodIn_of _ (by decide +kernel)) ggX8_plan_X7_get
set_option maxRecDepth 20000 in
theorem ggX8_plan_X8_planUnit : GoodIn wsX8_plan wsX8_planUnit := goodIn_r _ [75, 7, 52, 8, 76, 26, 27, 28, 13, 29, 30, 31, 32, 33, 34, 35, 36, 37, 53, 54, 55, 56, 57, 58, 59, 77, 78, 79, 80, 38, 39, 40, 41, 81, 82, 83, 84, 46, 85, 86, 87, 88, 89, 90, 91, 92, 65, 64, 66, 47, 93, 94, 95, 96, 97, 98, 99, 100, 101, 102, 103, 104, 105, 106, 107, 108, 109, 110, 111, 112, 113, 114, 115, 116, 117, 118, 119, 120, 121, 67, 122, 123, 124, 125, 126, 127, 128, 129, 130, 131, 132, 133, 134, 135, 136, 137, 138, 139, 140, 141, 142, 143, 144, 145, 146, 147, 148, 149, 150, 151, 152, 153, 154, 155, 156, 157, 158, 159, 160, 161, 162, 163, 164, 165, 166, 167, 168, 169, 170, 171, 172, 173, 174, 175, 181, 176, 177, 178, 179, 180, 182, 183, 184, 185, 186, 187] rfl (by decide +kernel)
set_option maxRecDepth 20000 in
theorem gX8_plan_X8_planUnit : GoodIn wsX8_plan (wsV RX8 239 RX8 yX8_planUnit wsX8_planUnit) := goodIn_app (goodIn_of _ (by decide +kernel)) ggX8_plan_X8_planUnit
set_option maxRecDepth 20000 in
theorem ggX8_could_X7_has : GoodIn wsX8_could wsX7_has := goodIn_r _ [14, 15, 175, 176, 177] rfl (by decide +kernel)
set_option maxRecDepth 20000 in
theorem gX8_could_X7_has : GoodIn wsX8_could (wsV RX8 206 RX7 yX7_has wsX7_has) := goodIn_app (goodIn_of _ (by decide +kernel)) ggX8_could_X7_has
set_option maxRecDepth 20000 in
theorem ggX8_could_X8_isNoTickToPlan : GoodIn wsX8_could wsX8_isNoTickToPlan := goodIn_r _ [20, 21, 164, 165, 166, 167, 168, 169, 170, 171, 172, 173, 174] rfl (by decide +kernel)
set_option maxRecDepth 20000 in
theorem gX8_could_X8_isNoTickToPlan : GoodIn wsX8_could (wsV RX8 220 RX8 yX8_isNoTickToPlan wsX8_isNoTickToPlan) := goodIn_app (goodIn_of _ (by decide +kernel)) ggX8_could_X8_isNoTickToPlan
set_option maxRecDepth 20000 in
theorem ggX8_could_X8_isNotPlannable : GoodIn wsX8_could wsX8_isNotPlannable := goodIn_r _ [25, 7, 26, 27, 28, 29, 13, 30, 31, 32, 33, 34, 35, 36, 37, 38, 39, 40, 41, 42, 43, 44, 45, 164, 165, 166, 167, 168, 169, 170, 171, 172, 173, 174, 175, 176, 177, 178, 179, 180] rfl (by decide +kernel)
set_option maxRecDepth 20000 in
theorem gX8_could_X8_isNotPlannable : GoodIn wsX8_could (wsV RX8 230 RX8 yX8_isNotPlannable wsX8_isNotPlannable) := goodIn_app (goodIn_of _ (by decide +kernel)) ggX8_could_X8_isNotPlannable
set_option maxRecDepth 20000 in
theorem ggX8_could_X2_copyFrom : GoodIn wsX8_could wsX2_copyFrom := goodIn_r _ [50, 51, 52, 53, 54, 55, 56, 57, 58, 35, 59, 38, 181, 182, 183, 184, 185, 178, 179] rfl (by decide +kernel)
set_option maxRecDepth 20000 in
theorem gX8_could_X2_copyFrom : GoodIn wsX8_could (wsV RX8 235 RX2 yX2_copyFrom wsX2_copyFrom) := goodIn_app (goodIn_of _ (by decide +kernel)) ggX8_could_X2_copyFrom
set_option maxRecDepth 20000 in
theorem ggX8_could_X8_dropWaiting : GoodIn wsX8_could wsX8_dropWaiting := goodIn_r _ [63, 7, 27, 28, 29, 13, 30, 31, 32, 33, 34, 35, 36, 37, 38, 64, 65, 49, 66, 67, 68, 69, 70, 51, 71, 72, 73, 74, 75, 76, 77, 78, 79, 164, 165, 166, 167, 168, 169, 170, 171, 172, 173, 174, 175, 176, 177, 178, 179, 181, 182, 183, 184, 185] rfl (by decide +kernel)
set_option maxRecDepth 20000 in
theorem gX8_could_X8_dropWaiting : GoodIn wsX8_could (wsV RX8 243 RX8 yX8_dropWaiting wsX8_dropWaiting) := goodIn_app (goodIn_of _ (by decide +kernel)) ggX8_could_X8_dropWaiting
set_option maxRecDepth 20000 in
theorem ggX8_could_X7_get : GoodIn wsX8_could wsX7_get := goodIn_r _ [30, 31, 32, 33, 34, 35, 36, 37, 38, 175, 176, 177, 178, 179] rfl (by decide +kernel)
set_option maxRecDepth 20000 in
theorem gX8_could_X7_get : GoodIn wsX8_could (wsV RX8 200 RX7 yX7_get wsX7_get) := goodIn_app (goodIn_of _ (by decide +kernel)) ggX8_could_X7_get
set_option maxRecDepth 20000 in
theorem ggX8_could_X8_planUnit : GoodIn wsX8_could wsX8_planUnit := goodIn_r _ [83, 7, 26, 8, 84, 27, 28, 29, 13, 30, 31, 32, 33, 34, 35, 36, 37, 38, 39, 40, 41, 42, 43, 44, 45, 85, 86, 87, 88, 64, 65, 49, 66, 89, 90, 91, 92, 51, 76, 77, 78, 79, 93, 94, 95, 96, 53, 52, 54, 75, 97, 98, 99, 100, 101, 102, 103, 104, 105, 106, 107, 108, 109, 110, 111, 112, 113, 114, 115, 116, 117, 118, 119, 120, 121, 122, 123, 124, 125, 55, 126, 127, 128, 129, 130, 131, 132, 133, 134, 135, 136, 137, 138, 139, 140, 141, 142, 143, 144, 145, 146, 147, 148, 149, 150, 151, 152, 153, 154, 155, 156, 157, 158, 159, 160, 161, 162, 163, 164, 165, 166, 167, 168, 169, 170, 171, 172, 173, 174, 175, 176, 177, 178, 179, 180, 181, 182, 183, 184, 185, 186, 187, 188, 189, 190, 191] rfl (by decide +kernel)
set_option maxRecDepth 20000 in
theorem gX8_could_X8_planUnit : GoodIn wsX8_could (wsV RX8 239 RX8 yX8_planUnit wsX8_planUnit) := goodIn_app (goodIn_of _ (by decide +kernel)) ggX8_could_X8_planUnit
set_option maxRecDepth 20000 in
theorem ggX8_aim_X7_has : GoodIn wsX8_aim wsX7_has := goodIn_r _ [9, 10, 37, 38, 39] rfl (by decide +kernel)
set_option maxRecDepth 20000 in
theorem gX8_aim_X7_has : GoodIn wsX8_aim (wsV RX8 206 RX7 yX7_has wsX7_has) := goodIn_app (goodIn_of _ (by decide +kernel)) ggX8_aim_X7_has
set_option maxRecDepth 20000 in
theorem ggX8_aim_X8_isNoSector : GoodIn wsX8_aim wsX8_isNoSector := goodIn_r _ [14] rfl (by decide +kernel)
set_option maxRecDepth 20000 in
theorem gX8_aim_X8_isNoSector : GoodIn wsX8_aim (va_wsS RX8 162 yX8_isNoSector wsX8_isNoSector) := goodIn_app (goodIn_of _ (by decide +kernel)) ggX8_aim_X8_isNoSector
set_option maxRecDepth 20000 in
theorem ggX8_aim_X5_get : GoodIn wsX8_aim wsX5_get := goodIn_r _ [19, 20, 21, 40, 41] rfl (by decide +kernel)
set_option maxRecDepth 20000 in
theorem gX8_aim_X5_get : GoodIn wsX8_aim (wsV RX8 260 RX5 yX5_get wsX5_get) := goodIn_app (goodIn_of _ (by decide +kernel)) ggX8_aim_X5_get
set_option maxRecDepth 20000 in
theorem ggX8_aim_X5_set : GoodIn wsX8_aim wsX5_set := goodIn_r _ [25, 20, 21, 40, 41] rfl (by decide +kernel)
set_option maxRecDepth 20000 in
theorem gX8_aim_X5_set : GoodIn wsX8_aim (wsV RX8 180 RX5 yX5_set wsX5_set) := goodIn_app (goodIn_of _ (by decide +kernel)) ggX8_aim_X5_set
set_option maxRecDepth 20000 in
theorem ggX8_change_X8_tryChange : GoodIn wsX8_change wsX8_tryChange := goodIn_r _ [12, 7, 6, 13, 14, 5, 15, 16, 17, 18, 19, 20, 21, 22, 23, 24, 25, 26, 27, 28, 29, 30, 31, 32, 33, 34, 35, 36, 37, 38, 39, 11, 40, 41, 42, 43, 44, 45, 46, 47, 48, 49, 50, 51, 52, 53, 54, 55, 56, 57, 58, 59, 60, 61, 62, 63, 64, 65, 66, 67, 68, 69, 70, 71, 72, 73, 74, 75, 76, 77, 78, 79, 80, 81, 82, 83, 84, 85, 86, 87, 88, 89, 90, 91, 92, 93, 94, 95, 96, 97, 98, 99, 100, 101, 102, 103, 104, 105, 106, 107, 108, 109, 110, 111, 112, 113, 114, 115, 116, 117, 118, 119, 120, 121, 122, 123, 124, 125, 126, 127, 128, 129, 130, 131, 132, 133, 134, 135, 136, 137, 138, 139, 140, 141, 142, 143, 144, 145, 146, 147, 148, 149, 150, 151, 152, 153, 154, 155, 156, 157, 158, 159, 160, 161, 162, 163, 173, 174, 175, 176, 177, 178, 179, 180, 181, 182, 183, 184, 185, 186, 187, 188, 189, 190, 191, 192, 193, 194, 195, 196, 197, 198, 199, 200] rfl (by decide +kernel)
set_option maxRecDepth 20000 in
theorem gX8_change_X8_tryChange : GoodIn wsX8_change (wsV RX8 263 RX8 yX8_tryChange wsX8_tryChange) := goodIn_app (goodIn_of _ (by decide +kernel)) ggX8_change_X8_tryChange
set_option maxRecDepth 20000 in
theorem ggX8_change_X2_copyFrom : GoodIn wsX8_change wsX2_copyFrom := goodIn_r _ [19, 20, 21, 22, 23, 24, 25, 26, 27, 28, 29, 30, 184, 185, 186, 187, 188, 189, 190] rfl (by decide +kernel)
set_option maxRecDepth 20000 in
theorem gX8_change_X2_copyFrom : GoodIn wsX8_change (wsV RX8 235 RX2 yX2_copyFrom wsX2_copyFrom) := goodIn_app (goodIn_of _ (by decide +kernel)) ggX8_change_X2_copyFrom
set_option maxRecDepth 20000 in
theorem ggX8_change_X8_takeAims : GoodIn wsX8_change wsX8_takeAims := goodIn_r _ [167, 13, 14, 31, 32, 33, 34, 35, 36, 37, 38, 39, 11, 40, 41, 42, 43, 44, 45, 46, 47, 48, 28, 49, 50, 30, 51, 168, 169, 170, 171, 172, 69, 70, 71, 173, 174, 175, 176, 177, 178, 179, 180, 181, 182, 183, 191, 192, 193, 189, 190] rfl (by decide +kernel)
set_option maxRecDepth 20000 in
theorem gX8_change_X8_takeAims : GoodIn wsX8_change (wsV RX8 266 RX8 yX8_takeAims wsX8_takeAims) := goodIn_app (goodIn_of _ (by decide +kernel)) ggX8_change_X8_takeAims
set_option maxRecDepth 20000 in
theorem ggX8_box_X6_has : GoodIn wsX8_box wsX6_has := goodIn_r _ [13, 14, 54, 55, 56] rfl (by decide +kernel)
set_option maxRecDepth 20000 in
theorem gX8_box_X6_has : GoodIn wsX8_box (wsV RX8 275 RX6 yX6_has wsX6_has) := goodIn_app (goodIn_of _ (by decide +kernel)) ggX8_box_X6_has
set_option maxRecDepth 20000 in
theorem ggX8_box_X6_get : GoodIn wsX8_box wsX6_get := goodIn_r _ [18, 19, 20, 21, 22, 23, 24, 25, 26, 54, 55, 56, 57, 58] rfl (by decide +kernel)
set_option maxRecDepth 20000 in
theorem gX8_box_X6_get : GoodIn wsX8_box (wsV RX8 280 RX6 yX6_get wsX6_get) := goodIn_app (goodIn_of _ (by decide +kernel)) ggX8_box_X6_get
set_option maxRecDepth 20000 in
theorem ggX8_box_X6_add : GoodIn wsX8_box wsX6_add := goodIn_r _ [30, 19, 31, 32, 33, 23, 34, 25, 26, 54, 55, 56, 57, 58] rfl (by decide +kernel)
set_option maxRecDepth 20000 in
theorem gX8_box_X6_add : GoodIn wsX8_box (wsV RX8 283 RX6 yX6_add wsX6_add) := goodIn_app (goodIn_of _ (by decide +kernel)) ggX8_box_X6_add
set_option maxRecDepth 20000 in
theorem ggX8_box_X6_lateOf : GoodIn wsX8_box wsX6_lateOf := goodIn_r _ [38, 19, 39, 40, 41, 42, 20, 21, 22, 23, 24, 25, 26, 54, 55, 56, 57, 58] rfl (by decide +kernel)
set_option maxRecDepth 20000 in
theorem gX8_box_X6_lateOf : GoodIn wsX8_box (wsV RX8 285 RX6 yX6_lateOf wsX6_lateOf) := goodIn_app (goodIn_of _ (by decide +kernel)) ggX8_box_X6_lateOf
set_option maxRecDepth 20000 in
theorem ggX8_foul_X1_hasStation : GoodIn wsX8_foul wsX1_hasStation := goodIn_r _ [10, 11, 43, 44, 45, 46, 47, 48] rfl (by decide +kernel)
set_option maxRecDepth 20000 in
theorem gX8_foul_X1_hasStation : GoodIn wsX8_foul (wsV RX8 101 RX1 yX1_hasStation wsX1_hasStation) := goodIn_app (goodIn_of _ (by decide +kernel)) ggX8_foul_X1_hasStation
set_option maxRecDepth 20000 in
theorem ggX8_foul_X1_getStation : GoodIn wsX8_foul wsX1_getStation := goodIn_r _ [15, 16, 17, 18, 19, 20, 21, 22, 23, 43, 44, 45, 46, 47, 48, 49, 50] rfl (by decide +kernel)
set_option maxRecDepth 20000 in
theorem gX8_foul_X1_getStation : GoodIn wsX8_foul (wsV RX8 290 RX1 yX1_getStation wsX1_getStation) := goodIn_app (goodIn_of _ (by decide +kernel)) ggX8_foul_X1_getStation
set_option maxRecDepth 20000 in
theorem ggX8_foul_X1_setStation : GoodIn wsX8_foul wsX1_setStation := goodIn_r _ [27, 16, 28, 29, 30, 20, 31, 22, 23, 43, 44, 45, 46, 47, 48, 49, 50] rfl (by decide +kernel)
set_option maxRecDepth 20000 in
theorem gX8_foul_X1_setStation : GoodIn wsX8_foul (wsV RX8 293 RX1 yX1_setStation wsX1_setStation) := goodIn_app (goodIn_of _ (by decide +kernel)) ggX8_foul_X1_setStation
set_option maxRecDepth 20000 in
theorem ggX8_ofTrain_X6_has : GoodIn wsX8_ofTrain wsX6_has := goodIn_r _ [10, 11, 49, 50, 51] rfl (by decide +kernel)
set_option maxRecDepth 20000 in
theorem gX8_ofTrain_X6_has : GoodIn wsX8_ofTrain (wsV RX8 275 RX6 yX6_has wsX6_has) := goodIn_app (goodIn_of _ (by decide +kernel)) ggX8_ofTrain_X6_has
set_option maxRecDepth 20000 in
theorem ggX8_ofTrain_X8_trainFact : GoodIn wsX8_ofTrain wsX8_trainFact := goodIn_r _ [16, 5, 17, 18, 19, 20, 9, 21, 22, 23, 24, 25, 26, 27, 28, 29, 30, 31, 32, 33, 34, 35, 36, 37, 38, 39, 40, 41, 42, 43, 44, 45, 46, 47, 48, 49, 50, 51, 52, 53] rfl (by decide +kernel)
set_option maxRecDepth 20000 in
theorem gX8_ofTrain_X8_trainFact : GoodIn wsX8_ofTrain (wsV RX8 298 RX8 yX8_trainFact wsX8_trainFact) := goodIn_app (goodIn_of _ (by decide +kernel)) ggX8_ofTrain_X8_trainFact
set_option maxRecDepth 20000 in
theorem ggX8_supply_X8_isNoSector : GoodIn wsX8_supply wsX8_isNoSector := goodIn_r _ [15] rfl (by decide +kernel)
set_option maxRecDepth 20000 in
theorem gX8_supply_X8_isNoSector : GoodIn wsX8_supply (va_wsS RX8 162 yX8_isNoSector wsX8_isNoSector) := goodIn_app (goodIn_of _ (by decide +kernel)) ggX8_supply_X8_isNoSector
set_option maxRecDepth 20000 in
theorem ggX8_supply_X8_isNoTickToPlan : GoodIn wsX8_supply wsX8_isNoTickToPlan := goodIn_r _ [19, 20, 144, 145, 146, 147, 148, 149, 150, 151, 152, 153, 154] rfl (by decide +kernel)
set_option maxRecDepth 20000 in
theorem gX8_supply_X8_isNoTickToPlan : GoodIn wsX8_supply (wsV RX8 220 RX8 yX8_isNoTickToPlan wsX8_isNoTickToPlan) := goodIn_app (goodIn_of _ (by decide +kernel)) ggX8_supply_X8_isNoTickToPlan
set_option maxRecDepth 20000 in
theorem ggX8_supply_X3_get : GoodIn wsX8_supply wsX3_get := goodIn_r _ [25, 26, 27, 28, 29, 30, 31, 32, 33, 155, 156, 157] rfl (by decide +kernel)
set_option maxRecDepth 20000 in
theorem gX8_supply_X3_get : GoodIn wsX8_supply (wsV RX8 192 RX3 yX3_get wsX3_get) := goodIn_app (goodIn_of _ (by decide +kernel)) ggX8_supply_X3_get
set_option maxRecDepth 20000 in
theorem ggX8_supply_X4_freeRow : GoodIn wsX8_supply wsX4_freeRow := goodIn_r _ [38, 39, 40, 28, 29, 30, 31, 32, 33, 158, 159, 156, 157] rfl (by decide +kernel)
set_option maxRecDepth 20000 in
theorem gX8_supply_X4_freeRow : GoodIn wsX8_supply (wsV RX8 307 RX4 yX4_freeRow wsX4_freeRow) := goodIn_app (goodIn_of _ (by decide +kernel)) ggX8_supply_X4_freeRow
set_option maxRecDepth 20000 in
theorem ggX8_supply_X2_slotOfSupply : GoodIn wsX8_supply wsX2_slotOfSupply := goodIn_r _ [44] rfl (by decide +kernel)
set_option maxRecDepth 20000 in
theorem gX8_supply_X2_slotOfSupply : GoodIn wsX8_supply (va_wsS RX8 312 yX2_slotOfSupply wsX2_slotOfSupply) := goodIn_app (goodIn_of _ (by decide +kernel)) ggX8_supply_X2_slotOfSupply
set_option maxRecDepth 20000 in
theorem ggX8_supply_X2_copyFrom : GoodIn wsX8_supply wsX2_copyFrom := goodIn_r _ [48, 49, 50, 51, 52, 53, 54, 55, 56, 30, 57, 33, 160, 161, 162, 163, 164, 156, 157] rfl (by decide +kernel)
set_option maxRecDepth 20000 in
theorem gX8_supply_X2_copyFrom : GoodIn wsX8_supply (wsV RX8 235 RX2 yX2_copyFrom wsX2_copyFrom) := goodIn_app (goodIn_of _ (by decide +kernel)) ggX8_supply_X2_copyFrom
set_option maxRecDepth 20000 in
theorem ggX8_supply_X2_describe : GoodIn wsX8_supply wsX2_describe := goodIn_r _ [61, 49, 62, 63, 64, 30, 65, 32, 33, 160, 161, 162, 163, 164, 156, 157] rfl (by decide +kernel)
set_option maxRecDepth 20000 in
theorem gX8_supply_X2_describe : GoodIn wsX8_supply (wsV RX8 315 RX2 yX2_describe wsX2_describe) := goodIn_app (goodIn_of _ (by decide +kernel)) ggX8_supply_X2_describe
set_option maxRecDepth 20000 in
theorem ggX8_supply_X2_lay : GoodIn wsX8_supply wsX2_lay := goodIn_r _ [69, 49, 51, 50, 52, 70, 28, 29, 30, 31, 32, 33, 71, 72, 73, 74, 75, 76, 77, 62, 63, 64, 65, 78, 79, 80, 81, 82, 83, 84, 85, 86, 87, 88, 89, 90, 91, 92, 93, 94, 95, 96, 97, 98, 43, 99, 53, 100, 101, 102, 103, 104, 105, 106, 107, 108, 109, 160, 161, 162, 163, 164, 156, 157, 165, 166, 167, 168, 169, 170] rfl (by decide +kernel)
set_option maxRecDepth 20000 in
theorem gX8_supply_X2_lay : GoodIn wsX8_supply (wsV RX8 319 RX2 yX2_lay wsX2_lay) := goodIn_app (goodIn_of _ (by decide +kernel)) ggX8_supply_X2_lay
set_option maxRecDepth 20000 in
theorem ggX8_supply_X2_findStart : GoodIn wsX8_supply wsX2_findStart := goodIn_r _ [113, 49, 62, 63, 64, 30, 65, 32, 33, 114, 115, 116, 43, 117, 50, 70, 28, 29, 31, 118, 119, 120, 121, 51, 53, 52, 122, 123, 124, 125, 126, 127, 128, 129, 130, 131, 132, 133, 134, 135, 136, 137, 160, 161, 162, 163, 164, 156, 157] rfl (by decide +kernel)
set_option maxRecDepth 20000 in
theorem gX8_supply_X2_findStart : GoodIn wsX8_supply (wsV RX8 323 RX2 yX2_findStart wsX2_findStart) := goodIn_app (goodIn_of _ (by decide +kernel)) ggX8_supply_X2_findStart
set_option maxRecDepth 20000 in
theorem ggX8_supply_X4_send : GoodIn wsX8_supply wsX4_send := goodIn_r _ [141, 142, 39, 143, 63, 64, 30, 65, 32, 33, 158, 159, 156, 157] rfl (by decide +kernel)
set_option maxRecDepth 20000 in
theorem gX8_supply_X4_send : GoodIn wsX8_supply (wsV RX8 326 RX4 yX4_send wsX4_send) := goodIn_app (goodIn_of _ (by decide +kernel)) ggX8_supply_X4_send
set_option maxRecDepth 20000 in
theorem ggX8_foe_X8_isNoFoePlan : GoodIn wsX8_foe wsX8_isNoFoePlan := goodIn_r _ [11] rfl (by decide +kernel)
set_option maxRecDepth 20000 in
theorem gX8_foe_X8_isNoFoePlan : GoodIn wsX8_foe (va_wsS RX8 329 yX8_isNoFoePlan wsX8_isNoFoePlan) := goodIn_app (goodIn_of _ (by decide +kernel)) ggX8_foe_X8_isNoFoePlan
set_option maxRecDepth 20000 in
theorem ggX8_foe_X8_isNoSector : GoodIn wsX8_foe wsX8_isNoSector := goodIn_r _ [14] rfl (by decide +kernel)
set_option maxRecDepth 20000 in
theorem gX8_foe_X8_isNoSector : GoodIn wsX8_foe (va_wsS RX8 162 yX8_isNoSector wsX8_isNoSector) := goodIn_app (goodIn_of _ (by decide +kernel)) ggX8_foe_X8_isNoSector
set_option maxRecDepth 20000 in
theorem ggX8_foe_X8_day : GoodIn wsX8_foe wsX8_day := goodIn_r _ [18, 19, 46, 47, 48, 49, 50, 51, 52, 53, 54, 55, 56] rfl (by decide +kernel)
set_option maxRecDepth 20000 in
theorem gX8_foe_X8_day : GoodIn wsX8_foe (wsV RX8 334 RX8 yX8_day wsX8_day) := goodIn_app (goodIn_of _ (by decide +kernel)) ggX8_foe_X8_day
set_option maxRecDepth 20000 in
theorem ggX8_foe_X0_countOf : GoodIn wsX8_foe wsX0_countOf := goodIn_r _ [24, 25, 26, 27, 28, 29, 30, 31, 32, 57, 58, 59, 60, 61, 62] rfl (by decide +kernel)
set_option maxRecDepth 20000 in
theorem gX8_foe_X0_countOf : GoodIn wsX8_foe (wsV RX8 341 RX0 yX0_countOf wsX0_countOf) := goodIn_app (goodIn_of _ (by decide +kernel)) ggX8_foe_X0_countOf
set_option maxRecDepth 20000 in
theorem ggX8_foe_X0_add : GoodIn wsX8_foe wsX0_add := goodIn_r _ [36, 25, 37, 26, 27, 28, 29, 30, 31, 32, 38, 39, 40, 41, 42, 43, 44, 45, 57, 58, 59, 60, 61, 62] rfl (by decide +kernel)
set_option maxRecDepth 20000 in
theorem gX8_foe_X0_add : GoodIn wsX8_foe (wsV RX8 346 RX0 yX0_add wsX0_add) := goodIn_app (goodIn_of _ (by decide +kernel)) ggX8_foe_X0_add
set_option maxRecDepth 20000 in
theorem ggX8_ofSector_X8_isNoSector : GoodIn wsX8_ofSector wsX8_isNoSector := goodIn_r _ [8] rfl (by decide +kernel)
set_option maxRecDepth 20000 in
theorem gX8_ofSector_X8_isNoSector : GoodIn wsX8_ofSector (va_wsS RX8 162 yX8_isNoSector wsX8_isNoSector) := goodIn_app (goodIn_of _ (by decide +kernel)) ggX8_ofSector_X8_isNoSector
set_option maxRecDepth 20000 in
theorem ggX8_ofSector_X8_sectorFact : GoodIn wsX8_ofSector wsX8_sectorFact := goodIn_r _ [12, 13, 14, 15, 16, 17, 18, 19, 20, 21, 22, 23, 24, 25, 26, 27, 28, 29, 30, 31, 32, 33, 34, 35, 36, 37, 38, 39, 40, 41, 42, 43, 44, 45, 46, 47, 48, 49, 7, 50, 51, 52, 53, 54, 55, 56, 57, 58, 59, 60, 61, 62, 63, 64, 65, 66, 67, 68, 69, 70, 71, 72, 73, 74, 75, 76, 77, 78, 79, 80, 81, 82, 83, 84, 85, 86] rfl (by decide +kernel)
set_option maxRecDepth 20000 in
theorem gX8_ofSector_X8_sectorFact : GoodIn wsX8_ofSector (wsV RX8 347 RX8 yX8_sectorFact wsX8_sectorFact) := goodIn_app (goodIn_of _ (by decide +kernel)) ggX8_ofSector_X8_sectorFact
set_option maxRecDepth 20000 in
theorem ggX8_pass_X8_nextTick : GoodIn wsX8_pass wsX8_nextTick := goodIn_r _ [10, 5, 11, 12, 13, 14, 15, 16, 17, 18, 19, 20, 21, 22, 23, 24, 25, 26, 27, 28, 29, 30, 31, 32, 33, 34, 35, 36, 37, 38, 39, 40, 41, 42, 43, 44, 45, 46, 9, 47, 48, 49, 50, 51, 52, 53, 54, 55, 56, 57, 58, 59, 60, 61, 62, 63, 64, 65, 66, 67, 68, 69, 70, 71, 72, 73, 74, 75, 76, 77, 78, 79, 80, 81, 82, 83, 84, 85, 86, 87, 88, 89, 90, 91, 92, 93, 94, 95, 96, 97, 98, 99, 100, 101, 102, 103, 104, 105, 106, 107, 108, 109, 110, 111, 112, 113, 114, 115, 116, 117, 118, 119, 120, 121, 122, 123, 124, 125, 126, 127, 128, 129, 130, 131, 132, 133, 134, 135, 136, 137, 138, 139, 140, 141, 142, 143, 144, 145, 146, 147, 148, 149, 150, 151, 152, 153, 154, 155, 156, 157, 158, 159, 160, 161, 162, 163, 164, 165, 166, 167, 168, 169, 170, 171, 172, 173, 174, 175, 176, 177, 178, 179, 180, 181, 182, 183, 184, 185, 186, 187, 188, 189, 190, 191, 192, 193, 194, 195, 196, 197, 198, 199, 200, 201, 202, 203, 204, 205, 206, 207, 208, 209, 210, 211, 212, 213, 214, 215, 216, 217, 218, 219, 220, 221, 222, 223, 224, 225, 226, 227, 228, 229, 230, 231, 232, 233, 234, 235, 236, 237, 238, 239, 240, 241, 242, 243, 244, 245, 246, 247, 248, 249, 250, 251, 252, 253, 254, 255, 256, 257, 258, 259, 260, 261, 262, 263, 264, 265, 266, 267, 268, 269, 270, 271, 272, 273, 274, 275, 276, 277, 278, 279, 280, 281, 282, 283, 284, 285, 286, 287, 288, 289, 290, 291, 292, 293, 294, 295, 296, 297, 298, 299, 300, 301, 302, 303, 304, 305, 306, 307, 308, 309, 310, 311, 312, 313, 314, 315, 316, 317, 318, 319, 320, 321, 322, 323, 324, 325, 326, 327, 328, 329, 330, 331, 332, 333, 334, 335, 336, 337, 338, 339, 340, 341, 342, 343, 344, 345, 346, 347, 348, 349, 350, 351, 352, 353, 354, 355, 356, 357, 358, 359, 360, 361, 362, 363, 364, 365, 366, 367, 368, 369, 370, 371, 372, 373, 374, 375, 376, 377, 378, 379, 380, 381, 382, 383, 384, 385, 386, 387, 388, 389, 390, 391, 392, 393, 394, 395, 396, 397, 398, 399, 400, 401, 402, 403, 404, 405, 406, 407, 408, 409, 410, 411, 412, 413, 414, 415, 416, 417, 418, 419, 420, 421, 422, 423, 424, 425, 426, 427, 428, 429, 430, 431, 432, 433, 434, 435, 436, 437, 438] rfl (by decide +kernel)
set_option maxRecDepth 20000 in
theorem gX8_pass_X8_nextTick : GoodIn wsX8_pass (wsV RX8 371 RX8 yX8_nextTick wsX8_nextTick) := goodIn_app (goodIn_of _ (by decide +kernel)) ggX8_pass_X8_nextTick
set_option maxRecDepth 20000 in
theorem ggX8_many_X8_manyFact : GoodIn wsX8_many wsX8_manyFact := goodIn_r _ [7, 8, 9, 10, 11, 12, 13, 14, 15, 16, 17, 6, 18, 19, 20, 21, 22, 23, 24, 25, 26, 27, 28, 29, 30, 31, 32, 33, 34, 35, 36, 37, 38, 39, 40, 41, 42, 43, 44, 45, 46, 47, 48, 49, 50, 51, 52, 53, 54, 55, 56, 57, 58, 59, 60, 61, 62, 63, 64, 65, 66, 67, 68, 69, 70, 71, 72, 73, 74, 75, 76, 77, 78, 79, 80, 81, 82, 83, 84, 85, 86, 87, 88, 89, 90, 91, 92, 93, 94, 95, 96, 97, 98, 99, 100, 101, 102, 103, 104, 105, 106, 107, 108, 109, 110, 111, 112, 113, 114, 115, 116, 117, 118, 119, 120, 121, 122, 123, 124, 125, 126, 127, 128, 129, 130, 131, 132, 133, 134, 135, 136] rfl (by decide +kernel)
set_option maxRecDepth 20000 in
theorem gX8_many_X8_manyFact : GoodIn wsX8_many (wsV RX8 374 RX8 yX8_manyFact wsX8_manyFact) := goodIn_app (goodIn_of _ (by decide +kernel)) ggX8_many_X8_manyFact
set_option maxRecDepth 20000 in
theorem ggX8_isSound_X8_isWholeSound : GoodIn wsX8_isSound wsX8_isWholeSound := goodIn_r _ [5, 6, 7, 8, 9, 10, 11, 12, 13, 14, 15, 16, 17, 18, 19, 20, 21, 22, 23, 24, 25, 26, 27, 28, 29, 30, 31, 32, 33, 34, 35, 36, 37, 38, 39, 40, 41, 4, 42, 43, 44, 45, 46, 47, 48, 49, 50, 51, 52, 53, 54, 55, 56, 57, 58, 59, 60, 61, 62, 63, 64, 65, 66, 67, 68, 69, 70, 71, 72, 73, 74, 75, 76, 77, 78, 79, 80, 81, 82, 83, 84, 85, 86, 87, 88, 89, 90, 91, 92, 93, 94, 95, 96, 97, 98, 99, 100, 101, 102, 103, 104, 105, 106, 107, 108, 109, 110, 111, 112, 113, 114, 115, 116, 117, 118, 119, 120, 121, 122, 123, 124, 125, 126, 127, 128, 129] rfl (by decide +kernel)
set_option maxRecDepth 20000 in
theorem gX8_isSound_X8_isWholeSound : GoodIn wsX8_isSound (wsV RX8 377 RX8 yX8_isWholeSound wsX8_isWholeSound) := goodIn_app (goodIn_of _ (by decide +kernel)) ggX8_isSound_X8_isWholeSound
set_option maxRecDepth 20000 in
theorem ggX8_digest_X8_manyFact : GoodIn wsX8_digest wsX8_manyFact := goodIn_r _ [8, 9, 10, 11, 12, 13, 14, 3, 15, 16, 17, 7, 18, 19, 20, 21, 22, 23, 24, 25, 26, 27, 28, 29, 30, 31, 32, 33, 34, 35, 36, 37, 38, 39, 40, 41, 42, 43, 44, 45, 46, 47, 48, 49, 50, 51, 52, 53, 54, 55, 56, 57, 58, 59, 60, 61, 62, 63, 64, 65, 66, 67, 68, 69, 70, 71, 72, 73, 74, 75, 76, 77, 78, 79, 80, 81, 82, 83, 84, 85, 86, 87, 88, 89, 90, 91, 92, 93, 94, 95, 96, 97, 98, 99, 100, 340, 341, 342, 343, 344, 345, 346, 347, 348, 349, 350, 351, 352, 353, 354, 355, 356, 357, 358, 359, 360, 361, 362, 363, 364, 365, 366, 367, 368, 369, 370, 371, 372, 373, 374, 375] rfl (by decide +kernel)
set_option maxRecDepth 20000 in
theorem gX8_digest_X8_manyFact : GoodIn wsX8_digest (wsV RX8 374 RX8 yX8_manyFact wsX8_manyFact) := goodIn_app (goodIn_of _ (by decide +kernel)) ggX8_digest_X8_manyFact
set_option maxRecDepth 20000 in
theorem ggX8_digest_X8_digestLand : GoodIn wsX8_digest wsX8_digestLand := goodIn_r _ [104, 10, 2, 19, 20, 21, 22, 23, 24, 105, 106, 107, 7, 108, 12, 109, 110, 111, 39, 112, 41, 113, 114, 115, 116, 46, 47, 48, 49, 50, 51, 52, 53, 117, 118, 119, 120, 121, 122, 123, 124, 125, 126, 25, 26, 27, 28, 29, 127, 128, 129, 130, 131, 132, 133, 134, 135, 136, 137, 138, 139, 140, 141, 142, 143, 340, 341, 342, 343, 344, 345, 346, 347, 348, 349, 350, 351, 352, 353, 354, 355, 356, 360, 361, 362, 363, 364] rfl (by decide +kernel)
set_option maxRecDepth 20000 in
theorem gX8_digest_X8_digestLand : GoodIn wsX8_digest (wsV RX8 406 RX8 yX8_digestLand wsX8_digestLand) := goodIn_app (goodIn_of _ (by decide +kernel)) ggX8_digest_X8_digestLand
set_option maxRecDepth 20000 in
theorem ggX8_digest_X8_digestUnits : GoodIn wsX8_digest wsX8_digestUnits := goodIn_r _ [147, 11, 2, 30, 31, 32, 33, 34, 35, 148, 149, 150, 7, 151, 9, 13, 152, 153, 154, 155, 76, 77, 48, 49, 50, 51, 52, 53, 156, 157, 158, 159, 160, 83, 84, 85, 161, 162, 57, 163, 164, 60, 61, 62, 63, 64, 165, 166, 167, 168, 169, 170, 171, 172, 173, 174, 175, 176, 340, 341, 342, 343, 344, 345, 346, 347, 348, 349, 350, 357, 358, 359, 363, 364, 365, 366, 367, 368, 369] rfl (by decide +kernel)
set_option maxRecDepth 20000 in
theorem gX8_digest_X8_digestUnits : GoodIn wsX8_digest (wsV RX8 410 RX8 yX8_digestUnits wsX8_digestUnits) := goodIn_app (goodIn_of _ (by decide +kernel)) ggX8_digest_X8_digestUnits
set_option maxRecDepth 20000 in
theorem ggX8_digest_X8_digestTrains : GoodIn wsX8_digest wsX8_digestTrains := goodIn_r _ [180, 12, 2, 10, 36, 37, 38, 39, 40, 41, 181, 182, 183, 7, 184, 9, 185, 87, 88, 89, 46, 82, 83, 84, 85, 47, 48, 49, 50, 51, 52, 53, 186, 187, 188, 189, 190, 191, 192, 193, 194, 195, 196, 197, 198, 118, 119, 120, 113, 114, 115, 116, 199, 122, 123, 22, 124, 125, 126, 200, 201, 202, 203, 204, 205, 206, 207, 208, 143, 209, 140, 141, 142, 210, 211, 212, 213, 135, 136, 137, 138, 214, 215, 216, 217, 218, 219, 220, 221, 222, 223, 224, 225, 226, 227, 228, 229, 230, 110, 111, 112, 340, 341, 342, 343, 344, 345, 346, 347, 348, 349, 350, 360, 361, 362, 363, 364, 351, 352, 353, 354, 355, 356] rfl (by decide +kernel)
set_option maxRecDepth 20000 in
theorem gX8_digest_X8_digestTrains : GoodIn wsX8_digest (wsV RX8 413 RX8 yX8_digestTrains wsX8_digestTrains) := goodIn_app (goodIn_of _ (by decide +kernel)) ggX8_digest_X8_digestTrains
set_option maxRecDepth 20000 in
theorem ggX8_digest_X8_digestSectors : GoodIn wsX8_digest wsX8_digestSectors := goodIn_r _ [234, 2, 235, 236, 237, 7, 238, 11, 3, 239, 240, 241, 242, 33, 243, 35, 76, 77, 48, 49, 50, 51, 52, 53, 244, 245, 246, 247, 248, 249, 162, 57, 163, 250, 251, 252, 253, 254, 255, 256, 257, 15, 16, 17, 18, 9, 258, 259, 260, 97, 261, 262, 100, 263, 264, 265, 266, 267, 268, 269, 270, 271, 272, 273, 13, 30, 31, 32, 34, 152, 153, 154, 155, 274, 161, 275, 276, 277, 278, 279, 280, 281, 282, 63, 59, 60, 61, 62, 64, 283, 166, 167, 168, 340, 341, 342, 343, 344, 345, 346, 347, 348, 349, 350, 357, 358, 359, 363, 364, 372, 373, 374, 375, 376, 365, 366, 367, 368, 369] rfl (by decide +kernel)
set_option maxRecDepth 20000 in
theorem gX8_digest_X8_digestSectors : GoodIn wsX8_digest (wsV RX8 416 RX8 yX8_digestSectors wsX8_digestSectors) := goodIn_app (goodIn_of _ (by decide +kernel)) ggX8_digest_X8_digestSectors
set_option maxRecDepth 20000 in
theorem ggX8_digest_X8_day : GoodIn wsX8_digest wsX8_day := goodIn_r _ [18, 9, 340, 341, 342, 343, 344, 345, 346, 347, 348, 349, 350] rfl (by decide +kernel)
set_option maxRecDepth 20000 in
theorem gX8_digest_X8_day : GoodIn wsX8_digest (wsV RX8 334 RX8 yX8_day wsX8_day) := goodIn_app (goodIn_of _ (by decide +kernel)) ggX8_digest_X8_day
set_option maxRecDepth 20000 in
theorem ggX8_digest_X0_guessOn : GoodIn wsX8_digest wsX0_guessOn := goodIn_r _ [287, 99, 100, 48, 49, 50, 51, 52, 53, 288, 289, 290, 97, 291, 262, 292, 293, 294, 295, 296, 372, 373, 374, 375, 363, 364] rfl (by decide +kernel)
set_option maxRecDepth 20000 in
theorem gX8_digest_X0_guessOn : GoodIn wsX8_digest (wsV RX8 361 RX0 yX0_guessOn wsX0_guessOn) := goodIn_app (goodIn_of _ (by decide +kernel)) ggX8_digest_X0_guessOn
set_option maxRecDepth 20000 in
theorem ggX8_digest_X8_isWholeSound : GoodIn wsX8_digest wsX8_isWholeSound := goodIn_r _ [300, 12, 10, 13, 11, 301, 302, 303, 39, 304, 41, 46, 47, 48, 49, 50, 51, 52, 53, 135, 136, 137, 138, 205, 206, 207, 22, 208, 143, 126, 305, 306, 307, 308, 309, 310, 311, 7, 312, 19, 20, 21, 23, 24, 121, 122, 123, 124, 125, 313, 314, 315, 316, 113, 114, 115, 116, 117, 118, 119, 120, 317, 318, 319, 57, 320, 59, 60, 61, 62, 63, 64, 321, 322, 323, 324, 325, 326, 327, 328, 329, 330, 331, 332, 333, 334, 84, 335, 336, 337, 338, 33, 339, 35, 76, 77, 340, 341, 342, 343, 344, 345, 346, 347, 348, 349, 350, 360, 361, 362, 363, 364, 351, 352, 353, 354, 355, 356, 365, 366, 367, 368, 369, 357, 358, 359] rfl (by decide +kernel)
set_option maxRecDepth 20000 in
theorem gX8_digest_X8_isWholeSound : GoodIn wsX8_digest (wsV RX8 377 RX8 yX8_isWholeSound wsX8_isWholeSound) := goodIn_app (goodIn_of _ (by decide +kernel)) ggX8_digest_X8_isWholeSound
set_option maxRecDepth 20000 in
theorem ggX8_isNotPlannable_X7_get : GoodIn wsX8_isNotPlannable wsX7_get := goodIn_r _ [7, 8, 9, 10, 11, 12, 13, 14, 15, 34, 35, 36, 37, 38] rfl (by decide +kernel)
set_option maxRecDepth 20000 in
theorem gX8_isNotPlannable_X7_get : GoodIn wsX8_isNotPlannable (wsV RX8 200 RX7 yX7_get wsX7_get) := goodIn_app (goodIn_of _ (by decide +kernel)) ggX8_isNotPlannable_X7_get
set_option maxRecDepth 20000 in
theorem ggX8_isNotPlannable_X3_get : GoodIn wsX8_isNotPlannable wsX3_get := goodIn_r _ [20, 21, 22, 10, 11, 12, 13, 14, 15, 39, 37, 38] rfl (by decide +kernel)
set_option maxRecDepth 20000 in
theorem gX8_isNotPlannable_X3_get : GoodIn wsX8_isNotPlannable (wsV RX8 192 RX3 yX3_get wsX3_get) := goodIn_app (goodIn_of _ (by decide +kernel)) ggX8_isNotPlannable_X3_get
set_option maxRecDepth 20000 in
theorem ggX8_stationFact_X6_countAt : GoodIn wsX8_stationFact wsX6_countAt := goodIn_r _ [7, 8, 9, 10, 11, 6, 12, 13, 14, 15, 16, 17, 18, 19, 20, 43, 44, 45, 46, 47] rfl (by decide +kernel)
set_option maxRecDepth 20000 in
theorem gX8_stationFact_X6_countAt : GoodIn wsX8_stationFact (wsV RX8 419 RX6 yX6_countAt wsX6_countAt) := goodIn_app (goodIn_of _ (by decide +kernel)) ggX8_stationFact_X6_countAt
set_option maxRecDepth 20000 in
theorem ggX8_stationFact_X6_countUnloadingAt : GoodIn wsX8_stationFact wsX6_countUnloadingAt := goodIn_r _ [24, 8, 13, 9, 10, 11, 6, 12, 14, 15, 16, 17, 18, 19, 20, 43, 44, 45, 46, 47] rfl (by decide +kernel)
set_option maxRecDepth 20000 in
theorem gX8_stationFact_X6_countUnloadingAt : GoodIn wsX8_stationFact (wsV RX8 422 RX6 yX6_countUnloadingAt wsX6_countUnloadingAt) := goodIn_app (goodIn_of _ (by decide +kernel)) ggX8_stationFact_X6_countUnloadingAt
set_option maxRecDepth 20000 in
theorem ggX8_stationFact_X1_getStation : GoodIn wsX8_stationFact wsX1_getStation := goodIn_r _ [29, 30, 31, 15, 16, 17, 18, 19, 20, 48, 49, 50, 51, 52, 53, 46, 47] rfl (by decide +kernel)
set_option maxRecDepth 20000 in
theorem gX8_stationFact_X1_getStation : GoodIn wsX8_stationFact (wsV RX8 290 RX1 yX1_getStation wsX1_getStation) := goodIn_app (goodIn_of _ (by decide +kernel)) ggX8_stationFact_X1_getStation
set_option maxRecDepth 20000 in
theorem ggX8_lineFact_X6_countOn : GoodIn wsX8_lineFact wsX6_countOn := goodIn_r _ [7, 8, 9, 10, 11, 6, 12, 13, 14, 15, 16, 17, 18, 19, 20, 39, 40, 41, 42, 43] rfl (by decide +kernel)
set_option maxRecDepth 20000 in
theorem gX8_lineFact_X6_countOn : GoodIn wsX8_lineFact (wsV RX8 425 RX6 yX6_countOn wsX6_countOn) := goodIn_app (goodIn_of _ (by decide +kernel)) ggX8_lineFact_X6_countOn
set_option maxRecDepth 20000 in
theorem ggX8_lineFact_X1_getLine : GoodIn wsX8_lineFact wsX1_getLine := goodIn_r _ [25, 26, 27, 15, 16, 17, 18, 19, 20, 44, 45, 46, 47, 48, 49, 42, 43] rfl (by decide +kernel)
set_option maxRecDepth 20000 in
theorem gX8_lineFact_X1_getLine : GoodIn wsX8_lineFact (wsV RX8 427 RX1 yX1_getLine wsX1_getLine) := goodIn_app (goodIn_of _ (by decide +kernel)) ggX8_lineFact_X1_getLine
set_option maxRecDepth 20000 in
theorem ggX8_unitFact_X7_get : GoodIn wsX8_unitFact wsX7_get := goodIn_r _ [8, 9, 10, 11, 12, 13, 14, 15, 16, 50, 51, 52, 53, 54] rfl (by decide +kernel)
set_option maxRecDepth 20000 in
theorem gX8_unitFact_X7_get : GoodIn wsX8_unitFact (wsV RX8 200 RX7 yX7_get wsX7_get) := goodIn_app (goodIn_of _ (by decide +kernel)) ggX8_unitFact_X7_get
set_option maxRecDepth 20000 in
theorem ggX8_unitFact_X7_ticksToStop : GoodIn wsX8_unitFact wsX7_ticksToStop := goodIn_r _ [20, 9, 21, 22, 23, 24, 10, 11, 12, 13, 14, 15, 16, 50, 51, 52, 53, 54] rfl (by decide +kernel)
set_option maxRecDepth 20000 in
theorem gX8_unitFact_X7_ticksToStop : GoodIn wsX8_unitFact (wsV RX8 430 RX7 yX7_ticksToStop wsX7_ticksToStop) := goodIn_app (goodIn_of _ (by decide +kernel)) ggX8_unitFact_X7_ticksToStop
set_option maxRecDepth 20000 in
theorem ggX8_unitFact_X2_slotOf : GoodIn wsX8_unitFact wsX2_slotOf := goodIn_r _ [28] rfl (by decide +kernel)
set_option maxRecDepth 20000 in
theorem gX8_unitFact_X2_slotOf : GoodIn wsX8_unitFact (va_wsS RX8 249 yX2_slotOf wsX2_slotOf) := goodIn_app (goodIn_of _ (by decide +kernel)) ggX8_unitFact_X2_slotOf
set_option maxRecDepth 20000 in
theorem ggX8_unitFact_X2_isKept : GoodIn wsX8_unitFact wsX2_isKept := goodIn_r _ [32, 33, 34, 11, 12, 13, 14, 15, 16, 55, 56, 57, 58, 59, 53, 54] rfl (by decide +kernel)
set_option maxRecDepth 20000 in
theorem gX8_unitFact_X2_isKept : GoodIn wsX8_unitFact (wsV RX8 433 RX2 yX2_isKept wsX2_isKept) := goodIn_app (goodIn_of _ (by decide +kernel)) ggX8_unitFact_X2_isKept
set_option maxRecDepth 20000 in
theorem ggX8_unitFact_X2_arrivesOf : GoodIn wsX8_unitFact wsX2_arrivesOf := goodIn_r _ [38, 33, 34, 11, 12, 13, 14, 15, 16, 55, 56, 57, 58, 59, 53, 54] rfl (by decide +kernel)
set_option maxRecDepth 20000 in
theorem gX8_unitFact_X2_arrivesOf : GoodIn wsX8_unitFact (wsV RX8 436 RX2 yX2_arrivesOf wsX2_arrivesOf) := goodIn_app (goodIn_of _ (by decide +kernel)) ggX8_unitFact_X2_arrivesOf
set_option maxRecDepth 20000 in
theorem ggX8_pathFact_X2_isKept : GoodIn wsX8_pathFact wsX2_isKept := goodIn_r _ [6, 7, 8, 9, 10, 11, 12, 13, 14, 34, 35, 36, 37, 38, 39, 40] rfl (by decide +kernel)
set_option maxRecDepth 20000 in
theorem gX8_pathFact_X2_isKept : GoodIn wsX8_pathFact (wsV RX8 433 RX2 yX2_isKept wsX2_isKept) := goodIn_app (goodIn_of _ (by decide +kernel)) ggX8_pathFact_X2_isKept
set_option maxRecDepth 20000 in
theorem ggX8_pathFact_X2_get : GoodIn wsX8_pathFact wsX2_get := goodIn_r _ [18, 7, 8, 9, 10, 11, 12, 13, 14, 34, 35, 36, 37, 38, 39, 40] rfl (by decide +kernel)
set_option maxRecDepth 20000 in
theorem gX8_pathFact_X2_get : GoodIn wsX8_pathFact (wsV RX8 439 RX2 yX2_get wsX2_get) := goodIn_app (goodIn_of _ (by decide +kernel)) ggX8_pathFact_X2_get
set_option maxRecDepth 20000 in
theorem ggX8_pathFact_X2_arrivesOf : GoodIn wsX8_pathFact wsX2_arrivesOf := goodIn_r _ [22, 7, 8, 9, 10, 11, 12, 13, 14, 34, 35, 36, 37, 38, 39, 40] rfl (by decide +kernel)
set_option maxRecDepth 20000 in
theorem gX8_pathFact_X2_arrivesOf : GoodIn wsX8_pathFact (wsV RX8 436 RX2 yX2_arrivesOf wsX2_arrivesOf) := goodIn_app (goodIn_of _ (by decide +kernel)) ggX8_pathFact_X2_arrivesOf
set_option maxRecDepth 20000 in
theorem ggX8_trainFact_X6_lateOf : GoodIn wsX8_trainFact wsX6_lateOf := goodIn_r _ [7, 8, 9, 10, 11, 12, 13, 14, 15, 16, 17, 18, 19, 35, 36, 37, 38, 39] rfl (by decide +kernel)
set_option maxRecDepth 20000 in
theorem gX8_trainFact_X6_lateOf : GoodIn wsX8_trainFact (wsV RX8 285 RX6 yX6_lateOf wsX6_lateOf) := goodIn_app (goodIn_of _ (by decide +kernel)) ggX8_trainFact_X6_lateOf
set_option maxRecDepth 20000 in
theorem ggX8_trainFact_X6_get : GoodIn wsX8_trainFact wsX6_get := goodIn_r _ [23, 8, 13, 14, 15, 16, 17, 18, 19, 35, 36, 37, 38, 39] rfl (by decide +kernel)
set_option maxRecDepth 20000 in
theorem gX8_trainFact_X6_get : GoodIn wsX8_trainFact (wsV RX8 280 RX6 yX6_get wsX6_get) := goodIn_app (goodIn_of _ (by decide +kernel)) ggX8_trainFact_X6_get
set_option maxRecDepth 20000 in
theorem ggX8_sectorFact_X7_countAt : GoodIn wsX8_sectorFact wsX7_countAt := goodIn_r _ [8, 9, 10, 11, 12, 13, 14, 15, 16, 17, 18, 19, 20, 7, 21, 22, 23, 24, 25, 26, 66, 67, 68, 69, 70] rfl (by decide +kernel)
set_option maxRecDepth 20000 in
theorem gX8_sectorFact_X7_countAt : GoodIn wsX8_sectorFact (wsV RX8 440 RX7 yX7_countAt wsX7_countAt) := goodIn_app (goodIn_of _ (by decide +kernel)) ggX8_sectorFact_X7_countAt
set_option maxRecDepth 20000 in
theorem ggX8_sectorFact_X7_weightAt : GoodIn wsX8_sectorFact wsX7_weightAt := goodIn_r _ [30, 9, 10, 18, 19, 20, 7, 21, 22, 11, 12, 13, 14, 15, 16, 17, 23, 24, 25, 26, 31, 32, 33, 34, 66, 67, 68, 69, 70] rfl (by decide +kernel)
set_option maxRecDepth 20000 in
theorem gX8_sectorFact_X7_weightAt : GoodIn wsX8_sectorFact (wsV RX8 443 RX7 yX7_weightAt wsX7_weightAt) := goodIn_app (goodIn_of _ (by decide +kernel)) ggX8_sectorFact_X7_weightAt
set_option maxRecDepth 20000 in
theorem ggX8_sectorFact_X8_day : GoodIn wsX8_sectorFact wsX8_day := goodIn_r _ [39, 40, 55, 56, 57, 58, 59, 60, 61, 62, 63, 64, 65] rfl (by decide +kernel)
set_option maxRecDepth 20000 in
theorem gX8_sectorFact_X8_day : GoodIn wsX8_sectorFact (wsV RX8 334 RX8 yX8_day wsX8_day) := goodIn_app (goodIn_of _ (by decide +kernel)) ggX8_sectorFact_X8_day
set_option maxRecDepth 20000 in
theorem ggX8_sectorFact_X0_seenOf : GoodIn wsX8_sectorFact wsX0_seenOf := goodIn_r _ [45, 46, 47, 12, 13, 14, 15, 16, 17, 71, 72, 73, 74, 69, 70] rfl (by decide +kernel)
set_option maxRecDepth 20000 in
theorem gX8_sectorFact_X0_seenOf : GoodIn wsX8_sectorFact (wsV RX8 446 RX0 yX0_seenOf wsX0_seenOf) := goodIn_app (goodIn_of _ (by decide +kernel)) ggX8_sectorFact_X0_seenOf
set_option maxRecDepth 20000 in
theorem ggX8_sectorFact_X3_get : GoodIn wsX8_sectorFact wsX3_get := goodIn_r _ [52, 53, 54, 12, 13, 14, 15, 16, 17, 75, 69, 70] rfl (by decide +kernel)
set_option maxRecDepth 20000 in
theorem gX8_sectorFact_X3_get : GoodIn wsX8_sectorFact (wsV RX8 192 RX3 yX3_get wsX3_get) := goodIn_app (goodIn_of _ (by decide +kernel)) ggX8_sectorFact_X3_get
set_option maxRecDepth 20000 in
theorem ggX8_manyFact_X8_day : GoodIn wsX8_manyFact wsX8_day := goodIn_r _ [12, 1, 95, 96, 97, 98, 99, 100, 101, 102, 103, 104, 105] rfl (by decide +kernel)
set_option maxRecDepth 20000 in
theorem gX8_manyFact_X8_day : GoodIn wsX8_manyFact (wsV RX8 334 RX8 yX8_day wsX8_day) := goodIn_app (goodIn_of _ (by decide +kernel)) ggX8_manyFact_X8_day
set_option maxRecDepth 20000 in
theorem ggX8_manyFact_X1_countStations : GoodIn wsX8_manyFact wsX1_countStations := goodIn_r _ [17, 18, 106, 107, 108, 109, 110, 111] rfl (by decide +kernel)
set_option maxRecDepth 20000 in
theorem gX8_manyFact_X1_countStations : GoodIn wsX8_manyFact (wsV RX8 88 RX1 yX1_countStations wsX1_countStations) := goodIn_app (goodIn_of _ (by decide +kernel)) ggX8_manyFact_X1_countStations
set_option maxRecDepth 20000 in
theorem ggX8_manyFact_X1_countLines : GoodIn wsX8_manyFact wsX1_countLines := goodIn_r _ [22, 23, 106, 107, 108, 109, 110, 111] rfl (by decide +kernel)
set_option maxRecDepth 20000 in
theorem gX8_manyFact_X1_countLines : GoodIn wsX8_manyFact (wsV RX8 118 RX1 yX1_countLines wsX1_countLines) := goodIn_app (goodIn_of _ (by decide +kernel)) ggX8_manyFact_X1_countLines
set_option maxRecDepth 20000 in
theorem ggX8_manyFact_X7_count : GoodIn wsX8_manyFact wsX7_count := goodIn_r _ [28, 29, 112, 113, 114] rfl (by decide +kernel)
set_option maxRecDepth 20000 in
theorem gX8_manyFact_X7_count : GoodIn wsX8_manyFact (wsV RX8 171 RX7 yX7_count wsX7_count) := goodIn_app (goodIn_of _ (by decide +kernel)) ggX8_manyFact_X7_count
set_option maxRecDepth 20000 in
theorem ggX8_manyFact_X6_count : GoodIn wsX8_manyFact wsX6_count := goodIn_r _ [34, 35, 115, 116, 117] rfl (by decide +kernel)
set_option maxRecDepth 20000 in
theorem gX8_manyFact_X6_count : GoodIn wsX8_manyFact (wsV RX8 449 RX6 yX6_count wsX6_count) := goodIn_app (goodIn_of _ (by decide +kernel)) ggX8_manyFact_X6_count
set_option maxRecDepth 20000 in
theorem ggX8_manyFact_X6_countDone : GoodIn wsX8_manyFact wsX6_countDone := goodIn_r _ [39, 35, 40, 41, 42, 43, 44, 45, 46, 47, 115, 116, 117, 118, 119] rfl (by decide +kernel)
set_option maxRecDepth 20000 in
theorem gX8_manyFact_X6_countDone : GoodIn wsX8_manyFact (wsV RX8 450 RX6 yX6_countDone wsX6_countDone) := goodIn_app (goodIn_of _ (by decide +kernel)) ggX8_manyFact_X6_countDone
set_option maxRecDepth 20000 in
theorem ggX8_manyFact_X2_countKept : GoodIn wsX8_manyFact wsX2_countKept := goodIn_r _ [52, 53, 54, 55, 51, 56, 57, 58, 42, 43, 44, 45, 46, 47, 120, 121, 122, 123, 124, 118, 119] rfl (by decide +kernel)
set_option maxRecDepth 20000 in
theorem gX8_manyFact_X2_countKept : GoodIn wsX8_manyFact (wsV RX8 453 RX2 yX2_countKept wsX2_countKept) := goodIn_app (goodIn_of _ (by decide +kernel)) ggX8_manyFact_X2_countKept
set_option maxRecDepth 20000 in
theorem ggX8_manyFact_X4_count : GoodIn wsX8_manyFact wsX4_count := goodIn_r _ [63, 64, 65, 42, 43, 44, 45, 46, 47, 125, 126, 118, 119] rfl (by decide +kernel)
set_option maxRecDepth 20000 in
theorem gX8_manyFact_X4_count : GoodIn wsX8_manyFact (wsV RX8 456 RX4 yX4_count wsX4_count) := goodIn_app (goodIn_of _ (by decide +kernel)) ggX8_manyFact_X4_count
set_option maxRecDepth 20000 in
theorem ggX8_manyFact_X7_sumOf : GoodIn wsX8_manyFact wsX7_sumOf := goodIn_r _ [69, 29, 70, 71, 42, 43, 44, 45, 46, 47, 112, 113, 114, 118, 119] rfl (by decide +kernel)
set_option maxRecDepth 20000 in
theorem gX8_manyFact_X7_sumOf : GoodIn wsX8_manyFact (wsV RX8 457 RX7 yX7_sumOf wsX7_sumOf) := goodIn_app (goodIn_of _ (by decide +kernel)) ggX8_manyFact_X7_sumOf
set_option maxRecDepth 20000 in
theorem ggX8_manyFact_X6_greatestLate : GoodIn wsX8_manyFact wsX6_greatestLate := goodIn_r _ [75, 35, 76, 77, 78, 79, 80, 81, 82, 33, 83, 40, 41, 42, 43, 44, 45, 46, 47, 115, 116, 117, 118, 119] rfl (by decide +kernel)
set_option maxRecDepth 20000 in
theorem gX8_manyFact_X6_greatestLate : GoodIn wsX8_manyFact (wsV RX8 460 RX6 yX6_greatestLate wsX6_greatestLate) := goodIn_app (goodIn_of _ (by decide +kernel)) ggX8_manyFact_X6_greatestLate
set_option maxRecDepth 20000 in
theorem ggX8_manyFact_X7_countWires : GoodIn wsX8_manyFact wsX7_countWires := goodIn_r _ [87, 29, 70, 71, 42, 43, 44, 45, 46, 47, 112, 113, 114, 118, 119] rfl (by decide +kernel)
set_option maxRecDepth 20000 in
theorem gX8_manyFact_X7_countWires : GoodIn wsX8_manyFact (wsV RX8 463 RX7 yX7_countWires wsX7_countWires) := goodIn_app (goodIn_of _ (by decide +kernel)) ggX8_manyFact_X7_countWires
set_option maxRecDepth 20000 in
theorem ggX8_manyFact_X0_count : GoodIn wsX8_manyFact wsX0_count := goodIn_r _ [92, 93, 94, 42, 43, 44, 45, 46, 47, 127, 128, 129, 130, 118, 119] rfl (by decide +kernel)
set_option maxRecDepth 20000 in
theorem gX8_manyFact_X0_count : GoodIn wsX8_manyFact (wsV RX8 466 RX0 yX0_count wsX0_count) := goodIn_app (goodIn_of _ (by decide +kernel)) ggX8_manyFact_X0_count
set_option maxRecDepth 20000 in
theorem ggX8_weightBy_X3_get : GoodIn wsX8_weightBy wsX3_get := goodIn_r _ [8, 9, 10, 11, 12, 13, 14, 15, 16, 67, 68, 69] rfl (by decide +kernel)
set_option maxRecDepth 20000 in
theorem gX8_weightBy_X3_get : GoodIn wsX8_weightBy (wsV RX8 192 RX3 yX3_get wsX3_get) := goodIn_app (goodIn_of _ (by decide +kernel)) ggX8_weightBy_X3_get
set_option maxRecDepth 20000 in
theorem ggX8_weightBy_X7_count : GoodIn wsX8_weightBy wsX7_count := goodIn_r _ [21, 22, 70, 71, 72] rfl (by decide +kernel)
set_option maxRecDepth 20000 in
theorem gX8_weightBy_X7_count : GoodIn wsX8_weightBy (wsV RX8 171 RX7 yX7_count wsX7_count) := goodIn_app (goodIn_of _ (by decide +kernel)) ggX8_weightBy_X7_count
set_option maxRecDepth 20000 in
theorem ggX8_weightBy_X7_get : GoodIn wsX8_weightBy wsX7_get := goodIn_r _ [26, 27, 28, 11, 12, 13, 14, 15, 16, 70, 71, 72, 68, 69] rfl (by decide +kernel)
set_option maxRecDepth 20000 in
theorem gX8_weightBy_X7_get : GoodIn wsX8_weightBy (wsV RX8 200 RX7 yX7_get wsX7_get) := goodIn_app (goodIn_of _ (by decide +kernel)) ggX8_weightBy_X7_get
set_option maxRecDepth 20000 in
theorem ggX8_weightBy_X7_weightOf : GoodIn wsX8_weightBy wsX7_weightOf := goodIn_r _ [31, 32] rfl (by decide +kernel)
set_option maxRecDepth 20000 in
theorem gX8_weightBy_X7_weightOf : GoodIn wsX8_weightBy (va_wsS RX8 467 yX7_weightOf wsX7_weightOf) := goodIn_app (goodIn_of _ (by decide +kernel)) ggX8_weightBy_X7_weightOf
set_option maxRecDepth 20000 in
theorem ggX8_weightBy_X2_slotOf : GoodIn wsX8_weightBy wsX2_slotOf := goodIn_r _ [36] rfl (by decide +kernel)
set_option maxRecDepth 20000 in
theorem gX8_weightBy_X2_slotOf : GoodIn wsX8_weightBy (va_wsS RX8 249 yX2_slotOf wsX2_slotOf) := goodIn_app (goodIn_of _ (by decide +kernel)) ggX8_weightBy_X2_slotOf
set_option maxRecDepth 20000 in
theorem ggX8_weightBy_X7_isAtBy : GoodIn wsX8_weightBy wsX7_isAtBy := goodIn_r _ [40, 41, 28, 11, 12, 13, 14, 15, 16, 70, 71, 72, 68, 69] rfl (by decide +kernel)
set_option maxRecDepth 20000 in
theorem gX8_weightBy_X7_isAtBy : GoodIn wsX8_weightBy (wsV RX8 470 RX7 yX7_isAtBy wsX7_isAtBy) := goodIn_app (goodIn_of _ (by decide +kernel)) ggX8_weightBy_X7_isAtBy
set_option maxRecDepth 20000 in
theorem ggX8_weightBy_X2_isDueAt : GoodIn wsX8_weightBy wsX2_isDueAt := goodIn_r _ [45, 46, 47, 48, 49, 35, 50, 51, 11, 12, 13, 14, 15, 16, 52, 53, 54, 55, 73, 74, 75, 76, 77, 68, 69] rfl (by decide +kernel)
set_option maxRecDepth 20000 in
theorem gX8_weightBy_X2_isDueAt : GoodIn wsX8_weightBy (wsV RX8 474 RX2 yX2_isDueAt wsX2_isDueAt) := goodIn_app (goodIn_of _ (by decide +kernel)) ggX8_weightBy_X2_isDueAt
set_option maxRecDepth 20000 in
theorem ggX8_wireTicks_X7_get : GoodIn wsX8_wireTicks wsX7_get := goodIn_r _ [7, 8, 9, 10, 11, 12, 13, 14, 15, 40, 41, 42, 43, 44] rfl (by decide +kernel)
set_option maxRecDepth 20000 in
theorem gX8_wireTicks_X7_get : GoodIn wsX8_wireTicks (wsV RX8 200 RX7 yX7_get wsX7_get) := goodIn_app (goodIn_of _ (by decide +kernel)) ggX8_wireTicks_X7_get
set_option maxRecDepth 20000 in
theorem ggX8_wireTicks_X1_linesOf : GoodIn wsX8_wireTicks wsX1_linesOf := goodIn_r _ [20, 21, 22, 23, 24, 10, 11, 12, 13, 14, 15, 25, 26, 27, 19, 28, 45, 46, 47, 48, 49, 50, 43, 44] rfl (by decide +kernel)
set_option maxRecDepth 20000 in
theorem gX8_wireTicks_X1_linesOf : GoodIn wsX8_wireTicks (wsV RX8 149 RX1 yX1_linesOf wsX1_linesOf) := goodIn_app (goodIn_of _ (by decide +kernel)) ggX8_wireTicks_X1_linesOf
set_option maxRecDepth 20000 in
theorem ggX8_bringStops_X7_count : GoodIn wsX8_bringStops wsX7_count := goodIn_r _ [8, 9, 69, 70, 71] rfl (by decide +kernel)
set_option maxRecDepth 20000 in
theorem gX8_bringStops_X7_count : GoodIn wsX8_bringStops (wsV RX8 171 RX7 yX7_count wsX7_count) := goodIn_app (goodIn_of _ (by decide +kernel)) ggX8_bringStops_X7_count
set_option maxRecDepth 20000 in
theorem ggX8_bringStops_X7_takeStop : GoodIn wsX8_bringStops wsX7_takeStop := goodIn_r _ [13, 14, 15, 16, 17, 18, 19, 20, 21, 22, 23, 24, 25, 26, 27, 28, 7, 29, 30, 31, 32, 33, 69, 70, 71, 72, 73] rfl (by decide +kernel)
set_option maxRecDepth 20000 in
theorem gX8_bringStops_X7_takeStop : GoodIn wsX8_bringStops (wsV RX8 477 RX7 yX7_takeStop wsX7_takeStop) := goodIn_app (goodIn_of _ (by decide +kernel)) ggX8_bringStops_X7_takeStop
set_option maxRecDepth 20000 in
theorem ggX8_bringStops_X8_dropWaiting : GoodIn wsX8_bringStops wsX8_dropWaiting := goodIn_r _ [38, 1, 39, 40, 41, 7, 42, 14, 15, 16, 17, 18, 19, 20, 21, 43, 44, 45, 46, 47, 48, 49, 50, 51, 52, 53, 54, 55, 56, 57, 23, 24, 25, 58, 59, 60, 61, 62, 63, 64, 65, 66, 67, 68, 69, 70, 71, 72, 73, 74, 75, 76, 77, 78] rfl (by decide +kernel)
set_option maxRecDepth 20000 in
theorem gX8_bringStops_X8_dropWaiting : GoodIn wsX8_bringStops (wsV RX8 243 RX8 yX8_dropWaiting wsX8_dropWaiting) := goodIn_app (goodIn_of _ (by decide +kernel)) ggX8_bringStops_X8_dropWaiting
set_option maxRecDepth 20000 in
theorem ggX8_countWaitingPaths_X7_get : GoodIn wsX8_countWaitingPaths wsX7_get := goodIn_r _ [7, 8, 9, 10, 11, 12, 13, 14, 15, 37, 38, 39, 40, 41] rfl (by decide +kernel)
set_option maxRecDepth 20000 in
theorem gX8_countWaitingPaths_X7_get : GoodIn wsX8_countWaitingPaths (wsV RX8 200 RX7 yX7_get wsX7_get) := goodIn_app (goodIn_of _ (by decide +kernel)) ggX8_countWaitingPaths_X7_get
set_option maxRecDepth 20000 in
theorem ggX8_countWaitingPaths_X2_slotOf : GoodIn wsX8_countWaitingPaths wsX2_slotOf := goodIn_r _ [19] rfl (by decide +kernel)
set_option maxRecDepth 20000 in
theorem gX8_countWaitingPaths_X2_slotOf : GoodIn wsX8_countWaitingPaths (va_wsS RX8 249 yX2_slotOf wsX2_slotOf) := goodIn_app (goodIn_of _ (by decide +kernel)) ggX8_countWaitingPaths_X2_slotOf
set_option maxRecDepth 20000 in
theorem ggX8_countWaitingPaths_X2_isKept : GoodIn wsX8_countWaitingPaths wsX2_isKept := goodIn_r _ [23, 24, 25, 10, 11, 12, 13, 14, 15, 42, 43, 44, 45, 46, 40, 41] rfl (by decide +kernel)
set_option maxRecDepth 20000 in
theorem gX8_countWaitingPaths_X2_isKept : GoodIn wsX8_countWaitingPaths (wsV RX8 433 RX2 yX2_isKept wsX2_isKept) := goodIn_app (goodIn_of _ (by decide +kernel)) ggX8_countWaitingPaths_X2_isKept
set_option maxRecDepth 20000 in
theorem ggX8_dropWaiting_X7_get : GoodIn wsX8_dropWaiting wsX7_get := goodIn_r _ [6, 7, 8, 9, 10, 11, 12, 13, 14, 44, 45, 46, 47, 48] rfl (by decide +kernel)
set_option maxRecDepth 20000 in
theorem gX8_dropWaiting_X7_get : GoodIn wsX8_dropWaiting (wsV RX8 200 RX7 yX7_get wsX7_get) := goodIn_app (goodIn_of _ (by decide +kernel)) ggX8_dropWaiting_X7_get
set_option maxRecDepth 20000 in
theorem ggX8_dropWaiting_X2_slotOf : GoodIn wsX8_dropWaiting wsX2_slotOf := goodIn_r _ [18] rfl (by decide +kernel)
set_option maxRecDepth 20000 in
theorem gX8_dropWaiting_X2_slotOf : GoodIn wsX8_dropWaiting (va_wsS RX8 249 yX2_slotOf wsX2_slotOf) := goodIn_app (goodIn_of _ (by decide +kernel)) ggX8_dropWaiting_X2_slotOf
set_option maxRecDepth 20000 in
theorem ggX8_dropWaiting_X2_takeOut : GoodIn wsX8_dropWaiting wsX2_takeOut := goodIn_r _ [22, 23, 24, 25, 26, 17, 27, 28, 9, 10, 11, 12, 13, 14, 29, 30, 31, 32, 49, 50, 51, 52, 53, 47, 48] rfl (by decide +kernel)
set_option maxRecDepth 20000 in
theorem gX8_dropWaiting_X2_takeOut : GoodIn wsX8_dropWaiting (wsV RX8 480 RX2 yX2_takeOut wsX2_takeOut) := goodIn_app (goodIn_of _ (by decide +kernel)) ggX8_dropWaiting_X2_takeOut
set_option maxRecDepth 20000 in
theorem ggX8_planUnit_X7_get : GoodIn wsX8_planUnit wsX7_get := goodIn_r _ [9, 10, 11, 12, 13, 14, 15, 16, 17, 129, 130, 131, 132, 133] rfl (by decide +kernel)
set_option maxRecDepth 20000 in
theorem gX8_planUnit_X7_get : GoodIn wsX8_planUnit (wsV RX8 200 RX7 yX7_get wsX7_get) := goodIn_app (goodIn_of _ (by decide +kernel)) ggX8_planUnit_X7_get
set_option maxRecDepth 20000 in
theorem ggX8_planUnit_X3_get : GoodIn wsX8_planUnit wsX3_get := goodIn_r _ [22, 23, 24, 12, 13, 14, 15, 16, 17, 134, 132, 133] rfl (by decide +kernel)
set_option maxRecDepth 20000 in
theorem gX8_planUnit_X3_get : GoodIn wsX8_planUnit (wsV RX8 192 RX3 yX3_get wsX3_get) := goodIn_app (goodIn_of _ (by decide +kernel)) ggX8_planUnit_X3_get
set_option maxRecDepth 20000 in
theorem ggX8_planUnit_X7_unloadingOf : GoodIn wsX8_planUnit wsX7_unloadingOf := goodIn_r _ [27, 28] rfl (by decide +kernel)
set_option maxRecDepth 20000 in
theorem gX8_planUnit_X7_unloadingOf : GoodIn wsX8_planUnit (va_wsS RX8 483 yX7_unloadingOf wsX7_unloadingOf) := goodIn_app (goodIn_of _ (by decide +kernel)) ggX8_planUnit_X7_unloadingOf
set_option maxRecDepth 20000 in
theorem ggX8_planUnit_X2_slotOf : GoodIn wsX8_planUnit wsX2_slotOf := goodIn_r _ [32] rfl (by decide +kernel)
set_option maxRecDepth 20000 in
theorem gX8_planUnit_X2_slotOf : GoodIn wsX8_planUnit (va_wsS RX8 249 yX2_slotOf wsX2_slotOf) := goodIn_app (goodIn_of _ (by decide +kernel)) ggX8_planUnit_X2_slotOf
set_option maxRecDepth 20000 in
theorem ggX8_planUnit_X2_describe : GoodIn wsX8_planUnit wsX2_describe := goodIn_r _ [36, 37, 38, 39, 40, 14, 41, 16, 17, 135, 136, 137, 138, 139, 132, 133] rfl (by decide +kernel)
set_option maxRecDepth 20000 in
theorem gX8_planUnit_X2_describe : GoodIn wsX8_planUnit (wsV RX8 315 RX2 yX2_describe wsX2_describe) := goodIn_app (goodIn_of _ (by decide +kernel)) ggX8_planUnit_X2_describe
set_option maxRecDepth 20000 in
theorem ggX8_planUnit_X2_lay : GoodIn wsX8_planUnit wsX2_lay := goodIn_r _ [45, 37, 46, 47, 48, 49, 12, 13, 14, 15, 16, 17, 50, 51, 52, 53, 54, 55, 56, 38, 39, 40, 41, 57, 58, 59, 60, 61, 62, 63, 64, 65, 66, 67, 68, 69, 70, 71, 72, 73, 74, 75, 76, 77, 31, 78, 79, 80, 81, 82, 83, 84, 85, 86, 87, 88, 89, 135, 136, 137, 138, 139, 132, 133, 140, 141, 142, 143, 144, 145] rfl (by decide +kernel)
set_option maxRecDepth 20000 in
theorem gX8_planUnit_X2_lay : GoodIn wsX8_planUnit (wsV RX8 319 RX2 yX2_lay wsX2_lay) := goodIn_app (goodIn_of _ (by decide +kernel)) ggX8_planUnit_X2_lay
set_option maxRecDepth 20000 in
theorem ggX8_planUnit_X2_findStart : GoodIn wsX8_planUnit wsX2_findStart := goodIn_r _ [93, 37, 38, 39, 40, 14, 41, 16, 17, 94, 95, 96, 31, 97, 47, 49, 12, 13, 15, 98, 99, 100, 101, 46, 79, 48, 102, 103, 104, 105, 106, 107, 108, 109, 110, 111, 112, 113, 114, 115, 116, 117, 135, 136, 137, 138, 139, 132, 133] rfl (by decide +kernel)
set_option maxRecDepth 20000 in
theorem gX8_planUnit_X2_findStart : GoodIn wsX8_planUnit (wsV RX8 323 RX2 yX2_findStart wsX2_findStart) := goodIn_app (goodIn_of _ (by decide +kernel)) ggX8_planUnit_X2_findStart
set_option maxRecDepth 20000 in
theorem ggX8_isToChange_X7_get : GoodIn wsX8_isToChange wsX7_get := goodIn_r _ [7, 8, 9, 10, 11, 12, 13, 14, 15, 28, 29, 30, 31, 32] rfl (by decide +kernel)
set_option maxRecDepth 20000 in
theorem gX8_isToChange_X7_get : GoodIn wsX8_isToChange (wsV RX8 200 RX7 yX7_get wsX7_get) := goodIn_app (goodIn_of _ (by decide +kernel)) ggX8_isToChange_X7_get
set_option maxRecDepth 20000 in
theorem ggX8_isToChange_X5_get : GoodIn wsX8_isToChange wsX5_get := goodIn_r _ [13, 14, 15, 31, 32] rfl (by decide +kernel)
set_option maxRecDepth 20000 in
theorem gX8_isToChange_X5_get : GoodIn wsX8_isToChange (wsV RX8 260 RX5 yX5_get wsX5_get) := goodIn_app (goodIn_of _ (by decide +kernel)) ggX8_isToChange_X5_get
set_option maxRecDepth 20000 in
theorem ggX8_tryChange_X2_copyFrom : GoodIn wsX8_tryChange wsX2_copyFrom := goodIn_r _ [10, 11, 12, 13, 14, 15, 16, 17, 18, 19, 20, 21, 167, 168, 169, 170, 171, 172, 173] rfl (by decide +kernel)
set_option maxRecDepth 20000 in
theorem gX8_tryChange_X2_copyFrom : GoodIn wsX8_tryChange (wsV RX8 235 RX2 yX2_copyFrom wsX2_copyFrom) := goodIn_app (goodIn_of _ (by decide +kernel)) ggX8_tryChange_X2_copyFrom
set_option maxRecDepth 20000 in
theorem ggX8_tryChange_X7_count : GoodIn wsX8_tryChange wsX7_count := goodIn_r _ [26, 27, 174, 175, 176] rfl (by decide +kernel)
set_option maxRecDepth 20000 in
theorem gX8_tryChange_X7_count : GoodIn wsX8_tryChange (wsV RX8 171 RX7 yX7_count wsX7_count) := goodIn_app (goodIn_of _ (by decide +kernel)) ggX8_tryChange_X7_count
set_option maxRecDepth 20000 in
theorem ggX8_tryChange_X8_isToChange : GoodIn wsX8_tryChange wsX8_isToChange := goodIn_r _ [32, 3, 4, 33, 34, 35, 25, 36, 37, 38, 39, 40, 19, 41, 42, 21, 43, 156, 157, 158, 159, 160, 161, 162, 163, 164, 165, 166, 174, 175, 176, 172, 173] rfl (by decide +kernel)
set_option maxRecDepth 20000 in
theorem gX8_tryChange_X8_isToChange : GoodIn wsX8_tryChange (wsV RX8 486 RX8 yX8_isToChange wsX8_isToChange) := goodIn_app (goodIn_of _ (by decide +kernel)) ggX8_tryChange_X8_isToChange
set_option maxRecDepth 20000 in
theorem ggX8_tryChange_X8_dropWaiting : GoodIn wsX8_tryChange wsX8_dropWaiting := goodIn_r _ [47, 3, 33, 34, 35, 25, 36, 37, 38, 39, 40, 19, 41, 42, 21, 48, 49, 9, 50, 51, 52, 53, 54, 11, 55, 56, 57, 58, 59, 60, 61, 62, 63, 156, 157, 158, 159, 160, 161, 162, 163, 164, 165, 166, 174, 175, 176, 172, 173, 167, 168, 169, 170, 171] rfl (by decide +kernel)
set_option maxRecDepth 20000 in
theorem gX8_tryChange_X8_dropWaiting : GoodIn wsX8_tryChange (wsV RX8 243 RX8 yX8_dropWaiting wsX8_dropWaiting) := goodIn_app (goodIn_of _ (by decide +kernel)) ggX8_tryChange_X8_dropWaiting
set_option maxRecDepth 20000 in
theorem ggX8_tryChange_X5_get : GoodIn wsX8_tryChange wsX5_get := goodIn_r _ [41, 42, 21, 172, 173] rfl (by decide +kernel)
set_option maxRecDepth 20000 in
theorem gX8_tryChange_X5_get : GoodIn wsX8_tryChange (wsV RX8 260 RX5 yX5_get wsX5_get) := goodIn_app (goodIn_of _ (by decide +kernel)) ggX8_tryChange_X5_get
set_option maxRecDepth 20000 in
theorem ggX8_tryChange_X8_planUnit : GoodIn wsX8_tryChange wsX8_planUnit := goodIn_r _ [67, 3, 68, 1, 69, 33, 34, 35, 25, 36, 37, 38, 39, 40, 19, 41, 42, 21, 70, 71, 72, 73, 74, 75, 76, 77, 78, 79, 80, 48, 49, 9, 50, 81, 82, 83, 84, 11, 60, 61, 62, 63, 85, 86, 87, 88, 13, 12, 14, 59, 89, 90, 91, 92, 93, 94, 95, 96, 97, 98, 99, 100, 101, 102, 103, 104, 105, 106, 107, 108, 109, 110, 111, 112, 113, 114, 115, 116, 117, 15, 118, 119, 120, 121, 122, 123, 124, 125, 126, 127, 128, 129, 130, 131, 132, 133, 134, 135, 136, 137, 138, 139, 140, 141, 142, 143, 144, 145, 146, 147, 148, 149, 150, 151, 152, 153, 154, 155, 156, 157, 158, 159, 160, 161, 162, 163, 164, 165, 166, 174, 175, 176, 172, 173, 177, 167, 168, 169, 170, 171, 178, 179, 180, 181, 182, 183] rfl (by decide +kernel)
set_option maxRecDepth 20000 in
theorem gX8_tryChange_X8_planUnit : GoodIn wsX8_tryChange (wsV RX8 239 RX8 yX8_planUnit wsX8_planUnit) := goodIn_app (goodIn_of _ (by decide +kernel)) ggX8_tryChange_X8_planUnit
set_option maxRecDepth 20000 in
theorem ggX8_tryChange_X7_get : GoodIn wsX8_tryChange wsX7_get := goodIn_r _ [36, 37, 38, 39, 40, 19, 41, 42, 21, 174, 175, 176, 172, 173] rfl (by decide +kernel)
set_option maxRecDepth 20000 in
theorem gX8_tryChange_X7_get : GoodIn wsX8_tryChange (wsV RX8 200 RX7 yX7_get wsX7_get) := goodIn_app (goodIn_of _ (by decide +kernel)) ggX8_tryChange_X7_get
set_option maxRecDepth 20000 in
theorem ggX8_takeAims_X7_count : GoodIn wsX8_takeAims wsX7_count := goodIn_r _ [7, 8, 46, 47, 48] rfl (by decide +kernel)
set_option maxRecDepth 20000 in
theorem gX8_takeAims_X7_count : GoodIn wsX8_takeAims (wsV RX8 171 RX7 yX7_count wsX7_count) := goodIn_app (goodIn_of _ (by decide +kernel)) ggX8_takeAims_X7_count
set_option maxRecDepth 20000 in
theorem ggX8_takeAims_X8_isToChange : GoodIn wsX8_takeAims wsX8_isToChange := goodIn_r _ [13, 1, 2, 14, 15, 16, 6, 17, 18, 19, 20, 21, 22, 23, 24, 25, 26, 35, 36, 37, 38, 39, 40, 41, 42, 43, 44, 45, 46, 47, 48, 49, 50] rfl (by decide +kernel)
set_option maxRecDepth 20000 in
theorem gX8_takeAims_X8_isToChange : GoodIn wsX8_takeAims (wsV RX8 486 RX8 yX8_isToChange wsX8_isToChange) := goodIn_app (goodIn_of _ (by decide +kernel)) ggX8_takeAims_X8_isToChange
set_option maxRecDepth 20000 in
theorem ggX8_takeAims_X5_get : GoodIn wsX8_takeAims wsX5_get := goodIn_r _ [23, 24, 25, 49, 50] rfl (by decide +kernel)
set_option maxRecDepth 20000 in
theorem gX8_takeAims_X5_get : GoodIn wsX8_takeAims (wsV RX8 260 RX5 yX5_get wsX5_get) := goodIn_app (goodIn_of _ (by decide +kernel)) ggX8_takeAims_X5_get
set_option maxRecDepth 20000 in
theorem ggX8_takeAims_X7_set : GoodIn wsX8_takeAims wsX7_set := goodIn_r _ [30, 18, 31, 32, 33, 22, 34, 24, 25, 46, 47, 48, 49, 50] rfl (by decide +kernel)
set_option maxRecDepth 20000 in
theorem gX8_takeAims_X7_set : GoodIn wsX8_takeAims (wsV RX8 201 RX7 yX7_set wsX7_set) := goodIn_app (goodIn_of _ (by decide +kernel)) ggX8_takeAims_X7_set
set_option maxRecDepth 20000 in
theorem ggX8_nextTick_X1_clearFoul : GoodIn wsX8_nextTick wsX1_clearFoul := goodIn_r _ [9, 10, 11, 12, 13, 14, 15, 16, 17, 18, 19, 20, 21, 22, 405, 406, 407, 408, 409, 410, 411, 412] rfl (by decide +kernel)
set_option maxRecDepth 20000 in
theorem gX8_nextTick_X1_clearFoul : GoodIn wsX8_nextTick (wsV RX8 489 RX1 yX1_clearFoul wsX1_clearFoul) := goodIn_app (goodIn_of _ (by decide +kernel)) ggX8_nextTick_X1_clearFoul
set_option maxRecDepth 20000 in
theorem ggX8_nextTick_X7_takeOrders : GoodIn wsX8_nextTick wsX7_takeOrders := goodIn_r _ [27, 28, 29, 30, 13, 14, 15, 16, 17, 18, 31, 32, 33, 34, 413, 414, 415, 411, 412] rfl (by decide +kernel)
set_option maxRecDepth 20000 in
theorem gX8_nextTick_X7_takeOrders : GoodIn wsX8_nextTick (wsV RX8 492 RX7 yX7_takeOrders wsX7_takeOrders) := goodIn_app (goodIn_of _ (by decide +kernel)) ggX8_nextTick_X7_takeOrders
set_option maxRecDepth 20000 in
theorem ggX8_nextTick_X8_bringStops : GoodIn wsX8_nextTick wsX8_bringStops := goodIn_r _ [39, 3, 1, 40, 41, 42, 43, 26, 44, 28, 45, 46, 47, 48, 29, 30, 13, 14, 15, 16, 17, 18, 31, 32, 33, 34, 49, 50, 51, 52, 53, 54, 55, 56, 57, 58, 59, 38, 60, 61, 62, 63, 64, 65, 66, 67, 68, 69, 70, 71, 72, 73, 74, 75, 76, 77, 78, 79, 394, 395, 396, 397, 398, 399, 400, 401, 402, 403, 404, 413, 414, 415, 411, 412, 416, 417, 418, 419, 420] rfl (by decide +kernel)
set_option maxRecDepth 20000 in
theorem gX8_nextTick_X8_bringStops : GoodIn wsX8_nextTick (wsV RX8 495 RX8 yX8_bringStops wsX8_bringStops) := goodIn_app (goodIn_of _ (by decide +kernel)) ggX8_nextTick_X8_bringStops
set_option maxRecDepth 20000 in
theorem ggX8_nextTick_X8_bringEngines : GoodIn wsX8_nextTick wsX8_bringEngines := goodIn_r _ [83, 4, 1, 2, 84, 85, 86, 87, 88, 89, 90, 91, 92, 93, 94, 95, 13, 14, 15, 16, 17, 18, 96, 97, 98, 8, 99, 11, 19, 20, 21, 22, 100, 101, 102, 103, 104, 32, 33, 34, 394, 395, 396, 397, 398, 399, 400, 401, 402, 403, 404, 421, 422, 423, 411, 412, 405, 406, 407, 408, 409, 410] rfl (by decide +kernel)
set_option maxRecDepth 20000 in
theorem gX8_nextTick_X8_bringEngines : GoodIn wsX8_nextTick (wsV RX8 498 RX8 yX8_bringEngines wsX8_bringEngines) := goodIn_app (goodIn_of _ (by decide +kernel)) ggX8_nextTick_X8_bringEngines
set_option maxRecDepth 20000 in
theorem ggX8_nextTick_X7_come : GoodIn wsX8_nextTick wsX7_come := goodIn_r _ [108, 28, 29, 109, 30, 13, 14, 15, 16, 17, 18, 110, 66, 67, 68, 31, 32, 33, 34, 111, 20, 21, 22, 413, 414, 415, 411, 412] rfl (by decide +kernel)
set_option maxRecDepth 20000 in
theorem gX8_nextTick_X7_come : GoodIn wsX8_nextTick (wsV RX8 501 RX7 yX7_come wsX7_come) := goodIn_app (goodIn_of _ (by decide +kernel)) ggX8_nextTick_X7_come
set_option maxRecDepth 20000 in
theorem ggX8_nextTick_X8_beginDay : GoodIn wsX8_nextTick wsX8_beginDay := goodIn_r _ [115, 116, 117, 3, 118, 119, 120, 38, 121, 1, 122, 123, 124, 125, 126, 127, 128, 129, 130, 131, 132, 133, 134, 135, 13, 14, 15, 16, 17, 18, 136, 32, 33, 34, 137, 138, 139, 140, 141, 142, 143, 144, 145, 146, 26, 147, 28, 29, 30, 148, 149, 150, 151, 109, 110, 66, 67, 68, 152, 153, 154, 155, 156, 20, 21, 22, 157, 158, 159, 160, 161, 54, 55, 56, 162, 163, 164, 165, 166, 167, 168, 169, 170, 171, 172, 173, 174, 175, 176, 177, 178, 179, 180, 181, 182, 183, 184, 185, 394, 395, 396, 397, 398, 399, 400, 401, 402, 403, 404, 424, 425, 426, 427, 411, 412, 428, 413, 414, 415] rfl (by decide +kernel)
set_option maxRecDepth 20000 in
theorem gX8_nextTick_X8_beginDay : GoodIn wsX8_nextTick (wsV RX8 504 RX8 yX8_beginDay wsX8_beginDay) := goodIn_app (goodIn_of _ (by decide +kernel)) ggX8_nextTick_X8_beginDay
set_option maxRecDepth 20000 in
theorem ggX8_nextTick_X1_countStations : GoodIn wsX8_nextTick wsX1_countStations := goodIn_r _ [189, 10, 405, 406, 407, 408, 409, 410] rfl (by decide +kernel)
set_option maxRecDepth 20000 in
theorem gX8_nextTick_X1_countStations : GoodIn wsX8_nextTick (wsV RX8 88 RX1 yX1_countStations wsX1_countStations) := goodIn_app (goodIn_of _ (by decide +kernel)) ggX8_nextTick_X1_countStations
set_option maxRecDepth 20000 in
theorem ggX8_nextTick_X7_workAt : GoodIn wsX8_nextTick wsX7_workAt := goodIn_r _ [193, 29, 194, 195, 196, 26, 197, 28, 30, 13, 14, 15, 16, 17, 18, 111, 20, 21, 22, 198, 199, 200, 201, 31, 32, 33, 34, 413, 414, 415, 411, 412] rfl (by decide +kernel)
set_option maxRecDepth 20000 in
theorem gX8_nextTick_X7_workAt : GoodIn wsX8_nextTick (wsV RX8 507 RX7 yX7_workAt wsX7_workAt) := goodIn_app (goodIn_of _ (by decide +kernel)) ggX8_nextTick_X7_workAt
set_option maxRecDepth 20000 in
theorem ggX8_nextTick_X8_sendLoads : GoodIn wsX8_nextTick wsX8_sendLoads := goodIn_r _ [205, 3, 40, 41, 42, 43, 26, 44, 28, 61, 62, 63, 64, 29, 30, 13, 14, 15, 16, 17, 18, 65, 66, 67, 68, 206, 207, 208, 38, 209, 1, 2, 4, 210, 75, 76, 77, 73, 78, 211, 212, 213, 214, 215, 216, 217, 8, 218, 11, 12, 84, 85, 86, 87, 88, 89, 219, 220, 221, 222, 223, 224, 225, 226, 94, 104, 32, 33, 34, 100, 101, 102, 103, 227, 228, 229, 230, 96, 97, 98, 99, 19, 20, 21, 22, 231, 232, 233, 234, 109, 31, 111, 394, 395, 396, 397, 398, 399, 400, 401, 402, 403, 404, 413, 414, 415, 411, 412, 416, 417, 418, 419, 420, 405, 406, 407, 408, 409, 410, 421, 422, 423] rfl (by decide +kernel)
set_option maxRecDepth 20000 in
theorem gX8_nextTick_X8_sendLoads : GoodIn wsX8_nextTick (wsV RX8 510 RX8 yX8_sendLoads wsX8_sendLoads) := goodIn_app (goodIn_of _ (by decide +kernel)) ggX8_nextTick_X8_sendLoads
set_option maxRecDepth 20000 in
theorem ggX8_nextTick_X8_sendSupplies : GoodIn wsX8_nextTick wsX8_sendSupplies := goodIn_r _ [238, 239, 240, 241, 242, 243, 244, 245, 246, 13, 14, 15, 16, 17, 18, 247, 248, 67, 249, 250, 251, 252, 253, 206, 207, 208, 38, 209, 40, 1, 2, 4, 210, 75, 76, 77, 73, 78, 211, 212, 213, 214, 215, 216, 217, 8, 218, 11, 12, 84, 85, 86, 87, 88, 89, 219, 220, 221, 222, 223, 224, 225, 226, 94, 104, 32, 33, 34, 100, 101, 102, 103, 227, 228, 229, 230, 96, 97, 98, 99, 19, 20, 21, 22, 254, 255, 256, 257, 258, 394, 395, 396, 397, 398, 399, 400, 401, 402, 403, 404, 429, 430, 411, 412, 416, 417, 418, 419, 420, 405, 406, 407, 408, 409, 410, 421, 422, 423] rfl (by decide +kernel)
set_option maxRecDepth 20000 in
theorem gX8_nextTick_X8_sendSupplies : GoodIn wsX8_nextTick (wsV RX8 513 RX8 yX8_sendSupplies wsX8_sendSupplies) := goodIn_app (goodIn_of _ (by decide +kernel)) ggX8_nextTick_X8_sendSupplies
set_option maxRecDepth 20000 in
theorem ggX8_nextTick_X6_lineUp : GoodIn wsX8_nextTick wsX6_lineUp := goodIn_r _ [262, 89, 94, 95, 13, 14, 15, 16, 17, 18, 263, 264, 265, 87, 266, 267, 268, 269, 270, 271, 272, 54, 55, 56, 104, 32, 33, 34, 421, 422, 423, 411, 412] rfl (by decide +kernel)
set_option maxRecDepth 20000 in
theorem gX8_nextTick_X6_lineUp : GoodIn wsX8_nextTick (wsV RX8 516 RX6 yX6_lineUp wsX6_lineUp) := goodIn_app (goodIn_of _ (by decide +kernel)) ggX8_nextTick_X6_lineUp
set_option maxRecDepth 20000 in
theorem ggX8_nextTick_X6_inPlace : GoodIn wsX8_nextTick wsX6_inPlace := goodIn_r _ [276, 267, 95, 13, 14, 15, 16, 17, 18, 421, 422, 423, 411, 412] rfl (by decide +kernel)
set_option maxRecDepth 20000 in
theorem gX8_nextTick_X6_inPlace : GoodIn wsX8_nextTick (wsV RX8 519 RX6 yX6_inPlace wsX6_inPlace) := goodIn_app (goodIn_of _ (by decide +kernel)) ggX8_nextTick_X6_inPlace
set_option maxRecDepth 20000 in
theorem ggX8_nextTick_X6_waitOf : GoodIn wsX8_nextTick wsX6_waitOf := goodIn_r _ [280, 94, 95, 13, 14, 15, 16, 17, 18, 281, 282, 283, 87, 284, 285, 286, 287, 288, 89, 289, 290, 291, 292, 293, 216, 217, 8, 218, 11, 12, 294, 295, 296, 297, 298, 299, 300, 301, 302, 303, 304, 305, 306, 307, 308, 309, 310, 311, 312, 313, 314, 315, 316, 317, 318, 319, 320, 321, 322, 323, 324, 325, 326, 327, 328, 329, 330, 331, 332, 333, 334, 335, 421, 422, 423, 411, 412, 405, 406, 407, 408, 409, 410] rfl (by decide +kernel)
set_option maxRecDepth 20000 in
theorem gX8_nextTick_X6_waitOf : GoodIn wsX8_nextTick (wsV RX8 301 RX6 yX6_waitOf wsX6_waitOf) := goodIn_app (goodIn_of _ (by decide +kernel)) ggX8_nextTick_X6_waitOf
set_option maxRecDepth 20000 in
theorem ggX8_nextTick_X6_move : GoodIn wsX8_nextTick wsX6_move := goodIn_r _ [339, 94, 95, 13, 14, 15, 16, 17, 18, 340, 341, 342, 87, 343, 344, 20, 21, 22, 324, 325, 326, 327, 304, 305, 306, 8, 307, 303, 12, 345, 346, 347, 348, 104, 32, 33, 34, 349, 350, 351, 352, 328, 329, 330, 331, 353, 354, 355, 356, 19, 293, 216, 217, 218, 11, 357, 358, 359, 360, 294, 295, 296, 297, 298, 421, 422, 423, 411, 412, 405, 406, 407, 408, 409, 410] rfl (by decide +kernel)
set_option maxRecDepth 20000 in
theorem gX8_nextTick_X6_move : GoodIn wsX8_nextTick (wsV RX8 522 RX6 yX6_move wsX6_move) := goodIn_app (goodIn_of _ (by decide +kernel)) ggX8_nextTick_X6_move
set_option maxRecDepth 20000 in
theorem ggX8_nextTick_X8_finish : GoodIn wsX8_nextTick wsX8_finish := goodIn_r _ [364, 4, 40, 117, 239, 3, 1, 90, 91, 92, 87, 93, 94, 95, 13, 14, 15, 16, 17, 18, 69, 70, 71, 67, 72, 73, 74, 75, 76, 77, 78, 79, 32, 33, 34, 365, 366, 367, 140, 368, 142, 166, 167, 55, 168, 143, 156, 20, 21, 22, 369, 163, 164, 165, 169, 370, 371, 372, 373, 374, 375, 243, 376, 245, 258, 377, 378, 379, 380, 161, 54, 56, 381, 382, 383, 26, 384, 109, 29, 31, 111, 385, 386, 387, 38, 388, 2, 389, 390, 391, 8, 392, 393, 12, 100, 101, 102, 103, 104, 96, 97, 98, 99, 11, 19, 394, 395, 396, 397, 398, 399, 400, 401, 402, 403, 404, 421, 422, 423, 411, 412, 416, 417, 418, 419, 420, 428, 429, 430, 413, 414, 415, 405, 406, 407, 408, 409, 410] rfl (by decide +kernel)
set_option maxRecDepth 20000 in
theorem gX8_nextTick_X8_finish : GoodIn wsX8_nextTick (wsV RX8 525 RX8 yX8_finish wsX8_finish) := goodIn_app (goodIn_of _ (by decide +kernel)) ggX8_nextTick_X8_finish
set_option maxRecDepth 20000 in
theorem ggX8_bringEngines_X6_count : GoodIn wsX8_bringEngines wsX6_count := goodIn_r _ [8, 9, 51, 52, 53] rfl (by decide +kernel)
set_option maxRecDepth 20000 in
theorem gX8_bringEngines_X6_count : GoodIn wsX8_bringEngines (wsV RX8 449 RX6 yX6_count wsX6_count) := goodIn_app (goodIn_of _ (by decide +kernel)) ggX8_bringEngines_X6_count
set_option maxRecDepth 20000 in
theorem ggX8_bringEngines_X6_get : GoodIn wsX8_bringEngines wsX6_get := goodIn_r _ [13, 14, 15, 16, 17, 18, 19, 20, 21, 51, 52, 53, 54, 55] rfl (by decide +kernel)
set_option maxRecDepth 20000 in
theorem gX8_bringEngines_X6_get : GoodIn wsX8_bringEngines (wsV RX8 280 RX6 yX6_get wsX6_get) := goodIn_app (goodIn_of _ (by decide +kernel)) ggX8_bringEngines_X6_get
set_option maxRecDepth 20000 in
theorem ggX8_bringEngines_X1_addEngines : GoodIn wsX8_bringEngines wsX1_addEngines := goodIn_r _ [26, 27, 28, 29, 30, 18, 31, 20, 21, 56, 57, 58, 59, 60, 61, 54, 55] rfl (by decide +kernel)
set_option maxRecDepth 20000 in
theorem gX8_bringEngines_X1_addEngines : GoodIn wsX8_bringEngines (wsV RX8 528 RX1 yX1_addEngines wsX1_addEngines) := goodIn_app (goodIn_of _ (by decide +kernel)) ggX8_bringEngines_X1_addEngines
set_option maxRecDepth 20000 in
theorem ggX8_bringEngines_X6_set : GoodIn wsX8_bringEngines wsX6_set := goodIn_r _ [35, 14, 36, 37, 38, 18, 39, 20, 21, 51, 52, 53, 54, 55] rfl (by decide +kernel)
set_option maxRecDepth 20000 in
theorem gX8_bringEngines_X6_set : GoodIn wsX8_bringEngines (wsV RX8 531 RX6 yX6_set wsX6_set) := goodIn_app (goodIn_of _ (by decide +kernel)) ggX8_bringEngines_X6_set
set_option maxRecDepth 20000 in
theorem ggX8_beginDay_X8_day : GoodIn wsX8_beginDay wsX8_day := goodIn_r _ [8, 9, 98, 99, 100, 101, 102, 103, 104, 105, 106, 107, 108] rfl (by decide +kernel)
set_option maxRecDepth 20000 in
theorem gX8_beginDay_X8_day : GoodIn wsX8_beginDay (wsV RX8 334 RX8 yX8_day wsX8_day) := goodIn_app (goodIn_of _ (by decide +kernel)) ggX8_beginDay_X8_day
set_option maxRecDepth 20000 in
theorem ggX8_beginDay_X0_come : GoodIn wsX8_beginDay wsX0_come := goodIn_r _ [14, 15, 16, 17, 18, 19, 13, 20, 21, 22, 23, 24, 25, 26, 27, 28, 29, 30, 31, 32, 33, 109, 110, 111, 112, 113, 114] rfl (by decide +kernel)
set_option maxRecDepth 20000 in
theorem gX8_beginDay_X0_come : GoodIn wsX8_beginDay (wsV RX8 532 RX0 yX0_come wsX0_come) := goodIn_app (goodIn_of _ (by decide +kernel)) ggX8_beginDay_X0_come
set_option maxRecDepth 20000 in
theorem ggX8_beginDay_X3_get : GoodIn wsX8_beginDay wsX3_get := goodIn_r _ [38, 39, 40, 24, 25, 26, 27, 28, 29, 115, 113, 114] rfl (by decide +kernel)
set_option maxRecDepth 20000 in
theorem gX8_beginDay_X3_get : GoodIn wsX8_beginDay (wsV RX8 192 RX3 yX3_get wsX3_get) := goodIn_app (goodIn_of _ (by decide +kernel)) ggX8_beginDay_X3_get
set_option maxRecDepth 20000 in
theorem ggX8_beginDay_X7_countAt : GoodIn wsX8_beginDay wsX7_countAt := goodIn_r _ [45, 46, 47, 48, 24, 25, 26, 27, 28, 29, 49, 50, 51, 44, 52, 53, 54, 55, 56, 57, 116, 117, 118, 113, 114] rfl (by decide +kernel)
set_option maxRecDepth 20000 in
theorem gX8_beginDay_X7_countAt : GoodIn wsX8_beginDay (wsV RX8 440 RX7 yX7_countAt wsX7_countAt) := goodIn_app (goodIn_of _ (by decide +kernel)) ggX8_beginDay_X7_countAt
set_option maxRecDepth 20000 in
theorem ggX8_beginDay_X3_add : GoodIn wsX8_beginDay wsX3_add := goodIn_r _ [61, 39, 62, 63, 64, 26, 65, 28, 29, 115, 113, 114] rfl (by decide +kernel)
set_option maxRecDepth 20000 in
theorem gX8_beginDay_X3_add : GoodIn wsX8_beginDay (wsV RX8 534 RX3 yX3_add wsX3_add) := goodIn_app (goodIn_of _ (by decide +kernel)) ggX8_beginDay_X3_add
set_option maxRecDepth 20000 in
theorem ggX8_beginDay_X3_feed : GoodIn wsX8_beginDay wsX3_feed := goodIn_r _ [69, 39, 70, 71, 72, 73, 74, 75, 76, 37, 77, 78, 79, 80, 40, 24, 25, 26, 27, 28, 29, 81, 31, 32, 33, 115, 113, 114] rfl (by decide +kernel)
set_option maxRecDepth 20000 in
theorem gX8_beginDay_X3_feed : GoodIn wsX8_beginDay (wsV RX8 535 RX3 yX3_feed wsX3_feed) := goodIn_app (goodIn_of _ (by decide +kernel)) ggX8_beginDay_X3_feed
set_option maxRecDepth 20000 in
theorem ggX8_beginDay_X7_weightAt : GoodIn wsX8_beginDay wsX7_weightAt := goodIn_r _ [85, 46, 47, 49, 50, 51, 44, 52, 53, 48, 24, 25, 26, 27, 28, 29, 54, 55, 56, 57, 86, 87, 88, 89, 116, 117, 118, 113, 114] rfl (by decide +kernel)
set_option maxRecDepth 20000 in
theorem gX8_beginDay_X7_weightAt : GoodIn wsX8_beginDay (wsV RX8 443 RX7 yX7_weightAt wsX7_weightAt) := goodIn_app (goodIn_of _ (by decide +kernel)) ggX8_beginDay_X7_weightAt
set_option maxRecDepth 20000 in
theorem ggX8_beginDay_X3_fight : GoodIn wsX8_beginDay wsX3_fight := goodIn_r _ [93, 39, 78, 79, 72, 80, 70, 71, 73, 40, 24, 25, 26, 27, 28, 29, 94, 95, 96, 97, 81, 31, 32, 33, 62, 63, 64, 65, 115, 113, 114] rfl (by decide +kernel)
set_option maxRecDepth 20000 in
theorem gX8_beginDay_X3_fight : GoodIn wsX8_beginDay (wsV RX8 538 RX3 yX3_fight wsX3_fight) := goodIn_app (goodIn_of _ (by decide +kernel)) ggX8_beginDay_X3_fight
set_option maxRecDepth 20000 in
theorem ggX8_sendLoads_X7_count : GoodIn wsX8_sendLoads wsX7_count := goodIn_r _ [7, 8, 103, 104, 105] rfl (by decide +kernel)
set_option maxRecDepth 20000 in
theorem gX8_sendLoads_X7_count : GoodIn wsX8_sendLoads (wsV RX8 171 RX7 yX7_count wsX7_count) := goodIn_app (goodIn_of _ (by decide +kernel)) ggX8_sendLoads_X7_count
set_option maxRecDepth 20000 in
theorem ggX8_sendLoads_X7_get : GoodIn wsX8_sendLoads wsX7_get := goodIn_r _ [12, 13, 14, 15, 16, 17, 18, 19, 20, 103, 104, 105, 106, 107] rfl (by decide +kernel)
set_option maxRecDepth 20000 in
theorem gX8_sendLoads_X7_get : GoodIn wsX8_sendLoads (wsV RX8 200 RX7 yX7_get wsX7_get) := goodIn_app (goodIn_of _ (by decide +kernel)) ggX8_sendLoads_X7_get
set_option maxRecDepth 20000 in
theorem ggX8_sendLoads_X2_slotOf : GoodIn wsX8_sendLoads wsX2_slotOf := goodIn_r _ [24] rfl (by decide +kernel)
set_option maxRecDepth 20000 in
theorem gX8_sendLoads_X2_slotOf : GoodIn wsX8_sendLoads (va_wsS RX8 249 yX2_slotOf wsX2_slotOf) := goodIn_app (goodIn_of _ (by decide +kernel)) ggX8_sendLoads_X2_slotOf
set_option maxRecDepth 20000 in
theorem ggX8_sendLoads_X8_canGo : GoodIn wsX8_sendLoads wsX8_canGo := goodIn_r _ [29, 2, 30, 31, 32, 33, 34, 35, 23, 36, 37, 38, 15, 16, 17, 18, 19, 20, 39, 40, 41, 42, 43, 44, 45, 46, 47, 48, 49, 50, 51, 52, 53, 54, 55, 92, 93, 94, 95, 96, 97, 98, 99, 100, 101, 102, 108, 109, 110, 111, 112, 106, 107, 113, 114, 115, 116, 117, 118, 119, 120, 121] rfl (by decide +kernel)
set_option maxRecDepth 20000 in
theorem gX8_sendLoads_X8_canGo : GoodIn wsX8_sendLoads (wsV RX8 541 RX8 yX8_canGo wsX8_canGo) := goodIn_app (goodIn_of _ (by decide +kernel)) ggX8_sendLoads_X8_canGo
set_option maxRecDepth 20000 in
theorem ggX8_sendLoads_X8_depart : GoodIn wsX8_sendLoads wsX8_depart := goodIn_r _ [59, 32, 2, 31, 60, 61, 62, 53, 63, 55, 64, 65, 66, 67, 17, 68, 19, 20, 69, 70, 71, 72, 39, 40, 41, 23, 42, 37, 38, 15, 16, 18, 73, 74, 75, 76, 77, 78, 79, 46, 80, 48, 81, 82, 83, 84, 92, 93, 94, 95, 96, 97, 98, 99, 100, 101, 102, 119, 120, 121, 106, 107, 108, 109, 110, 111, 112, 113, 114, 115, 116, 117, 118] rfl (by decide +kernel)
set_option maxRecDepth 20000 in
theorem gX8_sendLoads_X8_depart : GoodIn wsX8_sendLoads (wsV RX8 544 RX8 yX8_depart wsX8_depart) := goodIn_app (goodIn_of _ (by decide +kernel)) ggX8_sendLoads_X8_depart
set_option maxRecDepth 20000 in
theorem ggX8_sendLoads_X2_get : GoodIn wsX8_sendLoads wsX2_get := goodIn_r _ [42, 37, 38, 15, 16, 17, 18, 19, 20, 108, 109, 110, 111, 112, 106, 107] rfl (by decide +kernel)
set_option maxRecDepth 20000 in
theorem gX8_sendLoads_X2_get : GoodIn wsX8_sendLoads (wsV RX8 439 RX2 yX2_get wsX2_get) := goodIn_app (goodIn_of _ (by decide +kernel)) ggX8_sendLoads_X2_get
set_option maxRecDepth 20000 in
theorem ggX8_sendLoads_X7_leave : GoodIn wsX8_sendLoads wsX7_leave := goodIn_r _ [88, 89, 13, 90, 66, 67, 17, 68, 19, 20, 91, 82, 83, 84, 103, 104, 105, 106, 107] rfl (by decide +kernel)
set_option maxRecDepth 20000 in
theorem gX8_sendLoads_X7_leave : GoodIn wsX8_sendLoads (wsV RX8 547 RX7 yX7_leave wsX7_leave) := goodIn_app (goodIn_of _ (by decide +kernel)) ggX8_sendLoads_X7_leave
set_option maxRecDepth 20000 in
theorem ggX8_sendSupplies_X4_nextBehind : GoodIn wsX8_sendSupplies wsX4_nextBehind := goodIn_r _ [6, 7, 8, 9, 10, 11, 12, 13, 14, 100, 101, 102, 103] rfl (by decide +kernel)
set_option maxRecDepth 20000 in
theorem gX8_sendSupplies_X4_nextBehind : GoodIn wsX8_sendSupplies (wsV RX8 550 RX4 yX4_nextBehind wsX4_nextBehind) := goodIn_app (goodIn_of _ (by decide +kernel)) ggX8_sendSupplies_X4_nextBehind
set_option maxRecDepth 20000 in
theorem ggX8_sendSupplies_X2_slotOfSupply : GoodIn wsX8_sendSupplies wsX2_slotOfSupply := goodIn_r _ [18] rfl (by decide +kernel)
set_option maxRecDepth 20000 in
theorem gX8_sendSupplies_X2_slotOfSupply : GoodIn wsX8_sendSupplies (va_wsS RX8 312 yX2_slotOfSupply wsX2_slotOfSupply) := goodIn_app (goodIn_of _ (by decide +kernel)) ggX8_sendSupplies_X2_slotOfSupply
set_option maxRecDepth 20000 in
theorem ggX8_sendSupplies_X4_get : GoodIn wsX8_sendSupplies wsX4_get := goodIn_r _ [22, 7, 8, 9, 10, 11, 12, 13, 14, 100, 101, 102, 103] rfl (by decide +kernel)
set_option maxRecDepth 20000 in
theorem gX8_sendSupplies_X4_get : GoodIn wsX8_sendSupplies (wsV RX8 553 RX4 yX4_get wsX4_get) := goodIn_app (goodIn_of _ (by decide +kernel)) ggX8_sendSupplies_X4_get
set_option maxRecDepth 20000 in
theorem ggX8_sendSupplies_X8_canGo : GoodIn wsX8_sendSupplies wsX8_canGo := goodIn_r _ [27, 28, 29, 30, 31, 32, 33, 34, 17, 35, 36, 37, 9, 10, 11, 12, 13, 14, 38, 39, 40, 41, 42, 43, 44, 45, 46, 47, 48, 49, 50, 51, 52, 53, 54, 89, 90, 91, 92, 93, 94, 95, 96, 97, 98, 99, 104, 105, 106, 107, 108, 102, 103, 109, 110, 111, 112, 113, 114, 115, 116, 117] rfl (by decide +kernel)
set_option maxRecDepth 20000 in
theorem gX8_sendSupplies_X8_canGo : GoodIn wsX8_sendSupplies (wsV RX8 541 RX8 yX8_canGo wsX8_canGo) := goodIn_app (goodIn_of _ (by decide +kernel)) ggX8_sendSupplies_X8_canGo
set_option maxRecDepth 20000 in
theorem ggX8_sendSupplies_X8_depart : GoodIn wsX8_sendSupplies wsX8_depart := goodIn_r _ [58, 31, 28, 30, 59, 60, 61, 52, 62, 54, 63, 64, 65, 66, 11, 67, 13, 14, 68, 69, 70, 71, 38, 39, 40, 17, 41, 36, 37, 9, 10, 12, 72, 73, 74, 75, 76, 77, 78, 45, 79, 47, 80, 81, 82, 83, 89, 90, 91, 92, 93, 94, 95, 96, 97, 98, 99, 115, 116, 117, 102, 103, 104, 105, 106, 107, 108, 109, 110, 111, 112, 113, 114] rfl (by decide +kernel)
set_option maxRecDepth 20000 in
theorem gX8_sendSupplies_X8_depart : GoodIn wsX8_sendSupplies (wsV RX8 544 RX8 yX8_depart wsX8_depart) := goodIn_app (goodIn_of _ (by decide +kernel)) ggX8_sendSupplies_X8_depart
set_option maxRecDepth 20000 in
theorem ggX8_sendSupplies_X4_leave : GoodIn wsX8_sendSupplies wsX4_leave := goodIn_r _ [87, 7, 88, 65, 66, 11, 67, 13, 14, 100, 101, 102, 103] rfl (by decide +kernel)
set_option maxRecDepth 20000 in
theorem gX8_sendSupplies_X4_leave : GoodIn wsX8_sendSupplies (wsV RX8 554 RX4 yX4_leave wsX4_leave) := goodIn_app (goodIn_of _ (by decide +kernel)) ggX8_sendSupplies_X4_leave
set_option maxRecDepth 20000 in
theorem ggX8_canGo_X2_isKept : GoodIn wsX8_canGo wsX2_isKept := goodIn_r _ [9, 10, 11, 12, 13, 14, 15, 16, 17, 46, 47, 48, 49, 50, 51, 52] rfl (by decide +kernel)
set_option maxRecDepth 20000 in
theorem gX8_canGo_X2_isKept : GoodIn wsX8_canGo (wsV RX8 433 RX2 yX2_isKept wsX2_isKept) := goodIn_app (goodIn_of _ (by decide +kernel)) ggX8_canGo_X2_isKept
set_option maxRecDepth 20000 in
theorem ggX8_canGo_X2_get : GoodIn wsX8_canGo wsX2_get := goodIn_r _ [21, 10, 11, 12, 13, 14, 15, 16, 17, 46, 47, 48, 49, 50, 51, 52] rfl (by decide +kernel)
set_option maxRecDepth 20000 in
theorem gX8_canGo_X2_get : GoodIn wsX8_canGo (wsV RX8 439 RX2 yX2_get wsX2_get) := goodIn_app (goodIn_of _ (by decide +kernel)) ggX8_canGo_X2_get
set_option maxRecDepth 20000 in
theorem ggX8_canGo_X1_getStation : GoodIn wsX8_canGo wsX1_getStation := goodIn_r _ [26, 27, 28, 12, 13, 14, 15, 16, 17, 53, 54, 55, 56, 57, 58, 51, 52] rfl (by decide +kernel)
set_option maxRecDepth 20000 in
theorem gX8_canGo_X1_getStation : GoodIn wsX8_canGo (wsV RX8 290 RX1 yX1_getStation wsX1_getStation) := goodIn_app (goodIn_of _ (by decide +kernel)) ggX8_canGo_X1_getStation
set_option maxRecDepth 20000 in
theorem ggX8_canGo_X6_count : GoodIn wsX8_canGo wsX6_count := goodIn_r _ [33, 34, 59, 60, 61] rfl (by decide +kernel)
set_option maxRecDepth 20000 in
theorem gX8_canGo_X6_count : GoodIn wsX8_canGo (wsV RX8 449 RX6 yX6_count wsX6_count) := goodIn_app (goodIn_of _ (by decide +kernel)) ggX8_canGo_X6_count
set_option maxRecDepth 20000 in
theorem ggX8_depart_X6_stand : GoodIn wsX8_depart wsX6_stand := goodIn_r _ [8, 9, 10, 11, 12, 13, 14, 15, 16, 17, 57, 58, 59, 60, 61] rfl (by decide +kernel)
set_option maxRecDepth 20000 in
theorem gX8_depart_X6_stand : GoodIn wsX8_depart (wsV RX8 556 RX6 yX6_stand wsX6_stand) := goodIn_app (goodIn_of _ (by decide +kernel)) ggX8_depart_X6_stand
set_option maxRecDepth 20000 in
theorem ggX8_depart_X6_set : GoodIn wsX8_depart wsX6_set := goodIn_r _ [21, 10, 11, 12, 13, 14, 15, 16, 17, 57, 58, 59, 60, 61] rfl (by decide +kernel)
set_option maxRecDepth 20000 in
theorem gX8_depart_X6_set : GoodIn wsX8_depart (wsV RX8 531 RX6 yX6_set wsX6_set) := goodIn_app (goodIn_of _ (by decide +kernel)) ggX8_depart_X6_set
set_option maxRecDepth 20000 in
theorem ggX8_depart_X2_get : GoodIn wsX8_depart wsX2_get := goodIn_r _ [26, 27, 28, 29, 30, 14, 31, 16, 17, 62, 63, 64, 65, 66, 60, 61] rfl (by decide +kernel)
set_option maxRecDepth 20000 in
theorem gX8_depart_X2_get : GoodIn wsX8_depart (wsV RX8 439 RX2 yX2_get wsX2_get) := goodIn_app (goodIn_of _ (by decide +kernel)) ggX8_depart_X2_get
set_option maxRecDepth 20000 in
theorem ggX8_depart_X2_arrivesOf : GoodIn wsX8_depart wsX2_arrivesOf := goodIn_r _ [35, 27, 28, 29, 30, 14, 31, 16, 17, 62, 63, 64, 65, 66, 60, 61] rfl (by decide +kernel)
set_option maxRecDepth 20000 in
theorem gX8_depart_X2_arrivesOf : GoodIn wsX8_depart (wsV RX8 436 RX2 yX2_arrivesOf wsX2_arrivesOf) := goodIn_app (goodIn_of _ (by decide +kernel)) ggX8_depart_X2_arrivesOf
set_option maxRecDepth 20000 in
theorem ggX8_depart_X1_addEngines : GoodIn wsX8_depart wsX1_addEngines := goodIn_r _ [40, 41, 42, 43, 44, 14, 45, 16, 17, 67, 68, 69, 70, 71, 72, 60, 61] rfl (by decide +kernel)
set_option maxRecDepth 20000 in
theorem gX8_depart_X1_addEngines : GoodIn wsX8_depart (wsV RX8 528 RX1 yX1_addEngines wsX1_addEngines) := goodIn_app (goodIn_of _ (by decide +kernel)) ggX8_depart_X1_addEngines
set_option maxRecDepth 20000 in
theorem ggX8_finish_X6_get : GoodIn wsX8_finish wsX6_get := goodIn_r _ [11, 12, 13, 14, 15, 16, 17, 18, 19, 116, 117, 118, 119, 120] rfl (by decide +kernel)
set_option maxRecDepth 20000 in
theorem gX8_finish_X6_get : GoodIn wsX8_finish (wsV RX8 280 RX6 yX6_get wsX6_get) := goodIn_app (goodIn_of _ (by decide +kernel)) ggX8_finish_X6_get
set_option maxRecDepth 20000 in
theorem ggX8_finish_X2_takeOut : GoodIn wsX8_finish wsX2_takeOut := goodIn_r _ [24, 25, 26, 27, 28, 23, 29, 30, 14, 15, 16, 17, 18, 19, 31, 32, 33, 34, 121, 122, 123, 124, 125, 119, 120] rfl (by decide +kernel)
set_option maxRecDepth 20000 in
theorem gX8_finish_X2_takeOut : GoodIn wsX8_finish (wsV RX8 480 RX2 yX2_takeOut wsX2_takeOut) := goodIn_app (goodIn_of _ (by decide +kernel)) ggX8_finish_X2_takeOut
set_option maxRecDepth 20000 in
theorem ggX8_finish_X3_takeHome : GoodIn wsX8_finish wsX3_takeHome := goodIn_r _ [39, 40, 41, 42, 43, 44, 45, 14, 15, 16, 17, 18, 19, 46, 47, 48, 49, 126, 119, 120] rfl (by decide +kernel)
set_option maxRecDepth 20000 in
theorem gX8_finish_X3_takeHome : GoodIn wsX8_finish (wsV RX8 559 RX3 yX3_takeHome wsX3_takeHome) := goodIn_app (goodIn_of _ (by decide +kernel)) ggX8_finish_X3_takeHome
set_option maxRecDepth 20000 in
theorem ggX8_finish_X3_store : GoodIn wsX8_finish wsX3_store := goodIn_r _ [53, 40, 41, 42, 43, 44, 45, 14, 15, 16, 17, 18, 19, 54, 32, 33, 34, 126, 119, 120] rfl (by decide +kernel)
set_option maxRecDepth 20000 in
theorem gX8_finish_X3_store : GoodIn wsX8_finish (wsV RX8 562 RX3 yX3_store wsX3_store) := goodIn_app (goodIn_of _ (by decide +kernel)) ggX8_finish_X3_store
set_option maxRecDepth 20000 in
theorem ggX8_finish_X2_supplyOf : GoodIn wsX8_finish wsX2_supplyOf := goodIn_r _ [57] rfl (by decide +kernel)
set_option maxRecDepth 20000 in
theorem gX8_finish_X2_supplyOf : GoodIn wsX8_finish (va_wsS RX8 565 yX2_supplyOf wsX2_supplyOf) := goodIn_app (goodIn_of _ (by decide +kernel)) ggX8_finish_X2_supplyOf
set_option maxRecDepth 20000 in
theorem ggX8_finish_X4_free : GoodIn wsX8_finish wsX4_free := goodIn_r _ [62, 63, 64, 32, 33, 16, 34, 18, 19, 127, 128, 119, 120] rfl (by decide +kernel)
set_option maxRecDepth 20000 in
theorem gX8_finish_X4_free : GoodIn wsX8_finish (wsV RX8 568 RX4 yX4_free wsX4_free) := goodIn_app (goodIn_of _ (by decide +kernel)) ggX8_finish_X4_free
set_option maxRecDepth 20000 in
theorem ggX8_finish_X3_takeRoad : GoodIn wsX8_finish wsX3_takeRoad := goodIn_r _ [68, 40, 69, 70, 43, 71, 45, 14, 15, 16, 17, 18, 19, 54, 32, 33, 34, 126, 119, 120] rfl (by decide +kernel)
set_option maxRecDepth 20000 in
theorem gX8_finish_X3_takeRoad : GoodIn wsX8_finish (wsV RX8 571 RX3 yX3_takeRoad wsX3_takeRoad) := goodIn_app (goodIn_of _ (by decide +kernel)) ggX8_finish_X3_takeRoad
set_option maxRecDepth 20000 in
theorem ggX8_finish_X7_march : GoodIn wsX8_finish wsX7_march := goodIn_r _ [76, 77, 78, 79, 32, 33, 16, 34, 18, 19, 80, 47, 48, 49, 129, 130, 131, 119, 120] rfl (by decide +kernel)
set_option maxRecDepth 20000 in
theorem gX8_finish_X7_march : GoodIn wsX8_finish (wsV RX8 574 RX7 yX7_march wsX7_march) := goodIn_app (goodIn_of _ (by decide +kernel)) ggX8_finish_X7_march
set_option maxRecDepth 20000 in
theorem ggX8_finish_X8_returnEngine : GoodIn wsX8_finish wsX8_returnEngine := goodIn_r _ [85, 1, 86, 6, 7, 8, 9, 10, 11, 12, 13, 14, 15, 16, 17, 18, 19, 87, 88, 89, 90, 91, 92, 93, 94, 95, 96, 97, 98, 32, 33, 34, 99, 100, 101, 102, 103, 104, 47, 48, 49, 105, 106, 107, 108, 109, 110, 111, 112, 113, 114, 115, 116, 117, 118, 119, 120, 132, 133, 134, 135, 136, 137] rfl (by decide +kernel)
set_option maxRecDepth 20000 in
theorem gX8_finish_X8_returnEngine : GoodIn wsX8_finish (wsV RX8 577 RX8 yX8_returnEngine wsX8_returnEngine) := goodIn_app (goodIn_of _ (by decide +kernel)) ggX8_finish_X8_returnEngine
set_option maxRecDepth 20000 in
theorem ggX8_returnEngine_X6_get : GoodIn wsX8_returnEngine wsX6_get := goodIn_r _ [8, 9, 10, 11, 12, 13, 14, 15, 16, 52, 53, 54, 55, 56] rfl (by decide +kernel)
set_option maxRecDepth 20000 in
theorem gX8_returnEngine_X6_get : GoodIn wsX8_returnEngine (wsV RX8 280 RX6 yX6_get wsX6_get) := goodIn_app (goodIn_of _ (by decide +kernel)) ggX8_returnEngine_X6_get
set_option maxRecDepth 20000 in
theorem ggX8_returnEngine_X1_timeOf : GoodIn wsX8_returnEngine wsX1_timeOf := goodIn_r _ [21, 22, 23, 11, 12, 13, 14, 15, 16, 57, 58, 59, 60, 61, 62, 55, 56] rfl (by decide +kernel)
set_option maxRecDepth 20000 in
theorem gX8_returnEngine_X1_timeOf : GoodIn wsX8_returnEngine (wsV RX8 142 RX1 yX1_timeOf wsX1_timeOf) := goodIn_app (goodIn_of _ (by decide +kernel)) ggX8_returnEngine_X1_timeOf
set_option maxRecDepth 20000 in
theorem ggX8_returnEngine_X6_set : GoodIn wsX8_returnEngine wsX6_set := goodIn_r _ [27, 9, 28, 29, 30, 13, 31, 15, 16, 52, 53, 54, 55, 56] rfl (by decide +kernel)
set_option maxRecDepth 20000 in
theorem gX8_returnEngine_X6_set : GoodIn wsX8_returnEngine (wsV RX8 531 RX6 yX6_set wsX6_set) := goodIn_app (goodIn_of _ (by decide +kernel)) ggX8_returnEngine_X6_set
set_option maxRecDepth 20000 in
theorem ggX8_returnEngine_X1_addEngines : GoodIn wsX8_returnEngine wsX1_addEngines := goodIn_r _ [35, 36, 37, 38, 39, 13, 40, 15, 16, 57, 58, 59, 60, 61, 62, 55, 56] rfl (by decide +kernel)
set_option maxRecDepth 20000 in
theorem gX8_returnEngine_X1_addEngines : GoodIn wsX8_returnEngine (wsV RX8 528 RX1 yX1_addEngines wsX1_addEngines) := goodIn_app (goodIn_of _ (by decide +kernel)) ggX8_returnEngine_X1_addEngines
set_option maxRecDepth 20000 in
theorem ggX8_isWholeSound_X6_areApart : GoodIn wsX8_isWholeSound wsX6_areApart := goodIn_r _ [9, 10, 11, 12, 13, 14, 15, 16, 17, 18, 19, 20, 21, 8, 22, 23, 24, 25, 26, 27, 28, 29, 30, 31, 32, 33, 107, 108, 109, 110, 111, 112, 113, 114, 115, 116, 117] rfl (by decide +kernel)
set_option maxRecDepth 20000 in
theorem gX8_isWholeSound_X6_areApart : GoodIn wsX8_isWholeSound (wsV RX8 580 RX6 yX6_areApart wsX6_areApart) := goodIn_app (goodIn_of _ (by decide +kernel)) ggX8_isWholeSound_X6_areApart
set_option maxRecDepth 20000 in
theorem ggX8_isWholeSound_X8_areStationsSound : GoodIn wsX8_isWholeSound wsX8_areStationsSound := goodIn_r _ [38, 2, 1, 39, 40, 41, 26, 42, 43, 44, 45, 46, 47, 48, 29, 13, 14, 15, 16, 17, 18, 49, 50, 51, 8, 52, 10, 11, 53, 54, 55, 56, 12, 57, 58, 59, 60, 96, 97, 98, 99, 100, 101, 102, 103, 104, 105, 106, 112, 113, 114, 115, 116, 117, 110, 111, 107, 108, 109] rfl (by decide +kernel)
set_option maxRecDepth 20000 in
theorem gX8_isWholeSound_X8_areStationsSound : GoodIn wsX8_isWholeSound (wsV RX8 584 RX8 yX8_areStationsSound wsX8_areStationsSound) := goodIn_app (goodIn_of _ (by decide +kernel)) ggX8_isWholeSound_X8_areStationsSound
set_option maxRecDepth 20000 in
theorem ggX8_isWholeSound_X2_areApart : GoodIn wsX8_isWholeSound wsX2_areApart := goodIn_r _ [65, 66, 67, 68, 64, 69, 70, 71, 13, 14, 15, 16, 17, 18, 72, 73, 74, 75, 76, 77, 78, 79, 80, 81, 82, 83, 84, 85, 86, 87, 118, 119, 120, 121, 122, 110, 111] rfl (by decide +kernel)
set_option maxRecDepth 20000 in
theorem gX8_isWholeSound_X2_areApart : GoodIn wsX8_isWholeSound (wsV RX8 587 RX2 yX2_areApart wsX2_areApart) := goodIn_app (goodIn_of _ (by decide +kernel)) ggX8_isWholeSound_X2_areApart
set_option maxRecDepth 20000 in
theorem ggX8_isWholeSound_X7_areSound : GoodIn wsX8_isWholeSound wsX7_areSound := goodIn_r _ [92, 93, 94, 95, 13, 14, 15, 16, 17, 18, 123, 124, 125, 110, 111] rfl (by decide +kernel)
set_option maxRecDepth 20000 in
theorem gX8_isWholeSound_X7_areSound : GoodIn wsX8_isWholeSound (wsV RX8 589 RX7 yX7_areSound wsX7_areSound) := goodIn_app (goodIn_of _ (by decide +kernel)) ggX8_isWholeSound_X7_areSound
set_option maxRecDepth 20000 in
theorem ggX8_areStationsSound_X1_countStations : GoodIn wsX8_areStationsSound wsX1_countStations := goodIn_r _ [7, 8, 48, 49, 50, 51, 52, 53] rfl (by decide +kernel)
set_option maxRecDepth 20000 in
theorem gX8_areStationsSound_X1_countStations : GoodIn wsX8_areStationsSound (wsV RX8 88 RX1 yX1_countStations wsX1_countStations) := goodIn_app (goodIn_of _ (by decide +kernel)) ggX8_areStationsSound_X1_countStations
set_option maxRecDepth 20000 in
theorem ggX8_areStationsSound_X1_getStation : GoodIn wsX8_areStationsSound wsX1_getStation := goodIn_r _ [12, 13, 14, 15, 16, 17, 18, 19, 20, 48, 49, 50, 51, 52, 53, 54, 55] rfl (by decide +kernel)
set_option maxRecDepth 20000 in
theorem gX8_areStationsSound_X1_getStation : GoodIn wsX8_areStationsSound (wsV RX8 290 RX1 yX1_getStation wsX1_getStation) := goodIn_app (goodIn_of _ (by decide +kernel)) ggX8_areStationsSound_X1_getStation
set_option maxRecDepth 20000 in
theorem ggX8_areStationsSound_X6_countGuestsAt : GoodIn wsX8_areStationsSound wsX6_countGuestsAt := goodIn_r _ [25, 26, 27, 28, 29, 30, 24, 31, 32, 15, 16, 17, 18, 19, 20, 56, 57, 58, 54, 55] rfl (by decide +kernel)
set_option maxRecDepth 20000 in
theorem gX8_areStationsSound_X6_countGuestsAt : GoodIn wsX8_areStationsSound (wsV RX8 592 RX6 yX6_countGuestsAt wsX6_countGuestsAt) := goodIn_app (goodIn_of _ (by decide +kernel)) ggX8_areStationsSound_X6_countGuestsAt
set_option maxRecDepth 20000 in
theorem ggX8_areStationsSound_X6_countUnloadingAt : GoodIn wsX8_areStationsSound wsX6_countUnloadingAt := goodIn_r _ [36, 26, 27, 28, 29, 30, 24, 31, 32, 15, 16, 17, 18, 19, 20, 56, 57, 58, 54, 55] rfl (by decide +kernel)
set_option maxRecDepth 20000 in
theorem gX8_areStationsSound_X6_countUnloadingAt : GoodIn wsX8_areStationsSound (wsV RX8 422 RX6 yX6_countUnloadingAt wsX6_countUnloadingAt) := goodIn_app (goodIn_of _ (by decide +kernel)) ggX8_areStationsSound_X6_countUnloadingAt
set_option maxRecDepth 20000 in
theorem ggX8_digestLand_X1_countStations : GoodIn wsX8_digestLand wsX1_countStations := goodIn_r _ [7, 8, 76, 77, 78, 79, 80, 81] rfl (by decide +kernel)
set_option maxRecDepth 20000 in
theorem gX8_digestLand_X1_countStations : GoodIn wsX8_digestLand (wsV RX8 88 RX1 yX1_countStations wsX1_countStations) := goodIn_app (goodIn_of _ (by decide +kernel)) ggX8_digestLand_X1_countStations
set_option maxRecDepth 20000 in
theorem ggX8_digestLand_X8_stationFact : GoodIn wsX8_digestLand wsX8_stationFact := goodIn_r _ [13, 14, 1, 15, 16, 17, 18, 19, 20, 21, 22, 23, 24, 25, 26, 27, 28, 29, 30, 31, 32, 33, 34, 35, 36, 37, 38, 39, 6, 40, 41, 42, 65, 66, 67, 68, 69, 70, 71, 72, 73, 74, 75, 82, 83, 84, 85, 86, 76, 77, 78, 79, 80, 81] rfl (by decide +kernel)
set_option maxRecDepth 20000 in
theorem gX8_digestLand_X8_stationFact : GoodIn wsX8_digestLand (wsV RX8 154 RX8 yX8_stationFact wsX8_stationFact) := goodIn_app (goodIn_of _ (by decide +kernel)) ggX8_digestLand_X8_stationFact
set_option maxRecDepth 20000 in
theorem ggX8_digestLand_X1_countLines : GoodIn wsX8_digestLand wsX1_countLines := goodIn_r _ [46, 47, 76, 77, 78, 79, 80, 81] rfl (by decide +kernel)
set_option maxRecDepth 20000 in
theorem gX8_digestLand_X1_countLines : GoodIn wsX8_digestLand (wsV RX8 118 RX1 yX1_countLines wsX1_countLines) := goodIn_app (goodIn_of _ (by decide +kernel)) ggX8_digestLand_X1_countLines
set_option maxRecDepth 20000 in
theorem ggX8_digestLand_X8_lineFact : GoodIn wsX8_digestLand wsX8_lineFact := goodIn_r _ [51, 14, 1, 52, 53, 54, 18, 55, 20, 56, 57, 58, 59, 25, 26, 27, 28, 29, 30, 31, 32, 60, 61, 62, 6, 63, 64, 42, 65, 66, 67, 68, 69, 70, 71, 72, 73, 74, 75, 82, 83, 84, 85, 86, 76, 77, 78, 79, 80, 81] rfl (by decide +kernel)
set_option maxRecDepth 20000 in
theorem gX8_digestLand_X8_lineFact : GoodIn wsX8_digestLand (wsV RX8 159 RX8 yX8_lineFact wsX8_lineFact) := goodIn_app (goodIn_of _ (by decide +kernel)) ggX8_digestLand_X8_lineFact
set_option maxRecDepth 20000 in
theorem ggX8_digestUnits_X7_count : GoodIn wsX8_digestUnits wsX7_count := goodIn_r _ [7, 8, 69, 70, 71] rfl (by decide +kernel)
set_option maxRecDepth 20000 in
theorem gX8_digestUnits_X7_count : GoodIn wsX8_digestUnits (wsV RX8 171 RX7 yX7_count wsX7_count) := goodIn_app (goodIn_of _ (by decide +kernel)) ggX8_digestUnits_X7_count
set_option maxRecDepth 20000 in
theorem ggX8_digestUnits_X8_unitFact : GoodIn wsX8_digestUnits wsX8_unitFact := goodIn_r _ [13, 1, 14, 15, 16, 17, 18, 6, 19, 20, 21, 22, 23, 24, 25, 26, 27, 28, 29, 30, 31, 32, 33, 34, 35, 36, 37, 38, 39, 40, 41, 42, 43, 44, 45, 46, 47, 48, 49, 58, 59, 60, 61, 62, 63, 64, 65, 66, 67, 68, 69, 70, 71, 72, 73, 74, 75, 76, 77, 78] rfl (by decide +kernel)
set_option maxRecDepth 20000 in
theorem gX8_digestUnits_X8_unitFact : GoodIn wsX8_digestUnits (wsV RX8 217 RX8 yX8_unitFact wsX8_unitFact) := goodIn_app (goodIn_of _ (by decide +kernel)) ggX8_digestUnits_X8_unitFact
set_option maxRecDepth 20000 in
theorem ggX8_digestUnits_X7_get : GoodIn wsX8_digestUnits wsX7_get := goodIn_r _ [19, 20, 21, 22, 23, 24, 25, 26, 27, 69, 70, 71, 72, 73] rfl (by decide +kernel)
set_option maxRecDepth 20000 in
theorem gX8_digestUnits_X7_get : GoodIn wsX8_digestUnits (wsV RX8 200 RX7 yX7_get wsX7_get) := goodIn_app (goodIn_of _ (by decide +kernel)) ggX8_digestUnits_X7_get
set_option maxRecDepth 20000 in
theorem ggX8_digestUnits_X2_slotOf : GoodIn wsX8_digestUnits wsX2_slotOf := goodIn_r _ [39] rfl (by decide +kernel)
set_option maxRecDepth 20000 in
theorem gX8_digestUnits_X2_slotOf : GoodIn wsX8_digestUnits (va_wsS RX8 249 yX2_slotOf wsX2_slotOf) := goodIn_app (goodIn_of _ (by decide +kernel)) ggX8_digestUnits_X2_slotOf
set_option maxRecDepth 20000 in
theorem ggX8_digestUnits_X8_pathFact : GoodIn wsX8_digestUnits wsX8_pathFact := goodIn_r _ [53, 15, 40, 41, 42, 38, 43, 44, 45, 22, 23, 24, 25, 26, 27, 54, 55, 56, 57, 46, 47, 48, 49, 58, 59, 60, 61, 62, 63, 64, 65, 66, 67, 68, 74, 75, 76, 77, 78, 72, 73] rfl (by decide +kernel)
set_option maxRecDepth 20000 in
theorem gX8_digestUnits_X8_pathFact : GoodIn wsX8_digestUnits (wsV RX8 252 RX8 yX8_pathFact wsX8_pathFact) := goodIn_app (goodIn_of _ (by decide +kernel)) ggX8_digestUnits_X8_pathFact
set_option maxRecDepth 20000 in
theorem ggX8_digestTrains_X6_count : GoodIn wsX8_digestTrains wsX6_count := goodIn_r _ [8, 9, 112, 113, 114] rfl (by decide +kernel)
set_option maxRecDepth 20000 in
theorem gX8_digestTrains_X6_count : GoodIn wsX8_digestTrains (wsV RX8 449 RX6 yX6_count wsX6_count) := goodIn_app (goodIn_of _ (by decide +kernel)) ggX8_digestTrains_X6_count
set_option maxRecDepth 20000 in
theorem ggX8_digestTrains_X8_trainFact : GoodIn wsX8_digestTrains wsX8_trainFact := goodIn_r _ [14, 1, 15, 16, 17, 18, 7, 19, 20, 21, 22, 23, 24, 25, 26, 27, 28, 29, 30, 31, 32, 33, 34, 35, 101, 102, 103, 104, 105, 106, 107, 108, 109, 110, 111, 112, 113, 114, 115, 116] rfl (by decide +kernel)
set_option maxRecDepth 20000 in
theorem gX8_digestTrains_X8_trainFact : GoodIn wsX8_digestTrains (wsV RX8 298 RX8 yX8_trainFact wsX8_trainFact) := goodIn_app (goodIn_of _ (by decide +kernel)) ggX8_digestTrains_X8_trainFact
set_option maxRecDepth 20000 in
theorem ggX8_digestTrains_X6_waitOf : GoodIn wsX8_digestTrains wsX6_waitOf := goodIn_r _ [39, 20, 25, 26, 27, 28, 29, 30, 31, 40, 41, 42, 7, 43, 44, 45, 46, 47, 9, 48, 49, 50, 51, 52, 53, 54, 55, 56, 57, 58, 59, 60, 61, 62, 63, 64, 65, 66, 67, 68, 69, 70, 71, 72, 73, 74, 75, 76, 77, 78, 79, 80, 81, 82, 83, 84, 85, 86, 87, 88, 89, 90, 91, 92, 93, 94, 95, 96, 97, 98, 99, 100, 112, 113, 114, 115, 116, 117, 118, 119, 120, 121, 122] rfl (by decide +kernel)
set_option maxRecDepth 20000 in
theorem gX8_digestTrains_X6_waitOf : GoodIn wsX8_digestTrains (wsV RX8 301 RX6 yX6_waitOf wsX6_waitOf) := goodIn_app (goodIn_of _ (by decide +kernel)) ggX8_digestTrains_X6_waitOf
set_option maxRecDepth 20000 in
theorem ggX8_digestSectors_X8_sectorFact : GoodIn wsX8_digestSectors wsX8_sectorFact := goodIn_r _ [6, 7, 8, 9, 10, 11, 12, 13, 14, 15, 16, 17, 18, 19, 20, 21, 22, 23, 24, 25, 26, 27, 28, 29, 30, 31, 32, 33, 34, 35, 36, 37, 38, 39, 40, 41, 42, 43, 5, 44, 45, 46, 47, 48, 49, 50, 51, 52, 53, 54, 55, 56, 57, 58, 59, 93, 94, 95, 96, 97, 98, 99, 100, 101, 102, 103, 104, 105, 106, 107, 108, 109, 110, 111, 112, 113] rfl (by decide +kernel)
set_option maxRecDepth 20000 in
theorem gX8_digestSectors_X8_sectorFact : GoodIn wsX8_digestSectors (wsV RX8 347 RX8 yX8_sectorFact wsX8_sectorFact) := goodIn_app (goodIn_of _ (by decide +kernel)) ggX8_digestSectors_X8_sectorFact
set_option maxRecDepth 20000 in
theorem ggX8_digestSectors_X8_weightBy : GoodIn wsX8_digestSectors wsX8_weightBy := goodIn_r _ [63, 9, 7, 64, 53, 54, 55, 56, 57, 58, 59, 18, 19, 20, 21, 22, 23, 65, 66, 67, 13, 68, 15, 69, 70, 71, 72, 16, 17, 73, 38, 39, 40, 74, 30, 31, 32, 75, 76, 77, 78, 28, 79, 80, 81, 82, 83, 84, 85, 86, 87, 88, 89, 90, 91, 92, 93, 94, 95, 96, 97, 98, 99, 100, 101, 102, 103, 113, 107, 108, 104, 105, 106, 114, 115, 116, 117, 118] rfl (by decide +kernel)
set_option maxRecDepth 20000 in
theorem gX8_digestSectors_X8_weightBy : GoodIn wsX8_digestSectors (wsV RX8 352 RX8 yX8_weightBy wsX8_weightBy) := goodIn_app (goodIn_of _ (by decide +kernel)) ggX8_digestSectors_X8_weightBy
