set_option maxRecDepth 20000 in
theorem gX7_pass_X7_sendOff : GoodIn wsX7_pass (wsV RX7 287 RX7 yX7_sendOff wsX7_sendOff) := goodIn_app (goodIn_of _ (by decide +kernel)) ggX7_pass_X7_sendOff
set_option maxRecDepth 20000 in
theorem ggX7_water_X7_needSection : GoodIn wsX7_water wsX7_needSection := goodIn_ca (goodIn_r _ [6, 7, 8, 9, 10, 11, 12, 13, 14, 15, 16, 17, 18, 19, 20, 21, 22, 23, 24, 25, 26, 27, 28, 29, 30, 31, 32, 33, 65, 66, 67, 68, 69, 70, 71, 72, 73, 74, 75, 76, 77, 78, 79, 80, 81] (by decide +kernel) (by decide +kernel)) (goodIn_sub (fun _ h => List.mem_cons_of_mem _ (List.mem_append_left _ (List.mem_append_right _ h))) (by decide +kernel))
set_option maxRecDepth 20000 in
theorem gX7_water_X7_needSection : GoodIn wsX7_water (wsV RX7 53 RX7 yX7_needSection wsX7_needSection) := goodIn_app (goodIn_of _ (by decide +kernel)) ggX7_water_X7_needSection
set_option maxRecDepth 20000 in
theorem ggX7_water_X7_needWithin : GoodIn wsX7_water wsX7_needWithin := goodIn_ca (goodIn_r _ [36, 37, 38] (by decide +kernel) (by decide +kernel)) (goodIn_sub (fun _ h => List.mem_cons_of_mem _ (List.mem_append_right _ h)) (by decide +kernel))
set_option maxRecDepth 20000 in
theorem gX7_water_X7_needWithin : GoodIn wsX7_water (va_wsS RX7 57 yX7_needWithin wsX7_needWithin) := goodIn_app (goodIn_of _ (by decide +kernel)) ggX7_water_X7_needWithin
set_option maxRecDepth 20000 in
theorem ggX7_water_X7_stageIn : GoodIn wsX7_water wsX7_stageIn := goodIn_r _ [42, 43, 44, 45, 46, 47, 48, 49, 50, 51, 65, 66, 67, 68, 69, 70, 71, 72, 73, 74, 75, 76, 77, 78] (by decide +kernel) (by decide +kernel)
set_option maxRecDepth 20000 in
theorem gX7_water_X7_stageIn : GoodIn wsX7_water (wsV RX7 290 RX7 yX7_stageIn wsX7_stageIn) := goodIn_app (goodIn_of _ (by decide +kernel)) ggX7_water_X7_stageIn
set_option maxRecDepth 20000 in
theorem ggX7_most_X7_needBoat : GoodIn wsX7_most wsX7_needBoat := goodIn_ca (goodIn_r _ [6, 7, 8, 9, 10, 11, 12, 13, 14, 15, 16, 17, 18, 19, 20, 21, 22, 23, 24, 25, 26, 27, 28, 29, 30, 31, 32, 33, 40, 41, 42, 43, 44, 45, 46, 47, 48, 49, 50, 51, 52, 53, 54, 55, 56] (by decide +kernel) (by decide +kernel)) (goodIn_sub (fun _ h => List.mem_cons_of_mem _ (List.mem_append_right _ h)) (by decide +kernel))
set_option maxRecDepth 20000 in
theorem gX7_most_X7_needBoat : GoodIn wsX7_most (wsV RX7 219 RX7 yX7_needBoat wsX7_needBoat) := goodIn_app (goodIn_of _ (by decide +kernel)) ggX7_most_X7_needBoat
set_option maxRecDepth 20000 in
theorem ggX7_most_X1_push : GoodIn wsX7_most wsX1_push := goodIn_r _ [38, 39, 57, 58, 59, 60, 61, 62, 63, 64, 65, 66, 67, 68, 69, 70, 71] (by decide +kernel) (by decide +kernel)
set_option maxRecDepth 20000 in
theorem gX7_most_X1_push : GoodIn wsX7_most (wsV RX7 294 RX1 yX1_push wsX1_push) := goodIn_app (goodIn_of _ (by decide +kernel)) ggX7_most_X1_push
set_option maxRecDepth 20000 in
theorem ggX7_hours_X7_needBoat : GoodIn wsX7_hours wsX7_needBoat := goodIn_ca (goodIn_r _ [17, 18, 19, 20, 21, 22, 23, 24, 25, 26, 27, 28, 29, 30, 31, 32, 33, 34, 35, 36, 37, 38, 39, 40, 41, 42, 43, 44, 135, 136, 137, 138, 139, 140, 141, 142, 143, 144, 145, 146, 147, 148, 149, 150, 151] (by decide +kernel) (by decide +kernel)) (goodIn_sub (fun _ h => List.mem_cons_of_mem _ (List.mem_append_right _ h)) (by decide +kernel))
set_option maxRecDepth 20000 in
theorem gX7_hours_X7_needBoat : GoodIn wsX7_hours (wsV RX7 219 RX7 yX7_needBoat wsX7_needBoat) := goodIn_app (goodIn_of _ (by decide +kernel)) ggX7_hours_X7_needBoat
set_option maxRecDepth 20000 in
theorem ggX7_hours_X7_needPoint : GoodIn wsX7_hours wsX7_needPoint := goodIn_ca (goodIn_r _ [47, 48, 49, 16, 50, 18, 19] (by decide +kernel) (by decide +kernel)) (goodIn_sub (fun _ h => List.mem_cons_of_mem _ (List.mem_append_right _ h)) (by decide +kernel))
set_option maxRecDepth 20000 in
theorem gX7_hours_X7_needPoint : GoodIn wsX7_hours (va_wsS RX7 128 yX7_needPoint wsX7_needPoint) := goodIn_app (goodIn_of _ (by decide +kernel)) ggX7_hours_X7_needPoint
set_option maxRecDepth 20000 in
theorem ggX7_hours_X1_isUnderWay : GoodIn wsX7_hours wsX1_isUnderWay := goodIn_r _ [55, 56, 120, 121, 122, 123, 124, 125, 126, 127, 128, 129, 130, 131, 132, 133, 134] (by decide +kernel) (by decide +kernel)
set_option maxRecDepth 20000 in
theorem gX7_hours_X1_isUnderWay : GoodIn wsX7_hours (wsV RX7 223 RX1 yX1_isUnderWay wsX1_isUnderWay) := goodIn_app (goodIn_of _ (by decide +kernel)) ggX7_hours_X1_isUnderWay
set_option maxRecDepth 20000 in
theorem ggX7_hours_X1_pointAhead : GoodIn wsX7_hours wsX1_pointAhead := goodIn_r _ [60, 61, 56, 120, 121, 122, 123, 124, 125, 126, 127, 128, 129, 130, 131, 132, 133, 134] (by decide +kernel) (by decide +kernel)
set_option maxRecDepth 20000 in
theorem gX7_hours_X1_pointAhead : GoodIn wsX7_hours (wsV RX7 298 RX1 yX1_pointAhead wsX1_pointAhead) := goodIn_app (goodIn_of _ (by decide +kernel)) ggX7_hours_X1_pointAhead
set_option maxRecDepth 20000 in
theorem ggX7_hours_Jx4a65c_size_8abf5 : GoodIn wsX7_hours wsJx4a65c_size_8abf5 := goodIn_r _ [26, 27, 149, 150, 151] (by decide +kernel) (by decide +kernel)
set_option maxRecDepth 20000 in
theorem gX7_hours_Jx4a65c_size_8abf5 : GoodIn wsX7_hours (wsV RX7 108 RJx4a65c yJx4a65c_size_8abf5 wsJx4a65c_size_8abf5) := goodIn_app (goodIn_of _ (by decide +kernel)) ggX7_hours_Jx4a65c_size_8abf5
set_option maxRecDepth 20000 in
theorem ggX7_hours_Jx4a65c_get_915e3 : GoodIn wsX7_hours wsJx4a65c_get_915e3 := goodIn_r _ [31, 27, 32, 33, 34, 35, 36, 37, 38, 39, 40, 41, 42, 25, 43, 44, 149, 150, 151] (by decide +kernel) (by decide +kernel)
set_option maxRecDepth 20000 in
theorem gX7_hours_Jx4a65c_get_915e3 : GoodIn wsX7_hours (wsV RX7 312 RJx4a65c yJx4a65c_get_915e3 wsJx4a65c_get_915e3) := goodIn_app (goodIn_of _ (by decide +kernel)) ggX7_hours_Jx4a65c_get_915e3
set_option maxRecDepth 20000 in
theorem ggX7_hours_X7_causeOfSize : GoodIn wsX7_hours wsX7_causeOfSize := goodIn_r _ [65, 12, 66, 67, 68, 69, 70, 71, 16, 72, 73, 74, 75, 76, 77, 78, 79, 80, 81, 82, 4, 5, 6, 83, 23, 24, 25, 26, 27, 84, 29, 30, 31, 32, 33, 34, 35, 36, 37, 38, 39, 40, 41, 42, 43, 44, 85, 86, 87, 88, 89, 90, 91, 92, 93, 94, 95, 96, 97, 98, 99, 100, 101, 102, 8, 9, 103, 104, 105, 106, 107, 108, 109, 54, 110, 111, 120, 121, 122, 123, 124, 125, 126, 127, 128, 129, 130, 131, 132, 133, 134, 135, 136, 137, 138, 139, 140, 141, 142, 143, 144, 145, 146, 147, 148, 152, 153, 154, 155, 156, 157, 158, 159, 160, 161, 162, 163, 164, 165, 166, 167, 168, 169, 170, 171, 172, 173, 174, 175, 176, 149, 150, 151] (by decide +kernel) (by decide +kernel)
set_option maxRecDepth 20000 in
theorem gX7_hours_X7_causeOfSize : GoodIn wsX7_hours (wsV RX7 316 RX7 yX7_causeOfSize wsX7_causeOfSize) := goodIn_app (goodIn_of _ (by decide +kernel)) ggX7_hours_X7_causeOfSize
set_option maxRecDepth 20000 in
theorem ggX7_hours_X4_size : GoodIn wsX7_hours wsX4_size := goodIn_r _ [96, 79, 83, 23, 24, 25, 26, 27, 165, 166, 167, 168, 169, 170, 149, 150, 151] (by decide +kernel) (by decide +kernel)
set_option maxRecDepth 20000 in
theorem gX7_hours_X4_size : GoodIn wsX7_hours (wsV RX7 101 RX4 yX4_size wsX4_size) := goodIn_app (goodIn_of _ (by decide +kernel)) ggX7_hours_X4_size
set_option maxRecDepth 20000 in
theorem ggX7_hours_X5_hoursFor : GoodIn wsX7_hours wsX5_hoursFor := goodIn_r _ [116, 90, 117, 118, 91, 119, 152, 153, 154, 155, 156, 157, 158, 159, 160, 161, 162, 163, 164] (by decide +kernel) (by decide +kernel)
set_option maxRecDepth 20000 in
theorem gX7_hours_X5_hoursFor : GoodIn wsX7_hours (wsV RX7 320 RX5 yX5_hoursFor wsX5_hoursFor) := goodIn_app (goodIn_of _ (by decide +kernel)) ggX7_hours_X5_hoursFor
set_option maxRecDepth 20000 in
theorem ggX7_bars_X7_needBoat : GoodIn wsX7_bars wsX7_needBoat := goodIn_ca (goodIn_r _ [5, 6, 7, 8, 9, 10, 11, 12, 13, 14, 15, 16, 17, 18, 19, 20, 21, 22, 23, 24, 25, 26, 27, 28, 29, 30, 31, 32, 162, 163, 164, 165, 166, 167, 168, 169, 170, 171, 172, 173, 174, 175, 176, 177, 178] (by decide +kernel) (by decide +kernel)) (goodIn_sub (fun _ h => List.mem_cons_of_mem _ (List.mem_append_right _ h)) (by decide +kernel))
set_option maxRecDepth 20000 in
theorem gX7_bars_X7_needBoat : GoodIn wsX7_bars (wsV RX7 219 RX7 yX7_needBoat wsX7_needBoat) := goodIn_app (goodIn_of _ (by decide +kernel)) ggX7_bars_X7_needBoat
set_option maxRecDepth 20000 in
theorem ggX7_bars_X7_nextOf : GoodIn wsX7_bars wsX7_nextOf := goodIn_r _ [36, 37, 38, 39, 40, 41, 42, 43, 44, 45, 46, 47, 48, 49, 50, 51, 52, 10, 11, 12, 13, 14, 15, 16, 17, 18, 19, 20, 21, 22, 23, 24, 25, 26, 27, 28, 29, 30, 31, 32, 179, 180, 181, 182, 183, 184, 185, 186, 187, 188, 189, 190, 191, 192, 193, 162, 163, 164, 165, 166, 167, 168, 169, 170, 171, 172, 173, 174, 175, 176, 177, 178] (by decide +kernel) (by decide +kernel)
set_option maxRecDepth 20000 in
theorem gX7_bars_X7_nextOf : GoodIn wsX7_bars (wsV RX7 324 RX7 yX7_nextOf wsX7_nextOf) := goodIn_app (goodIn_of _ (by decide +kernel)) ggX7_bars_X7_nextOf
set_option maxRecDepth 20000 in
theorem ggX7_bars_X7_causeFor : GoodIn wsX7_bars wsX7_causeFor := goodIn_r _ [56, 57, 58, 59, 60, 4, 61, 62, 63, 64, 65, 66, 67, 68, 47, 48, 49, 44, 50, 51, 52, 69, 70, 71, 72, 73, 74, 75, 76, 77, 78, 79, 80, 81, 82, 83, 84, 85, 86, 87, 88, 89, 90, 91, 92, 11, 12, 13, 14, 15, 93, 17, 18, 19, 20, 21, 22, 23, 24, 25, 26, 27, 28, 29, 30, 31, 32, 94, 95, 96, 97, 98, 99, 100, 101, 102, 103, 104, 105, 106, 107, 108, 109, 110, 111, 112, 113, 114, 115, 116, 117, 118, 119, 120, 121, 122, 123, 124, 125, 126, 127, 128, 129, 130, 131, 132, 133, 134, 8, 9, 135, 136, 137, 138, 10, 16, 139, 140, 141, 142, 143, 144, 145, 146, 147, 148, 149, 150, 151, 152, 153, 154, 155, 156, 33, 34, 35, 36, 37, 38, 39, 40, 41, 42, 43, 45, 46, 157, 158, 159, 160, 161, 194, 195, 196, 197, 198, 199, 200, 201, 202, 203, 204, 205, 206, 179, 180, 181, 182, 183, 184, 185, 186, 187, 188, 189, 190, 191, 192, 193, 162, 163, 164, 165, 166, 167, 168, 169, 170, 171, 172, 173, 174, 175, 207, 208, 209, 210, 211, 212, 213, 214, 215, 216, 217, 218, 176, 177, 178] (by decide +kernel) (by decide +kernel)
set_option maxRecDepth 20000 in
theorem gX7_bars_X7_causeFor : GoodIn wsX7_bars (wsV RX7 328 RX7 yX7_causeFor wsX7_causeFor) := goodIn_app (goodIn_of _ (by decide +kernel)) ggX7_bars_X7_causeFor
set_option maxRecDepth 20000 in
theorem ggX7_ofBoat_X7_needBoat : GoodIn wsX7_ofBoat wsX7_needBoat := goodIn_ca (goodIn_r _ [15, 1, 2, 16, 17, 18, 19, 20, 21, 22, 23, 24, 25, 26, 27, 28, 29, 30, 31, 32, 33, 34, 35, 36, 37, 38, 39, 40, 86, 87, 88, 89, 90, 91, 92, 93, 94, 95, 96, 97, 98, 99, 100, 101, 102] (by decide +kernel) (by decide +kernel)) (goodIn_sub (fun _ h => List.mem_cons_of_mem _ (List.mem_append_right _ h)) (by decide +kernel))
set_option maxRecDepth 20000 in
theorem gX7_ofBoat_X7_needBoat : GoodIn wsX7_ofBoat (wsV RX7 219 RX7 yX7_needBoat wsX7_needBoat) := goodIn_app (goodIn_of _ (by decide +kernel)) ggX7_ofBoat_X7_needBoat
set_option maxRecDepth 20000 in
theorem ggX7_ofBoat_X4_size : GoodIn wsX7_ofBoat wsX4_size := goodIn_r _ [45, 46, 47, 19, 20, 21, 22, 23, 103, 104, 105, 106, 107, 108, 100, 101, 102] (by decide +kernel) (by decide +kernel)
set_option maxRecDepth 20000 in
theorem gX7_ofBoat_X4_size : GoodIn wsX7_ofBoat (wsV RX7 101 RX4 yX4_size wsX4_size) := goodIn_app (goodIn_of _ (by decide +kernel)) ggX7_ofBoat_X4_size
set_option maxRecDepth 20000 in
theorem ggX7_ofBoat_X4_weight : GoodIn wsX7_ofBoat wsX4_weight := goodIn_r _ [51, 46, 52, 53, 47, 19, 20, 21, 22, 23, 54, 25, 26, 27, 28, 29, 30, 31, 32, 33, 34, 35, 36, 37, 38, 39, 40, 103, 104, 105, 106, 107, 108, 109, 110, 111, 112, 113, 114, 100, 101, 102] (by decide +kernel) (by decide +kernel)
set_option maxRecDepth 20000 in
theorem gX7_ofBoat_X4_weight : GoodIn wsX7_ofBoat (wsV RX7 335 RX4 yX4_weight wsX4_weight) := goodIn_app (goodIn_of _ (by decide +kernel)) ggX7_ofBoat_X4_weight
set_option maxRecDepth 20000 in
theorem ggX7_ofBoat_X4_draught : GoodIn wsX7_ofBoat wsX4_draught := goodIn_r _ [58, 46, 52, 53, 59, 60, 61, 62, 47, 19, 20, 21, 22, 23, 54, 25, 26, 27, 28, 29, 30, 31, 32, 33, 34, 35, 36, 37, 38, 39, 40, 103, 104, 105, 106, 107, 108, 109, 110, 111, 112, 113, 114, 100, 101, 102] (by decide +kernel) (by decide +kernel)
set_option maxRecDepth 20000 in
theorem gX7_ofBoat_X4_draught : GoodIn wsX7_ofBoat (wsV RX7 338 RX4 yX4_draught wsX4_draught) := goodIn_app (goodIn_of _ (by decide +kernel)) ggX7_ofBoat_X4_draught
set_option maxRecDepth 20000 in
theorem ggX7_ofBoat_X4_breadth : GoodIn wsX7_ofBoat wsX4_breadth := goodIn_r _ [66, 67, 46, 68, 69, 61, 70, 59, 60, 62, 47, 19, 20, 21, 22, 23, 103, 104, 105, 106, 107, 108, 100, 101, 102] (by decide +kernel) (by decide +kernel)
set_option maxRecDepth 20000 in
theorem gX7_ofBoat_X4_breadth : GoodIn wsX7_ofBoat (wsV RX7 341 RX4 yX4_breadth wsX4_breadth) := goodIn_app (goodIn_of _ (by decide +kernel)) ggX7_ofBoat_X4_breadth
set_option maxRecDepth 20000 in
theorem ggX7_waited_X7_needBoat : GoodIn wsX7_waited wsX7_needBoat := goodIn_ca (goodIn_r _ [8, 1, 2, 9, 10, 11, 12, 13, 14, 15, 16, 17, 18, 19, 20, 21, 22, 23, 24, 25, 26, 27, 28, 29, 30, 31, 32, 33, 49, 50, 51, 52, 53, 54, 55, 56, 57, 58, 59, 60, 61, 62, 63, 64, 65] (by decide +kernel) (by decide +kernel)) (goodIn_sub (fun _ h => List.mem_cons_of_mem _ (List.mem_append_right _ h)) (by decide +kernel))
set_option maxRecDepth 20000 in
theorem gX7_waited_X7_needBoat : GoodIn wsX7_waited (wsV RX7 219 RX7 yX7_needBoat wsX7_needBoat) := goodIn_app (goodIn_of _ (by decide +kernel)) ggX7_waited_X7_needBoat
set_option maxRecDepth 20000 in
theorem ggX7_ofBarge_X7_needBarge : GoodIn wsX7_ofBarge wsX7_needBarge := goodIn_ca (goodIn_r _ [13, 1, 2, 14, 15, 16, 17, 18, 19, 20, 21, 22, 23, 24, 25, 26, 27, 28, 29, 30, 31, 32, 33, 34, 35, 36, 37, 38, 107, 108, 109, 110, 111, 112, 113, 114, 115, 116, 117, 118, 119, 120, 121, 122, 123] (by decide +kernel) (by decide +kernel)) (goodIn_sub (fun _ h => List.mem_cons_of_mem _ (List.mem_append_right _ h)) (by decide +kernel))
set_option maxRecDepth 20000 in
theorem gX7_ofBarge_X7_needBarge : GoodIn wsX7_ofBarge (wsV RX7 153 RX7 yX7_needBarge wsX7_needBarge) := goodIn_app (goodIn_of _ (by decide +kernel)) ggX7_ofBarge_X7_needBarge
set_option maxRecDepth 20000 in
theorem ggX7_ofBarge_X7_whereIs : GoodIn wsX7_ofBarge wsX7_whereIs := goodIn_r _ [42, 43, 44, 45, 46, 47, 48, 16, 17, 18, 19, 20, 21, 22, 23, 24, 25, 26, 27, 28, 29, 30, 31, 32, 33, 34, 35, 36, 37, 38, 49, 50, 51, 52, 53, 54, 101, 102, 103, 104, 105, 106, 107, 108, 109, 110, 111, 112, 113, 114, 115, 116, 117, 118, 119, 120, 124, 125, 126, 127, 128, 129, 130, 131, 132, 133, 134, 135, 136, 137, 138, 121, 122, 123] (by decide +kernel) (by decide +kernel)
set_option maxRecDepth 20000 in
theorem gX7_ofBarge_X7_whereIs : GoodIn wsX7_ofBarge (wsV RX7 357 RX7 yX7_whereIs wsX7_whereIs) := goodIn_app (goodIn_of _ (by decide +kernel)) ggX7_ofBarge_X7_whereIs
set_option maxRecDepth 20000 in
theorem ggX7_ofBarge_X4_placeOf : GoodIn wsX7_ofBarge wsX4_placeOf := goodIn_r _ [59, 60, 61, 17, 18, 19, 20, 21, 62, 23, 24, 25, 26, 27, 28, 29, 30, 31, 32, 33, 34, 35, 36, 37, 38, 101, 102, 103, 104, 105, 106, 121, 122, 123] (by decide +kernel) (by decide +kernel)
set_option maxRecDepth 20000 in
theorem gX7_ofBarge_X4_placeOf : GoodIn wsX7_ofBarge (wsV RX7 264 RX4 yX4_placeOf wsX4_placeOf) := goodIn_app (goodIn_of _ (by decide +kernel)) ggX7_ofBarge_X4_placeOf
set_option maxRecDepth 20000 in
theorem ggX7_ofBarge_X4_isTow : GoodIn wsX7_ofBarge wsX4_isTow := goodIn_r _ [66, 67, 101, 102, 103, 104, 105, 106] (by decide +kernel) (by decide +kernel)
set_option maxRecDepth 20000 in
theorem gX7_ofBarge_X4_isTow : GoodIn wsX7_ofBarge (wsV RX7 204 RX4 yX4_isTow wsX4_isTow) := goodIn_app (goodIn_of _ (by decide +kernel)) ggX7_ofBarge_X4_isTow
set_option maxRecDepth 20000 in
theorem ggX7_ofBarge_X4_behind : GoodIn wsX7_ofBarge wsX4_behind := goodIn_r _ [71, 72, 73, 74, 58, 75, 60, 76, 77, 56, 57, 59, 61, 17, 18, 19, 20, 21, 62, 23, 24, 25, 26, 27, 28, 29, 30, 31, 32, 33, 34, 35, 36, 37, 38, 78, 79, 80, 81, 82, 83, 101, 102, 103, 104, 105, 106, 121, 122, 123, 84, 85, 86, 87, 88, 89] (by decide +kernel) (by decide +kernel)
set_option maxRecDepth 20000 in
theorem gX7_ofBarge_X4_behind : GoodIn wsX7_ofBarge (wsV RX7 248 RX4 yX4_behind wsX4_behind) := goodIn_app (goodIn_of _ (by decide +kernel)) ggX7_ofBarge_X4_behind
set_option maxRecDepth 20000 in
theorem ggX7_placeAnew_X7_needBarge : GoodIn wsX7_placeAnew wsX7_needBarge := goodIn_ca (goodIn_r _ [7, 8, 9, 10, 11, 12, 13, 14, 15, 16, 17, 18, 19, 20, 21, 22, 23, 24, 25, 26, 27, 28, 29, 30, 31, 32, 33, 34, 59, 60, 61, 62, 63, 64, 65, 66, 67, 68, 69, 70, 71, 72, 79, 80, 81] (by decide +kernel) (by decide +kernel)) (goodIn_sub (fun _ h => List.mem_cons_of_mem _ (List.mem_append_right _ h)) (by decide +kernel))
set_option maxRecDepth 20000 in
theorem gX7_placeAnew_X7_needBarge : GoodIn wsX7_placeAnew (wsV RX7 153 RX7 yX7_needBarge wsX7_needBarge) := goodIn_app (goodIn_of _ (by decide +kernel)) ggX7_placeAnew_X7_needBarge
set_option maxRecDepth 20000 in
theorem ggX7_placeAnew_X6_latestOfBarge : GoodIn wsX7_placeAnew wsX6_latestOfBarge := goodIn_r _ [39, 40, 41, 42, 38, 43, 44, 45, 46, 47, 48, 49, 50, 82, 83, 84, 85, 86, 87] (by decide +kernel) (by decide +kernel)
set_option maxRecDepth 20000 in
theorem gX7_placeAnew_X6_latestOfBarge : GoodIn wsX7_placeAnew (wsV RX7 366 RX6 yX6_latestOfBarge wsX6_latestOfBarge) := goodIn_app (goodIn_of _ (by decide +kernel)) ggX7_placeAnew_X6_latestOfBarge
set_option maxRecDepth 20000 in
theorem ggX7_placeAnew_X6_eventOf : GoodIn wsX7_placeAnew wsX6_eventOf := goodIn_r _ [50] (by decide +kernel) (by decide +kernel)
set_option maxRecDepth 20000 in
theorem gX7_placeAnew_X6_eventOf : GoodIn wsX7_placeAnew (va_wsS RX7 369 yX6_eventOf wsX6_eventOf) := goodIn_app (goodIn_of _ (by decide +kernel)) ggX7_placeAnew_X6_eventOf
set_option maxRecDepth 20000 in
theorem ggX7_placeAnew_X6_placeOf : GoodIn wsX7_placeAnew wsX6_placeOf := goodIn_r _ [54] (by decide +kernel) (by decide +kernel)
set_option maxRecDepth 20000 in
theorem gX7_placeAnew_X6_placeOf : GoodIn wsX7_placeAnew (va_wsS RX7 372 yX6_placeOf wsX6_placeOf) := goodIn_app (goodIn_of _ (by decide +kernel)) ggX7_placeAnew_X6_placeOf
set_option maxRecDepth 20000 in
theorem ggX7_placeAnew_X6_latestOfBoat : GoodIn wsX7_placeAnew wsX6_latestOfBoat := goodIn_r _ [58, 40, 41, 42, 38, 43, 44, 45, 46, 47, 48, 49, 50, 82, 83, 84, 85, 86, 87] (by decide +kernel) (by decide +kernel)
set_option maxRecDepth 20000 in
theorem gX7_placeAnew_X6_latestOfBoat : GoodIn wsX7_placeAnew (wsV RX7 374 RX6 yX6_latestOfBoat wsX6_latestOfBoat) := goodIn_app (goodIn_of _ (by decide +kernel)) ggX7_placeAnew_X6_latestOfBoat
set_option maxRecDepth 20000 in
theorem ggX7_shifts_X7_needPoint : GoodIn wsX7_shifts wsX7_needPoint := goodIn_ca (goodIn_r _ [6, 7, 8, 5, 9, 10, 11] (by decide +kernel) (by decide +kernel)) (goodIn_sub (fun _ h => List.mem_cons_of_mem _ (List.mem_append_left _ (List.mem_append_right _ h))) (by decide +kernel))
set_option maxRecDepth 20000 in
theorem gX7_shifts_X7_needPoint : GoodIn wsX7_shifts (va_wsS RX7 128 yX7_needPoint wsX7_needPoint) := goodIn_app (goodIn_of _ (by decide +kernel)) ggX7_shifts_X7_needPoint
set_option maxRecDepth 20000 in
theorem ggX7_shifts_X7_needTiedSet : GoodIn wsX7_shifts wsX7_needTiedSet := goodIn_ca (goodIn_r _ [15, 16, 17, 18, 19, 1, 20, 21, 22, 23, 24, 25, 26, 27, 28, 5, 29, 30, 31, 32, 33, 34, 35, 36, 37, 38, 39, 40, 41, 42, 43, 44, 45, 46, 47, 48, 49, 50, 51, 52, 53, 54, 55, 56, 57, 58, 59, 60, 61, 62, 63, 64, 65, 66, 67, 68, 69, 70, 71, 72, 73, 74, 75, 76, 77, 78, 79, 80, 81, 82, 83, 84, 85, 86, 87, 88, 89, 90, 91, 92, 93, 94, 95, 96, 97, 98, 99, 100, 101, 102, 103, 104, 105, 106, 107, 108, 109, 110, 111, 112, 113, 114, 115, 116, 117, 118, 119, 120, 121, 122, 123, 124, 125, 126, 127, 128, 129, 130, 131, 132, 133, 134, 135, 136, 137, 138, 139, 159, 160, 161, 162, 163, 164, 165, 166, 167, 168, 169, 170, 171, 172, 173, 174, 175, 153, 154, 155, 156, 157, 158, 176, 177, 178, 179, 180, 181] (by decide +kernel) (by decide +kernel)) (goodIn_sub (fun _ h => List.mem_cons_of_mem _ (List.mem_append_right _ h)) (by decide +kernel))
set_option maxRecDepth 20000 in
theorem gX7_shifts_X7_needTiedSet : GoodIn wsX7_shifts (wsV RX7 377 RX7 yX7_needTiedSet wsX7_needTiedSet) := goodIn_app (goodIn_of _ (by decide +kernel)) ggX7_shifts_X7_needTiedSet
set_option maxRecDepth 20000 in
theorem ggX7_shifts_Jx4a65c_size_8abf5 : GoodIn wsX7_shifts wsJx4a65c_size_8abf5 := goodIn_r _ [52, 53, 159, 160, 161] (by decide +kernel) (by decide +kernel)
set_option maxRecDepth 20000 in
theorem gX7_shifts_Jx4a65c_size_8abf5 : GoodIn wsX7_shifts (wsV RX7 108 RJx4a65c yJx4a65c_size_8abf5 wsJx4a65c_size_8abf5) := goodIn_app (goodIn_of _ (by decide +kernel)) ggX7_shifts_Jx4a65c_size_8abf5
set_option maxRecDepth 20000 in
theorem ggX7_shifts_Jx4a65c_get_915e3 : GoodIn wsX7_shifts wsJx4a65c_get_915e3 := goodIn_r _ [57, 53, 58, 59, 60, 61, 62, 63, 64, 65, 66, 67, 68, 18, 69, 36, 159, 160, 161] (by decide +kernel) (by decide +kernel)
set_option maxRecDepth 20000 in
theorem gX7_shifts_Jx4a65c_get_915e3 : GoodIn wsX7_shifts (wsV RX7 312 RJx4a65c yJx4a65c_get_915e3 wsJx4a65c_get_915e3) := goodIn_app (goodIn_of _ (by decide +kernel)) ggX7_shifts_Jx4a65c_get_915e3
set_option maxRecDepth 20000 in
theorem ggX7_shifts_X4_behindWithout : GoodIn wsX7_shifts wsX4_behindWithout := goodIn_r _ [143, 144, 145, 146, 147, 148, 85, 149, 150, 50, 51, 18, 52, 53, 151, 55, 56, 57, 58, 59, 60, 61, 62, 63, 64, 65, 66, 67, 68, 69, 36, 152, 71, 72, 73, 74, 75, 176, 177, 178, 179, 180, 181, 159, 160, 161, 153, 154, 155, 156, 157, 158] (by decide +kernel) (by decide +kernel)
set_option maxRecDepth 20000 in
theorem gX7_shifts_X4_behindWithout : GoodIn wsX7_shifts (wsV RX7 381 RX4 yX4_behindWithout wsX4_behindWithout) := goodIn_app (goodIn_of _ (by decide +kernel)) ggX7_shifts_X4_behindWithout
set_option maxRecDepth 20000 in
theorem ggX7_shiftsAnew_X7_needPoint : GoodIn wsX7_shiftsAnew wsX7_needPoint := goodIn_ca (goodIn_r _ [4, 5, 6, 3, 7, 8, 9] (by decide +kernel) (by decide +kernel)) (goodIn_sub (fun _ h => List.mem_cons_of_mem _ (List.mem_append_left _ (List.mem_append_right _ h))) (by decide +kernel))
set_option maxRecDepth 20000 in
theorem gX7_shiftsAnew_X7_needPoint : GoodIn wsX7_shiftsAnew (va_wsS RX7 128 yX7_needPoint wsX7_needPoint) := goodIn_app (goodIn_of _ (by decide +kernel)) ggX7_shiftsAnew_X7_needPoint
set_option maxRecDepth 20000 in
theorem ggX7_shiftsAnew_X7_needTiedSet : GoodIn wsX7_shiftsAnew wsX7_needTiedSet := goodIn_ca (goodIn_r _ [13, 14, 15, 16, 17, 18, 19, 20, 21, 22, 23, 24, 25, 26, 27, 3, 28, 29, 30, 31, 32, 33, 34, 35, 36, 37, 38, 39, 40, 41, 42, 43, 44, 45, 46, 47, 48, 49, 50, 51, 52, 53, 54, 55, 56, 57, 58, 59, 60, 61, 62, 63, 64, 65, 66, 67, 68, 69, 70, 71, 72, 73, 74, 75, 76, 77, 78, 79, 80, 81, 82, 83, 84, 85, 86, 87, 88, 89, 90, 91, 92, 93, 94, 95, 96, 97, 98, 99, 100, 101, 102, 103, 104, 105, 106, 107, 108, 109, 110, 111, 112, 113, 114, 115, 116, 117, 118, 119, 120, 121, 122, 123, 124, 125, 126, 127, 128, 129, 130, 131, 132, 133, 134, 135, 136, 137, 138, 157, 158, 159, 160, 161, 162, 163, 164, 165, 166, 167, 168, 169, 170, 171, 172, 173, 174, 175, 176, 177, 178, 179, 180, 181, 182, 183, 184, 185] (by decide +kernel) (by decide +kernel)) (goodIn_sub (fun _ h => List.mem_cons_of_mem _ (List.mem_append_right _ h)) (by decide +kernel))
set_option maxRecDepth 20000 in
theorem gX7_shiftsAnew_X7_needTiedSet : GoodIn wsX7_shiftsAnew (wsV RX7 377 RX7 yX7_needTiedSet wsX7_needTiedSet) := goodIn_app (goodIn_of _ (by decide +kernel)) ggX7_shiftsAnew_X7_needTiedSet
set_option maxRecDepth 20000 in
theorem ggX7_shiftsAnew_X7_fewestShifts : GoodIn wsX7_shiftsAnew wsX7_fewestShifts := goodIn_r _ [141, 18, 142, 143, 133, 107, 134, 48, 49, 50, 16, 51, 52, 53, 54, 55, 56, 57, 58, 59, 60, 61, 62, 63, 64, 65, 66, 67, 68, 35, 69, 70, 71, 72, 73, 74, 139, 140, 3, 144, 145, 146, 84, 147, 148, 149, 150, 151, 152, 153, 154, 155, 156, 174, 175, 176, 177, 178, 179, 157, 158, 159, 180, 181, 182, 183, 184, 185] (by decide +kernel) (by decide +kernel)
set_option maxRecDepth 20000 in
theorem gX7_shiftsAnew_X7_fewestShifts : GoodIn wsX7_shiftsAnew (va_wsS RX7 385 yX7_fewestShifts wsX7_fewestShifts) := goodIn_app (goodIn_of _ (by decide +kernel)) ggX7_shiftsAnew_X7_fewestShifts
set_option maxRecDepth 20000 in
theorem ggX7_ofContract_X7_needContract : GoodIn wsX7_ofContract wsX7_needContract := goodIn_ca (goodIn_r _ [13, 1, 2, 14, 15, 16, 17, 18, 19, 20, 21, 22, 23, 24, 25, 26, 27, 28, 29, 30, 31, 32, 33, 34, 35, 36, 37, 38, 50, 51, 52, 53, 54, 55, 56, 57, 58, 59, 60, 61, 62, 63, 64, 65, 66] (by decide +kernel) (by decide +kernel)) (goodIn_sub (fun _ h => List.mem_cons_of_mem _ (List.mem_append_right _ h)) (by decide +kernel))
set_option maxRecDepth 20000 in
theorem gX7_ofContract_X7_needContract : GoodIn wsX7_ofContract (wsV RX7 140 RX7 yX7_needContract wsX7_needContract) := goodIn_app (goodIn_of _ (by decide +kernel)) ggX7_ofContract_X7_needContract
set_option maxRecDepth 20000 in
theorem ggX7_all_X7_paidInAll : GoodIn wsX7_all wsX7_paidInAll := goodIn_r _ [12, 13, 14, 15, 16, 17, 18, 19, 20, 21, 22, 23, 24, 25, 26, 27, 28, 29, 30, 31, 32, 33, 34, 35, 36, 37, 38, 46, 47, 48, 49, 50, 51, 52, 53, 54, 55, 56, 57, 58, 59, 60, 61, 62, 63, 64, 65, 66, 67, 68, 69, 70, 71, 72, 73] (by decide +kernel) (by decide +kernel)
set_option maxRecDepth 20000 in
theorem gX7_all_X7_paidInAll : GoodIn wsX7_all (wsV RX7 400 RX7 yX7_paidInAll wsX7_paidInAll) := goodIn_app (goodIn_of _ (by decide +kernel)) ggX7_all_X7_paidInAll
set_option maxRecDepth 20000 in
theorem ggX7_all_X7_waitedInAll : GoodIn wsX7_all wsX7_waitedInAll := goodIn_r _ [42, 43, 44, 45, 16, 17, 18, 19, 20, 21, 22, 23, 24, 25, 26, 27, 28, 29, 30, 31, 32, 33, 34, 35, 36, 37, 38, 46, 47, 48, 49, 50, 51, 52, 53, 54, 55, 56, 57, 58, 59, 74, 75, 76, 77, 78, 79, 80, 81, 82, 83, 84, 85, 86, 87, 88, 71, 72, 73] (by decide +kernel) (by decide +kernel)
set_option maxRecDepth 20000 in
theorem gX7_all_X7_waitedInAll : GoodIn wsX7_all (wsV RX7 403 RX7 yX7_waitedInAll wsX7_waitedInAll) := goodIn_app (goodIn_of _ (by decide +kernel)) ggX7_all_X7_waitedInAll
set_option maxRecDepth 20000 in
theorem ggX7_needPoint_X7_needIndex : GoodIn wsX7_needPoint wsX7_needIndex := goodIn_ca (goodIn_r _ [4, 5, 6] (by decide +kernel) (by decide +kernel)) (goodIn_sub (fun _ h => List.mem_cons_of_mem _ (List.mem_append_right _ h)) (by decide +kernel))
set_option maxRecDepth 20000 in
theorem gX7_needPoint_X7_needIndex : GoodIn wsX7_needPoint (va_wsS RX7 261 yX7_needIndex wsX7_needIndex) := goodIn_app (goodIn_of _ (by decide +kernel)) ggX7_needPoint_X7_needIndex
set_option maxRecDepth 20000 in
theorem ggX7_needSection_Jx4a65c_size_8abf5 : GoodIn wsX7_needSection wsJx4a65c_size_8abf5 := goodIn_r _ [9, 10, 42, 43, 44] (by decide +kernel) (by decide +kernel)
set_option maxRecDepth 20000 in
theorem gX7_needSection_Jx4a65c_size_8abf5 : GoodIn wsX7_needSection (wsV RX7 108 RJx4a65c yJx4a65c_size_8abf5 wsJx4a65c_size_8abf5) := goodIn_app (goodIn_of _ (by decide +kernel)) ggX7_needSection_Jx4a65c_size_8abf5
set_option maxRecDepth 20000 in
theorem ggX7_needSection_Jx4a65c_get_915e3 : GoodIn wsX7_needSection wsJx4a65c_get_915e3 := goodIn_r _ [14, 10, 15, 16, 17, 18, 19, 20, 21, 22, 23, 24, 25, 8, 26, 27, 42, 43, 44] (by decide +kernel) (by decide +kernel)
set_option maxRecDepth 20000 in
theorem gX7_needSection_Jx4a65c_get_915e3 : GoodIn wsX7_needSection (wsV RX7 312 RJx4a65c yJx4a65c_get_915e3 wsJx4a65c_get_915e3) := goodIn_app (goodIn_of _ (by decide +kernel)) ggX7_needSection_Jx4a65c_get_915e3
set_option maxRecDepth 20000 in
theorem ggX7_needTier_X7_needPoint : GoodIn wsX7_needTier wsX7_needPoint := goodIn_ca (goodIn_r _ [8, 9, 10, 7, 11, 1, 2] (by decide +kernel) (by decide +kernel)) (goodIn_sub (fun _ h => List.mem_cons_of_mem _ (List.mem_append_right _ h)) (by decide +kernel))
set_option maxRecDepth 20000 in
theorem gX7_needTier_X7_needPoint : GoodIn wsX7_needTier (va_wsS RX7 128 yX7_needPoint wsX7_needPoint) := goodIn_app (goodIn_of _ (by decide +kernel)) ggX7_needTier_X7_needPoint
set_option maxRecDepth 20000 in
theorem ggX7_needTier_X7_needIndex : GoodIn wsX7_needTier wsX7_needIndex := goodIn_ca (goodIn_r _ [11, 1, 2] (by decide +kernel) (by decide +kernel)) (goodIn_sub (fun _ h => List.mem_cons_of_mem _ (List.mem_append_right _ h)) (by decide +kernel))
set_option maxRecDepth 20000 in
theorem gX7_needTier_X7_needIndex : GoodIn wsX7_needTier (va_wsS RX7 261 yX7_needIndex wsX7_needIndex) := goodIn_app (goodIn_of _ (by decide +kernel)) ggX7_needTier_X7_needIndex
set_option maxRecDepth 20000 in
theorem ggX7_needTier_Jx4a65c_size_8abf5 : GoodIn wsX7_needTier wsJx4a65c_size_8abf5 := goodIn_r _ [16, 17, 49, 50, 51] (by decide +kernel) (by decide +kernel)
set_option maxRecDepth 20000 in
theorem gX7_needTier_Jx4a65c_size_8abf5 : GoodIn wsX7_needTier (wsV RX7 108 RJx4a65c yJx4a65c_size_8abf5 wsJx4a65c_size_8abf5) := goodIn_app (goodIn_of _ (by decide +kernel)) ggX7_needTier_Jx4a65c_size_8abf5
set_option maxRecDepth 20000 in
theorem ggX7_needTier_Jx4a65c_get_915e3 : GoodIn wsX7_needTier wsJx4a65c_get_915e3 := goodIn_r _ [21, 17, 22, 23, 24, 25, 26, 27, 28, 29, 30, 31, 32, 15, 33, 34, 49, 50, 51] (by decide +kernel) (by decide +kernel)
set_option maxRecDepth 20000 in
theorem gX7_needTier_Jx4a65c_get_915e3 : GoodIn wsX7_needTier (wsV RX7 312 RJx4a65c yJx4a65c_get_915e3 wsJx4a65c_get_915e3) := goodIn_app (goodIn_of _ (by decide +kernel)) ggX7_needTier_Jx4a65c_get_915e3
set_option maxRecDepth 20000 in
theorem ggX7_needBarge_Jx4a65c_size_8abf5 : GoodIn wsX7_needBarge wsJx4a65c_size_8abf5 := goodIn_r _ [9, 10, 42, 43, 44] (by decide +kernel) (by decide +kernel)
set_option maxRecDepth 20000 in
theorem gX7_needBarge_Jx4a65c_size_8abf5 : GoodIn wsX7_needBarge (wsV RX7 108 RJx4a65c yJx4a65c_size_8abf5 wsJx4a65c_size_8abf5) := goodIn_app (goodIn_of _ (by decide +kernel)) ggX7_needBarge_Jx4a65c_size_8abf5
set_option maxRecDepth 20000 in
theorem ggX7_needBarge_Jx4a65c_get_915e3 : GoodIn wsX7_needBarge wsJx4a65c_get_915e3 := goodIn_r _ [14, 10, 15, 16, 17, 18, 19, 20, 21, 22, 23, 24, 25, 8, 26, 27, 42, 43, 44] (by decide +kernel) (by decide +kernel)
set_option maxRecDepth 20000 in
theorem gX7_needBarge_Jx4a65c_get_915e3 : GoodIn wsX7_needBarge (wsV RX7 312 RJx4a65c yJx4a65c_get_915e3 wsJx4a65c_get_915e3) := goodIn_app (goodIn_of _ (by decide +kernel)) ggX7_needBarge_Jx4a65c_get_915e3
set_option maxRecDepth 20000 in
theorem ggX7_needContract_Jx4a65c_size_8abf5 : GoodIn wsX7_needContract wsJx4a65c_size_8abf5 := goodIn_r _ [9, 10, 42, 43, 44] (by decide +kernel) (by decide +kernel)
set_option maxRecDepth 20000 in
theorem gX7_needContract_Jx4a65c_size_8abf5 : GoodIn wsX7_needContract (wsV RX7 108 RJx4a65c yJx4a65c_size_8abf5 wsJx4a65c_size_8abf5) := goodIn_app (goodIn_of _ (by decide +kernel)) ggX7_needContract_Jx4a65c_size_8abf5
set_option maxRecDepth 20000 in
theorem ggX7_needContract_Jx4a65c_get_915e3 : GoodIn wsX7_needContract wsJx4a65c_get_915e3 := goodIn_r _ [14, 10, 15, 16, 17, 18, 19, 20, 21, 22, 23, 24, 25, 8, 26, 27, 42, 43, 44] (by decide +kernel) (by decide +kernel)
set_option maxRecDepth 20000 in
theorem gX7_needContract_Jx4a65c_get_915e3 : GoodIn wsX7_needContract (wsV RX7 312 RJx4a65c yJx4a65c_get_915e3 wsJx4a65c_get_915e3) := goodIn_app (goodIn_of _ (by decide +kernel)) ggX7_needContract_Jx4a65c_get_915e3
set_option maxRecDepth 20000 in
theorem ggX7_needBoat_Jx4a65c_size_8abf5 : GoodIn wsX7_needBoat wsJx4a65c_size_8abf5 := goodIn_r _ [9, 10, 42, 43, 44] (by decide +kernel) (by decide +kernel)
set_option maxRecDepth 20000 in
theorem gX7_needBoat_Jx4a65c_size_8abf5 : GoodIn wsX7_needBoat (wsV RX7 108 RJx4a65c yJx4a65c_size_8abf5 wsJx4a65c_size_8abf5) := goodIn_app (goodIn_of _ (by decide +kernel)) ggX7_needBoat_Jx4a65c_size_8abf5
set_option maxRecDepth 20000 in
theorem ggX7_needBoat_Jx4a65c_get_915e3 : GoodIn wsX7_needBoat wsJx4a65c_get_915e3 := goodIn_r _ [14, 10, 15, 16, 17, 18, 19, 20, 21, 22, 23, 24, 25, 8, 26, 27, 42, 43, 44] (by decide +kernel) (by decide +kernel)
set_option maxRecDepth 20000 in
theorem gX7_needBoat_Jx4a65c_get_915e3 : GoodIn wsX7_needBoat (wsV RX7 312 RJx4a65c yJx4a65c_get_915e3 wsJx4a65c_get_915e3) := goodIn_app (goodIn_of _ (by decide +kernel)) ggX7_needBoat_Jx4a65c_get_915e3
set_option maxRecDepth 20000 in
theorem ggX7_needNoBoatIn_X7_isBusy : GoodIn wsX7_needNoBoatIn wsX7_isBusy := goodIn_r _ [5, 6, 7, 8, 9, 10, 11, 12, 13, 14, 15, 16, 17, 18, 19, 20, 21, 22, 23, 24, 25, 26, 27, 28, 29, 30, 31, 32, 38, 39, 40, 41, 42, 43, 44, 45, 46, 47, 48, 49, 50, 51, 52, 53, 54, 55, 56, 57, 58, 59, 60, 61, 62, 63, 64, 65, 66, 67, 68, 69, 70, 71, 72, 73, 74, 75, 76, 77, 78, 79, 80, 81, 82] (by decide +kernel) (by decide +kernel)
set_option maxRecDepth 20000 in
theorem gX7_needNoBoatIn_X7_isBusy : GoodIn wsX7_needNoBoatIn (wsV RX7 429 RX7 yX7_isBusy wsX7_isBusy) := goodIn_app (goodIn_of _ (by decide +kernel)) ggX7_needNoBoatIn_X7_isBusy
set_option maxRecDepth 20000 in
theorem ggX7_needNoBoatIn_X7_needState : GoodIn wsX7_needNoBoatIn wsX7_needState := goodIn_ca (goodIn_r _ [35, 36, 37] (by decide +kernel) (by decide +kernel)) (goodIn_sub (fun _ h => List.mem_cons_of_mem _ (List.mem_append_right _ h)) (by decide +kernel))
set_option maxRecDepth 20000 in
theorem gX7_needNoBoatIn_X7_needState : GoodIn wsX7_needNoBoatIn (va_wsS RX7 77 yX7_needState wsX7_needState) := goodIn_app (goodIn_of _ (by decide +kernel)) ggX7_needNoBoatIn_X7_needState
set_option maxRecDepth 20000 in
theorem ggX7_needTiedSet_J6_bitCount_0f7a4 : GoodIn wsX7_needTiedSet wsJ6_bitCount_0f7a4 := goodIn_r _ [9, 10, 11, 12] (by decide +kernel) (by decide +kernel)
set_option maxRecDepth 20000 in
theorem gX7_needTiedSet_J6_bitCount_0f7a4 : GoodIn wsX7_needTiedSet (va_wsS RX7 433 yJ6_bitCount_0f7a4 wsJ6_bitCount_0f7a4) := goodIn_app (goodIn_of _ (by decide +kernel)) ggX7_needTiedSet_J6_bitCount_0f7a4
set_option maxRecDepth 20000 in
theorem ggX7_needTiedSet_X7_needArgument : GoodIn wsX7_needTiedSet wsX7_needArgument := goodIn_ca (goodIn_r _ [16, 17, 18] (by decide +kernel) (by decide +kernel)) (goodIn_sub (fun _ h => List.mem_cons_of_mem _ (List.mem_append_right _ h)) (by decide +kernel))
set_option maxRecDepth 20000 in
theorem gX7_needTiedSet_X7_needArgument : GoodIn wsX7_needTiedSet (va_wsS RX7 131 yX7_needArgument wsX7_needArgument) := goodIn_app (goodIn_of _ (by decide +kernel)) ggX7_needTiedSet_X7_needArgument
set_option maxRecDepth 20000 in
theorem ggX7_needTiedSet_Jx4a65c_init_da8c8 : GoodIn wsX7_needTiedSet wsJx4a65c_init_da8c8 := goodIn_r _ [21, 22, 23, 24, 25, 26, 27, 28, 29, 30, 31, 32, 33, 34, 35, 127, 128, 129] (by decide +kernel) (by decide +kernel)
set_option maxRecDepth 20000 in
theorem gX7_needTiedSet_Jx4a65c_init_da8c8 : GoodIn wsX7_needTiedSet (wsJx4a65c_init_da8c8) := ggX7_needTiedSet_Jx4a65c_init_da8c8
set_option maxRecDepth 20000 in
theorem ggX7_needTiedSet_Jx4a65c_size_8abf5 : GoodIn wsX7_needTiedSet wsJx4a65c_size_8abf5 := goodIn_r _ [39, 40, 127, 128, 129] (by decide +kernel) (by decide +kernel)
set_option maxRecDepth 20000 in
theorem gX7_needTiedSet_Jx4a65c_size_8abf5 : GoodIn wsX7_needTiedSet (wsV RX7 108 RJx4a65c yJx4a65c_size_8abf5 wsJx4a65c_size_8abf5) := goodIn_app (goodIn_of _ (by decide +kernel)) ggX7_needTiedSet_Jx4a65c_size_8abf5
set_option maxRecDepth 20000 in
theorem ggX7_needTiedSet_Jx4a65c_get_915e3 : GoodIn wsX7_needTiedSet wsJx4a65c_get_915e3 := goodIn_r _ [44, 40, 45, 46, 47, 48, 49, 50, 51, 52, 53, 54, 55, 3, 56, 23, 127, 128, 129] (by decide +kernel) (by decide +kernel)
set_option maxRecDepth 20000 in
theorem gX7_needTiedSet_Jx4a65c_get_915e3 : GoodIn wsX7_needTiedSet (wsV RX7 312 RJx4a65c yJx4a65c_get_915e3 wsJx4a65c_get_915e3) := goodIn_app (goodIn_of _ (by decide +kernel)) ggX7_needTiedSet_Jx4a65c_get_915e3
set_option maxRecDepth 20000 in
theorem ggX7_needTiedSet_X0_bit : GoodIn wsX7_needTiedSet wsX0_bit := goodIn_r _ [61, 62, 144, 145, 146, 147, 148, 149] (by decide +kernel) (by decide +kernel)
set_option maxRecDepth 20000 in
theorem gX7_needTiedSet_X0_bit : GoodIn wsX7_needTiedSet (wsV RX7 438 RX0 yX0_bit wsX0_bit) := goodIn_app (goodIn_of _ (by decide +kernel)) ggX7_needTiedSet_X0_bit
set_option maxRecDepth 20000 in
theorem ggX7_needTiedSet_X0_isTiedAt : GoodIn wsX7_needTiedSet wsX0_isTiedAt := goodIn_r _ [66, 67, 68, 69, 70, 71, 72, 73, 74, 144, 145, 146, 147, 148, 149, 150, 151, 152, 153, 154, 155] (by decide +kernel) (by decide +kernel)
set_option maxRecDepth 20000 in
theorem gX7_needTiedSet_X0_isTiedAt : GoodIn wsX7_needTiedSet (wsV RX7 241 RX0 yX0_isTiedAt wsX0_isTiedAt) := goodIn_app (goodIn_of _ (by decide +kernel)) ggX7_needTiedSet_X0_isTiedAt
set_option maxRecDepth 20000 in
theorem ggX7_needTiedSet_Jx4a65c_add_9ea2d : GoodIn wsX7_needTiedSet wsJx4a65c_add_9ea2d := goodIn_r _ [78, 79, 80, 23, 40, 81, 82, 83, 3, 84, 85, 86, 87, 88, 89, 90, 91, 92, 22, 93, 94, 95, 96, 97, 98, 99, 100, 101, 102, 103, 104, 105, 106, 107, 108, 109, 110, 111, 112, 113, 114, 115, 116, 117, 118, 119, 120, 121, 122, 123, 124, 125, 126, 127, 128, 129] (by decide +kernel) (by decide +kernel)
set_option maxRecDepth 20000 in
theorem gX7_needTiedSet_Jx4a65c_add_9ea2d : GoodIn wsX7_needTiedSet (wsV RX7 44 RJx4a65c yJx4a65c_add_9ea2d wsJx4a65c_add_9ea2d) := goodIn_app (goodIn_of _ (by decide +kernel)) ggX7_needTiedSet_Jx4a65c_add_9ea2d
set_option maxRecDepth 20000 in
theorem ggX7_beginHour_X7_stageIn : GoodIn wsX7_beginHour wsX7_stageIn := goodIn_r _ [10, 2, 11, 12, 13, 14, 15, 16, 17, 18, 51, 52, 53, 54, 55, 56, 57, 58, 59, 60, 61, 62, 63, 64] (by decide +kernel) (by decide +kernel)
set_option maxRecDepth 20000 in
theorem gX7_beginHour_X7_stageIn : GoodIn wsX7_beginHour (wsV RX7 290 RX7 yX7_stageIn wsX7_stageIn) := goodIn_app (goodIn_of _ (by decide +kernel)) ggX7_beginHour_X7_stageIn
set_option maxRecDepth 20000 in
theorem ggX7_beginHour_Jx4a65c_size_8abf5 : GoodIn wsX7_beginHour wsJx4a65c_size_8abf5 := goodIn_r _ [23, 24, 65, 66, 67] (by decide +kernel) (by decide +kernel)
set_option maxRecDepth 20000 in
theorem gX7_beginHour_Jx4a65c_size_8abf5 : GoodIn wsX7_beginHour (wsV RX7 108 RJx4a65c yJx4a65c_size_8abf5 wsJx4a65c_size_8abf5) := goodIn_app (goodIn_of _ (by decide +kernel)) ggX7_beginHour_Jx4a65c_size_8abf5
set_option maxRecDepth 20000 in
theorem ggX7_beginHour_Jx4a65c_get_915e3 : GoodIn wsX7_beginHour wsJx4a65c_get_915e3 := goodIn_r _ [28, 24, 29, 30, 31, 32, 33, 34, 35, 36, 37, 38, 39, 22, 40, 41, 65, 66, 67] (by decide +kernel) (by decide +kernel)
set_option maxRecDepth 20000 in
theorem gX7_beginHour_Jx4a65c_get_915e3 : GoodIn wsX7_beginHour (wsV RX7 312 RJx4a65c yJx4a65c_get_915e3 wsJx4a65c_get_915e3) := goodIn_app (goodIn_of _ (by decide +kernel)) ggX7_beginHour_Jx4a65c_get_915e3
set_option maxRecDepth 20000 in
theorem ggX7_beginHour_X1_beginHour : GoodIn wsX7_beginHour wsX1_beginHour := goodIn_r _ [46, 47, 48, 49, 13, 14, 15, 50, 68, 69, 70, 71, 72, 73, 74, 75, 76, 77, 78, 79, 80, 81, 82] (by decide +kernel) (by decide +kernel)
set_option maxRecDepth 20000 in
theorem gX7_beginHour_X1_beginHour : GoodIn wsX7_beginHour (wsV RX7 441 RX1 yX1_beginHour wsX1_beginHour) := goodIn_app (goodIn_of _ (by decide +kernel)) ggX7_beginHour_X1_beginHour
set_option maxRecDepth 20000 in
theorem ggX7_travel_Jx4a65c_size_8abf5 : GoodIn wsX7_travel wsJx4a65c_size_8abf5 := goodIn_r _ [13, 14, 157, 158, 159] (by decide +kernel) (by decide +kernel)
set_option maxRecDepth 20000 in
theorem gX7_travel_Jx4a65c_size_8abf5 : GoodIn wsX7_travel (wsV RX7 108 RJx4a65c yJx4a65c_size_8abf5 wsJx4a65c_size_8abf5) := goodIn_app (goodIn_of _ (by decide +kernel)) ggX7_travel_Jx4a65c_size_8abf5
set_option maxRecDepth 20000 in
theorem ggX7_travel_Jx4a65c_get_915e3 : GoodIn wsX7_travel wsJx4a65c_get_915e3 := goodIn_r _ [18, 14, 19, 20, 21, 22, 23, 24, 25, 26, 27, 28, 29, 12, 30, 31, 157, 158, 159] (by decide +kernel) (by decide +kernel)
set_option maxRecDepth 20000 in
theorem gX7_travel_Jx4a65c_get_915e3 : GoodIn wsX7_travel (wsV RX7 312 RJx4a65c yJx4a65c_get_915e3 wsJx4a65c_get_915e3) := goodIn_app (goodIn_of _ (by decide +kernel)) ggX7_travel_Jx4a65c_get_915e3
set_option maxRecDepth 20000 in
theorem ggX7_travel_X7_waterOf : GoodIn wsX7_travel wsX7_waterOf := goodIn_r _ [36, 37, 38, 144, 145, 146, 147, 148, 149, 150, 151, 152, 153, 154, 155, 156, 115, 116, 117, 118, 119, 120, 121, 122, 123, 124, 125, 126, 127, 128] (by decide +kernel) (by decide +kernel)
set_option maxRecDepth 20000 in
theorem gX7_travel_X7_waterOf : GoodIn wsX7_travel (wsV RX7 445 RX7 yX7_waterOf wsX7_waterOf) := goodIn_app (goodIn_of _ (by decide +kernel)) ggX7_travel_X7_waterOf
set_option maxRecDepth 20000 in
theorem ggX7_travel_X4_draught : GoodIn wsX7_travel wsX4_draught := goodIn_r _ [43, 44, 45, 46, 47, 48, 49, 50, 51, 10, 11, 12, 13, 14, 52, 16, 17, 18, 19, 20, 21, 22, 23, 24, 25, 26, 27, 28, 29, 30, 31, 160, 161, 162, 163, 164, 165, 166, 167, 168, 169, 170, 171, 157, 158, 159] (by decide +kernel) (by decide +kernel)
set_option maxRecDepth 20000 in
theorem gX7_travel_X4_draught : GoodIn wsX7_travel (wsV RX7 338 RX4 yX4_draught wsX4_draught) := goodIn_app (goodIn_of _ (by decide +kernel)) ggX7_travel_X4_draught
set_option maxRecDepth 20000 in
theorem ggX7_travel_X1_waitFor : GoodIn wsX7_travel wsX1_waitFor := goodIn_r _ [57, 58, 59, 129, 130, 131, 132, 133, 134, 135, 136, 137, 138, 139, 140, 141, 142, 143] (by decide +kernel) (by decide +kernel)
set_option maxRecDepth 20000 in
theorem gX7_travel_X1_waitFor : GoodIn wsX7_travel (wsV RX7 449 RX1 yX1_waitFor wsX1_waitFor) := goodIn_app (goodIn_of _ (by decide +kernel)) ggX7_travel_X1_waitFor
set_option maxRecDepth 20000 in
theorem ggX7_travel_X7_arrive : GoodIn wsX7_travel wsX7_arrive := goodIn_r _ [63, 64, 1, 2, 65, 66, 67, 68, 69, 70, 56, 71, 72, 73, 74, 75, 76, 77, 78, 79, 80, 81, 9, 10, 11, 12, 13, 14, 15, 16, 17, 18, 19, 20, 21, 22, 23, 24, 25, 26, 27, 28, 29, 30, 31, 82, 83, 84, 85, 86, 87, 88, 89, 90, 91, 92, 93, 94, 95, 96, 97, 98, 99, 100, 101, 102, 103, 104, 105, 106, 107, 108, 109, 110, 111, 112, 113, 114, 115, 116, 117, 118, 119, 120, 121, 122, 123, 124, 125, 126, 127, 128, 129, 130, 131, 132, 133, 134, 135, 136, 137, 138, 139, 140, 141, 142, 143, 157, 158, 159, 172, 173, 174, 175, 176, 177] (by decide +kernel) (by decide +kernel)
set_option maxRecDepth 20000 in
theorem gX7_travel_X7_arrive : GoodIn wsX7_travel (wsV RX7 452 RX7 yX7_arrive wsX7_arrive) := goodIn_app (goodIn_of _ (by decide +kernel)) ggX7_travel_X7_arrive
set_option maxRecDepth 20000 in
theorem ggX7_arrive_X1_pointAhead : GoodIn wsX7_arrive wsX1_pointAhead := goodIn_r _ [11, 12, 13, 92, 93, 94, 95, 96, 97, 98, 99, 100, 101, 102, 103, 104, 105, 106] (by decide +kernel) (by decide +kernel)
set_option maxRecDepth 20000 in
theorem gX7_arrive_X1_pointAhead : GoodIn wsX7_arrive (wsV RX7 298 RX1 yX1_pointAhead wsX1_pointAhead) := goodIn_app (goodIn_of _ (by decide +kernel)) ggX7_arrive_X1_pointAhead
set_option maxRecDepth 20000 in
theorem ggX7_arrive_X1_standAt : GoodIn wsX7_arrive wsX1_standAt := goodIn_r _ [17, 18, 13, 19, 20, 21, 92, 93, 94, 95, 96, 97, 98, 99, 100, 101, 102, 103, 104, 105, 106] (by decide +kernel) (by decide +kernel)
set_option maxRecDepth 20000 in
theorem gX7_arrive_X1_standAt : GoodIn wsX7_arrive (wsV RX7 214 RX1 yX1_standAt wsX1_standAt) := goodIn_app (goodIn_of _ (by decide +kernel)) ggX7_arrive_X1_standAt
set_option maxRecDepth 20000 in
theorem ggX7_arrive_Jx4a65c_size_8abf5 : GoodIn wsX7_arrive wsJx4a65c_size_8abf5 := goodIn_r _ [26, 27, 107, 108, 109] (by decide +kernel) (by decide +kernel)
set_option maxRecDepth 20000 in
theorem gX7_arrive_Jx4a65c_size_8abf5 : GoodIn wsX7_arrive (wsV RX7 108 RJx4a65c yJx4a65c_size_8abf5 wsJx4a65c_size_8abf5) := goodIn_app (goodIn_of _ (by decide +kernel)) ggX7_arrive_Jx4a65c_size_8abf5
set_option maxRecDepth 20000 in
theorem ggX7_arrive_Jx4a65c_get_915e3 : GoodIn wsX7_arrive wsJx4a65c_get_915e3 := goodIn_r _ [31, 27, 32, 33, 34, 35, 36, 37, 38, 39, 40, 41, 42, 25, 43, 44, 107, 108, 109] (by decide +kernel) (by decide +kernel)
set_option maxRecDepth 20000 in
theorem gX7_arrive_Jx4a65c_get_915e3 : GoodIn wsX7_arrive (wsV RX7 312 RJx4a65c yJx4a65c_get_915e3 wsJx4a65c_get_915e3) := goodIn_app (goodIn_of _ (by decide +kernel)) ggX7_arrive_Jx4a65c_get_915e3
set_option maxRecDepth 20000 in
theorem ggX7_arrive_X1_agree : GoodIn wsX7_arrive wsX1_agree := goodIn_r _ [48, 49, 50, 92, 93, 94, 95, 96, 97, 98, 99, 100, 101, 102, 103, 104, 105, 106] (by decide +kernel) (by decide +kernel)
set_option maxRecDepth 20000 in
theorem gX7_arrive_X1_agree : GoodIn wsX7_arrive (wsV RX7 271 RX1 yX1_agree wsX1_agree) := goodIn_app (goodIn_of _ (by decide +kernel)) ggX7_arrive_X1_agree
set_option maxRecDepth 20000 in
theorem ggX7_arrive_X6_tell : GoodIn wsX7_arrive wsX6_tell := goodIn_r _ [55, 56, 57, 58, 59, 60, 61, 62, 63, 64, 65, 66, 67, 68, 69, 70, 71, 72, 73, 74, 75, 76, 77, 110, 111, 112, 113, 114, 115] (by decide +kernel) (by decide +kernel)
set_option maxRecDepth 20000 in
theorem gX7_arrive_X6_tell : GoodIn wsX7_arrive (wsV RX7 125 RX6 yX6_tell wsX6_tell) := goodIn_app (goodIn_of _ (by decide +kernel)) ggX7_arrive_X6_tell
set_option maxRecDepth 20000 in
theorem ggX7_sendOff_Jx4a65c_size_8abf5 : GoodIn wsX7_sendOff wsJx4a65c_size_8abf5 := goodIn_r _ [7, 8, 222, 223, 224] (by decide +kernel) (by decide +kernel)
set_option maxRecDepth 20000 in
theorem gX7_sendOff_Jx4a65c_size_8abf5 : GoodIn wsX7_sendOff (wsV RX7 108 RJx4a65c yJx4a65c_size_8abf5 wsJx4a65c_size_8abf5) := goodIn_app (goodIn_of _ (by decide +kernel)) ggX7_sendOff_Jx4a65c_size_8abf5
set_option maxRecDepth 20000 in
theorem ggX7_sendOff_Jx4a65c_get_915e3 : GoodIn wsX7_sendOff wsJx4a65c_get_915e3 := goodIn_r _ [12, 8, 13, 14, 15, 16, 17, 18, 19, 20, 21, 22, 23, 6, 24, 25, 222, 223, 224] (by decide +kernel) (by decide +kernel)
set_option maxRecDepth 20000 in
theorem gX7_sendOff_Jx4a65c_get_915e3 : GoodIn wsX7_sendOff (wsV RX7 312 RJx4a65c yJx4a65c_get_915e3 wsJx4a65c_get_915e3) := goodIn_app (goodIn_of _ (by decide +kernel)) ggX7_sendOff_Jx4a65c_get_915e3
set_option maxRecDepth 20000 in
theorem ggX7_sendOff_X7_nextOf : GoodIn wsX7_sendOff wsX7_nextOf := goodIn_r _ [30, 31, 32, 33, 34, 35, 36, 37, 38, 39, 40, 41, 42, 43, 44, 45, 46, 3, 4, 5, 6, 7, 8, 9, 10, 11, 12, 13, 14, 15, 16, 17, 18, 19, 20, 21, 22, 23, 24, 25, 225, 226, 227, 228, 229, 230, 231, 232, 233, 234, 235, 236, 237, 238, 239, 208, 209, 210, 211, 212, 213, 214, 215, 216, 217, 218, 219, 220, 221, 222, 223, 224] (by decide +kernel) (by decide +kernel)
set_option maxRecDepth 20000 in
theorem gX7_sendOff_X7_nextOf : GoodIn wsX7_sendOff (wsV RX7 324 RX7 yX7_nextOf wsX7_nextOf) := goodIn_app (goodIn_of _ (by decide +kernel)) ggX7_sendOff_X7_nextOf
set_option maxRecDepth 20000 in
theorem ggX7_sendOff_X1_isBoundUp : GoodIn wsX7_sendOff wsX1_isBoundUp := goodIn_r _ [44, 45, 46, 225, 226, 227, 228, 229, 230, 231, 232, 233, 234, 235, 236, 237, 238, 239] (by decide +kernel) (by decide +kernel)
set_option maxRecDepth 20000 in
theorem gX7_sendOff_X1_isBoundUp : GoodIn wsX7_sendOff (wsV RX7 456 RX1 yX1_isBoundUp wsX1_isBoundUp) := goodIn_app (goodIn_of _ (by decide +kernel)) ggX7_sendOff_X1_isBoundUp
set_option maxRecDepth 20000 in
theorem ggX7_sendOff_X7_causeFor : GoodIn wsX7_sendOff wsX7_causeFor := goodIn_r _ [50, 51, 52, 53, 54, 29, 55, 56, 57, 58, 59, 60, 61, 62, 41, 42, 43, 38, 44, 45, 46, 63, 64, 65, 66, 67, 68, 69, 70, 71, 72, 73, 74, 75, 76, 77, 78, 79, 80, 81, 82, 83, 84, 85, 86, 4, 5, 6, 7, 8, 87, 10, 11, 12, 13, 14, 15, 16, 17, 18, 19, 20, 21, 22, 23, 24, 25, 88, 89, 90, 91, 92, 93, 94, 95, 96, 97, 98, 99, 100, 101, 102, 103, 104, 105, 106, 107, 108, 109, 110, 111, 112, 113, 114, 115, 116, 117, 118, 119, 120, 121, 122, 123, 124, 125, 126, 127, 128, 1, 2, 129, 130, 131, 132, 3, 9, 133, 134, 135, 136, 137, 138, 139, 140, 141, 142, 143, 144, 145, 146, 147, 148, 149, 150, 26, 27, 28, 30, 31, 32, 33, 34, 35, 36, 37, 39, 40, 151, 152, 153, 154, 155, 240, 241, 242, 243, 244, 245, 246, 247, 248, 249, 250, 251, 252, 225, 226, 227, 228, 229, 230, 231, 232, 233, 234, 235, 236, 237, 238, 239, 208, 209, 210, 211, 212, 213, 214, 215, 216, 217, 218, 219, 220, 221, 253, 254, 255, 256, 257, 258, 259, 260, 261, 262, 263, 264, 222, 223, 224] (by decide +kernel) (by decide +kernel)
set_option maxRecDepth 20000 in
theorem gX7_sendOff_X7_causeFor : GoodIn wsX7_sendOff (wsV RX7 328 RX7 yX7_causeFor wsX7_causeFor) := goodIn_app (goodIn_of _ (by decide +kernel)) ggX7_sendOff_X7_causeFor
set_option maxRecDepth 20000 in
theorem ggX7_sendOff_X7_enter : GoodIn wsX7_sendOff wsX7_enter := goodIn_r _ [159, 130, 62, 160, 161, 41, 42, 43, 38, 44, 45, 46, 117, 97, 98, 77, 99, 79, 86, 4, 5, 6, 7, 8, 118, 119, 120, 91, 121, 93, 122, 123, 94, 124, 162, 163, 164, 165, 166, 116, 40, 167, 168, 169, 170, 171, 172, 173, 174, 175, 176, 177, 178, 179, 180, 181, 182, 183, 184, 185, 186, 187, 188, 189, 190, 191, 192, 193, 194, 195, 196, 197, 198, 199, 200, 201, 240, 241, 242, 243, 244, 245, 246, 247, 248, 249, 250, 251, 252, 225, 226, 227, 228, 229, 230, 231, 232, 233, 234, 235, 236, 237, 238, 239, 208, 209, 210, 211, 212, 213, 214, 215, 216, 217, 218, 219, 220, 221, 253, 254, 255, 256, 257, 258, 222, 223, 224, 265, 266, 267, 268, 269, 270] (by decide +kernel) (by decide +kernel)
set_option maxRecDepth 20000 in
theorem gX7_sendOff_X7_enter : GoodIn wsX7_sendOff (wsV RX7 459 RX7 yX7_enter wsX7_enter) := goodIn_app (goodIn_of _ (by decide +kernel)) ggX7_sendOff_X7_enter
set_option maxRecDepth 20000 in
theorem ggX7_sendOff_X1_waitFor : GoodIn wsX7_sendOff wsX1_waitFor := goodIn_r _ [205, 206, 207, 225, 226, 227, 228, 229, 230, 231, 232, 233, 234, 235, 236, 237, 238, 239] (by decide +kernel) (by decide +kernel)
set_option maxRecDepth 20000 in
theorem gX7_sendOff_X1_waitFor : GoodIn wsX7_sendOff (wsV RX7 449 RX1 yX1_waitFor wsX1_waitFor) := goodIn_app (goodIn_of _ (by decide +kernel)) ggX7_sendOff_X1_waitFor
set_option maxRecDepth 20000 in
theorem ggX7_enter_X1_isBoundUp : GoodIn wsX7_enter wsX1_isBoundUp := goodIn_r _ [9, 10, 11, 89, 90, 91, 92, 93, 94, 95, 96, 97, 98, 99, 100, 101, 102, 103] (by decide +kernel) (by decide +kernel)
set_option maxRecDepth 20000 in
theorem gX7_enter_X1_isBoundUp : GoodIn wsX7_enter (wsV RX7 456 RX1 yX1_isBoundUp wsX1_isBoundUp) := goodIn_app (goodIn_of _ (by decide +kernel)) ggX7_enter_X1_isBoundUp
set_option maxRecDepth 20000 in
theorem ggX7_enter_X4_size : GoodIn wsX7_enter wsX4_size := goodIn_r _ [16, 17, 18, 19, 20, 21, 22, 23, 118, 119, 120, 121, 122, 123, 124, 125, 126] (by decide +kernel) (by decide +kernel)
set_option maxRecDepth 20000 in
theorem gX7_enter_X4_size : GoodIn wsX7_enter (wsV RX7 101 RX4 yX4_size wsX4_size) := goodIn_app (goodIn_of _ (by decide +kernel)) ggX7_enter_X4_size
set_option maxRecDepth 20000 in
theorem ggX7_enter_X5_hoursFor : GoodIn wsX7_enter wsX5_hoursFor := goodIn_r _ [28, 29, 30, 31, 32, 33, 76, 77, 78, 79, 80, 81, 82, 83, 84, 85, 86, 87, 88] (by decide +kernel) (by decide +kernel)
set_option maxRecDepth 20000 in
theorem gX7_enter_X5_hoursFor : GoodIn wsX7_enter (wsV RX7 320 RX5 yX5_hoursFor wsX5_hoursFor) := goodIn_app (goodIn_of _ (by decide +kernel)) ggX7_enter_X5_hoursFor
set_option maxRecDepth 20000 in
theorem ggX7_enter_X1_setOut : GoodIn wsX7_enter wsX1_setOut := goodIn_r _ [37, 38, 39, 11, 40, 41, 42, 89, 90, 91, 92, 93, 94, 95, 96, 97, 98, 99, 100, 101, 102, 103] (by decide +kernel) (by decide +kernel)
set_option maxRecDepth 20000 in
theorem gX7_enter_X1_setOut : GoodIn wsX7_enter (wsV RX7 464 RX1 yX1_setOut wsX1_setOut) := goodIn_app (goodIn_of _ (by decide +kernel)) ggX7_enter_X1_setOut
set_option maxRecDepth 20000 in
theorem ggX7_enter_X5_countEntry : GoodIn wsX7_enter wsX5_countEntry := goodIn_r _ [46, 47, 48, 76, 77, 78, 79, 80, 81, 82, 83, 84, 85, 86, 87, 88] (by decide +kernel) (by decide +kernel)
set_option maxRecDepth 20000 in
theorem gX7_enter_X5_countEntry : GoodIn wsX7_enter (wsV RX7 468 RX5 yX5_countEntry wsX5_countEntry) := goodIn_app (goodIn_of _ (by decide +kernel)) ggX7_enter_X5_countEntry
set_option maxRecDepth 20000 in
theorem ggX7_enter_X6_tell : GoodIn wsX7_enter wsX6_tell := goodIn_r _ [53, 54, 55, 56, 57, 58, 59, 60, 61, 62, 63, 64, 65, 66, 67, 68, 69, 70, 71, 72, 73, 74, 75, 127, 128, 129, 130, 131, 132] (by decide +kernel) (by decide +kernel)
set_option maxRecDepth 20000 in
theorem gX7_enter_X6_tell : GoodIn wsX7_enter (wsV RX7 125 RX6 yX6_tell wsX6_tell) := goodIn_app (goodIn_of _ (by decide +kernel)) ggX7_enter_X6_tell
set_option maxRecDepth 20000 in
theorem ggX7_nextOf_X1_isUnderWay : GoodIn wsX7_nextOf wsX1_isUnderWay := goodIn_r _ [9, 10, 40, 41, 42, 43, 44, 45, 46, 47, 48, 49, 50, 51, 52, 53, 54] (by decide +kernel) (by decide +kernel)
set_option maxRecDepth 20000 in
theorem gX7_nextOf_X1_isUnderWay : GoodIn wsX7_nextOf (wsV RX7 223 RX1 yX1_isUnderWay wsX1_isUnderWay) := goodIn_app (goodIn_of _ (by decide +kernel)) ggX7_nextOf_X1_isUnderWay
set_option maxRecDepth 20000 in
theorem ggX7_nextOf_X1_isBoundUp : GoodIn wsX7_nextOf wsX1_isBoundUp := goodIn_r _ [14, 15, 16, 40, 41, 42, 43, 44, 45, 46, 47, 48, 49, 50, 51, 52, 53, 54] (by decide +kernel) (by decide +kernel)
set_option maxRecDepth 20000 in
theorem gX7_nextOf_X1_isBoundUp : GoodIn wsX7_nextOf (wsV RX7 456 RX1 yX1_isBoundUp wsX1_isBoundUp) := goodIn_app (goodIn_of _ (by decide +kernel)) ggX7_nextOf_X1_isBoundUp
set_option maxRecDepth 20000 in
theorem ggX7_nextOf_Jx4a65c_size_8abf5 : GoodIn wsX7_nextOf wsJx4a65c_size_8abf5 := goodIn_r _ [21, 22, 69, 70, 71] (by decide +kernel) (by decide +kernel)
set_option maxRecDepth 20000 in
theorem gX7_nextOf_Jx4a65c_size_8abf5 : GoodIn wsX7_nextOf (wsV RX7 108 RJx4a65c yJx4a65c_size_8abf5 wsJx4a65c_size_8abf5) := goodIn_app (goodIn_of _ (by decide +kernel)) ggX7_nextOf_Jx4a65c_size_8abf5
set_option maxRecDepth 20000 in
theorem ggX7_nextOf_Jx4a65c_get_915e3 : GoodIn wsX7_nextOf wsJx4a65c_get_915e3 := goodIn_r _ [26, 22, 27, 28, 29, 30, 31, 32, 33, 34, 35, 36, 37, 20, 38, 39, 69, 70, 71] (by decide +kernel) (by decide +kernel)
set_option maxRecDepth 20000 in
theorem gX7_nextOf_Jx4a65c_get_915e3 : GoodIn wsX7_nextOf (wsV RX7 312 RJx4a65c yJx4a65c_get_915e3 wsJx4a65c_get_915e3) := goodIn_app (goodIn_of _ (by decide +kernel)) ggX7_nextOf_Jx4a65c_get_915e3
set_option maxRecDepth 20000 in
theorem ggX7_causeFor_X7_causeAheadOfMeeting : GoodIn wsX7_causeFor wsX7_causeAheadOfMeeting := goodIn_r _ [6, 7, 8, 9, 10, 11, 12, 13, 14, 15, 16, 17, 18, 19, 20, 21, 22, 23, 5, 24, 25, 26, 27, 28, 29, 30, 31, 32, 33, 34, 35, 36, 37, 38, 39, 40, 41, 42, 43, 44, 45, 46, 47, 48, 49, 50, 51, 52, 53, 54, 55, 56, 57, 58, 59, 60, 61, 62, 63, 64, 65, 66, 67, 68, 69, 70, 71, 72, 73, 74, 75, 76, 77, 78, 79, 80, 81, 82, 83, 84, 85, 86, 87, 88, 89, 90, 91, 92, 93, 94, 95, 96, 97, 98, 99, 100, 101, 102, 103, 165, 166, 167, 168, 169, 170, 171, 172, 173, 174, 175, 176, 177, 178, 179, 152, 153, 154, 155, 156, 157, 158, 159, 160, 161, 162, 163, 164, 180, 181, 182, 183, 184, 185, 186, 187, 188, 189, 190, 191, 192, 193, 194, 195, 196, 197, 198, 199, 200, 201, 202, 203, 204, 205, 206, 207, 208] (by decide +kernel) (by decide +kernel)
set_option maxRecDepth 20000 in
theorem gX7_causeFor_X7_causeAheadOfMeeting : GoodIn wsX7_causeFor (wsV RX7 471 RX7 yX7_causeAheadOfMeeting wsX7_causeAheadOfMeeting) := goodIn_app (goodIn_of _ (by decide +kernel)) ggX7_causeFor_X7_causeAheadOfMeeting
set_option maxRecDepth 20000 in
theorem ggX7_causeFor_X7_meetsIn : GoodIn wsX7_causeFor wsX7_meetsIn := goodIn_r _ [107, 108, 1, 109, 110, 111, 112, 13, 113, 10, 114, 45, 46, 47, 48, 49, 115, 51, 52, 53, 54, 55, 56, 57, 58, 59, 60, 61, 62, 63, 64, 65, 66, 14, 15, 16, 17, 18, 19, 20, 116, 80, 81, 35, 82, 83, 37, 84, 85, 42, 86, 40, 41, 43, 44, 117, 118, 119, 120, 121, 122, 180, 181, 182, 183, 184, 185, 186, 187, 188, 189, 190, 191, 192, 193, 152, 153, 154, 155, 156, 157, 158, 159, 160, 161, 162, 163, 164, 165, 166, 167, 168, 169, 170, 171, 172, 173, 174, 175, 176, 177, 178, 179, 206, 207, 208, 194, 195, 196, 197, 198, 199] (by decide +kernel) (by decide +kernel)
set_option maxRecDepth 20000 in
theorem gX7_causeFor_X7_meetsIn : GoodIn wsX7_causeFor (wsV RX7 474 RX7 yX7_meetsIn wsX7_meetsIn) := goodIn_app (goodIn_of _ (by decide +kernel)) ggX7_causeFor_X7_meetsIn
set_option maxRecDepth 20000 in
theorem ggX7_causeFor_X7_isBusy : GoodIn wsX7_causeFor wsX7_isBusy := goodIn_r _ [126, 108, 109, 110, 111, 114, 45, 46, 47, 48, 49, 115, 51, 52, 53, 54, 55, 56, 57, 58, 59, 60, 61, 62, 63, 64, 65, 66, 180, 181, 182, 183, 184, 185, 186, 187, 188, 189, 190, 191, 192, 193, 165, 166, 167, 168, 169, 170, 171, 172, 173, 174, 175, 176, 177, 178, 179, 152, 153, 154, 155, 156, 157, 158, 159, 160, 161, 162, 163, 164, 206, 207, 208] (by decide +kernel) (by decide +kernel)
set_option maxRecDepth 20000 in
theorem gX7_causeFor_X7_isBusy : GoodIn wsX7_causeFor (wsV RX7 429 RX7 yX7_isBusy wsX7_isBusy) := goodIn_app (goodIn_of _ (by decide +kernel)) ggX7_causeFor_X7_isBusy
set_option maxRecDepth 20000 in
theorem ggX7_causeFor_X7_firstInto : GoodIn wsX7_causeFor wsX7_firstInto := goodIn_r _ [130, 108, 109, 131, 132, 133, 114, 45, 46, 47, 48, 49, 115, 51, 52, 53, 54, 55, 56, 57, 58, 59, 60, 61, 62, 63, 64, 65, 66, 134, 135, 136, 5, 137, 138, 139, 140, 141, 142, 143, 144, 17, 145, 146, 14, 15, 16, 18, 19, 20, 2, 3, 4, 6, 7, 8, 9, 10, 11, 12, 13, 21, 22, 23, 24, 25, 26, 27, 28, 29, 30, 31, 32, 33, 34, 35, 36, 37, 38, 39, 40, 41, 42, 43, 44, 50, 67, 68, 69, 70, 71, 72, 73, 74, 75, 76, 77, 78, 79, 80, 81, 82, 83, 84, 85, 86, 87, 88, 89, 90, 91, 92, 93, 94, 95, 96, 97, 98, 99, 100, 101, 102, 103, 147, 148, 149, 150, 151, 180, 181, 182, 183, 184, 185, 186, 187, 188, 189, 190, 191, 192, 193, 152, 153, 154, 155, 156, 157, 158, 159, 160, 161, 162, 163, 164, 206, 207, 208, 165, 166, 167, 168, 169, 170, 171, 172, 173, 174, 175, 176, 177, 178, 179, 194, 195, 196, 197, 198, 199, 200, 201, 202, 203, 204, 205] (by decide +kernel) (by decide +kernel)
set_option maxRecDepth 20000 in
theorem gX7_causeFor_X7_firstInto : GoodIn wsX7_causeFor (wsV RX7 478 RX7 yX7_firstInto wsX7_firstInto) := goodIn_app (goodIn_of _ (by decide +kernel)) ggX7_causeFor_X7_firstInto
set_option maxRecDepth 20000 in
theorem ggX7_causeAheadOfMeeting_X1_isBoundUp : GoodIn wsX7_causeAheadOfMeeting wsX1_isBoundUp := goodIn_r _ [12, 13, 14, 99, 100, 101, 102, 103, 104, 105, 106, 107, 108, 109, 110, 111, 112, 113] (by decide +kernel) (by decide +kernel)
set_option maxRecDepth 20000 in
theorem gX7_causeAheadOfMeeting_X1_isBoundUp : GoodIn wsX7_causeAheadOfMeeting (wsV RX7 456 RX1 yX1_isBoundUp wsX1_isBoundUp) := goodIn_app (goodIn_of _ (by decide +kernel)) ggX7_causeAheadOfMeeting_X1_isBoundUp
set_option maxRecDepth 20000 in
theorem ggX7_causeAheadOfMeeting_X7_causeOfSize : GoodIn wsX7_causeAheadOfMeeting wsX7_causeOfSize := goodIn_r _ [19, 7, 20, 6, 21, 22, 23, 24, 18, 25, 26, 27, 28, 29, 30, 31, 32, 33, 34, 35, 36, 37, 38, 39, 40, 41, 42, 43, 44, 45, 46, 47, 48, 49, 50, 51, 52, 53, 54, 55, 56, 57, 58, 59, 60, 61, 62, 63, 64, 65, 66, 67, 68, 69, 70, 71, 72, 73, 74, 75, 76, 77, 78, 79, 80, 81, 82, 83, 84, 85, 86, 87, 88, 11, 89, 90, 99, 100, 101, 102, 103, 104, 105, 106, 107, 108, 109, 110, 111, 112, 113, 127, 128, 129, 130, 131, 132, 133, 134, 135, 136, 137, 138, 139, 140, 114, 115, 116, 117, 118, 119, 120, 121, 122, 123, 124, 125, 126, 141, 142, 143, 144, 145, 146, 147, 148, 149, 150, 151, 152, 153, 154, 155] (by decide +kernel) (by decide +kernel)
set_option maxRecDepth 20000 in
theorem gX7_causeAheadOfMeeting_X7_causeOfSize : GoodIn wsX7_causeAheadOfMeeting (wsV RX7 316 RX7 yX7_causeOfSize wsX7_causeOfSize) := goodIn_app (goodIn_of _ (by decide +kernel)) ggX7_causeAheadOfMeeting_X7_causeOfSize
set_option maxRecDepth 20000 in
theorem ggX7_causeAheadOfMeeting_X4_size : GoodIn wsX7_causeAheadOfMeeting wsX4_size := goodIn_r _ [73, 32, 39, 40, 41, 42, 43, 44, 141, 142, 143, 144, 145, 146, 153, 154, 155] (by decide +kernel) (by decide +kernel)
set_option maxRecDepth 20000 in
theorem gX7_causeAheadOfMeeting_X4_size : GoodIn wsX7_causeAheadOfMeeting (wsV RX7 101 RX4 yX4_size wsX4_size) := goodIn_app (goodIn_of _ (by decide +kernel)) ggX7_causeAheadOfMeeting_X4_size
set_option maxRecDepth 20000 in
theorem ggX7_causeAheadOfMeeting_X5_hoursFor : GoodIn wsX7_causeAheadOfMeeting wsX5_hoursFor := goodIn_r _ [95, 67, 96, 97, 68, 98, 114, 115, 116, 117, 118, 119, 120, 121, 122, 123, 124, 125, 126] (by decide +kernel) (by decide +kernel)
set_option maxRecDepth 20000 in
theorem gX7_causeAheadOfMeeting_X5_hoursFor : GoodIn wsX7_causeAheadOfMeeting (wsV RX7 320 RX5 yX5_hoursFor wsX5_hoursFor) := goodIn_app (goodIn_of _ (by decide +kernel)) ggX7_causeAheadOfMeeting_X5_hoursFor
set_option maxRecDepth 20000 in
theorem ggX7_causeOfSize_X7_waterOf : GoodIn wsX7_causeOfSize wsX7_waterOf := goodIn_r _ [9, 10, 2, 105, 106, 107, 108, 109, 110, 111, 112, 113, 114, 115, 116, 117, 91, 92, 93, 94, 95, 96, 97, 98, 99, 100, 101, 102, 103, 104] (by decide +kernel) (by decide +kernel)
set_option maxRecDepth 20000 in
theorem gX7_causeOfSize_X7_waterOf : GoodIn wsX7_causeOfSize (wsV RX7 445 RX7 yX7_waterOf wsX7_waterOf) := goodIn_app (goodIn_of _ (by decide +kernel)) ggX7_causeOfSize_X7_waterOf
set_option maxRecDepth 20000 in
theorem ggX7_causeOfSize_X4_draught : GoodIn wsX7_causeOfSize wsX4_draught := goodIn_r _ [15, 16, 17, 18, 19, 20, 21, 22, 23, 24, 25, 26, 27, 28, 29, 30, 31, 32, 33, 34, 35, 36, 37, 38, 39, 40, 41, 42, 43, 44, 45, 118, 119, 120, 121, 122, 123, 124, 125, 126, 127, 128, 129, 130, 131, 132] (by decide +kernel) (by decide +kernel)
set_option maxRecDepth 20000 in
theorem gX7_causeOfSize_X4_draught : GoodIn wsX7_causeOfSize (wsV RX7 338 RX4 yX4_draught wsX4_draught) := goodIn_app (goodIn_of _ (by decide +kernel)) ggX7_causeOfSize_X4_draught
set_option maxRecDepth 20000 in
theorem ggX7_causeOfSize_X5_isTooSmallFor : GoodIn wsX7_causeOfSize wsX5_isTooSmallFor := goodIn_r _ [50, 51, 52, 53, 54, 55, 56, 14, 57, 16, 23, 24, 25, 26, 27, 28, 58, 59, 60, 61, 62, 63, 64, 21, 65, 19, 20, 22, 105, 106, 107, 108, 109, 110, 111, 112, 113, 114, 115, 116, 117, 118, 119, 120, 121, 122, 123, 130, 131, 132] (by decide +kernel) (by decide +kernel)
set_option maxRecDepth 20000 in
theorem gX7_causeOfSize_X5_isTooSmallFor : GoodIn wsX7_causeOfSize (wsV RX7 488 RX5 yX5_isTooSmallFor wsX5_isTooSmallFor) := goodIn_app (goodIn_of _ (by decide +kernel)) ggX7_causeOfSize_X5_isTooSmallFor
set_option maxRecDepth 20000 in
theorem ggX7_causeOfSize_X4_weight : GoodIn wsX7_causeOfSize wsX4_weight := goodIn_r _ [69, 16, 17, 18, 23, 24, 25, 26, 27, 28, 29, 30, 31, 32, 33, 34, 35, 36, 37, 38, 39, 40, 41, 42, 43, 44, 45, 118, 119, 120, 121, 122, 123, 124, 125, 126, 127, 128, 129, 130, 131, 132] (by decide +kernel) (by decide +kernel)
set_option maxRecDepth 20000 in
theorem gX7_causeOfSize_X4_weight : GoodIn wsX7_causeOfSize (wsV RX7 335 RX4 yX4_weight wsX4_weight) := goodIn_app (goodIn_of _ (by decide +kernel)) ggX7_causeOfSize_X4_weight
set_option maxRecDepth 20000 in
theorem ggX7_causeOfSize_X1_push : GoodIn wsX7_causeOfSize wsX1_push := goodIn_r _ [74, 75, 76, 77, 78, 79, 80, 81, 82, 83, 84, 85, 86, 87, 88, 89, 90] (by decide +kernel) (by decide +kernel)
set_option maxRecDepth 20000 in
theorem gX7_causeOfSize_X1_push : GoodIn wsX7_causeOfSize (wsV RX7 294 RX1 yX1_push wsX1_push) := goodIn_app (goodIn_of _ (by decide +kernel)) ggX7_causeOfSize_X1_push
set_option maxRecDepth 20000 in
theorem ggX7_meetsIn_Jx4a65c_size_8abf5 : GoodIn wsX7_meetsIn wsJx4a65c_size_8abf5 := goodIn_r _ [14, 15, 103, 104, 105] (by decide +kernel) (by decide +kernel)
set_option maxRecDepth 20000 in
theorem gX7_meetsIn_Jx4a65c_size_8abf5 : GoodIn wsX7_meetsIn (wsV RX7 108 RJx4a65c yJx4a65c_size_8abf5 wsJx4a65c_size_8abf5) := goodIn_app (goodIn_of _ (by decide +kernel)) ggX7_meetsIn_Jx4a65c_size_8abf5
set_option maxRecDepth 20000 in
theorem ggX7_meetsIn_Jx4a65c_get_915e3 : GoodIn wsX7_meetsIn wsJx4a65c_get_915e3 := goodIn_r _ [19, 15, 20, 21, 22, 23, 24, 25, 26, 27, 28, 29, 30, 13, 31, 32, 103, 104, 105] (by decide +kernel) (by decide +kernel)
set_option maxRecDepth 20000 in
theorem gX7_meetsIn_Jx4a65c_get_915e3 : GoodIn wsX7_meetsIn (wsV RX7 312 RJx4a65c yJx4a65c_get_915e3 wsJx4a65c_get_915e3) := goodIn_app (goodIn_of _ (by decide +kernel)) ggX7_meetsIn_Jx4a65c_get_915e3
set_option maxRecDepth 20000 in
theorem ggX7_meetsIn_X1_isBoundUp : GoodIn wsX7_meetsIn wsX1_isBoundUp := goodIn_r _ [37, 38, 39, 88, 89, 90, 91, 92, 93, 94, 95, 96, 97, 98, 99, 100, 101, 102] (by decide +kernel) (by decide +kernel)
set_option maxRecDepth 20000 in
theorem gX7_meetsIn_X1_isBoundUp : GoodIn wsX7_meetsIn (wsV RX7 456 RX1 yX1_isBoundUp wsX1_isBoundUp) := goodIn_app (goodIn_of _ (by decide +kernel)) ggX7_meetsIn_X1_isBoundUp
set_option maxRecDepth 20000 in
theorem ggX7_meetsIn_X4_breadth : GoodIn wsX7_meetsIn wsX4_breadth := goodIn_r _ [44, 45, 46, 47, 48, 49, 50, 51, 52, 53, 54, 11, 12, 13, 14, 15, 106, 107, 108, 109, 110, 111, 103, 104, 105] (by decide +kernel) (by decide +kernel)
set_option maxRecDepth 20000 in
theorem gX7_meetsIn_X4_breadth : GoodIn wsX7_meetsIn (wsV RX7 341 RX4 yX4_breadth wsX4_breadth) := goodIn_app (goodIn_of _ (by decide +kernel)) ggX7_meetsIn_X4_breadth
set_option maxRecDepth 20000 in
theorem ggX7_meetsIn_X1_agreesWith : GoodIn wsX7_meetsIn wsX1_agreesWith := goodIn_r _ [58, 59, 60, 88, 89, 90, 91, 92, 93, 94, 95, 96, 97, 98, 99, 100, 101, 102] (by decide +kernel) (by decide +kernel)
set_option maxRecDepth 20000 in
theorem gX7_meetsIn_X1_agreesWith : GoodIn wsX7_meetsIn (wsV RX7 267 RX1 yX1_agreesWith wsX1_agreesWith) := goodIn_app (goodIn_of _ (by decide +kernel)) ggX7_meetsIn_X1_agreesWith
set_option maxRecDepth 20000 in
theorem ggX7_isBusy_Jx4a65c_size_8abf5 : GoodIn wsX7_isBusy wsJx4a65c_size_8abf5 := goodIn_r _ [9, 10, 70, 71, 72] (by decide +kernel) (by decide +kernel)
set_option maxRecDepth 20000 in
theorem gX7_isBusy_Jx4a65c_size_8abf5 : GoodIn wsX7_isBusy (wsV RX7 108 RJx4a65c yJx4a65c_size_8abf5 wsJx4a65c_size_8abf5) := goodIn_app (goodIn_of _ (by decide +kernel)) ggX7_isBusy_Jx4a65c_size_8abf5
set_option maxRecDepth 20000 in
theorem ggX7_isBusy_Jx4a65c_get_915e3 : GoodIn wsX7_isBusy wsJx4a65c_get_915e3 := goodIn_r _ [14, 10, 15, 16, 17, 18, 19, 20, 21, 22, 23, 24, 25, 8, 26, 27, 70, 71, 72] (by decide +kernel) (by decide +kernel)
set_option maxRecDepth 20000 in
theorem gX7_isBusy_Jx4a65c_get_915e3 : GoodIn wsX7_isBusy (wsV RX7 312 RJx4a65c yJx4a65c_get_915e3 wsJx4a65c_get_915e3) := goodIn_app (goodIn_of _ (by decide +kernel)) ggX7_isBusy_Jx4a65c_get_915e3
set_option maxRecDepth 20000 in
theorem ggX7_firstInto_Jx4a65c_size_8abf5 : GoodIn wsX7_firstInto wsJx4a65c_size_8abf5 := goodIn_r _ [10, 11, 155, 156, 157] (by decide +kernel) (by decide +kernel)
set_option maxRecDepth 20000 in
theorem gX7_firstInto_Jx4a65c_size_8abf5 : GoodIn wsX7_firstInto (wsV RX7 108 RJx4a65c yJx4a65c_size_8abf5 wsJx4a65c_size_8abf5) := goodIn_app (goodIn_of _ (by decide +kernel)) ggX7_firstInto_Jx4a65c_size_8abf5
set_option maxRecDepth 20000 in
theorem ggX7_firstInto_Jx4a65c_get_915e3 : GoodIn wsX7_firstInto wsJx4a65c_get_915e3 := goodIn_r _ [15, 11, 16, 17, 18, 19, 20, 21, 22, 23, 24, 25, 26, 9, 27, 28, 155, 156, 157] (by decide +kernel) (by decide +kernel)
set_option maxRecDepth 20000 in
theorem gX7_firstInto_Jx4a65c_get_915e3 : GoodIn wsX7_firstInto (wsV RX7 312 RJx4a65c yJx4a65c_get_915e3 wsJx4a65c_get_915e3) := goodIn_app (goodIn_of _ (by decide +kernel)) ggX7_firstInto_Jx4a65c_get_915e3
set_option maxRecDepth 20000 in
theorem ggX7_firstInto_X7_nextOf : GoodIn wsX7_firstInto wsX7_nextOf := goodIn_r _ [33, 34, 35, 36, 37, 38, 39, 40, 41, 42, 43, 44, 45, 46, 47, 48, 49, 6, 7, 8, 9, 10, 11, 12, 13, 14, 15, 16, 17, 18, 19, 20, 21, 22, 23, 24, 25, 26, 27, 28, 158, 159, 160, 161, 162, 163, 164, 165, 166, 167, 168, 169, 170, 171, 172, 128, 129, 130, 131, 132, 133, 134, 135, 136, 137, 138, 139, 140, 141, 155, 156, 157] (by decide +kernel) (by decide +kernel)
set_option maxRecDepth 20000 in
theorem gX7_firstInto_X7_nextOf : GoodIn wsX7_firstInto (wsV RX7 324 RX7 yX7_nextOf wsX7_nextOf) := goodIn_app (goodIn_of _ (by decide +kernel)) ggX7_firstInto_X7_nextOf
set_option maxRecDepth 20000 in
theorem ggX7_firstInto_X7_causeAheadOfMeeting : GoodIn wsX7_firstInto wsX7_causeAheadOfMeeting := goodIn_r _ [53, 54, 55, 56, 57, 58, 59, 60, 44, 45, 46, 41, 47, 48, 49, 61, 62, 63, 32, 64, 65, 66, 67, 68, 69, 70, 71, 72, 73, 74, 75, 76, 77, 78, 79, 80, 81, 82, 83, 84, 7, 8, 9, 10, 11, 85, 13, 14, 15, 16, 17, 18, 19, 20, 21, 22, 23, 24, 25, 26, 27, 28, 86, 87, 88, 89, 90, 91, 92, 93, 94, 95, 96, 97, 98, 99, 100, 101, 102, 103, 104, 105, 106, 107, 108, 109, 110, 111, 112, 113, 114, 115, 116, 117, 118, 119, 120, 121, 122, 158, 159, 160, 161, 162, 163, 164, 165, 166, 167, 168, 169, 170, 171, 172, 142, 143, 144, 145, 146, 147, 148, 149, 150, 151, 152, 153, 154, 128, 129, 130, 131, 132, 133, 134, 135, 136, 137, 138, 139, 140, 141, 173, 174, 175, 176, 177, 178, 179, 180, 181, 182, 183, 184, 155, 156, 157] (by decide +kernel) (by decide +kernel)
set_option maxRecDepth 20000 in
theorem gX7_firstInto_X7_causeAheadOfMeeting : GoodIn wsX7_firstInto (wsV RX7 471 RX7 yX7_causeAheadOfMeeting wsX7_causeAheadOfMeeting) := goodIn_app (goodIn_of _ (by decide +kernel)) ggX7_firstInto_X7_causeAheadOfMeeting
set_option maxRecDepth 20000 in
theorem ggX7_firstInto_X1_isBoundUp : GoodIn wsX7_firstInto wsX1_isBoundUp := goodIn_r _ [47, 48, 49, 158, 159, 160, 161, 162, 163, 164, 165, 166, 167, 168, 169, 170, 171, 172] (by decide +kernel) (by decide +kernel)
set_option maxRecDepth 20000 in
theorem gX7_firstInto_X1_isBoundUp : GoodIn wsX7_firstInto (wsV RX7 456 RX1 yX1_isBoundUp wsX1_isBoundUp) := goodIn_app (goodIn_of _ (by decide +kernel)) ggX7_firstInto_X1_isBoundUp
set_option maxRecDepth 20000 in
theorem ggX7_firstInto_X1_earlierOf : GoodIn wsX7_firstInto wsX1_earlierOf := goodIn_r _ [126, 127, 158, 159, 160, 161, 162, 163, 164, 165, 166, 167, 168, 169, 170, 171, 172] (by decide +kernel) (by decide +kernel)
set_option maxRecDepth 20000 in
theorem gX7_firstInto_X1_earlierOf : GoodIn wsX7_firstInto (wsV RX7 501 RX1 yX1_earlierOf wsX1_earlierOf) := goodIn_app (goodIn_of _ (by decide +kernel)) ggX7_firstInto_X1_earlierOf
set_option maxRecDepth 20000 in
theorem ggX7_whereIs_Jx4a65c_size_8abf5 : GoodIn wsX7_whereIs wsJx4a65c_size_8abf5 := goodIn_r _ [11, 12, 71, 72, 73] (by decide +kernel) (by decide +kernel)
set_option maxRecDepth 20000 in
theorem gX7_whereIs_Jx4a65c_size_8abf5 : GoodIn wsX7_whereIs (wsV RX7 108 RJx4a65c yJx4a65c_size_8abf5 wsJx4a65c_size_8abf5) := goodIn_app (goodIn_of _ (by decide +kernel)) ggX7_whereIs_Jx4a65c_size_8abf5
set_option maxRecDepth 20000 in
theorem ggX7_whereIs_Jx4a65c_get_915e3 : GoodIn wsX7_whereIs wsJx4a65c_get_915e3 := goodIn_r _ [16, 12, 17, 18, 19, 20, 21, 22, 23, 24, 25, 26, 27, 10, 28, 29, 71, 72, 73] (by decide +kernel) (by decide +kernel)
set_option maxRecDepth 20000 in
theorem gX7_whereIs_Jx4a65c_get_915e3 : GoodIn wsX7_whereIs (wsV RX7 312 RJx4a65c yJx4a65c_get_915e3 wsJx4a65c_get_915e3) := goodIn_app (goodIn_of _ (by decide +kernel)) ggX7_whereIs_Jx4a65c_get_915e3
set_option maxRecDepth 20000 in
theorem ggX7_whereIs_X1_isUnderWay : GoodIn wsX7_whereIs wsX1_isUnderWay := goodIn_r _ [34, 35, 56, 57, 58, 59, 60, 61, 62, 63, 64, 65, 66, 67, 68, 69, 70] (by decide +kernel) (by decide +kernel)
set_option maxRecDepth 20000 in
theorem gX7_whereIs_X1_isUnderWay : GoodIn wsX7_whereIs (wsV RX7 223 RX1 yX1_isUnderWay wsX1_isUnderWay) := goodIn_app (goodIn_of _ (by decide +kernel)) ggX7_whereIs_X1_isUnderWay
set_option maxRecDepth 20000 in
theorem ggX7_fewestShifts_Jx4a65c_size_8abf5 : GoodIn wsX7_fewestShifts wsJx4a65c_size_8abf5 := goodIn_r _ [11, 12, 59, 60, 61] (by decide +kernel) (by decide +kernel)
set_option maxRecDepth 20000 in
theorem gX7_fewestShifts_Jx4a65c_size_8abf5 : GoodIn wsX7_fewestShifts (wsV RX7 108 RJx4a65c yJx4a65c_size_8abf5 wsJx4a65c_size_8abf5) := goodIn_app (goodIn_of _ (by decide +kernel)) ggX7_fewestShifts_Jx4a65c_size_8abf5
set_option maxRecDepth 20000 in
theorem ggX7_fewestShifts_Jx4a65c_get_915e3 : GoodIn wsX7_fewestShifts wsJx4a65c_get_915e3 := goodIn_r _ [16, 12, 17, 18, 19, 20, 21, 22, 23, 24, 25, 26, 27, 10, 28, 29, 59, 60, 61] (by decide +kernel) (by decide +kernel)
set_option maxRecDepth 20000 in
theorem gX7_fewestShifts_Jx4a65c_get_915e3 : GoodIn wsX7_fewestShifts (wsV RX7 312 RJx4a65c yJx4a65c_get_915e3 wsJx4a65c_get_915e3) := goodIn_app (goodIn_of _ (by decide +kernel)) ggX7_fewestShifts_Jx4a65c_get_915e3
set_option maxRecDepth 20000 in
theorem ggX7_fewestShifts_X0_bit : GoodIn wsX7_fewestShifts wsX0_bit := goodIn_r _ [34, 35, 53, 54, 55, 56, 57, 58] (by decide +kernel) (by decide +kernel)
set_option maxRecDepth 20000 in
theorem gX7_fewestShifts_X0_bit : GoodIn wsX7_fewestShifts (wsV RX7 438 RX0 yX0_bit wsX0_bit) := goodIn_app (goodIn_of _ (by decide +kernel)) ggX7_fewestShifts_X0_bit
set_option maxRecDepth 20000 in
theorem ggX7_fewestShifts_X7_fewestShifts : GoodIn wsX7_fewestShifts wsX7_fewestShifts := goodIn_r _ [0, 1, 2, 3, 4, 5, 6, 7, 8, 9, 10, 11, 12, 13, 14, 15, 16, 17, 18, 19, 20, 21, 22, 23, 24, 25, 26, 27, 28, 29, 30, 31, 32, 33, 34, 35, 36, 37, 38, 39, 40, 41, 42, 43, 44, 45, 46, 47, 48, 49, 50, 51, 52, 53, 54, 55, 56, 57, 58, 59, 60, 61, 62, 63, 64, 65, 66, 67] (by decide +kernel) (by decide +kernel)
set_option maxRecDepth 20000 in
theorem gX7_fewestShifts_X7_fewestShifts : GoodIn wsX7_fewestShifts (va_wsS RX7 385 yX7_fewestShifts wsX7_fewestShifts) := goodIn_app (goodIn_of _ (by decide +kernel)) ggX7_fewestShifts_X7_fewestShifts
set_option maxRecDepth 20000 in
theorem ggX7_fewestShifts_X4_behindWithout : GoodIn wsX7_fewestShifts wsX4_behindWithout := goodIn_r _ [43, 44, 45, 46, 47, 48, 42, 49, 50, 8, 9, 10, 11, 12, 51, 14, 15, 16, 17, 18, 19, 20, 21, 22, 23, 24, 25, 26, 27, 28, 29, 52, 31, 32, 33, 34, 35, 62, 63, 64, 65, 66, 67, 59, 60, 61, 53, 54, 55, 56, 57, 58] (by decide +kernel) (by decide +kernel)
set_option maxRecDepth 20000 in
theorem gX7_fewestShifts_X4_behindWithout : GoodIn wsX7_fewestShifts (wsV RX7 381 RX4 yX4_behindWithout wsX4_behindWithout) := goodIn_app (goodIn_of _ (by decide +kernel)) ggX7_fewestShifts_X4_behindWithout
