set_option maxRecDepth 20000 in
theorem ggX7_paidInAll_Jx4a65c_size_8abf5 : GoodIn wsX7_paidInAll wsJx4a65c_size_8abf5 := goodIn_r _ [8, 9, 52, 53, 54] (by decide +kernel) (by decide +kernel)
set_option maxRecDepth 20000 in
theorem gX7_paidInAll_Jx4a65c_size_8abf5 : GoodIn wsX7_paidInAll (wsV RX7 108 RJx4a65c yJx4a65c_size_8abf5 wsJx4a65c_size_8abf5) := goodIn_app (goodIn_of _ (by decide +kernel)) ggX7_paidInAll_Jx4a65c_size_8abf5
set_option maxRecDepth 20000 in
theorem ggX7_paidInAll_Jx4a65c_get_915e3 : GoodIn wsX7_paidInAll wsJx4a65c_get_915e3 := goodIn_r _ [13, 9, 14, 15, 16, 17, 18, 19, 20, 21, 22, 23, 24, 7, 25, 26, 52, 53, 54] (by decide +kernel) (by decide +kernel)
set_option maxRecDepth 20000 in
theorem gX7_paidInAll_Jx4a65c_get_915e3 : GoodIn wsX7_paidInAll (wsV RX7 312 RJx4a65c yJx4a65c_get_915e3 wsJx4a65c_get_915e3) := goodIn_app (goodIn_of _ (by decide +kernel)) ggX7_paidInAll_Jx4a65c_get_915e3
set_option maxRecDepth 20000 in
theorem ggX7_waitedInAll_Jx4a65c_size_8abf5 : GoodIn wsX7_waitedInAll wsJx4a65c_size_8abf5 := goodIn_r _ [8, 9, 56, 57, 58] (by decide +kernel) (by decide +kernel)
set_option maxRecDepth 20000 in
theorem gX7_waitedInAll_Jx4a65c_size_8abf5 : GoodIn wsX7_waitedInAll (wsV RX7 108 RJx4a65c yJx4a65c_size_8abf5 wsJx4a65c_size_8abf5) := goodIn_app (goodIn_of _ (by decide +kernel)) ggX7_waitedInAll_Jx4a65c_size_8abf5
set_option maxRecDepth 20000 in
theorem ggX7_waitedInAll_Jx4a65c_get_915e3 : GoodIn wsX7_waitedInAll wsJx4a65c_get_915e3 := goodIn_r _ [13, 9, 14, 15, 16, 17, 18, 19, 20, 21, 22, 23, 24, 7, 25, 26, 56, 57, 58] (by decide +kernel) (by decide +kernel)
set_option maxRecDepth 20000 in
theorem gX7_waitedInAll_Jx4a65c_get_915e3 : GoodIn wsX7_waitedInAll (wsV RX7 312 RJx4a65c yJx4a65c_get_915e3 wsJx4a65c_get_915e3) := goodIn_app (goodIn_of _ (by decide +kernel)) ggX7_waitedInAll_Jx4a65c_get_915e3
set_option maxRecDepth 20000 in
theorem ggX8_isSection_X8_in : GoodIn wsX8_isSection wsX8_in := goodIn_r _ [4] (by decide +kernel) (by decide +kernel)
set_option maxRecDepth 20000 in
theorem gX8_isSection_X8_in : GoodIn wsX8_isSection (va_wsS RX8 159 yX8_in wsX8_in) := goodIn_app (goodIn_of _ (by decide +kernel)) ggX8_isSection_X8_in
set_option maxRecDepth 20000 in
theorem ggX8_isPoint_X8_in : GoodIn wsX8_isPoint wsX8_in := goodIn_r _ [4] (by decide +kernel) (by decide +kernel)
set_option maxRecDepth 20000 in
theorem gX8_isPoint_X8_in : GoodIn wsX8_isPoint (va_wsS RX8 159 yX8_in wsX8_in) := goodIn_app (goodIn_of _ (by decide +kernel)) ggX8_isPoint_X8_in
set_option maxRecDepth 20000 in
theorem ggX8_isTier_X8_isPoint : GoodIn wsX8_isTier wsX8_isPoint := goodIn_r _ [4, 5, 6, 3, 7] (by decide +kernel) (by decide +kernel)
set_option maxRecDepth 20000 in
theorem gX8_isTier_X8_isPoint : GoodIn wsX8_isTier (va_wsS RX8 163 yX8_isPoint wsX8_isPoint) := goodIn_app (goodIn_of _ (by decide +kernel)) ggX8_isTier_X8_isPoint
set_option maxRecDepth 20000 in
theorem ggX8_isTier_X8_in : GoodIn wsX8_isTier wsX8_in := goodIn_r _ [7] (by decide +kernel) (by decide +kernel)
set_option maxRecDepth 20000 in
theorem gX8_isTier_X8_in : GoodIn wsX8_isTier (va_wsS RX8 159 yX8_in wsX8_in) := goodIn_app (goodIn_of _ (by decide +kernel)) ggX8_isTier_X8_in
set_option maxRecDepth 20000 in
theorem ggX8_isBarge_X8_in : GoodIn wsX8_isBarge wsX8_in := goodIn_r _ [5] (by decide +kernel) (by decide +kernel)
set_option maxRecDepth 20000 in
theorem gX8_isBarge_X8_in : GoodIn wsX8_isBarge (va_wsS RX8 159 yX8_in wsX8_in) := goodIn_app (goodIn_of _ (by decide +kernel)) ggX8_isBarge_X8_in
set_option maxRecDepth 20000 in
theorem ggX8_isBoat_X8_in : GoodIn wsX8_isBoat wsX8_in := goodIn_r _ [5] (by decide +kernel) (by decide +kernel)
set_option maxRecDepth 20000 in
theorem gX8_isBoat_X8_in : GoodIn wsX8_isBoat (va_wsS RX8 159 yX8_in wsX8_in) := goodIn_app (goodIn_of _ (by decide +kernel)) ggX8_isBoat_X8_in
set_option maxRecDepth 20000 in
theorem ggX8_isContract_X8_in : GoodIn wsX8_isContract wsX8_in := goodIn_r _ [5] (by decide +kernel) (by decide +kernel)
set_option maxRecDepth 20000 in
theorem gX8_isContract_X8_in : GoodIn wsX8_isContract (va_wsS RX8 159 yX8_in wsX8_in) := goodIn_app (goodIn_of _ (by decide +kernel)) ggX8_isContract_X8_in
set_option maxRecDepth 20000 in
theorem ggX8_reach_X8_isSection : GoodIn wsX8_reach wsX8_isSection := goodIn_r _ [9, 10, 11, 8, 12] (by decide +kernel) (by decide +kernel)
set_option maxRecDepth 20000 in
theorem gX8_reach_X8_isSection : GoodIn wsX8_reach (va_wsS RX8 176 yX8_isSection wsX8_isSection) := goodIn_app (goodIn_of _ (by decide +kernel)) ggX8_reach_X8_isSection
set_option maxRecDepth 20000 in
theorem ggX8_reach_X8_in : GoodIn wsX8_reach wsX8_in := goodIn_r _ [12] (by decide +kernel) (by decide +kernel)
set_option maxRecDepth 20000 in
theorem gX8_reach_X8_in : GoodIn wsX8_reach (va_wsS RX8 159 yX8_in wsX8_in) := goodIn_app (goodIn_of _ (by decide +kernel)) ggX8_reach_X8_in
set_option maxRecDepth 20000 in
theorem ggX8_reach_X8_boatsIn : GoodIn wsX8_reach wsX8_boatsIn := goodIn_r _ [16, 17, 18, 24, 25, 26, 27, 28, 29, 30, 31, 32, 33, 34, 35, 36, 37, 38, 39, 40, 41, 42, 43, 44, 45, 46, 47, 48, 49, 50, 51, 52, 53, 54, 55, 56, 57, 58, 59, 60, 61, 62, 63, 64, 65, 66, 67, 68, 69, 70, 71, 72, 73, 74, 75, 76, 77, 78, 79, 80, 81, 82] (by decide +kernel) (by decide +kernel)
set_option maxRecDepth 20000 in
theorem gX8_reach_X8_boatsIn : GoodIn wsX8_reach (wsV RX8 179 RX8 yX8_boatsIn wsX8_boatsIn) := goodIn_app (goodIn_of _ (by decide +kernel)) ggX8_reach_X8_boatsIn
set_option maxRecDepth 20000 in
theorem ggX8_reach_X8_holds : GoodIn wsX8_reach wsX8_holds := goodIn_r _ [22, 23, 24, 25, 26, 27, 28, 29, 30, 31, 32, 33, 34, 35, 36, 37, 38, 39, 40, 41, 42, 43, 44, 45, 46, 47, 48, 49, 50, 51, 52, 53, 54, 55, 56, 57, 58, 59, 60, 61, 62, 63, 64, 65, 66, 67, 68, 69, 70, 71, 72, 73, 74, 75, 76, 77, 78, 79, 80, 81, 82] (by decide +kernel) (by decide +kernel)
set_option maxRecDepth 20000 in
theorem gX8_reach_X8_holds : GoodIn wsX8_reach (wsV RX8 183 RX8 yX8_holds wsX8_holds) := goodIn_app (goodIn_of _ (by decide +kernel)) ggX8_reach_X8_holds
set_option maxRecDepth 20000 in
theorem ggX8_lock_X8_isSection : GoodIn wsX8_lock wsX8_isSection := goodIn_r _ [10, 11, 12, 9, 13] (by decide +kernel) (by decide +kernel)
set_option maxRecDepth 20000 in
theorem gX8_lock_X8_isSection : GoodIn wsX8_lock (va_wsS RX8 176 yX8_isSection wsX8_isSection) := goodIn_app (goodIn_of _ (by decide +kernel)) ggX8_lock_X8_isSection
set_option maxRecDepth 20000 in
theorem ggX8_lock_X8_in : GoodIn wsX8_lock wsX8_in := goodIn_r _ [13] (by decide +kernel) (by decide +kernel)
set_option maxRecDepth 20000 in
theorem gX8_lock_X8_in : GoodIn wsX8_lock (va_wsS RX8 159 yX8_in wsX8_in) := goodIn_app (goodIn_of _ (by decide +kernel)) ggX8_lock_X8_in
set_option maxRecDepth 20000 in
theorem ggX8_lock_X8_boatsIn : GoodIn wsX8_lock wsX8_boatsIn := goodIn_r _ [17, 18, 19, 25, 26, 27, 28, 29, 30, 31, 32, 33, 34, 35, 36, 37, 38, 39, 40, 41, 42, 43, 44, 45, 46, 47, 48, 49, 50, 51, 52, 53, 54, 55, 56, 57, 58, 59, 60, 61, 62, 63, 64, 65, 66, 67, 68, 69, 70, 71, 72, 73, 74, 75, 76, 77, 78, 79, 80, 81, 82, 83] (by decide +kernel) (by decide +kernel)
set_option maxRecDepth 20000 in
theorem gX8_lock_X8_boatsIn : GoodIn wsX8_lock (wsV RX8 179 RX8 yX8_boatsIn wsX8_boatsIn) := goodIn_app (goodIn_of _ (by decide +kernel)) ggX8_lock_X8_boatsIn
set_option maxRecDepth 20000 in
theorem ggX8_lock_X8_holds : GoodIn wsX8_lock wsX8_holds := goodIn_r _ [23, 24, 25, 26, 27, 28, 29, 30, 31, 32, 33, 34, 35, 36, 37, 38, 39, 40, 41, 42, 43, 44, 45, 46, 47, 48, 49, 50, 51, 52, 53, 54, 55, 56, 57, 58, 59, 60, 61, 62, 63, 64, 65, 66, 67, 68, 69, 70, 71, 72, 73, 74, 75, 76, 77, 78, 79, 80, 81, 82, 83] (by decide +kernel) (by decide +kernel)
set_option maxRecDepth 20000 in
theorem gX8_lock_X8_holds : GoodIn wsX8_lock (wsV RX8 183 RX8 yX8_holds wsX8_holds) := goodIn_app (goodIn_of _ (by decide +kernel)) ggX8_lock_X8_holds
set_option maxRecDepth 20000 in
theorem ggX8_dredge_X8_isSection : GoodIn wsX8_dredge wsX8_isSection := goodIn_r _ [5, 6, 7, 4, 8] (by decide +kernel) (by decide +kernel)
set_option maxRecDepth 20000 in
theorem gX8_dredge_X8_isSection : GoodIn wsX8_dredge (va_wsS RX8 176 yX8_isSection wsX8_isSection) := goodIn_app (goodIn_of _ (by decide +kernel)) ggX8_dredge_X8_isSection
set_option maxRecDepth 20000 in
theorem ggX8_dredge_X8_in : GoodIn wsX8_dredge wsX8_in := goodIn_r _ [8] (by decide +kernel) (by decide +kernel)
set_option maxRecDepth 20000 in
theorem gX8_dredge_X8_in : GoodIn wsX8_dredge (va_wsS RX8 159 yX8_in wsX8_in) := goodIn_app (goodIn_of _ (by decide +kernel)) ggX8_dredge_X8_in
set_option maxRecDepth 20000 in
theorem ggX8_dredge_X8_holds : GoodIn wsX8_dredge wsX8_holds := goodIn_r _ [12, 13, 14, 15, 16, 17, 18, 19, 20, 21, 22, 23, 24, 25, 26, 27, 28, 29, 30, 31, 32, 33, 34, 35, 36, 37, 38, 39, 40, 41, 42, 43, 44, 45, 46, 47, 48, 49, 50, 51, 52, 53, 54, 55, 56, 57, 58, 59, 60, 61, 62, 63, 64, 65, 66, 67, 68, 69, 70, 71, 72] (by decide +kernel) (by decide +kernel)
set_option maxRecDepth 20000 in
theorem gX8_dredge_X8_holds : GoodIn wsX8_dredge (wsV RX8 183 RX8 yX8_holds wsX8_holds) := goodIn_app (goodIn_of _ (by decide +kernel)) ggX8_dredge_X8_holds
set_option maxRecDepth 20000 in
theorem ggX8_stage_X8_in : GoodIn wsX8_stage wsX8_in := goodIn_r _ [6] (by decide +kernel) (by decide +kernel)
set_option maxRecDepth 20000 in
theorem gX8_stage_X8_in : GoodIn wsX8_stage (va_wsS RX8 159 yX8_in wsX8_in) := goodIn_app (goodIn_of _ (by decide +kernel)) ggX8_stage_X8_in
set_option maxRecDepth 20000 in
theorem ggX8_stage_X8_holds : GoodIn wsX8_stage wsX8_holds := goodIn_r _ [10, 11, 12, 13, 14, 15, 16, 17, 18, 19, 20, 21, 22, 23, 24, 25, 26, 27, 28, 29, 30, 31, 32, 33, 34, 35, 36, 37, 38, 39, 40, 41, 42, 43, 44, 45, 46, 47, 48, 49, 50, 51, 52, 53, 54, 55, 56, 57, 58, 59, 60, 61, 62, 63, 64, 65, 66, 67, 68, 69, 70] (by decide +kernel) (by decide +kernel)
set_option maxRecDepth 20000 in
theorem gX8_stage_X8_holds : GoodIn wsX8_stage (wsV RX8 183 RX8 yX8_holds wsX8_holds) := goodIn_app (goodIn_of _ (by decide +kernel)) ggX8_stage_X8_holds
set_option maxRecDepth 20000 in
theorem ggX8_weather_X8_isSection : GoodIn wsX8_weather wsX8_isSection := goodIn_r _ [6, 7, 8, 5, 9] (by decide +kernel) (by decide +kernel)
set_option maxRecDepth 20000 in
theorem gX8_weather_X8_isSection : GoodIn wsX8_weather (va_wsS RX8 176 yX8_isSection wsX8_isSection) := goodIn_app (goodIn_of _ (by decide +kernel)) ggX8_weather_X8_isSection
set_option maxRecDepth 20000 in
theorem ggX8_weather_X8_in : GoodIn wsX8_weather wsX8_in := goodIn_r _ [9] (by decide +kernel) (by decide +kernel)
set_option maxRecDepth 20000 in
theorem gX8_weather_X8_in : GoodIn wsX8_weather (va_wsS RX8 159 yX8_in wsX8_in) := goodIn_app (goodIn_of _ (by decide +kernel)) ggX8_weather_X8_in
set_option maxRecDepth 20000 in
theorem ggX8_weather_X8_holds : GoodIn wsX8_weather wsX8_holds := goodIn_r _ [13, 14, 15, 16, 17, 18, 19, 20, 21, 22, 23, 24, 25, 26, 27, 28, 29, 30, 31, 32, 33, 34, 35, 36, 37, 38, 39, 40, 41, 42, 43, 44, 45, 46, 47, 48, 49, 50, 51, 52, 53, 54, 55, 56, 57, 58, 59, 60, 61, 62, 63, 64, 65, 66, 67, 68, 69, 70, 71, 72, 73] (by decide +kernel) (by decide +kernel)
set_option maxRecDepth 20000 in
theorem gX8_weather_X8_holds : GoodIn wsX8_weather (wsV RX8 183 RX8 yX8_holds wsX8_holds) := goodIn_app (goodIn_of _ (by decide +kernel)) ggX8_weather_X8_holds
set_option maxRecDepth 20000 in
theorem ggX8_bank_X8_isTier : GoodIn wsX8_bank wsX8_isTier := goodIn_r _ [6, 7, 8, 5, 9, 10, 11, 12] (by decide +kernel) (by decide +kernel)
set_option maxRecDepth 20000 in
theorem gX8_bank_X8_isTier : GoodIn wsX8_bank (va_wsS RX8 196 yX8_isTier wsX8_isTier) := goodIn_app (goodIn_of _ (by decide +kernel)) ggX8_bank_X8_isTier
set_option maxRecDepth 20000 in
theorem ggX8_bank_X8_in : GoodIn wsX8_bank wsX8_in := goodIn_r _ [12] (by decide +kernel) (by decide +kernel)
set_option maxRecDepth 20000 in
theorem gX8_bank_X8_in : GoodIn wsX8_bank (va_wsS RX8 159 yX8_in wsX8_in) := goodIn_app (goodIn_of _ (by decide +kernel)) ggX8_bank_X8_in
set_option maxRecDepth 20000 in
theorem ggX8_bank_X8_holds : GoodIn wsX8_bank wsX8_holds := goodIn_r _ [16, 17, 18, 19, 20, 21, 22, 23, 24, 25, 26, 27, 28, 29, 30, 31, 32, 33, 34, 35, 36, 37, 38, 39, 40, 41, 42, 43, 44, 45, 46, 47, 48, 49, 50, 51, 52, 53, 54, 55, 56, 57, 58, 59, 60, 61, 62, 63, 64, 65, 66, 67, 68, 69, 70, 71, 72, 73, 74, 75, 76] (by decide +kernel) (by decide +kernel)
set_option maxRecDepth 20000 in
theorem gX8_bank_X8_holds : GoodIn wsX8_bank (wsV RX8 183 RX8 yX8_holds wsX8_holds) := goodIn_app (goodIn_of _ (by decide +kernel)) ggX8_bank_X8_holds
set_option maxRecDepth 20000 in
theorem ggX8_barge_X8_isTier : GoodIn wsX8_barge wsX8_isTier := goodIn_r _ [9, 10, 11, 8, 12, 13, 14, 15] (by decide +kernel) (by decide +kernel)
set_option maxRecDepth 20000 in
theorem gX8_barge_X8_isTier : GoodIn wsX8_barge (va_wsS RX8 196 yX8_isTier wsX8_isTier) := goodIn_app (goodIn_of _ (by decide +kernel)) ggX8_barge_X8_isTier
set_option maxRecDepth 20000 in
theorem ggX8_barge_X8_in : GoodIn wsX8_barge wsX8_in := goodIn_r _ [15] (by decide +kernel) (by decide +kernel)
set_option maxRecDepth 20000 in
theorem gX8_barge_X8_in : GoodIn wsX8_barge (va_wsS RX8 159 yX8_in wsX8_in) := goodIn_app (goodIn_of _ (by decide +kernel)) ggX8_barge_X8_in
set_option maxRecDepth 20000 in
theorem ggX8_barge_X8_hasRoom : GoodIn wsX8_barge wsX8_hasRoom := goodIn_r _ [19, 20, 21, 34, 35, 36, 37, 38, 39, 40, 41, 42, 43, 44, 45, 46, 47, 48, 49, 50, 51, 52, 53, 54, 55, 56, 57, 58, 59, 60, 61, 62, 63, 64, 65, 66, 67, 68, 69, 70, 71, 72, 73, 74, 75, 76, 77, 78, 79, 80, 81, 82, 83, 84, 85, 86, 87, 88, 89, 90, 91, 92] (by decide +kernel) (by decide +kernel)
set_option maxRecDepth 20000 in
theorem gX8_barge_X8_hasRoom : GoodIn wsX8_barge (wsV RX8 200 RX8 yX8_hasRoom wsX8_hasRoom) := goodIn_app (goodIn_of _ (by decide +kernel)) ggX8_barge_X8_hasRoom
set_option maxRecDepth 20000 in
theorem ggX8_barge_X8_holds : GoodIn wsX8_barge wsX8_holds := goodIn_r _ [25, 26, 34, 35, 36, 37, 38, 39, 40, 41, 42, 43, 44, 45, 46, 47, 48, 49, 50, 51, 52, 53, 54, 55, 56, 57, 58, 59, 60, 61, 62, 63, 64, 65, 66, 67, 68, 69, 70, 71, 72, 73, 74, 75, 76, 77, 78, 79, 80, 81, 82, 83, 84, 85, 86, 87, 88, 89, 90, 91, 92] (by decide +kernel) (by decide +kernel)
set_option maxRecDepth 20000 in
theorem gX8_barge_X8_holds : GoodIn wsX8_barge (wsV RX8 183 RX8 yX8_holds wsX8_holds) := goodIn_app (goodIn_of _ (by decide +kernel)) ggX8_barge_X8_holds
set_option maxRecDepth 20000 in
theorem ggX8_barge_X8_ties : GoodIn wsX8_barge wsX8_ties := goodIn_r _ [30, 31, 32, 33, 20, 34, 35, 36, 37, 38, 39, 40, 41, 42, 43, 44, 45, 46, 47, 48, 49, 50, 51, 52, 53, 54, 55, 56, 57, 58, 59, 60, 61, 62, 63, 64, 65, 66, 67, 68, 69, 70, 71, 72, 73, 74, 75, 76, 77, 78, 79, 80, 81, 82, 83, 84, 85, 86, 87, 88, 89, 90, 91, 92] (by decide +kernel) (by decide +kernel)
set_option maxRecDepth 20000 in
theorem gX8_barge_X8_ties : GoodIn wsX8_barge (wsV RX8 203 RX8 yX8_ties wsX8_ties) := goodIn_app (goodIn_of _ (by decide +kernel)) ggX8_barge_X8_ties
set_option maxRecDepth 20000 in
theorem ggX8_contract_X8_isPoint : GoodIn wsX8_contract wsX8_isPoint := goodIn_r _ [11, 12, 13, 10, 14] (by decide +kernel) (by decide +kernel)
set_option maxRecDepth 20000 in
theorem gX8_contract_X8_isPoint : GoodIn wsX8_contract (va_wsS RX8 163 yX8_isPoint wsX8_isPoint) := goodIn_app (goodIn_of _ (by decide +kernel)) ggX8_contract_X8_isPoint
set_option maxRecDepth 20000 in
theorem ggX8_contract_X8_in : GoodIn wsX8_contract wsX8_in := goodIn_r _ [14] (by decide +kernel) (by decide +kernel)
set_option maxRecDepth 20000 in
theorem gX8_contract_X8_in : GoodIn wsX8_contract (va_wsS RX8 159 yX8_in wsX8_in) := goodIn_app (goodIn_of _ (by decide +kernel)) ggX8_contract_X8_in
set_option maxRecDepth 20000 in
theorem ggX8_contract_X8_holds : GoodIn wsX8_contract wsX8_holds := goodIn_r _ [18, 19, 20, 21, 22, 23, 24, 25, 26, 27, 28, 29, 30, 31, 32, 33, 34, 35, 36, 37, 38, 39, 40, 41, 42, 43, 44, 45, 46, 47, 48, 49, 50, 51, 52, 53, 54, 55, 56, 57, 58, 59, 60, 61, 62, 63, 64, 65, 66, 67, 68, 69, 70, 71, 72, 73, 74, 75, 76, 77, 78] (by decide +kernel) (by decide +kernel)
set_option maxRecDepth 20000 in
theorem gX8_contract_X8_holds : GoodIn wsX8_contract (wsV RX8 183 RX8 yX8_holds wsX8_holds) := goodIn_app (goodIn_of _ (by decide +kernel)) ggX8_contract_X8_holds
set_option maxRecDepth 20000 in
theorem ggX8_divert_X8_isContract : GoodIn wsX8_divert wsX8_isContract := goodIn_r _ [8, 9, 10, 11, 7, 12, 21, 22, 23, 24, 25, 26, 27, 28, 29, 30, 31, 32, 33, 34, 35, 36, 37, 38, 39, 40, 41, 42, 43, 44, 45, 46, 47, 48, 49, 50, 51, 52, 53, 54, 55, 56, 57, 58, 59, 60, 61, 62, 63, 64, 65, 66, 67, 68, 69, 70, 71, 72, 73, 74, 75, 76, 77, 78, 79] (by decide +kernel) (by decide +kernel)
set_option maxRecDepth 20000 in
theorem gX8_divert_X8_isContract : GoodIn wsX8_divert (wsV RX8 207 RX8 yX8_isContract wsX8_isContract) := goodIn_app (goodIn_of _ (by decide +kernel)) ggX8_divert_X8_isContract
set_option maxRecDepth 20000 in
theorem ggX8_divert_X8_isPoint : GoodIn wsX8_divert wsX8_isPoint := goodIn_r _ [15, 10, 11, 7, 12] (by decide +kernel) (by decide +kernel)
set_option maxRecDepth 20000 in
theorem gX8_divert_X8_isPoint : GoodIn wsX8_divert (va_wsS RX8 163 yX8_isPoint wsX8_isPoint) := goodIn_app (goodIn_of _ (by decide +kernel)) ggX8_divert_X8_isPoint
set_option maxRecDepth 20000 in
theorem ggX8_divert_X8_holds : GoodIn wsX8_divert wsX8_holds := goodIn_r _ [19, 20, 21, 22, 23, 24, 25, 26, 27, 28, 29, 30, 31, 32, 33, 34, 35, 36, 37, 38, 39, 40, 41, 42, 43, 44, 45, 46, 47, 48, 49, 50, 51, 52, 53, 54, 55, 56, 57, 58, 59, 60, 61, 62, 63, 64, 65, 66, 67, 68, 69, 70, 71, 72, 73, 74, 75, 76, 77, 78, 79] (by decide +kernel) (by decide +kernel)
set_option maxRecDepth 20000 in
theorem gX8_divert_X8_holds : GoodIn wsX8_divert (wsV RX8 183 RX8 yX8_holds wsX8_holds) := goodIn_app (goodIn_of _ (by decide +kernel)) ggX8_divert_X8_holds
set_option maxRecDepth 20000 in
theorem ggX8_placeOf_X8_isTied : GoodIn wsX8_placeOf wsX8_isTied := goodIn_r _ [9, 2, 10, 11, 12, 13, 14, 15, 16, 17, 18, 19, 20, 21, 22, 23, 24, 25, 26, 27, 28, 29, 30, 31, 32, 33, 34, 35, 36, 37, 38, 39, 40, 41, 42, 43, 44, 45, 46, 47, 48, 49, 50, 51, 52, 53, 54, 55, 56, 57, 58, 59, 60, 61, 62, 63, 64, 65, 66, 67, 68] (by decide +kernel) (by decide +kernel)
set_option maxRecDepth 20000 in
theorem gX8_placeOf_X8_isTied : GoodIn wsX8_placeOf (wsV RX8 210 RX8 yX8_isTied wsX8_isTied) := goodIn_app (goodIn_of _ (by decide +kernel)) ggX8_placeOf_X8_isTied
set_option maxRecDepth 20000 in
theorem ggX8_outside_X8_isTied : GoodIn wsX8_outside wsX8_isTied := goodIn_r _ [7, 8, 15, 16, 17, 18, 19, 20, 21, 22, 23, 24, 25, 26, 27, 28, 29, 30, 31, 32, 33, 34, 35, 36, 37, 38, 39, 40, 41, 42, 43, 44, 45, 46, 47, 48, 49, 50, 51, 52, 53, 54, 55, 56, 57, 58, 59, 60, 61, 62, 63, 64, 65, 66, 67, 68, 69, 70, 71, 72, 73] (by decide +kernel) (by decide +kernel)
set_option maxRecDepth 20000 in
theorem gX8_outside_X8_isTied : GoodIn wsX8_outside (wsV RX8 210 RX8 yX8_isTied wsX8_isTied) := goodIn_app (goodIn_of _ (by decide +kernel)) ggX8_outside_X8_isTied
set_option maxRecDepth 20000 in
theorem ggX8_outside_X8_placeOf : GoodIn wsX8_outside wsX8_placeOf := goodIn_r _ [12, 2, 8, 13, 14, 3, 4, 5, 6, 7, 15, 16, 17, 18, 19, 20, 21, 22, 23, 24, 25, 26, 27, 28, 29, 30, 31, 32, 33, 34, 35, 36, 37, 38, 39, 40, 41, 42, 43, 44, 45, 46, 47, 48, 49, 50, 51, 52, 53, 54, 55, 56, 57, 58, 59, 60, 61, 62, 63, 64, 65, 66, 67, 68, 69, 70, 71, 72, 73] (by decide +kernel) (by decide +kernel)
set_option maxRecDepth 20000 in
theorem gX8_outside_X8_placeOf : GoodIn wsX8_outside (wsV RX8 213 RX8 yX8_placeOf wsX8_placeOf) := goodIn_app (goodIn_of _ (by decide +kernel)) ggX8_outside_X8_placeOf
set_option maxRecDepth 20000 in
theorem ggX8_isOutermost_X8_isTied : GoodIn wsX8_isOutermost wsX8_isTied := goodIn_r _ [6, 7, 19, 20, 21, 22, 23, 24, 25, 26, 27, 28, 29, 30, 31, 32, 33, 34, 35, 36, 37, 38, 39, 40, 41, 42, 43, 44, 45, 46, 47, 48, 49, 50, 51, 52, 53, 54, 55, 56, 57, 58, 59, 60, 61, 62, 63, 64, 65, 66, 67, 68, 69, 70, 71, 72, 73, 74, 75, 76, 77] (by decide +kernel) (by decide +kernel)
set_option maxRecDepth 20000 in
theorem gX8_isOutermost_X8_isTied : GoodIn wsX8_isOutermost (wsV RX8 210 RX8 yX8_isTied wsX8_isTied) := goodIn_app (goodIn_of _ (by decide +kernel)) ggX8_isOutermost_X8_isTied
set_option maxRecDepth 20000 in
theorem ggX8_isOutermost_X8_outside : GoodIn wsX8_isOutermost wsX8_outside := goodIn_r _ [11, 12, 1, 2, 3, 4, 5, 6, 7, 13, 14, 15, 16, 17, 18, 19, 20, 21, 22, 23, 24, 25, 26, 27, 28, 29, 30, 31, 32, 33, 34, 35, 36, 37, 38, 39, 40, 41, 42, 43, 44, 45, 46, 47, 48, 49, 50, 51, 52, 53, 54, 55, 56, 57, 58, 59, 60, 61, 62, 63, 64, 65, 66, 67, 68, 69, 70, 71, 72, 73, 74, 75, 76, 77] (by decide +kernel) (by decide +kernel)
set_option maxRecDepth 20000 in
theorem gX8_isOutermost_X8_outside : GoodIn wsX8_isOutermost (wsV RX8 216 RX8 yX8_outside wsX8_outside) := goodIn_app (goodIn_of _ (by decide +kernel)) ggX8_isOutermost_X8_outside
set_option maxRecDepth 20000 in
theorem ggX8_open_X8_inBarges : GoodIn wsX8_open wsX8_inBarges := goodIn_r _ [7, 8, 9, 10, 11, 12, 13, 14, 15, 16, 17, 18, 19, 20, 21, 22, 23, 24, 25, 26, 27, 28, 29, 30, 31, 32, 33, 34, 35, 36, 37, 38, 39, 40, 41, 42, 43, 44, 45, 46, 47, 48, 49, 50, 51, 52, 53, 54, 55, 56, 57, 58, 59, 60, 61, 62, 63, 64, 65, 66, 67, 68, 69] (by decide +kernel) (by decide +kernel)
set_option maxRecDepth 20000 in
theorem gX8_open_X8_inBarges : GoodIn wsX8_open (wsV RX8 219 RX8 yX8_inBarges wsX8_inBarges) := goodIn_app (goodIn_of _ (by decide +kernel)) ggX8_open_X8_inBarges
set_option maxRecDepth 20000 in
theorem ggX8_canLoad_X8_isOutermost : GoodIn wsX8_canLoad wsX8_isOutermost := goodIn_r _ [14, 15, 16, 17, 18, 13, 19, 20, 21, 22, 23, 24, 25, 26, 27, 28, 29, 30, 31, 46, 47, 48, 49, 50, 51, 52, 53, 54, 55, 56, 57, 58, 59, 60, 61, 62, 63, 64, 65, 66, 67, 68, 69, 70, 71, 72, 73, 74, 75, 76, 77, 78, 79, 80, 81, 82, 83, 84, 85, 86, 87, 88, 89, 90, 91, 92, 93, 94, 95, 96, 97, 98, 99, 100, 101, 102, 103, 104] (by decide +kernel) (by decide +kernel)
set_option maxRecDepth 20000 in
theorem gX8_canLoad_X8_isOutermost : GoodIn wsX8_canLoad (wsV RX8 222 RX8 yX8_isOutermost wsX8_isOutermost) := goodIn_app (goodIn_of _ (by decide +kernel)) ggX8_canLoad_X8_isOutermost
set_option maxRecDepth 20000 in
theorem ggX8_canLoad_X8_suits : GoodIn wsX8_canLoad wsX8_suits := goodIn_r _ [34] (by decide +kernel) (by decide +kernel)
set_option maxRecDepth 20000 in
theorem gX8_canLoad_X8_suits : GoodIn wsX8_canLoad (va_wsS RX8 225 yX8_suits wsX8_suits) := goodIn_app (goodIn_of _ (by decide +kernel)) ggX8_canLoad_X8_suits
set_option maxRecDepth 20000 in
theorem ggX8_canLoad_X8_open : GoodIn wsX8_canLoad wsX8_open := goodIn_r _ [38, 39, 40, 41, 42, 43, 13, 44, 45, 6, 5, 46, 47, 48, 49, 50, 51, 52, 53, 54, 55, 56, 57, 58, 59, 60, 61, 62, 63, 64, 65, 66, 67, 68, 69, 70, 71, 72, 73, 74, 75, 76, 77, 78, 79, 80, 81, 82, 83, 84, 85, 86, 87, 88, 89, 90, 91, 92, 93, 94, 95, 96, 97, 98, 99, 100, 101, 102, 103, 104] (by decide +kernel) (by decide +kernel)
set_option maxRecDepth 20000 in
theorem gX8_canLoad_X8_open : GoodIn wsX8_canLoad (wsV RX8 231 RX8 yX8_open wsX8_open) := goodIn_app (goodIn_of _ (by decide +kernel)) ggX8_canLoad_X8_open
set_option maxRecDepth 20000 in
theorem ggX8_load_X8_isBarge : GoodIn wsX8_load wsX8_isBarge := goodIn_r _ [13, 14, 15, 16, 12, 17, 67, 68, 69, 70, 71, 72, 73, 74, 75, 76, 77, 78, 79, 80, 81, 82, 83, 84, 85, 86, 87, 88, 89, 90, 91, 92, 93, 94, 95, 96, 97, 98, 99, 100, 101, 102, 103, 104, 105, 106, 107, 108, 109, 110, 111, 112, 113, 114, 115, 116, 117, 118, 119, 120, 121, 122, 123, 124, 125] (by decide +kernel) (by decide +kernel)
set_option maxRecDepth 20000 in
theorem gX8_load_X8_isBarge : GoodIn wsX8_load (wsV RX8 234 RX8 yX8_isBarge wsX8_isBarge) := goodIn_app (goodIn_of _ (by decide +kernel)) ggX8_load_X8_isBarge
set_option maxRecDepth 20000 in
theorem ggX8_load_X8_isContract : GoodIn wsX8_load wsX8_isContract := goodIn_r _ [21, 22, 15, 16, 12, 17, 67, 68, 69, 70, 71, 72, 73, 74, 75, 76, 77, 78, 79, 80, 81, 82, 83, 84, 85, 86, 87, 88, 89, 90, 91, 92, 93, 94, 95, 96, 97, 98, 99, 100, 101, 102, 103, 104, 105, 106, 107, 108, 109, 110, 111, 112, 113, 114, 115, 116, 117, 118, 119, 120, 121, 122, 123, 124, 125] (by decide +kernel) (by decide +kernel)
set_option maxRecDepth 20000 in
theorem gX8_load_X8_isContract : GoodIn wsX8_load (wsV RX8 207 RX8 yX8_isContract wsX8_isContract) := goodIn_app (goodIn_of _ (by decide +kernel)) ggX8_load_X8_isContract
set_option maxRecDepth 20000 in
theorem ggX8_load_X8_in : GoodIn wsX8_load wsX8_in := goodIn_r _ [17] (by decide +kernel) (by decide +kernel)
set_option maxRecDepth 20000 in
theorem gX8_load_X8_in : GoodIn wsX8_load (va_wsS RX8 159 yX8_in wsX8_in) := goodIn_app (goodIn_of _ (by decide +kernel)) ggX8_load_X8_in
set_option maxRecDepth 20000 in
theorem ggX8_load_X8_canLoad : GoodIn wsX8_load wsX8_canLoad := goodIn_r _ [26, 1, 27, 8, 7, 5, 6, 3, 4, 2, 28, 29, 30, 12, 31, 32, 33, 34, 35, 36, 37, 38, 39, 40, 41, 42, 43, 44, 45, 46, 47, 48, 49, 50, 51, 52, 53, 54, 55, 56, 57, 58, 59, 60, 61, 14, 67, 68, 69, 70, 71, 72, 73, 74, 75, 76, 77, 78, 79, 80, 81, 82, 83, 84, 85, 86, 87, 88, 89, 90, 91, 92, 93, 94, 95, 96, 97, 98, 99, 100, 101, 102, 103, 104, 105, 106, 107, 108, 109, 110, 111, 112, 113, 114, 115, 116, 117, 118, 119, 120, 121, 122, 123, 124, 125] (by decide +kernel) (by decide +kernel)
set_option maxRecDepth 20000 in
theorem gX8_load_X8_canLoad : GoodIn wsX8_load (wsV RX8 237 RX8 yX8_canLoad wsX8_canLoad) := goodIn_app (goodIn_of _ (by decide +kernel)) ggX8_load_X8_canLoad
set_option maxRecDepth 20000 in
theorem ggX8_load_X8_holds : GoodIn wsX8_load wsX8_holds := goodIn_r _ [65, 66, 67, 68, 69, 70, 71, 72, 73, 74, 75, 76, 77, 78, 79, 80, 81, 82, 83, 84, 85, 86, 87, 88, 89, 90, 91, 92, 93, 94, 95, 96, 97, 98, 99, 100, 101, 102, 103, 104, 105, 106, 107, 108, 109, 110, 111, 112, 113, 114, 115, 116, 117, 118, 119, 120, 121, 122, 123, 124, 125] (by decide +kernel) (by decide +kernel)
set_option maxRecDepth 20000 in
theorem gX8_load_X8_holds : GoodIn wsX8_load (wsV RX8 183 RX8 yX8_holds wsX8_holds) := goodIn_app (goodIn_of _ (by decide +kernel)) ggX8_load_X8_holds
set_option maxRecDepth 20000 in
theorem ggX8_unload_X8_isBarge : GoodIn wsX8_unload wsX8_isBarge := goodIn_r _ [15, 16, 17, 18, 14, 19, 49, 50, 51, 52, 53, 54, 55, 56, 57, 58, 59, 60, 61, 62, 63, 64, 65, 66, 67, 68, 69, 70, 71, 72, 73, 74, 75, 76, 77, 78, 79, 80, 81, 82, 83, 84, 85, 86, 87, 88, 89, 90, 91, 92, 93, 94, 95, 96, 97, 98, 99, 100, 101, 102, 103, 104, 105, 106, 107] (by decide +kernel) (by decide +kernel)
set_option maxRecDepth 20000 in
theorem gX8_unload_X8_isBarge : GoodIn wsX8_unload (wsV RX8 234 RX8 yX8_isBarge wsX8_isBarge) := goodIn_app (goodIn_of _ (by decide +kernel)) ggX8_unload_X8_isBarge
set_option maxRecDepth 20000 in
theorem ggX8_unload_X8_isOutermost : GoodIn wsX8_unload wsX8_isOutermost := goodIn_r _ [23, 24, 25, 26, 27, 14, 28, 29, 30, 31, 32, 33, 34, 35, 36, 37, 38, 39, 40, 49, 50, 51, 52, 53, 54, 55, 56, 57, 58, 59, 60, 61, 62, 63, 64, 65, 66, 67, 68, 69, 70, 71, 72, 73, 74, 75, 76, 77, 78, 79, 80, 81, 82, 83, 84, 85, 86, 87, 88, 89, 90, 91, 92, 93, 94, 95, 96, 97, 98, 99, 100, 101, 102, 103, 104, 105, 106, 107] (by decide +kernel) (by decide +kernel)
set_option maxRecDepth 20000 in
theorem gX8_unload_X8_isOutermost : GoodIn wsX8_unload (wsV RX8 222 RX8 yX8_isOutermost wsX8_isOutermost) := goodIn_app (goodIn_of _ (by decide +kernel)) ggX8_unload_X8_isOutermost
set_option maxRecDepth 20000 in
theorem ggX8_unload_X8_holds : GoodIn wsX8_unload wsX8_holds := goodIn_r _ [44, 45, 49, 50, 51, 52, 53, 54, 55, 56, 57, 58, 59, 60, 61, 62, 63, 64, 65, 66, 67, 68, 69, 70, 71, 72, 73, 74, 75, 76, 77, 78, 79, 80, 81, 82, 83, 84, 85, 86, 87, 88, 89, 90, 91, 92, 93, 94, 95, 96, 97, 98, 99, 100, 101, 102, 103, 104, 105, 106, 107] (by decide +kernel) (by decide +kernel)
set_option maxRecDepth 20000 in
theorem gX8_unload_X8_holds : GoodIn wsX8_unload (wsV RX8 183 RX8 yX8_holds wsX8_holds) := goodIn_app (goodIn_of _ (by decide +kernel)) ggX8_unload_X8_holds
set_option maxRecDepth 20000 in
theorem ggX8_unload_X8_between : GoodIn wsX8_unload wsX8_between := goodIn_r _ [48] (by decide +kernel) (by decide +kernel)
set_option maxRecDepth 20000 in
theorem gX8_unload_X8_between : GoodIn wsX8_unload (va_wsS RX8 240 yX8_between wsX8_between) := goodIn_app (goodIn_of _ (by decide +kernel)) ggX8_unload_X8_between
set_option maxRecDepth 20000 in
theorem ggX8_clean_X8_isBarge : GoodIn wsX8_clean wsX8_isBarge := goodIn_r _ [8, 9, 10, 11, 7, 12, 23, 24, 25, 26, 27, 28, 29, 30, 31, 32, 33, 34, 35, 36, 37, 38, 39, 40, 41, 42, 43, 44, 45, 46, 47, 48, 49, 50, 51, 52, 53, 54, 55, 56, 57, 58, 59, 60, 61, 62, 63, 64, 65, 66, 67, 68, 69, 70, 71, 72, 73, 74, 75, 76, 77, 78, 79, 80, 81] (by decide +kernel) (by decide +kernel)
set_option maxRecDepth 20000 in
theorem gX8_clean_X8_isBarge : GoodIn wsX8_clean (wsV RX8 234 RX8 yX8_isBarge wsX8_isBarge) := goodIn_app (goodIn_of _ (by decide +kernel)) ggX8_clean_X8_isBarge
set_option maxRecDepth 20000 in
theorem ggX8_clean_X8_isTied : GoodIn wsX8_clean wsX8_isTied := goodIn_r _ [16, 17, 23, 24, 25, 26, 27, 28, 29, 30, 31, 32, 33, 34, 35, 36, 37, 38, 39, 40, 41, 42, 43, 44, 45, 46, 47, 48, 49, 50, 51, 52, 53, 54, 55, 56, 57, 58, 59, 60, 61, 62, 63, 64, 65, 66, 67, 68, 69, 70, 71, 72, 73, 74, 75, 76, 77, 78, 79, 80, 81] (by decide +kernel) (by decide +kernel)
set_option maxRecDepth 20000 in
theorem gX8_clean_X8_isTied : GoodIn wsX8_clean (wsV RX8 210 RX8 yX8_isTied wsX8_isTied) := goodIn_app (goodIn_of _ (by decide +kernel)) ggX8_clean_X8_isTied
set_option maxRecDepth 20000 in
theorem ggX8_clean_X8_holds : GoodIn wsX8_clean wsX8_holds := goodIn_r _ [21, 22, 23, 24, 25, 26, 27, 28, 29, 30, 31, 32, 33, 34, 35, 36, 37, 38, 39, 40, 41, 42, 43, 44, 45, 46, 47, 48, 49, 50, 51, 52, 53, 54, 55, 56, 57, 58, 59, 60, 61, 62, 63, 64, 65, 66, 67, 68, 69, 70, 71, 72, 73, 74, 75, 76, 77, 78, 79, 80, 81] (by decide +kernel) (by decide +kernel)
set_option maxRecDepth 20000 in
theorem gX8_clean_X8_holds : GoodIn wsX8_clean (wsV RX8 183 RX8 yX8_holds wsX8_holds) := goodIn_app (goodIn_of _ (by decide +kernel)) ggX8_clean_X8_holds
set_option maxRecDepth 20000 in
theorem ggX8_boat_X8_in : GoodIn wsX8_boat wsX8_in := goodIn_r _ [13] (by decide +kernel) (by decide +kernel)
set_option maxRecDepth 20000 in
theorem gX8_boat_X8_in : GoodIn wsX8_boat (va_wsS RX8 159 yX8_in wsX8_in) := goodIn_app (goodIn_of _ (by decide +kernel)) ggX8_boat_X8_in
set_option maxRecDepth 20000 in
theorem ggX8_boat_X8_isPoint : GoodIn wsX8_boat wsX8_isPoint := goodIn_r _ [16, 10, 11, 12, 13] (by decide +kernel) (by decide +kernel)
set_option maxRecDepth 20000 in
theorem gX8_boat_X8_isPoint : GoodIn wsX8_boat (va_wsS RX8 163 yX8_isPoint wsX8_isPoint) := goodIn_app (goodIn_of _ (by decide +kernel)) ggX8_boat_X8_isPoint
set_option maxRecDepth 20000 in
theorem ggX8_boat_X8_holds : GoodIn wsX8_boat wsX8_holds := goodIn_r _ [20, 21, 22, 23, 24, 25, 26, 27, 28, 29, 30, 31, 32, 33, 34, 35, 36, 37, 38, 39, 40, 41, 42, 43, 44, 45, 46, 47, 48, 49, 50, 51, 52, 53, 54, 55, 56, 57, 58, 59, 60, 61, 62, 63, 64, 65, 66, 67, 68, 69, 70, 71, 72, 73, 74, 75, 76, 77, 78, 79, 80] (by decide +kernel) (by decide +kernel)
set_option maxRecDepth 20000 in
theorem gX8_boat_X8_holds : GoodIn wsX8_boat (wsV RX8 183 RX8 yX8_holds wsX8_holds) := goodIn_app (goodIn_of _ (by decide +kernel)) ggX8_boat_X8_holds
set_option maxRecDepth 20000 in
theorem ggX8_fuel_X8_isBoat : GoodIn wsX8_fuel wsX8_isBoat := goodIn_r _ [7, 8, 9, 10, 6, 11, 22, 23, 24, 25, 26, 27, 28, 29, 30, 31, 32, 33, 34, 35, 36, 37, 38, 39, 40, 41, 42, 43, 44, 45, 46, 47, 48, 49, 50, 51, 52, 53, 54, 55, 56, 57, 58, 59, 60, 61, 62, 63, 64, 65, 66, 67, 68, 69, 70, 71, 72, 73, 74, 75, 76, 77, 78, 79, 80] (by decide +kernel) (by decide +kernel)
set_option maxRecDepth 20000 in
theorem gX8_fuel_X8_isBoat : GoodIn wsX8_fuel (wsV RX8 247 RX8 yX8_isBoat wsX8_isBoat) := goodIn_app (goodIn_of _ (by decide +kernel)) ggX8_fuel_X8_isBoat
set_option maxRecDepth 20000 in
theorem ggX8_fuel_X8_in : GoodIn wsX8_fuel wsX8_in := goodIn_r _ [11] (by decide +kernel) (by decide +kernel)
set_option maxRecDepth 20000 in
theorem gX8_fuel_X8_in : GoodIn wsX8_fuel (va_wsS RX8 159 yX8_in wsX8_in) := goodIn_app (goodIn_of _ (by decide +kernel)) ggX8_fuel_X8_in
set_option maxRecDepth 20000 in
theorem ggX8_fuel_X8_stands : GoodIn wsX8_fuel wsX8_stands := goodIn_r _ [15, 16, 22, 23, 24, 25, 26, 27, 28, 29, 30, 31, 32, 33, 34, 35, 36, 37, 38, 39, 40, 41, 42, 43, 44, 45, 46, 47, 48, 49, 50, 51, 52, 53, 54, 55, 56, 57, 58, 59, 60, 61, 62, 63, 64, 65, 66, 67, 68, 69, 70, 71, 72, 73, 74, 75, 76, 77, 78, 79, 80] (by decide +kernel) (by decide +kernel)
set_option maxRecDepth 20000 in
theorem gX8_fuel_X8_stands : GoodIn wsX8_fuel (wsV RX8 250 RX8 yX8_stands wsX8_stands) := goodIn_app (goodIn_of _ (by decide +kernel)) ggX8_fuel_X8_stands
set_option maxRecDepth 20000 in
theorem ggX8_fuel_X8_holds : GoodIn wsX8_fuel wsX8_holds := goodIn_r _ [20, 21, 22, 23, 24, 25, 26, 27, 28, 29, 30, 31, 32, 33, 34, 35, 36, 37, 38, 39, 40, 41, 42, 43, 44, 45, 46, 47, 48, 49, 50, 51, 52, 53, 54, 55, 56, 57, 58, 59, 60, 61, 62, 63, 64, 65, 66, 67, 68, 69, 70, 71, 72, 73, 74, 75, 76, 77, 78, 79, 80] (by decide +kernel) (by decide +kernel)
set_option maxRecDepth 20000 in
theorem gX8_fuel_X8_holds : GoodIn wsX8_fuel (wsV RX8 183 RX8 yX8_holds wsX8_holds) := goodIn_app (goodIn_of _ (by decide +kernel)) ggX8_fuel_X8_holds
set_option maxRecDepth 20000 in
theorem ggX8_wide_X8_isBoat : GoodIn wsX8_wide wsX8_isBoat := goodIn_r _ [7, 8, 9, 10, 6, 11, 17, 18, 19, 20, 21, 22, 23, 24, 25, 26, 27, 28, 29, 30, 31, 32, 33, 34, 35, 36, 37, 38, 39, 40, 41, 42, 43, 44, 45, 46, 47, 48, 49, 50, 51, 52, 53, 54, 55, 56, 57, 58, 59, 60, 61, 62, 63, 64, 65, 66, 67, 68, 69, 70, 71, 72, 73, 74, 75] (by decide +kernel) (by decide +kernel)
set_option maxRecDepth 20000 in
theorem gX8_wide_X8_isBoat : GoodIn wsX8_wide (wsV RX8 247 RX8 yX8_isBoat wsX8_isBoat) := goodIn_app (goodIn_of _ (by decide +kernel)) ggX8_wide_X8_isBoat
set_option maxRecDepth 20000 in
theorem ggX8_wide_X8_in : GoodIn wsX8_wide wsX8_in := goodIn_r _ [11] (by decide +kernel) (by decide +kernel)
set_option maxRecDepth 20000 in
theorem gX8_wide_X8_in : GoodIn wsX8_wide (va_wsS RX8 159 yX8_in wsX8_in) := goodIn_app (goodIn_of _ (by decide +kernel)) ggX8_wide_X8_in
set_option maxRecDepth 20000 in
theorem ggX8_wide_X8_holds : GoodIn wsX8_wide wsX8_holds := goodIn_r _ [15, 16, 17, 18, 19, 20, 21, 22, 23, 24, 25, 26, 27, 28, 29, 30, 31, 32, 33, 34, 35, 36, 37, 38, 39, 40, 41, 42, 43, 44, 45, 46, 47, 48, 49, 50, 51, 52, 53, 54, 55, 56, 57, 58, 59, 60, 61, 62, 63, 64, 65, 66, 67, 68, 69, 70, 71, 72, 73, 74, 75] (by decide +kernel) (by decide +kernel)
set_option maxRecDepth 20000 in
theorem gX8_wide_X8_holds : GoodIn wsX8_wide (wsV RX8 183 RX8 yX8_holds wsX8_holds) := goodIn_app (goodIn_of _ (by decide +kernel)) ggX8_wide_X8_holds
set_option maxRecDepth 20000 in
theorem ggX8_isDangerous_X8_areUnlike : GoodIn wsX8_isDangerous wsX8_areUnlike := goodIn_r _ [7, 8, 9, 10, 11, 12, 13, 14, 15, 16, 17, 18, 19, 20, 21, 22, 23, 24, 25, 26, 27, 28, 29, 30, 31, 32, 33, 34, 35, 36, 37, 38, 39, 40, 41, 42, 43, 44, 45, 46, 47, 48, 49, 50, 51, 52, 53, 54, 55, 56, 57, 58, 59, 60, 61, 62, 63, 64, 65, 66, 67, 68] (by decide +kernel) (by decide +kernel)
set_option maxRecDepth 20000 in
theorem gX8_isDangerous_X8_areUnlike : GoodIn wsX8_isDangerous (wsV RX8 256 RX8 yX8_areUnlike wsX8_areUnlike) := goodIn_app (goodIn_of _ (by decide +kernel)) ggX8_isDangerous_X8_areUnlike
set_option maxRecDepth 20000 in
theorem ggX8_canCouple_X8_stands : GoodIn wsX8_canCouple wsX8_stands := goodIn_r _ [9, 10, 27, 28, 29, 30, 31, 32, 33, 34, 35, 36, 37, 38, 39, 40, 41, 42, 43, 44, 45, 46, 47, 48, 49, 50, 51, 52, 53, 54, 55, 56, 57, 58, 59, 60, 61, 62, 63, 64, 65, 66, 67, 68, 69, 70, 71, 72, 73, 74, 75, 76, 77, 78, 79, 80, 81, 82, 83, 84, 85] (by decide +kernel) (by decide +kernel)
set_option maxRecDepth 20000 in
theorem gX8_canCouple_X8_stands : GoodIn wsX8_canCouple (wsV RX8 250 RX8 yX8_stands wsX8_stands) := goodIn_app (goodIn_of _ (by decide +kernel)) ggX8_canCouple_X8_stands
set_option maxRecDepth 20000 in
theorem ggX8_canCouple_X8_isTied : GoodIn wsX8_canCouple wsX8_isTied := goodIn_r _ [14, 15, 27, 28, 29, 30, 31, 32, 33, 34, 35, 36, 37, 38, 39, 40, 41, 42, 43, 44, 45, 46, 47, 48, 49, 50, 51, 52, 53, 54, 55, 56, 57, 58, 59, 60, 61, 62, 63, 64, 65, 66, 67, 68, 69, 70, 71, 72, 73, 74, 75, 76, 77, 78, 79, 80, 81, 82, 83, 84, 85] (by decide +kernel) (by decide +kernel)
set_option maxRecDepth 20000 in
theorem gX8_canCouple_X8_isTied : GoodIn wsX8_canCouple (wsV RX8 210 RX8 yX8_isTied wsX8_isTied) := goodIn_app (goodIn_of _ (by decide +kernel)) ggX8_canCouple_X8_isTied
set_option maxRecDepth 20000 in
theorem ggX8_canCouple_X8_isDangerous : GoodIn wsX8_canCouple wsX8_isDangerous := goodIn_r _ [19, 20, 4, 21, 22, 23, 8, 24, 25, 26, 27, 28, 29, 30, 31, 32, 33, 34, 35, 36, 37, 38, 39, 40, 41, 42, 43, 44, 45, 46, 47, 48, 49, 50, 51, 52, 53, 54, 55, 56, 57, 58, 59, 60, 61, 62, 63, 64, 65, 66, 67, 68, 69, 70, 71, 72, 73, 74, 75, 76, 77, 78, 79, 80, 81, 82, 83, 84, 85] (by decide +kernel) (by decide +kernel)
set_option maxRecDepth 20000 in
theorem gX8_canCouple_X8_isDangerous : GoodIn wsX8_canCouple (wsV RX8 259 RX8 yX8_isDangerous wsX8_isDangerous) := goodIn_app (goodIn_of _ (by decide +kernel)) ggX8_canCouple_X8_isDangerous
set_option maxRecDepth 20000 in
theorem ggX8_couple_X8_isBoat : GoodIn wsX8_couple wsX8_isBoat := goodIn_r _ [12, 13, 14, 15, 11, 16, 61, 62, 63, 64, 65, 66, 67, 68, 69, 70, 71, 72, 73, 74, 75, 76, 77, 78, 79, 80, 81, 82, 83, 84, 85, 86, 87, 88, 89, 90, 91, 92, 93, 94, 95, 96, 97, 98, 99, 100, 101, 102, 103, 104, 105, 106, 107, 108, 109, 110, 111, 112, 113, 114, 115, 116, 117, 118, 119] (by decide +kernel) (by decide +kernel)
set_option maxRecDepth 20000 in
theorem gX8_couple_X8_isBoat : GoodIn wsX8_couple (wsV RX8 247 RX8 yX8_isBoat wsX8_isBoat) := goodIn_app (goodIn_of _ (by decide +kernel)) ggX8_couple_X8_isBoat
set_option maxRecDepth 20000 in
theorem ggX8_couple_X8_isBarge : GoodIn wsX8_couple wsX8_isBarge := goodIn_r _ [20, 21, 14, 15, 11, 16, 61, 62, 63, 64, 65, 66, 67, 68, 69, 70, 71, 72, 73, 74, 75, 76, 77, 78, 79, 80, 81, 82, 83, 84, 85, 86, 87, 88, 89, 90, 91, 92, 93, 94, 95, 96, 97, 98, 99, 100, 101, 102, 103, 104, 105, 106, 107, 108, 109, 110, 111, 112, 113, 114, 115, 116, 117, 118, 119] (by decide +kernel) (by decide +kernel)
set_option maxRecDepth 20000 in
theorem gX8_couple_X8_isBarge : GoodIn wsX8_couple (wsV RX8 234 RX8 yX8_isBarge wsX8_isBarge) := goodIn_app (goodIn_of _ (by decide +kernel)) ggX8_couple_X8_isBarge
set_option maxRecDepth 20000 in
theorem ggX8_couple_X8_canCouple : GoodIn wsX8_couple wsX8_canCouple := goodIn_r _ [25, 1, 26, 5, 27, 28, 29, 30, 11, 31, 32, 33, 34, 35, 36, 4, 37, 38, 39, 40, 41, 42, 43, 44, 45, 46, 47, 61, 62, 63, 64, 65, 66, 67, 68, 69, 70, 71, 72, 73, 74, 75, 76, 77, 78, 79, 80, 81, 82, 83, 84, 85, 86, 87, 88, 89, 90, 91, 92, 93, 94, 95, 96, 97, 98, 99, 100, 101, 102, 103, 104, 105, 106, 107, 108, 109, 110, 111, 112, 113, 114, 115, 116, 117, 118, 119] (by decide +kernel) (by decide +kernel)
set_option maxRecDepth 20000 in
theorem gX8_couple_X8_canCouple : GoodIn wsX8_couple (wsV RX8 262 RX8 yX8_canCouple wsX8_canCouple) := goodIn_app (goodIn_of _ (by decide +kernel)) ggX8_couple_X8_canCouple
set_option maxRecDepth 20000 in
theorem ggX8_couple_X8_holds : GoodIn wsX8_couple wsX8_holds := goodIn_r _ [51, 52, 61, 62, 63, 64, 65, 66, 67, 68, 69, 70, 71, 72, 73, 74, 75, 76, 77, 78, 79, 80, 81, 82, 83, 84, 85, 86, 87, 88, 89, 90, 91, 92, 93, 94, 95, 96, 97, 98, 99, 100, 101, 102, 103, 104, 105, 106, 107, 108, 109, 110, 111, 112, 113, 114, 115, 116, 117, 118, 119] (by decide +kernel) (by decide +kernel)
set_option maxRecDepth 20000 in
theorem gX8_couple_X8_holds : GoodIn wsX8_couple (wsV RX8 183 RX8 yX8_holds wsX8_holds) := goodIn_app (goodIn_of _ (by decide +kernel)) ggX8_couple_X8_holds
set_option maxRecDepth 20000 in
theorem ggX8_couple_X8_outside : GoodIn wsX8_couple wsX8_outside := goodIn_r _ [56, 2, 1, 33, 34, 35, 11, 36, 4, 57, 58, 59, 60, 3, 27, 61, 62, 63, 64, 65, 66, 67, 68, 69, 70, 71, 72, 73, 74, 75, 76, 77, 78, 79, 80, 81, 82, 83, 84, 85, 86, 87, 88, 89, 90, 91, 92, 93, 94, 95, 96, 97, 98, 99, 100, 101, 102, 103, 104, 105, 106, 107, 108, 109, 110, 111, 112, 113, 114, 115, 116, 117, 118, 119] (by decide +kernel) (by decide +kernel)
set_option maxRecDepth 20000 in
theorem gX8_couple_X8_outside : GoodIn wsX8_couple (wsV RX8 216 RX8 yX8_outside wsX8_outside) := goodIn_app (goodIn_of _ (by decide +kernel)) ggX8_couple_X8_outside
set_option maxRecDepth 20000 in
theorem ggX8_couple_X8_placeOf : GoodIn wsX8_couple wsX8_placeOf := goodIn_r _ [60, 1, 4, 3, 27, 33, 34, 35, 11, 36, 61, 62, 63, 64, 65, 66, 67, 68, 69, 70, 71, 72, 73, 74, 75, 76, 77, 78, 79, 80, 81, 82, 83, 84, 85, 86, 87, 88, 89, 90, 91, 92, 93, 94, 95, 96, 97, 98, 99, 100, 101, 102, 103, 104, 105, 106, 107, 108, 109, 110, 111, 112, 113, 114, 115, 116, 117, 118, 119] (by decide +kernel) (by decide +kernel)
set_option maxRecDepth 20000 in
theorem gX8_couple_X8_placeOf : GoodIn wsX8_couple (wsV RX8 213 RX8 yX8_placeOf wsX8_placeOf) := goodIn_app (goodIn_of _ (by decide +kernel)) ggX8_couple_X8_placeOf
set_option maxRecDepth 20000 in
theorem ggX8_canDrop_X8_stands : GoodIn wsX8_canDrop wsX8_stands := goodIn_r _ [8, 9, 46, 47, 48, 49, 50, 51, 52, 53, 54, 55, 56, 57, 58, 59, 60, 61, 62, 63, 64, 65, 66, 67, 68, 69, 70, 71, 72, 73, 74, 75, 76, 77, 78, 79, 80, 81, 82, 83, 84, 85, 86, 87, 88, 89, 90, 91, 92, 93, 94, 95, 96, 97, 98, 99, 100, 101, 102, 103, 104] (by decide +kernel) (by decide +kernel)
set_option maxRecDepth 20000 in
theorem gX8_canDrop_X8_stands : GoodIn wsX8_canDrop (wsV RX8 250 RX8 yX8_stands wsX8_stands) := goodIn_app (goodIn_of _ (by decide +kernel)) ggX8_canDrop_X8_stands
set_option maxRecDepth 20000 in
theorem ggX8_canDrop_X8_hasRoom : GoodIn wsX8_canDrop wsX8_hasRoom := goodIn_r _ [13, 14, 15, 46, 47, 48, 49, 50, 51, 52, 53, 54, 55, 56, 57, 58, 59, 60, 61, 62, 63, 64, 65, 66, 67, 68, 69, 70, 71, 72, 73, 74, 75, 76, 77, 78, 79, 80, 81, 82, 83, 84, 85, 86, 87, 88, 89, 90, 91, 92, 93, 94, 95, 96, 97, 98, 99, 100, 101, 102, 103, 104] (by decide +kernel) (by decide +kernel)
set_option maxRecDepth 20000 in
theorem gX8_canDrop_X8_hasRoom : GoodIn wsX8_canDrop (wsV RX8 200 RX8 yX8_hasRoom wsX8_hasRoom) := goodIn_app (goodIn_of _ (by decide +kernel)) ggX8_canDrop_X8_hasRoom
set_option maxRecDepth 20000 in
theorem ggX8_canDrop_X8_placeOf : GoodIn wsX8_canDrop wsX8_placeOf := goodIn_r _ [19, 20, 1, 21, 22, 23, 24, 25, 7, 26, 46, 47, 48, 49, 50, 51, 52, 53, 54, 55, 56, 57, 58, 59, 60, 61, 62, 63, 64, 65, 66, 67, 68, 69, 70, 71, 72, 73, 74, 75, 76, 77, 78, 79, 80, 81, 82, 83, 84, 85, 86, 87, 88, 89, 90, 91, 92, 93, 94, 95, 96, 97, 98, 99, 100, 101, 102, 103, 104] (by decide +kernel) (by decide +kernel)
set_option maxRecDepth 20000 in
theorem gX8_canDrop_X8_placeOf : GoodIn wsX8_canDrop (wsV RX8 213 RX8 yX8_placeOf wsX8_placeOf) := goodIn_app (goodIn_of _ (by decide +kernel)) ggX8_canDrop_X8_placeOf
set_option maxRecDepth 20000 in
theorem ggX8_canDrop_X8_leaves : GoodIn wsX8_canDrop wsX8_leaves := goodIn_r _ [30, 3, 22, 46, 47, 48, 49, 50, 51, 52, 53, 54, 55, 56, 57, 58, 59, 60, 61, 62, 63, 64, 65, 66, 67, 68, 69, 70, 71, 72, 73, 74, 75, 76, 77, 78, 79, 80, 81, 82, 83, 84, 85, 86, 87, 88, 89, 90, 91, 92, 93, 94, 95, 96, 97, 98, 99, 100, 101, 102, 103, 104] (by decide +kernel) (by decide +kernel)
set_option maxRecDepth 20000 in
theorem gX8_canDrop_X8_leaves : GoodIn wsX8_canDrop (wsV RX8 268 RX8 yX8_leaves wsX8_leaves) := goodIn_app (goodIn_of _ (by decide +kernel)) ggX8_canDrop_X8_leaves
set_option maxRecDepth 20000 in
theorem ggX8_canDrop_X8_isDangerous : GoodIn wsX8_canDrop wsX8_isDangerous := goodIn_r _ [34, 35, 22, 36, 37, 38, 7, 39, 40, 41, 46, 47, 48, 49, 50, 51, 52, 53, 54, 55, 56, 57, 58, 59, 60, 61, 62, 63, 64, 65, 66, 67, 68, 69, 70, 71, 72, 73, 74, 75, 76, 77, 78, 79, 80, 81, 82, 83, 84, 85, 86, 87, 88, 89, 90, 91, 92, 93, 94, 95, 96, 97, 98, 99, 100, 101, 102, 103, 104] (by decide +kernel) (by decide +kernel)
set_option maxRecDepth 20000 in
theorem gX8_canDrop_X8_isDangerous : GoodIn wsX8_canDrop (wsV RX8 259 RX8 yX8_isDangerous wsX8_isDangerous) := goodIn_app (goodIn_of _ (by decide +kernel)) ggX8_canDrop_X8_isDangerous
set_option maxRecDepth 20000 in
theorem ggX8_canDrop_X8_returns : GoodIn wsX8_canDrop wsX8_returns := goodIn_r _ [45, 3, 22, 46, 47, 48, 49, 50, 51, 52, 53, 54, 55, 56, 57, 58, 59, 60, 61, 62, 63, 64, 65, 66, 67, 68, 69, 70, 71, 72, 73, 74, 75, 76, 77, 78, 79, 80, 81, 82, 83, 84, 85, 86, 87, 88, 89, 90, 91, 92, 93, 94, 95, 96, 97, 98, 99, 100, 101, 102, 103, 104] (by decide +kernel) (by decide +kernel)
set_option maxRecDepth 20000 in
theorem gX8_canDrop_X8_returns : GoodIn wsX8_canDrop (wsV RX8 271 RX8 yX8_returns wsX8_returns) := goodIn_app (goodIn_of _ (by decide +kernel)) ggX8_canDrop_X8_returns
set_option maxRecDepth 20000 in
theorem ggX8_drop_X8_isBoat : GoodIn wsX8_drop wsX8_isBoat := goodIn_r _ [8, 9, 10, 11, 7, 12, 73, 74, 75, 76, 77, 78, 79, 80, 81, 82, 83, 84, 85, 86, 87, 88, 89, 90, 91, 92, 93, 94, 95, 96, 97, 98, 99, 100, 101, 102, 103, 104, 105, 106, 107, 108, 109, 110, 111, 112, 113, 114, 115, 116, 117, 118, 119, 120, 121, 122, 123, 124, 125, 126, 127, 128, 129, 130, 131] (by decide +kernel) (by decide +kernel)
set_option maxRecDepth 20000 in
theorem gX8_drop_X8_isBoat : GoodIn wsX8_drop (wsV RX8 247 RX8 yX8_isBoat wsX8_isBoat) := goodIn_app (goodIn_of _ (by decide +kernel)) ggX8_drop_X8_isBoat
set_option maxRecDepth 20000 in
theorem ggX8_drop_X8_isBarge : GoodIn wsX8_drop wsX8_isBarge := goodIn_r _ [16, 17, 10, 11, 7, 12, 73, 74, 75, 76, 77, 78, 79, 80, 81, 82, 83, 84, 85, 86, 87, 88, 89, 90, 91, 92, 93, 94, 95, 96, 97, 98, 99, 100, 101, 102, 103, 104, 105, 106, 107, 108, 109, 110, 111, 112, 113, 114, 115, 116, 117, 118, 119, 120, 121, 122, 123, 124, 125, 126, 127, 128, 129, 130, 131] (by decide +kernel) (by decide +kernel)
set_option maxRecDepth 20000 in
theorem gX8_drop_X8_isBarge : GoodIn wsX8_drop (wsV RX8 234 RX8 yX8_isBarge wsX8_isBarge) := goodIn_app (goodIn_of _ (by decide +kernel)) ggX8_drop_X8_isBarge
set_option maxRecDepth 20000 in
theorem ggX8_drop_X8_in : GoodIn wsX8_drop wsX8_in := goodIn_r _ [12] (by decide +kernel) (by decide +kernel)
set_option maxRecDepth 20000 in
theorem gX8_drop_X8_in : GoodIn wsX8_drop (va_wsS RX8 159 yX8_in wsX8_in) := goodIn_app (goodIn_of _ (by decide +kernel)) ggX8_drop_X8_in
set_option maxRecDepth 20000 in
theorem ggX8_drop_X8_canDrop : GoodIn wsX8_drop wsX8_canDrop := goodIn_r _ [21, 22, 3, 2, 23, 24, 25, 7, 26, 27, 28, 29, 30, 31, 32, 33, 34, 35, 36, 37, 38, 39, 40, 41, 42, 43, 44, 45, 46, 47, 48, 49, 50, 51, 52, 53, 54, 55, 56, 57, 58, 59, 60, 61, 62, 63, 73, 74, 75, 76, 77, 78, 79, 80, 81, 82, 83, 84, 85, 86, 87, 88, 89, 90, 91, 92, 93, 94, 95, 96, 97, 98, 99, 100, 101, 102, 103, 104, 105, 106, 107, 108, 109, 110, 111, 112, 113, 114, 115, 116, 117, 118, 119, 120, 121, 122, 123, 124, 125, 126, 127, 128, 129, 130, 131] (by decide +kernel) (by decide +kernel)
set_option maxRecDepth 20000 in
theorem gX8_drop_X8_canDrop : GoodIn wsX8_drop (wsV RX8 275 RX8 yX8_canDrop wsX8_canDrop) := goodIn_app (goodIn_of _ (by decide +kernel)) ggX8_drop_X8_canDrop
set_option maxRecDepth 20000 in
theorem ggX8_drop_X8_holds : GoodIn wsX8_drop wsX8_holds := goodIn_r _ [67, 68, 73, 74, 75, 76, 77, 78, 79, 80, 81, 82, 83, 84, 85, 86, 87, 88, 89, 90, 91, 92, 93, 94, 95, 96, 97, 98, 99, 100, 101, 102, 103, 104, 105, 106, 107, 108, 109, 110, 111, 112, 113, 114, 115, 116, 117, 118, 119, 120, 121, 122, 123, 124, 125, 126, 127, 128, 129, 130, 131] (by decide +kernel) (by decide +kernel)
set_option maxRecDepth 20000 in
theorem gX8_drop_X8_holds : GoodIn wsX8_drop (wsV RX8 183 RX8 yX8_holds wsX8_holds) := goodIn_app (goodIn_of _ (by decide +kernel)) ggX8_drop_X8_holds
set_option maxRecDepth 20000 in
theorem ggX8_drop_X8_placeOf : GoodIn wsX8_drop wsX8_placeOf := goodIn_r _ [37, 38, 22, 39, 40, 41, 42, 43, 7, 44, 73, 74, 75, 76, 77, 78, 79, 80, 81, 82, 83, 84, 85, 86, 87, 88, 89, 90, 91, 92, 93, 94, 95, 96, 97, 98, 99, 100, 101, 102, 103, 104, 105, 106, 107, 108, 109, 110, 111, 112, 113, 114, 115, 116, 117, 118, 119, 120, 121, 122, 123, 124, 125, 126, 127, 128, 129, 130, 131] (by decide +kernel) (by decide +kernel)
set_option maxRecDepth 20000 in
theorem gX8_drop_X8_placeOf : GoodIn wsX8_drop (wsV RX8 213 RX8 yX8_placeOf wsX8_placeOf) := goodIn_app (goodIn_of _ (by decide +kernel)) ggX8_drop_X8_placeOf
set_option maxRecDepth 20000 in
theorem ggX8_drop_X8_leaves : GoodIn wsX8_drop wsX8_leaves := goodIn_r _ [48, 2, 40, 73, 74, 75, 76, 77, 78, 79, 80, 81, 82, 83, 84, 85, 86, 87, 88, 89, 90, 91, 92, 93, 94, 95, 96, 97, 98, 99, 100, 101, 102, 103, 104, 105, 106, 107, 108, 109, 110, 111, 112, 113, 114, 115, 116, 117, 118, 119, 120, 121, 122, 123, 124, 125, 126, 127, 128, 129, 130, 131] (by decide +kernel) (by decide +kernel)
set_option maxRecDepth 20000 in
theorem gX8_drop_X8_leaves : GoodIn wsX8_drop (wsV RX8 268 RX8 yX8_leaves wsX8_leaves) := goodIn_app (goodIn_of _ (by decide +kernel)) ggX8_drop_X8_leaves
set_option maxRecDepth 20000 in
theorem ggX8_drop_X8_ties : GoodIn wsX8_drop wsX8_ties := goodIn_r _ [72, 38, 22, 39, 32, 73, 74, 75, 76, 77, 78, 79, 80, 81, 82, 83, 84, 85, 86, 87, 88, 89, 90, 91, 92, 93, 94, 95, 96, 97, 98, 99, 100, 101, 102, 103, 104, 105, 106, 107, 108, 109, 110, 111, 112, 113, 114, 115, 116, 117, 118, 119, 120, 121, 122, 123, 124, 125, 126, 127, 128, 129, 130, 131] (by decide +kernel) (by decide +kernel)
set_option maxRecDepth 20000 in
theorem gX8_drop_X8_ties : GoodIn wsX8_drop (wsV RX8 203 RX8 yX8_ties wsX8_ties) := goodIn_app (goodIn_of _ (by decide +kernel)) ggX8_drop_X8_ties
set_option maxRecDepth 20000 in
theorem ggX8_radio_X8_isBoat : GoodIn wsX8_radio wsX8_isBoat := goodIn_r _ [6, 7, 8, 9, 5, 10, 16, 17, 18, 19, 20, 21, 22, 23, 24, 25, 26, 27, 28, 29, 30, 31, 32, 33, 34, 35, 36, 37, 38, 39, 40, 41, 42, 43, 44, 45, 46, 47, 48, 49, 50, 51, 52, 53, 54, 55, 56, 57, 58, 59, 60, 61, 62, 63, 64, 65, 66, 67, 68, 69, 70, 71, 72, 73, 74] (by decide +kernel) (by decide +kernel)
set_option maxRecDepth 20000 in
theorem gX8_radio_X8_isBoat : GoodIn wsX8_radio (wsV RX8 247 RX8 yX8_isBoat wsX8_isBoat) := goodIn_app (goodIn_of _ (by decide +kernel)) ggX8_radio_X8_isBoat
set_option maxRecDepth 20000 in
theorem ggX8_radio_X8_holds : GoodIn wsX8_radio wsX8_holds := goodIn_r _ [14, 15, 16, 17, 18, 19, 20, 21, 22, 23, 24, 25, 26, 27, 28, 29, 30, 31, 32, 33, 34, 35, 36, 37, 38, 39, 40, 41, 42, 43, 44, 45, 46, 47, 48, 49, 50, 51, 52, 53, 54, 55, 56, 57, 58, 59, 60, 61, 62, 63, 64, 65, 66, 67, 68, 69, 70, 71, 72, 73, 74] (by decide +kernel) (by decide +kernel)
set_option maxRecDepth 20000 in
theorem gX8_radio_X8_holds : GoodIn wsX8_radio (wsV RX8 183 RX8 yX8_holds wsX8_holds) := goodIn_app (goodIn_of _ (by decide +kernel)) ggX8_radio_X8_holds
set_option maxRecDepth 20000 in
theorem ggX8_go_X8_isBoat : GoodIn wsX8_go wsX8_isBoat := goodIn_r _ [9, 10, 11, 12, 8, 13, 27, 28, 29, 30, 31, 32, 33, 34, 35, 36, 37, 38, 39, 40, 41, 42, 43, 44, 45, 46, 47, 48, 49, 50, 51, 52, 53, 54, 55, 56, 57, 58, 59, 60, 61, 62, 63, 64, 65, 66, 67, 68, 69, 70, 71, 72, 73, 74, 75, 76, 77, 78, 79, 80, 81, 82, 83, 84, 85] (by decide +kernel) (by decide +kernel)
set_option maxRecDepth 20000 in
theorem gX8_go_X8_isBoat : GoodIn wsX8_go (wsV RX8 247 RX8 yX8_isBoat wsX8_isBoat) := goodIn_app (goodIn_of _ (by decide +kernel)) ggX8_go_X8_isBoat
set_option maxRecDepth 20000 in
theorem ggX8_go_X8_isPoint : GoodIn wsX8_go wsX8_isPoint := goodIn_r _ [16, 11, 12, 8, 13] (by decide +kernel) (by decide +kernel)
set_option maxRecDepth 20000 in
theorem gX8_go_X8_isPoint : GoodIn wsX8_go (va_wsS RX8 163 yX8_isPoint wsX8_isPoint) := goodIn_app (goodIn_of _ (by decide +kernel)) ggX8_go_X8_isPoint
set_option maxRecDepth 20000 in
theorem ggX8_go_X8_holds : GoodIn wsX8_go wsX8_holds := goodIn_r _ [20, 21, 27, 28, 29, 30, 31, 32, 33, 34, 35, 36, 37, 38, 39, 40, 41, 42, 43, 44, 45, 46, 47, 48, 49, 50, 51, 52, 53, 54, 55, 56, 57, 58, 59, 60, 61, 62, 63, 64, 65, 66, 67, 68, 69, 70, 71, 72, 73, 74, 75, 76, 77, 78, 79, 80, 81, 82, 83, 84, 85] (by decide +kernel) (by decide +kernel)
set_option maxRecDepth 20000 in
theorem gX8_go_X8_holds : GoodIn wsX8_go (wsV RX8 183 RX8 yX8_holds wsX8_holds) := goodIn_app (goodIn_of _ (by decide +kernel)) ggX8_go_X8_holds
set_option maxRecDepth 20000 in
theorem ggX8_go_X8_stands : GoodIn wsX8_go wsX8_stands := goodIn_r _ [25, 26, 27, 28, 29, 30, 31, 32, 33, 34, 35, 36, 37, 38, 39, 40, 41, 42, 43, 44, 45, 46, 47, 48, 49, 50, 51, 52, 53, 54, 55, 56, 57, 58, 59, 60, 61, 62, 63, 64, 65, 66, 67, 68, 69, 70, 71, 72, 73, 74, 75, 76, 77, 78, 79, 80, 81, 82, 83, 84, 85] (by decide +kernel) (by decide +kernel)
set_option maxRecDepth 20000 in
theorem gX8_go_X8_stands : GoodIn wsX8_go (wsV RX8 250 RX8 yX8_stands wsX8_stands) := goodIn_app (goodIn_of _ (by decide +kernel)) ggX8_go_X8_stands
set_option maxRecDepth 20000 in
theorem ggX8_unfit_X8_draughtOf : GoodIn wsX8_unfit wsX8_draughtOf := goodIn_r _ [13, 4, 14, 15, 29, 30, 31, 32, 33, 34, 35, 36, 37, 38, 39, 40, 41, 42, 43, 44, 45, 46, 47, 48, 49, 50, 51, 52, 53, 54, 55, 56, 57, 58, 59, 60, 61, 62, 63, 64, 65, 66, 67, 68, 69, 70, 71, 72, 73, 74, 75, 76, 77, 78, 79, 80, 81, 82, 83, 84, 85, 86, 87] (by decide +kernel) (by decide +kernel)
set_option maxRecDepth 20000 in
theorem gX8_unfit_X8_draughtOf : GoodIn wsX8_unfit (wsV RX8 278 RX8 yX8_draughtOf wsX8_draughtOf) := goodIn_app (goodIn_of _ (by decide +kernel)) ggX8_unfit_X8_draughtOf
set_option maxRecDepth 20000 in
theorem ggX8_unfit_X8_widthOf : GoodIn wsX8_unfit wsX8_widthOf := goodIn_r _ [19, 4, 20, 29, 30, 31, 32, 33, 34, 35, 36, 37, 38, 39, 40, 41, 42, 43, 44, 45, 46, 47, 48, 49, 50, 51, 52, 53, 54, 55, 56, 57, 58, 59, 60, 61, 62, 63, 64, 65, 66, 67, 68, 69, 70, 71, 72, 73, 74, 75, 76, 77, 78, 79, 80, 81, 82, 83, 84, 85, 86, 87] (by decide +kernel) (by decide +kernel)
set_option maxRecDepth 20000 in
theorem gX8_unfit_X8_widthOf : GoodIn wsX8_unfit (wsV RX8 281 RX8 yX8_widthOf wsX8_widthOf) := goodIn_app (goodIn_of _ (by decide +kernel)) ggX8_unfit_X8_widthOf
set_option maxRecDepth 20000 in
theorem ggX8_unfit_X8_weightOf : GoodIn wsX8_unfit wsX8_weightOf := goodIn_r _ [24, 4, 14, 15, 29, 30, 31, 32, 33, 34, 35, 36, 37, 38, 39, 40, 41, 42, 43, 44, 45, 46, 47, 48, 49, 50, 51, 52, 53, 54, 55, 56, 57, 58, 59, 60, 61, 62, 63, 64, 65, 66, 67, 68, 69, 70, 71, 72, 73, 74, 75, 76, 77, 78, 79, 80, 81, 82, 83, 84, 85, 86, 87] (by decide +kernel) (by decide +kernel)
set_option maxRecDepth 20000 in
theorem gX8_unfit_X8_weightOf : GoodIn wsX8_unfit (wsV RX8 284 RX8 yX8_weightOf wsX8_weightOf) := goodIn_app (goodIn_of _ (by decide +kernel)) ggX8_unfit_X8_weightOf
set_option maxRecDepth 20000 in
theorem ggX8_unfit_X8_mostOf : GoodIn wsX8_unfit wsX8_mostOf := goodIn_r _ [28, 7, 2, 29, 30, 31, 32, 33, 34, 35, 36, 37, 38, 39, 40, 41, 42, 43, 44, 45, 46, 47, 48, 49, 50, 51, 52, 53, 54, 55, 56, 57, 58, 59, 60, 61, 62, 63, 64, 65, 66, 67, 68, 69, 70, 71, 72, 73, 74, 75, 76, 77, 78, 79, 80, 81, 82, 83, 84, 85, 86, 87] (by decide +kernel) (by decide +kernel)
set_option maxRecDepth 20000 in
theorem gX8_unfit_X8_mostOf : GoodIn wsX8_unfit (wsV RX8 287 RX8 yX8_mostOf wsX8_mostOf) := goodIn_app (goodIn_of _ (by decide +kernel)) ggX8_unfit_X8_mostOf
set_option maxRecDepth 20000 in
theorem ggX8_nextOf_X8_isUp : GoodIn wsX8_nextOf wsX8_isUp := goodIn_r _ [6, 7, 1, 8, 9, 10, 11, 12, 13, 14, 15, 16, 17, 18, 19, 20, 21, 22, 23, 24, 25, 26, 27, 28, 29, 30, 31, 32, 33, 34, 35, 36, 37, 38, 39, 40, 41, 42, 43, 44, 45, 46, 47, 48, 49, 50, 51, 52, 53, 54, 55, 56, 57, 58, 59, 60, 61, 62, 63, 64, 65, 66] (by decide +kernel) (by decide +kernel)
set_option maxRecDepth 20000 in
theorem gX8_nextOf_X8_isUp : GoodIn wsX8_nextOf (wsV RX8 291 RX8 yX8_isUp wsX8_isUp) := goodIn_app (goodIn_of _ (by decide +kernel)) ggX8_nextOf_X8_isUp
set_option maxRecDepth 20000 in
theorem ggX8_early_X8_nextOf : GoodIn wsX8_early wsX8_nextOf := goodIn_r _ [12, 13, 14, 15, 16, 11, 17, 18, 54, 55, 56, 57, 58, 59, 60, 61, 62, 63, 64, 65, 66, 67, 68, 69, 70, 71, 72, 73, 74, 75, 76, 77, 78, 79, 80, 81, 82, 83, 84, 85, 86, 87, 88, 89, 90, 91, 92, 93, 94, 95, 96, 97, 98, 99, 100, 101, 102, 103, 104, 105, 106, 107, 108, 109, 110, 111, 112] (by decide +kernel) (by decide +kernel)
set_option maxRecDepth 20000 in
theorem gX8_early_X8_nextOf : GoodIn wsX8_early (wsV RX8 294 RX8 yX8_nextOf wsX8_nextOf) := goodIn_app (goodIn_of _ (by decide +kernel)) ggX8_early_X8_nextOf
set_option maxRecDepth 20000 in
theorem ggX8_early_X8_isUp : GoodIn wsX8_early wsX8_isUp := goodIn_r _ [17, 18, 13, 54, 55, 56, 57, 58, 59, 60, 61, 62, 63, 64, 65, 66, 67, 68, 69, 70, 71, 72, 73, 74, 75, 76, 77, 78, 79, 80, 81, 82, 83, 84, 85, 86, 87, 88, 89, 90, 91, 92, 93, 94, 95, 96, 97, 98, 99, 100, 101, 102, 103, 104, 105, 106, 107, 108, 109, 110, 111, 112] (by decide +kernel) (by decide +kernel)
set_option maxRecDepth 20000 in
theorem gX8_early_X8_isUp : GoodIn wsX8_early (wsV RX8 291 RX8 yX8_isUp wsX8_isUp) := goodIn_app (goodIn_of _ (by decide +kernel)) ggX8_early_X8_isUp
set_option maxRecDepth 20000 in
theorem ggX8_early_X8_unfit : GoodIn wsX8_early wsX8_unfit := goodIn_r _ [22, 23, 24, 1, 25, 26, 27, 7, 28, 29, 30, 31, 11, 32, 33, 34, 35, 36, 37, 38, 39, 40, 41, 42, 43, 44, 45, 46, 47, 54, 55, 56, 57, 58, 59, 60, 61, 62, 63, 64, 65, 66, 67, 68, 69, 70, 71, 72, 73, 74, 75, 76, 77, 78, 79, 80, 81, 82, 83, 84, 85, 86, 87, 88, 89, 90, 91, 92, 93, 94, 95, 96, 97, 98, 99, 100, 101, 102, 103, 104, 105, 106, 107, 108, 109, 110, 111, 112] (by decide +kernel) (by decide +kernel)
set_option maxRecDepth 20000 in
theorem gX8_early_X8_unfit : GoodIn wsX8_early (wsV RX8 297 RX8 yX8_unfit wsX8_unfit) := goodIn_app (goodIn_of _ (by decide +kernel)) ggX8_early_X8_unfit
set_option maxRecDepth 20000 in
theorem ggX8_early_X8_hoursIn : GoodIn wsX8_early wsX8_hoursIn := goodIn_r _ [51, 52, 1, 25, 26, 53, 28, 54, 55, 56, 57, 58, 59, 60, 61, 62, 63, 64, 65, 66, 67, 68, 69, 70, 71, 72, 73, 74, 75, 76, 77, 78, 79, 80, 81, 82, 83, 84, 85, 86, 87, 88, 89, 90, 91, 92, 93, 94, 95, 96, 97, 98, 99, 100, 101, 102, 103, 104, 105, 106, 107, 108, 109, 110, 111, 112] (by decide +kernel) (by decide +kernel)
set_option maxRecDepth 20000 in
theorem gX8_early_X8_hoursIn : GoodIn wsX8_early (wsV RX8 301 RX8 yX8_hoursIn wsX8_hoursIn) := goodIn_app (goodIn_of _ (by decide +kernel)) ggX8_early_X8_hoursIn
set_option maxRecDepth 20000 in
theorem ggX8_meets_X8_nextOf : GoodIn wsX8_meets wsX8_nextOf := goodIn_r _ [11, 12, 13, 14, 15, 10, 16, 17, 28, 29, 30, 31, 32, 33, 34, 35, 36, 37, 38, 39, 40, 41, 42, 43, 44, 45, 46, 47, 48, 49, 50, 51, 52, 53, 54, 55, 56, 57, 58, 59, 60, 61, 62, 63, 64, 65, 66, 67, 68, 69, 70, 71, 72, 73, 74, 75, 76, 77, 78, 79, 80, 81, 82, 83, 84, 85, 86] (by decide +kernel) (by decide +kernel)
set_option maxRecDepth 20000 in
theorem gX8_meets_X8_nextOf : GoodIn wsX8_meets (wsV RX8 294 RX8 yX8_nextOf wsX8_nextOf) := goodIn_app (goodIn_of _ (by decide +kernel)) ggX8_meets_X8_nextOf
set_option maxRecDepth 20000 in
theorem ggX8_meets_X8_boatsIn : GoodIn wsX8_meets wsX8_boatsIn := goodIn_r _ [21, 2, 3, 28, 29, 30, 31, 32, 33, 34, 35, 36, 37, 38, 39, 40, 41, 42, 43, 44, 45, 46, 47, 48, 49, 50, 51, 52, 53, 54, 55, 56, 57, 58, 59, 60, 61, 62, 63, 64, 65, 66, 67, 68, 69, 70, 71, 72, 73, 74, 75, 76, 77, 78, 79, 80, 81, 82, 83, 84, 85, 86] (by decide +kernel) (by decide +kernel)
set_option maxRecDepth 20000 in
theorem gX8_meets_X8_boatsIn : GoodIn wsX8_meets (wsV RX8 179 RX8 yX8_boatsIn wsX8_boatsIn) := goodIn_app (goodIn_of _ (by decide +kernel)) ggX8_meets_X8_boatsIn
set_option maxRecDepth 20000 in
theorem ggX8_meets_X8_isUp : GoodIn wsX8_meets wsX8_isUp := goodIn_r _ [16, 17, 12, 28, 29, 30, 31, 32, 33, 34, 35, 36, 37, 38, 39, 40, 41, 42, 43, 44, 45, 46, 47, 48, 49, 50, 51, 52, 53, 54, 55, 56, 57, 58, 59, 60, 61, 62, 63, 64, 65, 66, 67, 68, 69, 70, 71, 72, 73, 74, 75, 76, 77, 78, 79, 80, 81, 82, 83, 84, 85, 86] (by decide +kernel) (by decide +kernel)
set_option maxRecDepth 20000 in
theorem gX8_meets_X8_isUp : GoodIn wsX8_meets (wsV RX8 291 RX8 yX8_isUp wsX8_isUp) := goodIn_app (goodIn_of _ (by decide +kernel)) ggX8_meets_X8_isUp
set_option maxRecDepth 20000 in
theorem ggX8_meets_X8_widthOf : GoodIn wsX8_meets wsX8_widthOf := goodIn_r _ [25, 26, 27, 28, 29, 30, 31, 32, 33, 34, 35, 36, 37, 38, 39, 40, 41, 42, 43, 44, 45, 46, 47, 48, 49, 50, 51, 52, 53, 54, 55, 56, 57, 58, 59, 60, 61, 62, 63, 64, 65, 66, 67, 68, 69, 70, 71, 72, 73, 74, 75, 76, 77, 78, 79, 80, 81, 82, 83, 84, 85, 86] (by decide +kernel) (by decide +kernel)
set_option maxRecDepth 20000 in
theorem gX8_meets_X8_widthOf : GoodIn wsX8_meets (wsV RX8 281 RX8 yX8_widthOf wsX8_widthOf) := goodIn_app (goodIn_of _ (by decide +kernel)) ggX8_meets_X8_widthOf
set_option maxRecDepth 20000 in
theorem ggX8_aheadIn_X8_stands : GoodIn wsX8_aheadIn wsX8_stands := goodIn_r _ [8, 9, 65, 66, 67, 68, 69, 70, 71, 72, 73, 74, 75, 76, 77, 78, 79, 80, 81, 82, 83, 84, 85, 86, 87, 88, 89, 90, 91, 92, 93, 94, 95, 96, 97, 98, 99, 100, 101, 102, 103, 104, 105, 106, 107, 108, 109, 110, 111, 112, 113, 114, 115, 116, 117, 118, 119, 120, 121, 122, 123] (by decide +kernel) (by decide +kernel)
set_option maxRecDepth 20000 in
theorem gX8_aheadIn_X8_stands : GoodIn wsX8_aheadIn (wsV RX8 250 RX8 yX8_stands wsX8_stands) := goodIn_app (goodIn_of _ (by decide +kernel)) ggX8_aheadIn_X8_stands
set_option maxRecDepth 20000 in
theorem ggX8_aheadIn_X8_isUp : GoodIn wsX8_aheadIn wsX8_isUp := goodIn_r _ [13, 2, 14, 65, 66, 67, 68, 69, 70, 71, 72, 73, 74, 75, 76, 77, 78, 79, 80, 81, 82, 83, 84, 85, 86, 87, 88, 89, 90, 91, 92, 93, 94, 95, 96, 97, 98, 99, 100, 101, 102, 103, 104, 105, 106, 107, 108, 109, 110, 111, 112, 113, 114, 115, 116, 117, 118, 119, 120, 121, 122, 123] (by decide +kernel) (by decide +kernel)
set_option maxRecDepth 20000 in
theorem gX8_aheadIn_X8_isUp : GoodIn wsX8_aheadIn (wsV RX8 291 RX8 yX8_isUp wsX8_isUp) := goodIn_app (goodIn_of _ (by decide +kernel)) ggX8_aheadIn_X8_isUp
set_option maxRecDepth 20000 in
theorem ggX8_aheadIn_X8_nextOf : GoodIn wsX8_aheadIn wsX8_nextOf := goodIn_r _ [18, 14, 10, 11, 12, 7, 13, 2, 65, 66, 67, 68, 69, 70, 71, 72, 73, 74, 75, 76, 77, 78, 79, 80, 81, 82, 83, 84, 85, 86, 87, 88, 89, 90, 91, 92, 93, 94, 95, 96, 97, 98, 99, 100, 101, 102, 103, 104, 105, 106, 107, 108, 109, 110, 111, 112, 113, 114, 115, 116, 117, 118, 119, 120, 121, 122, 123] (by decide +kernel) (by decide +kernel)
set_option maxRecDepth 20000 in
theorem gX8_aheadIn_X8_nextOf : GoodIn wsX8_aheadIn (wsV RX8 294 RX8 yX8_nextOf wsX8_nextOf) := goodIn_app (goodIn_of _ (by decide +kernel)) ggX8_aheadIn_X8_nextOf
set_option maxRecDepth 20000 in
theorem ggX8_aheadIn_X8_early : GoodIn wsX8_aheadIn wsX8_early := goodIn_r _ [22, 23, 24, 25, 26, 27, 28, 29, 15, 16, 17, 7, 18, 14, 10, 11, 12, 13, 2, 30, 31, 32, 33, 34, 35, 36, 37, 38, 39, 40, 41, 42, 43, 44, 45, 46, 47, 48, 49, 50, 51, 52, 53, 54, 55, 56, 57, 58, 59, 60, 61, 62, 63, 64, 65, 66, 67, 68, 69, 70, 71, 72, 73, 74, 75, 76, 77, 78, 79, 80, 81, 82, 83, 84, 85, 86, 87, 88, 89, 90, 91, 92, 93, 94, 95, 96, 97, 98, 99, 100, 101, 102, 103, 104, 105, 106, 107, 108, 109, 110, 111, 112, 113, 114, 115, 116, 117, 118, 119, 120, 121, 122, 123] (by decide +kernel) (by decide +kernel)
set_option maxRecDepth 20000 in
theorem gX8_aheadIn_X8_early : GoodIn wsX8_aheadIn (wsV RX8 304 RX8 yX8_early wsX8_early) := goodIn_app (goodIn_of _ (by decide +kernel)) ggX8_aheadIn_X8_early
set_option maxRecDepth 20000 in
theorem ggX8_aheadAt_X8_aheadIn : GoodIn wsX8_aheadAt wsX8_aheadIn := goodIn_r _ [8, 9, 10, 11, 12, 13, 14, 7, 15, 16, 17, 18, 19, 20, 21, 22, 23, 24, 25, 26, 27, 28, 29, 30, 31, 32, 33, 34, 35, 36, 37, 38, 39, 40, 41, 42, 43, 44, 45, 46, 47, 48, 49, 50, 51, 52, 53, 54, 55, 56, 57, 58, 59, 60, 61, 62, 63, 64, 65, 66, 67, 68, 69, 70, 71, 72, 73, 74, 75, 76, 77, 78, 79, 80, 81, 82, 83, 84, 85, 86, 87, 88, 89, 90, 91, 92, 93, 94, 95, 96, 97, 98, 99, 100, 101, 102, 103, 104, 105, 106, 107, 108, 109, 110, 111, 112, 113, 114, 115, 116, 117, 118, 119, 120, 121, 122, 123, 124, 125, 126, 127, 128, 129, 130] (by decide +kernel) (by decide +kernel)
set_option maxRecDepth 20000 in
theorem gX8_aheadAt_X8_aheadIn : GoodIn wsX8_aheadAt (wsV RX8 307 RX8 yX8_aheadIn wsX8_aheadIn) := goodIn_app (goodIn_of _ (by decide +kernel)) ggX8_aheadAt_X8_aheadIn
set_option maxRecDepth 20000 in
theorem ggX8_barsNow_X8_early : GoodIn wsX8_barsNow wsX8_early := goodIn_r _ [6, 1, 7, 8, 9, 10, 11, 12, 13, 14, 15, 5, 16, 17, 18, 19, 20, 21, 22, 23, 24, 25, 26, 27, 28, 29, 30, 31, 32, 33, 34, 35, 36, 37, 38, 39, 40, 41, 42, 43, 44, 45, 46, 47, 48, 49, 50, 51, 52, 53, 54, 55, 56, 57, 86, 87, 88, 89, 90, 91, 92, 93, 94, 95, 96, 97, 98, 99, 100, 101, 102, 103, 104, 105, 106, 107, 108, 109, 110, 111, 112, 113, 114, 115, 116, 117, 118, 119, 120, 121, 122, 123, 124, 125, 126, 127, 128, 129, 130, 131, 132, 133, 134, 135, 136, 137, 138, 139, 140, 141, 142, 143, 144] (by decide +kernel) (by decide +kernel)
set_option maxRecDepth 20000 in
theorem gX8_barsNow_X8_early : GoodIn wsX8_barsNow (wsV RX8 304 RX8 yX8_early wsX8_early) := goodIn_app (goodIn_of _ (by decide +kernel)) ggX8_barsNow_X8_early
set_option maxRecDepth 20000 in
theorem ggX8_barsNow_X8_nextOf : GoodIn wsX8_barsNow wsX8_nextOf := goodIn_r _ [16, 17, 18, 19, 20, 5, 21, 22, 86, 87, 88, 89, 90, 91, 92, 93, 94, 95, 96, 97, 98, 99, 100, 101, 102, 103, 104, 105, 106, 107, 108, 109, 110, 111, 112, 113, 114, 115, 116, 117, 118, 119, 120, 121, 122, 123, 124, 125, 126, 127, 128, 129, 130, 131, 132, 133, 134, 135, 136, 137, 138, 139, 140, 141, 142, 143, 144] (by decide +kernel) (by decide +kernel)
set_option maxRecDepth 20000 in
theorem gX8_barsNow_X8_nextOf : GoodIn wsX8_barsNow (wsV RX8 294 RX8 yX8_nextOf wsX8_nextOf) := goodIn_app (goodIn_of _ (by decide +kernel)) ggX8_barsNow_X8_nextOf
set_option maxRecDepth 20000 in
theorem ggX8_barsNow_X8_meets : GoodIn wsX8_barsNow wsX8_meets := goodIn_r _ [61, 7, 62, 63, 64, 31, 65, 13, 14, 15, 5, 16, 17, 18, 19, 20, 21, 22, 66, 67, 68, 69, 39, 40, 41, 42, 29, 43, 86, 87, 88, 89, 90, 91, 92, 93, 94, 95, 96, 97, 98, 99, 100, 101, 102, 103, 104, 105, 106, 107, 108, 109, 110, 111, 112, 113, 114, 115, 116, 117, 118, 119, 120, 121, 122, 123, 124, 125, 126, 127, 128, 129, 130, 131, 132, 133, 134, 135, 136, 137, 138, 139, 140, 141, 142, 143, 144] (by decide +kernel) (by decide +kernel)
set_option maxRecDepth 20000 in
theorem gX8_barsNow_X8_meets : GoodIn wsX8_barsNow (wsV RX8 310 RX8 yX8_meets wsX8_meets) := goodIn_app (goodIn_of _ (by decide +kernel)) ggX8_barsNow_X8_meets
set_option maxRecDepth 20000 in
theorem ggX8_barsNow_X8_boatsIn : GoodIn wsX8_barsNow wsX8_boatsIn := goodIn_r _ [69, 62, 63, 86, 87, 88, 89, 90, 91, 92, 93, 94, 95, 96, 97, 98, 99, 100, 101, 102, 103, 104, 105, 106, 107, 108, 109, 110, 111, 112, 113, 114, 115, 116, 117, 118, 119, 120, 121, 122, 123, 124, 125, 126, 127, 128, 129, 130, 131, 132, 133, 134, 135, 136, 137, 138, 139, 140, 141, 142, 143, 144] (by decide +kernel) (by decide +kernel)
set_option maxRecDepth 20000 in
theorem gX8_barsNow_X8_boatsIn : GoodIn wsX8_barsNow (wsV RX8 179 RX8 yX8_boatsIn wsX8_boatsIn) := goodIn_app (goodIn_of _ (by decide +kernel)) ggX8_barsNow_X8_boatsIn
set_option maxRecDepth 20000 in
theorem ggX8_barsNow_X8_aheadAt : GoodIn wsX8_barsNow wsX8_aheadAt := goodIn_r _ [73, 74, 75, 76, 77, 78, 79, 5, 80, 62, 22, 81, 82, 83, 84, 85, 63, 18, 19, 20, 21, 17, 13, 14, 15, 16, 2, 3, 4, 6, 1, 7, 8, 9, 10, 11, 12, 23, 24, 25, 26, 27, 28, 29, 30, 31, 32, 33, 34, 35, 36, 37, 38, 39, 40, 41, 42, 43, 44, 45, 46, 47, 48, 49, 50, 51, 52, 53, 54, 55, 56, 57, 86, 87, 88, 89, 90, 91, 92, 93, 94, 95, 96, 97, 98, 99, 100, 101, 102, 103, 104, 105, 106, 107, 108, 109, 110, 111, 112, 113, 114, 115, 116, 117, 118, 119, 120, 121, 122, 123, 124, 125, 126, 127, 128, 129, 130, 131, 132, 133, 134, 135, 136, 137, 138, 139, 140, 141, 142, 143, 144] (by decide +kernel) (by decide +kernel)
set_option maxRecDepth 20000 in
theorem gX8_barsNow_X8_aheadAt : GoodIn wsX8_barsNow (wsV RX8 313 RX8 yX8_aheadAt wsX8_aheadAt) := goodIn_app (goodIn_of _ (by decide +kernel)) ggX8_barsNow_X8_aheadAt
set_option maxRecDepth 20000 in
theorem ggX8_moves_X8_draughtOf : GoodIn wsX8_moves wsX8_draughtOf := goodIn_r _ [10, 11, 12, 13, 31, 32, 33, 34, 35, 36, 37, 38, 39, 40, 41, 42, 43, 44, 45, 46, 47, 48, 49, 50, 51, 52, 53, 54, 55, 56, 57, 58, 59, 60, 61, 62, 63, 64, 65, 66, 67, 68, 69, 70, 71, 72, 73, 74, 75, 76, 77, 78, 79, 80, 81, 82, 83, 84, 85, 86, 87, 88, 89] (by decide +kernel) (by decide +kernel)
set_option maxRecDepth 20000 in
theorem gX8_moves_X8_draughtOf : GoodIn wsX8_moves (wsV RX8 278 RX8 yX8_draughtOf wsX8_draughtOf) := goodIn_app (goodIn_of _ (by decide +kernel)) ggX8_moves_X8_draughtOf
set_option maxRecDepth 20000 in
theorem ggX8_moves_X8_waits : GoodIn wsX8_moves wsX8_waits := goodIn_r _ [17, 18, 19, 31, 32, 33, 34, 35, 36, 37, 38, 39, 40, 41, 42, 43, 44, 45, 46, 47, 48, 49, 50, 51, 52, 53, 54, 55, 56, 57, 58, 59, 60, 61, 62, 63, 64, 65, 66, 67, 68, 69, 70, 71, 72, 73, 74, 75, 76, 77, 78, 79, 80, 81, 82, 83, 84, 85, 86, 87, 88, 89] (by decide +kernel) (by decide +kernel)
set_option maxRecDepth 20000 in
theorem gX8_moves_X8_waits : GoodIn wsX8_moves (wsV RX8 316 RX8 yX8_waits wsX8_waits) := goodIn_app (goodIn_of _ (by decide +kernel)) ggX8_moves_X8_waits
set_option maxRecDepth 20000 in
theorem ggX8_moves_X8_comes : GoodIn wsX8_moves wsX8_comes := goodIn_r _ [23, 24, 25, 1, 26, 27, 28, 29, 30, 31, 32, 33, 34, 35, 36, 37, 38, 39, 40, 41, 42, 43, 44, 45, 46, 47, 48, 49, 50, 51, 52, 53, 54, 55, 56, 57, 58, 59, 60, 61, 62, 63, 64, 65, 66, 67, 68, 69, 70, 71, 72, 73, 74, 75, 76, 77, 78, 79, 80, 81, 82, 83, 84, 85, 86, 87, 88, 89] (by decide +kernel) (by decide +kernel)
set_option maxRecDepth 20000 in
theorem gX8_moves_X8_comes : GoodIn wsX8_moves (wsV RX8 318 RX8 yX8_comes wsX8_comes) := goodIn_app (goodIn_of _ (by decide +kernel)) ggX8_moves_X8_comes
set_option maxRecDepth 20000 in
theorem ggX8_enters_X8_nextOf : GoodIn wsX8_enters wsX8_nextOf := goodIn_r _ [13, 14, 15, 16, 17, 12, 18, 19, 29, 30, 31, 32, 33, 34, 35, 36, 37, 38, 39, 40, 41, 42, 43, 44, 45, 46, 47, 48, 49, 50, 51, 52, 53, 54, 55, 56, 57, 58, 59, 60, 61, 62, 63, 64, 65, 66, 67, 68, 69, 70, 71, 72, 73, 74, 75, 76, 77, 78, 79, 80, 81, 82, 83, 84, 85, 86, 87] (by decide +kernel) (by decide +kernel)
set_option maxRecDepth 20000 in
theorem gX8_enters_X8_nextOf : GoodIn wsX8_enters (wsV RX8 294 RX8 yX8_nextOf wsX8_nextOf) := goodIn_app (goodIn_of _ (by decide +kernel)) ggX8_enters_X8_nextOf
set_option maxRecDepth 20000 in
theorem ggX8_enters_X8_isUp : GoodIn wsX8_enters wsX8_isUp := goodIn_r _ [18, 19, 14, 29, 30, 31, 32, 33, 34, 35, 36, 37, 38, 39, 40, 41, 42, 43, 44, 45, 46, 47, 48, 49, 50, 51, 52, 53, 54, 55, 56, 57, 58, 59, 60, 61, 62, 63, 64, 65, 66, 67, 68, 69, 70, 71, 72, 73, 74, 75, 76, 77, 78, 79, 80, 81, 82, 83, 84, 85, 86, 87] (by decide +kernel) (by decide +kernel)
set_option maxRecDepth 20000 in
theorem gX8_enters_X8_isUp : GoodIn wsX8_enters (wsV RX8 291 RX8 yX8_isUp wsX8_isUp) := goodIn_app (goodIn_of _ (by decide +kernel)) ggX8_enters_X8_isUp
set_option maxRecDepth 20000 in
theorem ggX8_enters_X8_hoursIn : GoodIn wsX8_enters wsX8_hoursIn := goodIn_r _ [23, 24, 6, 25, 26, 27, 28, 29, 30, 31, 32, 33, 34, 35, 36, 37, 38, 39, 40, 41, 42, 43, 44, 45, 46, 47, 48, 49, 50, 51, 52, 53, 54, 55, 56, 57, 58, 59, 60, 61, 62, 63, 64, 65, 66, 67, 68, 69, 70, 71, 72, 73, 74, 75, 76, 77, 78, 79, 80, 81, 82, 83, 84, 85, 86, 87] (by decide +kernel) (by decide +kernel)
set_option maxRecDepth 20000 in
theorem gX8_enters_X8_hoursIn : GoodIn wsX8_enters (wsV RX8 301 RX8 yX8_hoursIn wsX8_hoursIn) := goodIn_app (goodIn_of _ (by decide +kernel)) ggX8_enters_X8_hoursIn
set_option maxRecDepth 20000 in
theorem ggX8_starts_X8_stands : GoodIn wsX8_starts wsX8_stands := goodIn_r _ [7, 8, 101, 102, 103, 104, 105, 106, 107, 108, 109, 110, 111, 112, 113, 114, 115, 116, 117, 118, 119, 120, 121, 122, 123, 124, 125, 126, 127, 128, 129, 130, 131, 132, 133, 134, 135, 136, 137, 138, 139, 140, 141, 142, 143, 144, 145, 146, 147, 148, 149, 150, 151, 152, 153, 154, 155, 156, 157, 158, 159] (by decide +kernel) (by decide +kernel)
set_option maxRecDepth 20000 in
theorem gX8_starts_X8_stands : GoodIn wsX8_starts (wsV RX8 250 RX8 yX8_stands wsX8_stands) := goodIn_app (goodIn_of _ (by decide +kernel)) ggX8_starts_X8_stands
set_option maxRecDepth 20000 in
theorem ggX8_starts_X8_isUp : GoodIn wsX8_starts wsX8_isUp := goodIn_r _ [12, 2, 13, 101, 102, 103, 104, 105, 106, 107, 108, 109, 110, 111, 112, 113, 114, 115, 116, 117, 118, 119, 120, 121, 122, 123, 124, 125, 126, 127, 128, 129, 130, 131, 132, 133, 134, 135, 136, 137, 138, 139, 140, 141, 142, 143, 144, 145, 146, 147, 148, 149, 150, 151, 152, 153, 154, 155, 156, 157, 158, 159] (by decide +kernel) (by decide +kernel)
set_option maxRecDepth 20000 in
theorem gX8_starts_X8_isUp : GoodIn wsX8_starts (wsV RX8 291 RX8 yX8_isUp wsX8_isUp) := goodIn_app (goodIn_of _ (by decide +kernel)) ggX8_starts_X8_isUp
set_option maxRecDepth 20000 in
theorem ggX8_starts_X8_barsNow : GoodIn wsX8_starts wsX8_barsNow := goodIn_r _ [17, 18, 19, 20, 21, 6, 22, 23, 24, 25, 26, 27, 28, 29, 30, 31, 32, 13, 9, 10, 11, 12, 2, 33, 34, 35, 36, 37, 38, 39, 40, 41, 42, 43, 44, 45, 46, 47, 48, 49, 50, 51, 52, 53, 54, 55, 56, 57, 58, 59, 60, 61, 62, 63, 64, 65, 66, 67, 68, 69, 70, 71, 1, 8, 72, 73, 74, 75, 76, 77, 78, 79, 80, 81, 82, 83, 84, 85, 86, 87, 88, 89, 3, 4, 5, 7, 101, 102, 103, 104, 105, 106, 107, 108, 109, 110, 111, 112, 113, 114, 115, 116, 117, 118, 119, 120, 121, 122, 123, 124, 125, 126, 127, 128, 129, 130, 131, 132, 133, 134, 135, 136, 137, 138, 139, 140, 141, 142, 143, 144, 145, 146, 147, 148, 149, 150, 151, 152, 153, 154, 155, 156, 157, 158, 159] (by decide +kernel) (by decide +kernel)
set_option maxRecDepth 20000 in
theorem gX8_starts_X8_barsNow : GoodIn wsX8_starts (wsV RX8 322 RX8 yX8_barsNow wsX8_barsNow) := goodIn_app (goodIn_of _ (by decide +kernel)) ggX8_starts_X8_barsNow
set_option maxRecDepth 20000 in
theorem ggX8_starts_X8_waits : GoodIn wsX8_starts wsX8_waits := goodIn_r _ [93, 94, 95, 101, 102, 103, 104, 105, 106, 107, 108, 109, 110, 111, 112, 113, 114, 115, 116, 117, 118, 119, 120, 121, 122, 123, 124, 125, 126, 127, 128, 129, 130, 131, 132, 133, 134, 135, 136, 137, 138, 139, 140, 141, 142, 143, 144, 145, 146, 147, 148, 149, 150, 151, 152, 153, 154, 155, 156, 157, 158, 159] (by decide +kernel) (by decide +kernel)
set_option maxRecDepth 20000 in
theorem gX8_starts_X8_waits : GoodIn wsX8_starts (wsV RX8 316 RX8 yX8_waits wsX8_waits) := goodIn_app (goodIn_of _ (by decide +kernel)) ggX8_starts_X8_waits
