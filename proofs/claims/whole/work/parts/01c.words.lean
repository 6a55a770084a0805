set_option maxRecDepth 20000 in
theorem ggX0_isTiedAt_X4_isTow : GoodIn wsX0_isTiedAt wsX4_isTow := goodIn_r _ [7, 8, 15, 16, 17, 18, 19, 20] (by decide +kernel) (by decide +kernel)
set_option maxRecDepth 20000 in
theorem gX0_isTiedAt_X4_isTow : GoodIn wsX0_isTiedAt (wsV RX0 25 RX4 yX4_isTow wsX4_isTow) := goodIn_app (goodIn_of _ (by decide +kernel)) ggX0_isTiedAt_X4_isTow
set_option maxRecDepth 20000 in
theorem ggX0_isOutermostAt_X0_isTiedAt : GoodIn wsX0_isOutermostAt wsX0_isTiedAt := goodIn_r _ [6, 1, 7, 8, 9, 10, 11, 12, 13, 56, 57, 58, 59, 60, 61, 62, 63, 64, 65, 66, 67] (by decide +kernel) (by decide +kernel)
set_option maxRecDepth 20000 in
theorem gX0_isOutermostAt_X0_isTiedAt : GoodIn wsX0_isOutermostAt (wsV RX0 34 RX0 yX0_isTiedAt wsX0_isTiedAt) := goodIn_app (goodIn_of _ (by decide +kernel)) ggX0_isOutermostAt_X0_isTiedAt
set_option maxRecDepth 20000 in
theorem ggX0_isOutermostAt_X4_behind : GoodIn wsX0_isOutermostAt wsX4_behind := goodIn_r _ [17, 18, 19, 20, 11, 21, 22, 23, 24, 25, 26, 27, 28, 29, 30, 31, 32, 33, 34, 35, 36, 37, 38, 39, 40, 41, 42, 43, 44, 45, 46, 47, 48, 49, 50, 51, 52, 53, 5, 54, 55, 62, 63, 64, 65, 66, 67, 68, 69, 70, 56, 57, 58, 59, 60, 61] (by decide +kernel) (by decide +kernel)
set_option maxRecDepth 20000 in
theorem gX0_isOutermostAt_X4_behind : GoodIn wsX0_isOutermostAt (wsV RX0 38 RX4 yX4_behind wsX4_behind) := goodIn_app (goodIn_of _ (by decide +kernel)) ggX0_isOutermostAt_X4_behind
set_option maxRecDepth 20000 in
theorem ggX0_isFitFor_X0_isTypeFor : GoodIn wsX0_isFitFor wsX0_isTypeFor := goodIn_r _ [8, 9, 21, 22, 23, 24, 25, 26] (by decide +kernel) (by decide +kernel)
set_option maxRecDepth 20000 in
theorem gX0_isFitFor_X0_isTypeFor : GoodIn wsX0_isFitFor (wsV RX0 47 RX0 yX0_isTypeFor wsX0_isTypeFor) := goodIn_app (goodIn_of _ (by decide +kernel)) ggX0_isFitFor_X0_isTypeFor
set_option maxRecDepth 20000 in
theorem ggX1_init_X4_init : GoodIn wsX1_init wsX4_init := goodIn_r _ [18, 19, 2, 3, 20, 21, 22, 23, 24, 25, 26, 27, 28, 29, 30, 31, 32, 33, 34, 35, 36, 37, 38, 39, 40, 41, 42, 43, 59, 60, 61, 62, 63, 64, 65, 66, 67] (by decide +kernel) (by decide +kernel)
set_option maxRecDepth 20000 in
theorem gX1_init_X4_init : GoodIn wsX1_init (wsX4_init) := ggX1_init_X4_init
set_option maxRecDepth 20000 in
theorem ggX4_init_Jx4a65c_init_da8c8 : GoodIn wsX4_init wsJx4a65c_init_da8c8 := goodIn_r _ [15, 16, 17, 18, 19, 20, 21, 22, 23, 24, 25, 26, 27, 2, 3, 34, 35, 36] (by decide +kernel) (by decide +kernel)
set_option maxRecDepth 20000 in
theorem gX4_init_Jx4a65c_init_da8c8 : GoodIn wsX4_init (wsJx4a65c_init_da8c8) := ggX4_init_Jx4a65c_init_da8c8
set_option maxRecDepth 20000 in
theorem ggX4_size_Jx4a65c_size_8abf5 : GoodIn wsX4_size wsJx4a65c_size_8abf5 := goodIn_r _ [6, 7, 14, 15, 16] (by decide +kernel) (by decide +kernel)
set_option maxRecDepth 20000 in
theorem gX4_size_Jx4a65c_size_8abf5 : GoodIn wsX4_size (wsV RX4 34 RJx4a65c yJx4a65c_size_8abf5 wsJx4a65c_size_8abf5) := goodIn_app (goodIn_of _ (by decide +kernel)) ggX4_size_Jx4a65c_size_8abf5
set_option maxRecDepth 20000 in
theorem ggX4_hasRoom_Jx4a65c_size_8abf5 : GoodIn wsX4_hasRoom wsJx4a65c_size_8abf5 := goodIn_r _ [7, 8, 15, 16, 17] (by decide +kernel) (by decide +kernel)
set_option maxRecDepth 20000 in
theorem gX4_hasRoom_Jx4a65c_size_8abf5 : GoodIn wsX4_hasRoom (wsV RX4 34 RJx4a65c yJx4a65c_size_8abf5 wsJx4a65c_size_8abf5) := goodIn_app (goodIn_of _ (by decide +kernel)) ggX4_hasRoom_Jx4a65c_size_8abf5
set_option maxRecDepth 20000 in
theorem ggX4_placeOf_Jx4a65c_size_8abf5 : GoodIn wsX4_placeOf wsJx4a65c_size_8abf5 := goodIn_r _ [6, 7, 31, 32, 33] (by decide +kernel) (by decide +kernel)
set_option maxRecDepth 20000 in
theorem gX4_placeOf_Jx4a65c_size_8abf5 : GoodIn wsX4_placeOf (wsV RX4 34 RJx4a65c yJx4a65c_size_8abf5 wsJx4a65c_size_8abf5) := goodIn_app (goodIn_of _ (by decide +kernel)) ggX4_placeOf_Jx4a65c_size_8abf5
set_option maxRecDepth 20000 in
theorem ggX4_placeOf_Jx4a65c_get_915e3 : GoodIn wsX4_placeOf wsJx4a65c_get_915e3 := goodIn_r _ [11, 7, 12, 13, 14, 15, 16, 17, 18, 19, 20, 21, 22, 5, 23, 24, 31, 32, 33] (by decide +kernel) (by decide +kernel)
set_option maxRecDepth 20000 in
theorem gX4_placeOf_Jx4a65c_get_915e3 : GoodIn wsX4_placeOf (wsV RX4 38 RJx4a65c yJx4a65c_get_915e3 wsJx4a65c_get_915e3) := goodIn_app (goodIn_of _ (by decide +kernel)) ggX4_placeOf_Jx4a65c_get_915e3
set_option maxRecDepth 20000 in
theorem ggX4_behind_X4_behindWithout : GoodIn wsX4_behind wsX4_behindWithout := goodIn_r _ [5, 6, 7, 8, 9, 10, 4, 11, 12, 13, 14, 15, 16, 17, 18, 19, 20, 21, 22, 23, 24, 25, 26, 27, 28, 29, 30, 31, 32, 33, 34, 35, 36, 37, 38, 39, 40, 41, 42, 43, 44, 45, 46, 47, 48, 49, 50, 51, 52, 53, 54, 55] (by decide +kernel) (by decide +kernel)
set_option maxRecDepth 20000 in
theorem gX4_behind_X4_behindWithout : GoodIn wsX4_behind (wsV RX4 42 RX4 yX4_behindWithout wsX4_behindWithout) := goodIn_app (goodIn_of _ (by decide +kernel)) ggX4_behind_X4_behindWithout
set_option maxRecDepth 20000 in
theorem ggX4_behindWithout_X4_placeOf : GoodIn wsX4_behindWithout wsX4_placeOf := goodIn_r _ [7, 1, 8, 9, 10, 11, 12, 13, 14, 15, 16, 17, 18, 19, 20, 21, 22, 23, 24, 25, 26, 27, 28, 29, 30, 37, 38, 39, 40, 41, 42, 43, 44, 45] (by decide +kernel) (by decide +kernel)
set_option maxRecDepth 20000 in
theorem gX4_behindWithout_X4_placeOf : GoodIn wsX4_behindWithout (wsV RX4 46 RX4 yX4_placeOf wsX4_placeOf) := goodIn_app (goodIn_of _ (by decide +kernel)) ggX4_behindWithout_X4_placeOf
set_option maxRecDepth 20000 in
theorem ggX4_behindWithout_Jx4a65c_size_8abf5 : GoodIn wsX4_behindWithout wsJx4a65c_size_8abf5 := goodIn_r _ [12, 13, 43, 44, 45] (by decide +kernel) (by decide +kernel)
set_option maxRecDepth 20000 in
theorem gX4_behindWithout_Jx4a65c_size_8abf5 : GoodIn wsX4_behindWithout (wsV RX4 34 RJx4a65c yJx4a65c_size_8abf5 wsJx4a65c_size_8abf5) := goodIn_app (goodIn_of _ (by decide +kernel)) ggX4_behindWithout_Jx4a65c_size_8abf5
set_option maxRecDepth 20000 in
theorem ggX4_behindWithout_Jx4a65c_get_915e3 : GoodIn wsX4_behindWithout wsJx4a65c_get_915e3 := goodIn_r _ [17, 13, 18, 19, 20, 21, 22, 23, 24, 25, 26, 27, 28, 11, 29, 30, 43, 44, 45] (by decide +kernel) (by decide +kernel)
set_option maxRecDepth 20000 in
theorem gX4_behindWithout_Jx4a65c_get_915e3 : GoodIn wsX4_behindWithout (wsV RX4 38 RJx4a65c yJx4a65c_get_915e3 wsJx4a65c_get_915e3) := goodIn_app (goodIn_of _ (by decide +kernel)) ggX4_behindWithout_Jx4a65c_get_915e3
set_option maxRecDepth 20000 in
theorem ggX4_behindWithout_X0_bit : GoodIn wsX4_behindWithout wsX0_bit := goodIn_r _ [35, 36, 46, 47, 48, 49, 50, 51] (by decide +kernel) (by decide +kernel)
set_option maxRecDepth 20000 in
theorem gX4_behindWithout_X0_bit : GoodIn wsX4_behindWithout (wsV RX4 52 RX0 yX0_bit wsX0_bit) := goodIn_app (goodIn_of _ (by decide +kernel)) ggX4_behindWithout_X0_bit
set_option maxRecDepth 20000 in
theorem ggX4_append_Jx4a65c_add_9ea2d : GoodIn wsX4_append wsJx4a65c_add_9ea2d := goodIn_r _ [7, 8, 9, 10, 11, 12, 13, 14, 6, 15, 16, 17, 18, 19, 20, 21, 22, 23, 24, 25, 26, 27, 28, 29, 30, 31, 32, 33, 34, 35, 36, 37, 38, 39, 40, 41, 42, 43, 44, 45, 46, 47, 48, 49, 50, 51, 52, 53, 54, 55, 56, 57, 58, 71, 72, 73] (by decide +kernel) (by decide +kernel)
set_option maxRecDepth 20000 in
theorem gX4_append_Jx4a65c_add_9ea2d : GoodIn wsX4_append (wsV RX4 55 RJx4a65c yJx4a65c_add_9ea2d wsJx4a65c_add_9ea2d) := goodIn_app (goodIn_of _ (by decide +kernel)) ggX4_append_Jx4a65c_add_9ea2d
set_option maxRecDepth 20000 in
theorem ggX4_release_X4_placeOf : GoodIn wsX4_release wsX4_placeOf := goodIn_r _ [6, 1, 7, 8, 9, 10, 11, 12, 13, 14, 15, 16, 17, 18, 19, 20, 21, 22, 23, 24, 25, 26, 27, 28, 29, 44, 45, 46, 47, 48, 49, 50, 51, 52] (by decide +kernel) (by decide +kernel)
set_option maxRecDepth 20000 in
theorem gX4_release_X4_placeOf : GoodIn wsX4_release (wsV RX4 46 RX4 yX4_placeOf wsX4_placeOf) := goodIn_app (goodIn_of _ (by decide +kernel)) ggX4_release_X4_placeOf
set_option maxRecDepth 20000 in
theorem ggX4_release_Jx4a65c_size_8abf5 : GoodIn wsX4_release wsJx4a65c_size_8abf5 := goodIn_r _ [11, 12, 50, 51, 52] (by decide +kernel) (by decide +kernel)
set_option maxRecDepth 20000 in
theorem gX4_release_Jx4a65c_size_8abf5 : GoodIn wsX4_release (wsV RX4 34 RJx4a65c yJx4a65c_size_8abf5 wsJx4a65c_size_8abf5) := goodIn_app (goodIn_of _ (by decide +kernel)) ggX4_release_Jx4a65c_size_8abf5
set_option maxRecDepth 20000 in
theorem ggX4_release_Jx4a65c_remove_915e3 : GoodIn wsX4_release wsJx4a65c_remove_915e3 := goodIn_r _ [33, 12, 29, 17, 18, 19, 20, 21, 22, 23, 24, 34, 35, 36, 10, 37, 38, 39, 40, 41, 42, 43, 50, 51, 52] (by decide +kernel) (by decide +kernel)
set_option maxRecDepth 20000 in
theorem gX4_release_Jx4a65c_remove_915e3 : GoodIn wsX4_release (wsV RX4 63 RJx4a65c yJx4a65c_remove_915e3 wsJx4a65c_remove_915e3) := goodIn_app (goodIn_of _ (by decide +kernel)) ggX4_release_Jx4a65c_remove_915e3
set_option maxRecDepth 20000 in
theorem ggX4_weight_Jx4a65c_size_8abf5 : GoodIn wsX4_weight wsJx4a65c_size_8abf5 := goodIn_r _ [8, 9, 39, 40, 41] (by decide +kernel) (by decide +kernel)
set_option maxRecDepth 20000 in
theorem gX4_weight_Jx4a65c_size_8abf5 : GoodIn wsX4_weight (wsV RX4 34 RJx4a65c yJx4a65c_size_8abf5 wsJx4a65c_size_8abf5) := goodIn_app (goodIn_of _ (by decide +kernel)) ggX4_weight_Jx4a65c_size_8abf5
set_option maxRecDepth 20000 in
theorem ggX4_weight_Jx4a65c_get_915e3 : GoodIn wsX4_weight wsJx4a65c_get_915e3 := goodIn_r _ [13, 9, 14, 15, 16, 17, 18, 19, 20, 21, 22, 23, 24, 7, 25, 26, 39, 40, 41] (by decide +kernel) (by decide +kernel)
set_option maxRecDepth 20000 in
theorem gX4_weight_Jx4a65c_get_915e3 : GoodIn wsX4_weight (wsV RX4 38 RJx4a65c yJx4a65c_get_915e3 wsJx4a65c_get_915e3) := goodIn_app (goodIn_of _ (by decide +kernel)) ggX4_weight_Jx4a65c_get_915e3
set_option maxRecDepth 20000 in
theorem ggX4_draught_Jx4a65c_size_8abf5 : GoodIn wsX4_draught wsJx4a65c_size_8abf5 := goodIn_r _ [12, 13, 43, 44, 45] (by decide +kernel) (by decide +kernel)
set_option maxRecDepth 20000 in
theorem gX4_draught_Jx4a65c_size_8abf5 : GoodIn wsX4_draught (wsV RX4 34 RJx4a65c yJx4a65c_size_8abf5 wsJx4a65c_size_8abf5) := goodIn_app (goodIn_of _ (by decide +kernel)) ggX4_draught_Jx4a65c_size_8abf5
set_option maxRecDepth 20000 in
theorem ggX4_draught_Jx4a65c_get_915e3 : GoodIn wsX4_draught wsJx4a65c_get_915e3 := goodIn_r _ [17, 13, 18, 19, 20, 21, 22, 23, 24, 25, 26, 27, 28, 11, 29, 30, 43, 44, 45] (by decide +kernel) (by decide +kernel)
set_option maxRecDepth 20000 in
theorem gX4_draught_Jx4a65c_get_915e3 : GoodIn wsX4_draught (wsV RX4 38 RJx4a65c yJx4a65c_get_915e3 wsJx4a65c_get_915e3) := goodIn_app (goodIn_of _ (by decide +kernel)) ggX4_draught_Jx4a65c_get_915e3
set_option maxRecDepth 20000 in
theorem ggX4_breadth_Jx4a65c_size_8abf5 : GoodIn wsX4_breadth wsJx4a65c_size_8abf5 := goodIn_r _ [14, 15, 22, 23, 24] (by decide +kernel) (by decide +kernel)
set_option maxRecDepth 20000 in
theorem gX4_breadth_Jx4a65c_size_8abf5 : GoodIn wsX4_breadth (wsV RX4 34 RJx4a65c yJx4a65c_size_8abf5 wsJx4a65c_size_8abf5) := goodIn_app (goodIn_of _ (by decide +kernel)) ggX4_breadth_Jx4a65c_size_8abf5
set_option maxRecDepth 20000 in
theorem ggX4_isDangerous_Jx4a65c_size_8abf5 : GoodIn wsX4_isDangerous wsJx4a65c_size_8abf5 := goodIn_r _ [7, 8, 45, 46, 47] (by decide +kernel) (by decide +kernel)
set_option maxRecDepth 20000 in
theorem gX4_isDangerous_Jx4a65c_size_8abf5 : GoodIn wsX4_isDangerous (wsV RX4 34 RJx4a65c yJx4a65c_size_8abf5 wsJx4a65c_size_8abf5) := goodIn_app (goodIn_of _ (by decide +kernel)) ggX4_isDangerous_Jx4a65c_size_8abf5
set_option maxRecDepth 20000 in
theorem ggX4_isDangerous_X4_seenAt : GoodIn wsX4_isDangerous wsX4_seenAt := goodIn_r _ [13, 2, 14, 3, 4, 5, 6, 7, 8, 15, 16, 17, 18, 19, 20, 21, 22, 23, 24, 25, 26, 27, 28, 29, 30, 31, 39, 40, 41, 42, 43, 44, 45, 46, 47] (by decide +kernel) (by decide +kernel)
set_option maxRecDepth 20000 in
theorem gX4_isDangerous_X4_seenAt : GoodIn wsX4_isDangerous (wsV RX4 78 RX4 yX4_seenAt wsX4_seenAt) := goodIn_app (goodIn_of _ (by decide +kernel)) ggX4_isDangerous_X4_seenAt
set_option maxRecDepth 20000 in
theorem ggX4_isDangerous_X0_isDangerousBeside : GoodIn wsX4_isDangerous wsX0_isDangerousBeside := goodIn_r _ [36, 37, 38, 48, 49, 50, 51, 52, 53] (by decide +kernel) (by decide +kernel)
set_option maxRecDepth 20000 in
theorem gX4_isDangerous_X0_isDangerousBeside : GoodIn wsX4_isDangerous (wsV RX4 82 RX0 yX0_isDangerousBeside wsX0_isDangerousBeside) := goodIn_app (goodIn_of _ (by decide +kernel)) ggX4_isDangerous_X0_isDangerousBeside
set_option maxRecDepth 20000 in
theorem ggX4_seenAt_Jx4a65c_size_8abf5 : GoodIn wsX4_seenAt wsJx4a65c_size_8abf5 := goodIn_r _ [7, 8, 32, 33, 34] (by decide +kernel) (by decide +kernel)
set_option maxRecDepth 20000 in
theorem gX4_seenAt_Jx4a65c_size_8abf5 : GoodIn wsX4_seenAt (wsV RX4 34 RJx4a65c yJx4a65c_size_8abf5 wsJx4a65c_size_8abf5) := goodIn_app (goodIn_of _ (by decide +kernel)) ggX4_seenAt_Jx4a65c_size_8abf5
set_option maxRecDepth 20000 in
theorem ggX4_seenAt_Jx4a65c_get_915e3 : GoodIn wsX4_seenAt wsJx4a65c_get_915e3 := goodIn_r _ [12, 8, 13, 14, 15, 16, 17, 18, 19, 20, 21, 22, 23, 6, 24, 25, 32, 33, 34] (by decide +kernel) (by decide +kernel)
set_option maxRecDepth 20000 in
theorem gX4_seenAt_Jx4a65c_get_915e3 : GoodIn wsX4_seenAt (wsV RX4 38 RJx4a65c yJx4a65c_get_915e3 wsJx4a65c_get_915e3) := goodIn_app (goodIn_of _ (by decide +kernel)) ggX4_seenAt_Jx4a65c_get_915e3
set_option maxRecDepth 20000 in
theorem ggX5_isTooSmallFor_X4_size : GoodIn wsX5_isTooSmallFor wsX4_size := goodIn_r _ [8, 9, 10, 11, 12, 13, 14, 15, 41, 42, 43, 44, 45, 46, 47, 48, 49] (by decide +kernel) (by decide +kernel)
set_option maxRecDepth 20000 in
theorem gX5_isTooSmallFor_X4_size : GoodIn wsX5_isTooSmallFor (wsV RX5 44 RX4 yX4_size wsX4_size) := goodIn_app (goodIn_of _ (by decide +kernel)) ggX5_isTooSmallFor_X4_size
set_option maxRecDepth 20000 in
theorem ggX5_isTooSmallFor_X4_breadth : GoodIn wsX5_isTooSmallFor wsX4_breadth := goodIn_r _ [19, 20, 9, 21, 22, 23, 24, 25, 26, 27, 10, 11, 12, 13, 14, 15, 41, 42, 43, 44, 45, 46, 47, 48, 49] (by decide +kernel) (by decide +kernel)
set_option maxRecDepth 20000 in
theorem gX5_isTooSmallFor_X4_breadth : GoodIn wsX5_isTooSmallFor (wsV RX5 50 RX4 yX4_breadth wsX4_breadth) := goodIn_app (goodIn_of _ (by decide +kernel)) ggX5_isTooSmallFor_X4_breadth
set_option maxRecDepth 20000 in
theorem ggX6_init_X3_init : GoodIn wsX6_init wsX3_init := goodIn_r _ [10, 11, 2, 3, 12, 13, 14, 15, 16] (by decide +kernel) (by decide +kernel)
set_option maxRecDepth 20000 in
theorem gX6_init_X3_init_n9 : GoodIn wsX6_init (wsX3_init) := ggX6_init_X3_init
set_option maxRecDepth 20000 in
theorem ggX6_tell_X3_isFull : GoodIn wsX6_tell wsX3_isFull := goodIn_r _ [10, 11, 12, 26, 27, 28] (by decide +kernel) (by decide +kernel)
set_option maxRecDepth 20000 in
theorem gX6_tell_X3_isFull : GoodIn wsX6_tell (wsV RX6 23 RX3 yX3_isFull wsX3_isFull) := goodIn_app (goodIn_of _ (by decide +kernel)) ggX6_tell_X3_isFull
set_option maxRecDepth 20000 in
theorem ggX6_tell_X3_init : GoodIn wsX6_tell wsX3_init := goodIn_r _ [14, 15, 16, 17, 18, 12, 26, 27, 28] (by decide +kernel) (by decide +kernel)
set_option maxRecDepth 20000 in
theorem gX6_tell_X3_init_n9 : GoodIn wsX6_tell (wsX3_init) := ggX6_tell_X3_init
set_option maxRecDepth 20000 in
theorem ggX6_tell_X3_write : GoodIn wsX6_tell wsX3_write := goodIn_r _ [22, 11, 12, 26, 27, 28] (by decide +kernel) (by decide +kernel)
set_option maxRecDepth 20000 in
theorem gX6_tell_X3_write : GoodIn wsX6_tell (wsV RX6 30 RX3 yX3_write wsX3_write) := goodIn_app (goodIn_of _ (by decide +kernel)) ggX6_tell_X3_write
set_option maxRecDepth 20000 in
theorem ggX6_latestOfBarge_X6_latestOf : GoodIn wsX6_latestOfBarge wsX6_latestOf := goodIn_r _ [5, 6, 7, 8, 9, 10, 11, 4, 12, 13, 14, 15, 16, 17, 18] (by decide +kernel) (by decide +kernel)
set_option maxRecDepth 20000 in
theorem gX6_latestOfBarge_X6_latestOf : GoodIn wsX6_latestOfBarge (wsV RX6 34 RX6 yX6_latestOf wsX6_latestOf) := goodIn_app (goodIn_of _ (by decide +kernel)) ggX6_latestOfBarge_X6_latestOf
set_option maxRecDepth 20000 in
theorem ggX6_latestOfBoat_X6_latestOf : GoodIn wsX6_latestOfBoat wsX6_latestOf := goodIn_r _ [5, 6, 7, 8, 9, 10, 11, 4, 12, 13, 14, 15, 16, 17, 18] (by decide +kernel) (by decide +kernel)
set_option maxRecDepth 20000 in
theorem gX6_latestOfBoat_X6_latestOf : GoodIn wsX6_latestOfBoat (wsV RX6 34 RX6 yX6_latestOf wsX6_latestOf) := goodIn_app (goodIn_of _ (by decide +kernel)) ggX6_latestOfBoat_X6_latestOf
set_option maxRecDepth 20000 in
theorem ggX6_latestOf_X6_eventOf : GoodIn wsX6_latestOf wsX6_eventOf := goodIn_r _ [8] (by decide +kernel) (by decide +kernel)
set_option maxRecDepth 20000 in
theorem gX6_latestOf_X6_eventOf : GoodIn wsX6_latestOf (va_wsS RX6 45 yX6_eventOf wsX6_eventOf) := goodIn_app (goodIn_of _ (by decide +kernel)) ggX6_latestOf_X6_eventOf
set_option maxRecDepth 20000 in
theorem ggX7_init_Jx4a65c_init_da8c8 : GoodIn wsX7_init wsJx4a65c_init_da8c8 := goodIn_r _ [26, 27, 28, 29, 30, 31, 32, 33, 34, 35, 36, 37, 38, 2, 3, 124, 125, 126] (by decide +kernel) (by decide +kernel)
set_option maxRecDepth 20000 in
theorem gX7_init_Jx4a65c_init_da8c8 : GoodIn wsX7_init (wsJx4a65c_init_da8c8) := ggX7_init_Jx4a65c_init_da8c8
set_option maxRecDepth 20000 in
theorem ggX7_init_X6_init : GoodIn wsX7_init wsX6_init := goodIn_r _ [40, 41, 2, 3, 42, 43, 44, 45, 46, 47, 48, 49, 12, 50, 163, 164, 165, 141, 142, 143] (by decide +kernel) (by decide +kernel)
set_option maxRecDepth 20000 in
theorem gX7_init_X6_init_n34 : GoodIn wsX7_init (wsX6_init) := ggX7_init_X6_init
set_option maxRecDepth 20000 in
theorem ggX7_init_X5_init : GoodIn wsX7_init wsX5_init := goodIn_r _ [53, 54, 2, 3, 55, 56, 57, 58, 144, 145, 146, 147, 148, 149, 150, 151, 152, 153, 154, 155, 156] (by decide +kernel) (by decide +kernel)
set_option maxRecDepth 20000 in
theorem gX7_init_X5_init : GoodIn wsX7_init (wsX5_init) := ggX7_init_X5_init
set_option maxRecDepth 20000 in
theorem ggX7_init_Jx4a65c_add_9ea2d : GoodIn wsX7_init wsJx4a65c_add_9ea2d := goodIn_r _ [62, 63, 64, 28, 65, 66, 67, 68, 6, 69, 70, 71, 72, 73, 74, 75, 76, 77, 27, 78, 79, 80, 81, 82, 83, 84, 85, 86, 87, 88, 89, 90, 91, 92, 93, 94, 95, 96, 97, 98, 99, 100, 101, 102, 103, 104, 105, 106, 107, 108, 109, 110, 111, 124, 125, 126] (by decide +kernel) (by decide +kernel)
set_option maxRecDepth 20000 in
theorem gX7_init_Jx4a65c_add_9ea2d : GoodIn wsX7_init (wsV RX7 44 RJx4a65c yJx4a65c_add_9ea2d wsJx4a65c_add_9ea2d) := goodIn_app (goodIn_of _ (by decide +kernel)) ggX7_init_Jx4a65c_add_9ea2d
set_option maxRecDepth 20000 in
theorem ggX7_init_X4_init : GoodIn wsX7_init wsX4_init := goodIn_r _ [114, 115, 2, 3, 116, 117, 5, 6, 118, 119, 120, 121, 122, 123, 25, 26, 27, 28, 29, 30, 31, 32, 33, 34, 35, 36, 37, 38, 157, 158, 159, 160, 161, 162, 124, 125, 126] (by decide +kernel) (by decide +kernel)
set_option maxRecDepth 20000 in
theorem gX7_init_X4_init : GoodIn wsX7_init (wsX4_init) := ggX7_init_X4_init
set_option maxRecDepth 20000 in
theorem ggX7_reach_X7_needSection : GoodIn wsX7_reach wsX7_needSection := goodIn_ca (goodIn_r _ [5, 6, 7, 8, 9, 10, 11, 12, 13, 14, 15, 16, 17, 18, 19, 20, 21, 22, 23, 24, 25, 26, 27, 28, 29, 30, 31, 32, 65, 66, 67, 68, 69, 70, 71, 72, 73, 74, 75, 76, 77, 78, 79, 80, 81] (by decide +kernel) (by decide +kernel)) (goodIn_sub (fun _ h => List.mem_cons_of_mem _ (List.mem_append_left _ (List.mem_append_left _ (List.mem_append_right _ h)))) (by decide +kernel))
set_option maxRecDepth 20000 in
theorem gX7_reach_X7_needSection : GoodIn wsX7_reach (wsV RX7 53 RX7 yX7_needSection wsX7_needSection) := goodIn_app (goodIn_of _ (by decide +kernel)) ggX7_reach_X7_needSection
set_option maxRecDepth 20000 in
theorem ggX7_reach_X7_needWithin : GoodIn wsX7_reach wsX7_needWithin := goodIn_ca (goodIn_r _ [35, 36, 37] (by decide +kernel) (by decide +kernel)) (goodIn_sub (fun _ h => List.mem_cons_of_mem _ (List.mem_append_left _ (List.mem_append_right _ h))) (by decide +kernel))
set_option maxRecDepth 20000 in
theorem gX7_reach_X7_needWithin : GoodIn wsX7_reach (va_wsS RX7 57 yX7_needWithin wsX7_needWithin) := goodIn_app (goodIn_of _ (by decide +kernel)) ggX7_reach_X7_needWithin
set_option maxRecDepth 20000 in
theorem ggX7_reach_X7_needNoBoatIn : GoodIn wsX7_reach wsX7_needNoBoatIn := goodIn_ca (goodIn_r _ [41, 42, 43, 44, 4, 45, 46, 47, 48, 49, 10, 11, 12, 13, 14, 15, 16, 17, 18, 19, 20, 21, 22, 23, 24, 25, 26, 27, 28, 29, 30, 31, 32, 50, 51, 52, 53, 54, 65, 66, 67, 68, 69, 70, 71, 72, 73, 74, 75, 76, 77, 78, 82, 83, 84, 85, 86, 87, 88, 89, 90, 91, 92, 93, 94, 95, 96, 97, 98, 99, 100, 101, 102, 103, 104, 105, 106, 107, 108, 109, 79, 80, 81] (by decide +kernel) (by decide +kernel)) (goodIn_sub (fun _ h => List.mem_cons_of_mem _ (List.mem_append_right _ h)) (by decide +kernel))
set_option maxRecDepth 20000 in
theorem gX7_reach_X7_needNoBoatIn : GoodIn wsX7_reach (wsV RX7 61 RX7 yX7_needNoBoatIn wsX7_needNoBoatIn) := goodIn_app (goodIn_of _ (by decide +kernel)) ggX7_reach_X7_needNoBoatIn
set_option maxRecDepth 20000 in
theorem ggX7_reach_X5_becomeReach : GoodIn wsX7_reach wsX5_becomeReach := goodIn_r _ [59, 60, 61, 62, 63, 64, 97, 98, 99, 100, 101, 102, 103, 104, 105, 106, 107, 108, 109] (by decide +kernel) (by decide +kernel)
set_option maxRecDepth 20000 in
theorem gX7_reach_X5_becomeReach : GoodIn wsX7_reach (wsV RX7 65 RX5 yX5_becomeReach wsX5_becomeReach) := goodIn_app (goodIn_of _ (by decide +kernel)) ggX7_reach_X5_becomeReach
set_option maxRecDepth 20000 in
theorem ggX7_lock_X7_needSection : GoodIn wsX7_lock wsX7_needSection := goodIn_ca (goodIn_r _ [5, 6, 7, 8, 9, 10, 11, 12, 13, 14, 15, 16, 17, 18, 19, 20, 21, 22, 23, 24, 25, 26, 27, 28, 29, 30, 31, 32, 67, 68, 69, 70, 71, 72, 73, 74, 75, 76, 77, 78, 79, 80, 81, 82, 83] (by decide +kernel) (by decide +kernel)) (goodIn_sub (fun _ h => List.mem_cons_of_mem _ (List.mem_append_left _ (List.mem_append_left _ (List.mem_append_right _ h)))) (by decide +kernel))
set_option maxRecDepth 20000 in
theorem gX7_lock_X7_needSection : GoodIn wsX7_lock (wsV RX7 53 RX7 yX7_needSection wsX7_needSection) := goodIn_app (goodIn_of _ (by decide +kernel)) ggX7_lock_X7_needSection
set_option maxRecDepth 20000 in
theorem ggX7_lock_X7_needWithin : GoodIn wsX7_lock wsX7_needWithin := goodIn_ca (goodIn_r _ [35, 36, 37] (by decide +kernel) (by decide +kernel)) (goodIn_sub (fun _ h => List.mem_cons_of_mem _ (List.mem_append_left _ (List.mem_append_right _ h))) (by decide +kernel))
set_option maxRecDepth 20000 in
theorem gX7_lock_X7_needWithin : GoodIn wsX7_lock (va_wsS RX7 57 yX7_needWithin wsX7_needWithin) := goodIn_app (goodIn_of _ (by decide +kernel)) ggX7_lock_X7_needWithin
set_option maxRecDepth 20000 in
theorem ggX7_lock_X7_needNoBoatIn : GoodIn wsX7_lock wsX7_needNoBoatIn := goodIn_ca (goodIn_r _ [41, 42, 43, 44, 4, 45, 46, 47, 48, 49, 10, 11, 12, 13, 14, 15, 16, 17, 18, 19, 20, 21, 22, 23, 24, 25, 26, 27, 28, 29, 30, 31, 32, 50, 51, 52, 53, 54, 67, 68, 69, 70, 71, 72, 73, 74, 75, 76, 77, 78, 79, 80, 84, 85, 86, 87, 88, 89, 90, 91, 92, 93, 94, 95, 96, 97, 98, 99, 100, 101, 102, 103, 104, 105, 106, 107, 108, 109, 110, 111, 81, 82, 83] (by decide +kernel) (by decide +kernel)) (goodIn_sub (fun _ h => List.mem_cons_of_mem _ (List.mem_append_right _ h)) (by decide +kernel))
set_option maxRecDepth 20000 in
theorem gX7_lock_X7_needNoBoatIn : GoodIn wsX7_lock (wsV RX7 61 RX7 yX7_needNoBoatIn wsX7_needNoBoatIn) := goodIn_app (goodIn_of _ (by decide +kernel)) ggX7_lock_X7_needNoBoatIn
set_option maxRecDepth 20000 in
theorem ggX7_lock_X5_becomeLock : GoodIn wsX7_lock wsX5_becomeLock := goodIn_r _ [59, 60, 61, 62, 63, 64, 65, 66, 99, 100, 101, 102, 103, 104, 105, 106, 107, 108, 109, 110, 111] (by decide +kernel) (by decide +kernel)
set_option maxRecDepth 20000 in
theorem gX7_lock_X5_becomeLock : GoodIn wsX7_lock (wsV RX7 69 RX5 yX5_becomeLock wsX5_becomeLock) := goodIn_app (goodIn_of _ (by decide +kernel)) ggX7_lock_X5_becomeLock
set_option maxRecDepth 20000 in
theorem ggX7_dredge_X7_needSection : GoodIn wsX7_dredge wsX7_needSection := goodIn_ca (goodIn_r _ [6, 7, 8, 9, 10, 11, 12, 13, 14, 15, 16, 17, 18, 19, 20, 21, 22, 23, 24, 25, 26, 27, 28, 29, 30, 31, 32, 33, 57, 58, 59, 60, 61, 62, 63, 64, 65, 66, 67, 68, 69, 70, 71, 72, 73] (by decide +kernel) (by decide +kernel)) (goodIn_sub (fun _ h => List.mem_cons_of_mem _ (List.mem_append_left _ (List.mem_append_left _ (List.mem_append_right _ h)))) (by decide +kernel))
set_option maxRecDepth 20000 in
theorem gX7_dredge_X7_needSection : GoodIn wsX7_dredge (wsV RX7 53 RX7 yX7_needSection wsX7_needSection) := goodIn_app (goodIn_of _ (by decide +kernel)) ggX7_dredge_X7_needSection
set_option maxRecDepth 20000 in
theorem ggX7_dredge_X7_needWithin : GoodIn wsX7_dredge wsX7_needWithin := goodIn_ca (goodIn_r _ [36, 37, 38] (by decide +kernel) (by decide +kernel)) (goodIn_sub (fun _ h => List.mem_cons_of_mem _ (List.mem_append_left _ (List.mem_append_right _ h))) (by decide +kernel))
set_option maxRecDepth 20000 in
theorem gX7_dredge_X7_needWithin : GoodIn wsX7_dredge (va_wsS RX7 57 yX7_needWithin wsX7_needWithin) := goodIn_app (goodIn_of _ (by decide +kernel)) ggX7_dredge_X7_needWithin
set_option maxRecDepth 20000 in
theorem ggX7_dredge_X7_needState : GoodIn wsX7_dredge wsX7_needState := goodIn_ca (goodIn_r _ [41, 42, 43] (by decide +kernel) (by decide +kernel)) (goodIn_sub (fun _ h => List.mem_cons_of_mem _ (List.mem_append_right _ h)) (by decide +kernel))
set_option maxRecDepth 20000 in
theorem gX7_dredge_X7_needState : GoodIn wsX7_dredge (va_wsS RX7 77 yX7_needState wsX7_needState) := goodIn_app (goodIn_of _ (by decide +kernel)) ggX7_dredge_X7_needState
set_option maxRecDepth 20000 in
theorem ggX7_stage_X7_needWithin : GoodIn wsX7_stage wsX7_needWithin := goodIn_ca (goodIn_r _ [6, 7, 8] (by decide +kernel) (by decide +kernel)) (goodIn_sub (fun _ h => List.mem_cons_of_mem _ (List.mem_append_right _ h)) (by decide +kernel))
set_option maxRecDepth 20000 in
theorem gX7_stage_X7_needWithin : GoodIn wsX7_stage (va_wsS RX7 57 yX7_needWithin wsX7_needWithin) := goodIn_app (goodIn_of _ (by decide +kernel)) ggX7_stage_X7_needWithin
set_option maxRecDepth 20000 in
theorem ggX7_weather_X7_needSection : GoodIn wsX7_weather wsX7_needSection := goodIn_ca (goodIn_r _ [7, 8, 9, 10, 11, 12, 13, 14, 15, 16, 17, 18, 19, 20, 21, 22, 23, 24, 25, 26, 27, 28, 29, 30, 31, 32, 33, 34, 53, 54, 55, 56, 57, 58, 59, 60, 61, 62, 63, 64, 65, 66, 67, 68, 69] (by decide +kernel) (by decide +kernel)) (goodIn_sub (fun _ h => List.mem_cons_of_mem _ (List.mem_append_left _ (List.mem_append_right _ h))) (by decide +kernel))
set_option maxRecDepth 20000 in
theorem gX7_weather_X7_needSection : GoodIn wsX7_weather (wsV RX7 53 RX7 yX7_needSection wsX7_needSection) := goodIn_app (goodIn_of _ (by decide +kernel)) ggX7_weather_X7_needSection
set_option maxRecDepth 20000 in
theorem ggX7_weather_X7_needWithin : GoodIn wsX7_weather wsX7_needWithin := goodIn_ca (goodIn_r _ [37, 38, 39] (by decide +kernel) (by decide +kernel)) (goodIn_sub (fun _ h => List.mem_cons_of_mem _ (List.mem_append_right _ h)) (by decide +kernel))
set_option maxRecDepth 20000 in
theorem gX7_weather_X7_needWithin : GoodIn wsX7_weather (va_wsS RX7 57 yX7_needWithin wsX7_needWithin) := goodIn_app (goodIn_of _ (by decide +kernel)) ggX7_weather_X7_needWithin
set_option maxRecDepth 20000 in
theorem ggX7_bank_X7_needTier : GoodIn wsX7_bank wsX7_needTier := goodIn_ca (goodIn_r _ [6, 7, 8, 9, 10, 11, 12, 5, 13, 14, 15, 16, 17, 18, 19, 20, 21, 22, 23, 24, 25, 26, 27, 28, 29, 30, 31, 32, 33, 34, 35, 36, 37, 38, 39, 63, 64, 65, 66, 67, 68, 69, 70, 71, 72, 73, 74, 75, 76, 77, 78, 79] (by decide +kernel) (by decide +kernel)) (goodIn_sub (fun _ h => List.mem_cons_of_mem _ (List.mem_append_left _ (List.mem_append_left _ (List.mem_append_right _ h)))) (by decide +kernel))
set_option maxRecDepth 20000 in
theorem gX7_bank_X7_needTier : GoodIn wsX7_bank (wsV RX7 97 RX7 yX7_needTier wsX7_needTier) := goodIn_app (goodIn_of _ (by decide +kernel)) ggX7_bank_X7_needTier
set_option maxRecDepth 20000 in
theorem ggX7_bank_X7_needWithin : GoodIn wsX7_bank wsX7_needWithin := goodIn_ca (goodIn_r _ [42, 43, 44] (by decide +kernel) (by decide +kernel)) (goodIn_sub (fun _ h => List.mem_cons_of_mem _ (List.mem_append_left _ (List.mem_append_right _ h))) (by decide +kernel))
set_option maxRecDepth 20000 in
theorem gX7_bank_X7_needWithin : GoodIn wsX7_bank (va_wsS RX7 57 yX7_needWithin wsX7_needWithin) := goodIn_app (goodIn_of _ (by decide +kernel)) ggX7_bank_X7_needWithin
set_option maxRecDepth 20000 in
theorem ggX7_bank_X4_size : GoodIn wsX7_bank wsX4_size := goodIn_r _ [49, 50, 51, 18, 19, 20, 21, 22, 57, 58, 59, 60, 61, 62, 77, 78, 79] (by decide +kernel) (by decide +kernel)
set_option maxRecDepth 20000 in
theorem gX7_bank_X4_size : GoodIn wsX7_bank (wsV RX7 101 RX4 yX4_size wsX4_size) := goodIn_app (goodIn_of _ (by decide +kernel)) ggX7_bank_X4_size
set_option maxRecDepth 20000 in
theorem ggX7_bank_X7_needState : GoodIn wsX7_bank wsX7_needState := goodIn_ca (goodIn_r _ [54, 55, 56] (by decide +kernel) (by decide +kernel)) (goodIn_sub (fun _ h => List.mem_cons_of_mem _ (List.mem_append_right _ h)) (by decide +kernel))
set_option maxRecDepth 20000 in
theorem gX7_bank_X7_needState : GoodIn wsX7_bank (va_wsS RX7 77 yX7_needState wsX7_needState) := goodIn_app (goodIn_of _ (by decide +kernel)) ggX7_bank_X7_needState
set_option maxRecDepth 20000 in
theorem ggX7_barge_X7_needTier : GoodIn wsX7_barge wsX7_needTier := goodIn_ca (goodIn_r _ [11, 12, 13, 14, 15, 16, 17, 10, 18, 19, 20, 21, 22, 23, 24, 25, 26, 27, 28, 29, 30, 31, 32, 33, 34, 35, 36, 37, 38, 39, 40, 41, 42, 43, 44, 157, 158, 159, 160, 161, 162, 163, 164, 165, 166, 167, 168, 169, 170, 177, 178, 179] (by decide +kernel) (by decide +kernel)) (goodIn_sub (fun _ h => List.mem_cons_of_mem _ (List.mem_append_left _ (List.mem_append_left _ (List.mem_append_right _ h)))) (by decide +kernel))
set_option maxRecDepth 20000 in
theorem gX7_barge_X7_needTier : GoodIn wsX7_barge (wsV RX7 97 RX7 yX7_needTier wsX7_needTier) := goodIn_app (goodIn_of _ (by decide +kernel)) ggX7_barge_X7_needTier
set_option maxRecDepth 20000 in
theorem ggX7_barge_X7_needWithin : GoodIn wsX7_barge wsX7_needWithin := goodIn_ca (goodIn_r _ [47, 48, 49] (by decide +kernel) (by decide +kernel)) (goodIn_sub (fun _ h => List.mem_cons_of_mem _ (List.mem_append_left _ (List.mem_append_right _ h))) (by decide +kernel))
set_option maxRecDepth 20000 in
theorem gX7_barge_X7_needWithin : GoodIn wsX7_barge (va_wsS RX7 57 yX7_needWithin wsX7_needWithin) := goodIn_app (goodIn_of _ (by decide +kernel)) ggX7_barge_X7_needWithin
set_option maxRecDepth 20000 in
theorem ggX7_barge_Jx4a65c_size_8abf5 : GoodIn wsX7_barge wsJx4a65c_size_8abf5 := goodIn_r _ [26, 27, 177, 178, 179] (by decide +kernel) (by decide +kernel)
set_option maxRecDepth 20000 in
theorem gX7_barge_Jx4a65c_size_8abf5 : GoodIn wsX7_barge (wsV RX7 108 RJx4a65c yJx4a65c_size_8abf5 wsJx4a65c_size_8abf5) := goodIn_app (goodIn_of _ (by decide +kernel)) ggX7_barge_Jx4a65c_size_8abf5
set_option maxRecDepth 20000 in
theorem ggX7_barge_X4_hasRoom : GoodIn wsX7_barge wsX4_hasRoom := goodIn_r _ [54, 55, 56, 57, 23, 24, 25, 26, 27, 180, 181, 182, 183, 184, 185, 177, 178, 179] (by decide +kernel) (by decide +kernel)
set_option maxRecDepth 20000 in
theorem gX7_barge_X4_hasRoom : GoodIn wsX7_barge (wsV RX7 109 RX4 yX4_hasRoom wsX4_hasRoom) := goodIn_app (goodIn_of _ (by decide +kernel)) ggX7_barge_X4_hasRoom
set_option maxRecDepth 20000 in
theorem ggX7_barge_X7_needState : GoodIn wsX7_barge wsX7_needState := goodIn_ca (goodIn_r _ [60, 61, 62] (by decide +kernel) (by decide +kernel)) (goodIn_sub (fun _ h => List.mem_cons_of_mem _ (List.mem_append_right _ h)) (by decide +kernel))
set_option maxRecDepth 20000 in
theorem gX7_barge_X7_needState : GoodIn wsX7_barge (va_wsS RX7 77 yX7_needState wsX7_needState) := goodIn_app (goodIn_of _ (by decide +kernel)) ggX7_barge_X7_needState
set_option maxRecDepth 20000 in
theorem ggX7_barge_X0_init : GoodIn wsX7_barge wsX0_init := goodIn_r _ [65, 66, 67, 68, 69, 70, 71, 72, 171, 172, 173, 174, 175, 176] (by decide +kernel) (by decide +kernel)
set_option maxRecDepth 20000 in
theorem gX7_barge_X0_init : GoodIn wsX7_barge (wsX0_init) := ggX7_barge_X0_init
set_option maxRecDepth 20000 in
theorem ggX7_barge_Jx4a65c_add_9ea2d : GoodIn wsX7_barge wsJx4a65c_add_9ea2d := goodIn_r _ [76, 77, 78, 44, 27, 79, 80, 81, 25, 82, 83, 84, 85, 86, 87, 88, 89, 90, 91, 92, 93, 94, 95, 96, 97, 98, 99, 100, 101, 102, 103, 104, 105, 106, 107, 108, 109, 110, 111, 112, 113, 114, 115, 116, 117, 118, 119, 120, 121, 122, 123, 124, 125, 177, 178, 179] (by decide +kernel) (by decide +kernel)
set_option maxRecDepth 20000 in
theorem gX7_barge_Jx4a65c_add_9ea2d : GoodIn wsX7_barge (wsV RX7 44 RJx4a65c yJx4a65c_add_9ea2d wsJx4a65c_add_9ea2d) := goodIn_app (goodIn_of _ (by decide +kernel)) ggX7_barge_Jx4a65c_add_9ea2d
set_option maxRecDepth 20000 in
theorem ggX7_barge_X4_append : GoodIn wsX7_barge wsX4_append := goodIn_r _ [129, 55, 130, 131, 74, 75, 25, 76, 77, 78, 44, 27, 79, 80, 81, 82, 83, 84, 85, 86, 87, 88, 89, 90, 91, 92, 93, 94, 95, 96, 97, 98, 99, 100, 101, 102, 103, 104, 105, 106, 107, 108, 109, 110, 111, 112, 113, 114, 115, 116, 117, 118, 119, 120, 121, 122, 123, 124, 125, 180, 181, 182, 183, 184, 185, 171, 172, 173, 174, 175, 176, 177, 178, 179] (by decide +kernel) (by decide +kernel)
set_option maxRecDepth 20000 in
theorem gX7_barge_X4_append : GoodIn wsX7_barge (wsV RX7 118 RX4 yX4_append wsX4_append) := goodIn_app (goodIn_of _ (by decide +kernel)) ggX7_barge_X4_append
set_option maxRecDepth 20000 in
theorem ggX7_barge_X6_tell : GoodIn wsX7_barge wsX6_tell := goodIn_r _ [136, 137, 138, 139, 140, 141, 142, 143, 144, 145, 146, 147, 148, 149, 150, 151, 67, 68, 152, 153, 154, 155, 156, 186, 187, 188, 189, 190, 191] (by decide +kernel) (by decide +kernel)
set_option maxRecDepth 20000 in
theorem gX7_barge_X6_tell : GoodIn wsX7_barge (wsV RX7 125 RX6 yX6_tell wsX6_tell) := goodIn_app (goodIn_of _ (by decide +kernel)) ggX7_barge_X6_tell
set_option maxRecDepth 20000 in
theorem ggX7_contract_X7_needPoint : GoodIn wsX7_contract wsX7_needPoint := goodIn_ca (goodIn_r _ [9, 10, 11, 8, 12, 13, 14] (by decide +kernel) (by decide +kernel)) (goodIn_sub (fun _ h => List.mem_cons_of_mem _ (List.mem_append_left _ (List.mem_append_left _ (List.mem_append_right _ h)))) (by decide +kernel))
set_option maxRecDepth 20000 in
theorem gX7_contract_X7_needPoint : GoodIn wsX7_contract (va_wsS RX7 128 yX7_needPoint wsX7_needPoint) := goodIn_app (goodIn_of _ (by decide +kernel)) ggX7_contract_X7_needPoint
set_option maxRecDepth 20000 in
theorem ggX7_contract_X7_needWithin : GoodIn wsX7_contract wsX7_needWithin := goodIn_ca (goodIn_r _ [17, 18, 19] (by decide +kernel) (by decide +kernel)) (goodIn_sub (fun _ h => List.mem_cons_of_mem _ (List.mem_append_left _ (List.mem_append_right _ h))) (by decide +kernel))
set_option maxRecDepth 20000 in
theorem gX7_contract_X7_needWithin : GoodIn wsX7_contract (va_wsS RX7 57 yX7_needWithin wsX7_needWithin) := goodIn_app (goodIn_of _ (by decide +kernel)) ggX7_contract_X7_needWithin
set_option maxRecDepth 20000 in
theorem ggX7_contract_X7_needArgument : GoodIn wsX7_contract wsX7_needArgument := goodIn_ca (goodIn_r _ [22, 18, 19] (by decide +kernel) (by decide +kernel)) (goodIn_sub (fun _ h => List.mem_cons_of_mem _ (List.mem_append_left _ (List.mem_append_right _ h))) (by decide +kernel))
set_option maxRecDepth 20000 in
theorem gX7_contract_X7_needArgument : GoodIn wsX7_contract (va_wsS RX7 131 yX7_needArgument wsX7_needArgument) := goodIn_app (goodIn_of _ (by decide +kernel)) ggX7_contract_X7_needArgument
set_option maxRecDepth 20000 in
theorem ggX7_contract_Jx4a65c_size_8abf5 : GoodIn wsX7_contract wsJx4a65c_size_8abf5 := goodIn_r _ [27, 28, 126, 127, 128] (by decide +kernel) (by decide +kernel)
set_option maxRecDepth 20000 in
theorem gX7_contract_Jx4a65c_size_8abf5 : GoodIn wsX7_contract (wsV RX7 108 RJx4a65c yJx4a65c_size_8abf5 wsJx4a65c_size_8abf5) := goodIn_app (goodIn_of _ (by decide +kernel)) ggX7_contract_Jx4a65c_size_8abf5
set_option maxRecDepth 20000 in
theorem ggX7_contract_X7_needState : GoodIn wsX7_contract wsX7_needState := goodIn_ca (goodIn_r _ [31, 32, 33] (by decide +kernel) (by decide +kernel)) (goodIn_sub (fun _ h => List.mem_cons_of_mem _ (List.mem_append_right _ h)) (by decide +kernel))
set_option maxRecDepth 20000 in
theorem gX7_contract_X7_needState : GoodIn wsX7_contract (va_wsS RX7 77 yX7_needState wsX7_needState) := goodIn_app (goodIn_of _ (by decide +kernel)) ggX7_contract_X7_needState
set_option maxRecDepth 20000 in
theorem ggX7_contract_X2_init : GoodIn wsX7_contract wsX2_init := goodIn_r _ [36, 37, 38, 39, 40, 41, 42, 43, 44, 45, 46, 115, 116, 117, 118, 119, 120, 121, 122, 123, 124, 125] (by decide +kernel) (by decide +kernel)
set_option maxRecDepth 20000 in
theorem gX7_contract_X2_init : GoodIn wsX7_contract (wsX2_init) := ggX7_contract_X2_init
set_option maxRecDepth 20000 in
theorem ggX7_contract_Jx4a65c_add_9ea2d : GoodIn wsX7_contract wsJx4a65c_add_9ea2d := goodIn_r _ [50, 51, 52, 53, 28, 54, 55, 56, 26, 57, 58, 59, 60, 61, 62, 63, 64, 65, 66, 67, 68, 69, 70, 71, 72, 73, 74, 75, 76, 77, 78, 79, 80, 81, 82, 83, 84, 85, 86, 87, 88, 89, 90, 91, 92, 93, 94, 95, 96, 97, 98, 99, 100, 126, 127, 128] (by decide +kernel) (by decide +kernel)
set_option maxRecDepth 20000 in
theorem gX7_contract_Jx4a65c_add_9ea2d : GoodIn wsX7_contract (wsV RX7 44 RJx4a65c yJx4a65c_add_9ea2d wsJx4a65c_add_9ea2d) := goodIn_app (goodIn_of _ (by decide +kernel)) ggX7_contract_Jx4a65c_add_9ea2d
set_option maxRecDepth 20000 in
theorem ggX7_divert_X7_needContract : GoodIn wsX7_divert wsX7_needContract := goodIn_ca (goodIn_r _ [8, 9, 10, 11, 12, 13, 14, 15, 16, 17, 18, 19, 20, 21, 22, 23, 24, 25, 26, 27, 28, 29, 30, 31, 32, 33, 34, 35, 58, 59, 60, 61, 62, 63, 64, 65, 66, 67, 68, 69, 70, 71, 72, 73, 74] (by decide +kernel) (by decide +kernel)) (goodIn_sub (fun _ h => List.mem_cons_of_mem _ (List.mem_append_left _ (List.mem_append_right _ h))) (by decide +kernel))
set_option maxRecDepth 20000 in
theorem gX7_divert_X7_needContract : GoodIn wsX7_divert (wsV RX7 140 RX7 yX7_needContract wsX7_needContract) := goodIn_app (goodIn_of _ (by decide +kernel)) ggX7_divert_X7_needContract
set_option maxRecDepth 20000 in
theorem ggX7_divert_X7_needPoint : GoodIn wsX7_divert wsX7_needPoint := goodIn_ca (goodIn_r _ [38, 39, 40, 7, 41, 9, 10] (by decide +kernel) (by decide +kernel)) (goodIn_sub (fun _ h => List.mem_cons_of_mem _ (List.mem_append_left _ (List.mem_append_right _ h))) (by decide +kernel))
set_option maxRecDepth 20000 in
theorem gX7_divert_X7_needPoint : GoodIn wsX7_divert (va_wsS RX7 128 yX7_needPoint wsX7_needPoint) := goodIn_app (goodIn_of _ (by decide +kernel)) ggX7_divert_X7_needPoint
set_option maxRecDepth 20000 in
theorem ggX7_divert_X7_needArgument : GoodIn wsX7_divert wsX7_needArgument := goodIn_ca (goodIn_r _ [44, 45, 46] (by decide +kernel) (by decide +kernel)) (goodIn_sub (fun _ h => List.mem_cons_of_mem _ (List.mem_append_right _ h)) (by decide +kernel))
set_option maxRecDepth 20000 in
theorem gX7_divert_X7_needArgument : GoodIn wsX7_divert (va_wsS RX7 131 yX7_needArgument wsX7_needArgument) := goodIn_app (goodIn_of _ (by decide +kernel)) ggX7_divert_X7_needArgument
set_option maxRecDepth 20000 in
theorem ggX7_load_X7_needBarge : GoodIn wsX7_load wsX7_needBarge := goodIn_ca (goodIn_r _ [14, 15, 16, 17, 18, 19, 20, 21, 22, 23, 24, 25, 26, 27, 28, 29, 30, 31, 32, 33, 34, 35, 36, 37, 38, 39, 40, 41, 130, 131, 132, 133, 134, 135, 136, 137, 138, 139, 140, 141, 142, 143, 144, 145, 146] (by decide +kernel) (by decide +kernel)) (goodIn_sub (fun _ h => List.mem_cons_of_mem _ (List.mem_append_left _ (List.mem_append_right _ h))) (by decide +kernel))
set_option maxRecDepth 20000 in
theorem gX7_load_X7_needBarge : GoodIn wsX7_load (wsV RX7 153 RX7 yX7_needBarge wsX7_needBarge) := goodIn_app (goodIn_of _ (by decide +kernel)) ggX7_load_X7_needBarge
set_option maxRecDepth 20000 in
theorem ggX7_load_X7_needContract : GoodIn wsX7_load wsX7_needContract := goodIn_ca (goodIn_r _ [45, 15, 16, 46, 47, 19, 20, 21, 22, 23, 24, 25, 26, 27, 28, 29, 30, 31, 32, 33, 34, 35, 36, 37, 38, 39, 40, 41, 130, 131, 132, 133, 134, 135, 136, 137, 138, 139, 140, 141, 142, 143, 144, 145, 146] (by decide +kernel) (by decide +kernel)) (goodIn_sub (fun _ h => List.mem_cons_of_mem _ (List.mem_append_left _ (List.mem_append_right _ h))) (by decide +kernel))
set_option maxRecDepth 20000 in
theorem gX7_load_X7_needContract : GoodIn wsX7_load (wsV RX7 140 RX7 yX7_needContract wsX7_needContract) := goodIn_app (goodIn_of _ (by decide +kernel)) ggX7_load_X7_needContract
set_option maxRecDepth 20000 in
theorem ggX7_load_X7_needWithin : GoodIn wsX7_load wsX7_needWithin := goodIn_ca (goodIn_r _ [50, 51, 52] (by decide +kernel) (by decide +kernel)) (goodIn_sub (fun _ h => List.mem_cons_of_mem _ (List.mem_append_right _ h)) (by decide +kernel))
set_option maxRecDepth 20000 in
theorem gX7_load_X7_needWithin : GoodIn wsX7_load (va_wsS RX7 57 yX7_needWithin wsX7_needWithin) := goodIn_app (goodIn_of _ (by decide +kernel)) ggX7_load_X7_needWithin
set_option maxRecDepth 20000 in
theorem ggX7_load_X0_isOutermostAt : GoodIn wsX7_load wsX0_isOutermostAt := goodIn_r _ [57, 58, 59, 60, 61, 56, 62, 63, 64, 65, 66, 67, 68, 69, 70, 71, 72, 73, 74, 75, 76, 77, 78, 79, 80, 81, 82, 83, 84, 20, 21, 22, 23, 24, 85, 26, 27, 28, 29, 30, 31, 32, 33, 34, 35, 36, 37, 38, 39, 40, 41, 86, 87, 88, 89, 90, 124, 125, 126, 127, 128, 129, 147, 148, 149, 150, 151, 152, 144, 145, 146] (by decide +kernel) (by decide +kernel)
set_option maxRecDepth 20000 in
theorem gX7_load_X0_isOutermostAt : GoodIn wsX7_load (wsV RX7 157 RX0 yX0_isOutermostAt wsX0_isOutermostAt) := goodIn_app (goodIn_of _ (by decide +kernel)) ggX7_load_X0_isOutermostAt
set_option maxRecDepth 20000 in
theorem ggX7_load_X0_isFitFor : GoodIn wsX7_load wsX0_isFitFor := goodIn_r _ [94, 95, 96, 97, 98, 99, 100, 56, 101, 102, 113, 114, 115, 116, 117, 118, 119, 120, 121, 122, 123, 124, 125, 126, 127, 128, 129] (by decide +kernel) (by decide +kernel)
set_option maxRecDepth 20000 in
theorem gX7_load_X0_isFitFor : GoodIn wsX7_load (wsV RX7 161 RX0 yX0_isFitFor wsX0_isFitFor) := goodIn_app (goodIn_of _ (by decide +kernel)) ggX7_load_X0_isFitFor
set_option maxRecDepth 20000 in
theorem ggX7_load_X7_needState : GoodIn wsX7_load wsX7_needState := goodIn_ca (goodIn_r _ [105, 1, 2] (by decide +kernel) (by decide +kernel)) (goodIn_sub (fun _ h => List.mem_cons_of_mem _ (List.mem_append_left _ (List.mem_append_left _ (List.mem_append_right _ h)))) (by decide +kernel))
set_option maxRecDepth 20000 in
theorem gX7_load_X7_needState : GoodIn wsX7_load (va_wsS RX7 77 yX7_needState wsX7_needState) := goodIn_app (goodIn_of _ (by decide +kernel)) ggX7_load_X7_needState
set_option maxRecDepth 20000 in
theorem ggX7_load_X2_ship : GoodIn wsX7_load wsX2_ship := goodIn_r _ [110, 111, 112, 113, 114, 115, 116, 117, 118, 119, 120, 121, 122, 123] (by decide +kernel) (by decide +kernel)
set_option maxRecDepth 20000 in
theorem gX7_load_X2_ship : GoodIn wsX7_load (wsV RX7 178 RX2 yX2_ship wsX2_ship) := goodIn_app (goodIn_of _ (by decide +kernel)) ggX7_load_X2_ship
set_option maxRecDepth 20000 in
theorem ggX7_unload_X7_needBarge : GoodIn wsX7_unload wsX7_needBarge := goodIn_ca (goodIn_r _ [11, 12, 13, 14, 15, 16, 17, 18, 19, 20, 21, 22, 23, 24, 25, 26, 27, 28, 29, 30, 31, 32, 33, 34, 35, 36, 37, 38, 114, 115, 116, 117, 118, 119, 120, 121, 122, 123, 124, 125, 126, 127, 128, 129, 130] (by decide +kernel) (by decide +kernel)) (goodIn_sub (fun _ h => List.mem_cons_of_mem _ (List.mem_append_right _ h)) (by decide +kernel))
set_option maxRecDepth 20000 in
theorem gX7_unload_X7_needBarge : GoodIn wsX7_unload (wsV RX7 153 RX7 yX7_needBarge wsX7_needBarge) := goodIn_app (goodIn_of _ (by decide +kernel)) ggX7_unload_X7_needBarge
set_option maxRecDepth 20000 in
theorem ggX7_unload_X0_isOutermostAt : GoodIn wsX7_unload wsX0_isOutermostAt := goodIn_r _ [43, 44, 45, 46, 47, 42, 48, 49, 50, 51, 52, 53, 54, 55, 56, 57, 58, 59, 60, 61, 62, 63, 64, 65, 66, 67, 68, 69, 70, 17, 18, 19, 20, 21, 71, 23, 24, 25, 26, 27, 28, 29, 30, 31, 32, 33, 34, 35, 36, 37, 38, 72, 73, 74, 75, 76, 97, 98, 99, 100, 101, 102, 131, 132, 133, 134, 135, 136, 128, 129, 130] (by decide +kernel) (by decide +kernel)
set_option maxRecDepth 20000 in
theorem gX7_unload_X0_isOutermostAt : GoodIn wsX7_unload (wsV RX7 157 RX0 yX0_isOutermostAt wsX0_isOutermostAt) := goodIn_app (goodIn_of _ (by decide +kernel)) ggX7_unload_X0_isOutermostAt
set_option maxRecDepth 20000 in
theorem ggX7_unload_X2_deliver : GoodIn wsX7_unload wsX2_deliver := goodIn_r _ [81, 82, 83, 84, 85, 86, 87, 88, 89, 90, 91, 92, 93, 94, 95, 96, 103, 104, 105, 106, 107, 108, 109, 110, 111, 112, 113] (by decide +kernel) (by decide +kernel)
set_option maxRecDepth 20000 in
theorem gX7_unload_X2_deliver : GoodIn wsX7_unload (wsV RX7 196 RX2 yX2_deliver wsX2_deliver) := goodIn_app (goodIn_of _ (by decide +kernel)) ggX7_unload_X2_deliver
set_option maxRecDepth 20000 in
theorem ggX7_clean_X7_needBarge : GoodIn wsX7_clean wsX7_needBarge := goodIn_ca (goodIn_r _ [9, 10, 11, 12, 13, 14, 15, 16, 17, 18, 19, 20, 21, 22, 23, 24, 25, 26, 27, 28, 29, 30, 31, 32, 33, 34, 35, 36, 54, 55, 56, 57, 58, 59, 60, 61, 62, 63, 64, 65, 66, 67, 68, 69, 70] (by decide +kernel) (by decide +kernel)) (goodIn_sub (fun _ h => List.mem_cons_of_mem _ (List.mem_append_left _ (List.mem_append_right _ h))) (by decide +kernel))
set_option maxRecDepth 20000 in
theorem gX7_clean_X7_needBarge : GoodIn wsX7_clean (wsV RX7 153 RX7 yX7_needBarge wsX7_needBarge) := goodIn_app (goodIn_of _ (by decide +kernel)) ggX7_clean_X7_needBarge
set_option maxRecDepth 20000 in
theorem ggX7_clean_X4_isTow : GoodIn wsX7_clean wsX4_isTow := goodIn_r _ [41, 42, 71, 72, 73, 74, 75, 76] (by decide +kernel) (by decide +kernel)
set_option maxRecDepth 20000 in
theorem gX7_clean_X4_isTow : GoodIn wsX7_clean (wsV RX7 204 RX4 yX4_isTow wsX4_isTow) := goodIn_app (goodIn_of _ (by decide +kernel)) ggX7_clean_X4_isTow
set_option maxRecDepth 20000 in
theorem ggX7_clean_X7_needState : GoodIn wsX7_clean wsX7_needState := goodIn_ca (goodIn_r _ [45, 46, 47] (by decide +kernel) (by decide +kernel)) (goodIn_sub (fun _ h => List.mem_cons_of_mem _ (List.mem_append_right _ h)) (by decide +kernel))
set_option maxRecDepth 20000 in
theorem gX7_clean_X7_needState : GoodIn wsX7_clean (va_wsS RX7 77 yX7_needState wsX7_needState) := goodIn_app (goodIn_of _ (by decide +kernel)) ggX7_clean_X7_needState
set_option maxRecDepth 20000 in
theorem ggX7_boat_X7_needPoint : GoodIn wsX7_boat wsX7_needPoint := goodIn_ca (goodIn_r _ [11, 12, 13, 10, 14, 15, 16] (by decide +kernel) (by decide +kernel)) (goodIn_sub (fun _ h => List.mem_cons_of_mem _ (List.mem_append_left _ (List.mem_append_left _ (List.mem_append_right _ h)))) (by decide +kernel))
set_option maxRecDepth 20000 in
theorem gX7_boat_X7_needPoint : GoodIn wsX7_boat (va_wsS RX7 128 yX7_needPoint wsX7_needPoint) := goodIn_app (goodIn_of _ (by decide +kernel)) ggX7_boat_X7_needPoint
set_option maxRecDepth 20000 in
theorem ggX7_boat_X7_needWithin : GoodIn wsX7_boat wsX7_needWithin := goodIn_ca (goodIn_r _ [19, 20, 21] (by decide +kernel) (by decide +kernel)) (goodIn_sub (fun _ h => List.mem_cons_of_mem _ (List.mem_append_left _ (List.mem_append_right _ h))) (by decide +kernel))
set_option maxRecDepth 20000 in
theorem gX7_boat_X7_needWithin : GoodIn wsX7_boat (va_wsS RX7 57 yX7_needWithin wsX7_needWithin) := goodIn_app (goodIn_of _ (by decide +kernel)) ggX7_boat_X7_needWithin
set_option maxRecDepth 20000 in
theorem ggX7_boat_Jx4a65c_size_8abf5 : GoodIn wsX7_boat wsJx4a65c_size_8abf5 := goodIn_r _ [26, 27, 189, 190, 191] (by decide +kernel) (by decide +kernel)
set_option maxRecDepth 20000 in
theorem gX7_boat_Jx4a65c_size_8abf5 : GoodIn wsX7_boat (wsV RX7 108 RJx4a65c yJx4a65c_size_8abf5 wsJx4a65c_size_8abf5) := goodIn_app (goodIn_of _ (by decide +kernel)) ggX7_boat_Jx4a65c_size_8abf5
set_option maxRecDepth 20000 in
theorem ggX7_boat_X7_needState : GoodIn wsX7_boat wsX7_needState := goodIn_ca (goodIn_r _ [30, 31, 32] (by decide +kernel) (by decide +kernel)) (goodIn_sub (fun _ h => List.mem_cons_of_mem _ (List.mem_append_right _ h)) (by decide +kernel))
set_option maxRecDepth 20000 in
theorem gX7_boat_X7_needState : GoodIn wsX7_boat (va_wsS RX7 77 yX7_needState wsX7_needState) := goodIn_app (goodIn_of _ (by decide +kernel)) ggX7_boat_X7_needState
set_option maxRecDepth 20000 in
theorem ggX7_boat_X1_init : GoodIn wsX7_boat wsX1_init := goodIn_r _ [35, 36, 37, 38, 39, 40, 41, 42, 43, 44, 45, 46, 47, 48, 49, 50, 51, 52, 53, 54, 55, 56, 57, 25, 58, 59, 60, 61, 62, 63, 64, 65, 66, 67, 68, 69, 70, 71, 72, 73, 74, 75, 76, 77, 174, 175, 176, 177, 178, 179, 180, 181, 182, 183, 184, 185, 186, 187, 188, 192, 193, 194, 195, 196, 197, 189, 190, 191] (by decide +kernel) (by decide +kernel)
set_option maxRecDepth 20000 in
theorem gX7_boat_X1_init : GoodIn wsX7_boat (wsX1_init) := ggX7_boat_X1_init
set_option maxRecDepth 20000 in
theorem ggX7_boat_X1_standAt : GoodIn wsX7_boat wsX1_standAt := goodIn_r _ [81, 39, 40, 82, 83, 41, 174, 175, 176, 177, 178, 179, 180, 181, 182, 183, 184, 185, 186, 187, 188] (by decide +kernel) (by decide +kernel)
set_option maxRecDepth 20000 in
theorem gX7_boat_X1_standAt : GoodIn wsX7_boat (wsV RX7 214 RX1 yX1_standAt wsX1_standAt) := goodIn_app (goodIn_of _ (by decide +kernel)) ggX7_boat_X1_standAt
set_option maxRecDepth 20000 in
theorem ggX7_boat_Jx4a65c_add_9ea2d : GoodIn wsX7_boat wsJx4a65c_add_9ea2d := goodIn_r _ [87, 88, 89, 67, 27, 90, 91, 92, 25, 93, 94, 95, 96, 97, 98, 99, 100, 101, 66, 102, 103, 104, 105, 106, 107, 108, 109, 110, 111, 112, 113, 114, 115, 116, 117, 118, 119, 120, 121, 122, 123, 124, 125, 126, 127, 128, 129, 130, 131, 132, 133, 134, 135, 189, 190, 191] (by decide +kernel) (by decide +kernel)
set_option maxRecDepth 20000 in
theorem gX7_boat_Jx4a65c_add_9ea2d : GoodIn wsX7_boat (wsV RX7 44 RJx4a65c yJx4a65c_add_9ea2d wsJx4a65c_add_9ea2d) := goodIn_app (goodIn_of _ (by decide +kernel)) ggX7_boat_Jx4a65c_add_9ea2d
set_option maxRecDepth 20000 in
theorem ggX7_boat_X6_tell : GoodIn wsX7_boat wsX6_tell := goodIn_r _ [140, 141, 142, 143, 144, 145, 146, 147, 148, 149, 150, 151, 152, 153, 154, 155, 37, 38, 42, 156, 157, 158, 159, 198, 199, 200, 201, 202, 203] (by decide +kernel) (by decide +kernel)
set_option maxRecDepth 20000 in
theorem gX7_boat_X6_tell : GoodIn wsX7_boat (wsV RX7 125 RX6 yX6_tell wsX6_tell) := goodIn_app (goodIn_of _ (by decide +kernel)) ggX7_boat_X6_tell
set_option maxRecDepth 20000 in
theorem ggX7_fuel_X7_needBoat : GoodIn wsX7_fuel wsX7_needBoat := goodIn_ca (goodIn_r _ [7, 8, 9, 10, 11, 12, 13, 14, 15, 16, 17, 18, 19, 20, 21, 22, 23, 24, 25, 26, 27, 28, 29, 30, 31, 32, 33, 34, 66, 67, 68, 69, 70, 71, 72, 73, 74, 75, 76, 77, 78, 79, 80, 81, 82] (by decide +kernel) (by decide +kernel)) (goodIn_sub (fun _ h => List.mem_cons_of_mem _ (List.mem_append_left _ (List.mem_append_left _ (List.mem_append_right _ h)))) (by decide +kernel))
set_option maxRecDepth 20000 in
theorem gX7_fuel_X7_needBoat : GoodIn wsX7_fuel (wsV RX7 219 RX7 yX7_needBoat wsX7_needBoat) := goodIn_app (goodIn_of _ (by decide +kernel)) ggX7_fuel_X7_needBoat
set_option maxRecDepth 20000 in
theorem ggX7_fuel_X7_needWithin : GoodIn wsX7_fuel wsX7_needWithin := goodIn_ca (goodIn_r _ [37, 38, 39] (by decide +kernel) (by decide +kernel)) (goodIn_sub (fun _ h => List.mem_cons_of_mem _ (List.mem_append_left _ (List.mem_append_right _ h))) (by decide +kernel))
set_option maxRecDepth 20000 in
theorem gX7_fuel_X7_needWithin : GoodIn wsX7_fuel (va_wsS RX7 57 yX7_needWithin wsX7_needWithin) := goodIn_app (goodIn_of _ (by decide +kernel)) ggX7_fuel_X7_needWithin
set_option maxRecDepth 20000 in
theorem ggX7_fuel_X1_isUnderWay : GoodIn wsX7_fuel wsX1_isUnderWay := goodIn_r _ [44, 45, 51, 52, 53, 54, 55, 56, 57, 58, 59, 60, 61, 62, 63, 64, 65] (by decide +kernel) (by decide +kernel)
set_option maxRecDepth 20000 in
theorem gX7_fuel_X1_isUnderWay : GoodIn wsX7_fuel (wsV RX7 223 RX1 yX1_isUnderWay wsX1_isUnderWay) := goodIn_app (goodIn_of _ (by decide +kernel)) ggX7_fuel_X1_isUnderWay
set_option maxRecDepth 20000 in
theorem ggX7_fuel_X7_needState : GoodIn wsX7_fuel wsX7_needState := goodIn_ca (goodIn_r _ [48, 49, 50] (by decide +kernel) (by decide +kernel)) (goodIn_sub (fun _ h => List.mem_cons_of_mem _ (List.mem_append_right _ h)) (by decide +kernel))
set_option maxRecDepth 20000 in
theorem gX7_fuel_X7_needState : GoodIn wsX7_fuel (va_wsS RX7 77 yX7_needState wsX7_needState) := goodIn_app (goodIn_of _ (by decide +kernel)) ggX7_fuel_X7_needState
set_option maxRecDepth 20000 in
theorem ggX7_wide_X7_needBoat : GoodIn wsX7_wide wsX7_needBoat := goodIn_ca (goodIn_r _ [7, 8, 9, 10, 11, 12, 13, 14, 15, 16, 17, 18, 19, 20, 21, 22, 23, 24, 25, 26, 27, 28, 29, 30, 31, 32, 33, 34, 73, 74, 75, 76, 77, 78, 79, 80, 81, 82, 83, 84, 85, 86, 87, 88, 89] (by decide +kernel) (by decide +kernel)) (goodIn_sub (fun _ h => List.mem_cons_of_mem _ (List.mem_append_left _ (List.mem_append_left _ (List.mem_append_right _ h)))) (by decide +kernel))
set_option maxRecDepth 20000 in
theorem gX7_wide_X7_needBoat : GoodIn wsX7_wide (wsV RX7 219 RX7 yX7_needBoat wsX7_needBoat) := goodIn_app (goodIn_of _ (by decide +kernel)) ggX7_wide_X7_needBoat
set_option maxRecDepth 20000 in
theorem ggX7_wide_X7_needWithin : GoodIn wsX7_wide wsX7_needWithin := goodIn_ca (goodIn_r _ [37, 38, 39] (by decide +kernel) (by decide +kernel)) (goodIn_sub (fun _ h => List.mem_cons_of_mem _ (List.mem_append_left _ (List.mem_append_right _ h))) (by decide +kernel))
set_option maxRecDepth 20000 in
theorem gX7_wide_X7_needWithin : GoodIn wsX7_wide (va_wsS RX7 57 yX7_needWithin wsX7_needWithin) := goodIn_app (goodIn_of _ (by decide +kernel)) ggX7_wide_X7_needWithin
set_option maxRecDepth 20000 in
theorem ggX7_wide_X4_size : GoodIn wsX7_wide wsX4_size := goodIn_r _ [44, 45, 46, 13, 14, 15, 16, 17, 67, 68, 69, 70, 71, 72, 87, 88, 89] (by decide +kernel) (by decide +kernel)
set_option maxRecDepth 20000 in
theorem gX7_wide_X4_size : GoodIn wsX7_wide (wsV RX7 101 RX4 yX4_size wsX4_size) := goodIn_app (goodIn_of _ (by decide +kernel)) ggX7_wide_X4_size
set_option maxRecDepth 20000 in
theorem ggX7_wide_X7_needState : GoodIn wsX7_wide wsX7_needState := goodIn_ca (goodIn_r _ [49, 50, 51] (by decide +kernel) (by decide +kernel)) (goodIn_sub (fun _ h => List.mem_cons_of_mem _ (List.mem_append_right _ h)) (by decide +kernel))
set_option maxRecDepth 20000 in
theorem gX7_wide_X7_needState : GoodIn wsX7_wide (va_wsS RX7 77 yX7_needState wsX7_needState) := goodIn_app (goodIn_of _ (by decide +kernel)) ggX7_wide_X7_needState
set_option maxRecDepth 20000 in
theorem ggX7_couple_X7_needBoat : GoodIn wsX7_couple wsX7_needBoat := goodIn_ca (goodIn_r _ [13, 14, 15, 16, 17, 18, 19, 20, 21, 22, 23, 24, 25, 26, 27, 28, 29, 30, 31, 32, 33, 34, 35, 36, 37, 38, 39, 40, 235, 236, 237, 238, 239, 240, 241, 242, 243, 244, 245, 246, 247, 248, 249, 250, 251] (by decide +kernel) (by decide +kernel)) (goodIn_sub (fun _ h => List.mem_cons_of_mem _ (List.mem_append_left _ (List.mem_append_right _ h))) (by decide +kernel))
set_option maxRecDepth 20000 in
theorem gX7_couple_X7_needBoat : GoodIn wsX7_couple (wsV RX7 219 RX7 yX7_needBoat wsX7_needBoat) := goodIn_app (goodIn_of _ (by decide +kernel)) ggX7_couple_X7_needBoat
set_option maxRecDepth 20000 in
theorem ggX7_couple_X7_needBarge : GoodIn wsX7_couple wsX7_needBarge := goodIn_ca (goodIn_r _ [44, 14, 15, 45, 46, 18, 19, 20, 21, 22, 23, 24, 25, 26, 27, 28, 29, 30, 31, 32, 33, 34, 35, 36, 37, 38, 39, 40, 235, 236, 237, 238, 239, 240, 241, 242, 243, 244, 245, 246, 247, 248, 249, 250, 251] (by decide +kernel) (by decide +kernel)) (goodIn_sub (fun _ h => List.mem_cons_of_mem _ (List.mem_append_left _ (List.mem_append_right _ h))) (by decide +kernel))
set_option maxRecDepth 20000 in
theorem gX7_couple_X7_needBarge : GoodIn wsX7_couple (wsV RX7 153 RX7 yX7_needBarge wsX7_needBarge) := goodIn_app (goodIn_of _ (by decide +kernel)) ggX7_couple_X7_needBarge
set_option maxRecDepth 20000 in
theorem ggX7_couple_X1_isUnderWay : GoodIn wsX7_couple wsX1_isUnderWay := goodIn_r _ [51, 52, 214, 215, 216, 217, 218, 219, 220, 221, 222, 223, 224, 225, 226, 227, 228] (by decide +kernel) (by decide +kernel)
set_option maxRecDepth 20000 in
theorem gX7_couple_X1_isUnderWay : GoodIn wsX7_couple (wsV RX7 223 RX1 yX1_isUnderWay wsX1_isUnderWay) := goodIn_app (goodIn_of _ (by decide +kernel)) ggX7_couple_X1_isUnderWay
set_option maxRecDepth 20000 in
theorem ggX7_couple_X0_isTiedAt : GoodIn wsX7_couple wsX0_isTiedAt := goodIn_r _ [57, 58, 59, 60, 61, 62, 63, 64, 65, 229, 230, 231, 232, 233, 234, 252, 253, 254, 255, 256, 257] (by decide +kernel) (by decide +kernel)
set_option maxRecDepth 20000 in
theorem gX7_couple_X0_isTiedAt : GoodIn wsX7_couple (wsV RX7 241 RX0 yX0_isTiedAt wsX0_isTiedAt) := goodIn_app (goodIn_of _ (by decide +kernel)) ggX7_couple_X0_isTiedAt
set_option maxRecDepth 20000 in
theorem ggX7_couple_X7_needState : GoodIn wsX7_couple wsX7_needState := goodIn_ca (goodIn_r _ [68, 69, 70] (by decide +kernel) (by decide +kernel)) (goodIn_sub (fun _ h => List.mem_cons_of_mem _ (List.mem_append_right _ h)) (by decide +kernel))
set_option maxRecDepth 20000 in
theorem gX7_couple_X7_needState : GoodIn wsX7_couple (va_wsS RX7 77 yX7_needState wsX7_needState) := goodIn_app (goodIn_of _ (by decide +kernel)) ggX7_couple_X7_needState
set_option maxRecDepth 20000 in
theorem ggX7_couple_X4_hasRoom : GoodIn wsX7_couple wsX4_hasRoom := goodIn_r _ [74, 75, 76, 77, 19, 20, 21, 22, 23, 252, 253, 254, 255, 256, 257, 249, 250, 251] (by decide +kernel) (by decide +kernel)
set_option maxRecDepth 20000 in
theorem gX7_couple_X4_hasRoom : GoodIn wsX7_couple (wsV RX7 109 RX4 yX4_hasRoom wsX4_hasRoom) := goodIn_app (goodIn_of _ (by decide +kernel)) ggX7_couple_X4_hasRoom
set_option maxRecDepth 20000 in
theorem ggX7_couple_X4_isDangerous : GoodIn wsX7_couple wsX4_isDangerous := goodIn_r _ [81, 82, 75, 77, 19, 20, 21, 22, 23, 83, 84, 85, 63, 86, 87, 88, 25, 26, 27, 28, 29, 30, 31, 32, 33, 34, 35, 36, 37, 38, 39, 40, 89, 90, 91, 56, 92, 93, 94, 252, 253, 254, 255, 256, 257, 249, 250, 251, 229, 230, 231, 232, 233, 234] (by decide +kernel) (by decide +kernel)
set_option maxRecDepth 20000 in
theorem gX7_couple_X4_isDangerous : GoodIn wsX7_couple (wsV RX7 244 RX4 yX4_isDangerous wsX4_isDangerous) := goodIn_app (goodIn_of _ (by decide +kernel)) ggX7_couple_X4_isDangerous
set_option maxRecDepth 20000 in
theorem ggX7_couple_X4_behind : GoodIn wsX7_couple wsX4_behind := goodIn_r _ [98, 99, 100, 101, 63, 102, 75, 87, 103, 104, 105, 106, 77, 19, 20, 21, 22, 23, 88, 25, 26, 27, 28, 29, 30, 31, 32, 33, 34, 35, 36, 37, 38, 39, 40, 107, 108, 109, 56, 110, 111, 252, 253, 254, 255, 256, 257, 249, 250, 251, 229, 230, 231, 232, 233, 234] (by decide +kernel) (by decide +kernel)
set_option maxRecDepth 20000 in
theorem gX7_couple_X4_behind : GoodIn wsX7_couple (wsV RX7 248 RX4 yX4_behind wsX4_behind) := goodIn_app (goodIn_of _ (by decide +kernel)) ggX7_couple_X4_behind
set_option maxRecDepth 20000 in
theorem ggX7_couple_X4_release : GoodIn wsX7_couple wsX4_release := goodIn_r _ [115, 75, 103, 104, 105, 63, 106, 77, 19, 20, 21, 22, 23, 88, 25, 26, 27, 28, 29, 30, 31, 32, 33, 34, 35, 36, 37, 38, 39, 40, 116, 117, 118, 119, 120, 121, 122, 123, 124, 125, 126, 127, 128, 129, 252, 253, 254, 255, 256, 257, 249, 250, 251] (by decide +kernel) (by decide +kernel)
set_option maxRecDepth 20000 in
theorem gX7_couple_X4_release : GoodIn wsX7_couple (wsV RX7 252 RX4 yX4_release wsX4_release) := goodIn_app (goodIn_of _ (by decide +kernel)) ggX7_couple_X4_release
set_option maxRecDepth 20000 in
theorem ggX7_couple_X4_append : GoodIn wsX7_couple wsX4_append := goodIn_r _ [133, 75, 134, 135, 136, 137, 21, 138, 124, 125, 40, 23, 139, 140, 141, 142, 143, 144, 145, 146, 147, 148, 149, 150, 151, 152, 153, 154, 155, 156, 157, 158, 159, 160, 161, 162, 163, 164, 165, 166, 167, 168, 169, 170, 171, 172, 173, 174, 175, 176, 177, 178, 179, 180, 181, 182, 127, 128, 129, 252, 253, 254, 255, 256, 257, 229, 230, 231, 232, 233, 234, 249, 250, 251] (by decide +kernel) (by decide +kernel)
set_option maxRecDepth 20000 in
theorem gX7_couple_X4_append : GoodIn wsX7_couple (wsV RX7 118 RX4 yX4_append wsX4_append) := goodIn_app (goodIn_of _ (by decide +kernel)) ggX7_couple_X4_append
set_option maxRecDepth 20000 in
theorem ggX7_couple_X6_tell : GoodIn wsX7_couple wsX6_tell := goodIn_r _ [187, 188, 189, 190, 191, 192, 193, 194, 195, 196, 197, 198, 199, 200, 201, 202, 203, 204, 205, 206, 207, 208, 209, 258, 259, 260, 261, 262, 263] (by decide +kernel) (by decide +kernel)
set_option maxRecDepth 20000 in
theorem gX7_couple_X6_tell : GoodIn wsX7_couple (wsV RX7 125 RX6 yX6_tell wsX6_tell) := goodIn_app (goodIn_of _ (by decide +kernel)) ggX7_couple_X6_tell
set_option maxRecDepth 20000 in
theorem ggX7_couple_X4_size : GoodIn wsX7_couple wsX4_size := goodIn_r _ [213, 75, 77, 19, 20, 21, 22, 23, 252, 253, 254, 255, 256, 257, 249, 250, 251] (by decide +kernel) (by decide +kernel)
set_option maxRecDepth 20000 in
theorem gX7_couple_X4_size : GoodIn wsX7_couple (wsV RX7 101 RX4 yX4_size wsX4_size) := goodIn_app (goodIn_of _ (by decide +kernel)) ggX7_couple_X4_size
set_option maxRecDepth 20000 in
theorem ggX7_drop_X7_needBoat : GoodIn wsX7_drop wsX7_needBoat := goodIn_ca (goodIn_r _ [11, 12, 13, 14, 15, 16, 17, 18, 19, 20, 21, 22, 23, 24, 25, 26, 27, 28, 29, 30, 31, 32, 33, 34, 35, 36, 37, 38, 235, 236, 237, 238, 239, 240, 241, 242, 243, 244, 245, 246, 247, 248, 249, 250, 251] (by decide +kernel) (by decide +kernel)) (goodIn_sub (fun _ h => List.mem_cons_of_mem _ (List.mem_append_left _ (List.mem_append_right _ h))) (by decide +kernel))
set_option maxRecDepth 20000 in
theorem gX7_drop_X7_needBoat : GoodIn wsX7_drop (wsV RX7 219 RX7 yX7_needBoat wsX7_needBoat) := goodIn_app (goodIn_of _ (by decide +kernel)) ggX7_drop_X7_needBoat
set_option maxRecDepth 20000 in
theorem ggX7_drop_X7_needBarge : GoodIn wsX7_drop wsX7_needBarge := goodIn_ca (goodIn_r _ [42, 12, 13, 43, 44, 16, 17, 18, 19, 20, 21, 22, 23, 24, 25, 26, 27, 28, 29, 30, 31, 32, 33, 34, 35, 36, 37, 38, 235, 236, 237, 238, 239, 240, 241, 242, 243, 244, 245, 246, 247, 248, 249, 250, 251] (by decide +kernel) (by decide +kernel)) (goodIn_sub (fun _ h => List.mem_cons_of_mem _ (List.mem_append_left _ (List.mem_append_right _ h))) (by decide +kernel))
set_option maxRecDepth 20000 in
theorem gX7_drop_X7_needBarge : GoodIn wsX7_drop (wsV RX7 153 RX7 yX7_needBarge wsX7_needBarge) := goodIn_app (goodIn_of _ (by decide +kernel)) ggX7_drop_X7_needBarge
set_option maxRecDepth 20000 in
theorem ggX7_drop_X7_needIndex : GoodIn wsX7_drop wsX7_needIndex := goodIn_ca (goodIn_r _ [47, 12, 13] (by decide +kernel) (by decide +kernel)) (goodIn_sub (fun _ h => List.mem_cons_of_mem _ (List.mem_append_left _ (List.mem_append_right _ h))) (by decide +kernel))
set_option maxRecDepth 20000 in
theorem gX7_drop_X7_needIndex : GoodIn wsX7_drop (va_wsS RX7 261 yX7_needIndex wsX7_needIndex) := goodIn_app (goodIn_of _ (by decide +kernel)) ggX7_drop_X7_needIndex
set_option maxRecDepth 20000 in
theorem ggX7_drop_X1_isUnderWay : GoodIn wsX7_drop wsX1_isUnderWay := goodIn_r _ [52, 53, 220, 221, 222, 223, 224, 225, 226, 227, 228, 229, 230, 231, 232, 233, 234] (by decide +kernel) (by decide +kernel)
set_option maxRecDepth 20000 in
theorem gX7_drop_X1_isUnderWay : GoodIn wsX7_drop (wsV RX7 223 RX1 yX1_isUnderWay wsX1_isUnderWay) := goodIn_app (goodIn_of _ (by decide +kernel)) ggX7_drop_X1_isUnderWay
set_option maxRecDepth 20000 in
theorem ggX7_drop_X7_needState : GoodIn wsX7_drop wsX7_needState := goodIn_ca (goodIn_r _ [56, 57, 58] (by decide +kernel) (by decide +kernel)) (goodIn_sub (fun _ h => List.mem_cons_of_mem _ (List.mem_append_right _ h)) (by decide +kernel))
set_option maxRecDepth 20000 in
theorem gX7_drop_X7_needState : GoodIn wsX7_drop (va_wsS RX7 77 yX7_needState wsX7_needState) := goodIn_app (goodIn_of _ (by decide +kernel)) ggX7_drop_X7_needState
set_option maxRecDepth 20000 in
theorem ggX7_drop_X7_needTier : GoodIn wsX7_drop wsX7_needTier := goodIn_ca (goodIn_r _ [62, 12, 13, 63, 64, 65, 66, 10, 67, 45, 46, 47, 16, 17, 18, 19, 20, 21, 22, 23, 24, 25, 26, 27, 28, 29, 30, 31, 32, 33, 34, 35, 36, 37, 38, 235, 236, 237, 238, 239, 240, 241, 242, 243, 244, 245, 246, 247, 248, 249, 250, 251] (by decide +kernel) (by decide +kernel)) (goodIn_sub (fun _ h => List.mem_cons_of_mem _ (List.mem_append_left _ (List.mem_append_right _ h))) (by decide +kernel))
set_option maxRecDepth 20000 in
theorem gX7_drop_X7_needTier : GoodIn wsX7_drop (wsV RX7 97 RX7 yX7_needTier wsX7_needTier) := goodIn_app (goodIn_of _ (by decide +kernel)) ggX7_drop_X7_needTier
set_option maxRecDepth 20000 in
theorem ggX7_drop_X4_hasRoom : GoodIn wsX7_drop wsX4_hasRoom := goodIn_r _ [72, 73, 74, 75, 17, 18, 19, 20, 21, 252, 253, 254, 255, 256, 257, 249, 250, 251] (by decide +kernel) (by decide +kernel)
set_option maxRecDepth 20000 in
theorem gX7_drop_X4_hasRoom : GoodIn wsX7_drop (wsV RX7 109 RX4 yX4_hasRoom wsX4_hasRoom) := goodIn_app (goodIn_of _ (by decide +kernel)) ggX7_drop_X4_hasRoom
set_option maxRecDepth 20000 in
theorem ggX7_drop_X4_placeOf : GoodIn wsX7_drop wsX4_placeOf := goodIn_r _ [79, 73, 75, 17, 18, 19, 20, 21, 80, 23, 24, 25, 26, 27, 28, 29, 30, 31, 32, 33, 34, 35, 36, 37, 38, 252, 253, 254, 255, 256, 257, 249, 250, 251] (by decide +kernel) (by decide +kernel)
set_option maxRecDepth 20000 in
theorem gX7_drop_X4_placeOf : GoodIn wsX7_drop (wsV RX7 264 RX4 yX4_placeOf wsX4_placeOf) := goodIn_app (goodIn_of _ (by decide +kernel)) ggX7_drop_X4_placeOf
set_option maxRecDepth 20000 in
theorem ggX7_drop_X4_isDangerous : GoodIn wsX7_drop wsX4_isDangerous := goodIn_r _ [84, 85, 73, 75, 17, 18, 19, 20, 21, 86, 87, 88, 71, 89, 90, 80, 23, 24, 25, 26, 27, 28, 29, 30, 31, 32, 33, 34, 35, 36, 37, 38, 91, 92, 93, 94, 95, 96, 97, 252, 253, 254, 255, 256, 257, 249, 250, 251, 214, 215, 216, 217, 218, 219] (by decide +kernel) (by decide +kernel)
set_option maxRecDepth 20000 in
theorem gX7_drop_X4_isDangerous : GoodIn wsX7_drop (wsV RX7 244 RX4 yX4_isDangerous wsX4_isDangerous) := goodIn_app (goodIn_of _ (by decide +kernel)) ggX7_drop_X4_isDangerous
set_option maxRecDepth 20000 in
theorem ggX7_drop_X4_behind : GoodIn wsX7_drop wsX4_behind := goodIn_r _ [101, 102, 103, 104, 71, 105, 73, 90, 106, 77, 78, 79, 75, 17, 18, 19, 20, 21, 80, 23, 24, 25, 26, 27, 28, 29, 30, 31, 32, 33, 34, 35, 36, 37, 38, 107, 108, 109, 94, 110, 111, 252, 253, 254, 255, 256, 257, 249, 250, 251, 214, 215, 216, 217, 218, 219] (by decide +kernel) (by decide +kernel)
set_option maxRecDepth 20000 in
theorem gX7_drop_X4_behind : GoodIn wsX7_drop (wsV RX7 248 RX4 yX4_behind wsX4_behind) := goodIn_app (goodIn_of _ (by decide +kernel)) ggX7_drop_X4_behind
set_option maxRecDepth 20000 in
theorem ggX7_drop_X4_release : GoodIn wsX7_drop wsX4_release := goodIn_r _ [115, 73, 106, 77, 78, 71, 79, 75, 17, 18, 19, 20, 21, 80, 23, 24, 25, 26, 27, 28, 29, 30, 31, 32, 33, 34, 35, 36, 37, 38, 116, 117, 118, 119, 120, 121, 122, 123, 124, 125, 126, 127, 128, 129, 252, 253, 254, 255, 256, 257, 249, 250, 251] (by decide +kernel) (by decide +kernel)
set_option maxRecDepth 20000 in
theorem gX7_drop_X4_release : GoodIn wsX7_drop (wsV RX7 252 RX4 yX4_release wsX4_release) := goodIn_app (goodIn_of _ (by decide +kernel)) ggX7_drop_X4_release
set_option maxRecDepth 20000 in
theorem ggX7_drop_X4_append : GoodIn wsX7_drop wsX4_append := goodIn_r _ [133, 73, 134, 135, 136, 137, 19, 138, 124, 125, 38, 21, 139, 140, 141, 142, 143, 144, 145, 146, 147, 148, 149, 150, 151, 152, 153, 154, 155, 156, 157, 158, 159, 160, 161, 162, 163, 164, 165, 166, 167, 168, 169, 170, 171, 172, 173, 174, 175, 176, 177, 178, 179, 180, 181, 182, 127, 128, 129, 252, 253, 254, 255, 256, 257, 214, 215, 216, 217, 218, 219, 249, 250, 251] (by decide +kernel) (by decide +kernel)
set_option maxRecDepth 20000 in
theorem gX7_drop_X4_append : GoodIn wsX7_drop (wsV RX7 118 RX4 yX4_append wsX4_append) := goodIn_app (goodIn_of _ (by decide +kernel)) ggX7_drop_X4_append
set_option maxRecDepth 20000 in
theorem ggX7_drop_X6_tell : GoodIn wsX7_drop wsX6_tell := goodIn_r _ [187, 188, 189, 190, 191, 192, 193, 194, 195, 196, 197, 198, 199, 200, 201, 202, 203, 204, 205, 206, 207, 208, 209, 258, 259, 260, 261, 262, 263] (by decide +kernel) (by decide +kernel)
set_option maxRecDepth 20000 in
theorem gX7_drop_X6_tell : GoodIn wsX7_drop (wsV RX7 125 RX6 yX6_tell wsX6_tell) := goodIn_app (goodIn_of _ (by decide +kernel)) ggX7_drop_X6_tell
set_option maxRecDepth 20000 in
theorem ggX7_drop_X4_size : GoodIn wsX7_drop wsX4_size := goodIn_r _ [213, 73, 75, 17, 18, 19, 20, 21, 252, 253, 254, 255, 256, 257, 249, 250, 251] (by decide +kernel) (by decide +kernel)
set_option maxRecDepth 20000 in
theorem gX7_drop_X4_size : GoodIn wsX7_drop (wsV RX7 101 RX4 yX4_size wsX4_size) := goodIn_app (goodIn_of _ (by decide +kernel)) ggX7_drop_X4_size
set_option maxRecDepth 20000 in
theorem ggX7_radio_X7_needBoat : GoodIn wsX7_radio wsX7_needBoat := goodIn_ca (goodIn_r _ [5, 6, 7, 8, 9, 10, 11, 12, 13, 14, 15, 16, 17, 18, 19, 20, 21, 22, 23, 24, 25, 26, 27, 28, 29, 30, 31, 32, 49, 50, 51, 52, 53, 54, 55, 56, 57, 58, 59, 60, 61, 62, 63, 64, 65] (by decide +kernel) (by decide +kernel)) (goodIn_sub (fun _ h => List.mem_cons_of_mem _ (List.mem_append_left _ (List.mem_append_right _ h))) (by decide +kernel))
set_option maxRecDepth 20000 in
theorem gX7_radio_X7_needBoat : GoodIn wsX7_radio (wsV RX7 219 RX7 yX7_needBoat wsX7_needBoat) := goodIn_app (goodIn_of _ (by decide +kernel)) ggX7_radio_X7_needBoat
set_option maxRecDepth 20000 in
theorem ggX7_radio_X7_needArgument : GoodIn wsX7_radio wsX7_needArgument := goodIn_ca (goodIn_r _ [35, 36, 37] (by decide +kernel) (by decide +kernel)) (goodIn_sub (fun _ h => List.mem_cons_of_mem _ (List.mem_append_right _ h)) (by decide +kernel))
set_option maxRecDepth 20000 in
theorem gX7_radio_X7_needArgument : GoodIn wsX7_radio (va_wsS RX7 131 yX7_needArgument wsX7_needArgument) := goodIn_app (goodIn_of _ (by decide +kernel)) ggX7_radio_X7_needArgument
set_option maxRecDepth 20000 in
theorem ggX7_radio_X1_agreesWith : GoodIn wsX7_radio wsX1_agreesWith := goodIn_r _ [42, 43, 44, 66, 67, 68, 69, 70, 71, 72, 73, 74, 75, 76, 77, 78, 79, 80] (by decide +kernel) (by decide +kernel)
set_option maxRecDepth 20000 in
theorem gX7_radio_X1_agreesWith : GoodIn wsX7_radio (wsV RX7 267 RX1 yX1_agreesWith wsX1_agreesWith) := goodIn_app (goodIn_of _ (by decide +kernel)) ggX7_radio_X1_agreesWith
set_option maxRecDepth 20000 in
theorem ggX7_radio_X1_agree : GoodIn wsX7_radio wsX1_agree := goodIn_r _ [48, 44, 43, 66, 67, 68, 69, 70, 71, 72, 73, 74, 75, 76, 77, 78, 79, 80] (by decide +kernel) (by decide +kernel)
set_option maxRecDepth 20000 in
theorem gX7_radio_X1_agree : GoodIn wsX7_radio (wsV RX7 271 RX1 yX1_agree wsX1_agree) := goodIn_app (goodIn_of _ (by decide +kernel)) ggX7_radio_X1_agree
set_option maxRecDepth 20000 in
theorem ggX7_go_X7_needBoat : GoodIn wsX7_go wsX7_needBoat := goodIn_ca (goodIn_r _ [9, 10, 11, 12, 13, 14, 15, 16, 17, 18, 19, 20, 21, 22, 23, 24, 25, 26, 27, 28, 29, 30, 31, 32, 33, 34, 35, 36, 58, 59, 60, 61, 62, 63, 64, 65, 66, 67, 68, 69, 70, 71, 72, 73, 74] (by decide +kernel) (by decide +kernel)) (goodIn_sub (fun _ h => List.mem_cons_of_mem _ (List.mem_append_right _ h)) (by decide +kernel))
set_option maxRecDepth 20000 in
theorem gX7_go_X7_needBoat : GoodIn wsX7_go (wsV RX7 219 RX7 yX7_needBoat wsX7_needBoat) := goodIn_app (goodIn_of _ (by decide +kernel)) ggX7_go_X7_needBoat
set_option maxRecDepth 20000 in
theorem ggX7_go_X7_needPoint : GoodIn wsX7_go wsX7_needPoint := goodIn_ca (goodIn_r _ [39, 40, 41, 8, 42, 10, 11] (by decide +kernel) (by decide +kernel)) (goodIn_sub (fun _ h => List.mem_cons_of_mem _ (List.mem_append_right _ h)) (by decide +kernel))
set_option maxRecDepth 20000 in
theorem gX7_go_X7_needPoint : GoodIn wsX7_go (va_wsS RX7 128 yX7_needPoint wsX7_needPoint) := goodIn_app (goodIn_of _ (by decide +kernel)) ggX7_go_X7_needPoint
set_option maxRecDepth 20000 in
theorem ggX7_pass_X7_needWithin : GoodIn wsX7_pass wsX7_needWithin := goodIn_ca (goodIn_r _ [5, 6, 7] (by decide +kernel) (by decide +kernel)) (goodIn_sub (fun _ h => List.mem_cons_of_mem _ (List.mem_append_left _ (List.mem_append_right _ h))) (by decide +kernel))
set_option maxRecDepth 20000 in
theorem gX7_pass_X7_needWithin : GoodIn wsX7_pass (va_wsS RX7 57 yX7_needWithin wsX7_needWithin) := goodIn_app (goodIn_of _ (by decide +kernel)) ggX7_pass_X7_needWithin
set_option maxRecDepth 20000 in
theorem ggX7_pass_X7_needState : GoodIn wsX7_pass wsX7_needState := goodIn_ca (goodIn_r _ [10, 11, 12] (by decide +kernel) (by decide +kernel)) (goodIn_sub (fun _ h => List.mem_cons_of_mem _ (List.mem_append_right _ h)) (by decide +kernel))
set_option maxRecDepth 20000 in
theorem gX7_pass_X7_needState : GoodIn wsX7_pass (va_wsS RX7 77 yX7_needState wsX7_needState) := goodIn_app (goodIn_of _ (by decide +kernel)) ggX7_pass_X7_needState
set_option maxRecDepth 20000 in
theorem ggX7_pass_X7_beginHour : GoodIn wsX7_pass wsX7_beginHour := goodIn_r _ [16, 1, 17, 18, 19, 20, 21, 22, 23, 4, 24, 25, 26, 27, 28, 29, 30, 31, 32, 33, 34, 35, 36, 37, 38, 39, 40, 41, 42, 43, 44, 45, 46, 47, 48, 49, 50, 51, 52, 53, 54, 55, 56, 57, 58, 59, 60, 61, 62, 63, 64, 263, 264, 265, 266, 267, 268, 269, 270, 271, 272, 273, 274, 275, 276, 277, 278, 279, 280, 281, 282, 283, 284, 285, 286, 287, 288, 289, 290, 291, 292, 293, 294] (by decide +kernel) (by decide +kernel)
set_option maxRecDepth 20000 in
theorem gX7_pass_X7_beginHour : GoodIn wsX7_pass (wsV RX7 281 RX7 yX7_beginHour wsX7_beginHour) := goodIn_app (goodIn_of _ (by decide +kernel)) ggX7_pass_X7_beginHour
set_option maxRecDepth 20000 in
theorem ggX7_pass_X7_travel : GoodIn wsX7_pass wsX7_travel := goodIn_r _ [68, 19, 20, 69, 70, 71, 72, 73, 74, 33, 34, 35, 36, 37, 38, 39, 40, 41, 42, 43, 44, 45, 46, 47, 48, 49, 50, 51, 52, 53, 54, 55, 75, 76, 77, 4, 78, 79, 17, 80, 81, 82, 83, 84, 85, 86, 87, 88, 31, 28, 32, 89, 90, 91, 92, 93, 59, 94, 64, 95, 96, 97, 98, 99, 1, 100, 101, 102, 103, 104, 105, 106, 107, 108, 109, 110, 111, 112, 113, 114, 115, 116, 117, 118, 119, 120, 121, 122, 123, 124, 125, 126, 127, 128, 129, 130, 131, 132, 133, 134, 135, 136, 137, 138, 139, 140, 141, 142, 143, 144, 145, 146, 147, 148, 149, 263, 264, 265, 266, 267, 268, 269, 270, 271, 272, 273, 274, 275, 276, 280, 281, 282, 283, 284, 285, 286, 287, 288, 289, 290, 291, 292, 293, 294, 295, 296, 297, 298, 299, 300, 301, 302, 303, 304, 305, 306, 307, 277, 278, 279, 308, 309, 310, 311, 312, 313, 314, 315, 316, 317, 318, 319, 320, 321, 322, 323, 324, 325] (by decide +kernel) (by decide +kernel)
set_option maxRecDepth 20000 in
theorem gX7_pass_X7_travel : GoodIn wsX7_pass (wsV RX7 284 RX7 yX7_travel wsX7_travel) := goodIn_app (goodIn_of _ (by decide +kernel)) ggX7_pass_X7_travel
set_option maxRecDepth 20000 in
theorem ggX7_pass_X7_sendOff : GoodIn wsX7_pass wsX7_sendOff := goodIn_r _ [153, 19, 20, 33, 34, 35, 36, 37, 38, 39, 40, 41, 42, 43, 44, 45, 46, 47, 48, 49, 50, 51, 52, 53, 54, 55, 154, 155, 156, 4, 157, 158, 102, 70, 71, 159, 160, 161, 59, 162, 108, 163, 164, 165, 166, 116, 113, 167, 168, 169, 170, 72, 171, 172, 173, 174, 175, 176, 177, 178, 179, 180, 73, 181, 182, 183, 184, 17, 185, 75, 76, 77, 78, 79, 80, 81, 82, 83, 84, 85, 86, 87, 88, 31, 28, 32, 89, 90, 186, 187, 188, 189, 190, 191, 192, 193, 194, 195, 196, 197, 198, 199, 200, 201, 202, 203, 27, 29, 204, 205, 206, 207, 208, 209, 210, 211, 212, 213, 214, 215, 216, 217, 218, 219, 220, 221, 222, 223, 224, 69, 225, 226, 227, 228, 229, 230, 231, 232, 122, 121, 233, 234, 235, 236, 237, 238, 239, 240, 241, 242, 243, 244, 245, 246, 247, 115, 248, 249, 250, 251, 100, 101, 252, 253, 254, 255, 256, 107, 114, 257, 258, 259, 260, 261, 262, 123, 124, 125, 126, 127, 128, 129, 130, 131, 132, 133, 134, 135, 136, 137, 138, 139, 140, 141, 142, 143, 144, 145, 146, 147, 148, 149, 91, 92, 93, 94, 64, 95, 263, 264, 265, 266, 267, 268, 269, 270, 271, 272, 273, 274, 275, 276, 277, 278, 279, 280, 281, 282, 283, 284, 285, 286, 287, 288, 289, 290, 291, 292, 293, 294, 295, 296, 297, 298, 299, 300, 301, 302, 303, 304, 305, 306, 307, 308, 309, 310, 311, 312, 313, 314, 315, 316, 317, 318, 319, 320, 321, 322, 323, 324, 325] (by decide +kernel) (by decide +kernel)
