set_option maxRecDepth 100000 in
theorem ggX5_moved_X3_anyThere : GoodIn wsX5_moved wsX3_anyThere := goodIn_r _ [65, 66, 67, 68, 24, 69, 28, 70, 26, 71, 29, 27, 72, 73, 74, 75, 33, 76, 35, 77, 78, 79, 51, 80, 55, 81, 82, 83, 84, 85, 86, 87, 88, 53, 89, 90, 91, 92, 93, 94, 95, 96, 215, 216, 217, 218, 219, 220, 221, 222, 223, 224, 225, 226, 227, 228, 229, 231, 232, 233, 234, 213, 214, 230] rfl (by decide +kernel)
set_option maxRecDepth 100000 in
theorem gX5_moved_X3_anyThere : GoodIn wsX5_moved (wsV RX5 185 RX3 yX3_anyThere wsX3_anyThere) := goodIn_app (goodIn_of _ (by decide +kernel)) ggX5_moved_X3_anyThere
set_option maxRecDepth 100000 in
theorem ggX5_moved_X3_movedTotal : GoodIn wsX5_moved wsX3_movedTotal := goodIn_r _ [100, 101, 27, 72, 102, 103, 104, 24, 105, 106, 66, 67, 68, 69, 28, 70, 26, 71, 29, 73, 74, 75, 33, 76, 35, 77, 78, 79, 51, 80, 55, 81, 82, 83, 84, 85, 86, 87, 88, 53, 89, 90, 91, 92, 93, 94, 95, 96, 107, 108, 109, 110, 111, 112, 113, 114, 115, 116, 117, 118, 119, 59, 60, 43, 61, 45, 120, 121, 122, 123, 124, 125, 126, 127, 9, 128, 129, 130, 131, 132, 133, 134, 135, 136, 137, 138, 139, 140, 141, 142, 143, 144, 145, 146, 147, 148, 149, 150, 151, 152, 153, 154, 155, 156, 157, 158, 159, 47, 160, 161, 162, 163, 164, 165, 166, 167, 168, 169, 170, 171, 172, 173, 174, 175, 176, 177, 178, 179, 180, 181, 182, 183, 184, 185, 186, 187, 188, 189, 190, 215, 216, 217, 218, 219, 220, 221, 222, 223, 224, 225, 226, 227, 228, 229, 213, 214, 231, 232, 233, 234, 230] rfl (by decide +kernel)
set_option maxRecDepth 100000 in
theorem gX5_moved_X3_movedTotal : GoodIn wsX5_moved (wsV RX5 201 RX3 yX3_movedTotal wsX3_movedTotal) := goodIn_app (goodIn_of _ (by decide +kernel)) ggX5_moved_X3_movedTotal
set_option maxRecDepth 100000 in
theorem ggX5_moved_X5_orders : GoodIn wsX5_moved wsX5_orders := goodIn_r _ [128, 129] rfl (by decide +kernel)
set_option maxRecDepth 100000 in
theorem gX5_moved_X5_orders : GoodIn wsX5_moved (va_wsS RX5 178 yX5_orders wsX5_orders) := goodIn_app (goodIn_of _ (by decide +kernel)) ggX5_moved_X5_orders
set_option maxRecDepth 100000 in
theorem ggX5_moved_X5_part : GoodIn wsX5_moved wsX5_part := goodIn_r _ [194, 195, 196, 172, 197, 198, 199, 9, 200] rfl (by decide +kernel)
set_option maxRecDepth 100000 in
theorem gX5_moved_X5_part : GoodIn wsX5_moved (va_wsS RX5 181 yX5_part wsX5_part) := goodIn_app (goodIn_of _ (by decide +kernel)) ggX5_moved_X5_part
set_option maxRecDepth 100000 in
theorem ggX5_known_X5_isRank : GoodIn wsX5_known wsX5_isRank := goodIn_r _ [13] rfl (by decide +kernel)
set_option maxRecDepth 100000 in
theorem gX5_known_X5_isRank : GoodIn wsX5_known (va_wsS RX5 69 yX5_isRank wsX5_isRank) := goodIn_app (goodIn_of _ (by decide +kernel)) ggX5_known_X5_isRank
set_option maxRecDepth 100000 in
theorem ggX5_known_X5_isPart : GoodIn wsX5_known wsX5_isPart := goodIn_r _ [16] rfl (by decide +kernel)
set_option maxRecDepth 100000 in
theorem gX5_known_X5_isPart : GoodIn wsX5_known (va_wsS RX5 165 yX5_isPart wsX5_isPart) := goodIn_app (goodIn_of _ (by decide +kernel)) ggX5_known_X5_isPart
set_option maxRecDepth 100000 in
theorem ggX5_known_X0_count : GoodIn wsX5_known wsX0_count := goodIn_r _ [21, 22, 79, 80] rfl (by decide +kernel)
set_option maxRecDepth 100000 in
theorem gX5_known_X0_count : GoodIn wsX5_known (wsV RX5 73 RX0 yX0_count wsX0_count) := goodIn_app (goodIn_of _ (by decide +kernel)) ggX5_known_X0_count
set_option maxRecDepth 100000 in
theorem ggX5_known_X5_part : GoodIn wsX5_known wsX5_part := goodIn_r _ [25, 26, 27, 28, 29, 30, 31, 12, 32] rfl (by decide +kernel)
set_option maxRecDepth 100000 in
theorem gX5_known_X5_part : GoodIn wsX5_known (va_wsS RX5 181 yX5_part wsX5_part) := goodIn_app (goodIn_of _ (by decide +kernel)) ggX5_known_X5_part
set_option maxRecDepth 100000 in
theorem ggX5_known_X5_countOfGone : GoodIn wsX5_known wsX5_countOfGone := goodIn_r _ [36, 9, 6, 17, 18, 19, 20, 21, 22, 67, 68, 69, 70, 71, 72, 73, 74, 75, 76, 77, 78, 79, 80] rfl (by decide +kernel)
set_option maxRecDepth 100000 in
theorem gX5_known_X5_countOfGone : GoodIn wsX5_known (wsV RX5 143 RX5 yX5_countOfGone wsX5_countOfGone) := goodIn_app (goodIn_of _ (by decide +kernel)) ggX5_known_X5_countOfGone
set_option maxRecDepth 100000 in
theorem ggX5_known_X2_ways : GoodIn wsX5_known wsX2_ways := goodIn_r _ [41, 42, 43, 44, 45, 46, 47, 18, 19, 20, 21, 22, 48, 49, 50, 40, 51, 52, 53, 28, 54, 55, 56, 57, 81, 79, 80] rfl (by decide +kernel)
set_option maxRecDepth 100000 in
theorem gX5_known_X2_ways : GoodIn wsX5_known (wsV RX5 204 RX2 yX2_ways wsX2_ways) := goodIn_app (goodIn_of _ (by decide +kernel)) ggX5_known_X2_ways
set_option maxRecDepth 100000 in
theorem ggX5_known_X0_remove : GoodIn wsX5_known wsX0_remove := goodIn_r _ [61, 22, 62, 79, 80] rfl (by decide +kernel)
set_option maxRecDepth 100000 in
theorem gX5_known_X0_remove : GoodIn wsX5_known (wsV RX5 208 RX0 yX0_remove wsX0_remove) := goodIn_app (goodIn_of _ (by decide +kernel)) ggX5_known_X0_remove
set_option maxRecDepth 100000 in
theorem ggX5_known_X0_add : GoodIn wsX5_known wsX0_add := goodIn_r _ [66, 22, 62, 79, 80] rfl (by decide +kernel)
set_option maxRecDepth 100000 in
theorem gX5_known_X0_add : GoodIn wsX5_known (wsV RX5 211 RX0 yX0_add wsX0_add) := goodIn_app (goodIn_of _ (by decide +kernel)) ggX5_known_X0_add
set_option maxRecDepth 100000 in
theorem ggX5_handValue_X4_value : GoodIn wsX5_handValue wsX4_value := goodIn_r _ [9, 10, 27] rfl (by decide +kernel)
set_option maxRecDepth 100000 in
theorem gX5_handValue_X4_value : GoodIn wsX5_handValue (wsV RX5 214 RX4 yX4_value wsX4_value) := goodIn_app (goodIn_of _ (by decide +kernel)) ggX5_handValue_X4_value
set_option maxRecDepth 100000 in
theorem ggX5_clearTable_X1_clear : GoodIn wsX5_clearTable wsX1_clear := goodIn_r _ [7, 8, 9, 10, 23, 24, 25, 26] rfl (by decide +kernel)
set_option maxRecDepth 100000 in
theorem gX5_clearTable_X1_clear : GoodIn wsX5_clearTable (wsV RX5 218 RX1 yX1_clear wsX1_clear) := goodIn_app (goodIn_of _ (by decide +kernel)) ggX5_clearTable_X1_clear
set_option maxRecDepth 100000 in
theorem ggX5_moveOut_X0_remove : GoodIn wsX5_moveOut wsX0_remove := goodIn_r _ [7, 8, 9, 26, 27] rfl (by decide +kernel)
set_option maxRecDepth 100000 in
theorem gX5_moveOut_X0_remove : GoodIn wsX5_moveOut (wsV RX5 208 RX0 yX0_remove wsX0_remove) := goodIn_app (goodIn_of _ (by decide +kernel)) ggX5_moveOut_X0_remove
set_option maxRecDepth 100000 in
theorem ggX5_moveOut_X0_add : GoodIn wsX5_moveOut wsX0_add := goodIn_r _ [13, 8, 9, 26, 27] rfl (by decide +kernel)
set_option maxRecDepth 100000 in
theorem gX5_moveOut_X0_add : GoodIn wsX5_moveOut (wsV RX5 211 RX0 yX0_add wsX0_add) := goodIn_app (goodIn_of _ (by decide +kernel)) ggX5_moveOut_X0_add
set_option maxRecDepth 100000 in
theorem ggX5_bring_X1_add : GoodIn wsX5_bring wsX1_add := goodIn_r _ [7, 8, 9, 10, 11, 24, 25, 26, 27] rfl (by decide +kernel)
set_option maxRecDepth 100000 in
theorem gX5_bring_X1_add : GoodIn wsX5_bring (wsV RX5 219 RX1 yX1_add wsX1_add) := goodIn_app (goodIn_of _ (by decide +kernel)) ggX5_bring_X1_add
set_option maxRecDepth 100000 in
theorem ggX5_drawnRank_X0_rankAt : GoodIn wsX5_drawnRank wsX0_rankAt := goodIn_r _ [10, 11, 39, 40] rfl (by decide +kernel)
set_option maxRecDepth 100000 in
theorem gX5_drawnRank_X0_rankAt : GoodIn wsX5_drawnRank (wsV RX5 224 RX0 yX0_rankAt wsX0_rankAt) := goodIn_app (goodIn_of _ (by decide +kernel)) ggX5_drawnRank_X0_rankAt
set_option maxRecDepth 100000 in
theorem ggX5_drawnRank_X5_moveOut : GoodIn wsX5_drawnRank wsX5_moveOut := goodIn_r _ [16, 1, 17, 18, 19, 20, 9, 21, 11, 22, 23, 24, 25, 26, 27, 28, 29, 30, 31, 32, 33, 34, 35, 36, 37, 38, 39, 40] rfl (by decide +kernel)
set_option maxRecDepth 100000 in
theorem gX5_drawnRank_X5_moveOut : GoodIn wsX5_drawnRank (wsV RX5 105 RX5 yX5_moveOut wsX5_moveOut) := goodIn_app (goodIn_of _ (by decide +kernel)) ggX5_drawnRank_X5_moveOut
set_option maxRecDepth 100000 in
theorem ggX5_playHouse_X4_value : GoodIn wsX5_playHouse wsX4_value := goodIn_r _ [9, 10, 61] rfl (by decide +kernel)
set_option maxRecDepth 100000 in
theorem gX5_playHouse_X4_value : GoodIn wsX5_playHouse (wsV RX5 214 RX4 yX4_value wsX4_value) := goodIn_app (goodIn_of _ (by decide +kernel)) ggX5_playHouse_X4_value
set_option maxRecDepth 100000 in
theorem ggX5_playHouse_X4_goesOn : GoodIn wsX5_playHouse wsX4_goesOn := goodIn_r _ [14, 10, 61] rfl (by decide +kernel)
set_option maxRecDepth 100000 in
theorem gX5_playHouse_X4_goesOn : GoodIn wsX5_playHouse (wsV RX5 227 RX4 yX4_goesOn wsX4_goesOn) := goodIn_app (goodIn_of _ (by decide +kernel)) ggX5_playHouse_X4_goesOn
set_option maxRecDepth 100000 in
theorem ggX5_playHouse_X5_drawnRank : GoodIn wsX5_playHouse wsX5_drawnRank := goodIn_r _ [19, 3, 4, 20, 21, 22, 23, 24, 25, 26, 27, 28, 29, 30, 31, 18, 32, 33, 34, 35, 36, 37, 38, 39, 40, 41, 42, 47, 48, 49, 50, 51, 52, 53, 54, 55, 56, 57, 58, 59, 60] rfl (by decide +kernel)
set_option maxRecDepth 100000 in
theorem gX5_playHouse_X5_drawnRank : GoodIn wsX5_playHouse (wsV RX5 115 RX5 yX5_drawnRank wsX5_drawnRank) := goodIn_app (goodIn_of _ (by decide +kernel)) ggX5_playHouse_X5_drawnRank
set_option maxRecDepth 100000 in
theorem ggX5_playHouse_X4_end : GoodIn wsX5_playHouse wsX4_end := goodIn_r _ [46, 10, 61] rfl (by decide +kernel)
set_option maxRecDepth 100000 in
theorem gX5_playHouse_X4_end : GoodIn wsX5_playHouse (wsV RX5 230 RX4 yX4_end wsX4_end) := goodIn_app (goodIn_of _ (by decide +kernel)) ggX5_playHouse_X4_end
set_option maxRecDepth 100000 in
theorem ggX5_countOfGone_X0_count : GoodIn wsX5_countOfGone wsX0_count := goodIn_r _ [7, 8, 21, 22] rfl (by decide +kernel)
set_option maxRecDepth 100000 in
theorem gX5_countOfGone_X0_count : GoodIn wsX5_countOfGone (wsV RX5 73 RX0 yX0_count wsX0_count) := goodIn_app (goodIn_of _ (by decide +kernel)) ggX5_countOfGone_X0_count
set_option maxRecDepth 100000 in
theorem ggX5_lookAtTable_X3_look : GoodIn wsX5_lookAtTable wsX3_look := goodIn_r _ [10, 11, 12, 13, 14, 15, 16, 17, 18, 19, 20, 21, 22, 23, 24, 25, 26, 27, 28, 29, 30, 31, 32, 33, 34, 35, 36, 37, 38, 39, 40, 41, 42, 55, 56, 57, 58, 59, 60, 61, 62, 63, 64, 65, 66, 67, 68, 69, 70, 71, 72, 73, 74, 75, 76] rfl (by decide +kernel)
set_option maxRecDepth 100000 in
theorem gX5_lookAtTable_X3_look : GoodIn wsX5_lookAtTable (wsV RX5 233 RX3 yX3_look wsX3_look) := goodIn_app (goodIn_of _ (by decide +kernel)) ggX5_lookAtTable_X3_look
set_option maxRecDepth 100000 in
theorem ggX5_part_X5_commonDivisor : GoodIn wsX5_part wsX5_commonDivisor := goodIn_r _ [8] rfl (by decide +kernel)
set_option maxRecDepth 100000 in
theorem gX5_part_X5_commonDivisor : GoodIn wsX5_part (va_wsS RX5 247 yX5_commonDivisor wsX5_commonDivisor) := goodIn_app (goodIn_of _ (by decide +kernel)) ggX5_part_X5_commonDivisor
set_option maxRecDepth 100000 in
theorem ggX6_shoe_X6_in : GoodIn wsX6_shoe wsX6_in := goodIn_r _ [8] rfl (by decide +kernel)
set_option maxRecDepth 100000 in
theorem gX6_shoe_X6_in : GoodIn wsX6_shoe (va_wsS RX6 88 yX6_in wsX6_in) := goodIn_app (goodIn_of _ (by decide +kernel)) ggX6_shoe_X6_in
set_option maxRecDepth 100000 in
theorem ggX6_fresh_X6_all : GoodIn wsX6_fresh wsX6_all := goodIn_r _ [11, 2, 12, 13, 14, 15, 16, 17, 18, 19, 20, 21, 22, 23, 24, 25, 26, 27, 28, 29, 30, 31, 32, 33, 34, 35, 36, 37, 38, 39, 40, 41, 42, 43, 44, 45, 46, 47, 48, 49, 50] rfl (by decide +kernel)
set_option maxRecDepth 100000 in
theorem gX6_fresh_X6_all : GoodIn wsX6_fresh (wsV RX6 104 RX6 yX6_all wsX6_all) := goodIn_app (goodIn_of _ (by decide +kernel)) ggX6_fresh_X6_all
set_option maxRecDepth 100000 in
theorem ggX6_rule_X6_in : GoodIn wsX6_rule wsX6_in := goodIn_r _ [17] rfl (by decide +kernel)
set_option maxRecDepth 100000 in
theorem gX6_rule_X6_in : GoodIn wsX6_rule (va_wsS RX6 88 yX6_in wsX6_in) := goodIn_app (goodIn_of _ (by decide +kernel)) ggX6_rule_X6_in
set_option maxRecDepth 100000 in
theorem ggX6_mark_X6_in : GoodIn wsX6_mark wsX6_in := goodIn_r _ [8] rfl (by decide +kernel)
set_option maxRecDepth 100000 in
theorem gX6_mark_X6_in : GoodIn wsX6_mark (va_wsS RX6 88 yX6_in wsX6_in) := goodIn_app (goodIn_of _ (by decide +kernel)) ggX6_mark_X6_in
set_option maxRecDepth 100000 in
theorem ggX6_left_X6_in : GoodIn wsX6_left wsX6_in := goodIn_r _ [6] rfl (by decide +kernel)
set_option maxRecDepth 100000 in
theorem gX6_left_X6_in : GoodIn wsX6_left (va_wsS RX6 88 yX6_in wsX6_in) := goodIn_app (goodIn_of _ (by decide +kernel)) ggX6_left_X6_in
set_option maxRecDepth 100000 in
theorem ggX6_left_X6_all : GoodIn wsX6_left wsX6_all := goodIn_r _ [10, 2, 11, 12, 13, 14, 15, 16, 17, 18, 19, 20, 21, 22, 23, 24, 25, 26, 27, 28, 29, 30, 31, 32, 33, 34, 35, 36, 37, 38, 39, 40, 41, 42, 43, 44, 45, 46, 47, 48, 49] rfl (by decide +kernel)
set_option maxRecDepth 100000 in
theorem gX6_left_X6_all : GoodIn wsX6_left (wsV RX6 104 RX6 yX6_all wsX6_all) := goodIn_app (goodIn_of _ (by decide +kernel)) ggX6_left_X6_all
set_option maxRecDepth 100000 in
theorem ggX6_take_X6_in : GoodIn wsX6_take wsX6_in := goodIn_r _ [8] rfl (by decide +kernel)
set_option maxRecDepth 100000 in
theorem gX6_take_X6_in : GoodIn wsX6_take (va_wsS RX6 88 yX6_in wsX6_in) := goodIn_app (goodIn_of _ (by decide +kernel)) ggX6_take_X6_in
set_option maxRecDepth 100000 in
theorem ggX6_take_X6_leave : GoodIn wsX6_take wsX6_leave := goodIn_r _ [12, 3, 13, 14, 4, 15, 16, 17, 18, 19, 20, 21, 22, 23, 24, 25, 26, 27, 28, 29, 30, 31, 32, 33, 34, 35, 36, 37, 38, 39, 40, 41, 42, 43, 44, 45, 46, 47, 48, 49, 50, 51, 52, 53, 54] rfl (by decide +kernel)
set_option maxRecDepth 100000 in
theorem gX6_take_X6_leave : GoodIn wsX6_take (wsV RX6 125 RX6 yX6_leave wsX6_leave) := goodIn_app (goodIn_of _ (by decide +kernel)) ggX6_take_X6_leave
set_option maxRecDepth 100000 in
theorem ggX6_drawn_X6_all : GoodIn wsX6_drawn wsX6_all := goodIn_r _ [9, 4, 10, 11, 12, 13, 14, 15, 16, 17, 18, 19, 20, 21, 22, 23, 24, 25, 26, 27, 28, 29, 30, 31, 32, 33, 34, 35, 36, 37, 38, 39, 40, 41, 42, 43, 44, 45, 46, 47, 48] rfl (by decide +kernel)
set_option maxRecDepth 100000 in
theorem gX6_drawn_X6_all : GoodIn wsX6_drawn (wsV RX6 104 RX6 yX6_all wsX6_all) := goodIn_app (goodIn_of _ (by decide +kernel)) ggX6_drawn_X6_all
set_option maxRecDepth 100000 in
theorem ggX6_draw_X6_in : GoodIn wsX6_draw wsX6_in := goodIn_r _ [6] rfl (by decide +kernel)
set_option maxRecDepth 100000 in
theorem gX6_draw_X6_in : GoodIn wsX6_draw (va_wsS RX6 88 yX6_in wsX6_in) := goodIn_app (goodIn_of _ (by decide +kernel)) ggX6_draw_X6_in
set_option maxRecDepth 100000 in
theorem ggX6_draw_X6_all : GoodIn wsX6_draw wsX6_all := goodIn_r _ [10, 11, 26, 27, 28, 29, 30, 31, 32, 33, 34, 35, 36, 37, 38, 39, 40, 41, 42, 43, 44, 45, 46, 47, 48, 49, 50, 51, 52, 53, 54, 55, 56, 57, 58, 59, 60, 61, 62, 63, 64] rfl (by decide +kernel)
set_option maxRecDepth 100000 in
theorem gX6_draw_X6_all : GoodIn wsX6_draw (wsV RX6 104 RX6 yX6_all wsX6_all) := goodIn_app (goodIn_of _ (by decide +kernel)) ggX6_draw_X6_all
set_option maxRecDepth 100000 in
theorem ggX6_draw_X6_drawn : GoodIn wsX6_draw wsX6_drawn := goodIn_r _ [15, 16, 17, 18, 11, 7, 8, 9, 5, 10, 26, 27, 28, 29, 30, 31, 32, 33, 34, 35, 36, 37, 38, 39, 40, 41, 42, 43, 44, 45, 46, 47, 48, 49, 50, 51, 52, 53, 54, 55, 56, 57, 58, 59, 60, 61, 62, 63, 64] rfl (by decide +kernel)
set_option maxRecDepth 100000 in
theorem gX6_draw_X6_drawn : GoodIn wsX6_draw (wsV RX6 133 RX6 yX6_drawn wsX6_drawn) := goodIn_app (goodIn_of _ (by decide +kernel)) ggX6_draw_X6_drawn
set_option maxRecDepth 100000 in
theorem ggX6_draw_X6_leave : GoodIn wsX6_draw wsX6_leave := goodIn_r _ [22, 11, 23, 24, 2, 25, 26, 27, 28, 29, 30, 31, 32, 33, 34, 35, 36, 37, 38, 39, 40, 41, 42, 43, 44, 45, 46, 47, 48, 49, 50, 51, 52, 53, 54, 55, 56, 57, 58, 59, 60, 61, 62, 63, 64] rfl (by decide +kernel)
set_option maxRecDepth 100000 in
theorem gX6_draw_X6_leave : GoodIn wsX6_draw (wsV RX6 125 RX6 yX6_leave wsX6_leave) := goodIn_app (goodIn_of _ (by decide +kernel)) ggX6_draw_X6_leave
set_option maxRecDepth 100000 in
theorem ggX6_handValue_X6_handSum : GoodIn wsX6_handValue wsX6_handSum := goodIn_r _ [5, 6, 7, 17, 18, 19, 20, 21, 22, 23, 24, 25, 26, 27, 28, 29, 30, 31, 32, 33, 34, 35, 36, 37, 38, 39, 40, 41, 42, 43, 44, 45, 46, 47, 48, 49, 50, 51, 52, 53, 54, 55] rfl (by decide +kernel)
set_option maxRecDepth 100000 in
theorem gX6_handValue_X6_handSum : GoodIn wsX6_handValue (wsV RX6 136 RX6 yX6_handSum wsX6_handSum) := goodIn_app (goodIn_of _ (by decide +kernel)) ggX6_handValue_X6_handSum
set_option maxRecDepth 100000 in
theorem ggX6_handValue_X6_handAce : GoodIn wsX6_handValue wsX6_handAce := goodIn_r _ [11, 6, 7, 17, 18, 19, 20, 21, 22, 23, 24, 25, 26, 27, 28, 29, 30, 31, 32, 33, 34, 35, 36, 37, 38, 39, 40, 41, 42, 43, 44, 45, 46, 47, 48, 49, 50, 51, 52, 53, 54, 55] rfl (by decide +kernel)
set_option maxRecDepth 100000 in
theorem gX6_handValue_X6_handAce : GoodIn wsX6_handValue (wsV RX6 139 RX6 yX6_handAce wsX6_handAce) := goodIn_app (goodIn_of _ (by decide +kernel)) ggX6_handValue_X6_handAce
set_option maxRecDepth 100000 in
theorem ggX6_handValue_X6_valueOf : GoodIn wsX6_handValue wsX6_valueOf := goodIn_r _ [15, 16, 17, 18, 19, 20, 21, 22, 23, 24, 25, 26, 27, 28, 29, 30, 31, 32, 33, 34, 35, 36, 37, 38, 39, 40, 41, 42, 43, 44, 45, 46, 47, 48, 49, 50, 51, 52, 53, 54, 55] rfl (by decide +kernel)
set_option maxRecDepth 100000 in
theorem gX6_handValue_X6_valueOf : GoodIn wsX6_handValue (wsV RX6 143 RX6 yX6_valueOf wsX6_valueOf) := goodIn_app (goodIn_of _ (by decide +kernel)) ggX6_handValue_X6_valueOf
set_option maxRecDepth 100000 in
theorem ggX6_isNatural_X6_handValue : GoodIn wsX6_isNatural wsX6_handValue := goodIn_r _ [7, 8, 9, 10, 6, 11, 1, 12, 13, 14, 15, 16, 17, 18, 19, 20, 2, 21, 22, 23, 24, 25, 26, 27, 28, 29, 30, 31, 32, 33, 34, 35, 36, 37, 38, 39, 40, 41, 42, 43, 44, 45, 46, 47, 48, 49, 50, 51, 52, 53, 54, 55, 56, 57, 58, 59] rfl (by decide +kernel)
set_option maxRecDepth 100000 in
theorem gX6_isNatural_X6_handValue : GoodIn wsX6_isNatural (wsV RX6 147 RX6 yX6_handValue wsX6_handValue) := goodIn_app (goodIn_of _ (by decide +kernel)) ggX6_isNatural_X6_handValue
set_option maxRecDepth 100000 in
theorem ggX6_told_X6_handValue : GoodIn wsX6_told wsX6_handValue := goodIn_r _ [12, 13, 14, 15, 11, 16, 1, 7, 17, 18, 19, 20, 21, 22, 23, 24, 2, 42, 43, 44, 45, 46, 47, 48, 49, 50, 51, 52, 53, 54, 55, 56, 57, 58, 59, 60, 61, 62, 63, 64, 65, 66, 67, 68, 69, 70, 71, 72, 73, 74, 75, 76, 77, 78, 79, 80] rfl (by decide +kernel)
set_option maxRecDepth 100000 in
theorem gX6_told_X6_handValue : GoodIn wsX6_told (wsV RX6 147 RX6 yX6_handValue wsX6_handValue) := goodIn_app (goodIn_of _ (by decide +kernel)) ggX6_told_X6_handValue
set_option maxRecDepth 100000 in
theorem ggX6_told_X6_handSum : GoodIn wsX6_told wsX6_handSum := goodIn_r _ [16, 1, 7, 42, 43, 44, 45, 46, 47, 48, 49, 50, 51, 52, 53, 54, 55, 56, 57, 58, 59, 60, 61, 62, 63, 64, 65, 66, 67, 68, 69, 70, 71, 72, 73, 74, 75, 76, 77, 78, 79, 80] rfl (by decide +kernel)
set_option maxRecDepth 100000 in
theorem gX6_told_X6_handSum : GoodIn wsX6_told (wsV RX6 136 RX6 yX6_handSum wsX6_handSum) := goodIn_app (goodIn_of _ (by decide +kernel)) ggX6_told_X6_handSum
set_option maxRecDepth 100000 in
theorem ggX6_told_X6_isNatural : GoodIn wsX6_told wsX6_isNatural := goodIn_r _ [28, 1, 2, 8, 9, 10, 11, 12, 13, 14, 15, 16, 7, 17, 18, 19, 20, 21, 22, 23, 24, 42, 43, 44, 45, 46, 47, 48, 49, 50, 51, 52, 53, 54, 55, 56, 57, 58, 59, 60, 61, 62, 63, 64, 65, 66, 67, 68, 69, 70, 71, 72, 73, 74, 75, 76, 77, 78, 79, 80] rfl (by decide +kernel)
set_option maxRecDepth 100000 in
theorem gX6_told_X6_isNatural : GoodIn wsX6_told (wsV RX6 150 RX6 yX6_isNatural wsX6_isNatural) := goodIn_app (goodIn_of _ (by decide +kernel)) ggX6_told_X6_isNatural
set_option maxRecDepth 100000 in
theorem ggX6_told_X6_counted : GoodIn wsX6_told wsX6_counted := goodIn_r _ [32, 33, 34, 42, 43, 44, 45, 46, 47, 48, 49, 50, 51, 52, 53, 54, 55, 56, 57, 58, 59, 60, 61, 62, 63, 64, 65, 66, 67, 68, 69, 70, 71, 72, 73, 74, 75, 76, 77, 78, 79, 80] rfl (by decide +kernel)
set_option maxRecDepth 100000 in
theorem gX6_told_X6_counted : GoodIn wsX6_told (wsV RX6 153 RX6 yX6_counted wsX6_counted) := goodIn_app (goodIn_of _ (by decide +kernel)) ggX6_told_X6_counted
set_option maxRecDepth 100000 in
theorem ggX6_told_X6_gone : GoodIn wsX6_told wsX6_gone := goodIn_r _ [38, 34, 42, 43, 44, 45, 46, 47, 48, 49, 50, 51, 52, 53, 54, 55, 56, 57, 58, 59, 60, 61, 62, 63, 64, 65, 66, 67, 68, 69, 70, 71, 72, 73, 74, 75, 76, 77, 78, 79, 80] rfl (by decide +kernel)
set_option maxRecDepth 100000 in
theorem gX6_told_X6_gone : GoodIn wsX6_told (wsV RX6 159 RX6 yX6_gone wsX6_gone) := goodIn_app (goodIn_of _ (by decide +kernel)) ggX6_told_X6_gone
set_option maxRecDepth 100000 in
theorem ggX6_told_X6_in : GoodIn wsX6_told wsX6_in := goodIn_r _ [41] rfl (by decide +kernel)
set_option maxRecDepth 100000 in
theorem gX6_told_X6_in : GoodIn wsX6_told (va_wsS RX6 88 yX6_in wsX6_in) := goodIn_app (goodIn_of _ (by decide +kernel)) ggX6_told_X6_in
set_option maxRecDepth 100000 in
theorem ggX6_goesOn_X6_valueOf : GoodIn wsX6_goesOn wsX6_valueOf := goodIn_r _ [7, 8, 9, 10, 11, 12, 13, 14, 15, 16, 17, 18, 19, 20, 21, 22, 23, 24, 25, 26, 27, 28, 29, 30, 31, 32, 33, 34, 35, 36, 37, 38, 39, 40, 41, 42, 43, 44, 45, 46, 47] rfl (by decide +kernel)
set_option maxRecDepth 100000 in
theorem gX6_goesOn_X6_valueOf : GoodIn wsX6_goesOn (wsV RX6 143 RX6 yX6_valueOf wsX6_valueOf) := goodIn_app (goodIn_of _ (by decide +kernel)) ggX6_goesOn_X6_valueOf
set_option maxRecDepth 100000 in
theorem ggX6_settle_X6_handValue : GoodIn wsX6_settle wsX6_handValue := goodIn_r _ [10, 11, 12, 13, 9, 14, 1, 15, 16, 17, 18, 19, 20, 21, 22, 23, 3, 55, 56, 57, 58, 59, 60, 61, 62, 63, 64, 65, 66, 67, 68, 69, 70, 71, 72, 73, 74, 75, 76, 77, 78, 79, 80, 81, 82, 83, 84, 85, 86, 87, 88, 89, 90, 91, 92, 93] rfl (by decide +kernel)
set_option maxRecDepth 100000 in
theorem gX6_settle_X6_handValue : GoodIn wsX6_settle (wsV RX6 147 RX6 yX6_handValue wsX6_handValue) := goodIn_app (goodIn_of _ (by decide +kernel)) ggX6_settle_X6_handValue
set_option maxRecDepth 100000 in
theorem ggX6_settle_X6_all : GoodIn wsX6_settle wsX6_all := goodIn_r _ [27, 28, 55, 56, 57, 58, 59, 60, 61, 62, 63, 64, 65, 66, 67, 68, 69, 70, 71, 72, 73, 74, 75, 76, 77, 78, 79, 80, 81, 82, 83, 84, 85, 86, 87, 88, 89, 90, 91, 92, 93] rfl (by decide +kernel)
set_option maxRecDepth 100000 in
theorem gX6_settle_X6_all : GoodIn wsX6_settle (wsV RX6 104 RX6 yX6_all wsX6_all) := goodIn_app (goodIn_of _ (by decide +kernel)) ggX6_settle_X6_all
set_option maxRecDepth 100000 in
theorem ggX6_settle_X6_goesOn : GoodIn wsX6_settle wsX6_goesOn := goodIn_r _ [32, 33, 34, 20, 21, 22, 9, 23, 3, 55, 56, 57, 58, 59, 60, 61, 62, 63, 64, 65, 66, 67, 68, 69, 70, 71, 72, 73, 74, 75, 76, 77, 78, 79, 80, 81, 82, 83, 84, 85, 86, 87, 88, 89, 90, 91, 92, 93] rfl (by decide +kernel)
set_option maxRecDepth 100000 in
theorem gX6_settle_X6_goesOn : GoodIn wsX6_settle (wsV RX6 162 RX6 yX6_goesOn wsX6_goesOn) := goodIn_app (goodIn_of _ (by decide +kernel)) ggX6_settle_X6_goesOn
set_option maxRecDepth 100000 in
theorem ggX6_settle_X6_drawn : GoodIn wsX6_settle wsX6_drawn := goodIn_r _ [38, 39, 40, 41, 28, 24, 25, 26, 9, 27, 55, 56, 57, 58, 59, 60, 61, 62, 63, 64, 65, 66, 67, 68, 69, 70, 71, 72, 73, 74, 75, 76, 77, 78, 79, 80, 81, 82, 83, 84, 85, 86, 87, 88, 89, 90, 91, 92, 93] rfl (by decide +kernel)
set_option maxRecDepth 100000 in
theorem gX6_settle_X6_drawn : GoodIn wsX6_settle (wsV RX6 133 RX6 yX6_drawn wsX6_drawn) := goodIn_app (goodIn_of _ (by decide +kernel)) ggX6_settle_X6_drawn
set_option maxRecDepth 100000 in
theorem ggX6_settle_X6_leave : GoodIn wsX6_settle wsX6_leave := goodIn_r _ [45, 28, 46, 15, 1, 2, 55, 56, 57, 58, 59, 60, 61, 62, 63, 64, 65, 66, 67, 68, 69, 70, 71, 72, 73, 74, 75, 76, 77, 78, 79, 80, 81, 82, 83, 84, 85, 86, 87, 88, 89, 90, 91, 92, 93] rfl (by decide +kernel)
set_option maxRecDepth 100000 in
theorem gX6_settle_X6_leave : GoodIn wsX6_settle (wsV RX6 125 RX6 yX6_leave wsX6_leave) := goodIn_app (goodIn_of _ (by decide +kernel)) ggX6_settle_X6_leave
set_option maxRecDepth 100000 in
theorem ggX6_settle_X6_valueOf : GoodIn wsX6_settle wsX6_valueOf := goodIn_r _ [23, 3, 55, 56, 57, 58, 59, 60, 61, 62, 63, 64, 65, 66, 67, 68, 69, 70, 71, 72, 73, 74, 75, 76, 77, 78, 79, 80, 81, 82, 83, 84, 85, 86, 87, 88, 89, 90, 91, 92, 93] rfl (by decide +kernel)
set_option maxRecDepth 100000 in
theorem gX6_settle_X6_valueOf : GoodIn wsX6_settle (wsV RX6 143 RX6 yX6_valueOf wsX6_valueOf) := goodIn_app (goodIn_of _ (by decide +kernel)) ggX6_settle_X6_valueOf
set_option maxRecDepth 100000 in
theorem ggX6_settle_X6_isNatural : GoodIn wsX6_settle wsX6_isNatural := goodIn_r _ [50, 1, 3, 6, 7, 8, 9, 10, 11, 12, 13, 14, 15, 16, 17, 18, 19, 20, 21, 22, 23, 55, 56, 57, 58, 59, 60, 61, 62, 63, 64, 65, 66, 67, 68, 69, 70, 71, 72, 73, 74, 75, 76, 77, 78, 79, 80, 81, 82, 83, 84, 85, 86, 87, 88, 89, 90, 91, 92, 93] rfl (by decide +kernel)
set_option maxRecDepth 100000 in
theorem gX6_settle_X6_isNatural : GoodIn wsX6_settle (wsV RX6 150 RX6 yX6_isNatural wsX6_isNatural) := goodIn_app (goodIn_of _ (by decide +kernel)) ggX6_settle_X6_isNatural
set_option maxRecDepth 100000 in
theorem ggX6_settle_X6_settled : GoodIn wsX6_settle wsX6_settled := goodIn_r _ [54] rfl (by decide +kernel)
set_option maxRecDepth 100000 in
theorem gX6_settle_X6_settled : GoodIn wsX6_settle (wsV RX6 166 RX6 yX6_settled wsX6_settled) := goodIn_app (goodIn_of _ (by decide +kernel)) ggX6_settle_X6_settled
set_option maxRecDepth 100000 in
theorem ggX6_layHeaps_X6_ofRank : GoodIn wsX6_layHeaps wsX6_ofRank := goodIn_r _ [10, 2, 3, 11, 12, 13, 14, 15, 16, 17, 18, 19, 20, 21, 22, 23, 24, 25, 26, 27, 28, 29, 30, 31, 32, 33, 34, 35, 36, 37, 38, 39, 40, 41, 42, 43, 44, 45, 46, 47, 48, 49] rfl (by decide +kernel)
set_option maxRecDepth 100000 in
theorem gX6_layHeaps_X6_ofRank : GoodIn wsX6_layHeaps (wsV RX6 173 RX6 yX6_ofRank wsX6_ofRank) := goodIn_app (goodIn_of _ (by decide +kernel)) ggX6_layHeaps_X6_ofRank
set_option maxRecDepth 100000 in
theorem ggX6_score_X6_valueOf : GoodIn wsX6_score wsX6_valueOf := goodIn_r _ [9, 1, 14, 15, 16, 17, 18, 19, 20, 21, 22, 23, 24, 25, 26, 27, 28, 29, 30, 31, 32, 33, 34, 35, 36, 37, 38, 39, 40, 41, 42, 43, 44, 45, 46, 47, 48, 49, 50, 51, 52] rfl (by decide +kernel)
set_option maxRecDepth 100000 in
theorem gX6_score_X6_valueOf : GoodIn wsX6_score (wsV RX6 143 RX6 yX6_valueOf wsX6_valueOf) := goodIn_app (goodIn_of _ (by decide +kernel)) ggX6_score_X6_valueOf
set_option maxRecDepth 100000 in
theorem ggX6_score_X6_settled : GoodIn wsX6_score wsX6_settled := goodIn_r _ [13] rfl (by decide +kernel)
set_option maxRecDepth 100000 in
theorem gX6_score_X6_settled : GoodIn wsX6_score (wsV RX6 166 RX6 yX6_settled wsX6_settled) := goodIn_app (goodIn_of _ (by decide +kernel)) ggX6_score_X6_settled
set_option maxRecDepth 100000 in
theorem ggX6_draws_X6_goesOn : GoodIn wsX6_draws wsX6_goesOn := goodIn_r _ [6, 7, 8, 9, 10, 11, 5, 12, 13, 14, 15, 16, 17, 18, 19, 20, 21, 22, 23, 24, 25, 26, 27, 28, 29, 30, 31, 32, 33, 34, 35, 36, 37, 38, 39, 40, 41, 42, 43, 44, 45, 46, 47, 48, 49, 50, 51, 52] rfl (by decide +kernel)
set_option maxRecDepth 100000 in
theorem gX6_draws_X6_goesOn : GoodIn wsX6_draws (wsV RX6 162 RX6 yX6_goesOn wsX6_goesOn) := goodIn_app (goodIn_of _ (by decide +kernel)) ggX6_draws_X6_goesOn
set_option maxRecDepth 100000 in
theorem ggX6_houseAt_X6_draws : GoodIn wsX6_houseAt wsX6_draws := goodIn_r _ [8, 2, 9, 10, 11, 7, 12, 13, 14, 15, 16, 17, 18, 19, 31, 32, 33, 34, 35, 36, 37, 38, 39, 40, 41, 42, 43, 44, 45, 46, 47, 48, 49, 50, 51, 52, 53, 54, 55, 56, 57, 58, 59, 60, 61, 62, 63, 64, 65, 66, 67, 68, 69] rfl (by decide +kernel)
set_option maxRecDepth 100000 in
theorem gX6_houseAt_X6_draws : GoodIn wsX6_houseAt (wsV RX6 186 RX6 yX6_draws wsX6_draws) := goodIn_app (goodIn_of _ (by decide +kernel)) ggX6_houseAt_X6_draws
set_option maxRecDepth 100000 in
theorem ggX6_houseAt_X6_score : GoodIn wsX6_houseAt wsX6_score := goodIn_r _ [23, 19, 24, 25, 26, 15, 16, 17, 7, 18, 27, 28, 29, 30, 31, 32, 33, 34, 35, 36, 37, 38, 39, 40, 41, 42, 43, 44, 45, 46, 47, 48, 49, 50, 51, 52, 53, 54, 55, 56, 57, 58, 59, 60, 61, 62, 63, 64, 65, 66, 67, 68, 69] rfl (by decide +kernel)
set_option maxRecDepth 100000 in
theorem gX6_houseAt_X6_score : GoodIn wsX6_houseAt (wsV RX6 190 RX6 yX6_score wsX6_score) := goodIn_app (goodIn_of _ (by decide +kernel)) ggX6_houseAt_X6_score
set_option maxRecDepth 100000 in
theorem ggX6_findHouse_X6_draws : GoodIn wsX6_findHouse wsX6_draws := goodIn_r _ [9, 10, 11, 12, 13, 8, 14, 15, 16, 17, 18, 19, 20, 21, 43, 44, 45, 46, 47, 48, 49, 50, 51, 52, 53, 54, 55, 56, 57, 58, 59, 60, 61, 62, 63, 64, 65, 66, 67, 68, 69, 70, 71, 72, 73, 74, 75, 76, 77, 78, 79, 80, 81] rfl (by decide +kernel)
set_option maxRecDepth 100000 in
theorem gX6_findHouse_X6_draws : GoodIn wsX6_findHouse (wsV RX6 186 RX6 yX6_draws wsX6_draws) := goodIn_app (goodIn_of _ (by decide +kernel)) ggX6_findHouse_X6_draws
set_option maxRecDepth 100000 in
theorem ggX6_findHouse_X6_ofRank : GoodIn wsX6_findHouse wsX6_ofRank := goodIn_r _ [25, 3, 26, 43, 44, 45, 46, 47, 48, 49, 50, 51, 52, 53, 54, 55, 56, 57, 58, 59, 60, 61, 62, 63, 64, 65, 66, 67, 68, 69, 70, 71, 72, 73, 74, 75, 76, 77, 78, 79, 80, 81] rfl (by decide +kernel)
set_option maxRecDepth 100000 in
theorem gX6_findHouse_X6_ofRank : GoodIn wsX6_findHouse (wsV RX6 173 RX6 yX6_ofRank wsX6_ofRank) := goodIn_app (goodIn_of _ (by decide +kernel)) ggX6_findHouse_X6_ofRank
set_option maxRecDepth 100000 in
theorem ggX6_findHouse_X6_houseAt : GoodIn wsX6_findHouse wsX6_houseAt := goodIn_r _ [30, 31, 10, 4, 5, 6, 7, 8, 9, 11, 12, 13, 14, 15, 16, 17, 18, 19, 20, 21, 32, 33, 34, 35, 36, 37, 38, 39, 40, 41, 42, 43, 44, 45, 46, 47, 48, 49, 50, 51, 52, 53, 54, 55, 56, 57, 58, 59, 60, 61, 62, 63, 64, 65, 66, 67, 68, 69, 70, 71, 72, 73, 74, 75, 76, 77, 78, 79, 80, 81] rfl (by decide +kernel)
set_option maxRecDepth 100000 in
theorem gX6_findHouse_X6_houseAt : GoodIn wsX6_findHouse (wsV RX6 196 RX6 yX6_houseAt wsX6_houseAt) := goodIn_app (goodIn_of _ (by decide +kernel)) ggX6_findHouse_X6_houseAt
set_option maxRecDepth 100000 in
theorem ggX6_houseFor_X6_houseAt : GoodIn wsX6_houseFor wsX6_houseAt := goodIn_r _ [6, 7, 8, 9, 10, 11, 12, 5, 13, 14, 15, 16, 17, 18, 19, 20, 21, 22, 23, 24, 25, 26, 27, 28, 29, 30, 31, 32, 33, 34, 35, 36, 37, 38, 39, 40, 41, 42, 43, 44, 45, 46, 47, 48, 49, 50, 51, 52, 53, 54, 55, 56, 57, 58, 59, 60, 61, 62, 63, 64, 65, 66, 67, 68, 69, 70, 71, 72, 73, 74] rfl (by decide +kernel)
set_option maxRecDepth 100000 in
theorem gX6_houseFor_X6_houseAt : GoodIn wsX6_houseFor (wsV RX6 196 RX6 yX6_houseAt wsX6_houseAt) := goodIn_app (goodIn_of _ (by decide +kernel)) ggX6_houseFor_X6_houseAt
set_option maxRecDepth 100000 in
theorem ggX6_valueAt_X6_ofRank : GoodIn wsX6_valueAt wsX6_ofRank := goodIn_r _ [10, 11, 5, 17, 18, 19, 20, 21, 22, 23, 24, 25, 26, 27, 28, 29, 30, 31, 32, 33, 34, 35, 36, 37, 38, 39, 40, 41, 42, 43, 44, 45, 46, 47, 48, 49, 50, 51, 52, 53, 54, 55] rfl (by decide +kernel)
set_option maxRecDepth 100000 in
theorem gX6_valueAt_X6_ofRank : GoodIn wsX6_valueAt (wsV RX6 173 RX6 yX6_ofRank wsX6_ofRank) := goodIn_app (goodIn_of _ (by decide +kernel)) ggX6_valueAt_X6_ofRank
set_option maxRecDepth 100000 in
theorem ggX6_valueAt_X6_valueOf : GoodIn wsX6_valueAt wsX6_valueOf := goodIn_r _ [15, 16, 17, 18, 19, 20, 21, 22, 23, 24, 25, 26, 27, 28, 29, 30, 31, 32, 33, 34, 35, 36, 37, 38, 39, 40, 41, 42, 43, 44, 45, 46, 47, 48, 49, 50, 51, 52, 53, 54, 55] rfl (by decide +kernel)
set_option maxRecDepth 100000 in
theorem gX6_valueAt_X6_valueOf : GoodIn wsX6_valueAt (wsV RX6 143 RX6 yX6_valueOf wsX6_valueOf) := goodIn_app (goodIn_of _ (by decide +kernel)) ggX6_valueAt_X6_valueOf
set_option maxRecDepth 100000 in
theorem ggX6_findStands_X6_valueAt : GoodIn wsX6_findStands wsX6_valueAt := goodIn_r _ [14, 15, 16, 4, 17, 18, 19, 20, 21, 13, 22, 23, 24, 25, 26, 27, 3, 60, 61, 62, 63, 64, 65, 66, 67, 68, 69, 70, 71, 72, 73, 74, 75, 76, 77, 78, 79, 80, 81, 82, 83, 84, 85, 86, 87, 88, 89, 90, 91, 92, 93, 94, 95, 96, 97, 98] rfl (by decide +kernel)
set_option maxRecDepth 100000 in
theorem gX6_findStands_X6_valueAt : GoodIn wsX6_findStands (wsV RX6 206 RX6 yX6_valueAt wsX6_valueAt) := goodIn_app (goodIn_of _ (by decide +kernel)) ggX6_findStands_X6_valueAt
set_option maxRecDepth 100000 in
theorem ggX6_findStands_X6_findHouse : GoodIn wsX6_findStands wsX6_findHouse := goodIn_r _ [31, 4, 32, 23, 33, 34, 35, 36, 13, 37, 9, 38, 39, 40, 41, 42, 43, 24, 25, 26, 27, 3, 19, 20, 21, 22, 18, 44, 45, 46, 47, 8, 48, 49, 50, 51, 1, 5, 2, 52, 53, 54, 55, 60, 61, 62, 63, 64, 65, 66, 67, 68, 69, 70, 71, 72, 73, 74, 75, 76, 77, 78, 79, 80, 81, 82, 83, 84, 85, 86, 87, 88, 89, 90, 91, 92, 93, 94, 95, 96, 97, 98] rfl (by decide +kernel)
set_option maxRecDepth 100000 in
theorem gX6_findStands_X6_findHouse : GoodIn wsX6_findStands (wsV RX6 210 RX6 yX6_findHouse wsX6_findHouse) := goodIn_app (goodIn_of _ (by decide +kernel)) ggX6_findStands_X6_findHouse
set_option maxRecDepth 100000 in
theorem ggX6_findStands_X6_houseFor : GoodIn wsX6_findStands wsX6_houseFor := goodIn_r _ [59, 32, 44, 45, 46, 13, 47, 8, 9, 33, 34, 35, 36, 37, 38, 39, 40, 41, 42, 43, 24, 25, 26, 27, 3, 48, 49, 50, 51, 1, 5, 2, 52, 53, 54, 55, 60, 61, 62, 63, 64, 65, 66, 67, 68, 69, 70, 71, 72, 73, 74, 75, 76, 77, 78, 79, 80, 81, 82, 83, 84, 85, 86, 87, 88, 89, 90, 91, 92, 93, 94, 95, 96, 97, 98] rfl (by decide +kernel)
set_option maxRecDepth 100000 in
theorem gX6_findStands_X6_houseFor : GoodIn wsX6_findStands (wsV RX6 213 RX6 yX6_houseFor wsX6_houseFor) := goodIn_app (goodIn_of _ (by decide +kernel)) ggX6_findStands_X6_houseFor
set_option maxRecDepth 100000 in
theorem ggX6_standWorth_X6_valueAt : GoodIn wsX6_standWorth wsX6_valueAt := goodIn_r _ [12, 13, 14, 2, 15, 16, 17, 18, 19, 11, 20, 21, 22, 23, 24, 25, 5, 60, 61, 62, 63, 64, 65, 66, 67, 68, 69, 70, 71, 72, 73, 74, 75, 76, 77, 78, 79, 80, 81, 82, 83, 84, 85, 86, 87, 88, 89, 90, 91, 92, 93, 94, 95, 96, 97, 98] rfl (by decide +kernel)
set_option maxRecDepth 100000 in
theorem gX6_standWorth_X6_valueAt : GoodIn wsX6_standWorth (wsV RX6 206 RX6 yX6_valueAt wsX6_valueAt) := goodIn_app (goodIn_of _ (by decide +kernel)) ggX6_standWorth_X6_valueAt
set_option maxRecDepth 100000 in
theorem ggX6_standWorth_X6_findHouse : GoodIn wsX6_standWorth wsX6_findHouse := goodIn_r _ [29, 2, 30, 21, 31, 32, 33, 34, 11, 35, 36, 37, 38, 39, 40, 41, 42, 22, 23, 24, 25, 5, 17, 18, 19, 20, 16, 43, 44, 45, 46, 47, 48, 49, 50, 51, 1, 3, 7, 52, 53, 54, 55, 60, 61, 62, 63, 64, 65, 66, 67, 68, 69, 70, 71, 72, 73, 74, 75, 76, 77, 78, 79, 80, 81, 82, 83, 84, 85, 86, 87, 88, 89, 90, 91, 92, 93, 94, 95, 96, 97, 98] rfl (by decide +kernel)
set_option maxRecDepth 100000 in
theorem gX6_standWorth_X6_findHouse : GoodIn wsX6_standWorth (wsV RX6 210 RX6 yX6_findHouse wsX6_findHouse) := goodIn_app (goodIn_of _ (by decide +kernel)) ggX6_standWorth_X6_findHouse
set_option maxRecDepth 100000 in
theorem ggX6_standWorth_X6_houseFor : GoodIn wsX6_standWorth wsX6_houseFor := goodIn_r _ [59, 30, 43, 44, 45, 11, 46, 47, 36, 31, 32, 33, 34, 35, 37, 38, 39, 40, 41, 42, 22, 23, 24, 25, 5, 48, 49, 50, 51, 1, 3, 7, 52, 53, 54, 55, 60, 61, 62, 63, 64, 65, 66, 67, 68, 69, 70, 71, 72, 73, 74, 75, 76, 77, 78, 79, 80, 81, 82, 83, 84, 85, 86, 87, 88, 89, 90, 91, 92, 93, 94, 95, 96, 97, 98] rfl (by decide +kernel)
set_option maxRecDepth 100000 in
theorem gX6_standWorth_X6_houseFor : GoodIn wsX6_standWorth (wsV RX6 213 RX6 yX6_houseFor wsX6_houseFor) := goodIn_app (goodIn_of _ (by decide +kernel)) ggX6_standWorth_X6_houseFor
set_option maxRecDepth 100000 in
theorem ggX6_drawWorth_X6_findStands : GoodIn wsX6_drawWorth wsX6_findStands := goodIn_r _ [11, 12, 13, 4, 1, 14, 6, 15, 16, 5, 17, 18, 19, 10, 20, 21, 22, 23, 24, 25, 26, 27, 28, 3, 29, 30, 31, 32, 33, 34, 35, 36, 37, 38, 39, 40, 41, 42, 43, 44, 45, 46, 47, 48, 49, 50, 51, 52, 53, 54, 55, 56, 57, 58, 59, 60, 61, 62, 63, 64, 65, 66, 67, 68, 69, 70, 71, 72, 73, 74, 75, 76, 77, 78, 79, 80, 81, 82, 83, 84, 85, 86, 87, 88, 89, 90, 91, 92, 93, 94, 95, 96, 97, 98, 99, 100, 101, 102, 103] rfl (by decide +kernel)
set_option maxRecDepth 100000 in
theorem gX6_drawWorth_X6_findStands : GoodIn wsX6_drawWorth (wsV RX6 222 RX6 yX6_findStands wsX6_findStands) := goodIn_app (goodIn_of _ (by decide +kernel)) ggX6_drawWorth_X6_findStands
set_option maxRecDepth 100000 in
theorem ggX6_drawWorth_X6_ofRank : GoodIn wsX6_drawWorth wsX6_ofRank := goodIn_r _ [28, 3, 24, 65, 66, 67, 68, 69, 70, 71, 72, 73, 74, 75, 76, 77, 78, 79, 80, 81, 82, 83, 84, 85, 86, 87, 88, 89, 90, 91, 92, 93, 94, 95, 96, 97, 98, 99, 100, 101, 102, 103] rfl (by decide +kernel)
set_option maxRecDepth 100000 in
theorem gX6_drawWorth_X6_ofRank : GoodIn wsX6_drawWorth (wsV RX6 173 RX6 yX6_ofRank wsX6_ofRank) := goodIn_app (goodIn_of _ (by decide +kernel)) ggX6_drawWorth_X6_ofRank
set_option maxRecDepth 100000 in
theorem ggX6_drawWorth_X6_valueAt : GoodIn wsX6_drawWorth wsX6_valueAt := goodIn_r _ [20, 21, 22, 1, 23, 24, 25, 26, 27, 10, 28, 3, 29, 30, 31, 32, 4, 65, 66, 67, 68, 69, 70, 71, 72, 73, 74, 75, 76, 77, 78, 79, 80, 81, 82, 83, 84, 85, 86, 87, 88, 89, 90, 91, 92, 93, 94, 95, 96, 97, 98, 99, 100, 101, 102, 103] rfl (by decide +kernel)
set_option maxRecDepth 100000 in
theorem gX6_drawWorth_X6_valueAt : GoodIn wsX6_drawWorth (wsV RX6 206 RX6 yX6_valueAt wsX6_valueAt) := goodIn_app (goodIn_of _ (by decide +kernel)) ggX6_drawWorth_X6_valueAt
set_option maxRecDepth 100000 in
theorem ggX6_doubleWorth_X6_findStands : GoodIn wsX6_doubleWorth wsX6_findStands := goodIn_r _ [9, 10, 11, 12, 1, 13, 2, 14, 15, 16, 17, 18, 19, 8, 20, 21, 22, 23, 24, 25, 26, 27, 28, 3, 29, 30, 31, 32, 33, 34, 35, 36, 37, 38, 39, 40, 41, 42, 43, 44, 45, 46, 47, 48, 49, 50, 51, 52, 53, 54, 55, 56, 57, 58, 59, 60, 61, 62, 63, 64, 65, 66, 67, 68, 69, 70, 71, 72, 73, 74, 75, 76, 77, 78, 79, 80, 81, 82, 83, 84, 85, 86, 87, 88, 89, 90, 91, 92, 93, 94, 95, 96, 97, 98, 99, 100, 101, 102, 103] rfl (by decide +kernel)
set_option maxRecDepth 100000 in
theorem gX6_doubleWorth_X6_findStands : GoodIn wsX6_doubleWorth (wsV RX6 222 RX6 yX6_findStands wsX6_findStands) := goodIn_app (goodIn_of _ (by decide +kernel)) ggX6_doubleWorth_X6_findStands
set_option maxRecDepth 100000 in
theorem ggX6_doubleWorth_X6_ofRank : GoodIn wsX6_doubleWorth wsX6_ofRank := goodIn_r _ [28, 3, 24, 65, 66, 67, 68, 69, 70, 71, 72, 73, 74, 75, 76, 77, 78, 79, 80, 81, 82, 83, 84, 85, 86, 87, 88, 89, 90, 91, 92, 93, 94, 95, 96, 97, 98, 99, 100, 101, 102, 103] rfl (by decide +kernel)
set_option maxRecDepth 100000 in
theorem gX6_doubleWorth_X6_ofRank : GoodIn wsX6_doubleWorth (wsV RX6 173 RX6 yX6_ofRank wsX6_ofRank) := goodIn_app (goodIn_of _ (by decide +kernel)) ggX6_doubleWorth_X6_ofRank
set_option maxRecDepth 100000 in
theorem ggX6_splitWorth_X6_valueOf : GoodIn wsX6_splitWorth wsX6_valueOf := goodIn_r _ [16, 6, 54, 55, 56, 57, 58, 59, 60, 61, 62, 63, 64, 65, 66, 67, 68, 69, 70, 71, 72, 73, 74, 75, 76, 77, 78, 79, 80, 81, 82, 83, 84, 85, 86, 87, 88, 89, 90, 91, 92] rfl (by decide +kernel)
set_option maxRecDepth 100000 in
theorem gX6_splitWorth_X6_valueOf : GoodIn wsX6_splitWorth (wsV RX6 143 RX6 yX6_valueOf wsX6_valueOf) := goodIn_app (goodIn_of _ (by decide +kernel)) ggX6_splitWorth_X6_valueOf
set_option maxRecDepth 100000 in
theorem ggX6_splitWorth_X6_ofRank : GoodIn wsX6_splitWorth wsX6_ofRank := goodIn_r _ [20, 7, 21, 54, 55, 56, 57, 58, 59, 60, 61, 62, 63, 64, 65, 66, 67, 68, 69, 70, 71, 72, 73, 74, 75, 76, 77, 78, 79, 80, 81, 82, 83, 84, 85, 86, 87, 88, 89, 90, 91, 92] rfl (by decide +kernel)
set_option maxRecDepth 100000 in
theorem gX6_splitWorth_X6_ofRank : GoodIn wsX6_splitWorth (wsV RX6 173 RX6 yX6_ofRank wsX6_ofRank) := goodIn_app (goodIn_of _ (by decide +kernel)) ggX6_splitWorth_X6_ofRank
set_option maxRecDepth 100000 in
theorem ggX6_splitWorth_X6_findHouse : GoodIn wsX6_splitWorth wsX6_findHouse := goodIn_r _ [25, 3, 26, 7, 27, 28, 29, 30, 15, 31, 11, 32, 33, 34, 35, 36, 37, 12, 13, 14, 16, 6, 17, 18, 19, 20, 21, 38, 39, 40, 41, 10, 42, 43, 44, 45, 1, 5, 2, 46, 47, 48, 49, 54, 55, 56, 57, 58, 59, 60, 61, 62, 63, 64, 65, 66, 67, 68, 69, 70, 71, 72, 73, 74, 75, 76, 77, 78, 79, 80, 81, 82, 83, 84, 85, 86, 87, 88, 89, 90, 91, 92] rfl (by decide +kernel)
set_option maxRecDepth 100000 in
theorem gX6_splitWorth_X6_findHouse : GoodIn wsX6_splitWorth (wsV RX6 210 RX6 yX6_findHouse wsX6_findHouse) := goodIn_app (goodIn_of _ (by decide +kernel)) ggX6_splitWorth_X6_findHouse
set_option maxRecDepth 100000 in
theorem ggX6_splitWorth_X6_houseFor : GoodIn wsX6_splitWorth wsX6_houseFor := goodIn_r _ [53, 26, 38, 39, 40, 15, 41, 10, 11, 27, 28, 29, 30, 31, 32, 33, 34, 35, 36, 37, 12, 13, 14, 16, 6, 42, 43, 44, 45, 1, 5, 2, 46, 47, 48, 49, 54, 55, 56, 57, 58, 59, 60, 61, 62, 63, 64, 65, 66, 67, 68, 69, 70, 71, 72, 73, 74, 75, 76, 77, 78, 79, 80, 81, 82, 83, 84, 85, 86, 87, 88, 89, 90, 91, 92] rfl (by decide +kernel)
set_option maxRecDepth 100000 in
theorem gX6_splitWorth_X6_houseFor : GoodIn wsX6_splitWorth (wsV RX6 213 RX6 yX6_houseFor wsX6_houseFor) := goodIn_app (goodIn_of _ (by decide +kernel)) ggX6_splitWorth_X6_houseFor
set_option maxRecDepth 100000 in
theorem ggX6_isThere_X6_valueAt : GoodIn wsX6_isThere wsX6_valueAt := goodIn_r _ [14, 15, 16, 2, 17, 18, 19, 20, 21, 13, 22, 23, 24, 25, 26, 27, 5, 28, 29, 30, 31, 32, 33, 34, 35, 36, 37, 38, 39, 40, 41, 42, 43, 44, 45, 46, 47, 48, 49, 50, 51, 52, 53, 54, 55, 56, 57, 58, 59, 60, 61, 62, 63, 64, 65, 66] rfl (by decide +kernel)
set_option maxRecDepth 100000 in
theorem gX6_isThere_X6_valueAt : GoodIn wsX6_isThere (wsV RX6 206 RX6 yX6_valueAt wsX6_valueAt) := goodIn_app (goodIn_of _ (by decide +kernel)) ggX6_isThere_X6_valueAt
set_option maxRecDepth 100000 in
theorem ggX6_worthOf_X6_standWorth : GoodIn wsX6_worthOf wsX6_standWorth := goodIn_r _ [8, 9, 3, 10, 11, 12, 13, 14, 15, 16, 17, 7, 18, 19, 20, 21, 22, 23, 24, 25, 26, 27, 28, 29, 30, 31, 32, 33, 34, 35, 36, 37, 38, 39, 40, 41, 2, 42, 43, 44, 45, 46, 47, 48, 49, 50, 51, 1, 52, 53, 54, 55, 56, 57, 58, 59, 60, 61, 62, 63, 85, 86, 87, 88, 89, 90, 91, 92, 93, 94, 95, 96, 97, 98, 99, 100, 101, 102, 103, 104, 105, 106, 107, 108, 109, 110, 111, 112, 113, 114, 115, 116, 117, 118, 119, 120, 121, 122, 123] rfl (by decide +kernel)
set_option maxRecDepth 100000 in
theorem gX6_worthOf_X6_standWorth : GoodIn wsX6_worthOf (wsV RX6 228 RX6 yX6_standWorth wsX6_standWorth) := goodIn_app (goodIn_of _ (by decide +kernel)) ggX6_worthOf_X6_standWorth
set_option maxRecDepth 100000 in
theorem ggX6_worthOf_X6_drawWorth : GoodIn wsX6_worthOf wsX6_drawWorth := goodIn_r _ [67, 3, 68, 27, 12, 2, 69, 70, 71, 72, 7, 73, 9, 14, 10, 74, 1, 15, 16, 17, 18, 19, 20, 21, 22, 23, 24, 25, 26, 28, 29, 30, 31, 32, 33, 34, 35, 36, 37, 38, 39, 40, 41, 42, 43, 44, 45, 46, 47, 48, 49, 50, 51, 52, 53, 54, 55, 56, 57, 58, 59, 60, 61, 62, 63, 85, 86, 87, 88, 89, 90, 91, 92, 93, 94, 95, 96, 97, 98, 99, 100, 101, 102, 103, 104, 105, 106, 107, 108, 109, 110, 111, 112, 113, 114, 115, 116, 117, 118, 119, 120, 121, 122, 123] rfl (by decide +kernel)
set_option maxRecDepth 100000 in
theorem gX6_worthOf_X6_drawWorth : GoodIn wsX6_worthOf (wsV RX6 232 RX6 yX6_drawWorth wsX6_drawWorth) := goodIn_app (goodIn_of _ (by decide +kernel)) ggX6_worthOf_X6_drawWorth
set_option maxRecDepth 100000 in
theorem ggX6_worthOf_X6_doubleWorth : GoodIn wsX6_worthOf wsX6_doubleWorth := goodIn_r _ [78, 3, 69, 27, 79, 70, 71, 72, 7, 73, 9, 14, 12, 10, 74, 1, 2, 15, 16, 17, 18, 19, 20, 21, 22, 23, 24, 25, 26, 28, 29, 30, 31, 32, 33, 34, 35, 36, 37, 38, 39, 40, 41, 42, 43, 44, 45, 46, 47, 48, 49, 50, 51, 52, 53, 54, 55, 56, 57, 58, 59, 60, 61, 62, 63, 85, 86, 87, 88, 89, 90, 91, 92, 93, 94, 95, 96, 97, 98, 99, 100, 101, 102, 103, 104, 105, 106, 107, 108, 109, 110, 111, 112, 113, 114, 115, 116, 117, 118, 119, 120, 121, 122, 123] rfl (by decide +kernel)
set_option maxRecDepth 100000 in
theorem gX6_worthOf_X6_doubleWorth : GoodIn wsX6_worthOf (wsV RX6 235 RX6 yX6_doubleWorth wsX6_doubleWorth) := goodIn_app (goodIn_of _ (by decide +kernel)) ggX6_worthOf_X6_doubleWorth
set_option maxRecDepth 100000 in
theorem ggX6_worthOf_X6_splitWorth : GoodIn wsX6_worthOf wsX6_splitWorth := goodIn_r _ [83, 9, 14, 3, 84, 10, 12, 27, 79, 74, 1, 2, 28, 29, 30, 7, 31, 23, 24, 25, 26, 22, 32, 33, 34, 35, 36, 37, 38, 39, 40, 41, 42, 43, 44, 45, 46, 47, 48, 49, 50, 51, 52, 53, 54, 55, 56, 57, 58, 59, 60, 61, 62, 63, 85, 86, 87, 88, 89, 90, 91, 92, 93, 94, 95, 96, 97, 98, 99, 100, 101, 102, 103, 104, 105, 106, 107, 108, 109, 110, 111, 112, 113, 114, 115, 116, 117, 118, 119, 120, 121, 122, 123] rfl (by decide +kernel)
set_option maxRecDepth 100000 in
theorem gX6_worthOf_X6_splitWorth : GoodIn wsX6_worthOf (wsV RX6 238 RX6 yX6_splitWorth wsX6_splitWorth) := goodIn_app (goodIn_of _ (by decide +kernel)) ggX6_worthOf_X6_splitWorth
set_option maxRecDepth 100000 in
theorem ggX6_findBest_X6_isThere : GoodIn wsX6_findBest wsX6_isThere := goodIn_r _ [6, 7, 8, 9, 10, 11, 12, 13, 14, 15, 16, 17, 18, 5, 19, 20, 21, 22, 23, 24, 25, 26, 27, 28, 29, 30, 31, 32, 97, 98, 99, 100, 101, 102, 103, 104, 105, 106, 107, 108, 109, 110, 111, 112, 113, 114, 115, 116, 117, 118, 119, 120, 121, 122, 123, 124, 125, 126, 127, 128, 129, 130, 131, 132, 133, 134, 135] rfl (by decide +kernel)
set_option maxRecDepth 100000 in
theorem gX6_findBest_X6_isThere : GoodIn wsX6_findBest (wsV RX6 244 RX6 yX6_isThere wsX6_isThere) := goodIn_app (goodIn_of _ (by decide +kernel)) ggX6_findBest_X6_isThere
set_option maxRecDepth 100000 in
theorem ggX6_findBest_X6_worthOf : GoodIn wsX6_findBest wsX6_worthOf := goodIn_r _ [36, 37, 7, 8, 38, 39, 40, 5, 41, 42, 43, 9, 11, 44, 45, 16, 17, 18, 19, 20, 21, 22, 23, 24, 25, 26, 27, 28, 29, 30, 31, 32, 46, 47, 48, 49, 10, 50, 51, 52, 53, 54, 55, 56, 57, 58, 59, 60, 61, 62, 63, 64, 65, 66, 67, 68, 69, 70, 71, 72, 73, 74, 75, 76, 77, 78, 79, 80, 81, 82, 83, 84, 85, 86, 87, 88, 89, 90, 91, 92, 93, 94, 95, 96, 13, 97, 98, 99, 100, 101, 102, 103, 104, 105, 106, 107, 108, 109, 110, 111, 112, 113, 114, 115, 116, 117, 118, 119, 120, 121, 122, 123, 124, 125, 126, 127, 128, 129, 130, 131, 132, 133, 134, 135] rfl (by decide +kernel)
set_option maxRecDepth 100000 in
theorem gX6_findBest_X6_worthOf : GoodIn wsX6_findBest (wsV RX6 248 RX6 yX6_worthOf wsX6_worthOf) := goodIn_app (goodIn_of _ (by decide +kernel)) ggX6_findBest_X6_worthOf
set_option maxRecDepth 100000 in
theorem ggX6_layTable_X6_all : GoodIn wsX6_layTable wsX6_all := goodIn_r _ [15, 2, 36, 37, 38, 39, 40, 41, 42, 43, 44, 45, 46, 47, 48, 49, 50, 51, 52, 53, 54, 55, 56, 57, 58, 59, 60, 61, 62, 63, 64, 65, 66, 67, 68, 69, 70, 71, 72, 73, 74] rfl (by decide +kernel)
set_option maxRecDepth 100000 in
theorem gX6_layTable_X6_all : GoodIn wsX6_layTable (wsV RX6 104 RX6 yX6_all wsX6_all) := goodIn_app (goodIn_of _ (by decide +kernel)) ggX6_layTable_X6_all
set_option maxRecDepth 100000 in
theorem ggX6_layTable_X6_layHeaps : GoodIn wsX6_layTable wsX6_layHeaps := goodIn_r _ [19, 20, 21, 1, 22, 23, 24, 25, 26, 14, 27, 36, 37, 38, 39, 40, 41, 42, 43, 44, 45, 46, 47, 48, 49, 50, 51, 52, 53, 54, 55, 56, 57, 58, 59, 60, 61, 62, 63, 64, 65, 66, 67, 68, 69, 70, 71, 72, 73, 74] rfl (by decide +kernel)
set_option maxRecDepth 100000 in
theorem gX6_layTable_X6_layHeaps : GoodIn wsX6_layTable (wsV RX6 251 RX6 yX6_layHeaps wsX6_layHeaps) := goodIn_app (goodIn_of _ (by decide +kernel)) ggX6_layTable_X6_layHeaps
set_option maxRecDepth 100000 in
theorem ggX6_layTable_X6_handSum : GoodIn wsX6_layTable wsX6_handSum := goodIn_r _ [31, 5, 7, 36, 37, 38, 39, 40, 41, 42, 43, 44, 45, 46, 47, 48, 49, 50, 51, 52, 53, 54, 55, 56, 57, 58, 59, 60, 61, 62, 63, 64, 65, 66, 67, 68, 69, 70, 71, 72, 73, 74] rfl (by decide +kernel)
set_option maxRecDepth 100000 in
theorem gX6_layTable_X6_handSum : GoodIn wsX6_layTable (wsV RX6 136 RX6 yX6_handSum wsX6_handSum) := goodIn_app (goodIn_of _ (by decide +kernel)) ggX6_layTable_X6_handSum
set_option maxRecDepth 100000 in
theorem ggX6_layTable_X6_handAce : GoodIn wsX6_layTable wsX6_handAce := goodIn_r _ [35, 5, 7, 36, 37, 38, 39, 40, 41, 42, 43, 44, 45, 46, 47, 48, 49, 50, 51, 52, 53, 54, 55, 56, 57, 58, 59, 60, 61, 62, 63, 64, 65, 66, 67, 68, 69, 70, 71, 72, 73, 74] rfl (by decide +kernel)
set_option maxRecDepth 100000 in
theorem gX6_layTable_X6_handAce : GoodIn wsX6_layTable (wsV RX6 139 RX6 yX6_handAce wsX6_handAce) := goodIn_app (goodIn_of _ (by decide +kernel)) ggX6_layTable_X6_handAce
set_option maxRecDepth 100000 in
theorem ggX6_isThereNow_X6_all : GoodIn wsX6_isThereNow wsX6_all := goodIn_r _ [12, 13, 30, 31, 32, 33, 34, 35, 36, 37, 38, 39, 40, 41, 42, 43, 44, 45, 46, 47, 48, 49, 50, 51, 52, 53, 54, 55, 56, 57, 58, 59, 60, 61, 62, 63, 64, 65, 66, 67, 68] rfl (by decide +kernel)
set_option maxRecDepth 100000 in
theorem gX6_isThereNow_X6_all : GoodIn wsX6_isThereNow (wsV RX6 104 RX6 yX6_all wsX6_all) := goodIn_app (goodIn_of _ (by decide +kernel)) ggX6_isThereNow_X6_all
set_option maxRecDepth 100000 in
theorem ggX6_isThereNow_X6_handValue : GoodIn wsX6_isThereNow wsX6_handValue := goodIn_r _ [17, 18, 19, 20, 11, 21, 1, 5, 22, 23, 24, 25, 26, 27, 28, 29, 3, 30, 31, 32, 33, 34, 35, 36, 37, 38, 39, 40, 41, 42, 43, 44, 45, 46, 47, 48, 49, 50, 51, 52, 53, 54, 55, 56, 57, 58, 59, 60, 61, 62, 63, 64, 65, 66, 67, 68] rfl (by decide +kernel)
set_option maxRecDepth 100000 in
theorem gX6_isThereNow_X6_handValue : GoodIn wsX6_isThereNow (wsV RX6 147 RX6 yX6_handValue wsX6_handValue) := goodIn_app (goodIn_of _ (by decide +kernel)) ggX6_isThereNow_X6_handValue
set_option maxRecDepth 100000 in
theorem ggX6_there_X6_in : GoodIn wsX6_there wsX6_in := goodIn_r _ [5] rfl (by decide +kernel)
set_option maxRecDepth 100000 in
theorem gX6_there_X6_in : GoodIn wsX6_there (va_wsS RX6 88 yX6_in wsX6_in) := goodIn_app (goodIn_of _ (by decide +kernel)) ggX6_there_X6_in
set_option maxRecDepth 100000 in
theorem ggX6_there_X6_isThereNow : GoodIn wsX6_there wsX6_isThereNow := goodIn_r _ [9, 10, 11, 12, 13, 14, 15, 16, 17, 18, 19, 4, 20, 21, 22, 23, 24, 25, 26, 27, 28, 29, 30, 31, 32, 33, 34, 35, 36, 37, 38, 39, 40, 41, 42, 43, 44, 45, 46, 47, 48, 49, 50, 51, 52, 53, 54, 55, 56, 57, 58, 59, 60, 61, 62, 63, 64, 65, 66, 67, 68, 69, 70, 71, 72, 73, 74, 75, 76] rfl (by decide +kernel)
set_option maxRecDepth 100000 in
theorem gX6_there_X6_isThereNow : GoodIn wsX6_there (wsV RX6 254 RX6 yX6_isThereNow wsX6_isThereNow) := goodIn_app (goodIn_of _ (by decide +kernel)) ggX6_there_X6_isThereNow
set_option maxRecDepth 100000 in
theorem ggX6_part_X6_gcd : GoodIn wsX6_part wsX6_gcd := goodIn_r _ [4] rfl (by decide +kernel)
set_option maxRecDepth 100000 in
theorem gX6_part_X6_gcd : GoodIn wsX6_part (va_wsS RX6 257 yX6_gcd wsX6_gcd) := goodIn_app (goodIn_of _ (by decide +kernel)) ggX6_part_X6_gcd
set_option maxRecDepth 100000 in
theorem ggX6_worth_X6_in : GoodIn wsX6_worth wsX6_in := goodIn_r _ [9] rfl (by decide +kernel)
set_option maxRecDepth 100000 in
theorem gX6_worth_X6_in : GoodIn wsX6_worth (va_wsS RX6 88 yX6_in wsX6_in) := goodIn_app (goodIn_of _ (by decide +kernel)) ggX6_worth_X6_in
set_option maxRecDepth 100000 in
theorem ggX6_worth_X6_isThereNow : GoodIn wsX6_worth wsX6_isThereNow := goodIn_r _ [13, 14, 15, 16, 17, 18, 19, 20, 21, 22, 23, 8, 24, 25, 26, 27, 28, 29, 30, 31, 32, 33, 34, 35, 36, 37, 38, 39, 40, 41, 137, 138, 139, 140, 141, 142, 143, 144, 145, 146, 147, 148, 149, 150, 151, 152, 153, 154, 155, 156, 157, 158, 159, 160, 161, 162, 163, 164, 165, 166, 167, 168, 169, 170, 171, 172, 173, 174, 175] rfl (by decide +kernel)
set_option maxRecDepth 100000 in
theorem gX6_worth_X6_isThereNow : GoodIn wsX6_worth (wsV RX6 254 RX6 yX6_isThereNow wsX6_isThereNow) := goodIn_app (goodIn_of _ (by decide +kernel)) ggX6_worth_X6_isThereNow
set_option maxRecDepth 100000 in
theorem ggX6_worth_X6_all : GoodIn wsX6_worth wsX6_all := goodIn_r _ [24, 25, 137, 138, 139, 140, 141, 142, 143, 144, 145, 146, 147, 148, 149, 150, 151, 152, 153, 154, 155, 156, 157, 158, 159, 160, 161, 162, 163, 164, 165, 166, 167, 168, 169, 170, 171, 172, 173, 174, 175] rfl (by decide +kernel)
set_option maxRecDepth 100000 in
theorem gX6_worth_X6_all : GoodIn wsX6_worth (wsV RX6 104 RX6 yX6_all wsX6_all) := goodIn_app (goodIn_of _ (by decide +kernel)) ggX6_worth_X6_all
set_option maxRecDepth 100000 in
theorem ggX6_worth_X6_layTable : GoodIn wsX6_worth wsX6_layTable := goodIn_r _ [45, 46, 25, 47, 48, 14, 49, 18, 50, 15, 51, 21, 22, 23, 8, 24, 52, 53, 54, 55, 56, 57, 58, 59, 60, 61, 62, 63, 30, 31, 32, 33, 34, 35, 36, 37, 137, 138, 139, 140, 141, 142, 143, 144, 145, 146, 147, 148, 149, 150, 151, 152, 153, 154, 155, 156, 157, 158, 159, 160, 161, 162, 163, 164, 165, 166, 167, 168, 169, 170, 171, 172, 173, 174, 175] rfl (by decide +kernel)
set_option maxRecDepth 100000 in
theorem gX6_worth_X6_layTable : GoodIn wsX6_worth (wsV RX6 267 RX6 yX6_layTable wsX6_layTable) := goodIn_app (goodIn_of _ (by decide +kernel)) ggX6_worth_X6_layTable
set_option maxRecDepth 100000 in
theorem ggX6_worth_X6_worthOf : GoodIn wsX6_worth wsX6_worthOf := goodIn_r _ [67, 5, 58, 56, 68, 69, 70, 8, 71, 72, 73, 49, 16, 74, 75, 76, 77, 78, 79, 47, 59, 48, 46, 60, 61, 62, 63, 57, 38, 39, 40, 41, 80, 81, 82, 83, 51, 84, 85, 86, 87, 88, 89, 90, 91, 92, 93, 94, 95, 96, 97, 98, 99, 100, 101, 102, 103, 104, 105, 106, 107, 108, 109, 110, 111, 112, 113, 114, 115, 116, 117, 118, 119, 120, 121, 122, 123, 124, 125, 126, 127, 128, 129, 130, 50, 137, 138, 139, 140, 141, 142, 143, 144, 145, 146, 147, 148, 149, 150, 151, 152, 153, 154, 155, 156, 157, 158, 159, 160, 161, 162, 163, 164, 165, 166, 167, 168, 169, 170, 171, 172, 173, 174, 175] rfl (by decide +kernel)
set_option maxRecDepth 100000 in
theorem gX6_worth_X6_worthOf : GoodIn wsX6_worth (wsV RX6 248 RX6 yX6_worthOf wsX6_worthOf) := goodIn_app (goodIn_of _ (by decide +kernel)) ggX6_worth_X6_worthOf
set_option maxRecDepth 100000 in
theorem ggX6_worth_X6_part : GoodIn wsX6_worth wsX6_part := goodIn_r _ [133, 134, 135, 8, 136] rfl (by decide +kernel)
set_option maxRecDepth 100000 in
theorem gX6_worth_X6_part : GoodIn wsX6_worth (va_wsS RX6 271 yX6_part wsX6_part) := goodIn_app (goodIn_of _ (by decide +kernel)) ggX6_worth_X6_part
set_option maxRecDepth 100000 in
theorem ggX6_best_X6_isThereNow : GoodIn wsX6_best wsX6_isThereNow := goodIn_r _ [6, 7, 8, 9, 10, 11, 12, 13, 14, 15, 16, 5, 17, 18, 19, 20, 21, 22, 23, 24, 25, 26, 27, 28, 29, 30, 31, 32, 33, 34, 133, 134, 135, 136, 137, 138, 139, 140, 141, 142, 143, 144, 145, 146, 147, 148, 149, 150, 151, 152, 153, 154, 155, 156, 157, 158, 159, 160, 161, 162, 163, 164, 165, 166, 167, 168, 169, 170, 171] rfl (by decide +kernel)
set_option maxRecDepth 100000 in
theorem gX6_best_X6_isThereNow : GoodIn wsX6_best (wsV RX6 254 RX6 yX6_isThereNow wsX6_isThereNow) := goodIn_app (goodIn_of _ (by decide +kernel)) ggX6_best_X6_isThereNow
set_option maxRecDepth 100000 in
theorem ggX6_best_X6_all : GoodIn wsX6_best wsX6_all := goodIn_r _ [17, 18, 133, 134, 135, 136, 137, 138, 139, 140, 141, 142, 143, 144, 145, 146, 147, 148, 149, 150, 151, 152, 153, 154, 155, 156, 157, 158, 159, 160, 161, 162, 163, 164, 165, 166, 167, 168, 169, 170, 171] rfl (by decide +kernel)
set_option maxRecDepth 100000 in
theorem gX6_best_X6_all : GoodIn wsX6_best (wsV RX6 104 RX6 yX6_all wsX6_all) := goodIn_app (goodIn_of _ (by decide +kernel)) ggX6_best_X6_all
set_option maxRecDepth 100000 in
theorem ggX6_best_X6_layTable : GoodIn wsX6_best wsX6_layTable := goodIn_r _ [38, 39, 18, 40, 41, 7, 42, 11, 43, 8, 44, 14, 15, 16, 5, 17, 45, 46, 47, 48, 49, 50, 51, 52, 53, 54, 55, 56, 23, 24, 25, 26, 27, 28, 29, 30, 133, 134, 135, 136, 137, 138, 139, 140, 141, 142, 143, 144, 145, 146, 147, 148, 149, 150, 151, 152, 153, 154, 155, 156, 157, 158, 159, 160, 161, 162, 163, 164, 165, 166, 167, 168, 169, 170, 171] rfl (by decide +kernel)
set_option maxRecDepth 100000 in
theorem gX6_best_X6_layTable : GoodIn wsX6_best (wsV RX6 267 RX6 yX6_layTable wsX6_layTable) := goodIn_app (goodIn_of _ (by decide +kernel)) ggX6_best_X6_layTable
set_option maxRecDepth 100000 in
theorem ggX6_best_X6_findBest : GoodIn wsX6_best wsX6_findBest := goodIn_r _ [60, 1, 61, 62, 63, 5, 64, 51, 49, 42, 44, 9, 10, 43, 12, 13, 65, 66, 67, 68, 40, 52, 41, 39, 53, 54, 55, 56, 50, 31, 32, 33, 34, 69, 70, 71, 72, 73, 74, 75, 76, 77, 78, 79, 80, 81, 82, 83, 84, 85, 86, 87, 88, 89, 90, 91, 92, 93, 94, 95, 96, 97, 98, 99, 100, 101, 102, 103, 104, 105, 106, 107, 108, 109, 110, 111, 112, 113, 114, 115, 116, 117, 118, 119, 120, 121, 122, 123, 124, 125, 126, 127, 128, 129, 130, 131, 132, 133, 134, 135, 136, 137, 138, 139, 140, 141, 142, 143, 144, 145, 146, 147, 148, 149, 150, 151, 152, 153, 154, 155, 156, 157, 158, 159, 160, 161, 162, 163, 164, 165, 166, 167, 168, 169, 170, 171] rfl (by decide +kernel)
set_option maxRecDepth 100000 in
theorem gX6_best_X6_findBest : GoodIn wsX6_best (wsV RX6 275 RX6 yX6_findBest wsX6_findBest) := goodIn_app (goodIn_of _ (by decide +kernel)) ggX6_best_X6_findBest
set_option maxRecDepth 100000 in
theorem ggX6_chance_X6_in : GoodIn wsX6_chance wsX6_in := goodIn_r _ [14] rfl (by decide +kernel)
set_option maxRecDepth 100000 in
theorem gX6_chance_X6_in : GoodIn wsX6_chance (va_wsS RX6 88 yX6_in wsX6_in) := goodIn_app (goodIn_of _ (by decide +kernel)) ggX6_chance_X6_in
set_option maxRecDepth 100000 in
theorem ggX6_chance_X6_all : GoodIn wsX6_chance wsX6_all := goodIn_r _ [18, 19, 94, 95, 96, 97, 98, 99, 100, 101, 102, 103, 104, 105, 106, 107, 108, 109, 110, 111, 112, 113, 114, 115, 116, 117, 118, 119, 120, 121, 122, 123, 124, 125, 126, 127, 128, 129, 130, 131, 132] rfl (by decide +kernel)
set_option maxRecDepth 100000 in
theorem gX6_chance_X6_all : GoodIn wsX6_chance (wsV RX6 104 RX6 yX6_all wsX6_all) := goodIn_app (goodIn_of _ (by decide +kernel)) ggX6_chance_X6_all
set_option maxRecDepth 100000 in
theorem ggX6_chance_X6_layTable : GoodIn wsX6_chance wsX6_layTable := goodIn_r _ [23, 24, 19, 25, 26, 27, 28, 29, 30, 4, 31, 15, 16, 17, 13, 18, 32, 33, 34, 35, 9, 36, 37, 38, 39, 40, 41, 42, 43, 44, 45, 46, 47, 48, 49, 50, 94, 95, 96, 97, 98, 99, 100, 101, 102, 103, 104, 105, 106, 107, 108, 109, 110, 111, 112, 113, 114, 115, 116, 117, 118, 119, 120, 121, 122, 123, 124, 125, 126, 127, 128, 129, 130, 131, 132] rfl (by decide +kernel)
set_option maxRecDepth 100000 in
theorem gX6_chance_X6_layTable : GoodIn wsX6_chance (wsV RX6 267 RX6 yX6_layTable wsX6_layTable) := goodIn_app (goodIn_of _ (by decide +kernel)) ggX6_chance_X6_layTable
set_option maxRecDepth 100000 in
theorem ggX6_chance_X6_findHouse : GoodIn wsX6_chance wsX6_findHouse := goodIn_r _ [54, 9, 31, 36, 55, 56, 57, 58, 13, 59, 37, 60, 61, 62, 63, 64, 65, 66, 67, 68, 69, 70, 39, 40, 41, 42, 24, 71, 72, 73, 74, 10, 75, 76, 77, 78, 7, 8, 79, 80, 81, 82, 83, 94, 95, 96, 97, 98, 99, 100, 101, 102, 103, 104, 105, 106, 107, 108, 109, 110, 111, 112, 113, 114, 115, 116, 117, 118, 119, 120, 121, 122, 123, 124, 125, 126, 127, 128, 129, 130, 131, 132] rfl (by decide +kernel)
set_option maxRecDepth 100000 in
theorem gX6_chance_X6_findHouse : GoodIn wsX6_chance (wsV RX6 210 RX6 yX6_findHouse wsX6_findHouse) := goodIn_app (goodIn_of _ (by decide +kernel)) ggX6_chance_X6_findHouse
set_option maxRecDepth 100000 in
theorem ggX6_chance_X6_houseFor : GoodIn wsX6_chance wsX6_houseFor := goodIn_r _ [87, 31, 71, 72, 73, 13, 74, 10, 37, 55, 56, 57, 58, 59, 60, 61, 62, 63, 64, 65, 66, 67, 68, 69, 70, 75, 76, 77, 78, 7, 8, 79, 80, 81, 82, 83, 94, 95, 96, 97, 98, 99, 100, 101, 102, 103, 104, 105, 106, 107, 108, 109, 110, 111, 112, 113, 114, 115, 116, 117, 118, 119, 120, 121, 122, 123, 124, 125, 126, 127, 128, 129, 130, 131, 132] rfl (by decide +kernel)
set_option maxRecDepth 100000 in
theorem gX6_chance_X6_houseFor : GoodIn wsX6_chance (wsV RX6 213 RX6 yX6_houseFor wsX6_houseFor) := goodIn_app (goodIn_of _ (by decide +kernel)) ggX6_chance_X6_houseFor
set_option maxRecDepth 100000 in
theorem ggX6_chance_X6_part : GoodIn wsX6_chance wsX6_part := goodIn_r _ [90, 91, 92, 13, 93] rfl (by decide +kernel)
set_option maxRecDepth 100000 in
theorem gX6_chance_X6_part : GoodIn wsX6_chance (va_wsS RX6 271 yX6_part wsX6_part) := goodIn_app (goodIn_of _ (by decide +kernel)) ggX6_chance_X6_part
