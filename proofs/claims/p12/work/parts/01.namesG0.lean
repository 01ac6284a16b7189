set_option maxRecDepth 100000 in
theorem ggX0_clear_J7_fill_53178 : GoodIn wsX0_clear wsJ7_fill_53178 := goodIn_r _ [6] rfl (by decide +kernel)
set_option maxRecDepth 100000 in
theorem gX0_clear_J7_fill_53178 : GoodIn wsX0_clear (va_wsS RX0 19 yJ7_fill_53178 wsJ7_fill_53178) := goodIn_app (goodIn_of _ (by decide +kernel)) ggX0_clear_J7_fill_53178
set_option maxRecDepth 100000 in
theorem ggX2_ways_J7_fill_d0a16 : GoodIn wsX2_ways wsJ7_fill_d0a16 := goodIn_r _ [5] rfl (by decide +kernel)
set_option maxRecDepth 100000 in
theorem gX2_ways_J7_fill_d0a16 : GoodIn wsX2_ways (va_wsS RX2 16 yJ7_fill_d0a16 wsJ7_fill_d0a16) := goodIn_app (goodIn_of _ (by decide +kernel)) ggX2_ways_J7_fill_d0a16
set_option maxRecDepth 100000 in
theorem ggX2_ways_X0_count : GoodIn wsX2_ways wsX0_count := goodIn_r _ [10, 11, 25, 26] rfl (by decide +kernel)
set_option maxRecDepth 100000 in
theorem gX2_ways_X0_count : GoodIn wsX2_ways (wsV RX2 22 RX0 yX0_count wsX0_count) := goodIn_app (goodIn_of _ (by decide +kernel)) ggX2_ways_X0_count
set_option maxRecDepth 100000 in
theorem ggX2_ways_X2_addCard : GoodIn wsX2_ways wsX2_addCard := goodIn_r _ [16, 17, 18, 19, 20, 21, 22, 23, 1, 24] rfl (by decide +kernel)
set_option maxRecDepth 100000 in
theorem gX2_ways_X2_addCard : GoodIn wsX2_ways (wsV RX2 28 RX2 yX2_addCard wsX2_addCard) := goodIn_app (goodIn_of _ (by decide +kernel)) ggX2_ways_X2_addCard
set_option maxRecDepth 100000 in
theorem ggX3_init_X4_init : GoodIn wsX3_init wsX4_init := goodIn_r _ [31, 32, 2, 3, 22, 33, 46] rfl (by decide +kernel)
set_option maxRecDepth 100000 in
theorem gX3_init_X4_init_n11 : GoodIn wsX3_init (wsX4_init) := ggX3_init_X4_init
set_option maxRecDepth 100000 in
theorem ggX3_init_X0_init : GoodIn wsX3_init wsX0_init := goodIn_r _ [35, 36, 2, 3, 22, 37, 38, 62, 63] rfl (by decide +kernel)
set_option maxRecDepth 100000 in
theorem gX3_init_X0_init_n20 : GoodIn wsX3_init (wsX0_init) := ggX3_init_X0_init
set_option maxRecDepth 100000 in
theorem ggX3_init_X1_init : GoodIn wsX3_init wsX1_init := goodIn_r _ [40, 41, 2, 3, 22, 42, 43, 44, 45, 64, 65, 66, 67] rfl (by decide +kernel)
set_option maxRecDepth 100000 in
theorem gX3_init_X1_init_n30 : GoodIn wsX3_init (wsX1_init) := ggX3_init_X1_init
set_option maxRecDepth 100000 in
theorem ggX3_look_X4_copy : GoodIn wsX3_look wsX4_copy := goodIn_r _ [9, 10, 11, 12, 13, 14, 48] rfl (by decide +kernel)
set_option maxRecDepth 100000 in
theorem gX3_look_X4_copy : GoodIn wsX3_look (wsV RX3 72 RX4 yX4_copy wsX4_copy) := goodIn_app (goodIn_of _ (by decide +kernel)) ggX3_look_X4_copy
set_option maxRecDepth 100000 in
theorem ggX3_look_X0_copy : GoodIn wsX3_look wsX0_copy := goodIn_r _ [19, 20, 21, 12, 13, 14, 22, 49, 50] rfl (by decide +kernel)
set_option maxRecDepth 100000 in
theorem gX3_look_X0_copy : GoodIn wsX3_look (wsV RX3 76 RX0 yX0_copy wsX0_copy) := goodIn_app (goodIn_of _ (by decide +kernel)) ggX3_look_X0_copy
set_option maxRecDepth 100000 in
theorem ggX3_look_X1_copy : GoodIn wsX3_look wsX1_copy := goodIn_r _ [27, 28, 29, 12, 13, 14, 30, 31, 32, 51, 52, 53, 54] rfl (by decide +kernel)
set_option maxRecDepth 100000 in
theorem gX3_look_X1_copy : GoodIn wsX3_look (wsV RX3 79 RX1 yX1_copy wsX1_copy) := goodIn_app (goodIn_of _ (by decide +kernel)) ggX3_look_X1_copy
set_option maxRecDepth 100000 in
theorem ggX3_isThere_X4_isBust : GoodIn wsX3_isThere wsX4_isBust := goodIn_r _ [12, 13, 58] rfl (by decide +kernel)
set_option maxRecDepth 100000 in
theorem gX3_isThere_X4_isBust : GoodIn wsX3_isThere (wsV RX3 88 RX4 yX4_isBust wsX4_isBust) := goodIn_app (goodIn_of _ (by decide +kernel)) ggX3_isThere_X4_isBust
set_option maxRecDepth 100000 in
theorem ggX3_isThere_X1_isFull : GoodIn wsX3_isThere wsX1_isFull := goodIn_r _ [18, 19, 52, 53, 54, 55] rfl (by decide +kernel)
set_option maxRecDepth 100000 in
theorem gX3_isThere_X1_isFull : GoodIn wsX3_isThere (wsV RX3 95 RX1 yX1_isFull wsX1_isFull) := goodIn_app (goodIn_of _ (by decide +kernel)) ggX3_isThere_X1_isFull
set_option maxRecDepth 100000 in
theorem ggX3_isThere_X4_doubles : GoodIn wsX3_isThere wsX4_doubles := goodIn_r _ [23, 13, 58] rfl (by decide +kernel)
set_option maxRecDepth 100000 in
theorem gX3_isThere_X4_doubles : GoodIn wsX3_isThere (wsV RX3 99 RX4 yX4_doubles wsX4_doubles) := goodIn_app (goodIn_of _ (by decide +kernel)) ggX3_isThere_X4_doubles
set_option maxRecDepth 100000 in
theorem ggX3_isThere_X1_isPair : GoodIn wsX3_isThere wsX1_isPair := goodIn_r _ [27, 19, 28, 52, 53, 54, 55] rfl (by decide +kernel)
set_option maxRecDepth 100000 in
theorem gX3_isThere_X1_isPair : GoodIn wsX3_isThere (wsV RX3 102 RX1 yX1_isPair wsX1_isPair) := goodIn_app (goodIn_of _ (by decide +kernel)) ggX3_isThere_X1_isPair
set_option maxRecDepth 100000 in
theorem ggX3_isThere_X4_splits : GoodIn wsX3_isThere wsX4_splits := goodIn_r _ [32, 13, 58] rfl (by decide +kernel)
set_option maxRecDepth 100000 in
theorem gX3_isThere_X4_splits : GoodIn wsX3_isThere (wsV RX3 105 RX4 yX4_splits wsX4_splits) := goodIn_app (goodIn_of _ (by decide +kernel)) ggX3_isThere_X4_splits
set_option maxRecDepth 100000 in
theorem ggX3_isThere_X4_gives : GoodIn wsX3_isThere wsX4_gives := goodIn_r _ [36, 13, 58] rfl (by decide +kernel)
set_option maxRecDepth 100000 in
theorem gX3_isThere_X4_gives : GoodIn wsX3_isThere (wsV RX3 108 RX4 yX4_gives wsX4_gives) := goodIn_app (goodIn_of _ (by decide +kernel)) ggX3_isThere_X4_gives
set_option maxRecDepth 100000 in
theorem ggX3_anyThere_X3_isThere : GoodIn wsX3_anyThere wsX3_isThere := goodIn_r _ [5, 6, 7, 8, 9, 10, 11, 12, 13, 14, 15, 16, 17, 18, 19, 20, 21, 22, 23, 24, 25, 26, 27, 28, 29, 30, 31, 32, 33, 34, 35, 36, 37, 38, 39, 40, 41, 42, 43, 44, 45, 46, 47, 48, 49, 50, 51, 52, 53, 54, 55, 56, 57, 58, 59, 60, 61, 62, 63] rfl (by decide +kernel)
set_option maxRecDepth 100000 in
theorem gX3_anyThere_X3_isThere : GoodIn wsX3_anyThere (wsV RX3 111 RX3 yX3_isThere wsX3_isThere) := goodIn_app (goodIn_of _ (by decide +kernel)) ggX3_anyThere_X3_isThere
set_option maxRecDepth 100000 in
theorem ggX3_actTotal_X3_numberHeaps : GoodIn wsX3_actTotal wsX3_numberHeaps := goodIn_r _ [13, 14, 6, 15, 16, 17, 18, 19, 20, 105, 106, 107, 108, 109, 110, 111, 112, 113, 114, 115, 116, 117, 118, 119, 124, 125] rfl (by decide +kernel)
set_option maxRecDepth 100000 in
theorem gX3_actTotal_X3_numberHeaps : GoodIn wsX3_actTotal (wsV RX3 114 RX3 yX3_numberHeaps wsX3_numberHeaps) := goodIn_app (goodIn_of _ (by decide +kernel)) ggX3_actTotal_X3_numberHeaps
set_option maxRecDepth 100000 in
theorem ggX3_actTotal_X3_standTotal : GoodIn wsX3_actTotal wsX3_standTotal := goodIn_r _ [24, 25, 26, 6, 7, 27, 28, 29, 30, 31, 32, 33, 34, 35, 36, 37, 38, 39, 40, 41, 42, 43, 44, 45, 46, 47, 48, 49, 50, 51, 52, 53, 54, 12, 55, 56, 57, 14, 58, 59, 60, 61, 62, 63, 64, 65, 66, 67, 68, 18, 69, 20, 70, 71, 72, 73, 74, 105, 106, 107, 108, 109, 110, 111, 112, 113, 114, 115, 116, 117, 118, 119, 124, 125, 126] rfl (by decide +kernel)
set_option maxRecDepth 100000 in
theorem gX3_actTotal_X3_standTotal : GoodIn wsX3_actTotal (wsV RX3 121 RX3 yX3_standTotal wsX3_standTotal) := goodIn_app (goodIn_of _ (by decide +kernel)) ggX3_actTotal_X3_standTotal
set_option maxRecDepth 100000 in
theorem ggX3_actTotal_X3_playerTotal : GoodIn wsX3_actTotal wsX3_playerTotal := goodIn_r _ [78, 25, 26, 79, 1, 80, 6, 14, 81, 82, 83, 84, 30, 31, 32, 33, 34, 35, 36, 37, 38, 39, 66, 67, 68, 18, 69, 20, 70, 75, 76, 77, 12, 71, 72, 73, 74, 21, 22, 23, 24, 7, 27, 28, 29, 40, 41, 42, 43, 44, 45, 46, 47, 48, 49, 50, 51, 52, 53, 54, 55, 56, 57, 58, 59, 60, 61, 62, 63, 64, 65, 105, 106, 107, 108, 109, 110, 111, 112, 113, 114, 115, 116, 117, 118, 119, 126, 124, 125] rfl (by decide +kernel)
set_option maxRecDepth 100000 in
theorem gX3_actTotal_X3_playerTotal : GoodIn wsX3_actTotal (wsV RX3 125 RX3 yX3_playerTotal wsX3_playerTotal) := goodIn_app (goodIn_of _ (by decide +kernel)) ggX3_actTotal_X3_playerTotal
set_option maxRecDepth 100000 in
theorem ggX3_actTotal_X3_doubleTotal : GoodIn wsX3_actTotal wsX3_doubleTotal := goodIn_r _ [88, 6, 14, 2, 3, 4, 5, 89, 66, 67, 68, 18, 69, 20, 70, 21, 22, 23, 12, 24, 25, 26, 7, 27, 28, 29, 30, 31, 32, 33, 34, 35, 36, 37, 38, 39, 40, 41, 42, 43, 44, 45, 46, 47, 48, 49, 50, 51, 52, 53, 54, 55, 56, 57, 58, 59, 60, 61, 62, 63, 64, 65, 71, 72, 73, 74, 105, 106, 107, 108, 109, 110, 111, 112, 113, 114, 115, 116, 117, 118, 119, 120, 121, 122, 123, 124, 125, 126] rfl (by decide +kernel)
set_option maxRecDepth 100000 in
theorem gX3_actTotal_X3_doubleTotal : GoodIn wsX3_actTotal (wsV RX3 129 RX3 yX3_doubleTotal wsX3_doubleTotal) := goodIn_app (goodIn_of _ (by decide +kernel)) ggX3_actTotal_X3_doubleTotal
set_option maxRecDepth 100000 in
theorem ggX3_actTotal_X1_card : GoodIn wsX3_actTotal wsX1_card := goodIn_r _ [94, 95, 96, 120, 121, 122, 123] rfl (by decide +kernel)
set_option maxRecDepth 100000 in
theorem gX3_actTotal_X1_card : GoodIn wsX3_actTotal (wsV RX3 133 RX1 yX1_card wsX1_card) := goodIn_app (goodIn_of _ (by decide +kernel)) ggX3_actTotal_X1_card
set_option maxRecDepth 100000 in
theorem ggX3_actTotal_X3_splitTotal : GoodIn wsX3_actTotal wsX3_splitTotal := goodIn_r _ [100, 6, 66, 67, 68, 18, 69, 20, 70, 101, 102, 103, 12, 104, 25, 27, 28, 14, 29, 7, 40, 41, 42, 33, 43, 35, 48, 49, 50, 51, 52, 53, 54, 55, 56, 57, 58, 59, 60, 61, 62, 63, 64, 65, 36, 37, 38, 39, 71, 72, 73, 74, 105, 106, 107, 108, 109, 110, 111, 112, 113, 114, 115, 116, 117, 118, 119, 124, 125, 126] rfl (by decide +kernel)
set_option maxRecDepth 100000 in
theorem gX3_actTotal_X3_splitTotal : GoodIn wsX3_actTotal (wsV RX3 137 RX3 yX3_splitTotal wsX3_splitTotal) := goodIn_app (goodIn_of _ (by decide +kernel)) ggX3_actTotal_X3_splitTotal
set_option maxRecDepth 100000 in
theorem ggX3_actTotal_X5_orders : GoodIn wsX3_actTotal wsX5_orders := goodIn_r _ [38, 39] rfl (by decide +kernel)
set_option maxRecDepth 100000 in
theorem gX3_actTotal_X5_orders_n143 : GoodIn wsX3_actTotal (wsX5_orders) := ggX3_actTotal_X5_orders
set_option maxRecDepth 100000 in
theorem ggX3_findBest_X3_isThere : GoodIn wsX3_findBest wsX3_isThere := goodIn_r _ [7, 8, 9, 10, 11, 12, 13, 14, 15, 16, 17, 18, 19, 20, 21, 22, 23, 24, 25, 26, 27, 28, 29, 30, 31, 32, 33, 34, 35, 36, 37, 38, 39, 40, 41, 42, 43, 135, 136, 137, 138, 139, 140, 141, 142, 143, 144, 145, 146, 147, 148, 149, 150, 151, 152, 153, 154, 155, 156] rfl (by decide +kernel)
set_option maxRecDepth 100000 in
theorem gX3_findBest_X3_isThere : GoodIn wsX3_findBest (wsV RX3 111 RX3 yX3_isThere wsX3_isThere) := goodIn_app (goodIn_of _ (by decide +kernel)) ggX3_findBest_X3_isThere
set_option maxRecDepth 100000 in
theorem ggX3_findBest_X3_actTotal : GoodIn wsX3_findBest wsX3_actTotal := goodIn_r _ [47, 48, 8, 11, 49, 9, 13, 14, 50, 51, 52, 53, 6, 54, 55, 56, 57, 58, 59, 60, 61, 62, 63, 64, 65, 10, 66, 67, 68, 12, 15, 16, 17, 18, 19, 20, 69, 70, 71, 72, 73, 74, 75, 76, 77, 78, 79, 80, 81, 82, 83, 84, 85, 86, 87, 88, 89, 90, 91, 92, 93, 94, 95, 96, 97, 98, 99, 100, 101, 102, 103, 104, 105, 106, 107, 108, 109, 110, 111, 112, 113, 114, 115, 116, 117, 118, 119, 120, 121, 122, 123, 124, 125, 24, 126, 26, 35, 127, 128, 129, 130, 131, 132, 133, 134, 135, 136, 137, 138, 139, 140, 141, 142, 143, 144, 145, 146, 147, 148, 149, 150, 151, 152, 153, 154, 155, 156] rfl (by decide +kernel)
set_option maxRecDepth 100000 in
theorem gX3_findBest_X3_actTotal : GoodIn wsX3_findBest (wsV RX3 146 RX3 yX3_actTotal wsX3_actTotal) := goodIn_app (goodIn_of _ (by decide +kernel)) ggX3_findBest_X3_actTotal
set_option maxRecDepth 100000 in
theorem ggX3_endTotal_X3_numberHeaps : GoodIn wsX3_endTotal wsX3_numberHeaps := goodIn_r _ [10, 11, 4, 12, 13, 14, 15, 16, 17, 52, 53, 54, 55, 56, 57, 58, 59, 60, 61, 62, 63, 64, 65, 66, 67, 68] rfl (by decide +kernel)
set_option maxRecDepth 100000 in
theorem gX3_endTotal_X3_numberHeaps : GoodIn wsX3_endTotal (wsV RX3 114 RX3 yX3_numberHeaps wsX3_numberHeaps) := goodIn_app (goodIn_of _ (by decide +kernel)) ggX3_endTotal_X3_numberHeaps
set_option maxRecDepth 100000 in
theorem ggX3_endTotal_X3_houseTotal : GoodIn wsX3_endTotal wsX3_houseTotal := goodIn_r _ [21, 22, 1, 23, 2, 24, 4, 11, 25, 26, 27, 28, 29, 30, 31, 32, 33, 34, 35, 36, 37, 38, 39, 40, 41, 42, 43, 44, 45, 15, 46, 17, 47, 18, 19, 20, 9, 48, 49, 50, 51, 52, 53, 54, 55, 56, 57, 58, 59, 60, 61, 62, 63, 64, 65, 66, 69, 67, 68] rfl (by decide +kernel)
set_option maxRecDepth 100000 in
theorem gX3_endTotal_X3_houseTotal : GoodIn wsX3_endTotal (wsV RX3 149 RX3 yX3_houseTotal wsX3_houseTotal) := goodIn_app (goodIn_of _ (by decide +kernel)) ggX3_endTotal_X3_houseTotal
set_option maxRecDepth 100000 in
theorem ggX3_movedTotal_X3_findBest : GoodIn wsX3_movedTotal wsX3_findBest := goodIn_r _ [8, 9, 1, 10, 11, 12, 7, 13, 14, 15, 16, 17, 18, 2, 3, 19, 20, 21, 22, 23, 24, 25, 26, 27, 28, 29, 30, 31, 32, 33, 34, 35, 36, 37, 38, 39, 40, 41, 42, 43, 44, 45, 46, 47, 48, 49, 50, 51, 52, 53, 54, 55, 56, 57, 58, 59, 60, 61, 62, 63, 64, 65, 66, 67, 68, 69, 70, 71, 72, 73, 74, 75, 76, 77, 78, 79, 80, 81, 82, 83, 84, 85, 86, 87, 88, 89, 90, 91, 92, 93, 94, 95, 96, 97, 98, 99, 100, 101, 102, 103, 104, 105, 106, 107, 108, 109, 110, 111, 112, 113, 114, 115, 116, 117, 118, 119, 120, 121, 122, 123, 124, 125, 126, 127, 128, 129, 130, 131, 132, 133, 134, 135, 136, 137, 138, 139, 140, 141, 142, 143, 144, 145, 146, 147, 148, 149, 150, 151, 152, 153, 156, 157, 158, 159, 154, 155, 160] rfl (by decide +kernel)
set_option maxRecDepth 100000 in
theorem gX3_movedTotal_X3_findBest : GoodIn wsX3_movedTotal (wsV RX3 152 RX3 yX3_findBest wsX3_findBest) := goodIn_app (goodIn_of _ (by decide +kernel)) ggX3_movedTotal_X3_findBest
set_option maxRecDepth 100000 in
theorem ggX3_movedTotal_X0_remove : GoodIn wsX3_movedTotal wsX0_remove := goodIn_r _ [106, 65, 107, 154, 155] rfl (by decide +kernel)
set_option maxRecDepth 100000 in
theorem gX3_movedTotal_X0_remove : GoodIn wsX3_movedTotal (wsV RX3 155 RX0 yX0_remove wsX0_remove) := goodIn_app (goodIn_of _ (by decide +kernel)) ggX3_movedTotal_X0_remove
set_option maxRecDepth 100000 in
theorem ggX3_movedTotal_X0_add : GoodIn wsX3_movedTotal wsX0_add := goodIn_r _ [111, 65, 107, 154, 155] rfl (by decide +kernel)
set_option maxRecDepth 100000 in
theorem gX3_movedTotal_X0_add : GoodIn wsX3_movedTotal (wsV RX3 158 RX0 yX0_add wsX0_add) := goodIn_app (goodIn_of _ (by decide +kernel)) ggX3_movedTotal_X0_add
set_option maxRecDepth 100000 in
theorem ggX3_dealTotal_X0_copy : GoodIn wsX3_dealTotal wsX0_copy := goodIn_r _ [11, 12, 13, 14, 15, 16, 17, 177, 178] rfl (by decide +kernel)
set_option maxRecDepth 100000 in
theorem gX3_dealTotal_X0_copy : GoodIn wsX3_dealTotal (wsV RX3 76 RX0 yX0_copy wsX0_copy) := goodIn_app (goodIn_of _ (by decide +kernel)) ggX3_dealTotal_X0_copy
set_option maxRecDepth 100000 in
theorem ggX3_dealTotal_X3_handOut : GoodIn wsX3_dealTotal wsX3_handOut := goodIn_r _ [22, 2, 1, 23, 24, 25, 7, 8, 9, 10, 11, 12, 13, 14, 15, 16, 17, 26, 27, 28, 29, 30, 31, 32, 33, 34, 35, 36, 37, 38, 39, 40, 41, 42, 162, 163, 164, 165, 166, 167, 168, 169, 170, 171, 172, 173, 174, 175, 176, 177, 178, 179, 180, 181, 182] rfl (by decide +kernel)
set_option maxRecDepth 100000 in
theorem gX3_dealTotal_X3_handOut : GoodIn wsX3_dealTotal (wsV RX3 162 RX3 yX3_handOut wsX3_handOut) := goodIn_app (goodIn_of _ (by decide +kernel)) ggX3_dealTotal_X3_handOut
set_option maxRecDepth 100000 in
theorem ggX3_dealTotal_X3_findBest : GoodIn wsX3_dealTotal wsX3_findBest := goodIn_r _ [46, 3, 6, 47, 48, 49, 21, 50, 23, 51, 52, 53, 24, 2, 5, 54, 55, 56, 57, 58, 59, 60, 61, 62, 33, 63, 35, 64, 65, 66, 67, 68, 69, 70, 71, 42, 72, 73, 74, 75, 76, 77, 78, 79, 80, 81, 82, 83, 84, 85, 86, 87, 88, 89, 90, 91, 92, 93, 94, 10, 95, 12, 96, 97, 98, 99, 4, 100, 101, 102, 103, 104, 105, 106, 107, 108, 109, 110, 111, 112, 113, 114, 115, 116, 117, 118, 119, 120, 121, 122, 123, 124, 125, 126, 127, 128, 129, 130, 131, 26, 27, 28, 29, 17, 132, 133, 134, 135, 136, 137, 138, 139, 140, 141, 142, 143, 144, 145, 146, 147, 148, 149, 25, 150, 151, 152, 153, 154, 155, 156, 157, 158, 159, 160, 161, 162, 163, 164, 165, 166, 167, 168, 169, 170, 171, 172, 173, 174, 175, 176, 179, 180, 181, 182, 177, 178, 183] rfl (by decide +kernel)
set_option maxRecDepth 100000 in
theorem gX3_dealTotal_X3_findBest : GoodIn wsX3_dealTotal (wsV RX3 152 RX3 yX3_findBest wsX3_findBest) := goodIn_app (goodIn_of _ (by decide +kernel)) ggX3_dealTotal_X3_findBest
set_option maxRecDepth 100000 in
theorem ggX3_dealTotal_X5_orders : GoodIn wsX3_dealTotal wsX5_orders := goodIn_r _ [104, 105] rfl (by decide +kernel)
set_option maxRecDepth 100000 in
theorem gX3_dealTotal_X5_orders_n143 : GoodIn wsX3_dealTotal (wsX5_orders) := ggX3_dealTotal_X5_orders
set_option maxRecDepth 100000 in
theorem ggX3_handOut_X0_copy : GoodIn wsX3_handOut wsX0_copy := goodIn_r _ [10, 11, 12, 13, 14, 15, 16, 49, 50] rfl (by decide +kernel)
set_option maxRecDepth 100000 in
theorem gX3_handOut_X0_copy : GoodIn wsX3_handOut (wsV RX3 76 RX0 yX0_copy wsX0_copy) := goodIn_app (goodIn_of _ (by decide +kernel)) ggX3_handOut_X0_copy
set_option maxRecDepth 100000 in
theorem ggX3_handOut_X0_remove : GoodIn wsX3_handOut wsX0_remove := goodIn_r _ [20, 11, 16, 49, 50] rfl (by decide +kernel)
set_option maxRecDepth 100000 in
theorem gX3_handOut_X0_remove : GoodIn wsX3_handOut (wsV RX3 155 RX0 yX0_remove wsX0_remove) := goodIn_app (goodIn_of _ (by decide +kernel)) ggX3_handOut_X0_remove
set_option maxRecDepth 100000 in
theorem ggX3_handOut_X1_clear : GoodIn wsX3_handOut wsX1_clear := goodIn_r _ [25, 26, 27, 28, 51, 52, 53, 54] rfl (by decide +kernel)
set_option maxRecDepth 100000 in
theorem gX3_handOut_X1_clear : GoodIn wsX3_handOut (wsV RX3 168 RX1 yX1_clear wsX1_clear) := goodIn_app (goodIn_of _ (by decide +kernel)) ggX3_handOut_X1_clear
set_option maxRecDepth 100000 in
theorem ggX3_handOut_X1_add : GoodIn wsX3_handOut wsX1_add := goodIn_r _ [32, 26, 33, 27, 28, 51, 52, 53, 54] rfl (by decide +kernel)
set_option maxRecDepth 100000 in
theorem gX3_handOut_X1_add : GoodIn wsX3_handOut (wsV RX3 171 RX1 yX1_add wsX1_add) := goodIn_app (goodIn_of _ (by decide +kernel)) ggX3_handOut_X1_add
set_option maxRecDepth 100000 in
theorem ggX3_numberHeaps_X0_count : GoodIn wsX3_numberHeaps wsX0_count := goodIn_r _ [7, 8, 24, 25] rfl (by decide +kernel)
set_option maxRecDepth 100000 in
theorem gX3_numberHeaps_X0_count : GoodIn wsX3_numberHeaps (wsV RX3 174 RX0 yX0_count wsX0_count) := goodIn_app (goodIn_of _ (by decide +kernel)) ggX3_numberHeaps_X0_count
set_option maxRecDepth 100000 in
theorem ggX3_standTotal_X4_isBust : GoodIn wsX3_standTotal wsX4_isBust := goodIn_r _ [12, 13, 74] rfl (by decide +kernel)
set_option maxRecDepth 100000 in
theorem gX3_standTotal_X4_isBust : GoodIn wsX3_standTotal (wsV RX3 88 RX4 yX4_isBust wsX4_isBust) := goodIn_app (goodIn_of _ (by decide +kernel)) ggX3_standTotal_X4_isBust
set_option maxRecDepth 100000 in
theorem ggX3_standTotal_X5_orders : GoodIn wsX3_standTotal wsX5_orders := goodIn_r _ [16, 17] rfl (by decide +kernel)
set_option maxRecDepth 100000 in
theorem gX3_standTotal_X5_orders_n143 : GoodIn wsX3_standTotal (wsX5_orders) := ggX3_standTotal_X5_orders
set_option maxRecDepth 100000 in
theorem ggX3_standTotal_X4_value : GoodIn wsX3_standTotal wsX4_value := goodIn_r _ [21, 13, 74] rfl (by decide +kernel)
set_option maxRecDepth 100000 in
theorem gX3_standTotal_X4_value : GoodIn wsX3_standTotal (wsV RX3 177 RX4 yX4_value wsX4_value) := goodIn_app (goodIn_of _ (by decide +kernel)) ggX3_standTotal_X4_value
set_option maxRecDepth 100000 in
theorem ggX3_standTotal_X4_isNatural : GoodIn wsX3_standTotal wsX4_isNatural := goodIn_r _ [25, 13, 74] rfl (by decide +kernel)
set_option maxRecDepth 100000 in
theorem gX3_standTotal_X4_isNatural : GoodIn wsX3_standTotal (wsV RX3 181 RX4 yX4_isNatural wsX4_isNatural) := goodIn_app (goodIn_of _ (by decide +kernel)) ggX3_standTotal_X4_isNatural
set_option maxRecDepth 100000 in
theorem ggX3_standTotal_X4_settled : GoodIn wsX3_standTotal wsX4_settled := goodIn_r _ [29, 13, 74] rfl (by decide +kernel)
set_option maxRecDepth 100000 in
theorem gX3_standTotal_X4_settled : GoodIn wsX3_standTotal (wsV RX3 185 RX4 yX4_settled wsX4_settled) := goodIn_app (goodIn_of _ (by decide +kernel)) ggX3_standTotal_X4_settled
set_option maxRecDepth 100000 in
theorem ggX3_standTotal_X3_houseTotal : GoodIn wsX3_standTotal wsX3_houseTotal := goodIn_r _ [34, 1, 5, 35, 6, 36, 3, 37, 18, 19, 20, 11, 21, 13, 38, 39, 40, 41, 42, 43, 44, 45, 14, 15, 16, 17, 46, 47, 48, 49, 50, 51, 52, 30, 31, 32, 33, 53, 54, 55, 56, 57, 58, 59, 60, 61, 62, 63, 64, 65, 66, 67, 68, 69, 70, 71, 74, 72, 73] rfl (by decide +kernel)
set_option maxRecDepth 100000 in
theorem gX3_standTotal_X3_houseTotal : GoodIn wsX3_standTotal (wsV RX3 149 RX3 yX3_houseTotal wsX3_houseTotal) := goodIn_app (goodIn_of _ (by decide +kernel)) ggX3_standTotal_X3_houseTotal
set_option maxRecDepth 100000 in
theorem ggX3_houseTotal_X4_value : GoodIn wsX3_houseTotal wsX4_value := goodIn_r _ [12, 13, 56] rfl (by decide +kernel)
set_option maxRecDepth 100000 in
theorem gX3_houseTotal_X4_value : GoodIn wsX3_houseTotal (wsV RX3 177 RX4 yX4_value wsX4_value) := goodIn_app (goodIn_of _ (by decide +kernel)) ggX3_houseTotal_X4_value
set_option maxRecDepth 100000 in
theorem ggX3_houseTotal_X4_goesOn : GoodIn wsX3_houseTotal wsX4_goesOn := goodIn_r _ [17, 13, 56] rfl (by decide +kernel)
set_option maxRecDepth 100000 in
theorem gX3_houseTotal_X4_goesOn : GoodIn wsX3_houseTotal (wsV RX3 189 RX4 yX4_goesOn wsX4_goesOn) := goodIn_app (goodIn_of _ (by decide +kernel)) ggX3_houseTotal_X4_goesOn
set_option maxRecDepth 100000 in
theorem ggX3_houseTotal_X4_end : GoodIn wsX3_houseTotal wsX4_end := goodIn_r _ [21, 13, 56] rfl (by decide +kernel)
set_option maxRecDepth 100000 in
theorem gX3_houseTotal_X4_end : GoodIn wsX3_houseTotal (wsV RX3 193 RX4 yX4_end wsX4_end) := goodIn_app (goodIn_of _ (by decide +kernel)) ggX3_houseTotal_X4_end
set_option maxRecDepth 100000 in
theorem ggX3_houseTotal_X5_orders : GoodIn wsX3_houseTotal wsX5_orders := goodIn_r _ [24, 25] rfl (by decide +kernel)
set_option maxRecDepth 100000 in
theorem gX3_houseTotal_X5_orders_n143 : GoodIn wsX3_houseTotal (wsX5_orders) := ggX3_houseTotal_X5_orders
set_option maxRecDepth 100000 in
theorem ggX3_houseTotal_X0_remove : GoodIn wsX3_houseTotal wsX0_remove := goodIn_r _ [30, 31, 32, 57, 58] rfl (by decide +kernel)
set_option maxRecDepth 100000 in
theorem gX3_houseTotal_X0_remove : GoodIn wsX3_houseTotal (wsV RX3 155 RX0 yX0_remove wsX0_remove) := goodIn_app (goodIn_of _ (by decide +kernel)) ggX3_houseTotal_X0_remove
set_option maxRecDepth 100000 in
theorem ggX3_houseTotal_X3_houseTotal : GoodIn wsX3_houseTotal wsX3_houseTotal := goodIn_r _ [0, 1, 2, 3, 4, 5, 6, 7, 8, 9, 10, 11, 12, 13, 14, 15, 16, 17, 18, 19, 20, 21, 22, 23, 24, 25, 26, 27, 28, 29, 30, 31, 32, 33, 34, 35, 36, 37, 38, 39, 40, 41, 42, 43, 44, 45, 46, 47, 48, 49, 50, 51, 52, 53, 54, 55, 56, 57, 58] rfl (by decide +kernel)
set_option maxRecDepth 100000 in
theorem gX3_houseTotal_X3_houseTotal : GoodIn wsX3_houseTotal (wsV RX3 149 RX3 yX3_houseTotal wsX3_houseTotal) := goodIn_app (goodIn_of _ (by decide +kernel)) ggX3_houseTotal_X3_houseTotal
set_option maxRecDepth 100000 in
theorem ggX3_houseTotal_X0_add : GoodIn wsX3_houseTotal wsX0_add := goodIn_r _ [40, 31, 32, 57, 58] rfl (by decide +kernel)
set_option maxRecDepth 100000 in
theorem gX3_houseTotal_X0_add : GoodIn wsX3_houseTotal (wsV RX3 158 RX0 yX0_add wsX0_add) := goodIn_app (goodIn_of _ (by decide +kernel)) ggX3_houseTotal_X0_add
set_option maxRecDepth 100000 in
theorem ggX3_playerTotal_X4_isBust : GoodIn wsX3_playerTotal wsX4_isBust := goodIn_r _ [16, 17, 86] rfl (by decide +kernel)
set_option maxRecDepth 100000 in
theorem gX3_playerTotal_X4_isBust : GoodIn wsX3_playerTotal (wsV RX3 88 RX4 yX4_isBust wsX4_isBust) := goodIn_app (goodIn_of _ (by decide +kernel)) ggX3_playerTotal_X4_isBust
set_option maxRecDepth 100000 in
theorem ggX3_playerTotal_X5_orders : GoodIn wsX3_playerTotal wsX5_orders := goodIn_r _ [20, 21] rfl (by decide +kernel)
set_option maxRecDepth 100000 in
theorem gX3_playerTotal_X5_orders_n143 : GoodIn wsX3_playerTotal (wsX5_orders) := ggX3_playerTotal_X5_orders
set_option maxRecDepth 100000 in
theorem ggX3_playerTotal_X0_remove : GoodIn wsX3_playerTotal wsX0_remove := goodIn_r _ [26, 27, 28, 87, 88] rfl (by decide +kernel)
set_option maxRecDepth 100000 in
theorem gX3_playerTotal_X0_remove : GoodIn wsX3_playerTotal (wsV RX3 155 RX0 yX0_remove wsX0_remove) := goodIn_app (goodIn_of _ (by decide +kernel)) ggX3_playerTotal_X0_remove
set_option maxRecDepth 100000 in
theorem ggX3_playerTotal_X3_playerTotal : GoodIn wsX3_playerTotal wsX3_playerTotal := goodIn_r _ [0, 1, 2, 3, 4, 5, 6, 7, 8, 9, 10, 11, 12, 13, 14, 15, 16, 17, 18, 19, 20, 21, 22, 23, 24, 25, 26, 27, 28, 29, 30, 31, 32, 33, 34, 35, 36, 37, 38, 39, 40, 41, 42, 43, 44, 45, 46, 47, 48, 49, 50, 51, 52, 53, 54, 55, 56, 57, 58, 59, 60, 61, 62, 63, 64, 65, 66, 67, 68, 69, 70, 71, 72, 73, 74, 75, 76, 77, 78, 79, 80, 81, 82, 83, 84, 85, 86, 87, 88] rfl (by decide +kernel)
set_option maxRecDepth 100000 in
theorem gX3_playerTotal_X3_playerTotal : GoodIn wsX3_playerTotal (wsV RX3 125 RX3 yX3_playerTotal wsX3_playerTotal) := goodIn_app (goodIn_of _ (by decide +kernel)) ggX3_playerTotal_X3_playerTotal
set_option maxRecDepth 100000 in
theorem ggX3_playerTotal_X0_add : GoodIn wsX3_playerTotal wsX0_add := goodIn_r _ [36, 27, 28, 87, 88] rfl (by decide +kernel)
set_option maxRecDepth 100000 in
theorem gX3_playerTotal_X0_add : GoodIn wsX3_playerTotal (wsV RX3 158 RX0 yX0_add wsX0_add) := goodIn_app (goodIn_of _ (by decide +kernel)) ggX3_playerTotal_X0_add
set_option maxRecDepth 100000 in
theorem ggX3_playerTotal_X3_standTotal : GoodIn wsX3_playerTotal wsX3_standTotal := goodIn_r _ [40, 1, 2, 6, 41, 42, 43, 44, 12, 13, 14, 15, 16, 17, 18, 19, 20, 21, 45, 46, 47, 48, 49, 50, 51, 52, 53, 54, 55, 56, 57, 58, 59, 32, 60, 61, 62, 7, 63, 64, 65, 66, 67, 68, 69, 70, 22, 23, 24, 25, 26, 27, 28, 33, 34, 35, 36, 71, 72, 73, 74, 75, 76, 77, 78, 79, 80, 81, 82, 83, 84, 85, 87, 88, 86] rfl (by decide +kernel)
set_option maxRecDepth 100000 in
theorem gX3_playerTotal_X3_standTotal : GoodIn wsX3_playerTotal (wsV RX3 121 RX3 yX3_standTotal wsX3_standTotal) := goodIn_app (goodIn_of _ (by decide +kernel)) ggX3_playerTotal_X3_standTotal
set_option maxRecDepth 100000 in
theorem ggX3_doubleTotal_X0_remove : GoodIn wsX3_doubleTotal wsX0_remove := goodIn_r _ [12, 13, 14, 85, 86] rfl (by decide +kernel)
set_option maxRecDepth 100000 in
theorem gX3_doubleTotal_X0_remove : GoodIn wsX3_doubleTotal (wsV RX3 155 RX0 yX0_remove wsX0_remove) := goodIn_app (goodIn_of _ (by decide +kernel)) ggX3_doubleTotal_X0_remove
set_option maxRecDepth 100000 in
theorem ggX3_doubleTotal_X3_standTotal : GoodIn wsX3_doubleTotal wsX3_standTotal := goodIn_r _ [19, 20, 21, 1, 22, 23, 24, 25, 26, 27, 28, 29, 30, 31, 32, 33, 34, 35, 36, 37, 38, 39, 40, 41, 42, 43, 44, 45, 46, 47, 48, 49, 50, 18, 51, 52, 53, 2, 54, 55, 56, 57, 58, 59, 60, 61, 8, 9, 10, 11, 12, 13, 14, 62, 63, 64, 65, 66, 67, 68, 69, 70, 71, 72, 73, 74, 75, 76, 77, 78, 79, 80, 85, 86, 87] rfl (by decide +kernel)
set_option maxRecDepth 100000 in
theorem gX3_doubleTotal_X3_standTotal : GoodIn wsX3_doubleTotal (wsV RX3 121 RX3 yX3_standTotal wsX3_standTotal) := goodIn_app (goodIn_of _ (by decide +kernel)) ggX3_doubleTotal_X3_standTotal
set_option maxRecDepth 100000 in
theorem ggX3_doubleTotal_X0_add : GoodIn wsX3_doubleTotal wsX0_add := goodIn_r _ [65, 13, 14, 85, 86] rfl (by decide +kernel)
set_option maxRecDepth 100000 in
theorem gX3_doubleTotal_X0_add : GoodIn wsX3_doubleTotal (wsV RX3 158 RX0 yX0_add wsX0_add) := goodIn_app (goodIn_of _ (by decide +kernel)) ggX3_doubleTotal_X0_add
set_option maxRecDepth 100000 in
theorem ggX3_splitTotal_X0_remove : GoodIn wsX3_splitTotal wsX0_remove := goodIn_r _ [6, 7, 8, 67, 68] rfl (by decide +kernel)
set_option maxRecDepth 100000 in
theorem gX3_splitTotal_X0_remove : GoodIn wsX3_splitTotal (wsV RX3 155 RX0 yX0_remove wsX0_remove) := goodIn_app (goodIn_of _ (by decide +kernel)) ggX3_splitTotal_X0_remove
set_option maxRecDepth 100000 in
theorem ggX3_splitTotal_X3_bothTotal : GoodIn wsX3_splitTotal wsX3_bothTotal := goodIn_r _ [13, 14, 15, 16, 17, 18, 1, 19, 20, 21, 22, 23, 24, 25, 26, 27, 28, 29, 30, 31, 32, 12, 33, 34, 35, 36, 37, 38, 39, 40, 41, 42, 43, 44, 45, 46, 47, 2, 3, 4, 5, 6, 7, 8, 48, 49, 50, 51, 52, 53, 54, 55, 56, 57, 58, 59, 60, 61, 62, 63, 64, 65, 66, 67, 68, 69] rfl (by decide +kernel)
set_option maxRecDepth 100000 in
theorem gX3_splitTotal_X3_bothTotal : GoodIn wsX3_splitTotal (wsV RX3 202 RX3 yX3_bothTotal wsX3_bothTotal) := goodIn_app (goodIn_of _ (by decide +kernel)) ggX3_splitTotal_X3_bothTotal
set_option maxRecDepth 100000 in
theorem ggX3_splitTotal_X0_add : GoodIn wsX3_splitTotal wsX0_add := goodIn_r _ [51, 7, 8, 67, 68] rfl (by decide +kernel)
set_option maxRecDepth 100000 in
theorem gX3_splitTotal_X0_add : GoodIn wsX3_splitTotal (wsV RX3 158 RX0 yX0_add wsX0_add) := goodIn_app (goodIn_of _ (by decide +kernel)) ggX3_splitTotal_X0_add
set_option maxRecDepth 100000 in
theorem ggX3_bothTotal_X4_value : GoodIn wsX3_bothTotal wsX4_value := goodIn_r _ [12, 13, 65] rfl (by decide +kernel)
set_option maxRecDepth 100000 in
theorem gX3_bothTotal_X4_value : GoodIn wsX3_bothTotal (wsV RX3 177 RX4 yX4_value wsX4_value) := goodIn_app (goodIn_of _ (by decide +kernel)) ggX3_bothTotal_X4_value
set_option maxRecDepth 100000 in
theorem ggX3_bothTotal_X4_settled : GoodIn wsX3_bothTotal wsX4_settled := goodIn_r _ [17, 13, 65] rfl (by decide +kernel)
set_option maxRecDepth 100000 in
theorem gX3_bothTotal_X4_settled : GoodIn wsX3_bothTotal (wsV RX3 185 RX4 yX4_settled wsX4_settled) := goodIn_app (goodIn_of _ (by decide +kernel)) ggX3_bothTotal_X4_settled
set_option maxRecDepth 100000 in
theorem ggX3_bothTotal_X3_houseTotal : GoodIn wsX3_bothTotal wsX3_houseTotal := goodIn_r _ [22, 1, 2, 23, 3, 24, 6, 4, 8, 9, 10, 11, 12, 13, 25, 26, 27, 28, 29, 30, 31, 32, 33, 34, 35, 36, 37, 38, 39, 40, 41, 42, 43, 18, 19, 20, 21, 44, 45, 46, 47, 48, 49, 50, 51, 52, 53, 54, 55, 56, 57, 58, 59, 60, 61, 62, 65, 63, 64] rfl (by decide +kernel)
set_option maxRecDepth 100000 in
theorem gX3_bothTotal_X3_houseTotal : GoodIn wsX3_bothTotal (wsV RX3 149 RX3 yX3_houseTotal wsX3_houseTotal) := goodIn_app (goodIn_of _ (by decide +kernel)) ggX3_bothTotal_X3_houseTotal
set_option maxRecDepth 100000 in
theorem ggX4_change_X4_allows : GoodIn wsX4_change wsX4_allows := goodIn_r _ [6, 7, 8, 1, 9] rfl (by decide +kernel)
set_option maxRecDepth 100000 in
theorem gX4_change_X4_allows : GoodIn wsX4_change (wsV RX4 21 RX4 yX4_allows wsX4_allows) := goodIn_app (goodIn_of _ (by decide +kernel)) ggX4_change_X4_allows
set_option maxRecDepth 100000 in
theorem ggX5_init_X4_init : GoodIn wsX5_init wsX4_init := goodIn_r _ [33, 34, 2, 3, 18, 35, 75] rfl (by decide +kernel)
set_option maxRecDepth 100000 in
theorem gX5_init_X4_init_n9 : GoodIn wsX5_init (wsX4_init) := ggX5_init_X4_init
set_option maxRecDepth 100000 in
theorem ggX5_init_X0_init : GoodIn wsX5_init wsX0_init := goodIn_r _ [37, 38, 2, 3, 18, 39, 40, 88, 89] rfl (by decide +kernel)
set_option maxRecDepth 100000 in
theorem gX5_init_X0_init_n18 : GoodIn wsX5_init (wsX0_init) := ggX5_init_X0_init
set_option maxRecDepth 100000 in
theorem ggX5_init_X1_init : GoodIn wsX5_init wsX1_init := goodIn_r _ [42, 43, 2, 3, 18, 44, 45, 46, 47, 90, 91, 92, 93] rfl (by decide +kernel)
set_option maxRecDepth 100000 in
theorem gX5_init_X1_init_n31 : GoodIn wsX5_init (wsX1_init) := ggX5_init_X1_init
set_option maxRecDepth 100000 in
theorem ggX5_init_X3_init : GoodIn wsX5_init wsX3_init := goodIn_r _ [49, 50, 2, 3, 51, 5, 6, 52, 53, 9, 10, 54, 55, 56, 15, 16, 57, 58, 59, 60, 61, 62, 18, 63, 64, 65, 66, 67, 68, 69, 32, 33, 34, 35, 36, 37, 38, 39, 40, 41, 42, 43, 44, 45, 46, 47, 75, 94, 95, 96, 97, 98, 99, 100, 101, 102, 103, 104, 105, 106, 107, 108, 88, 89, 90, 91, 92, 93] rfl (by decide +kernel)
set_option maxRecDepth 100000 in
theorem gX5_init_X3_init_n42 : GoodIn wsX5_init (wsX3_init) := ggX5_init_X3_init
set_option maxRecDepth 100000 in
theorem ggX5_init_X2_init : GoodIn wsX5_init wsX2_init := goodIn_r _ [71, 72, 2, 3, 73, 61, 74, 109] rfl (by decide +kernel)
set_option maxRecDepth 100000 in
theorem gX5_init_X2_init_n49 : GoodIn wsX5_init (wsX2_init) := ggX5_init_X2_init
set_option maxRecDepth 100000 in
theorem ggX5_shoe_X5_isRank : GoodIn wsX5_shoe wsX5_isRank := goodIn_r _ [6] rfl (by decide +kernel)
set_option maxRecDepth 100000 in
theorem gX5_shoe_X5_isRank : GoodIn wsX5_shoe (va_wsS RX5 69 yX5_isRank wsX5_isRank) := goodIn_app (goodIn_of _ (by decide +kernel)) ggX5_shoe_X5_isRank
set_option maxRecDepth 100000 in
theorem ggX5_shoe_X0_count : GoodIn wsX5_shoe wsX0_count := goodIn_r _ [11, 12, 30, 31] rfl (by decide +kernel)
set_option maxRecDepth 100000 in
theorem gX5_shoe_X0_count : GoodIn wsX5_shoe (wsV RX5 73 RX0 yX0_count wsX0_count) := goodIn_app (goodIn_of _ (by decide +kernel)) ggX5_shoe_X0_count
set_option maxRecDepth 100000 in
theorem ggX5_shoe_X0_put : GoodIn wsX5_shoe wsX0_put := goodIn_r _ [16, 17, 12, 30, 31] rfl (by decide +kernel)
set_option maxRecDepth 100000 in
theorem gX5_shoe_X0_put : GoodIn wsX5_shoe (wsV RX5 77 RX0 yX0_put wsX0_put) := goodIn_app (goodIn_of _ (by decide +kernel)) ggX5_shoe_X0_put
set_option maxRecDepth 100000 in
theorem ggX5_fresh_X0_clear : GoodIn wsX5_fresh wsX0_clear := goodIn_r _ [10, 11, 12, 13, 14, 15, 16, 52, 53] rfl (by decide +kernel)
set_option maxRecDepth 100000 in
theorem gX5_fresh_X0_clear : GoodIn wsX5_fresh (wsV RX5 81 RX0 yX0_clear wsX0_clear) := goodIn_app (goodIn_of _ (by decide +kernel)) ggX5_fresh_X0_clear
set_option maxRecDepth 100000 in
theorem ggX5_fresh_X0_copy : GoodIn wsX5_fresh wsX0_copy := goodIn_r _ [20, 11, 21, 22, 23, 24, 12, 52, 53] rfl (by decide +kernel)
set_option maxRecDepth 100000 in
theorem gX5_fresh_X0_copy : GoodIn wsX5_fresh (wsV RX5 84 RX0 yX0_copy wsX0_copy) := goodIn_app (goodIn_of _ (by decide +kernel)) ggX5_fresh_X0_copy
set_option maxRecDepth 100000 in
theorem ggX5_fresh_X5_clearTable : GoodIn wsX5_fresh wsX5_clearTable := goodIn_r _ [29, 30, 31, 32, 33, 34, 35, 36, 37, 38, 39, 40, 41, 42, 43, 44, 45, 46, 47, 48, 49, 50, 51, 54, 55, 56, 57] rfl (by decide +kernel)
set_option maxRecDepth 100000 in
theorem gX5_fresh_X5_clearTable : GoodIn wsX5_fresh (wsV RX5 88 RX5 yX5_clearTable wsX5_clearTable) := goodIn_app (goodIn_of _ (by decide +kernel)) ggX5_fresh_X5_clearTable
set_option maxRecDepth 100000 in
theorem ggX5_rule_X4_change : GoodIn wsX5_rule wsX4_change := goodIn_r _ [6, 7, 8, 9, 10, 5, 11, 12, 13, 26] rfl (by decide +kernel)
set_option maxRecDepth 100000 in
theorem gX5_rule_X4_change : GoodIn wsX5_rule (wsV RX5 94 RX4 yX4_change wsX4_change) := goodIn_app (goodIn_of _ (by decide +kernel)) ggX5_rule_X4_change
set_option maxRecDepth 100000 in
theorem ggX5_mark_X5_isRank : GoodIn wsX5_mark wsX5_isRank := goodIn_r _ [5] rfl (by decide +kernel)
set_option maxRecDepth 100000 in
theorem gX5_mark_X5_isRank : GoodIn wsX5_mark (va_wsS RX5 69 yX5_isRank wsX5_isRank) := goodIn_app (goodIn_of _ (by decide +kernel)) ggX5_mark_X5_isRank
set_option maxRecDepth 100000 in
theorem ggX5_left_X5_isRank : GoodIn wsX5_left wsX5_isRank := goodIn_r _ [6] rfl (by decide +kernel)
set_option maxRecDepth 100000 in
theorem gX5_left_X5_isRank : GoodIn wsX5_left (va_wsS RX5 69 yX5_isRank wsX5_isRank) := goodIn_app (goodIn_of _ (by decide +kernel)) ggX5_left_X5_isRank
set_option maxRecDepth 100000 in
theorem ggX5_left_X0_count : GoodIn wsX5_left wsX0_count := goodIn_r _ [11, 12, 25, 26] rfl (by decide +kernel)
set_option maxRecDepth 100000 in
theorem gX5_left_X0_count : GoodIn wsX5_left (wsV RX5 73 RX0 yX0_count wsX0_count) := goodIn_app (goodIn_of _ (by decide +kernel)) ggX5_left_X0_count
set_option maxRecDepth 100000 in
theorem ggX5_take_X5_isRank : GoodIn wsX5_take wsX5_isRank := goodIn_r _ [7] rfl (by decide +kernel)
set_option maxRecDepth 100000 in
theorem gX5_take_X5_isRank : GoodIn wsX5_take (va_wsS RX5 69 yX5_isRank wsX5_isRank) := goodIn_app (goodIn_of _ (by decide +kernel)) ggX5_take_X5_isRank
set_option maxRecDepth 100000 in
theorem ggX5_take_X5_isGoal : GoodIn wsX5_take wsX5_isGoal := goodIn_r _ [10] rfl (by decide +kernel)
set_option maxRecDepth 100000 in
theorem gX5_take_X5_isGoal : GoodIn wsX5_take (va_wsS RX5 98 yX5_isGoal wsX5_isGoal) := goodIn_app (goodIn_of _ (by decide +kernel)) ggX5_take_X5_isGoal
set_option maxRecDepth 100000 in
theorem ggX5_take_X0_count : GoodIn wsX5_take wsX0_count := goodIn_r _ [15, 16, 65, 66] rfl (by decide +kernel)
set_option maxRecDepth 100000 in
theorem gX5_take_X0_count : GoodIn wsX5_take (wsV RX5 73 RX0 yX0_count wsX0_count) := goodIn_app (goodIn_of _ (by decide +kernel)) ggX5_take_X0_count
set_option maxRecDepth 100000 in
theorem ggX5_take_X1_isFull : GoodIn wsX5_take wsX1_isFull := goodIn_r _ [21, 22, 61, 62, 63, 64] rfl (by decide +kernel)
set_option maxRecDepth 100000 in
theorem gX5_take_X1_isFull : GoodIn wsX5_take (wsV RX5 101 RX1 yX1_isFull wsX1_isFull) := goodIn_app (goodIn_of _ (by decide +kernel)) ggX5_take_X1_isFull
set_option maxRecDepth 100000 in
theorem ggX5_take_X5_moveOut : GoodIn wsX5_take wsX5_moveOut := goodIn_r _ [26, 1, 27, 28, 29, 30, 14, 31, 16, 32, 33, 34, 35, 36, 49, 50, 51, 52, 53, 54, 55, 56, 57, 58, 59, 60, 65, 66] rfl (by decide +kernel)
set_option maxRecDepth 100000 in
theorem gX5_take_X5_moveOut : GoodIn wsX5_take (wsV RX5 105 RX5 yX5_moveOut wsX5_moveOut) := goodIn_app (goodIn_of _ (by decide +kernel)) ggX5_take_X5_moveOut
set_option maxRecDepth 100000 in
theorem ggX5_take_X5_bring : GoodIn wsX5_take wsX5_bring := goodIn_r _ [40, 2, 41, 42, 43, 44, 20, 45, 22, 46, 47, 48, 49, 50, 51, 52, 53, 54, 55, 56, 57, 58, 59, 60, 61, 62, 63, 64] rfl (by decide +kernel)
set_option maxRecDepth 100000 in
theorem gX5_take_X5_bring : GoodIn wsX5_take (wsV RX5 109 RX5 yX5_bring wsX5_bring) := goodIn_app (goodIn_of _ (by decide +kernel)) ggX5_take_X5_bring
set_option maxRecDepth 100000 in
theorem ggX5_draw_X5_isGoal : GoodIn wsX5_draw wsX5_isGoal := goodIn_r _ [7] rfl (by decide +kernel)
set_option maxRecDepth 100000 in
theorem gX5_draw_X5_isGoal : GoodIn wsX5_draw (va_wsS RX5 98 yX5_isGoal wsX5_isGoal) := goodIn_app (goodIn_of _ (by decide +kernel)) ggX5_draw_X5_isGoal
set_option maxRecDepth 100000 in
theorem ggX5_draw_X1_isFull : GoodIn wsX5_draw wsX1_isFull := goodIn_r _ [12, 13, 67, 68, 69, 70] rfl (by decide +kernel)
set_option maxRecDepth 100000 in
theorem gX5_draw_X1_isFull : GoodIn wsX5_draw (wsV RX5 101 RX1 yX1_isFull wsX1_isFull) := goodIn_app (goodIn_of _ (by decide +kernel)) ggX5_draw_X1_isFull
set_option maxRecDepth 100000 in
theorem ggX5_draw_X5_drawnRank : GoodIn wsX5_draw wsX5_drawnRank := goodIn_r _ [17, 1, 2, 18, 19, 20, 21, 22, 23, 24, 25, 26, 27, 28, 29, 6, 30, 31, 32, 33, 34, 35, 36, 37, 38, 39, 40, 53, 54, 55, 56, 57, 58, 59, 60, 61, 62, 63, 64, 65, 66] rfl (by decide +kernel)
set_option maxRecDepth 100000 in
theorem gX5_draw_X5_drawnRank : GoodIn wsX5_draw (wsV RX5 115 RX5 yX5_drawnRank wsX5_drawnRank) := goodIn_app (goodIn_of _ (by decide +kernel)) ggX5_draw_X5_drawnRank
set_option maxRecDepth 100000 in
theorem ggX5_draw_X5_bring : GoodIn wsX5_draw wsX5_bring := goodIn_r _ [44, 3, 45, 46, 47, 48, 11, 49, 13, 50, 51, 52, 53, 54, 55, 56, 57, 58, 59, 60, 61, 62, 63, 64, 67, 68, 69, 70] rfl (by decide +kernel)
set_option maxRecDepth 100000 in
theorem gX5_draw_X5_bring : GoodIn wsX5_draw (wsV RX5 109 RX5 yX5_bring wsX5_bring) := goodIn_app (goodIn_of _ (by decide +kernel)) ggX5_draw_X5_bring
set_option maxRecDepth 100000 in
theorem ggX5_lay_X5_clearTable : GoodIn wsX5_lay wsX5_clearTable := goodIn_r _ [8, 1, 3, 9, 10, 11, 12, 13, 14, 15, 16, 17, 18, 19, 20, 21, 22, 23, 24, 25, 26, 27, 28, 29, 30, 31, 32] rfl (by decide +kernel)
set_option maxRecDepth 100000 in
theorem gX5_lay_X5_clearTable : GoodIn wsX5_lay (wsV RX5 88 RX5 yX5_clearTable wsX5_clearTable) := goodIn_app (goodIn_of _ (by decide +kernel)) ggX5_lay_X5_clearTable
set_option maxRecDepth 100000 in
theorem ggX5_told_X5_handValue : GoodIn wsX5_told wsX5_handValue := goodIn_r _ [14, 3, 1, 4, 5, 15, 16, 17, 18, 19, 20, 54, 55, 56, 57, 58, 59, 60, 61, 62, 63, 64, 65, 66, 67, 68, 69, 72] rfl (by decide +kernel)
set_option maxRecDepth 100000 in
theorem gX5_told_X5_handValue : GoodIn wsX5_told (wsV RX5 119 RX5 yX5_handValue wsX5_handValue) := goodIn_app (goodIn_of _ (by decide +kernel)) ggX5_told_X5_handValue
set_option maxRecDepth 100000 in
theorem ggX5_told_X4_isSoft : GoodIn wsX5_told wsX4_isSoft := goodIn_r _ [24, 20, 72] rfl (by decide +kernel)
set_option maxRecDepth 100000 in
theorem gX5_told_X4_isSoft : GoodIn wsX5_told (wsV RX5 128 RX4 yX4_isSoft wsX4_isSoft) := goodIn_app (goodIn_of _ (by decide +kernel)) ggX5_told_X4_isSoft
set_option maxRecDepth 100000 in
theorem ggX5_told_X5_asNumber : GoodIn wsX5_told wsX5_asNumber := goodIn_r _ [27] rfl (by decide +kernel)
set_option maxRecDepth 100000 in
theorem gX5_told_X5_asNumber : GoodIn wsX5_told (va_wsS RX5 132 yX5_asNumber wsX5_asNumber) := goodIn_app (goodIn_of _ (by decide +kernel)) ggX5_told_X5_asNumber
set_option maxRecDepth 100000 in
theorem ggX5_told_X4_isNatural : GoodIn wsX5_told wsX4_isNatural := goodIn_r _ [31, 20, 72] rfl (by decide +kernel)
set_option maxRecDepth 100000 in
theorem gX5_told_X4_isNatural : GoodIn wsX5_told (wsV RX5 136 RX4 yX4_isNatural wsX4_isNatural) := goodIn_app (goodIn_of _ (by decide +kernel)) ggX5_told_X4_isNatural
set_option maxRecDepth 100000 in
theorem ggX5_told_X4_isBust : GoodIn wsX5_told wsX4_isBust := goodIn_r _ [35, 20, 72] rfl (by decide +kernel)
set_option maxRecDepth 100000 in
theorem gX5_told_X4_isBust : GoodIn wsX5_told (wsV RX5 140 RX4 yX4_isBust wsX4_isBust) := goodIn_app (goodIn_of _ (by decide +kernel)) ggX5_told_X4_isBust
set_option maxRecDepth 100000 in
theorem ggX5_told_X5_countOfGone : GoodIn wsX5_told wsX5_countOfGone := goodIn_r _ [39, 40, 8, 41, 42, 43, 44, 45, 46, 54, 55, 56, 57, 58, 59, 60, 61, 62, 63, 64, 65, 70, 71] rfl (by decide +kernel)
set_option maxRecDepth 100000 in
theorem gX5_told_X5_countOfGone : GoodIn wsX5_told (wsV RX5 143 RX5 yX5_countOfGone wsX5_countOfGone) := goodIn_app (goodIn_of _ (by decide +kernel)) ggX5_told_X5_countOfGone
set_option maxRecDepth 100000 in
theorem ggX5_told_X1_card : GoodIn wsX5_told wsX1_card := goodIn_r _ [51, 52, 53, 66, 67, 68, 69] rfl (by decide +kernel)
set_option maxRecDepth 100000 in
theorem gX5_told_X1_card : GoodIn wsX5_told (wsV RX5 146 RX1 yX1_card wsX1_card) := goodIn_app (goodIn_of _ (by decide +kernel)) ggX5_told_X1_card
set_option maxRecDepth 100000 in
theorem ggX5_settle_X4_isBust : GoodIn wsX5_settle wsX4_isBust := goodIn_r _ [11, 12, 100] rfl (by decide +kernel)
set_option maxRecDepth 100000 in
theorem gX5_settle_X4_isBust : GoodIn wsX5_settle (wsV RX5 140 RX4 yX4_isBust wsX4_isBust) := goodIn_app (goodIn_of _ (by decide +kernel)) ggX5_settle_X4_isBust
set_option maxRecDepth 100000 in
theorem ggX5_settle_X5_playHouse : GoodIn wsX5_settle wsX5_playHouse := goodIn_r _ [17, 3, 4, 18, 19, 20, 21, 22, 10, 23, 12, 24, 25, 26, 27, 28, 29, 30, 16, 31, 32, 33, 34, 35, 36, 37, 38, 39, 40, 41, 42, 43, 44, 45, 46, 47, 48, 49, 50, 51, 52, 53, 54, 55, 56, 57, 58, 84, 85, 86, 87, 88, 89, 90, 91, 92, 93, 94, 95, 101, 102, 100] rfl (by decide +kernel)
set_option maxRecDepth 100000 in
theorem gX5_settle_X5_playHouse : GoodIn wsX5_settle (wsV RX5 149 RX5 yX5_playHouse wsX5_playHouse) := goodIn_app (goodIn_of _ (by decide +kernel)) ggX5_settle_X5_playHouse
set_option maxRecDepth 100000 in
theorem ggX5_settle_X5_handValue : GoodIn wsX5_settle wsX5_handValue := goodIn_r _ [62, 4, 1, 5, 63, 20, 21, 22, 10, 23, 12, 84, 85, 86, 87, 88, 89, 90, 91, 92, 93, 94, 95, 96, 97, 98, 99, 100] rfl (by decide +kernel)
set_option maxRecDepth 100000 in
theorem gX5_settle_X5_handValue : GoodIn wsX5_settle (wsV RX5 119 RX5 yX5_handValue wsX5_handValue) := goodIn_app (goodIn_of _ (by decide +kernel)) ggX5_settle_X5_handValue
set_option maxRecDepth 100000 in
theorem ggX5_settle_X4_isNatural : GoodIn wsX5_settle wsX4_isNatural := goodIn_r _ [67, 12, 100] rfl (by decide +kernel)
set_option maxRecDepth 100000 in
theorem gX5_settle_X4_isNatural : GoodIn wsX5_settle (wsV RX5 136 RX4 yX4_isNatural wsX4_isNatural) := goodIn_app (goodIn_of _ (by decide +kernel)) ggX5_settle_X4_isNatural
set_option maxRecDepth 100000 in
theorem ggX5_settle_X4_settled : GoodIn wsX5_settle wsX4_settled := goodIn_r _ [71, 12, 100] rfl (by decide +kernel)
set_option maxRecDepth 100000 in
theorem gX5_settle_X4_settled : GoodIn wsX5_settle (wsV RX5 152 RX4 yX4_settled wsX4_settled) := goodIn_app (goodIn_of _ (by decide +kernel)) ggX5_settle_X4_settled
set_option maxRecDepth 100000 in
theorem ggX5_settle_X5_clearTable : GoodIn wsX5_settle wsX5_clearTable := goodIn_r _ [75, 1, 3, 76, 77, 78, 79, 80, 81, 82, 83, 84, 85, 86, 87, 88, 89, 90, 91, 92, 93, 94, 95, 96, 97, 98, 99] rfl (by decide +kernel)
set_option maxRecDepth 100000 in
theorem gX5_settle_X5_clearTable : GoodIn wsX5_settle (wsV RX5 88 RX5 yX5_clearTable wsX5_clearTable) := goodIn_app (goodIn_of _ (by decide +kernel)) ggX5_settle_X5_clearTable
set_option maxRecDepth 100000 in
theorem ggX5_there_X5_isAct : GoodIn wsX5_there wsX5_isAct := goodIn_r _ [5] rfl (by decide +kernel)
set_option maxRecDepth 100000 in
theorem gX5_there_X5_isAct : GoodIn wsX5_there (va_wsS RX5 156 yX5_isAct wsX5_isAct) := goodIn_app (goodIn_of _ (by decide +kernel)) ggX5_there_X5_isAct
set_option maxRecDepth 100000 in
theorem ggX5_there_X5_lookAtTable : GoodIn wsX5_there wsX5_lookAtTable := goodIn_r _ [9, 1, 10, 11, 12, 13, 14, 15, 16, 17, 18, 19, 20, 21, 22, 23, 24, 25, 26, 27, 28, 29, 30, 31, 32, 33, 34, 35, 36, 37, 38, 39, 40, 41, 42, 43, 44, 45, 46, 47, 48, 49, 50, 85, 86, 87, 88, 89, 90, 91, 92, 93, 94, 95, 96, 97, 98, 99, 100, 101, 102, 103, 104, 105, 106, 107, 108, 109, 110, 111, 112, 113, 114, 115, 116, 117, 118] rfl (by decide +kernel)
set_option maxRecDepth 100000 in
theorem gX5_there_X5_lookAtTable : GoodIn wsX5_there (wsV RX5 159 RX5 yX5_lookAtTable wsX5_lookAtTable) := goodIn_app (goodIn_of _ (by decide +kernel)) ggX5_there_X5_lookAtTable
set_option maxRecDepth 100000 in
theorem ggX5_there_X3_isThere : GoodIn wsX5_there wsX3_isThere := goodIn_r _ [54, 21, 55, 19, 56, 22, 20, 57, 58, 59, 60, 26, 61, 28, 62, 63, 64, 44, 65, 48, 66, 67, 68, 69, 70, 71, 72, 73, 46, 74, 75, 76, 77, 78, 79, 80, 81, 97, 98, 99, 100, 101, 102, 103, 104, 105, 106, 107, 108, 109, 110, 111, 115, 116, 117, 118, 113, 114, 112] rfl (by decide +kernel)
set_option maxRecDepth 100000 in
theorem gX5_there_X3_isThere : GoodIn wsX5_there (wsV RX5 162 RX3 yX3_isThere wsX3_isThere) := goodIn_app (goodIn_of _ (by decide +kernel)) ggX5_there_X3_isThere
set_option maxRecDepth 100000 in
theorem ggX5_there_X5_asNumber : GoodIn wsX5_there wsX5_asNumber := goodIn_r _ [84] rfl (by decide +kernel)
set_option maxRecDepth 100000 in
theorem gX5_there_X5_asNumber : GoodIn wsX5_there (va_wsS RX5 132 yX5_asNumber wsX5_asNumber) := goodIn_app (goodIn_of _ (by decide +kernel)) ggX5_there_X5_asNumber
set_option maxRecDepth 100000 in
theorem ggX5_worth_X5_isAct : GoodIn wsX5_worth wsX5_isAct := goodIn_r _ [10] rfl (by decide +kernel)
set_option maxRecDepth 100000 in
theorem gX5_worth_X5_isAct : GoodIn wsX5_worth (va_wsS RX5 156 yX5_isAct wsX5_isAct) := goodIn_app (goodIn_of _ (by decide +kernel)) ggX5_worth_X5_isAct
set_option maxRecDepth 100000 in
theorem ggX5_worth_X5_isPart : GoodIn wsX5_worth wsX5_isPart := goodIn_r _ [13] rfl (by decide +kernel)
set_option maxRecDepth 100000 in
theorem gX5_worth_X5_isPart : GoodIn wsX5_worth (va_wsS RX5 165 yX5_isPart wsX5_isPart) := goodIn_app (goodIn_of _ (by decide +kernel)) ggX5_worth_X5_isPart
set_option maxRecDepth 100000 in
theorem ggX5_worth_X5_lookAtTable : GoodIn wsX5_worth wsX5_lookAtTable := goodIn_r _ [17, 2, 18, 4, 19, 20, 21, 22, 23, 24, 25, 26, 27, 28, 29, 30, 31, 32, 33, 34, 35, 36, 37, 38, 39, 40, 41, 42, 43, 44, 45, 46, 47, 48, 49, 50, 51, 52, 53, 54, 55, 56, 57, 186, 187, 188, 189, 190, 191, 192, 193, 194, 195, 196, 197, 200, 201, 202, 203, 204, 205, 206, 207, 208, 209, 210, 211, 212, 213, 214, 215, 198, 199, 216, 217, 218, 219] rfl (by decide +kernel)
set_option maxRecDepth 100000 in
theorem gX5_worth_X5_lookAtTable : GoodIn wsX5_worth (wsV RX5 159 RX5 yX5_lookAtTable wsX5_lookAtTable) := goodIn_app (goodIn_of _ (by decide +kernel)) ggX5_worth_X5_lookAtTable
set_option maxRecDepth 100000 in
theorem ggX5_worth_X3_isThere : GoodIn wsX5_worth wsX3_isThere := goodIn_r _ [61, 28, 62, 26, 63, 29, 27, 64, 65, 66, 67, 33, 68, 35, 69, 70, 71, 51, 72, 55, 73, 74, 75, 76, 77, 78, 79, 80, 53, 81, 82, 83, 84, 85, 86, 87, 88, 200, 201, 202, 203, 204, 205, 206, 207, 208, 209, 210, 211, 212, 213, 214, 216, 217, 218, 219, 198, 199, 215] rfl (by decide +kernel)
set_option maxRecDepth 100000 in
theorem gX5_worth_X3_isThere : GoodIn wsX5_worth (wsV RX5 162 RX3 yX3_isThere wsX3_isThere) := goodIn_app (goodIn_of _ (by decide +kernel)) ggX5_worth_X3_isThere
set_option maxRecDepth 100000 in
theorem ggX5_worth_X3_actTotal : GoodIn wsX5_worth wsX3_actTotal := goodIn_r _ [92, 93, 28, 63, 94, 62, 27, 64, 95, 96, 97, 98, 24, 99, 100, 101, 102, 103, 43, 104, 45, 105, 106, 107, 108, 26, 109, 110, 111, 29, 65, 66, 67, 33, 68, 35, 112, 9, 113, 114, 115, 116, 117, 118, 119, 120, 121, 122, 123, 124, 125, 126, 127, 128, 129, 130, 131, 132, 133, 134, 135, 136, 137, 138, 139, 140, 141, 142, 143, 144, 47, 145, 146, 147, 148, 149, 150, 151, 152, 153, 154, 155, 156, 157, 158, 159, 160, 161, 162, 163, 164, 165, 166, 51, 167, 55, 53, 168, 169, 170, 171, 172, 173, 174, 175, 200, 201, 202, 203, 204, 205, 206, 207, 208, 209, 210, 211, 212, 213, 214, 216, 217, 218, 219, 198, 199, 215] rfl (by decide +kernel)
set_option maxRecDepth 100000 in
theorem gX5_worth_X3_actTotal : GoodIn wsX5_worth (wsV RX5 174 RX3 yX3_actTotal wsX3_actTotal) := goodIn_app (goodIn_of _ (by decide +kernel)) ggX5_worth_X3_actTotal
set_option maxRecDepth 100000 in
theorem ggX5_worth_X5_orders : GoodIn wsX5_worth wsX5_orders := goodIn_r _ [113, 114] rfl (by decide +kernel)
set_option maxRecDepth 100000 in
theorem gX5_worth_X5_orders : GoodIn wsX5_worth (va_wsS RX5 178 yX5_orders wsX5_orders) := goodIn_app (goodIn_of _ (by decide +kernel)) ggX5_worth_X5_orders
set_option maxRecDepth 100000 in
theorem ggX5_worth_X5_part : GoodIn wsX5_worth wsX5_part := goodIn_r _ [179, 180, 181, 157, 182, 183, 184, 9, 185] rfl (by decide +kernel)
set_option maxRecDepth 100000 in
theorem gX5_worth_X5_part : GoodIn wsX5_worth (va_wsS RX5 181 yX5_part wsX5_part) := goodIn_app (goodIn_of _ (by decide +kernel)) ggX5_worth_X5_part
set_option maxRecDepth 100000 in
theorem ggX5_best_X5_lookAtTable : GoodIn wsX5_best wsX5_lookAtTable := goodIn_r _ [9, 1, 10, 2, 11, 12, 13, 14, 15, 16, 17, 18, 19, 20, 21, 22, 23, 24, 25, 26, 27, 28, 29, 30, 31, 32, 33, 34, 35, 36, 37, 38, 39, 40, 41, 42, 43, 44, 45, 46, 47, 48, 49, 178, 179, 180, 181, 182, 183, 184, 185, 186, 187, 188, 189, 192, 193, 194, 195, 196, 197, 198, 199, 200, 201, 202, 203, 204, 205, 206, 207, 190, 191, 208, 209, 210, 211] rfl (by decide +kernel)
set_option maxRecDepth 100000 in
theorem gX5_best_X5_lookAtTable : GoodIn wsX5_best (wsV RX5 159 RX5 yX5_lookAtTable wsX5_lookAtTable) := goodIn_app (goodIn_of _ (by decide +kernel)) ggX5_best_X5_lookAtTable
set_option maxRecDepth 100000 in
theorem ggX5_best_X3_anyThere : GoodIn wsX5_best wsX3_anyThere := goodIn_r _ [53, 54, 55, 56, 16, 57, 20, 58, 18, 59, 21, 19, 60, 61, 62, 63, 25, 64, 27, 65, 66, 67, 43, 68, 47, 69, 70, 71, 72, 73, 74, 75, 76, 45, 77, 78, 79, 80, 81, 82, 83, 84, 192, 193, 194, 195, 196, 197, 198, 199, 200, 201, 202, 203, 204, 205, 206, 208, 209, 210, 211, 190, 191, 207] rfl (by decide +kernel)
set_option maxRecDepth 100000 in
theorem gX5_best_X3_anyThere : GoodIn wsX5_best (wsV RX5 185 RX3 yX3_anyThere wsX3_anyThere) := goodIn_app (goodIn_of _ (by decide +kernel)) ggX5_best_X3_anyThere
set_option maxRecDepth 100000 in
theorem ggX5_best_X3_findBest : GoodIn wsX5_best wsX3_findBest := goodIn_r _ [88, 89, 90, 54, 55, 56, 16, 57, 20, 58, 18, 59, 21, 19, 60, 61, 62, 63, 25, 64, 27, 65, 66, 67, 43, 68, 47, 69, 70, 71, 72, 73, 74, 75, 76, 45, 77, 78, 79, 80, 81, 82, 83, 84, 91, 92, 93, 94, 95, 96, 97, 98, 99, 100, 101, 102, 103, 104, 105, 35, 106, 37, 107, 108, 109, 110, 111, 112, 113, 114, 8, 115, 116, 117, 118, 119, 120, 121, 122, 123, 124, 125, 126, 127, 128, 129, 130, 131, 132, 133, 134, 135, 136, 137, 138, 139, 140, 141, 142, 143, 144, 145, 146, 39, 147, 148, 149, 150, 151, 152, 153, 154, 155, 156, 157, 158, 159, 160, 161, 162, 163, 164, 165, 166, 167, 168, 169, 170, 171, 172, 173, 174, 175, 176, 177, 192, 193, 194, 195, 196, 197, 198, 199, 200, 201, 202, 203, 204, 205, 206, 208, 209, 210, 211, 190, 191, 207] rfl (by decide +kernel)
set_option maxRecDepth 100000 in
theorem gX5_best_X3_findBest : GoodIn wsX5_best (wsV RX5 188 RX3 yX3_findBest wsX3_findBest) := goodIn_app (goodIn_of _ (by decide +kernel)) ggX5_best_X3_findBest
set_option maxRecDepth 100000 in
theorem ggX5_chance_X5_isPart : GoodIn wsX5_chance wsX5_isPart := goodIn_r _ [11] rfl (by decide +kernel)
set_option maxRecDepth 100000 in
theorem gX5_chance_X5_isPart : GoodIn wsX5_chance (va_wsS RX5 165 yX5_isPart wsX5_isPart) := goodIn_app (goodIn_of _ (by decide +kernel)) ggX5_chance_X5_isPart
set_option maxRecDepth 100000 in
theorem ggX5_chance_X5_lookAtTable : GoodIn wsX5_chance wsX5_lookAtTable := goodIn_r _ [15, 7, 16, 4, 17, 2, 18, 19, 20, 21, 22, 23, 24, 25, 26, 27, 28, 29, 30, 31, 32, 33, 34, 35, 36, 37, 38, 39, 40, 41, 42, 43, 44, 45, 46, 47, 48, 49, 50, 51, 52, 53, 54, 111, 112, 113, 114, 115, 116, 117, 118, 119, 120, 121, 122, 125, 126, 127, 128, 129, 130, 131, 132, 133, 134, 135, 136, 137, 138, 139, 140, 123, 124, 141, 142, 143, 144] rfl (by decide +kernel)
set_option maxRecDepth 100000 in
theorem gX5_chance_X5_lookAtTable : GoodIn wsX5_chance (wsV RX5 159 RX5 yX5_lookAtTable wsX5_lookAtTable) := goodIn_app (goodIn_of _ (by decide +kernel)) ggX5_chance_X5_lookAtTable
set_option maxRecDepth 100000 in
theorem ggX5_chance_X3_endTotal : GoodIn wsX5_chance wsX3_endTotal := goodIn_r _ [58, 59, 60, 26, 24, 61, 62, 63, 64, 21, 65, 66, 67, 68, 69, 40, 70, 42, 71, 72, 73, 74, 23, 75, 76, 77, 78, 79, 30, 80, 32, 81, 82, 83, 84, 85, 86, 87, 88, 89, 10, 90, 91, 92, 93, 94, 95, 44, 96, 97, 98, 99, 125, 126, 127, 128, 129, 130, 131, 132, 133, 134, 135, 136, 137, 138, 139, 123, 124, 140] rfl (by decide +kernel)
set_option maxRecDepth 100000 in
theorem gX5_chance_X3_endTotal : GoodIn wsX5_chance (wsV RX5 194 RX3 yX3_endTotal wsX3_endTotal) := goodIn_app (goodIn_of _ (by decide +kernel)) ggX5_chance_X3_endTotal
set_option maxRecDepth 100000 in
theorem ggX5_chance_X5_orders : GoodIn wsX5_chance wsX5_orders := goodIn_r _ [90, 91] rfl (by decide +kernel)
set_option maxRecDepth 100000 in
theorem gX5_chance_X5_orders : GoodIn wsX5_chance (va_wsS RX5 178 yX5_orders wsX5_orders) := goodIn_app (goodIn_of _ (by decide +kernel)) ggX5_chance_X5_orders
set_option maxRecDepth 100000 in
theorem ggX5_chance_X5_part : GoodIn wsX5_chance wsX5_part := goodIn_r _ [103, 104, 105, 106, 107, 108, 109, 10, 110] rfl (by decide +kernel)
set_option maxRecDepth 100000 in
theorem gX5_chance_X5_part : GoodIn wsX5_chance (va_wsS RX5 181 yX5_part wsX5_part) := goodIn_app (goodIn_of _ (by decide +kernel)) ggX5_chance_X5_part
set_option maxRecDepth 100000 in
theorem ggX5_deal_X5_isPart : GoodIn wsX5_deal wsX5_isPart := goodIn_r _ [10] rfl (by decide +kernel)
set_option maxRecDepth 100000 in
theorem gX5_deal_X5_isPart : GoodIn wsX5_deal (va_wsS RX5 165 yX5_isPart wsX5_isPart) := goodIn_app (goodIn_of _ (by decide +kernel)) ggX5_deal_X5_isPart
set_option maxRecDepth 100000 in
theorem ggX5_deal_X5_lookAtTable : GoodIn wsX5_deal wsX5_lookAtTable := goodIn_r _ [14, 6, 15, 2, 16, 17, 18, 19, 20, 21, 22, 23, 24, 25, 26, 27, 28, 29, 30, 31, 32, 33, 34, 35, 36, 37, 38, 39, 40, 41, 42, 43, 44, 45, 46, 47, 48, 49, 50, 51, 52, 53, 54, 206, 207, 208, 209, 210, 211, 212, 213, 214, 215, 216, 217, 220, 221, 222, 223, 224, 225, 226, 227, 228, 229, 230, 231, 232, 233, 234, 235, 218, 219, 236, 237, 238, 239] rfl (by decide +kernel)
set_option maxRecDepth 100000 in
theorem gX5_deal_X5_lookAtTable : GoodIn wsX5_deal (wsV RX5 159 RX5 yX5_lookAtTable wsX5_lookAtTable) := goodIn_app (goodIn_of _ (by decide +kernel)) ggX5_deal_X5_lookAtTable
set_option maxRecDepth 100000 in
theorem ggX5_deal_X3_dealTotal : GoodIn wsX5_deal wsX3_dealTotal := goodIn_r _ [58, 59, 24, 60, 61, 62, 63, 37, 38, 39, 40, 41, 42, 43, 34, 35, 36, 44, 64, 65, 66, 21, 67, 25, 26, 68, 69, 70, 71, 72, 73, 74, 75, 48, 76, 52, 53, 54, 77, 78, 79, 80, 50, 81, 82, 83, 84, 85, 86, 87, 88, 89, 23, 90, 91, 92, 93, 30, 94, 32, 95, 96, 97, 98, 99, 100, 101, 102, 103, 104, 105, 106, 107, 108, 109, 110, 111, 112, 113, 114, 115, 116, 117, 118, 119, 120, 121, 122, 123, 124, 125, 126, 127, 128, 129, 130, 131, 132, 133, 134, 135, 136, 137, 9, 138, 139, 140, 141, 142, 143, 144, 145, 146, 147, 148, 149, 150, 151, 152, 153, 154, 155, 156, 157, 158, 159, 160, 161, 162, 163, 164, 165, 166, 167, 168, 169, 170, 171, 172, 173, 174, 175, 176, 177, 178, 179, 180, 181, 182, 183, 184, 185, 186, 187, 188, 189, 190, 191, 192, 193, 194, 195, 220, 221, 222, 223, 224, 225, 226, 227, 228, 229, 230, 231, 232, 233, 234, 218, 219, 236, 237, 238, 239, 235] rfl (by decide +kernel)
set_option maxRecDepth 100000 in
theorem gX5_deal_X3_dealTotal : GoodIn wsX5_deal (wsV RX5 197 RX3 yX3_dealTotal wsX3_dealTotal) := goodIn_app (goodIn_of _ (by decide +kernel)) ggX5_deal_X3_dealTotal
set_option maxRecDepth 100000 in
theorem ggX5_deal_X5_orders : GoodIn wsX5_deal wsX5_orders := goodIn_r _ [138, 139] rfl (by decide +kernel)
set_option maxRecDepth 100000 in
theorem gX5_deal_X5_orders : GoodIn wsX5_deal (va_wsS RX5 178 yX5_orders wsX5_orders) := goodIn_app (goodIn_of _ (by decide +kernel)) ggX5_deal_X5_orders
set_option maxRecDepth 100000 in
theorem ggX5_deal_X5_part : GoodIn wsX5_deal wsX5_part := goodIn_r _ [199, 200, 201, 178, 202, 203, 204, 9, 205] rfl (by decide +kernel)
set_option maxRecDepth 100000 in
theorem gX5_deal_X5_part : GoodIn wsX5_deal (va_wsS RX5 181 yX5_part wsX5_part) := goodIn_app (goodIn_of _ (by decide +kernel)) ggX5_deal_X5_part
set_option maxRecDepth 100000 in
theorem ggX5_moved_X5_isRank : GoodIn wsX5_moved wsX5_isRank := goodIn_r _ [10] rfl (by decide +kernel)
set_option maxRecDepth 100000 in
theorem gX5_moved_X5_isRank : GoodIn wsX5_moved (va_wsS RX5 69 yX5_isRank wsX5_isRank) := goodIn_app (goodIn_of _ (by decide +kernel)) ggX5_moved_X5_isRank
set_option maxRecDepth 100000 in
theorem ggX5_moved_X5_isPart : GoodIn wsX5_moved wsX5_isPart := goodIn_r _ [13] rfl (by decide +kernel)
set_option maxRecDepth 100000 in
theorem gX5_moved_X5_isPart : GoodIn wsX5_moved (va_wsS RX5 165 yX5_isPart wsX5_isPart) := goodIn_app (goodIn_of _ (by decide +kernel)) ggX5_moved_X5_isPart
set_option maxRecDepth 100000 in
theorem ggX5_moved_X5_lookAtTable : GoodIn wsX5_moved wsX5_lookAtTable := goodIn_r _ [17, 3, 18, 2, 19, 20, 21, 22, 23, 24, 25, 26, 27, 28, 29, 30, 31, 32, 33, 34, 35, 36, 37, 38, 39, 40, 41, 42, 43, 44, 45, 46, 47, 48, 49, 50, 51, 52, 53, 54, 55, 56, 57, 201, 202, 203, 204, 205, 206, 207, 208, 209, 210, 211, 212, 215, 216, 217, 218, 219, 220, 221, 222, 223, 224, 225, 226, 227, 228, 229, 230, 213, 214, 231, 232, 233, 234] rfl (by decide +kernel)
set_option maxRecDepth 100000 in
theorem gX5_moved_X5_lookAtTable : GoodIn wsX5_moved (wsV RX5 159 RX5 yX5_lookAtTable wsX5_lookAtTable) := goodIn_app (goodIn_of _ (by decide +kernel)) ggX5_moved_X5_lookAtTable
set_option maxRecDepth 100000 in
theorem ggX5_moved_X0_count : GoodIn wsX5_moved wsX0_count := goodIn_r _ [61, 45, 213, 214] rfl (by decide +kernel)
set_option maxRecDepth 100000 in
theorem gX5_moved_X0_count : GoodIn wsX5_moved (wsV RX5 73 RX0 yX0_count wsX0_count) := goodIn_app (goodIn_of _ (by decide +kernel)) ggX5_moved_X0_count
