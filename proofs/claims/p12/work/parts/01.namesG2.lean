set_option maxRecDepth 100000 in
theorem ggX6_dealt_X6_layHeaps : GoodIn wsX6_dealt wsX6_layHeaps := goodIn_r _ [17, 8, 18, 1, 12, 19, 20, 21, 22, 16, 23, 106, 107, 108, 109, 110, 111, 112, 113, 114, 115, 116, 117, 118, 119, 120, 121, 122, 123, 124, 125, 126, 127, 128, 129, 130, 131, 132, 133, 134, 135, 136, 137, 138, 139, 140, 141, 142, 143, 144] rfl (by decide +kernel)
set_option maxRecDepth 100000 in
theorem gX6_dealt_X6_layHeaps : GoodIn wsX6_dealt (wsV RX6 251 RX6 yX6_layHeaps wsX6_layHeaps) := goodIn_app (goodIn_of _ (by decide +kernel)) ggX6_dealt_X6_layHeaps
set_option maxRecDepth 100000 in
theorem ggX6_dealt_X6_valueAt : GoodIn wsX6_dealt wsX6_valueAt := goodIn_r _ [27, 3, 19, 8, 4, 1, 20, 21, 22, 16, 23, 18, 28, 29, 30, 31, 9, 106, 107, 108, 109, 110, 111, 112, 113, 114, 115, 116, 117, 118, 119, 120, 121, 122, 123, 124, 125, 126, 127, 128, 129, 130, 131, 132, 133, 134, 135, 136, 137, 138, 139, 140, 141, 142, 143, 144] rfl (by decide +kernel)
set_option maxRecDepth 100000 in
theorem gX6_dealt_X6_valueAt : GoodIn wsX6_dealt (wsV RX6 206 RX6 yX6_valueAt wsX6_valueAt) := goodIn_app (goodIn_of _ (by decide +kernel)) ggX6_dealt_X6_valueAt
set_option maxRecDepth 100000 in
theorem ggX6_dealt_X6_findBest : GoodIn wsX6_dealt wsX6_findBest := goodIn_r _ [35, 36, 37, 38, 39, 16, 40, 12, 8, 5, 7, 9, 41, 6, 42, 43, 24, 25, 26, 27, 3, 19, 4, 1, 20, 21, 22, 23, 18, 28, 29, 30, 31, 44, 45, 46, 47, 11, 48, 49, 50, 51, 52, 53, 54, 55, 56, 57, 58, 59, 60, 61, 62, 63, 64, 65, 66, 67, 68, 69, 70, 71, 72, 73, 74, 75, 76, 77, 78, 79, 80, 81, 82, 83, 84, 85, 86, 87, 88, 89, 90, 91, 92, 93, 94, 95, 96, 10, 97, 98, 99, 100, 101, 102, 103, 104, 105, 106, 107, 108, 109, 110, 111, 112, 113, 114, 115, 116, 117, 118, 119, 120, 121, 122, 123, 124, 125, 126, 127, 128, 129, 130, 131, 132, 133, 134, 135, 136, 137, 138, 139, 140, 141, 142, 143, 144] rfl (by decide +kernel)
set_option maxRecDepth 100000 in
theorem gX6_dealt_X6_findBest : GoodIn wsX6_dealt (wsV RX6 275 RX6 yX6_findBest wsX6_findBest) := goodIn_app (goodIn_of _ (by decide +kernel)) ggX6_dealt_X6_findBest
set_option maxRecDepth 100000 in
theorem ggX6_deal_X6_in : GoodIn wsX6_deal wsX6_in := goodIn_r _ [9] rfl (by decide +kernel)
set_option maxRecDepth 100000 in
theorem gX6_deal_X6_in : GoodIn wsX6_deal (va_wsS RX6 88 yX6_in wsX6_in) := goodIn_app (goodIn_of _ (by decide +kernel)) ggX6_deal_X6_in
set_option maxRecDepth 100000 in
theorem ggX6_deal_X6_all : GoodIn wsX6_deal wsX6_all := goodIn_r _ [13, 14, 126, 127, 128, 129, 130, 131, 132, 133, 134, 135, 136, 137, 138, 139, 140, 141, 142, 143, 144, 145, 146, 147, 148, 149, 150, 151, 152, 153, 154, 155, 156, 157, 158, 159, 160, 161, 162, 163, 164] rfl (by decide +kernel)
set_option maxRecDepth 100000 in
theorem gX6_deal_X6_all : GoodIn wsX6_deal (wsV RX6 104 RX6 yX6_all wsX6_all) := goodIn_app (goodIn_of _ (by decide +kernel)) ggX6_deal_X6_all
set_option maxRecDepth 100000 in
theorem ggX6_deal_X6_dealt : GoodIn wsX6_deal wsX6_dealt := goodIn_r _ [18, 19, 14, 20, 21, 22, 23, 24, 25, 26, 27, 5, 28, 29, 30, 31, 8, 32, 33, 34, 35, 36, 37, 38, 39, 40, 41, 42, 43, 44, 45, 46, 47, 48, 49, 50, 51, 52, 53, 54, 55, 56, 57, 58, 59, 60, 61, 62, 63, 64, 65, 66, 67, 68, 69, 70, 71, 72, 73, 74, 75, 76, 77, 78, 79, 80, 81, 82, 83, 84, 85, 86, 87, 88, 89, 90, 91, 92, 93, 94, 95, 96, 97, 98, 99, 100, 101, 102, 103, 104, 105, 106, 107, 108, 109, 110, 111, 112, 113, 114, 115, 4, 116, 117, 118, 119, 126, 127, 128, 129, 130, 131, 132, 133, 134, 135, 136, 137, 138, 139, 140, 141, 142, 143, 144, 145, 146, 147, 148, 149, 150, 151, 152, 153, 154, 155, 156, 157, 158, 159, 160, 161, 162, 163, 164] rfl (by decide +kernel)
set_option maxRecDepth 100000 in
theorem gX6_deal_X6_dealt : GoodIn wsX6_deal (wsV RX6 278 RX6 yX6_dealt wsX6_dealt) := goodIn_app (goodIn_of _ (by decide +kernel)) ggX6_deal_X6_dealt
set_option maxRecDepth 100000 in
theorem ggX6_deal_X6_part : GoodIn wsX6_deal wsX6_part := goodIn_r _ [122, 123, 124, 8, 125] rfl (by decide +kernel)
set_option maxRecDepth 100000 in
theorem gX6_deal_X6_part : GoodIn wsX6_deal (va_wsS RX6 271 yX6_part wsX6_part) := goodIn_app (goodIn_of _ (by decide +kernel)) ggX6_deal_X6_part
set_option maxRecDepth 100000 in
theorem ggX6_moved_X6_in : GoodIn wsX6_moved wsX6_in := goodIn_r _ [10] rfl (by decide +kernel)
set_option maxRecDepth 100000 in
theorem gX6_moved_X6_in : GoodIn wsX6_moved (va_wsS RX6 88 yX6_in wsX6_in) := goodIn_app (goodIn_of _ (by decide +kernel)) ggX6_moved_X6_in
set_option maxRecDepth 100000 in
theorem ggX6_moved_X6_isThereNow : GoodIn wsX6_moved wsX6_isThereNow := goodIn_r _ [14, 15, 16, 17, 18, 19, 20, 21, 22, 23, 24, 9, 25, 3, 26, 27, 28, 29, 30, 31, 32, 33, 34, 35, 36, 37, 38, 39, 40, 41, 146, 147, 148, 149, 150, 151, 152, 153, 154, 155, 156, 157, 158, 159, 160, 161, 162, 163, 164, 165, 166, 167, 168, 169, 170, 171, 172, 173, 174, 175, 176, 177, 178, 179, 180, 181, 182, 183, 184] rfl (by decide +kernel)
set_option maxRecDepth 100000 in
theorem gX6_moved_X6_isThereNow : GoodIn wsX6_moved (wsV RX6 254 RX6 yX6_isThereNow wsX6_isThereNow) := goodIn_app (goodIn_of _ (by decide +kernel)) ggX6_moved_X6_isThereNow
set_option maxRecDepth 100000 in
theorem ggX6_moved_X6_all : GoodIn wsX6_moved wsX6_all := goodIn_r _ [25, 3, 146, 147, 148, 149, 150, 151, 152, 153, 154, 155, 156, 157, 158, 159, 160, 161, 162, 163, 164, 165, 166, 167, 168, 169, 170, 171, 172, 173, 174, 175, 176, 177, 178, 179, 180, 181, 182, 183, 184] rfl (by decide +kernel)
set_option maxRecDepth 100000 in
theorem gX6_moved_X6_all : GoodIn wsX6_moved (wsV RX6 104 RX6 yX6_all wsX6_all) := goodIn_app (goodIn_of _ (by decide +kernel)) ggX6_moved_X6_all
set_option maxRecDepth 100000 in
theorem ggX6_moved_X6_layTable : GoodIn wsX6_moved wsX6_layTable := goodIn_r _ [45, 46, 3, 47, 48, 15, 49, 19, 50, 16, 51, 22, 23, 24, 9, 25, 52, 53, 54, 55, 56, 57, 58, 59, 60, 61, 62, 63, 30, 31, 32, 33, 34, 35, 36, 37, 146, 147, 148, 149, 150, 151, 152, 153, 154, 155, 156, 157, 158, 159, 160, 161, 162, 163, 164, 165, 166, 167, 168, 169, 170, 171, 172, 173, 174, 175, 176, 177, 178, 179, 180, 181, 182, 183, 184] rfl (by decide +kernel)
set_option maxRecDepth 100000 in
theorem gX6_moved_X6_layTable : GoodIn wsX6_moved (wsV RX6 267 RX6 yX6_layTable wsX6_layTable) := goodIn_app (goodIn_of _ (by decide +kernel)) ggX6_moved_X6_layTable
set_option maxRecDepth 100000 in
theorem ggX6_moved_X6_findBest : GoodIn wsX6_moved wsX6_findBest := goodIn_r _ [67, 68, 69, 70, 71, 9, 72, 58, 56, 49, 51, 17, 18, 50, 20, 21, 73, 74, 75, 76, 47, 59, 48, 46, 60, 61, 62, 63, 57, 38, 39, 40, 41, 77, 78, 79, 80, 6, 81, 82, 83, 84, 85, 86, 87, 88, 89, 90, 91, 92, 93, 94, 95, 96, 97, 98, 99, 100, 101, 102, 103, 104, 105, 106, 107, 108, 109, 110, 111, 112, 113, 114, 115, 116, 117, 118, 119, 120, 121, 122, 123, 124, 125, 126, 127, 128, 129, 130, 131, 132, 133, 134, 135, 136, 137, 138, 139, 146, 147, 148, 149, 150, 151, 152, 153, 154, 155, 156, 157, 158, 159, 160, 161, 162, 163, 164, 165, 166, 167, 168, 169, 170, 171, 172, 173, 174, 175, 176, 177, 178, 179, 180, 181, 182, 183, 184] rfl (by decide +kernel)
set_option maxRecDepth 100000 in
theorem gX6_moved_X6_findBest : GoodIn wsX6_moved (wsV RX6 275 RX6 yX6_findBest wsX6_findBest) := goodIn_app (goodIn_of _ (by decide +kernel)) ggX6_moved_X6_findBest
set_option maxRecDepth 100000 in
theorem ggX6_moved_X6_part : GoodIn wsX6_moved wsX6_part := goodIn_r _ [142, 143, 144, 9, 145] rfl (by decide +kernel)
set_option maxRecDepth 100000 in
theorem gX6_moved_X6_part : GoodIn wsX6_moved (va_wsS RX6 271 yX6_part wsX6_part) := goodIn_app (goodIn_of _ (by decide +kernel)) ggX6_moved_X6_part
set_option maxRecDepth 100000 in
theorem ggX6_addRank_X6_choose : GoodIn wsX6_addRank wsX6_choose := goodIn_r _ [10] rfl (by decide +kernel)
set_option maxRecDepth 100000 in
theorem gX6_addRank_X6_choose : GoodIn wsX6_addRank (va_wsS RX6 282 yX6_choose wsX6_choose) := goodIn_app (goodIn_of _ (by decide +kernel)) ggX6_addRank_X6_choose
set_option maxRecDepth 100000 in
theorem ggX6_known_X6_in : GoodIn wsX6_known wsX6_in := goodIn_r _ [12] rfl (by decide +kernel)
set_option maxRecDepth 100000 in
theorem gX6_known_X6_in : GoodIn wsX6_known (va_wsS RX6 88 yX6_in wsX6_in) := goodIn_app (goodIn_of _ (by decide +kernel)) ggX6_known_X6_in
set_option maxRecDepth 100000 in
theorem ggX6_known_X6_gone : GoodIn wsX6_known wsX6_gone := goodIn_r _ [16, 17, 38, 39, 40, 41, 42, 43, 44, 45, 46, 47, 48, 49, 50, 51, 52, 53, 54, 55, 56, 57, 58, 59, 60, 61, 62, 63, 64, 65, 66, 67, 68, 69, 70, 71, 72, 73, 74, 75, 76] rfl (by decide +kernel)
set_option maxRecDepth 100000 in
theorem gX6_known_X6_gone : GoodIn wsX6_known (wsV RX6 159 RX6 yX6_gone wsX6_gone) := goodIn_app (goodIn_of _ (by decide +kernel)) ggX6_known_X6_gone
set_option maxRecDepth 100000 in
theorem ggX6_known_X6_addRank : GoodIn wsX6_known wsX6_addRank := goodIn_r _ [21, 22, 23, 7, 5, 24, 8, 25, 26, 11, 27, 38, 39, 40, 41, 42, 43, 44, 45, 46, 47, 48, 49, 50, 51, 52, 53, 54, 55, 56, 57, 58, 59, 60, 61, 62, 63, 64, 65, 66, 67, 68, 69, 70, 71, 72, 73, 74, 75, 76] rfl (by decide +kernel)
set_option maxRecDepth 100000 in
theorem gX6_known_X6_addRank : GoodIn wsX6_known (wsV RX6 286 RX6 yX6_addRank wsX6_addRank) := goodIn_app (goodIn_of _ (by decide +kernel)) ggX6_known_X6_addRank
set_option maxRecDepth 100000 in
theorem ggX6_known_X6_counted : GoodIn wsX6_known wsX6_counted := goodIn_r _ [31, 24, 17, 38, 39, 40, 41, 42, 43, 44, 45, 46, 47, 48, 49, 50, 51, 52, 53, 54, 55, 56, 57, 58, 59, 60, 61, 62, 63, 64, 65, 66, 67, 68, 69, 70, 71, 72, 73, 74, 75, 76] rfl (by decide +kernel)
set_option maxRecDepth 100000 in
theorem gX6_known_X6_counted : GoodIn wsX6_known (wsV RX6 153 RX6 yX6_counted wsX6_counted) := goodIn_app (goodIn_of _ (by decide +kernel)) ggX6_known_X6_counted
set_option maxRecDepth 100000 in
theorem ggX6_known_X6_part : GoodIn wsX6_known wsX6_part := goodIn_r _ [34, 35, 36, 11, 37] rfl (by decide +kernel)
set_option maxRecDepth 100000 in
theorem gX6_known_X6_part : GoodIn wsX6_known (va_wsS RX6 271 yX6_part wsX6_part) := goodIn_app (goodIn_of _ (by decide +kernel)) ggX6_known_X6_part
