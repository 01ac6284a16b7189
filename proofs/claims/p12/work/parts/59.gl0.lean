set_option maxRecDepth 100000 in
theorem ggL_law_X5_init : GoodIn wsL_law wsX5_init := goodIn_r _ [8, 9, 10, 11, 12, 13, 14, 15, 16, 17, 18, 19, 20, 21, 22, 23, 24, 25, 26, 27, 28, 29, 30, 31, 32, 33, 34, 35, 36, 37, 38, 39, 40, 41, 42, 43, 44, 45, 46, 47, 48, 49, 50, 51, 52, 53, 54, 55, 56, 57, 58, 59, 60, 61, 62, 63, 64, 65, 66, 67, 68, 69, 70, 71, 72, 73, 74, 75, 76, 77, 78, 79, 80, 81, 82, 773, 722, 723, 724, 725, 726, 727, 728, 729, 730, 731, 732, 733, 774, 775, 776, 777, 778, 779, 780, 781, 782, 783, 784, 785, 786, 787, 788, 789, 790, 791, 792, 793, 794, 795] rfl (by decide +kernel)
set_option maxRecDepth 100000 in
theorem gL_law_X5_init : GoodIn wsL_law (wsX5_init) := ggL_law_X5_init
set_option maxRecDepth 100000 in
theorem ggL_law_X6_init : GoodIn wsL_law wsX6_init := goodIn_r _ [85, 86, 10, 11, 26, 87, 88, 89, 90, 91, 92, 93, 94, 95, 96, 97, 98, 69, 99, 100, 101, 102, 103, 104, 105, 106, 107, 108, 109, 110, 111, 734, 735, 736, 737, 738, 739, 740, 741, 742, 743, 744, 745, 746, 747, 748, 749, 750, 751, 752, 753, 754, 755, 756, 757, 758, 759, 760, 761, 762, 763, 764, 765, 766, 767, 768, 769, 770, 771, 772] rfl (by decide +kernel)
set_option maxRecDepth 100000 in
theorem gL_law_X6_init : GoodIn wsL_law (wsX6_init) := ggL_law_X6_init
set_option maxRecDepth 100000 in
theorem ggL_law_X5_shoe : GoodIn wsL_law wsX5_shoe := goodIn_r _ [115, 19, 39, 116, 117, 2, 118, 119, 120, 121, 18, 122, 47, 123, 124, 125, 126, 48, 722, 723, 724, 725, 726, 727, 728, 729, 730, 731, 732, 733, 774, 775] rfl (by decide +kernel)
set_option maxRecDepth 100000 in
theorem gL_law_X5_shoe : GoodIn wsL_law (wsV RL 13 RX5 yX5_shoe wsX5_shoe) := goodIn_app (goodIn_of _ (by decide +kernel)) ggL_law_X5_shoe
set_option maxRecDepth 100000 in
theorem ggL_law_X6_shoe : GoodIn wsL_law wsX6_shoe := goodIn_r _ [130, 131, 132, 87, 133, 134, 135, 5, 136, 734, 735, 736, 737, 738, 739, 740, 741, 742, 743, 744, 745, 746, 747, 748, 749, 750, 751, 752, 753, 754, 755, 756, 757, 758, 759, 760, 761, 762, 763, 764, 765, 766, 767, 768, 769, 770, 771, 772] rfl (by decide +kernel)
set_option maxRecDepth 100000 in
theorem gL_law_X6_shoe : GoodIn wsL_law (wsV RL 17 RX6 yX6_shoe wsX6_shoe) := goodIn_app (goodIn_of _ (by decide +kernel)) ggL_law_X6_shoe
set_option maxRecDepth 100000 in
theorem ggL_law_X5_fresh : GoodIn wsL_law wsX5_fresh := goodIn_r _ [140, 20, 21, 19, 39, 141, 142, 143, 144, 18, 145, 47, 48, 146, 147, 148, 149, 150, 151, 152, 153, 154, 155, 156, 157, 158, 159, 160, 2, 161, 25, 36, 162, 163, 164, 24, 165, 53, 54, 55, 722, 723, 724, 725, 726, 727, 728, 729, 730, 731, 732, 733, 774, 775, 776, 777, 778, 779] rfl (by decide +kernel)
set_option maxRecDepth 100000 in
theorem gL_law_X5_fresh : GoodIn wsL_law (wsV RL 18 RX5 yX5_fresh wsX5_fresh) := goodIn_app (goodIn_of _ (by decide +kernel)) ggL_law_X5_fresh
set_option maxRecDepth 100000 in
theorem ggL_law_X6_fresh : GoodIn wsL_law wsX6_fresh := goodIn_r _ [169, 88, 87, 89, 133, 170, 171, 172, 173, 174, 5, 175, 734, 735, 736, 737, 738, 739, 740, 741, 742, 743, 744, 745, 746, 747, 748, 749, 750, 751, 752, 753, 754, 755, 756, 757, 758, 759, 760, 761, 762, 763, 764, 765, 766, 767, 768, 769, 770, 771, 772] rfl (by decide +kernel)
set_option maxRecDepth 100000 in
theorem gL_law_X6_fresh : GoodIn wsL_law (wsV RL 22 RX6 yX6_fresh wsX6_fresh) := goodIn_app (goodIn_of _ (by decide +kernel)) ggL_law_X6_fresh
set_option maxRecDepth 100000 in
theorem ggL_law_X5_rule : GoodIn wsL_law wsX5_rule := goodIn_r _ [179, 15, 180, 181, 182, 14, 183, 43, 184, 185, 186, 187, 188, 189, 722, 723, 724, 725, 726, 727, 728, 729, 730, 731, 732, 733, 773] rfl (by decide +kernel)
set_option maxRecDepth 100000 in
theorem gL_law_X5_rule : GoodIn wsL_law (wsV RL 23 RX5 yX5_rule wsX5_rule) := goodIn_app (goodIn_of _ (by decide +kernel)) ggL_law_X5_rule
set_option maxRecDepth 100000 in
theorem ggL_law_X6_rule : GoodIn wsL_law wsX6_rule := goodIn_r _ [193, 92, 93, 194, 195, 131, 196, 197, 198, 199, 94, 95, 96, 97, 134, 135, 5, 136, 734, 735, 736, 737, 738, 739, 740, 741, 742, 743, 744, 745, 746, 747, 748, 749, 750, 751, 752, 753, 754, 755, 756, 757, 758, 759, 760, 761, 762, 763, 764, 765, 766, 767, 768, 769, 770, 771, 772] rfl (by decide +kernel)
set_option maxRecDepth 100000 in
theorem gL_law_X6_rule : GoodIn wsL_law (wsV RL 26 RX6 yX6_rule wsX6_rule) := goodIn_app (goodIn_of _ (by decide +kernel)) ggL_law_X6_rule
set_option maxRecDepth 100000 in
theorem ggL_law_X5_mark : GoodIn wsL_law wsX5_mark := goodIn_r _ [203, 27, 116, 117, 2, 118, 722, 723, 724, 725, 726, 727, 728, 729, 730, 731, 732, 733] rfl (by decide +kernel)
set_option maxRecDepth 100000 in
theorem gL_law_X5_mark : GoodIn wsL_law (wsV RL 27 RX5 yX5_mark wsX5_mark) := goodIn_app (goodIn_of _ (by decide +kernel)) ggL_law_X5_mark
set_option maxRecDepth 100000 in
theorem ggL_law_X6_mark : GoodIn wsL_law wsX6_mark := goodIn_r _ [207, 131, 208, 209, 90, 134, 135, 5, 136, 734, 735, 736, 737, 738, 739, 740, 741, 742, 743, 744, 745, 746, 747, 748, 749, 750, 751, 752, 753, 754, 755, 756, 757, 758, 759, 760, 761, 762, 763, 764, 765, 766, 767, 768, 769, 770, 771, 772] rfl (by decide +kernel)
set_option maxRecDepth 100000 in
theorem gL_law_X6_mark : GoodIn wsL_law (wsV RL 30 RX6 yX6_mark wsX6_mark) := goodIn_app (goodIn_of _ (by decide +kernel)) ggL_law_X6_mark
set_option maxRecDepth 100000 in
theorem ggL_law_X5_left : GoodIn wsL_law wsX5_left := goodIn_r _ [213, 19, 141, 116, 117, 2, 118, 119, 120, 121, 18, 122, 47, 722, 723, 724, 725, 726, 727, 728, 729, 730, 731, 732, 733, 774, 775] rfl (by decide +kernel)
set_option maxRecDepth 100000 in
theorem gL_law_X5_left : GoodIn wsL_law (wsV RL 31 RX5 yX5_left wsX5_left) := goodIn_app (goodIn_of _ (by decide +kernel)) ggL_law_X5_left
set_option maxRecDepth 100000 in
theorem ggL_law_X6_left : GoodIn wsL_law wsX6_left := goodIn_r _ [217, 131, 87, 134, 135, 5, 136, 172, 173, 174, 175, 734, 735, 736, 737, 738, 739, 740, 741, 742, 743, 744, 745, 746, 747, 748, 749, 750, 751, 752, 753, 754, 755, 756, 757, 758, 759, 760, 761, 762, 763, 764, 765, 766, 767, 768, 769, 770, 771, 772] rfl (by decide +kernel)
set_option maxRecDepth 100000 in
theorem gL_law_X6_left : GoodIn wsL_law (wsV RL 35 RX6 yX6_left wsX6_left) := goodIn_app (goodIn_of _ (by decide +kernel)) ggL_law_X6_left
set_option maxRecDepth 100000 in
theorem ggL_law_X5_take : GoodIn wsL_law wsX5_take := goodIn_r _ [221, 19, 25, 222, 116, 117, 2, 118, 223, 224, 225, 119, 120, 121, 18, 122, 47, 226, 227, 228, 24, 229, 53, 230, 231, 232, 233, 20, 234, 235, 236, 237, 48, 238, 239, 240, 241, 242, 243, 244, 245, 36, 246, 247, 248, 249, 52, 54, 55, 722, 723, 724, 725, 726, 727, 728, 729, 730, 731, 732, 733, 776, 777, 778, 779, 774, 775] rfl (by decide +kernel)
set_option maxRecDepth 100000 in
theorem gL_law_X5_take : GoodIn wsL_law (wsV RL 36 RX5 yX5_take wsX5_take) := goodIn_app (goodIn_of _ (by decide +kernel)) ggL_law_X5_take
set_option maxRecDepth 100000 in
theorem ggL_law_X6_take : GoodIn wsL_law wsX6_take := goodIn_r _ [253, 131, 196, 87, 170, 134, 135, 5, 136, 254, 255, 256, 257, 89, 91, 171, 734, 735, 736, 737, 738, 739, 740, 741, 742, 743, 744, 745, 746, 747, 748, 749, 750, 751, 752, 753, 754, 755, 756, 757, 758, 759, 760, 761, 762, 763, 764, 765, 766, 767, 768, 769, 770, 771, 772] rfl (by decide +kernel)
set_option maxRecDepth 100000 in
theorem gL_law_X6_take : GoodIn wsL_law (wsV RL 39 RX6 yX6_take wsX6_take) := goodIn_app (goodIn_of _ (by decide +kernel)) ggL_law_X6_take
set_option maxRecDepth 100000 in
theorem ggL_law_X5_draw : GoodIn wsL_law wsX5_draw := goodIn_r _ [261, 19, 141, 25, 223, 224, 2, 225, 226, 227, 228, 24, 229, 53, 262, 263, 264, 265, 38, 266, 267, 268, 269, 270, 18, 271, 47, 230, 231, 232, 233, 20, 234, 235, 236, 237, 48, 238, 239, 240, 241, 242, 243, 244, 245, 36, 246, 247, 248, 249, 52, 54, 55, 722, 723, 724, 725, 726, 727, 728, 729, 730, 731, 732, 733, 774, 775, 776, 777, 778, 779] rfl (by decide +kernel)
set_option maxRecDepth 100000 in
theorem gL_law_X5_draw : GoodIn wsL_law (wsV RL 40 RX5 yX5_draw wsX5_draw) := goodIn_app (goodIn_of _ (by decide +kernel)) ggL_law_X5_draw
set_option maxRecDepth 100000 in
theorem ggL_law_X6_draw : GoodIn wsL_law wsX6_draw := goodIn_r _ [275, 196, 170, 134, 135, 5, 136, 172, 173, 174, 175, 87, 276, 277, 278, 279, 98, 280, 281, 254, 255, 256, 257, 89, 91, 171, 734, 735, 736, 737, 738, 739, 740, 741, 742, 743, 744, 745, 746, 747, 748, 749, 750, 751, 752, 753, 754, 755, 756, 757, 758, 759, 760, 761, 762, 763, 764, 765, 766, 767, 768, 769, 770, 771, 772] rfl (by decide +kernel)
set_option maxRecDepth 100000 in
theorem gL_law_X6_draw : GoodIn wsL_law (wsV RL 43 RX6 yX6_draw wsX6_draw) := goodIn_app (goodIn_of _ (by decide +kernel)) ggL_law_X6_draw
set_option maxRecDepth 100000 in
theorem ggL_law_X5_seed : GoodIn wsL_law wsX5_seed := goodIn_r _ [285, 38, 722, 723, 724, 725, 726, 727, 728, 729, 730, 731, 732, 733] rfl (by decide +kernel)
set_option maxRecDepth 100000 in
theorem gL_law_X5_seed : GoodIn wsL_law (wsV RL 44 RX5 yX5_seed wsX5_seed) := goodIn_app (goodIn_of _ (by decide +kernel)) ggL_law_X5_seed
set_option maxRecDepth 100000 in
theorem ggL_law_X6_seed : GoodIn wsL_law wsX6_seed := goodIn_r _ [289, 98, 734, 735, 736, 737, 738, 739, 740, 741, 742, 743, 744, 745, 746, 747, 748, 749, 750, 751, 752, 753, 754, 755, 756, 757, 758, 759, 760, 761, 762, 763, 764, 765, 766, 767, 768, 769, 770, 771, 772] rfl (by decide +kernel)
set_option maxRecDepth 100000 in
theorem gL_law_X6_seed : GoodIn wsL_law (wsV RL 47 RX6 yX6_seed wsX6_seed) := goodIn_app (goodIn_of _ (by decide +kernel)) ggL_law_X6_seed
set_option maxRecDepth 100000 in
theorem ggL_law_X5_lay : GoodIn wsL_law wsX5_lay := goodIn_r _ [293, 25, 222, 36, 158, 159, 160, 2, 161, 162, 163, 164, 24, 165, 53, 54, 55, 722, 723, 724, 725, 726, 727, 728, 729, 730, 731, 732, 733, 776, 777, 778, 779] rfl (by decide +kernel)
set_option maxRecDepth 100000 in
theorem gL_law_X5_lay : GoodIn wsL_law (wsV RL 48 RX5 yX5_lay wsX5_lay) := goodIn_app (goodIn_of _ (by decide +kernel)) ggL_law_X5_lay
set_option maxRecDepth 100000 in
theorem ggL_law_X6_lay : GoodIn wsL_law wsX6_lay := goodIn_r _ [297, 170, 171, 734, 735, 736, 737, 738, 739, 740, 741, 742, 743, 744, 745, 746, 747, 748, 749, 750, 751, 752, 753, 754, 755, 756, 757, 758, 759, 760, 761, 762, 763, 764, 765, 766, 767, 768, 769, 770, 771, 772] rfl (by decide +kernel)
set_option maxRecDepth 100000 in
theorem gL_law_X6_lay : GoodIn wsL_law (wsV RL 51 RX6 yX6_lay wsX6_lay) := goodIn_app (goodIn_of _ (by decide +kernel)) ggL_law_X6_lay
set_option maxRecDepth 100000 in
theorem ggL_law_X5_told : GoodIn wsL_law wsX5_told := goodIn_r _ [301, 25, 222, 15, 302, 303, 36, 37, 20, 141, 304, 305, 306, 2, 307, 308, 309, 310, 14, 311, 43, 312, 313, 314, 315, 316, 317, 318, 319, 320, 321, 322, 323, 324, 325, 326, 327, 328, 329, 330, 27, 119, 120, 121, 18, 122, 47, 331, 332, 333, 24, 334, 53, 52, 722, 723, 724, 725, 726, 727, 728, 729, 730, 731, 732, 733, 776, 777, 778, 779, 774, 775, 773] rfl (by decide +kernel)
set_option maxRecDepth 100000 in
theorem gL_law_X5_told : GoodIn wsL_law (wsV RL 52 RX5 yX5_told wsX5_told) := goodIn_app (goodIn_of _ (by decide +kernel)) ggL_law_X5_told
set_option maxRecDepth 100000 in
theorem ggL_law_X6_told : GoodIn wsL_law wsX6_told := goodIn_r _ [338, 170, 92, 171, 339, 131, 195, 91, 340, 341, 342, 5, 343, 344, 345, 346, 347, 348, 349, 350, 351, 352, 353, 354, 355, 356, 357, 358, 359, 360, 361, 362, 363, 90, 89, 364, 365, 366, 367, 134, 135, 136, 734, 735, 736, 737, 738, 739, 740, 741, 742, 743, 744, 745, 746, 747, 748, 749, 750, 751, 752, 753, 754, 755, 756, 757, 758, 759, 760, 761, 762, 763, 764, 765, 766, 767, 768, 769, 770, 771, 772] rfl (by decide +kernel)
set_option maxRecDepth 100000 in
theorem gL_law_X6_told : GoodIn wsL_law (wsV RL 55 RX6 yX6_told wsX6_told) := goodIn_app (goodIn_of _ (by decide +kernel)) ggL_law_X6_told
set_option maxRecDepth 100000 in
theorem ggL_law_X5_settle : GoodIn wsL_law wsX5_settle := goodIn_r _ [371, 25, 222, 36, 15, 302, 37, 323, 324, 325, 14, 326, 43, 372, 373, 374, 2, 375, 19, 141, 308, 309, 310, 311, 376, 377, 378, 379, 262, 263, 264, 265, 38, 266, 267, 268, 269, 270, 18, 271, 47, 230, 231, 232, 233, 20, 234, 235, 236, 237, 48, 238, 239, 240, 241, 380, 381, 382, 383, 304, 305, 306, 307, 303, 319, 320, 321, 322, 384, 385, 386, 387, 158, 159, 160, 161, 162, 163, 164, 24, 165, 53, 54, 55, 722, 723, 724, 725, 726, 727, 728, 729, 730, 731, 732, 733, 776, 777, 778, 779, 773, 774, 775] rfl (by decide +kernel)
set_option maxRecDepth 100000 in
theorem gL_law_X5_settle : GoodIn wsL_law (wsV RL 56 RX5 yX5_settle wsX5_settle) := goodIn_app (goodIn_of _ (by decide +kernel)) ggL_law_X5_settle
set_option maxRecDepth 100000 in
theorem ggL_law_X6_settle : GoodIn wsL_law wsX6_settle := goodIn_r _ [391, 170, 171, 92, 97, 339, 340, 341, 342, 5, 343, 344, 345, 346, 347, 91, 348, 349, 350, 351, 352, 353, 354, 355, 172, 173, 174, 175, 87, 392, 393, 394, 395, 93, 199, 276, 277, 278, 279, 98, 280, 281, 254, 255, 256, 257, 89, 356, 357, 358, 359, 396, 397, 398, 399, 734, 735, 736, 737, 738, 739, 740, 741, 742, 743, 744, 745, 746, 747, 748, 749, 750, 751, 752, 753, 754, 755, 756, 757, 758, 759, 760, 761, 762, 763, 764, 765, 766, 767, 768, 769, 770, 771, 772] rfl (by decide +kernel)
set_option maxRecDepth 100000 in
theorem gL_law_X6_settle : GoodIn wsL_law (wsV RL 59 RX6 yX6_settle wsX6_settle) := goodIn_app (goodIn_of _ (by decide +kernel)) ggL_law_X6_settle
set_option maxRecDepth 100000 in
theorem ggL_law_X5_there : GoodIn wsL_law wsX5_there := goodIn_r _ [403, 31, 404, 405, 2, 406, 407, 408, 409, 410, 15, 19, 25, 36, 411, 412, 413, 30, 414, 60, 62, 65, 66, 415, 416, 417, 14, 418, 43, 419, 155, 156, 157, 420, 151, 152, 18, 153, 47, 154, 48, 421, 422, 423, 24, 424, 52, 425, 53, 54, 55, 426, 427, 428, 429, 430, 431, 432, 433, 324, 325, 326, 434, 227, 228, 229, 435, 436, 437, 438, 439, 440, 441, 442, 443, 444, 445, 446, 447, 448, 449, 450, 316, 317, 318, 722, 723, 724, 725, 726, 727, 728, 729, 730, 731, 732, 733, 780, 781, 782, 783, 784, 785, 786, 787, 788, 789, 790, 791, 792, 793, 794, 773, 774, 775, 776, 777, 778, 779] rfl (by decide +kernel)
set_option maxRecDepth 100000 in
theorem gL_law_X5_there : GoodIn wsL_law (wsV RL 60 RX5 yX5_there wsX5_there) := goodIn_app (goodIn_of _ (by decide +kernel)) ggL_law_X5_there
set_option maxRecDepth 100000 in
theorem ggL_law_X6_there : GoodIn wsL_law wsX6_there := goodIn_r _ [454, 197, 134, 135, 5, 136, 455, 456, 457, 458, 170, 171, 92, 94, 91, 95, 96, 172, 173, 174, 175, 87, 340, 341, 342, 343, 344, 345, 346, 347, 348, 349, 350, 351, 352, 353, 354, 355, 734, 735, 736, 737, 738, 739, 740, 741, 742, 743, 744, 745, 746, 747, 748, 749, 750, 751, 752, 753, 754, 755, 756, 757, 758, 759, 760, 761, 762, 763, 764, 765, 766, 767, 768, 769, 770, 771, 772] rfl (by decide +kernel)
set_option maxRecDepth 100000 in
theorem gL_law_X6_there : GoodIn wsL_law (wsV RL 63 RX6 yX6_there wsX6_there) := goodIn_app (goodIn_of _ (by decide +kernel)) ggL_law_X6_there
set_option maxRecDepth 100000 in
theorem ggL_law_X5_worth : GoodIn wsL_law wsX5_worth := goodIn_r _ [462, 463, 31, 464, 19, 141, 465, 404, 405, 2, 406, 466, 467, 468, 407, 408, 409, 410, 15, 25, 36, 411, 412, 413, 30, 414, 60, 62, 65, 66, 415, 416, 417, 14, 418, 43, 419, 155, 156, 157, 420, 151, 152, 18, 153, 47, 154, 48, 421, 422, 423, 24, 424, 52, 425, 53, 54, 55, 426, 427, 428, 429, 430, 431, 432, 433, 324, 325, 326, 434, 227, 228, 229, 435, 436, 437, 438, 439, 440, 441, 442, 443, 444, 445, 446, 447, 448, 449, 450, 469, 470, 471, 472, 77, 473, 474, 475, 476, 477, 478, 71, 479, 120, 121, 122, 480, 481, 482, 483, 484, 70, 74, 485, 486, 487, 488, 309, 310, 311, 489, 320, 321, 322, 490, 385, 386, 387, 491, 492, 493, 494, 73, 72, 495, 377, 378, 379, 496, 381, 382, 383, 497, 235, 236, 237, 498, 239, 240, 241, 499, 500, 501, 502, 76, 75, 503, 504, 505, 506, 507, 508, 509, 510, 511, 512, 332, 333, 334, 513, 514, 515, 516, 517, 518, 519, 520, 521, 522, 523, 524, 525, 526, 527, 528, 529, 530, 722, 723, 724, 725, 726, 727, 728, 729, 730, 731, 732, 733, 774, 775, 780, 781, 782, 783, 784, 785, 786, 787, 788, 789, 790, 791, 792, 793, 794, 773, 776, 777, 778, 779] rfl (by decide +kernel)
set_option maxRecDepth 100000 in
theorem gL_law_X5_worth : GoodIn wsL_law (wsV RL 64 RX5 yX5_worth wsX5_worth) := goodIn_app (goodIn_of _ (by decide +kernel)) ggL_law_X5_worth
set_option maxRecDepth 100000 in
theorem ggL_law_X6_worth : GoodIn wsL_law wsX6_worth := goodIn_r _ [534, 197, 535, 536, 537, 99, 134, 135, 5, 136, 455, 456, 457, 458, 170, 171, 92, 94, 91, 95, 96, 172, 173, 174, 175, 87, 340, 341, 342, 343, 344, 345, 346, 347, 348, 349, 350, 351, 352, 353, 354, 355, 538, 539, 540, 541, 100, 542, 543, 544, 545, 546, 547, 548, 549, 550, 551, 101, 102, 103, 552, 553, 554, 555, 556, 557, 558, 559, 560, 561, 562, 563, 564, 565, 97, 566, 567, 568, 569, 570, 571, 572, 573, 574, 105, 575, 576, 577, 578, 392, 393, 394, 395, 93, 199, 579, 580, 581, 582, 583, 584, 585, 586, 396, 397, 398, 399, 587, 588, 589, 590, 591, 592, 593, 594, 107, 106, 595, 596, 597, 598, 599, 600, 601, 602, 603, 196, 604, 605, 606, 607, 608, 609, 610, 611, 612, 613, 734, 735, 736, 737, 738, 739, 740, 741, 742, 743, 744, 745, 746, 747, 748, 749, 750, 751, 752, 753, 754, 755, 756, 757, 758, 759, 760, 761, 762, 763, 764, 765, 766, 767, 768, 769, 770, 771, 772] rfl (by decide +kernel)
set_option maxRecDepth 100000 in
theorem gL_law_X6_worth : GoodIn wsL_law (wsV RL 68 RX6 yX6_worth wsX6_worth) := goodIn_app (goodIn_of _ (by decide +kernel)) ggL_law_X6_worth
set_option maxRecDepth 100000 in
theorem ggL_law_X5_best : GoodIn wsL_law wsX5_best := goodIn_r _ [617, 31, 19, 141, 618, 407, 408, 409, 2, 410, 15, 25, 36, 411, 412, 413, 30, 414, 60, 62, 65, 66, 415, 416, 417, 14, 418, 43, 419, 155, 156, 157, 420, 151, 152, 18, 153, 47, 154, 48, 421, 422, 423, 24, 424, 52, 425, 53, 54, 55, 619, 620, 621, 622, 623, 427, 428, 429, 430, 431, 432, 433, 324, 325, 326, 434, 227, 228, 229, 435, 436, 437, 438, 439, 440, 441, 442, 443, 444, 445, 446, 447, 448, 449, 450, 624, 625, 626, 627, 67, 68, 628, 470, 471, 472, 77, 473, 474, 475, 476, 477, 478, 71, 479, 120, 121, 122, 480, 481, 482, 483, 484, 70, 74, 485, 486, 487, 488, 309, 310, 311, 489, 320, 321, 322, 490, 385, 386, 387, 491, 492, 493, 494, 73, 72, 495, 377, 378, 379, 496, 381, 382, 383, 497, 235, 236, 237, 498, 239, 240, 241, 499, 500, 501, 502, 76, 75, 503, 504, 505, 506, 507, 508, 509, 510, 511, 512, 332, 333, 334, 513, 514, 515, 516, 517, 518, 519, 520, 722, 723, 724, 725, 726, 727, 728, 729, 730, 731, 732, 733, 774, 775, 780, 781, 782, 783, 784, 785, 786, 787, 788, 789, 790, 791, 792, 793, 794, 773, 776, 777, 778, 779] rfl (by decide +kernel)
set_option maxRecDepth 100000 in
theorem gL_law_X5_best : GoodIn wsL_law (wsV RL 69 RX5 yX5_best wsX5_best) := goodIn_app (goodIn_of _ (by decide +kernel)) ggL_law_X5_best
set_option maxRecDepth 100000 in
theorem ggL_law_X6_best : GoodIn wsL_law wsX6_best := goodIn_r _ [632, 633, 455, 456, 457, 5, 458, 170, 171, 92, 94, 91, 95, 96, 172, 173, 174, 175, 87, 340, 341, 342, 343, 344, 345, 346, 347, 348, 349, 350, 351, 352, 353, 354, 355, 538, 539, 540, 541, 100, 542, 543, 544, 545, 546, 547, 548, 549, 550, 551, 101, 102, 103, 552, 553, 554, 555, 634, 635, 636, 637, 638, 639, 640, 641, 567, 568, 569, 570, 556, 557, 558, 559, 99, 560, 561, 562, 563, 564, 565, 97, 566, 571, 572, 573, 574, 105, 575, 576, 577, 578, 392, 393, 394, 395, 93, 199, 579, 580, 581, 582, 583, 584, 585, 586, 396, 397, 398, 399, 587, 588, 589, 590, 591, 592, 593, 594, 107, 106, 595, 596, 597, 598, 599, 600, 601, 602, 603, 196, 604, 605, 606, 607, 734, 735, 736, 737, 738, 739, 740, 741, 742, 743, 744, 745, 746, 747, 748, 749, 750, 751, 752, 753, 754, 755, 756, 757, 758, 759, 760, 761, 762, 763, 764, 765, 766, 767, 768, 769, 770, 771, 772] rfl (by decide +kernel)
set_option maxRecDepth 100000 in
theorem gL_law_X6_best : GoodIn wsL_law (wsV RL 72 RX6 yX6_best wsX6_best) := goodIn_app (goodIn_of _ (by decide +kernel)) ggL_law_X6_best
set_option maxRecDepth 100000 in
theorem ggL_law_X5_chance : GoodIn wsL_law wsX5_chance := goodIn_r _ [645, 463, 36, 464, 19, 141, 465, 31, 466, 467, 2, 468, 407, 408, 409, 410, 15, 25, 411, 412, 413, 30, 414, 60, 62, 65, 66, 415, 416, 417, 14, 418, 43, 419, 155, 156, 157, 420, 151, 152, 18, 153, 47, 154, 48, 421, 422, 423, 24, 424, 52, 425, 53, 54, 55, 646, 647, 648, 649, 70, 74, 432, 475, 476, 477, 478, 71, 479, 120, 121, 122, 491, 492, 493, 494, 73, 72, 488, 309, 310, 311, 495, 377, 378, 379, 496, 381, 382, 383, 485, 486, 487, 497, 235, 236, 237, 498, 239, 240, 241, 521, 522, 523, 524, 525, 526, 505, 527, 528, 529, 530, 722, 723, 724, 725, 726, 727, 728, 729, 730, 731, 732, 733, 774, 775, 780, 781, 782, 783, 784, 785, 786, 787, 788, 789, 790, 791, 792, 793, 794, 773, 776, 777, 778, 779] rfl (by decide +kernel)
set_option maxRecDepth 100000 in
theorem gL_law_X5_chance : GoodIn wsL_law (wsV RL 73 RX5 yX5_chance wsX5_chance) := goodIn_app (goodIn_of _ (by decide +kernel)) ggL_law_X5_chance
set_option maxRecDepth 100000 in
theorem ggL_law_X6_chance : GoodIn wsL_law wsX6_chance := goodIn_r _ [653, 196, 195, 535, 171, 536, 537, 564, 565, 551, 99, 134, 135, 5, 136, 172, 173, 174, 175, 87, 538, 539, 540, 541, 100, 542, 543, 170, 544, 91, 545, 546, 547, 548, 549, 550, 101, 102, 103, 552, 553, 554, 555, 344, 345, 346, 347, 348, 349, 350, 351, 571, 572, 573, 574, 105, 575, 576, 577, 578, 392, 393, 394, 395, 93, 199, 352, 353, 354, 355, 92, 579, 580, 581, 582, 583, 584, 585, 586, 566, 396, 397, 398, 399, 587, 588, 589, 590, 608, 609, 610, 611, 612, 613, 734, 735, 736, 737, 738, 739, 740, 741, 742, 743, 744, 745, 746, 747, 748, 749, 750, 751, 752, 753, 754, 755, 756, 757, 758, 759, 760, 761, 762, 763, 764, 765, 766, 767, 768, 769, 770, 771, 772] rfl (by decide +kernel)
set_option maxRecDepth 100000 in
theorem gL_law_X6_chance : GoodIn wsL_law (wsV RL 76 RX6 yX6_chance wsX6_chance) := goodIn_app (goodIn_of _ (by decide +kernel)) ggL_law_X6_chance
set_option maxRecDepth 100000 in
theorem ggL_law_X5_deal : GoodIn wsL_law wsX5_deal := goodIn_r _ [657, 463, 19, 141, 464, 465, 31, 466, 467, 2, 468, 407, 408, 409, 410, 15, 25, 36, 411, 412, 413, 30, 414, 60, 62, 65, 66, 415, 416, 417, 14, 418, 43, 419, 155, 156, 157, 420, 151, 152, 18, 153, 47, 154, 48, 421, 422, 423, 24, 424, 52, 425, 53, 54, 55, 658, 659, 660, 661, 63, 67, 484, 432, 68, 662, 663, 664, 665, 511, 497, 235, 236, 237, 666, 163, 164, 165, 667, 247, 248, 249, 668, 625, 626, 627, 623, 427, 428, 429, 430, 431, 433, 324, 325, 326, 434, 227, 228, 229, 435, 436, 437, 438, 439, 440, 441, 442, 443, 444, 445, 446, 447, 448, 449, 450, 628, 470, 471, 472, 77, 473, 474, 475, 476, 477, 478, 71, 479, 120, 121, 122, 480, 481, 482, 483, 70, 74, 485, 486, 487, 488, 309, 310, 311, 489, 320, 321, 322, 490, 385, 386, 387, 491, 492, 493, 494, 73, 72, 495, 377, 378, 379, 496, 381, 382, 383, 498, 239, 240, 241, 499, 500, 501, 502, 76, 75, 503, 504, 505, 506, 507, 508, 509, 510, 512, 332, 333, 334, 513, 514, 515, 516, 517, 518, 519, 520, 521, 522, 523, 524, 525, 526, 527, 528, 529, 530, 722, 723, 724, 725, 726, 727, 728, 729, 730, 731, 732, 733, 774, 775, 780, 781, 782, 783, 784, 785, 786, 787, 788, 789, 790, 791, 792, 793, 794, 773, 776, 777, 778, 779] rfl (by decide +kernel)
set_option maxRecDepth 100000 in
theorem gL_law_X5_deal : GoodIn wsL_law (wsV RL 77 RX5 yX5_deal wsX5_deal) := goodIn_app (goodIn_of _ (by decide +kernel)) ggL_law_X5_deal
set_option maxRecDepth 100000 in
theorem ggL_law_X6_deal : GoodIn wsL_law wsX6_deal := goodIn_r _ [672, 535, 536, 537, 196, 99, 134, 135, 5, 136, 172, 173, 174, 175, 87, 673, 674, 675, 676, 100, 542, 543, 544, 545, 546, 551, 92, 599, 102, 547, 548, 549, 550, 101, 103, 552, 553, 554, 555, 567, 568, 569, 570, 352, 353, 354, 355, 634, 635, 636, 637, 633, 638, 639, 640, 641, 94, 95, 96, 556, 557, 558, 559, 560, 561, 562, 563, 564, 565, 97, 566, 571, 572, 573, 574, 105, 575, 576, 577, 578, 392, 393, 394, 395, 93, 199, 579, 580, 581, 582, 583, 584, 585, 586, 396, 397, 398, 399, 587, 588, 589, 590, 591, 592, 593, 594, 107, 106, 595, 596, 597, 598, 600, 601, 602, 603, 604, 605, 606, 607, 608, 609, 610, 611, 612, 613, 734, 735, 736, 737, 738, 739, 740, 741, 742, 743, 744, 745, 746, 747, 748, 749, 750, 751, 752, 753, 754, 755, 756, 757, 758, 759, 760, 761, 762, 763, 764, 765, 766, 767, 768, 769, 770, 771, 772] rfl (by decide +kernel)
set_option maxRecDepth 100000 in
theorem gL_law_X6_deal : GoodIn wsL_law (wsV RL 81 RX6 yX6_deal wsX6_deal) := goodIn_app (goodIn_of _ (by decide +kernel)) ggL_law_X6_deal
set_option maxRecDepth 100000 in
theorem ggL_law_X5_moved : GoodIn wsL_law wsX5_moved := goodIn_r _ [680, 463, 19, 31, 464, 141, 465, 116, 117, 2, 118, 466, 467, 468, 407, 408, 409, 410, 15, 25, 36, 411, 412, 413, 30, 414, 60, 62, 65, 66, 415, 416, 417, 14, 418, 43, 419, 155, 156, 157, 420, 151, 152, 18, 153, 47, 154, 48, 421, 422, 423, 24, 424, 52, 425, 53, 54, 55, 119, 120, 121, 122, 619, 620, 621, 622, 623, 427, 428, 429, 430, 431, 432, 433, 324, 325, 326, 434, 227, 228, 229, 435, 436, 437, 438, 439, 440, 441, 442, 443, 444, 445, 446, 447, 448, 449, 450, 681, 682, 683, 684, 68, 668, 625, 626, 627, 67, 628, 470, 471, 472, 77, 473, 474, 475, 476, 477, 478, 71, 479, 480, 481, 482, 483, 484, 70, 74, 485, 486, 487, 488, 309, 310, 311, 489, 320, 321, 322, 490, 385, 386, 387, 491, 492, 493, 494, 73, 72, 495, 377, 378, 379, 496, 381, 382, 383, 497, 235, 236, 237, 498, 239, 240, 241, 499, 500, 501, 502, 76, 75, 503, 504, 505, 506, 507, 508, 509, 510, 511, 512, 332, 333, 334, 513, 514, 515, 516, 517, 518, 519, 520, 521, 522, 523, 524, 525, 526, 527, 528, 529, 530, 722, 723, 724, 725, 726, 727, 728, 729, 730, 731, 732, 733, 774, 775, 780, 781, 782, 783, 784, 785, 786, 787, 788, 789, 790, 791, 792, 793, 794, 773, 776, 777, 778, 779] rfl (by decide +kernel)
set_option maxRecDepth 100000 in
theorem gL_law_X5_moved : GoodIn wsL_law (wsV RL 82 RX5 yX5_moved wsX5_moved) := goodIn_app (goodIn_of _ (by decide +kernel)) ggL_law_X5_moved
set_option maxRecDepth 100000 in
theorem ggL_law_X6_moved : GoodIn wsL_law wsX6_moved := goodIn_r _ [688, 131, 535, 87, 536, 537, 99, 134, 135, 5, 136, 455, 456, 457, 458, 170, 171, 92, 94, 91, 95, 96, 172, 173, 174, 175, 340, 341, 342, 343, 344, 345, 346, 347, 348, 349, 350, 351, 352, 353, 354, 355, 538, 539, 540, 541, 100, 542, 543, 544, 545, 546, 547, 548, 549, 550, 551, 101, 102, 103, 552, 553, 554, 555, 634, 635, 636, 637, 633, 638, 639, 640, 641, 567, 568, 569, 570, 556, 557, 558, 559, 560, 561, 562, 563, 564, 565, 97, 566, 571, 572, 573, 574, 105, 575, 576, 577, 578, 392, 393, 394, 395, 93, 199, 579, 580, 581, 582, 583, 584, 585, 586, 396, 397, 398, 399, 587, 588, 589, 590, 591, 592, 593, 594, 107, 106, 595, 596, 597, 598, 599, 600, 601, 602, 603, 196, 604, 605, 606, 607, 608, 609, 610, 611, 612, 613, 734, 735, 736, 737, 738, 739, 740, 741, 742, 743, 744, 745, 746, 747, 748, 749, 750, 751, 752, 753, 754, 755, 756, 757, 758, 759, 760, 761, 762, 763, 764, 765, 766, 767, 768, 769, 770, 771, 772] rfl (by decide +kernel)
set_option maxRecDepth 100000 in
theorem gL_law_X6_moved : GoodIn wsL_law (wsV RL 85 RX6 yX6_moved wsX6_moved) := goodIn_app (goodIn_of _ (by decide +kernel)) ggL_law_X6_moved
set_option maxRecDepth 100000 in
theorem ggL_law_X5_known : GoodIn wsL_law wsX5_known := goodIn_r _ [692, 463, 39, 464, 21, 141, 20, 465, 35, 27, 116, 117, 2, 118, 466, 467, 468, 119, 120, 121, 18, 122, 47, 522, 523, 524, 525, 526, 505, 527, 528, 529, 530, 327, 328, 329, 330, 693, 694, 695, 34, 696, 82, 697, 698, 148, 699, 700, 701, 702, 703, 704, 705, 706, 707, 708, 709, 710, 234, 235, 236, 237, 48, 238, 239, 240, 241, 722, 723, 724, 725, 726, 727, 728, 729, 730, 731, 732, 733, 774, 775, 795] rfl (by decide +kernel)
set_option maxRecDepth 100000 in
theorem gL_law_X5_known : GoodIn wsL_law (wsV RL 86 RX5 yX5_known wsX5_known) := goodIn_app (goodIn_of _ (by decide +kernel)) ggL_law_X5_known
set_option maxRecDepth 100000 in
theorem ggL_law_X6_known : GoodIn wsL_law wsX6_known := goodIn_r _ [714, 131, 535, 133, 536, 88, 537, 108, 109, 134, 135, 5, 136, 364, 365, 366, 367, 89, 715, 716, 717, 718, 110, 111, 90, 719, 720, 721, 360, 361, 362, 363, 608, 609, 610, 611, 612, 613, 734, 735, 736, 737, 738, 739, 740, 741, 742, 743, 744, 745, 746, 747, 748, 749, 750, 751, 752, 753, 754, 755, 756, 757, 758, 759, 760, 761, 762, 763, 764, 765, 766, 767, 768, 769, 770, 771, 772] rfl (by decide +kernel)
set_option maxRecDepth 100000 in
theorem gL_law_X6_known : GoodIn wsL_law (wsV RL 89 RX6 yX6_known wsX6_known) := goodIn_app (goodIn_of _ (by decide +kernel)) ggL_law_X6_known
