set_option maxRecDepth 20000 in
theorem in_wsL_law_r1 : GoodIn lw_tbl wsL_law_r1 := goodIn_r _ [61, 62, 51, 589, 590, 57, 63, 64, 65, 66, 67, 68, 69, 70, 52, 192, 80, 81, 53, 193, 194, 195, 95, 96] (by decide +kernel) (by decide +kernel)
set_option maxRecDepth 20000 in
theorem in_wsL_law_r2 : GoodIn lw_tbl wsL_law_r2 := goodIn_r _ [54, 196, 79, 197, 120, 121, 55, 198, 180, 181, 56, 199, 200, 201, 202, 203, 72, 73, 74, 75, 83, 84, 85, 86] (by decide +kernel) (by decide +kernel)
set_option maxRecDepth 20000 in
theorem in_wsL_law_r3 : GoodIn lw_tbl wsL_law_r3 := goodIn_r _ [87, 98, 99, 100, 101, 102, 105, 108, 123, 124, 125, 126, 132, 128, 133, 134, 130, 135, 136, 137, 139, 179, 140, 141] (by decide +kernel) (by decide +kernel)
set_option maxRecDepth 20000 in
theorem in_wsL_law_r4 : GoodIn lw_tbl wsL_law_r4 := goodIn_r _ [142, 143, 144, 145, 146, 147, 183, 184, 185, 186, 188, 591, 592, 593, 594, 596, 597, 598, 599, 601, 604, 605, 607, 608] (by decide +kernel) (by decide +kernel)
set_option maxRecDepth 20000 in
theorem in_wsL_law_r5 : GoodIn lw_tbl wsL_law_r5 := goodIn_r _ [609, 610, 611, 613, 614, 615, 617, 618, 595, 619, 620, 621, 631, 632, 633, 634, 229, 230, 231, 232, 233, 234, 235, 236] (by decide +kernel) (by decide +kernel)
set_option maxRecDepth 20000 in
theorem in_wsL_law_r6 : GoodIn lw_tbl wsL_law_r6 := goodIn_r _ [237, 238, 239, 240, 241, 242, 243, 714, 715, 716, 717, 718, 722, 600, 719, 720, 721, 244, 245, 246, 247, 88, 248, 249] (by decide +kernel) (by decide +kernel)
set_option maxRecDepth 20000 in
theorem in_wsL_law_r7 : GoodIn lw_tbl wsL_law_r7 := goodIn_r _ [250, 251, 252, 253, 58, 254, 255, 256, 257, 258, 259, 261, 260, 59, 262, 264, 0, 265, 266, 267, 268, 269, 723, 724] (by decide +kernel) (by decide +kernel)
set_option maxRecDepth 20000 in
theorem in_wsL_law_r8 : GoodIn lw_tbl wsL_law_r8 := goodIn_r _ [725, 726, 602, 603, 727, 729, 18, 730, 270, 271, 272, 273, 274, 275, 276, 277, 278, 280, 1, 281, 282, 284, 731, 732] (by decide +kernel) (by decide +kernel)
set_option maxRecDepth 20000 in
theorem in_wsL_law_r9 : GoodIn lw_tbl wsL_law_r9 := goodIn_r _ [733, 734, 735, 736, 737, 738, 739, 606, 286, 287, 288, 289, 740, 741, 742, 743, 744, 745, 290, 291, 292, 293, 746, 747] (by decide +kernel) (by decide +kernel)
set_option maxRecDepth 20000 in
theorem in_wsL_law_r10 : GoodIn lw_tbl wsL_law_r10 := goodIn_r _ [748, 749, 294, 295, 296, 297, 104, 298, 299, 300, 301, 302, 303, 304, 305, 307, 2, 308, 309, 310, 311, 312, 313, 314] (by decide +kernel) (by decide +kernel)
set_option maxRecDepth 20000 in
theorem in_wsL_law_r11 : GoodIn lw_tbl wsL_law_r11 := goodIn_r _ [315, 316, 317, 319, 3, 320, 321, 322, 323, 324, 750, 751, 752, 753, 754, 756, 19, 757, 325, 326, 327, 328, 329, 331] (by decide +kernel) (by decide +kernel)
set_option maxRecDepth 20000 in
theorem in_wsL_law_r12 : GoodIn lw_tbl wsL_law_r12 := goodIn_r _ [4, 332, 333, 334, 335, 336, 337, 338, 758, 759, 760, 761, 762, 764, 20, 765, 766, 767, 339, 340, 341, 342, 768, 769] (by decide +kernel) (by decide +kernel)
set_option maxRecDepth 20000 in
theorem in_wsL_law_r13 : GoodIn lw_tbl wsL_law_r13 := goodIn_r _ [770, 771, 343, 344, 345, 346, 772, 773, 774, 775, 347, 348, 349, 350, 107, 110, 351, 353, 5, 354, 355, 356, 357, 358] (by decide +kernel) (by decide +kernel)
set_option maxRecDepth 20000 in
theorem in_wsL_law_r14 : GoodIn lw_tbl wsL_law_r14 := goodIn_r _ [359, 360, 361, 362, 363, 364, 365, 366, 367, 368, 369, 370, 371, 372, 373, 374, 376, 6, 377, 378, 379, 380, 381, 776] (by decide +kernel) (by decide +kernel)
set_option maxRecDepth 20000 in
theorem in_wsL_law_r15 : GoodIn lw_tbl wsL_law_r15 := goodIn_r _ [777, 778, 779, 612, 780, 782, 21, 783, 784, 786, 22, 787, 788, 790, 23, 791, 792, 794, 24, 795, 796, 798, 25, 799] (by decide +kernel) (by decide +kernel)
set_option maxRecDepth 20000 in
theorem in_wsL_law_r16 : GoodIn lw_tbl wsL_law_r16 := goodIn_r _ [800, 802, 26, 803, 804, 806, 27, 807, 382, 383, 384, 385, 386, 388, 7, 389, 390, 391, 392, 393, 394, 395, 396, 397] (by decide +kernel) (by decide +kernel)
set_option maxRecDepth 20000 in
theorem in_wsL_law_r17 : GoodIn lw_tbl wsL_law_r17 := goodIn_r _ [398, 399, 400, 401, 808, 809, 810, 811, 812, 814, 28, 815, 816, 818, 29, 819, 402, 403, 404, 405, 406, 407, 408, 409] (by decide +kernel) (by decide +kernel)
set_option maxRecDepth 20000 in
theorem in_wsL_law_r18 : GoodIn lw_tbl wsL_law_r18 := goodIn_r _ [411, 8, 412, 413, 414, 415, 416, 417, 418, 419, 420, 421, 422, 423, 424, 425, 426, 427, 428, 429, 430, 431, 103, 106] (by decide +kernel) (by decide +kernel)
set_option maxRecDepth 20000 in
theorem in_wsL_law_r19 : GoodIn lw_tbl wsL_law_r19 := goodIn_r _ [89, 432, 433, 434, 435, 436, 437, 438, 439, 440, 441, 442, 443, 444, 445, 446, 447, 448, 449, 820, 821, 822, 823, 824] (by decide +kernel) (by decide +kernel)
