set_option maxRecDepth 20000 in
theorem in_wsL_law_r20 : GoodIn lw_tbl wsL_law_r20 := goodIn_r _ [826, 30, 827, 450, 451, 452, 453, 457, 458, 459, 454, 455, 456, 460, 461, 462, 463, 109, 511, 464, 466, 9, 467, 468] (by decide +kernel) (by decide +kernel)
set_option maxRecDepth 20000 in
theorem in_wsL_law_r21 : GoodIn lw_tbl wsL_law_r21 := goodIn_r _ [469, 471, 10, 472, 473, 475, 476, 477, 479, 480, 481, 482, 484, 11, 485, 486, 487, 488, 489, 490, 492, 12, 493, 494] (by decide +kernel) (by decide +kernel)
set_option maxRecDepth 20000 in
theorem in_wsL_law_r22 : GoodIn lw_tbl wsL_law_r22 := goodIn_r _ [495, 60, 496, 497, 499, 13, 500, 501, 502, 503, 505, 14, 506, 507, 509, 15, 510, 512, 513, 514, 515, 516, 517, 518] (by decide +kernel) (by decide +kernel)
set_option maxRecDepth 20000 in
theorem in_wsL_law_r23 : GoodIn lw_tbl wsL_law_r23 := goodIn_r _ [519, 520, 521, 828, 829, 830, 831, 832, 833, 834, 835, 837, 31, 838, 622, 623, 624, 625, 626, 839, 841, 32, 842, 616] (by decide +kernel) (by decide +kernel)
set_option maxRecDepth 20000 in
theorem in_wsL_law_r24 : GoodIn lw_tbl wsL_law_r24 := goodIn_r _ [843, 845, 33, 846, 847, 849, 34, 850, 851, 853, 35, 854, 629, 627, 628, 855, 857, 36, 858, 859, 861, 37, 862, 863] (by decide +kernel) (by decide +kernel)
set_option maxRecDepth 20000 in
theorem in_wsL_law_r25 : GoodIn lw_tbl wsL_law_r25 := goodIn_r _ [865, 38, 866, 867, 869, 39, 870, 871, 873, 40, 874, 875, 877, 41, 878, 879, 881, 42, 882, 883, 885, 43, 886, 887] (by decide +kernel) (by decide +kernel)
set_option maxRecDepth 20000 in
theorem in_wsL_law_r26 : GoodIn lw_tbl wsL_law_r26 := goodIn_r _ [888, 890, 44, 891, 892, 894, 45, 895, 896, 897, 898, 899, 900, 901, 522, 523, 524, 525, 138, 526, 527, 528, 529, 530] (by decide +kernel) (by decide +kernel)
set_option maxRecDepth 20000 in
theorem in_wsL_law_r27 : GoodIn lw_tbl wsL_law_r27 := goodIn_r _ [531, 532, 533, 534, 535, 902, 903, 904, 905, 630, 906, 908, 46, 909, 910, 912, 47, 913, 536, 537, 538, 539, 540, 541] (by decide +kernel) (by decide +kernel)
set_option maxRecDepth 20000 in
theorem in_wsL_law_r28 : GoodIn lw_tbl wsL_law_r28 := goodIn_r _ [542, 543, 914, 915, 916, 917, 544, 545, 546, 547, 548, 549, 550, 551, 552, 554, 16, 555, 556, 557, 558, 918, 919, 920] (by decide +kernel) (by decide +kernel)
set_option maxRecDepth 20000 in
theorem in_wsL_law_r29 : GoodIn lw_tbl wsL_law_r29 := goodIn_r _ [921, 922, 924, 48, 925, 559, 560, 561, 562, 563, 564, 565, 566, 926, 927, 928, 929, 567, 568, 569, 570, 571, 572, 573] (by decide +kernel) (by decide +kernel)
set_option maxRecDepth 20000 in
theorem in_wsL_law_r30 : GoodIn lw_tbl wsL_law_r30 := goodIn_r _ [574, 575, 576, 577, 578, 579, 581, 17, 582, 583, 584, 585, 586, 587, 588, 930, 931, 932, 933, 934, 936, 49, 937, 938] (by decide +kernel) (by decide +kernel)
set_option maxRecDepth 20000 in
theorem in_wsL_law_r31 : GoodIn lw_tbl wsL_law_r31 := goodIn_r _ [939, 940] (by decide +kernel) (by decide +kernel)
set_option maxRecDepth 20000 in
theorem in_wsX00 : GoodIn lw_tbl wsX00 := goodIn_r _ [90, 92] (by decide +kernel) (by decide +kernel)
set_option maxRecDepth 20000 in
theorem in_wsX10 : GoodIn lw_tbl wsX10 := goodIn_r _ [111, 113, 115, 117] (by decide +kernel) (by decide +kernel)
set_option maxRecDepth 20000 in
theorem in_wsX20 : GoodIn lw_tbl wsX20 := goodIn_r _ [189] (by decide +kernel) (by decide +kernel)
set_option maxRecDepth 20000 in
theorem in_wsX30 : GoodIn lw_tbl wsX30 := goodIn_r _ [148, 150, 152, 154, 156, 158, 160, 162, 164, 166, 168, 170, 172, 174, 176] (by decide +kernel) (by decide +kernel)
set_option maxRecDepth 20000 in
theorem in_wsX40 : GoodIn lw_tbl wsX40 := goodIn_r _ [76] (by decide +kernel) (by decide +kernel)
set_option maxRecDepth 20000 in
theorem in_wsX50 : GoodIn lw_tbl wsX50 := goodIn_r _ [204, 206, 208, 210, 212, 214, 216, 218, 220, 222, 224, 226] (by decide +kernel) (by decide +kernel)
set_option maxRecDepth 20000 in
theorem in_wsX60 : GoodIn lw_tbl wsX60 := goodIn_r _ [635, 637, 639, 641, 643, 645, 647, 649, 651, 653, 655, 657, 659, 661, 663, 665, 667, 669, 671, 673, 675, 677, 679, 681, 683, 685, 687, 689, 691, 693, 695, 697, 699, 701, 703, 705, 707, 709, 711] (by decide +kernel) (by decide +kernel)
theorem wsL_law_good : GoodIn lw_tbl wsL_law := goodIn_app (goodIn_app (goodIn_app (goodIn_app (goodIn_app (goodIn_app (goodIn_app (goodIn_app (goodIn_app in_wsL_law_r1 (goodIn_app in_wsL_law_r2 (goodIn_app in_wsL_law_r3 (goodIn_app in_wsL_law_r4 (goodIn_app in_wsL_law_r5 (goodIn_app in_wsL_law_r6 (goodIn_app in_wsL_law_r7 (goodIn_app in_wsL_law_r8 (goodIn_app in_wsL_law_r9 (goodIn_app in_wsL_law_r10 (goodIn_app in_wsL_law_r11 (goodIn_app in_wsL_law_r12 (goodIn_app in_wsL_law_r13 (goodIn_app in_wsL_law_r14 (goodIn_app in_wsL_law_r15 (goodIn_app in_wsL_law_r16 (goodIn_app in_wsL_law_r17 (goodIn_app in_wsL_law_r18 (goodIn_app in_wsL_law_r19 (goodIn_app in_wsL_law_r20 (goodIn_app in_wsL_law_r21 (goodIn_app in_wsL_law_r22 (goodIn_app in_wsL_law_r23 (goodIn_app in_wsL_law_r24 (goodIn_app in_wsL_law_r25 (goodIn_app in_wsL_law_r26 (goodIn_app in_wsL_law_r27 (goodIn_app in_wsL_law_r28 (goodIn_app in_wsL_law_r29 (goodIn_app in_wsL_law_r30 in_wsL_law_r31)))))))))))))))))))))))))))))) in_wsX50) in_wsX60) in_wsX40) in_wsX00) in_wsX10) in_wsX30) in_wsX20) (fun _ h => absurd h List.not_mem_nil)
theorem wsL_law_in : ∀ w ∈ wsL_law, w ∈ lw_tbl := fun w h => (wsL_law_good w h).1
