theorem dX5_draw_33 : decode cX5_draw 33 = .ok (.invokevirtual 101, 3) := by decide +kernel
theorem dX5_draw_36 : decode cX5_draw 36 = .ok (.ifCond .eq 7, 3) := by decide +kernel
theorem dX5_draw_39 : decode cX5_draw 39 = .ok (.sipush (-1003), 3) := by decide +kernel
theorem dX5_draw_42 : decode cX5_draw 42 = .ok (.ireturn, 1) := by decide +kernel
theorem dX5_draw_43 : decode cX5_draw 43 = .ok (.aload_n 0, 1) := by decide +kernel
theorem dX5_draw_44 : decode cX5_draw 44 = .ok (.invokevirtual 115, 3) := by decide +kernel
theorem dX5_draw_47 : decode cX5_draw 47 = .ok (.istore_n 2, 1) := by decide +kernel
theorem dX5_draw_48 : decode cX5_draw 48 = .ok (.aload_n 0, 1) := by decide +kernel
theorem dX5_draw_49 : decode cX5_draw 49 = .ok (.iload_n 2, 1) := by decide +kernel
theorem dX5_draw_50 : decode cX5_draw 50 = .ok (.iload_n 1, 1) := by decide +kernel
theorem dX5_draw_51 : decode cX5_draw 51 = .ok (.invokevirtual 109, 3) := by decide +kernel
theorem dX5_draw_54 : decode cX5_draw 54 = .ok (.iload_n 2, 1) := by decide +kernel
theorem dX5_draw_55 : decode cX5_draw 55 = .ok (.ireturn, 1) := by decide +kernel
theorem dX5_seed_0 : decode cX5_seed 0 = .ok (.aload_n 0, 1) := by decide +kernel
theorem dX5_seed_1 : decode cX5_seed 1 = .ok (.iload_n 1, 1) := by decide +kernel
theorem dX5_seed_2 : decode cX5_seed 2 = .ok (.i2l, 1) := by decide +kernel
theorem dX5_seed_3 : decode cX5_seed 3 = .ok (.putfield 61, 3) := by decide +kernel
theorem dX5_seed_6 : decode cX5_seed 6 = .ok (.iconst 1, 1) := by decide +kernel
theorem dX5_seed_7 : decode cX5_seed 7 = .ok (.ireturn, 1) := by decide +kernel
theorem dX5_lay_0 : decode cX5_lay 0 = .ok (.aload_n 0, 1) := by decide +kernel
theorem dX5_lay_1 : decode cX5_lay 1 = .ok (.getfield 32, 3) := by decide +kernel
theorem dX5_lay_4 : decode cX5_lay 4 = .ok (.getfield 112, 3) := by decide +kernel
theorem dX5_lay_7 : decode cX5_lay 7 = .ok (.aload_n 0, 1) := by decide +kernel
theorem dX5_lay_8 : decode cX5_lay 8 = .ok (.getfield 54, 3) := by decide +kernel
theorem dX5_lay_11 : decode cX5_lay 11 = .ok (.iconst (-1), 1) := by decide +kernel
theorem dX5_lay_12 : decode cX5_lay 12 = .ok (.if_icmp .ne 7, 3) := by decide +kernel
theorem dX5_lay_15 : decode cX5_lay 15 = .ok (.iconst 0, 1) := by decide +kernel
theorem dX5_lay_16 : decode cX5_lay 16 = .ok (.goto 4, 3) := by decide +kernel
theorem dX5_lay_19 : decode cX5_lay 19 = .ok (.iconst 1, 1) := by decide +kernel
theorem dX5_lay_20 : decode cX5_lay 20 = .ok (.iadd, 1) := by decide +kernel
theorem dX5_lay_21 : decode cX5_lay 21 = .ok (.istore_n 1, 1) := by decide +kernel
theorem dX5_lay_22 : decode cX5_lay 22 = .ok (.aload_n 0, 1) := by decide +kernel
theorem dX5_lay_23 : decode cX5_lay 23 = .ok (.invokevirtual 88, 3) := by decide +kernel
theorem dX5_lay_26 : decode cX5_lay 26 = .ok (.iload_n 1, 1) := by decide +kernel
theorem dX5_lay_27 : decode cX5_lay 27 = .ok (.ireturn, 1) := by decide +kernel
theorem dX5_told_0 : decode cX5_told 0 = .ok (.iload_n 1, 1) := by decide +kernel
theorem dX5_told_1 : decode cX5_told 1 = .ok (.tableswitch 152 0 8 #[51, 59, 64, 89, 111, 129, 134, 139, 144], 51) := by decide +kernel
theorem dX5_told_52 : decode cX5_told 52 = .ok (.aload_n 0, 1) := by decide +kernel
theorem dX5_told_53 : decode cX5_told 53 = .ok (.getfield 32, 3) := by decide +kernel
theorem dX5_told_56 : decode cX5_told 56 = .ok (.getfield 112, 3) := by decide +kernel
theorem dX5_told_59 : decode cX5_told 59 = .ok (.ireturn, 1) := by decide +kernel
theorem dX5_told_60 : decode cX5_told 60 = .ok (.aload_n 0, 1) := by decide +kernel
theorem dX5_told_61 : decode cX5_told 61 = .ok (.invokevirtual 119, 3) := by decide +kernel
theorem dX5_told_64 : decode cX5_told 64 = .ok (.ireturn, 1) := by decide +kernel
theorem dX5_told_65 : decode cX5_told 65 = .ok (.aload_n 0, 1) := by decide +kernel
theorem dX5_told_66 : decode cX5_told 66 = .ok (.getfield 10, 3) := by decide +kernel
theorem dX5_told_69 : decode cX5_told 69 = .ok (.aload_n 0, 1) := by decide +kernel
theorem dX5_told_70 : decode cX5_told 70 = .ok (.getfield 32, 3) := by decide +kernel
theorem dX5_told_73 : decode cX5_told 73 = .ok (.getfield 122, 3) := by decide +kernel
theorem dX5_told_76 : decode cX5_told 76 = .ok (.aload_n 0, 1) := by decide +kernel
theorem dX5_told_77 : decode cX5_told 77 = .ok (.getfield 32, 3) := by decide +kernel
theorem dX5_told_80 : decode cX5_told 80 = .ok (.getfield 125, 3) := by decide +kernel
theorem dX5_told_83 : decode cX5_told 83 = .ok (.invokevirtual 128, 3) := by decide +kernel
theorem dX5_told_86 : decode cX5_told 86 = .ok (.invokestatic 132, 3) := by decide +kernel
theorem dX5_told_89 : decode cX5_told 89 = .ok (.ireturn, 1) := by decide +kernel
theorem dX5_told_90 : decode cX5_told 90 = .ok (.aload_n 0, 1) := by decide +kernel
theorem dX5_told_91 : decode cX5_told 91 = .ok (.getfield 10, 3) := by decide +kernel
theorem dX5_told_94 : decode cX5_told 94 = .ok (.aload_n 0, 1) := by decide +kernel
theorem dX5_told_95 : decode cX5_told 95 = .ok (.invokevirtual 119, 3) := by decide +kernel
theorem dX5_told_98 : decode cX5_told 98 = .ok (.aload_n 0, 1) := by decide +kernel
theorem dX5_told_99 : decode cX5_told 99 = .ok (.getfield 32, 3) := by decide +kernel
theorem dX5_told_102 : decode cX5_told 102 = .ok (.getfield 112, 3) := by decide +kernel
theorem dX5_told_105 : decode cX5_told 105 = .ok (.invokevirtual 136, 3) := by decide +kernel
theorem dX5_told_108 : decode cX5_told 108 = .ok (.invokestatic 132, 3) := by decide +kernel
theorem dX5_told_111 : decode cX5_told 111 = .ok (.ireturn, 1) := by decide +kernel
theorem dX5_told_112 : decode cX5_told 112 = .ok (.aload_n 0, 1) := by decide +kernel
theorem dX5_told_113 : decode cX5_told 113 = .ok (.getfield 10, 3) := by decide +kernel
theorem dX5_told_116 : decode cX5_told 116 = .ok (.aload_n 0, 1) := by decide +kernel
theorem dX5_told_117 : decode cX5_told 117 = .ok (.getfield 32, 3) := by decide +kernel
theorem dX5_told_120 : decode cX5_told 120 = .ok (.getfield 122, 3) := by decide +kernel
theorem dX5_told_123 : decode cX5_told 123 = .ok (.invokevirtual 140, 3) := by decide +kernel
theorem dX5_told_126 : decode cX5_told 126 = .ok (.invokestatic 132, 3) := by decide +kernel
theorem dX5_told_129 : decode cX5_told 129 = .ok (.ireturn, 1) := by decide +kernel
theorem dX5_told_130 : decode cX5_told 130 = .ok (.aload_n 0, 1) := by decide +kernel
theorem dX5_told_131 : decode cX5_told 131 = .ok (.getfield 54, 3) := by decide +kernel
theorem dX5_told_134 : decode cX5_told 134 = .ok (.ireturn, 1) := by decide +kernel
theorem dX5_told_135 : decode cX5_told 135 = .ok (.aload_n 0, 1) := by decide +kernel
theorem dX5_told_136 : decode cX5_told 136 = .ok (.invokevirtual 143, 3) := by decide +kernel
theorem dX5_told_139 : decode cX5_told 139 = .ok (.ireturn, 1) := by decide +kernel
theorem dX5_told_140 : decode cX5_told 140 = .ok (.aload_n 0, 1) := by decide +kernel
theorem dX5_told_141 : decode cX5_told 141 = .ok (.getfield 58, 3) := by decide +kernel
theorem dX5_told_144 : decode cX5_told 144 = .ok (.ireturn, 1) := by decide +kernel
theorem dX5_told_145 : decode cX5_told 145 = .ok (.aload_n 0, 1) := by decide +kernel
theorem dX5_told_146 : decode cX5_told 146 = .ok (.getfield 23, 3) := by decide +kernel
theorem dX5_told_149 : decode cX5_told 149 = .ok (.getfield 91, 3) := by decide +kernel
theorem dX5_told_152 : decode cX5_told 152 = .ok (.ireturn, 1) := by decide +kernel
theorem dX5_told_153 : decode cX5_told 153 = .ok (.iload_n 1, 1) := by decide +kernel
theorem dX5_told_154 : decode cX5_told 154 = .ok (.bipush 10, 2) := by decide +kernel
theorem dX5_told_156 : decode cX5_told 156 = .ok (.if_icmp .lt 23, 3) := by decide +kernel
theorem dX5_told_159 : decode cX5_told 159 = .ok (.iload_n 1, 1) := by decide +kernel
theorem dX5_told_160 : decode cX5_told 160 = .ok (.bipush 22, 2) := by decide +kernel
theorem dX5_told_162 : decode cX5_told 162 = .ok (.if_icmp .ge 17, 3) := by decide +kernel
theorem dX5_told_165 : decode cX5_told 165 = .ok (.aload_n 0, 1) := by decide +kernel
theorem dX5_told_166 : decode cX5_told 166 = .ok (.getfield 32, 3) := by decide +kernel
theorem dX5_told_169 : decode cX5_told 169 = .ok (.iload_n 1, 1) := by decide +kernel
theorem dX5_told_170 : decode cX5_told 170 = .ok (.bipush 10, 2) := by decide +kernel
theorem dX5_told_172 : decode cX5_told 172 = .ok (.isub, 1) := by decide +kernel
theorem dX5_told_173 : decode cX5_told 173 = .ok (.invokevirtual 146, 3) := by decide +kernel
theorem dX5_told_176 : decode cX5_told 176 = .ok (.goto 6, 3) := by decide +kernel
theorem dX5_told_179 : decode cX5_told 179 = .ok (.sipush (-1001), 3) := by decide +kernel
theorem dX5_told_182 : decode cX5_told 182 = .ok (.ireturn, 1) := by decide +kernel
theorem dX5_settle_0 : decode cX5_settle 0 = .ok (.aload_n 0, 1) := by decide +kernel
theorem dX5_settle_1 : decode cX5_settle 1 = .ok (.getfield 32, 3) := by decide +kernel
theorem dX5_settle_4 : decode cX5_settle 4 = .ok (.getfield 112, 3) := by decide +kernel
theorem dX5_settle_7 : decode cX5_settle 7 = .ok (.ifCond .eq 11, 3) := by decide +kernel
theorem dX5_settle_10 : decode cX5_settle 10 = .ok (.aload_n 0, 1) := by decide +kernel
theorem dX5_settle_11 : decode cX5_settle 11 = .ok (.getfield 54, 3) := by decide +kernel
theorem dX5_settle_14 : decode cX5_settle 14 = .ok (.iconst (-1), 1) := by decide +kernel
theorem dX5_settle_15 : decode cX5_settle 15 = .ok (.if_icmp .ne 7, 3) := by decide +kernel
theorem dX5_settle_18 : decode cX5_settle 18 = .ok (.sipush (-1002), 3) := by decide +kernel
theorem dX5_settle_21 : decode cX5_settle 21 = .ok (.ireturn, 1) := by decide +kernel
theorem dX5_settle_22 : decode cX5_settle 22 = .ok (.aload_n 0, 1) := by decide +kernel
theorem dX5_settle_23 : decode cX5_settle 23 = .ok (.getfield 10, 3) := by decide +kernel
theorem dX5_settle_26 : decode cX5_settle 26 = .ok (.aload_n 0, 1) := by decide +kernel
theorem dX5_settle_27 : decode cX5_settle 27 = .ok (.getfield 32, 3) := by decide +kernel
theorem dX5_settle_30 : decode cX5_settle 30 = .ok (.getfield 122, 3) := by decide +kernel
theorem dX5_settle_33 : decode cX5_settle 33 = .ok (.invokevirtual 140, 3) := by decide +kernel
theorem dX5_settle_36 : decode cX5_settle 36 = .ok (.ifCond .eq 7, 3) := by decide +kernel
theorem dX5_settle_39 : decode cX5_settle 39 = .ok (.iconst 0, 1) := by decide +kernel
theorem dX5_settle_40 : decode cX5_settle 40 = .ok (.goto 7, 3) := by decide +kernel
theorem dX5_settle_43 : decode cX5_settle 43 = .ok (.aload_n 0, 1) := by decide +kernel
theorem dX5_settle_44 : decode cX5_settle 44 = .ok (.invokevirtual 149, 3) := by decide +kernel
theorem dX5_settle_47 : decode cX5_settle 47 = .ok (.istore_n 1, 1) := by decide +kernel
theorem dX5_settle_48 : decode cX5_settle 48 = .ok (.aload_n 0, 1) := by decide +kernel
theorem dX5_settle_49 : decode cX5_settle 49 = .ok (.getfield 10, 3) := by decide +kernel
theorem dX5_settle_52 : decode cX5_settle 52 = .ok (.aload_n 0, 1) := by decide +kernel
theorem dX5_settle_53 : decode cX5_settle 53 = .ok (.invokevirtual 119, 3) := by decide +kernel
theorem dX5_settle_56 : decode cX5_settle 56 = .ok (.aload_n 0, 1) := by decide +kernel
theorem dX5_settle_57 : decode cX5_settle 57 = .ok (.getfield 32, 3) := by decide +kernel
theorem dX5_settle_60 : decode cX5_settle 60 = .ok (.getfield 112, 3) := by decide +kernel
theorem dX5_settle_63 : decode cX5_settle 63 = .ok (.invokevirtual 136, 3) := by decide +kernel
theorem dX5_settle_66 : decode cX5_settle 66 = .ok (.istore_n 2, 1) := by decide +kernel
theorem dX5_settle_67 : decode cX5_settle 67 = .ok (.aload_n 0, 1) := by decide +kernel
theorem dX5_settle_68 : decode cX5_settle 68 = .ok (.getfield 10, 3) := by decide +kernel
theorem dX5_settle_71 : decode cX5_settle 71 = .ok (.aload_n 0, 1) := by decide +kernel
theorem dX5_settle_72 : decode cX5_settle 72 = .ok (.invokevirtual 119, 3) := by decide +kernel
theorem dX5_settle_75 : decode cX5_settle 75 = .ok (.iload_n 2, 1) := by decide +kernel
theorem dX5_settle_76 : decode cX5_settle 76 = .ok (.iload_n 1, 1) := by decide +kernel
theorem dX5_settle_77 : decode cX5_settle 77 = .ok (.invokevirtual 152, 3) := by decide +kernel
theorem dX5_settle_80 : decode cX5_settle 80 = .ok (.istore_n 3, 1) := by decide +kernel
theorem dX5_settle_81 : decode cX5_settle 81 = .ok (.aload_n 0, 1) := by decide +kernel
theorem dX5_settle_82 : decode cX5_settle 82 = .ok (.dup, 1) := by decide +kernel
theorem dX5_settle_83 : decode cX5_settle 83 = .ok (.getfield 58, 3) := by decide +kernel
theorem dX5_settle_86 : decode cX5_settle 86 = .ok (.iload_n 3, 1) := by decide +kernel
theorem dX5_settle_87 : decode cX5_settle 87 = .ok (.iadd, 1) := by decide +kernel
theorem dX5_settle_88 : decode cX5_settle 88 = .ok (.putfield 58, 3) := by decide +kernel
theorem dX5_settle_91 : decode cX5_settle 91 = .ok (.aload_n 0, 1) := by decide +kernel
theorem dX5_settle_92 : decode cX5_settle 92 = .ok (.invokevirtual 88, 3) := by decide +kernel
theorem dX5_settle_95 : decode cX5_settle 95 = .ok (.iload_n 3, 1) := by decide +kernel
theorem dX5_settle_96 : decode cX5_settle 96 = .ok (.ireturn, 1) := by decide +kernel
theorem dX5_there_0 : decode cX5_there 0 = .ok (.iload_n 1, 1) := by decide +kernel
theorem dX5_there_1 : decode cX5_there 1 = .ok (.invokestatic 156, 3) := by decide +kernel
theorem dX5_there_4 : decode cX5_there 4 = .ok (.ifCond .ne 7, 3) := by decide +kernel
theorem dX5_there_7 : decode cX5_there 7 = .ok (.sipush (-1001), 3) := by decide +kernel
theorem dX5_there_10 : decode cX5_there 10 = .ok (.ireturn, 1) := by decide +kernel
theorem dX5_there_11 : decode cX5_there 11 = .ok (.aload_n 0, 1) := by decide +kernel
theorem dX5_there_12 : decode cX5_there 12 = .ok (.invokevirtual 159, 3) := by decide +kernel
theorem dX5_there_15 : decode cX5_there 15 = .ok (.aload_n 0, 1) := by decide +kernel
theorem dX5_there_16 : decode cX5_there 16 = .ok (.getfield 43, 3) := by decide +kernel
theorem dX5_there_19 : decode cX5_there 19 = .ok (.iload_n 1, 1) := by decide +kernel
theorem dX5_there_20 : decode cX5_there 20 = .ok (.invokevirtual 162, 3) := by decide +kernel
theorem dX5_there_23 : decode cX5_there 23 = .ok (.invokestatic 132, 3) := by decide +kernel
theorem dX5_there_26 : decode cX5_there 26 = .ok (.ireturn, 1) := by decide +kernel
theorem dX5_worth_0 : decode cX5_worth 0 = .ok (.iload_n 1, 1) := by decide +kernel
theorem dX5_worth_1 : decode cX5_worth 1 = .ok (.invokestatic 156, 3) := by decide +kernel
theorem dX5_worth_4 : decode cX5_worth 4 = .ok (.ifCond .eq 10, 3) := by decide +kernel
theorem dX5_worth_7 : decode cX5_worth 7 = .ok (.iload_n 2, 1) := by decide +kernel
theorem dX5_worth_8 : decode cX5_worth 8 = .ok (.invokestatic 165, 3) := by decide +kernel
theorem dX5_worth_11 : decode cX5_worth 11 = .ok (.ifCond .ne 7, 3) := by decide +kernel
theorem dX5_worth_14 : decode cX5_worth 14 = .ok (.ldc2_w 168, 3) := by decide +kernel
theorem dX5_worth_17 : decode cX5_worth 17 = .ok (.lreturn, 1) := by decide +kernel
theorem dX5_worth_18 : decode cX5_worth 18 = .ok (.aload_n 0, 1) := by decide +kernel
theorem dX5_worth_19 : decode cX5_worth 19 = .ok (.invokevirtual 159, 3) := by decide +kernel
theorem dX5_worth_22 : decode cX5_worth 22 = .ok (.aload_n 0, 1) := by decide +kernel
theorem dX5_worth_23 : decode cX5_worth 23 = .ok (.getfield 43, 3) := by decide +kernel
theorem dX5_worth_26 : decode cX5_worth 26 = .ok (.iload_n 1, 1) := by decide +kernel
theorem dX5_worth_27 : decode cX5_worth 27 = .ok (.invokevirtual 162, 3) := by decide +kernel
theorem dX5_worth_30 : decode cX5_worth 30 = .ok (.ifCond .ne 7, 3) := by decide +kernel
theorem dX5_worth_33 : decode cX5_worth 33 = .ok (.ldc2_w 170, 3) := by decide +kernel
theorem dX5_worth_36 : decode cX5_worth 36 = .ok (.lreturn, 1) := by decide +kernel
theorem dX5_worth_37 : decode cX5_worth 37 = .ok (.aload_n 0, 1) := by decide +kernel
theorem dX5_worth_38 : decode cX5_worth 38 = .ok (.getfield 19, 3) := by decide +kernel
theorem dX5_worth_41 : decode cX5_worth 41 = .ok (.getfield 91, 3) := by decide +kernel
theorem dX5_worth_44 : decode cX5_worth 44 = .ok (.bipush 12, 2) := by decide +kernel
theorem dX5_worth_46 : decode cX5_worth 46 = .ok (.if_icmp .le 7, 3) := by decide +kernel
theorem dX5_worth_49 : decode cX5_worth 49 = .ok (.ldc2_w 172, 3) := by decide +kernel
theorem dX5_worth_52 : decode cX5_worth 52 = .ok (.lreturn, 1) := by decide +kernel
theorem dX5_worth_53 : decode cX5_worth 53 = .ok (.aload_n 0, 1) := by decide +kernel
theorem dX5_worth_54 : decode cX5_worth 54 = .ok (.getfield 43, 3) := by decide +kernel
theorem dX5_worth_57 : decode cX5_worth 57 = .ok (.iload_n 1, 1) := by decide +kernel
theorem dX5_worth_58 : decode cX5_worth 58 = .ok (.invokevirtual 174, 3) := by decide +kernel
theorem dX5_worth_61 : decode cX5_worth 61 = .ok (.aload_n 0, 1) := by decide +kernel
theorem dX5_worth_62 : decode cX5_worth 62 = .ok (.getfield 19, 3) := by decide +kernel
theorem dX5_worth_65 : decode cX5_worth 65 = .ok (.getfield 91, 3) := by decide +kernel
theorem dX5_worth_68 : decode cX5_worth 68 = .ok (.invokestatic 178, 3) := by decide +kernel
theorem dX5_worth_71 : decode cX5_worth 71 = .ok (.iload_n 2, 1) := by decide +kernel
theorem dX5_worth_72 : decode cX5_worth 72 = .ok (.invokestatic 181, 3) := by decide +kernel
theorem dX5_worth_75 : decode cX5_worth 75 = .ok (.lreturn, 1) := by decide +kernel
theorem dX5_best_0 : decode cX5_best 0 = .ok (.aload_n 0, 1) := by decide +kernel
theorem dX5_best_1 : decode cX5_best 1 = .ok (.invokevirtual 159, 3) := by decide +kernel
theorem dX5_best_4 : decode cX5_best 4 = .ok (.aload_n 0, 1) := by decide +kernel
theorem dX5_best_5 : decode cX5_best 5 = .ok (.getfield 43, 3) := by decide +kernel
theorem dX5_best_8 : decode cX5_best 8 = .ok (.invokevirtual 185, 3) := by decide +kernel
theorem dX5_best_11 : decode cX5_best 11 = .ok (.ifCond .ne 7, 3) := by decide +kernel
theorem dX5_best_14 : decode cX5_best 14 = .ok (.sipush (-1002), 3) := by decide +kernel
theorem dX5_best_17 : decode cX5_best 17 = .ok (.ireturn, 1) := by decide +kernel
theorem dX5_best_18 : decode cX5_best 18 = .ok (.aload_n 0, 1) := by decide +kernel
theorem dX5_best_19 : decode cX5_best 19 = .ok (.getfield 19, 3) := by decide +kernel
theorem dX5_best_22 : decode cX5_best 22 = .ok (.getfield 91, 3) := by decide +kernel
theorem dX5_best_25 : decode cX5_best 25 = .ok (.bipush 12, 2) := by decide +kernel
theorem dX5_best_27 : decode cX5_best 27 = .ok (.if_icmp .le 7, 3) := by decide +kernel
theorem dX5_best_30 : decode cX5_best 30 = .ok (.sipush (-1004), 3) := by decide +kernel
theorem dX5_best_33 : decode cX5_best 33 = .ok (.ireturn, 1) := by decide +kernel
theorem dX5_best_34 : decode cX5_best 34 = .ok (.aload_n 0, 1) := by decide +kernel
theorem dX5_best_35 : decode cX5_best 35 = .ok (.getfield 43, 3) := by decide +kernel
theorem dX5_best_38 : decode cX5_best 38 = .ok (.invokevirtual 188, 3) := by decide +kernel
theorem dX5_best_41 : decode cX5_best 41 = .ok (.aload_n 0, 1) := by decide +kernel
theorem dX5_best_42 : decode cX5_best 42 = .ok (.getfield 43, 3) := by decide +kernel
theorem dX5_best_45 : decode cX5_best 45 = .ok (.getfield 191, 3) := by decide +kernel
theorem dX5_best_48 : decode cX5_best 48 = .ok (.ireturn, 1) := by decide +kernel
theorem dX5_chance_0 : decode cX5_chance 0 = .ok (.iload_n 1, 1) := by decide +kernel
theorem dX5_chance_1 : decode cX5_chance 1 = .ok (.ifCond .lt 21, 3) := by decide +kernel
theorem dX5_chance_4 : decode cX5_chance 4 = .ok (.iload_n 1, 1) := by decide +kernel
theorem dX5_chance_5 : decode cX5_chance 5 = .ok (.iconst 1, 1) := by decide +kernel
theorem dX5_chance_6 : decode cX5_chance 6 = .ok (.if_icmp .eq 16, 3) := by decide +kernel
theorem dX5_chance_9 : decode cX5_chance 9 = .ok (.iload_n 1, 1) := by decide +kernel
theorem dX5_chance_10 : decode cX5_chance 10 = .ok (.bipush 21, 2) := by decide +kernel
theorem dX5_chance_12 : decode cX5_chance 12 = .ok (.if_icmp .gt 10, 3) := by decide +kernel
theorem dX5_chance_15 : decode cX5_chance 15 = .ok (.iload_n 2, 1) := by decide +kernel
theorem dX5_chance_16 : decode cX5_chance 16 = .ok (.invokestatic 165, 3) := by decide +kernel
theorem dX5_chance_19 : decode cX5_chance 19 = .ok (.ifCond .ne 7, 3) := by decide +kernel
theorem dX5_chance_22 : decode cX5_chance 22 = .ok (.ldc2_w 168, 3) := by decide +kernel
theorem dX5_chance_25 : decode cX5_chance 25 = .ok (.lreturn, 1) := by decide +kernel
theorem dX5_chance_26 : decode cX5_chance 26 = .ok (.aload_n 0, 1) := by decide +kernel
theorem dX5_chance_27 : decode cX5_chance 27 = .ok (.getfield 54, 3) := by decide +kernel
theorem dX5_chance_30 : decode cX5_chance 30 = .ok (.iconst (-1), 1) := by decide +kernel
theorem dX5_chance_31 : decode cX5_chance 31 = .ok (.if_icmp .ne 7, 3) := by decide +kernel
theorem dX5_chance_34 : decode cX5_chance 34 = .ok (.ldc2_w 170, 3) := by decide +kernel
theorem dX5_chance_37 : decode cX5_chance 37 = .ok (.lreturn, 1) := by decide +kernel
theorem dX5_chance_38 : decode cX5_chance 38 = .ok (.aload_n 0, 1) := by decide +kernel
theorem dX5_chance_39 : decode cX5_chance 39 = .ok (.getfield 19, 3) := by decide +kernel
theorem dX5_chance_42 : decode cX5_chance 42 = .ok (.getfield 91, 3) := by decide +kernel
theorem dX5_chance_45 : decode cX5_chance 45 = .ok (.bipush 12, 2) := by decide +kernel
theorem dX5_chance_47 : decode cX5_chance 47 = .ok (.if_icmp .le 7, 3) := by decide +kernel
theorem dX5_chance_50 : decode cX5_chance 50 = .ok (.ldc2_w 172, 3) := by decide +kernel
theorem dX5_chance_53 : decode cX5_chance 53 = .ok (.lreturn, 1) := by decide +kernel
theorem dX5_chance_54 : decode cX5_chance 54 = .ok (.aload_n 0, 1) := by decide +kernel
theorem dX5_chance_55 : decode cX5_chance 55 = .ok (.invokevirtual 159, 3) := by decide +kernel
theorem dX5_chance_58 : decode cX5_chance 58 = .ok (.aload_n 0, 1) := by decide +kernel
theorem dX5_chance_59 : decode cX5_chance 59 = .ok (.getfield 43, 3) := by decide +kernel
theorem dX5_chance_62 : decode cX5_chance 62 = .ok (.iload_n 1, 1) := by decide +kernel
theorem dX5_chance_63 : decode cX5_chance 63 = .ok (.invokevirtual 194, 3) := by decide +kernel
theorem dX5_chance_66 : decode cX5_chance 66 = .ok (.aload_n 0, 1) := by decide +kernel
theorem dX5_chance_67 : decode cX5_chance 67 = .ok (.getfield 19, 3) := by decide +kernel
theorem dX5_chance_70 : decode cX5_chance 70 = .ok (.getfield 91, 3) := by decide +kernel
theorem dX5_chance_73 : decode cX5_chance 73 = .ok (.invokestatic 178, 3) := by decide +kernel
theorem dX5_chance_76 : decode cX5_chance 76 = .ok (.iload_n 2, 1) := by decide +kernel
theorem dX5_chance_77 : decode cX5_chance 77 = .ok (.invokestatic 181, 3) := by decide +kernel
theorem dX5_chance_80 : decode cX5_chance 80 = .ok (.lreturn, 1) := by decide +kernel
theorem dX5_deal_0 : decode cX5_deal 0 = .ok (.iload_n 1, 1) := by decide +kernel
theorem dX5_deal_1 : decode cX5_deal 1 = .ok (.invokestatic 165, 3) := by decide +kernel
theorem dX5_deal_4 : decode cX5_deal 4 = .ok (.ifCond .ne 7, 3) := by decide +kernel
theorem dX5_deal_7 : decode cX5_deal 7 = .ok (.ldc2_w 168, 3) := by decide +kernel
theorem dX5_deal_10 : decode cX5_deal 10 = .ok (.lreturn, 1) := by decide +kernel
theorem dX5_deal_11 : decode cX5_deal 11 = .ok (.aload_n 0, 1) := by decide +kernel
theorem dX5_deal_12 : decode cX5_deal 12 = .ok (.getfield 19, 3) := by decide +kernel
theorem dX5_deal_15 : decode cX5_deal 15 = .ok (.getfield 91, 3) := by decide +kernel
theorem dX5_deal_18 : decode cX5_deal 18 = .ok (.iconst 3, 1) := by decide +kernel
theorem dX5_deal_19 : decode cX5_deal 19 = .ok (.if_icmp .ge 7, 3) := by decide +kernel
theorem dX5_deal_22 : decode cX5_deal 22 = .ok (.ldc2_w 170, 3) := by decide +kernel
theorem dX5_deal_25 : decode cX5_deal 25 = .ok (.lreturn, 1) := by decide +kernel
theorem dX5_deal_26 : decode cX5_deal 26 = .ok (.aload_n 0, 1) := by decide +kernel
theorem dX5_deal_27 : decode cX5_deal 27 = .ok (.getfield 19, 3) := by decide +kernel
theorem dX5_deal_30 : decode cX5_deal 30 = .ok (.getfield 91, 3) := by decide +kernel
theorem dX5_deal_33 : decode cX5_deal 33 = .ok (.bipush 8, 2) := by decide +kernel
theorem dX5_deal_35 : decode cX5_deal 35 = .ok (.if_icmp .le 7, 3) := by decide +kernel
theorem dX5_deal_38 : decode cX5_deal 38 = .ok (.ldc2_w 172, 3) := by decide +kernel
theorem dX5_deal_41 : decode cX5_deal 41 = .ok (.lreturn, 1) := by decide +kernel
theorem dX5_deal_42 : decode cX5_deal 42 = .ok (.aload_n 0, 1) := by decide +kernel
theorem dX5_deal_43 : decode cX5_deal 43 = .ok (.invokevirtual 159, 3) := by decide +kernel
theorem dX5_deal_46 : decode cX5_deal 46 = .ok (.aload_n 0, 1) := by decide +kernel
theorem dX5_deal_47 : decode cX5_deal 47 = .ok (.getfield 43, 3) := by decide +kernel
theorem dX5_deal_50 : decode cX5_deal 50 = .ok (.invokevirtual 197, 3) := by decide +kernel
theorem dX5_deal_53 : decode cX5_deal 53 = .ok (.aload_n 0, 1) := by decide +kernel
theorem dX5_deal_54 : decode cX5_deal 54 = .ok (.getfield 19, 3) := by decide +kernel
theorem dX5_deal_57 : decode cX5_deal 57 = .ok (.getfield 91, 3) := by decide +kernel
theorem dX5_deal_60 : decode cX5_deal 60 = .ok (.invokestatic 178, 3) := by decide +kernel
theorem dX5_deal_63 : decode cX5_deal 63 = .ok (.iload_n 1, 1) := by decide +kernel
theorem dX5_deal_64 : decode cX5_deal 64 = .ok (.invokestatic 181, 3) := by decide +kernel
theorem dX5_deal_67 : decode cX5_deal 67 = .ok (.lreturn, 1) := by decide +kernel
theorem dX5_moved_0 : decode cX5_moved 0 = .ok (.iload_n 1, 1) := by decide +kernel
theorem dX5_moved_1 : decode cX5_moved 1 = .ok (.invokestatic 69, 3) := by decide +kernel
theorem dX5_moved_4 : decode cX5_moved 4 = .ok (.ifCond .eq 10, 3) := by decide +kernel
theorem dX5_moved_7 : decode cX5_moved 7 = .ok (.iload_n 2, 1) := by decide +kernel
theorem dX5_moved_8 : decode cX5_moved 8 = .ok (.invokestatic 165, 3) := by decide +kernel
theorem dX5_moved_11 : decode cX5_moved 11 = .ok (.ifCond .ne 7, 3) := by decide +kernel
theorem dX5_moved_14 : decode cX5_moved 14 = .ok (.ldc2_w 168, 3) := by decide +kernel
theorem dX5_moved_17 : decode cX5_moved 17 = .ok (.lreturn, 1) := by decide +kernel
theorem dX5_moved_18 : decode cX5_moved 18 = .ok (.aload_n 0, 1) := by decide +kernel
theorem dX5_moved_19 : decode cX5_moved 19 = .ok (.invokevirtual 159, 3) := by decide +kernel
theorem dX5_moved_22 : decode cX5_moved 22 = .ok (.aload_n 0, 1) := by decide +kernel
theorem dX5_moved_23 : decode cX5_moved 23 = .ok (.getfield 19, 3) := by decide +kernel
theorem dX5_moved_26 : decode cX5_moved 26 = .ok (.iload_n 1, 1) := by decide +kernel
theorem dX5_moved_27 : decode cX5_moved 27 = .ok (.invokevirtual 73, 3) := by decide +kernel
theorem dX5_moved_30 : decode cX5_moved 30 = .ok (.ifCond .eq 13, 3) := by decide +kernel
theorem dX5_moved_33 : decode cX5_moved 33 = .ok (.aload_n 0, 1) := by decide +kernel
theorem dX5_moved_34 : decode cX5_moved 34 = .ok (.getfield 43, 3) := by decide +kernel
theorem dX5_moved_37 : decode cX5_moved 37 = .ok (.invokevirtual 185, 3) := by decide +kernel
theorem dX5_moved_40 : decode cX5_moved 40 = .ok (.ifCond .ne 7, 3) := by decide +kernel
theorem dX5_moved_43 : decode cX5_moved 43 = .ok (.ldc2_w 170, 3) := by decide +kernel
theorem dX5_moved_46 : decode cX5_moved 46 = .ok (.lreturn, 1) := by decide +kernel
theorem dX5_moved_47 : decode cX5_moved 47 = .ok (.aload_n 0, 1) := by decide +kernel
theorem dX5_moved_48 : decode cX5_moved 48 = .ok (.getfield 19, 3) := by decide +kernel
theorem dX5_moved_51 : decode cX5_moved 51 = .ok (.getfield 91, 3) := by decide +kernel
theorem dX5_moved_54 : decode cX5_moved 54 = .ok (.bipush 12, 2) := by decide +kernel
theorem dX5_moved_56 : decode cX5_moved 56 = .ok (.if_icmp .le 7, 3) := by decide +kernel
theorem dX5_moved_59 : decode cX5_moved 59 = .ok (.ldc2_w 172, 3) := by decide +kernel
theorem dX5_moved_62 : decode cX5_moved 62 = .ok (.lreturn, 1) := by decide +kernel
theorem dX5_moved_63 : decode cX5_moved 63 = .ok (.aload_n 0, 1) := by decide +kernel
theorem dX5_moved_64 : decode cX5_moved 64 = .ok (.getfield 43, 3) := by decide +kernel
theorem dX5_moved_67 : decode cX5_moved 67 = .ok (.iload_n 1, 1) := by decide +kernel
theorem dX5_moved_68 : decode cX5_moved 68 = .ok (.invokevirtual 201, 3) := by decide +kernel
theorem dX5_moved_71 : decode cX5_moved 71 = .ok (.aload_n 0, 1) := by decide +kernel
theorem dX5_moved_72 : decode cX5_moved 72 = .ok (.getfield 19, 3) := by decide +kernel
theorem dX5_moved_75 : decode cX5_moved 75 = .ok (.getfield 91, 3) := by decide +kernel
theorem dX5_moved_78 : decode cX5_moved 78 = .ok (.invokestatic 178, 3) := by decide +kernel
theorem dX5_moved_81 : decode cX5_moved 81 = .ok (.iload_n 2, 1) := by decide +kernel
theorem dX5_moved_82 : decode cX5_moved 82 = .ok (.invokestatic 181, 3) := by decide +kernel
theorem dX5_moved_85 : decode cX5_moved 85 = .ok (.lreturn, 1) := by decide +kernel
theorem dX5_known_0 : decode cX5_known 0 = .ok (.iload_n 1, 1) := by decide +kernel
theorem dX5_known_1 : decode cX5_known 1 = .ok (.invokestatic 69, 3) := by decide +kernel
theorem dX5_known_4 : decode cX5_known 4 = .ok (.ifCond .eq 10, 3) := by decide +kernel
theorem dX5_known_7 : decode cX5_known 7 = .ok (.iload_n 2, 1) := by decide +kernel
theorem dX5_known_8 : decode cX5_known 8 = .ok (.invokestatic 165, 3) := by decide +kernel
theorem dX5_known_11 : decode cX5_known 11 = .ok (.ifCond .ne 7, 3) := by decide +kernel
theorem dX5_known_14 : decode cX5_known 14 = .ok (.ldc2_w 168, 3) := by decide +kernel
theorem dX5_known_17 : decode cX5_known 17 = .ok (.lreturn, 1) := by decide +kernel
theorem dX5_known_18 : decode cX5_known 18 = .ok (.aload_n 0, 1) := by decide +kernel
theorem dX5_known_19 : decode cX5_known 19 = .ok (.getfield 65, 3) := by decide +kernel
theorem dX5_known_22 : decode cX5_known 22 = .ok (.ifCond .eq 7, 3) := by decide +kernel
theorem dX5_known_25 : decode cX5_known 25 = .ok (.ldc2_w 170, 3) := by decide +kernel
theorem dX5_known_28 : decode cX5_known 28 = .ok (.lreturn, 1) := by decide +kernel
theorem dX5_known_29 : decode cX5_known 29 = .ok (.aload_n 0, 1) := by decide +kernel
theorem dX5_known_30 : decode cX5_known 30 = .ok (.getfield 26, 3) := by decide +kernel
theorem dX5_known_33 : decode cX5_known 33 = .ok (.getfield 91, 3) := by decide +kernel
theorem dX5_known_36 : decode cX5_known 36 = .ok (.bipush 60, 2) := by decide +kernel
theorem dX5_known_38 : decode cX5_known 38 = .ok (.if_icmp .gt 15, 3) := by decide +kernel
theorem dX5_known_41 : decode cX5_known 41 = .ok (.aload_n 0, 1) := by decide +kernel
theorem dX5_known_42 : decode cX5_known 42 = .ok (.getfield 23, 3) := by decide +kernel
theorem dX5_known_45 : decode cX5_known 45 = .ok (.getfield 91, 3) := by decide +kernel
theorem dX5_known_48 : decode cX5_known 48 = .ok (.bipush 8, 2) := by decide +kernel
theorem dX5_known_50 : decode cX5_known 50 = .ok (.if_icmp .le 7, 3) := by decide +kernel
theorem dX5_known_53 : decode cX5_known 53 = .ok (.ldc2_w 172, 3) := by decide +kernel
theorem dX5_known_56 : decode cX5_known 56 = .ok (.lreturn, 1) := by decide +kernel
theorem dX5_known_57 : decode cX5_known 57 = .ok (.aload_n 0, 1) := by decide +kernel
theorem dX5_known_58 : decode cX5_known 58 = .ok (.getfield 26, 3) := by decide +kernel
theorem dX5_known_61 : decode cX5_known 61 = .ok (.iload_n 1, 1) := by decide +kernel
theorem dX5_known_62 : decode cX5_known 62 = .ok (.invokevirtual 73, 3) := by decide +kernel
theorem dX5_known_65 : decode cX5_known 65 = .ok (.istore_n 3, 1) := by decide +kernel
theorem dX5_known_66 : decode cX5_known 66 = .ok (.iload_n 3, 1) := by decide +kernel
theorem dX5_known_67 : decode cX5_known 67 = .ok (.ifCond .ne 10, 3) := by decide +kernel
theorem dX5_known_70 : decode cX5_known 70 = .ok (.lconst 0, 1) := by decide +kernel
theorem dX5_known_71 : decode cX5_known 71 = .ok (.lconst 1, 1) := by decide +kernel
theorem dX5_known_72 : decode cX5_known 72 = .ok (.iload_n 2, 1) := by decide +kernel
theorem dX5_known_73 : decode cX5_known 73 = .ok (.invokestatic 181, 3) := by decide +kernel
theorem dX5_known_76 : decode cX5_known 76 = .ok (.lreturn, 1) := by decide +kernel
theorem dX5_known_77 : decode cX5_known 77 = .ok (.aload_n 0, 1) := by decide +kernel
theorem dX5_known_78 : decode cX5_known 78 = .ok (.invokevirtual 143, 3) := by decide +kernel
theorem dX5_known_81 : decode cX5_known 81 = .ok (.istore 4, 2) := by decide +kernel
theorem dX5_known_83 : decode cX5_known 83 = .ok (.aload_n 0, 1) := by decide +kernel
theorem dX5_known_84 : decode cX5_known 84 = .ok (.getfield 50, 3) := by decide +kernel
theorem dX5_known_87 : decode cX5_known 87 = .ok (.aload_n 0, 1) := by decide +kernel
theorem dX5_known_88 : decode cX5_known 88 = .ok (.getfield 26, 3) := by decide +kernel
theorem dX5_known_91 : decode cX5_known 91 = .ok (.aload_n 0, 1) := by decide +kernel
theorem dX5_known_92 : decode cX5_known 92 = .ok (.getfield 36, 3) := by decide +kernel
theorem dX5_known_95 : decode cX5_known 95 = .ok (.aload_n 0, 1) := by decide +kernel
theorem dX5_known_96 : decode cX5_known 96 = .ok (.getfield 23, 3) := by decide +kernel
theorem dX5_known_99 : decode cX5_known 99 = .ok (.getfield 91, 3) := by decide +kernel
theorem dX5_known_102 : decode cX5_known 102 = .ok (.iload 4, 2) := by decide +kernel
theorem dX5_known_104 : decode cX5_known 104 = .ok (.invokevirtual 204, 3) := by decide +kernel
theorem dX5_known_107 : decode cX5_known 107 = .ok (.lstore 5, 2) := by decide +kernel
theorem dX5_known_109 : decode cX5_known 109 = .ok (.aload_n 0, 1) := by decide +kernel
theorem dX5_known_110 : decode cX5_known 110 = .ok (.getfield 26, 3) := by decide +kernel
theorem dX5_known_113 : decode cX5_known 113 = .ok (.iload_n 1, 1) := by decide +kernel
theorem dX5_known_114 : decode cX5_known 114 = .ok (.invokevirtual 208, 3) := by decide +kernel
theorem dX5_known_117 : decode cX5_known 117 = .ok (.pop, 1) := by decide +kernel
theorem dX5_known_118 : decode cX5_known 118 = .ok (.aload_n 0, 1) := by decide +kernel
theorem dX5_known_119 : decode cX5_known 119 = .ok (.getfield 50, 3) := by decide +kernel
theorem dX5_known_122 : decode cX5_known 122 = .ok (.aload_n 0, 1) := by decide +kernel
theorem dX5_known_123 : decode cX5_known 123 = .ok (.getfield 26, 3) := by decide +kernel
theorem dX5_known_126 : decode cX5_known 126 = .ok (.aload_n 0, 1) := by decide +kernel
theorem dX5_known_127 : decode cX5_known 127 = .ok (.getfield 36, 3) := by decide +kernel
theorem dX5_known_130 : decode cX5_known 130 = .ok (.aload_n 0, 1) := by decide +kernel
theorem dX5_known_131 : decode cX5_known 131 = .ok (.getfield 23, 3) := by decide +kernel
theorem dX5_known_134 : decode cX5_known 134 = .ok (.getfield 91, 3) := by decide +kernel
theorem dX5_known_137 : decode cX5_known 137 = .ok (.iload 4, 2) := by decide +kernel
theorem dX5_known_139 : decode cX5_known 139 = .ok (.invokevirtual 204, 3) := by decide +kernel
theorem dX5_known_142 : decode cX5_known 142 = .ok (.lstore 7, 2) := by decide +kernel
theorem dX5_known_144 : decode cX5_known 144 = .ok (.aload_n 0, 1) := by decide +kernel
theorem dX5_known_145 : decode cX5_known 145 = .ok (.getfield 26, 3) := by decide +kernel
theorem dX5_known_148 : decode cX5_known 148 = .ok (.iload_n 1, 1) := by decide +kernel
theorem dX5_known_149 : decode cX5_known 149 = .ok (.invokevirtual 211, 3) := by decide +kernel
theorem dX5_known_152 : decode cX5_known 152 = .ok (.iload_n 3, 1) := by decide +kernel
theorem dX5_known_153 : decode cX5_known 153 = .ok (.i2l, 1) := by decide +kernel
theorem dX5_known_154 : decode cX5_known 154 = .ok (.lload 7, 2) := by decide +kernel
theorem dX5_known_156 : decode cX5_known 156 = .ok (.lmul, 1) := by decide +kernel
theorem dX5_known_157 : decode cX5_known 157 = .ok (.lload 5, 2) := by decide +kernel
theorem dX5_known_159 : decode cX5_known 159 = .ok (.iload_n 2, 1) := by decide +kernel
theorem dX5_known_160 : decode cX5_known 160 = .ok (.invokestatic 181, 3) := by decide +kernel
theorem dX5_known_163 : decode cX5_known 163 = .ok (.lreturn, 1) := by decide +kernel
theorem dX5_isRank_0 : decode cX5_isRank 0 = .ok (.iload_n 0, 1) := by decide +kernel
theorem dX5_isRank_1 : decode cX5_isRank 1 = .ok (.iconst 1, 1) := by decide +kernel
theorem dX5_isRank_2 : decode cX5_isRank 2 = .ok (.if_icmp .lt 13, 3) := by decide +kernel
theorem dX5_isRank_5 : decode cX5_isRank 5 = .ok (.iload_n 0, 1) := by decide +kernel
theorem dX5_isRank_6 : decode cX5_isRank 6 = .ok (.bipush 10, 2) := by decide +kernel
theorem dX5_isRank_8 : decode cX5_isRank 8 = .ok (.if_icmp .gt 7, 3) := by decide +kernel
theorem dX5_isRank_11 : decode cX5_isRank 11 = .ok (.iconst 1, 1) := by decide +kernel
theorem dX5_isRank_12 : decode cX5_isRank 12 = .ok (.goto 4, 3) := by decide +kernel
theorem dX5_isRank_15 : decode cX5_isRank 15 = .ok (.iconst 0, 1) := by decide +kernel
theorem dX5_isRank_16 : decode cX5_isRank 16 = .ok (.ireturn, 1) := by decide +kernel
theorem dX5_isGoal_0 : decode cX5_isGoal 0 = .ok (.iload_n 0, 1) := by decide +kernel
theorem dX5_isGoal_1 : decode cX5_isGoal 1 = .ok (.ifCond .lt 12, 3) := by decide +kernel
theorem dX5_isGoal_4 : decode cX5_isGoal 4 = .ok (.iload_n 0, 1) := by decide +kernel
theorem dX5_isGoal_5 : decode cX5_isGoal 5 = .ok (.iconst 2, 1) := by decide +kernel
theorem dX5_isGoal_6 : decode cX5_isGoal 6 = .ok (.if_icmp .gt 7, 3) := by decide +kernel
theorem dX5_isGoal_9 : decode cX5_isGoal 9 = .ok (.iconst 1, 1) := by decide +kernel
theorem dX5_isGoal_10 : decode cX5_isGoal 10 = .ok (.goto 4, 3) := by decide +kernel
theorem dX5_isGoal_13 : decode cX5_isGoal 13 = .ok (.iconst 0, 1) := by decide +kernel
theorem dX5_isGoal_14 : decode cX5_isGoal 14 = .ok (.ireturn, 1) := by decide +kernel
theorem dX5_isAct_0 : decode cX5_isAct 0 = .ok (.iload_n 0, 1) := by decide +kernel
theorem dX5_isAct_1 : decode cX5_isAct 1 = .ok (.ifCond .lt 12, 3) := by decide +kernel
theorem dX5_isAct_4 : decode cX5_isAct 4 = .ok (.iload_n 0, 1) := by decide +kernel
theorem dX5_isAct_5 : decode cX5_isAct 5 = .ok (.iconst 4, 1) := by decide +kernel
theorem dX5_isAct_6 : decode cX5_isAct 6 = .ok (.if_icmp .gt 7, 3) := by decide +kernel
theorem dX5_isAct_9 : decode cX5_isAct 9 = .ok (.iconst 1, 1) := by decide +kernel
theorem dX5_isAct_10 : decode cX5_isAct 10 = .ok (.goto 4, 3) := by decide +kernel
theorem dX5_isAct_13 : decode cX5_isAct 13 = .ok (.iconst 0, 1) := by decide +kernel
theorem dX5_isAct_14 : decode cX5_isAct 14 = .ok (.ireturn, 1) := by decide +kernel
theorem dX5_isPart_0 : decode cX5_isPart 0 = .ok (.iload_n 0, 1) := by decide +kernel
theorem dX5_isPart_1 : decode cX5_isPart 1 = .ok (.ifCond .eq 8, 3) := by decide +kernel
theorem dX5_isPart_4 : decode cX5_isPart 4 = .ok (.iload_n 0, 1) := by decide +kernel
theorem dX5_isPart_5 : decode cX5_isPart 5 = .ok (.iconst 1, 1) := by decide +kernel
theorem dX5_isPart_6 : decode cX5_isPart 6 = .ok (.if_icmp .ne 7, 3) := by decide +kernel
theorem dX5_isPart_9 : decode cX5_isPart 9 = .ok (.iconst 1, 1) := by decide +kernel
theorem dX5_isPart_10 : decode cX5_isPart 10 = .ok (.goto 4, 3) := by decide +kernel
theorem dX5_isPart_13 : decode cX5_isPart 13 = .ok (.iconst 0, 1) := by decide +kernel
theorem dX5_isPart_14 : decode cX5_isPart 14 = .ok (.ireturn, 1) := by decide +kernel
theorem dX5_asNumber_0 : decode cX5_asNumber 0 = .ok (.iload_n 0, 1) := by decide +kernel
theorem dX5_asNumber_1 : decode cX5_asNumber 1 = .ok (.ifCond .eq 7, 3) := by decide +kernel
theorem dX5_asNumber_4 : decode cX5_asNumber 4 = .ok (.iconst 1, 1) := by decide +kernel
theorem dX5_asNumber_5 : decode cX5_asNumber 5 = .ok (.goto 4, 3) := by decide +kernel
theorem dX5_asNumber_8 : decode cX5_asNumber 8 = .ok (.iconst 0, 1) := by decide +kernel
theorem dX5_asNumber_9 : decode cX5_asNumber 9 = .ok (.ireturn, 1) := by decide +kernel
theorem dX5_handValue_0 : decode cX5_handValue 0 = .ok (.aload_n 0, 1) := by decide +kernel
theorem dX5_handValue_1 : decode cX5_handValue 1 = .ok (.getfield 10, 3) := by decide +kernel
theorem dX5_handValue_4 : decode cX5_handValue 4 = .ok (.aload_n 0, 1) := by decide +kernel
theorem dX5_handValue_5 : decode cX5_handValue 5 = .ok (.getfield 32, 3) := by decide +kernel
theorem dX5_handValue_8 : decode cX5_handValue 8 = .ok (.getfield 122, 3) := by decide +kernel
theorem dX5_handValue_11 : decode cX5_handValue 11 = .ok (.aload_n 0, 1) := by decide +kernel
theorem dX5_handValue_12 : decode cX5_handValue 12 = .ok (.getfield 32, 3) := by decide +kernel
theorem dX5_handValue_15 : decode cX5_handValue 15 = .ok (.getfield 125, 3) := by decide +kernel
theorem dX5_handValue_18 : decode cX5_handValue 18 = .ok (.invokevirtual 214, 3) := by decide +kernel
theorem dX5_handValue_21 : decode cX5_handValue 21 = .ok (.ireturn, 1) := by decide +kernel
theorem dX5_clearTable_0 : decode cX5_clearTable 0 = .ok (.aload_n 0, 1) := by decide +kernel
theorem dX5_clearTable_1 : decode cX5_clearTable 1 = .ok (.getfield 32, 3) := by decide +kernel
theorem dX5_clearTable_4 : decode cX5_clearTable 4 = .ok (.invokevirtual 218, 3) := by decide +kernel
theorem dX5_clearTable_7 : decode cX5_clearTable 7 = .ok (.aload_n 0, 1) := by decide +kernel
theorem dX5_clearTable_8 : decode cX5_clearTable 8 = .ok (.iconst (-1), 1) := by decide +kernel
theorem dX5_clearTable_9 : decode cX5_clearTable 9 = .ok (.putfield 54, 3) := by decide +kernel
theorem dX5_clearTable_12 : decode cX5_clearTable 12 = .ok (.return_, 1) := by decide +kernel
theorem dX5_moveOut_0 : decode cX5_moveOut 0 = .ok (.aload_n 0, 1) := by decide +kernel
theorem dX5_moveOut_1 : decode cX5_moveOut 1 = .ok (.getfield 19, 3) := by decide +kernel
theorem dX5_moveOut_4 : decode cX5_moveOut 4 = .ok (.iload_n 1, 1) := by decide +kernel
theorem dX5_moveOut_5 : decode cX5_moveOut 5 = .ok (.invokevirtual 208, 3) := by decide +kernel
theorem dX5_moveOut_8 : decode cX5_moveOut 8 = .ok (.pop, 1) := by decide +kernel
theorem dX5_moveOut_9 : decode cX5_moveOut 9 = .ok (.aload_n 0, 1) := by decide +kernel
theorem dX5_moveOut_10 : decode cX5_moveOut 10 = .ok (.getfield 23, 3) := by decide +kernel
theorem dX5_moveOut_13 : decode cX5_moveOut 13 = .ok (.iload_n 1, 1) := by decide +kernel
theorem dX5_moveOut_14 : decode cX5_moveOut 14 = .ok (.invokevirtual 211, 3) := by decide +kernel
theorem dX5_moveOut_17 : decode cX5_moveOut 17 = .ok (.return_, 1) := by decide +kernel
theorem dX5_bring_0 : decode cX5_bring 0 = .ok (.iload_n 2, 1) := by decide +kernel
theorem dX5_bring_1 : decode cX5_bring 1 = .ok (.ifCond .ne 14, 3) := by decide +kernel
theorem dX5_bring_4 : decode cX5_bring 4 = .ok (.aload_n 0, 1) := by decide +kernel
theorem dX5_bring_5 : decode cX5_bring 5 = .ok (.getfield 32, 3) := by decide +kernel
theorem dX5_bring_8 : decode cX5_bring 8 = .ok (.iload_n 1, 1) := by decide +kernel
theorem dX5_bring_9 : decode cX5_bring 9 = .ok (.invokevirtual 219, 3) := by decide +kernel
theorem dX5_bring_12 : decode cX5_bring 12 = .ok (.goto 13, 3) := by decide +kernel
theorem dX5_bring_15 : decode cX5_bring 15 = .ok (.iload_n 2, 1) := by decide +kernel
theorem dX5_bring_16 : decode cX5_bring 16 = .ok (.iconst 1, 1) := by decide +kernel
theorem dX5_bring_17 : decode cX5_bring 17 = .ok (.if_icmp .ne 8, 3) := by decide +kernel
theorem dX5_bring_20 : decode cX5_bring 20 = .ok (.aload_n 0, 1) := by decide +kernel
theorem dX5_bring_21 : decode cX5_bring 21 = .ok (.iload_n 1, 1) := by decide +kernel
theorem dX5_bring_22 : decode cX5_bring 22 = .ok (.putfield 54, 3) := by decide +kernel
theorem dX5_bring_25 : decode cX5_bring 25 = .ok (.return_, 1) := by decide +kernel
theorem dX5_drawnRank_0 : decode cX5_drawnRank 0 = .ok (.aload_n 0, 1) := by decide +kernel
theorem dX5_drawnRank_1 : decode cX5_drawnRank 1 = .ok (.getfield 19, 3) := by decide +kernel
theorem dX5_drawnRank_4 : decode cX5_drawnRank 4 = .ok (.getfield 91, 3) := by decide +kernel
theorem dX5_drawnRank_7 : decode cX5_drawnRank 7 = .ok (.ifCond .gt 5, 3) := by decide +kernel
theorem dX5_drawnRank_10 : decode cX5_drawnRank 10 = .ok (.iconst (-1), 1) := by decide +kernel
theorem dX5_drawnRank_11 : decode cX5_drawnRank 11 = .ok (.ireturn, 1) := by decide +kernel
theorem dX5_drawnRank_12 : decode cX5_drawnRank 12 = .ok (.aload_n 0, 1) := by decide +kernel
theorem dX5_drawnRank_13 : decode cX5_drawnRank 13 = .ok (.aload_n 0, 1) := by decide +kernel
theorem dX5_drawnRank_14 : decode cX5_drawnRank 14 = .ok (.getfield 61, 3) := by decide +kernel
theorem dX5_drawnRank_17 : decode cX5_drawnRank 17 = .ok (.ldc2_w 220, 3) := by decide +kernel
theorem dX5_drawnRank_20 : decode cX5_drawnRank 20 = .ok (.lmul, 1) := by decide +kernel
theorem dX5_drawnRank_21 : decode cX5_drawnRank 21 = .ok (.ldc2_w 222, 3) := by decide +kernel
theorem dX5_drawnRank_24 : decode cX5_drawnRank 24 = .ok (.ladd, 1) := by decide +kernel
theorem dX5_drawnRank_25 : decode cX5_drawnRank 25 = .ok (.putfield 61, 3) := by decide +kernel
theorem dX5_drawnRank_28 : decode cX5_drawnRank 28 = .ok (.aload_n 0, 1) := by decide +kernel
theorem dX5_drawnRank_29 : decode cX5_drawnRank 29 = .ok (.getfield 19, 3) := by decide +kernel
theorem dX5_drawnRank_32 : decode cX5_drawnRank 32 = .ok (.aload_n 0, 1) := by decide +kernel
theorem dX5_drawnRank_33 : decode cX5_drawnRank 33 = .ok (.getfield 61, 3) := by decide +kernel
theorem dX5_drawnRank_36 : decode cX5_drawnRank 36 = .ok (.bipush 33, 2) := by decide +kernel
theorem dX5_drawnRank_38 : decode cX5_drawnRank 38 = .ok (.lushr, 1) := by decide +kernel
theorem dX5_drawnRank_39 : decode cX5_drawnRank 39 = .ok (.aload_n 0, 1) := by decide +kernel
theorem dX5_drawnRank_40 : decode cX5_drawnRank 40 = .ok (.getfield 19, 3) := by decide +kernel
theorem dX5_drawnRank_43 : decode cX5_drawnRank 43 = .ok (.getfield 91, 3) := by decide +kernel
theorem dX5_drawnRank_46 : decode cX5_drawnRank 46 = .ok (.i2l, 1) := by decide +kernel
theorem dX5_drawnRank_47 : decode cX5_drawnRank 47 = .ok (.lrem, 1) := by decide +kernel
theorem dX5_drawnRank_48 : decode cX5_drawnRank 48 = .ok (.l2i, 1) := by decide +kernel
theorem dX5_drawnRank_49 : decode cX5_drawnRank 49 = .ok (.invokevirtual 224, 3) := by decide +kernel
theorem dX5_drawnRank_52 : decode cX5_drawnRank 52 = .ok (.istore_n 1, 1) := by decide +kernel
theorem dX5_drawnRank_53 : decode cX5_drawnRank 53 = .ok (.aload_n 0, 1) := by decide +kernel
theorem dX5_drawnRank_54 : decode cX5_drawnRank 54 = .ok (.iload_n 1, 1) := by decide +kernel
theorem dX5_drawnRank_55 : decode cX5_drawnRank 55 = .ok (.invokevirtual 105, 3) := by decide +kernel
theorem dX5_drawnRank_58 : decode cX5_drawnRank 58 = .ok (.iload_n 1, 1) := by decide +kernel
theorem dX5_drawnRank_59 : decode cX5_drawnRank 59 = .ok (.ireturn, 1) := by decide +kernel
theorem dX5_playHouse_0 : decode cX5_playHouse 0 = .ok (.aload_n 0, 1) := by decide +kernel
theorem dX5_playHouse_1 : decode cX5_playHouse 1 = .ok (.getfield 54, 3) := by decide +kernel
theorem dX5_playHouse_4 : decode cX5_playHouse 4 = .ok (.istore_n 1, 1) := by decide +kernel
theorem dX5_playHouse_5 : decode cX5_playHouse 5 = .ok (.aload_n 0, 1) := by decide +kernel
theorem dX5_playHouse_6 : decode cX5_playHouse 6 = .ok (.getfield 54, 3) := by decide +kernel
theorem dX5_playHouse_9 : decode cX5_playHouse 9 = .ok (.iconst 1, 1) := by decide +kernel
theorem dX5_playHouse_10 : decode cX5_playHouse 10 = .ok (.if_icmp .ne 7, 3) := by decide +kernel
theorem dX5_playHouse_13 : decode cX5_playHouse 13 = .ok (.iconst 1, 1) := by decide +kernel
theorem dX5_playHouse_14 : decode cX5_playHouse 14 = .ok (.goto 4, 3) := by decide +kernel
theorem dX5_playHouse_17 : decode cX5_playHouse 17 = .ok (.iconst 0, 1) := by decide +kernel
theorem dX5_playHouse_18 : decode cX5_playHouse 18 = .ok (.istore_n 2, 1) := by decide +kernel
theorem dX5_playHouse_19 : decode cX5_playHouse 19 = .ok (.aload_n 0, 1) := by decide +kernel
theorem dX5_playHouse_20 : decode cX5_playHouse 20 = .ok (.getfield 10, 3) := by decide +kernel
theorem dX5_playHouse_23 : decode cX5_playHouse 23 = .ok (.iload_n 1, 1) := by decide +kernel
theorem dX5_playHouse_24 : decode cX5_playHouse 24 = .ok (.iload_n 2, 1) := by decide +kernel
theorem dX5_playHouse_25 : decode cX5_playHouse 25 = .ok (.invokevirtual 214, 3) := by decide +kernel
theorem dX5_playHouse_28 : decode cX5_playHouse 28 = .ok (.istore_n 3, 1) := by decide +kernel
theorem dX5_playHouse_29 : decode cX5_playHouse 29 = .ok (.iconst 0, 1) := by decide +kernel
theorem dX5_playHouse_30 : decode cX5_playHouse 30 = .ok (.istore 4, 2) := by decide +kernel
theorem dX5_playHouse_32 : decode cX5_playHouse 32 = .ok (.iload 4, 2) := by decide +kernel
theorem dX5_playHouse_34 : decode cX5_playHouse 34 = .ok (.sipush 320, 3) := by decide +kernel
theorem dX5_playHouse_37 : decode cX5_playHouse 37 = .ok (.if_icmp .ge 77, 3) := by decide +kernel
theorem dX5_playHouse_40 : decode cX5_playHouse 40 = .ok (.aload_n 0, 1) := by decide +kernel
theorem dX5_playHouse_41 : decode cX5_playHouse 41 = .ok (.getfield 19, 3) := by decide +kernel
theorem dX5_playHouse_44 : decode cX5_playHouse 44 = .ok (.getfield 91, 3) := by decide +kernel
theorem dX5_playHouse_47 : decode cX5_playHouse 47 = .ok (.ifCond .le 67, 3) := by decide +kernel
theorem dX5_playHouse_50 : decode cX5_playHouse 50 = .ok (.aload_n 0, 1) := by decide +kernel
theorem dX5_playHouse_51 : decode cX5_playHouse 51 = .ok (.getfield 10, 3) := by decide +kernel
theorem dX5_playHouse_54 : decode cX5_playHouse 54 = .ok (.iload_n 3, 1) := by decide +kernel
theorem dX5_playHouse_55 : decode cX5_playHouse 55 = .ok (.iload_n 3, 1) := by decide +kernel
theorem dX5_playHouse_56 : decode cX5_playHouse 56 = .ok (.iload_n 1, 1) := by decide +kernel
theorem dX5_playHouse_57 : decode cX5_playHouse 57 = .ok (.if_icmp .eq 7, 3) := by decide +kernel
theorem dX5_playHouse_60 : decode cX5_playHouse 60 = .ok (.iconst 1, 1) := by decide +kernel
theorem dX5_playHouse_61 : decode cX5_playHouse 61 = .ok (.goto 4, 3) := by decide +kernel
theorem dX5_playHouse_64 : decode cX5_playHouse 64 = .ok (.iconst 0, 1) := by decide +kernel
theorem dX5_playHouse_65 : decode cX5_playHouse 65 = .ok (.invokevirtual 227, 3) := by decide +kernel
theorem dX5_playHouse_68 : decode cX5_playHouse 68 = .ok (.ifCond .eq 46, 3) := by decide +kernel
theorem dX5_playHouse_71 : decode cX5_playHouse 71 = .ok (.aload_n 0, 1) := by decide +kernel
theorem dX5_playHouse_72 : decode cX5_playHouse 72 = .ok (.invokevirtual 115, 3) := by decide +kernel
theorem dX5_playHouse_75 : decode cX5_playHouse 75 = .ok (.istore 5, 2) := by decide +kernel
theorem dX5_playHouse_77 : decode cX5_playHouse 77 = .ok (.iload_n 1, 1) := by decide +kernel
theorem dX5_playHouse_78 : decode cX5_playHouse 78 = .ok (.iload 5, 2) := by decide +kernel
theorem dX5_playHouse_80 : decode cX5_playHouse 80 = .ok (.iadd, 1) := by decide +kernel
theorem dX5_playHouse_81 : decode cX5_playHouse 81 = .ok (.istore_n 1, 1) := by decide +kernel
theorem dX5_playHouse_82 : decode cX5_playHouse 82 = .ok (.iload_n 2, 1) := by decide +kernel
theorem dX5_playHouse_83 : decode cX5_playHouse 83 = .ok (.ifCond .ne 9, 3) := by decide +kernel
theorem dX5_playHouse_86 : decode cX5_playHouse 86 = .ok (.iload 5, 2) := by decide +kernel
theorem dX5_playHouse_88 : decode cX5_playHouse 88 = .ok (.iconst 1, 1) := by decide +kernel
theorem dX5_playHouse_89 : decode cX5_playHouse 89 = .ok (.if_icmp .ne 7, 3) := by decide +kernel
theorem dX5_playHouse_92 : decode cX5_playHouse 92 = .ok (.iconst 1, 1) := by decide +kernel
theorem dX5_playHouse_93 : decode cX5_playHouse 93 = .ok (.goto 4, 3) := by decide +kernel
theorem dX5_playHouse_96 : decode cX5_playHouse 96 = .ok (.iconst 0, 1) := by decide +kernel
theorem dX5_playHouse_97 : decode cX5_playHouse 97 = .ok (.istore_n 2, 1) := by decide +kernel
theorem dX5_playHouse_98 : decode cX5_playHouse 98 = .ok (.aload_n 0, 1) := by decide +kernel
theorem dX5_playHouse_99 : decode cX5_playHouse 99 = .ok (.getfield 10, 3) := by decide +kernel
theorem dX5_playHouse_102 : decode cX5_playHouse 102 = .ok (.iload_n 1, 1) := by decide +kernel
theorem dX5_playHouse_103 : decode cX5_playHouse 103 = .ok (.iload_n 2, 1) := by decide +kernel
theorem dX5_playHouse_104 : decode cX5_playHouse 104 = .ok (.invokevirtual 214, 3) := by decide +kernel
theorem dX5_playHouse_107 : decode cX5_playHouse 107 = .ok (.istore_n 3, 1) := by decide +kernel
theorem dX5_playHouse_108 : decode cX5_playHouse 108 = .ok (.iinc 4 1, 3) := by decide +kernel
theorem dX5_playHouse_111 : decode cX5_playHouse 111 = .ok (.goto (-79), 3) := by decide +kernel
theorem dX5_playHouse_114 : decode cX5_playHouse 114 = .ok (.aload_n 0, 1) := by decide +kernel
theorem dX5_playHouse_115 : decode cX5_playHouse 115 = .ok (.getfield 10, 3) := by decide +kernel
theorem dX5_playHouse_118 : decode cX5_playHouse 118 = .ok (.iload_n 3, 1) := by decide +kernel
theorem dX5_playHouse_119 : decode cX5_playHouse 119 = .ok (.invokevirtual 230, 3) := by decide +kernel
theorem dX5_playHouse_122 : decode cX5_playHouse 122 = .ok (.ireturn, 1) := by decide +kernel
theorem dX5_countOfGone_0 : decode cX5_countOfGone 0 = .ok (.iconst 0, 1) := by decide +kernel
theorem dX5_countOfGone_1 : decode cX5_countOfGone 1 = .ok (.istore_n 1, 1) := by decide +kernel
theorem dX5_countOfGone_2 : decode cX5_countOfGone 2 = .ok (.iconst 1, 1) := by decide +kernel
theorem dX5_countOfGone_3 : decode cX5_countOfGone 3 = .ok (.istore_n 2, 1) := by decide +kernel
theorem dX5_countOfGone_4 : decode cX5_countOfGone 4 = .ok (.iload_n 2, 1) := by decide +kernel
theorem dX5_countOfGone_5 : decode cX5_countOfGone 5 = .ok (.bipush 10, 2) := by decide +kernel
theorem dX5_countOfGone_7 : decode cX5_countOfGone 7 = .ok (.if_icmp .gt 27, 3) := by decide +kernel
theorem dX5_countOfGone_10 : decode cX5_countOfGone 10 = .ok (.iload_n 1, 1) := by decide +kernel
theorem dX5_countOfGone_11 : decode cX5_countOfGone 11 = .ok (.aload_n 0, 1) := by decide +kernel
theorem dX5_countOfGone_12 : decode cX5_countOfGone 12 = .ok (.getfield 36, 3) := by decide +kernel
theorem dX5_countOfGone_15 : decode cX5_countOfGone 15 = .ok (.iload_n 2, 1) := by decide +kernel
theorem dX5_countOfGone_16 : decode cX5_countOfGone 16 = .ok (.iaload, 1) := by decide +kernel
theorem dX5_countOfGone_17 : decode cX5_countOfGone 17 = .ok (.aload_n 0, 1) := by decide +kernel
theorem dX5_countOfGone_18 : decode cX5_countOfGone 18 = .ok (.getfield 23, 3) := by decide +kernel
theorem dX5_countOfGone_21 : decode cX5_countOfGone 21 = .ok (.iload_n 2, 1) := by decide +kernel
theorem dX5_countOfGone_22 : decode cX5_countOfGone 22 = .ok (.invokevirtual 73, 3) := by decide +kernel
theorem dX5_countOfGone_25 : decode cX5_countOfGone 25 = .ok (.imul, 1) := by decide +kernel
theorem dX5_countOfGone_26 : decode cX5_countOfGone 26 = .ok (.iadd, 1) := by decide +kernel
theorem dX5_countOfGone_27 : decode cX5_countOfGone 27 = .ok (.istore_n 1, 1) := by decide +kernel
theorem dX5_countOfGone_28 : decode cX5_countOfGone 28 = .ok (.iinc 2 1, 3) := by decide +kernel
theorem dX5_countOfGone_31 : decode cX5_countOfGone 31 = .ok (.goto (-27), 3) := by decide +kernel
theorem dX5_countOfGone_34 : decode cX5_countOfGone 34 = .ok (.iload_n 1, 1) := by decide +kernel
theorem dX5_countOfGone_35 : decode cX5_countOfGone 35 = .ok (.ireturn, 1) := by decide +kernel
theorem dX5_lookAtTable_0 : decode cX5_lookAtTable 0 = .ok (.aload_n 0, 1) := by decide +kernel
theorem dX5_lookAtTable_1 : decode cX5_lookAtTable 1 = .ok (.getfield 43, 3) := by decide +kernel
theorem dX5_lookAtTable_4 : decode cX5_lookAtTable 4 = .ok (.aload_n 0, 1) := by decide +kernel
theorem dX5_lookAtTable_5 : decode cX5_lookAtTable 5 = .ok (.getfield 10, 3) := by decide +kernel
theorem dX5_lookAtTable_8 : decode cX5_lookAtTable 8 = .ok (.aload_n 0, 1) := by decide +kernel
theorem dX5_lookAtTable_9 : decode cX5_lookAtTable 9 = .ok (.getfield 19, 3) := by decide +kernel
theorem dX5_lookAtTable_12 : decode cX5_lookAtTable 12 = .ok (.aload_n 0, 1) := by decide +kernel
theorem dX5_lookAtTable_13 : decode cX5_lookAtTable 13 = .ok (.getfield 32, 3) := by decide +kernel
theorem dX5_lookAtTable_16 : decode cX5_lookAtTable 16 = .ok (.aload_n 0, 1) := by decide +kernel
theorem dX5_lookAtTable_17 : decode cX5_lookAtTable 17 = .ok (.getfield 54, 3) := by decide +kernel
theorem dX5_lookAtTable_20 : decode cX5_lookAtTable 20 = .ok (.invokevirtual 233, 3) := by decide +kernel
theorem dX5_lookAtTable_23 : decode cX5_lookAtTable 23 = .ok (.return_, 1) := by decide +kernel
theorem dX5_orders_0 : decode cX5_orders 0 = .ok (.iload_n 0, 1) := by decide +kernel
theorem dX5_orders_1 : decode cX5_orders 1 = .ok (.ifCond .lt 19, 3) := by decide +kernel
theorem dX5_orders_4 : decode cX5_orders 4 = .ok (.iload_n 0, 1) := by decide +kernel
theorem dX5_orders_5 : decode cX5_orders 5 = .ok (.getstatic 237, 3) := by decide +kernel
theorem dX5_orders_8 : decode cX5_orders 8 = .ok (.arraylength, 1) := by decide +kernel
theorem dX5_orders_9 : decode cX5_orders 9 = .ok (.if_icmp .ge 11, 3) := by decide +kernel
theorem dX5_orders_12 : decode cX5_orders 12 = .ok (.getstatic 237, 3) := by decide +kernel
theorem dX5_orders_15 : decode cX5_orders 15 = .ok (.iload_n 0, 1) := by decide +kernel
theorem dX5_orders_16 : decode cX5_orders 16 = .ok (.laload, 1) := by decide +kernel
theorem dX5_orders_17 : decode cX5_orders 17 = .ok (.goto 4, 3) := by decide +kernel
theorem dX5_orders_20 : decode cX5_orders 20 = .ok (.lconst 0, 1) := by decide +kernel
theorem dX5_orders_21 : decode cX5_orders 21 = .ok (.lreturn, 1) := by decide +kernel
theorem dX5_part_0 : decode cX5_part 0 = .ok (.lload_n 0, 1) := by decide +kernel
theorem dX5_part_1 : decode cX5_part 1 = .ok (.invokestatic 241, 3) := by decide +kernel
theorem dX5_part_4 : decode cX5_part 4 = .ok (.lload_n 2, 1) := by decide +kernel
theorem dX5_part_5 : decode cX5_part 5 = .ok (.invokestatic 247, 3) := by decide +kernel
theorem dX5_part_8 : decode cX5_part 8 = .ok (.lstore 5, 2) := by decide +kernel
theorem dX5_part_10 : decode cX5_part 10 = .ok (.lload 5, 2) := by decide +kernel
theorem dX5_part_12 : decode cX5_part 12 = .ok (.lconst 0, 1) := by decide +kernel
theorem dX5_part_13 : decode cX5_part 13 = .ok (.lcmp, 1) := by decide +kernel
theorem dX5_part_14 : decode cX5_part 14 = .ok (.ifCond .gt 5, 3) := by decide +kernel
theorem dX5_part_17 : decode cX5_part 17 = .ok (.lconst 0, 1) := by decide +kernel
theorem dX5_part_18 : decode cX5_part 18 = .ok (.lreturn, 1) := by decide +kernel
theorem dX5_part_19 : decode cX5_part 19 = .ok (.iload 4, 2) := by decide +kernel
theorem dX5_part_21 : decode cX5_part 21 = .ok (.ifCond .ne 10, 3) := by decide +kernel
theorem dX5_part_24 : decode cX5_part 24 = .ok (.lload_n 0, 1) := by decide +kernel
theorem dX5_part_25 : decode cX5_part 25 = .ok (.lload 5, 2) := by decide +kernel
theorem dX5_part_27 : decode cX5_part 27 = .ok (.ldiv, 1) := by decide +kernel
theorem dX5_part_28 : decode cX5_part 28 = .ok (.goto 7, 3) := by decide +kernel
theorem dX5_part_31 : decode cX5_part 31 = .ok (.lload_n 2, 1) := by decide +kernel
theorem dX5_part_32 : decode cX5_part 32 = .ok (.lload 5, 2) := by decide +kernel
theorem dX5_part_34 : decode cX5_part 34 = .ok (.ldiv, 1) := by decide +kernel
theorem dX5_part_35 : decode cX5_part 35 = .ok (.lreturn, 1) := by decide +kernel
theorem dX5_commonDivisor_0 : decode cX5_commonDivisor 0 = .ok (.lload_n 0, 1) := by decide +kernel
theorem dX5_commonDivisor_1 : decode cX5_commonDivisor 1 = .ok (.lstore 4, 2) := by decide +kernel
theorem dX5_commonDivisor_3 : decode cX5_commonDivisor 3 = .ok (.lload_n 2, 1) := by decide +kernel
theorem dX5_commonDivisor_4 : decode cX5_commonDivisor 4 = .ok (.lstore 6, 2) := by decide +kernel
theorem dX5_commonDivisor_6 : decode cX5_commonDivisor 6 = .ok (.iconst 0, 1) := by decide +kernel
theorem dX5_commonDivisor_7 : decode cX5_commonDivisor 7 = .ok (.istore 8, 2) := by decide +kernel
theorem dX5_commonDivisor_9 : decode cX5_commonDivisor 9 = .ok (.iload 8, 2) := by decide +kernel
theorem dX5_commonDivisor_11 : decode cX5_commonDivisor 11 = .ok (.sipush 200, 3) := by decide +kernel
theorem dX5_commonDivisor_14 : decode cX5_commonDivisor 14 = .ok (.if_icmp .ge 31, 3) := by decide +kernel
theorem dX5_commonDivisor_17 : decode cX5_commonDivisor 17 = .ok (.lload 6, 2) := by decide +kernel
theorem dX5_commonDivisor_19 : decode cX5_commonDivisor 19 = .ok (.lconst 0, 1) := by decide +kernel
theorem dX5_commonDivisor_20 : decode cX5_commonDivisor 20 = .ok (.lcmp, 1) := by decide +kernel
theorem dX5_commonDivisor_21 : decode cX5_commonDivisor 21 = .ok (.ifCond .eq 24, 3) := by decide +kernel
theorem dX5_commonDivisor_24 : decode cX5_commonDivisor 24 = .ok (.lload 4, 2) := by decide +kernel
theorem dX5_commonDivisor_26 : decode cX5_commonDivisor 26 = .ok (.lload 6, 2) := by decide +kernel
theorem dX5_commonDivisor_28 : decode cX5_commonDivisor 28 = .ok (.lrem, 1) := by decide +kernel
theorem dX5_commonDivisor_29 : decode cX5_commonDivisor 29 = .ok (.lstore 9, 2) := by decide +kernel
theorem dX5_commonDivisor_31 : decode cX5_commonDivisor 31 = .ok (.lload 6, 2) := by decide +kernel
theorem dX5_commonDivisor_33 : decode cX5_commonDivisor 33 = .ok (.lstore 4, 2) := by decide +kernel
theorem dX5_commonDivisor_35 : decode cX5_commonDivisor 35 = .ok (.lload 9, 2) := by decide +kernel
theorem dX5_commonDivisor_37 : decode cX5_commonDivisor 37 = .ok (.lstore 6, 2) := by decide +kernel
theorem dX5_commonDivisor_39 : decode cX5_commonDivisor 39 = .ok (.iinc 8 1, 3) := by decide +kernel
theorem dX5_commonDivisor_42 : decode cX5_commonDivisor 42 = .ok (.goto (-33), 3) := by decide +kernel
theorem dX5_commonDivisor_45 : decode cX5_commonDivisor 45 = .ok (.lload 4, 2) := by decide +kernel
theorem dX5_commonDivisor_47 : decode cX5_commonDivisor 47 = .ok (.lreturn, 1) := by decide +kernel
theorem dX6_init_0 : decode cX6_init 0 = .ok (.aload_n 0, 1) := by decide +kernel
theorem dX6_init_1 : decode cX6_init 1 = .ok (.invokespecial 1, 3) := by decide +kernel
theorem dX6_init_4 : decode cX6_init 4 = .ok (.aload_n 0, 1) := by decide +kernel
theorem dX6_init_5 : decode cX6_init 5 = .ok (.bipush 11, 2) := by decide +kernel
theorem dX6_init_7 : decode cX6_init 7 = .ok (.newarray .int, 2) := by decide +kernel
theorem dX6_init_9 : decode cX6_init 9 = .ok (.putfield 7, 3) := by decide +kernel
theorem dX6_init_12 : decode cX6_init 12 = .ok (.aload_n 0, 1) := by decide +kernel
theorem dX6_init_13 : decode cX6_init 13 = .ok (.bipush 11, 2) := by decide +kernel
theorem dX6_init_15 : decode cX6_init 15 = .ok (.newarray .int, 2) := by decide +kernel
theorem dX6_init_17 : decode cX6_init 17 = .ok (.putfield 13, 3) := by decide +kernel
theorem dX6_init_20 : decode cX6_init 20 = .ok (.aload_n 0, 1) := by decide +kernel
theorem dX6_init_21 : decode cX6_init 21 = .ok (.bipush 11, 2) := by decide +kernel
theorem dX6_init_23 : decode cX6_init 23 = .ok (.newarray .int, 2) := by decide +kernel
theorem dX6_init_25 : decode cX6_init 25 = .ok (.putfield 16, 3) := by decide +kernel
theorem dX6_init_28 : decode cX6_init 28 = .ok (.aload_n 0, 1) := by decide +kernel
theorem dX6_init_29 : decode cX6_init 29 = .ok (.bipush 11, 2) := by decide +kernel
theorem dX6_init_31 : decode cX6_init 31 = .ok (.newarray .int, 2) := by decide +kernel
theorem dX6_init_33 : decode cX6_init 33 = .ok (.putfield 19, 3) := by decide +kernel
theorem dX6_init_36 : decode cX6_init 36 = .ok (.aload_n 0, 1) := by decide +kernel
theorem dX6_init_37 : decode cX6_init 37 = .ok (.bipush 12, 2) := by decide +kernel
theorem dX6_init_39 : decode cX6_init 39 = .ok (.newarray .int, 2) := by decide +kernel
theorem dX6_init_41 : decode cX6_init 41 = .ok (.putfield 22, 3) := by decide +kernel
theorem dX6_init_44 : decode cX6_init 44 = .ok (.aload_n 0, 1) := by decide +kernel
theorem dX6_init_45 : decode cX6_init 45 = .ok (.bipush 21, 2) := by decide +kernel
theorem dX6_init_47 : decode cX6_init 47 = .ok (.putfield 25, 3) := by decide +kernel
theorem dX6_init_50 : decode cX6_init 50 = .ok (.aload_n 0, 1) := by decide +kernel
theorem dX6_init_51 : decode cX6_init 51 = .ok (.bipush 17, 2) := by decide +kernel
theorem dX6_init_53 : decode cX6_init 53 = .ok (.putfield 29, 3) := by decide +kernel
theorem dX6_init_56 : decode cX6_init 56 = .ok (.aload_n 0, 1) := by decide +kernel
theorem dX6_init_57 : decode cX6_init 57 = .ok (.iconst 1, 1) := by decide +kernel
theorem dX6_init_58 : decode cX6_init 58 = .ok (.putfield 32, 3) := by decide +kernel
theorem dX6_init_61 : decode cX6_init 61 = .ok (.aload_n 0, 1) := by decide +kernel
theorem dX6_init_62 : decode cX6_init 62 = .ok (.iconst 1, 1) := by decide +kernel
theorem dX6_init_63 : decode cX6_init 63 = .ok (.putfield 35, 3) := by decide +kernel
theorem dX6_init_66 : decode cX6_init 66 = .ok (.aload_n 0, 1) := by decide +kernel
theorem dX6_init_67 : decode cX6_init 67 = .ok (.iconst 1, 1) := by decide +kernel
theorem dX6_init_68 : decode cX6_init 68 = .ok (.putfield 38, 3) := by decide +kernel
theorem dX6_init_71 : decode cX6_init 71 = .ok (.aload_n 0, 1) := by decide +kernel
theorem dX6_init_72 : decode cX6_init 72 = .ok (.iconst 3, 1) := by decide +kernel
theorem dX6_init_73 : decode cX6_init 73 = .ok (.putfield 41, 3) := by decide +kernel
theorem dX6_init_76 : decode cX6_init 76 = .ok (.aload_n 0, 1) := by decide +kernel
theorem dX6_init_77 : decode cX6_init 77 = .ok (.lconst 1, 1) := by decide +kernel
theorem dX6_init_78 : decode cX6_init 78 = .ok (.putfield 44, 3) := by decide +kernel
theorem dX6_init_81 : decode cX6_init 81 = .ok (.aload_n 0, 1) := by decide +kernel
theorem dX6_init_82 : decode cX6_init 82 = .ok (.bipush 13, 2) := by decide +kernel
theorem dX6_init_84 : decode cX6_init 84 = .ok (.newarray .long, 2) := by decide +kernel
theorem dX6_init_86 : decode cX6_init 86 = .ok (.putfield 48, 3) := by decide +kernel
theorem dX6_init_89 : decode cX6_init 89 = .ok (.aload_n 0, 1) := by decide +kernel
theorem dX6_init_90 : decode cX6_init 90 = .ok (.bipush 11, 2) := by decide +kernel
theorem dX6_init_92 : decode cX6_init 92 = .ok (.newarray .int, 2) := by decide +kernel
theorem dX6_init_94 : decode cX6_init 94 = .ok (.putfield 52, 3) := by decide +kernel
theorem dX6_init_97 : decode cX6_init 97 = .ok (.aload_n 0, 1) := by decide +kernel
theorem dX6_init_98 : decode cX6_init 98 = .ok (.bipush 11, 2) := by decide +kernel
theorem dX6_init_100 : decode cX6_init 100 = .ok (.newarray .int, 2) := by decide +kernel
theorem dX6_init_102 : decode cX6_init 102 = .ok (.putfield 55, 3) := by decide +kernel
theorem dX6_init_105 : decode cX6_init 105 = .ok (.aload_n 0, 1) := by decide +kernel
theorem dX6_init_106 : decode cX6_init 106 = .ok (.sipush 2400, 3) := by decide +kernel
theorem dX6_init_109 : decode cX6_init 109 = .ok (.newarray .int, 2) := by decide +kernel
theorem dX6_init_111 : decode cX6_init 111 = .ok (.putfield 58, 3) := by decide +kernel
theorem dX6_init_114 : decode cX6_init 114 = .ok (.aload_n 0, 1) := by decide +kernel
theorem dX6_init_115 : decode cX6_init 115 = .ok (.sipush 2400, 3) := by decide +kernel
theorem dX6_init_118 : decode cX6_init 118 = .ok (.newarray .int, 2) := by decide +kernel
theorem dX6_init_120 : decode cX6_init 120 = .ok (.putfield 61, 3) := by decide +kernel
theorem dX6_init_123 : decode cX6_init 123 = .ok (.aload_n 0, 1) := by decide +kernel
theorem dX6_init_124 : decode cX6_init 124 = .ok (.ldc 64, 2) := by decide +kernel
theorem dX6_init_126 : decode cX6_init 126 = .ok (.newarray .long, 2) := by decide +kernel
theorem dX6_init_128 : decode cX6_init 128 = .ok (.putfield 65, 3) := by decide +kernel
theorem dX6_init_131 : decode cX6_init 131 = .ok (.aload_n 0, 1) := by decide +kernel
theorem dX6_init_132 : decode cX6_init 132 = .ok (.sipush 2400, 3) := by decide +kernel
theorem dX6_init_135 : decode cX6_init 135 = .ok (.newarray .long, 2) := by decide +kernel
theorem dX6_init_137 : decode cX6_init 137 = .ok (.putfield 68, 3) := by decide +kernel
theorem dX6_init_140 : decode cX6_init 140 = .ok (.aload_n 0, 1) := by decide +kernel
theorem dX6_init_141 : decode cX6_init 141 = .ok (.sipush 2400, 3) := by decide +kernel
theorem dX6_init_144 : decode cX6_init 144 = .ok (.newarray .long, 2) := by decide +kernel
theorem dX6_init_146 : decode cX6_init 146 = .ok (.putfield 71, 3) := by decide +kernel
theorem dX6_init_149 : decode cX6_init 149 = .ok (.aload_n 0, 1) := by decide +kernel
theorem dX6_init_150 : decode cX6_init 150 = .ok (.sipush 549, 3) := by decide +kernel
theorem dX6_init_153 : decode cX6_init 153 = .ok (.newarray .long, 2) := by decide +kernel
theorem dX6_init_155 : decode cX6_init 155 = .ok (.putfield 74, 3) := by decide +kernel
theorem dX6_init_158 : decode cX6_init 158 = .ok (.aload_n 0, 1) := by decide +kernel
theorem dX6_init_159 : decode cX6_init 159 = .ok (.sipush 549, 3) := by decide +kernel
theorem dX6_init_162 : decode cX6_init 162 = .ok (.newarray .long, 2) := by decide +kernel
theorem dX6_init_164 : decode cX6_init 164 = .ok (.putfield 77, 3) := by decide +kernel
theorem dX6_init_167 : decode cX6_init 167 = .ok (.aload_n 0, 1) := by decide +kernel
theorem dX6_init_168 : decode cX6_init 168 = .ok (.sipush 549, 3) := by decide +kernel
theorem dX6_init_171 : decode cX6_init 171 = .ok (.newarray .long, 2) := by decide +kernel
theorem dX6_init_173 : decode cX6_init 173 = .ok (.putfield 80, 3) := by decide +kernel
theorem dX6_init_176 : decode cX6_init 176 = .ok (.aload_n 0, 1) := by decide +kernel
theorem dX6_init_177 : decode cX6_init 177 = .ok (.sipush 549, 3) := by decide +kernel
theorem dX6_init_180 : decode cX6_init 180 = .ok (.newarray .long, 2) := by decide +kernel
theorem dX6_init_182 : decode cX6_init 182 = .ok (.putfield 83, 3) := by decide +kernel
theorem dX6_init_185 : decode cX6_init 185 = .ok (.lconst 1, 1) := by decide +kernel
theorem dX6_init_186 : decode cX6_init 186 = .ok (.lstore_n 1, 1) := by decide +kernel
theorem dX6_init_187 : decode cX6_init 187 = .ok (.iconst 0, 1) := by decide +kernel
theorem dX6_init_188 : decode cX6_init 188 = .ok (.istore_n 3, 1) := by decide +kernel
theorem dX6_init_189 : decode cX6_init 189 = .ok (.iload_n 3, 1) := by decide +kernel
theorem dX6_init_190 : decode cX6_init 190 = .ok (.bipush 12, 2) := by decide +kernel
theorem dX6_init_192 : decode cX6_init 192 = .ok (.if_icmp .gt 23, 3) := by decide +kernel
theorem dX6_init_195 : decode cX6_init 195 = .ok (.aload_n 0, 1) := by decide +kernel
theorem dX6_init_196 : decode cX6_init 196 = .ok (.getfield 48, 3) := by decide +kernel
theorem dX6_init_199 : decode cX6_init 199 = .ok (.iload_n 3, 1) := by decide +kernel
theorem dX6_init_200 : decode cX6_init 200 = .ok (.lload_n 1, 1) := by decide +kernel
theorem dX6_init_201 : decode cX6_init 201 = .ok (.lastore, 1) := by decide +kernel
theorem dX6_init_202 : decode cX6_init 202 = .ok (.lload_n 1, 1) := by decide +kernel
theorem dX6_init_203 : decode cX6_init 203 = .ok (.iload_n 3, 1) := by decide +kernel
theorem dX6_init_204 : decode cX6_init 204 = .ok (.i2l, 1) := by decide +kernel
theorem dX6_init_205 : decode cX6_init 205 = .ok (.lconst 1, 1) := by decide +kernel
theorem dX6_init_206 : decode cX6_init 206 = .ok (.ladd, 1) := by decide +kernel
theorem dX6_init_207 : decode cX6_init 207 = .ok (.lmul, 1) := by decide +kernel
theorem dX6_init_208 : decode cX6_init 208 = .ok (.lstore_n 1, 1) := by decide +kernel
theorem dX6_init_209 : decode cX6_init 209 = .ok (.iinc 3 1, 3) := by decide +kernel
theorem dX6_init_212 : decode cX6_init 212 = .ok (.goto (-23), 3) := by decide +kernel
theorem dX6_init_215 : decode cX6_init 215 = .ok (.return_, 1) := by decide +kernel
theorem dX6_in_0 : decode cX6_in 0 = .ok (.lload_n 0, 1) := by decide +kernel
theorem dX6_in_1 : decode cX6_in 1 = .ok (.lload_n 2, 1) := by decide +kernel
theorem dX6_in_2 : decode cX6_in 2 = .ok (.lcmp, 1) := by decide +kernel
theorem dX6_in_3 : decode cX6_in 3 = .ok (.ifCond .lt 14, 3) := by decide +kernel
theorem dX6_in_6 : decode cX6_in 6 = .ok (.lload_n 0, 1) := by decide +kernel
theorem dX6_in_7 : decode cX6_in 7 = .ok (.lload 4, 2) := by decide +kernel
theorem dX6_in_9 : decode cX6_in 9 = .ok (.lcmp, 1) := by decide +kernel
theorem dX6_in_10 : decode cX6_in 10 = .ok (.ifCond .gt 7, 3) := by decide +kernel
theorem dX6_in_13 : decode cX6_in 13 = .ok (.iconst 1, 1) := by decide +kernel
theorem dX6_in_14 : decode cX6_in 14 = .ok (.goto 4, 3) := by decide +kernel
theorem dX6_in_17 : decode cX6_in 17 = .ok (.iconst 0, 1) := by decide +kernel
theorem dX6_in_18 : decode cX6_in 18 = .ok (.ireturn, 1) := by decide +kernel
theorem dX6_all_0 : decode cX6_all 0 = .ok (.iconst 0, 1) := by decide +kernel
theorem dX6_all_1 : decode cX6_all 1 = .ok (.istore_n 1, 1) := by decide +kernel
theorem dX6_all_2 : decode cX6_all 2 = .ok (.iconst 1, 1) := by decide +kernel
theorem dX6_all_3 : decode cX6_all 3 = .ok (.istore_n 2, 1) := by decide +kernel
theorem dX6_all_4 : decode cX6_all 4 = .ok (.iload_n 2, 1) := by decide +kernel
theorem dX6_all_5 : decode cX6_all 5 = .ok (.bipush 11, 2) := by decide +kernel
theorem dX6_all_7 : decode cX6_all 7 = .ok (.if_icmp .ge 18, 3) := by decide +kernel
theorem dX6_all_10 : decode cX6_all 10 = .ok (.iload_n 1, 1) := by decide +kernel
theorem dX6_all_11 : decode cX6_all 11 = .ok (.aload_n 0, 1) := by decide +kernel
theorem dX6_all_12 : decode cX6_all 12 = .ok (.getfield 7, 3) := by decide +kernel
theorem dX6_all_15 : decode cX6_all 15 = .ok (.iload_n 2, 1) := by decide +kernel
theorem dX6_all_16 : decode cX6_all 16 = .ok (.iaload, 1) := by decide +kernel
theorem dX6_all_17 : decode cX6_all 17 = .ok (.iadd, 1) := by decide +kernel
theorem dX6_all_18 : decode cX6_all 18 = .ok (.istore_n 1, 1) := by decide +kernel
theorem dX6_all_19 : decode cX6_all 19 = .ok (.iinc 2 1, 3) := by decide +kernel
theorem dX6_all_22 : decode cX6_all 22 = .ok (.goto (-18), 3) := by decide +kernel
theorem dX6_all_25 : decode cX6_all 25 = .ok (.iload_n 1, 1) := by decide +kernel
theorem dX6_all_26 : decode cX6_all 26 = .ok (.ireturn, 1) := by decide +kernel
theorem dX6_shoe_0 : decode cX6_shoe 0 = .ok (.iload_n 1, 1) := by decide +kernel
theorem dX6_shoe_1 : decode cX6_shoe 1 = .ok (.i2l, 1) := by decide +kernel
theorem dX6_shoe_2 : decode cX6_shoe 2 = .ok (.lconst 1, 1) := by decide +kernel
theorem dX6_shoe_3 : decode cX6_shoe 3 = .ok (.ldc2_w 86, 3) := by decide +kernel
theorem dX6_shoe_6 : decode cX6_shoe 6 = .ok (.invokestatic 88, 3) := by decide +kernel
theorem dX6_shoe_9 : decode cX6_shoe 9 = .ok (.ifCond .eq 15, 3) := by decide +kernel
theorem dX6_shoe_12 : decode cX6_shoe 12 = .ok (.iload_n 2, 1) := by decide +kernel
theorem dX6_shoe_13 : decode cX6_shoe 13 = .ok (.i2l, 1) := by decide +kernel
theorem dX6_shoe_14 : decode cX6_shoe 14 = .ok (.lconst 0, 1) := by decide +kernel
theorem dX6_shoe_15 : decode cX6_shoe 15 = .ok (.ldc2_w 92, 3) := by decide +kernel
theorem dX6_shoe_18 : decode cX6_shoe 18 = .ok (.invokestatic 88, 3) := by decide +kernel
theorem dX6_shoe_21 : decode cX6_shoe 21 = .ok (.ifCond .ne 7, 3) := by decide +kernel
theorem dX6_shoe_24 : decode cX6_shoe 24 = .ok (.sipush (-1001), 3) := by decide +kernel
theorem dX6_shoe_27 : decode cX6_shoe 27 = .ok (.ireturn, 1) := by decide +kernel
theorem dX6_shoe_28 : decode cX6_shoe 28 = .ok (.aload_n 0, 1) := by decide +kernel
theorem dX6_shoe_29 : decode cX6_shoe 29 = .ok (.getfield 7, 3) := by decide +kernel
theorem dX6_shoe_32 : decode cX6_shoe 32 = .ok (.iload_n 1, 1) := by decide +kernel
theorem dX6_shoe_33 : decode cX6_shoe 33 = .ok (.iaload, 1) := by decide +kernel
theorem dX6_shoe_34 : decode cX6_shoe 34 = .ok (.istore_n 3, 1) := by decide +kernel
theorem dX6_shoe_35 : decode cX6_shoe 35 = .ok (.aload_n 0, 1) := by decide +kernel
theorem dX6_shoe_36 : decode cX6_shoe 36 = .ok (.getfield 7, 3) := by decide +kernel
theorem dX6_shoe_39 : decode cX6_shoe 39 = .ok (.iload_n 1, 1) := by decide +kernel
theorem dX6_shoe_40 : decode cX6_shoe 40 = .ok (.iload_n 2, 1) := by decide +kernel
theorem dX6_shoe_41 : decode cX6_shoe 41 = .ok (.iastore, 1) := by decide +kernel
theorem dX6_shoe_42 : decode cX6_shoe 42 = .ok (.aload_n 0, 1) := by decide +kernel
theorem dX6_shoe_43 : decode cX6_shoe 43 = .ok (.iconst 1, 1) := by decide +kernel
theorem dX6_shoe_44 : decode cX6_shoe 44 = .ok (.putfield 94, 3) := by decide +kernel
theorem dX6_shoe_47 : decode cX6_shoe 47 = .ok (.iload_n 3, 1) := by decide +kernel
theorem dX6_shoe_48 : decode cX6_shoe 48 = .ok (.ireturn, 1) := by decide +kernel
theorem dX6_fresh_0 : decode cX6_fresh 0 = .ok (.iconst 1, 1) := by decide +kernel
theorem dX6_fresh_1 : decode cX6_fresh 1 = .ok (.istore_n 1, 1) := by decide +kernel
theorem dX6_fresh_2 : decode cX6_fresh 2 = .ok (.iload_n 1, 1) := by decide +kernel
theorem dX6_fresh_3 : decode cX6_fresh 3 = .ok (.bipush 11, 2) := by decide +kernel
theorem dX6_fresh_5 : decode cX6_fresh 5 = .ok (.if_icmp .ge 28, 3) := by decide +kernel
theorem dX6_fresh_8 : decode cX6_fresh 8 = .ok (.aload_n 0, 1) := by decide +kernel
theorem dX6_fresh_9 : decode cX6_fresh 9 = .ok (.getfield 13, 3) := by decide +kernel
theorem dX6_fresh_12 : decode cX6_fresh 12 = .ok (.iload_n 1, 1) := by decide +kernel
theorem dX6_fresh_13 : decode cX6_fresh 13 = .ok (.aload_n 0, 1) := by decide +kernel
theorem dX6_fresh_14 : decode cX6_fresh 14 = .ok (.getfield 7, 3) := by decide +kernel
theorem dX6_fresh_17 : decode cX6_fresh 17 = .ok (.iload_n 1, 1) := by decide +kernel
theorem dX6_fresh_18 : decode cX6_fresh 18 = .ok (.iaload, 1) := by decide +kernel
theorem dX6_fresh_19 : decode cX6_fresh 19 = .ok (.iastore, 1) := by decide +kernel
theorem dX6_fresh_20 : decode cX6_fresh 20 = .ok (.aload_n 0, 1) := by decide +kernel
theorem dX6_fresh_21 : decode cX6_fresh 21 = .ok (.getfield 16, 3) := by decide +kernel
theorem dX6_fresh_24 : decode cX6_fresh 24 = .ok (.iload_n 1, 1) := by decide +kernel
theorem dX6_fresh_25 : decode cX6_fresh 25 = .ok (.iconst 0, 1) := by decide +kernel
theorem dX6_fresh_26 : decode cX6_fresh 26 = .ok (.iastore, 1) := by decide +kernel
theorem dX6_fresh_27 : decode cX6_fresh 27 = .ok (.iinc 1 1, 3) := by decide +kernel
theorem dX6_fresh_30 : decode cX6_fresh 30 = .ok (.goto (-28), 3) := by decide +kernel
theorem dX6_fresh_33 : decode cX6_fresh 33 = .ok (.aload_n 0, 1) := by decide +kernel
theorem dX6_fresh_34 : decode cX6_fresh 34 = .ok (.iconst 0, 1) := by decide +kernel
theorem dX6_fresh_35 : decode cX6_fresh 35 = .ok (.putfield 94, 3) := by decide +kernel
theorem dX6_fresh_38 : decode cX6_fresh 38 = .ok (.aload_n 0, 1) := by decide +kernel
theorem dX6_fresh_39 : decode cX6_fresh 39 = .ok (.iconst 0, 1) := by decide +kernel
theorem dX6_fresh_40 : decode cX6_fresh 40 = .ok (.putfield 98, 3) := by decide +kernel
theorem dX6_fresh_43 : decode cX6_fresh 43 = .ok (.aload_n 0, 1) := by decide +kernel
theorem dX6_fresh_44 : decode cX6_fresh 44 = .ok (.iconst 0, 1) := by decide +kernel
theorem dX6_fresh_45 : decode cX6_fresh 45 = .ok (.putfield 101, 3) := by decide +kernel
theorem dX6_fresh_48 : decode cX6_fresh 48 = .ok (.aload_n 0, 1) := by decide +kernel
theorem dX6_fresh_49 : decode cX6_fresh 49 = .ok (.invokevirtual 104, 3) := by decide +kernel
theorem dX6_fresh_52 : decode cX6_fresh 52 = .ok (.ireturn, 1) := by decide +kernel
theorem dX6_rule_0 : decode cX6_rule 0 = .ok (.iload_n 1, 1) := by decide +kernel
theorem dX6_rule_1 : decode cX6_rule 1 = .ok (.ifCond .ne 7, 3) := by decide +kernel
theorem dX6_rule_4 : decode cX6_rule 4 = .ok (.iload_n 2, 1) := by decide +kernel
theorem dX6_rule_5 : decode cX6_rule 5 = .ok (.goto 7, 3) := by decide +kernel
theorem dX6_rule_8 : decode cX6_rule 8 = .ok (.aload_n 0, 1) := by decide +kernel
theorem dX6_rule_9 : decode cX6_rule 9 = .ok (.getfield 25, 3) := by decide +kernel
theorem dX6_rule_12 : decode cX6_rule 12 = .ok (.istore_n 3, 1) := by decide +kernel
theorem dX6_rule_13 : decode cX6_rule 13 = .ok (.iload_n 1, 1) := by decide +kernel
theorem dX6_rule_14 : decode cX6_rule 14 = .ok (.iconst 1, 1) := by decide +kernel
theorem dX6_rule_15 : decode cX6_rule 15 = .ok (.if_icmp .ne 7, 3) := by decide +kernel
theorem dX6_rule_18 : decode cX6_rule 18 = .ok (.iload_n 2, 1) := by decide +kernel
theorem dX6_rule_19 : decode cX6_rule 19 = .ok (.goto 7, 3) := by decide +kernel
theorem dX6_rule_22 : decode cX6_rule 22 = .ok (.aload_n 0, 1) := by decide +kernel
theorem dX6_rule_23 : decode cX6_rule 23 = .ok (.getfield 29, 3) := by decide +kernel
theorem dX6_rule_26 : decode cX6_rule 26 = .ok (.istore 4, 2) := by decide +kernel
theorem dX6_rule_28 : decode cX6_rule 28 = .ok (.iload_n 1, 1) := by decide +kernel
theorem dX6_rule_29 : decode cX6_rule 29 = .ok (.iconst 2, 1) := by decide +kernel
theorem dX6_rule_30 : decode cX6_rule 30 = .ok (.if_icmp .ge 39, 3) := by decide +kernel
theorem dX6_rule_33 : decode cX6_rule 33 = .ok (.iload_n 3, 1) := by decide +kernel
theorem dX6_rule_34 : decode cX6_rule 34 = .ok (.i2l, 1) := by decide +kernel
theorem dX6_rule_35 : decode cX6_rule 35 = .ok (.ldc2_w 108, 3) := by decide +kernel
theorem dX6_rule_38 : decode cX6_rule 38 = .ok (.ldc2_w 110, 3) := by decide +kernel
theorem dX6_rule_41 : decode cX6_rule 41 = .ok (.invokestatic 88, 3) := by decide +kernel
theorem dX6_rule_44 : decode cX6_rule 44 = .ok (.ifCond .eq 21, 3) := by decide +kernel
theorem dX6_rule_47 : decode cX6_rule 47 = .ok (.iload 4, 2) := by decide +kernel
theorem dX6_rule_49 : decode cX6_rule 49 = .ok (.i2l, 1) := by decide +kernel
theorem dX6_rule_50 : decode cX6_rule 50 = .ok (.ldc2_w 86, 3) := by decide +kernel
theorem dX6_rule_53 : decode cX6_rule 53 = .ok (.iload_n 3, 1) := by decide +kernel
theorem dX6_rule_54 : decode cX6_rule 54 = .ok (.i2l, 1) := by decide +kernel
theorem dX6_rule_55 : decode cX6_rule 55 = .ok (.invokestatic 88, 3) := by decide +kernel
theorem dX6_rule_58 : decode cX6_rule 58 = .ok (.ifCond .eq 7, 3) := by decide +kernel
theorem dX6_rule_61 : decode cX6_rule 61 = .ok (.iconst 1, 1) := by decide +kernel
theorem dX6_rule_62 : decode cX6_rule 62 = .ok (.goto 34, 3) := by decide +kernel
theorem dX6_rule_65 : decode cX6_rule 65 = .ok (.iconst 0, 1) := by decide +kernel
theorem dX6_rule_66 : decode cX6_rule 66 = .ok (.goto 30, 3) := by decide +kernel
theorem dX6_rule_69 : decode cX6_rule 69 = .ok (.iload_n 1, 1) := by decide +kernel
theorem dX6_rule_70 : decode cX6_rule 70 = .ok (.bipush 6, 2) := by decide +kernel
theorem dX6_rule_72 : decode cX6_rule 72 = .ok (.if_icmp .ge 13, 3) := by decide +kernel
theorem dX6_rule_75 : decode cX6_rule 75 = .ok (.iload_n 2, 1) := by decide +kernel
theorem dX6_rule_76 : decode cX6_rule 76 = .ok (.i2l, 1) := by decide +kernel
theorem dX6_rule_77 : decode cX6_rule 77 = .ok (.lconst 0, 1) := by decide +kernel
theorem dX6_rule_78 : decode cX6_rule 78 = .ok (.lconst 1, 1) := by decide +kernel
theorem dX6_rule_79 : decode cX6_rule 79 = .ok (.invokestatic 88, 3) := by decide +kernel
theorem dX6_rule_82 : decode cX6_rule 82 = .ok (.goto 14, 3) := by decide +kernel
theorem dX6_rule_85 : decode cX6_rule 85 = .ok (.iload_n 2, 1) := by decide +kernel
theorem dX6_rule_86 : decode cX6_rule 86 = .ok (.i2l, 1) := by decide +kernel
theorem dX6_rule_87 : decode cX6_rule 87 = .ok (.ldc2_w 112, 3) := by decide +kernel
theorem dX6_rule_90 : decode cX6_rule 90 = .ok (.ldc2_w 114, 3) := by decide +kernel
theorem dX6_rule_93 : decode cX6_rule 93 = .ok (.invokestatic 88, 3) := by decide +kernel
theorem dX6_rule_96 : decode cX6_rule 96 = .ok (.istore 5, 2) := by decide +kernel
theorem dX6_rule_98 : decode cX6_rule 98 = .ok (.iload_n 1, 1) := by decide +kernel
theorem dX6_rule_99 : decode cX6_rule 99 = .ok (.i2l, 1) := by decide +kernel
theorem dX6_rule_100 : decode cX6_rule 100 = .ok (.lconst 0, 1) := by decide +kernel
theorem dX6_rule_101 : decode cX6_rule 101 = .ok (.ldc2_w 116, 3) := by decide +kernel
theorem dX6_rule_104 : decode cX6_rule 104 = .ok (.invokestatic 88, 3) := by decide +kernel
theorem dX6_rule_107 : decode cX6_rule 107 = .ok (.ifCond .eq 8, 3) := by decide +kernel
theorem dX6_rule_110 : decode cX6_rule 110 = .ok (.iload 5, 2) := by decide +kernel
theorem dX6_rule_112 : decode cX6_rule 112 = .ok (.ifCond .ne 7, 3) := by decide +kernel
theorem dX6_rule_115 : decode cX6_rule 115 = .ok (.sipush (-1001), 3) := by decide +kernel
theorem dX6_rule_118 : decode cX6_rule 118 = .ok (.ireturn, 1) := by decide +kernel
theorem dX6_rule_119 : decode cX6_rule 119 = .ok (.iconst 0, 1) := by decide +kernel
theorem dX6_rule_120 : decode cX6_rule 120 = .ok (.istore 6, 2) := by decide +kernel
theorem dX6_rule_122 : decode cX6_rule 122 = .ok (.iload_n 1, 1) := by decide +kernel
theorem dX6_rule_123 : decode cX6_rule 123 = .ok (.tableswitch 121 0 5 #[37, 51, 65, 79, 93, 107], 37) := by decide +kernel
theorem dX6_rule_160 : decode cX6_rule 160 = .ok (.aload_n 0, 1) := by decide +kernel
theorem dX6_rule_161 : decode cX6_rule 161 = .ok (.getfield 25, 3) := by decide +kernel
theorem dX6_rule_164 : decode cX6_rule 164 = .ok (.istore 6, 2) := by decide +kernel
theorem dX6_rule_166 : decode cX6_rule 166 = .ok (.aload_n 0, 1) := by decide +kernel
theorem dX6_rule_167 : decode cX6_rule 167 = .ok (.iload_n 2, 1) := by decide +kernel
theorem dX6_rule_168 : decode cX6_rule 168 = .ok (.putfield 25, 3) := by decide +kernel
theorem dX6_rule_171 : decode cX6_rule 171 = .ok (.goto 84, 3) := by decide +kernel
theorem dX6_rule_174 : decode cX6_rule 174 = .ok (.aload_n 0, 1) := by decide +kernel
theorem dX6_rule_175 : decode cX6_rule 175 = .ok (.getfield 29, 3) := by decide +kernel
theorem dX6_rule_178 : decode cX6_rule 178 = .ok (.istore 6, 2) := by decide +kernel
theorem dX6_rule_180 : decode cX6_rule 180 = .ok (.aload_n 0, 1) := by decide +kernel
theorem dX6_rule_181 : decode cX6_rule 181 = .ok (.iload_n 2, 1) := by decide +kernel
theorem dX6_rule_182 : decode cX6_rule 182 = .ok (.putfield 29, 3) := by decide +kernel
theorem dX6_rule_185 : decode cX6_rule 185 = .ok (.goto 70, 3) := by decide +kernel
theorem dX6_rule_188 : decode cX6_rule 188 = .ok (.aload_n 0, 1) := by decide +kernel
theorem dX6_rule_189 : decode cX6_rule 189 = .ok (.getfield 118, 3) := by decide +kernel
theorem dX6_rule_192 : decode cX6_rule 192 = .ok (.istore 6, 2) := by decide +kernel
theorem dX6_rule_194 : decode cX6_rule 194 = .ok (.aload_n 0, 1) := by decide +kernel
theorem dX6_rule_195 : decode cX6_rule 195 = .ok (.iload_n 2, 1) := by decide +kernel
theorem dX6_rule_196 : decode cX6_rule 196 = .ok (.putfield 118, 3) := by decide +kernel
theorem dX6_rule_199 : decode cX6_rule 199 = .ok (.goto 56, 3) := by decide +kernel
theorem dX6_rule_202 : decode cX6_rule 202 = .ok (.aload_n 0, 1) := by decide +kernel
theorem dX6_rule_203 : decode cX6_rule 203 = .ok (.getfield 32, 3) := by decide +kernel
theorem dX6_rule_206 : decode cX6_rule 206 = .ok (.istore 6, 2) := by decide +kernel
theorem dX6_rule_208 : decode cX6_rule 208 = .ok (.aload_n 0, 1) := by decide +kernel
theorem dX6_rule_209 : decode cX6_rule 209 = .ok (.iload_n 2, 1) := by decide +kernel
theorem dX6_rule_210 : decode cX6_rule 210 = .ok (.putfield 32, 3) := by decide +kernel
theorem dX6_rule_213 : decode cX6_rule 213 = .ok (.goto 42, 3) := by decide +kernel
theorem dX6_rule_216 : decode cX6_rule 216 = .ok (.aload_n 0, 1) := by decide +kernel
theorem dX6_rule_217 : decode cX6_rule 217 = .ok (.getfield 35, 3) := by decide +kernel
theorem dX6_rule_220 : decode cX6_rule 220 = .ok (.istore 6, 2) := by decide +kernel
theorem dX6_rule_222 : decode cX6_rule 222 = .ok (.aload_n 0, 1) := by decide +kernel
theorem dX6_rule_223 : decode cX6_rule 223 = .ok (.iload_n 2, 1) := by decide +kernel
theorem dX6_rule_224 : decode cX6_rule 224 = .ok (.putfield 35, 3) := by decide +kernel
theorem dX6_rule_227 : decode cX6_rule 227 = .ok (.goto 28, 3) := by decide +kernel
theorem dX6_rule_230 : decode cX6_rule 230 = .ok (.aload_n 0, 1) := by decide +kernel
theorem dX6_rule_231 : decode cX6_rule 231 = .ok (.getfield 38, 3) := by decide +kernel
theorem dX6_rule_234 : decode cX6_rule 234 = .ok (.istore 6, 2) := by decide +kernel
theorem dX6_rule_236 : decode cX6_rule 236 = .ok (.aload_n 0, 1) := by decide +kernel
theorem dX6_rule_237 : decode cX6_rule 237 = .ok (.iload_n 2, 1) := by decide +kernel
theorem dX6_rule_238 : decode cX6_rule 238 = .ok (.putfield 38, 3) := by decide +kernel
theorem dX6_rule_241 : decode cX6_rule 241 = .ok (.goto 14, 3) := by decide +kernel
theorem dX6_rule_244 : decode cX6_rule 244 = .ok (.aload_n 0, 1) := by decide +kernel
theorem dX6_rule_245 : decode cX6_rule 245 = .ok (.getfield 41, 3) := by decide +kernel
theorem dX6_rule_248 : decode cX6_rule 248 = .ok (.istore 6, 2) := by decide +kernel
theorem dX6_rule_250 : decode cX6_rule 250 = .ok (.aload_n 0, 1) := by decide +kernel
theorem dX6_rule_251 : decode cX6_rule 251 = .ok (.iload_n 2, 1) := by decide +kernel
theorem dX6_rule_252 : decode cX6_rule 252 = .ok (.putfield 41, 3) := by decide +kernel
theorem dX6_rule_255 : decode cX6_rule 255 = .ok (.iload 6, 2) := by decide +kernel
theorem dX6_rule_257 : decode cX6_rule 257 = .ok (.ireturn, 1) := by decide +kernel
theorem dX6_mark_0 : decode cX6_mark 0 = .ok (.iload_n 1, 1) := by decide +kernel
theorem dX6_mark_1 : decode cX6_mark 1 = .ok (.i2l, 1) := by decide +kernel
theorem dX6_mark_2 : decode cX6_mark 2 = .ok (.lconst 1, 1) := by decide +kernel
theorem dX6_mark_3 : decode cX6_mark 3 = .ok (.ldc2_w 86, 3) := by decide +kernel
theorem dX6_mark_6 : decode cX6_mark 6 = .ok (.invokestatic 88, 3) := by decide +kernel
theorem dX6_mark_9 : decode cX6_mark 9 = .ok (.ifCond .eq 17, 3) := by decide +kernel
theorem dX6_mark_12 : decode cX6_mark 12 = .ok (.iload_n 2, 1) := by decide +kernel
theorem dX6_mark_13 : decode cX6_mark 13 = .ok (.i2l, 1) := by decide +kernel
theorem dX6_mark_14 : decode cX6_mark 14 = .ok (.ldc2_w 121, 3) := by decide +kernel
theorem dX6_mark_17 : decode cX6_mark 17 = .ok (.ldc2_w 123, 3) := by decide +kernel
theorem dX6_mark_20 : decode cX6_mark 20 = .ok (.invokestatic 88, 3) := by decide +kernel
theorem dX6_mark_23 : decode cX6_mark 23 = .ok (.ifCond .ne 7, 3) := by decide +kernel
theorem dX6_mark_26 : decode cX6_mark 26 = .ok (.sipush (-1001), 3) := by decide +kernel
theorem dX6_mark_29 : decode cX6_mark 29 = .ok (.ireturn, 1) := by decide +kernel
theorem dX6_mark_30 : decode cX6_mark 30 = .ok (.aload_n 0, 1) := by decide +kernel
theorem dX6_mark_31 : decode cX6_mark 31 = .ok (.getfield 19, 3) := by decide +kernel
theorem dX6_mark_34 : decode cX6_mark 34 = .ok (.iload_n 1, 1) := by decide +kernel
theorem dX6_mark_35 : decode cX6_mark 35 = .ok (.iaload, 1) := by decide +kernel
theorem dX6_mark_36 : decode cX6_mark 36 = .ok (.istore_n 3, 1) := by decide +kernel
theorem dX6_mark_37 : decode cX6_mark 37 = .ok (.aload_n 0, 1) := by decide +kernel
theorem dX6_mark_38 : decode cX6_mark 38 = .ok (.getfield 19, 3) := by decide +kernel
theorem dX6_mark_41 : decode cX6_mark 41 = .ok (.iload_n 1, 1) := by decide +kernel
theorem dX6_mark_42 : decode cX6_mark 42 = .ok (.iload_n 2, 1) := by decide +kernel
theorem dX6_mark_43 : decode cX6_mark 43 = .ok (.iastore, 1) := by decide +kernel
theorem dX6_mark_44 : decode cX6_mark 44 = .ok (.iload_n 3, 1) := by decide +kernel
theorem dX6_mark_45 : decode cX6_mark 45 = .ok (.ireturn, 1) := by decide +kernel
theorem dX6_left_0 : decode cX6_left 0 = .ok (.iload_n 1, 1) := by decide +kernel
theorem dX6_left_1 : decode cX6_left 1 = .ok (.i2l, 1) := by decide +kernel
theorem dX6_left_2 : decode cX6_left 2 = .ok (.lconst 0, 1) := by decide +kernel
theorem dX6_left_3 : decode cX6_left 3 = .ok (.ldc2_w 86, 3) := by decide +kernel
theorem dX6_left_6 : decode cX6_left 6 = .ok (.invokestatic 88, 3) := by decide +kernel
theorem dX6_left_9 : decode cX6_left 9 = .ok (.ifCond .ne 7, 3) := by decide +kernel
theorem dX6_left_12 : decode cX6_left 12 = .ok (.sipush (-1001), 3) := by decide +kernel
theorem dX6_left_15 : decode cX6_left 15 = .ok (.ireturn, 1) := by decide +kernel
theorem dX6_left_16 : decode cX6_left 16 = .ok (.iload_n 1, 1) := by decide +kernel
theorem dX6_left_17 : decode cX6_left 17 = .ok (.ifCond .ne 10, 3) := by decide +kernel
theorem dX6_left_20 : decode cX6_left 20 = .ok (.aload_n 0, 1) := by decide +kernel
theorem dX6_left_21 : decode cX6_left 21 = .ok (.invokevirtual 104, 3) := by decide +kernel
theorem dX6_left_24 : decode cX6_left 24 = .ok (.goto 9, 3) := by decide +kernel
theorem dX6_left_27 : decode cX6_left 27 = .ok (.aload_n 0, 1) := by decide +kernel
theorem dX6_left_28 : decode cX6_left 28 = .ok (.getfield 7, 3) := by decide +kernel
theorem dX6_left_31 : decode cX6_left 31 = .ok (.iload_n 1, 1) := by decide +kernel
theorem dX6_left_32 : decode cX6_left 32 = .ok (.iaload, 1) := by decide +kernel
theorem dX6_left_33 : decode cX6_left 33 = .ok (.ireturn, 1) := by decide +kernel
theorem dX6_leave_0 : decode cX6_leave 0 = .ok (.aload_n 0, 1) := by decide +kernel
theorem dX6_leave_1 : decode cX6_leave 1 = .ok (.getfield 7, 3) := by decide +kernel
theorem dX6_leave_4 : decode cX6_leave 4 = .ok (.iload_n 1, 1) := by decide +kernel
theorem dX6_leave_5 : decode cX6_leave 5 = .ok (.dup2, 1) := by decide +kernel
theorem dX6_leave_6 : decode cX6_leave 6 = .ok (.iaload, 1) := by decide +kernel
theorem dX6_leave_7 : decode cX6_leave 7 = .ok (.iconst 1, 1) := by decide +kernel
theorem dX6_leave_8 : decode cX6_leave 8 = .ok (.isub, 1) := by decide +kernel
theorem dX6_leave_9 : decode cX6_leave 9 = .ok (.iastore, 1) := by decide +kernel
theorem dX6_leave_10 : decode cX6_leave 10 = .ok (.aload_n 0, 1) := by decide +kernel
theorem dX6_leave_11 : decode cX6_leave 11 = .ok (.getfield 16, 3) := by decide +kernel
theorem dX6_leave_14 : decode cX6_leave 14 = .ok (.iload_n 1, 1) := by decide +kernel
theorem dX6_leave_15 : decode cX6_leave 15 = .ok (.dup2, 1) := by decide +kernel
theorem dX6_leave_16 : decode cX6_leave 16 = .ok (.iaload, 1) := by decide +kernel
theorem dX6_leave_17 : decode cX6_leave 17 = .ok (.iconst 1, 1) := by decide +kernel
theorem dX6_leave_18 : decode cX6_leave 18 = .ok (.iadd, 1) := by decide +kernel
theorem dX6_leave_19 : decode cX6_leave 19 = .ok (.iastore, 1) := by decide +kernel
theorem dX6_leave_20 : decode cX6_leave 20 = .ok (.iload_n 2, 1) := by decide +kernel
theorem dX6_leave_21 : decode cX6_leave 21 = .ok (.ifCond .ne 26, 3) := by decide +kernel
theorem dX6_leave_24 : decode cX6_leave 24 = .ok (.aload_n 0, 1) := by decide +kernel
theorem dX6_leave_25 : decode cX6_leave 25 = .ok (.getfield 22, 3) := by decide +kernel
theorem dX6_leave_28 : decode cX6_leave 28 = .ok (.aload_n 0, 1) := by decide +kernel
theorem dX6_leave_29 : decode cX6_leave 29 = .ok (.getfield 98, 3) := by decide +kernel
theorem dX6_leave_32 : decode cX6_leave 32 = .ok (.iload_n 1, 1) := by decide +kernel
theorem dX6_leave_33 : decode cX6_leave 33 = .ok (.iastore, 1) := by decide +kernel
theorem dX6_leave_34 : decode cX6_leave 34 = .ok (.aload_n 0, 1) := by decide +kernel
theorem dX6_leave_35 : decode cX6_leave 35 = .ok (.dup, 1) := by decide +kernel
theorem dX6_leave_36 : decode cX6_leave 36 = .ok (.getfield 98, 3) := by decide +kernel
theorem dX6_leave_39 : decode cX6_leave 39 = .ok (.iconst 1, 1) := by decide +kernel
theorem dX6_leave_40 : decode cX6_leave 40 = .ok (.iadd, 1) := by decide +kernel
theorem dX6_leave_41 : decode cX6_leave 41 = .ok (.putfield 98, 3) := by decide +kernel
theorem dX6_leave_44 : decode cX6_leave 44 = .ok (.goto 13, 3) := by decide +kernel
theorem dX6_leave_47 : decode cX6_leave 47 = .ok (.iload_n 2, 1) := by decide +kernel
theorem dX6_leave_48 : decode cX6_leave 48 = .ok (.iconst 1, 1) := by decide +kernel
theorem dX6_leave_49 : decode cX6_leave 49 = .ok (.if_icmp .ne 8, 3) := by decide +kernel
theorem dX6_leave_52 : decode cX6_leave 52 = .ok (.aload_n 0, 1) := by decide +kernel
theorem dX6_leave_53 : decode cX6_leave 53 = .ok (.iload_n 1, 1) := by decide +kernel
theorem dX6_leave_54 : decode cX6_leave 54 = .ok (.putfield 101, 3) := by decide +kernel
theorem dX6_leave_57 : decode cX6_leave 57 = .ok (.return_, 1) := by decide +kernel
theorem dX6_take_0 : decode cX6_take 0 = .ok (.iload_n 1, 1) := by decide +kernel
theorem dX6_take_1 : decode cX6_take 1 = .ok (.i2l, 1) := by decide +kernel
theorem dX6_take_2 : decode cX6_take 2 = .ok (.lconst 1, 1) := by decide +kernel
theorem dX6_take_3 : decode cX6_take 3 = .ok (.ldc2_w 86, 3) := by decide +kernel
theorem dX6_take_6 : decode cX6_take 6 = .ok (.invokestatic 88, 3) := by decide +kernel
theorem dX6_take_9 : decode cX6_take 9 = .ok (.ifCond .eq 15, 3) := by decide +kernel
theorem dX6_take_12 : decode cX6_take 12 = .ok (.iload_n 2, 1) := by decide +kernel
theorem dX6_take_13 : decode cX6_take 13 = .ok (.i2l, 1) := by decide +kernel
theorem dX6_take_14 : decode cX6_take 14 = .ok (.lconst 0, 1) := by decide +kernel
theorem dX6_take_15 : decode cX6_take 15 = .ok (.ldc2_w 112, 3) := by decide +kernel
theorem dX6_take_18 : decode cX6_take 18 = .ok (.invokestatic 88, 3) := by decide +kernel
theorem dX6_take_21 : decode cX6_take 21 = .ok (.ifCond .ne 7, 3) := by decide +kernel
theorem dX6_take_24 : decode cX6_take 24 = .ok (.sipush (-1001), 3) := by decide +kernel
theorem dX6_take_27 : decode cX6_take 27 = .ok (.ireturn, 1) := by decide +kernel
theorem dX6_take_28 : decode cX6_take 28 = .ok (.aload_n 0, 1) := by decide +kernel
theorem dX6_take_29 : decode cX6_take 29 = .ok (.getfield 7, 3) := by decide +kernel
theorem dX6_take_32 : decode cX6_take 32 = .ok (.iload_n 1, 1) := by decide +kernel
theorem dX6_take_33 : decode cX6_take 33 = .ok (.iaload, 1) := by decide +kernel
theorem dX6_take_34 : decode cX6_take 34 = .ok (.ifCond .ne 7, 3) := by decide +kernel
theorem dX6_take_37 : decode cX6_take 37 = .ok (.sipush (-1002), 3) := by decide +kernel
theorem dX6_take_40 : decode cX6_take 40 = .ok (.ireturn, 1) := by decide +kernel
theorem dX6_take_41 : decode cX6_take 41 = .ok (.iload_n 2, 1) := by decide +kernel
theorem dX6_take_42 : decode cX6_take 42 = .ok (.ifCond .ne 16, 3) := by decide +kernel
theorem dX6_take_45 : decode cX6_take 45 = .ok (.aload_n 0, 1) := by decide +kernel
theorem dX6_take_46 : decode cX6_take 46 = .ok (.getfield 98, 3) := by decide +kernel
theorem dX6_take_49 : decode cX6_take 49 = .ok (.bipush 12, 2) := by decide +kernel
theorem dX6_take_51 : decode cX6_take 51 = .ok (.if_icmp .ne 7, 3) := by decide +kernel
theorem dX6_take_54 : decode cX6_take 54 = .ok (.sipush (-1003), 3) := by decide +kernel
theorem dX6_take_57 : decode cX6_take 57 = .ok (.ireturn, 1) := by decide +kernel
theorem dX6_take_58 : decode cX6_take 58 = .ok (.aload_n 0, 1) := by decide +kernel
theorem dX6_take_59 : decode cX6_take 59 = .ok (.iload_n 1, 1) := by decide +kernel
theorem dX6_take_60 : decode cX6_take 60 = .ok (.iload_n 2, 1) := by decide +kernel
theorem dX6_take_61 : decode cX6_take 61 = .ok (.invokevirtual 125, 3) := by decide +kernel
theorem dX6_take_64 : decode cX6_take 64 = .ok (.aload_n 0, 1) := by decide +kernel
theorem dX6_take_65 : decode cX6_take 65 = .ok (.getfield 98, 3) := by decide +kernel
theorem dX6_take_68 : decode cX6_take 68 = .ok (.ireturn, 1) := by decide +kernel
theorem dX6_drawn_0 : decode cX6_drawn 0 = .ok (.aload_n 0, 1) := by decide +kernel
theorem dX6_drawn_1 : decode cX6_drawn 1 = .ok (.aload_n 0, 1) := by decide +kernel
theorem dX6_drawn_2 : decode cX6_drawn 2 = .ok (.getfield 44, 3) := by decide +kernel
theorem dX6_drawn_5 : decode cX6_drawn 5 = .ok (.ldc2_w 129, 3) := by decide +kernel
theorem dX6_drawn_8 : decode cX6_drawn 8 = .ok (.lmul, 1) := by decide +kernel
theorem dX6_drawn_9 : decode cX6_drawn 9 = .ok (.ldc2_w 131, 3) := by decide +kernel
theorem dX6_drawn_12 : decode cX6_drawn 12 = .ok (.ladd, 1) := by decide +kernel
theorem dX6_drawn_13 : decode cX6_drawn 13 = .ok (.putfield 44, 3) := by decide +kernel
theorem dX6_drawn_16 : decode cX6_drawn 16 = .ok (.aload_n 0, 1) := by decide +kernel
theorem dX6_drawn_17 : decode cX6_drawn 17 = .ok (.getfield 44, 3) := by decide +kernel
theorem dX6_drawn_20 : decode cX6_drawn 20 = .ok (.bipush 33, 2) := by decide +kernel
theorem dX6_drawn_22 : decode cX6_drawn 22 = .ok (.lushr, 1) := by decide +kernel
theorem dX6_drawn_23 : decode cX6_drawn 23 = .ok (.aload_n 0, 1) := by decide +kernel
theorem dX6_drawn_24 : decode cX6_drawn 24 = .ok (.invokevirtual 104, 3) := by decide +kernel
theorem dX6_drawn_27 : decode cX6_drawn 27 = .ok (.i2l, 1) := by decide +kernel
theorem dX6_drawn_28 : decode cX6_drawn 28 = .ok (.lrem, 1) := by decide +kernel
theorem dX6_drawn_29 : decode cX6_drawn 29 = .ok (.l2i, 1) := by decide +kernel
theorem dX6_drawn_30 : decode cX6_drawn 30 = .ok (.istore_n 1, 1) := by decide +kernel
theorem dX6_drawn_31 : decode cX6_drawn 31 = .ok (.iconst 1, 1) := by decide +kernel
theorem dX6_drawn_32 : decode cX6_drawn 32 = .ok (.istore_n 2, 1) := by decide +kernel
theorem dX6_drawn_33 : decode cX6_drawn 33 = .ok (.iload_n 1, 1) := by decide +kernel
theorem dX6_drawn_34 : decode cX6_drawn 34 = .ok (.aload_n 0, 1) := by decide +kernel
theorem dX6_drawn_35 : decode cX6_drawn 35 = .ok (.getfield 7, 3) := by decide +kernel
theorem dX6_drawn_38 : decode cX6_drawn 38 = .ok (.iload_n 2, 1) := by decide +kernel
theorem dX6_drawn_39 : decode cX6_drawn 39 = .ok (.iaload, 1) := by decide +kernel
theorem dX6_drawn_40 : decode cX6_drawn 40 = .ok (.if_icmp .lt 18, 3) := by decide +kernel
theorem dX6_drawn_43 : decode cX6_drawn 43 = .ok (.iload_n 1, 1) := by decide +kernel
theorem dX6_drawn_44 : decode cX6_drawn 44 = .ok (.aload_n 0, 1) := by decide +kernel
theorem dX6_drawn_45 : decode cX6_drawn 45 = .ok (.getfield 7, 3) := by decide +kernel
theorem dX6_drawn_48 : decode cX6_drawn 48 = .ok (.iload_n 2, 1) := by decide +kernel
theorem dX6_drawn_49 : decode cX6_drawn 49 = .ok (.iaload, 1) := by decide +kernel
theorem dX6_drawn_50 : decode cX6_drawn 50 = .ok (.isub, 1) := by decide +kernel
theorem dX6_drawn_51 : decode cX6_drawn 51 = .ok (.istore_n 1, 1) := by decide +kernel
theorem dX6_drawn_52 : decode cX6_drawn 52 = .ok (.iinc 2 1, 3) := by decide +kernel
theorem dX6_drawn_55 : decode cX6_drawn 55 = .ok (.goto (-22), 3) := by decide +kernel
theorem dX6_drawn_58 : decode cX6_drawn 58 = .ok (.iload_n 2, 1) := by decide +kernel
theorem dX6_drawn_59 : decode cX6_drawn 59 = .ok (.ireturn, 1) := by decide +kernel
theorem dX6_draw_0 : decode cX6_draw 0 = .ok (.iload_n 1, 1) := by decide +kernel
theorem dX6_draw_1 : decode cX6_draw 1 = .ok (.i2l, 1) := by decide +kernel
theorem dX6_draw_2 : decode cX6_draw 2 = .ok (.lconst 0, 1) := by decide +kernel
theorem dX6_draw_3 : decode cX6_draw 3 = .ok (.ldc2_w 112, 3) := by decide +kernel
theorem dX6_draw_6 : decode cX6_draw 6 = .ok (.invokestatic 88, 3) := by decide +kernel
theorem dX6_draw_9 : decode cX6_draw 9 = .ok (.ifCond .ne 7, 3) := by decide +kernel
theorem dX6_draw_12 : decode cX6_draw 12 = .ok (.sipush (-1001), 3) := by decide +kernel
theorem dX6_draw_15 : decode cX6_draw 15 = .ok (.ireturn, 1) := by decide +kernel
theorem dX6_draw_16 : decode cX6_draw 16 = .ok (.aload_n 0, 1) := by decide +kernel
theorem dX6_draw_17 : decode cX6_draw 17 = .ok (.invokevirtual 104, 3) := by decide +kernel
theorem dX6_draw_20 : decode cX6_draw 20 = .ok (.ifCond .ne 7, 3) := by decide +kernel
theorem dX6_draw_23 : decode cX6_draw 23 = .ok (.sipush (-1002), 3) := by decide +kernel
theorem dX6_draw_26 : decode cX6_draw 26 = .ok (.ireturn, 1) := by decide +kernel
theorem dX6_draw_27 : decode cX6_draw 27 = .ok (.iload_n 1, 1) := by decide +kernel
theorem dX6_draw_28 : decode cX6_draw 28 = .ok (.ifCond .ne 16, 3) := by decide +kernel
theorem dX6_draw_31 : decode cX6_draw 31 = .ok (.aload_n 0, 1) := by decide +kernel
theorem dX6_draw_32 : decode cX6_draw 32 = .ok (.getfield 98, 3) := by decide +kernel
theorem dX6_draw_35 : decode cX6_draw 35 = .ok (.bipush 12, 2) := by decide +kernel
theorem dX6_draw_37 : decode cX6_draw 37 = .ok (.if_icmp .ne 7, 3) := by decide +kernel
theorem dX6_draw_40 : decode cX6_draw 40 = .ok (.sipush (-1003), 3) := by decide +kernel
theorem dX6_draw_43 : decode cX6_draw 43 = .ok (.ireturn, 1) := by decide +kernel
theorem dX6_draw_44 : decode cX6_draw 44 = .ok (.aload_n 0, 1) := by decide +kernel
theorem dX6_draw_45 : decode cX6_draw 45 = .ok (.invokevirtual 133, 3) := by decide +kernel
theorem dX6_draw_48 : decode cX6_draw 48 = .ok (.istore_n 2, 1) := by decide +kernel
theorem dX6_draw_49 : decode cX6_draw 49 = .ok (.aload_n 0, 1) := by decide +kernel
theorem dX6_draw_50 : decode cX6_draw 50 = .ok (.iload_n 2, 1) := by decide +kernel
theorem dX6_draw_51 : decode cX6_draw 51 = .ok (.iload_n 1, 1) := by decide +kernel
theorem dX6_draw_52 : decode cX6_draw 52 = .ok (.invokevirtual 125, 3) := by decide +kernel
theorem dX6_draw_55 : decode cX6_draw 55 = .ok (.iload_n 2, 1) := by decide +kernel
theorem dX6_draw_56 : decode cX6_draw 56 = .ok (.ireturn, 1) := by decide +kernel
theorem dX6_seed_0 : decode cX6_seed 0 = .ok (.aload_n 0, 1) := by decide +kernel
theorem dX6_seed_1 : decode cX6_seed 1 = .ok (.iload_n 1, 1) := by decide +kernel
theorem dX6_seed_2 : decode cX6_seed 2 = .ok (.i2l, 1) := by decide +kernel
theorem dX6_seed_3 : decode cX6_seed 3 = .ok (.putfield 44, 3) := by decide +kernel
theorem dX6_seed_6 : decode cX6_seed 6 = .ok (.iconst 1, 1) := by decide +kernel
theorem dX6_seed_7 : decode cX6_seed 7 = .ok (.ireturn, 1) := by decide +kernel
theorem dX6_lay_0 : decode cX6_lay 0 = .ok (.aload_n 0, 1) := by decide +kernel
theorem dX6_lay_1 : decode cX6_lay 1 = .ok (.getfield 98, 3) := by decide +kernel
theorem dX6_lay_4 : decode cX6_lay 4 = .ok (.aload_n 0, 1) := by decide +kernel
theorem dX6_lay_5 : decode cX6_lay 5 = .ok (.getfield 101, 3) := by decide +kernel
theorem dX6_lay_8 : decode cX6_lay 8 = .ok (.ifCond .le 7, 3) := by decide +kernel
theorem dX6_lay_11 : decode cX6_lay 11 = .ok (.iconst 1, 1) := by decide +kernel
theorem dX6_lay_12 : decode cX6_lay 12 = .ok (.goto 4, 3) := by decide +kernel
theorem dX6_lay_15 : decode cX6_lay 15 = .ok (.iconst 0, 1) := by decide +kernel
theorem dX6_lay_16 : decode cX6_lay 16 = .ok (.iadd, 1) := by decide +kernel
theorem dX6_lay_17 : decode cX6_lay 17 = .ok (.istore_n 1, 1) := by decide +kernel
theorem dX6_lay_18 : decode cX6_lay 18 = .ok (.aload_n 0, 1) := by decide +kernel
theorem dX6_lay_19 : decode cX6_lay 19 = .ok (.iconst 0, 1) := by decide +kernel
theorem dX6_lay_20 : decode cX6_lay 20 = .ok (.putfield 98, 3) := by decide +kernel
theorem dX6_lay_23 : decode cX6_lay 23 = .ok (.aload_n 0, 1) := by decide +kernel
theorem dX6_lay_24 : decode cX6_lay 24 = .ok (.iconst 0, 1) := by decide +kernel
theorem dX6_lay_25 : decode cX6_lay 25 = .ok (.putfield 101, 3) := by decide +kernel
theorem dX6_lay_28 : decode cX6_lay 28 = .ok (.iload_n 1, 1) := by decide +kernel
theorem dX6_lay_29 : decode cX6_lay 29 = .ok (.ireturn, 1) := by decide +kernel
theorem dX6_handSum_0 : decode cX6_handSum 0 = .ok (.iconst 0, 1) := by decide +kernel
theorem dX6_handSum_1 : decode cX6_handSum 1 = .ok (.istore_n 1, 1) := by decide +kernel
theorem dX6_handSum_2 : decode cX6_handSum 2 = .ok (.iconst 0, 1) := by decide +kernel
theorem dX6_handSum_3 : decode cX6_handSum 3 = .ok (.istore_n 2, 1) := by decide +kernel
theorem dX6_handSum_4 : decode cX6_handSum 4 = .ok (.iload_n 2, 1) := by decide +kernel
theorem dX6_handSum_5 : decode cX6_handSum 5 = .ok (.aload_n 0, 1) := by decide +kernel
theorem dX6_handSum_6 : decode cX6_handSum 6 = .ok (.getfield 98, 3) := by decide +kernel
theorem dX6_handSum_9 : decode cX6_handSum 9 = .ok (.if_icmp .ge 18, 3) := by decide +kernel
theorem dX6_handSum_12 : decode cX6_handSum 12 = .ok (.iload_n 1, 1) := by decide +kernel
theorem dX6_handSum_13 : decode cX6_handSum 13 = .ok (.aload_n 0, 1) := by decide +kernel
theorem dX6_handSum_14 : decode cX6_handSum 14 = .ok (.getfield 22, 3) := by decide +kernel
theorem dX6_handSum_17 : decode cX6_handSum 17 = .ok (.iload_n 2, 1) := by decide +kernel
theorem dX6_handSum_18 : decode cX6_handSum 18 = .ok (.iaload, 1) := by decide +kernel
theorem dX6_handSum_19 : decode cX6_handSum 19 = .ok (.iadd, 1) := by decide +kernel
theorem dX6_handSum_20 : decode cX6_handSum 20 = .ok (.istore_n 1, 1) := by decide +kernel
theorem dX6_handSum_21 : decode cX6_handSum 21 = .ok (.iinc 2 1, 3) := by decide +kernel
theorem dX6_handSum_24 : decode cX6_handSum 24 = .ok (.goto (-20), 3) := by decide +kernel
theorem dX6_handSum_27 : decode cX6_handSum 27 = .ok (.iload_n 1, 1) := by decide +kernel
theorem dX6_handSum_28 : decode cX6_handSum 28 = .ok (.ireturn, 1) := by decide +kernel
theorem dX6_handAce_0 : decode cX6_handAce 0 = .ok (.iconst 0, 1) := by decide +kernel
theorem dX6_handAce_1 : decode cX6_handAce 1 = .ok (.istore_n 1, 1) := by decide +kernel
theorem dX6_handAce_2 : decode cX6_handAce 2 = .ok (.iconst 0, 1) := by decide +kernel
theorem dX6_handAce_3 : decode cX6_handAce 3 = .ok (.istore_n 2, 1) := by decide +kernel
theorem dX6_handAce_4 : decode cX6_handAce 4 = .ok (.iload_n 2, 1) := by decide +kernel
theorem dX6_handAce_5 : decode cX6_handAce 5 = .ok (.aload_n 0, 1) := by decide +kernel
theorem dX6_handAce_6 : decode cX6_handAce 6 = .ok (.getfield 98, 3) := by decide +kernel
theorem dX6_handAce_9 : decode cX6_handAce 9 = .ok (.if_icmp .ge 29, 3) := by decide +kernel
theorem dX6_handAce_12 : decode cX6_handAce 12 = .ok (.iload_n 1, 1) := by decide +kernel
theorem dX6_handAce_13 : decode cX6_handAce 13 = .ok (.ifCond .ne 13, 3) := by decide +kernel
theorem dX6_handAce_16 : decode cX6_handAce 16 = .ok (.aload_n 0, 1) := by decide +kernel
theorem dX6_handAce_17 : decode cX6_handAce 17 = .ok (.getfield 22, 3) := by decide +kernel
theorem dX6_handAce_20 : decode cX6_handAce 20 = .ok (.iload_n 2, 1) := by decide +kernel
theorem dX6_handAce_21 : decode cX6_handAce 21 = .ok (.iaload, 1) := by decide +kernel
theorem dX6_handAce_22 : decode cX6_handAce 22 = .ok (.iconst 1, 1) := by decide +kernel
theorem dX6_handAce_23 : decode cX6_handAce 23 = .ok (.if_icmp .ne 7, 3) := by decide +kernel
theorem dX6_handAce_26 : decode cX6_handAce 26 = .ok (.iconst 1, 1) := by decide +kernel
theorem dX6_handAce_27 : decode cX6_handAce 27 = .ok (.goto 4, 3) := by decide +kernel
theorem dX6_handAce_30 : decode cX6_handAce 30 = .ok (.iconst 0, 1) := by decide +kernel
theorem dX6_handAce_31 : decode cX6_handAce 31 = .ok (.istore_n 1, 1) := by decide +kernel
theorem dX6_handAce_32 : decode cX6_handAce 32 = .ok (.iinc 2 1, 3) := by decide +kernel
theorem dX6_handAce_35 : decode cX6_handAce 35 = .ok (.goto (-31), 3) := by decide +kernel
theorem dX6_handAce_38 : decode cX6_handAce 38 = .ok (.iload_n 1, 1) := by decide +kernel
theorem dX6_handAce_39 : decode cX6_handAce 39 = .ok (.ireturn, 1) := by decide +kernel
theorem dX6_valueOf_0 : decode cX6_valueOf 0 = .ok (.iload_n 2, 1) := by decide +kernel
theorem dX6_valueOf_1 : decode cX6_valueOf 1 = .ok (.ifCond .eq 21, 3) := by decide +kernel
theorem dX6_valueOf_4 : decode cX6_valueOf 4 = .ok (.iload_n 1, 1) := by decide +kernel
theorem dX6_valueOf_5 : decode cX6_valueOf 5 = .ok (.bipush 10, 2) := by decide +kernel
theorem dX6_valueOf_7 : decode cX6_valueOf 7 = .ok (.iadd, 1) := by decide +kernel
theorem dX6_valueOf_8 : decode cX6_valueOf 8 = .ok (.aload_n 0, 1) := by decide +kernel
theorem dX6_valueOf_9 : decode cX6_valueOf 9 = .ok (.getfield 25, 3) := by decide +kernel
theorem dX6_valueOf_12 : decode cX6_valueOf 12 = .ok (.if_icmp .gt 10, 3) := by decide +kernel
theorem dX6_valueOf_15 : decode cX6_valueOf 15 = .ok (.iload_n 1, 1) := by decide +kernel
theorem dX6_valueOf_16 : decode cX6_valueOf 16 = .ok (.bipush 10, 2) := by decide +kernel
theorem dX6_valueOf_18 : decode cX6_valueOf 18 = .ok (.iadd, 1) := by decide +kernel
theorem dX6_valueOf_19 : decode cX6_valueOf 19 = .ok (.goto 4, 3) := by decide +kernel
theorem dX6_valueOf_22 : decode cX6_valueOf 22 = .ok (.iload_n 1, 1) := by decide +kernel
theorem dX6_valueOf_23 : decode cX6_valueOf 23 = .ok (.ireturn, 1) := by decide +kernel
theorem dX6_handValue_0 : decode cX6_handValue 0 = .ok (.aload_n 0, 1) := by decide +kernel
theorem dX6_handValue_1 : decode cX6_handValue 1 = .ok (.aload_n 0, 1) := by decide +kernel
theorem dX6_handValue_2 : decode cX6_handValue 2 = .ok (.invokevirtual 136, 3) := by decide +kernel
theorem dX6_handValue_5 : decode cX6_handValue 5 = .ok (.aload_n 0, 1) := by decide +kernel
theorem dX6_handValue_6 : decode cX6_handValue 6 = .ok (.invokevirtual 139, 3) := by decide +kernel
theorem dX6_handValue_9 : decode cX6_handValue 9 = .ok (.invokevirtual 143, 3) := by decide +kernel
theorem dX6_handValue_12 : decode cX6_handValue 12 = .ok (.ireturn, 1) := by decide +kernel
theorem dX6_isNatural_0 : decode cX6_isNatural 0 = .ok (.aload_n 0, 1) := by decide +kernel
theorem dX6_isNatural_1 : decode cX6_isNatural 1 = .ok (.getfield 98, 3) := by decide +kernel
theorem dX6_isNatural_4 : decode cX6_isNatural 4 = .ok (.iconst 2, 1) := by decide +kernel
theorem dX6_isNatural_5 : decode cX6_isNatural 5 = .ok (.if_icmp .ne 18, 3) := by decide +kernel
theorem dX6_isNatural_8 : decode cX6_isNatural 8 = .ok (.aload_n 0, 1) := by decide +kernel
theorem dX6_isNatural_9 : decode cX6_isNatural 9 = .ok (.invokevirtual 147, 3) := by decide +kernel
theorem dX6_isNatural_12 : decode cX6_isNatural 12 = .ok (.aload_n 0, 1) := by decide +kernel
theorem dX6_isNatural_13 : decode cX6_isNatural 13 = .ok (.getfield 25, 3) := by decide +kernel
theorem dX6_isNatural_16 : decode cX6_isNatural 16 = .ok (.if_icmp .ne 7, 3) := by decide +kernel
theorem dX6_isNatural_19 : decode cX6_isNatural 19 = .ok (.iconst 1, 1) := by decide +kernel
theorem dX6_isNatural_20 : decode cX6_isNatural 20 = .ok (.goto 4, 3) := by decide +kernel
theorem dX6_isNatural_23 : decode cX6_isNatural 23 = .ok (.iconst 0, 1) := by decide +kernel
theorem dX6_isNatural_24 : decode cX6_isNatural 24 = .ok (.ireturn, 1) := by decide +kernel
theorem dX6_counted_0 : decode cX6_counted 0 = .ok (.iconst 0, 1) := by decide +kernel
theorem dX6_counted_1 : decode cX6_counted 1 = .ok (.istore_n 1, 1) := by decide +kernel
theorem dX6_counted_2 : decode cX6_counted 2 = .ok (.iconst 1, 1) := by decide +kernel
theorem dX6_counted_3 : decode cX6_counted 3 = .ok (.istore_n 2, 1) := by decide +kernel
theorem dX6_counted_4 : decode cX6_counted 4 = .ok (.iload_n 2, 1) := by decide +kernel
theorem dX6_counted_5 : decode cX6_counted 5 = .ok (.bipush 11, 2) := by decide +kernel
theorem dX6_counted_7 : decode cX6_counted 7 = .ok (.if_icmp .ge 25, 3) := by decide +kernel
theorem dX6_counted_10 : decode cX6_counted 10 = .ok (.iload_n 1, 1) := by decide +kernel
theorem dX6_counted_11 : decode cX6_counted 11 = .ok (.aload_n 0, 1) := by decide +kernel
theorem dX6_counted_12 : decode cX6_counted 12 = .ok (.getfield 19, 3) := by decide +kernel
theorem dX6_counted_15 : decode cX6_counted 15 = .ok (.iload_n 2, 1) := by decide +kernel
theorem dX6_counted_16 : decode cX6_counted 16 = .ok (.iaload, 1) := by decide +kernel
theorem dX6_counted_17 : decode cX6_counted 17 = .ok (.aload_n 0, 1) := by decide +kernel
theorem dX6_counted_18 : decode cX6_counted 18 = .ok (.getfield 16, 3) := by decide +kernel
theorem dX6_counted_21 : decode cX6_counted 21 = .ok (.iload_n 2, 1) := by decide +kernel
theorem dX6_counted_22 : decode cX6_counted 22 = .ok (.iaload, 1) := by decide +kernel
theorem dX6_counted_23 : decode cX6_counted 23 = .ok (.imul, 1) := by decide +kernel
theorem dX6_counted_24 : decode cX6_counted 24 = .ok (.iadd, 1) := by decide +kernel
theorem dX6_counted_25 : decode cX6_counted 25 = .ok (.istore_n 1, 1) := by decide +kernel
theorem dX6_counted_26 : decode cX6_counted 26 = .ok (.iinc 2 1, 3) := by decide +kernel
theorem dX6_counted_29 : decode cX6_counted 29 = .ok (.goto (-25), 3) := by decide +kernel
theorem dX6_counted_32 : decode cX6_counted 32 = .ok (.iload_n 1, 1) := by decide +kernel
theorem dX6_counted_33 : decode cX6_counted 33 = .ok (.ireturn, 1) := by decide +kernel
theorem dX6_gone_0 : decode cX6_gone 0 = .ok (.iconst 0, 1) := by decide +kernel
theorem dX6_gone_1 : decode cX6_gone 1 = .ok (.istore_n 1, 1) := by decide +kernel
theorem dX6_gone_2 : decode cX6_gone 2 = .ok (.iconst 1, 1) := by decide +kernel
theorem dX6_gone_3 : decode cX6_gone 3 = .ok (.istore_n 2, 1) := by decide +kernel
theorem dX6_gone_4 : decode cX6_gone 4 = .ok (.iload_n 2, 1) := by decide +kernel
theorem dX6_gone_5 : decode cX6_gone 5 = .ok (.bipush 11, 2) := by decide +kernel
theorem dX6_gone_7 : decode cX6_gone 7 = .ok (.if_icmp .ge 18, 3) := by decide +kernel
theorem dX6_gone_10 : decode cX6_gone 10 = .ok (.iload_n 1, 1) := by decide +kernel
theorem dX6_gone_11 : decode cX6_gone 11 = .ok (.aload_n 0, 1) := by decide +kernel
theorem dX6_gone_12 : decode cX6_gone 12 = .ok (.getfield 16, 3) := by decide +kernel
theorem dX6_gone_15 : decode cX6_gone 15 = .ok (.iload_n 2, 1) := by decide +kernel
theorem dX6_gone_16 : decode cX6_gone 16 = .ok (.iaload, 1) := by decide +kernel
theorem dX6_gone_17 : decode cX6_gone 17 = .ok (.iadd, 1) := by decide +kernel
theorem dX6_gone_18 : decode cX6_gone 18 = .ok (.istore_n 1, 1) := by decide +kernel
theorem dX6_gone_19 : decode cX6_gone 19 = .ok (.iinc 2 1, 3) := by decide +kernel
theorem dX6_gone_22 : decode cX6_gone 22 = .ok (.goto (-18), 3) := by decide +kernel
theorem dX6_gone_25 : decode cX6_gone 25 = .ok (.iload_n 1, 1) := by decide +kernel
theorem dX6_gone_26 : decode cX6_gone 26 = .ok (.ireturn, 1) := by decide +kernel
theorem dX6_told_0 : decode cX6_told 0 = .ok (.iload_n 1, 1) := by decide +kernel
theorem dX6_told_1 : decode cX6_told 1 = .ok (.tableswitch 139 0 8 #[51, 56, 61, 78, 91, 108, 124, 129, 134], 51) := by decide +kernel
theorem dX6_told_52 : decode cX6_told 52 = .ok (.aload_n 0, 1) := by decide +kernel
theorem dX6_told_53 : decode cX6_told 53 = .ok (.getfield 98, 3) := by decide +kernel
theorem dX6_told_56 : decode cX6_told 56 = .ok (.ireturn, 1) := by decide +kernel
theorem dX6_told_57 : decode cX6_told 57 = .ok (.aload_n 0, 1) := by decide +kernel
theorem dX6_told_58 : decode cX6_told 58 = .ok (.invokevirtual 147, 3) := by decide +kernel
theorem dX6_told_61 : decode cX6_told 61 = .ok (.ireturn, 1) := by decide +kernel
theorem dX6_told_62 : decode cX6_told 62 = .ok (.aload_n 0, 1) := by decide +kernel
theorem dX6_told_63 : decode cX6_told 63 = .ok (.invokevirtual 147, 3) := by decide +kernel
theorem dX6_told_66 : decode cX6_told 66 = .ok (.aload_n 0, 1) := by decide +kernel
theorem dX6_told_67 : decode cX6_told 67 = .ok (.invokevirtual 136, 3) := by decide +kernel
theorem dX6_told_70 : decode cX6_told 70 = .ok (.if_icmp .le 7, 3) := by decide +kernel
theorem dX6_told_73 : decode cX6_told 73 = .ok (.iconst 1, 1) := by decide +kernel
theorem dX6_told_74 : decode cX6_told 74 = .ok (.goto 4, 3) := by decide +kernel
theorem dX6_told_77 : decode cX6_told 77 = .ok (.iconst 0, 1) := by decide +kernel
theorem dX6_told_78 : decode cX6_told 78 = .ok (.ireturn, 1) := by decide +kernel
theorem dX6_told_79 : decode cX6_told 79 = .ok (.aload_n 0, 1) := by decide +kernel
theorem dX6_told_80 : decode cX6_told 80 = .ok (.invokevirtual 150, 3) := by decide +kernel
theorem dX6_told_83 : decode cX6_told 83 = .ok (.ifCond .eq 7, 3) := by decide +kernel
theorem dX6_told_86 : decode cX6_told 86 = .ok (.iconst 1, 1) := by decide +kernel
theorem dX6_told_87 : decode cX6_told 87 = .ok (.goto 4, 3) := by decide +kernel
theorem dX6_told_90 : decode cX6_told 90 = .ok (.iconst 0, 1) := by decide +kernel
theorem dX6_told_91 : decode cX6_told 91 = .ok (.ireturn, 1) := by decide +kernel
theorem dX6_told_92 : decode cX6_told 92 = .ok (.aload_n 0, 1) := by decide +kernel
theorem dX6_told_93 : decode cX6_told 93 = .ok (.invokevirtual 147, 3) := by decide +kernel
theorem dX6_told_96 : decode cX6_told 96 = .ok (.aload_n 0, 1) := by decide +kernel
theorem dX6_told_97 : decode cX6_told 97 = .ok (.getfield 25, 3) := by decide +kernel
theorem dX6_told_100 : decode cX6_told 100 = .ok (.if_icmp .le 7, 3) := by decide +kernel
theorem dX6_told_103 : decode cX6_told 103 = .ok (.iconst 1, 1) := by decide +kernel
theorem dX6_told_104 : decode cX6_told 104 = .ok (.goto 4, 3) := by decide +kernel
theorem dX6_told_107 : decode cX6_told 107 = .ok (.iconst 0, 1) := by decide +kernel
theorem dX6_told_108 : decode cX6_told 108 = .ok (.ireturn, 1) := by decide +kernel
theorem dX6_told_109 : decode cX6_told 109 = .ok (.aload_n 0, 1) := by decide +kernel
theorem dX6_told_110 : decode cX6_told 110 = .ok (.getfield 101, 3) := by decide +kernel
theorem dX6_told_113 : decode cX6_told 113 = .ok (.ifCond .le 10, 3) := by decide +kernel
theorem dX6_told_116 : decode cX6_told 116 = .ok (.aload_n 0, 1) := by decide +kernel
theorem dX6_told_117 : decode cX6_told 117 = .ok (.getfield 101, 3) := by decide +kernel
theorem dX6_told_120 : decode cX6_told 120 = .ok (.goto 4, 3) := by decide +kernel
theorem dX6_told_123 : decode cX6_told 123 = .ok (.iconst (-1), 1) := by decide +kernel
theorem dX6_told_124 : decode cX6_told 124 = .ok (.ireturn, 1) := by decide +kernel
theorem dX6_told_125 : decode cX6_told 125 = .ok (.aload_n 0, 1) := by decide +kernel
theorem dX6_told_126 : decode cX6_told 126 = .ok (.invokevirtual 153, 3) := by decide +kernel
theorem dX6_told_129 : decode cX6_told 129 = .ok (.ireturn, 1) := by decide +kernel
theorem dX6_told_130 : decode cX6_told 130 = .ok (.aload_n 0, 1) := by decide +kernel
theorem dX6_told_131 : decode cX6_told 131 = .ok (.getfield 156, 3) := by decide +kernel
theorem dX6_told_134 : decode cX6_told 134 = .ok (.ireturn, 1) := by decide +kernel
theorem dX6_told_135 : decode cX6_told 135 = .ok (.aload_n 0, 1) := by decide +kernel
theorem dX6_told_136 : decode cX6_told 136 = .ok (.invokevirtual 159, 3) := by decide +kernel
theorem dX6_told_139 : decode cX6_told 139 = .ok (.ireturn, 1) := by decide +kernel
theorem dX6_told_140 : decode cX6_told 140 = .ok (.iload_n 1, 1) := by decide +kernel
theorem dX6_told_141 : decode cX6_told 141 = .ok (.i2l, 1) := by decide +kernel
theorem dX6_told_142 : decode cX6_told 142 = .ok (.ldc2_w 86, 3) := by decide +kernel
theorem dX6_told_145 : decode cX6_told 145 = .ok (.ldc2_w 110, 3) := by decide +kernel
theorem dX6_told_148 : decode cX6_told 148 = .ok (.invokestatic 88, 3) := by decide +kernel
theorem dX6_told_151 : decode cX6_told 151 = .ok (.ifCond .ne 9, 3) := by decide +kernel
theorem dX6_told_154 : decode cX6_told 154 = .ok (.sipush (-1001), 3) := by decide +kernel
theorem dX6_told_157 : decode cX6_told 157 = .ok (.goto 27, 3) := by decide +kernel
theorem dX6_told_160 : decode cX6_told 160 = .ok (.iload_n 1, 1) := by decide +kernel
theorem dX6_told_161 : decode cX6_told 161 = .ok (.bipush 10, 2) := by decide +kernel
theorem dX6_told_163 : decode cX6_told 163 = .ok (.isub, 1) := by decide +kernel
theorem dX6_told_164 : decode cX6_told 164 = .ok (.aload_n 0, 1) := by decide +kernel
theorem dX6_told_165 : decode cX6_told 165 = .ok (.getfield 98, 3) := by decide +kernel
theorem dX6_told_168 : decode cX6_told 168 = .ok (.if_icmp .ge 15, 3) := by decide +kernel
theorem dX6_told_171 : decode cX6_told 171 = .ok (.aload_n 0, 1) := by decide +kernel
theorem dX6_told_172 : decode cX6_told 172 = .ok (.getfield 22, 3) := by decide +kernel
theorem dX6_told_175 : decode cX6_told 175 = .ok (.iload_n 1, 1) := by decide +kernel
theorem dX6_told_176 : decode cX6_told 176 = .ok (.bipush 10, 2) := by decide +kernel
theorem dX6_told_178 : decode cX6_told 178 = .ok (.isub, 1) := by decide +kernel
theorem dX6_told_179 : decode cX6_told 179 = .ok (.iaload, 1) := by decide +kernel
theorem dX6_told_180 : decode cX6_told 180 = .ok (.goto 4, 3) := by decide +kernel
theorem dX6_told_183 : decode cX6_told 183 = .ok (.iconst (-1), 1) := by decide +kernel
theorem dX6_told_184 : decode cX6_told 184 = .ok (.ireturn, 1) := by decide +kernel
theorem dX6_goesOn_0 : decode cX6_goesOn 0 = .ok (.aload_n 0, 1) := by decide +kernel
theorem dX6_goesOn_1 : decode cX6_goesOn 1 = .ok (.iload_n 1, 1) := by decide +kernel
theorem dX6_goesOn_2 : decode cX6_goesOn 2 = .ok (.iload_n 2, 1) := by decide +kernel
theorem dX6_goesOn_3 : decode cX6_goesOn 3 = .ok (.invokevirtual 143, 3) := by decide +kernel
theorem dX6_goesOn_6 : decode cX6_goesOn 6 = .ok (.istore_n 3, 1) := by decide +kernel
theorem dX6_goesOn_7 : decode cX6_goesOn 7 = .ok (.iload_n 3, 1) := by decide +kernel
theorem dX6_goesOn_8 : decode cX6_goesOn 8 = .ok (.aload_n 0, 1) := by decide +kernel
theorem dX6_goesOn_9 : decode cX6_goesOn 9 = .ok (.getfield 29, 3) := by decide +kernel
theorem dX6_goesOn_12 : decode cX6_goesOn 12 = .ok (.if_icmp .lt 24, 3) := by decide +kernel
theorem dX6_goesOn_15 : decode cX6_goesOn 15 = .ok (.iload_n 3, 1) := by decide +kernel
theorem dX6_goesOn_16 : decode cX6_goesOn 16 = .ok (.aload_n 0, 1) := by decide +kernel
theorem dX6_goesOn_17 : decode cX6_goesOn 17 = .ok (.getfield 29, 3) := by decide +kernel
theorem dX6_goesOn_20 : decode cX6_goesOn 20 = .ok (.if_icmp .ne 20, 3) := by decide +kernel
theorem dX6_goesOn_23 : decode cX6_goesOn 23 = .ok (.iload_n 3, 1) := by decide +kernel
theorem dX6_goesOn_24 : decode cX6_goesOn 24 = .ok (.iload_n 1, 1) := by decide +kernel
theorem dX6_goesOn_25 : decode cX6_goesOn 25 = .ok (.if_icmp .le 15, 3) := by decide +kernel
theorem dX6_goesOn_28 : decode cX6_goesOn 28 = .ok (.aload_n 0, 1) := by decide +kernel
theorem dX6_goesOn_29 : decode cX6_goesOn 29 = .ok (.getfield 118, 3) := by decide +kernel
theorem dX6_goesOn_32 : decode cX6_goesOn 32 = .ok (.iconst 1, 1) := by decide +kernel
theorem dX6_goesOn_33 : decode cX6_goesOn 33 = .ok (.if_icmp .ne 7, 3) := by decide +kernel
theorem dX6_goesOn_36 : decode cX6_goesOn 36 = .ok (.iconst 1, 1) := by decide +kernel
theorem dX6_goesOn_37 : decode cX6_goesOn 37 = .ok (.goto 4, 3) := by decide +kernel
theorem dX6_goesOn_40 : decode cX6_goesOn 40 = .ok (.iconst 0, 1) := by decide +kernel
theorem dX6_goesOn_41 : decode cX6_goesOn 41 = .ok (.ireturn, 1) := by decide +kernel
theorem dX6_settled_0 : decode cX6_settled 0 = .ok (.iload_n 2, 1) := by decide +kernel
theorem dX6_settled_1 : decode cX6_settled 1 = .ok (.iload_n 1, 1) := by decide +kernel
theorem dX6_settled_2 : decode cX6_settled 2 = .ok (.if_icmp .ge 7, 3) := by decide +kernel
theorem dX6_settled_5 : decode cX6_settled 5 = .ok (.iload_n 3, 1) := by decide +kernel
theorem dX6_settled_6 : decode cX6_settled 6 = .ok (.goto 14, 3) := by decide +kernel
theorem dX6_settled_9 : decode cX6_settled 9 = .ok (.iload_n 2, 1) := by decide +kernel
theorem dX6_settled_10 : decode cX6_settled 10 = .ok (.iload_n 1, 1) := by decide +kernel
theorem dX6_settled_11 : decode cX6_settled 11 = .ok (.if_icmp .le 8, 3) := by decide +kernel
theorem dX6_settled_14 : decode cX6_settled 14 = .ok (.bipush (-2), 2) := by decide +kernel
theorem dX6_settled_16 : decode cX6_settled 16 = .ok (.goto 4, 3) := by decide +kernel
theorem dX6_settled_19 : decode cX6_settled 19 = .ok (.iconst 0, 1) := by decide +kernel
theorem dX6_settled_20 : decode cX6_settled 20 = .ok (.ireturn, 1) := by decide +kernel
theorem dX6_settle_0 : decode cX6_settle 0 = .ok (.aload_n 0, 1) := by decide +kernel
theorem dX6_settle_1 : decode cX6_settle 1 = .ok (.getfield 98, 3) := by decide +kernel
theorem dX6_settle_4 : decode cX6_settle 4 = .ok (.ifCond .eq 10, 3) := by decide +kernel
theorem dX6_settle_7 : decode cX6_settle 7 = .ok (.aload_n 0, 1) := by decide +kernel
theorem dX6_settle_8 : decode cX6_settle 8 = .ok (.getfield 101, 3) := by decide +kernel
theorem dX6_settle_11 : decode cX6_settle 11 = .ok (.ifCond .ne 7, 3) := by decide +kernel
theorem dX6_settle_14 : decode cX6_settle 14 = .ok (.sipush (-1002), 3) := by decide +kernel
theorem dX6_settle_17 : decode cX6_settle 17 = .ok (.ireturn, 1) := by decide +kernel
theorem dX6_settle_18 : decode cX6_settle 18 = .ok (.aload_n 0, 1) := by decide +kernel
theorem dX6_settle_19 : decode cX6_settle 19 = .ok (.invokevirtual 147, 3) := by decide +kernel
theorem dX6_settle_22 : decode cX6_settle 22 = .ok (.istore_n 1, 1) := by decide +kernel
theorem dX6_settle_23 : decode cX6_settle 23 = .ok (.bipush (-2), 2) := by decide +kernel
theorem dX6_settle_25 : decode cX6_settle 25 = .ok (.istore_n 2, 1) := by decide +kernel
theorem dX6_settle_26 : decode cX6_settle 26 = .ok (.iload_n 1, 1) := by decide +kernel
theorem dX6_settle_27 : decode cX6_settle 27 = .ok (.aload_n 0, 1) := by decide +kernel
theorem dX6_settle_28 : decode cX6_settle 28 = .ok (.getfield 25, 3) := by decide +kernel
theorem dX6_settle_31 : decode cX6_settle 31 = .ok (.if_icmp .gt 124, 3) := by decide +kernel
theorem dX6_settle_34 : decode cX6_settle 34 = .ok (.aload_n 0, 1) := by decide +kernel
theorem dX6_settle_35 : decode cX6_settle 35 = .ok (.getfield 101, 3) := by decide +kernel
theorem dX6_settle_38 : decode cX6_settle 38 = .ok (.istore_n 3, 1) := by decide +kernel
theorem dX6_settle_39 : decode cX6_settle 39 = .ok (.aload_n 0, 1) := by decide +kernel
theorem dX6_settle_40 : decode cX6_settle 40 = .ok (.getfield 101, 3) := by decide +kernel
theorem dX6_settle_43 : decode cX6_settle 43 = .ok (.iconst 1, 1) := by decide +kernel
theorem dX6_settle_44 : decode cX6_settle 44 = .ok (.if_icmp .ne 7, 3) := by decide +kernel
theorem dX6_settle_47 : decode cX6_settle 47 = .ok (.iconst 1, 1) := by decide +kernel
theorem dX6_settle_48 : decode cX6_settle 48 = .ok (.goto 4, 3) := by decide +kernel
theorem dX6_settle_51 : decode cX6_settle 51 = .ok (.iconst 0, 1) := by decide +kernel
theorem dX6_settle_52 : decode cX6_settle 52 = .ok (.istore 4, 2) := by decide +kernel
theorem dX6_settle_54 : decode cX6_settle 54 = .ok (.aload_n 0, 1) := by decide +kernel
theorem dX6_settle_55 : decode cX6_settle 55 = .ok (.invokevirtual 104, 3) := by decide +kernel
theorem dX6_settle_58 : decode cX6_settle 58 = .ok (.ifCond .le 52, 3) := by decide +kernel
theorem dX6_settle_61 : decode cX6_settle 61 = .ok (.aload_n 0, 1) := by decide +kernel
theorem dX6_settle_62 : decode cX6_settle 62 = .ok (.iload_n 3, 1) := by decide +kernel
theorem dX6_settle_63 : decode cX6_settle 63 = .ok (.iload 4, 2) := by decide +kernel
theorem dX6_settle_65 : decode cX6_settle 65 = .ok (.invokevirtual 162, 3) := by decide +kernel
theorem dX6_settle_68 : decode cX6_settle 68 = .ok (.ifCond .eq 42, 3) := by decide +kernel
theorem dX6_settle_71 : decode cX6_settle 71 = .ok (.aload_n 0, 1) := by decide +kernel
theorem dX6_settle_72 : decode cX6_settle 72 = .ok (.invokevirtual 133, 3) := by decide +kernel
theorem dX6_settle_75 : decode cX6_settle 75 = .ok (.istore 5, 2) := by decide +kernel
theorem dX6_settle_77 : decode cX6_settle 77 = .ok (.aload_n 0, 1) := by decide +kernel
theorem dX6_settle_78 : decode cX6_settle 78 = .ok (.iload 5, 2) := by decide +kernel
theorem dX6_settle_80 : decode cX6_settle 80 = .ok (.iconst 2, 1) := by decide +kernel
theorem dX6_settle_81 : decode cX6_settle 81 = .ok (.invokevirtual 125, 3) := by decide +kernel
theorem dX6_settle_84 : decode cX6_settle 84 = .ok (.iload_n 3, 1) := by decide +kernel
theorem dX6_settle_85 : decode cX6_settle 85 = .ok (.iload 5, 2) := by decide +kernel
theorem dX6_settle_87 : decode cX6_settle 87 = .ok (.iadd, 1) := by decide +kernel
theorem dX6_settle_88 : decode cX6_settle 88 = .ok (.istore_n 3, 1) := by decide +kernel
theorem dX6_settle_89 : decode cX6_settle 89 = .ok (.iload 4, 2) := by decide +kernel
theorem dX6_settle_91 : decode cX6_settle 91 = .ok (.ifCond .ne 9, 3) := by decide +kernel
theorem dX6_settle_94 : decode cX6_settle 94 = .ok (.iload 5, 2) := by decide +kernel
theorem dX6_settle_96 : decode cX6_settle 96 = .ok (.iconst 1, 1) := by decide +kernel
theorem dX6_settle_97 : decode cX6_settle 97 = .ok (.if_icmp .ne 7, 3) := by decide +kernel
theorem dX6_settle_100 : decode cX6_settle 100 = .ok (.iconst 1, 1) := by decide +kernel
theorem dX6_settle_101 : decode cX6_settle 101 = .ok (.goto 4, 3) := by decide +kernel
theorem dX6_settle_104 : decode cX6_settle 104 = .ok (.iconst 0, 1) := by decide +kernel
theorem dX6_settle_105 : decode cX6_settle 105 = .ok (.istore 4, 2) := by decide +kernel
theorem dX6_settle_107 : decode cX6_settle 107 = .ok (.goto (-53), 3) := by decide +kernel
theorem dX6_settle_110 : decode cX6_settle 110 = .ok (.aload_n 0, 1) := by decide +kernel
theorem dX6_settle_111 : decode cX6_settle 111 = .ok (.iload_n 3, 1) := by decide +kernel
theorem dX6_settle_112 : decode cX6_settle 112 = .ok (.iload 4, 2) := by decide +kernel
theorem dX6_settle_114 : decode cX6_settle 114 = .ok (.invokevirtual 143, 3) := by decide +kernel
theorem dX6_settle_117 : decode cX6_settle 117 = .ok (.istore 5, 2) := by decide +kernel
theorem dX6_settle_119 : decode cX6_settle 119 = .ok (.aload_n 0, 1) := by decide +kernel
theorem dX6_settle_120 : decode cX6_settle 120 = .ok (.iload_n 1, 1) := by decide +kernel
theorem dX6_settle_121 : decode cX6_settle 121 = .ok (.iload 5, 2) := by decide +kernel
theorem dX6_settle_123 : decode cX6_settle 123 = .ok (.aload_n 0, 1) := by decide +kernel
theorem dX6_settle_124 : decode cX6_settle 124 = .ok (.getfield 25, 3) := by decide +kernel
theorem dX6_settle_127 : decode cX6_settle 127 = .ok (.if_icmp .le 7, 3) := by decide +kernel
theorem dX6_settle_130 : decode cX6_settle 130 = .ok (.iconst 0, 1) := by decide +kernel
theorem dX6_settle_131 : decode cX6_settle 131 = .ok (.goto 5, 3) := by decide +kernel
theorem dX6_settle_134 : decode cX6_settle 134 = .ok (.iload 5, 2) := by decide +kernel
theorem dX6_settle_136 : decode cX6_settle 136 = .ok (.aload_n 0, 1) := by decide +kernel
theorem dX6_settle_137 : decode cX6_settle 137 = .ok (.invokevirtual 150, 3) := by decide +kernel
theorem dX6_settle_140 : decode cX6_settle 140 = .ok (.ifCond .eq 10, 3) := by decide +kernel
theorem dX6_settle_143 : decode cX6_settle 143 = .ok (.aload_n 0, 1) := by decide +kernel
theorem dX6_settle_144 : decode cX6_settle 144 = .ok (.getfield 41, 3) := by decide +kernel
theorem dX6_settle_147 : decode cX6_settle 147 = .ok (.goto 4, 3) := by decide +kernel
theorem dX6_settle_150 : decode cX6_settle 150 = .ok (.iconst 2, 1) := by decide +kernel
theorem dX6_settle_151 : decode cX6_settle 151 = .ok (.invokevirtual 166, 3) := by decide +kernel
theorem dX6_settle_154 : decode cX6_settle 154 = .ok (.istore_n 2, 1) := by decide +kernel
theorem dX6_settle_155 : decode cX6_settle 155 = .ok (.aload_n 0, 1) := by decide +kernel
theorem dX6_settle_156 : decode cX6_settle 156 = .ok (.iconst 0, 1) := by decide +kernel
theorem dX6_settle_157 : decode cX6_settle 157 = .ok (.putfield 98, 3) := by decide +kernel
theorem dX6_settle_160 : decode cX6_settle 160 = .ok (.aload_n 0, 1) := by decide +kernel
theorem dX6_settle_161 : decode cX6_settle 161 = .ok (.iconst 0, 1) := by decide +kernel
theorem dX6_settle_162 : decode cX6_settle 162 = .ok (.putfield 101, 3) := by decide +kernel
theorem dX6_settle_165 : decode cX6_settle 165 = .ok (.aload_n 0, 1) := by decide +kernel
theorem dX6_settle_166 : decode cX6_settle 166 = .ok (.dup, 1) := by decide +kernel
theorem dX6_settle_167 : decode cX6_settle 167 = .ok (.getfield 156, 3) := by decide +kernel
theorem dX6_settle_170 : decode cX6_settle 170 = .ok (.iload_n 2, 1) := by decide +kernel
theorem dX6_settle_171 : decode cX6_settle 171 = .ok (.iadd, 1) := by decide +kernel
theorem dX6_settle_172 : decode cX6_settle 172 = .ok (.putfield 156, 3) := by decide +kernel
theorem dX6_settle_175 : decode cX6_settle 175 = .ok (.iload_n 2, 1) := by decide +kernel
theorem dX6_settle_176 : decode cX6_settle 176 = .ok (.ireturn, 1) := by decide +kernel
theorem dX6_ofRank_0 : decode cX6_ofRank 0 = .ok (.iload_n 1, 1) := by decide +kernel
theorem dX6_ofRank_1 : decode cX6_ofRank 1 = .ok (.aload_n 0, 1) := by decide +kernel
theorem dX6_ofRank_2 : decode cX6_ofRank 2 = .ok (.getfield 55, 3) := by decide +kernel
theorem dX6_ofRank_5 : decode cX6_ofRank 5 = .ok (.iload_n 2, 1) := by decide +kernel
theorem dX6_ofRank_6 : decode cX6_ofRank 6 = .ok (.iaload, 1) := by decide +kernel
theorem dX6_ofRank_7 : decode cX6_ofRank 7 = .ok (.idiv, 1) := by decide +kernel
theorem dX6_ofRank_8 : decode cX6_ofRank 8 = .ok (.aload_n 0, 1) := by decide +kernel
theorem dX6_ofRank_9 : decode cX6_ofRank 9 = .ok (.getfield 52, 3) := by decide +kernel
theorem dX6_ofRank_12 : decode cX6_ofRank 12 = .ok (.iload_n 2, 1) := by decide +kernel
theorem dX6_ofRank_13 : decode cX6_ofRank 13 = .ok (.iaload, 1) := by decide +kernel
theorem dX6_ofRank_14 : decode cX6_ofRank 14 = .ok (.iconst 1, 1) := by decide +kernel
theorem dX6_ofRank_15 : decode cX6_ofRank 15 = .ok (.iadd, 1) := by decide +kernel
theorem dX6_ofRank_16 : decode cX6_ofRank 16 = .ok (.irem, 1) := by decide +kernel
theorem dX6_ofRank_17 : decode cX6_ofRank 17 = .ok (.ireturn, 1) := by decide +kernel
theorem dX6_layHeaps_0 : decode cX6_layHeaps 0 = .ok (.aload_n 0, 1) := by decide +kernel
theorem dX6_layHeaps_1 : decode cX6_layHeaps 1 = .ok (.iconst 1, 1) := by decide +kernel
theorem dX6_layHeaps_2 : decode cX6_layHeaps 2 = .ok (.putfield 170, 3) := by decide +kernel
theorem dX6_layHeaps_5 : decode cX6_layHeaps 5 = .ok (.iconst 1, 1) := by decide +kernel
theorem dX6_layHeaps_6 : decode cX6_layHeaps 6 = .ok (.istore_n 1, 1) := by decide +kernel
theorem dX6_layHeaps_7 : decode cX6_layHeaps 7 = .ok (.iload_n 1, 1) := by decide +kernel
theorem dX6_layHeaps_8 : decode cX6_layHeaps 8 = .ok (.bipush 11, 2) := by decide +kernel
theorem dX6_layHeaps_10 : decode cX6_layHeaps 10 = .ok (.if_icmp .ge 36, 3) := by decide +kernel
theorem dX6_layHeaps_13 : decode cX6_layHeaps 13 = .ok (.aload_n 0, 1) := by decide +kernel
theorem dX6_layHeaps_14 : decode cX6_layHeaps 14 = .ok (.getfield 55, 3) := by decide +kernel
theorem dX6_layHeaps_17 : decode cX6_layHeaps 17 = .ok (.iload_n 1, 1) := by decide +kernel
theorem dX6_layHeaps_18 : decode cX6_layHeaps 18 = .ok (.aload_n 0, 1) := by decide +kernel
theorem dX6_layHeaps_19 : decode cX6_layHeaps 19 = .ok (.getfield 170, 3) := by decide +kernel
theorem dX6_layHeaps_22 : decode cX6_layHeaps 22 = .ok (.iastore, 1) := by decide +kernel
theorem dX6_layHeaps_23 : decode cX6_layHeaps 23 = .ok (.aload_n 0, 1) := by decide +kernel
theorem dX6_layHeaps_24 : decode cX6_layHeaps 24 = .ok (.dup, 1) := by decide +kernel
theorem dX6_layHeaps_25 : decode cX6_layHeaps 25 = .ok (.getfield 170, 3) := by decide +kernel
theorem dX6_layHeaps_28 : decode cX6_layHeaps 28 = .ok (.aload_n 0, 1) := by decide +kernel
theorem dX6_layHeaps_29 : decode cX6_layHeaps 29 = .ok (.getfield 52, 3) := by decide +kernel
theorem dX6_layHeaps_32 : decode cX6_layHeaps 32 = .ok (.iload_n 1, 1) := by decide +kernel
theorem dX6_layHeaps_33 : decode cX6_layHeaps 33 = .ok (.iaload, 1) := by decide +kernel
theorem dX6_layHeaps_34 : decode cX6_layHeaps 34 = .ok (.iconst 1, 1) := by decide +kernel
theorem dX6_layHeaps_35 : decode cX6_layHeaps 35 = .ok (.iadd, 1) := by decide +kernel
theorem dX6_layHeaps_36 : decode cX6_layHeaps 36 = .ok (.imul, 1) := by decide +kernel
theorem dX6_layHeaps_37 : decode cX6_layHeaps 37 = .ok (.putfield 170, 3) := by decide +kernel
theorem dX6_layHeaps_40 : decode cX6_layHeaps 40 = .ok (.iinc 1 1, 3) := by decide +kernel
theorem dX6_layHeaps_43 : decode cX6_layHeaps 43 = .ok (.goto (-36), 3) := by decide +kernel
theorem dX6_layHeaps_46 : decode cX6_layHeaps 46 = .ok (.iconst 0, 1) := by decide +kernel
theorem dX6_layHeaps_47 : decode cX6_layHeaps 47 = .ok (.istore_n 1, 1) := by decide +kernel
theorem dX6_layHeaps_48 : decode cX6_layHeaps 48 = .ok (.iload_n 1, 1) := by decide +kernel
theorem dX6_layHeaps_49 : decode cX6_layHeaps 49 = .ok (.aload_n 0, 1) := by decide +kernel
theorem dX6_layHeaps_50 : decode cX6_layHeaps 50 = .ok (.getfield 170, 3) := by decide +kernel
theorem dX6_layHeaps_53 : decode cX6_layHeaps 53 = .ok (.if_icmp .ge 69, 3) := by decide +kernel
theorem dX6_layHeaps_56 : decode cX6_layHeaps 56 = .ok (.aload_n 0, 1) := by decide +kernel
theorem dX6_layHeaps_57 : decode cX6_layHeaps 57 = .ok (.getfield 58, 3) := by decide +kernel
theorem dX6_layHeaps_60 : decode cX6_layHeaps 60 = .ok (.iload_n 1, 1) := by decide +kernel
theorem dX6_layHeaps_61 : decode cX6_layHeaps 61 = .ok (.iconst 0, 1) := by decide +kernel
theorem dX6_layHeaps_62 : decode cX6_layHeaps 62 = .ok (.iastore, 1) := by decide +kernel
theorem dX6_layHeaps_63 : decode cX6_layHeaps 63 = .ok (.aload_n 0, 1) := by decide +kernel
theorem dX6_layHeaps_64 : decode cX6_layHeaps 64 = .ok (.getfield 61, 3) := by decide +kernel
theorem dX6_layHeaps_67 : decode cX6_layHeaps 67 = .ok (.iload_n 1, 1) := by decide +kernel
theorem dX6_layHeaps_68 : decode cX6_layHeaps 68 = .ok (.iconst 0, 1) := by decide +kernel
theorem dX6_layHeaps_69 : decode cX6_layHeaps 69 = .ok (.iastore, 1) := by decide +kernel
theorem dX6_layHeaps_70 : decode cX6_layHeaps 70 = .ok (.iconst 1, 1) := by decide +kernel
theorem dX6_layHeaps_71 : decode cX6_layHeaps 71 = .ok (.istore_n 2, 1) := by decide +kernel
theorem dX6_layHeaps_72 : decode cX6_layHeaps 72 = .ok (.iload_n 2, 1) := by decide +kernel
theorem dX6_layHeaps_73 : decode cX6_layHeaps 73 = .ok (.bipush 11, 2) := by decide +kernel
theorem dX6_layHeaps_75 : decode cX6_layHeaps 75 = .ok (.if_icmp .ge 41, 3) := by decide +kernel
theorem dX6_layHeaps_78 : decode cX6_layHeaps 78 = .ok (.aload_n 0, 1) := by decide +kernel
theorem dX6_layHeaps_79 : decode cX6_layHeaps 79 = .ok (.getfield 58, 3) := by decide +kernel
theorem dX6_layHeaps_82 : decode cX6_layHeaps 82 = .ok (.iload_n 1, 1) := by decide +kernel
theorem dX6_layHeaps_83 : decode cX6_layHeaps 83 = .ok (.dup2, 1) := by decide +kernel
theorem dX6_layHeaps_84 : decode cX6_layHeaps 84 = .ok (.iaload, 1) := by decide +kernel
theorem dX6_layHeaps_85 : decode cX6_layHeaps 85 = .ok (.aload_n 0, 1) := by decide +kernel
theorem dX6_layHeaps_86 : decode cX6_layHeaps 86 = .ok (.iload_n 1, 1) := by decide +kernel
theorem dX6_layHeaps_87 : decode cX6_layHeaps 87 = .ok (.iload_n 2, 1) := by decide +kernel
theorem dX6_layHeaps_88 : decode cX6_layHeaps 88 = .ok (.invokevirtual 173, 3) := by decide +kernel
theorem dX6_layHeaps_91 : decode cX6_layHeaps 91 = .ok (.iadd, 1) := by decide +kernel
theorem dX6_layHeaps_92 : decode cX6_layHeaps 92 = .ok (.iastore, 1) := by decide +kernel
theorem dX6_layHeaps_93 : decode cX6_layHeaps 93 = .ok (.aload_n 0, 1) := by decide +kernel
theorem dX6_layHeaps_94 : decode cX6_layHeaps 94 = .ok (.getfield 61, 3) := by decide +kernel
theorem dX6_layHeaps_97 : decode cX6_layHeaps 97 = .ok (.iload_n 1, 1) := by decide +kernel
theorem dX6_layHeaps_98 : decode cX6_layHeaps 98 = .ok (.dup2, 1) := by decide +kernel
theorem dX6_layHeaps_99 : decode cX6_layHeaps 99 = .ok (.iaload, 1) := by decide +kernel
theorem dX6_layHeaps_100 : decode cX6_layHeaps 100 = .ok (.iload_n 2, 1) := by decide +kernel
theorem dX6_layHeaps_101 : decode cX6_layHeaps 101 = .ok (.aload_n 0, 1) := by decide +kernel
theorem dX6_layHeaps_102 : decode cX6_layHeaps 102 = .ok (.iload_n 1, 1) := by decide +kernel
theorem dX6_layHeaps_103 : decode cX6_layHeaps 103 = .ok (.iload_n 2, 1) := by decide +kernel
theorem dX6_layHeaps_104 : decode cX6_layHeaps 104 = .ok (.invokevirtual 173, 3) := by decide +kernel
theorem dX6_layHeaps_107 : decode cX6_layHeaps 107 = .ok (.imul, 1) := by decide +kernel
theorem dX6_layHeaps_108 : decode cX6_layHeaps 108 = .ok (.iadd, 1) := by decide +kernel
theorem dX6_layHeaps_109 : decode cX6_layHeaps 109 = .ok (.iastore, 1) := by decide +kernel
theorem dX6_layHeaps_110 : decode cX6_layHeaps 110 = .ok (.iinc 2 1, 3) := by decide +kernel
theorem dX6_layHeaps_113 : decode cX6_layHeaps 113 = .ok (.goto (-41), 3) := by decide +kernel
theorem dX6_layHeaps_116 : decode cX6_layHeaps 116 = .ok (.iinc 1 1, 3) := by decide +kernel
theorem dX6_layHeaps_119 : decode cX6_layHeaps 119 = .ok (.goto (-71), 3) := by decide +kernel
theorem dX6_layHeaps_122 : decode cX6_layHeaps 122 = .ok (.return_, 1) := by decide +kernel
theorem dX6_score_0 : decode cX6_score 0 = .ok (.aload_n 0, 1) := by decide +kernel
theorem dX6_score_1 : decode cX6_score 1 = .ok (.iload_n 1, 1) := by decide +kernel
theorem dX6_score_2 : decode cX6_score 2 = .ok (.iload_n 2, 1) := by decide +kernel
theorem dX6_score_3 : decode cX6_score 3 = .ok (.invokevirtual 143, 3) := by decide +kernel
theorem dX6_score_6 : decode cX6_score 6 = .ok (.istore_n 3, 1) := by decide +kernel
theorem dX6_score_7 : decode cX6_score 7 = .ok (.iload_n 3, 1) := by decide +kernel
theorem dX6_score_8 : decode cX6_score 8 = .ok (.aload_n 0, 1) := by decide +kernel
theorem dX6_score_9 : decode cX6_score 9 = .ok (.getfield 25, 3) := by decide +kernel
theorem dX6_score_12 : decode cX6_score 12 = .ok (.if_icmp .le 7, 3) := by decide +kernel
theorem dX6_score_15 : decode cX6_score 15 = .ok (.iconst 0, 1) := by decide +kernel
theorem dX6_score_16 : decode cX6_score 16 = .ok (.goto 4, 3) := by decide +kernel
theorem dX6_score_19 : decode cX6_score 19 = .ok (.iload_n 3, 1) := by decide +kernel
theorem dX6_score_20 : decode cX6_score 20 = .ok (.istore_n 3, 1) := by decide +kernel
theorem dX6_score_21 : decode cX6_score 21 = .ok (.aload_n 0, 1) := by decide +kernel
theorem dX6_score_22 : decode cX6_score 22 = .ok (.getfield 177, 3) := by decide +kernel
theorem dX6_score_25 : decode cX6_score 25 = .ok (.ifCond .eq 19, 3) := by decide +kernel
theorem dX6_score_28 : decode cX6_score 28 = .ok (.iload_n 3, 1) := by decide +kernel
theorem dX6_score_29 : decode cX6_score 29 = .ok (.aload_n 0, 1) := by decide +kernel
theorem dX6_score_30 : decode cX6_score 30 = .ok (.getfield 180, 3) := by decide +kernel
theorem dX6_score_33 : decode cX6_score 33 = .ok (.if_icmp .ne 7, 3) := by decide +kernel
theorem dX6_score_36 : decode cX6_score 36 = .ok (.iconst 1, 1) := by decide +kernel
theorem dX6_score_37 : decode cX6_score 37 = .ok (.goto 20, 3) := by decide +kernel
theorem dX6_score_40 : decode cX6_score 40 = .ok (.iconst 0, 1) := by decide +kernel
theorem dX6_score_41 : decode cX6_score 41 = .ok (.goto 16, 3) := by decide +kernel
theorem dX6_score_44 : decode cX6_score 44 = .ok (.aload_n 0, 1) := by decide +kernel
theorem dX6_score_45 : decode cX6_score 45 = .ok (.aload_n 0, 1) := by decide +kernel
theorem dX6_score_46 : decode cX6_score 46 = .ok (.getfield 180, 3) := by decide +kernel
theorem dX6_score_49 : decode cX6_score 49 = .ok (.iload_n 3, 1) := by decide +kernel
theorem dX6_score_50 : decode cX6_score 50 = .ok (.aload_n 0, 1) := by decide +kernel
theorem dX6_score_51 : decode cX6_score 51 = .ok (.getfield 183, 3) := by decide +kernel
theorem dX6_score_54 : decode cX6_score 54 = .ok (.invokevirtual 166, 3) := by decide +kernel
theorem dX6_score_57 : decode cX6_score 57 = .ok (.ireturn, 1) := by decide +kernel
theorem dX6_draws_0 : decode cX6_draws 0 = .ok (.aload_n 0, 1) := by decide +kernel
theorem dX6_draws_1 : decode cX6_draws 1 = .ok (.getfield 58, 3) := by decide +kernel
theorem dX6_draws_4 : decode cX6_draws 4 = .ok (.iload_n 1, 1) := by decide +kernel
theorem dX6_draws_5 : decode cX6_draws 5 = .ok (.iaload, 1) := by decide +kernel
theorem dX6_draws_6 : decode cX6_draws 6 = .ok (.ifCond .le 16, 3) := by decide +kernel
theorem dX6_draws_9 : decode cX6_draws 9 = .ok (.aload_n 0, 1) := by decide +kernel
theorem dX6_draws_10 : decode cX6_draws 10 = .ok (.iload_n 2, 1) := by decide +kernel
theorem dX6_draws_11 : decode cX6_draws 11 = .ok (.iload_n 3, 1) := by decide +kernel
theorem dX6_draws_12 : decode cX6_draws 12 = .ok (.invokevirtual 162, 3) := by decide +kernel
theorem dX6_draws_15 : decode cX6_draws 15 = .ok (.ifCond .eq 7, 3) := by decide +kernel
theorem dX6_draws_18 : decode cX6_draws 18 = .ok (.iconst 1, 1) := by decide +kernel
theorem dX6_draws_19 : decode cX6_draws 19 = .ok (.goto 4, 3) := by decide +kernel
theorem dX6_draws_22 : decode cX6_draws 22 = .ok (.iconst 0, 1) := by decide +kernel
theorem dX6_draws_23 : decode cX6_draws 23 = .ok (.ireturn, 1) := by decide +kernel
theorem dX6_houseAt_0 : decode cX6_houseAt 0 = .ok (.aload_n 0, 1) := by decide +kernel
theorem dX6_houseAt_1 : decode cX6_houseAt 1 = .ok (.iload_n 1, 1) := by decide +kernel
theorem dX6_houseAt_2 : decode cX6_houseAt 2 = .ok (.iload_n 2, 1) := by decide +kernel
theorem dX6_houseAt_3 : decode cX6_houseAt 3 = .ok (.iload_n 3, 1) := by decide +kernel
theorem dX6_houseAt_4 : decode cX6_houseAt 4 = .ok (.invokevirtual 186, 3) := by decide +kernel
theorem dX6_houseAt_7 : decode cX6_houseAt 7 = .ok (.ifCond .ne 23, 3) := by decide +kernel
theorem dX6_houseAt_10 : decode cX6_houseAt 10 = .ok (.aload_n 0, 1) := by decide +kernel
theorem dX6_houseAt_11 : decode cX6_houseAt 11 = .ok (.iload_n 2, 1) := by decide +kernel
theorem dX6_houseAt_12 : decode cX6_houseAt 12 = .ok (.iload_n 3, 1) := by decide +kernel
theorem dX6_houseAt_13 : decode cX6_houseAt 13 = .ok (.invokevirtual 190, 3) := by decide +kernel
theorem dX6_houseAt_16 : decode cX6_houseAt 16 = .ok (.i2l, 1) := by decide +kernel
theorem dX6_houseAt_17 : decode cX6_houseAt 17 = .ok (.aload_n 0, 1) := by decide +kernel
theorem dX6_houseAt_18 : decode cX6_houseAt 18 = .ok (.getfield 48, 3) := by decide +kernel
theorem dX6_houseAt_21 : decode cX6_houseAt 21 = .ok (.aload_n 0, 1) := by decide +kernel
theorem dX6_houseAt_22 : decode cX6_houseAt 22 = .ok (.getfield 58, 3) := by decide +kernel
theorem dX6_houseAt_25 : decode cX6_houseAt 25 = .ok (.iload_n 1, 1) := by decide +kernel
theorem dX6_houseAt_26 : decode cX6_houseAt 26 = .ok (.iaload, 1) := by decide +kernel
theorem dX6_houseAt_27 : decode cX6_houseAt 27 = .ok (.laload, 1) := by decide +kernel
theorem dX6_houseAt_28 : decode cX6_houseAt 28 = .ok (.lmul, 1) := by decide +kernel
theorem dX6_houseAt_29 : decode cX6_houseAt 29 = .ok (.lreturn, 1) := by decide +kernel
theorem dX6_houseAt_30 : decode cX6_houseAt 30 = .ok (.aload_n 0, 1) := by decide +kernel
theorem dX6_houseAt_31 : decode cX6_houseAt 31 = .ok (.getfield 65, 3) := by decide +kernel
theorem dX6_houseAt_34 : decode cX6_houseAt 34 = .ok (.bipush 44, 2) := by decide +kernel
theorem dX6_houseAt_36 : decode cX6_houseAt 36 = .ok (.iload_n 1, 1) := by decide +kernel
theorem dX6_houseAt_37 : decode cX6_houseAt 37 = .ok (.imul, 1) := by decide +kernel
theorem dX6_houseAt_38 : decode cX6_houseAt 38 = .ok (.iconst 2, 1) := by decide +kernel
theorem dX6_houseAt_39 : decode cX6_houseAt 39 = .ok (.iload_n 2, 1) := by decide +kernel
theorem dX6_houseAt_40 : decode cX6_houseAt 40 = .ok (.imul, 1) := by decide +kernel
theorem dX6_houseAt_41 : decode cX6_houseAt 41 = .ok (.iadd, 1) := by decide +kernel
theorem dX6_houseAt_42 : decode cX6_houseAt 42 = .ok (.iload_n 3, 1) := by decide +kernel
theorem dX6_houseAt_43 : decode cX6_houseAt 43 = .ok (.ifCond .eq 7, 3) := by decide +kernel
theorem dX6_houseAt_46 : decode cX6_houseAt 46 = .ok (.iconst 1, 1) := by decide +kernel
theorem dX6_houseAt_47 : decode cX6_houseAt 47 = .ok (.goto 4, 3) := by decide +kernel
theorem dX6_houseAt_50 : decode cX6_houseAt 50 = .ok (.iconst 0, 1) := by decide +kernel
theorem dX6_houseAt_51 : decode cX6_houseAt 51 = .ok (.iadd, 1) := by decide +kernel
theorem dX6_houseAt_52 : decode cX6_houseAt 52 = .ok (.laload, 1) := by decide +kernel
theorem dX6_houseAt_53 : decode cX6_houseAt 53 = .ok (.lreturn, 1) := by decide +kernel
theorem dX6_findHouse_0 : decode cX6_findHouse 0 = .ok (.iconst 1, 1) := by decide +kernel
theorem dX6_findHouse_1 : decode cX6_findHouse 1 = .ok (.istore_n 1, 1) := by decide +kernel
theorem dX6_findHouse_2 : decode cX6_findHouse 2 = .ok (.iload_n 1, 1) := by decide +kernel
theorem dX6_findHouse_3 : decode cX6_findHouse 3 = .ok (.aload_n 0, 1) := by decide +kernel
theorem dX6_findHouse_4 : decode cX6_findHouse 4 = .ok (.getfield 170, 3) := by decide +kernel
theorem dX6_findHouse_7 : decode cX6_findHouse 7 = .ok (.if_icmp .ge 150, 3) := by decide +kernel
theorem dX6_findHouse_10 : decode cX6_findHouse 10 = .ok (.aload_n 0, 1) := by decide +kernel
theorem dX6_findHouse_11 : decode cX6_findHouse 11 = .ok (.getfield 193, 3) := by decide +kernel
theorem dX6_findHouse_14 : decode cX6_findHouse 14 = .ok (.istore_n 2, 1) := by decide +kernel
theorem dX6_findHouse_15 : decode cX6_findHouse 15 = .ok (.iload_n 2, 1) := by decide +kernel
theorem dX6_findHouse_16 : decode cX6_findHouse 16 = .ok (.bipush 22, 2) := by decide +kernel
theorem dX6_findHouse_18 : decode cX6_findHouse 18 = .ok (.if_icmp .ge 133, 3) := by decide +kernel
theorem dX6_findHouse_21 : decode cX6_findHouse 21 = .ok (.iconst 0, 1) := by decide +kernel
theorem dX6_findHouse_22 : decode cX6_findHouse 22 = .ok (.istore_n 3, 1) := by decide +kernel
theorem dX6_findHouse_23 : decode cX6_findHouse 23 = .ok (.iload_n 3, 1) := by decide +kernel
theorem dX6_findHouse_24 : decode cX6_findHouse 24 = .ok (.iconst 2, 1) := by decide +kernel
theorem dX6_findHouse_25 : decode cX6_findHouse 25 = .ok (.if_icmp .ge 120, 3) := by decide +kernel
theorem dX6_findHouse_28 : decode cX6_findHouse 28 = .ok (.aload_n 0, 1) := by decide +kernel
theorem dX6_findHouse_29 : decode cX6_findHouse 29 = .ok (.iload_n 1, 1) := by decide +kernel
theorem dX6_findHouse_30 : decode cX6_findHouse 30 = .ok (.iload_n 2, 1) := by decide +kernel
theorem dX6_findHouse_31 : decode cX6_findHouse 31 = .ok (.iload_n 3, 1) := by decide +kernel
theorem dX6_findHouse_32 : decode cX6_findHouse 32 = .ok (.iconst 1, 1) := by decide +kernel
theorem dX6_findHouse_33 : decode cX6_findHouse 33 = .ok (.if_icmp .ne 7, 3) := by decide +kernel
theorem dX6_findHouse_36 : decode cX6_findHouse 36 = .ok (.iconst 1, 1) := by decide +kernel
theorem dX6_findHouse_37 : decode cX6_findHouse 37 = .ok (.goto 4, 3) := by decide +kernel
theorem dX6_findHouse_40 : decode cX6_findHouse 40 = .ok (.iconst 0, 1) := by decide +kernel
theorem dX6_findHouse_41 : decode cX6_findHouse 41 = .ok (.invokevirtual 186, 3) := by decide +kernel
theorem dX6_findHouse_44 : decode cX6_findHouse 44 = .ok (.ifCond .eq 95, 3) := by decide +kernel
theorem dX6_findHouse_47 : decode cX6_findHouse 47 = .ok (.lconst 0, 1) := by decide +kernel
theorem dX6_findHouse_48 : decode cX6_findHouse 48 = .ok (.lstore 4, 2) := by decide +kernel
theorem dX6_findHouse_50 : decode cX6_findHouse 50 = .ok (.iconst 1, 1) := by decide +kernel
theorem dX6_findHouse_51 : decode cX6_findHouse 51 = .ok (.istore 6, 2) := by decide +kernel
theorem dX6_findHouse_53 : decode cX6_findHouse 53 = .ok (.iload 6, 2) := by decide +kernel
theorem dX6_findHouse_55 : decode cX6_findHouse 55 = .ok (.bipush 11, 2) := by decide +kernel
theorem dX6_findHouse_57 : decode cX6_findHouse 57 = .ok (.if_icmp .ge 65, 3) := by decide +kernel
theorem dX6_findHouse_60 : decode cX6_findHouse 60 = .ok (.aload_n 0, 1) := by decide +kernel
theorem dX6_findHouse_61 : decode cX6_findHouse 61 = .ok (.iload_n 1, 1) := by decide +kernel
theorem dX6_findHouse_62 : decode cX6_findHouse 62 = .ok (.iload 6, 2) := by decide +kernel
theorem dX6_findHouse_64 : decode cX6_findHouse 64 = .ok (.invokevirtual 173, 3) := by decide +kernel
theorem dX6_findHouse_67 : decode cX6_findHouse 67 = .ok (.istore 7, 2) := by decide +kernel
theorem dX6_findHouse_69 : decode cX6_findHouse 69 = .ok (.iload 7, 2) := by decide +kernel
theorem dX6_findHouse_71 : decode cX6_findHouse 71 = .ok (.ifCond .le 45, 3) := by decide +kernel
theorem dX6_findHouse_74 : decode cX6_findHouse 74 = .ok (.lload 4, 2) := by decide +kernel
theorem dX6_findHouse_76 : decode cX6_findHouse 76 = .ok (.iload 7, 2) := by decide +kernel
theorem dX6_findHouse_78 : decode cX6_findHouse 78 = .ok (.i2l, 1) := by decide +kernel
theorem dX6_findHouse_79 : decode cX6_findHouse 79 = .ok (.aload_n 0, 1) := by decide +kernel
theorem dX6_findHouse_80 : decode cX6_findHouse 80 = .ok (.iload_n 1, 1) := by decide +kernel
theorem dX6_findHouse_81 : decode cX6_findHouse 81 = .ok (.aload_n 0, 1) := by decide +kernel
theorem dX6_findHouse_82 : decode cX6_findHouse 82 = .ok (.getfield 55, 3) := by decide +kernel
theorem dX6_findHouse_85 : decode cX6_findHouse 85 = .ok (.iload 6, 2) := by decide +kernel
theorem dX6_findHouse_87 : decode cX6_findHouse 87 = .ok (.iaload, 1) := by decide +kernel
theorem dX6_findHouse_88 : decode cX6_findHouse 88 = .ok (.isub, 1) := by decide +kernel
theorem dX6_findHouse_89 : decode cX6_findHouse 89 = .ok (.iload_n 2, 1) := by decide +kernel
theorem dX6_findHouse_90 : decode cX6_findHouse 90 = .ok (.iload 6, 2) := by decide +kernel
theorem dX6_findHouse_92 : decode cX6_findHouse 92 = .ok (.iadd, 1) := by decide +kernel
theorem dX6_findHouse_93 : decode cX6_findHouse 93 = .ok (.iload_n 3, 1) := by decide +kernel
theorem dX6_findHouse_94 : decode cX6_findHouse 94 = .ok (.iconst 1, 1) := by decide +kernel
theorem dX6_findHouse_95 : decode cX6_findHouse 95 = .ok (.if_icmp .eq 9, 3) := by decide +kernel
theorem dX6_findHouse_98 : decode cX6_findHouse 98 = .ok (.iload 6, 2) := by decide +kernel
theorem dX6_findHouse_100 : decode cX6_findHouse 100 = .ok (.iconst 1, 1) := by decide +kernel
theorem dX6_findHouse_101 : decode cX6_findHouse 101 = .ok (.if_icmp .ne 7, 3) := by decide +kernel
theorem dX6_findHouse_104 : decode cX6_findHouse 104 = .ok (.iconst 1, 1) := by decide +kernel
theorem dX6_findHouse_105 : decode cX6_findHouse 105 = .ok (.goto 4, 3) := by decide +kernel
theorem dX6_findHouse_108 : decode cX6_findHouse 108 = .ok (.iconst 0, 1) := by decide +kernel
theorem dX6_findHouse_109 : decode cX6_findHouse 109 = .ok (.invokevirtual 196, 3) := by decide +kernel
theorem dX6_findHouse_112 : decode cX6_findHouse 112 = .ok (.lmul, 1) := by decide +kernel
theorem dX6_findHouse_113 : decode cX6_findHouse 113 = .ok (.ladd, 1) := by decide +kernel
theorem dX6_findHouse_114 : decode cX6_findHouse 114 = .ok (.lstore 4, 2) := by decide +kernel
theorem dX6_findHouse_116 : decode cX6_findHouse 116 = .ok (.iinc 6 1, 3) := by decide +kernel
theorem dX6_findHouse_119 : decode cX6_findHouse 119 = .ok (.goto (-66), 3) := by decide +kernel
theorem dX6_findHouse_122 : decode cX6_findHouse 122 = .ok (.aload_n 0, 1) := by decide +kernel
theorem dX6_findHouse_123 : decode cX6_findHouse 123 = .ok (.getfield 65, 3) := by decide +kernel
theorem dX6_findHouse_126 : decode cX6_findHouse 126 = .ok (.bipush 44, 2) := by decide +kernel
theorem dX6_findHouse_128 : decode cX6_findHouse 128 = .ok (.iload_n 1, 1) := by decide +kernel
theorem dX6_findHouse_129 : decode cX6_findHouse 129 = .ok (.imul, 1) := by decide +kernel
theorem dX6_findHouse_130 : decode cX6_findHouse 130 = .ok (.iconst 2, 1) := by decide +kernel
theorem dX6_findHouse_131 : decode cX6_findHouse 131 = .ok (.iload_n 2, 1) := by decide +kernel
theorem dX6_findHouse_132 : decode cX6_findHouse 132 = .ok (.imul, 1) := by decide +kernel
theorem dX6_findHouse_133 : decode cX6_findHouse 133 = .ok (.iadd, 1) := by decide +kernel
theorem dX6_findHouse_134 : decode cX6_findHouse 134 = .ok (.iload_n 3, 1) := by decide +kernel
theorem dX6_findHouse_135 : decode cX6_findHouse 135 = .ok (.iadd, 1) := by decide +kernel
theorem dX6_findHouse_136 : decode cX6_findHouse 136 = .ok (.lload 4, 2) := by decide +kernel
theorem dX6_findHouse_138 : decode cX6_findHouse 138 = .ok (.lastore, 1) := by decide +kernel
theorem dX6_findHouse_139 : decode cX6_findHouse 139 = .ok (.iinc 3 1, 3) := by decide +kernel
theorem dX6_findHouse_142 : decode cX6_findHouse 142 = .ok (.goto (-119), 3) := by decide +kernel
theorem dX6_findHouse_145 : decode cX6_findHouse 145 = .ok (.iinc 2 1, 3) := by decide +kernel
theorem dX6_findHouse_148 : decode cX6_findHouse 148 = .ok (.goto (-133), 3) := by decide +kernel
theorem dX6_findHouse_151 : decode cX6_findHouse 151 = .ok (.iinc 1 1, 3) := by decide +kernel
theorem dX6_findHouse_154 : decode cX6_findHouse 154 = .ok (.goto (-152), 3) := by decide +kernel
theorem dX6_findHouse_157 : decode cX6_findHouse 157 = .ok (.return_, 1) := by decide +kernel
theorem dX6_houseFor_0 : decode cX6_houseFor 0 = .ok (.aload_n 0, 1) := by decide +kernel
theorem dX6_houseFor_1 : decode cX6_houseFor 1 = .ok (.iload_n 1, 1) := by decide +kernel
theorem dX6_houseFor_2 : decode cX6_houseFor 2 = .ok (.aload_n 0, 1) := by decide +kernel
theorem dX6_houseFor_3 : decode cX6_houseFor 3 = .ok (.getfield 193, 3) := by decide +kernel
theorem dX6_houseFor_6 : decode cX6_houseFor 6 = .ok (.aload_n 0, 1) := by decide +kernel
theorem dX6_houseFor_7 : decode cX6_houseFor 7 = .ok (.getfield 193, 3) := by decide +kernel
theorem dX6_houseFor_10 : decode cX6_houseFor 10 = .ok (.iconst 1, 1) := by decide +kernel
theorem dX6_houseFor_11 : decode cX6_houseFor 11 = .ok (.if_icmp .ne 7, 3) := by decide +kernel
theorem dX6_houseFor_14 : decode cX6_houseFor 14 = .ok (.iconst 1, 1) := by decide +kernel
theorem dX6_houseFor_15 : decode cX6_houseFor 15 = .ok (.goto 4, 3) := by decide +kernel
theorem dX6_houseFor_18 : decode cX6_houseFor 18 = .ok (.iconst 0, 1) := by decide +kernel
theorem dX6_houseFor_19 : decode cX6_houseFor 19 = .ok (.invokevirtual 196, 3) := by decide +kernel
theorem dX6_houseFor_22 : decode cX6_houseFor 22 = .ok (.lreturn, 1) := by decide +kernel
theorem dX6_valueAt_0 : decode cX6_valueAt 0 = .ok (.aload_n 0, 1) := by decide +kernel
theorem dX6_valueAt_1 : decode cX6_valueAt 1 = .ok (.getfield 200, 3) := by decide +kernel
