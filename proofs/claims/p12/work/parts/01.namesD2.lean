theorem dX6_valueAt_4 : decode cX6_valueAt 4 = .ok (.aload_n 0, 1) := by decide +kernel
theorem dX6_valueAt_5 : decode cX6_valueAt 5 = .ok (.getfield 61, 3) := by decide +kernel
theorem dX6_valueAt_8 : decode cX6_valueAt 8 = .ok (.aload_n 0, 1) := by decide +kernel
theorem dX6_valueAt_9 : decode cX6_valueAt 9 = .ok (.getfield 170, 3) := by decide +kernel
theorem dX6_valueAt_12 : decode cX6_valueAt 12 = .ok (.iconst 1, 1) := by decide +kernel
theorem dX6_valueAt_13 : decode cX6_valueAt 13 = .ok (.isub, 1) := by decide +kernel
theorem dX6_valueAt_14 : decode cX6_valueAt 14 = .ok (.iaload, 1) := by decide +kernel
theorem dX6_valueAt_15 : decode cX6_valueAt 15 = .ok (.iadd, 1) := by decide +kernel
theorem dX6_valueAt_16 : decode cX6_valueAt 16 = .ok (.aload_n 0, 1) := by decide +kernel
theorem dX6_valueAt_17 : decode cX6_valueAt 17 = .ok (.getfield 61, 3) := by decide +kernel
theorem dX6_valueAt_20 : decode cX6_valueAt 20 = .ok (.iload_n 1, 1) := by decide +kernel
theorem dX6_valueAt_21 : decode cX6_valueAt 21 = .ok (.iaload, 1) := by decide +kernel
theorem dX6_valueAt_22 : decode cX6_valueAt 22 = .ok (.isub, 1) := by decide +kernel
theorem dX6_valueAt_23 : decode cX6_valueAt 23 = .ok (.istore_n 2, 1) := by decide +kernel
theorem dX6_valueAt_24 : decode cX6_valueAt 24 = .ok (.aload_n 0, 1) := by decide +kernel
theorem dX6_valueAt_25 : decode cX6_valueAt 25 = .ok (.iload_n 2, 1) := by decide +kernel
theorem dX6_valueAt_26 : decode cX6_valueAt 26 = .ok (.aload_n 0, 1) := by decide +kernel
theorem dX6_valueAt_27 : decode cX6_valueAt 27 = .ok (.getfield 203, 3) := by decide +kernel
theorem dX6_valueAt_30 : decode cX6_valueAt 30 = .ok (.ifCond .ne 18, 3) := by decide +kernel
theorem dX6_valueAt_33 : decode cX6_valueAt 33 = .ok (.aload_n 0, 1) := by decide +kernel
theorem dX6_valueAt_34 : decode cX6_valueAt 34 = .ok (.iload_n 1, 1) := by decide +kernel
theorem dX6_valueAt_35 : decode cX6_valueAt 35 = .ok (.iconst 1, 1) := by decide +kernel
theorem dX6_valueAt_36 : decode cX6_valueAt 36 = .ok (.invokevirtual 173, 3) := by decide +kernel
theorem dX6_valueAt_39 : decode cX6_valueAt 39 = .ok (.aload_n 0, 1) := by decide +kernel
theorem dX6_valueAt_40 : decode cX6_valueAt 40 = .ok (.getfield 52, 3) := by decide +kernel
theorem dX6_valueAt_43 : decode cX6_valueAt 43 = .ok (.iconst 1, 1) := by decide +kernel
theorem dX6_valueAt_44 : decode cX6_valueAt 44 = .ok (.iaload, 1) := by decide +kernel
theorem dX6_valueAt_45 : decode cX6_valueAt 45 = .ok (.if_icmp .ge 7, 3) := by decide +kernel
theorem dX6_valueAt_48 : decode cX6_valueAt 48 = .ok (.iconst 1, 1) := by decide +kernel
theorem dX6_valueAt_49 : decode cX6_valueAt 49 = .ok (.goto 4, 3) := by decide +kernel
theorem dX6_valueAt_52 : decode cX6_valueAt 52 = .ok (.iconst 0, 1) := by decide +kernel
theorem dX6_valueAt_53 : decode cX6_valueAt 53 = .ok (.invokevirtual 143, 3) := by decide +kernel
theorem dX6_valueAt_56 : decode cX6_valueAt 56 = .ok (.ireturn, 1) := by decide +kernel
theorem dX6_findStands_0 : decode cX6_findStands 0 = .ok (.aload_n 0, 1) := by decide +kernel
theorem dX6_findStands_1 : decode cX6_findStands 1 = .ok (.iconst 0, 1) := by decide +kernel
theorem dX6_findStands_2 : decode cX6_findStands 2 = .ok (.putfield 177, 3) := by decide +kernel
theorem dX6_findStands_5 : decode cX6_findStands 5 = .ok (.aload_n 0, 1) := by decide +kernel
theorem dX6_findStands_6 : decode cX6_findStands 6 = .ok (.iconst 2, 1) := by decide +kernel
theorem dX6_findStands_7 : decode cX6_findStands 7 = .ok (.putfield 183, 3) := by decide +kernel
theorem dX6_findStands_10 : decode cX6_findStands 10 = .ok (.iconst 1, 1) := by decide +kernel
theorem dX6_findStands_11 : decode cX6_findStands 11 = .ok (.istore_n 1, 1) := by decide +kernel
theorem dX6_findStands_12 : decode cX6_findStands 12 = .ok (.iload_n 1, 1) := by decide +kernel
theorem dX6_findStands_13 : decode cX6_findStands 13 = .ok (.aload_n 0, 1) := by decide +kernel
theorem dX6_findStands_14 : decode cX6_findStands 14 = .ok (.getfield 25, 3) := by decide +kernel
theorem dX6_findStands_17 : decode cX6_findStands 17 = .ok (.if_icmp .gt 104, 3) := by decide +kernel
theorem dX6_findStands_20 : decode cX6_findStands 20 = .ok (.iconst 0, 1) := by decide +kernel
theorem dX6_findStands_21 : decode cX6_findStands 21 = .ok (.istore_n 2, 1) := by decide +kernel
theorem dX6_findStands_22 : decode cX6_findStands 22 = .ok (.iconst 0, 1) := by decide +kernel
theorem dX6_findStands_23 : decode cX6_findStands 23 = .ok (.istore_n 3, 1) := by decide +kernel
theorem dX6_findStands_24 : decode cX6_findStands 24 = .ok (.iload_n 3, 1) := by decide +kernel
theorem dX6_findStands_25 : decode cX6_findStands 25 = .ok (.aload_n 0, 1) := by decide +kernel
theorem dX6_findStands_26 : decode cX6_findStands 26 = .ok (.getfield 170, 3) := by decide +kernel
theorem dX6_findStands_29 : decode cX6_findStands 29 = .ok (.if_icmp .ge 28, 3) := by decide +kernel
theorem dX6_findStands_32 : decode cX6_findStands 32 = .ok (.iload_n 2, 1) := by decide +kernel
theorem dX6_findStands_33 : decode cX6_findStands 33 = .ok (.ifCond .ne 12, 3) := by decide +kernel
theorem dX6_findStands_36 : decode cX6_findStands 36 = .ok (.aload_n 0, 1) := by decide +kernel
theorem dX6_findStands_37 : decode cX6_findStands 37 = .ok (.iload_n 3, 1) := by decide +kernel
theorem dX6_findStands_38 : decode cX6_findStands 38 = .ok (.invokevirtual 206, 3) := by decide +kernel
theorem dX6_findStands_41 : decode cX6_findStands 41 = .ok (.iload_n 1, 1) := by decide +kernel
theorem dX6_findStands_42 : decode cX6_findStands 42 = .ok (.if_icmp .ne 7, 3) := by decide +kernel
theorem dX6_findStands_45 : decode cX6_findStands 45 = .ok (.iconst 1, 1) := by decide +kernel
theorem dX6_findStands_46 : decode cX6_findStands 46 = .ok (.goto 4, 3) := by decide +kernel
theorem dX6_findStands_49 : decode cX6_findStands 49 = .ok (.iconst 0, 1) := by decide +kernel
theorem dX6_findStands_50 : decode cX6_findStands 50 = .ok (.istore_n 2, 1) := by decide +kernel
theorem dX6_findStands_51 : decode cX6_findStands 51 = .ok (.iinc 3 1, 3) := by decide +kernel
theorem dX6_findStands_54 : decode cX6_findStands 54 = .ok (.goto (-30), 3) := by decide +kernel
theorem dX6_findStands_57 : decode cX6_findStands 57 = .ok (.iload_n 2, 1) := by decide +kernel
theorem dX6_findStands_58 : decode cX6_findStands 58 = .ok (.ifCond .eq 57, 3) := by decide +kernel
theorem dX6_findStands_61 : decode cX6_findStands 61 = .ok (.aload_n 0, 1) := by decide +kernel
theorem dX6_findStands_62 : decode cX6_findStands 62 = .ok (.iload_n 1, 1) := by decide +kernel
theorem dX6_findStands_63 : decode cX6_findStands 63 = .ok (.putfield 180, 3) := by decide +kernel
theorem dX6_findStands_66 : decode cX6_findStands 66 = .ok (.aload_n 0, 1) := by decide +kernel
theorem dX6_findStands_67 : decode cX6_findStands 67 = .ok (.invokevirtual 210, 3) := by decide +kernel
theorem dX6_findStands_70 : decode cX6_findStands 70 = .ok (.iconst 0, 1) := by decide +kernel
theorem dX6_findStands_71 : decode cX6_findStands 71 = .ok (.istore_n 3, 1) := by decide +kernel
theorem dX6_findStands_72 : decode cX6_findStands 72 = .ok (.iload_n 3, 1) := by decide +kernel
theorem dX6_findStands_73 : decode cX6_findStands 73 = .ok (.aload_n 0, 1) := by decide +kernel
theorem dX6_findStands_74 : decode cX6_findStands 74 = .ok (.getfield 170, 3) := by decide +kernel
theorem dX6_findStands_77 : decode cX6_findStands 77 = .ok (.if_icmp .ge 38, 3) := by decide +kernel
theorem dX6_findStands_80 : decode cX6_findStands 80 = .ok (.aload_n 0, 1) := by decide +kernel
theorem dX6_findStands_81 : decode cX6_findStands 81 = .ok (.getfield 68, 3) := by decide +kernel
theorem dX6_findStands_84 : decode cX6_findStands 84 = .ok (.iload_n 3, 1) := by decide +kernel
theorem dX6_findStands_85 : decode cX6_findStands 85 = .ok (.aload_n 0, 1) := by decide +kernel
theorem dX6_findStands_86 : decode cX6_findStands 86 = .ok (.iload_n 3, 1) := by decide +kernel
theorem dX6_findStands_87 : decode cX6_findStands 87 = .ok (.invokevirtual 206, 3) := by decide +kernel
theorem dX6_findStands_90 : decode cX6_findStands 90 = .ok (.iload_n 1, 1) := by decide +kernel
theorem dX6_findStands_91 : decode cX6_findStands 91 = .ok (.if_icmp .ne 11, 3) := by decide +kernel
theorem dX6_findStands_94 : decode cX6_findStands 94 = .ok (.aload_n 0, 1) := by decide +kernel
theorem dX6_findStands_95 : decode cX6_findStands 95 = .ok (.iload_n 3, 1) := by decide +kernel
theorem dX6_findStands_96 : decode cX6_findStands 96 = .ok (.invokevirtual 213, 3) := by decide +kernel
theorem dX6_findStands_99 : decode cX6_findStands 99 = .ok (.goto 9, 3) := by decide +kernel
theorem dX6_findStands_102 : decode cX6_findStands 102 = .ok (.aload_n 0, 1) := by decide +kernel
theorem dX6_findStands_103 : decode cX6_findStands 103 = .ok (.getfield 68, 3) := by decide +kernel
theorem dX6_findStands_106 : decode cX6_findStands 106 = .ok (.iload_n 3, 1) := by decide +kernel
theorem dX6_findStands_107 : decode cX6_findStands 107 = .ok (.laload, 1) := by decide +kernel
theorem dX6_findStands_108 : decode cX6_findStands 108 = .ok (.lastore, 1) := by decide +kernel
theorem dX6_findStands_109 : decode cX6_findStands 109 = .ok (.iinc 3 1, 3) := by decide +kernel
theorem dX6_findStands_112 : decode cX6_findStands 112 = .ok (.goto (-40), 3) := by decide +kernel
theorem dX6_findStands_115 : decode cX6_findStands 115 = .ok (.iinc 1 1, 3) := by decide +kernel
theorem dX6_findStands_118 : decode cX6_findStands 118 = .ok (.goto (-106), 3) := by decide +kernel
theorem dX6_findStands_121 : decode cX6_findStands 121 = .ok (.iconst 0, 1) := by decide +kernel
theorem dX6_findStands_122 : decode cX6_findStands 122 = .ok (.istore_n 1, 1) := by decide +kernel
theorem dX6_findStands_123 : decode cX6_findStands 123 = .ok (.iload_n 1, 1) := by decide +kernel
theorem dX6_findStands_124 : decode cX6_findStands 124 = .ok (.aload_n 0, 1) := by decide +kernel
theorem dX6_findStands_125 : decode cX6_findStands 125 = .ok (.getfield 170, 3) := by decide +kernel
theorem dX6_findStands_128 : decode cX6_findStands 128 = .ok (.if_icmp .ge 51, 3) := by decide +kernel
theorem dX6_findStands_131 : decode cX6_findStands 131 = .ok (.aload_n 0, 1) := by decide +kernel
theorem dX6_findStands_132 : decode cX6_findStands 132 = .ok (.getfield 68, 3) := by decide +kernel
theorem dX6_findStands_135 : decode cX6_findStands 135 = .ok (.iload_n 1, 1) := by decide +kernel
theorem dX6_findStands_136 : decode cX6_findStands 136 = .ok (.aload_n 0, 1) := by decide +kernel
theorem dX6_findStands_137 : decode cX6_findStands 137 = .ok (.iload_n 1, 1) := by decide +kernel
theorem dX6_findStands_138 : decode cX6_findStands 138 = .ok (.invokevirtual 206, 3) := by decide +kernel
theorem dX6_findStands_141 : decode cX6_findStands 141 = .ok (.aload_n 0, 1) := by decide +kernel
theorem dX6_findStands_142 : decode cX6_findStands 142 = .ok (.getfield 25, 3) := by decide +kernel
theorem dX6_findStands_145 : decode cX6_findStands 145 = .ok (.if_icmp .le 21, 3) := by decide +kernel
theorem dX6_findStands_148 : decode cX6_findStands 148 = .ok (.ldc2_w 217, 3) := by decide +kernel
theorem dX6_findStands_151 : decode cX6_findStands 151 = .ok (.aload_n 0, 1) := by decide +kernel
theorem dX6_findStands_152 : decode cX6_findStands 152 = .ok (.getfield 48, 3) := by decide +kernel
theorem dX6_findStands_155 : decode cX6_findStands 155 = .ok (.aload_n 0, 1) := by decide +kernel
theorem dX6_findStands_156 : decode cX6_findStands 156 = .ok (.getfield 58, 3) := by decide +kernel
theorem dX6_findStands_159 : decode cX6_findStands 159 = .ok (.iload_n 1, 1) := by decide +kernel
theorem dX6_findStands_160 : decode cX6_findStands 160 = .ok (.iaload, 1) := by decide +kernel
theorem dX6_findStands_161 : decode cX6_findStands 161 = .ok (.laload, 1) := by decide +kernel
theorem dX6_findStands_162 : decode cX6_findStands 162 = .ok (.lmul, 1) := by decide +kernel
theorem dX6_findStands_163 : decode cX6_findStands 163 = .ok (.goto 9, 3) := by decide +kernel
theorem dX6_findStands_166 : decode cX6_findStands 166 = .ok (.aload_n 0, 1) := by decide +kernel
theorem dX6_findStands_167 : decode cX6_findStands 167 = .ok (.getfield 68, 3) := by decide +kernel
theorem dX6_findStands_170 : decode cX6_findStands 170 = .ok (.iload_n 1, 1) := by decide +kernel
theorem dX6_findStands_171 : decode cX6_findStands 171 = .ok (.laload, 1) := by decide +kernel
theorem dX6_findStands_172 : decode cX6_findStands 172 = .ok (.lastore, 1) := by decide +kernel
theorem dX6_findStands_173 : decode cX6_findStands 173 = .ok (.iinc 1 1, 3) := by decide +kernel
theorem dX6_findStands_176 : decode cX6_findStands 176 = .ok (.goto (-53), 3) := by decide +kernel
theorem dX6_findStands_179 : decode cX6_findStands 179 = .ok (.return_, 1) := by decide +kernel
theorem dX6_standWorth_0 : decode cX6_standWorth 0 = .ok (.aload_n 0, 1) := by decide +kernel
theorem dX6_standWorth_1 : decode cX6_standWorth 1 = .ok (.iconst 0, 1) := by decide +kernel
theorem dX6_standWorth_2 : decode cX6_standWorth 2 = .ok (.putfield 177, 3) := by decide +kernel
theorem dX6_standWorth_5 : decode cX6_standWorth 5 = .ok (.aload_n 0, 1) := by decide +kernel
theorem dX6_standWorth_6 : decode cX6_standWorth 6 = .ok (.aload_n 0, 1) := by decide +kernel
theorem dX6_standWorth_7 : decode cX6_standWorth 7 = .ok (.aload_n 0, 1) := by decide +kernel
theorem dX6_standWorth_8 : decode cX6_standWorth 8 = .ok (.getfield 170, 3) := by decide +kernel
theorem dX6_standWorth_11 : decode cX6_standWorth 11 = .ok (.iconst 1, 1) := by decide +kernel
theorem dX6_standWorth_12 : decode cX6_standWorth 12 = .ok (.isub, 1) := by decide +kernel
theorem dX6_standWorth_13 : decode cX6_standWorth 13 = .ok (.invokevirtual 206, 3) := by decide +kernel
theorem dX6_standWorth_16 : decode cX6_standWorth 16 = .ok (.putfield 180, 3) := by decide +kernel
theorem dX6_standWorth_19 : decode cX6_standWorth 19 = .ok (.aload_n 0, 1) := by decide +kernel
theorem dX6_standWorth_20 : decode cX6_standWorth 20 = .ok (.aload_n 0, 1) := by decide +kernel
theorem dX6_standWorth_21 : decode cX6_standWorth 21 = .ok (.getfield 219, 3) := by decide +kernel
theorem dX6_standWorth_24 : decode cX6_standWorth 24 = .ok (.iconst 2, 1) := by decide +kernel
theorem dX6_standWorth_25 : decode cX6_standWorth 25 = .ok (.if_icmp .ne 21, 3) := by decide +kernel
theorem dX6_standWorth_28 : decode cX6_standWorth 28 = .ok (.aload_n 0, 1) := by decide +kernel
theorem dX6_standWorth_29 : decode cX6_standWorth 29 = .ok (.getfield 180, 3) := by decide +kernel
theorem dX6_standWorth_32 : decode cX6_standWorth 32 = .ok (.aload_n 0, 1) := by decide +kernel
theorem dX6_standWorth_33 : decode cX6_standWorth 33 = .ok (.getfield 25, 3) := by decide +kernel
theorem dX6_standWorth_36 : decode cX6_standWorth 36 = .ok (.if_icmp .ne 10, 3) := by decide +kernel
theorem dX6_standWorth_39 : decode cX6_standWorth 39 = .ok (.aload_n 0, 1) := by decide +kernel
theorem dX6_standWorth_40 : decode cX6_standWorth 40 = .ok (.getfield 41, 3) := by decide +kernel
theorem dX6_standWorth_43 : decode cX6_standWorth 43 = .ok (.goto 4, 3) := by decide +kernel
theorem dX6_standWorth_46 : decode cX6_standWorth 46 = .ok (.iconst 2, 1) := by decide +kernel
theorem dX6_standWorth_47 : decode cX6_standWorth 47 = .ok (.putfield 183, 3) := by decide +kernel
theorem dX6_standWorth_50 : decode cX6_standWorth 50 = .ok (.aload_n 0, 1) := by decide +kernel
theorem dX6_standWorth_51 : decode cX6_standWorth 51 = .ok (.invokevirtual 210, 3) := by decide +kernel
theorem dX6_standWorth_54 : decode cX6_standWorth 54 = .ok (.aload_n 0, 1) := by decide +kernel
theorem dX6_standWorth_55 : decode cX6_standWorth 55 = .ok (.aload_n 0, 1) := by decide +kernel
theorem dX6_standWorth_56 : decode cX6_standWorth 56 = .ok (.getfield 170, 3) := by decide +kernel
theorem dX6_standWorth_59 : decode cX6_standWorth 59 = .ok (.iconst 1, 1) := by decide +kernel
theorem dX6_standWorth_60 : decode cX6_standWorth 60 = .ok (.isub, 1) := by decide +kernel
theorem dX6_standWorth_61 : decode cX6_standWorth 61 = .ok (.invokevirtual 213, 3) := by decide +kernel
theorem dX6_standWorth_64 : decode cX6_standWorth 64 = .ok (.lreturn, 1) := by decide +kernel
theorem dX6_drawWorth_0 : decode cX6_drawWorth 0 = .ok (.aload_n 0, 1) := by decide +kernel
theorem dX6_drawWorth_1 : decode cX6_drawWorth 1 = .ok (.invokevirtual 222, 3) := by decide +kernel
theorem dX6_drawWorth_4 : decode cX6_drawWorth 4 = .ok (.lconst 0, 1) := by decide +kernel
theorem dX6_drawWorth_5 : decode cX6_drawWorth 5 = .ok (.lstore_n 1, 1) := by decide +kernel
theorem dX6_drawWorth_6 : decode cX6_drawWorth 6 = .ok (.iconst 0, 1) := by decide +kernel
theorem dX6_drawWorth_7 : decode cX6_drawWorth 7 = .ok (.istore_n 3, 1) := by decide +kernel
theorem dX6_drawWorth_8 : decode cX6_drawWorth 8 = .ok (.iload_n 3, 1) := by decide +kernel
theorem dX6_drawWorth_9 : decode cX6_drawWorth 9 = .ok (.aload_n 0, 1) := by decide +kernel
theorem dX6_drawWorth_10 : decode cX6_drawWorth 10 = .ok (.getfield 170, 3) := by decide +kernel
theorem dX6_drawWorth_13 : decode cX6_drawWorth 13 = .ok (.if_icmp .ge 114, 3) := by decide +kernel
theorem dX6_drawWorth_16 : decode cX6_drawWorth 16 = .ok (.lconst 0, 1) := by decide +kernel
theorem dX6_drawWorth_17 : decode cX6_drawWorth 17 = .ok (.lstore_n 1, 1) := by decide +kernel
theorem dX6_drawWorth_18 : decode cX6_drawWorth 18 = .ok (.iconst 1, 1) := by decide +kernel
theorem dX6_drawWorth_19 : decode cX6_drawWorth 19 = .ok (.istore 4, 2) := by decide +kernel
theorem dX6_drawWorth_21 : decode cX6_drawWorth 21 = .ok (.iload 4, 2) := by decide +kernel
theorem dX6_drawWorth_23 : decode cX6_drawWorth 23 = .ok (.bipush 11, 2) := by decide +kernel
theorem dX6_drawWorth_25 : decode cX6_drawWorth 25 = .ok (.if_icmp .ge 48, 3) := by decide +kernel
theorem dX6_drawWorth_28 : decode cX6_drawWorth 28 = .ok (.aload_n 0, 1) := by decide +kernel
theorem dX6_drawWorth_29 : decode cX6_drawWorth 29 = .ok (.iload_n 3, 1) := by decide +kernel
theorem dX6_drawWorth_30 : decode cX6_drawWorth 30 = .ok (.iload 4, 2) := by decide +kernel
theorem dX6_drawWorth_32 : decode cX6_drawWorth 32 = .ok (.invokevirtual 173, 3) := by decide +kernel
theorem dX6_drawWorth_35 : decode cX6_drawWorth 35 = .ok (.istore 5, 2) := by decide +kernel
theorem dX6_drawWorth_37 : decode cX6_drawWorth 37 = .ok (.lload_n 1, 1) := by decide +kernel
theorem dX6_drawWorth_38 : decode cX6_drawWorth 38 = .ok (.iload 5, 2) := by decide +kernel
theorem dX6_drawWorth_40 : decode cX6_drawWorth 40 = .ok (.ifCond .le 24, 3) := by decide +kernel
theorem dX6_drawWorth_43 : decode cX6_drawWorth 43 = .ok (.iload 5, 2) := by decide +kernel
theorem dX6_drawWorth_45 : decode cX6_drawWorth 45 = .ok (.i2l, 1) := by decide +kernel
theorem dX6_drawWorth_46 : decode cX6_drawWorth 46 = .ok (.aload_n 0, 1) := by decide +kernel
theorem dX6_drawWorth_47 : decode cX6_drawWorth 47 = .ok (.getfield 71, 3) := by decide +kernel
theorem dX6_drawWorth_50 : decode cX6_drawWorth 50 = .ok (.iload_n 3, 1) := by decide +kernel
theorem dX6_drawWorth_51 : decode cX6_drawWorth 51 = .ok (.aload_n 0, 1) := by decide +kernel
theorem dX6_drawWorth_52 : decode cX6_drawWorth 52 = .ok (.getfield 55, 3) := by decide +kernel
theorem dX6_drawWorth_55 : decode cX6_drawWorth 55 = .ok (.iload 4, 2) := by decide +kernel
theorem dX6_drawWorth_57 : decode cX6_drawWorth 57 = .ok (.iaload, 1) := by decide +kernel
theorem dX6_drawWorth_58 : decode cX6_drawWorth 58 = .ok (.isub, 1) := by decide +kernel
theorem dX6_drawWorth_59 : decode cX6_drawWorth 59 = .ok (.laload, 1) := by decide +kernel
theorem dX6_drawWorth_60 : decode cX6_drawWorth 60 = .ok (.lmul, 1) := by decide +kernel
theorem dX6_drawWorth_61 : decode cX6_drawWorth 61 = .ok (.goto 4, 3) := by decide +kernel
theorem dX6_drawWorth_64 : decode cX6_drawWorth 64 = .ok (.lconst 0, 1) := by decide +kernel
theorem dX6_drawWorth_65 : decode cX6_drawWorth 65 = .ok (.ladd, 1) := by decide +kernel
theorem dX6_drawWorth_66 : decode cX6_drawWorth 66 = .ok (.lstore_n 1, 1) := by decide +kernel
theorem dX6_drawWorth_67 : decode cX6_drawWorth 67 = .ok (.iinc 4 1, 3) := by decide +kernel
theorem dX6_drawWorth_70 : decode cX6_drawWorth 70 = .ok (.goto (-49), 3) := by decide +kernel
theorem dX6_drawWorth_73 : decode cX6_drawWorth 73 = .ok (.aload_n 0, 1) := by decide +kernel
theorem dX6_drawWorth_74 : decode cX6_drawWorth 74 = .ok (.getfield 71, 3) := by decide +kernel
theorem dX6_drawWorth_77 : decode cX6_drawWorth 77 = .ok (.iload_n 3, 1) := by decide +kernel
theorem dX6_drawWorth_78 : decode cX6_drawWorth 78 = .ok (.aload_n 0, 1) := by decide +kernel
theorem dX6_drawWorth_79 : decode cX6_drawWorth 79 = .ok (.iload_n 3, 1) := by decide +kernel
theorem dX6_drawWorth_80 : decode cX6_drawWorth 80 = .ok (.invokevirtual 206, 3) := by decide +kernel
theorem dX6_drawWorth_83 : decode cX6_drawWorth 83 = .ok (.aload_n 0, 1) := by decide +kernel
theorem dX6_drawWorth_84 : decode cX6_drawWorth 84 = .ok (.getfield 25, 3) := by decide +kernel
theorem dX6_drawWorth_87 : decode cX6_drawWorth 87 = .ok (.if_icmp .gt 23, 3) := by decide +kernel
theorem dX6_drawWorth_90 : decode cX6_drawWorth 90 = .ok (.aload_n 0, 1) := by decide +kernel
theorem dX6_drawWorth_91 : decode cX6_drawWorth 91 = .ok (.getfield 58, 3) := by decide +kernel
theorem dX6_drawWorth_94 : decode cX6_drawWorth 94 = .ok (.iload_n 3, 1) := by decide +kernel
theorem dX6_drawWorth_95 : decode cX6_drawWorth 95 = .ok (.iaload, 1) := by decide +kernel
theorem dX6_drawWorth_96 : decode cX6_drawWorth 96 = .ok (.ifCond .eq 14, 3) := by decide +kernel
theorem dX6_drawWorth_99 : decode cX6_drawWorth 99 = .ok (.aload_n 0, 1) := by decide +kernel
theorem dX6_drawWorth_100 : decode cX6_drawWorth 100 = .ok (.getfield 68, 3) := by decide +kernel
theorem dX6_drawWorth_103 : decode cX6_drawWorth 103 = .ok (.iload_n 3, 1) := by decide +kernel
theorem dX6_drawWorth_104 : decode cX6_drawWorth 104 = .ok (.laload, 1) := by decide +kernel
theorem dX6_drawWorth_105 : decode cX6_drawWorth 105 = .ok (.lload_n 1, 1) := by decide +kernel
theorem dX6_drawWorth_106 : decode cX6_drawWorth 106 = .ok (.lcmp, 1) := by decide +kernel
theorem dX6_drawWorth_107 : decode cX6_drawWorth 107 = .ok (.ifCond .le 12, 3) := by decide +kernel
theorem dX6_drawWorth_110 : decode cX6_drawWorth 110 = .ok (.aload_n 0, 1) := by decide +kernel
theorem dX6_drawWorth_111 : decode cX6_drawWorth 111 = .ok (.getfield 68, 3) := by decide +kernel
theorem dX6_drawWorth_114 : decode cX6_drawWorth 114 = .ok (.iload_n 3, 1) := by decide +kernel
theorem dX6_drawWorth_115 : decode cX6_drawWorth 115 = .ok (.laload, 1) := by decide +kernel
theorem dX6_drawWorth_116 : decode cX6_drawWorth 116 = .ok (.goto 4, 3) := by decide +kernel
theorem dX6_drawWorth_119 : decode cX6_drawWorth 119 = .ok (.lload_n 1, 1) := by decide +kernel
theorem dX6_drawWorth_120 : decode cX6_drawWorth 120 = .ok (.lastore, 1) := by decide +kernel
theorem dX6_drawWorth_121 : decode cX6_drawWorth 121 = .ok (.iinc 3 1, 3) := by decide +kernel
theorem dX6_drawWorth_124 : decode cX6_drawWorth 124 = .ok (.goto (-116), 3) := by decide +kernel
theorem dX6_drawWorth_127 : decode cX6_drawWorth 127 = .ok (.lload_n 1, 1) := by decide +kernel
theorem dX6_drawWorth_128 : decode cX6_drawWorth 128 = .ok (.lreturn, 1) := by decide +kernel
theorem dX6_doubleWorth_0 : decode cX6_doubleWorth 0 = .ok (.aload_n 0, 1) := by decide +kernel
theorem dX6_doubleWorth_1 : decode cX6_doubleWorth 1 = .ok (.invokevirtual 222, 3) := by decide +kernel
theorem dX6_doubleWorth_4 : decode cX6_doubleWorth 4 = .ok (.aload_n 0, 1) := by decide +kernel
theorem dX6_doubleWorth_5 : decode cX6_doubleWorth 5 = .ok (.getfield 170, 3) := by decide +kernel
theorem dX6_doubleWorth_8 : decode cX6_doubleWorth 8 = .ok (.iconst 1, 1) := by decide +kernel
theorem dX6_doubleWorth_9 : decode cX6_doubleWorth 9 = .ok (.isub, 1) := by decide +kernel
theorem dX6_doubleWorth_10 : decode cX6_doubleWorth 10 = .ok (.istore_n 1, 1) := by decide +kernel
theorem dX6_doubleWorth_11 : decode cX6_doubleWorth 11 = .ok (.lconst 0, 1) := by decide +kernel
theorem dX6_doubleWorth_12 : decode cX6_doubleWorth 12 = .ok (.lstore_n 2, 1) := by decide +kernel
theorem dX6_doubleWorth_13 : decode cX6_doubleWorth 13 = .ok (.iconst 1, 1) := by decide +kernel
theorem dX6_doubleWorth_14 : decode cX6_doubleWorth 14 = .ok (.istore 4, 2) := by decide +kernel
theorem dX6_doubleWorth_16 : decode cX6_doubleWorth 16 = .ok (.iload 4, 2) := by decide +kernel
theorem dX6_doubleWorth_18 : decode cX6_doubleWorth 18 = .ok (.bipush 11, 2) := by decide +kernel
theorem dX6_doubleWorth_20 : decode cX6_doubleWorth 20 = .ok (.if_icmp .ge 48, 3) := by decide +kernel
theorem dX6_doubleWorth_23 : decode cX6_doubleWorth 23 = .ok (.aload_n 0, 1) := by decide +kernel
theorem dX6_doubleWorth_24 : decode cX6_doubleWorth 24 = .ok (.iload_n 1, 1) := by decide +kernel
theorem dX6_doubleWorth_25 : decode cX6_doubleWorth 25 = .ok (.iload 4, 2) := by decide +kernel
theorem dX6_doubleWorth_27 : decode cX6_doubleWorth 27 = .ok (.invokevirtual 173, 3) := by decide +kernel
theorem dX6_doubleWorth_30 : decode cX6_doubleWorth 30 = .ok (.istore 5, 2) := by decide +kernel
theorem dX6_doubleWorth_32 : decode cX6_doubleWorth 32 = .ok (.lload_n 2, 1) := by decide +kernel
theorem dX6_doubleWorth_33 : decode cX6_doubleWorth 33 = .ok (.iload 5, 2) := by decide +kernel
theorem dX6_doubleWorth_35 : decode cX6_doubleWorth 35 = .ok (.ifCond .le 24, 3) := by decide +kernel
theorem dX6_doubleWorth_38 : decode cX6_doubleWorth 38 = .ok (.iload 5, 2) := by decide +kernel
theorem dX6_doubleWorth_40 : decode cX6_doubleWorth 40 = .ok (.i2l, 1) := by decide +kernel
theorem dX6_doubleWorth_41 : decode cX6_doubleWorth 41 = .ok (.aload_n 0, 1) := by decide +kernel
theorem dX6_doubleWorth_42 : decode cX6_doubleWorth 42 = .ok (.getfield 68, 3) := by decide +kernel
theorem dX6_doubleWorth_45 : decode cX6_doubleWorth 45 = .ok (.iload_n 1, 1) := by decide +kernel
theorem dX6_doubleWorth_46 : decode cX6_doubleWorth 46 = .ok (.aload_n 0, 1) := by decide +kernel
theorem dX6_doubleWorth_47 : decode cX6_doubleWorth 47 = .ok (.getfield 55, 3) := by decide +kernel
theorem dX6_doubleWorth_50 : decode cX6_doubleWorth 50 = .ok (.iload 4, 2) := by decide +kernel
theorem dX6_doubleWorth_52 : decode cX6_doubleWorth 52 = .ok (.iaload, 1) := by decide +kernel
theorem dX6_doubleWorth_53 : decode cX6_doubleWorth 53 = .ok (.isub, 1) := by decide +kernel
theorem dX6_doubleWorth_54 : decode cX6_doubleWorth 54 = .ok (.laload, 1) := by decide +kernel
theorem dX6_doubleWorth_55 : decode cX6_doubleWorth 55 = .ok (.lmul, 1) := by decide +kernel
theorem dX6_doubleWorth_56 : decode cX6_doubleWorth 56 = .ok (.goto 4, 3) := by decide +kernel
theorem dX6_doubleWorth_59 : decode cX6_doubleWorth 59 = .ok (.lconst 0, 1) := by decide +kernel
theorem dX6_doubleWorth_60 : decode cX6_doubleWorth 60 = .ok (.ladd, 1) := by decide +kernel
theorem dX6_doubleWorth_61 : decode cX6_doubleWorth 61 = .ok (.lstore_n 2, 1) := by decide +kernel
theorem dX6_doubleWorth_62 : decode cX6_doubleWorth 62 = .ok (.iinc 4 1, 3) := by decide +kernel
theorem dX6_doubleWorth_65 : decode cX6_doubleWorth 65 = .ok (.goto (-49), 3) := by decide +kernel
theorem dX6_doubleWorth_68 : decode cX6_doubleWorth 68 = .ok (.ldc2_w 112, 3) := by decide +kernel
theorem dX6_doubleWorth_71 : decode cX6_doubleWorth 71 = .ok (.lload_n 2, 1) := by decide +kernel
theorem dX6_doubleWorth_72 : decode cX6_doubleWorth 72 = .ok (.lmul, 1) := by decide +kernel
theorem dX6_doubleWorth_73 : decode cX6_doubleWorth 73 = .ok (.lreturn, 1) := by decide +kernel
theorem dX6_splitWorth_0 : decode cX6_splitWorth 0 = .ok (.aload_n 0, 1) := by decide +kernel
theorem dX6_splitWorth_1 : decode cX6_splitWorth 1 = .ok (.iconst 0, 1) := by decide +kernel
theorem dX6_splitWorth_2 : decode cX6_splitWorth 2 = .ok (.putfield 177, 3) := by decide +kernel
theorem dX6_splitWorth_5 : decode cX6_splitWorth 5 = .ok (.aload_n 0, 1) := by decide +kernel
theorem dX6_splitWorth_6 : decode cX6_splitWorth 6 = .ok (.iconst 2, 1) := by decide +kernel
theorem dX6_splitWorth_7 : decode cX6_splitWorth 7 = .ok (.putfield 183, 3) := by decide +kernel
theorem dX6_splitWorth_10 : decode cX6_splitWorth 10 = .ok (.aload_n 0, 1) := by decide +kernel
theorem dX6_splitWorth_11 : decode cX6_splitWorth 11 = .ok (.getfield 170, 3) := by decide +kernel
theorem dX6_splitWorth_14 : decode cX6_splitWorth 14 = .ok (.iconst 1, 1) := by decide +kernel
theorem dX6_splitWorth_15 : decode cX6_splitWorth 15 = .ok (.isub, 1) := by decide +kernel
theorem dX6_splitWorth_16 : decode cX6_splitWorth 16 = .ok (.istore_n 1, 1) := by decide +kernel
theorem dX6_splitWorth_17 : decode cX6_splitWorth 17 = .ok (.lconst 0, 1) := by decide +kernel
theorem dX6_splitWorth_18 : decode cX6_splitWorth 18 = .ok (.lstore_n 2, 1) := by decide +kernel
theorem dX6_splitWorth_19 : decode cX6_splitWorth 19 = .ok (.iconst 1, 1) := by decide +kernel
theorem dX6_splitWorth_20 : decode cX6_splitWorth 20 = .ok (.istore 4, 2) := by decide +kernel
theorem dX6_splitWorth_22 : decode cX6_splitWorth 22 = .ok (.iload 4, 2) := by decide +kernel
theorem dX6_splitWorth_24 : decode cX6_splitWorth 24 = .ok (.bipush 11, 2) := by decide +kernel
theorem dX6_splitWorth_26 : decode cX6_splitWorth 26 = .ok (.if_icmp .ge 191, 3) := by decide +kernel
theorem dX6_splitWorth_29 : decode cX6_splitWorth 29 = .ok (.aload_n 0, 1) := by decide +kernel
theorem dX6_splitWorth_30 : decode cX6_splitWorth 30 = .ok (.aload_n 0, 1) := by decide +kernel
theorem dX6_splitWorth_31 : decode cX6_splitWorth 31 = .ok (.getfield 225, 3) := by decide +kernel
theorem dX6_splitWorth_34 : decode cX6_splitWorth 34 = .ok (.iload 4, 2) := by decide +kernel
theorem dX6_splitWorth_36 : decode cX6_splitWorth 36 = .ok (.iadd, 1) := by decide +kernel
theorem dX6_splitWorth_37 : decode cX6_splitWorth 37 = .ok (.aload_n 0, 1) := by decide +kernel
theorem dX6_splitWorth_38 : decode cX6_splitWorth 38 = .ok (.getfield 225, 3) := by decide +kernel
theorem dX6_splitWorth_41 : decode cX6_splitWorth 41 = .ok (.iconst 1, 1) := by decide +kernel
theorem dX6_splitWorth_42 : decode cX6_splitWorth 42 = .ok (.if_icmp .eq 9, 3) := by decide +kernel
theorem dX6_splitWorth_45 : decode cX6_splitWorth 45 = .ok (.iload 4, 2) := by decide +kernel
theorem dX6_splitWorth_47 : decode cX6_splitWorth 47 = .ok (.iconst 1, 1) := by decide +kernel
theorem dX6_splitWorth_48 : decode cX6_splitWorth 48 = .ok (.if_icmp .ne 7, 3) := by decide +kernel
theorem dX6_splitWorth_51 : decode cX6_splitWorth 51 = .ok (.iconst 1, 1) := by decide +kernel
theorem dX6_splitWorth_52 : decode cX6_splitWorth 52 = .ok (.goto 4, 3) := by decide +kernel
theorem dX6_splitWorth_55 : decode cX6_splitWorth 55 = .ok (.iconst 0, 1) := by decide +kernel
theorem dX6_splitWorth_56 : decode cX6_splitWorth 56 = .ok (.invokevirtual 143, 3) := by decide +kernel
theorem dX6_splitWorth_59 : decode cX6_splitWorth 59 = .ok (.istore 5, 2) := by decide +kernel
theorem dX6_splitWorth_61 : decode cX6_splitWorth 61 = .ok (.aload_n 0, 1) := by decide +kernel
theorem dX6_splitWorth_62 : decode cX6_splitWorth 62 = .ok (.iload_n 1, 1) := by decide +kernel
theorem dX6_splitWorth_63 : decode cX6_splitWorth 63 = .ok (.iload 4, 2) := by decide +kernel
theorem dX6_splitWorth_65 : decode cX6_splitWorth 65 = .ok (.invokevirtual 173, 3) := by decide +kernel
theorem dX6_splitWorth_68 : decode cX6_splitWorth 68 = .ok (.ifCond .le 143, 3) := by decide +kernel
theorem dX6_splitWorth_71 : decode cX6_splitWorth 71 = .ok (.aload_n 0, 1) := by decide +kernel
theorem dX6_splitWorth_72 : decode cX6_splitWorth 72 = .ok (.iload 5, 2) := by decide +kernel
theorem dX6_splitWorth_74 : decode cX6_splitWorth 74 = .ok (.putfield 180, 3) := by decide +kernel
theorem dX6_splitWorth_77 : decode cX6_splitWorth 77 = .ok (.iload 5, 2) := by decide +kernel
theorem dX6_splitWorth_79 : decode cX6_splitWorth 79 = .ok (.aload_n 0, 1) := by decide +kernel
theorem dX6_splitWorth_80 : decode cX6_splitWorth 80 = .ok (.getfield 25, 3) := by decide +kernel
theorem dX6_splitWorth_83 : decode cX6_splitWorth 83 = .ok (.if_icmp .gt 7, 3) := by decide +kernel
theorem dX6_splitWorth_86 : decode cX6_splitWorth 86 = .ok (.aload_n 0, 1) := by decide +kernel
theorem dX6_splitWorth_87 : decode cX6_splitWorth 87 = .ok (.invokevirtual 210, 3) := by decide +kernel
theorem dX6_splitWorth_90 : decode cX6_splitWorth 90 = .ok (.iconst 1, 1) := by decide +kernel
theorem dX6_splitWorth_91 : decode cX6_splitWorth 91 = .ok (.istore 6, 2) := by decide +kernel
theorem dX6_splitWorth_93 : decode cX6_splitWorth 93 = .ok (.iload 6, 2) := by decide +kernel
theorem dX6_splitWorth_95 : decode cX6_splitWorth 95 = .ok (.bipush 11, 2) := by decide +kernel
theorem dX6_splitWorth_97 : decode cX6_splitWorth 97 = .ok (.if_icmp .ge 114, 3) := by decide +kernel
theorem dX6_splitWorth_100 : decode cX6_splitWorth 100 = .ok (.aload_n 0, 1) := by decide +kernel
theorem dX6_splitWorth_101 : decode cX6_splitWorth 101 = .ok (.iload_n 1, 1) := by decide +kernel
theorem dX6_splitWorth_102 : decode cX6_splitWorth 102 = .ok (.iload 4, 2) := by decide +kernel
theorem dX6_splitWorth_104 : decode cX6_splitWorth 104 = .ok (.invokevirtual 173, 3) := by decide +kernel
theorem dX6_splitWorth_107 : decode cX6_splitWorth 107 = .ok (.iload 6, 2) := by decide +kernel
theorem dX6_splitWorth_109 : decode cX6_splitWorth 109 = .ok (.iload 4, 2) := by decide +kernel
theorem dX6_splitWorth_111 : decode cX6_splitWorth 111 = .ok (.if_icmp .ne 15, 3) := by decide +kernel
theorem dX6_splitWorth_114 : decode cX6_splitWorth 114 = .ok (.aload_n 0, 1) := by decide +kernel
theorem dX6_splitWorth_115 : decode cX6_splitWorth 115 = .ok (.iload_n 1, 1) := by decide +kernel
theorem dX6_splitWorth_116 : decode cX6_splitWorth 116 = .ok (.iload 6, 2) := by decide +kernel
theorem dX6_splitWorth_118 : decode cX6_splitWorth 118 = .ok (.invokevirtual 173, 3) := by decide +kernel
theorem dX6_splitWorth_121 : decode cX6_splitWorth 121 = .ok (.iconst 1, 1) := by decide +kernel
theorem dX6_splitWorth_122 : decode cX6_splitWorth 122 = .ok (.isub, 1) := by decide +kernel
theorem dX6_splitWorth_123 : decode cX6_splitWorth 123 = .ok (.goto 10, 3) := by decide +kernel
theorem dX6_splitWorth_126 : decode cX6_splitWorth 126 = .ok (.aload_n 0, 1) := by decide +kernel
theorem dX6_splitWorth_127 : decode cX6_splitWorth 127 = .ok (.iload_n 1, 1) := by decide +kernel
theorem dX6_splitWorth_128 : decode cX6_splitWorth 128 = .ok (.iload 6, 2) := by decide +kernel
theorem dX6_splitWorth_130 : decode cX6_splitWorth 130 = .ok (.invokevirtual 173, 3) := by decide +kernel
theorem dX6_splitWorth_133 : decode cX6_splitWorth 133 = .ok (.imul, 1) := by decide +kernel
theorem dX6_splitWorth_134 : decode cX6_splitWorth 134 = .ok (.istore 7, 2) := by decide +kernel
theorem dX6_splitWorth_136 : decode cX6_splitWorth 136 = .ok (.iload 7, 2) := by decide +kernel
theorem dX6_splitWorth_138 : decode cX6_splitWorth 138 = .ok (.ifCond .le 67, 3) := by decide +kernel
theorem dX6_splitWorth_141 : decode cX6_splitWorth 141 = .ok (.iload_n 1, 1) := by decide +kernel
theorem dX6_splitWorth_142 : decode cX6_splitWorth 142 = .ok (.aload_n 0, 1) := by decide +kernel
theorem dX6_splitWorth_143 : decode cX6_splitWorth 143 = .ok (.getfield 55, 3) := by decide +kernel
theorem dX6_splitWorth_146 : decode cX6_splitWorth 146 = .ok (.iload 4, 2) := by decide +kernel
theorem dX6_splitWorth_148 : decode cX6_splitWorth 148 = .ok (.iaload, 1) := by decide +kernel
theorem dX6_splitWorth_149 : decode cX6_splitWorth 149 = .ok (.isub, 1) := by decide +kernel
theorem dX6_splitWorth_150 : decode cX6_splitWorth 150 = .ok (.aload_n 0, 1) := by decide +kernel
theorem dX6_splitWorth_151 : decode cX6_splitWorth 151 = .ok (.getfield 55, 3) := by decide +kernel
theorem dX6_splitWorth_154 : decode cX6_splitWorth 154 = .ok (.iload 6, 2) := by decide +kernel
theorem dX6_splitWorth_156 : decode cX6_splitWorth 156 = .ok (.iaload, 1) := by decide +kernel
theorem dX6_splitWorth_157 : decode cX6_splitWorth 157 = .ok (.isub, 1) := by decide +kernel
theorem dX6_splitWorth_158 : decode cX6_splitWorth 158 = .ok (.istore 8, 2) := by decide +kernel
theorem dX6_splitWorth_160 : decode cX6_splitWorth 160 = .ok (.lload_n 2, 1) := by decide +kernel
theorem dX6_splitWorth_161 : decode cX6_splitWorth 161 = .ok (.ldc2_w 112, 3) := by decide +kernel
theorem dX6_splitWorth_164 : decode cX6_splitWorth 164 = .ok (.iload 7, 2) := by decide +kernel
theorem dX6_splitWorth_166 : decode cX6_splitWorth 166 = .ok (.i2l, 1) := by decide +kernel
theorem dX6_splitWorth_167 : decode cX6_splitWorth 167 = .ok (.lmul, 1) := by decide +kernel
theorem dX6_splitWorth_168 : decode cX6_splitWorth 168 = .ok (.iload 5, 2) := by decide +kernel
theorem dX6_splitWorth_170 : decode cX6_splitWorth 170 = .ok (.aload_n 0, 1) := by decide +kernel
theorem dX6_splitWorth_171 : decode cX6_splitWorth 171 = .ok (.getfield 25, 3) := by decide +kernel
theorem dX6_splitWorth_174 : decode cX6_splitWorth 174 = .ok (.if_icmp .gt 12, 3) := by decide +kernel
theorem dX6_splitWorth_177 : decode cX6_splitWorth 177 = .ok (.aload_n 0, 1) := by decide +kernel
theorem dX6_splitWorth_178 : decode cX6_splitWorth 178 = .ok (.iload 8, 2) := by decide +kernel
theorem dX6_splitWorth_180 : decode cX6_splitWorth 180 = .ok (.invokevirtual 213, 3) := by decide +kernel
theorem dX6_splitWorth_183 : decode cX6_splitWorth 183 = .ok (.goto 19, 3) := by decide +kernel
theorem dX6_splitWorth_186 : decode cX6_splitWorth 186 = .ok (.ldc2_w 217, 3) := by decide +kernel
theorem dX6_splitWorth_189 : decode cX6_splitWorth 189 = .ok (.aload_n 0, 1) := by decide +kernel
theorem dX6_splitWorth_190 : decode cX6_splitWorth 190 = .ok (.getfield 48, 3) := by decide +kernel
theorem dX6_splitWorth_193 : decode cX6_splitWorth 193 = .ok (.aload_n 0, 1) := by decide +kernel
theorem dX6_splitWorth_194 : decode cX6_splitWorth 194 = .ok (.getfield 58, 3) := by decide +kernel
theorem dX6_splitWorth_197 : decode cX6_splitWorth 197 = .ok (.iload 8, 2) := by decide +kernel
theorem dX6_splitWorth_199 : decode cX6_splitWorth 199 = .ok (.iaload, 1) := by decide +kernel
theorem dX6_splitWorth_200 : decode cX6_splitWorth 200 = .ok (.laload, 1) := by decide +kernel
theorem dX6_splitWorth_201 : decode cX6_splitWorth 201 = .ok (.lmul, 1) := by decide +kernel
theorem dX6_splitWorth_202 : decode cX6_splitWorth 202 = .ok (.lmul, 1) := by decide +kernel
theorem dX6_splitWorth_203 : decode cX6_splitWorth 203 = .ok (.ladd, 1) := by decide +kernel
theorem dX6_splitWorth_204 : decode cX6_splitWorth 204 = .ok (.lstore_n 2, 1) := by decide +kernel
theorem dX6_splitWorth_205 : decode cX6_splitWorth 205 = .ok (.iinc 6 1, 3) := by decide +kernel
theorem dX6_splitWorth_208 : decode cX6_splitWorth 208 = .ok (.goto (-115), 3) := by decide +kernel
theorem dX6_splitWorth_211 : decode cX6_splitWorth 211 = .ok (.iinc 4 1, 3) := by decide +kernel
theorem dX6_splitWorth_214 : decode cX6_splitWorth 214 = .ok (.goto (-192), 3) := by decide +kernel
theorem dX6_splitWorth_217 : decode cX6_splitWorth 217 = .ok (.lload_n 2, 1) := by decide +kernel
theorem dX6_splitWorth_218 : decode cX6_splitWorth 218 = .ok (.lreturn, 1) := by decide +kernel
theorem dX6_isThere_0 : decode cX6_isThere 0 = .ok (.aload_n 0, 1) := by decide +kernel
theorem dX6_isThere_1 : decode cX6_isThere 1 = .ok (.getfield 58, 3) := by decide +kernel
theorem dX6_isThere_4 : decode cX6_isThere 4 = .ok (.aload_n 0, 1) := by decide +kernel
theorem dX6_isThere_5 : decode cX6_isThere 5 = .ok (.getfield 170, 3) := by decide +kernel
theorem dX6_isThere_8 : decode cX6_isThere 8 = .ok (.iconst 1, 1) := by decide +kernel
theorem dX6_isThere_9 : decode cX6_isThere 9 = .ok (.isub, 1) := by decide +kernel
theorem dX6_isThere_10 : decode cX6_isThere 10 = .ok (.iaload, 1) := by decide +kernel
theorem dX6_isThere_11 : decode cX6_isThere 11 = .ok (.istore_n 2, 1) := by decide +kernel
theorem dX6_isThere_12 : decode cX6_isThere 12 = .ok (.aload_n 0, 1) := by decide +kernel
theorem dX6_isThere_13 : decode cX6_isThere 13 = .ok (.getfield 219, 3) := by decide +kernel
theorem dX6_isThere_16 : decode cX6_isThere 16 = .ok (.ifCond .eq 27, 3) := by decide +kernel
theorem dX6_isThere_19 : decode cX6_isThere 19 = .ok (.aload_n 0, 1) := by decide +kernel
theorem dX6_isThere_20 : decode cX6_isThere 20 = .ok (.getfield 193, 3) := by decide +kernel
theorem dX6_isThere_23 : decode cX6_isThere 23 = .ok (.ifCond .eq 20, 3) := by decide +kernel
theorem dX6_isThere_26 : decode cX6_isThere 26 = .ok (.aload_n 0, 1) := by decide +kernel
theorem dX6_isThere_27 : decode cX6_isThere 27 = .ok (.aload_n 0, 1) := by decide +kernel
theorem dX6_isThere_28 : decode cX6_isThere 28 = .ok (.getfield 170, 3) := by decide +kernel
theorem dX6_isThere_31 : decode cX6_isThere 31 = .ok (.iconst 1, 1) := by decide +kernel
theorem dX6_isThere_32 : decode cX6_isThere 32 = .ok (.isub, 1) := by decide +kernel
theorem dX6_isThere_33 : decode cX6_isThere 33 = .ok (.invokevirtual 206, 3) := by decide +kernel
theorem dX6_isThere_36 : decode cX6_isThere 36 = .ok (.aload_n 0, 1) := by decide +kernel
theorem dX6_isThere_37 : decode cX6_isThere 37 = .ok (.getfield 25, 3) := by decide +kernel
theorem dX6_isThere_40 : decode cX6_isThere 40 = .ok (.if_icmp .le 5, 3) := by decide +kernel
theorem dX6_isThere_43 : decode cX6_isThere 43 = .ok (.iconst 0, 1) := by decide +kernel
theorem dX6_isThere_44 : decode cX6_isThere 44 = .ok (.ireturn, 1) := by decide +kernel
theorem dX6_isThere_45 : decode cX6_isThere 45 = .ok (.iload_n 1, 1) := by decide +kernel
theorem dX6_isThere_46 : decode cX6_isThere 46 = .ok (.tableswitch 103 0 3 #[30, 32, 51, 77], 30) := by decide +kernel
theorem dX6_isThere_76 : decode cX6_isThere 76 = .ok (.iconst 1, 1) := by decide +kernel
theorem dX6_isThere_77 : decode cX6_isThere 77 = .ok (.ireturn, 1) := by decide +kernel
theorem dX6_isThere_78 : decode cX6_isThere 78 = .ok (.iload_n 2, 1) := by decide +kernel
theorem dX6_isThere_79 : decode cX6_isThere 79 = .ok (.ifCond .le 16, 3) := by decide +kernel
theorem dX6_isThere_82 : decode cX6_isThere 82 = .ok (.aload_n 0, 1) := by decide +kernel
theorem dX6_isThere_83 : decode cX6_isThere 83 = .ok (.getfield 219, 3) := by decide +kernel
theorem dX6_isThere_86 : decode cX6_isThere 86 = .ok (.bipush 12, 2) := by decide +kernel
theorem dX6_isThere_88 : decode cX6_isThere 88 = .ok (.if_icmp .ge 7, 3) := by decide +kernel
theorem dX6_isThere_91 : decode cX6_isThere 91 = .ok (.iconst 1, 1) := by decide +kernel
theorem dX6_isThere_92 : decode cX6_isThere 92 = .ok (.goto 4, 3) := by decide +kernel
theorem dX6_isThere_95 : decode cX6_isThere 95 = .ok (.iconst 0, 1) := by decide +kernel
theorem dX6_isThere_96 : decode cX6_isThere 96 = .ok (.ireturn, 1) := by decide +kernel
theorem dX6_isThere_97 : decode cX6_isThere 97 = .ok (.iload_n 2, 1) := by decide +kernel
theorem dX6_isThere_98 : decode cX6_isThere 98 = .ok (.ifCond .le 23, 3) := by decide +kernel
theorem dX6_isThere_101 : decode cX6_isThere 101 = .ok (.aload_n 0, 1) := by decide +kernel
theorem dX6_isThere_102 : decode cX6_isThere 102 = .ok (.getfield 219, 3) := by decide +kernel
theorem dX6_isThere_105 : decode cX6_isThere 105 = .ok (.iconst 2, 1) := by decide +kernel
theorem dX6_isThere_106 : decode cX6_isThere 106 = .ok (.if_icmp .ne 15, 3) := by decide +kernel
theorem dX6_isThere_109 : decode cX6_isThere 109 = .ok (.aload_n 0, 1) := by decide +kernel
theorem dX6_isThere_110 : decode cX6_isThere 110 = .ok (.getfield 32, 3) := by decide +kernel
theorem dX6_isThere_113 : decode cX6_isThere 113 = .ok (.iconst 1, 1) := by decide +kernel
theorem dX6_isThere_114 : decode cX6_isThere 114 = .ok (.if_icmp .ne 7, 3) := by decide +kernel
theorem dX6_isThere_117 : decode cX6_isThere 117 = .ok (.iconst 1, 1) := by decide +kernel
theorem dX6_isThere_118 : decode cX6_isThere 118 = .ok (.goto 4, 3) := by decide +kernel
theorem dX6_isThere_121 : decode cX6_isThere 121 = .ok (.iconst 0, 1) := by decide +kernel
theorem dX6_isThere_122 : decode cX6_isThere 122 = .ok (.ireturn, 1) := by decide +kernel
theorem dX6_isThere_123 : decode cX6_isThere 123 = .ok (.iload_n 2, 1) := by decide +kernel
theorem dX6_isThere_124 : decode cX6_isThere 124 = .ok (.iconst 1, 1) := by decide +kernel
theorem dX6_isThere_125 : decode cX6_isThere 125 = .ok (.if_icmp .le 22, 3) := by decide +kernel
theorem dX6_isThere_128 : decode cX6_isThere 128 = .ok (.aload_n 0, 1) := by decide +kernel
theorem dX6_isThere_129 : decode cX6_isThere 129 = .ok (.getfield 225, 3) := by decide +kernel
theorem dX6_isThere_132 : decode cX6_isThere 132 = .ok (.ifCond .le 15, 3) := by decide +kernel
theorem dX6_isThere_135 : decode cX6_isThere 135 = .ok (.aload_n 0, 1) := by decide +kernel
theorem dX6_isThere_136 : decode cX6_isThere 136 = .ok (.getfield 35, 3) := by decide +kernel
theorem dX6_isThere_139 : decode cX6_isThere 139 = .ok (.iconst 1, 1) := by decide +kernel
theorem dX6_isThere_140 : decode cX6_isThere 140 = .ok (.if_icmp .ne 7, 3) := by decide +kernel
theorem dX6_isThere_143 : decode cX6_isThere 143 = .ok (.iconst 1, 1) := by decide +kernel
theorem dX6_isThere_144 : decode cX6_isThere 144 = .ok (.goto 4, 3) := by decide +kernel
theorem dX6_isThere_147 : decode cX6_isThere 147 = .ok (.iconst 0, 1) := by decide +kernel
theorem dX6_isThere_148 : decode cX6_isThere 148 = .ok (.ireturn, 1) := by decide +kernel
theorem dX6_isThere_149 : decode cX6_isThere 149 = .ok (.aload_n 0, 1) := by decide +kernel
theorem dX6_isThere_150 : decode cX6_isThere 150 = .ok (.getfield 219, 3) := by decide +kernel
theorem dX6_isThere_153 : decode cX6_isThere 153 = .ok (.iconst 2, 1) := by decide +kernel
theorem dX6_isThere_154 : decode cX6_isThere 154 = .ok (.if_icmp .ne 15, 3) := by decide +kernel
theorem dX6_isThere_157 : decode cX6_isThere 157 = .ok (.aload_n 0, 1) := by decide +kernel
theorem dX6_isThere_158 : decode cX6_isThere 158 = .ok (.getfield 38, 3) := by decide +kernel
theorem dX6_isThere_161 : decode cX6_isThere 161 = .ok (.iconst 1, 1) := by decide +kernel
theorem dX6_isThere_162 : decode cX6_isThere 162 = .ok (.if_icmp .ne 7, 3) := by decide +kernel
theorem dX6_isThere_165 : decode cX6_isThere 165 = .ok (.iconst 1, 1) := by decide +kernel
theorem dX6_isThere_166 : decode cX6_isThere 166 = .ok (.goto 4, 3) := by decide +kernel
theorem dX6_isThere_169 : decode cX6_isThere 169 = .ok (.iconst 0, 1) := by decide +kernel
theorem dX6_isThere_170 : decode cX6_isThere 170 = .ok (.ireturn, 1) := by decide +kernel
theorem dX6_worthOf_0 : decode cX6_worthOf 0 = .ok (.iload_n 1, 1) := by decide +kernel
theorem dX6_worthOf_1 : decode cX6_worthOf 1 = .ok (.tableswitch 51 0 3 #[31, 36, 41, 46], 31) := by decide +kernel
theorem dX6_worthOf_32 : decode cX6_worthOf 32 = .ok (.aload_n 0, 1) := by decide +kernel
theorem dX6_worthOf_33 : decode cX6_worthOf 33 = .ok (.invokevirtual 228, 3) := by decide +kernel
theorem dX6_worthOf_36 : decode cX6_worthOf 36 = .ok (.lreturn, 1) := by decide +kernel
theorem dX6_worthOf_37 : decode cX6_worthOf 37 = .ok (.aload_n 0, 1) := by decide +kernel
theorem dX6_worthOf_38 : decode cX6_worthOf 38 = .ok (.invokevirtual 232, 3) := by decide +kernel
theorem dX6_worthOf_41 : decode cX6_worthOf 41 = .ok (.lreturn, 1) := by decide +kernel
theorem dX6_worthOf_42 : decode cX6_worthOf 42 = .ok (.aload_n 0, 1) := by decide +kernel
theorem dX6_worthOf_43 : decode cX6_worthOf 43 = .ok (.invokevirtual 235, 3) := by decide +kernel
theorem dX6_worthOf_46 : decode cX6_worthOf 46 = .ok (.lreturn, 1) := by decide +kernel
theorem dX6_worthOf_47 : decode cX6_worthOf 47 = .ok (.aload_n 0, 1) := by decide +kernel
theorem dX6_worthOf_48 : decode cX6_worthOf 48 = .ok (.invokevirtual 238, 3) := by decide +kernel
theorem dX6_worthOf_51 : decode cX6_worthOf 51 = .ok (.lreturn, 1) := by decide +kernel
theorem dX6_worthOf_52 : decode cX6_worthOf 52 = .ok (.lconst 0, 1) := by decide +kernel
theorem dX6_worthOf_53 : decode cX6_worthOf 53 = .ok (.aload_n 0, 1) := by decide +kernel
theorem dX6_worthOf_54 : decode cX6_worthOf 54 = .ok (.getfield 48, 3) := by decide +kernel
theorem dX6_worthOf_57 : decode cX6_worthOf 57 = .ok (.aload_n 0, 1) := by decide +kernel
theorem dX6_worthOf_58 : decode cX6_worthOf 58 = .ok (.getfield 58, 3) := by decide +kernel
theorem dX6_worthOf_61 : decode cX6_worthOf 61 = .ok (.aload_n 0, 1) := by decide +kernel
theorem dX6_worthOf_62 : decode cX6_worthOf 62 = .ok (.getfield 170, 3) := by decide +kernel
theorem dX6_worthOf_65 : decode cX6_worthOf 65 = .ok (.iconst 1, 1) := by decide +kernel
theorem dX6_worthOf_66 : decode cX6_worthOf 66 = .ok (.isub, 1) := by decide +kernel
theorem dX6_worthOf_67 : decode cX6_worthOf 67 = .ok (.iaload, 1) := by decide +kernel
theorem dX6_worthOf_68 : decode cX6_worthOf 68 = .ok (.laload, 1) := by decide +kernel
theorem dX6_worthOf_69 : decode cX6_worthOf 69 = .ok (.lsub, 1) := by decide +kernel
theorem dX6_worthOf_70 : decode cX6_worthOf 70 = .ok (.lreturn, 1) := by decide +kernel
theorem dX6_findBest_0 : decode cX6_findBest 0 = .ok (.lconst 0, 1) := by decide +kernel
theorem dX6_findBest_1 : decode cX6_findBest 1 = .ok (.lstore_n 1, 1) := by decide +kernel
theorem dX6_findBest_2 : decode cX6_findBest 2 = .ok (.aload_n 0, 1) := by decide +kernel
theorem dX6_findBest_3 : decode cX6_findBest 3 = .ok (.iconst (-1), 1) := by decide +kernel
theorem dX6_findBest_4 : decode cX6_findBest 4 = .ok (.putfield 241, 3) := by decide +kernel
theorem dX6_findBest_7 : decode cX6_findBest 7 = .ok (.iconst 0, 1) := by decide +kernel
theorem dX6_findBest_8 : decode cX6_findBest 8 = .ok (.istore_n 3, 1) := by decide +kernel
theorem dX6_findBest_9 : decode cX6_findBest 9 = .ok (.iload_n 3, 1) := by decide +kernel
theorem dX6_findBest_10 : decode cX6_findBest 10 = .ok (.iconst 5, 1) := by decide +kernel
theorem dX6_findBest_11 : decode cX6_findBest 11 = .ok (.if_icmp .ge 46, 3) := by decide +kernel
theorem dX6_findBest_14 : decode cX6_findBest 14 = .ok (.aload_n 0, 1) := by decide +kernel
theorem dX6_findBest_15 : decode cX6_findBest 15 = .ok (.iload_n 3, 1) := by decide +kernel
theorem dX6_findBest_16 : decode cX6_findBest 16 = .ok (.invokevirtual 244, 3) := by decide +kernel
theorem dX6_findBest_19 : decode cX6_findBest 19 = .ok (.ifCond .eq 32, 3) := by decide +kernel
theorem dX6_findBest_22 : decode cX6_findBest 22 = .ok (.aload_n 0, 1) := by decide +kernel
theorem dX6_findBest_23 : decode cX6_findBest 23 = .ok (.iload_n 3, 1) := by decide +kernel
theorem dX6_findBest_24 : decode cX6_findBest 24 = .ok (.invokevirtual 248, 3) := by decide +kernel
theorem dX6_findBest_27 : decode cX6_findBest 27 = .ok (.lstore 4, 2) := by decide +kernel
theorem dX6_findBest_29 : decode cX6_findBest 29 = .ok (.aload_n 0, 1) := by decide +kernel
theorem dX6_findBest_30 : decode cX6_findBest 30 = .ok (.getfield 241, 3) := by decide +kernel
theorem dX6_findBest_33 : decode cX6_findBest 33 = .ok (.ifCond .lt 10, 3) := by decide +kernel
theorem dX6_findBest_36 : decode cX6_findBest 36 = .ok (.lload 4, 2) := by decide +kernel
theorem dX6_findBest_38 : decode cX6_findBest 38 = .ok (.lload_n 1, 1) := by decide +kernel
theorem dX6_findBest_39 : decode cX6_findBest 39 = .ok (.lcmp, 1) := by decide +kernel
theorem dX6_findBest_40 : decode cX6_findBest 40 = .ok (.ifCond .le 11, 3) := by decide +kernel
theorem dX6_findBest_43 : decode cX6_findBest 43 = .ok (.lload 4, 2) := by decide +kernel
theorem dX6_findBest_45 : decode cX6_findBest 45 = .ok (.lstore_n 1, 1) := by decide +kernel
theorem dX6_findBest_46 : decode cX6_findBest 46 = .ok (.aload_n 0, 1) := by decide +kernel
theorem dX6_findBest_47 : decode cX6_findBest 47 = .ok (.iload_n 3, 1) := by decide +kernel
theorem dX6_findBest_48 : decode cX6_findBest 48 = .ok (.putfield 241, 3) := by decide +kernel
theorem dX6_findBest_51 : decode cX6_findBest 51 = .ok (.iinc 3 1, 3) := by decide +kernel
theorem dX6_findBest_54 : decode cX6_findBest 54 = .ok (.goto (-45), 3) := by decide +kernel
theorem dX6_findBest_57 : decode cX6_findBest 57 = .ok (.lload_n 1, 1) := by decide +kernel
theorem dX6_findBest_58 : decode cX6_findBest 58 = .ok (.lreturn, 1) := by decide +kernel
theorem dX6_layTable_0 : decode cX6_layTable 0 = .ok (.aload_n 0, 1) := by decide +kernel
theorem dX6_layTable_1 : decode cX6_layTable 1 = .ok (.invokevirtual 104, 3) := by decide +kernel
theorem dX6_layTable_4 : decode cX6_layTable 4 = .ok (.bipush 12, 2) := by decide +kernel
theorem dX6_layTable_6 : decode cX6_layTable 6 = .ok (.if_icmp .le 7, 3) := by decide +kernel
theorem dX6_layTable_9 : decode cX6_layTable 9 = .ok (.iconst 1, 1) := by decide +kernel
theorem dX6_layTable_10 : decode cX6_layTable 10 = .ok (.goto 4, 3) := by decide +kernel
theorem dX6_layTable_13 : decode cX6_layTable 13 = .ok (.iconst 0, 1) := by decide +kernel
theorem dX6_layTable_14 : decode cX6_layTable 14 = .ok (.istore_n 2, 1) := by decide +kernel
theorem dX6_layTable_15 : decode cX6_layTable 15 = .ok (.iconst 1, 1) := by decide +kernel
theorem dX6_layTable_16 : decode cX6_layTable 16 = .ok (.istore_n 3, 1) := by decide +kernel
theorem dX6_layTable_17 : decode cX6_layTable 17 = .ok (.iload_n 3, 1) := by decide +kernel
theorem dX6_layTable_18 : decode cX6_layTable 18 = .ok (.bipush 11, 2) := by decide +kernel
theorem dX6_layTable_20 : decode cX6_layTable 20 = .ok (.if_icmp .ge 45, 3) := by decide +kernel
theorem dX6_layTable_23 : decode cX6_layTable 23 = .ok (.aload_n 0, 1) := by decide +kernel
theorem dX6_layTable_24 : decode cX6_layTable 24 = .ok (.getfield 52, 3) := by decide +kernel
theorem dX6_layTable_27 : decode cX6_layTable 27 = .ok (.iload_n 3, 1) := by decide +kernel
theorem dX6_layTable_28 : decode cX6_layTable 28 = .ok (.iload_n 2, 1) := by decide +kernel
theorem dX6_layTable_29 : decode cX6_layTable 29 = .ok (.ifCond .eq 7, 3) := by decide +kernel
theorem dX6_layTable_32 : decode cX6_layTable 32 = .ok (.iconst 0, 1) := by decide +kernel
theorem dX6_layTable_33 : decode cX6_layTable 33 = .ok (.goto 25, 3) := by decide +kernel
theorem dX6_layTable_36 : decode cX6_layTable 36 = .ok (.iload_n 3, 1) := by decide +kernel
theorem dX6_layTable_37 : decode cX6_layTable 37 = .ok (.iload_n 1, 1) := by decide +kernel
theorem dX6_layTable_38 : decode cX6_layTable 38 = .ok (.if_icmp .ne 14, 3) := by decide +kernel
theorem dX6_layTable_41 : decode cX6_layTable 41 = .ok (.aload_n 0, 1) := by decide +kernel
theorem dX6_layTable_42 : decode cX6_layTable 42 = .ok (.getfield 7, 3) := by decide +kernel
theorem dX6_layTable_45 : decode cX6_layTable 45 = .ok (.iload_n 3, 1) := by decide +kernel
theorem dX6_layTable_46 : decode cX6_layTable 46 = .ok (.iaload, 1) := by decide +kernel
theorem dX6_layTable_47 : decode cX6_layTable 47 = .ok (.iconst 1, 1) := by decide +kernel
theorem dX6_layTable_48 : decode cX6_layTable 48 = .ok (.isub, 1) := by decide +kernel
theorem dX6_layTable_49 : decode cX6_layTable 49 = .ok (.goto 9, 3) := by decide +kernel
theorem dX6_layTable_52 : decode cX6_layTable 52 = .ok (.aload_n 0, 1) := by decide +kernel
theorem dX6_layTable_53 : decode cX6_layTable 53 = .ok (.getfield 7, 3) := by decide +kernel
theorem dX6_layTable_56 : decode cX6_layTable 56 = .ok (.iload_n 3, 1) := by decide +kernel
theorem dX6_layTable_57 : decode cX6_layTable 57 = .ok (.iaload, 1) := by decide +kernel
theorem dX6_layTable_58 : decode cX6_layTable 58 = .ok (.iastore, 1) := by decide +kernel
theorem dX6_layTable_59 : decode cX6_layTable 59 = .ok (.iinc 3 1, 3) := by decide +kernel
theorem dX6_layTable_62 : decode cX6_layTable 62 = .ok (.goto (-45), 3) := by decide +kernel
theorem dX6_layTable_65 : decode cX6_layTable 65 = .ok (.aload_n 0, 1) := by decide +kernel
theorem dX6_layTable_66 : decode cX6_layTable 66 = .ok (.invokevirtual 251, 3) := by decide +kernel
theorem dX6_layTable_69 : decode cX6_layTable 69 = .ok (.aload_n 0, 1) := by decide +kernel
theorem dX6_layTable_70 : decode cX6_layTable 70 = .ok (.aload_n 0, 1) := by decide +kernel
theorem dX6_layTable_71 : decode cX6_layTable 71 = .ok (.invokevirtual 136, 3) := by decide +kernel
theorem dX6_layTable_74 : decode cX6_layTable 74 = .ok (.putfield 200, 3) := by decide +kernel
theorem dX6_layTable_77 : decode cX6_layTable 77 = .ok (.aload_n 0, 1) := by decide +kernel
theorem dX6_layTable_78 : decode cX6_layTable 78 = .ok (.aload_n 0, 1) := by decide +kernel
theorem dX6_layTable_79 : decode cX6_layTable 79 = .ok (.invokevirtual 139, 3) := by decide +kernel
theorem dX6_layTable_82 : decode cX6_layTable 82 = .ok (.putfield 203, 3) := by decide +kernel
theorem dX6_layTable_85 : decode cX6_layTable 85 = .ok (.aload_n 0, 1) := by decide +kernel
theorem dX6_layTable_86 : decode cX6_layTable 86 = .ok (.aload_n 0, 1) := by decide +kernel
theorem dX6_layTable_87 : decode cX6_layTable 87 = .ok (.getfield 98, 3) := by decide +kernel
theorem dX6_layTable_90 : decode cX6_layTable 90 = .ok (.putfield 219, 3) := by decide +kernel
theorem dX6_layTable_93 : decode cX6_layTable 93 = .ok (.aload_n 0, 1) := by decide +kernel
theorem dX6_layTable_94 : decode cX6_layTable 94 = .ok (.aload_n 0, 1) := by decide +kernel
theorem dX6_layTable_95 : decode cX6_layTable 95 = .ok (.getfield 98, 3) := by decide +kernel
theorem dX6_layTable_98 : decode cX6_layTable 98 = .ok (.iconst 2, 1) := by decide +kernel
theorem dX6_layTable_99 : decode cX6_layTable 99 = .ok (.if_icmp .ne 27, 3) := by decide +kernel
theorem dX6_layTable_102 : decode cX6_layTable 102 = .ok (.aload_n 0, 1) := by decide +kernel
theorem dX6_layTable_103 : decode cX6_layTable 103 = .ok (.getfield 22, 3) := by decide +kernel
theorem dX6_layTable_106 : decode cX6_layTable 106 = .ok (.iconst 0, 1) := by decide +kernel
theorem dX6_layTable_107 : decode cX6_layTable 107 = .ok (.iaload, 1) := by decide +kernel
theorem dX6_layTable_108 : decode cX6_layTable 108 = .ok (.aload_n 0, 1) := by decide +kernel
theorem dX6_layTable_109 : decode cX6_layTable 109 = .ok (.getfield 22, 3) := by decide +kernel
theorem dX6_layTable_112 : decode cX6_layTable 112 = .ok (.iconst 1, 1) := by decide +kernel
theorem dX6_layTable_113 : decode cX6_layTable 113 = .ok (.iaload, 1) := by decide +kernel
theorem dX6_layTable_114 : decode cX6_layTable 114 = .ok (.if_icmp .ne 12, 3) := by decide +kernel
theorem dX6_layTable_117 : decode cX6_layTable 117 = .ok (.aload_n 0, 1) := by decide +kernel
theorem dX6_layTable_118 : decode cX6_layTable 118 = .ok (.getfield 22, 3) := by decide +kernel
theorem dX6_layTable_121 : decode cX6_layTable 121 = .ok (.iconst 0, 1) := by decide +kernel
theorem dX6_layTable_122 : decode cX6_layTable 122 = .ok (.iaload, 1) := by decide +kernel
theorem dX6_layTable_123 : decode cX6_layTable 123 = .ok (.goto 4, 3) := by decide +kernel
theorem dX6_layTable_126 : decode cX6_layTable 126 = .ok (.iconst 0, 1) := by decide +kernel
theorem dX6_layTable_127 : decode cX6_layTable 127 = .ok (.putfield 225, 3) := by decide +kernel
theorem dX6_layTable_130 : decode cX6_layTable 130 = .ok (.aload_n 0, 1) := by decide +kernel
theorem dX6_layTable_131 : decode cX6_layTable 131 = .ok (.aload_n 0, 1) := by decide +kernel
theorem dX6_layTable_132 : decode cX6_layTable 132 = .ok (.getfield 101, 3) := by decide +kernel
theorem dX6_layTable_135 : decode cX6_layTable 135 = .ok (.putfield 193, 3) := by decide +kernel
theorem dX6_layTable_138 : decode cX6_layTable 138 = .ok (.return_, 1) := by decide +kernel
theorem dX6_isThereNow_0 : decode cX6_isThereNow 0 = .ok (.aload_n 0, 1) := by decide +kernel
theorem dX6_isThereNow_1 : decode cX6_isThereNow 1 = .ok (.invokevirtual 104, 3) := by decide +kernel
theorem dX6_isThereNow_4 : decode cX6_isThereNow 4 = .ok (.istore_n 2, 1) := by decide +kernel
theorem dX6_isThereNow_5 : decode cX6_isThereNow 5 = .ok (.aload_n 0, 1) := by decide +kernel
theorem dX6_isThereNow_6 : decode cX6_isThereNow 6 = .ok (.getfield 98, 3) := by decide +kernel
theorem dX6_isThereNow_9 : decode cX6_isThereNow 9 = .ok (.ifCond .eq 21, 3) := by decide +kernel
theorem dX6_isThereNow_12 : decode cX6_isThereNow 12 = .ok (.aload_n 0, 1) := by decide +kernel
theorem dX6_isThereNow_13 : decode cX6_isThereNow 13 = .ok (.getfield 101, 3) := by decide +kernel
theorem dX6_isThereNow_16 : decode cX6_isThereNow 16 = .ok (.ifCond .eq 14, 3) := by decide +kernel
theorem dX6_isThereNow_19 : decode cX6_isThereNow 19 = .ok (.aload_n 0, 1) := by decide +kernel
theorem dX6_isThereNow_20 : decode cX6_isThereNow 20 = .ok (.invokevirtual 147, 3) := by decide +kernel
theorem dX6_isThereNow_23 : decode cX6_isThereNow 23 = .ok (.aload_n 0, 1) := by decide +kernel
theorem dX6_isThereNow_24 : decode cX6_isThereNow 24 = .ok (.getfield 25, 3) := by decide +kernel
theorem dX6_isThereNow_27 : decode cX6_isThereNow 27 = .ok (.if_icmp .le 5, 3) := by decide +kernel
theorem dX6_isThereNow_30 : decode cX6_isThereNow 30 = .ok (.iconst 0, 1) := by decide +kernel
theorem dX6_isThereNow_31 : decode cX6_isThereNow 31 = .ok (.ireturn, 1) := by decide +kernel
theorem dX6_isThereNow_32 : decode cX6_isThereNow 32 = .ok (.iload_n 1, 1) := by decide +kernel
theorem dX6_isThereNow_33 : decode cX6_isThereNow 33 = .ok (.tableswitch 120 0 3 #[31, 33, 52, 78], 31) := by decide +kernel
theorem dX6_isThereNow_64 : decode cX6_isThereNow 64 = .ok (.iconst 1, 1) := by decide +kernel
theorem dX6_isThereNow_65 : decode cX6_isThereNow 65 = .ok (.ireturn, 1) := by decide +kernel
theorem dX6_isThereNow_66 : decode cX6_isThereNow 66 = .ok (.iload_n 2, 1) := by decide +kernel
theorem dX6_isThereNow_67 : decode cX6_isThereNow 67 = .ok (.ifCond .le 16, 3) := by decide +kernel
theorem dX6_isThereNow_70 : decode cX6_isThereNow 70 = .ok (.aload_n 0, 1) := by decide +kernel
theorem dX6_isThereNow_71 : decode cX6_isThereNow 71 = .ok (.getfield 98, 3) := by decide +kernel
theorem dX6_isThereNow_74 : decode cX6_isThereNow 74 = .ok (.bipush 12, 2) := by decide +kernel
theorem dX6_isThereNow_76 : decode cX6_isThereNow 76 = .ok (.if_icmp .ge 7, 3) := by decide +kernel
theorem dX6_isThereNow_79 : decode cX6_isThereNow 79 = .ok (.iconst 1, 1) := by decide +kernel
theorem dX6_isThereNow_80 : decode cX6_isThereNow 80 = .ok (.goto 4, 3) := by decide +kernel
theorem dX6_isThereNow_83 : decode cX6_isThereNow 83 = .ok (.iconst 0, 1) := by decide +kernel
theorem dX6_isThereNow_84 : decode cX6_isThereNow 84 = .ok (.ireturn, 1) := by decide +kernel
theorem dX6_isThereNow_85 : decode cX6_isThereNow 85 = .ok (.iload_n 2, 1) := by decide +kernel
theorem dX6_isThereNow_86 : decode cX6_isThereNow 86 = .ok (.ifCond .le 23, 3) := by decide +kernel
theorem dX6_isThereNow_89 : decode cX6_isThereNow 89 = .ok (.aload_n 0, 1) := by decide +kernel
theorem dX6_isThereNow_90 : decode cX6_isThereNow 90 = .ok (.getfield 98, 3) := by decide +kernel
theorem dX6_isThereNow_93 : decode cX6_isThereNow 93 = .ok (.iconst 2, 1) := by decide +kernel
theorem dX6_isThereNow_94 : decode cX6_isThereNow 94 = .ok (.if_icmp .ne 15, 3) := by decide +kernel
theorem dX6_isThereNow_97 : decode cX6_isThereNow 97 = .ok (.aload_n 0, 1) := by decide +kernel
theorem dX6_isThereNow_98 : decode cX6_isThereNow 98 = .ok (.getfield 32, 3) := by decide +kernel
theorem dX6_isThereNow_101 : decode cX6_isThereNow 101 = .ok (.iconst 1, 1) := by decide +kernel
theorem dX6_isThereNow_102 : decode cX6_isThereNow 102 = .ok (.if_icmp .ne 7, 3) := by decide +kernel
theorem dX6_isThereNow_105 : decode cX6_isThereNow 105 = .ok (.iconst 1, 1) := by decide +kernel
theorem dX6_isThereNow_106 : decode cX6_isThereNow 106 = .ok (.goto 4, 3) := by decide +kernel
theorem dX6_isThereNow_109 : decode cX6_isThereNow 109 = .ok (.iconst 0, 1) := by decide +kernel
theorem dX6_isThereNow_110 : decode cX6_isThereNow 110 = .ok (.ireturn, 1) := by decide +kernel
theorem dX6_isThereNow_111 : decode cX6_isThereNow 111 = .ok (.iload_n 2, 1) := by decide +kernel
theorem dX6_isThereNow_112 : decode cX6_isThereNow 112 = .ok (.iconst 1, 1) := by decide +kernel
theorem dX6_isThereNow_113 : decode cX6_isThereNow 113 = .ok (.if_icmp .le 38, 3) := by decide +kernel
theorem dX6_isThereNow_116 : decode cX6_isThereNow 116 = .ok (.aload_n 0, 1) := by decide +kernel
theorem dX6_isThereNow_117 : decode cX6_isThereNow 117 = .ok (.getfield 98, 3) := by decide +kernel
theorem dX6_isThereNow_120 : decode cX6_isThereNow 120 = .ok (.iconst 2, 1) := by decide +kernel
theorem dX6_isThereNow_121 : decode cX6_isThereNow 121 = .ok (.if_icmp .ne 30, 3) := by decide +kernel
theorem dX6_isThereNow_124 : decode cX6_isThereNow 124 = .ok (.aload_n 0, 1) := by decide +kernel
theorem dX6_isThereNow_125 : decode cX6_isThereNow 125 = .ok (.getfield 22, 3) := by decide +kernel
theorem dX6_isThereNow_128 : decode cX6_isThereNow 128 = .ok (.iconst 0, 1) := by decide +kernel
theorem dX6_isThereNow_129 : decode cX6_isThereNow 129 = .ok (.iaload, 1) := by decide +kernel
theorem dX6_isThereNow_130 : decode cX6_isThereNow 130 = .ok (.aload_n 0, 1) := by decide +kernel
theorem dX6_isThereNow_131 : decode cX6_isThereNow 131 = .ok (.getfield 22, 3) := by decide +kernel
theorem dX6_isThereNow_134 : decode cX6_isThereNow 134 = .ok (.iconst 1, 1) := by decide +kernel
theorem dX6_isThereNow_135 : decode cX6_isThereNow 135 = .ok (.iaload, 1) := by decide +kernel
theorem dX6_isThereNow_136 : decode cX6_isThereNow 136 = .ok (.if_icmp .ne 15, 3) := by decide +kernel
theorem dX6_isThereNow_139 : decode cX6_isThereNow 139 = .ok (.aload_n 0, 1) := by decide +kernel
theorem dX6_isThereNow_140 : decode cX6_isThereNow 140 = .ok (.getfield 35, 3) := by decide +kernel
theorem dX6_isThereNow_143 : decode cX6_isThereNow 143 = .ok (.iconst 1, 1) := by decide +kernel
theorem dX6_isThereNow_144 : decode cX6_isThereNow 144 = .ok (.if_icmp .ne 7, 3) := by decide +kernel
theorem dX6_isThereNow_147 : decode cX6_isThereNow 147 = .ok (.iconst 1, 1) := by decide +kernel
theorem dX6_isThereNow_148 : decode cX6_isThereNow 148 = .ok (.goto 4, 3) := by decide +kernel
theorem dX6_isThereNow_151 : decode cX6_isThereNow 151 = .ok (.iconst 0, 1) := by decide +kernel
theorem dX6_isThereNow_152 : decode cX6_isThereNow 152 = .ok (.ireturn, 1) := by decide +kernel
theorem dX6_isThereNow_153 : decode cX6_isThereNow 153 = .ok (.aload_n 0, 1) := by decide +kernel
theorem dX6_isThereNow_154 : decode cX6_isThereNow 154 = .ok (.getfield 98, 3) := by decide +kernel
theorem dX6_isThereNow_157 : decode cX6_isThereNow 157 = .ok (.iconst 2, 1) := by decide +kernel
theorem dX6_isThereNow_158 : decode cX6_isThereNow 158 = .ok (.if_icmp .ne 15, 3) := by decide +kernel
theorem dX6_isThereNow_161 : decode cX6_isThereNow 161 = .ok (.aload_n 0, 1) := by decide +kernel
theorem dX6_isThereNow_162 : decode cX6_isThereNow 162 = .ok (.getfield 38, 3) := by decide +kernel
theorem dX6_isThereNow_165 : decode cX6_isThereNow 165 = .ok (.iconst 1, 1) := by decide +kernel
theorem dX6_isThereNow_166 : decode cX6_isThereNow 166 = .ok (.if_icmp .ne 7, 3) := by decide +kernel
theorem dX6_isThereNow_169 : decode cX6_isThereNow 169 = .ok (.iconst 1, 1) := by decide +kernel
theorem dX6_isThereNow_170 : decode cX6_isThereNow 170 = .ok (.goto 4, 3) := by decide +kernel
theorem dX6_isThereNow_173 : decode cX6_isThereNow 173 = .ok (.iconst 0, 1) := by decide +kernel
theorem dX6_isThereNow_174 : decode cX6_isThereNow 174 = .ok (.ireturn, 1) := by decide +kernel
theorem dX6_there_0 : decode cX6_there 0 = .ok (.iload_n 1, 1) := by decide +kernel
theorem dX6_there_1 : decode cX6_there 1 = .ok (.i2l, 1) := by decide +kernel
theorem dX6_there_2 : decode cX6_there 2 = .ok (.lconst 0, 1) := by decide +kernel
theorem dX6_there_3 : decode cX6_there 3 = .ok (.ldc2_w 114, 3) := by decide +kernel
theorem dX6_there_6 : decode cX6_there 6 = .ok (.invokestatic 88, 3) := by decide +kernel
theorem dX6_there_9 : decode cX6_there 9 = .ok (.ifCond .ne 9, 3) := by decide +kernel
theorem dX6_there_12 : decode cX6_there 12 = .ok (.sipush (-1001), 3) := by decide +kernel
theorem dX6_there_15 : decode cX6_there 15 = .ok (.goto 16, 3) := by decide +kernel
theorem dX6_there_18 : decode cX6_there 18 = .ok (.aload_n 0, 1) := by decide +kernel
theorem dX6_there_19 : decode cX6_there 19 = .ok (.iload_n 1, 1) := by decide +kernel
theorem dX6_there_20 : decode cX6_there 20 = .ok (.invokevirtual 254, 3) := by decide +kernel
theorem dX6_there_23 : decode cX6_there 23 = .ok (.ifCond .eq 7, 3) := by decide +kernel
theorem dX6_there_26 : decode cX6_there 26 = .ok (.iconst 1, 1) := by decide +kernel
theorem dX6_there_27 : decode cX6_there 27 = .ok (.goto 4, 3) := by decide +kernel
theorem dX6_there_30 : decode cX6_there 30 = .ok (.iconst 0, 1) := by decide +kernel
theorem dX6_there_31 : decode cX6_there 31 = .ok (.ireturn, 1) := by decide +kernel
theorem dX6_gcd_0 : decode cX6_gcd 0 = .ok (.lload_n 0, 1) := by decide +kernel
theorem dX6_gcd_1 : decode cX6_gcd 1 = .ok (.lconst 0, 1) := by decide +kernel
theorem dX6_gcd_2 : decode cX6_gcd 2 = .ok (.lcmp, 1) := by decide +kernel
theorem dX6_gcd_3 : decode cX6_gcd 3 = .ok (.ifCond .ge 8, 3) := by decide +kernel
theorem dX6_gcd_6 : decode cX6_gcd 6 = .ok (.lload_n 0, 1) := by decide +kernel
theorem dX6_gcd_7 : decode cX6_gcd 7 = .ok (.lneg, 1) := by decide +kernel
theorem dX6_gcd_8 : decode cX6_gcd 8 = .ok (.goto 4, 3) := by decide +kernel
theorem dX6_gcd_11 : decode cX6_gcd 11 = .ok (.lload_n 0, 1) := by decide +kernel
theorem dX6_gcd_12 : decode cX6_gcd 12 = .ok (.lstore 4, 2) := by decide +kernel
theorem dX6_gcd_14 : decode cX6_gcd 14 = .ok (.lload_n 2, 1) := by decide +kernel
theorem dX6_gcd_15 : decode cX6_gcd 15 = .ok (.lstore 6, 2) := by decide +kernel
theorem dX6_gcd_17 : decode cX6_gcd 17 = .ok (.lload 6, 2) := by decide +kernel
theorem dX6_gcd_19 : decode cX6_gcd 19 = .ok (.lconst 0, 1) := by decide +kernel
theorem dX6_gcd_20 : decode cX6_gcd 20 = .ok (.lcmp, 1) := by decide +kernel
theorem dX6_gcd_21 : decode cX6_gcd 21 = .ok (.ifCond .eq 21, 3) := by decide +kernel
theorem dX6_gcd_24 : decode cX6_gcd 24 = .ok (.lload 4, 2) := by decide +kernel
theorem dX6_gcd_26 : decode cX6_gcd 26 = .ok (.lload 6, 2) := by decide +kernel
theorem dX6_gcd_28 : decode cX6_gcd 28 = .ok (.lrem, 1) := by decide +kernel
theorem dX6_gcd_29 : decode cX6_gcd 29 = .ok (.lstore 8, 2) := by decide +kernel
theorem dX6_gcd_31 : decode cX6_gcd 31 = .ok (.lload 6, 2) := by decide +kernel
theorem dX6_gcd_33 : decode cX6_gcd 33 = .ok (.lstore 4, 2) := by decide +kernel
theorem dX6_gcd_35 : decode cX6_gcd 35 = .ok (.lload 8, 2) := by decide +kernel
theorem dX6_gcd_37 : decode cX6_gcd 37 = .ok (.lstore 6, 2) := by decide +kernel
theorem dX6_gcd_39 : decode cX6_gcd 39 = .ok (.goto (-22), 3) := by decide +kernel
theorem dX6_gcd_42 : decode cX6_gcd 42 = .ok (.lload 4, 2) := by decide +kernel
theorem dX6_gcd_44 : decode cX6_gcd 44 = .ok (.lreturn, 1) := by decide +kernel
theorem dX6_part_0 : decode cX6_part 0 = .ok (.lload_n 0, 1) := by decide +kernel
theorem dX6_part_1 : decode cX6_part 1 = .ok (.lload_n 2, 1) := by decide +kernel
theorem dX6_part_2 : decode cX6_part 2 = .ok (.invokestatic 257, 3) := by decide +kernel
theorem dX6_part_5 : decode cX6_part 5 = .ok (.lstore 5, 2) := by decide +kernel
theorem dX6_part_7 : decode cX6_part 7 = .ok (.iload 4, 2) := by decide +kernel
theorem dX6_part_9 : decode cX6_part 9 = .ok (.ifCond .ne 10, 3) := by decide +kernel
theorem dX6_part_12 : decode cX6_part 12 = .ok (.lload_n 0, 1) := by decide +kernel
theorem dX6_part_13 : decode cX6_part 13 = .ok (.lload 5, 2) := by decide +kernel
theorem dX6_part_15 : decode cX6_part 15 = .ok (.ldiv, 1) := by decide +kernel
theorem dX6_part_16 : decode cX6_part 16 = .ok (.goto 7, 3) := by decide +kernel
theorem dX6_part_19 : decode cX6_part 19 = .ok (.lload_n 2, 1) := by decide +kernel
theorem dX6_part_20 : decode cX6_part 20 = .ok (.lload 5, 2) := by decide +kernel
theorem dX6_part_22 : decode cX6_part 22 = .ok (.ldiv, 1) := by decide +kernel
theorem dX6_part_23 : decode cX6_part 23 = .ok (.lreturn, 1) := by decide +kernel
theorem dX6_worth_0 : decode cX6_worth 0 = .ok (.iload_n 1, 1) := by decide +kernel
theorem dX6_worth_1 : decode cX6_worth 1 = .ok (.i2l, 1) := by decide +kernel
theorem dX6_worth_2 : decode cX6_worth 2 = .ok (.lconst 0, 1) := by decide +kernel
theorem dX6_worth_3 : decode cX6_worth 3 = .ok (.ldc2_w 114, 3) := by decide +kernel
theorem dX6_worth_6 : decode cX6_worth 6 = .ok (.invokestatic 88, 3) := by decide +kernel
theorem dX6_worth_9 : decode cX6_worth 9 = .ok (.ifCond .eq 13, 3) := by decide +kernel
theorem dX6_worth_12 : decode cX6_worth 12 = .ok (.iload_n 2, 1) := by decide +kernel
theorem dX6_worth_13 : decode cX6_worth 13 = .ok (.i2l, 1) := by decide +kernel
theorem dX6_worth_14 : decode cX6_worth 14 = .ok (.lconst 0, 1) := by decide +kernel
theorem dX6_worth_15 : decode cX6_worth 15 = .ok (.lconst 1, 1) := by decide +kernel
theorem dX6_worth_16 : decode cX6_worth 16 = .ok (.invokestatic 88, 3) := by decide +kernel
theorem dX6_worth_19 : decode cX6_worth 19 = .ok (.ifCond .ne 7, 3) := by decide +kernel
theorem dX6_worth_22 : decode cX6_worth 22 = .ok (.ldc2_w 261, 3) := by decide +kernel
theorem dX6_worth_25 : decode cX6_worth 25 = .ok (.lreturn, 1) := by decide +kernel
theorem dX6_worth_26 : decode cX6_worth 26 = .ok (.aload_n 0, 1) := by decide +kernel
theorem dX6_worth_27 : decode cX6_worth 27 = .ok (.iload_n 1, 1) := by decide +kernel
theorem dX6_worth_28 : decode cX6_worth 28 = .ok (.invokevirtual 254, 3) := by decide +kernel
theorem dX6_worth_31 : decode cX6_worth 31 = .ok (.ifCond .ne 7, 3) := by decide +kernel
theorem dX6_worth_34 : decode cX6_worth 34 = .ok (.ldc2_w 263, 3) := by decide +kernel
theorem dX6_worth_37 : decode cX6_worth 37 = .ok (.lreturn, 1) := by decide +kernel
theorem dX6_worth_38 : decode cX6_worth 38 = .ok (.aload_n 0, 1) := by decide +kernel
theorem dX6_worth_39 : decode cX6_worth 39 = .ok (.invokevirtual 104, 3) := by decide +kernel
theorem dX6_worth_42 : decode cX6_worth 42 = .ok (.bipush 12, 2) := by decide +kernel
theorem dX6_worth_44 : decode cX6_worth 44 = .ok (.if_icmp .le 7, 3) := by decide +kernel
theorem dX6_worth_47 : decode cX6_worth 47 = .ok (.ldc2_w 265, 3) := by decide +kernel
theorem dX6_worth_50 : decode cX6_worth 50 = .ok (.lreturn, 1) := by decide +kernel
theorem dX6_worth_51 : decode cX6_worth 51 = .ok (.aload_n 0, 1) := by decide +kernel
theorem dX6_worth_52 : decode cX6_worth 52 = .ok (.iconst 0, 1) := by decide +kernel
theorem dX6_worth_53 : decode cX6_worth 53 = .ok (.invokevirtual 267, 3) := by decide +kernel
theorem dX6_worth_56 : decode cX6_worth 56 = .ok (.aload_n 0, 1) := by decide +kernel
theorem dX6_worth_57 : decode cX6_worth 57 = .ok (.iload_n 1, 1) := by decide +kernel
theorem dX6_worth_58 : decode cX6_worth 58 = .ok (.invokevirtual 248, 3) := by decide +kernel
theorem dX6_worth_61 : decode cX6_worth 61 = .ok (.aload_n 0, 1) := by decide +kernel
theorem dX6_worth_62 : decode cX6_worth 62 = .ok (.getfield 48, 3) := by decide +kernel
theorem dX6_worth_65 : decode cX6_worth 65 = .ok (.aload_n 0, 1) := by decide +kernel
theorem dX6_worth_66 : decode cX6_worth 66 = .ok (.invokevirtual 104, 3) := by decide +kernel
theorem dX6_worth_69 : decode cX6_worth 69 = .ok (.laload, 1) := by decide +kernel
theorem dX6_worth_70 : decode cX6_worth 70 = .ok (.iload_n 2, 1) := by decide +kernel
theorem dX6_worth_71 : decode cX6_worth 71 = .ok (.invokestatic 271, 3) := by decide +kernel
theorem dX6_worth_74 : decode cX6_worth 74 = .ok (.lreturn, 1) := by decide +kernel
theorem dX6_best_0 : decode cX6_best 0 = .ok (.aload_n 0, 1) := by decide +kernel
theorem dX6_best_1 : decode cX6_best 1 = .ok (.iconst 0, 1) := by decide +kernel
theorem dX6_best_2 : decode cX6_best 2 = .ok (.invokevirtual 254, 3) := by decide +kernel
theorem dX6_best_5 : decode cX6_best 5 = .ok (.ifCond .ne 7, 3) := by decide +kernel
theorem dX6_best_8 : decode cX6_best 8 = .ok (.sipush (-1002), 3) := by decide +kernel
theorem dX6_best_11 : decode cX6_best 11 = .ok (.ireturn, 1) := by decide +kernel
theorem dX6_best_12 : decode cX6_best 12 = .ok (.aload_n 0, 1) := by decide +kernel
theorem dX6_best_13 : decode cX6_best 13 = .ok (.invokevirtual 104, 3) := by decide +kernel
theorem dX6_best_16 : decode cX6_best 16 = .ok (.bipush 12, 2) := by decide +kernel
theorem dX6_best_18 : decode cX6_best 18 = .ok (.if_icmp .le 7, 3) := by decide +kernel
theorem dX6_best_21 : decode cX6_best 21 = .ok (.sipush (-1004), 3) := by decide +kernel
theorem dX6_best_24 : decode cX6_best 24 = .ok (.ireturn, 1) := by decide +kernel
theorem dX6_best_25 : decode cX6_best 25 = .ok (.aload_n 0, 1) := by decide +kernel
theorem dX6_best_26 : decode cX6_best 26 = .ok (.iconst 0, 1) := by decide +kernel
theorem dX6_best_27 : decode cX6_best 27 = .ok (.invokevirtual 267, 3) := by decide +kernel
theorem dX6_best_30 : decode cX6_best 30 = .ok (.aload_n 0, 1) := by decide +kernel
theorem dX6_best_31 : decode cX6_best 31 = .ok (.invokevirtual 275, 3) := by decide +kernel
theorem dX6_best_34 : decode cX6_best 34 = .ok (.lstore_n 1, 1) := by decide +kernel
theorem dX6_best_35 : decode cX6_best 35 = .ok (.aload_n 0, 1) := by decide +kernel
theorem dX6_best_36 : decode cX6_best 36 = .ok (.getfield 241, 3) := by decide +kernel
theorem dX6_best_39 : decode cX6_best 39 = .ok (.ireturn, 1) := by decide +kernel
theorem dX6_chance_0 : decode cX6_chance 0 = .ok (.iload_n 1, 1) := by decide +kernel
theorem dX6_chance_1 : decode cX6_chance 1 = .ok (.ifCond .eq 17, 3) := by decide +kernel
theorem dX6_chance_4 : decode cX6_chance 4 = .ok (.iload_n 1, 1) := by decide +kernel
theorem dX6_chance_5 : decode cX6_chance 5 = .ok (.i2l, 1) := by decide +kernel
theorem dX6_chance_6 : decode cX6_chance 6 = .ok (.ldc2_w 112, 3) := by decide +kernel
theorem dX6_chance_9 : decode cX6_chance 9 = .ok (.ldc2_w 110, 3) := by decide +kernel
theorem dX6_chance_12 : decode cX6_chance 12 = .ok (.invokestatic 88, 3) := by decide +kernel
theorem dX6_chance_15 : decode cX6_chance 15 = .ok (.ifCond .eq 13, 3) := by decide +kernel
theorem dX6_chance_18 : decode cX6_chance 18 = .ok (.iload_n 2, 1) := by decide +kernel
theorem dX6_chance_19 : decode cX6_chance 19 = .ok (.i2l, 1) := by decide +kernel
theorem dX6_chance_20 : decode cX6_chance 20 = .ok (.lconst 0, 1) := by decide +kernel
theorem dX6_chance_21 : decode cX6_chance 21 = .ok (.lconst 1, 1) := by decide +kernel
theorem dX6_chance_22 : decode cX6_chance 22 = .ok (.invokestatic 88, 3) := by decide +kernel
theorem dX6_chance_25 : decode cX6_chance 25 = .ok (.ifCond .ne 7, 3) := by decide +kernel
theorem dX6_chance_28 : decode cX6_chance 28 = .ok (.ldc2_w 261, 3) := by decide +kernel
theorem dX6_chance_31 : decode cX6_chance 31 = .ok (.lreturn, 1) := by decide +kernel
theorem dX6_chance_32 : decode cX6_chance 32 = .ok (.aload_n 0, 1) := by decide +kernel
theorem dX6_chance_33 : decode cX6_chance 33 = .ok (.getfield 101, 3) := by decide +kernel
theorem dX6_chance_36 : decode cX6_chance 36 = .ok (.ifCond .ne 7, 3) := by decide +kernel
theorem dX6_chance_39 : decode cX6_chance 39 = .ok (.ldc2_w 263, 3) := by decide +kernel
theorem dX6_chance_42 : decode cX6_chance 42 = .ok (.lreturn, 1) := by decide +kernel
theorem dX6_chance_43 : decode cX6_chance 43 = .ok (.aload_n 0, 1) := by decide +kernel
theorem dX6_chance_44 : decode cX6_chance 44 = .ok (.invokevirtual 104, 3) := by decide +kernel
theorem dX6_chance_47 : decode cX6_chance 47 = .ok (.bipush 12, 2) := by decide +kernel
theorem dX6_chance_49 : decode cX6_chance 49 = .ok (.if_icmp .le 7, 3) := by decide +kernel
theorem dX6_chance_52 : decode cX6_chance 52 = .ok (.ldc2_w 265, 3) := by decide +kernel
theorem dX6_chance_55 : decode cX6_chance 55 = .ok (.lreturn, 1) := by decide +kernel
theorem dX6_chance_56 : decode cX6_chance 56 = .ok (.aload_n 0, 1) := by decide +kernel
theorem dX6_chance_57 : decode cX6_chance 57 = .ok (.iconst 0, 1) := by decide +kernel
theorem dX6_chance_58 : decode cX6_chance 58 = .ok (.invokevirtual 267, 3) := by decide +kernel
theorem dX6_chance_61 : decode cX6_chance 61 = .ok (.aload_n 0, 1) := by decide +kernel
theorem dX6_chance_62 : decode cX6_chance 62 = .ok (.iconst 1, 1) := by decide +kernel
theorem dX6_chance_63 : decode cX6_chance 63 = .ok (.putfield 177, 3) := by decide +kernel
theorem dX6_chance_66 : decode cX6_chance 66 = .ok (.aload_n 0, 1) := by decide +kernel
theorem dX6_chance_67 : decode cX6_chance 67 = .ok (.iload_n 1, 1) := by decide +kernel
theorem dX6_chance_68 : decode cX6_chance 68 = .ok (.putfield 180, 3) := by decide +kernel
theorem dX6_chance_71 : decode cX6_chance 71 = .ok (.aload_n 0, 1) := by decide +kernel
theorem dX6_chance_72 : decode cX6_chance 72 = .ok (.invokevirtual 210, 3) := by decide +kernel
theorem dX6_chance_75 : decode cX6_chance 75 = .ok (.aload_n 0, 1) := by decide +kernel
theorem dX6_chance_76 : decode cX6_chance 76 = .ok (.aload_n 0, 1) := by decide +kernel
theorem dX6_chance_77 : decode cX6_chance 77 = .ok (.getfield 170, 3) := by decide +kernel
theorem dX6_chance_80 : decode cX6_chance 80 = .ok (.iconst 1, 1) := by decide +kernel
theorem dX6_chance_81 : decode cX6_chance 81 = .ok (.isub, 1) := by decide +kernel
theorem dX6_chance_82 : decode cX6_chance 82 = .ok (.invokevirtual 213, 3) := by decide +kernel
theorem dX6_chance_85 : decode cX6_chance 85 = .ok (.aload_n 0, 1) := by decide +kernel
theorem dX6_chance_86 : decode cX6_chance 86 = .ok (.getfield 48, 3) := by decide +kernel
theorem dX6_chance_89 : decode cX6_chance 89 = .ok (.aload_n 0, 1) := by decide +kernel
theorem dX6_chance_90 : decode cX6_chance 90 = .ok (.invokevirtual 104, 3) := by decide +kernel
theorem dX6_chance_93 : decode cX6_chance 93 = .ok (.laload, 1) := by decide +kernel
theorem dX6_chance_94 : decode cX6_chance 94 = .ok (.iload_n 2, 1) := by decide +kernel
theorem dX6_chance_95 : decode cX6_chance 95 = .ok (.invokestatic 271, 3) := by decide +kernel
theorem dX6_chance_98 : decode cX6_chance 98 = .ok (.lreturn, 1) := by decide +kernel
theorem dX6_dealt_0 : decode cX6_dealt 0 = .ok (.iconst 1, 1) := by decide +kernel
theorem dX6_dealt_1 : decode cX6_dealt 1 = .ok (.istore 4, 2) := by decide +kernel
theorem dX6_dealt_3 : decode cX6_dealt 3 = .ok (.iload 4, 2) := by decide +kernel
theorem dX6_dealt_5 : decode cX6_dealt 5 = .ok (.bipush 11, 2) := by decide +kernel
theorem dX6_dealt_7 : decode cX6_dealt 7 = .ok (.if_icmp .ge 71, 3) := by decide +kernel
theorem dX6_dealt_10 : decode cX6_dealt 10 = .ok (.aload_n 0, 1) := by decide +kernel
theorem dX6_dealt_11 : decode cX6_dealt 11 = .ok (.getfield 52, 3) := by decide +kernel
theorem dX6_dealt_14 : decode cX6_dealt 14 = .ok (.iload 4, 2) := by decide +kernel
theorem dX6_dealt_16 : decode cX6_dealt 16 = .ok (.aload_n 0, 1) := by decide +kernel
theorem dX6_dealt_17 : decode cX6_dealt 17 = .ok (.getfield 7, 3) := by decide +kernel
theorem dX6_dealt_20 : decode cX6_dealt 20 = .ok (.iload 4, 2) := by decide +kernel
theorem dX6_dealt_22 : decode cX6_dealt 22 = .ok (.iaload, 1) := by decide +kernel
theorem dX6_dealt_23 : decode cX6_dealt 23 = .ok (.iload 4, 2) := by decide +kernel
theorem dX6_dealt_25 : decode cX6_dealt 25 = .ok (.iload_n 1, 1) := by decide +kernel
theorem dX6_dealt_26 : decode cX6_dealt 26 = .ok (.if_icmp .ne 7, 3) := by decide +kernel
theorem dX6_dealt_29 : decode cX6_dealt 29 = .ok (.iconst 1, 1) := by decide +kernel
theorem dX6_dealt_30 : decode cX6_dealt 30 = .ok (.goto 4, 3) := by decide +kernel
theorem dX6_dealt_33 : decode cX6_dealt 33 = .ok (.iconst 0, 1) := by decide +kernel
theorem dX6_dealt_34 : decode cX6_dealt 34 = .ok (.isub, 1) := by decide +kernel
theorem dX6_dealt_35 : decode cX6_dealt 35 = .ok (.iload 4, 2) := by decide +kernel
theorem dX6_dealt_37 : decode cX6_dealt 37 = .ok (.iload_n 2, 1) := by decide +kernel
theorem dX6_dealt_38 : decode cX6_dealt 38 = .ok (.if_icmp .ne 7, 3) := by decide +kernel
theorem dX6_dealt_41 : decode cX6_dealt 41 = .ok (.iconst 1, 1) := by decide +kernel
theorem dX6_dealt_42 : decode cX6_dealt 42 = .ok (.goto 4, 3) := by decide +kernel
theorem dX6_dealt_45 : decode cX6_dealt 45 = .ok (.iconst 0, 1) := by decide +kernel
theorem dX6_dealt_46 : decode cX6_dealt 46 = .ok (.isub, 1) := by decide +kernel
theorem dX6_dealt_47 : decode cX6_dealt 47 = .ok (.iload 4, 2) := by decide +kernel
theorem dX6_dealt_49 : decode cX6_dealt 49 = .ok (.iload_n 3, 1) := by decide +kernel
theorem dX6_dealt_50 : decode cX6_dealt 50 = .ok (.if_icmp .ne 7, 3) := by decide +kernel
theorem dX6_dealt_53 : decode cX6_dealt 53 = .ok (.iconst 1, 1) := by decide +kernel
theorem dX6_dealt_54 : decode cX6_dealt 54 = .ok (.goto 4, 3) := by decide +kernel
theorem dX6_dealt_57 : decode cX6_dealt 57 = .ok (.iconst 0, 1) := by decide +kernel
theorem dX6_dealt_58 : decode cX6_dealt 58 = .ok (.isub, 1) := by decide +kernel
theorem dX6_dealt_59 : decode cX6_dealt 59 = .ok (.iastore, 1) := by decide +kernel
theorem dX6_dealt_60 : decode cX6_dealt 60 = .ok (.aload_n 0, 1) := by decide +kernel
theorem dX6_dealt_61 : decode cX6_dealt 61 = .ok (.getfield 52, 3) := by decide +kernel
theorem dX6_dealt_64 : decode cX6_dealt 64 = .ok (.iload 4, 2) := by decide +kernel
theorem dX6_dealt_66 : decode cX6_dealt 66 = .ok (.iaload, 1) := by decide +kernel
theorem dX6_dealt_67 : decode cX6_dealt 67 = .ok (.ifCond .ge 5, 3) := by decide +kernel
theorem dX6_dealt_70 : decode cX6_dealt 70 = .ok (.lconst 0, 1) := by decide +kernel
theorem dX6_dealt_71 : decode cX6_dealt 71 = .ok (.lreturn, 1) := by decide +kernel
theorem dX6_dealt_72 : decode cX6_dealt 72 = .ok (.iinc 4 1, 3) := by decide +kernel
theorem dX6_dealt_75 : decode cX6_dealt 75 = .ok (.goto (-72), 3) := by decide +kernel
theorem dX6_dealt_78 : decode cX6_dealt 78 = .ok (.aload_n 0, 1) := by decide +kernel
theorem dX6_dealt_79 : decode cX6_dealt 79 = .ok (.getfield 7, 3) := by decide +kernel
theorem dX6_dealt_82 : decode cX6_dealt 82 = .ok (.iload_n 1, 1) := by decide +kernel
theorem dX6_dealt_83 : decode cX6_dealt 83 = .ok (.iaload, 1) := by decide +kernel
theorem dX6_dealt_84 : decode cX6_dealt 84 = .ok (.i2l, 1) := by decide +kernel
theorem dX6_dealt_85 : decode cX6_dealt 85 = .ok (.aload_n 0, 1) := by decide +kernel
theorem dX6_dealt_86 : decode cX6_dealt 86 = .ok (.getfield 7, 3) := by decide +kernel
theorem dX6_dealt_89 : decode cX6_dealt 89 = .ok (.iload_n 2, 1) := by decide +kernel
theorem dX6_dealt_90 : decode cX6_dealt 90 = .ok (.iaload, 1) := by decide +kernel
theorem dX6_dealt_91 : decode cX6_dealt 91 = .ok (.iload_n 1, 1) := by decide +kernel
theorem dX6_dealt_92 : decode cX6_dealt 92 = .ok (.iload_n 2, 1) := by decide +kernel
theorem dX6_dealt_93 : decode cX6_dealt 93 = .ok (.if_icmp .ne 7, 3) := by decide +kernel
theorem dX6_dealt_96 : decode cX6_dealt 96 = .ok (.iconst 1, 1) := by decide +kernel
theorem dX6_dealt_97 : decode cX6_dealt 97 = .ok (.goto 4, 3) := by decide +kernel
theorem dX6_dealt_100 : decode cX6_dealt 100 = .ok (.iconst 0, 1) := by decide +kernel
theorem dX6_dealt_101 : decode cX6_dealt 101 = .ok (.isub, 1) := by decide +kernel
theorem dX6_dealt_102 : decode cX6_dealt 102 = .ok (.i2l, 1) := by decide +kernel
theorem dX6_dealt_103 : decode cX6_dealt 103 = .ok (.lmul, 1) := by decide +kernel
theorem dX6_dealt_104 : decode cX6_dealt 104 = .ok (.aload_n 0, 1) := by decide +kernel
theorem dX6_dealt_105 : decode cX6_dealt 105 = .ok (.getfield 7, 3) := by decide +kernel
theorem dX6_dealt_108 : decode cX6_dealt 108 = .ok (.iload_n 3, 1) := by decide +kernel
theorem dX6_dealt_109 : decode cX6_dealt 109 = .ok (.iaload, 1) := by decide +kernel
theorem dX6_dealt_110 : decode cX6_dealt 110 = .ok (.iload_n 3, 1) := by decide +kernel
theorem dX6_dealt_111 : decode cX6_dealt 111 = .ok (.iload_n 1, 1) := by decide +kernel
theorem dX6_dealt_112 : decode cX6_dealt 112 = .ok (.if_icmp .ne 7, 3) := by decide +kernel
theorem dX6_dealt_115 : decode cX6_dealt 115 = .ok (.iconst 1, 1) := by decide +kernel
theorem dX6_dealt_116 : decode cX6_dealt 116 = .ok (.goto 4, 3) := by decide +kernel
theorem dX6_dealt_119 : decode cX6_dealt 119 = .ok (.iconst 0, 1) := by decide +kernel
theorem dX6_dealt_120 : decode cX6_dealt 120 = .ok (.isub, 1) := by decide +kernel
theorem dX6_dealt_121 : decode cX6_dealt 121 = .ok (.iload_n 3, 1) := by decide +kernel
theorem dX6_dealt_122 : decode cX6_dealt 122 = .ok (.iload_n 2, 1) := by decide +kernel
theorem dX6_dealt_123 : decode cX6_dealt 123 = .ok (.if_icmp .ne 7, 3) := by decide +kernel
theorem dX6_dealt_126 : decode cX6_dealt 126 = .ok (.iconst 1, 1) := by decide +kernel
theorem dX6_dealt_127 : decode cX6_dealt 127 = .ok (.goto 4, 3) := by decide +kernel
theorem dX6_dealt_130 : decode cX6_dealt 130 = .ok (.iconst 0, 1) := by decide +kernel
theorem dX6_dealt_131 : decode cX6_dealt 131 = .ok (.isub, 1) := by decide +kernel
theorem dX6_dealt_132 : decode cX6_dealt 132 = .ok (.i2l, 1) := by decide +kernel
theorem dX6_dealt_133 : decode cX6_dealt 133 = .ok (.lmul, 1) := by decide +kernel
theorem dX6_dealt_134 : decode cX6_dealt 134 = .ok (.lstore 4, 2) := by decide +kernel
theorem dX6_dealt_136 : decode cX6_dealt 136 = .ok (.aload_n 0, 1) := by decide +kernel
theorem dX6_dealt_137 : decode cX6_dealt 137 = .ok (.invokevirtual 251, 3) := by decide +kernel
theorem dX6_dealt_140 : decode cX6_dealt 140 = .ok (.aload_n 0, 1) := by decide +kernel
theorem dX6_dealt_141 : decode cX6_dealt 141 = .ok (.iload_n 1, 1) := by decide +kernel
theorem dX6_dealt_142 : decode cX6_dealt 142 = .ok (.iload_n 2, 1) := by decide +kernel
theorem dX6_dealt_143 : decode cX6_dealt 143 = .ok (.iadd, 1) := by decide +kernel
theorem dX6_dealt_144 : decode cX6_dealt 144 = .ok (.putfield 200, 3) := by decide +kernel
theorem dX6_dealt_147 : decode cX6_dealt 147 = .ok (.aload_n 0, 1) := by decide +kernel
theorem dX6_dealt_148 : decode cX6_dealt 148 = .ok (.iload_n 1, 1) := by decide +kernel
theorem dX6_dealt_149 : decode cX6_dealt 149 = .ok (.iconst 1, 1) := by decide +kernel
theorem dX6_dealt_150 : decode cX6_dealt 150 = .ok (.if_icmp .eq 8, 3) := by decide +kernel
theorem dX6_dealt_153 : decode cX6_dealt 153 = .ok (.iload_n 2, 1) := by decide +kernel
theorem dX6_dealt_154 : decode cX6_dealt 154 = .ok (.iconst 1, 1) := by decide +kernel
theorem dX6_dealt_155 : decode cX6_dealt 155 = .ok (.if_icmp .ne 7, 3) := by decide +kernel
theorem dX6_dealt_158 : decode cX6_dealt 158 = .ok (.iconst 1, 1) := by decide +kernel
theorem dX6_dealt_159 : decode cX6_dealt 159 = .ok (.goto 4, 3) := by decide +kernel
theorem dX6_dealt_162 : decode cX6_dealt 162 = .ok (.iconst 0, 1) := by decide +kernel
theorem dX6_dealt_163 : decode cX6_dealt 163 = .ok (.putfield 203, 3) := by decide +kernel
theorem dX6_dealt_166 : decode cX6_dealt 166 = .ok (.aload_n 0, 1) := by decide +kernel
theorem dX6_dealt_167 : decode cX6_dealt 167 = .ok (.iconst 2, 1) := by decide +kernel
theorem dX6_dealt_168 : decode cX6_dealt 168 = .ok (.putfield 219, 3) := by decide +kernel
theorem dX6_dealt_171 : decode cX6_dealt 171 = .ok (.aload_n 0, 1) := by decide +kernel
theorem dX6_dealt_172 : decode cX6_dealt 172 = .ok (.iload_n 1, 1) := by decide +kernel
theorem dX6_dealt_173 : decode cX6_dealt 173 = .ok (.iload_n 2, 1) := by decide +kernel
theorem dX6_dealt_174 : decode cX6_dealt 174 = .ok (.if_icmp .ne 7, 3) := by decide +kernel
theorem dX6_dealt_177 : decode cX6_dealt 177 = .ok (.iload_n 1, 1) := by decide +kernel
theorem dX6_dealt_178 : decode cX6_dealt 178 = .ok (.goto 4, 3) := by decide +kernel
theorem dX6_dealt_181 : decode cX6_dealt 181 = .ok (.iconst 0, 1) := by decide +kernel
theorem dX6_dealt_182 : decode cX6_dealt 182 = .ok (.putfield 225, 3) := by decide +kernel
theorem dX6_dealt_185 : decode cX6_dealt 185 = .ok (.aload_n 0, 1) := by decide +kernel
theorem dX6_dealt_186 : decode cX6_dealt 186 = .ok (.iload_n 3, 1) := by decide +kernel
theorem dX6_dealt_187 : decode cX6_dealt 187 = .ok (.putfield 193, 3) := by decide +kernel
theorem dX6_dealt_190 : decode cX6_dealt 190 = .ok (.aload_n 0, 1) := by decide +kernel
theorem dX6_dealt_191 : decode cX6_dealt 191 = .ok (.aload_n 0, 1) := by decide +kernel
theorem dX6_dealt_192 : decode cX6_dealt 192 = .ok (.getfield 170, 3) := by decide +kernel
theorem dX6_dealt_195 : decode cX6_dealt 195 = .ok (.iconst 1, 1) := by decide +kernel
theorem dX6_dealt_196 : decode cX6_dealt 196 = .ok (.isub, 1) := by decide +kernel
theorem dX6_dealt_197 : decode cX6_dealt 197 = .ok (.invokevirtual 206, 3) := by decide +kernel
theorem dX6_dealt_200 : decode cX6_dealt 200 = .ok (.aload_n 0, 1) := by decide +kernel
theorem dX6_dealt_201 : decode cX6_dealt 201 = .ok (.getfield 25, 3) := by decide +kernel
theorem dX6_dealt_204 : decode cX6_dealt 204 = .ok (.if_icmp .le 26, 3) := by decide +kernel
theorem dX6_dealt_207 : decode cX6_dealt 207 = .ok (.ldc2_w 217, 3) := by decide +kernel
theorem dX6_dealt_210 : decode cX6_dealt 210 = .ok (.aload_n 0, 1) := by decide +kernel
theorem dX6_dealt_211 : decode cX6_dealt 211 = .ok (.getfield 48, 3) := by decide +kernel
theorem dX6_dealt_214 : decode cX6_dealt 214 = .ok (.aload_n 0, 1) := by decide +kernel
theorem dX6_dealt_215 : decode cX6_dealt 215 = .ok (.getfield 58, 3) := by decide +kernel
theorem dX6_dealt_218 : decode cX6_dealt 218 = .ok (.aload_n 0, 1) := by decide +kernel
theorem dX6_dealt_219 : decode cX6_dealt 219 = .ok (.getfield 170, 3) := by decide +kernel
theorem dX6_dealt_222 : decode cX6_dealt 222 = .ok (.iconst 1, 1) := by decide +kernel
theorem dX6_dealt_223 : decode cX6_dealt 223 = .ok (.isub, 1) := by decide +kernel
theorem dX6_dealt_224 : decode cX6_dealt 224 = .ok (.iaload, 1) := by decide +kernel
theorem dX6_dealt_225 : decode cX6_dealt 225 = .ok (.laload, 1) := by decide +kernel
theorem dX6_dealt_226 : decode cX6_dealt 226 = .ok (.lmul, 1) := by decide +kernel
theorem dX6_dealt_227 : decode cX6_dealt 227 = .ok (.goto 7, 3) := by decide +kernel
theorem dX6_dealt_230 : decode cX6_dealt 230 = .ok (.aload_n 0, 1) := by decide +kernel
theorem dX6_dealt_231 : decode cX6_dealt 231 = .ok (.invokevirtual 275, 3) := by decide +kernel
theorem dX6_dealt_234 : decode cX6_dealt 234 = .ok (.lstore 6, 2) := by decide +kernel
theorem dX6_dealt_236 : decode cX6_dealt 236 = .ok (.lload 4, 2) := by decide +kernel
theorem dX6_dealt_238 : decode cX6_dealt 238 = .ok (.lload 6, 2) := by decide +kernel
theorem dX6_dealt_240 : decode cX6_dealt 240 = .ok (.lmul, 1) := by decide +kernel
theorem dX6_dealt_241 : decode cX6_dealt 241 = .ok (.lreturn, 1) := by decide +kernel
theorem dX6_deal_0 : decode cX6_deal 0 = .ok (.iload_n 1, 1) := by decide +kernel
theorem dX6_deal_1 : decode cX6_deal 1 = .ok (.i2l, 1) := by decide +kernel
theorem dX6_deal_2 : decode cX6_deal 2 = .ok (.lconst 0, 1) := by decide +kernel
theorem dX6_deal_3 : decode cX6_deal 3 = .ok (.lconst 1, 1) := by decide +kernel
theorem dX6_deal_4 : decode cX6_deal 4 = .ok (.invokestatic 88, 3) := by decide +kernel
theorem dX6_deal_7 : decode cX6_deal 7 = .ok (.ifCond .ne 7, 3) := by decide +kernel
theorem dX6_deal_10 : decode cX6_deal 10 = .ok (.ldc2_w 261, 3) := by decide +kernel
theorem dX6_deal_13 : decode cX6_deal 13 = .ok (.lreturn, 1) := by decide +kernel
theorem dX6_deal_14 : decode cX6_deal 14 = .ok (.aload_n 0, 1) := by decide +kernel
theorem dX6_deal_15 : decode cX6_deal 15 = .ok (.invokevirtual 104, 3) := by decide +kernel
theorem dX6_deal_18 : decode cX6_deal 18 = .ok (.iconst 3, 1) := by decide +kernel
theorem dX6_deal_19 : decode cX6_deal 19 = .ok (.if_icmp .ge 7, 3) := by decide +kernel
theorem dX6_deal_22 : decode cX6_deal 22 = .ok (.ldc2_w 263, 3) := by decide +kernel
theorem dX6_deal_25 : decode cX6_deal 25 = .ok (.lreturn, 1) := by decide +kernel
theorem dX6_deal_26 : decode cX6_deal 26 = .ok (.aload_n 0, 1) := by decide +kernel
theorem dX6_deal_27 : decode cX6_deal 27 = .ok (.invokevirtual 104, 3) := by decide +kernel
theorem dX6_deal_30 : decode cX6_deal 30 = .ok (.bipush 8, 2) := by decide +kernel
theorem dX6_deal_32 : decode cX6_deal 32 = .ok (.if_icmp .le 7, 3) := by decide +kernel
theorem dX6_deal_35 : decode cX6_deal 35 = .ok (.ldc2_w 265, 3) := by decide +kernel
theorem dX6_deal_38 : decode cX6_deal 38 = .ok (.lreturn, 1) := by decide +kernel
theorem dX6_deal_39 : decode cX6_deal 39 = .ok (.lconst 0, 1) := by decide +kernel
theorem dX6_deal_40 : decode cX6_deal 40 = .ok (.lstore_n 2, 1) := by decide +kernel
theorem dX6_deal_41 : decode cX6_deal 41 = .ok (.iconst 1, 1) := by decide +kernel
theorem dX6_deal_42 : decode cX6_deal 42 = .ok (.istore 4, 2) := by decide +kernel
theorem dX6_deal_44 : decode cX6_deal 44 = .ok (.iload 4, 2) := by decide +kernel
theorem dX6_deal_46 : decode cX6_deal 46 = .ok (.bipush 11, 2) := by decide +kernel
theorem dX6_deal_48 : decode cX6_deal 48 = .ok (.if_icmp .ge 70, 3) := by decide +kernel
theorem dX6_deal_51 : decode cX6_deal 51 = .ok (.iload 4, 2) := by decide +kernel
theorem dX6_deal_53 : decode cX6_deal 53 = .ok (.istore 5, 2) := by decide +kernel
theorem dX6_deal_55 : decode cX6_deal 55 = .ok (.iload 5, 2) := by decide +kernel
theorem dX6_deal_57 : decode cX6_deal 57 = .ok (.bipush 11, 2) := by decide +kernel
theorem dX6_deal_59 : decode cX6_deal 59 = .ok (.if_icmp .ge 53, 3) := by decide +kernel
theorem dX6_deal_62 : decode cX6_deal 62 = .ok (.iconst 1, 1) := by decide +kernel
theorem dX6_deal_63 : decode cX6_deal 63 = .ok (.istore 6, 2) := by decide +kernel
theorem dX6_deal_65 : decode cX6_deal 65 = .ok (.iload 6, 2) := by decide +kernel
theorem dX6_deal_67 : decode cX6_deal 67 = .ok (.bipush 11, 2) := by decide +kernel
theorem dX6_deal_69 : decode cX6_deal 69 = .ok (.if_icmp .ge 37, 3) := by decide +kernel
theorem dX6_deal_72 : decode cX6_deal 72 = .ok (.lload_n 2, 1) := by decide +kernel
theorem dX6_deal_73 : decode cX6_deal 73 = .ok (.iload 4, 2) := by decide +kernel
theorem dX6_deal_75 : decode cX6_deal 75 = .ok (.iload 5, 2) := by decide +kernel
theorem dX6_deal_77 : decode cX6_deal 77 = .ok (.if_icmp .ne 7, 3) := by decide +kernel
theorem dX6_deal_80 : decode cX6_deal 80 = .ok (.lconst 1, 1) := by decide +kernel
theorem dX6_deal_81 : decode cX6_deal 81 = .ok (.goto 6, 3) := by decide +kernel
theorem dX6_deal_84 : decode cX6_deal 84 = .ok (.ldc2_w 112, 3) := by decide +kernel
theorem dX6_deal_87 : decode cX6_deal 87 = .ok (.aload_n 0, 1) := by decide +kernel
theorem dX6_deal_88 : decode cX6_deal 88 = .ok (.iload 4, 2) := by decide +kernel
theorem dX6_deal_90 : decode cX6_deal 90 = .ok (.iload 5, 2) := by decide +kernel
theorem dX6_deal_92 : decode cX6_deal 92 = .ok (.iload 6, 2) := by decide +kernel
theorem dX6_deal_94 : decode cX6_deal 94 = .ok (.invokevirtual 278, 3) := by decide +kernel
theorem dX6_deal_97 : decode cX6_deal 97 = .ok (.lmul, 1) := by decide +kernel
theorem dX6_deal_98 : decode cX6_deal 98 = .ok (.ladd, 1) := by decide +kernel
theorem dX6_deal_99 : decode cX6_deal 99 = .ok (.lstore_n 2, 1) := by decide +kernel
theorem dX6_deal_100 : decode cX6_deal 100 = .ok (.iinc 6 1, 3) := by decide +kernel
theorem dX6_deal_103 : decode cX6_deal 103 = .ok (.goto (-38), 3) := by decide +kernel
theorem dX6_deal_106 : decode cX6_deal 106 = .ok (.iinc 5 1, 3) := by decide +kernel
theorem dX6_deal_109 : decode cX6_deal 109 = .ok (.goto (-54), 3) := by decide +kernel
theorem dX6_deal_112 : decode cX6_deal 112 = .ok (.iinc 4 1, 3) := by decide +kernel
theorem dX6_deal_115 : decode cX6_deal 115 = .ok (.goto (-71), 3) := by decide +kernel
theorem dX6_deal_118 : decode cX6_deal 118 = .ok (.lload_n 2, 1) := by decide +kernel
theorem dX6_deal_119 : decode cX6_deal 119 = .ok (.aload_n 0, 1) := by decide +kernel
theorem dX6_deal_120 : decode cX6_deal 120 = .ok (.getfield 48, 3) := by decide +kernel
theorem dX6_deal_123 : decode cX6_deal 123 = .ok (.aload_n 0, 1) := by decide +kernel
theorem dX6_deal_124 : decode cX6_deal 124 = .ok (.invokevirtual 104, 3) := by decide +kernel
theorem dX6_deal_127 : decode cX6_deal 127 = .ok (.laload, 1) := by decide +kernel
theorem dX6_deal_128 : decode cX6_deal 128 = .ok (.iload_n 1, 1) := by decide +kernel
theorem dX6_deal_129 : decode cX6_deal 129 = .ok (.invokestatic 271, 3) := by decide +kernel
theorem dX6_deal_132 : decode cX6_deal 132 = .ok (.lreturn, 1) := by decide +kernel
theorem dX6_moved_0 : decode cX6_moved 0 = .ok (.iload_n 1, 1) := by decide +kernel
theorem dX6_moved_1 : decode cX6_moved 1 = .ok (.i2l, 1) := by decide +kernel
theorem dX6_moved_2 : decode cX6_moved 2 = .ok (.lconst 1, 1) := by decide +kernel
theorem dX6_moved_3 : decode cX6_moved 3 = .ok (.ldc2_w 86, 3) := by decide +kernel
theorem dX6_moved_6 : decode cX6_moved 6 = .ok (.invokestatic 88, 3) := by decide +kernel
theorem dX6_moved_9 : decode cX6_moved 9 = .ok (.ifCond .eq 13, 3) := by decide +kernel
theorem dX6_moved_12 : decode cX6_moved 12 = .ok (.iload_n 2, 1) := by decide +kernel
theorem dX6_moved_13 : decode cX6_moved 13 = .ok (.i2l, 1) := by decide +kernel
theorem dX6_moved_14 : decode cX6_moved 14 = .ok (.lconst 0, 1) := by decide +kernel
theorem dX6_moved_15 : decode cX6_moved 15 = .ok (.lconst 1, 1) := by decide +kernel
theorem dX6_moved_16 : decode cX6_moved 16 = .ok (.invokestatic 88, 3) := by decide +kernel
theorem dX6_moved_19 : decode cX6_moved 19 = .ok (.ifCond .ne 7, 3) := by decide +kernel
theorem dX6_moved_22 : decode cX6_moved 22 = .ok (.ldc2_w 261, 3) := by decide +kernel
theorem dX6_moved_25 : decode cX6_moved 25 = .ok (.lreturn, 1) := by decide +kernel
theorem dX6_moved_26 : decode cX6_moved 26 = .ok (.aload_n 0, 1) := by decide +kernel
theorem dX6_moved_27 : decode cX6_moved 27 = .ok (.getfield 7, 3) := by decide +kernel
theorem dX6_moved_30 : decode cX6_moved 30 = .ok (.iload_n 1, 1) := by decide +kernel
theorem dX6_moved_31 : decode cX6_moved 31 = .ok (.iaload, 1) := by decide +kernel
theorem dX6_moved_32 : decode cX6_moved 32 = .ok (.ifCond .eq 11, 3) := by decide +kernel
theorem dX6_moved_35 : decode cX6_moved 35 = .ok (.aload_n 0, 1) := by decide +kernel
theorem dX6_moved_36 : decode cX6_moved 36 = .ok (.iconst 0, 1) := by decide +kernel
theorem dX6_moved_37 : decode cX6_moved 37 = .ok (.invokevirtual 254, 3) := by decide +kernel
theorem dX6_moved_40 : decode cX6_moved 40 = .ok (.ifCond .ne 7, 3) := by decide +kernel
theorem dX6_moved_43 : decode cX6_moved 43 = .ok (.ldc2_w 263, 3) := by decide +kernel
theorem dX6_moved_46 : decode cX6_moved 46 = .ok (.lreturn, 1) := by decide +kernel
theorem dX6_moved_47 : decode cX6_moved 47 = .ok (.aload_n 0, 1) := by decide +kernel
theorem dX6_moved_48 : decode cX6_moved 48 = .ok (.invokevirtual 104, 3) := by decide +kernel
theorem dX6_moved_51 : decode cX6_moved 51 = .ok (.bipush 12, 2) := by decide +kernel
theorem dX6_moved_53 : decode cX6_moved 53 = .ok (.if_icmp .le 7, 3) := by decide +kernel
theorem dX6_moved_56 : decode cX6_moved 56 = .ok (.ldc2_w 265, 3) := by decide +kernel
theorem dX6_moved_59 : decode cX6_moved 59 = .ok (.lreturn, 1) := by decide +kernel
theorem dX6_moved_60 : decode cX6_moved 60 = .ok (.aload_n 0, 1) := by decide +kernel
theorem dX6_moved_61 : decode cX6_moved 61 = .ok (.iconst 0, 1) := by decide +kernel
theorem dX6_moved_62 : decode cX6_moved 62 = .ok (.invokevirtual 267, 3) := by decide +kernel
theorem dX6_moved_65 : decode cX6_moved 65 = .ok (.aload_n 0, 1) := by decide +kernel
theorem dX6_moved_66 : decode cX6_moved 66 = .ok (.invokevirtual 275, 3) := by decide +kernel
theorem dX6_moved_69 : decode cX6_moved 69 = .ok (.lstore_n 3, 1) := by decide +kernel
theorem dX6_moved_70 : decode cX6_moved 70 = .ok (.aload_n 0, 1) := by decide +kernel
theorem dX6_moved_71 : decode cX6_moved 71 = .ok (.iload_n 1, 1) := by decide +kernel
theorem dX6_moved_72 : decode cX6_moved 72 = .ok (.invokevirtual 267, 3) := by decide +kernel
theorem dX6_moved_75 : decode cX6_moved 75 = .ok (.aload_n 0, 1) := by decide +kernel
theorem dX6_moved_76 : decode cX6_moved 76 = .ok (.invokevirtual 275, 3) := by decide +kernel
theorem dX6_moved_79 : decode cX6_moved 79 = .ok (.lstore 5, 2) := by decide +kernel
theorem dX6_moved_81 : decode cX6_moved 81 = .ok (.lload 5, 2) := by decide +kernel
theorem dX6_moved_83 : decode cX6_moved 83 = .ok (.aload_n 0, 1) := by decide +kernel
theorem dX6_moved_84 : decode cX6_moved 84 = .ok (.invokevirtual 104, 3) := by decide +kernel
theorem dX6_moved_87 : decode cX6_moved 87 = .ok (.i2l, 1) := by decide +kernel
theorem dX6_moved_88 : decode cX6_moved 88 = .ok (.lmul, 1) := by decide +kernel
theorem dX6_moved_89 : decode cX6_moved 89 = .ok (.lload_n 3, 1) := by decide +kernel
theorem dX6_moved_90 : decode cX6_moved 90 = .ok (.lsub, 1) := by decide +kernel
theorem dX6_moved_91 : decode cX6_moved 91 = .ok (.aload_n 0, 1) := by decide +kernel
theorem dX6_moved_92 : decode cX6_moved 92 = .ok (.getfield 48, 3) := by decide +kernel
theorem dX6_moved_95 : decode cX6_moved 95 = .ok (.aload_n 0, 1) := by decide +kernel
theorem dX6_moved_96 : decode cX6_moved 96 = .ok (.invokevirtual 104, 3) := by decide +kernel
theorem dX6_moved_99 : decode cX6_moved 99 = .ok (.laload, 1) := by decide +kernel
theorem dX6_moved_100 : decode cX6_moved 100 = .ok (.iload_n 2, 1) := by decide +kernel
theorem dX6_moved_101 : decode cX6_moved 101 = .ok (.invokestatic 271, 3) := by decide +kernel
theorem dX6_moved_104 : decode cX6_moved 104 = .ok (.lreturn, 1) := by decide +kernel
theorem dX6_choose_0 : decode cX6_choose 0 = .ok (.lconst 1, 1) := by decide +kernel
theorem dX6_choose_1 : decode cX6_choose 1 = .ok (.lstore_n 2, 1) := by decide +kernel
theorem dX6_choose_2 : decode cX6_choose 2 = .ok (.iconst 0, 1) := by decide +kernel
theorem dX6_choose_3 : decode cX6_choose 3 = .ok (.istore 4, 2) := by decide +kernel
theorem dX6_choose_5 : decode cX6_choose 5 = .ok (.iload 4, 2) := by decide +kernel
theorem dX6_choose_7 : decode cX6_choose 7 = .ok (.iload_n 1, 1) := by decide +kernel
theorem dX6_choose_8 : decode cX6_choose 8 = .ok (.if_icmp .ge 23, 3) := by decide +kernel
theorem dX6_choose_11 : decode cX6_choose 11 = .ok (.lload_n 2, 1) := by decide +kernel
theorem dX6_choose_12 : decode cX6_choose 12 = .ok (.iload_n 0, 1) := by decide +kernel
theorem dX6_choose_13 : decode cX6_choose 13 = .ok (.iload 4, 2) := by decide +kernel
theorem dX6_choose_15 : decode cX6_choose 15 = .ok (.isub, 1) := by decide +kernel
theorem dX6_choose_16 : decode cX6_choose 16 = .ok (.i2l, 1) := by decide +kernel
theorem dX6_choose_17 : decode cX6_choose 17 = .ok (.lmul, 1) := by decide +kernel
theorem dX6_choose_18 : decode cX6_choose 18 = .ok (.iload 4, 2) := by decide +kernel
theorem dX6_choose_20 : decode cX6_choose 20 = .ok (.iconst 1, 1) := by decide +kernel
theorem dX6_choose_21 : decode cX6_choose 21 = .ok (.iadd, 1) := by decide +kernel
theorem dX6_choose_22 : decode cX6_choose 22 = .ok (.i2l, 1) := by decide +kernel
theorem dX6_choose_23 : decode cX6_choose 23 = .ok (.ldiv, 1) := by decide +kernel
theorem dX6_choose_24 : decode cX6_choose 24 = .ok (.lstore_n 2, 1) := by decide +kernel
theorem dX6_choose_25 : decode cX6_choose 25 = .ok (.iinc 4 1, 3) := by decide +kernel
theorem dX6_choose_28 : decode cX6_choose 28 = .ok (.goto (-23), 3) := by decide +kernel
theorem dX6_choose_31 : decode cX6_choose 31 = .ok (.lload_n 2, 1) := by decide +kernel
theorem dX6_choose_32 : decode cX6_choose 32 = .ok (.lreturn, 1) := by decide +kernel
theorem dX6_addRank_0 : decode cX6_addRank 0 = .ok (.iconst 0, 1) := by decide +kernel
theorem dX6_addRank_1 : decode cX6_addRank 1 = .ok (.istore 4, 2) := by decide +kernel
theorem dX6_addRank_3 : decode cX6_addRank 3 = .ok (.iload 4, 2) := by decide +kernel
theorem dX6_addRank_5 : decode cX6_addRank 5 = .ok (.sipush 549, 3) := by decide +kernel
theorem dX6_addRank_8 : decode cX6_addRank 8 = .ok (.if_icmp .ge 25, 3) := by decide +kernel
theorem dX6_addRank_11 : decode cX6_addRank 11 = .ok (.aload_n 0, 1) := by decide +kernel
theorem dX6_addRank_12 : decode cX6_addRank 12 = .ok (.getfield 80, 3) := by decide +kernel
theorem dX6_addRank_15 : decode cX6_addRank 15 = .ok (.iload 4, 2) := by decide +kernel
theorem dX6_addRank_17 : decode cX6_addRank 17 = .ok (.lconst 0, 1) := by decide +kernel
theorem dX6_addRank_18 : decode cX6_addRank 18 = .ok (.lastore, 1) := by decide +kernel
theorem dX6_addRank_19 : decode cX6_addRank 19 = .ok (.aload_n 0, 1) := by decide +kernel
theorem dX6_addRank_20 : decode cX6_addRank 20 = .ok (.getfield 83, 3) := by decide +kernel
theorem dX6_addRank_23 : decode cX6_addRank 23 = .ok (.iload 4, 2) := by decide +kernel
theorem dX6_addRank_25 : decode cX6_addRank 25 = .ok (.lconst 0, 1) := by decide +kernel
theorem dX6_addRank_26 : decode cX6_addRank 26 = .ok (.lastore, 1) := by decide +kernel
theorem dX6_addRank_27 : decode cX6_addRank 27 = .ok (.iinc 4 1, 3) := by decide +kernel
theorem dX6_addRank_30 : decode cX6_addRank 30 = .ok (.goto (-27), 3) := by decide +kernel
theorem dX6_addRank_33 : decode cX6_addRank 33 = .ok (.iconst 0, 1) := by decide +kernel
theorem dX6_addRank_34 : decode cX6_addRank 34 = .ok (.istore 4, 2) := by decide +kernel
theorem dX6_addRank_36 : decode cX6_addRank 36 = .ok (.iload 4, 2) := by decide +kernel
theorem dX6_addRank_38 : decode cX6_addRank 38 = .ok (.iload_n 3, 1) := by decide +kernel
theorem dX6_addRank_39 : decode cX6_addRank 39 = .ok (.if_icmp .gt 190, 3) := by decide +kernel
theorem dX6_addRank_42 : decode cX6_addRank 42 = .ok (.iconst 0, 1) := by decide +kernel
theorem dX6_addRank_43 : decode cX6_addRank 43 = .ok (.istore 5, 2) := by decide +kernel
theorem dX6_addRank_45 : decode cX6_addRank 45 = .ok (.iload 5, 2) := by decide +kernel
theorem dX6_addRank_47 : decode cX6_addRank 47 = .ok (.bipush 61, 2) := by decide +kernel
theorem dX6_addRank_49 : decode cX6_addRank 49 = .ok (.if_icmp .ge 174, 3) := by decide +kernel
theorem dX6_addRank_52 : decode cX6_addRank 52 = .ok (.iconst 0, 1) := by decide +kernel
theorem dX6_addRank_53 : decode cX6_addRank 53 = .ok (.istore 6, 2) := by decide +kernel
theorem dX6_addRank_55 : decode cX6_addRank 55 = .ok (.aload_n 0, 1) := by decide +kernel
theorem dX6_addRank_56 : decode cX6_addRank 56 = .ok (.getfield 74, 3) := by decide +kernel
theorem dX6_addRank_59 : decode cX6_addRank 59 = .ok (.bipush 61, 2) := by decide +kernel
theorem dX6_addRank_61 : decode cX6_addRank 61 = .ok (.iload 4, 2) := by decide +kernel
theorem dX6_addRank_63 : decode cX6_addRank 63 = .ok (.imul, 1) := by decide +kernel
theorem dX6_addRank_64 : decode cX6_addRank 64 = .ok (.iload 5, 2) := by decide +kernel
theorem dX6_addRank_66 : decode cX6_addRank 66 = .ok (.iadd, 1) := by decide +kernel
theorem dX6_addRank_67 : decode cX6_addRank 67 = .ok (.laload, 1) := by decide +kernel
theorem dX6_addRank_68 : decode cX6_addRank 68 = .ok (.lconst 0, 1) := by decide +kernel
theorem dX6_addRank_69 : decode cX6_addRank 69 = .ok (.lcmp, 1) := by decide +kernel
theorem dX6_addRank_70 : decode cX6_addRank 70 = .ok (.ifCond .le 147, 3) := by decide +kernel
theorem dX6_addRank_73 : decode cX6_addRank 73 = .ok (.iload 6, 2) := by decide +kernel
theorem dX6_addRank_75 : decode cX6_addRank 75 = .ok (.aload_n 0, 1) := by decide +kernel
theorem dX6_addRank_76 : decode cX6_addRank 76 = .ok (.getfield 13, 3) := by decide +kernel
theorem dX6_addRank_79 : decode cX6_addRank 79 = .ok (.iload_n 1, 1) := by decide +kernel
theorem dX6_addRank_80 : decode cX6_addRank 80 = .ok (.iaload, 1) := by decide +kernel
theorem dX6_addRank_81 : decode cX6_addRank 81 = .ok (.if_icmp .gt 136, 3) := by decide +kernel
theorem dX6_addRank_84 : decode cX6_addRank 84 = .ok (.iload 4, 2) := by decide +kernel
theorem dX6_addRank_86 : decode cX6_addRank 86 = .ok (.iload 6, 2) := by decide +kernel
theorem dX6_addRank_88 : decode cX6_addRank 88 = .ok (.iadd, 1) := by decide +kernel
theorem dX6_addRank_89 : decode cX6_addRank 89 = .ok (.iload_n 3, 1) := by decide +kernel
theorem dX6_addRank_90 : decode cX6_addRank 90 = .ok (.if_icmp .gt 127, 3) := by decide +kernel
theorem dX6_addRank_93 : decode cX6_addRank 93 = .ok (.aload_n 0, 1) := by decide +kernel
theorem dX6_addRank_94 : decode cX6_addRank 94 = .ok (.getfield 13, 3) := by decide +kernel
theorem dX6_addRank_97 : decode cX6_addRank 97 = .ok (.iload_n 1, 1) := by decide +kernel
theorem dX6_addRank_98 : decode cX6_addRank 98 = .ok (.iaload, 1) := by decide +kernel
theorem dX6_addRank_99 : decode cX6_addRank 99 = .ok (.iload 6, 2) := by decide +kernel
theorem dX6_addRank_101 : decode cX6_addRank 101 = .ok (.invokestatic 282, 3) := by decide +kernel
theorem dX6_addRank_104 : decode cX6_addRank 104 = .ok (.lstore 7, 2) := by decide +kernel
theorem dX6_addRank_106 : decode cX6_addRank 106 = .ok (.bipush 61, 2) := by decide +kernel
theorem dX6_addRank_108 : decode cX6_addRank 108 = .ok (.iload 4, 2) := by decide +kernel
theorem dX6_addRank_110 : decode cX6_addRank 110 = .ok (.iload 6, 2) := by decide +kernel
theorem dX6_addRank_112 : decode cX6_addRank 112 = .ok (.iadd, 1) := by decide +kernel
theorem dX6_addRank_113 : decode cX6_addRank 113 = .ok (.imul, 1) := by decide +kernel
theorem dX6_addRank_114 : decode cX6_addRank 114 = .ok (.iload 5, 2) := by decide +kernel
theorem dX6_addRank_116 : decode cX6_addRank 116 = .ok (.iadd, 1) := by decide +kernel
theorem dX6_addRank_117 : decode cX6_addRank 117 = .ok (.iload 6, 2) := by decide +kernel
theorem dX6_addRank_119 : decode cX6_addRank 119 = .ok (.aload_n 0, 1) := by decide +kernel
theorem dX6_addRank_120 : decode cX6_addRank 120 = .ok (.getfield 19, 3) := by decide +kernel
theorem dX6_addRank_123 : decode cX6_addRank 123 = .ok (.iload_n 1, 1) := by decide +kernel
theorem dX6_addRank_124 : decode cX6_addRank 124 = .ok (.iaload, 1) := by decide +kernel
theorem dX6_addRank_125 : decode cX6_addRank 125 = .ok (.imul, 1) := by decide +kernel
theorem dX6_addRank_126 : decode cX6_addRank 126 = .ok (.iadd, 1) := by decide +kernel
theorem dX6_addRank_127 : decode cX6_addRank 127 = .ok (.istore 9, 2) := by decide +kernel
theorem dX6_addRank_129 : decode cX6_addRank 129 = .ok (.aload_n 0, 1) := by decide +kernel
theorem dX6_addRank_130 : decode cX6_addRank 130 = .ok (.getfield 80, 3) := by decide +kernel
theorem dX6_addRank_133 : decode cX6_addRank 133 = .ok (.iload 9, 2) := by decide +kernel
theorem dX6_addRank_135 : decode cX6_addRank 135 = .ok (.dup2, 1) := by decide +kernel
theorem dX6_addRank_136 : decode cX6_addRank 136 = .ok (.laload, 1) := by decide +kernel
theorem dX6_addRank_137 : decode cX6_addRank 137 = .ok (.lload 7, 2) := by decide +kernel
theorem dX6_addRank_139 : decode cX6_addRank 139 = .ok (.aload_n 0, 1) := by decide +kernel
theorem dX6_addRank_140 : decode cX6_addRank 140 = .ok (.getfield 74, 3) := by decide +kernel
theorem dX6_addRank_143 : decode cX6_addRank 143 = .ok (.bipush 61, 2) := by decide +kernel
theorem dX6_addRank_145 : decode cX6_addRank 145 = .ok (.iload 4, 2) := by decide +kernel
theorem dX6_addRank_147 : decode cX6_addRank 147 = .ok (.imul, 1) := by decide +kernel
theorem dX6_addRank_148 : decode cX6_addRank 148 = .ok (.iload 5, 2) := by decide +kernel
theorem dX6_addRank_150 : decode cX6_addRank 150 = .ok (.iadd, 1) := by decide +kernel
theorem dX6_addRank_151 : decode cX6_addRank 151 = .ok (.laload, 1) := by decide +kernel
theorem dX6_addRank_152 : decode cX6_addRank 152 = .ok (.lmul, 1) := by decide +kernel
theorem dX6_addRank_153 : decode cX6_addRank 153 = .ok (.ladd, 1) := by decide +kernel
theorem dX6_addRank_154 : decode cX6_addRank 154 = .ok (.lastore, 1) := by decide +kernel
theorem dX6_addRank_155 : decode cX6_addRank 155 = .ok (.aload_n 0, 1) := by decide +kernel
theorem dX6_addRank_156 : decode cX6_addRank 156 = .ok (.getfield 83, 3) := by decide +kernel
theorem dX6_addRank_159 : decode cX6_addRank 159 = .ok (.iload 9, 2) := by decide +kernel
theorem dX6_addRank_161 : decode cX6_addRank 161 = .ok (.dup2, 1) := by decide +kernel
theorem dX6_addRank_162 : decode cX6_addRank 162 = .ok (.laload, 1) := by decide +kernel
theorem dX6_addRank_163 : decode cX6_addRank 163 = .ok (.lload 7, 2) := by decide +kernel
theorem dX6_addRank_165 : decode cX6_addRank 165 = .ok (.aload_n 0, 1) := by decide +kernel
theorem dX6_addRank_166 : decode cX6_addRank 166 = .ok (.getfield 77, 3) := by decide +kernel
theorem dX6_addRank_169 : decode cX6_addRank 169 = .ok (.bipush 61, 2) := by decide +kernel
theorem dX6_addRank_171 : decode cX6_addRank 171 = .ok (.iload 4, 2) := by decide +kernel
theorem dX6_addRank_173 : decode cX6_addRank 173 = .ok (.imul, 1) := by decide +kernel
theorem dX6_addRank_174 : decode cX6_addRank 174 = .ok (.iload 5, 2) := by decide +kernel
theorem dX6_addRank_176 : decode cX6_addRank 176 = .ok (.iadd, 1) := by decide +kernel
theorem dX6_addRank_177 : decode cX6_addRank 177 = .ok (.laload, 1) := by decide +kernel
theorem dX6_addRank_178 : decode cX6_addRank 178 = .ok (.lmul, 1) := by decide +kernel
theorem dX6_addRank_179 : decode cX6_addRank 179 = .ok (.iload_n 1, 1) := by decide +kernel
theorem dX6_addRank_180 : decode cX6_addRank 180 = .ok (.iload_n 2, 1) := by decide +kernel
theorem dX6_addRank_181 : decode cX6_addRank 181 = .ok (.if_icmp .ne 26, 3) := by decide +kernel
theorem dX6_addRank_184 : decode cX6_addRank 184 = .ok (.iload 6, 2) := by decide +kernel
theorem dX6_addRank_186 : decode cX6_addRank 186 = .ok (.i2l, 1) := by decide +kernel
theorem dX6_addRank_187 : decode cX6_addRank 187 = .ok (.lload 7, 2) := by decide +kernel
theorem dX6_addRank_189 : decode cX6_addRank 189 = .ok (.lmul, 1) := by decide +kernel
theorem dX6_addRank_190 : decode cX6_addRank 190 = .ok (.aload_n 0, 1) := by decide +kernel
theorem dX6_addRank_191 : decode cX6_addRank 191 = .ok (.getfield 74, 3) := by decide +kernel
theorem dX6_addRank_194 : decode cX6_addRank 194 = .ok (.bipush 61, 2) := by decide +kernel
theorem dX6_addRank_196 : decode cX6_addRank 196 = .ok (.iload 4, 2) := by decide +kernel
theorem dX6_addRank_198 : decode cX6_addRank 198 = .ok (.imul, 1) := by decide +kernel
theorem dX6_addRank_199 : decode cX6_addRank 199 = .ok (.iload 5, 2) := by decide +kernel
theorem dX6_addRank_201 : decode cX6_addRank 201 = .ok (.iadd, 1) := by decide +kernel
theorem dX6_addRank_202 : decode cX6_addRank 202 = .ok (.laload, 1) := by decide +kernel
theorem dX6_addRank_203 : decode cX6_addRank 203 = .ok (.lmul, 1) := by decide +kernel
theorem dX6_addRank_204 : decode cX6_addRank 204 = .ok (.goto 4, 3) := by decide +kernel
theorem dX6_addRank_207 : decode cX6_addRank 207 = .ok (.lconst 0, 1) := by decide +kernel
theorem dX6_addRank_208 : decode cX6_addRank 208 = .ok (.ladd, 1) := by decide +kernel
theorem dX6_addRank_209 : decode cX6_addRank 209 = .ok (.ladd, 1) := by decide +kernel
theorem dX6_addRank_210 : decode cX6_addRank 210 = .ok (.lastore, 1) := by decide +kernel
theorem dX6_addRank_211 : decode cX6_addRank 211 = .ok (.iinc 6 1, 3) := by decide +kernel
theorem dX6_addRank_214 : decode cX6_addRank 214 = .ok (.goto (-159), 3) := by decide +kernel
theorem dX6_addRank_217 : decode cX6_addRank 217 = .ok (.iinc 5 1, 3) := by decide +kernel
theorem dX6_addRank_220 : decode cX6_addRank 220 = .ok (.goto (-175), 3) := by decide +kernel
theorem dX6_addRank_223 : decode cX6_addRank 223 = .ok (.iinc 4 1, 3) := by decide +kernel
theorem dX6_addRank_226 : decode cX6_addRank 226 = .ok (.goto (-190), 3) := by decide +kernel
theorem dX6_addRank_229 : decode cX6_addRank 229 = .ok (.iconst 0, 1) := by decide +kernel
theorem dX6_addRank_230 : decode cX6_addRank 230 = .ok (.istore 4, 2) := by decide +kernel
theorem dX6_addRank_232 : decode cX6_addRank 232 = .ok (.iload 4, 2) := by decide +kernel
theorem dX6_addRank_234 : decode cX6_addRank 234 = .ok (.sipush 549, 3) := by decide +kernel
theorem dX6_addRank_237 : decode cX6_addRank 237 = .ok (.if_icmp .ge 37, 3) := by decide +kernel
theorem dX6_addRank_240 : decode cX6_addRank 240 = .ok (.aload_n 0, 1) := by decide +kernel
theorem dX6_addRank_241 : decode cX6_addRank 241 = .ok (.getfield 74, 3) := by decide +kernel
theorem dX6_addRank_244 : decode cX6_addRank 244 = .ok (.iload 4, 2) := by decide +kernel
theorem dX6_addRank_246 : decode cX6_addRank 246 = .ok (.aload_n 0, 1) := by decide +kernel
theorem dX6_addRank_247 : decode cX6_addRank 247 = .ok (.getfield 80, 3) := by decide +kernel
theorem dX6_addRank_250 : decode cX6_addRank 250 = .ok (.iload 4, 2) := by decide +kernel
theorem dX6_addRank_252 : decode cX6_addRank 252 = .ok (.laload, 1) := by decide +kernel
theorem dX6_addRank_253 : decode cX6_addRank 253 = .ok (.lastore, 1) := by decide +kernel
theorem dX6_addRank_254 : decode cX6_addRank 254 = .ok (.aload_n 0, 1) := by decide +kernel
theorem dX6_addRank_255 : decode cX6_addRank 255 = .ok (.getfield 77, 3) := by decide +kernel
theorem dX6_addRank_258 : decode cX6_addRank 258 = .ok (.iload 4, 2) := by decide +kernel
theorem dX6_addRank_260 : decode cX6_addRank 260 = .ok (.aload_n 0, 1) := by decide +kernel
theorem dX6_addRank_261 : decode cX6_addRank 261 = .ok (.getfield 83, 3) := by decide +kernel
theorem dX6_addRank_264 : decode cX6_addRank 264 = .ok (.iload 4, 2) := by decide +kernel
theorem dX6_addRank_266 : decode cX6_addRank 266 = .ok (.laload, 1) := by decide +kernel
theorem dX6_addRank_267 : decode cX6_addRank 267 = .ok (.lastore, 1) := by decide +kernel
theorem dX6_addRank_268 : decode cX6_addRank 268 = .ok (.iinc 4 1, 3) := by decide +kernel
theorem dX6_addRank_271 : decode cX6_addRank 271 = .ok (.goto (-39), 3) := by decide +kernel
theorem dX6_addRank_274 : decode cX6_addRank 274 = .ok (.return_, 1) := by decide +kernel
theorem dX6_known_0 : decode cX6_known 0 = .ok (.iload_n 1, 1) := by decide +kernel
theorem dX6_known_1 : decode cX6_known 1 = .ok (.i2l, 1) := by decide +kernel
theorem dX6_known_2 : decode cX6_known 2 = .ok (.lconst 1, 1) := by decide +kernel
theorem dX6_known_3 : decode cX6_known 3 = .ok (.ldc2_w 86, 3) := by decide +kernel
theorem dX6_known_6 : decode cX6_known 6 = .ok (.invokestatic 88, 3) := by decide +kernel
theorem dX6_known_9 : decode cX6_known 9 = .ok (.ifCond .eq 13, 3) := by decide +kernel
theorem dX6_known_12 : decode cX6_known 12 = .ok (.iload_n 2, 1) := by decide +kernel
theorem dX6_known_13 : decode cX6_known 13 = .ok (.i2l, 1) := by decide +kernel
theorem dX6_known_14 : decode cX6_known 14 = .ok (.lconst 0, 1) := by decide +kernel
theorem dX6_known_15 : decode cX6_known 15 = .ok (.lconst 1, 1) := by decide +kernel
theorem dX6_known_16 : decode cX6_known 16 = .ok (.invokestatic 88, 3) := by decide +kernel
theorem dX6_known_19 : decode cX6_known 19 = .ok (.ifCond .ne 7, 3) := by decide +kernel
theorem dX6_known_22 : decode cX6_known 22 = .ok (.ldc2_w 261, 3) := by decide +kernel
theorem dX6_known_25 : decode cX6_known 25 = .ok (.lreturn, 1) := by decide +kernel
theorem dX6_known_26 : decode cX6_known 26 = .ok (.aload_n 0, 1) := by decide +kernel
theorem dX6_known_27 : decode cX6_known 27 = .ok (.getfield 94, 3) := by decide +kernel
theorem dX6_known_30 : decode cX6_known 30 = .ok (.ifCond .eq 7, 3) := by decide +kernel
theorem dX6_known_33 : decode cX6_known 33 = .ok (.ldc2_w 263, 3) := by decide +kernel
theorem dX6_known_36 : decode cX6_known 36 = .ok (.lreturn, 1) := by decide +kernel
theorem dX6_known_37 : decode cX6_known 37 = .ok (.iconst 0, 1) := by decide +kernel
theorem dX6_known_38 : decode cX6_known 38 = .ok (.istore_n 3, 1) := by decide +kernel
theorem dX6_known_39 : decode cX6_known 39 = .ok (.iconst 1, 1) := by decide +kernel
theorem dX6_known_40 : decode cX6_known 40 = .ok (.istore 4, 2) := by decide +kernel
theorem dX6_known_42 : decode cX6_known 42 = .ok (.iload 4, 2) := by decide +kernel
theorem dX6_known_44 : decode cX6_known 44 = .ok (.bipush 11, 2) := by decide +kernel
theorem dX6_known_46 : decode cX6_known 46 = .ok (.if_icmp .ge 19, 3) := by decide +kernel
theorem dX6_known_49 : decode cX6_known 49 = .ok (.iload_n 3, 1) := by decide +kernel
theorem dX6_known_50 : decode cX6_known 50 = .ok (.aload_n 0, 1) := by decide +kernel
theorem dX6_known_51 : decode cX6_known 51 = .ok (.getfield 13, 3) := by decide +kernel
theorem dX6_known_54 : decode cX6_known 54 = .ok (.iload 4, 2) := by decide +kernel
theorem dX6_known_56 : decode cX6_known 56 = .ok (.iaload, 1) := by decide +kernel
theorem dX6_known_57 : decode cX6_known 57 = .ok (.iadd, 1) := by decide +kernel
theorem dX6_known_58 : decode cX6_known 58 = .ok (.istore_n 3, 1) := by decide +kernel
theorem dX6_known_59 : decode cX6_known 59 = .ok (.iinc 4 1, 3) := by decide +kernel
theorem dX6_known_62 : decode cX6_known 62 = .ok (.goto (-20), 3) := by decide +kernel
theorem dX6_known_65 : decode cX6_known 65 = .ok (.aload_n 0, 1) := by decide +kernel
theorem dX6_known_66 : decode cX6_known 66 = .ok (.invokevirtual 159, 3) := by decide +kernel
theorem dX6_known_69 : decode cX6_known 69 = .ok (.istore 4, 2) := by decide +kernel
theorem dX6_known_71 : decode cX6_known 71 = .ok (.iload_n 3, 1) := by decide +kernel
theorem dX6_known_72 : decode cX6_known 72 = .ok (.bipush 60, 2) := by decide +kernel
theorem dX6_known_74 : decode cX6_known 74 = .ok (.if_icmp .gt 10, 3) := by decide +kernel
theorem dX6_known_77 : decode cX6_known 77 = .ok (.iload 4, 2) := by decide +kernel
theorem dX6_known_79 : decode cX6_known 79 = .ok (.bipush 8, 2) := by decide +kernel
theorem dX6_known_81 : decode cX6_known 81 = .ok (.if_icmp .le 7, 3) := by decide +kernel
theorem dX6_known_84 : decode cX6_known 84 = .ok (.ldc2_w 265, 3) := by decide +kernel
theorem dX6_known_87 : decode cX6_known 87 = .ok (.lreturn, 1) := by decide +kernel
theorem dX6_known_88 : decode cX6_known 88 = .ok (.iconst 0, 1) := by decide +kernel
theorem dX6_known_89 : decode cX6_known 89 = .ok (.istore 5, 2) := by decide +kernel
theorem dX6_known_91 : decode cX6_known 91 = .ok (.iload 5, 2) := by decide +kernel
theorem dX6_known_93 : decode cX6_known 93 = .ok (.sipush 549, 3) := by decide +kernel
theorem dX6_known_96 : decode cX6_known 96 = .ok (.if_icmp .ge 25, 3) := by decide +kernel
theorem dX6_known_99 : decode cX6_known 99 = .ok (.aload_n 0, 1) := by decide +kernel
theorem dX6_known_100 : decode cX6_known 100 = .ok (.getfield 74, 3) := by decide +kernel
theorem dX6_known_103 : decode cX6_known 103 = .ok (.iload 5, 2) := by decide +kernel
theorem dX6_known_105 : decode cX6_known 105 = .ok (.lconst 0, 1) := by decide +kernel
theorem dX6_known_106 : decode cX6_known 106 = .ok (.lastore, 1) := by decide +kernel
theorem dX6_known_107 : decode cX6_known 107 = .ok (.aload_n 0, 1) := by decide +kernel
theorem dX6_known_108 : decode cX6_known 108 = .ok (.getfield 77, 3) := by decide +kernel
theorem dX6_known_111 : decode cX6_known 111 = .ok (.iload 5, 2) := by decide +kernel
theorem dX6_known_113 : decode cX6_known 113 = .ok (.lconst 0, 1) := by decide +kernel
theorem dX6_known_114 : decode cX6_known 114 = .ok (.lastore, 1) := by decide +kernel
theorem dX6_known_115 : decode cX6_known 115 = .ok (.iinc 5 1, 3) := by decide +kernel
theorem dX6_known_118 : decode cX6_known 118 = .ok (.goto (-27), 3) := by decide +kernel
theorem dX6_known_121 : decode cX6_known 121 = .ok (.aload_n 0, 1) := by decide +kernel
theorem dX6_known_122 : decode cX6_known 122 = .ok (.getfield 74, 3) := by decide +kernel
theorem dX6_known_125 : decode cX6_known 125 = .ok (.bipush 30, 2) := by decide +kernel
theorem dX6_known_127 : decode cX6_known 127 = .ok (.lconst 1, 1) := by decide +kernel
theorem dX6_known_128 : decode cX6_known 128 = .ok (.lastore, 1) := by decide +kernel
theorem dX6_known_129 : decode cX6_known 129 = .ok (.iconst 1, 1) := by decide +kernel
theorem dX6_known_130 : decode cX6_known 130 = .ok (.istore 5, 2) := by decide +kernel
theorem dX6_known_132 : decode cX6_known 132 = .ok (.iload 5, 2) := by decide +kernel
theorem dX6_known_134 : decode cX6_known 134 = .ok (.bipush 11, 2) := by decide +kernel
theorem dX6_known_136 : decode cX6_known 136 = .ok (.if_icmp .ge 18, 3) := by decide +kernel
theorem dX6_known_139 : decode cX6_known 139 = .ok (.aload_n 0, 1) := by decide +kernel
theorem dX6_known_140 : decode cX6_known 140 = .ok (.iload 5, 2) := by decide +kernel
theorem dX6_known_142 : decode cX6_known 142 = .ok (.iload_n 1, 1) := by decide +kernel
theorem dX6_known_143 : decode cX6_known 143 = .ok (.iload 4, 2) := by decide +kernel
theorem dX6_known_145 : decode cX6_known 145 = .ok (.invokevirtual 286, 3) := by decide +kernel
theorem dX6_known_148 : decode cX6_known 148 = .ok (.iinc 5 1, 3) := by decide +kernel
theorem dX6_known_151 : decode cX6_known 151 = .ok (.goto (-19), 3) := by decide +kernel
theorem dX6_known_154 : decode cX6_known 154 = .ok (.bipush 61, 2) := by decide +kernel
theorem dX6_known_156 : decode cX6_known 156 = .ok (.iload 4, 2) := by decide +kernel
theorem dX6_known_158 : decode cX6_known 158 = .ok (.imul, 1) := by decide +kernel
theorem dX6_known_159 : decode cX6_known 159 = .ok (.bipush 30, 2) := by decide +kernel
theorem dX6_known_161 : decode cX6_known 161 = .ok (.iadd, 1) := by decide +kernel
theorem dX6_known_162 : decode cX6_known 162 = .ok (.aload_n 0, 1) := by decide +kernel
theorem dX6_known_163 : decode cX6_known 163 = .ok (.invokevirtual 153, 3) := by decide +kernel
theorem dX6_known_166 : decode cX6_known 166 = .ok (.iadd, 1) := by decide +kernel
theorem dX6_known_167 : decode cX6_known 167 = .ok (.istore 5, 2) := by decide +kernel
theorem dX6_known_169 : decode cX6_known 169 = .ok (.aload_n 0, 1) := by decide +kernel
theorem dX6_known_170 : decode cX6_known 170 = .ok (.getfield 13, 3) := by decide +kernel
theorem dX6_known_173 : decode cX6_known 173 = .ok (.iload_n 1, 1) := by decide +kernel
theorem dX6_known_174 : decode cX6_known 174 = .ok (.iaload, 1) := by decide +kernel
theorem dX6_known_175 : decode cX6_known 175 = .ok (.i2l, 1) := by decide +kernel
theorem dX6_known_176 : decode cX6_known 176 = .ok (.aload_n 0, 1) := by decide +kernel
theorem dX6_known_177 : decode cX6_known 177 = .ok (.getfield 74, 3) := by decide +kernel
theorem dX6_known_180 : decode cX6_known 180 = .ok (.iload 5, 2) := by decide +kernel
theorem dX6_known_182 : decode cX6_known 182 = .ok (.laload, 1) := by decide +kernel
theorem dX6_known_183 : decode cX6_known 183 = .ok (.lmul, 1) := by decide +kernel
theorem dX6_known_184 : decode cX6_known 184 = .ok (.aload_n 0, 1) := by decide +kernel
theorem dX6_known_185 : decode cX6_known 185 = .ok (.getfield 77, 3) := by decide +kernel
theorem dX6_known_188 : decode cX6_known 188 = .ok (.iload 5, 2) := by decide +kernel
theorem dX6_known_190 : decode cX6_known 190 = .ok (.laload, 1) := by decide +kernel
theorem dX6_known_191 : decode cX6_known 191 = .ok (.lsub, 1) := by decide +kernel
theorem dX6_known_192 : decode cX6_known 192 = .ok (.aload_n 0, 1) := by decide +kernel
theorem dX6_known_193 : decode cX6_known 193 = .ok (.getfield 74, 3) := by decide +kernel
theorem dX6_known_196 : decode cX6_known 196 = .ok (.iload 5, 2) := by decide +kernel
theorem dX6_known_198 : decode cX6_known 198 = .ok (.laload, 1) := by decide +kernel
theorem dX6_known_199 : decode cX6_known 199 = .ok (.iload_n 2, 1) := by decide +kernel
theorem dX6_known_200 : decode cX6_known 200 = .ok (.invokestatic 271, 3) := by decide +kernel
theorem dX6_known_203 : decode cX6_known 203 = .ok (.lreturn, 1) := by decide +kernel
theorem dJ9_abs_067f4_0 : decode cJ9_abs_067f4 0 = .ok (.lload_n 0, 1) := by decide +kernel
theorem dJ9_abs_067f4_1 : decode cJ9_abs_067f4 1 = .ok (.lconst 0, 1) := by decide +kernel
theorem dJ9_abs_067f4_2 : decode cJ9_abs_067f4 2 = .ok (.lcmp, 1) := by decide +kernel
theorem dJ9_abs_067f4_3 : decode cJ9_abs_067f4 3 = .ok (.ifCond .ge 8, 3) := by decide +kernel
theorem dJ9_abs_067f4_6 : decode cJ9_abs_067f4 6 = .ok (.lload_n 0, 1) := by decide +kernel
theorem dJ9_abs_067f4_7 : decode cJ9_abs_067f4 7 = .ok (.lneg, 1) := by decide +kernel
theorem dJ9_abs_067f4_8 : decode cJ9_abs_067f4 8 = .ok (.goto 4, 3) := by decide +kernel
theorem dJ9_abs_067f4_11 : decode cJ9_abs_067f4 11 = .ok (.lload_n 0, 1) := by decide +kernel
theorem dJ9_abs_067f4_12 : decode cJ9_abs_067f4 12 = .ok (.lreturn, 1) := by decide +kernel
theorem dJ9_max_7cf53_0 : decode cJ9_max_7cf53 0 = .ok (.iload_n 0, 1) := by decide +kernel
theorem dJ9_max_7cf53_1 : decode cJ9_max_7cf53 1 = .ok (.iload_n 1, 1) := by decide +kernel
theorem dJ9_max_7cf53_2 : decode cJ9_max_7cf53 2 = .ok (.if_icmp .lt 7, 3) := by decide +kernel
theorem dJ9_max_7cf53_5 : decode cJ9_max_7cf53 5 = .ok (.iload_n 0, 1) := by decide +kernel
theorem dJ9_max_7cf53_6 : decode cJ9_max_7cf53 6 = .ok (.goto 4, 3) := by decide +kernel
theorem dJ9_max_7cf53_9 : decode cJ9_max_7cf53 9 = .ok (.iload_n 1, 1) := by decide +kernel
theorem dJ9_max_7cf53_10 : decode cJ9_max_7cf53 10 = .ok (.ireturn, 1) := by decide +kernel
theorem dJ9_max_f86c9_0 : decode cJ9_max_f86c9 0 = .ok (.lload_n 0, 1) := by decide +kernel
theorem dJ9_max_f86c9_1 : decode cJ9_max_f86c9 1 = .ok (.lload_n 2, 1) := by decide +kernel
theorem dJ9_max_f86c9_2 : decode cJ9_max_f86c9 2 = .ok (.lcmp, 1) := by decide +kernel
theorem dJ9_max_f86c9_3 : decode cJ9_max_f86c9 3 = .ok (.ifCond .lt 7, 3) := by decide +kernel
theorem dJ9_max_f86c9_6 : decode cJ9_max_f86c9 6 = .ok (.lload_n 0, 1) := by decide +kernel
theorem dJ9_max_f86c9_7 : decode cJ9_max_f86c9 7 = .ok (.goto 4, 3) := by decide +kernel
theorem dJ9_max_f86c9_10 : decode cJ9_max_f86c9 10 = .ok (.lload_n 2, 1) := by decide +kernel
theorem dJ9_max_f86c9_11 : decode cJ9_max_f86c9 11 = .ok (.lreturn, 1) := by decide +kernel
theorem dJ9_min_7cf53_0 : decode cJ9_min_7cf53 0 = .ok (.iload_n 0, 1) := by decide +kernel
theorem dJ9_min_7cf53_1 : decode cJ9_min_7cf53 1 = .ok (.iload_n 1, 1) := by decide +kernel
theorem dJ9_min_7cf53_2 : decode cJ9_min_7cf53 2 = .ok (.if_icmp .gt 7, 3) := by decide +kernel
theorem dJ9_min_7cf53_5 : decode cJ9_min_7cf53 5 = .ok (.iload_n 0, 1) := by decide +kernel
theorem dJ9_min_7cf53_6 : decode cJ9_min_7cf53 6 = .ok (.goto 4, 3) := by decide +kernel
theorem dJ9_min_7cf53_9 : decode cJ9_min_7cf53 9 = .ok (.iload_n 1, 1) := by decide +kernel
theorem dJ9_min_7cf53_10 : decode cJ9_min_7cf53 10 = .ok (.ireturn, 1) := by decide +kernel
theorem dJ7_fill_d0a16_0 : decode cJ7_fill_d0a16 0 = .ok (.iconst 0, 1) := by decide +kernel
theorem dJ7_fill_d0a16_1 : decode cJ7_fill_d0a16 1 = .ok (.istore_n 3, 1) := by decide +kernel
theorem dJ7_fill_d0a16_2 : decode cJ7_fill_d0a16 2 = .ok (.aload_n 0, 1) := by decide +kernel
theorem dJ7_fill_d0a16_3 : decode cJ7_fill_d0a16 3 = .ok (.arraylength, 1) := by decide +kernel
theorem dJ7_fill_d0a16_4 : decode cJ7_fill_d0a16 4 = .ok (.istore 4, 2) := by decide +kernel
theorem dJ7_fill_d0a16_6 : decode cJ7_fill_d0a16 6 = .ok (.iload_n 3, 1) := by decide +kernel
theorem dJ7_fill_d0a16_7 : decode cJ7_fill_d0a16 7 = .ok (.iload 4, 2) := by decide +kernel
theorem dJ7_fill_d0a16_9 : decode cJ7_fill_d0a16 9 = .ok (.if_icmp .ge 13, 3) := by decide +kernel
theorem dJ7_fill_d0a16_12 : decode cJ7_fill_d0a16 12 = .ok (.aload_n 0, 1) := by decide +kernel
theorem dJ7_fill_d0a16_13 : decode cJ7_fill_d0a16 13 = .ok (.iload_n 3, 1) := by decide +kernel
theorem dJ7_fill_d0a16_14 : decode cJ7_fill_d0a16 14 = .ok (.lload_n 1, 1) := by decide +kernel
theorem dJ7_fill_d0a16_15 : decode cJ7_fill_d0a16 15 = .ok (.lastore, 1) := by decide +kernel
theorem dJ7_fill_d0a16_16 : decode cJ7_fill_d0a16 16 = .ok (.iinc 3 1, 3) := by decide +kernel
theorem dJ7_fill_d0a16_19 : decode cJ7_fill_d0a16 19 = .ok (.goto (-13), 3) := by decide +kernel
theorem dJ7_fill_d0a16_22 : decode cJ7_fill_d0a16 22 = .ok (.return_, 1) := by decide +kernel
theorem dJ7_fill_53178_0 : decode cJ7_fill_53178 0 = .ok (.iconst 0, 1) := by decide +kernel
theorem dJ7_fill_53178_1 : decode cJ7_fill_53178 1 = .ok (.istore_n 2, 1) := by decide +kernel
theorem dJ7_fill_53178_2 : decode cJ7_fill_53178 2 = .ok (.aload_n 0, 1) := by decide +kernel
theorem dJ7_fill_53178_3 : decode cJ7_fill_53178 3 = .ok (.arraylength, 1) := by decide +kernel
theorem dJ7_fill_53178_4 : decode cJ7_fill_53178 4 = .ok (.istore_n 3, 1) := by decide +kernel
theorem dJ7_fill_53178_5 : decode cJ7_fill_53178 5 = .ok (.iload_n 2, 1) := by decide +kernel
theorem dJ7_fill_53178_6 : decode cJ7_fill_53178 6 = .ok (.iload_n 3, 1) := by decide +kernel
theorem dJ7_fill_53178_7 : decode cJ7_fill_53178 7 = .ok (.if_icmp .ge 13, 3) := by decide +kernel
theorem dJ7_fill_53178_10 : decode cJ7_fill_53178 10 = .ok (.aload_n 0, 1) := by decide +kernel
theorem dJ7_fill_53178_11 : decode cJ7_fill_53178 11 = .ok (.iload_n 2, 1) := by decide +kernel
theorem dJ7_fill_53178_12 : decode cJ7_fill_53178 12 = .ok (.iload_n 1, 1) := by decide +kernel
theorem dJ7_fill_53178_13 : decode cJ7_fill_53178 13 = .ok (.iastore, 1) := by decide +kernel
theorem dJ7_fill_53178_14 : decode cJ7_fill_53178 14 = .ok (.iinc 2 1, 3) := by decide +kernel
theorem dJ7_fill_53178_17 : decode cJ7_fill_53178 17 = .ok (.goto (-12), 3) := by decide +kernel
theorem dJ7_fill_53178_20 : decode cJ7_fill_53178 20 = .ok (.return_, 1) := by decide +kernel
theorem dL_law_0 : decode cL_law 0 = .ok (.new 7, 3) := by decide +kernel
theorem dL_law_3 : decode cL_law 3 = .ok (.dup, 1) := by decide +kernel
theorem dL_law_4 : decode cL_law 4 = .ok (.invokespecial 9, 3) := by decide +kernel
theorem dL_law_7 : decode cL_law 7 = .ok (.astore_n 1, 1) := by decide +kernel
theorem dL_law_8 : decode cL_law 8 = .ok (.new 10, 3) := by decide +kernel
theorem dL_law_11 : decode cL_law 11 = .ok (.dup, 1) := by decide +kernel
theorem dL_law_12 : decode cL_law 12 = .ok (.invokespecial 12, 3) := by decide +kernel
theorem dL_law_15 : decode cL_law 15 = .ok (.astore_n 2, 1) := by decide +kernel
theorem dL_law_16 : decode cL_law 16 = .ok (.iconst 0, 1) := by decide +kernel
theorem dL_law_17 : decode cL_law 17 = .ok (.istore_n 3, 1) := by decide +kernel
theorem dL_law_18 : decode cL_law 18 = .ok (.iload_n 3, 1) := by decide +kernel
theorem dL_law_19 : decode cL_law 19 = .ok (.aload_n 0, 1) := by decide +kernel
theorem dL_law_20 : decode cL_law 20 = .ok (.arraylength, 1) := by decide +kernel
theorem dL_law_21 : decode cL_law 21 = .ok (.iconst 3, 1) := by decide +kernel
theorem dL_law_22 : decode cL_law 22 = .ok (.isub, 1) := by decide +kernel
theorem dL_law_23 : decode cL_law 23 = .ok (.if_icmp .gt 557, 3) := by decide +kernel
theorem dL_law_26 : decode cL_law 26 = .ok (.aload_n 0, 1) := by decide +kernel
theorem dL_law_27 : decode cL_law 27 = .ok (.iload_n 3, 1) := by decide +kernel
theorem dL_law_28 : decode cL_law 28 = .ok (.iaload, 1) := by decide +kernel
theorem dL_law_29 : decode cL_law 29 = .ok (.bipush 31, 2) := by decide +kernel
theorem dL_law_31 : decode cL_law 31 = .ok (.iand, 1) := by decide +kernel
theorem dL_law_32 : decode cL_law 32 = .ok (.tableswitch 542 0 17 #[88, 121, 134, 167, 200, 223, 256, 279, 302, 315, 338, 351, 374, 407, 420, 453, 476, 509], 88) := by decide +kernel
theorem dL_law_120 : decode cL_law 120 = .ok (.aload_n 1, 1) := by decide +kernel
theorem dL_law_121 : decode cL_law 121 = .ok (.aload_n 0, 1) := by decide +kernel
theorem dL_law_122 : decode cL_law 122 = .ok (.iload_n 3, 1) := by decide +kernel
theorem dL_law_123 : decode cL_law 123 = .ok (.iconst 1, 1) := by decide +kernel
theorem dL_law_124 : decode cL_law 124 = .ok (.iadd, 1) := by decide +kernel
theorem dL_law_125 : decode cL_law 125 = .ok (.iaload, 1) := by decide +kernel
theorem dL_law_126 : decode cL_law 126 = .ok (.aload_n 0, 1) := by decide +kernel
theorem dL_law_127 : decode cL_law 127 = .ok (.iload_n 3, 1) := by decide +kernel
theorem dL_law_128 : decode cL_law 128 = .ok (.iconst 2, 1) := by decide +kernel
theorem dL_law_129 : decode cL_law 129 = .ok (.iadd, 1) := by decide +kernel
theorem dL_law_130 : decode cL_law 130 = .ok (.iaload, 1) := by decide +kernel
theorem dL_law_131 : decode cL_law 131 = .ok (.invokevirtual 13, 3) := by decide +kernel
theorem dL_law_134 : decode cL_law 134 = .ok (.pop, 1) := by decide +kernel
theorem dL_law_135 : decode cL_law 135 = .ok (.aload_n 2, 1) := by decide +kernel
theorem dL_law_136 : decode cL_law 136 = .ok (.aload_n 0, 1) := by decide +kernel
theorem dL_law_137 : decode cL_law 137 = .ok (.iload_n 3, 1) := by decide +kernel
theorem dL_law_138 : decode cL_law 138 = .ok (.iconst 1, 1) := by decide +kernel
theorem dL_law_139 : decode cL_law 139 = .ok (.iadd, 1) := by decide +kernel
theorem dL_law_140 : decode cL_law 140 = .ok (.iaload, 1) := by decide +kernel
theorem dL_law_141 : decode cL_law 141 = .ok (.aload_n 0, 1) := by decide +kernel
theorem dL_law_142 : decode cL_law 142 = .ok (.iload_n 3, 1) := by decide +kernel
theorem dL_law_143 : decode cL_law 143 = .ok (.iconst 2, 1) := by decide +kernel
theorem dL_law_144 : decode cL_law 144 = .ok (.iadd, 1) := by decide +kernel
theorem dL_law_145 : decode cL_law 145 = .ok (.iaload, 1) := by decide +kernel
theorem dL_law_146 : decode cL_law 146 = .ok (.invokevirtual 17, 3) := by decide +kernel
theorem dL_law_149 : decode cL_law 149 = .ok (.pop, 1) := by decide +kernel
theorem dL_law_150 : decode cL_law 150 = .ok (.goto 424, 3) := by decide +kernel
theorem dL_law_153 : decode cL_law 153 = .ok (.aload_n 1, 1) := by decide +kernel
theorem dL_law_154 : decode cL_law 154 = .ok (.invokevirtual 18, 3) := by decide +kernel
theorem dL_law_157 : decode cL_law 157 = .ok (.pop, 1) := by decide +kernel
theorem dL_law_158 : decode cL_law 158 = .ok (.aload_n 2, 1) := by decide +kernel
theorem dL_law_159 : decode cL_law 159 = .ok (.invokevirtual 22, 3) := by decide +kernel
theorem dL_law_162 : decode cL_law 162 = .ok (.pop, 1) := by decide +kernel
theorem dL_law_163 : decode cL_law 163 = .ok (.goto 411, 3) := by decide +kernel
theorem dL_law_166 : decode cL_law 166 = .ok (.aload_n 1, 1) := by decide +kernel
theorem dL_law_167 : decode cL_law 167 = .ok (.aload_n 0, 1) := by decide +kernel
theorem dL_law_168 : decode cL_law 168 = .ok (.iload_n 3, 1) := by decide +kernel
theorem dL_law_169 : decode cL_law 169 = .ok (.iconst 1, 1) := by decide +kernel
theorem dL_law_170 : decode cL_law 170 = .ok (.iadd, 1) := by decide +kernel
theorem dL_law_171 : decode cL_law 171 = .ok (.iaload, 1) := by decide +kernel
theorem dL_law_172 : decode cL_law 172 = .ok (.aload_n 0, 1) := by decide +kernel
theorem dL_law_173 : decode cL_law 173 = .ok (.iload_n 3, 1) := by decide +kernel
theorem dL_law_174 : decode cL_law 174 = .ok (.iconst 2, 1) := by decide +kernel
theorem dL_law_175 : decode cL_law 175 = .ok (.iadd, 1) := by decide +kernel
theorem dL_law_176 : decode cL_law 176 = .ok (.iaload, 1) := by decide +kernel
theorem dL_law_177 : decode cL_law 177 = .ok (.invokevirtual 23, 3) := by decide +kernel
theorem dL_law_180 : decode cL_law 180 = .ok (.pop, 1) := by decide +kernel
theorem dL_law_181 : decode cL_law 181 = .ok (.aload_n 2, 1) := by decide +kernel
theorem dL_law_182 : decode cL_law 182 = .ok (.aload_n 0, 1) := by decide +kernel
theorem dL_law_183 : decode cL_law 183 = .ok (.iload_n 3, 1) := by decide +kernel
theorem dL_law_184 : decode cL_law 184 = .ok (.iconst 1, 1) := by decide +kernel
theorem dL_law_185 : decode cL_law 185 = .ok (.iadd, 1) := by decide +kernel
theorem dL_law_186 : decode cL_law 186 = .ok (.iaload, 1) := by decide +kernel
theorem dL_law_187 : decode cL_law 187 = .ok (.aload_n 0, 1) := by decide +kernel
theorem dL_law_188 : decode cL_law 188 = .ok (.iload_n 3, 1) := by decide +kernel
theorem dL_law_189 : decode cL_law 189 = .ok (.iconst 2, 1) := by decide +kernel
theorem dL_law_190 : decode cL_law 190 = .ok (.iadd, 1) := by decide +kernel
theorem dL_law_191 : decode cL_law 191 = .ok (.iaload, 1) := by decide +kernel
theorem dL_law_192 : decode cL_law 192 = .ok (.invokevirtual 26, 3) := by decide +kernel
theorem dL_law_195 : decode cL_law 195 = .ok (.pop, 1) := by decide +kernel
theorem dL_law_196 : decode cL_law 196 = .ok (.goto 378, 3) := by decide +kernel
theorem dL_law_199 : decode cL_law 199 = .ok (.aload_n 1, 1) := by decide +kernel
theorem dL_law_200 : decode cL_law 200 = .ok (.aload_n 0, 1) := by decide +kernel
theorem dL_law_201 : decode cL_law 201 = .ok (.iload_n 3, 1) := by decide +kernel
theorem dL_law_202 : decode cL_law 202 = .ok (.iconst 1, 1) := by decide +kernel
theorem dL_law_203 : decode cL_law 203 = .ok (.iadd, 1) := by decide +kernel
theorem dL_law_204 : decode cL_law 204 = .ok (.iaload, 1) := by decide +kernel
theorem dL_law_205 : decode cL_law 205 = .ok (.aload_n 0, 1) := by decide +kernel
theorem dL_law_206 : decode cL_law 206 = .ok (.iload_n 3, 1) := by decide +kernel
theorem dL_law_207 : decode cL_law 207 = .ok (.iconst 2, 1) := by decide +kernel
theorem dL_law_208 : decode cL_law 208 = .ok (.iadd, 1) := by decide +kernel
theorem dL_law_209 : decode cL_law 209 = .ok (.iaload, 1) := by decide +kernel
theorem dL_law_210 : decode cL_law 210 = .ok (.invokevirtual 27, 3) := by decide +kernel
theorem dL_law_213 : decode cL_law 213 = .ok (.pop, 1) := by decide +kernel
theorem dL_law_214 : decode cL_law 214 = .ok (.aload_n 2, 1) := by decide +kernel
theorem dL_law_215 : decode cL_law 215 = .ok (.aload_n 0, 1) := by decide +kernel
theorem dL_law_216 : decode cL_law 216 = .ok (.iload_n 3, 1) := by decide +kernel
theorem dL_law_217 : decode cL_law 217 = .ok (.iconst 1, 1) := by decide +kernel
theorem dL_law_218 : decode cL_law 218 = .ok (.iadd, 1) := by decide +kernel
theorem dL_law_219 : decode cL_law 219 = .ok (.iaload, 1) := by decide +kernel
theorem dL_law_220 : decode cL_law 220 = .ok (.aload_n 0, 1) := by decide +kernel
theorem dL_law_221 : decode cL_law 221 = .ok (.iload_n 3, 1) := by decide +kernel
theorem dL_law_222 : decode cL_law 222 = .ok (.iconst 2, 1) := by decide +kernel
theorem dL_law_223 : decode cL_law 223 = .ok (.iadd, 1) := by decide +kernel
theorem dL_law_224 : decode cL_law 224 = .ok (.iaload, 1) := by decide +kernel
theorem dL_law_225 : decode cL_law 225 = .ok (.invokevirtual 30, 3) := by decide +kernel
theorem dL_law_228 : decode cL_law 228 = .ok (.pop, 1) := by decide +kernel
theorem dL_law_229 : decode cL_law 229 = .ok (.goto 345, 3) := by decide +kernel
theorem dL_law_232 : decode cL_law 232 = .ok (.aload_n 1, 1) := by decide +kernel
theorem dL_law_233 : decode cL_law 233 = .ok (.aload_n 0, 1) := by decide +kernel
theorem dL_law_234 : decode cL_law 234 = .ok (.iload_n 3, 1) := by decide +kernel
theorem dL_law_235 : decode cL_law 235 = .ok (.iconst 1, 1) := by decide +kernel
theorem dL_law_236 : decode cL_law 236 = .ok (.iadd, 1) := by decide +kernel
theorem dL_law_237 : decode cL_law 237 = .ok (.iaload, 1) := by decide +kernel
theorem dL_law_238 : decode cL_law 238 = .ok (.invokevirtual 31, 3) := by decide +kernel
theorem dL_law_241 : decode cL_law 241 = .ok (.pop, 1) := by decide +kernel
theorem dL_law_242 : decode cL_law 242 = .ok (.aload_n 2, 1) := by decide +kernel
theorem dL_law_243 : decode cL_law 243 = .ok (.aload_n 0, 1) := by decide +kernel
theorem dL_law_244 : decode cL_law 244 = .ok (.iload_n 3, 1) := by decide +kernel
theorem dL_law_245 : decode cL_law 245 = .ok (.iconst 1, 1) := by decide +kernel
theorem dL_law_246 : decode cL_law 246 = .ok (.iadd, 1) := by decide +kernel
theorem dL_law_247 : decode cL_law 247 = .ok (.iaload, 1) := by decide +kernel
theorem dL_law_248 : decode cL_law 248 = .ok (.invokevirtual 35, 3) := by decide +kernel
theorem dL_law_251 : decode cL_law 251 = .ok (.pop, 1) := by decide +kernel
theorem dL_law_252 : decode cL_law 252 = .ok (.goto 322, 3) := by decide +kernel
theorem dL_law_255 : decode cL_law 255 = .ok (.aload_n 1, 1) := by decide +kernel
theorem dL_law_256 : decode cL_law 256 = .ok (.aload_n 0, 1) := by decide +kernel
theorem dL_law_257 : decode cL_law 257 = .ok (.iload_n 3, 1) := by decide +kernel
theorem dL_law_258 : decode cL_law 258 = .ok (.iconst 1, 1) := by decide +kernel
theorem dL_law_259 : decode cL_law 259 = .ok (.iadd, 1) := by decide +kernel
theorem dL_law_260 : decode cL_law 260 = .ok (.iaload, 1) := by decide +kernel
theorem dL_law_261 : decode cL_law 261 = .ok (.aload_n 0, 1) := by decide +kernel
theorem dL_law_262 : decode cL_law 262 = .ok (.iload_n 3, 1) := by decide +kernel
theorem dL_law_263 : decode cL_law 263 = .ok (.iconst 2, 1) := by decide +kernel
theorem dL_law_264 : decode cL_law 264 = .ok (.iadd, 1) := by decide +kernel
theorem dL_law_265 : decode cL_law 265 = .ok (.iaload, 1) := by decide +kernel
theorem dL_law_266 : decode cL_law 266 = .ok (.invokevirtual 36, 3) := by decide +kernel
theorem dL_law_269 : decode cL_law 269 = .ok (.pop, 1) := by decide +kernel
theorem dL_law_270 : decode cL_law 270 = .ok (.aload_n 2, 1) := by decide +kernel
theorem dL_law_271 : decode cL_law 271 = .ok (.aload_n 0, 1) := by decide +kernel
theorem dL_law_272 : decode cL_law 272 = .ok (.iload_n 3, 1) := by decide +kernel
theorem dL_law_273 : decode cL_law 273 = .ok (.iconst 1, 1) := by decide +kernel
theorem dL_law_274 : decode cL_law 274 = .ok (.iadd, 1) := by decide +kernel
theorem dL_law_275 : decode cL_law 275 = .ok (.iaload, 1) := by decide +kernel
theorem dL_law_276 : decode cL_law 276 = .ok (.aload_n 0, 1) := by decide +kernel
theorem dL_law_277 : decode cL_law 277 = .ok (.iload_n 3, 1) := by decide +kernel
theorem dL_law_278 : decode cL_law 278 = .ok (.iconst 2, 1) := by decide +kernel
theorem dL_law_279 : decode cL_law 279 = .ok (.iadd, 1) := by decide +kernel
theorem dL_law_280 : decode cL_law 280 = .ok (.iaload, 1) := by decide +kernel
theorem dL_law_281 : decode cL_law 281 = .ok (.invokevirtual 39, 3) := by decide +kernel
theorem dL_law_284 : decode cL_law 284 = .ok (.pop, 1) := by decide +kernel
theorem dL_law_285 : decode cL_law 285 = .ok (.goto 289, 3) := by decide +kernel
theorem dL_law_288 : decode cL_law 288 = .ok (.aload_n 1, 1) := by decide +kernel
theorem dL_law_289 : decode cL_law 289 = .ok (.aload_n 0, 1) := by decide +kernel
theorem dL_law_290 : decode cL_law 290 = .ok (.iload_n 3, 1) := by decide +kernel
theorem dL_law_291 : decode cL_law 291 = .ok (.iconst 1, 1) := by decide +kernel
theorem dL_law_292 : decode cL_law 292 = .ok (.iadd, 1) := by decide +kernel
theorem dL_law_293 : decode cL_law 293 = .ok (.iaload, 1) := by decide +kernel
theorem dL_law_294 : decode cL_law 294 = .ok (.invokevirtual 40, 3) := by decide +kernel
theorem dL_law_297 : decode cL_law 297 = .ok (.pop, 1) := by decide +kernel
theorem dL_law_298 : decode cL_law 298 = .ok (.aload_n 2, 1) := by decide +kernel
theorem dL_law_299 : decode cL_law 299 = .ok (.aload_n 0, 1) := by decide +kernel
theorem dL_law_300 : decode cL_law 300 = .ok (.iload_n 3, 1) := by decide +kernel
theorem dL_law_301 : decode cL_law 301 = .ok (.iconst 1, 1) := by decide +kernel
theorem dL_law_302 : decode cL_law 302 = .ok (.iadd, 1) := by decide +kernel
theorem dL_law_303 : decode cL_law 303 = .ok (.iaload, 1) := by decide +kernel
theorem dL_law_304 : decode cL_law 304 = .ok (.invokevirtual 43, 3) := by decide +kernel
theorem dL_law_307 : decode cL_law 307 = .ok (.pop, 1) := by decide +kernel
theorem dL_law_308 : decode cL_law 308 = .ok (.goto 266, 3) := by decide +kernel
theorem dL_law_311 : decode cL_law 311 = .ok (.aload_n 1, 1) := by decide +kernel
theorem dL_law_312 : decode cL_law 312 = .ok (.aload_n 0, 1) := by decide +kernel
theorem dL_law_313 : decode cL_law 313 = .ok (.iload_n 3, 1) := by decide +kernel
theorem dL_law_314 : decode cL_law 314 = .ok (.iconst 1, 1) := by decide +kernel
theorem dL_law_315 : decode cL_law 315 = .ok (.iadd, 1) := by decide +kernel
theorem dL_law_316 : decode cL_law 316 = .ok (.iaload, 1) := by decide +kernel
theorem dL_law_317 : decode cL_law 317 = .ok (.invokevirtual 44, 3) := by decide +kernel
theorem dL_law_320 : decode cL_law 320 = .ok (.pop, 1) := by decide +kernel
theorem dL_law_321 : decode cL_law 321 = .ok (.aload_n 2, 1) := by decide +kernel
theorem dL_law_322 : decode cL_law 322 = .ok (.aload_n 0, 1) := by decide +kernel
theorem dL_law_323 : decode cL_law 323 = .ok (.iload_n 3, 1) := by decide +kernel
theorem dL_law_324 : decode cL_law 324 = .ok (.iconst 1, 1) := by decide +kernel
theorem dL_law_325 : decode cL_law 325 = .ok (.iadd, 1) := by decide +kernel
theorem dL_law_326 : decode cL_law 326 = .ok (.iaload, 1) := by decide +kernel
theorem dL_law_327 : decode cL_law 327 = .ok (.invokevirtual 47, 3) := by decide +kernel
theorem dL_law_330 : decode cL_law 330 = .ok (.pop, 1) := by decide +kernel
theorem dL_law_331 : decode cL_law 331 = .ok (.goto 243, 3) := by decide +kernel
theorem dL_law_334 : decode cL_law 334 = .ok (.aload_n 1, 1) := by decide +kernel
theorem dL_law_335 : decode cL_law 335 = .ok (.invokevirtual 48, 3) := by decide +kernel
theorem dL_law_338 : decode cL_law 338 = .ok (.pop, 1) := by decide +kernel
theorem dL_law_339 : decode cL_law 339 = .ok (.aload_n 2, 1) := by decide +kernel
theorem dL_law_340 : decode cL_law 340 = .ok (.invokevirtual 51, 3) := by decide +kernel
theorem dL_law_343 : decode cL_law 343 = .ok (.pop, 1) := by decide +kernel
theorem dL_law_344 : decode cL_law 344 = .ok (.goto 230, 3) := by decide +kernel
theorem dL_law_347 : decode cL_law 347 = .ok (.aload_n 1, 1) := by decide +kernel
theorem dL_law_348 : decode cL_law 348 = .ok (.aload_n 0, 1) := by decide +kernel
theorem dL_law_349 : decode cL_law 349 = .ok (.iload_n 3, 1) := by decide +kernel
theorem dL_law_350 : decode cL_law 350 = .ok (.iconst 1, 1) := by decide +kernel
theorem dL_law_351 : decode cL_law 351 = .ok (.iadd, 1) := by decide +kernel
theorem dL_law_352 : decode cL_law 352 = .ok (.iaload, 1) := by decide +kernel
theorem dL_law_353 : decode cL_law 353 = .ok (.invokevirtual 52, 3) := by decide +kernel
theorem dL_law_356 : decode cL_law 356 = .ok (.pop, 1) := by decide +kernel
theorem dL_law_357 : decode cL_law 357 = .ok (.aload_n 2, 1) := by decide +kernel
theorem dL_law_358 : decode cL_law 358 = .ok (.aload_n 0, 1) := by decide +kernel
theorem dL_law_359 : decode cL_law 359 = .ok (.iload_n 3, 1) := by decide +kernel
theorem dL_law_360 : decode cL_law 360 = .ok (.iconst 1, 1) := by decide +kernel
theorem dL_law_361 : decode cL_law 361 = .ok (.iadd, 1) := by decide +kernel
theorem dL_law_362 : decode cL_law 362 = .ok (.iaload, 1) := by decide +kernel
theorem dL_law_363 : decode cL_law 363 = .ok (.invokevirtual 55, 3) := by decide +kernel
theorem dL_law_366 : decode cL_law 366 = .ok (.pop, 1) := by decide +kernel
theorem dL_law_367 : decode cL_law 367 = .ok (.goto 207, 3) := by decide +kernel
theorem dL_law_370 : decode cL_law 370 = .ok (.aload_n 1, 1) := by decide +kernel
theorem dL_law_371 : decode cL_law 371 = .ok (.invokevirtual 56, 3) := by decide +kernel
theorem dL_law_374 : decode cL_law 374 = .ok (.aload_n 2, 1) := by decide +kernel
theorem dL_law_375 : decode cL_law 375 = .ok (.invokevirtual 59, 3) := by decide +kernel
theorem dL_law_378 : decode cL_law 378 = .ok (.if_icmp .eq 196, 3) := by decide +kernel
theorem dL_law_381 : decode cL_law 381 = .ok (.iconst 0, 1) := by decide +kernel
theorem dL_law_382 : decode cL_law 382 = .ok (.ireturn, 1) := by decide +kernel
theorem dL_law_383 : decode cL_law 383 = .ok (.aload_n 1, 1) := by decide +kernel
theorem dL_law_384 : decode cL_law 384 = .ok (.aload_n 0, 1) := by decide +kernel
theorem dL_law_385 : decode cL_law 385 = .ok (.iload_n 3, 1) := by decide +kernel
theorem dL_law_386 : decode cL_law 386 = .ok (.iconst 1, 1) := by decide +kernel
theorem dL_law_387 : decode cL_law 387 = .ok (.iadd, 1) := by decide +kernel
theorem dL_law_388 : decode cL_law 388 = .ok (.iaload, 1) := by decide +kernel
theorem dL_law_389 : decode cL_law 389 = .ok (.invokevirtual 60, 3) := by decide +kernel
theorem dL_law_392 : decode cL_law 392 = .ok (.pop, 1) := by decide +kernel
theorem dL_law_393 : decode cL_law 393 = .ok (.aload_n 2, 1) := by decide +kernel
theorem dL_law_394 : decode cL_law 394 = .ok (.aload_n 0, 1) := by decide +kernel
theorem dL_law_395 : decode cL_law 395 = .ok (.iload_n 3, 1) := by decide +kernel
theorem dL_law_396 : decode cL_law 396 = .ok (.iconst 1, 1) := by decide +kernel
theorem dL_law_397 : decode cL_law 397 = .ok (.iadd, 1) := by decide +kernel
theorem dL_law_398 : decode cL_law 398 = .ok (.iaload, 1) := by decide +kernel
theorem dL_law_399 : decode cL_law 399 = .ok (.invokevirtual 63, 3) := by decide +kernel
theorem dL_law_402 : decode cL_law 402 = .ok (.pop, 1) := by decide +kernel
theorem dL_law_403 : decode cL_law 403 = .ok (.goto 171, 3) := by decide +kernel
theorem dL_law_406 : decode cL_law 406 = .ok (.aload_n 1, 1) := by decide +kernel
theorem dL_law_407 : decode cL_law 407 = .ok (.aload_n 0, 1) := by decide +kernel
theorem dL_law_408 : decode cL_law 408 = .ok (.iload_n 3, 1) := by decide +kernel
theorem dL_law_409 : decode cL_law 409 = .ok (.iconst 1, 1) := by decide +kernel
theorem dL_law_410 : decode cL_law 410 = .ok (.iadd, 1) := by decide +kernel
theorem dL_law_411 : decode cL_law 411 = .ok (.iaload, 1) := by decide +kernel
theorem dL_law_412 : decode cL_law 412 = .ok (.aload_n 0, 1) := by decide +kernel
theorem dL_law_413 : decode cL_law 413 = .ok (.iload_n 3, 1) := by decide +kernel
theorem dL_law_414 : decode cL_law 414 = .ok (.iconst 2, 1) := by decide +kernel
theorem dL_law_415 : decode cL_law 415 = .ok (.iadd, 1) := by decide +kernel
theorem dL_law_416 : decode cL_law 416 = .ok (.iaload, 1) := by decide +kernel
theorem dL_law_417 : decode cL_law 417 = .ok (.invokevirtual 64, 3) := by decide +kernel
theorem dL_law_420 : decode cL_law 420 = .ok (.pop2, 1) := by decide +kernel
theorem dL_law_421 : decode cL_law 421 = .ok (.aload_n 2, 1) := by decide +kernel
theorem dL_law_422 : decode cL_law 422 = .ok (.aload_n 0, 1) := by decide +kernel
theorem dL_law_423 : decode cL_law 423 = .ok (.iload_n 3, 1) := by decide +kernel
theorem dL_law_424 : decode cL_law 424 = .ok (.iconst 1, 1) := by decide +kernel
theorem dL_law_425 : decode cL_law 425 = .ok (.iadd, 1) := by decide +kernel
theorem dL_law_426 : decode cL_law 426 = .ok (.iaload, 1) := by decide +kernel
theorem dL_law_427 : decode cL_law 427 = .ok (.aload_n 0, 1) := by decide +kernel
theorem dL_law_428 : decode cL_law 428 = .ok (.iload_n 3, 1) := by decide +kernel
theorem dL_law_429 : decode cL_law 429 = .ok (.iconst 2, 1) := by decide +kernel
theorem dL_law_430 : decode cL_law 430 = .ok (.iadd, 1) := by decide +kernel
theorem dL_law_431 : decode cL_law 431 = .ok (.iaload, 1) := by decide +kernel
theorem dL_law_432 : decode cL_law 432 = .ok (.invokevirtual 68, 3) := by decide +kernel
theorem dL_law_435 : decode cL_law 435 = .ok (.pop2, 1) := by decide +kernel
theorem dL_law_436 : decode cL_law 436 = .ok (.goto 138, 3) := by decide +kernel
theorem dL_law_439 : decode cL_law 439 = .ok (.aload_n 1, 1) := by decide +kernel
theorem dL_law_440 : decode cL_law 440 = .ok (.invokevirtual 69, 3) := by decide +kernel
theorem dL_law_443 : decode cL_law 443 = .ok (.pop, 1) := by decide +kernel
theorem dL_law_444 : decode cL_law 444 = .ok (.aload_n 2, 1) := by decide +kernel
theorem dL_law_445 : decode cL_law 445 = .ok (.invokevirtual 72, 3) := by decide +kernel
theorem dL_law_448 : decode cL_law 448 = .ok (.pop, 1) := by decide +kernel
theorem dL_law_449 : decode cL_law 449 = .ok (.goto 125, 3) := by decide +kernel
theorem dL_law_452 : decode cL_law 452 = .ok (.aload_n 1, 1) := by decide +kernel
theorem dL_law_453 : decode cL_law 453 = .ok (.aload_n 0, 1) := by decide +kernel
theorem dL_law_454 : decode cL_law 454 = .ok (.iload_n 3, 1) := by decide +kernel
theorem dL_law_455 : decode cL_law 455 = .ok (.iconst 1, 1) := by decide +kernel
theorem dL_law_456 : decode cL_law 456 = .ok (.iadd, 1) := by decide +kernel
theorem dL_law_457 : decode cL_law 457 = .ok (.iaload, 1) := by decide +kernel
theorem dL_law_458 : decode cL_law 458 = .ok (.aload_n 0, 1) := by decide +kernel
theorem dL_law_459 : decode cL_law 459 = .ok (.iload_n 3, 1) := by decide +kernel
theorem dL_law_460 : decode cL_law 460 = .ok (.iconst 2, 1) := by decide +kernel
theorem dL_law_461 : decode cL_law 461 = .ok (.iadd, 1) := by decide +kernel
theorem dL_law_462 : decode cL_law 462 = .ok (.iaload, 1) := by decide +kernel
theorem dL_law_463 : decode cL_law 463 = .ok (.invokevirtual 73, 3) := by decide +kernel
theorem dL_law_466 : decode cL_law 466 = .ok (.pop2, 1) := by decide +kernel
theorem dL_law_467 : decode cL_law 467 = .ok (.aload_n 2, 1) := by decide +kernel
theorem dL_law_468 : decode cL_law 468 = .ok (.aload_n 0, 1) := by decide +kernel
theorem dL_law_469 : decode cL_law 469 = .ok (.iload_n 3, 1) := by decide +kernel
theorem dL_law_470 : decode cL_law 470 = .ok (.iconst 1, 1) := by decide +kernel
theorem dL_law_471 : decode cL_law 471 = .ok (.iadd, 1) := by decide +kernel
theorem dL_law_472 : decode cL_law 472 = .ok (.iaload, 1) := by decide +kernel
theorem dL_law_473 : decode cL_law 473 = .ok (.aload_n 0, 1) := by decide +kernel
theorem dL_law_474 : decode cL_law 474 = .ok (.iload_n 3, 1) := by decide +kernel
theorem dL_law_475 : decode cL_law 475 = .ok (.iconst 2, 1) := by decide +kernel
theorem dL_law_476 : decode cL_law 476 = .ok (.iadd, 1) := by decide +kernel
theorem dL_law_477 : decode cL_law 477 = .ok (.iaload, 1) := by decide +kernel
theorem dL_law_478 : decode cL_law 478 = .ok (.invokevirtual 76, 3) := by decide +kernel
theorem dL_law_481 : decode cL_law 481 = .ok (.pop2, 1) := by decide +kernel
theorem dL_law_482 : decode cL_law 482 = .ok (.goto 92, 3) := by decide +kernel
