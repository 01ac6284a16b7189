theorem dX6_handAce_26 : decode cX6_handAce 26 = .ok (.iconst 1, 1) := by decide +kernel
theorem dX6_handAce_27 : decode cX6_handAce 27 = .ok (.goto 4, 3) := by decide +kernel
theorem dX6_handAce_30 : decode cX6_handAce 30 = .ok (.iconst 0, 1) := by decide +kernel
theorem dX6_handAce_31 : decode cX6_handAce 31 = .ok (.istore_n 1, 1) := by decide +kernel
theorem dX6_handAce_32 : decode cX6_handAce 32 = .ok (.iinc 2 1, 3) := by decide +kernel
theorem dX6_handAce_35 : decode cX6_handAce 35 = .ok (.goto (-31), 3) := by decide +kernel
theorem dX6_handAce_38 : decode cX6_handAce 38 = .ok (.iload_n 1, 1) := by decide +kernel
theorem dX6_handAce_39 : decode cX6_handAce 39 = .ok (.ireturn, 1) := by decide +kernel
theorem dX6_valueOf_0 : decode cX6_valueOf 0 = .ok (.iload_n 2, 1) := by decide +kernel
theorem dX6_valueOf_1 : decode cX6_valueOf 1 = .ok (.ifCond .eq 21, 3) := by decide +kernel
theorem dX6_valueOf_4 : decode cX6_valueOf 4 = .ok (.iload_n 1, 1) := by decide +kernel
theorem dX6_valueOf_5 : decode cX6_valueOf 5 = .ok (.bipush 10, 2) := by decide +kernel
theorem dX6_valueOf_7 : decode cX6_valueOf 7 = .ok (.iadd, 1) := by decide +kernel
theorem dX6_valueOf_8 : decode cX6_valueOf 8 = .ok (.aload_n 0, 1) := by decide +kernel
theorem dX6_valueOf_9 : decode cX6_valueOf 9 = .ok (.getfield 25, 3) := by decide +kernel
theorem dX6_valueOf_12 : decode cX6_valueOf 12 = .ok (.if_icmp .gt 10, 3) := by decide +kernel
theorem dX6_valueOf_15 : decode cX6_valueOf 15 = .ok (.iload_n 1, 1) := by decide +kernel
theorem dX6_valueOf_16 : decode cX6_valueOf 16 = .ok (.bipush 10, 2) := by decide +kernel
theorem dX6_valueOf_18 : decode cX6_valueOf 18 = .ok (.iadd, 1) := by decide +kernel
theorem dX6_valueOf_19 : decode cX6_valueOf 19 = .ok (.goto 4, 3) := by decide +kernel
theorem dX6_valueOf_22 : decode cX6_valueOf 22 = .ok (.iload_n 1, 1) := by decide +kernel
theorem dX6_valueOf_23 : decode cX6_valueOf 23 = .ok (.ireturn, 1) := by decide +kernel
theorem dX6_handValue_0 : decode cX6_handValue 0 = .ok (.aload_n 0, 1) := by decide +kernel
theorem dX6_handValue_1 : decode cX6_handValue 1 = .ok (.aload_n 0, 1) := by decide +kernel
theorem dX6_handValue_2 : decode cX6_handValue 2 = .ok (.invokevirtual 136, 3) := by decide +kernel
theorem dX6_handValue_5 : decode cX6_handValue 5 = .ok (.aload_n 0, 1) := by decide +kernel
theorem dX6_handValue_6 : decode cX6_handValue 6 = .ok (.invokevirtual 139, 3) := by decide +kernel
theorem dX6_handValue_9 : decode cX6_handValue 9 = .ok (.invokevirtual 143, 3) := by decide +kernel
theorem dX6_handValue_12 : decode cX6_handValue 12 = .ok (.ireturn, 1) := by decide +kernel
theorem dX6_isNatural_0 : decode cX6_isNatural 0 = .ok (.aload_n 0, 1) := by decide +kernel
theorem dX6_isNatural_1 : decode cX6_isNatural 1 = .ok (.getfield 98, 3) := by decide +kernel
theorem dX6_isNatural_4 : decode cX6_isNatural 4 = .ok (.iconst 2, 1) := by decide +kernel
theorem dX6_isNatural_5 : decode cX6_isNatural 5 = .ok (.if_icmp .ne 18, 3) := by decide +kernel
theorem dX6_isNatural_8 : decode cX6_isNatural 8 = .ok (.aload_n 0, 1) := by decide +kernel
theorem dX6_isNatural_9 : decode cX6_isNatural 9 = .ok (.invokevirtual 147, 3) := by decide +kernel
theorem dX6_isNatural_12 : decode cX6_isNatural 12 = .ok (.aload_n 0, 1) := by decide +kernel
theorem dX6_isNatural_13 : decode cX6_isNatural 13 = .ok (.getfield 25, 3) := by decide +kernel
theorem dX6_isNatural_16 : decode cX6_isNatural 16 = .ok (.if_icmp .ne 7, 3) := by decide +kernel
theorem dX6_isNatural_19 : decode cX6_isNatural 19 = .ok (.iconst 1, 1) := by decide +kernel
theorem dX6_isNatural_20 : decode cX6_isNatural 20 = .ok (.goto 4, 3) := by decide +kernel
theorem dX6_isNatural_23 : decode cX6_isNatural 23 = .ok (.iconst 0, 1) := by decide +kernel
theorem dX6_isNatural_24 : decode cX6_isNatural 24 = .ok (.ireturn, 1) := by decide +kernel
theorem dX6_counted_0 : decode cX6_counted 0 = .ok (.iconst 0, 1) := by decide +kernel
theorem dX6_counted_1 : decode cX6_counted 1 = .ok (.istore_n 1, 1) := by decide +kernel
theorem dX6_counted_2 : decode cX6_counted 2 = .ok (.iconst 1, 1) := by decide +kernel
theorem dX6_counted_3 : decode cX6_counted 3 = .ok (.istore_n 2, 1) := by decide +kernel
theorem dX6_counted_4 : decode cX6_counted 4 = .ok (.iload_n 2, 1) := by decide +kernel
theorem dX6_counted_5 : decode cX6_counted 5 = .ok (.bipush 11, 2) := by decide +kernel
theorem dX6_counted_7 : decode cX6_counted 7 = .ok (.if_icmp .ge 25, 3) := by decide +kernel
theorem dX6_counted_10 : decode cX6_counted 10 = .ok (.iload_n 1, 1) := by decide +kernel
theorem dX6_counted_11 : decode cX6_counted 11 = .ok (.aload_n 0, 1) := by decide +kernel
theorem dX6_counted_12 : decode cX6_counted 12 = .ok (.getfield 19, 3) := by decide +kernel
theorem dX6_counted_15 : decode cX6_counted 15 = .ok (.iload_n 2, 1) := by decide +kernel
theorem dX6_counted_16 : decode cX6_counted 16 = .ok (.iaload, 1) := by decide +kernel
theorem dX6_counted_17 : decode cX6_counted 17 = .ok (.aload_n 0, 1) := by decide +kernel
theorem dX6_counted_18 : decode cX6_counted 18 = .ok (.getfield 16, 3) := by decide +kernel
theorem dX6_counted_21 : decode cX6_counted 21 = .ok (.iload_n 2, 1) := by decide +kernel
theorem dX6_counted_22 : decode cX6_counted 22 = .ok (.iaload, 1) := by decide +kernel
theorem dX6_counted_23 : decode cX6_counted 23 = .ok (.imul, 1) := by decide +kernel
theorem dX6_counted_24 : decode cX6_counted 24 = .ok (.iadd, 1) := by decide +kernel
theorem dX6_counted_25 : decode cX6_counted 25 = .ok (.istore_n 1, 1) := by decide +kernel
theorem dX6_counted_26 : decode cX6_counted 26 = .ok (.iinc 2 1, 3) := by decide +kernel
theorem dX6_counted_29 : decode cX6_counted 29 = .ok (.goto (-25), 3) := by decide +kernel
theorem dX6_counted_32 : decode cX6_counted 32 = .ok (.iload_n 1, 1) := by decide +kernel
theorem dX6_counted_33 : decode cX6_counted 33 = .ok (.ireturn, 1) := by decide +kernel
theorem dX6_gone_0 : decode cX6_gone 0 = .ok (.iconst 0, 1) := by decide +kernel
theorem dX6_gone_1 : decode cX6_gone 1 = .ok (.istore_n 1, 1) := by decide +kernel
theorem dX6_gone_2 : decode cX6_gone 2 = .ok (.iconst 1, 1) := by decide +kernel
theorem dX6_gone_3 : decode cX6_gone 3 = .ok (.istore_n 2, 1) := by decide +kernel
theorem dX6_gone_4 : decode cX6_gone 4 = .ok (.iload_n 2, 1) := by decide +kernel
theorem dX6_gone_5 : decode cX6_gone 5 = .ok (.bipush 11, 2) := by decide +kernel
theorem dX6_gone_7 : decode cX6_gone 7 = .ok (.if_icmp .ge 18, 3) := by decide +kernel
theorem dX6_gone_10 : decode cX6_gone 10 = .ok (.iload_n 1, 1) := by decide +kernel
theorem dX6_gone_11 : decode cX6_gone 11 = .ok (.aload_n 0, 1) := by decide +kernel
theorem dX6_gone_12 : decode cX6_gone 12 = .ok (.getfield 16, 3) := by decide +kernel
theorem dX6_gone_15 : decode cX6_gone 15 = .ok (.iload_n 2, 1) := by decide +kernel
theorem dX6_gone_16 : decode cX6_gone 16 = .ok (.iaload, 1) := by decide +kernel
theorem dX6_gone_17 : decode cX6_gone 17 = .ok (.iadd, 1) := by decide +kernel
theorem dX6_gone_18 : decode cX6_gone 18 = .ok (.istore_n 1, 1) := by decide +kernel
theorem dX6_gone_19 : decode cX6_gone 19 = .ok (.iinc 2 1, 3) := by decide +kernel
theorem dX6_gone_22 : decode cX6_gone 22 = .ok (.goto (-18), 3) := by decide +kernel
theorem dX6_gone_25 : decode cX6_gone 25 = .ok (.iload_n 1, 1) := by decide +kernel
theorem dX6_gone_26 : decode cX6_gone 26 = .ok (.ireturn, 1) := by decide +kernel
theorem dX6_told_0 : decode cX6_told 0 = .ok (.iload_n 1, 1) := by decide +kernel
theorem dX6_told_1 : decode cX6_told 1 = .ok (.tableswitch 139 0 8 #[51, 56, 61, 78, 91, 108, 124, 129, 134], 51) := by decide +kernel
theorem dX6_told_52 : decode cX6_told 52 = .ok (.aload_n 0, 1) := by decide +kernel
theorem dX6_told_53 : decode cX6_told 53 = .ok (.getfield 98, 3) := by decide +kernel
theorem dX6_told_56 : decode cX6_told 56 = .ok (.ireturn, 1) := by decide +kernel
theorem dX6_told_57 : decode cX6_told 57 = .ok (.aload_n 0, 1) := by decide +kernel
theorem dX6_told_58 : decode cX6_told 58 = .ok (.invokevirtual 147, 3) := by decide +kernel
theorem dX6_told_61 : decode cX6_told 61 = .ok (.ireturn, 1) := by decide +kernel
theorem dX6_told_62 : decode cX6_told 62 = .ok (.aload_n 0, 1) := by decide +kernel
theorem dX6_told_63 : decode cX6_told 63 = .ok (.invokevirtual 147, 3) := by decide +kernel
theorem dX6_told_66 : decode cX6_told 66 = .ok (.aload_n 0, 1) := by decide +kernel
theorem dX6_told_67 : decode cX6_told 67 = .ok (.invokevirtual 136, 3) := by decide +kernel
theorem dX6_told_70 : decode cX6_told 70 = .ok (.if_icmp .le 7, 3) := by decide +kernel
theorem dX6_told_73 : decode cX6_told 73 = .ok (.iconst 1, 1) := by decide +kernel
theorem dX6_told_74 : decode cX6_told 74 = .ok (.goto 4, 3) := by decide +kernel
theorem dX6_told_77 : decode cX6_told 77 = .ok (.iconst 0, 1) := by decide +kernel
theorem dX6_told_78 : decode cX6_told 78 = .ok (.ireturn, 1) := by decide +kernel
theorem dX6_told_79 : decode cX6_told 79 = .ok (.aload_n 0, 1) := by decide +kernel
theorem dX6_told_80 : decode cX6_told 80 = .ok (.invokevirtual 150, 3) := by decide +kernel
theorem dX6_told_83 : decode cX6_told 83 = .ok (.ifCond .eq 7, 3) := by decide +kernel
theorem dX6_told_86 : decode cX6_told 86 = .ok (.iconst 1, 1) := by decide +kernel
theorem dX6_told_87 : decode cX6_told 87 = .ok (.goto 4, 3) := by decide +kernel
theorem dX6_told_90 : decode cX6_told 90 = .ok (.iconst 0, 1) := by decide +kernel
theorem dX6_told_91 : decode cX6_told 91 = .ok (.ireturn, 1) := by decide +kernel
theorem dX6_told_92 : decode cX6_told 92 = .ok (.aload_n 0, 1) := by decide +kernel
theorem dX6_told_93 : decode cX6_told 93 = .ok (.invokevirtual 147, 3) := by decide +kernel
theorem dX6_told_96 : decode cX6_told 96 = .ok (.aload_n 0, 1) := by decide +kernel
theorem dX6_told_97 : decode cX6_told 97 = .ok (.getfield 25, 3) := by decide +kernel
theorem dX6_told_100 : decode cX6_told 100 = .ok (.if_icmp .le 7, 3) := by decide +kernel
theorem dX6_told_103 : decode cX6_told 103 = .ok (.iconst 1, 1) := by decide +kernel
theorem dX6_told_104 : decode cX6_told 104 = .ok (.goto 4, 3) := by decide +kernel
theorem dX6_told_107 : decode cX6_told 107 = .ok (.iconst 0, 1) := by decide +kernel
theorem dX6_told_108 : decode cX6_told 108 = .ok (.ireturn, 1) := by decide +kernel
theorem dX6_told_109 : decode cX6_told 109 = .ok (.aload_n 0, 1) := by decide +kernel
theorem dX6_told_110 : decode cX6_told 110 = .ok (.getfield 101, 3) := by decide +kernel
theorem dX6_told_113 : decode cX6_told 113 = .ok (.ifCond .le 10, 3) := by decide +kernel
theorem dX6_told_116 : decode cX6_told 116 = .ok (.aload_n 0, 1) := by decide +kernel
theorem dX6_told_117 : decode cX6_told 117 = .ok (.getfield 101, 3) := by decide +kernel
theorem dX6_told_120 : decode cX6_told 120 = .ok (.goto 4, 3) := by decide +kernel
theorem dX6_told_123 : decode cX6_told 123 = .ok (.iconst (-1), 1) := by decide +kernel
theorem dX6_told_124 : decode cX6_told 124 = .ok (.ireturn, 1) := by decide +kernel
theorem dX6_told_125 : decode cX6_told 125 = .ok (.aload_n 0, 1) := by decide +kernel
theorem dX6_told_126 : decode cX6_told 126 = .ok (.invokevirtual 153, 3) := by decide +kernel
theorem dX6_told_129 : decode cX6_told 129 = .ok (.ireturn, 1) := by decide +kernel
theorem dX6_told_130 : decode cX6_told 130 = .ok (.aload_n 0, 1) := by decide +kernel
theorem dX6_told_131 : decode cX6_told 131 = .ok (.getfield 156, 3) := by decide +kernel
theorem dX6_told_134 : decode cX6_told 134 = .ok (.ireturn, 1) := by decide +kernel
theorem dX6_told_135 : decode cX6_told 135 = .ok (.aload_n 0, 1) := by decide +kernel
theorem dX6_told_136 : decode cX6_told 136 = .ok (.invokevirtual 159, 3) := by decide +kernel
theorem dX6_told_139 : decode cX6_told 139 = .ok (.ireturn, 1) := by decide +kernel
theorem dX6_told_140 : decode cX6_told 140 = .ok (.iload_n 1, 1) := by decide +kernel
theorem dX6_told_141 : decode cX6_told 141 = .ok (.i2l, 1) := by decide +kernel
theorem dX6_told_142 : decode cX6_told 142 = .ok (.ldc2_w 86, 3) := by decide +kernel
theorem dX6_told_145 : decode cX6_told 145 = .ok (.ldc2_w 110, 3) := by decide +kernel
theorem dX6_told_148 : decode cX6_told 148 = .ok (.invokestatic 88, 3) := by decide +kernel
theorem dX6_told_151 : decode cX6_told 151 = .ok (.ifCond .ne 9, 3) := by decide +kernel
theorem dX6_told_154 : decode cX6_told 154 = .ok (.sipush (-1001), 3) := by decide +kernel
theorem dX6_told_157 : decode cX6_told 157 = .ok (.goto 27, 3) := by decide +kernel
theorem dX6_told_160 : decode cX6_told 160 = .ok (.iload_n 1, 1) := by decide +kernel
theorem dX6_told_161 : decode cX6_told 161 = .ok (.bipush 10, 2) := by decide +kernel
theorem dX6_told_163 : decode cX6_told 163 = .ok (.isub, 1) := by decide +kernel
theorem dX6_told_164 : decode cX6_told 164 = .ok (.aload_n 0, 1) := by decide +kernel
theorem dX6_told_165 : decode cX6_told 165 = .ok (.getfield 98, 3) := by decide +kernel
theorem dX6_told_168 : decode cX6_told 168 = .ok (.if_icmp .ge 15, 3) := by decide +kernel
theorem dX6_told_171 : decode cX6_told 171 = .ok (.aload_n 0, 1) := by decide +kernel
theorem dX6_told_172 : decode cX6_told 172 = .ok (.getfield 22, 3) := by decide +kernel
theorem dX6_told_175 : decode cX6_told 175 = .ok (.iload_n 1, 1) := by decide +kernel
theorem dX6_told_176 : decode cX6_told 176 = .ok (.bipush 10, 2) := by decide +kernel
theorem dX6_told_178 : decode cX6_told 178 = .ok (.isub, 1) := by decide +kernel
theorem dX6_told_179 : decode cX6_told 179 = .ok (.iaload, 1) := by decide +kernel
theorem dX6_told_180 : decode cX6_told 180 = .ok (.goto 4, 3) := by decide +kernel
theorem dX6_told_183 : decode cX6_told 183 = .ok (.iconst (-1), 1) := by decide +kernel
theorem dX6_told_184 : decode cX6_told 184 = .ok (.ireturn, 1) := by decide +kernel
theorem dX6_goesOn_0 : decode cX6_goesOn 0 = .ok (.aload_n 0, 1) := by decide +kernel
theorem dX6_goesOn_1 : decode cX6_goesOn 1 = .ok (.iload_n 1, 1) := by decide +kernel
theorem dX6_goesOn_2 : decode cX6_goesOn 2 = .ok (.iload_n 2, 1) := by decide +kernel
theorem dX6_goesOn_3 : decode cX6_goesOn 3 = .ok (.invokevirtual 143, 3) := by decide +kernel
theorem dX6_goesOn_6 : decode cX6_goesOn 6 = .ok (.istore_n 3, 1) := by decide +kernel
theorem dX6_goesOn_7 : decode cX6_goesOn 7 = .ok (.iload_n 3, 1) := by decide +kernel
theorem dX6_goesOn_8 : decode cX6_goesOn 8 = .ok (.aload_n 0, 1) := by decide +kernel
theorem dX6_goesOn_9 : decode cX6_goesOn 9 = .ok (.getfield 29, 3) := by decide +kernel
theorem dX6_goesOn_12 : decode cX6_goesOn 12 = .ok (.if_icmp .lt 24, 3) := by decide +kernel
theorem dX6_goesOn_15 : decode cX6_goesOn 15 = .ok (.iload_n 3, 1) := by decide +kernel
theorem dX6_goesOn_16 : decode cX6_goesOn 16 = .ok (.aload_n 0, 1) := by decide +kernel
theorem dX6_goesOn_17 : decode cX6_goesOn 17 = .ok (.getfield 29, 3) := by decide +kernel
theorem dX6_goesOn_20 : decode cX6_goesOn 20 = .ok (.if_icmp .ne 20, 3) := by decide +kernel
theorem dX6_goesOn_23 : decode cX6_goesOn 23 = .ok (.iload_n 3, 1) := by decide +kernel
theorem dX6_goesOn_24 : decode cX6_goesOn 24 = .ok (.iload_n 1, 1) := by decide +kernel
theorem dX6_goesOn_25 : decode cX6_goesOn 25 = .ok (.if_icmp .le 15, 3) := by decide +kernel
theorem dX6_goesOn_28 : decode cX6_goesOn 28 = .ok (.aload_n 0, 1) := by decide +kernel
theorem dX6_goesOn_29 : decode cX6_goesOn 29 = .ok (.getfield 118, 3) := by decide +kernel
theorem dX6_goesOn_32 : decode cX6_goesOn 32 = .ok (.iconst 1, 1) := by decide +kernel
theorem dX6_goesOn_33 : decode cX6_goesOn 33 = .ok (.if_icmp .ne 7, 3) := by decide +kernel
theorem dX6_goesOn_36 : decode cX6_goesOn 36 = .ok (.iconst 1, 1) := by decide +kernel
theorem dX6_goesOn_37 : decode cX6_goesOn 37 = .ok (.goto 4, 3) := by decide +kernel
theorem dX6_goesOn_40 : decode cX6_goesOn 40 = .ok (.iconst 0, 1) := by decide +kernel
theorem dX6_goesOn_41 : decode cX6_goesOn 41 = .ok (.ireturn, 1) := by decide +kernel
theorem dX6_settled_0 : decode cX6_settled 0 = .ok (.iload_n 2, 1) := by decide +kernel
theorem dX6_settled_1 : decode cX6_settled 1 = .ok (.iload_n 1, 1) := by decide +kernel
theorem dX6_settled_2 : decode cX6_settled 2 = .ok (.if_icmp .ge 7, 3) := by decide +kernel
theorem dX6_settled_5 : decode cX6_settled 5 = .ok (.iload_n 3, 1) := by decide +kernel
theorem dX6_settled_6 : decode cX6_settled 6 = .ok (.goto 14, 3) := by decide +kernel
theorem dX6_settled_9 : decode cX6_settled 9 = .ok (.iload_n 2, 1) := by decide +kernel
theorem dX6_settled_10 : decode cX6_settled 10 = .ok (.iload_n 1, 1) := by decide +kernel
theorem dX6_settled_11 : decode cX6_settled 11 = .ok (.if_icmp .le 8, 3) := by decide +kernel
theorem dX6_settled_14 : decode cX6_settled 14 = .ok (.bipush (-2), 2) := by decide +kernel
theorem dX6_settled_16 : decode cX6_settled 16 = .ok (.goto 4, 3) := by decide +kernel
theorem dX6_settled_19 : decode cX6_settled 19 = .ok (.iconst 0, 1) := by decide +kernel
theorem dX6_settled_20 : decode cX6_settled 20 = .ok (.ireturn, 1) := by decide +kernel
theorem dX6_settle_0 : decode cX6_settle 0 = .ok (.aload_n 0, 1) := by decide +kernel
theorem dX6_settle_1 : decode cX6_settle 1 = .ok (.getfield 98, 3) := by decide +kernel
theorem dX6_settle_4 : decode cX6_settle 4 = .ok (.ifCond .eq 10, 3) := by decide +kernel
theorem dX6_settle_7 : decode cX6_settle 7 = .ok (.aload_n 0, 1) := by decide +kernel
theorem dX6_settle_8 : decode cX6_settle 8 = .ok (.getfield 101, 3) := by decide +kernel
theorem dX6_settle_11 : decode cX6_settle 11 = .ok (.ifCond .ne 7, 3) := by decide +kernel
theorem dX6_settle_14 : decode cX6_settle 14 = .ok (.sipush (-1002), 3) := by decide +kernel
theorem dX6_settle_17 : decode cX6_settle 17 = .ok (.ireturn, 1) := by decide +kernel
theorem dX6_settle_18 : decode cX6_settle 18 = .ok (.aload_n 0, 1) := by decide +kernel
theorem dX6_settle_19 : decode cX6_settle 19 = .ok (.invokevirtual 147, 3) := by decide +kernel
theorem dX6_settle_22 : decode cX6_settle 22 = .ok (.istore_n 1, 1) := by decide +kernel
theorem dX6_settle_23 : decode cX6_settle 23 = .ok (.bipush (-2), 2) := by decide +kernel
theorem dX6_settle_25 : decode cX6_settle 25 = .ok (.istore_n 2, 1) := by decide +kernel
theorem dX6_settle_26 : decode cX6_settle 26 = .ok (.iload_n 1, 1) := by decide +kernel
theorem dX6_settle_27 : decode cX6_settle 27 = .ok (.aload_n 0, 1) := by decide +kernel
theorem dX6_settle_28 : decode cX6_settle 28 = .ok (.getfield 25, 3) := by decide +kernel
theorem dX6_settle_31 : decode cX6_settle 31 = .ok (.if_icmp .gt 124, 3) := by decide +kernel
theorem dX6_settle_34 : decode cX6_settle 34 = .ok (.aload_n 0, 1) := by decide +kernel
theorem dX6_settle_35 : decode cX6_settle 35 = .ok (.getfield 101, 3) := by decide +kernel
theorem dX6_settle_38 : decode cX6_settle 38 = .ok (.istore_n 3, 1) := by decide +kernel
theorem dX6_settle_39 : decode cX6_settle 39 = .ok (.aload_n 0, 1) := by decide +kernel
theorem dX6_settle_40 : decode cX6_settle 40 = .ok (.getfield 101, 3) := by decide +kernel
theorem dX6_settle_43 : decode cX6_settle 43 = .ok (.iconst 1, 1) := by decide +kernel
theorem dX6_settle_44 : decode cX6_settle 44 = .ok (.if_icmp .ne 7, 3) := by decide +kernel
theorem dX6_settle_47 : decode cX6_settle 47 = .ok (.iconst 1, 1) := by decide +kernel
theorem dX6_settle_48 : decode cX6_settle 48 = .ok (.goto 4, 3) := by decide +kernel
theorem dX6_settle_51 : decode cX6_settle 51 = .ok (.iconst 0, 1) := by decide +kernel
theorem dX6_settle_52 : decode cX6_settle 52 = .ok (.istore 4, 2) := by decide +kernel
theorem dX6_settle_54 : decode cX6_settle 54 = .ok (.aload_n 0, 1) := by decide +kernel
theorem dX6_settle_55 : decode cX6_settle 55 = .ok (.invokevirtual 104, 3) := by decide +kernel
theorem dX6_settle_58 : decode cX6_settle 58 = .ok (.ifCond .le 52, 3) := by decide +kernel
theorem dX6_settle_61 : decode cX6_settle 61 = .ok (.aload_n 0, 1) := by decide +kernel
theorem dX6_settle_62 : decode cX6_settle 62 = .ok (.iload_n 3, 1) := by decide +kernel
theorem dX6_settle_63 : decode cX6_settle 63 = .ok (.iload 4, 2) := by decide +kernel
theorem dX6_settle_65 : decode cX6_settle 65 = .ok (.invokevirtual 162, 3) := by decide +kernel
theorem dX6_settle_68 : decode cX6_settle 68 = .ok (.ifCond .eq 42, 3) := by decide +kernel
theorem dX6_settle_71 : decode cX6_settle 71 = .ok (.aload_n 0, 1) := by decide +kernel
theorem dX6_settle_72 : decode cX6_settle 72 = .ok (.invokevirtual 133, 3) := by decide +kernel
theorem dX6_settle_75 : decode cX6_settle 75 = .ok (.istore 5, 2) := by decide +kernel
theorem dX6_settle_77 : decode cX6_settle 77 = .ok (.aload_n 0, 1) := by decide +kernel
theorem dX6_settle_78 : decode cX6_settle 78 = .ok (.iload 5, 2) := by decide +kernel
theorem dX6_settle_80 : decode cX6_settle 80 = .ok (.iconst 2, 1) := by decide +kernel
theorem dX6_settle_81 : decode cX6_settle 81 = .ok (.invokevirtual 125, 3) := by decide +kernel
theorem dX6_settle_84 : decode cX6_settle 84 = .ok (.iload_n 3, 1) := by decide +kernel
theorem dX6_settle_85 : decode cX6_settle 85 = .ok (.iload 5, 2) := by decide +kernel
theorem dX6_settle_87 : decode cX6_settle 87 = .ok (.iadd, 1) := by decide +kernel
theorem dX6_settle_88 : decode cX6_settle 88 = .ok (.istore_n 3, 1) := by decide +kernel
theorem dX6_settle_89 : decode cX6_settle 89 = .ok (.iload 4, 2) := by decide +kernel
theorem dX6_settle_91 : decode cX6_settle 91 = .ok (.ifCond .ne 9, 3) := by decide +kernel
theorem dX6_settle_94 : decode cX6_settle 94 = .ok (.iload 5, 2) := by decide +kernel
theorem dX6_settle_96 : decode cX6_settle 96 = .ok (.iconst 1, 1) := by decide +kernel
theorem dX6_settle_97 : decode cX6_settle 97 = .ok (.if_icmp .ne 7, 3) := by decide +kernel
theorem dX6_settle_100 : decode cX6_settle 100 = .ok (.iconst 1, 1) := by decide +kernel
theorem dX6_settle_101 : decode cX6_settle 101 = .ok (.goto 4, 3) := by decide +kernel
theorem dX6_settle_104 : decode cX6_settle 104 = .ok (.iconst 0, 1) := by decide +kernel
theorem dX6_settle_105 : decode cX6_settle 105 = .ok (.istore 4, 2) := by decide +kernel
theorem dX6_settle_107 : decode cX6_settle 107 = .ok (.goto (-53), 3) := by decide +kernel
theorem dX6_settle_110 : decode cX6_settle 110 = .ok (.aload_n 0, 1) := by decide +kernel
theorem dX6_settle_111 : decode cX6_settle 111 = .ok (.iload_n 3, 1) := by decide +kernel
theorem dX6_settle_112 : decode cX6_settle 112 = .ok (.iload 4, 2) := by decide +kernel
theorem dX6_settle_114 : decode cX6_settle 114 = .ok (.invokevirtual 143, 3) := by decide +kernel
theorem dX6_settle_117 : decode cX6_settle 117 = .ok (.istore 5, 2) := by decide +kernel
theorem dX6_settle_119 : decode cX6_settle 119 = .ok (.aload_n 0, 1) := by decide +kernel
theorem dX6_settle_120 : decode cX6_settle 120 = .ok (.iload_n 1, 1) := by decide +kernel
theorem dX6_settle_121 : decode cX6_settle 121 = .ok (.iload 5, 2) := by decide +kernel
theorem dX6_settle_123 : decode cX6_settle 123 = .ok (.aload_n 0, 1) := by decide +kernel
theorem dX6_settle_124 : decode cX6_settle 124 = .ok (.getfield 25, 3) := by decide +kernel
theorem dX6_settle_127 : decode cX6_settle 127 = .ok (.if_icmp .le 7, 3) := by decide +kernel
theorem dX6_settle_130 : decode cX6_settle 130 = .ok (.iconst 0, 1) := by decide +kernel
theorem dX6_settle_131 : decode cX6_settle 131 = .ok (.goto 5, 3) := by decide +kernel
theorem dX6_settle_134 : decode cX6_settle 134 = .ok (.iload 5, 2) := by decide +kernel
theorem dX6_settle_136 : decode cX6_settle 136 = .ok (.aload_n 0, 1) := by decide +kernel
theorem dX6_settle_137 : decode cX6_settle 137 = .ok (.invokevirtual 150, 3) := by decide +kernel
theorem dX6_settle_140 : decode cX6_settle 140 = .ok (.ifCond .eq 10, 3) := by decide +kernel
theorem dX6_settle_143 : decode cX6_settle 143 = .ok (.aload_n 0, 1) := by decide +kernel
theorem dX6_settle_144 : decode cX6_settle 144 = .ok (.getfield 41, 3) := by decide +kernel
theorem dX6_settle_147 : decode cX6_settle 147 = .ok (.goto 4, 3) := by decide +kernel
theorem dX6_settle_150 : decode cX6_settle 150 = .ok (.iconst 2, 1) := by decide +kernel
theorem dX6_settle_151 : decode cX6_settle 151 = .ok (.invokevirtual 166, 3) := by decide +kernel
theorem dX6_settle_154 : decode cX6_settle 154 = .ok (.istore_n 2, 1) := by decide +kernel
theorem dX6_settle_155 : decode cX6_settle 155 = .ok (.aload_n 0, 1) := by decide +kernel
theorem dX6_settle_156 : decode cX6_settle 156 = .ok (.iconst 0, 1) := by decide +kernel
theorem dX6_settle_157 : decode cX6_settle 157 = .ok (.putfield 98, 3) := by decide +kernel
theorem dX6_settle_160 : decode cX6_settle 160 = .ok (.aload_n 0, 1) := by decide +kernel
theorem dX6_settle_161 : decode cX6_settle 161 = .ok (.iconst 0, 1) := by decide +kernel
theorem dX6_settle_162 : decode cX6_settle 162 = .ok (.putfield 101, 3) := by decide +kernel
theorem dX6_settle_165 : decode cX6_settle 165 = .ok (.aload_n 0, 1) := by decide +kernel
theorem dX6_settle_166 : decode cX6_settle 166 = .ok (.dup, 1) := by decide +kernel
theorem dX6_settle_167 : decode cX6_settle 167 = .ok (.getfield 156, 3) := by decide +kernel
theorem dX6_settle_170 : decode cX6_settle 170 = .ok (.iload_n 2, 1) := by decide +kernel
theorem dX6_settle_171 : decode cX6_settle 171 = .ok (.iadd, 1) := by decide +kernel
theorem dX6_settle_172 : decode cX6_settle 172 = .ok (.putfield 156, 3) := by decide +kernel
theorem dX6_settle_175 : decode cX6_settle 175 = .ok (.iload_n 2, 1) := by decide +kernel
theorem dX6_settle_176 : decode cX6_settle 176 = .ok (.ireturn, 1) := by decide +kernel
theorem dX6_ofRank_0 : decode cX6_ofRank 0 = .ok (.iload_n 1, 1) := by decide +kernel
theorem dX6_ofRank_1 : decode cX6_ofRank 1 = .ok (.aload_n 0, 1) := by decide +kernel
theorem dX6_ofRank_2 : decode cX6_ofRank 2 = .ok (.getfield 55, 3) := by decide +kernel
theorem dX6_ofRank_5 : decode cX6_ofRank 5 = .ok (.iload_n 2, 1) := by decide +kernel
theorem dX6_ofRank_6 : decode cX6_ofRank 6 = .ok (.iaload, 1) := by decide +kernel
theorem dX6_ofRank_7 : decode cX6_ofRank 7 = .ok (.idiv, 1) := by decide +kernel
theorem dX6_ofRank_8 : decode cX6_ofRank 8 = .ok (.aload_n 0, 1) := by decide +kernel
theorem dX6_ofRank_9 : decode cX6_ofRank 9 = .ok (.getfield 52, 3) := by decide +kernel
theorem dX6_ofRank_12 : decode cX6_ofRank 12 = .ok (.iload_n 2, 1) := by decide +kernel
theorem dX6_ofRank_13 : decode cX6_ofRank 13 = .ok (.iaload, 1) := by decide +kernel
theorem dX6_ofRank_14 : decode cX6_ofRank 14 = .ok (.iconst 1, 1) := by decide +kernel
theorem dX6_ofRank_15 : decode cX6_ofRank 15 = .ok (.iadd, 1) := by decide +kernel
theorem dX6_ofRank_16 : decode cX6_ofRank 16 = .ok (.irem, 1) := by decide +kernel
theorem dX6_ofRank_17 : decode cX6_ofRank 17 = .ok (.ireturn, 1) := by decide +kernel
theorem dX6_layHeaps_0 : decode cX6_layHeaps 0 = .ok (.aload_n 0, 1) := by decide +kernel
theorem dX6_layHeaps_1 : decode cX6_layHeaps 1 = .ok (.iconst 1, 1) := by decide +kernel
theorem dX6_layHeaps_2 : decode cX6_layHeaps 2 = .ok (.putfield 170, 3) := by decide +kernel
theorem dX6_layHeaps_5 : decode cX6_layHeaps 5 = .ok (.iconst 1, 1) := by decide +kernel
theorem dX6_layHeaps_6 : decode cX6_layHeaps 6 = .ok (.istore_n 1, 1) := by decide +kernel
theorem dX6_layHeaps_7 : decode cX6_layHeaps 7 = .ok (.iload_n 1, 1) := by decide +kernel
theorem dX6_layHeaps_8 : decode cX6_layHeaps 8 = .ok (.bipush 11, 2) := by decide +kernel
theorem dX6_layHeaps_10 : decode cX6_layHeaps 10 = .ok (.if_icmp .ge 36, 3) := by decide +kernel
theorem dX6_layHeaps_13 : decode cX6_layHeaps 13 = .ok (.aload_n 0, 1) := by decide +kernel
theorem dX6_layHeaps_14 : decode cX6_layHeaps 14 = .ok (.getfield 55, 3) := by decide +kernel
theorem dX6_layHeaps_17 : decode cX6_layHeaps 17 = .ok (.iload_n 1, 1) := by decide +kernel
theorem dX6_layHeaps_18 : decode cX6_layHeaps 18 = .ok (.aload_n 0, 1) := by decide +kernel
theorem dX6_layHeaps_19 : decode cX6_layHeaps 19 = .ok (.getfield 170, 3) := by decide +kernel
theorem dX6_layHeaps_22 : decode cX6_layHeaps 22 = .ok (.iastore, 1) := by decide +kernel
theorem dX6_layHeaps_23 : decode cX6_layHeaps 23 = .ok (.aload_n 0, 1) := by decide +kernel
theorem dX6_layHeaps_24 : decode cX6_layHeaps 24 = .ok (.dup, 1) := by decide +kernel
theorem dX6_layHeaps_25 : decode cX6_layHeaps 25 = .ok (.getfield 170, 3) := by decide +kernel
theorem dX6_layHeaps_28 : decode cX6_layHeaps 28 = .ok (.aload_n 0, 1) := by decide +kernel
theorem dX6_layHeaps_29 : decode cX6_layHeaps 29 = .ok (.getfield 52, 3) := by decide +kernel
theorem dX6_layHeaps_32 : decode cX6_layHeaps 32 = .ok (.iload_n 1, 1) := by decide +kernel
theorem dX6_layHeaps_33 : decode cX6_layHeaps 33 = .ok (.iaload, 1) := by decide +kernel
theorem dX6_layHeaps_34 : decode cX6_layHeaps 34 = .ok (.iconst 1, 1) := by decide +kernel
theorem dX6_layHeaps_35 : decode cX6_layHeaps 35 = .ok (.iadd, 1) := by decide +kernel
theorem dX6_layHeaps_36 : decode cX6_layHeaps 36 = .ok (.imul, 1) := by decide +kernel
theorem dX6_layHeaps_37 : decode cX6_layHeaps 37 = .ok (.putfield 170, 3) := by decide +kernel
theorem dX6_layHeaps_40 : decode cX6_layHeaps 40 = .ok (.iinc 1 1, 3) := by decide +kernel
theorem dX6_layHeaps_43 : decode cX6_layHeaps 43 = .ok (.goto (-36), 3) := by decide +kernel
theorem dX6_layHeaps_46 : decode cX6_layHeaps 46 = .ok (.iconst 0, 1) := by decide +kernel
theorem dX6_layHeaps_47 : decode cX6_layHeaps 47 = .ok (.istore_n 1, 1) := by decide +kernel
theorem dX6_layHeaps_48 : decode cX6_layHeaps 48 = .ok (.iload_n 1, 1) := by decide +kernel
theorem dX6_layHeaps_49 : decode cX6_layHeaps 49 = .ok (.aload_n 0, 1) := by decide +kernel
theorem dX6_layHeaps_50 : decode cX6_layHeaps 50 = .ok (.getfield 170, 3) := by decide +kernel
theorem dX6_layHeaps_53 : decode cX6_layHeaps 53 = .ok (.if_icmp .ge 69, 3) := by decide +kernel
theorem dX6_layHeaps_56 : decode cX6_layHeaps 56 = .ok (.aload_n 0, 1) := by decide +kernel
theorem dX6_layHeaps_57 : decode cX6_layHeaps 57 = .ok (.getfield 58, 3) := by decide +kernel
theorem dX6_layHeaps_60 : decode cX6_layHeaps 60 = .ok (.iload_n 1, 1) := by decide +kernel
theorem dX6_layHeaps_61 : decode cX6_layHeaps 61 = .ok (.iconst 0, 1) := by decide +kernel
theorem dX6_layHeaps_62 : decode cX6_layHeaps 62 = .ok (.iastore, 1) := by decide +kernel
theorem dX6_layHeaps_63 : decode cX6_layHeaps 63 = .ok (.aload_n 0, 1) := by decide +kernel
theorem dX6_layHeaps_64 : decode cX6_layHeaps 64 = .ok (.getfield 61, 3) := by decide +kernel
theorem dX6_layHeaps_67 : decode cX6_layHeaps 67 = .ok (.iload_n 1, 1) := by decide +kernel
theorem dX6_layHeaps_68 : decode cX6_layHeaps 68 = .ok (.iconst 0, 1) := by decide +kernel
theorem dX6_layHeaps_69 : decode cX6_layHeaps 69 = .ok (.iastore, 1) := by decide +kernel
theorem dX6_layHeaps_70 : decode cX6_layHeaps 70 = .ok (.iconst 1, 1) := by decide +kernel
theorem dX6_layHeaps_71 : decode cX6_layHeaps 71 = .ok (.istore_n 2, 1) := by decide +kernel
theorem dX6_layHeaps_72 : decode cX6_layHeaps 72 = .ok (.iload_n 2, 1) := by decide +kernel
theorem dX6_layHeaps_73 : decode cX6_layHeaps 73 = .ok (.bipush 11, 2) := by decide +kernel
theorem dX6_layHeaps_75 : decode cX6_layHeaps 75 = .ok (.if_icmp .ge 41, 3) := by decide +kernel
theorem dX6_layHeaps_78 : decode cX6_layHeaps 78 = .ok (.aload_n 0, 1) := by decide +kernel
theorem dX6_layHeaps_79 : decode cX6_layHeaps 79 = .ok (.getfield 58, 3) := by decide +kernel
theorem dX6_layHeaps_82 : decode cX6_layHeaps 82 = .ok (.iload_n 1, 1) := by decide +kernel
theorem dX6_layHeaps_83 : decode cX6_layHeaps 83 = .ok (.dup2, 1) := by decide +kernel
theorem dX6_layHeaps_84 : decode cX6_layHeaps 84 = .ok (.iaload, 1) := by decide +kernel
theorem dX6_layHeaps_85 : decode cX6_layHeaps 85 = .ok (.aload_n 0, 1) := by decide +kernel
theorem dX6_layHeaps_86 : decode cX6_layHeaps 86 = .ok (.iload_n 1, 1) := by decide +kernel
theorem dX6_layHeaps_87 : decode cX6_layHeaps 87 = .ok (.iload_n 2, 1) := by decide +kernel
theorem dX6_layHeaps_88 : decode cX6_layHeaps 88 = .ok (.invokevirtual 173, 3) := by decide +kernel
theorem dX6_layHeaps_91 : decode cX6_layHeaps 91 = .ok (.iadd, 1) := by decide +kernel
theorem dX6_layHeaps_92 : decode cX6_layHeaps 92 = .ok (.iastore, 1) := by decide +kernel
theorem dX6_layHeaps_93 : decode cX6_layHeaps 93 = .ok (.aload_n 0, 1) := by decide +kernel
theorem dX6_layHeaps_94 : decode cX6_layHeaps 94 = .ok (.getfield 61, 3) := by decide +kernel
theorem dX6_layHeaps_97 : decode cX6_layHeaps 97 = .ok (.iload_n 1, 1) := by decide +kernel
theorem dX6_layHeaps_98 : decode cX6_layHeaps 98 = .ok (.dup2, 1) := by decide +kernel
theorem dX6_layHeaps_99 : decode cX6_layHeaps 99 = .ok (.iaload, 1) := by decide +kernel
theorem dX6_layHeaps_100 : decode cX6_layHeaps 100 = .ok (.iload_n 2, 1) := by decide +kernel
theorem dX6_layHeaps_101 : decode cX6_layHeaps 101 = .ok (.aload_n 0, 1) := by decide +kernel
theorem dX6_layHeaps_102 : decode cX6_layHeaps 102 = .ok (.iload_n 1, 1) := by decide +kernel
theorem dX6_layHeaps_103 : decode cX6_layHeaps 103 = .ok (.iload_n 2, 1) := by decide +kernel
theorem dX6_layHeaps_104 : decode cX6_layHeaps 104 = .ok (.invokevirtual 173, 3) := by decide +kernel
theorem dX6_layHeaps_107 : decode cX6_layHeaps 107 = .ok (.imul, 1) := by decide +kernel
theorem dX6_layHeaps_108 : decode cX6_layHeaps 108 = .ok (.iadd, 1) := by decide +kernel
theorem dX6_layHeaps_109 : decode cX6_layHeaps 109 = .ok (.iastore, 1) := by decide +kernel
theorem dX6_layHeaps_110 : decode cX6_layHeaps 110 = .ok (.iinc 2 1, 3) := by decide +kernel
theorem dX6_layHeaps_113 : decode cX6_layHeaps 113 = .ok (.goto (-41), 3) := by decide +kernel
theorem dX6_layHeaps_116 : decode cX6_layHeaps 116 = .ok (.iinc 1 1, 3) := by decide +kernel
theorem dX6_layHeaps_119 : decode cX6_layHeaps 119 = .ok (.goto (-71), 3) := by decide +kernel
theorem dX6_layHeaps_122 : decode cX6_layHeaps 122 = .ok (.return_, 1) := by decide +kernel
theorem dX6_score_0 : decode cX6_score 0 = .ok (.aload_n 0, 1) := by decide +kernel
theorem dX6_score_1 : decode cX6_score 1 = .ok (.iload_n 1, 1) := by decide +kernel
theorem dX6_score_2 : decode cX6_score 2 = .ok (.iload_n 2, 1) := by decide +kernel
theorem dX6_score_3 : decode cX6_score 3 = .ok (.invokevirtual 143, 3) := by decide +kernel
theorem dX6_score_6 : decode cX6_score 6 = .ok (.istore_n 3, 1) := by decide +kernel
theorem dX6_score_7 : decode cX6_score 7 = .ok (.iload_n 3, 1) := by decide +kernel
theorem dX6_score_8 : decode cX6_score 8 = .ok (.aload_n 0, 1) := by decide +kernel
theorem dX6_score_9 : decode cX6_score 9 = .ok (.getfield 25, 3) := by decide +kernel
theorem dX6_score_12 : decode cX6_score 12 = .ok (.if_icmp .le 7, 3) := by decide +kernel
theorem dX6_score_15 : decode cX6_score 15 = .ok (.iconst 0, 1) := by decide +kernel
theorem dX6_score_16 : decode cX6_score 16 = .ok (.goto 4, 3) := by decide +kernel
theorem dX6_score_19 : decode cX6_score 19 = .ok (.iload_n 3, 1) := by decide +kernel
theorem dX6_score_20 : decode cX6_score 20 = .ok (.istore_n 3, 1) := by decide +kernel
theorem dX6_score_21 : decode cX6_score 21 = .ok (.aload_n 0, 1) := by decide +kernel
theorem dX6_score_22 : decode cX6_score 22 = .ok (.getfield 177, 3) := by decide +kernel
theorem dX6_score_25 : decode cX6_score 25 = .ok (.ifCond .eq 19, 3) := by decide +kernel
theorem dX6_score_28 : decode cX6_score 28 = .ok (.iload_n 3, 1) := by decide +kernel
theorem dX6_score_29 : decode cX6_score 29 = .ok (.aload_n 0, 1) := by decide +kernel
theorem dX6_score_30 : decode cX6_score 30 = .ok (.getfield 180, 3) := by decide +kernel
theorem dX6_score_33 : decode cX6_score 33 = .ok (.if_icmp .ne 7, 3) := by decide +kernel
theorem dX6_score_36 : decode cX6_score 36 = .ok (.iconst 1, 1) := by decide +kernel
theorem dX6_score_37 : decode cX6_score 37 = .ok (.goto 20, 3) := by decide +kernel
theorem dX6_score_40 : decode cX6_score 40 = .ok (.iconst 0, 1) := by decide +kernel
theorem dX6_score_41 : decode cX6_score 41 = .ok (.goto 16, 3) := by decide +kernel
theorem dX6_score_44 : decode cX6_score 44 = .ok (.aload_n 0, 1) := by decide +kernel
theorem dX6_score_45 : decode cX6_score 45 = .ok (.aload_n 0, 1) := by decide +kernel
theorem dX6_score_46 : decode cX6_score 46 = .ok (.getfield 180, 3) := by decide +kernel
theorem dX6_score_49 : decode cX6_score 49 = .ok (.iload_n 3, 1) := by decide +kernel
theorem dX6_score_50 : decode cX6_score 50 = .ok (.aload_n 0, 1) := by decide +kernel
theorem dX6_score_51 : decode cX6_score 51 = .ok (.getfield 183, 3) := by decide +kernel
theorem dX6_score_54 : decode cX6_score 54 = .ok (.invokevirtual 166, 3) := by decide +kernel
theorem dX6_score_57 : decode cX6_score 57 = .ok (.ireturn, 1) := by decide +kernel
theorem dX6_draws_0 : decode cX6_draws 0 = .ok (.aload_n 0, 1) := by decide +kernel
theorem dX6_draws_1 : decode cX6_draws 1 = .ok (.getfield 58, 3) := by decide +kernel
theorem dX6_draws_4 : decode cX6_draws 4 = .ok (.iload_n 1, 1) := by decide +kernel
theorem dX6_draws_5 : decode cX6_draws 5 = .ok (.iaload, 1) := by decide +kernel
theorem dX6_draws_6 : decode cX6_draws 6 = .ok (.ifCond .le 16, 3) := by decide +kernel
theorem dX6_draws_9 : decode cX6_draws 9 = .ok (.aload_n 0, 1) := by decide +kernel
theorem dX6_draws_10 : decode cX6_draws 10 = .ok (.iload_n 2, 1) := by decide +kernel
theorem dX6_draws_11 : decode cX6_draws 11 = .ok (.iload_n 3, 1) := by decide +kernel
theorem dX6_draws_12 : decode cX6_draws 12 = .ok (.invokevirtual 162, 3) := by decide +kernel
theorem dX6_draws_15 : decode cX6_draws 15 = .ok (.ifCond .eq 7, 3) := by decide +kernel
theorem dX6_draws_18 : decode cX6_draws 18 = .ok (.iconst 1, 1) := by decide +kernel
theorem dX6_draws_19 : decode cX6_draws 19 = .ok (.goto 4, 3) := by decide +kernel
theorem dX6_draws_22 : decode cX6_draws 22 = .ok (.iconst 0, 1) := by decide +kernel
theorem dX6_draws_23 : decode cX6_draws 23 = .ok (.ireturn, 1) := by decide +kernel
theorem dX6_houseAt_0 : decode cX6_houseAt 0 = .ok (.aload_n 0, 1) := by decide +kernel
theorem dX6_houseAt_1 : decode cX6_houseAt 1 = .ok (.iload_n 1, 1) := by decide +kernel
theorem dX6_houseAt_2 : decode cX6_houseAt 2 = .ok (.iload_n 2, 1) := by decide +kernel
theorem dX6_houseAt_3 : decode cX6_houseAt 3 = .ok (.iload_n 3, 1) := by decide +kernel
theorem dX6_houseAt_4 : decode cX6_houseAt 4 = .ok (.invokevirtual 186, 3) := by decide +kernel
theorem dX6_houseAt_7 : decode cX6_houseAt 7 = .ok (.ifCond .ne 23, 3) := by decide +kernel
theorem dX6_houseAt_10 : decode cX6_houseAt 10 = .ok (.aload_n 0, 1) := by decide +kernel
theorem dX6_houseAt_11 : decode cX6_houseAt 11 = .ok (.iload_n 2, 1) := by decide +kernel
theorem dX6_houseAt_12 : decode cX6_houseAt 12 = .ok (.iload_n 3, 1) := by decide +kernel
theorem dX6_houseAt_13 : decode cX6_houseAt 13 = .ok (.invokevirtual 190, 3) := by decide +kernel
theorem dX6_houseAt_16 : decode cX6_houseAt 16 = .ok (.i2l, 1) := by decide +kernel
theorem dX6_houseAt_17 : decode cX6_houseAt 17 = .ok (.aload_n 0, 1) := by decide +kernel
theorem dX6_houseAt_18 : decode cX6_houseAt 18 = .ok (.getfield 48, 3) := by decide +kernel
theorem dX6_houseAt_21 : decode cX6_houseAt 21 = .ok (.aload_n 0, 1) := by decide +kernel
theorem dX6_houseAt_22 : decode cX6_houseAt 22 = .ok (.getfield 58, 3) := by decide +kernel
theorem dX6_houseAt_25 : decode cX6_houseAt 25 = .ok (.iload_n 1, 1) := by decide +kernel
theorem dX6_houseAt_26 : decode cX6_houseAt 26 = .ok (.iaload, 1) := by decide +kernel
theorem dX6_houseAt_27 : decode cX6_houseAt 27 = .ok (.laload, 1) := by decide +kernel
theorem dX6_houseAt_28 : decode cX6_houseAt 28 = .ok (.lmul, 1) := by decide +kernel
theorem dX6_houseAt_29 : decode cX6_houseAt 29 = .ok (.lreturn, 1) := by decide +kernel
theorem dX6_houseAt_30 : decode cX6_houseAt 30 = .ok (.aload_n 0, 1) := by decide +kernel
theorem dX6_houseAt_31 : decode cX6_houseAt 31 = .ok (.getfield 65, 3) := by decide +kernel
theorem dX6_houseAt_34 : decode cX6_houseAt 34 = .ok (.bipush 44, 2) := by decide +kernel
theorem dX6_houseAt_36 : decode cX6_houseAt 36 = .ok (.iload_n 1, 1) := by decide +kernel
theorem dX6_houseAt_37 : decode cX6_houseAt 37 = .ok (.imul, 1) := by decide +kernel
theorem dX6_houseAt_38 : decode cX6_houseAt 38 = .ok (.iconst 2, 1) := by decide +kernel
theorem dX6_houseAt_39 : decode cX6_houseAt 39 = .ok (.iload_n 2, 1) := by decide +kernel
theorem dX6_houseAt_40 : decode cX6_houseAt 40 = .ok (.imul, 1) := by decide +kernel
theorem dX6_houseAt_41 : decode cX6_houseAt 41 = .ok (.iadd, 1) := by decide +kernel
theorem dX6_houseAt_42 : decode cX6_houseAt 42 = .ok (.iload_n 3, 1) := by decide +kernel
theorem dX6_houseAt_43 : decode cX6_houseAt 43 = .ok (.ifCond .eq 7, 3) := by decide +kernel
theorem dX6_houseAt_46 : decode cX6_houseAt 46 = .ok (.iconst 1, 1) := by decide +kernel
theorem dX6_houseAt_47 : decode cX6_houseAt 47 = .ok (.goto 4, 3) := by decide +kernel
theorem dX6_houseAt_50 : decode cX6_houseAt 50 = .ok (.iconst 0, 1) := by decide +kernel
theorem dX6_houseAt_51 : decode cX6_houseAt 51 = .ok (.iadd, 1) := by decide +kernel
theorem dX6_houseAt_52 : decode cX6_houseAt 52 = .ok (.laload, 1) := by decide +kernel
theorem dX6_houseAt_53 : decode cX6_houseAt 53 = .ok (.lreturn, 1) := by decide +kernel
theorem dX6_findHouse_0 : decode cX6_findHouse 0 = .ok (.iconst 1, 1) := by decide +kernel
theorem dX6_findHouse_1 : decode cX6_findHouse 1 = .ok (.istore_n 1, 1) := by decide +kernel
theorem dX6_findHouse_2 : decode cX6_findHouse 2 = .ok (.iload_n 1, 1) := by decide +kernel
theorem dX6_findHouse_3 : decode cX6_findHouse 3 = .ok (.aload_n 0, 1) := by decide +kernel
theorem dX6_findHouse_4 : decode cX6_findHouse 4 = .ok (.getfield 170, 3) := by decide +kernel
theorem dX6_findHouse_7 : decode cX6_findHouse 7 = .ok (.if_icmp .ge 150, 3) := by decide +kernel
theorem dX6_findHouse_10 : decode cX6_findHouse 10 = .ok (.aload_n 0, 1) := by decide +kernel
theorem dX6_findHouse_11 : decode cX6_findHouse 11 = .ok (.getfield 193, 3) := by decide +kernel
theorem dX6_findHouse_14 : decode cX6_findHouse 14 = .ok (.istore_n 2, 1) := by decide +kernel
theorem dX6_findHouse_15 : decode cX6_findHouse 15 = .ok (.iload_n 2, 1) := by decide +kernel
theorem dX6_findHouse_16 : decode cX6_findHouse 16 = .ok (.bipush 22, 2) := by decide +kernel
theorem dX6_findHouse_18 : decode cX6_findHouse 18 = .ok (.if_icmp .ge 133, 3) := by decide +kernel
theorem dX6_findHouse_21 : decode cX6_findHouse 21 = .ok (.iconst 0, 1) := by decide +kernel
theorem dX6_findHouse_22 : decode cX6_findHouse 22 = .ok (.istore_n 3, 1) := by decide +kernel
theorem dX6_findHouse_23 : decode cX6_findHouse 23 = .ok (.iload_n 3, 1) := by decide +kernel
theorem dX6_findHouse_24 : decode cX6_findHouse 24 = .ok (.iconst 2, 1) := by decide +kernel
theorem dX6_findHouse_25 : decode cX6_findHouse 25 = .ok (.if_icmp .ge 120, 3) := by decide +kernel
theorem dX6_findHouse_28 : decode cX6_findHouse 28 = .ok (.aload_n 0, 1) := by decide +kernel
theorem dX6_findHouse_29 : decode cX6_findHouse 29 = .ok (.iload_n 1, 1) := by decide +kernel
theorem dX6_findHouse_30 : decode cX6_findHouse 30 = .ok (.iload_n 2, 1) := by decide +kernel
theorem dX6_findHouse_31 : decode cX6_findHouse 31 = .ok (.iload_n 3, 1) := by decide +kernel
theorem dX6_findHouse_32 : decode cX6_findHouse 32 = .ok (.iconst 1, 1) := by decide +kernel
theorem dX6_findHouse_33 : decode cX6_findHouse 33 = .ok (.if_icmp .ne 7, 3) := by decide +kernel
theorem dX6_findHouse_36 : decode cX6_findHouse 36 = .ok (.iconst 1, 1) := by decide +kernel
theorem dX6_findHouse_37 : decode cX6_findHouse 37 = .ok (.goto 4, 3) := by decide +kernel
theorem dX6_findHouse_40 : decode cX6_findHouse 40 = .ok (.iconst 0, 1) := by decide +kernel
theorem dX6_findHouse_41 : decode cX6_findHouse 41 = .ok (.invokevirtual 186, 3) := by decide +kernel
theorem dX6_findHouse_44 : decode cX6_findHouse 44 = .ok (.ifCond .eq 95, 3) := by decide +kernel
theorem dX6_findHouse_47 : decode cX6_findHouse 47 = .ok (.lconst 0, 1) := by decide +kernel
theorem dX6_findHouse_48 : decode cX6_findHouse 48 = .ok (.lstore 4, 2) := by decide +kernel
theorem dX6_findHouse_50 : decode cX6_findHouse 50 = .ok (.iconst 1, 1) := by decide +kernel
theorem dX6_findHouse_51 : decode cX6_findHouse 51 = .ok (.istore 6, 2) := by decide +kernel
theorem dX6_findHouse_53 : decode cX6_findHouse 53 = .ok (.iload 6, 2) := by decide +kernel
theorem dX6_findHouse_55 : decode cX6_findHouse 55 = .ok (.bipush 11, 2) := by decide +kernel
theorem dX6_findHouse_57 : decode cX6_findHouse 57 = .ok (.if_icmp .ge 65, 3) := by decide +kernel
theorem dX6_findHouse_60 : decode cX6_findHouse 60 = .ok (.aload_n 0, 1) := by decide +kernel
theorem dX6_findHouse_61 : decode cX6_findHouse 61 = .ok (.iload_n 1, 1) := by decide +kernel
theorem dX6_findHouse_62 : decode cX6_findHouse 62 = .ok (.iload 6, 2) := by decide +kernel
theorem dX6_findHouse_64 : decode cX6_findHouse 64 = .ok (.invokevirtual 173, 3) := by decide +kernel
theorem dX6_findHouse_67 : decode cX6_findHouse 67 = .ok (.istore 7, 2) := by decide +kernel
theorem dX6_findHouse_69 : decode cX6_findHouse 69 = .ok (.iload 7, 2) := by decide +kernel
theorem dX6_findHouse_71 : decode cX6_findHouse 71 = .ok (.ifCond .le 45, 3) := by decide +kernel
theorem dX6_findHouse_74 : decode cX6_findHouse 74 = .ok (.lload 4, 2) := by decide +kernel
theorem dX6_findHouse_76 : decode cX6_findHouse 76 = .ok (.iload 7, 2) := by decide +kernel
theorem dX6_findHouse_78 : decode cX6_findHouse 78 = .ok (.i2l, 1) := by decide +kernel
theorem dX6_findHouse_79 : decode cX6_findHouse 79 = .ok (.aload_n 0, 1) := by decide +kernel
theorem dX6_findHouse_80 : decode cX6_findHouse 80 = .ok (.iload_n 1, 1) := by decide +kernel
theorem dX6_findHouse_81 : decode cX6_findHouse 81 = .ok (.aload_n 0, 1) := by decide +kernel
theorem dX6_findHouse_82 : decode cX6_findHouse 82 = .ok (.getfield 55, 3) := by decide +kernel
theorem dX6_findHouse_85 : decode cX6_findHouse 85 = .ok (.iload 6, 2) := by decide +kernel
theorem dX6_findHouse_87 : decode cX6_findHouse 87 = .ok (.iaload, 1) := by decide +kernel
theorem dX6_findHouse_88 : decode cX6_findHouse 88 = .ok (.isub, 1) := by decide +kernel
theorem dX6_findHouse_89 : decode cX6_findHouse 89 = .ok (.iload_n 2, 1) := by decide +kernel
theorem dX6_findHouse_90 : decode cX6_findHouse 90 = .ok (.iload 6, 2) := by decide +kernel
theorem dX6_findHouse_92 : decode cX6_findHouse 92 = .ok (.iadd, 1) := by decide +kernel
theorem dX6_findHouse_93 : decode cX6_findHouse 93 = .ok (.iload_n 3, 1) := by decide +kernel
theorem dX6_findHouse_94 : decode cX6_findHouse 94 = .ok (.iconst 1, 1) := by decide +kernel
theorem dX6_findHouse_95 : decode cX6_findHouse 95 = .ok (.if_icmp .eq 9, 3) := by decide +kernel
theorem dX6_findHouse_98 : decode cX6_findHouse 98 = .ok (.iload 6, 2) := by decide +kernel
theorem dX6_findHouse_100 : decode cX6_findHouse 100 = .ok (.iconst 1, 1) := by decide +kernel
theorem dX6_findHouse_101 : decode cX6_findHouse 101 = .ok (.if_icmp .ne 7, 3) := by decide +kernel
theorem dX6_findHouse_104 : decode cX6_findHouse 104 = .ok (.iconst 1, 1) := by decide +kernel
theorem dX6_findHouse_105 : decode cX6_findHouse 105 = .ok (.goto 4, 3) := by decide +kernel
theorem dX6_findHouse_108 : decode cX6_findHouse 108 = .ok (.iconst 0, 1) := by decide +kernel
theorem dX6_findHouse_109 : decode cX6_findHouse 109 = .ok (.invokevirtual 196, 3) := by decide +kernel
theorem dX6_findHouse_112 : decode cX6_findHouse 112 = .ok (.lmul, 1) := by decide +kernel
theorem dX6_findHouse_113 : decode cX6_findHouse 113 = .ok (.ladd, 1) := by decide +kernel
theorem dX6_findHouse_114 : decode cX6_findHouse 114 = .ok (.lstore 4, 2) := by decide +kernel
theorem dX6_findHouse_116 : decode cX6_findHouse 116 = .ok (.iinc 6 1, 3) := by decide +kernel
theorem dX6_findHouse_119 : decode cX6_findHouse 119 = .ok (.goto (-66), 3) := by decide +kernel
theorem dX6_findHouse_122 : decode cX6_findHouse 122 = .ok (.aload_n 0, 1) := by decide +kernel
theorem dX6_findHouse_123 : decode cX6_findHouse 123 = .ok (.getfield 65, 3) := by decide +kernel
theorem dX6_findHouse_126 : decode cX6_findHouse 126 = .ok (.bipush 44, 2) := by decide +kernel
theorem dX6_findHouse_128 : decode cX6_findHouse 128 = .ok (.iload_n 1, 1) := by decide +kernel
theorem dX6_findHouse_129 : decode cX6_findHouse 129 = .ok (.imul, 1) := by decide +kernel
theorem dX6_findHouse_130 : decode cX6_findHouse 130 = .ok (.iconst 2, 1) := by decide +kernel
theorem dX6_findHouse_131 : decode cX6_findHouse 131 = .ok (.iload_n 2, 1) := by decide +kernel
theorem dX6_findHouse_132 : decode cX6_findHouse 132 = .ok (.imul, 1) := by decide +kernel
theorem dX6_findHouse_133 : decode cX6_findHouse 133 = .ok (.iadd, 1) := by decide +kernel
theorem dX6_findHouse_134 : decode cX6_findHouse 134 = .ok (.iload_n 3, 1) := by decide +kernel
theorem dX6_findHouse_135 : decode cX6_findHouse 135 = .ok (.iadd, 1) := by decide +kernel
theorem dX6_findHouse_136 : decode cX6_findHouse 136 = .ok (.lload 4, 2) := by decide +kernel
theorem dX6_findHouse_138 : decode cX6_findHouse 138 = .ok (.lastore, 1) := by decide +kernel
theorem dX6_findHouse_139 : decode cX6_findHouse 139 = .ok (.iinc 3 1, 3) := by decide +kernel
theorem dX6_findHouse_142 : decode cX6_findHouse 142 = .ok (.goto (-119), 3) := by decide +kernel
theorem dX6_findHouse_145 : decode cX6_findHouse 145 = .ok (.iinc 2 1, 3) := by decide +kernel
theorem dX6_findHouse_148 : decode cX6_findHouse 148 = .ok (.goto (-133), 3) := by decide +kernel
theorem dX6_findHouse_151 : decode cX6_findHouse 151 = .ok (.iinc 1 1, 3) := by decide +kernel
theorem dX6_findHouse_154 : decode cX6_findHouse 154 = .ok (.goto (-152), 3) := by decide +kernel
theorem dX6_findHouse_157 : decode cX6_findHouse 157 = .ok (.return_, 1) := by decide +kernel
theorem dX6_houseFor_0 : decode cX6_houseFor 0 = .ok (.aload_n 0, 1) := by decide +kernel
theorem dX6_houseFor_1 : decode cX6_houseFor 1 = .ok (.iload_n 1, 1) := by decide +kernel
theorem dX6_houseFor_2 : decode cX6_houseFor 2 = .ok (.aload_n 0, 1) := by decide +kernel
theorem dX6_houseFor_3 : decode cX6_houseFor 3 = .ok (.getfield 193, 3) := by decide +kernel
theorem dX6_houseFor_6 : decode cX6_houseFor 6 = .ok (.aload_n 0, 1) := by decide +kernel
theorem dX6_houseFor_7 : decode cX6_houseFor 7 = .ok (.getfield 193, 3) := by decide +kernel
theorem dX6_houseFor_10 : decode cX6_houseFor 10 = .ok (.iconst 1, 1) := by decide +kernel
theorem dX6_houseFor_11 : decode cX6_houseFor 11 = .ok (.if_icmp .ne 7, 3) := by decide +kernel
theorem dX6_houseFor_14 : decode cX6_houseFor 14 = .ok (.iconst 1, 1) := by decide +kernel
theorem dX6_houseFor_15 : decode cX6_houseFor 15 = .ok (.goto 4, 3) := by decide +kernel
theorem dX6_houseFor_18 : decode cX6_houseFor 18 = .ok (.iconst 0, 1) := by decide +kernel
theorem dX6_houseFor_19 : decode cX6_houseFor 19 = .ok (.invokevirtual 196, 3) := by decide +kernel
theorem dX6_houseFor_22 : decode cX6_houseFor 22 = .ok (.lreturn, 1) := by decide +kernel
theorem dX6_valueAt_0 : decode cX6_valueAt 0 = .ok (.aload_n 0, 1) := by decide +kernel
theorem dX6_valueAt_1 : decode cX6_valueAt 1 = .ok (.getfield 200, 3) := by decide +kernel
theorem dX6_valueAt_4 : decode cX6_valueAt 4 = .ok (.aload_n 0, 1) := by decide +kernel
theorem dX6_valueAt_5 : decode cX6_valueAt 5 = .ok (.getfield 61, 3) := by decide +kernel
theorem dX6_valueAt_8 : decode cX6_valueAt 8 = .ok (.aload_n 0, 1) := by decide +kernel
theorem dX6_valueAt_9 : decode cX6_valueAt 9 = .ok (.getfield 170, 3) := by decide +kernel
theorem dX6_valueAt_12 : decode cX6_valueAt 12 = .ok (.iconst 1, 1) := by decide +kernel
theorem dX6_valueAt_13 : decode cX6_valueAt 13 = .ok (.isub, 1) := by decide +kernel
theorem dX6_valueAt_14 : decode cX6_valueAt 14 = .ok (.iaload, 1) := by decide +kernel
theorem dX6_valueAt_15 : decode cX6_valueAt 15 = .ok (.iadd, 1) := by decide +kernel
theorem dX6_valueAt_16 : decode cX6_valueAt 16 = .ok (.aload_n 0, 1) := by decide +kernel
theorem dX6_valueAt_17 : decode cX6_valueAt 17 = .ok (.getfield 61, 3) := by decide +kernel
theorem dX6_valueAt_20 : decode cX6_valueAt 20 = .ok (.iload_n 1, 1) := by decide +kernel
theorem dX6_valueAt_21 : decode cX6_valueAt 21 = .ok (.iaload, 1) := by decide +kernel
theorem dX6_valueAt_22 : decode cX6_valueAt 22 = .ok (.isub, 1) := by decide +kernel
theorem dX6_valueAt_23 : decode cX6_valueAt 23 = .ok (.istore_n 2, 1) := by decide +kernel
theorem dX6_valueAt_24 : decode cX6_valueAt 24 = .ok (.aload_n 0, 1) := by decide +kernel
theorem dX6_valueAt_25 : decode cX6_valueAt 25 = .ok (.iload_n 2, 1) := by decide +kernel
theorem dX6_valueAt_26 : decode cX6_valueAt 26 = .ok (.aload_n 0, 1) := by decide +kernel
theorem dX6_valueAt_27 : decode cX6_valueAt 27 = .ok (.getfield 203, 3) := by decide +kernel
theorem dX6_valueAt_30 : decode cX6_valueAt 30 = .ok (.ifCond .ne 18, 3) := by decide +kernel
theorem dX6_valueAt_33 : decode cX6_valueAt 33 = .ok (.aload_n 0, 1) := by decide +kernel
theorem dX6_valueAt_34 : decode cX6_valueAt 34 = .ok (.iload_n 1, 1) := by decide +kernel
theorem dX6_valueAt_35 : decode cX6_valueAt 35 = .ok (.iconst 1, 1) := by decide +kernel
theorem dX6_valueAt_36 : decode cX6_valueAt 36 = .ok (.invokevirtual 173, 3) := by decide +kernel
theorem dX6_valueAt_39 : decode cX6_valueAt 39 = .ok (.aload_n 0, 1) := by decide +kernel
theorem dX6_valueAt_40 : decode cX6_valueAt 40 = .ok (.getfield 52, 3) := by decide +kernel
theorem dX6_valueAt_43 : decode cX6_valueAt 43 = .ok (.iconst 1, 1) := by decide +kernel
theorem dX6_valueAt_44 : decode cX6_valueAt 44 = .ok (.iaload, 1) := by decide +kernel
theorem dX6_valueAt_45 : decode cX6_valueAt 45 = .ok (.if_icmp .ge 7, 3) := by decide +kernel
theorem dX6_valueAt_48 : decode cX6_valueAt 48 = .ok (.iconst 1, 1) := by decide +kernel
theorem dX6_valueAt_49 : decode cX6_valueAt 49 = .ok (.goto 4, 3) := by decide +kernel
theorem dX6_valueAt_52 : decode cX6_valueAt 52 = .ok (.iconst 0, 1) := by decide +kernel
theorem dX6_valueAt_53 : decode cX6_valueAt 53 = .ok (.invokevirtual 143, 3) := by decide +kernel
theorem dX6_valueAt_56 : decode cX6_valueAt 56 = .ok (.ireturn, 1) := by decide +kernel
theorem dX6_findStands_0 : decode cX6_findStands 0 = .ok (.aload_n 0, 1) := by decide +kernel
theorem dX6_findStands_1 : decode cX6_findStands 1 = .ok (.iconst 0, 1) := by decide +kernel
theorem dX6_findStands_2 : decode cX6_findStands 2 = .ok (.putfield 177, 3) := by decide +kernel
theorem dX6_findStands_5 : decode cX6_findStands 5 = .ok (.aload_n 0, 1) := by decide +kernel
theorem dX6_findStands_6 : decode cX6_findStands 6 = .ok (.iconst 2, 1) := by decide +kernel
theorem dX6_findStands_7 : decode cX6_findStands 7 = .ok (.putfield 183, 3) := by decide +kernel
theorem dX6_findStands_10 : decode cX6_findStands 10 = .ok (.iconst 1, 1) := by decide +kernel
theorem dX6_findStands_11 : decode cX6_findStands 11 = .ok (.istore_n 1, 1) := by decide +kernel
theorem dX6_findStands_12 : decode cX6_findStands 12 = .ok (.iload_n 1, 1) := by decide +kernel
theorem dX6_findStands_13 : decode cX6_findStands 13 = .ok (.aload_n 0, 1) := by decide +kernel
theorem dX6_findStands_14 : decode cX6_findStands 14 = .ok (.getfield 25, 3) := by decide +kernel
theorem dX6_findStands_17 : decode cX6_findStands 17 = .ok (.if_icmp .gt 104, 3) := by decide +kernel
theorem dX6_findStands_20 : decode cX6_findStands 20 = .ok (.iconst 0, 1) := by decide +kernel
theorem dX6_findStands_21 : decode cX6_findStands 21 = .ok (.istore_n 2, 1) := by decide +kernel
theorem dX6_findStands_22 : decode cX6_findStands 22 = .ok (.iconst 0, 1) := by decide +kernel
theorem dX6_findStands_23 : decode cX6_findStands 23 = .ok (.istore_n 3, 1) := by decide +kernel
theorem dX6_findStands_24 : decode cX6_findStands 24 = .ok (.iload_n 3, 1) := by decide +kernel
theorem dX6_findStands_25 : decode cX6_findStands 25 = .ok (.aload_n 0, 1) := by decide +kernel
theorem dX6_findStands_26 : decode cX6_findStands 26 = .ok (.getfield 170, 3) := by decide +kernel
theorem dX6_findStands_29 : decode cX6_findStands 29 = .ok (.if_icmp .ge 28, 3) := by decide +kernel
theorem dX6_findStands_32 : decode cX6_findStands 32 = .ok (.iload_n 2, 1) := by decide +kernel
theorem dX6_findStands_33 : decode cX6_findStands 33 = .ok (.ifCond .ne 12, 3) := by decide +kernel
theorem dX6_findStands_36 : decode cX6_findStands 36 = .ok (.aload_n 0, 1) := by decide +kernel
theorem dX6_findStands_37 : decode cX6_findStands 37 = .ok (.iload_n 3, 1) := by decide +kernel
theorem dX6_findStands_38 : decode cX6_findStands 38 = .ok (.invokevirtual 206, 3) := by decide +kernel
theorem dX6_findStands_41 : decode cX6_findStands 41 = .ok (.iload_n 1, 1) := by decide +kernel
theorem dX6_findStands_42 : decode cX6_findStands 42 = .ok (.if_icmp .ne 7, 3) := by decide +kernel
theorem dX6_findStands_45 : decode cX6_findStands 45 = .ok (.iconst 1, 1) := by decide +kernel
theorem dX6_findStands_46 : decode cX6_findStands 46 = .ok (.goto 4, 3) := by decide +kernel
theorem dX6_findStands_49 : decode cX6_findStands 49 = .ok (.iconst 0, 1) := by decide +kernel
theorem dX6_findStands_50 : decode cX6_findStands 50 = .ok (.istore_n 2, 1) := by decide +kernel
theorem dX6_findStands_51 : decode cX6_findStands 51 = .ok (.iinc 3 1, 3) := by decide +kernel
theorem dX6_findStands_54 : decode cX6_findStands 54 = .ok (.goto (-30), 3) := by decide +kernel
theorem dX6_findStands_57 : decode cX6_findStands 57 = .ok (.iload_n 2, 1) := by decide +kernel
theorem dX6_findStands_58 : decode cX6_findStands 58 = .ok (.ifCond .eq 57, 3) := by decide +kernel
theorem dX6_findStands_61 : decode cX6_findStands 61 = .ok (.aload_n 0, 1) := by decide +kernel
theorem dX6_findStands_62 : decode cX6_findStands 62 = .ok (.iload_n 1, 1) := by decide +kernel
theorem dX6_findStands_63 : decode cX6_findStands 63 = .ok (.putfield 180, 3) := by decide +kernel
theorem dX6_findStands_66 : decode cX6_findStands 66 = .ok (.aload_n 0, 1) := by decide +kernel
theorem dX6_findStands_67 : decode cX6_findStands 67 = .ok (.invokevirtual 210, 3) := by decide +kernel
theorem dX6_findStands_70 : decode cX6_findStands 70 = .ok (.iconst 0, 1) := by decide +kernel
theorem dX6_findStands_71 : decode cX6_findStands 71 = .ok (.istore_n 3, 1) := by decide +kernel
theorem dX6_findStands_72 : decode cX6_findStands 72 = .ok (.iload_n 3, 1) := by decide +kernel
theorem dX6_findStands_73 : decode cX6_findStands 73 = .ok (.aload_n 0, 1) := by decide +kernel
theorem dX6_findStands_74 : decode cX6_findStands 74 = .ok (.getfield 170, 3) := by decide +kernel
theorem dX6_findStands_77 : decode cX6_findStands 77 = .ok (.if_icmp .ge 38, 3) := by decide +kernel
theorem dX6_findStands_80 : decode cX6_findStands 80 = .ok (.aload_n 0, 1) := by decide +kernel
theorem dX6_findStands_81 : decode cX6_findStands 81 = .ok (.getfield 68, 3) := by decide +kernel
theorem dX6_findStands_84 : decode cX6_findStands 84 = .ok (.iload_n 3, 1) := by decide +kernel
theorem dX6_findStands_85 : decode cX6_findStands 85 = .ok (.aload_n 0, 1) := by decide +kernel
theorem dX6_findStands_86 : decode cX6_findStands 86 = .ok (.iload_n 3, 1) := by decide +kernel
theorem dX6_findStands_87 : decode cX6_findStands 87 = .ok (.invokevirtual 206, 3) := by decide +kernel
theorem dX6_findStands_90 : decode cX6_findStands 90 = .ok (.iload_n 1, 1) := by decide +kernel
theorem dX6_findStands_91 : decode cX6_findStands 91 = .ok (.if_icmp .ne 11, 3) := by decide +kernel
theorem dX6_findStands_94 : decode cX6_findStands 94 = .ok (.aload_n 0, 1) := by decide +kernel
theorem dX6_findStands_95 : decode cX6_findStands 95 = .ok (.iload_n 3, 1) := by decide +kernel
theorem dX6_findStands_96 : decode cX6_findStands 96 = .ok (.invokevirtual 213, 3) := by decide +kernel
theorem dX6_findStands_99 : decode cX6_findStands 99 = .ok (.goto 9, 3) := by decide +kernel
theorem dX6_findStands_102 : decode cX6_findStands 102 = .ok (.aload_n 0, 1) := by decide +kernel
theorem dX6_findStands_103 : decode cX6_findStands 103 = .ok (.getfield 68, 3) := by decide +kernel
theorem dX6_findStands_106 : decode cX6_findStands 106 = .ok (.iload_n 3, 1) := by decide +kernel
theorem dX6_findStands_107 : decode cX6_findStands 107 = .ok (.laload, 1) := by decide +kernel
theorem dX6_findStands_108 : decode cX6_findStands 108 = .ok (.lastore, 1) := by decide +kernel
theorem dX6_findStands_109 : decode cX6_findStands 109 = .ok (.iinc 3 1, 3) := by decide +kernel
theorem dX6_findStands_112 : decode cX6_findStands 112 = .ok (.goto (-40), 3) := by decide +kernel
theorem dX6_findStands_115 : decode cX6_findStands 115 = .ok (.iinc 1 1, 3) := by decide +kernel
theorem dX6_findStands_118 : decode cX6_findStands 118 = .ok (.goto (-106), 3) := by decide +kernel
theorem dX6_findStands_121 : decode cX6_findStands 121 = .ok (.iconst 0, 1) := by decide +kernel
theorem dX6_findStands_122 : decode cX6_findStands 122 = .ok (.istore_n 1, 1) := by decide +kernel
theorem dX6_findStands_123 : decode cX6_findStands 123 = .ok (.iload_n 1, 1) := by decide +kernel
theorem dX6_findStands_124 : decode cX6_findStands 124 = .ok (.aload_n 0, 1) := by decide +kernel
theorem dX6_findStands_125 : decode cX6_findStands 125 = .ok (.getfield 170, 3) := by decide +kernel
theorem dX6_findStands_128 : decode cX6_findStands 128 = .ok (.if_icmp .ge 51, 3) := by decide +kernel
theorem dX6_findStands_131 : decode cX6_findStands 131 = .ok (.aload_n 0, 1) := by decide +kernel
theorem dX6_findStands_132 : decode cX6_findStands 132 = .ok (.getfield 68, 3) := by decide +kernel
theorem dX6_findStands_135 : decode cX6_findStands 135 = .ok (.iload_n 1, 1) := by decide +kernel
theorem dX6_findStands_136 : decode cX6_findStands 136 = .ok (.aload_n 0, 1) := by decide +kernel
theorem dX6_findStands_137 : decode cX6_findStands 137 = .ok (.iload_n 1, 1) := by decide +kernel
theorem dX6_findStands_138 : decode cX6_findStands 138 = .ok (.invokevirtual 206, 3) := by decide +kernel
theorem dX6_findStands_141 : decode cX6_findStands 141 = .ok (.aload_n 0, 1) := by decide +kernel
theorem dX6_findStands_142 : decode cX6_findStands 142 = .ok (.getfield 25, 3) := by decide +kernel
theorem dX6_findStands_145 : decode cX6_findStands 145 = .ok (.if_icmp .le 21, 3) := by decide +kernel
theorem dX6_findStands_148 : decode cX6_findStands 148 = .ok (.ldc2_w 217, 3) := by decide +kernel
theorem dX6_findStands_151 : decode cX6_findStands 151 = .ok (.aload_n 0, 1) := by decide +kernel
theorem dX6_findStands_152 : decode cX6_findStands 152 = .ok (.getfield 48, 3) := by decide +kernel
theorem dX6_findStands_155 : decode cX6_findStands 155 = .ok (.aload_n 0, 1) := by decide +kernel
theorem dX6_findStands_156 : decode cX6_findStands 156 = .ok (.getfield 58, 3) := by decide +kernel
theorem dX6_findStands_159 : decode cX6_findStands 159 = .ok (.iload_n 1, 1) := by decide +kernel
theorem dX6_findStands_160 : decode cX6_findStands 160 = .ok (.iaload, 1) := by decide +kernel
theorem dX6_findStands_161 : decode cX6_findStands 161 = .ok (.laload, 1) := by decide +kernel
theorem dX6_findStands_162 : decode cX6_findStands 162 = .ok (.lmul, 1) := by decide +kernel
theorem dX6_findStands_163 : decode cX6_findStands 163 = .ok (.goto 9, 3) := by decide +kernel
theorem dX6_findStands_166 : decode cX6_findStands 166 = .ok (.aload_n 0, 1) := by decide +kernel
theorem dX6_findStands_167 : decode cX6_findStands 167 = .ok (.getfield 68, 3) := by decide +kernel
theorem dX6_findStands_170 : decode cX6_findStands 170 = .ok (.iload_n 1, 1) := by decide +kernel
theorem dX6_findStands_171 : decode cX6_findStands 171 = .ok (.laload, 1) := by decide +kernel
theorem dX6_findStands_172 : decode cX6_findStands 172 = .ok (.lastore, 1) := by decide +kernel
theorem dX6_findStands_173 : decode cX6_findStands 173 = .ok (.iinc 1 1, 3) := by decide +kernel
theorem dX6_findStands_176 : decode cX6_findStands 176 = .ok (.goto (-53), 3) := by decide +kernel
theorem dX6_findStands_179 : decode cX6_findStands 179 = .ok (.return_, 1) := by decide +kernel
theorem dX6_standWorth_0 : decode cX6_standWorth 0 = .ok (.aload_n 0, 1) := by decide +kernel
theorem dX6_standWorth_1 : decode cX6_standWorth 1 = .ok (.iconst 0, 1) := by decide +kernel
theorem dX6_standWorth_2 : decode cX6_standWorth 2 = .ok (.putfield 177, 3) := by decide +kernel
theorem dX6_standWorth_5 : decode cX6_standWorth 5 = .ok (.aload_n 0, 1) := by decide +kernel
theorem dX6_standWorth_6 : decode cX6_standWorth 6 = .ok (.aload_n 0, 1) := by decide +kernel
theorem dX6_standWorth_7 : decode cX6_standWorth 7 = .ok (.aload_n 0, 1) := by decide +kernel
theorem dX6_standWorth_8 : decode cX6_standWorth 8 = .ok (.getfield 170, 3) := by decide +kernel
theorem dX6_standWorth_11 : decode cX6_standWorth 11 = .ok (.iconst 1, 1) := by decide +kernel
theorem dX6_standWorth_12 : decode cX6_standWorth 12 = .ok (.isub, 1) := by decide +kernel
theorem dX6_standWorth_13 : decode cX6_standWorth 13 = .ok (.invokevirtual 206, 3) := by decide +kernel
theorem dX6_standWorth_16 : decode cX6_standWorth 16 = .ok (.putfield 180, 3) := by decide +kernel
theorem dX6_standWorth_19 : decode cX6_standWorth 19 = .ok (.aload_n 0, 1) := by decide +kernel
theorem dX6_standWorth_20 : decode cX6_standWorth 20 = .ok (.aload_n 0, 1) := by decide +kernel
theorem dX6_standWorth_21 : decode cX6_standWorth 21 = .ok (.getfield 219, 3) := by decide +kernel
theorem dX6_standWorth_24 : decode cX6_standWorth 24 = .ok (.iconst 2, 1) := by decide +kernel
theorem dX6_standWorth_25 : decode cX6_standWorth 25 = .ok (.if_icmp .ne 21, 3) := by decide +kernel
theorem dX6_standWorth_28 : decode cX6_standWorth 28 = .ok (.aload_n 0, 1) := by decide +kernel
theorem dX6_standWorth_29 : decode cX6_standWorth 29 = .ok (.getfield 180, 3) := by decide +kernel
theorem dX6_standWorth_32 : decode cX6_standWorth 32 = .ok (.aload_n 0, 1) := by decide +kernel
theorem dX6_standWorth_33 : decode cX6_standWorth 33 = .ok (.getfield 25, 3) := by decide +kernel
theorem dX6_standWorth_36 : decode cX6_standWorth 36 = .ok (.if_icmp .ne 10, 3) := by decide +kernel
theorem dX6_standWorth_39 : decode cX6_standWorth 39 = .ok (.aload_n 0, 1) := by decide +kernel
theorem dX6_standWorth_40 : decode cX6_standWorth 40 = .ok (.getfield 41, 3) := by decide +kernel
theorem dX6_standWorth_43 : decode cX6_standWorth 43 = .ok (.goto 4, 3) := by decide +kernel
theorem dX6_standWorth_46 : decode cX6_standWorth 46 = .ok (.iconst 2, 1) := by decide +kernel
theorem dX6_standWorth_47 : decode cX6_standWorth 47 = .ok (.putfield 183, 3) := by decide +kernel
theorem dX6_standWorth_50 : decode cX6_standWorth 50 = .ok (.aload_n 0, 1) := by decide +kernel
theorem dX6_standWorth_51 : decode cX6_standWorth 51 = .ok (.invokevirtual 210, 3) := by decide +kernel
theorem dX6_standWorth_54 : decode cX6_standWorth 54 = .ok (.aload_n 0, 1) := by decide +kernel
theorem dX6_standWorth_55 : decode cX6_standWorth 55 = .ok (.aload_n 0, 1) := by decide +kernel
theorem dX6_standWorth_56 : decode cX6_standWorth 56 = .ok (.getfield 170, 3) := by decide +kernel
theorem dX6_standWorth_59 : decode cX6_standWorth 59 = .ok (.iconst 1, 1) := by decide +kernel
theorem dX6_standWorth_60 : decode cX6_standWorth 60 = .ok (.isub, 1) := by decide +kernel
theorem dX6_standWorth_61 : decode cX6_standWorth 61 = .ok (.invokevirtual 213, 3) := by decide +kernel
theorem dX6_standWorth_64 : decode cX6_standWorth 64 = .ok (.lreturn, 1) := by decide +kernel
theorem dX6_drawWorth_0 : decode cX6_drawWorth 0 = .ok (.aload_n 0, 1) := by decide +kernel
theorem dX6_drawWorth_1 : decode cX6_drawWorth 1 = .ok (.invokevirtual 222, 3) := by decide +kernel
theorem dX6_drawWorth_4 : decode cX6_drawWorth 4 = .ok (.lconst 0, 1) := by decide +kernel
theorem dX6_drawWorth_5 : decode cX6_drawWorth 5 = .ok (.lstore_n 1, 1) := by decide +kernel
theorem dX6_drawWorth_6 : decode cX6_drawWorth 6 = .ok (.iconst 0, 1) := by decide +kernel
theorem dX6_drawWorth_7 : decode cX6_drawWorth 7 = .ok (.istore_n 3, 1) := by decide +kernel
theorem dX6_drawWorth_8 : decode cX6_drawWorth 8 = .ok (.iload_n 3, 1) := by decide +kernel
theorem dX6_drawWorth_9 : decode cX6_drawWorth 9 = .ok (.aload_n 0, 1) := by decide +kernel
theorem dX6_drawWorth_10 : decode cX6_drawWorth 10 = .ok (.getfield 170, 3) := by decide +kernel
theorem dX6_drawWorth_13 : decode cX6_drawWorth 13 = .ok (.if_icmp .ge 114, 3) := by decide +kernel
theorem dX6_drawWorth_16 : decode cX6_drawWorth 16 = .ok (.lconst 0, 1) := by decide +kernel
theorem dX6_drawWorth_17 : decode cX6_drawWorth 17 = .ok (.lstore_n 1, 1) := by decide +kernel
theorem dX6_drawWorth_18 : decode cX6_drawWorth 18 = .ok (.iconst 1, 1) := by decide +kernel
theorem dX6_drawWorth_19 : decode cX6_drawWorth 19 = .ok (.istore 4, 2) := by decide +kernel
theorem dX6_drawWorth_21 : decode cX6_drawWorth 21 = .ok (.iload 4, 2) := by decide +kernel
theorem dX6_drawWorth_23 : decode cX6_drawWorth 23 = .ok (.bipush 11, 2) := by decide +kernel
theorem dX6_drawWorth_25 : decode cX6_drawWorth 25 = .ok (.if_icmp .ge 48, 3) := by decide +kernel
theorem dX6_drawWorth_28 : decode cX6_drawWorth 28 = .ok (.aload_n 0, 1) := by decide +kernel
theorem dX6_drawWorth_29 : decode cX6_drawWorth 29 = .ok (.iload_n 3, 1) := by decide +kernel
theorem dX6_drawWorth_30 : decode cX6_drawWorth 30 = .ok (.iload 4, 2) := by decide +kernel
theorem dX6_drawWorth_32 : decode cX6_drawWorth 32 = .ok (.invokevirtual 173, 3) := by decide +kernel
theorem dX6_drawWorth_35 : decode cX6_drawWorth 35 = .ok (.istore 5, 2) := by decide +kernel
theorem dX6_drawWorth_37 : decode cX6_drawWorth 37 = .ok (.lload_n 1, 1) := by decide +kernel
theorem dX6_drawWorth_38 : decode cX6_drawWorth 38 = .ok (.iload 5, 2) := by decide +kernel
theorem dX6_drawWorth_40 : decode cX6_drawWorth 40 = .ok (.ifCond .le 24, 3) := by decide +kernel
theorem dX6_drawWorth_43 : decode cX6_drawWorth 43 = .ok (.iload 5, 2) := by decide +kernel
theorem dX6_drawWorth_45 : decode cX6_drawWorth 45 = .ok (.i2l, 1) := by decide +kernel
theorem dX6_drawWorth_46 : decode cX6_drawWorth 46 = .ok (.aload_n 0, 1) := by decide +kernel
theorem dX6_drawWorth_47 : decode cX6_drawWorth 47 = .ok (.getfield 71, 3) := by decide +kernel
theorem dX6_drawWorth_50 : decode cX6_drawWorth 50 = .ok (.iload_n 3, 1) := by decide +kernel
theorem dX6_drawWorth_51 : decode cX6_drawWorth 51 = .ok (.aload_n 0, 1) := by decide +kernel
theorem dX6_drawWorth_52 : decode cX6_drawWorth 52 = .ok (.getfield 55, 3) := by decide +kernel
theorem dX6_drawWorth_55 : decode cX6_drawWorth 55 = .ok (.iload 4, 2) := by decide +kernel
theorem dX6_drawWorth_57 : decode cX6_drawWorth 57 = .ok (.iaload, 1) := by decide +kernel
theorem dX6_drawWorth_58 : decode cX6_drawWorth 58 = .ok (.isub, 1) := by decide +kernel
theorem dX6_drawWorth_59 : decode cX6_drawWorth 59 = .ok (.laload, 1) := by decide +kernel
theorem dX6_drawWorth_60 : decode cX6_drawWorth 60 = .ok (.lmul, 1) := by decide +kernel
theorem dX6_drawWorth_61 : decode cX6_drawWorth 61 = .ok (.goto 4, 3) := by decide +kernel
theorem dX6_drawWorth_64 : decode cX6_drawWorth 64 = .ok (.lconst 0, 1) := by decide +kernel
theorem dX6_drawWorth_65 : decode cX6_drawWorth 65 = .ok (.ladd, 1) := by decide +kernel
theorem dX6_drawWorth_66 : decode cX6_drawWorth 66 = .ok (.lstore_n 1, 1) := by decide +kernel
theorem dX6_drawWorth_67 : decode cX6_drawWorth 67 = .ok (.iinc 4 1, 3) := by decide +kernel
theorem dX6_drawWorth_70 : decode cX6_drawWorth 70 = .ok (.goto (-49), 3) := by decide +kernel
theorem dX6_drawWorth_73 : decode cX6_drawWorth 73 = .ok (.aload_n 0, 1) := by decide +kernel
theorem dX6_drawWorth_74 : decode cX6_drawWorth 74 = .ok (.getfield 71, 3) := by decide +kernel
theorem dX6_drawWorth_77 : decode cX6_drawWorth 77 = .ok (.iload_n 3, 1) := by decide +kernel
theorem dX6_drawWorth_78 : decode cX6_drawWorth 78 = .ok (.aload_n 0, 1) := by decide +kernel
theorem dX6_drawWorth_79 : decode cX6_drawWorth 79 = .ok (.iload_n 3, 1) := by decide +kernel
theorem dX6_drawWorth_80 : decode cX6_drawWorth 80 = .ok (.invokevirtual 206, 3) := by decide +kernel
theorem dX6_drawWorth_83 : decode cX6_drawWorth 83 = .ok (.aload_n 0, 1) := by decide +kernel
theorem dX6_drawWorth_84 : decode cX6_drawWorth 84 = .ok (.getfield 25, 3) := by decide +kernel
theorem dX6_drawWorth_87 : decode cX6_drawWorth 87 = .ok (.if_icmp .gt 23, 3) := by decide +kernel
theorem dX6_drawWorth_90 : decode cX6_drawWorth 90 = .ok (.aload_n 0, 1) := by decide +kernel
theorem dX6_drawWorth_91 : decode cX6_drawWorth 91 = .ok (.getfield 58, 3) := by decide +kernel
theorem dX6_drawWorth_94 : decode cX6_drawWorth 94 = .ok (.iload_n 3, 1) := by decide +kernel
theorem dX6_drawWorth_95 : decode cX6_drawWorth 95 = .ok (.iaload, 1) := by decide +kernel
theorem dX6_drawWorth_96 : decode cX6_drawWorth 96 = .ok (.ifCond .eq 14, 3) := by decide +kernel
theorem dX6_drawWorth_99 : decode cX6_drawWorth 99 = .ok (.aload_n 0, 1) := by decide +kernel
theorem dX6_drawWorth_100 : decode cX6_drawWorth 100 = .ok (.getfield 68, 3) := by decide +kernel
theorem dX6_drawWorth_103 : decode cX6_drawWorth 103 = .ok (.iload_n 3, 1) := by decide +kernel
theorem dX6_drawWorth_104 : decode cX6_drawWorth 104 = .ok (.laload, 1) := by decide +kernel
theorem dX6_drawWorth_105 : decode cX6_drawWorth 105 = .ok (.lload_n 1, 1) := by decide +kernel
theorem dX6_drawWorth_106 : decode cX6_drawWorth 106 = .ok (.lcmp, 1) := by decide +kernel
theorem dX6_drawWorth_107 : decode cX6_drawWorth 107 = .ok (.ifCond .le 12, 3) := by decide +kernel
theorem dX6_drawWorth_110 : decode cX6_drawWorth 110 = .ok (.aload_n 0, 1) := by decide +kernel
theorem dX6_drawWorth_111 : decode cX6_drawWorth 111 = .ok (.getfield 68, 3) := by decide +kernel
theorem dX6_drawWorth_114 : decode cX6_drawWorth 114 = .ok (.iload_n 3, 1) := by decide +kernel
theorem dX6_drawWorth_115 : decode cX6_drawWorth 115 = .ok (.laload, 1) := by decide +kernel
theorem dX6_drawWorth_116 : decode cX6_drawWorth 116 = .ok (.goto 4, 3) := by decide +kernel
theorem dX6_drawWorth_119 : decode cX6_drawWorth 119 = .ok (.lload_n 1, 1) := by decide +kernel
theorem dX6_drawWorth_120 : decode cX6_drawWorth 120 = .ok (.lastore, 1) := by decide +kernel
theorem dX6_drawWorth_121 : decode cX6_drawWorth 121 = .ok (.iinc 3 1, 3) := by decide +kernel
theorem dX6_drawWorth_124 : decode cX6_drawWorth 124 = .ok (.goto (-116), 3) := by decide +kernel
theorem dX6_drawWorth_127 : decode cX6_drawWorth 127 = .ok (.lload_n 1, 1) := by decide +kernel
theorem dX6_drawWorth_128 : decode cX6_drawWorth 128 = .ok (.lreturn, 1) := by decide +kernel
theorem dX6_doubleWorth_0 : decode cX6_doubleWorth 0 = .ok (.aload_n 0, 1) := by decide +kernel
theorem dX6_doubleWorth_1 : decode cX6_doubleWorth 1 = .ok (.invokevirtual 222, 3) := by decide +kernel
theorem dX6_doubleWorth_4 : decode cX6_doubleWorth 4 = .ok (.aload_n 0, 1) := by decide +kernel
theorem dX6_doubleWorth_5 : decode cX6_doubleWorth 5 = .ok (.getfield 170, 3) := by decide +kernel
theorem dX6_doubleWorth_8 : decode cX6_doubleWorth 8 = .ok (.iconst 1, 1) := by decide +kernel
theorem dX6_doubleWorth_9 : decode cX6_doubleWorth 9 = .ok (.isub, 1) := by decide +kernel
theorem dX6_doubleWorth_10 : decode cX6_doubleWorth 10 = .ok (.istore_n 1, 1) := by decide +kernel
theorem dX6_doubleWorth_11 : decode cX6_doubleWorth 11 = .ok (.lconst 0, 1) := by decide +kernel
theorem dX6_doubleWorth_12 : decode cX6_doubleWorth 12 = .ok (.lstore_n 2, 1) := by decide +kernel
theorem dX6_doubleWorth_13 : decode cX6_doubleWorth 13 = .ok (.iconst 1, 1) := by decide +kernel
theorem dX6_doubleWorth_14 : decode cX6_doubleWorth 14 = .ok (.istore 4, 2) := by decide +kernel
theorem dX6_doubleWorth_16 : decode cX6_doubleWorth 16 = .ok (.iload 4, 2) := by decide +kernel
theorem dX6_doubleWorth_18 : decode cX6_doubleWorth 18 = .ok (.bipush 11, 2) := by decide +kernel
theorem dX6_doubleWorth_20 : decode cX6_doubleWorth 20 = .ok (.if_icmp .ge 48, 3) := by decide +kernel
theorem dX6_doubleWorth_23 : decode cX6_doubleWorth 23 = .ok (.aload_n 0, 1) := by decide +kernel
theorem dX6_doubleWorth_24 : decode cX6_doubleWorth 24 = .ok (.iload_n 1, 1) := by decide +kernel
theorem dX6_doubleWorth_25 : decode cX6_doubleWorth 25 = .ok (.iload 4, 2) := by decide +kernel
theorem dX6_doubleWorth_27 : decode cX6_doubleWorth 27 = .ok (.invokevirtual 173, 3) := by decide +kernel
theorem dX6_doubleWorth_30 : decode cX6_doubleWorth 30 = .ok (.istore 5, 2) := by decide +kernel
theorem dX6_doubleWorth_32 : decode cX6_doubleWorth 32 = .ok (.lload_n 2, 1) := by decide +kernel
theorem dX6_doubleWorth_33 : decode cX6_doubleWorth 33 = .ok (.iload 5, 2) := by decide +kernel
theorem dX6_doubleWorth_35 : decode cX6_doubleWorth 35 = .ok (.ifCond .le 24, 3) := by decide +kernel
theorem dX6_doubleWorth_38 : decode cX6_doubleWorth 38 = .ok (.iload 5, 2) := by decide +kernel
theorem dX6_doubleWorth_40 : decode cX6_doubleWorth 40 = .ok (.i2l, 1) := by decide +kernel
theorem dX6_doubleWorth_41 : decode cX6_doubleWorth 41 = .ok (.aload_n 0, 1) := by decide +kernel
theorem dX6_doubleWorth_42 : decode cX6_doubleWorth 42 = .ok (.getfield 68, 3) := by decide +kernel
theorem dX6_doubleWorth_45 : decode cX6_doubleWorth 45 = .ok (.iload_n 1, 1) := by decide +kernel
theorem dX6_doubleWorth_46 : decode cX6_doubleWorth 46 = .ok (.aload_n 0, 1) := by decide +kernel
theorem dX6_doubleWorth_47 : decode cX6_doubleWorth 47 = .ok (.getfield 55, 3) := by decide +kernel
theorem dX6_doubleWorth_50 : decode cX6_doubleWorth 50 = .ok (.iload 4, 2) := by decide +kernel
theorem dX6_doubleWorth_52 : decode cX6_doubleWorth 52 = .ok (.iaload, 1) := by decide +kernel
theorem dX6_doubleWorth_53 : decode cX6_doubleWorth 53 = .ok (.isub, 1) := by decide +kernel
theorem dX6_doubleWorth_54 : decode cX6_doubleWorth 54 = .ok (.laload, 1) := by decide +kernel
theorem dX6_doubleWorth_55 : decode cX6_doubleWorth 55 = .ok (.lmul, 1) := by decide +kernel
theorem dX6_doubleWorth_56 : decode cX6_doubleWorth 56 = .ok (.goto 4, 3) := by decide +kernel
theorem dX6_doubleWorth_59 : decode cX6_doubleWorth 59 = .ok (.lconst 0, 1) := by decide +kernel
theorem dX6_doubleWorth_60 : decode cX6_doubleWorth 60 = .ok (.ladd, 1) := by decide +kernel
theorem dX6_doubleWorth_61 : decode cX6_doubleWorth 61 = .ok (.lstore_n 2, 1) := by decide +kernel
theorem dX6_doubleWorth_62 : decode cX6_doubleWorth 62 = .ok (.iinc 4 1, 3) := by decide +kernel
theorem dX6_doubleWorth_65 : decode cX6_doubleWorth 65 = .ok (.goto (-49), 3) := by decide +kernel
theorem dX6_doubleWorth_68 : decode cX6_doubleWorth 68 = .ok (.ldc2_w 112, 3) := by decide +kernel
theorem dX6_doubleWorth_71 : decode cX6_doubleWorth 71 = .ok (.lload_n 2, 1) := by decide +kernel
theorem dX6_doubleWorth_72 : decode cX6_doubleWorth 72 = .ok (.lmul, 1) := by decide +kernel
theorem dX6_doubleWorth_73 : decode cX6_doubleWorth 73 = .ok (.lreturn, 1) := by decide +kernel
theorem dX6_splitWorth_0 : decode cX6_splitWorth 0 = .ok (.aload_n 0, 1) := by decide +kernel
theorem dX6_splitWorth_1 : decode cX6_splitWorth 1 = .ok (.iconst 0, 1) := by decide +kernel
theorem dX6_splitWorth_2 : decode cX6_splitWorth 2 = .ok (.putfield 177, 3) := by decide +kernel
theorem dX6_splitWorth_5 : decode cX6_splitWorth 5 = .ok (.aload_n 0, 1) := by decide +kernel
theorem dX6_splitWorth_6 : decode cX6_splitWorth 6 = .ok (.iconst 2, 1) := by decide +kernel
theorem dX6_splitWorth_7 : decode cX6_splitWorth 7 = .ok (.putfield 183, 3) := by decide +kernel
theorem dX6_splitWorth_10 : decode cX6_splitWorth 10 = .ok (.aload_n 0, 1) := by decide +kernel
theorem dX6_splitWorth_11 : decode cX6_splitWorth 11 = .ok (.getfield 170, 3) := by decide +kernel
theorem dX6_splitWorth_14 : decode cX6_splitWorth 14 = .ok (.iconst 1, 1) := by decide +kernel
theorem dX6_splitWorth_15 : decode cX6_splitWorth 15 = .ok (.isub, 1) := by decide +kernel
theorem dX6_splitWorth_16 : decode cX6_splitWorth 16 = .ok (.istore_n 1, 1) := by decide +kernel
theorem dX6_splitWorth_17 : decode cX6_splitWorth 17 = .ok (.lconst 0, 1) := by decide +kernel
theorem dX6_splitWorth_18 : decode cX6_splitWorth 18 = .ok (.lstore_n 2, 1) := by decide +kernel
theorem dX6_splitWorth_19 : decode cX6_splitWorth 19 = .ok (.iconst 1, 1) := by decide +kernel
theorem dX6_splitWorth_20 : decode cX6_splitWorth 20 = .ok (.istore 4, 2) := by decide +kernel
theorem dX6_splitWorth_22 : decode cX6_splitWorth 22 = .ok (.iload 4, 2) := by decide +kernel
theorem dX6_splitWorth_24 : decode cX6_splitWorth 24 = .ok (.bipush 11, 2) := by decide +kernel
theorem dX6_splitWorth_26 : decode cX6_splitWorth 26 = .ok (.if_icmp .ge 191, 3) := by decide +kernel
theorem dX6_splitWorth_29 : decode cX6_splitWorth 29 = .ok (.aload_n 0, 1) := by decide +kernel
theorem dX6_splitWorth_30 : decode cX6_splitWorth 30 = .ok (.aload_n 0, 1) := by decide +kernel
theorem dX6_splitWorth_31 : decode cX6_splitWorth 31 = .ok (.getfield 225, 3) := by decide +kernel
theorem dX6_splitWorth_34 : decode cX6_splitWorth 34 = .ok (.iload 4, 2) := by decide +kernel
theorem dX6_splitWorth_36 : decode cX6_splitWorth 36 = .ok (.iadd, 1) := by decide +kernel
theorem dX6_splitWorth_37 : decode cX6_splitWorth 37 = .ok (.aload_n 0, 1) := by decide +kernel
theorem dX6_splitWorth_38 : decode cX6_splitWorth 38 = .ok (.getfield 225, 3) := by decide +kernel
theorem dX6_splitWorth_41 : decode cX6_splitWorth 41 = .ok (.iconst 1, 1) := by decide +kernel
theorem dX6_splitWorth_42 : decode cX6_splitWorth 42 = .ok (.if_icmp .eq 9, 3) := by decide +kernel
theorem dX6_splitWorth_45 : decode cX6_splitWorth 45 = .ok (.iload 4, 2) := by decide +kernel
theorem dX6_splitWorth_47 : decode cX6_splitWorth 47 = .ok (.iconst 1, 1) := by decide +kernel
theorem dX6_splitWorth_48 : decode cX6_splitWorth 48 = .ok (.if_icmp .ne 7, 3) := by decide +kernel
theorem dX6_splitWorth_51 : decode cX6_splitWorth 51 = .ok (.iconst 1, 1) := by decide +kernel
theorem dX6_splitWorth_52 : decode cX6_splitWorth 52 = .ok (.goto 4, 3) := by decide +kernel
theorem dX6_splitWorth_55 : decode cX6_splitWorth 55 = .ok (.iconst 0, 1) := by decide +kernel
theorem dX6_splitWorth_56 : decode cX6_splitWorth 56 = .ok (.invokevirtual 143, 3) := by decide +kernel
theorem dX6_splitWorth_59 : decode cX6_splitWorth 59 = .ok (.istore 5, 2) := by decide +kernel
theorem dX6_splitWorth_61 : decode cX6_splitWorth 61 = .ok (.aload_n 0, 1) := by decide +kernel
theorem dX6_splitWorth_62 : decode cX6_splitWorth 62 = .ok (.iload_n 1, 1) := by decide +kernel
theorem dX6_splitWorth_63 : decode cX6_splitWorth 63 = .ok (.iload 4, 2) := by decide +kernel
theorem dX6_splitWorth_65 : decode cX6_splitWorth 65 = .ok (.invokevirtual 173, 3) := by decide +kernel
theorem dX6_splitWorth_68 : decode cX6_splitWorth 68 = .ok (.ifCond .le 143, 3) := by decide +kernel
theorem dX6_splitWorth_71 : decode cX6_splitWorth 71 = .ok (.aload_n 0, 1) := by decide +kernel
theorem dX6_splitWorth_72 : decode cX6_splitWorth 72 = .ok (.iload 5, 2) := by decide +kernel
theorem dX6_splitWorth_74 : decode cX6_splitWorth 74 = .ok (.putfield 180, 3) := by decide +kernel
theorem dX6_splitWorth_77 : decode cX6_splitWorth 77 = .ok (.iload 5, 2) := by decide +kernel
theorem dX6_splitWorth_79 : decode cX6_splitWorth 79 = .ok (.aload_n 0, 1) := by decide +kernel
theorem dX6_splitWorth_80 : decode cX6_splitWorth 80 = .ok (.getfield 25, 3) := by decide +kernel
theorem dX6_splitWorth_83 : decode cX6_splitWorth 83 = .ok (.if_icmp .gt 7, 3) := by decide +kernel
theorem dX6_splitWorth_86 : decode cX6_splitWorth 86 = .ok (.aload_n 0, 1) := by decide +kernel
theorem dX6_splitWorth_87 : decode cX6_splitWorth 87 = .ok (.invokevirtual 210, 3) := by decide +kernel
theorem dX6_splitWorth_90 : decode cX6_splitWorth 90 = .ok (.iconst 1, 1) := by decide +kernel
theorem dX6_splitWorth_91 : decode cX6_splitWorth 91 = .ok (.istore 6, 2) := by decide +kernel
theorem dX6_splitWorth_93 : decode cX6_splitWorth 93 = .ok (.iload 6, 2) := by decide +kernel
theorem dX6_splitWorth_95 : decode cX6_splitWorth 95 = .ok (.bipush 11, 2) := by decide +kernel
theorem dX6_splitWorth_97 : decode cX6_splitWorth 97 = .ok (.if_icmp .ge 114, 3) := by decide +kernel
theorem dX6_splitWorth_100 : decode cX6_splitWorth 100 = .ok (.aload_n 0, 1) := by decide +kernel
theorem dX6_splitWorth_101 : decode cX6_splitWorth 101 = .ok (.iload_n 1, 1) := by decide +kernel
theorem dX6_splitWorth_102 : decode cX6_splitWorth 102 = .ok (.iload 4, 2) := by decide +kernel
theorem dX6_splitWorth_104 : decode cX6_splitWorth 104 = .ok (.invokevirtual 173, 3) := by decide +kernel
theorem dX6_splitWorth_107 : decode cX6_splitWorth 107 = .ok (.iload 6, 2) := by decide +kernel
theorem dX6_splitWorth_109 : decode cX6_splitWorth 109 = .ok (.iload 4, 2) := by decide +kernel
theorem dX6_splitWorth_111 : decode cX6_splitWorth 111 = .ok (.if_icmp .ne 15, 3) := by decide +kernel
theorem dX6_splitWorth_114 : decode cX6_splitWorth 114 = .ok (.aload_n 0, 1) := by decide +kernel
theorem dX6_splitWorth_115 : decode cX6_splitWorth 115 = .ok (.iload_n 1, 1) := by decide +kernel
theorem dX6_splitWorth_116 : decode cX6_splitWorth 116 = .ok (.iload 6, 2) := by decide +kernel
theorem dX6_splitWorth_118 : decode cX6_splitWorth 118 = .ok (.invokevirtual 173, 3) := by decide +kernel
theorem dX6_splitWorth_121 : decode cX6_splitWorth 121 = .ok (.iconst 1, 1) := by decide +kernel
theorem dX6_splitWorth_122 : decode cX6_splitWorth 122 = .ok (.isub, 1) := by decide +kernel
theorem dX6_splitWorth_123 : decode cX6_splitWorth 123 = .ok (.goto 10, 3) := by decide +kernel
theorem dX6_splitWorth_126 : decode cX6_splitWorth 126 = .ok (.aload_n 0, 1) := by decide +kernel
theorem dX6_splitWorth_127 : decode cX6_splitWorth 127 = .ok (.iload_n 1, 1) := by decide +kernel
theorem dX6_splitWorth_128 : decode cX6_splitWorth 128 = .ok (.iload 6, 2) := by decide +kernel
theorem dX6_splitWorth_130 : decode cX6_splitWorth 130 = .ok (.invokevirtual 173, 3) := by decide +kernel
theorem dX6_splitWorth_133 : decode cX6_splitWorth 133 = .ok (.imul, 1) := by decide +kernel
theorem dX6_splitWorth_134 : decode cX6_splitWorth 134 = .ok (.istore 7, 2) := by decide +kernel
theorem dX6_splitWorth_136 : decode cX6_splitWorth 136 = .ok (.iload 7, 2) := by decide +kernel
theorem dX6_splitWorth_138 : decode cX6_splitWorth 138 = .ok (.ifCond .le 67, 3) := by decide +kernel
theorem dX6_splitWorth_141 : decode cX6_splitWorth 141 = .ok (.iload_n 1, 1) := by decide +kernel
theorem dX6_splitWorth_142 : decode cX6_splitWorth 142 = .ok (.aload_n 0, 1) := by decide +kernel
theorem dX6_splitWorth_143 : decode cX6_splitWorth 143 = .ok (.getfield 55, 3) := by decide +kernel
theorem dX6_splitWorth_146 : decode cX6_splitWorth 146 = .ok (.iload 4, 2) := by decide +kernel
theorem dX6_splitWorth_148 : decode cX6_splitWorth 148 = .ok (.iaload, 1) := by decide +kernel
theorem dX6_splitWorth_149 : decode cX6_splitWorth 149 = .ok (.isub, 1) := by decide +kernel
theorem dX6_splitWorth_150 : decode cX6_splitWorth 150 = .ok (.aload_n 0, 1) := by decide +kernel
theorem dX6_splitWorth_151 : decode cX6_splitWorth 151 = .ok (.getfield 55, 3) := by decide +kernel
theorem dX6_splitWorth_154 : decode cX6_splitWorth 154 = .ok (.iload 6, 2) := by decide +kernel
theorem dX6_splitWorth_156 : decode cX6_splitWorth 156 = .ok (.iaload, 1) := by decide +kernel
theorem dX6_splitWorth_157 : decode cX6_splitWorth 157 = .ok (.isub, 1) := by decide +kernel
theorem dX6_splitWorth_158 : decode cX6_splitWorth 158 = .ok (.istore 8, 2) := by decide +kernel
theorem dX6_splitWorth_160 : decode cX6_splitWorth 160 = .ok (.lload_n 2, 1) := by decide +kernel
theorem dX6_splitWorth_161 : decode cX6_splitWorth 161 = .ok (.ldc2_w 112, 3) := by decide +kernel
theorem dX6_splitWorth_164 : decode cX6_splitWorth 164 = .ok (.iload 7, 2) := by decide +kernel
theorem dX6_splitWorth_166 : decode cX6_splitWorth 166 = .ok (.i2l, 1) := by decide +kernel
theorem dX6_splitWorth_167 : decode cX6_splitWorth 167 = .ok (.lmul, 1) := by decide +kernel
theorem dX6_splitWorth_168 : decode cX6_splitWorth 168 = .ok (.iload 5, 2) := by decide +kernel
theorem dX6_splitWorth_170 : decode cX6_splitWorth 170 = .ok (.aload_n 0, 1) := by decide +kernel
theorem dX6_splitWorth_171 : decode cX6_splitWorth 171 = .ok (.getfield 25, 3) := by decide +kernel
theorem dX6_splitWorth_174 : decode cX6_splitWorth 174 = .ok (.if_icmp .gt 12, 3) := by decide +kernel
theorem dX6_splitWorth_177 : decode cX6_splitWorth 177 = .ok (.aload_n 0, 1) := by decide +kernel
theorem dX6_splitWorth_178 : decode cX6_splitWorth 178 = .ok (.iload 8, 2) := by decide +kernel
theorem dX6_splitWorth_180 : decode cX6_splitWorth 180 = .ok (.invokevirtual 213, 3) := by decide +kernel
theorem dX6_splitWorth_183 : decode cX6_splitWorth 183 = .ok (.goto 19, 3) := by decide +kernel
theorem dX6_splitWorth_186 : decode cX6_splitWorth 186 = .ok (.ldc2_w 217, 3) := by decide +kernel
theorem dX6_splitWorth_189 : decode cX6_splitWorth 189 = .ok (.aload_n 0, 1) := by decide +kernel
theorem dX6_splitWorth_190 : decode cX6_splitWorth 190 = .ok (.getfield 48, 3) := by decide +kernel
theorem dX6_splitWorth_193 : decode cX6_splitWorth 193 = .ok (.aload_n 0, 1) := by decide +kernel
theorem dX6_splitWorth_194 : decode cX6_splitWorth 194 = .ok (.getfield 58, 3) := by decide +kernel
theorem dX6_splitWorth_197 : decode cX6_splitWorth 197 = .ok (.iload 8, 2) := by decide +kernel
theorem dX6_splitWorth_199 : decode cX6_splitWorth 199 = .ok (.iaload, 1) := by decide +kernel
theorem dX6_splitWorth_200 : decode cX6_splitWorth 200 = .ok (.laload, 1) := by decide +kernel
theorem dX6_splitWorth_201 : decode cX6_splitWorth 201 = .ok (.lmul, 1) := by decide +kernel
theorem dX6_splitWorth_202 : decode cX6_splitWorth 202 = .ok (.lmul, 1) := by decide +kernel
theorem dX6_splitWorth_203 : decode cX6_splitWorth 203 = .ok (.ladd, 1) := by decide +kernel
theorem dX6_splitWorth_204 : decode cX6_splitWorth 204 = .ok (.lstore_n 2, 1) := by decide +kernel
theorem dX6_splitWorth_205 : decode cX6_splitWorth 205 = .ok (.iinc 6 1, 3) := by decide +kernel
theorem dX6_splitWorth_208 : decode cX6_splitWorth 208 = .ok (.goto (-115), 3) := by decide +kernel
theorem dX6_splitWorth_211 : decode cX6_splitWorth 211 = .ok (.iinc 4 1, 3) := by decide +kernel
theorem dX6_splitWorth_214 : decode cX6_splitWorth 214 = .ok (.goto (-192), 3) := by decide +kernel
theorem dX6_splitWorth_217 : decode cX6_splitWorth 217 = .ok (.lload_n 2, 1) := by decide +kernel
theorem dX6_splitWorth_218 : decode cX6_splitWorth 218 = .ok (.lreturn, 1) := by decide +kernel
theorem dX6_isThere_0 : decode cX6_isThere 0 = .ok (.aload_n 0, 1) := by decide +kernel
theorem dX6_isThere_1 : decode cX6_isThere 1 = .ok (.getfield 58, 3) := by decide +kernel
theorem dX6_isThere_4 : decode cX6_isThere 4 = .ok (.aload_n 0, 1) := by decide +kernel
theorem dX6_isThere_5 : decode cX6_isThere 5 = .ok (.getfield 170, 3) := by decide +kernel
theorem dX6_isThere_8 : decode cX6_isThere 8 = .ok (.iconst 1, 1) := by decide +kernel
theorem dX6_isThere_9 : decode cX6_isThere 9 = .ok (.isub, 1) := by decide +kernel
theorem dX6_isThere_10 : decode cX6_isThere 10 = .ok (.iaload, 1) := by decide +kernel
theorem dX6_isThere_11 : decode cX6_isThere 11 = .ok (.istore_n 2, 1) := by decide +kernel
theorem dX6_isThere_12 : decode cX6_isThere 12 = .ok (.aload_n 0, 1) := by decide +kernel
theorem dX6_isThere_13 : decode cX6_isThere 13 = .ok (.getfield 219, 3) := by decide +kernel
theorem dX6_isThere_16 : decode cX6_isThere 16 = .ok (.ifCond .eq 27, 3) := by decide +kernel
theorem dX6_isThere_19 : decode cX6_isThere 19 = .ok (.aload_n 0, 1) := by decide +kernel
theorem dX6_isThere_20 : decode cX6_isThere 20 = .ok (.getfield 193, 3) := by decide +kernel
theorem dX6_isThere_23 : decode cX6_isThere 23 = .ok (.ifCond .eq 20, 3) := by decide +kernel
theorem dX6_isThere_26 : decode cX6_isThere 26 = .ok (.aload_n 0, 1) := by decide +kernel
theorem dX6_isThere_27 : decode cX6_isThere 27 = .ok (.aload_n 0, 1) := by decide +kernel
theorem dX6_isThere_28 : decode cX6_isThere 28 = .ok (.getfield 170, 3) := by decide +kernel
theorem dX6_isThere_31 : decode cX6_isThere 31 = .ok (.iconst 1, 1) := by decide +kernel
theorem dX6_isThere_32 : decode cX6_isThere 32 = .ok (.isub, 1) := by decide +kernel
theorem dX6_isThere_33 : decode cX6_isThere 33 = .ok (.invokevirtual 206, 3) := by decide +kernel
theorem dX6_isThere_36 : decode cX6_isThere 36 = .ok (.aload_n 0, 1) := by decide +kernel
theorem dX6_isThere_37 : decode cX6_isThere 37 = .ok (.getfield 25, 3) := by decide +kernel
theorem dX6_isThere_40 : decode cX6_isThere 40 = .ok (.if_icmp .le 5, 3) := by decide +kernel
theorem dX6_isThere_43 : decode cX6_isThere 43 = .ok (.iconst 0, 1) := by decide +kernel
theorem dX6_isThere_44 : decode cX6_isThere 44 = .ok (.ireturn, 1) := by decide +kernel
theorem dX6_isThere_45 : decode cX6_isThere 45 = .ok (.iload_n 1, 1) := by decide +kernel
theorem dX6_isThere_46 : decode cX6_isThere 46 = .ok (.tableswitch 103 0 3 #[30, 32, 51, 77], 30) := by decide +kernel
theorem dX6_isThere_76 : decode cX6_isThere 76 = .ok (.iconst 1, 1) := by decide +kernel
theorem dX6_isThere_77 : decode cX6_isThere 77 = .ok (.ireturn, 1) := by decide +kernel
theorem dX6_isThere_78 : decode cX6_isThere 78 = .ok (.iload_n 2, 1) := by decide +kernel
theorem dX6_isThere_79 : decode cX6_isThere 79 = .ok (.ifCond .le 16, 3) := by decide +kernel
theorem dX6_isThere_82 : decode cX6_isThere 82 = .ok (.aload_n 0, 1) := by decide +kernel
theorem dX6_isThere_83 : decode cX6_isThere 83 = .ok (.getfield 219, 3) := by decide +kernel
theorem dX6_isThere_86 : decode cX6_isThere 86 = .ok (.bipush 12, 2) := by decide +kernel
theorem dX6_isThere_88 : decode cX6_isThere 88 = .ok (.if_icmp .ge 7, 3) := by decide +kernel
theorem dX6_isThere_91 : decode cX6_isThere 91 = .ok (.iconst 1, 1) := by decide +kernel
theorem dX6_isThere_92 : decode cX6_isThere 92 = .ok (.goto 4, 3) := by decide +kernel
theorem dX6_isThere_95 : decode cX6_isThere 95 = .ok (.iconst 0, 1) := by decide +kernel
theorem dX6_isThere_96 : decode cX6_isThere 96 = .ok (.ireturn, 1) := by decide +kernel
theorem dX6_isThere_97 : decode cX6_isThere 97 = .ok (.iload_n 2, 1) := by decide +kernel
theorem dX6_isThere_98 : decode cX6_isThere 98 = .ok (.ifCond .le 23, 3) := by decide +kernel
theorem dX6_isThere_101 : decode cX6_isThere 101 = .ok (.aload_n 0, 1) := by decide +kernel
theorem dX6_isThere_102 : decode cX6_isThere 102 = .ok (.getfield 219, 3) := by decide +kernel
theorem dX6_isThere_105 : decode cX6_isThere 105 = .ok (.iconst 2, 1) := by decide +kernel
theorem dX6_isThere_106 : decode cX6_isThere 106 = .ok (.if_icmp .ne 15, 3) := by decide +kernel
theorem dX6_isThere_109 : decode cX6_isThere 109 = .ok (.aload_n 0, 1) := by decide +kernel
theorem dX6_isThere_110 : decode cX6_isThere 110 = .ok (.getfield 32, 3) := by decide +kernel
theorem dX6_isThere_113 : decode cX6_isThere 113 = .ok (.iconst 1, 1) := by decide +kernel
theorem dX6_isThere_114 : decode cX6_isThere 114 = .ok (.if_icmp .ne 7, 3) := by decide +kernel
theorem dX6_isThere_117 : decode cX6_isThere 117 = .ok (.iconst 1, 1) := by decide +kernel
theorem dX6_isThere_118 : decode cX6_isThere 118 = .ok (.goto 4, 3) := by decide +kernel
theorem dX6_isThere_121 : decode cX6_isThere 121 = .ok (.iconst 0, 1) := by decide +kernel
theorem dX6_isThere_122 : decode cX6_isThere 122 = .ok (.ireturn, 1) := by decide +kernel
theorem dX6_isThere_123 : decode cX6_isThere 123 = .ok (.iload_n 2, 1) := by decide +kernel
theorem dX6_isThere_124 : decode cX6_isThere 124 = .ok (.iconst 1, 1) := by decide +kernel
theorem dX6_isThere_125 : decode cX6_isThere 125 = .ok (.if_icmp .le 22, 3) := by decide +kernel
theorem dX6_isThere_128 : decode cX6_isThere 128 = .ok (.aload_n 0, 1) := by decide +kernel
theorem dX6_isThere_129 : decode cX6_isThere 129 = .ok (.getfield 225, 3) := by decide +kernel
theorem dX6_isThere_132 : decode cX6_isThere 132 = .ok (.ifCond .le 15, 3) := by decide +kernel
theorem dX6_isThere_135 : decode cX6_isThere 135 = .ok (.aload_n 0, 1) := by decide +kernel
theorem dX6_isThere_136 : decode cX6_isThere 136 = .ok (.getfield 35, 3) := by decide +kernel
theorem dX6_isThere_139 : decode cX6_isThere 139 = .ok (.iconst 1, 1) := by decide +kernel
theorem dX6_isThere_140 : decode cX6_isThere 140 = .ok (.if_icmp .ne 7, 3) := by decide +kernel
theorem dX6_isThere_143 : decode cX6_isThere 143 = .ok (.iconst 1, 1) := by decide +kernel
theorem dX6_isThere_144 : decode cX6_isThere 144 = .ok (.goto 4, 3) := by decide +kernel
theorem dX6_isThere_147 : decode cX6_isThere 147 = .ok (.iconst 0, 1) := by decide +kernel
theorem dX6_isThere_148 : decode cX6_isThere 148 = .ok (.ireturn, 1) := by decide +kernel
theorem dX6_isThere_149 : decode cX6_isThere 149 = .ok (.aload_n 0, 1) := by decide +kernel
theorem dX6_isThere_150 : decode cX6_isThere 150 = .ok (.getfield 219, 3) := by decide +kernel
theorem dX6_isThere_153 : decode cX6_isThere 153 = .ok (.iconst 2, 1) := by decide +kernel
theorem dX6_isThere_154 : decode cX6_isThere 154 = .ok (.if_icmp .ne 15, 3) := by decide +kernel
theorem dX6_isThere_157 : decode cX6_isThere 157 = .ok (.aload_n 0, 1) := by decide +kernel
theorem dX6_isThere_158 : decode cX6_isThere 158 = .ok (.getfield 38, 3) := by decide +kernel
theorem dX6_isThere_161 : decode cX6_isThere 161 = .ok (.iconst 1, 1) := by decide +kernel
theorem dX6_isThere_162 : decode cX6_isThere 162 = .ok (.if_icmp .ne 7, 3) := by decide +kernel
theorem dX6_isThere_165 : decode cX6_isThere 165 = .ok (.iconst 1, 1) := by decide +kernel
theorem dX6_isThere_166 : decode cX6_isThere 166 = .ok (.goto 4, 3) := by decide +kernel
theorem dX6_isThere_169 : decode cX6_isThere 169 = .ok (.iconst 0, 1) := by decide +kernel
theorem dX6_isThere_170 : decode cX6_isThere 170 = .ok (.ireturn, 1) := by decide +kernel
theorem dX6_worthOf_0 : decode cX6_worthOf 0 = .ok (.iload_n 1, 1) := by decide +kernel
theorem dX6_worthOf_1 : decode cX6_worthOf 1 = .ok (.tableswitch 51 0 3 #[31, 36, 41, 46], 31) := by decide +kernel
theorem dX6_worthOf_32 : decode cX6_worthOf 32 = .ok (.aload_n 0, 1) := by decide +kernel
theorem dX6_worthOf_33 : decode cX6_worthOf 33 = .ok (.invokevirtual 228, 3) := by decide +kernel
theorem dX6_worthOf_36 : decode cX6_worthOf 36 = .ok (.lreturn, 1) := by decide +kernel
theorem dX6_worthOf_37 : decode cX6_worthOf 37 = .ok (.aload_n 0, 1) := by decide +kernel
theorem dX6_worthOf_38 : decode cX6_worthOf 38 = .ok (.invokevirtual 232, 3) := by decide +kernel
theorem dX6_worthOf_41 : decode cX6_worthOf 41 = .ok (.lreturn, 1) := by decide +kernel
theorem dX6_worthOf_42 : decode cX6_worthOf 42 = .ok (.aload_n 0, 1) := by decide +kernel
theorem dX6_worthOf_43 : decode cX6_worthOf 43 = .ok (.invokevirtual 235, 3) := by decide +kernel
theorem dX6_worthOf_46 : decode cX6_worthOf 46 = .ok (.lreturn, 1) := by decide +kernel
theorem dX6_worthOf_47 : decode cX6_worthOf 47 = .ok (.aload_n 0, 1) := by decide +kernel
theorem dX6_worthOf_48 : decode cX6_worthOf 48 = .ok (.invokevirtual 238, 3) := by decide +kernel
theorem dX6_worthOf_51 : decode cX6_worthOf 51 = .ok (.lreturn, 1) := by decide +kernel
theorem dX6_worthOf_52 : decode cX6_worthOf 52 = .ok (.lconst 0, 1) := by decide +kernel
theorem dX6_worthOf_53 : decode cX6_worthOf 53 = .ok (.aload_n 0, 1) := by decide +kernel
theorem dX6_worthOf_54 : decode cX6_worthOf 54 = .ok (.getfield 48, 3) := by decide +kernel
theorem dX6_worthOf_57 : decode cX6_worthOf 57 = .ok (.aload_n 0, 1) := by decide +kernel
theorem dX6_worthOf_58 : decode cX6_worthOf 58 = .ok (.getfield 58, 3) := by decide +kernel
theorem dX6_worthOf_61 : decode cX6_worthOf 61 = .ok (.aload_n 0, 1) := by decide +kernel
theorem dX6_worthOf_62 : decode cX6_worthOf 62 = .ok (.getfield 170, 3) := by decide +kernel
theorem dX6_worthOf_65 : decode cX6_worthOf 65 = .ok (.iconst 1, 1) := by decide +kernel
theorem dX6_worthOf_66 : decode cX6_worthOf 66 = .ok (.isub, 1) := by decide +kernel
theorem dX6_worthOf_67 : decode cX6_worthOf 67 = .ok (.iaload, 1) := by decide +kernel
theorem dX6_worthOf_68 : decode cX6_worthOf 68 = .ok (.laload, 1) := by decide +kernel
theorem dX6_worthOf_69 : decode cX6_worthOf 69 = .ok (.lsub, 1) := by decide +kernel
theorem dX6_worthOf_70 : decode cX6_worthOf 70 = .ok (.lreturn, 1) := by decide +kernel
theorem dX6_findBest_0 : decode cX6_findBest 0 = .ok (.lconst 0, 1) := by decide +kernel
theorem dX6_findBest_1 : decode cX6_findBest 1 = .ok (.lstore_n 1, 1) := by decide +kernel
theorem dX6_findBest_2 : decode cX6_findBest 2 = .ok (.aload_n 0, 1) := by decide +kernel
theorem dX6_findBest_3 : decode cX6_findBest 3 = .ok (.iconst (-1), 1) := by decide +kernel
theorem dX6_findBest_4 : decode cX6_findBest 4 = .ok (.putfield 241, 3) := by decide +kernel
theorem dX6_findBest_7 : decode cX6_findBest 7 = .ok (.iconst 0, 1) := by decide +kernel
theorem dX6_findBest_8 : decode cX6_findBest 8 = .ok (.istore_n 3, 1) := by decide +kernel
theorem dX6_findBest_9 : decode cX6_findBest 9 = .ok (.iload_n 3, 1) := by decide +kernel
theorem dX6_findBest_10 : decode cX6_findBest 10 = .ok (.iconst 5, 1) := by decide +kernel
theorem dX6_findBest_11 : decode cX6_findBest 11 = .ok (.if_icmp .ge 46, 3) := by decide +kernel
theorem dX6_findBest_14 : decode cX6_findBest 14 = .ok (.aload_n 0, 1) := by decide +kernel
theorem dX6_findBest_15 : decode cX6_findBest 15 = .ok (.iload_n 3, 1) := by decide +kernel
theorem dX6_findBest_16 : decode cX6_findBest 16 = .ok (.invokevirtual 244, 3) := by decide +kernel
theorem dX6_findBest_19 : decode cX6_findBest 19 = .ok (.ifCond .eq 32, 3) := by decide +kernel
theorem dX6_findBest_22 : decode cX6_findBest 22 = .ok (.aload_n 0, 1) := by decide +kernel
theorem dX6_findBest_23 : decode cX6_findBest 23 = .ok (.iload_n 3, 1) := by decide +kernel
theorem dX6_findBest_24 : decode cX6_findBest 24 = .ok (.invokevirtual 248, 3) := by decide +kernel
theorem dX6_findBest_27 : decode cX6_findBest 27 = .ok (.lstore 4, 2) := by decide +kernel
theorem dX6_findBest_29 : decode cX6_findBest 29 = .ok (.aload_n 0, 1) := by decide +kernel
theorem dX6_findBest_30 : decode cX6_findBest 30 = .ok (.getfield 241, 3) := by decide +kernel
theorem dX6_findBest_33 : decode cX6_findBest 33 = .ok (.ifCond .lt 10, 3) := by decide +kernel
theorem dX6_findBest_36 : decode cX6_findBest 36 = .ok (.lload 4, 2) := by decide +kernel
theorem dX6_findBest_38 : decode cX6_findBest 38 = .ok (.lload_n 1, 1) := by decide +kernel
theorem dX6_findBest_39 : decode cX6_findBest 39 = .ok (.lcmp, 1) := by decide +kernel
theorem dX6_findBest_40 : decode cX6_findBest 40 = .ok (.ifCond .le 11, 3) := by decide +kernel
theorem dX6_findBest_43 : decode cX6_findBest 43 = .ok (.lload 4, 2) := by decide +kernel
theorem dX6_findBest_45 : decode cX6_findBest 45 = .ok (.lstore_n 1, 1) := by decide +kernel
theorem dX6_findBest_46 : decode cX6_findBest 46 = .ok (.aload_n 0, 1) := by decide +kernel
theorem dX6_findBest_47 : decode cX6_findBest 47 = .ok (.iload_n 3, 1) := by decide +kernel
theorem dX6_findBest_48 : decode cX6_findBest 48 = .ok (.putfield 241, 3) := by decide +kernel
theorem dX6_findBest_51 : decode cX6_findBest 51 = .ok (.iinc 3 1, 3) := by decide +kernel
theorem dX6_findBest_54 : decode cX6_findBest 54 = .ok (.goto (-45), 3) := by decide +kernel
theorem dX6_findBest_57 : decode cX6_findBest 57 = .ok (.lload_n 1, 1) := by decide +kernel
theorem dX6_findBest_58 : decode cX6_findBest 58 = .ok (.lreturn, 1) := by decide +kernel
theorem dX6_layTable_0 : decode cX6_layTable 0 = .ok (.aload_n 0, 1) := by decide +kernel
theorem dX6_layTable_1 : decode cX6_layTable 1 = .ok (.invokevirtual 104, 3) := by decide +kernel
theorem dX6_layTable_4 : decode cX6_layTable 4 = .ok (.bipush 12, 2) := by decide +kernel
theorem dX6_layTable_6 : decode cX6_layTable 6 = .ok (.if_icmp .le 7, 3) := by decide +kernel
theorem dX6_layTable_9 : decode cX6_layTable 9 = .ok (.iconst 1, 1) := by decide +kernel
theorem dX6_layTable_10 : decode cX6_layTable 10 = .ok (.goto 4, 3) := by decide +kernel
theorem dX6_layTable_13 : decode cX6_layTable 13 = .ok (.iconst 0, 1) := by decide +kernel
theorem dX6_layTable_14 : decode cX6_layTable 14 = .ok (.istore_n 2, 1) := by decide +kernel
theorem dX6_layTable_15 : decode cX6_layTable 15 = .ok (.iconst 1, 1) := by decide +kernel
theorem dX6_layTable_16 : decode cX6_layTable 16 = .ok (.istore_n 3, 1) := by decide +kernel
theorem dX6_layTable_17 : decode cX6_layTable 17 = .ok (.iload_n 3, 1) := by decide +kernel
theorem dX6_layTable_18 : decode cX6_layTable 18 = .ok (.bipush 11, 2) := by decide +kernel
theorem dX6_layTable_20 : decode cX6_layTable 20 = .ok (.if_icmp .ge 45, 3) := by decide +kernel
theorem dX6_layTable_23 : decode cX6_layTable 23 = .ok (.aload_n 0, 1) := by decide +kernel
theorem dX6_layTable_24 : decode cX6_layTable 24 = .ok (.getfield 52, 3) := by decide +kernel
theorem dX6_layTable_27 : decode cX6_layTable 27 = .ok (.iload_n 3, 1) := by decide +kernel
theorem dX6_layTable_28 : decode cX6_layTable 28 = .ok (.iload_n 2, 1) := by decide +kernel
theorem dX6_layTable_29 : decode cX6_layTable 29 = .ok (.ifCond .eq 7, 3) := by decide +kernel
theorem dX6_layTable_32 : decode cX6_layTable 32 = .ok (.iconst 0, 1) := by decide +kernel
theorem dX6_layTable_33 : decode cX6_layTable 33 = .ok (.goto 25, 3) := by decide +kernel
theorem dX6_layTable_36 : decode cX6_layTable 36 = .ok (.iload_n 3, 1) := by decide +kernel
theorem dX6_layTable_37 : decode cX6_layTable 37 = .ok (.iload_n 1, 1) := by decide +kernel
theorem dX6_layTable_38 : decode cX6_layTable 38 = .ok (.if_icmp .ne 14, 3) := by decide +kernel
theorem dX6_layTable_41 : decode cX6_layTable 41 = .ok (.aload_n 0, 1) := by decide +kernel
theorem dX6_layTable_42 : decode cX6_layTable 42 = .ok (.getfield 7, 3) := by decide +kernel
theorem dX6_layTable_45 : decode cX6_layTable 45 = .ok (.iload_n 3, 1) := by decide +kernel
theorem dX6_layTable_46 : decode cX6_layTable 46 = .ok (.iaload, 1) := by decide +kernel
theorem dX6_layTable_47 : decode cX6_layTable 47 = .ok (.iconst 1, 1) := by decide +kernel
theorem dX6_layTable_48 : decode cX6_layTable 48 = .ok (.isub, 1) := by decide +kernel
theorem dX6_layTable_49 : decode cX6_layTable 49 = .ok (.goto 9, 3) := by decide +kernel
theorem dX6_layTable_52 : decode cX6_layTable 52 = .ok (.aload_n 0, 1) := by decide +kernel
theorem dX6_layTable_53 : decode cX6_layTable 53 = .ok (.getfield 7, 3) := by decide +kernel
theorem dX6_layTable_56 : decode cX6_layTable 56 = .ok (.iload_n 3, 1) := by decide +kernel
theorem dX6_layTable_57 : decode cX6_layTable 57 = .ok (.iaload, 1) := by decide +kernel
theorem dX6_layTable_58 : decode cX6_layTable 58 = .ok (.iastore, 1) := by decide +kernel
theorem dX6_layTable_59 : decode cX6_layTable 59 = .ok (.iinc 3 1, 3) := by decide +kernel
theorem dX6_layTable_62 : decode cX6_layTable 62 = .ok (.goto (-45), 3) := by decide +kernel
theorem dX6_layTable_65 : decode cX6_layTable 65 = .ok (.aload_n 0, 1) := by decide +kernel
theorem dX6_layTable_66 : decode cX6_layTable 66 = .ok (.invokevirtual 251, 3) := by decide +kernel
theorem dX6_layTable_69 : decode cX6_layTable 69 = .ok (.aload_n 0, 1) := by decide +kernel
theorem dX6_layTable_70 : decode cX6_layTable 70 = .ok (.aload_n 0, 1) := by decide +kernel
theorem dX6_layTable_71 : decode cX6_layTable 71 = .ok (.invokevirtual 136, 3) := by decide +kernel
theorem dX6_layTable_74 : decode cX6_layTable 74 = .ok (.putfield 200, 3) := by decide +kernel
theorem dX6_layTable_77 : decode cX6_layTable 77 = .ok (.aload_n 0, 1) := by decide +kernel
theorem dX6_layTable_78 : decode cX6_layTable 78 = .ok (.aload_n 0, 1) := by decide +kernel
theorem dX6_layTable_79 : decode cX6_layTable 79 = .ok (.invokevirtual 139, 3) := by decide +kernel
theorem dX6_layTable_82 : decode cX6_layTable 82 = .ok (.putfield 203, 3) := by decide +kernel
theorem dX6_layTable_85 : decode cX6_layTable 85 = .ok (.aload_n 0, 1) := by decide +kernel
theorem dX6_layTable_86 : decode cX6_layTable 86 = .ok (.aload_n 0, 1) := by decide +kernel
theorem dX6_layTable_87 : decode cX6_layTable 87 = .ok (.getfield 98, 3) := by decide +kernel
theorem dX6_layTable_90 : decode cX6_layTable 90 = .ok (.putfield 219, 3) := by decide +kernel
theorem dX6_layTable_93 : decode cX6_layTable 93 = .ok (.aload_n 0, 1) := by decide +kernel
theorem dX6_layTable_94 : decode cX6_layTable 94 = .ok (.aload_n 0, 1) := by decide +kernel
theorem dX6_layTable_95 : decode cX6_layTable 95 = .ok (.getfield 98, 3) := by decide +kernel
theorem dX6_layTable_98 : decode cX6_layTable 98 = .ok (.iconst 2, 1) := by decide +kernel
theorem dX6_layTable_99 : decode cX6_layTable 99 = .ok (.if_icmp .ne 27, 3) := by decide +kernel
theorem dX6_layTable_102 : decode cX6_layTable 102 = .ok (.aload_n 0, 1) := by decide +kernel
theorem dX6_layTable_103 : decode cX6_layTable 103 = .ok (.getfield 22, 3) := by decide +kernel
theorem dX6_layTable_106 : decode cX6_layTable 106 = .ok (.iconst 0, 1) := by decide +kernel
theorem dX6_layTable_107 : decode cX6_layTable 107 = .ok (.iaload, 1) := by decide +kernel
theorem dX6_layTable_108 : decode cX6_layTable 108 = .ok (.aload_n 0, 1) := by decide +kernel
theorem dX6_layTable_109 : decode cX6_layTable 109 = .ok (.getfield 22, 3) := by decide +kernel
theorem dX6_layTable_112 : decode cX6_layTable 112 = .ok (.iconst 1, 1) := by decide +kernel
theorem dX6_layTable_113 : decode cX6_layTable 113 = .ok (.iaload, 1) := by decide +kernel
theorem dX6_layTable_114 : decode cX6_layTable 114 = .ok (.if_icmp .ne 12, 3) := by decide +kernel
theorem dX6_layTable_117 : decode cX6_layTable 117 = .ok (.aload_n 0, 1) := by decide +kernel
theorem dX6_layTable_118 : decode cX6_layTable 118 = .ok (.getfield 22, 3) := by decide +kernel
theorem dX6_layTable_121 : decode cX6_layTable 121 = .ok (.iconst 0, 1) := by decide +kernel
theorem dX6_layTable_122 : decode cX6_layTable 122 = .ok (.iaload, 1) := by decide +kernel
theorem dX6_layTable_123 : decode cX6_layTable 123 = .ok (.goto 4, 3) := by decide +kernel
theorem dX6_layTable_126 : decode cX6_layTable 126 = .ok (.iconst 0, 1) := by decide +kernel
theorem dX6_layTable_127 : decode cX6_layTable 127 = .ok (.putfield 225, 3) := by decide +kernel
theorem dX6_layTable_130 : decode cX6_layTable 130 = .ok (.aload_n 0, 1) := by decide +kernel
theorem dX6_layTable_131 : decode cX6_layTable 131 = .ok (.aload_n 0, 1) := by decide +kernel
theorem dX6_layTable_132 : decode cX6_layTable 132 = .ok (.getfield 101, 3) := by decide +kernel
theorem dX6_layTable_135 : decode cX6_layTable 135 = .ok (.putfield 193, 3) := by decide +kernel
theorem dX6_layTable_138 : decode cX6_layTable 138 = .ok (.return_, 1) := by decide +kernel
theorem dX6_isThereNow_0 : decode cX6_isThereNow 0 = .ok (.aload_n 0, 1) := by decide +kernel
theorem dX6_isThereNow_1 : decode cX6_isThereNow 1 = .ok (.invokevirtual 104, 3) := by decide +kernel
theorem dX6_isThereNow_4 : decode cX6_isThereNow 4 = .ok (.istore_n 2, 1) := by decide +kernel
theorem dX6_isThereNow_5 : decode cX6_isThereNow 5 = .ok (.aload_n 0, 1) := by decide +kernel
theorem dX6_isThereNow_6 : decode cX6_isThereNow 6 = .ok (.getfield 98, 3) := by decide +kernel
theorem dX6_isThereNow_9 : decode cX6_isThereNow 9 = .ok (.ifCond .eq 21, 3) := by decide +kernel
theorem dX6_isThereNow_12 : decode cX6_isThereNow 12 = .ok (.aload_n 0, 1) := by decide +kernel
theorem dX6_isThereNow_13 : decode cX6_isThereNow 13 = .ok (.getfield 101, 3) := by decide +kernel
theorem dX6_isThereNow_16 : decode cX6_isThereNow 16 = .ok (.ifCond .eq 14, 3) := by decide +kernel
theorem dX6_isThereNow_19 : decode cX6_isThereNow 19 = .ok (.aload_n 0, 1) := by decide +kernel
theorem dX6_isThereNow_20 : decode cX6_isThereNow 20 = .ok (.invokevirtual 147, 3) := by decide +kernel
theorem dX6_isThereNow_23 : decode cX6_isThereNow 23 = .ok (.aload_n 0, 1) := by decide +kernel
theorem dX6_isThereNow_24 : decode cX6_isThereNow 24 = .ok (.getfield 25, 3) := by decide +kernel
theorem dX6_isThereNow_27 : decode cX6_isThereNow 27 = .ok (.if_icmp .le 5, 3) := by decide +kernel
theorem dX6_isThereNow_30 : decode cX6_isThereNow 30 = .ok (.iconst 0, 1) := by decide +kernel
theorem dX6_isThereNow_31 : decode cX6_isThereNow 31 = .ok (.ireturn, 1) := by decide +kernel
theorem dX6_isThereNow_32 : decode cX6_isThereNow 32 = .ok (.iload_n 1, 1) := by decide +kernel
theorem dX6_isThereNow_33 : decode cX6_isThereNow 33 = .ok (.tableswitch 120 0 3 #[31, 33, 52, 78], 31) := by decide +kernel
theorem dX6_isThereNow_64 : decode cX6_isThereNow 64 = .ok (.iconst 1, 1) := by decide +kernel
theorem dX6_isThereNow_65 : decode cX6_isThereNow 65 = .ok (.ireturn, 1) := by decide +kernel
theorem dX6_isThereNow_66 : decode cX6_isThereNow 66 = .ok (.iload_n 2, 1) := by decide +kernel
theorem dX6_isThereNow_67 : decode cX6_isThereNow 67 = .ok (.ifCond .le 16, 3) := by decide +kernel
theorem dX6_isThereNow_70 : decode cX6_isThereNow 70 = .ok (.aload_n 0, 1) := by decide +kernel
theorem dX6_isThereNow_71 : decode cX6_isThereNow 71 = .ok (.getfield 98, 3) := by decide +kernel
theorem dX6_isThereNow_74 : decode cX6_isThereNow 74 = .ok (.bipush 12, 2) := by decide +kernel
theorem dX6_isThereNow_76 : decode cX6_isThereNow 76 = .ok (.if_icmp .ge 7, 3) := by decide +kernel
theorem dX6_isThereNow_79 : decode cX6_isThereNow 79 = .ok (.iconst 1, 1) := by decide +kernel
theorem dX6_isThereNow_80 : decode cX6_isThereNow 80 = .ok (.goto 4, 3) := by decide +kernel
theorem dX6_isThereNow_83 : decode cX6_isThereNow 83 = .ok (.iconst 0, 1) := by decide +kernel
theorem dX6_isThereNow_84 : decode cX6_isThereNow 84 = .ok (.ireturn, 1) := by decide +kernel
theorem dX6_isThereNow_85 : decode cX6_isThereNow 85 = .ok (.iload_n 2, 1) := by decide +kernel
theorem dX6_isThereNow_86 : decode cX6_isThereNow 86 = .ok (.ifCond .le 23, 3) := by decide +kernel
theorem dX6_isThereNow_89 : decode cX6_isThereNow 89 = .ok (.aload_n 0, 1) := by decide +kernel
theorem dX6_isThereNow_90 : decode cX6_isThereNow 90 = .ok (.getfield 98, 3) := by decide +kernel
theorem dX6_isThereNow_93 : decode cX6_isThereNow 93 = .ok (.iconst 2, 1) := by decide +kernel
theorem dX6_isThereNow_94 : decode cX6_isThereNow 94 = .ok (.if_icmp .ne 15, 3) := by decide +kernel
theorem dX6_isThereNow_97 : decode cX6_isThereNow 97 = .ok (.aload_n 0, 1) := by decide +kernel
theorem dX6_isThereNow_98 : decode cX6_isThereNow 98 = .ok (.getfield 32, 3) := by decide +kernel
theorem dX6_isThereNow_101 : decode cX6_isThereNow 101 = .ok (.iconst 1, 1) := by decide +kernel
theorem dX6_isThereNow_102 : decode cX6_isThereNow 102 = .ok (.if_icmp .ne 7, 3) := by decide +kernel
theorem dX6_isThereNow_105 : decode cX6_isThereNow 105 = .ok (.iconst 1, 1) := by decide +kernel
theorem dX6_isThereNow_106 : decode cX6_isThereNow 106 = .ok (.goto 4, 3) := by decide +kernel
theorem dX6_isThereNow_109 : decode cX6_isThereNow 109 = .ok (.iconst 0, 1) := by decide +kernel
theorem dX6_isThereNow_110 : decode cX6_isThereNow 110 = .ok (.ireturn, 1) := by decide +kernel
theorem dX6_isThereNow_111 : decode cX6_isThereNow 111 = .ok (.iload_n 2, 1) := by decide +kernel
theorem dX6_isThereNow_112 : decode cX6_isThereNow 112 = .ok (.iconst 1, 1) := by decide +kernel
theorem dX6_isThereNow_113 : decode cX6_isThereNow 113 = .ok (.if_icmp .le 38, 3) := by decide +kernel
theorem dX6_isThereNow_116 : decode cX6_isThereNow 116 = .ok (.aload_n 0, 1) := by decide +kernel
theorem dX6_isThereNow_117 : decode cX6_isThereNow 117 = .ok (.getfield 98, 3) := by decide +kernel
theorem dX6_isThereNow_120 : decode cX6_isThereNow 120 = .ok (.iconst 2, 1) := by decide +kernel
theorem dX6_isThereNow_121 : decode cX6_isThereNow 121 = .ok (.if_icmp .ne 30, 3) := by decide +kernel
theorem dX6_isThereNow_124 : decode cX6_isThereNow 124 = .ok (.aload_n 0, 1) := by decide +kernel
theorem dX6_isThereNow_125 : decode cX6_isThereNow 125 = .ok (.getfield 22, 3) := by decide +kernel
theorem dX6_isThereNow_128 : decode cX6_isThereNow 128 = .ok (.iconst 0, 1) := by decide +kernel
theorem dX6_isThereNow_129 : decode cX6_isThereNow 129 = .ok (.iaload, 1) := by decide +kernel
theorem dX6_isThereNow_130 : decode cX6_isThereNow 130 = .ok (.aload_n 0, 1) := by decide +kernel
theorem dX6_isThereNow_131 : decode cX6_isThereNow 131 = .ok (.getfield 22, 3) := by decide +kernel
theorem dX6_isThereNow_134 : decode cX6_isThereNow 134 = .ok (.iconst 1, 1) := by decide +kernel
theorem dX6_isThereNow_135 : decode cX6_isThereNow 135 = .ok (.iaload, 1) := by decide +kernel
theorem dX6_isThereNow_136 : decode cX6_isThereNow 136 = .ok (.if_icmp .ne 15, 3) := by decide +kernel
theorem dX6_isThereNow_139 : decode cX6_isThereNow 139 = .ok (.aload_n 0, 1) := by decide +kernel
theorem dX6_isThereNow_140 : decode cX6_isThereNow 140 = .ok (.getfield 35, 3) := by decide +kernel
theorem dX6_isThereNow_143 : decode cX6_isThereNow 143 = .ok (.iconst 1, 1) := by decide +kernel
theorem dX6_isThereNow_144 : decode cX6_isThereNow 144 = .ok (.if_icmp .ne 7, 3) := by decide +kernel
theorem dX6_isThereNow_147 : decode cX6_isThereNow 147 = .ok (.iconst 1, 1) := by decide +kernel
theorem dX6_isThereNow_148 : decode cX6_isThereNow 148 = .ok (.goto 4, 3) := by decide +kernel
theorem dX6_isThereNow_151 : decode cX6_isThereNow 151 = .ok (.iconst 0, 1) := by decide +kernel
theorem dX6_isThereNow_152 : decode cX6_isThereNow 152 = .ok (.ireturn, 1) := by decide +kernel
theorem dX6_isThereNow_153 : decode cX6_isThereNow 153 = .ok (.aload_n 0, 1) := by decide +kernel
theorem dX6_isThereNow_154 : decode cX6_isThereNow 154 = .ok (.getfield 98, 3) := by decide +kernel
theorem dX6_isThereNow_157 : decode cX6_isThereNow 157 = .ok (.iconst 2, 1) := by decide +kernel
theorem dX6_isThereNow_158 : decode cX6_isThereNow 158 = .ok (.if_icmp .ne 15, 3) := by decide +kernel
theorem dX6_isThereNow_161 : decode cX6_isThereNow 161 = .ok (.aload_n 0, 1) := by decide +kernel
theorem dX6_isThereNow_162 : decode cX6_isThereNow 162 = .ok (.getfield 38, 3) := by decide +kernel
theorem dX6_isThereNow_165 : decode cX6_isThereNow 165 = .ok (.iconst 1, 1) := by decide +kernel
theorem dX6_isThereNow_166 : decode cX6_isThereNow 166 = .ok (.if_icmp .ne 7, 3) := by decide +kernel
theorem dX6_isThereNow_169 : decode cX6_isThereNow 169 = .ok (.iconst 1, 1) := by decide +kernel
theorem dX6_isThereNow_170 : decode cX6_isThereNow 170 = .ok (.goto 4, 3) := by decide +kernel
theorem dX6_isThereNow_173 : decode cX6_isThereNow 173 = .ok (.iconst 0, 1) := by decide +kernel
theorem dX6_isThereNow_174 : decode cX6_isThereNow 174 = .ok (.ireturn, 1) := by decide +kernel
theorem dX6_there_0 : decode cX6_there 0 = .ok (.iload_n 1, 1) := by decide +kernel
theorem dX6_there_1 : decode cX6_there 1 = .ok (.i2l, 1) := by decide +kernel
theorem dX6_there_2 : decode cX6_there 2 = .ok (.lconst 0, 1) := by decide +kernel
theorem dX6_there_3 : decode cX6_there 3 = .ok (.ldc2_w 114, 3) := by decide +kernel
theorem dX6_there_6 : decode cX6_there 6 = .ok (.invokestatic 88, 3) := by decide +kernel
theorem dX6_there_9 : decode cX6_there 9 = .ok (.ifCond .ne 9, 3) := by decide +kernel
theorem dX6_there_12 : decode cX6_there 12 = .ok (.sipush (-1001), 3) := by decide +kernel
theorem dX6_there_15 : decode cX6_there 15 = .ok (.goto 16, 3) := by decide +kernel
theorem dX6_there_18 : decode cX6_there 18 = .ok (.aload_n 0, 1) := by decide +kernel
theorem dX6_there_19 : decode cX6_there 19 = .ok (.iload_n 1, 1) := by decide +kernel
theorem dX6_there_20 : decode cX6_there 20 = .ok (.invokevirtual 254, 3) := by decide +kernel
theorem dX6_there_23 : decode cX6_there 23 = .ok (.ifCond .eq 7, 3) := by decide +kernel
theorem dX6_there_26 : decode cX6_there 26 = .ok (.iconst 1, 1) := by decide +kernel
theorem dX6_there_27 : decode cX6_there 27 = .ok (.goto 4, 3) := by decide +kernel
theorem dX6_there_30 : decode cX6_there 30 = .ok (.iconst 0, 1) := by decide +kernel
theorem dX6_there_31 : decode cX6_there 31 = .ok (.ireturn, 1) := by decide +kernel
theorem dX6_gcd_0 : decode cX6_gcd 0 = .ok (.lload_n 0, 1) := by decide +kernel
theorem dX6_gcd_1 : decode cX6_gcd 1 = .ok (.lconst 0, 1) := by decide +kernel
theorem dX6_gcd_2 : decode cX6_gcd 2 = .ok (.lcmp, 1) := by decide +kernel
theorem dX6_gcd_3 : decode cX6_gcd 3 = .ok (.ifCond .ge 8, 3) := by decide +kernel
theorem dX6_gcd_6 : decode cX6_gcd 6 = .ok (.lload_n 0, 1) := by decide +kernel
theorem dX6_gcd_7 : decode cX6_gcd 7 = .ok (.lneg, 1) := by decide +kernel
theorem dX6_gcd_8 : decode cX6_gcd 8 = .ok (.goto 4, 3) := by decide +kernel
theorem dX6_gcd_11 : decode cX6_gcd 11 = .ok (.lload_n 0, 1) := by decide +kernel
theorem dX6_gcd_12 : decode cX6_gcd 12 = .ok (.lstore 4, 2) := by decide +kernel
theorem dX6_gcd_14 : decode cX6_gcd 14 = .ok (.lload_n 2, 1) := by decide +kernel
theorem dX6_gcd_15 : decode cX6_gcd 15 = .ok (.lstore 6, 2) := by decide +kernel
theorem dX6_gcd_17 : decode cX6_gcd 17 = .ok (.lload 6, 2) := by decide +kernel
theorem dX6_gcd_19 : decode cX6_gcd 19 = .ok (.lconst 0, 1) := by decide +kernel
theorem dX6_gcd_20 : decode cX6_gcd 20 = .ok (.lcmp, 1) := by decide +kernel
theorem dX6_gcd_21 : decode cX6_gcd 21 = .ok (.ifCond .eq 21, 3) := by decide +kernel
theorem dX6_gcd_24 : decode cX6_gcd 24 = .ok (.lload 4, 2) := by decide +kernel
theorem dX6_gcd_26 : decode cX6_gcd 26 = .ok (.lload 6, 2) := by decide +kernel
theorem dX6_gcd_28 : decode cX6_gcd 28 = .ok (.lrem, 1) := by decide +kernel
theorem dX6_gcd_29 : decode cX6_gcd 29 = .ok (.lstore 8, 2) := by decide +kernel
theorem dX6_gcd_31 : decode cX6_gcd 31 = .ok (.lload 6, 2) := by decide +kernel
theorem dX6_gcd_33 : decode cX6_gcd 33 = .ok (.lstore 4, 2) := by decide +kernel
theorem dX6_gcd_35 : decode cX6_gcd 35 = .ok (.lload 8, 2) := by decide +kernel
theorem dX6_gcd_37 : decode cX6_gcd 37 = .ok (.lstore 6, 2) := by decide +kernel
theorem dX6_gcd_39 : decode cX6_gcd 39 = .ok (.goto (-22), 3) := by decide +kernel
theorem dX6_gcd_42 : decode cX6_gcd 42 = .ok (.lload 4, 2) := by decide +kernel
theorem dX6_gcd_44 : decode cX6_gcd 44 = .ok (.lreturn, 1) := by decide +kernel
theorem dX6_part_0 : decode cX6_part 0 = .ok (.lload_n 0, 1) := by decide +kernel
theorem dX6_part_1 : decode cX6_part 1 = .ok (.lload_n 2, 1) := by decide +kernel
theorem dX6_part_2 : decode cX6_part 2 = .ok (.invokestatic 257, 3) := by decide +kernel
theorem dX6_part_5 : decode cX6_part 5 = .ok (.lstore 5, 2) := by decide +kernel
theorem dX6_part_7 : decode cX6_part 7 = .ok (.iload 4, 2) := by decide +kernel
theorem dX6_part_9 : decode cX6_part 9 = .ok (.ifCond .ne 10, 3) := by decide +kernel
theorem dX6_part_12 : decode cX6_part 12 = .ok (.lload_n 0, 1) := by decide +kernel
theorem dX6_part_13 : decode cX6_part 13 = .ok (.lload 5, 2) := by decide +kernel
theorem dX6_part_15 : decode cX6_part 15 = .ok (.ldiv, 1) := by decide +kernel
theorem dX6_part_16 : decode cX6_part 16 = .ok (.goto 7, 3) := by decide +kernel
theorem dX6_part_19 : decode cX6_part 19 = .ok (.lload_n 2, 1) := by decide +kernel
theorem dX6_part_20 : decode cX6_part 20 = .ok (.lload 5, 2) := by decide +kernel
theorem dX6_part_22 : decode cX6_part 22 = .ok (.ldiv, 1) := by decide +kernel
theorem dX6_part_23 : decode cX6_part 23 = .ok (.lreturn, 1) := by decide +kernel
