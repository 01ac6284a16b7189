theorem dX0_init_0 : decode cX0_init 0 = .ok (.aload_n 0, 1) := by decide +kernel
theorem dX0_init_1 : decode cX0_init 1 = .ok (.invokespecial 3, 3) := by decide +kernel
theorem dX0_init_4 : decode cX0_init 4 = .ok (.aload_n 0, 1) := by decide +kernel
theorem dX0_init_5 : decode cX0_init 5 = .ok (.bipush 11, 2) := by decide +kernel
theorem dX0_init_7 : decode cX0_init 7 = .ok (.newarray .int, 2) := by decide +kernel
theorem dX0_init_9 : decode cX0_init 9 = .ok (.putfield 9, 3) := by decide +kernel
theorem dX0_init_12 : decode cX0_init 12 = .ok (.aload_n 0, 1) := by decide +kernel
theorem dX0_init_13 : decode cX0_init 13 = .ok (.iconst 0, 1) := by decide +kernel
theorem dX0_init_14 : decode cX0_init 14 = .ok (.putfield 15, 3) := by decide +kernel
theorem dX0_init_17 : decode cX0_init 17 = .ok (.return_, 1) := by decide +kernel
theorem dX0_count_0 : decode cX0_count 0 = .ok (.iload_n 1, 1) := by decide +kernel
theorem dX0_count_1 : decode cX0_count 1 = .ok (.iconst 1, 1) := by decide +kernel
theorem dX0_count_2 : decode cX0_count 2 = .ok (.if_icmp .lt 18, 3) := by decide +kernel
theorem dX0_count_5 : decode cX0_count 5 = .ok (.iload_n 1, 1) := by decide +kernel
theorem dX0_count_6 : decode cX0_count 6 = .ok (.bipush 10, 2) := by decide +kernel
theorem dX0_count_8 : decode cX0_count 8 = .ok (.if_icmp .gt 12, 3) := by decide +kernel
theorem dX0_count_11 : decode cX0_count 11 = .ok (.aload_n 0, 1) := by decide +kernel
theorem dX0_count_12 : decode cX0_count 12 = .ok (.getfield 9, 3) := by decide +kernel
theorem dX0_count_15 : decode cX0_count 15 = .ok (.iload_n 1, 1) := by decide +kernel
theorem dX0_count_16 : decode cX0_count 16 = .ok (.iaload, 1) := by decide +kernel
theorem dX0_count_17 : decode cX0_count 17 = .ok (.goto 4, 3) := by decide +kernel
theorem dX0_count_20 : decode cX0_count 20 = .ok (.iconst 0, 1) := by decide +kernel
theorem dX0_count_21 : decode cX0_count 21 = .ok (.ireturn, 1) := by decide +kernel
theorem dX0_put_0 : decode cX0_put 0 = .ok (.iload_n 1, 1) := by decide +kernel
theorem dX0_put_1 : decode cX0_put 1 = .ok (.iconst 1, 1) := by decide +kernel
theorem dX0_put_2 : decode cX0_put 2 = .ok (.if_icmp .lt 33, 3) := by decide +kernel
theorem dX0_put_5 : decode cX0_put 5 = .ok (.iload_n 1, 1) := by decide +kernel
theorem dX0_put_6 : decode cX0_put 6 = .ok (.bipush 10, 2) := by decide +kernel
theorem dX0_put_8 : decode cX0_put 8 = .ok (.if_icmp .gt 27, 3) := by decide +kernel
theorem dX0_put_11 : decode cX0_put 11 = .ok (.aload_n 0, 1) := by decide +kernel
theorem dX0_put_12 : decode cX0_put 12 = .ok (.dup, 1) := by decide +kernel
theorem dX0_put_13 : decode cX0_put 13 = .ok (.getfield 15, 3) := by decide +kernel
theorem dX0_put_16 : decode cX0_put 16 = .ok (.iload_n 2, 1) := by decide +kernel
theorem dX0_put_17 : decode cX0_put 17 = .ok (.aload_n 0, 1) := by decide +kernel
theorem dX0_put_18 : decode cX0_put 18 = .ok (.getfield 9, 3) := by decide +kernel
theorem dX0_put_21 : decode cX0_put 21 = .ok (.iload_n 1, 1) := by decide +kernel
theorem dX0_put_22 : decode cX0_put 22 = .ok (.iaload, 1) := by decide +kernel
theorem dX0_put_23 : decode cX0_put 23 = .ok (.isub, 1) := by decide +kernel
theorem dX0_put_24 : decode cX0_put 24 = .ok (.iadd, 1) := by decide +kernel
theorem dX0_put_25 : decode cX0_put 25 = .ok (.putfield 15, 3) := by decide +kernel
theorem dX0_put_28 : decode cX0_put 28 = .ok (.aload_n 0, 1) := by decide +kernel
theorem dX0_put_29 : decode cX0_put 29 = .ok (.getfield 9, 3) := by decide +kernel
theorem dX0_put_32 : decode cX0_put 32 = .ok (.iload_n 1, 1) := by decide +kernel
theorem dX0_put_33 : decode cX0_put 33 = .ok (.iload_n 2, 1) := by decide +kernel
theorem dX0_put_34 : decode cX0_put 34 = .ok (.iastore, 1) := by decide +kernel
theorem dX0_put_35 : decode cX0_put 35 = .ok (.return_, 1) := by decide +kernel
theorem dX0_add_0 : decode cX0_add 0 = .ok (.iload_n 1, 1) := by decide +kernel
theorem dX0_add_1 : decode cX0_add 1 = .ok (.iconst 1, 1) := by decide +kernel
theorem dX0_add_2 : decode cX0_add 2 = .ok (.if_icmp .lt 29, 3) := by decide +kernel
theorem dX0_add_5 : decode cX0_add 5 = .ok (.iload_n 1, 1) := by decide +kernel
theorem dX0_add_6 : decode cX0_add 6 = .ok (.bipush 10, 2) := by decide +kernel
theorem dX0_add_8 : decode cX0_add 8 = .ok (.if_icmp .gt 23, 3) := by decide +kernel
theorem dX0_add_11 : decode cX0_add 11 = .ok (.aload_n 0, 1) := by decide +kernel
theorem dX0_add_12 : decode cX0_add 12 = .ok (.getfield 9, 3) := by decide +kernel
theorem dX0_add_15 : decode cX0_add 15 = .ok (.iload_n 1, 1) := by decide +kernel
theorem dX0_add_16 : decode cX0_add 16 = .ok (.dup2, 1) := by decide +kernel
theorem dX0_add_17 : decode cX0_add 17 = .ok (.iaload, 1) := by decide +kernel
theorem dX0_add_18 : decode cX0_add 18 = .ok (.iconst 1, 1) := by decide +kernel
theorem dX0_add_19 : decode cX0_add 19 = .ok (.iadd, 1) := by decide +kernel
theorem dX0_add_20 : decode cX0_add 20 = .ok (.iastore, 1) := by decide +kernel
theorem dX0_add_21 : decode cX0_add 21 = .ok (.aload_n 0, 1) := by decide +kernel
theorem dX0_add_22 : decode cX0_add 22 = .ok (.dup, 1) := by decide +kernel
theorem dX0_add_23 : decode cX0_add 23 = .ok (.getfield 15, 3) := by decide +kernel
theorem dX0_add_26 : decode cX0_add 26 = .ok (.iconst 1, 1) := by decide +kernel
theorem dX0_add_27 : decode cX0_add 27 = .ok (.iadd, 1) := by decide +kernel
theorem dX0_add_28 : decode cX0_add 28 = .ok (.putfield 15, 3) := by decide +kernel
theorem dX0_add_31 : decode cX0_add 31 = .ok (.return_, 1) := by decide +kernel
theorem dX0_remove_0 : decode cX0_remove 0 = .ok (.iload_n 1, 1) := by decide +kernel
theorem dX0_remove_1 : decode cX0_remove 1 = .ok (.iconst 1, 1) := by decide +kernel
theorem dX0_remove_2 : decode cX0_remove 2 = .ok (.if_icmp .lt 18, 3) := by decide +kernel
theorem dX0_remove_5 : decode cX0_remove 5 = .ok (.iload_n 1, 1) := by decide +kernel
theorem dX0_remove_6 : decode cX0_remove 6 = .ok (.bipush 10, 2) := by decide +kernel
theorem dX0_remove_8 : decode cX0_remove 8 = .ok (.if_icmp .gt 12, 3) := by decide +kernel
theorem dX0_remove_11 : decode cX0_remove 11 = .ok (.aload_n 0, 1) := by decide +kernel
theorem dX0_remove_12 : decode cX0_remove 12 = .ok (.getfield 9, 3) := by decide +kernel
theorem dX0_remove_15 : decode cX0_remove 15 = .ok (.iload_n 1, 1) := by decide +kernel
theorem dX0_remove_16 : decode cX0_remove 16 = .ok (.iaload, 1) := by decide +kernel
theorem dX0_remove_17 : decode cX0_remove 17 = .ok (.goto 4, 3) := by decide +kernel
theorem dX0_remove_20 : decode cX0_remove 20 = .ok (.iconst 0, 1) := by decide +kernel
theorem dX0_remove_21 : decode cX0_remove 21 = .ok (.istore_n 2, 1) := by decide +kernel
theorem dX0_remove_22 : decode cX0_remove 22 = .ok (.iload_n 2, 1) := by decide +kernel
theorem dX0_remove_23 : decode cX0_remove 23 = .ok (.ifCond .le 23, 3) := by decide +kernel
theorem dX0_remove_26 : decode cX0_remove 26 = .ok (.aload_n 0, 1) := by decide +kernel
theorem dX0_remove_27 : decode cX0_remove 27 = .ok (.getfield 9, 3) := by decide +kernel
theorem dX0_remove_30 : decode cX0_remove 30 = .ok (.iload_n 1, 1) := by decide +kernel
theorem dX0_remove_31 : decode cX0_remove 31 = .ok (.dup2, 1) := by decide +kernel
theorem dX0_remove_32 : decode cX0_remove 32 = .ok (.iaload, 1) := by decide +kernel
theorem dX0_remove_33 : decode cX0_remove 33 = .ok (.iconst 1, 1) := by decide +kernel
theorem dX0_remove_34 : decode cX0_remove 34 = .ok (.isub, 1) := by decide +kernel
theorem dX0_remove_35 : decode cX0_remove 35 = .ok (.iastore, 1) := by decide +kernel
theorem dX0_remove_36 : decode cX0_remove 36 = .ok (.aload_n 0, 1) := by decide +kernel
theorem dX0_remove_37 : decode cX0_remove 37 = .ok (.dup, 1) := by decide +kernel
theorem dX0_remove_38 : decode cX0_remove 38 = .ok (.getfield 15, 3) := by decide +kernel
theorem dX0_remove_41 : decode cX0_remove 41 = .ok (.iconst 1, 1) := by decide +kernel
theorem dX0_remove_42 : decode cX0_remove 42 = .ok (.isub, 1) := by decide +kernel
theorem dX0_remove_43 : decode cX0_remove 43 = .ok (.putfield 15, 3) := by decide +kernel
theorem dX0_remove_46 : decode cX0_remove 46 = .ok (.iload_n 2, 1) := by decide +kernel
theorem dX0_remove_47 : decode cX0_remove 47 = .ok (.ireturn, 1) := by decide +kernel
theorem dX0_clear_0 : decode cX0_clear 0 = .ok (.aload_n 0, 1) := by decide +kernel
theorem dX0_clear_1 : decode cX0_clear 1 = .ok (.getfield 9, 3) := by decide +kernel
theorem dX0_clear_4 : decode cX0_clear 4 = .ok (.iconst 0, 1) := by decide +kernel
theorem dX0_clear_5 : decode cX0_clear 5 = .ok (.invokestatic 19, 3) := by decide +kernel
theorem dX0_clear_8 : decode cX0_clear 8 = .ok (.aload_n 0, 1) := by decide +kernel
theorem dX0_clear_9 : decode cX0_clear 9 = .ok (.iconst 0, 1) := by decide +kernel
theorem dX0_clear_10 : decode cX0_clear 10 = .ok (.putfield 15, 3) := by decide +kernel
theorem dX0_clear_13 : decode cX0_clear 13 = .ok (.return_, 1) := by decide +kernel
theorem dX0_copy_0 : decode cX0_copy 0 = .ok (.aload_n 1, 1) := by decide +kernel
theorem dX0_copy_1 : decode cX0_copy 1 = .ok (.getfield 9, 3) := by decide +kernel
theorem dX0_copy_4 : decode cX0_copy 4 = .ok (.iconst 0, 1) := by decide +kernel
theorem dX0_copy_5 : decode cX0_copy 5 = .ok (.aload_n 0, 1) := by decide +kernel
theorem dX0_copy_6 : decode cX0_copy 6 = .ok (.getfield 9, 3) := by decide +kernel
theorem dX0_copy_9 : decode cX0_copy 9 = .ok (.iconst 0, 1) := by decide +kernel
theorem dX0_copy_10 : decode cX0_copy 10 = .ok (.aload_n 0, 1) := by decide +kernel
theorem dX0_copy_11 : decode cX0_copy 11 = .ok (.getfield 9, 3) := by decide +kernel
theorem dX0_copy_14 : decode cX0_copy 14 = .ok (.arraylength, 1) := by decide +kernel
theorem dX0_copy_15 : decode cX0_copy 15 = .ok (.invokestatic 25, 3) := by decide +kernel
theorem dX0_copy_18 : decode cX0_copy 18 = .ok (.aload_n 0, 1) := by decide +kernel
theorem dX0_copy_19 : decode cX0_copy 19 = .ok (.aload_n 1, 1) := by decide +kernel
theorem dX0_copy_20 : decode cX0_copy 20 = .ok (.getfield 15, 3) := by decide +kernel
theorem dX0_copy_23 : decode cX0_copy 23 = .ok (.putfield 15, 3) := by decide +kernel
theorem dX0_copy_26 : decode cX0_copy 26 = .ok (.return_, 1) := by decide +kernel
theorem dX0_rankAt_0 : decode cX0_rankAt 0 = .ok (.iload_n 1, 1) := by decide +kernel
theorem dX0_rankAt_1 : decode cX0_rankAt 1 = .ok (.istore_n 2, 1) := by decide +kernel
theorem dX0_rankAt_2 : decode cX0_rankAt 2 = .ok (.iconst 1, 1) := by decide +kernel
theorem dX0_rankAt_3 : decode cX0_rankAt 3 = .ok (.istore_n 3, 1) := by decide +kernel
theorem dX0_rankAt_4 : decode cX0_rankAt 4 = .ok (.iload_n 3, 1) := by decide +kernel
theorem dX0_rankAt_5 : decode cX0_rankAt 5 = .ok (.bipush 10, 2) := by decide +kernel
theorem dX0_rankAt_7 : decode cX0_rankAt 7 = .ok (.if_icmp .ge 30, 3) := by decide +kernel
theorem dX0_rankAt_10 : decode cX0_rankAt 10 = .ok (.iload_n 2, 1) := by decide +kernel
theorem dX0_rankAt_11 : decode cX0_rankAt 11 = .ok (.aload_n 0, 1) := by decide +kernel
theorem dX0_rankAt_12 : decode cX0_rankAt 12 = .ok (.getfield 9, 3) := by decide +kernel
theorem dX0_rankAt_15 : decode cX0_rankAt 15 = .ok (.iload_n 3, 1) := by decide +kernel
theorem dX0_rankAt_16 : decode cX0_rankAt 16 = .ok (.iaload, 1) := by decide +kernel
theorem dX0_rankAt_17 : decode cX0_rankAt 17 = .ok (.if_icmp .ge 5, 3) := by decide +kernel
theorem dX0_rankAt_20 : decode cX0_rankAt 20 = .ok (.iload_n 3, 1) := by decide +kernel
theorem dX0_rankAt_21 : decode cX0_rankAt 21 = .ok (.ireturn, 1) := by decide +kernel
theorem dX0_rankAt_22 : decode cX0_rankAt 22 = .ok (.iload_n 2, 1) := by decide +kernel
theorem dX0_rankAt_23 : decode cX0_rankAt 23 = .ok (.aload_n 0, 1) := by decide +kernel
theorem dX0_rankAt_24 : decode cX0_rankAt 24 = .ok (.getfield 9, 3) := by decide +kernel
theorem dX0_rankAt_27 : decode cX0_rankAt 27 = .ok (.iload_n 3, 1) := by decide +kernel
theorem dX0_rankAt_28 : decode cX0_rankAt 28 = .ok (.iaload, 1) := by decide +kernel
theorem dX0_rankAt_29 : decode cX0_rankAt 29 = .ok (.isub, 1) := by decide +kernel
theorem dX0_rankAt_30 : decode cX0_rankAt 30 = .ok (.istore_n 2, 1) := by decide +kernel
theorem dX0_rankAt_31 : decode cX0_rankAt 31 = .ok (.iinc 3 1, 3) := by decide +kernel
theorem dX0_rankAt_34 : decode cX0_rankAt 34 = .ok (.goto (-30), 3) := by decide +kernel
theorem dX0_rankAt_37 : decode cX0_rankAt 37 = .ok (.bipush 10, 2) := by decide +kernel
theorem dX0_rankAt_39 : decode cX0_rankAt 39 = .ok (.ireturn, 1) := by decide +kernel
theorem dX1_init_0 : decode cX1_init 0 = .ok (.aload_n 0, 1) := by decide +kernel
theorem dX1_init_1 : decode cX1_init 1 = .ok (.invokespecial 3, 3) := by decide +kernel
theorem dX1_init_4 : decode cX1_init 4 = .ok (.aload_n 0, 1) := by decide +kernel
theorem dX1_init_5 : decode cX1_init 5 = .ok (.bipush 12, 2) := by decide +kernel
theorem dX1_init_7 : decode cX1_init 7 = .ok (.newarray .int, 2) := by decide +kernel
theorem dX1_init_9 : decode cX1_init 9 = .ok (.putfield 9, 3) := by decide +kernel
theorem dX1_init_12 : decode cX1_init 12 = .ok (.aload_n 0, 1) := by decide +kernel
theorem dX1_init_13 : decode cX1_init 13 = .ok (.iconst 0, 1) := by decide +kernel
theorem dX1_init_14 : decode cX1_init 14 = .ok (.putfield 15, 3) := by decide +kernel
theorem dX1_init_17 : decode cX1_init 17 = .ok (.aload_n 0, 1) := by decide +kernel
theorem dX1_init_18 : decode cX1_init 18 = .ok (.iconst 0, 1) := by decide +kernel
theorem dX1_init_19 : decode cX1_init 19 = .ok (.putfield 19, 3) := by decide +kernel
theorem dX1_init_22 : decode cX1_init 22 = .ok (.aload_n 0, 1) := by decide +kernel
theorem dX1_init_23 : decode cX1_init 23 = .ok (.iconst 0, 1) := by decide +kernel
theorem dX1_init_24 : decode cX1_init 24 = .ok (.putfield 22, 3) := by decide +kernel
theorem dX1_init_27 : decode cX1_init 27 = .ok (.return_, 1) := by decide +kernel
theorem dX1_isFull_0 : decode cX1_isFull 0 = .ok (.aload_n 0, 1) := by decide +kernel
theorem dX1_isFull_1 : decode cX1_isFull 1 = .ok (.getfield 15, 3) := by decide +kernel
theorem dX1_isFull_4 : decode cX1_isFull 4 = .ok (.bipush 12, 2) := by decide +kernel
theorem dX1_isFull_6 : decode cX1_isFull 6 = .ok (.if_icmp .lt 7, 3) := by decide +kernel
theorem dX1_isFull_9 : decode cX1_isFull 9 = .ok (.iconst 1, 1) := by decide +kernel
theorem dX1_isFull_10 : decode cX1_isFull 10 = .ok (.goto 4, 3) := by decide +kernel
theorem dX1_isFull_13 : decode cX1_isFull 13 = .ok (.iconst 0, 1) := by decide +kernel
theorem dX1_isFull_14 : decode cX1_isFull 14 = .ok (.ireturn, 1) := by decide +kernel
theorem dX1_add_0 : decode cX1_add 0 = .ok (.aload_n 0, 1) := by decide +kernel
theorem dX1_add_1 : decode cX1_add 1 = .ok (.getfield 15, 3) := by decide +kernel
theorem dX1_add_4 : decode cX1_add 4 = .ok (.bipush 12, 2) := by decide +kernel
theorem dX1_add_6 : decode cX1_add 6 = .ok (.if_icmp .lt 4, 3) := by decide +kernel
theorem dX1_add_9 : decode cX1_add 9 = .ok (.return_, 1) := by decide +kernel
theorem dX1_add_10 : decode cX1_add 10 = .ok (.aload_n 0, 1) := by decide +kernel
theorem dX1_add_11 : decode cX1_add 11 = .ok (.getfield 9, 3) := by decide +kernel
theorem dX1_add_14 : decode cX1_add 14 = .ok (.aload_n 0, 1) := by decide +kernel
theorem dX1_add_15 : decode cX1_add 15 = .ok (.getfield 15, 3) := by decide +kernel
theorem dX1_add_18 : decode cX1_add 18 = .ok (.iload_n 1, 1) := by decide +kernel
theorem dX1_add_19 : decode cX1_add 19 = .ok (.iastore, 1) := by decide +kernel
theorem dX1_add_20 : decode cX1_add 20 = .ok (.aload_n 0, 1) := by decide +kernel
theorem dX1_add_21 : decode cX1_add 21 = .ok (.dup, 1) := by decide +kernel
theorem dX1_add_22 : decode cX1_add 22 = .ok (.getfield 15, 3) := by decide +kernel
theorem dX1_add_25 : decode cX1_add 25 = .ok (.iconst 1, 1) := by decide +kernel
theorem dX1_add_26 : decode cX1_add 26 = .ok (.iadd, 1) := by decide +kernel
theorem dX1_add_27 : decode cX1_add 27 = .ok (.putfield 15, 3) := by decide +kernel
theorem dX1_add_30 : decode cX1_add 30 = .ok (.aload_n 0, 1) := by decide +kernel
theorem dX1_add_31 : decode cX1_add 31 = .ok (.dup, 1) := by decide +kernel
theorem dX1_add_32 : decode cX1_add 32 = .ok (.getfield 19, 3) := by decide +kernel
theorem dX1_add_35 : decode cX1_add 35 = .ok (.iload_n 1, 1) := by decide +kernel
theorem dX1_add_36 : decode cX1_add 36 = .ok (.iadd, 1) := by decide +kernel
theorem dX1_add_37 : decode cX1_add 37 = .ok (.putfield 19, 3) := by decide +kernel
theorem dX1_add_40 : decode cX1_add 40 = .ok (.aload_n 0, 1) := by decide +kernel
theorem dX1_add_41 : decode cX1_add 41 = .ok (.aload_n 0, 1) := by decide +kernel
theorem dX1_add_42 : decode cX1_add 42 = .ok (.getfield 22, 3) := by decide +kernel
theorem dX1_add_45 : decode cX1_add 45 = .ok (.ifCond .ne 8, 3) := by decide +kernel
theorem dX1_add_48 : decode cX1_add 48 = .ok (.iload_n 1, 1) := by decide +kernel
theorem dX1_add_49 : decode cX1_add 49 = .ok (.iconst 1, 1) := by decide +kernel
theorem dX1_add_50 : decode cX1_add 50 = .ok (.if_icmp .ne 7, 3) := by decide +kernel
theorem dX1_add_53 : decode cX1_add 53 = .ok (.iconst 1, 1) := by decide +kernel
theorem dX1_add_54 : decode cX1_add 54 = .ok (.goto 4, 3) := by decide +kernel
theorem dX1_add_57 : decode cX1_add 57 = .ok (.iconst 0, 1) := by decide +kernel
theorem dX1_add_58 : decode cX1_add 58 = .ok (.putfield 22, 3) := by decide +kernel
theorem dX1_add_61 : decode cX1_add 61 = .ok (.return_, 1) := by decide +kernel
theorem dX1_clear_0 : decode cX1_clear 0 = .ok (.aload_n 0, 1) := by decide +kernel
theorem dX1_clear_1 : decode cX1_clear 1 = .ok (.iconst 0, 1) := by decide +kernel
theorem dX1_clear_2 : decode cX1_clear 2 = .ok (.putfield 15, 3) := by decide +kernel
theorem dX1_clear_5 : decode cX1_clear 5 = .ok (.aload_n 0, 1) := by decide +kernel
theorem dX1_clear_6 : decode cX1_clear 6 = .ok (.iconst 0, 1) := by decide +kernel
theorem dX1_clear_7 : decode cX1_clear 7 = .ok (.putfield 19, 3) := by decide +kernel
theorem dX1_clear_10 : decode cX1_clear 10 = .ok (.aload_n 0, 1) := by decide +kernel
theorem dX1_clear_11 : decode cX1_clear 11 = .ok (.iconst 0, 1) := by decide +kernel
theorem dX1_clear_12 : decode cX1_clear 12 = .ok (.putfield 22, 3) := by decide +kernel
theorem dX1_clear_15 : decode cX1_clear 15 = .ok (.return_, 1) := by decide +kernel
theorem dX1_card_0 : decode cX1_card 0 = .ok (.iload_n 1, 1) := by decide +kernel
theorem dX1_card_1 : decode cX1_card 1 = .ok (.ifCond .lt 20, 3) := by decide +kernel
theorem dX1_card_4 : decode cX1_card 4 = .ok (.iload_n 1, 1) := by decide +kernel
theorem dX1_card_5 : decode cX1_card 5 = .ok (.aload_n 0, 1) := by decide +kernel
theorem dX1_card_6 : decode cX1_card 6 = .ok (.getfield 15, 3) := by decide +kernel
theorem dX1_card_9 : decode cX1_card 9 = .ok (.if_icmp .ge 12, 3) := by decide +kernel
theorem dX1_card_12 : decode cX1_card 12 = .ok (.aload_n 0, 1) := by decide +kernel
theorem dX1_card_13 : decode cX1_card 13 = .ok (.getfield 9, 3) := by decide +kernel
theorem dX1_card_16 : decode cX1_card 16 = .ok (.iload_n 1, 1) := by decide +kernel
theorem dX1_card_17 : decode cX1_card 17 = .ok (.iaload, 1) := by decide +kernel
theorem dX1_card_18 : decode cX1_card 18 = .ok (.goto 4, 3) := by decide +kernel
theorem dX1_card_21 : decode cX1_card 21 = .ok (.iconst (-1), 1) := by decide +kernel
theorem dX1_card_22 : decode cX1_card 22 = .ok (.ireturn, 1) := by decide +kernel
theorem dX1_isPair_0 : decode cX1_isPair 0 = .ok (.aload_n 0, 1) := by decide +kernel
theorem dX1_isPair_1 : decode cX1_isPair 1 = .ok (.getfield 15, 3) := by decide +kernel
theorem dX1_isPair_4 : decode cX1_isPair 4 = .ok (.iconst 2, 1) := by decide +kernel
theorem dX1_isPair_5 : decode cX1_isPair 5 = .ok (.if_icmp .ne 22, 3) := by decide +kernel
theorem dX1_isPair_8 : decode cX1_isPair 8 = .ok (.aload_n 0, 1) := by decide +kernel
theorem dX1_isPair_9 : decode cX1_isPair 9 = .ok (.getfield 9, 3) := by decide +kernel
theorem dX1_isPair_12 : decode cX1_isPair 12 = .ok (.iconst 0, 1) := by decide +kernel
theorem dX1_isPair_13 : decode cX1_isPair 13 = .ok (.iaload, 1) := by decide +kernel
theorem dX1_isPair_14 : decode cX1_isPair 14 = .ok (.aload_n 0, 1) := by decide +kernel
theorem dX1_isPair_15 : decode cX1_isPair 15 = .ok (.getfield 9, 3) := by decide +kernel
theorem dX1_isPair_18 : decode cX1_isPair 18 = .ok (.iconst 1, 1) := by decide +kernel
theorem dX1_isPair_19 : decode cX1_isPair 19 = .ok (.iaload, 1) := by decide +kernel
theorem dX1_isPair_20 : decode cX1_isPair 20 = .ok (.if_icmp .ne 7, 3) := by decide +kernel
theorem dX1_isPair_23 : decode cX1_isPair 23 = .ok (.iconst 1, 1) := by decide +kernel
theorem dX1_isPair_24 : decode cX1_isPair 24 = .ok (.goto 4, 3) := by decide +kernel
theorem dX1_isPair_27 : decode cX1_isPair 27 = .ok (.iconst 0, 1) := by decide +kernel
theorem dX1_isPair_28 : decode cX1_isPair 28 = .ok (.ireturn, 1) := by decide +kernel
theorem dX1_copy_0 : decode cX1_copy 0 = .ok (.aload_n 1, 1) := by decide +kernel
theorem dX1_copy_1 : decode cX1_copy 1 = .ok (.getfield 9, 3) := by decide +kernel
theorem dX1_copy_4 : decode cX1_copy 4 = .ok (.iconst 0, 1) := by decide +kernel
theorem dX1_copy_5 : decode cX1_copy 5 = .ok (.aload_n 0, 1) := by decide +kernel
theorem dX1_copy_6 : decode cX1_copy 6 = .ok (.getfield 9, 3) := by decide +kernel
theorem dX1_copy_9 : decode cX1_copy 9 = .ok (.iconst 0, 1) := by decide +kernel
theorem dX1_copy_10 : decode cX1_copy 10 = .ok (.aload_n 0, 1) := by decide +kernel
theorem dX1_copy_11 : decode cX1_copy 11 = .ok (.getfield 9, 3) := by decide +kernel
theorem dX1_copy_14 : decode cX1_copy 14 = .ok (.arraylength, 1) := by decide +kernel
theorem dX1_copy_15 : decode cX1_copy 15 = .ok (.invokestatic 26, 3) := by decide +kernel
theorem dX1_copy_18 : decode cX1_copy 18 = .ok (.aload_n 0, 1) := by decide +kernel
theorem dX1_copy_19 : decode cX1_copy 19 = .ok (.aload_n 1, 1) := by decide +kernel
theorem dX1_copy_20 : decode cX1_copy 20 = .ok (.getfield 15, 3) := by decide +kernel
theorem dX1_copy_23 : decode cX1_copy 23 = .ok (.putfield 15, 3) := by decide +kernel
theorem dX1_copy_26 : decode cX1_copy 26 = .ok (.aload_n 0, 1) := by decide +kernel
theorem dX1_copy_27 : decode cX1_copy 27 = .ok (.aload_n 1, 1) := by decide +kernel
theorem dX1_copy_28 : decode cX1_copy 28 = .ok (.getfield 19, 3) := by decide +kernel
theorem dX1_copy_31 : decode cX1_copy 31 = .ok (.putfield 19, 3) := by decide +kernel
theorem dX1_copy_34 : decode cX1_copy 34 = .ok (.aload_n 0, 1) := by decide +kernel
theorem dX1_copy_35 : decode cX1_copy 35 = .ok (.aload_n 1, 1) := by decide +kernel
theorem dX1_copy_36 : decode cX1_copy 36 = .ok (.getfield 22, 3) := by decide +kernel
theorem dX1_copy_39 : decode cX1_copy 39 = .ok (.putfield 22, 3) := by decide +kernel
theorem dX1_copy_42 : decode cX1_copy 42 = .ok (.return_, 1) := by decide +kernel
theorem dX2_init_0 : decode cX2_init 0 = .ok (.aload_n 0, 1) := by decide +kernel
theorem dX2_init_1 : decode cX2_init 1 = .ok (.invokespecial 5, 3) := by decide +kernel
theorem dX2_init_4 : decode cX2_init 4 = .ok (.aload_n 0, 1) := by decide +kernel
theorem dX2_init_5 : decode cX2_init 5 = .ok (.bipush 9, 2) := by decide +kernel
theorem dX2_init_7 : decode cX2_init 7 = .ok (.bipush 49, 2) := by decide +kernel
theorem dX2_init_9 : decode cX2_init 9 = .ok (.multianewarray 11 2, 4) := by decide +kernel
theorem dX2_init_13 : decode cX2_init 13 = .ok (.putfield 13, 3) := by decide +kernel
theorem dX2_init_16 : decode cX2_init 16 = .ok (.return_, 1) := by decide +kernel
theorem dX2_ways_0 : decode cX2_ways 0 = .ok (.iload_n 3, 1) := by decide +kernel
theorem dX2_ways_1 : decode cX2_ways 1 = .ok (.ifCond .lt 23, 3) := by decide +kernel
theorem dX2_ways_4 : decode cX2_ways 4 = .ok (.iload_n 3, 1) := by decide +kernel
theorem dX2_ways_5 : decode cX2_ways 5 = .ok (.bipush 8, 2) := by decide +kernel
theorem dX2_ways_7 : decode cX2_ways 7 = .ok (.if_icmp .gt 17, 3) := by decide +kernel
theorem dX2_ways_10 : decode cX2_ways 10 = .ok (.iload 4, 2) := by decide +kernel
theorem dX2_ways_12 : decode cX2_ways 12 = .ok (.bipush (-24), 2) := by decide +kernel
theorem dX2_ways_14 : decode cX2_ways 14 = .ok (.if_icmp .lt 10, 3) := by decide +kernel
theorem dX2_ways_17 : decode cX2_ways 17 = .ok (.iload 4, 2) := by decide +kernel
theorem dX2_ways_19 : decode cX2_ways 19 = .ok (.bipush 24, 2) := by decide +kernel
theorem dX2_ways_21 : decode cX2_ways 21 = .ok (.if_icmp .le 5, 3) := by decide +kernel
theorem dX2_ways_24 : decode cX2_ways 24 = .ok (.lconst 0, 1) := by decide +kernel
theorem dX2_ways_25 : decode cX2_ways 25 = .ok (.lreturn, 1) := by decide +kernel
theorem dX2_ways_26 : decode cX2_ways 26 = .ok (.iconst 0, 1) := by decide +kernel
theorem dX2_ways_27 : decode cX2_ways 27 = .ok (.istore 5, 2) := by decide +kernel
theorem dX2_ways_29 : decode cX2_ways 29 = .ok (.iload 5, 2) := by decide +kernel
theorem dX2_ways_31 : decode cX2_ways 31 = .ok (.iload_n 3, 1) := by decide +kernel
theorem dX2_ways_32 : decode cX2_ways 32 = .ok (.if_icmp .gt 20, 3) := by decide +kernel
theorem dX2_ways_35 : decode cX2_ways 35 = .ok (.aload_n 0, 1) := by decide +kernel
theorem dX2_ways_36 : decode cX2_ways 36 = .ok (.getfield 13, 3) := by decide +kernel
theorem dX2_ways_39 : decode cX2_ways 39 = .ok (.iload 5, 2) := by decide +kernel
theorem dX2_ways_41 : decode cX2_ways 41 = .ok (.aaload, 1) := by decide +kernel
theorem dX2_ways_42 : decode cX2_ways 42 = .ok (.lconst 0, 1) := by decide +kernel
theorem dX2_ways_43 : decode cX2_ways 43 = .ok (.invokestatic 16, 3) := by decide +kernel
theorem dX2_ways_46 : decode cX2_ways 46 = .ok (.iinc 5 1, 3) := by decide +kernel
theorem dX2_ways_49 : decode cX2_ways 49 = .ok (.goto (-20), 3) := by decide +kernel
theorem dX2_ways_52 : decode cX2_ways 52 = .ok (.aload_n 0, 1) := by decide +kernel
theorem dX2_ways_53 : decode cX2_ways 53 = .ok (.getfield 13, 3) := by decide +kernel
theorem dX2_ways_56 : decode cX2_ways 56 = .ok (.iconst 0, 1) := by decide +kernel
theorem dX2_ways_57 : decode cX2_ways 57 = .ok (.aaload, 1) := by decide +kernel
theorem dX2_ways_58 : decode cX2_ways 58 = .ok (.bipush 24, 2) := by decide +kernel
theorem dX2_ways_60 : decode cX2_ways 60 = .ok (.lconst 1, 1) := by decide +kernel
theorem dX2_ways_61 : decode cX2_ways 61 = .ok (.lastore, 1) := by decide +kernel
theorem dX2_ways_62 : decode cX2_ways 62 = .ok (.iconst 1, 1) := by decide +kernel
theorem dX2_ways_63 : decode cX2_ways 63 = .ok (.istore 5, 2) := by decide +kernel
theorem dX2_ways_65 : decode cX2_ways 65 = .ok (.iload 5, 2) := by decide +kernel
theorem dX2_ways_67 : decode cX2_ways 67 = .ok (.bipush 10, 2) := by decide +kernel
theorem dX2_ways_69 : decode cX2_ways 69 = .ok (.if_icmp .gt 38, 3) := by decide +kernel
theorem dX2_ways_72 : decode cX2_ways 72 = .ok (.iconst 0, 1) := by decide +kernel
theorem dX2_ways_73 : decode cX2_ways 73 = .ok (.istore 6, 2) := by decide +kernel
theorem dX2_ways_75 : decode cX2_ways 75 = .ok (.iload 6, 2) := by decide +kernel
theorem dX2_ways_77 : decode cX2_ways 77 = .ok (.aload_n 1, 1) := by decide +kernel
theorem dX2_ways_78 : decode cX2_ways 78 = .ok (.iload 5, 2) := by decide +kernel
theorem dX2_ways_80 : decode cX2_ways 80 = .ok (.invokevirtual 22, 3) := by decide +kernel
theorem dX2_ways_83 : decode cX2_ways 83 = .ok (.if_icmp .ge 18, 3) := by decide +kernel
theorem dX2_ways_86 : decode cX2_ways 86 = .ok (.aload_n 0, 1) := by decide +kernel
theorem dX2_ways_87 : decode cX2_ways 87 = .ok (.aload_n 2, 1) := by decide +kernel
theorem dX2_ways_88 : decode cX2_ways 88 = .ok (.iload 5, 2) := by decide +kernel
theorem dX2_ways_90 : decode cX2_ways 90 = .ok (.iaload, 1) := by decide +kernel
theorem dX2_ways_91 : decode cX2_ways 91 = .ok (.iload_n 3, 1) := by decide +kernel
theorem dX2_ways_92 : decode cX2_ways 92 = .ok (.invokevirtual 28, 3) := by decide +kernel
theorem dX2_ways_95 : decode cX2_ways 95 = .ok (.iinc 6 1, 3) := by decide +kernel
theorem dX2_ways_98 : decode cX2_ways 98 = .ok (.goto (-23), 3) := by decide +kernel
theorem dX2_ways_101 : decode cX2_ways 101 = .ok (.iinc 5 1, 3) := by decide +kernel
theorem dX2_ways_104 : decode cX2_ways 104 = .ok (.goto (-39), 3) := by decide +kernel
theorem dX2_ways_107 : decode cX2_ways 107 = .ok (.aload_n 0, 1) := by decide +kernel
theorem dX2_ways_108 : decode cX2_ways 108 = .ok (.getfield 13, 3) := by decide +kernel
theorem dX2_ways_111 : decode cX2_ways 111 = .ok (.iload_n 3, 1) := by decide +kernel
theorem dX2_ways_112 : decode cX2_ways 112 = .ok (.aaload, 1) := by decide +kernel
theorem dX2_ways_113 : decode cX2_ways 113 = .ok (.bipush 24, 2) := by decide +kernel
theorem dX2_ways_115 : decode cX2_ways 115 = .ok (.iload 4, 2) := by decide +kernel
theorem dX2_ways_117 : decode cX2_ways 117 = .ok (.iadd, 1) := by decide +kernel
theorem dX2_ways_118 : decode cX2_ways 118 = .ok (.laload, 1) := by decide +kernel
theorem dX2_ways_119 : decode cX2_ways 119 = .ok (.lreturn, 1) := by decide +kernel
theorem dX2_addCard_0 : decode cX2_addCard 0 = .ok (.iconst 0, 1) := by decide +kernel
theorem dX2_addCard_1 : decode cX2_addCard 1 = .ok (.iload_n 1, 1) := by decide +kernel
theorem dX2_addCard_2 : decode cX2_addCard 2 = .ok (.invokestatic 32, 3) := by decide +kernel
theorem dX2_addCard_5 : decode cX2_addCard 5 = .ok (.istore_n 3, 1) := by decide +kernel
theorem dX2_addCard_6 : decode cX2_addCard 6 = .ok (.bipush 49, 2) := by decide +kernel
theorem dX2_addCard_8 : decode cX2_addCard 8 = .ok (.bipush 49, 2) := by decide +kernel
theorem dX2_addCard_10 : decode cX2_addCard 10 = .ok (.iload_n 1, 1) := by decide +kernel
theorem dX2_addCard_11 : decode cX2_addCard 11 = .ok (.iadd, 1) := by decide +kernel
theorem dX2_addCard_12 : decode cX2_addCard 12 = .ok (.invokestatic 38, 3) := by decide +kernel
theorem dX2_addCard_15 : decode cX2_addCard 15 = .ok (.istore 4, 2) := by decide +kernel
theorem dX2_addCard_17 : decode cX2_addCard 17 = .ok (.iload_n 2, 1) := by decide +kernel
theorem dX2_addCard_18 : decode cX2_addCard 18 = .ok (.istore 5, 2) := by decide +kernel
theorem dX2_addCard_20 : decode cX2_addCard 20 = .ok (.iload 5, 2) := by decide +kernel
theorem dX2_addCard_22 : decode cX2_addCard 22 = .ok (.ifCond .le 52, 3) := by decide +kernel
theorem dX2_addCard_25 : decode cX2_addCard 25 = .ok (.iload_n 3, 1) := by decide +kernel
theorem dX2_addCard_26 : decode cX2_addCard 26 = .ok (.istore 6, 2) := by decide +kernel
theorem dX2_addCard_28 : decode cX2_addCard 28 = .ok (.iload 6, 2) := by decide +kernel
theorem dX2_addCard_30 : decode cX2_addCard 30 = .ok (.iload 4, 2) := by decide +kernel
theorem dX2_addCard_32 : decode cX2_addCard 32 = .ok (.if_icmp .ge 36, 3) := by decide +kernel
theorem dX2_addCard_35 : decode cX2_addCard 35 = .ok (.aload_n 0, 1) := by decide +kernel
theorem dX2_addCard_36 : decode cX2_addCard 36 = .ok (.getfield 13, 3) := by decide +kernel
theorem dX2_addCard_39 : decode cX2_addCard 39 = .ok (.iload 5, 2) := by decide +kernel
theorem dX2_addCard_41 : decode cX2_addCard 41 = .ok (.aaload, 1) := by decide +kernel
theorem dX2_addCard_42 : decode cX2_addCard 42 = .ok (.iload 6, 2) := by decide +kernel
theorem dX2_addCard_44 : decode cX2_addCard 44 = .ok (.dup2, 1) := by decide +kernel
theorem dX2_addCard_45 : decode cX2_addCard 45 = .ok (.laload, 1) := by decide +kernel
theorem dX2_addCard_46 : decode cX2_addCard 46 = .ok (.aload_n 0, 1) := by decide +kernel
theorem dX2_addCard_47 : decode cX2_addCard 47 = .ok (.getfield 13, 3) := by decide +kernel
theorem dX2_addCard_50 : decode cX2_addCard 50 = .ok (.iload 5, 2) := by decide +kernel
theorem dX2_addCard_52 : decode cX2_addCard 52 = .ok (.iconst 1, 1) := by decide +kernel
theorem dX2_addCard_53 : decode cX2_addCard 53 = .ok (.isub, 1) := by decide +kernel
theorem dX2_addCard_54 : decode cX2_addCard 54 = .ok (.aaload, 1) := by decide +kernel
theorem dX2_addCard_55 : decode cX2_addCard 55 = .ok (.iload 6, 2) := by decide +kernel
theorem dX2_addCard_57 : decode cX2_addCard 57 = .ok (.iload_n 1, 1) := by decide +kernel
theorem dX2_addCard_58 : decode cX2_addCard 58 = .ok (.isub, 1) := by decide +kernel
theorem dX2_addCard_59 : decode cX2_addCard 59 = .ok (.laload, 1) := by decide +kernel
theorem dX2_addCard_60 : decode cX2_addCard 60 = .ok (.ladd, 1) := by decide +kernel
theorem dX2_addCard_61 : decode cX2_addCard 61 = .ok (.lastore, 1) := by decide +kernel
theorem dX2_addCard_62 : decode cX2_addCard 62 = .ok (.iinc 6 1, 3) := by decide +kernel
theorem dX2_addCard_65 : decode cX2_addCard 65 = .ok (.goto (-37), 3) := by decide +kernel
theorem dX2_addCard_68 : decode cX2_addCard 68 = .ok (.iinc 5 (-1), 3) := by decide +kernel
theorem dX2_addCard_71 : decode cX2_addCard 71 = .ok (.goto (-51), 3) := by decide +kernel
theorem dX2_addCard_74 : decode cX2_addCard 74 = .ok (.return_, 1) := by decide +kernel
theorem dX3_init_0 : decode cX3_init 0 = .ok (.aload_n 0, 1) := by decide +kernel
theorem dX3_init_1 : decode cX3_init 1 = .ok (.invokespecial 3, 3) := by decide +kernel
theorem dX3_init_4 : decode cX3_init 4 = .ok (.aload_n 0, 1) := by decide +kernel
theorem dX3_init_5 : decode cX3_init 5 = .ok (.new 9, 3) := by decide +kernel
theorem dX3_init_8 : decode cX3_init 8 = .ok (.dup, 1) := by decide +kernel
theorem dX3_init_9 : decode cX3_init 9 = .ok (.invokespecial 11, 3) := by decide +kernel
theorem dX3_init_12 : decode cX3_init 12 = .ok (.putfield 12, 3) := by decide +kernel
theorem dX3_init_15 : decode cX3_init 15 = .ok (.aload_n 0, 1) := by decide +kernel
theorem dX3_init_16 : decode cX3_init 16 = .ok (.new 18, 3) := by decide +kernel
theorem dX3_init_19 : decode cX3_init 19 = .ok (.dup, 1) := by decide +kernel
theorem dX3_init_20 : decode cX3_init 20 = .ok (.invokespecial 20, 3) := by decide +kernel
theorem dX3_init_23 : decode cX3_init 23 = .ok (.putfield 21, 3) := by decide +kernel
theorem dX3_init_26 : decode cX3_init 26 = .ok (.aload_n 0, 1) := by decide +kernel
theorem dX3_init_27 : decode cX3_init 27 = .ok (.new 18, 3) := by decide +kernel
theorem dX3_init_30 : decode cX3_init 30 = .ok (.dup, 1) := by decide +kernel
theorem dX3_init_31 : decode cX3_init 31 = .ok (.invokespecial 20, 3) := by decide +kernel
theorem dX3_init_34 : decode cX3_init 34 = .ok (.putfield 25, 3) := by decide +kernel
theorem dX3_init_37 : decode cX3_init 37 = .ok (.aload_n 0, 1) := by decide +kernel
theorem dX3_init_38 : decode cX3_init 38 = .ok (.new 28, 3) := by decide +kernel
theorem dX3_init_41 : decode cX3_init 41 = .ok (.dup, 1) := by decide +kernel
theorem dX3_init_42 : decode cX3_init 42 = .ok (.invokespecial 30, 3) := by decide +kernel
theorem dX3_init_45 : decode cX3_init 45 = .ok (.putfield 31, 3) := by decide +kernel
theorem dX3_init_48 : decode cX3_init 48 = .ok (.aload_n 0, 1) := by decide +kernel
theorem dX3_init_49 : decode cX3_init 49 = .ok (.iconst (-1), 1) := by decide +kernel
theorem dX3_init_50 : decode cX3_init 50 = .ok (.putfield 35, 3) := by decide +kernel
theorem dX3_init_53 : decode cX3_init 53 = .ok (.aload_n 0, 1) := by decide +kernel
theorem dX3_init_54 : decode cX3_init 54 = .ok (.iconst (-1), 1) := by decide +kernel
theorem dX3_init_55 : decode cX3_init 55 = .ok (.putfield 39, 3) := by decide +kernel
theorem dX3_init_58 : decode cX3_init 58 = .ok (.aload_n 0, 1) := by decide +kernel
theorem dX3_init_59 : decode cX3_init 59 = .ok (.lconst 0, 1) := by decide +kernel
theorem dX3_init_60 : decode cX3_init 60 = .ok (.putfield 42, 3) := by decide +kernel
theorem dX3_init_63 : decode cX3_init 63 = .ok (.aload_n 0, 1) := by decide +kernel
theorem dX3_init_64 : decode cX3_init 64 = .ok (.bipush 22, 2) := by decide +kernel
theorem dX3_init_66 : decode cX3_init 66 = .ok (.newarray .long, 2) := by decide +kernel
theorem dX3_init_68 : decode cX3_init 68 = .ok (.putfield 46, 3) := by decide +kernel
theorem dX3_init_71 : decode cX3_init 71 = .ok (.aload_n 0, 1) := by decide +kernel
theorem dX3_init_72 : decode cX3_init 72 = .ok (.bipush 11, 2) := by decide +kernel
theorem dX3_init_74 : decode cX3_init 74 = .ok (.newarray .int, 2) := by decide +kernel
theorem dX3_init_76 : decode cX3_init 76 = .ok (.putfield 50, 3) := by decide +kernel
theorem dX3_init_79 : decode cX3_init 79 = .ok (.aload_n 0, 1) := by decide +kernel
theorem dX3_init_80 : decode cX3_init 80 = .ok (.sipush 2304, 3) := by decide +kernel
theorem dX3_init_83 : decode cX3_init 83 = .ok (.newarray .long, 2) := by decide +kernel
theorem dX3_init_85 : decode cX3_init 85 = .ok (.putfield 54, 3) := by decide +kernel
theorem dX3_init_88 : decode cX3_init 88 = .ok (.aload_n 0, 1) := by decide +kernel
theorem dX3_init_89 : decode cX3_init 89 = .ok (.sipush 2304, 3) := by decide +kernel
theorem dX3_init_92 : decode cX3_init 92 = .ok (.newarray .int, 2) := by decide +kernel
theorem dX3_init_94 : decode cX3_init 94 = .ok (.putfield 57, 3) := by decide +kernel
theorem dX3_init_97 : decode cX3_init 97 = .ok (.aload_n 0, 1) := by decide +kernel
theorem dX3_init_98 : decode cX3_init 98 = .ok (.iconst 0, 1) := by decide +kernel
theorem dX3_init_99 : decode cX3_init 99 = .ok (.putfield 60, 3) := by decide +kernel
theorem dX3_init_102 : decode cX3_init 102 = .ok (.aload_n 0, 1) := by decide +kernel
theorem dX3_init_103 : decode cX3_init 103 = .ok (.sipush 2304, 3) := by decide +kernel
theorem dX3_init_106 : decode cX3_init 106 = .ok (.newarray .long, 2) := by decide +kernel
theorem dX3_init_108 : decode cX3_init 108 = .ok (.putfield 63, 3) := by decide +kernel
theorem dX3_init_111 : decode cX3_init 111 = .ok (.aload_n 0, 1) := by decide +kernel
theorem dX3_init_112 : decode cX3_init 112 = .ok (.sipush 2304, 3) := by decide +kernel
theorem dX3_init_115 : decode cX3_init 115 = .ok (.newarray .int, 2) := by decide +kernel
theorem dX3_init_117 : decode cX3_init 117 = .ok (.putfield 66, 3) := by decide +kernel
theorem dX3_init_120 : decode cX3_init 120 = .ok (.aload_n 0, 1) := by decide +kernel
theorem dX3_init_121 : decode cX3_init 121 = .ok (.iconst 0, 1) := by decide +kernel
theorem dX3_init_122 : decode cX3_init 122 = .ok (.putfield 69, 3) := by decide +kernel
theorem dX3_init_125 : decode cX3_init 125 = .ok (.return_, 1) := by decide +kernel
theorem dX3_look_0 : decode cX3_look 0 = .ok (.aload_n 0, 1) := by decide +kernel
theorem dX3_look_1 : decode cX3_look 1 = .ok (.getfield 12, 3) := by decide +kernel
theorem dX3_look_4 : decode cX3_look 4 = .ok (.aload_n 1, 1) := by decide +kernel
theorem dX3_look_5 : decode cX3_look 5 = .ok (.invokevirtual 72, 3) := by decide +kernel
theorem dX3_look_8 : decode cX3_look 8 = .ok (.aload_n 0, 1) := by decide +kernel
theorem dX3_look_9 : decode cX3_look 9 = .ok (.getfield 21, 3) := by decide +kernel
theorem dX3_look_12 : decode cX3_look 12 = .ok (.aload_n 2, 1) := by decide +kernel
theorem dX3_look_13 : decode cX3_look 13 = .ok (.invokevirtual 76, 3) := by decide +kernel
theorem dX3_look_16 : decode cX3_look 16 = .ok (.aload_n 0, 1) := by decide +kernel
theorem dX3_look_17 : decode cX3_look 17 = .ok (.getfield 31, 3) := by decide +kernel
theorem dX3_look_20 : decode cX3_look 20 = .ok (.aload_n 3, 1) := by decide +kernel
theorem dX3_look_21 : decode cX3_look 21 = .ok (.invokevirtual 79, 3) := by decide +kernel
theorem dX3_look_24 : decode cX3_look 24 = .ok (.aload_n 0, 1) := by decide +kernel
theorem dX3_look_25 : decode cX3_look 25 = .ok (.iload 4, 2) := by decide +kernel
theorem dX3_look_27 : decode cX3_look 27 = .ok (.putfield 35, 3) := by decide +kernel
theorem dX3_look_30 : decode cX3_look 30 = .ok (.return_, 1) := by decide +kernel
theorem dX3_isThere_0 : decode cX3_isThere 0 = .ok (.aload_n 0, 1) := by decide +kernel
theorem dX3_isThere_1 : decode cX3_isThere 1 = .ok (.getfield 31, 3) := by decide +kernel
theorem dX3_isThere_4 : decode cX3_isThere 4 = .ok (.getfield 82, 3) := by decide +kernel
theorem dX3_isThere_7 : decode cX3_isThere 7 = .ok (.ifCond .eq 28, 3) := by decide +kernel
theorem dX3_isThere_10 : decode cX3_isThere 10 = .ok (.aload_n 0, 1) := by decide +kernel
theorem dX3_isThere_11 : decode cX3_isThere 11 = .ok (.getfield 12, 3) := by decide +kernel
theorem dX3_isThere_14 : decode cX3_isThere 14 = .ok (.aload_n 0, 1) := by decide +kernel
theorem dX3_isThere_15 : decode cX3_isThere 15 = .ok (.getfield 31, 3) := by decide +kernel
theorem dX3_isThere_18 : decode cX3_isThere 18 = .ok (.getfield 85, 3) := by decide +kernel
theorem dX3_isThere_21 : decode cX3_isThere 21 = .ok (.invokevirtual 88, 3) := by decide +kernel
theorem dX3_isThere_24 : decode cX3_isThere 24 = .ok (.ifCond .ne 11, 3) := by decide +kernel
theorem dX3_isThere_27 : decode cX3_isThere 27 = .ok (.aload_n 0, 1) := by decide +kernel
theorem dX3_isThere_28 : decode cX3_isThere 28 = .ok (.getfield 35, 3) := by decide +kernel
theorem dX3_isThere_31 : decode cX3_isThere 31 = .ok (.iconst (-1), 1) := by decide +kernel
theorem dX3_isThere_32 : decode cX3_isThere 32 = .ok (.if_icmp .ne 5, 3) := by decide +kernel
theorem dX3_isThere_35 : decode cX3_isThere 35 = .ok (.iconst 0, 1) := by decide +kernel
theorem dX3_isThere_36 : decode cX3_isThere 36 = .ok (.ireturn, 1) := by decide +kernel
theorem dX3_isThere_37 : decode cX3_isThere 37 = .ok (.iload_n 1, 1) := by decide +kernel
theorem dX3_isThere_38 : decode cX3_isThere 38 = .ok (.tableswitch 165 0 4 #[34, 36, 63, 101, 138], 34) := by decide +kernel
theorem dX3_isThere_72 : decode cX3_isThere 72 = .ok (.iconst 1, 1) := by decide +kernel
theorem dX3_isThere_73 : decode cX3_isThere 73 = .ok (.ireturn, 1) := by decide +kernel
theorem dX3_isThere_74 : decode cX3_isThere 74 = .ok (.aload_n 0, 1) := by decide +kernel
theorem dX3_isThere_75 : decode cX3_isThere 75 = .ok (.getfield 21, 3) := by decide +kernel
theorem dX3_isThere_78 : decode cX3_isThere 78 = .ok (.getfield 92, 3) := by decide +kernel
theorem dX3_isThere_81 : decode cX3_isThere 81 = .ok (.iconst 1, 1) := by decide +kernel
theorem dX3_isThere_82 : decode cX3_isThere 82 = .ok (.if_icmp .lt 17, 3) := by decide +kernel
theorem dX3_isThere_85 : decode cX3_isThere 85 = .ok (.aload_n 0, 1) := by decide +kernel
theorem dX3_isThere_86 : decode cX3_isThere 86 = .ok (.getfield 31, 3) := by decide +kernel
theorem dX3_isThere_89 : decode cX3_isThere 89 = .ok (.invokevirtual 95, 3) := by decide +kernel
theorem dX3_isThere_92 : decode cX3_isThere 92 = .ok (.ifCond .ne 7, 3) := by decide +kernel
theorem dX3_isThere_95 : decode cX3_isThere 95 = .ok (.iconst 1, 1) := by decide +kernel
theorem dX3_isThere_96 : decode cX3_isThere 96 = .ok (.goto 4, 3) := by decide +kernel
theorem dX3_isThere_99 : decode cX3_isThere 99 = .ok (.iconst 0, 1) := by decide +kernel
theorem dX3_isThere_100 : decode cX3_isThere 100 = .ok (.ireturn, 1) := by decide +kernel
theorem dX3_isThere_101 : decode cX3_isThere 101 = .ok (.aload_n 0, 1) := by decide +kernel
theorem dX3_isThere_102 : decode cX3_isThere 102 = .ok (.getfield 31, 3) := by decide +kernel
theorem dX3_isThere_105 : decode cX3_isThere 105 = .ok (.getfield 82, 3) := by decide +kernel
theorem dX3_isThere_108 : decode cX3_isThere 108 = .ok (.iconst 2, 1) := by decide +kernel
theorem dX3_isThere_109 : decode cX3_isThere 109 = .ok (.if_icmp .ne 28, 3) := by decide +kernel
theorem dX3_isThere_112 : decode cX3_isThere 112 = .ok (.aload_n 0, 1) := by decide +kernel
theorem dX3_isThere_113 : decode cX3_isThere 113 = .ok (.getfield 12, 3) := by decide +kernel
theorem dX3_isThere_116 : decode cX3_isThere 116 = .ok (.invokevirtual 99, 3) := by decide +kernel
theorem dX3_isThere_119 : decode cX3_isThere 119 = .ok (.ifCond .eq 18, 3) := by decide +kernel
theorem dX3_isThere_122 : decode cX3_isThere 122 = .ok (.aload_n 0, 1) := by decide +kernel
theorem dX3_isThere_123 : decode cX3_isThere 123 = .ok (.getfield 21, 3) := by decide +kernel
theorem dX3_isThere_126 : decode cX3_isThere 126 = .ok (.getfield 92, 3) := by decide +kernel
theorem dX3_isThere_129 : decode cX3_isThere 129 = .ok (.iconst 1, 1) := by decide +kernel
theorem dX3_isThere_130 : decode cX3_isThere 130 = .ok (.if_icmp .lt 7, 3) := by decide +kernel
theorem dX3_isThere_133 : decode cX3_isThere 133 = .ok (.iconst 1, 1) := by decide +kernel
theorem dX3_isThere_134 : decode cX3_isThere 134 = .ok (.goto 4, 3) := by decide +kernel
theorem dX3_isThere_137 : decode cX3_isThere 137 = .ok (.iconst 0, 1) := by decide +kernel
theorem dX3_isThere_138 : decode cX3_isThere 138 = .ok (.ireturn, 1) := by decide +kernel
theorem dX3_isThere_139 : decode cX3_isThere 139 = .ok (.aload_n 0, 1) := by decide +kernel
theorem dX3_isThere_140 : decode cX3_isThere 140 = .ok (.getfield 31, 3) := by decide +kernel
theorem dX3_isThere_143 : decode cX3_isThere 143 = .ok (.invokevirtual 102, 3) := by decide +kernel
theorem dX3_isThere_146 : decode cX3_isThere 146 = .ok (.ifCond .eq 28, 3) := by decide +kernel
theorem dX3_isThere_149 : decode cX3_isThere 149 = .ok (.aload_n 0, 1) := by decide +kernel
theorem dX3_isThere_150 : decode cX3_isThere 150 = .ok (.getfield 12, 3) := by decide +kernel
theorem dX3_isThere_153 : decode cX3_isThere 153 = .ok (.invokevirtual 105, 3) := by decide +kernel
theorem dX3_isThere_156 : decode cX3_isThere 156 = .ok (.ifCond .eq 18, 3) := by decide +kernel
theorem dX3_isThere_159 : decode cX3_isThere 159 = .ok (.aload_n 0, 1) := by decide +kernel
theorem dX3_isThere_160 : decode cX3_isThere 160 = .ok (.getfield 21, 3) := by decide +kernel
theorem dX3_isThere_163 : decode cX3_isThere 163 = .ok (.getfield 92, 3) := by decide +kernel
theorem dX3_isThere_166 : decode cX3_isThere 166 = .ok (.iconst 2, 1) := by decide +kernel
theorem dX3_isThere_167 : decode cX3_isThere 167 = .ok (.if_icmp .lt 7, 3) := by decide +kernel
theorem dX3_isThere_170 : decode cX3_isThere 170 = .ok (.iconst 1, 1) := by decide +kernel
theorem dX3_isThere_171 : decode cX3_isThere 171 = .ok (.goto 4, 3) := by decide +kernel
theorem dX3_isThere_174 : decode cX3_isThere 174 = .ok (.iconst 0, 1) := by decide +kernel
theorem dX3_isThere_175 : decode cX3_isThere 175 = .ok (.ireturn, 1) := by decide +kernel
theorem dX3_isThere_176 : decode cX3_isThere 176 = .ok (.aload_n 0, 1) := by decide +kernel
theorem dX3_isThere_177 : decode cX3_isThere 177 = .ok (.getfield 31, 3) := by decide +kernel
theorem dX3_isThere_180 : decode cX3_isThere 180 = .ok (.getfield 82, 3) := by decide +kernel
theorem dX3_isThere_183 : decode cX3_isThere 183 = .ok (.iconst 2, 1) := by decide +kernel
theorem dX3_isThere_184 : decode cX3_isThere 184 = .ok (.if_icmp .ne 17, 3) := by decide +kernel
theorem dX3_isThere_187 : decode cX3_isThere 187 = .ok (.aload_n 0, 1) := by decide +kernel
theorem dX3_isThere_188 : decode cX3_isThere 188 = .ok (.getfield 12, 3) := by decide +kernel
theorem dX3_isThere_191 : decode cX3_isThere 191 = .ok (.invokevirtual 108, 3) := by decide +kernel
theorem dX3_isThere_194 : decode cX3_isThere 194 = .ok (.ifCond .eq 7, 3) := by decide +kernel
theorem dX3_isThere_197 : decode cX3_isThere 197 = .ok (.iconst 1, 1) := by decide +kernel
theorem dX3_isThere_198 : decode cX3_isThere 198 = .ok (.goto 4, 3) := by decide +kernel
theorem dX3_isThere_201 : decode cX3_isThere 201 = .ok (.iconst 0, 1) := by decide +kernel
theorem dX3_isThere_202 : decode cX3_isThere 202 = .ok (.ireturn, 1) := by decide +kernel
theorem dX3_isThere_203 : decode cX3_isThere 203 = .ok (.iconst 0, 1) := by decide +kernel
theorem dX3_isThere_204 : decode cX3_isThere 204 = .ok (.ireturn, 1) := by decide +kernel
theorem dX3_anyThere_0 : decode cX3_anyThere 0 = .ok (.aload_n 0, 1) := by decide +kernel
theorem dX3_anyThere_1 : decode cX3_anyThere 1 = .ok (.iconst 0, 1) := by decide +kernel
theorem dX3_anyThere_2 : decode cX3_anyThere 2 = .ok (.invokevirtual 111, 3) := by decide +kernel
theorem dX3_anyThere_5 : decode cX3_anyThere 5 = .ok (.ireturn, 1) := by decide +kernel
theorem dX3_actTotal_0 : decode cX3_actTotal 0 = .ok (.aload_n 0, 1) := by decide +kernel
theorem dX3_actTotal_1 : decode cX3_actTotal 1 = .ok (.invokevirtual 114, 3) := by decide +kernel
theorem dX3_actTotal_4 : decode cX3_actTotal 4 = .ok (.aload_n 0, 1) := by decide +kernel
theorem dX3_actTotal_5 : decode cX3_actTotal 5 = .ok (.dup, 1) := by decide +kernel
theorem dX3_actTotal_6 : decode cX3_actTotal 6 = .ok (.getfield 69, 3) := by decide +kernel
theorem dX3_actTotal_9 : decode cX3_actTotal 9 = .ok (.iconst 1, 1) := by decide +kernel
theorem dX3_actTotal_10 : decode cX3_actTotal 10 = .ok (.iadd, 1) := by decide +kernel
theorem dX3_actTotal_11 : decode cX3_actTotal 11 = .ok (.putfield 69, 3) := by decide +kernel
theorem dX3_actTotal_14 : decode cX3_actTotal 14 = .ok (.iload_n 1, 1) := by decide +kernel
theorem dX3_actTotal_15 : decode cX3_actTotal 15 = .ok (.tableswitch 108 0 3 #[29, 56, 90, 95], 29) := by decide +kernel
theorem dX3_actTotal_44 : decode cX3_actTotal 44 = .ok (.aload_n 0, 1) := by decide +kernel
theorem dX3_actTotal_45 : decode cX3_actTotal 45 = .ok (.iconst 0, 1) := by decide +kernel
theorem dX3_actTotal_46 : decode cX3_actTotal 46 = .ok (.aload_n 0, 1) := by decide +kernel
theorem dX3_actTotal_47 : decode cX3_actTotal 47 = .ok (.getfield 31, 3) := by decide +kernel
theorem dX3_actTotal_50 : decode cX3_actTotal 50 = .ok (.getfield 85, 3) := by decide +kernel
theorem dX3_actTotal_53 : decode cX3_actTotal 53 = .ok (.aload_n 0, 1) := by decide +kernel
theorem dX3_actTotal_54 : decode cX3_actTotal 54 = .ok (.getfield 31, 3) := by decide +kernel
theorem dX3_actTotal_57 : decode cX3_actTotal 57 = .ok (.getfield 117, 3) := by decide +kernel
theorem dX3_actTotal_60 : decode cX3_actTotal 60 = .ok (.aload_n 0, 1) := by decide +kernel
theorem dX3_actTotal_61 : decode cX3_actTotal 61 = .ok (.getfield 31, 3) := by decide +kernel
theorem dX3_actTotal_64 : decode cX3_actTotal 64 = .ok (.getfield 82, 3) := by decide +kernel
theorem dX3_actTotal_67 : decode cX3_actTotal 67 = .ok (.invokevirtual 121, 3) := by decide +kernel
theorem dX3_actTotal_70 : decode cX3_actTotal 70 = .ok (.lreturn, 1) := by decide +kernel
theorem dX3_actTotal_71 : decode cX3_actTotal 71 = .ok (.aload_n 0, 1) := by decide +kernel
theorem dX3_actTotal_72 : decode cX3_actTotal 72 = .ok (.iconst 0, 1) := by decide +kernel
theorem dX3_actTotal_73 : decode cX3_actTotal 73 = .ok (.aload_n 0, 1) := by decide +kernel
theorem dX3_actTotal_74 : decode cX3_actTotal 74 = .ok (.getfield 31, 3) := by decide +kernel
theorem dX3_actTotal_77 : decode cX3_actTotal 77 = .ok (.getfield 85, 3) := by decide +kernel
theorem dX3_actTotal_80 : decode cX3_actTotal 80 = .ok (.aload_n 0, 1) := by decide +kernel
theorem dX3_actTotal_81 : decode cX3_actTotal 81 = .ok (.getfield 31, 3) := by decide +kernel
theorem dX3_actTotal_84 : decode cX3_actTotal 84 = .ok (.getfield 117, 3) := by decide +kernel
theorem dX3_actTotal_87 : decode cX3_actTotal 87 = .ok (.aload_n 0, 1) := by decide +kernel
theorem dX3_actTotal_88 : decode cX3_actTotal 88 = .ok (.getfield 31, 3) := by decide +kernel
theorem dX3_actTotal_91 : decode cX3_actTotal 91 = .ok (.getfield 82, 3) := by decide +kernel
theorem dX3_actTotal_94 : decode cX3_actTotal 94 = .ok (.aload_n 0, 1) := by decide +kernel
theorem dX3_actTotal_95 : decode cX3_actTotal 95 = .ok (.getfield 21, 3) := by decide +kernel
theorem dX3_actTotal_98 : decode cX3_actTotal 98 = .ok (.getfield 92, 3) := by decide +kernel
theorem dX3_actTotal_101 : decode cX3_actTotal 101 = .ok (.invokevirtual 125, 3) := by decide +kernel
theorem dX3_actTotal_104 : decode cX3_actTotal 104 = .ok (.lreturn, 1) := by decide +kernel
theorem dX3_actTotal_105 : decode cX3_actTotal 105 = .ok (.aload_n 0, 1) := by decide +kernel
theorem dX3_actTotal_106 : decode cX3_actTotal 106 = .ok (.invokevirtual 129, 3) := by decide +kernel
theorem dX3_actTotal_109 : decode cX3_actTotal 109 = .ok (.lreturn, 1) := by decide +kernel
theorem dX3_actTotal_110 : decode cX3_actTotal 110 = .ok (.aload_n 0, 1) := by decide +kernel
theorem dX3_actTotal_111 : decode cX3_actTotal 111 = .ok (.aload_n 0, 1) := by decide +kernel
theorem dX3_actTotal_112 : decode cX3_actTotal 112 = .ok (.getfield 31, 3) := by decide +kernel
theorem dX3_actTotal_115 : decode cX3_actTotal 115 = .ok (.iconst 0, 1) := by decide +kernel
theorem dX3_actTotal_116 : decode cX3_actTotal 116 = .ok (.invokevirtual 133, 3) := by decide +kernel
theorem dX3_actTotal_119 : decode cX3_actTotal 119 = .ok (.invokevirtual 137, 3) := by decide +kernel
theorem dX3_actTotal_122 : decode cX3_actTotal 122 = .ok (.lreturn, 1) := by decide +kernel
theorem dX3_actTotal_123 : decode cX3_actTotal 123 = .ok (.ldc2_w 141, 3) := by decide +kernel
theorem dX3_actTotal_126 : decode cX3_actTotal 126 = .ok (.aload_n 0, 1) := by decide +kernel
theorem dX3_actTotal_127 : decode cX3_actTotal 127 = .ok (.getfield 21, 3) := by decide +kernel
theorem dX3_actTotal_130 : decode cX3_actTotal 130 = .ok (.getfield 92, 3) := by decide +kernel
theorem dX3_actTotal_133 : decode cX3_actTotal 133 = .ok (.invokestatic 143, 3) := by decide +kernel
theorem dX3_actTotal_136 : decode cX3_actTotal 136 = .ok (.lmul, 1) := by decide +kernel
theorem dX3_actTotal_137 : decode cX3_actTotal 137 = .ok (.lreturn, 1) := by decide +kernel
theorem dX3_findBest_0 : decode cX3_findBest 0 = .ok (.aload_n 0, 1) := by decide +kernel
theorem dX3_findBest_1 : decode cX3_findBest 1 = .ok (.iconst (-1), 1) := by decide +kernel
theorem dX3_findBest_2 : decode cX3_findBest 2 = .ok (.putfield 39, 3) := by decide +kernel
theorem dX3_findBest_5 : decode cX3_findBest 5 = .ok (.aload_n 0, 1) := by decide +kernel
theorem dX3_findBest_6 : decode cX3_findBest 6 = .ok (.lconst 0, 1) := by decide +kernel
theorem dX3_findBest_7 : decode cX3_findBest 7 = .ok (.putfield 42, 3) := by decide +kernel
theorem dX3_findBest_10 : decode cX3_findBest 10 = .ok (.iconst 0, 1) := by decide +kernel
theorem dX3_findBest_11 : decode cX3_findBest 11 = .ok (.istore_n 1, 1) := by decide +kernel
theorem dX3_findBest_12 : decode cX3_findBest 12 = .ok (.iload_n 1, 1) := by decide +kernel
theorem dX3_findBest_13 : decode cX3_findBest 13 = .ok (.iconst 4, 1) := by decide +kernel
theorem dX3_findBest_14 : decode cX3_findBest 14 = .ok (.if_icmp .gt 50, 3) := by decide +kernel
theorem dX3_findBest_17 : decode cX3_findBest 17 = .ok (.aload_n 0, 1) := by decide +kernel
theorem dX3_findBest_18 : decode cX3_findBest 18 = .ok (.iload_n 1, 1) := by decide +kernel
theorem dX3_findBest_19 : decode cX3_findBest 19 = .ok (.invokevirtual 111, 3) := by decide +kernel
theorem dX3_findBest_22 : decode cX3_findBest 22 = .ok (.ifCond .eq 36, 3) := by decide +kernel
theorem dX3_findBest_25 : decode cX3_findBest 25 = .ok (.aload_n 0, 1) := by decide +kernel
theorem dX3_findBest_26 : decode cX3_findBest 26 = .ok (.iload_n 1, 1) := by decide +kernel
theorem dX3_findBest_27 : decode cX3_findBest 27 = .ok (.invokevirtual 146, 3) := by decide +kernel
theorem dX3_findBest_30 : decode cX3_findBest 30 = .ok (.lstore_n 2, 1) := by decide +kernel
theorem dX3_findBest_31 : decode cX3_findBest 31 = .ok (.aload_n 0, 1) := by decide +kernel
theorem dX3_findBest_32 : decode cX3_findBest 32 = .ok (.getfield 39, 3) := by decide +kernel
theorem dX3_findBest_35 : decode cX3_findBest 35 = .ok (.iconst (-1), 1) := by decide +kernel
theorem dX3_findBest_36 : decode cX3_findBest 36 = .ok (.if_icmp .eq 12, 3) := by decide +kernel
theorem dX3_findBest_39 : decode cX3_findBest 39 = .ok (.lload_n 2, 1) := by decide +kernel
theorem dX3_findBest_40 : decode cX3_findBest 40 = .ok (.aload_n 0, 1) := by decide +kernel
theorem dX3_findBest_41 : decode cX3_findBest 41 = .ok (.getfield 42, 3) := by decide +kernel
theorem dX3_findBest_44 : decode cX3_findBest 44 = .ok (.lcmp, 1) := by decide +kernel
theorem dX3_findBest_45 : decode cX3_findBest 45 = .ok (.ifCond .le 13, 3) := by decide +kernel
theorem dX3_findBest_48 : decode cX3_findBest 48 = .ok (.aload_n 0, 1) := by decide +kernel
theorem dX3_findBest_49 : decode cX3_findBest 49 = .ok (.iload_n 1, 1) := by decide +kernel
theorem dX3_findBest_50 : decode cX3_findBest 50 = .ok (.putfield 39, 3) := by decide +kernel
theorem dX3_findBest_53 : decode cX3_findBest 53 = .ok (.aload_n 0, 1) := by decide +kernel
theorem dX3_findBest_54 : decode cX3_findBest 54 = .ok (.lload_n 2, 1) := by decide +kernel
theorem dX3_findBest_55 : decode cX3_findBest 55 = .ok (.putfield 42, 3) := by decide +kernel
theorem dX3_findBest_58 : decode cX3_findBest 58 = .ok (.iinc 1 1, 3) := by decide +kernel
theorem dX3_findBest_61 : decode cX3_findBest 61 = .ok (.goto (-49), 3) := by decide +kernel
theorem dX3_findBest_64 : decode cX3_findBest 64 = .ok (.return_, 1) := by decide +kernel
theorem dX3_endTotal_0 : decode cX3_endTotal 0 = .ok (.aload_n 0, 1) := by decide +kernel
theorem dX3_endTotal_1 : decode cX3_endTotal 1 = .ok (.invokevirtual 114, 3) := by decide +kernel
theorem dX3_endTotal_4 : decode cX3_endTotal 4 = .ok (.iconst 0, 1) := by decide +kernel
theorem dX3_endTotal_5 : decode cX3_endTotal 5 = .ok (.istore_n 2, 1) := by decide +kernel
theorem dX3_endTotal_6 : decode cX3_endTotal 6 = .ok (.iload_n 2, 1) := by decide +kernel
theorem dX3_endTotal_7 : decode cX3_endTotal 7 = .ok (.bipush 21, 2) := by decide +kernel
theorem dX3_endTotal_9 : decode cX3_endTotal 9 = .ok (.if_icmp .gt 25, 3) := by decide +kernel
theorem dX3_endTotal_12 : decode cX3_endTotal 12 = .ok (.aload_n 0, 1) := by decide +kernel
theorem dX3_endTotal_13 : decode cX3_endTotal 13 = .ok (.getfield 46, 3) := by decide +kernel
theorem dX3_endTotal_16 : decode cX3_endTotal 16 = .ok (.iload_n 2, 1) := by decide +kernel
theorem dX3_endTotal_17 : decode cX3_endTotal 17 = .ok (.iload_n 2, 1) := by decide +kernel
theorem dX3_endTotal_18 : decode cX3_endTotal 18 = .ok (.iload_n 1, 1) := by decide +kernel
theorem dX3_endTotal_19 : decode cX3_endTotal 19 = .ok (.if_icmp .ne 7, 3) := by decide +kernel
theorem dX3_endTotal_22 : decode cX3_endTotal 22 = .ok (.lconst 1, 1) := by decide +kernel
theorem dX3_endTotal_23 : decode cX3_endTotal 23 = .ok (.goto 4, 3) := by decide +kernel
theorem dX3_endTotal_26 : decode cX3_endTotal 26 = .ok (.lconst 0, 1) := by decide +kernel
theorem dX3_endTotal_27 : decode cX3_endTotal 27 = .ok (.lastore, 1) := by decide +kernel
theorem dX3_endTotal_28 : decode cX3_endTotal 28 = .ok (.iinc 2 1, 3) := by decide +kernel
theorem dX3_endTotal_31 : decode cX3_endTotal 31 = .ok (.goto (-25), 3) := by decide +kernel
theorem dX3_endTotal_34 : decode cX3_endTotal 34 = .ok (.aload_n 0, 1) := by decide +kernel
theorem dX3_endTotal_35 : decode cX3_endTotal 35 = .ok (.dup, 1) := by decide +kernel
theorem dX3_endTotal_36 : decode cX3_endTotal 36 = .ok (.getfield 60, 3) := by decide +kernel
theorem dX3_endTotal_39 : decode cX3_endTotal 39 = .ok (.iconst 1, 1) := by decide +kernel
theorem dX3_endTotal_40 : decode cX3_endTotal 40 = .ok (.iadd, 1) := by decide +kernel
theorem dX3_endTotal_41 : decode cX3_endTotal 41 = .ok (.putfield 60, 3) := by decide +kernel
theorem dX3_endTotal_44 : decode cX3_endTotal 44 = .ok (.aload_n 0, 1) := by decide +kernel
theorem dX3_endTotal_45 : decode cX3_endTotal 45 = .ok (.iconst 0, 1) := by decide +kernel
theorem dX3_endTotal_46 : decode cX3_endTotal 46 = .ok (.aload_n 0, 1) := by decide +kernel
theorem dX3_endTotal_47 : decode cX3_endTotal 47 = .ok (.getfield 35, 3) := by decide +kernel
theorem dX3_endTotal_50 : decode cX3_endTotal 50 = .ok (.aload_n 0, 1) := by decide +kernel
theorem dX3_endTotal_51 : decode cX3_endTotal 51 = .ok (.getfield 35, 3) := by decide +kernel
theorem dX3_endTotal_54 : decode cX3_endTotal 54 = .ok (.iconst 1, 1) := by decide +kernel
theorem dX3_endTotal_55 : decode cX3_endTotal 55 = .ok (.if_icmp .ne 7, 3) := by decide +kernel
theorem dX3_endTotal_58 : decode cX3_endTotal 58 = .ok (.iconst 1, 1) := by decide +kernel
theorem dX3_endTotal_59 : decode cX3_endTotal 59 = .ok (.goto 4, 3) := by decide +kernel
theorem dX3_endTotal_62 : decode cX3_endTotal 62 = .ok (.iconst 0, 1) := by decide +kernel
theorem dX3_endTotal_63 : decode cX3_endTotal 63 = .ok (.aload_n 0, 1) := by decide +kernel
theorem dX3_endTotal_64 : decode cX3_endTotal 64 = .ok (.getfield 21, 3) := by decide +kernel
theorem dX3_endTotal_67 : decode cX3_endTotal 67 = .ok (.getfield 92, 3) := by decide +kernel
theorem dX3_endTotal_70 : decode cX3_endTotal 70 = .ok (.invokevirtual 149, 3) := by decide +kernel
theorem dX3_endTotal_73 : decode cX3_endTotal 73 = .ok (.lreturn, 1) := by decide +kernel
theorem dX3_movedTotal_0 : decode cX3_movedTotal 0 = .ok (.aload_n 0, 1) := by decide +kernel
theorem dX3_movedTotal_1 : decode cX3_movedTotal 1 = .ok (.invokevirtual 152, 3) := by decide +kernel
theorem dX3_movedTotal_4 : decode cX3_movedTotal 4 = .ok (.aload_n 0, 1) := by decide +kernel
theorem dX3_movedTotal_5 : decode cX3_movedTotal 5 = .ok (.getfield 42, 3) := by decide +kernel
theorem dX3_movedTotal_8 : decode cX3_movedTotal 8 = .ok (.lstore_n 2, 1) := by decide +kernel
theorem dX3_movedTotal_9 : decode cX3_movedTotal 9 = .ok (.aload_n 0, 1) := by decide +kernel
theorem dX3_movedTotal_10 : decode cX3_movedTotal 10 = .ok (.getfield 21, 3) := by decide +kernel
theorem dX3_movedTotal_13 : decode cX3_movedTotal 13 = .ok (.getfield 92, 3) := by decide +kernel
theorem dX3_movedTotal_16 : decode cX3_movedTotal 16 = .ok (.istore 4, 2) := by decide +kernel
theorem dX3_movedTotal_18 : decode cX3_movedTotal 18 = .ok (.aload_n 0, 1) := by decide +kernel
theorem dX3_movedTotal_19 : decode cX3_movedTotal 19 = .ok (.getfield 21, 3) := by decide +kernel
theorem dX3_movedTotal_22 : decode cX3_movedTotal 22 = .ok (.iload_n 1, 1) := by decide +kernel
theorem dX3_movedTotal_23 : decode cX3_movedTotal 23 = .ok (.invokevirtual 155, 3) := by decide +kernel
theorem dX3_movedTotal_26 : decode cX3_movedTotal 26 = .ok (.pop, 1) := by decide +kernel
theorem dX3_movedTotal_27 : decode cX3_movedTotal 27 = .ok (.aload_n 0, 1) := by decide +kernel
theorem dX3_movedTotal_28 : decode cX3_movedTotal 28 = .ok (.invokevirtual 152, 3) := by decide +kernel
theorem dX3_movedTotal_31 : decode cX3_movedTotal 31 = .ok (.aload_n 0, 1) := by decide +kernel
theorem dX3_movedTotal_32 : decode cX3_movedTotal 32 = .ok (.getfield 21, 3) := by decide +kernel
theorem dX3_movedTotal_35 : decode cX3_movedTotal 35 = .ok (.iload_n 1, 1) := by decide +kernel
theorem dX3_movedTotal_36 : decode cX3_movedTotal 36 = .ok (.invokevirtual 158, 3) := by decide +kernel
theorem dX3_movedTotal_39 : decode cX3_movedTotal 39 = .ok (.aload_n 0, 1) := by decide +kernel
theorem dX3_movedTotal_40 : decode cX3_movedTotal 40 = .ok (.getfield 42, 3) := by decide +kernel
theorem dX3_movedTotal_43 : decode cX3_movedTotal 43 = .ok (.iload 4, 2) := by decide +kernel
theorem dX3_movedTotal_45 : decode cX3_movedTotal 45 = .ok (.i2l, 1) := by decide +kernel
theorem dX3_movedTotal_46 : decode cX3_movedTotal 46 = .ok (.lmul, 1) := by decide +kernel
theorem dX3_movedTotal_47 : decode cX3_movedTotal 47 = .ok (.lload_n 2, 1) := by decide +kernel
theorem dX3_movedTotal_48 : decode cX3_movedTotal 48 = .ok (.lsub, 1) := by decide +kernel
theorem dX3_movedTotal_49 : decode cX3_movedTotal 49 = .ok (.lreturn, 1) := by decide +kernel
theorem dX3_dealTotal_0 : decode cX3_dealTotal 0 = .ok (.lconst 0, 1) := by decide +kernel
theorem dX3_dealTotal_1 : decode cX3_dealTotal 1 = .ok (.lstore_n 1, 1) := by decide +kernel
theorem dX3_dealTotal_2 : decode cX3_dealTotal 2 = .ok (.aload_n 0, 1) := by decide +kernel
theorem dX3_dealTotal_3 : decode cX3_dealTotal 3 = .ok (.getfield 25, 3) := by decide +kernel
theorem dX3_dealTotal_6 : decode cX3_dealTotal 6 = .ok (.aload_n 0, 1) := by decide +kernel
theorem dX3_dealTotal_7 : decode cX3_dealTotal 7 = .ok (.getfield 21, 3) := by decide +kernel
theorem dX3_dealTotal_10 : decode cX3_dealTotal 10 = .ok (.invokevirtual 76, 3) := by decide +kernel
theorem dX3_dealTotal_13 : decode cX3_dealTotal 13 = .ok (.iconst 1, 1) := by decide +kernel
theorem dX3_dealTotal_14 : decode cX3_dealTotal 14 = .ok (.istore_n 3, 1) := by decide +kernel
theorem dX3_dealTotal_15 : decode cX3_dealTotal 15 = .ok (.iload_n 3, 1) := by decide +kernel
theorem dX3_dealTotal_16 : decode cX3_dealTotal 16 = .ok (.bipush 10, 2) := by decide +kernel
theorem dX3_dealTotal_18 : decode cX3_dealTotal 18 = .ok (.if_icmp .gt 98, 3) := by decide +kernel
theorem dX3_dealTotal_21 : decode cX3_dealTotal 21 = .ok (.iload_n 3, 1) := by decide +kernel
theorem dX3_dealTotal_22 : decode cX3_dealTotal 22 = .ok (.istore 4, 2) := by decide +kernel
theorem dX3_dealTotal_24 : decode cX3_dealTotal 24 = .ok (.iload 4, 2) := by decide +kernel
theorem dX3_dealTotal_26 : decode cX3_dealTotal 26 = .ok (.bipush 10, 2) := by decide +kernel
theorem dX3_dealTotal_28 : decode cX3_dealTotal 28 = .ok (.if_icmp .gt 82, 3) := by decide +kernel
theorem dX3_dealTotal_31 : decode cX3_dealTotal 31 = .ok (.iconst 1, 1) := by decide +kernel
theorem dX3_dealTotal_32 : decode cX3_dealTotal 32 = .ok (.istore 5, 2) := by decide +kernel
theorem dX3_dealTotal_34 : decode cX3_dealTotal 34 = .ok (.iload 5, 2) := by decide +kernel
theorem dX3_dealTotal_36 : decode cX3_dealTotal 36 = .ok (.bipush 10, 2) := by decide +kernel
theorem dX3_dealTotal_38 : decode cX3_dealTotal 38 = .ok (.if_icmp .gt 66, 3) := by decide +kernel
theorem dX3_dealTotal_41 : decode cX3_dealTotal 41 = .ok (.aload_n 0, 1) := by decide +kernel
theorem dX3_dealTotal_42 : decode cX3_dealTotal 42 = .ok (.iload_n 3, 1) := by decide +kernel
theorem dX3_dealTotal_43 : decode cX3_dealTotal 43 = .ok (.iload 4, 2) := by decide +kernel
theorem dX3_dealTotal_45 : decode cX3_dealTotal 45 = .ok (.iload 5, 2) := by decide +kernel
theorem dX3_dealTotal_47 : decode cX3_dealTotal 47 = .ok (.invokevirtual 162, 3) := by decide +kernel
theorem dX3_dealTotal_50 : decode cX3_dealTotal 50 = .ok (.lstore 6, 2) := by decide +kernel
theorem dX3_dealTotal_52 : decode cX3_dealTotal 52 = .ok (.lload 6, 2) := by decide +kernel
theorem dX3_dealTotal_54 : decode cX3_dealTotal 54 = .ok (.lconst 0, 1) := by decide +kernel
theorem dX3_dealTotal_55 : decode cX3_dealTotal 55 = .ok (.lcmp, 1) := by decide +kernel
theorem dX3_dealTotal_56 : decode cX3_dealTotal 56 = .ok (.ifCond .le 42, 3) := by decide +kernel
theorem dX3_dealTotal_59 : decode cX3_dealTotal 59 = .ok (.aload_n 0, 1) := by decide +kernel
theorem dX3_dealTotal_60 : decode cX3_dealTotal 60 = .ok (.invokevirtual 152, 3) := by decide +kernel
theorem dX3_dealTotal_63 : decode cX3_dealTotal 63 = .ok (.lload_n 1, 1) := by decide +kernel
theorem dX3_dealTotal_64 : decode cX3_dealTotal 64 = .ok (.lload 6, 2) := by decide +kernel
theorem dX3_dealTotal_66 : decode cX3_dealTotal 66 = .ok (.aload_n 0, 1) := by decide +kernel
theorem dX3_dealTotal_67 : decode cX3_dealTotal 67 = .ok (.getfield 39, 3) := by decide +kernel
theorem dX3_dealTotal_70 : decode cX3_dealTotal 70 = .ok (.iconst (-1), 1) := by decide +kernel
theorem dX3_dealTotal_71 : decode cX3_dealTotal 71 = .ok (.if_icmp .ne 20, 3) := by decide +kernel
theorem dX3_dealTotal_74 : decode cX3_dealTotal 74 = .ok (.ldc2_w 166, 3) := by decide +kernel
theorem dX3_dealTotal_77 : decode cX3_dealTotal 77 = .ok (.aload_n 0, 1) := by decide +kernel
theorem dX3_dealTotal_78 : decode cX3_dealTotal 78 = .ok (.getfield 21, 3) := by decide +kernel
theorem dX3_dealTotal_81 : decode cX3_dealTotal 81 = .ok (.getfield 92, 3) := by decide +kernel
theorem dX3_dealTotal_84 : decode cX3_dealTotal 84 = .ok (.invokestatic 143, 3) := by decide +kernel
theorem dX3_dealTotal_87 : decode cX3_dealTotal 87 = .ok (.lmul, 1) := by decide +kernel
theorem dX3_dealTotal_88 : decode cX3_dealTotal 88 = .ok (.goto 7, 3) := by decide +kernel
theorem dX3_dealTotal_91 : decode cX3_dealTotal 91 = .ok (.aload_n 0, 1) := by decide +kernel
theorem dX3_dealTotal_92 : decode cX3_dealTotal 92 = .ok (.getfield 42, 3) := by decide +kernel
theorem dX3_dealTotal_95 : decode cX3_dealTotal 95 = .ok (.lmul, 1) := by decide +kernel
theorem dX3_dealTotal_96 : decode cX3_dealTotal 96 = .ok (.ladd, 1) := by decide +kernel
theorem dX3_dealTotal_97 : decode cX3_dealTotal 97 = .ok (.lstore_n 1, 1) := by decide +kernel
theorem dX3_dealTotal_98 : decode cX3_dealTotal 98 = .ok (.iinc 5 1, 3) := by decide +kernel
theorem dX3_dealTotal_101 : decode cX3_dealTotal 101 = .ok (.goto (-67), 3) := by decide +kernel
theorem dX3_dealTotal_104 : decode cX3_dealTotal 104 = .ok (.iinc 4 1, 3) := by decide +kernel
theorem dX3_dealTotal_107 : decode cX3_dealTotal 107 = .ok (.goto (-83), 3) := by decide +kernel
theorem dX3_dealTotal_110 : decode cX3_dealTotal 110 = .ok (.iinc 3 1, 3) := by decide +kernel
theorem dX3_dealTotal_113 : decode cX3_dealTotal 113 = .ok (.goto (-98), 3) := by decide +kernel
theorem dX3_dealTotal_116 : decode cX3_dealTotal 116 = .ok (.lload_n 1, 1) := by decide +kernel
theorem dX3_dealTotal_117 : decode cX3_dealTotal 117 = .ok (.lreturn, 1) := by decide +kernel
theorem dX3_handOut_0 : decode cX3_handOut 0 = .ok (.aload_n 0, 1) := by decide +kernel
theorem dX3_handOut_1 : decode cX3_handOut 1 = .ok (.getfield 21, 3) := by decide +kernel
theorem dX3_handOut_4 : decode cX3_handOut 4 = .ok (.aload_n 0, 1) := by decide +kernel
theorem dX3_handOut_5 : decode cX3_handOut 5 = .ok (.getfield 25, 3) := by decide +kernel
theorem dX3_handOut_8 : decode cX3_handOut 8 = .ok (.invokevirtual 76, 3) := by decide +kernel
theorem dX3_handOut_11 : decode cX3_handOut 11 = .ok (.aload_n 0, 1) := by decide +kernel
theorem dX3_handOut_12 : decode cX3_handOut 12 = .ok (.getfield 21, 3) := by decide +kernel
theorem dX3_handOut_15 : decode cX3_handOut 15 = .ok (.iload_n 1, 1) := by decide +kernel
theorem dX3_handOut_16 : decode cX3_handOut 16 = .ok (.invokevirtual 155, 3) := by decide +kernel
theorem dX3_handOut_19 : decode cX3_handOut 19 = .ok (.i2l, 1) := by decide +kernel
theorem dX3_handOut_20 : decode cX3_handOut 20 = .ok (.aload_n 0, 1) := by decide +kernel
theorem dX3_handOut_21 : decode cX3_handOut 21 = .ok (.getfield 21, 3) := by decide +kernel
theorem dX3_handOut_24 : decode cX3_handOut 24 = .ok (.iload_n 2, 1) := by decide +kernel
theorem dX3_handOut_25 : decode cX3_handOut 25 = .ok (.invokevirtual 155, 3) := by decide +kernel
theorem dX3_handOut_28 : decode cX3_handOut 28 = .ok (.i2l, 1) := by decide +kernel
theorem dX3_handOut_29 : decode cX3_handOut 29 = .ok (.lmul, 1) := by decide +kernel
theorem dX3_handOut_30 : decode cX3_handOut 30 = .ok (.aload_n 0, 1) := by decide +kernel
theorem dX3_handOut_31 : decode cX3_handOut 31 = .ok (.getfield 21, 3) := by decide +kernel
theorem dX3_handOut_34 : decode cX3_handOut 34 = .ok (.iload_n 3, 1) := by decide +kernel
theorem dX3_handOut_35 : decode cX3_handOut 35 = .ok (.invokevirtual 155, 3) := by decide +kernel
theorem dX3_handOut_38 : decode cX3_handOut 38 = .ok (.i2l, 1) := by decide +kernel
theorem dX3_handOut_39 : decode cX3_handOut 39 = .ok (.lmul, 1) := by decide +kernel
theorem dX3_handOut_40 : decode cX3_handOut 40 = .ok (.lstore 4, 2) := by decide +kernel
theorem dX3_handOut_42 : decode cX3_handOut 42 = .ok (.aload_n 0, 1) := by decide +kernel
theorem dX3_handOut_43 : decode cX3_handOut 43 = .ok (.getfield 31, 3) := by decide +kernel
theorem dX3_handOut_46 : decode cX3_handOut 46 = .ok (.invokevirtual 168, 3) := by decide +kernel
theorem dX3_handOut_49 : decode cX3_handOut 49 = .ok (.aload_n 0, 1) := by decide +kernel
theorem dX3_handOut_50 : decode cX3_handOut 50 = .ok (.getfield 31, 3) := by decide +kernel
theorem dX3_handOut_53 : decode cX3_handOut 53 = .ok (.iload_n 1, 1) := by decide +kernel
theorem dX3_handOut_54 : decode cX3_handOut 54 = .ok (.invokevirtual 171, 3) := by decide +kernel
theorem dX3_handOut_57 : decode cX3_handOut 57 = .ok (.aload_n 0, 1) := by decide +kernel
theorem dX3_handOut_58 : decode cX3_handOut 58 = .ok (.getfield 31, 3) := by decide +kernel
theorem dX3_handOut_61 : decode cX3_handOut 61 = .ok (.iload_n 2, 1) := by decide +kernel
theorem dX3_handOut_62 : decode cX3_handOut 62 = .ok (.invokevirtual 171, 3) := by decide +kernel
theorem dX3_handOut_65 : decode cX3_handOut 65 = .ok (.aload_n 0, 1) := by decide +kernel
theorem dX3_handOut_66 : decode cX3_handOut 66 = .ok (.iload_n 3, 1) := by decide +kernel
theorem dX3_handOut_67 : decode cX3_handOut 67 = .ok (.putfield 35, 3) := by decide +kernel
theorem dX3_handOut_70 : decode cX3_handOut 70 = .ok (.iload_n 1, 1) := by decide +kernel
theorem dX3_handOut_71 : decode cX3_handOut 71 = .ok (.iload_n 2, 1) := by decide +kernel
theorem dX3_handOut_72 : decode cX3_handOut 72 = .ok (.if_icmp .ne 8, 3) := by decide +kernel
theorem dX3_handOut_75 : decode cX3_handOut 75 = .ok (.lload 4, 2) := by decide +kernel
theorem dX3_handOut_77 : decode cX3_handOut 77 = .ok (.goto 9, 3) := by decide +kernel
theorem dX3_handOut_80 : decode cX3_handOut 80 = .ok (.ldc2_w 172, 3) := by decide +kernel
theorem dX3_handOut_83 : decode cX3_handOut 83 = .ok (.lload 4, 2) := by decide +kernel
theorem dX3_handOut_85 : decode cX3_handOut 85 = .ok (.lmul, 1) := by decide +kernel
theorem dX3_handOut_86 : decode cX3_handOut 86 = .ok (.lreturn, 1) := by decide +kernel
theorem dX3_numberHeaps_0 : decode cX3_numberHeaps 0 = .ok (.iconst 1, 1) := by decide +kernel
theorem dX3_numberHeaps_1 : decode cX3_numberHeaps 1 = .ok (.istore_n 1, 1) := by decide +kernel
theorem dX3_numberHeaps_2 : decode cX3_numberHeaps 2 = .ok (.iconst 1, 1) := by decide +kernel
theorem dX3_numberHeaps_3 : decode cX3_numberHeaps 3 = .ok (.istore_n 2, 1) := by decide +kernel
theorem dX3_numberHeaps_4 : decode cX3_numberHeaps 4 = .ok (.iload_n 2, 1) := by decide +kernel
theorem dX3_numberHeaps_5 : decode cX3_numberHeaps 5 = .ok (.bipush 10, 2) := by decide +kernel
theorem dX3_numberHeaps_7 : decode cX3_numberHeaps 7 = .ok (.if_icmp .gt 29, 3) := by decide +kernel
theorem dX3_numberHeaps_10 : decode cX3_numberHeaps 10 = .ok (.aload_n 0, 1) := by decide +kernel
theorem dX3_numberHeaps_11 : decode cX3_numberHeaps 11 = .ok (.getfield 50, 3) := by decide +kernel
theorem dX3_numberHeaps_14 : decode cX3_numberHeaps 14 = .ok (.iload_n 2, 1) := by decide +kernel
theorem dX3_numberHeaps_15 : decode cX3_numberHeaps 15 = .ok (.iload_n 1, 1) := by decide +kernel
theorem dX3_numberHeaps_16 : decode cX3_numberHeaps 16 = .ok (.iastore, 1) := by decide +kernel
theorem dX3_numberHeaps_17 : decode cX3_numberHeaps 17 = .ok (.iload_n 1, 1) := by decide +kernel
theorem dX3_numberHeaps_18 : decode cX3_numberHeaps 18 = .ok (.aload_n 0, 1) := by decide +kernel
theorem dX3_numberHeaps_19 : decode cX3_numberHeaps 19 = .ok (.getfield 21, 3) := by decide +kernel
theorem dX3_numberHeaps_22 : decode cX3_numberHeaps 22 = .ok (.iload_n 2, 1) := by decide +kernel
theorem dX3_numberHeaps_23 : decode cX3_numberHeaps 23 = .ok (.invokevirtual 174, 3) := by decide +kernel
theorem dX3_numberHeaps_26 : decode cX3_numberHeaps 26 = .ok (.iconst 1, 1) := by decide +kernel
theorem dX3_numberHeaps_27 : decode cX3_numberHeaps 27 = .ok (.iadd, 1) := by decide +kernel
theorem dX3_numberHeaps_28 : decode cX3_numberHeaps 28 = .ok (.imul, 1) := by decide +kernel
theorem dX3_numberHeaps_29 : decode cX3_numberHeaps 29 = .ok (.istore_n 1, 1) := by decide +kernel
theorem dX3_numberHeaps_30 : decode cX3_numberHeaps 30 = .ok (.iinc 2 1, 3) := by decide +kernel
theorem dX3_numberHeaps_33 : decode cX3_numberHeaps 33 = .ok (.goto (-29), 3) := by decide +kernel
theorem dX3_numberHeaps_36 : decode cX3_numberHeaps 36 = .ok (.return_, 1) := by decide +kernel
theorem dX3_standTotal_0 : decode cX3_standTotal 0 = .ok (.aload_n 0, 1) := by decide +kernel
theorem dX3_standTotal_1 : decode cX3_standTotal 1 = .ok (.getfield 12, 3) := by decide +kernel
theorem dX3_standTotal_4 : decode cX3_standTotal 4 = .ok (.iload_n 2, 1) := by decide +kernel
theorem dX3_standTotal_5 : decode cX3_standTotal 5 = .ok (.invokevirtual 88, 3) := by decide +kernel
theorem dX3_standTotal_8 : decode cX3_standTotal 8 = .ok (.ifCond .eq 18, 3) := by decide +kernel
theorem dX3_standTotal_11 : decode cX3_standTotal 11 = .ok (.ldc2_w 166, 3) := by decide +kernel
theorem dX3_standTotal_14 : decode cX3_standTotal 14 = .ok (.aload_n 0, 1) := by decide +kernel
theorem dX3_standTotal_15 : decode cX3_standTotal 15 = .ok (.getfield 21, 3) := by decide +kernel
theorem dX3_standTotal_18 : decode cX3_standTotal 18 = .ok (.getfield 92, 3) := by decide +kernel
theorem dX3_standTotal_21 : decode cX3_standTotal 21 = .ok (.invokestatic 143, 3) := by decide +kernel
theorem dX3_standTotal_24 : decode cX3_standTotal 24 = .ok (.lmul, 1) := by decide +kernel
theorem dX3_standTotal_25 : decode cX3_standTotal 25 = .ok (.lreturn, 1) := by decide +kernel
theorem dX3_standTotal_26 : decode cX3_standTotal 26 = .ok (.aload_n 0, 1) := by decide +kernel
theorem dX3_standTotal_27 : decode cX3_standTotal 27 = .ok (.getfield 12, 3) := by decide +kernel
theorem dX3_standTotal_30 : decode cX3_standTotal 30 = .ok (.iload_n 2, 1) := by decide +kernel
theorem dX3_standTotal_31 : decode cX3_standTotal 31 = .ok (.iload_n 3, 1) := by decide +kernel
theorem dX3_standTotal_32 : decode cX3_standTotal 32 = .ok (.invokevirtual 177, 3) := by decide +kernel
theorem dX3_standTotal_35 : decode cX3_standTotal 35 = .ok (.istore 5, 2) := by decide +kernel
theorem dX3_standTotal_37 : decode cX3_standTotal 37 = .ok (.aload_n 0, 1) := by decide +kernel
theorem dX3_standTotal_38 : decode cX3_standTotal 38 = .ok (.getfield 12, 3) := by decide +kernel
theorem dX3_standTotal_41 : decode cX3_standTotal 41 = .ok (.iload 5, 2) := by decide +kernel
theorem dX3_standTotal_43 : decode cX3_standTotal 43 = .ok (.iload 4, 2) := by decide +kernel
theorem dX3_standTotal_45 : decode cX3_standTotal 45 = .ok (.invokevirtual 181, 3) := by decide +kernel
theorem dX3_standTotal_48 : decode cX3_standTotal 48 = .ok (.istore 6, 2) := by decide +kernel
theorem dX3_standTotal_50 : decode cX3_standTotal 50 = .ok (.iconst 0, 1) := by decide +kernel
theorem dX3_standTotal_51 : decode cX3_standTotal 51 = .ok (.istore 7, 2) := by decide +kernel
theorem dX3_standTotal_53 : decode cX3_standTotal 53 = .ok (.iload 7, 2) := by decide +kernel
theorem dX3_standTotal_55 : decode cX3_standTotal 55 = .ok (.bipush 21, 2) := by decide +kernel
theorem dX3_standTotal_57 : decode cX3_standTotal 57 = .ok (.if_icmp .gt 30, 3) := by decide +kernel
theorem dX3_standTotal_60 : decode cX3_standTotal 60 = .ok (.aload_n 0, 1) := by decide +kernel
theorem dX3_standTotal_61 : decode cX3_standTotal 61 = .ok (.getfield 46, 3) := by decide +kernel
theorem dX3_standTotal_64 : decode cX3_standTotal 64 = .ok (.iload 7, 2) := by decide +kernel
theorem dX3_standTotal_66 : decode cX3_standTotal 66 = .ok (.aload_n 0, 1) := by decide +kernel
theorem dX3_standTotal_67 : decode cX3_standTotal 67 = .ok (.getfield 12, 3) := by decide +kernel
theorem dX3_standTotal_70 : decode cX3_standTotal 70 = .ok (.iload 5, 2) := by decide +kernel
theorem dX3_standTotal_72 : decode cX3_standTotal 72 = .ok (.iload 6, 2) := by decide +kernel
theorem dX3_standTotal_74 : decode cX3_standTotal 74 = .ok (.iload 7, 2) := by decide +kernel
theorem dX3_standTotal_76 : decode cX3_standTotal 76 = .ok (.invokevirtual 185, 3) := by decide +kernel
theorem dX3_standTotal_79 : decode cX3_standTotal 79 = .ok (.i2l, 1) := by decide +kernel
theorem dX3_standTotal_80 : decode cX3_standTotal 80 = .ok (.lastore, 1) := by decide +kernel
theorem dX3_standTotal_81 : decode cX3_standTotal 81 = .ok (.iinc 7 1, 3) := by decide +kernel
theorem dX3_standTotal_84 : decode cX3_standTotal 84 = .ok (.goto (-31), 3) := by decide +kernel
theorem dX3_standTotal_87 : decode cX3_standTotal 87 = .ok (.aload_n 0, 1) := by decide +kernel
theorem dX3_standTotal_88 : decode cX3_standTotal 88 = .ok (.dup, 1) := by decide +kernel
theorem dX3_standTotal_89 : decode cX3_standTotal 89 = .ok (.getfield 60, 3) := by decide +kernel
theorem dX3_standTotal_92 : decode cX3_standTotal 92 = .ok (.iconst 1, 1) := by decide +kernel
theorem dX3_standTotal_93 : decode cX3_standTotal 93 = .ok (.iadd, 1) := by decide +kernel
theorem dX3_standTotal_94 : decode cX3_standTotal 94 = .ok (.putfield 60, 3) := by decide +kernel
theorem dX3_standTotal_97 : decode cX3_standTotal 97 = .ok (.aload_n 0, 1) := by decide +kernel
theorem dX3_standTotal_98 : decode cX3_standTotal 98 = .ok (.iload_n 1, 1) := by decide +kernel
theorem dX3_standTotal_99 : decode cX3_standTotal 99 = .ok (.aload_n 0, 1) := by decide +kernel
theorem dX3_standTotal_100 : decode cX3_standTotal 100 = .ok (.getfield 35, 3) := by decide +kernel
theorem dX3_standTotal_103 : decode cX3_standTotal 103 = .ok (.aload_n 0, 1) := by decide +kernel
theorem dX3_standTotal_104 : decode cX3_standTotal 104 = .ok (.getfield 35, 3) := by decide +kernel
theorem dX3_standTotal_107 : decode cX3_standTotal 107 = .ok (.iconst 1, 1) := by decide +kernel
theorem dX3_standTotal_108 : decode cX3_standTotal 108 = .ok (.if_icmp .ne 7, 3) := by decide +kernel
theorem dX3_standTotal_111 : decode cX3_standTotal 111 = .ok (.iconst 1, 1) := by decide +kernel
theorem dX3_standTotal_112 : decode cX3_standTotal 112 = .ok (.goto 4, 3) := by decide +kernel
theorem dX3_standTotal_115 : decode cX3_standTotal 115 = .ok (.iconst 0, 1) := by decide +kernel
theorem dX3_standTotal_116 : decode cX3_standTotal 116 = .ok (.aload_n 0, 1) := by decide +kernel
theorem dX3_standTotal_117 : decode cX3_standTotal 117 = .ok (.getfield 21, 3) := by decide +kernel
theorem dX3_standTotal_120 : decode cX3_standTotal 120 = .ok (.getfield 92, 3) := by decide +kernel
theorem dX3_standTotal_123 : decode cX3_standTotal 123 = .ok (.invokevirtual 149, 3) := by decide +kernel
theorem dX3_standTotal_126 : decode cX3_standTotal 126 = .ok (.lreturn, 1) := by decide +kernel
theorem dX3_houseTotal_0 : decode cX3_houseTotal 0 = .ok (.iload_n 1, 1) := by decide +kernel
theorem dX3_houseTotal_1 : decode cX3_houseTotal 1 = .ok (.ifCond .lt 14, 3) := by decide +kernel
theorem dX3_houseTotal_4 : decode cX3_houseTotal 4 = .ok (.iload_n 1, 1) := by decide +kernel
theorem dX3_houseTotal_5 : decode cX3_houseTotal 5 = .ok (.sipush 2304, 3) := by decide +kernel
theorem dX3_houseTotal_8 : decode cX3_houseTotal 8 = .ok (.if_icmp .ge 7, 3) := by decide +kernel
theorem dX3_houseTotal_11 : decode cX3_houseTotal 11 = .ok (.iload_n 2, 1) := by decide +kernel
theorem dX3_houseTotal_12 : decode cX3_houseTotal 12 = .ok (.ifCond .ge 5, 3) := by decide +kernel
theorem dX3_houseTotal_15 : decode cX3_houseTotal 15 = .ok (.lconst 0, 1) := by decide +kernel
theorem dX3_houseTotal_16 : decode cX3_houseTotal 16 = .ok (.lreturn, 1) := by decide +kernel
theorem dX3_houseTotal_17 : decode cX3_houseTotal 17 = .ok (.aload_n 0, 1) := by decide +kernel
theorem dX3_houseTotal_18 : decode cX3_houseTotal 18 = .ok (.getfield 12, 3) := by decide +kernel
theorem dX3_houseTotal_21 : decode cX3_houseTotal 21 = .ok (.iload_n 2, 1) := by decide +kernel
theorem dX3_houseTotal_22 : decode cX3_houseTotal 22 = .ok (.iload_n 3, 1) := by decide +kernel
theorem dX3_houseTotal_23 : decode cX3_houseTotal 23 = .ok (.invokevirtual 177, 3) := by decide +kernel
theorem dX3_houseTotal_26 : decode cX3_houseTotal 26 = .ok (.istore 5, 2) := by decide +kernel
theorem dX3_houseTotal_28 : decode cX3_houseTotal 28 = .ok (.iload 4, 2) := by decide +kernel
theorem dX3_houseTotal_30 : decode cX3_houseTotal 30 = .ok (.ifCond .le 26, 3) := by decide +kernel
theorem dX3_houseTotal_33 : decode cX3_houseTotal 33 = .ok (.aload_n 0, 1) := by decide +kernel
theorem dX3_houseTotal_34 : decode cX3_houseTotal 34 = .ok (.getfield 12, 3) := by decide +kernel
theorem dX3_houseTotal_37 : decode cX3_houseTotal 37 = .ok (.iload 5, 2) := by decide +kernel
theorem dX3_houseTotal_39 : decode cX3_houseTotal 39 = .ok (.iload 5, 2) := by decide +kernel
theorem dX3_houseTotal_41 : decode cX3_houseTotal 41 = .ok (.iload_n 2, 1) := by decide +kernel
theorem dX3_houseTotal_42 : decode cX3_houseTotal 42 = .ok (.if_icmp .eq 7, 3) := by decide +kernel
theorem dX3_houseTotal_45 : decode cX3_houseTotal 45 = .ok (.iconst 1, 1) := by decide +kernel
theorem dX3_houseTotal_46 : decode cX3_houseTotal 46 = .ok (.goto 4, 3) := by decide +kernel
theorem dX3_houseTotal_49 : decode cX3_houseTotal 49 = .ok (.iconst 0, 1) := by decide +kernel
theorem dX3_houseTotal_50 : decode cX3_houseTotal 50 = .ok (.invokevirtual 189, 3) := by decide +kernel
theorem dX3_houseTotal_53 : decode cX3_houseTotal 53 = .ok (.ifCond .ne 24, 3) := by decide +kernel
theorem dX3_houseTotal_56 : decode cX3_houseTotal 56 = .ok (.aload_n 0, 1) := by decide +kernel
theorem dX3_houseTotal_57 : decode cX3_houseTotal 57 = .ok (.getfield 46, 3) := by decide +kernel
theorem dX3_houseTotal_60 : decode cX3_houseTotal 60 = .ok (.aload_n 0, 1) := by decide +kernel
theorem dX3_houseTotal_61 : decode cX3_houseTotal 61 = .ok (.getfield 12, 3) := by decide +kernel
theorem dX3_houseTotal_64 : decode cX3_houseTotal 64 = .ok (.iload 5, 2) := by decide +kernel
theorem dX3_houseTotal_66 : decode cX3_houseTotal 66 = .ok (.invokevirtual 193, 3) := by decide +kernel
theorem dX3_houseTotal_69 : decode cX3_houseTotal 69 = .ok (.laload, 1) := by decide +kernel
theorem dX3_houseTotal_70 : decode cX3_houseTotal 70 = .ok (.iload 4, 2) := by decide +kernel
theorem dX3_houseTotal_72 : decode cX3_houseTotal 72 = .ok (.invokestatic 143, 3) := by decide +kernel
theorem dX3_houseTotal_75 : decode cX3_houseTotal 75 = .ok (.lmul, 1) := by decide +kernel
theorem dX3_houseTotal_76 : decode cX3_houseTotal 76 = .ok (.lreturn, 1) := by decide +kernel
theorem dX3_houseTotal_77 : decode cX3_houseTotal 77 = .ok (.aload_n 0, 1) := by decide +kernel
theorem dX3_houseTotal_78 : decode cX3_houseTotal 78 = .ok (.getfield 57, 3) := by decide +kernel
theorem dX3_houseTotal_81 : decode cX3_houseTotal 81 = .ok (.iload_n 1, 1) := by decide +kernel
theorem dX3_houseTotal_82 : decode cX3_houseTotal 82 = .ok (.iaload, 1) := by decide +kernel
theorem dX3_houseTotal_83 : decode cX3_houseTotal 83 = .ok (.aload_n 0, 1) := by decide +kernel
theorem dX3_houseTotal_84 : decode cX3_houseTotal 84 = .ok (.getfield 60, 3) := by decide +kernel
theorem dX3_houseTotal_87 : decode cX3_houseTotal 87 = .ok (.if_icmp .ne 10, 3) := by decide +kernel
theorem dX3_houseTotal_90 : decode cX3_houseTotal 90 = .ok (.aload_n 0, 1) := by decide +kernel
theorem dX3_houseTotal_91 : decode cX3_houseTotal 91 = .ok (.getfield 54, 3) := by decide +kernel
theorem dX3_houseTotal_94 : decode cX3_houseTotal 94 = .ok (.iload_n 1, 1) := by decide +kernel
theorem dX3_houseTotal_95 : decode cX3_houseTotal 95 = .ok (.laload, 1) := by decide +kernel
theorem dX3_houseTotal_96 : decode cX3_houseTotal 96 = .ok (.lreturn, 1) := by decide +kernel
theorem dX3_houseTotal_97 : decode cX3_houseTotal 97 = .ok (.lconst 0, 1) := by decide +kernel
theorem dX3_houseTotal_98 : decode cX3_houseTotal 98 = .ok (.lstore 6, 2) := by decide +kernel
theorem dX3_houseTotal_100 : decode cX3_houseTotal 100 = .ok (.iconst 1, 1) := by decide +kernel
theorem dX3_houseTotal_101 : decode cX3_houseTotal 101 = .ok (.istore 8, 2) := by decide +kernel
theorem dX3_houseTotal_103 : decode cX3_houseTotal 103 = .ok (.iload 8, 2) := by decide +kernel
theorem dX3_houseTotal_105 : decode cX3_houseTotal 105 = .ok (.bipush 10, 2) := by decide +kernel
theorem dX3_houseTotal_107 : decode cX3_houseTotal 107 = .ok (.if_icmp .gt 79, 3) := by decide +kernel
theorem dX3_houseTotal_110 : decode cX3_houseTotal 110 = .ok (.aload_n 0, 1) := by decide +kernel
theorem dX3_houseTotal_111 : decode cX3_houseTotal 111 = .ok (.getfield 21, 3) := by decide +kernel
theorem dX3_houseTotal_114 : decode cX3_houseTotal 114 = .ok (.iload 8, 2) := by decide +kernel
theorem dX3_houseTotal_116 : decode cX3_houseTotal 116 = .ok (.invokevirtual 155, 3) := by decide +kernel
theorem dX3_houseTotal_119 : decode cX3_houseTotal 119 = .ok (.istore 9, 2) := by decide +kernel
theorem dX3_houseTotal_121 : decode cX3_houseTotal 121 = .ok (.iload 9, 2) := by decide +kernel
theorem dX3_houseTotal_123 : decode cX3_houseTotal 123 = .ok (.ifCond .le 57, 3) := by decide +kernel
theorem dX3_houseTotal_126 : decode cX3_houseTotal 126 = .ok (.lload 6, 2) := by decide +kernel
theorem dX3_houseTotal_128 : decode cX3_houseTotal 128 = .ok (.iload 9, 2) := by decide +kernel
theorem dX3_houseTotal_130 : decode cX3_houseTotal 130 = .ok (.i2l, 1) := by decide +kernel
theorem dX3_houseTotal_131 : decode cX3_houseTotal 131 = .ok (.aload_n 0, 1) := by decide +kernel
theorem dX3_houseTotal_132 : decode cX3_houseTotal 132 = .ok (.iload_n 1, 1) := by decide +kernel
theorem dX3_houseTotal_133 : decode cX3_houseTotal 133 = .ok (.aload_n 0, 1) := by decide +kernel
theorem dX3_houseTotal_134 : decode cX3_houseTotal 134 = .ok (.getfield 50, 3) := by decide +kernel
theorem dX3_houseTotal_137 : decode cX3_houseTotal 137 = .ok (.iload 8, 2) := by decide +kernel
theorem dX3_houseTotal_139 : decode cX3_houseTotal 139 = .ok (.iaload, 1) := by decide +kernel
theorem dX3_houseTotal_140 : decode cX3_houseTotal 140 = .ok (.iadd, 1) := by decide +kernel
theorem dX3_houseTotal_141 : decode cX3_houseTotal 141 = .ok (.iload_n 2, 1) := by decide +kernel
theorem dX3_houseTotal_142 : decode cX3_houseTotal 142 = .ok (.iload 8, 2) := by decide +kernel
theorem dX3_houseTotal_144 : decode cX3_houseTotal 144 = .ok (.iadd, 1) := by decide +kernel
theorem dX3_houseTotal_145 : decode cX3_houseTotal 145 = .ok (.iload_n 3, 1) := by decide +kernel
theorem dX3_houseTotal_146 : decode cX3_houseTotal 146 = .ok (.ifCond .ne 9, 3) := by decide +kernel
theorem dX3_houseTotal_149 : decode cX3_houseTotal 149 = .ok (.iload 8, 2) := by decide +kernel
theorem dX3_houseTotal_151 : decode cX3_houseTotal 151 = .ok (.iconst 1, 1) := by decide +kernel
theorem dX3_houseTotal_152 : decode cX3_houseTotal 152 = .ok (.if_icmp .ne 7, 3) := by decide +kernel
theorem dX3_houseTotal_155 : decode cX3_houseTotal 155 = .ok (.iconst 1, 1) := by decide +kernel
theorem dX3_houseTotal_156 : decode cX3_houseTotal 156 = .ok (.goto 4, 3) := by decide +kernel
theorem dX3_houseTotal_159 : decode cX3_houseTotal 159 = .ok (.iconst 0, 1) := by decide +kernel
theorem dX3_houseTotal_160 : decode cX3_houseTotal 160 = .ok (.iload 4, 2) := by decide +kernel
theorem dX3_houseTotal_162 : decode cX3_houseTotal 162 = .ok (.iconst 1, 1) := by decide +kernel
theorem dX3_houseTotal_163 : decode cX3_houseTotal 163 = .ok (.isub, 1) := by decide +kernel
theorem dX3_houseTotal_164 : decode cX3_houseTotal 164 = .ok (.invokevirtual 149, 3) := by decide +kernel
theorem dX3_houseTotal_167 : decode cX3_houseTotal 167 = .ok (.lmul, 1) := by decide +kernel
theorem dX3_houseTotal_168 : decode cX3_houseTotal 168 = .ok (.ladd, 1) := by decide +kernel
theorem dX3_houseTotal_169 : decode cX3_houseTotal 169 = .ok (.lstore 6, 2) := by decide +kernel
theorem dX3_houseTotal_171 : decode cX3_houseTotal 171 = .ok (.aload_n 0, 1) := by decide +kernel
theorem dX3_houseTotal_172 : decode cX3_houseTotal 172 = .ok (.getfield 21, 3) := by decide +kernel
theorem dX3_houseTotal_175 : decode cX3_houseTotal 175 = .ok (.iload 8, 2) := by decide +kernel
theorem dX3_houseTotal_177 : decode cX3_houseTotal 177 = .ok (.invokevirtual 158, 3) := by decide +kernel
theorem dX3_houseTotal_180 : decode cX3_houseTotal 180 = .ok (.iinc 8 1, 3) := by decide +kernel
theorem dX3_houseTotal_183 : decode cX3_houseTotal 183 = .ok (.goto (-80), 3) := by decide +kernel
theorem dX3_houseTotal_186 : decode cX3_houseTotal 186 = .ok (.aload_n 0, 1) := by decide +kernel
theorem dX3_houseTotal_187 : decode cX3_houseTotal 187 = .ok (.getfield 57, 3) := by decide +kernel
theorem dX3_houseTotal_190 : decode cX3_houseTotal 190 = .ok (.iload_n 1, 1) := by decide +kernel
theorem dX3_houseTotal_191 : decode cX3_houseTotal 191 = .ok (.aload_n 0, 1) := by decide +kernel
theorem dX3_houseTotal_192 : decode cX3_houseTotal 192 = .ok (.getfield 60, 3) := by decide +kernel
theorem dX3_houseTotal_195 : decode cX3_houseTotal 195 = .ok (.iastore, 1) := by decide +kernel
theorem dX3_houseTotal_196 : decode cX3_houseTotal 196 = .ok (.aload_n 0, 1) := by decide +kernel
theorem dX3_houseTotal_197 : decode cX3_houseTotal 197 = .ok (.getfield 54, 3) := by decide +kernel
theorem dX3_houseTotal_200 : decode cX3_houseTotal 200 = .ok (.iload_n 1, 1) := by decide +kernel
theorem dX3_houseTotal_201 : decode cX3_houseTotal 201 = .ok (.lload 6, 2) := by decide +kernel
theorem dX3_houseTotal_203 : decode cX3_houseTotal 203 = .ok (.lastore, 1) := by decide +kernel
theorem dX3_houseTotal_204 : decode cX3_houseTotal 204 = .ok (.lload 6, 2) := by decide +kernel
theorem dX3_houseTotal_206 : decode cX3_houseTotal 206 = .ok (.lreturn, 1) := by decide +kernel
theorem dX3_playerTotal_0 : decode cX3_playerTotal 0 = .ok (.iload_n 1, 1) := by decide +kernel
theorem dX3_playerTotal_1 : decode cX3_playerTotal 1 = .ok (.ifCond .lt 10, 3) := by decide +kernel
theorem dX3_playerTotal_4 : decode cX3_playerTotal 4 = .ok (.iload_n 1, 1) := by decide +kernel
theorem dX3_playerTotal_5 : decode cX3_playerTotal 5 = .ok (.sipush 2304, 3) := by decide +kernel
theorem dX3_playerTotal_8 : decode cX3_playerTotal 8 = .ok (.if_icmp .lt 5, 3) := by decide +kernel
theorem dX3_playerTotal_11 : decode cX3_playerTotal 11 = .ok (.lconst 0, 1) := by decide +kernel
theorem dX3_playerTotal_12 : decode cX3_playerTotal 12 = .ok (.lreturn, 1) := by decide +kernel
theorem dX3_playerTotal_13 : decode cX3_playerTotal 13 = .ok (.aload_n 0, 1) := by decide +kernel
theorem dX3_playerTotal_14 : decode cX3_playerTotal 14 = .ok (.getfield 12, 3) := by decide +kernel
theorem dX3_playerTotal_17 : decode cX3_playerTotal 17 = .ok (.iload_n 2, 1) := by decide +kernel
theorem dX3_playerTotal_18 : decode cX3_playerTotal 18 = .ok (.invokevirtual 88, 3) := by decide +kernel
theorem dX3_playerTotal_21 : decode cX3_playerTotal 21 = .ok (.ifCond .eq 13, 3) := by decide +kernel
theorem dX3_playerTotal_24 : decode cX3_playerTotal 24 = .ok (.ldc2_w 166, 3) := by decide +kernel
theorem dX3_playerTotal_27 : decode cX3_playerTotal 27 = .ok (.iload 5, 2) := by decide +kernel
theorem dX3_playerTotal_29 : decode cX3_playerTotal 29 = .ok (.invokestatic 143, 3) := by decide +kernel
theorem dX3_playerTotal_32 : decode cX3_playerTotal 32 = .ok (.lmul, 1) := by decide +kernel
theorem dX3_playerTotal_33 : decode cX3_playerTotal 33 = .ok (.lreturn, 1) := by decide +kernel
theorem dX3_playerTotal_34 : decode cX3_playerTotal 34 = .ok (.aload_n 0, 1) := by decide +kernel
theorem dX3_playerTotal_35 : decode cX3_playerTotal 35 = .ok (.getfield 66, 3) := by decide +kernel
theorem dX3_playerTotal_38 : decode cX3_playerTotal 38 = .ok (.iload_n 1, 1) := by decide +kernel
theorem dX3_playerTotal_39 : decode cX3_playerTotal 39 = .ok (.iaload, 1) := by decide +kernel
theorem dX3_playerTotal_40 : decode cX3_playerTotal 40 = .ok (.aload_n 0, 1) := by decide +kernel
theorem dX3_playerTotal_41 : decode cX3_playerTotal 41 = .ok (.getfield 69, 3) := by decide +kernel
theorem dX3_playerTotal_44 : decode cX3_playerTotal 44 = .ok (.if_icmp .ne 10, 3) := by decide +kernel
theorem dX3_playerTotal_47 : decode cX3_playerTotal 47 = .ok (.aload_n 0, 1) := by decide +kernel
theorem dX3_playerTotal_48 : decode cX3_playerTotal 48 = .ok (.getfield 63, 3) := by decide +kernel
theorem dX3_playerTotal_51 : decode cX3_playerTotal 51 = .ok (.iload_n 1, 1) := by decide +kernel
theorem dX3_playerTotal_52 : decode cX3_playerTotal 52 = .ok (.laload, 1) := by decide +kernel
theorem dX3_playerTotal_53 : decode cX3_playerTotal 53 = .ok (.lreturn, 1) := by decide +kernel
theorem dX3_playerTotal_54 : decode cX3_playerTotal 54 = .ok (.lconst 0, 1) := by decide +kernel
theorem dX3_playerTotal_55 : decode cX3_playerTotal 55 = .ok (.lstore 6, 2) := by decide +kernel
theorem dX3_playerTotal_57 : decode cX3_playerTotal 57 = .ok (.iconst 1, 1) := by decide +kernel
theorem dX3_playerTotal_58 : decode cX3_playerTotal 58 = .ok (.istore 8, 2) := by decide +kernel
theorem dX3_playerTotal_60 : decode cX3_playerTotal 60 = .ok (.iload 8, 2) := by decide +kernel
theorem dX3_playerTotal_62 : decode cX3_playerTotal 62 = .ok (.bipush 10, 2) := by decide +kernel
theorem dX3_playerTotal_64 : decode cX3_playerTotal 64 = .ok (.if_icmp .gt 88, 3) := by decide +kernel
theorem dX3_playerTotal_67 : decode cX3_playerTotal 67 = .ok (.iload 5, 2) := by decide +kernel
theorem dX3_playerTotal_69 : decode cX3_playerTotal 69 = .ok (.ifCond .le 83, 3) := by decide +kernel
theorem dX3_playerTotal_72 : decode cX3_playerTotal 72 = .ok (.aload_n 0, 1) := by decide +kernel
theorem dX3_playerTotal_73 : decode cX3_playerTotal 73 = .ok (.getfield 21, 3) := by decide +kernel
theorem dX3_playerTotal_76 : decode cX3_playerTotal 76 = .ok (.iload 8, 2) := by decide +kernel
theorem dX3_playerTotal_78 : decode cX3_playerTotal 78 = .ok (.invokevirtual 155, 3) := by decide +kernel
theorem dX3_playerTotal_81 : decode cX3_playerTotal 81 = .ok (.istore 9, 2) := by decide +kernel
theorem dX3_playerTotal_83 : decode cX3_playerTotal 83 = .ok (.iload 9, 2) := by decide +kernel
theorem dX3_playerTotal_85 : decode cX3_playerTotal 85 = .ok (.ifCond .le 61, 3) := by decide +kernel
theorem dX3_playerTotal_88 : decode cX3_playerTotal 88 = .ok (.lload 6, 2) := by decide +kernel
theorem dX3_playerTotal_90 : decode cX3_playerTotal 90 = .ok (.iload 9, 2) := by decide +kernel
theorem dX3_playerTotal_92 : decode cX3_playerTotal 92 = .ok (.i2l, 1) := by decide +kernel
theorem dX3_playerTotal_93 : decode cX3_playerTotal 93 = .ok (.aload_n 0, 1) := by decide +kernel
theorem dX3_playerTotal_94 : decode cX3_playerTotal 94 = .ok (.iload_n 1, 1) := by decide +kernel
theorem dX3_playerTotal_95 : decode cX3_playerTotal 95 = .ok (.aload_n 0, 1) := by decide +kernel
theorem dX3_playerTotal_96 : decode cX3_playerTotal 96 = .ok (.getfield 50, 3) := by decide +kernel
theorem dX3_playerTotal_99 : decode cX3_playerTotal 99 = .ok (.iload 8, 2) := by decide +kernel
theorem dX3_playerTotal_101 : decode cX3_playerTotal 101 = .ok (.iaload, 1) := by decide +kernel
theorem dX3_playerTotal_102 : decode cX3_playerTotal 102 = .ok (.iadd, 1) := by decide +kernel
theorem dX3_playerTotal_103 : decode cX3_playerTotal 103 = .ok (.iload_n 2, 1) := by decide +kernel
theorem dX3_playerTotal_104 : decode cX3_playerTotal 104 = .ok (.iload 8, 2) := by decide +kernel
theorem dX3_playerTotal_106 : decode cX3_playerTotal 106 = .ok (.iadd, 1) := by decide +kernel
theorem dX3_playerTotal_107 : decode cX3_playerTotal 107 = .ok (.iload_n 3, 1) := by decide +kernel
theorem dX3_playerTotal_108 : decode cX3_playerTotal 108 = .ok (.ifCond .ne 9, 3) := by decide +kernel
theorem dX3_playerTotal_111 : decode cX3_playerTotal 111 = .ok (.iload 8, 2) := by decide +kernel
theorem dX3_playerTotal_113 : decode cX3_playerTotal 113 = .ok (.iconst 1, 1) := by decide +kernel
theorem dX3_playerTotal_114 : decode cX3_playerTotal 114 = .ok (.if_icmp .ne 7, 3) := by decide +kernel
theorem dX3_playerTotal_117 : decode cX3_playerTotal 117 = .ok (.iconst 1, 1) := by decide +kernel
theorem dX3_playerTotal_118 : decode cX3_playerTotal 118 = .ok (.goto 4, 3) := by decide +kernel
theorem dX3_playerTotal_121 : decode cX3_playerTotal 121 = .ok (.iconst 0, 1) := by decide +kernel
theorem dX3_playerTotal_122 : decode cX3_playerTotal 122 = .ok (.iload 4, 2) := by decide +kernel
theorem dX3_playerTotal_124 : decode cX3_playerTotal 124 = .ok (.iconst 1, 1) := by decide +kernel
theorem dX3_playerTotal_125 : decode cX3_playerTotal 125 = .ok (.iadd, 1) := by decide +kernel
theorem dX3_playerTotal_126 : decode cX3_playerTotal 126 = .ok (.iload 5, 2) := by decide +kernel
theorem dX3_playerTotal_128 : decode cX3_playerTotal 128 = .ok (.iconst 1, 1) := by decide +kernel
theorem dX3_playerTotal_129 : decode cX3_playerTotal 129 = .ok (.isub, 1) := by decide +kernel
theorem dX3_playerTotal_130 : decode cX3_playerTotal 130 = .ok (.invokevirtual 125, 3) := by decide +kernel
theorem dX3_playerTotal_133 : decode cX3_playerTotal 133 = .ok (.lmul, 1) := by decide +kernel
theorem dX3_playerTotal_134 : decode cX3_playerTotal 134 = .ok (.ladd, 1) := by decide +kernel
theorem dX3_playerTotal_135 : decode cX3_playerTotal 135 = .ok (.lstore 6, 2) := by decide +kernel
theorem dX3_playerTotal_137 : decode cX3_playerTotal 137 = .ok (.aload_n 0, 1) := by decide +kernel
theorem dX3_playerTotal_138 : decode cX3_playerTotal 138 = .ok (.getfield 21, 3) := by decide +kernel
theorem dX3_playerTotal_141 : decode cX3_playerTotal 141 = .ok (.iload 8, 2) := by decide +kernel
theorem dX3_playerTotal_143 : decode cX3_playerTotal 143 = .ok (.invokevirtual 158, 3) := by decide +kernel
theorem dX3_playerTotal_146 : decode cX3_playerTotal 146 = .ok (.iinc 8 1, 3) := by decide +kernel
theorem dX3_playerTotal_149 : decode cX3_playerTotal 149 = .ok (.goto (-89), 3) := by decide +kernel
theorem dX3_playerTotal_152 : decode cX3_playerTotal 152 = .ok (.iload_n 1, 1) := by decide +kernel
theorem dX3_playerTotal_153 : decode cX3_playerTotal 153 = .ok (.ifCond .eq 33, 3) := by decide +kernel
theorem dX3_playerTotal_156 : decode cX3_playerTotal 156 = .ok (.aload_n 0, 1) := by decide +kernel
theorem dX3_playerTotal_157 : decode cX3_playerTotal 157 = .ok (.iload_n 1, 1) := by decide +kernel
theorem dX3_playerTotal_158 : decode cX3_playerTotal 158 = .ok (.iload_n 2, 1) := by decide +kernel
theorem dX3_playerTotal_159 : decode cX3_playerTotal 159 = .ok (.iload_n 3, 1) := by decide +kernel
theorem dX3_playerTotal_160 : decode cX3_playerTotal 160 = .ok (.iload 4, 2) := by decide +kernel
theorem dX3_playerTotal_162 : decode cX3_playerTotal 162 = .ok (.invokevirtual 121, 3) := by decide +kernel
theorem dX3_playerTotal_165 : decode cX3_playerTotal 165 = .ok (.lstore 8, 2) := by decide +kernel
theorem dX3_playerTotal_167 : decode cX3_playerTotal 167 = .ok (.iload 5, 2) := by decide +kernel
theorem dX3_playerTotal_169 : decode cX3_playerTotal 169 = .ok (.ifCond .le 13, 3) := by decide +kernel
theorem dX3_playerTotal_172 : decode cX3_playerTotal 172 = .ok (.lload 8, 2) := by decide +kernel
theorem dX3_playerTotal_174 : decode cX3_playerTotal 174 = .ok (.lload 6, 2) := by decide +kernel
theorem dX3_playerTotal_176 : decode cX3_playerTotal 176 = .ok (.invokestatic 196, 3) := by decide +kernel
theorem dX3_playerTotal_179 : decode cX3_playerTotal 179 = .ok (.goto 5, 3) := by decide +kernel
theorem dX3_playerTotal_182 : decode cX3_playerTotal 182 = .ok (.lload 8, 2) := by decide +kernel
theorem dX3_playerTotal_184 : decode cX3_playerTotal 184 = .ok (.lstore 6, 2) := by decide +kernel
theorem dX3_playerTotal_186 : decode cX3_playerTotal 186 = .ok (.aload_n 0, 1) := by decide +kernel
theorem dX3_playerTotal_187 : decode cX3_playerTotal 187 = .ok (.getfield 66, 3) := by decide +kernel
theorem dX3_playerTotal_190 : decode cX3_playerTotal 190 = .ok (.iload_n 1, 1) := by decide +kernel
theorem dX3_playerTotal_191 : decode cX3_playerTotal 191 = .ok (.aload_n 0, 1) := by decide +kernel
theorem dX3_playerTotal_192 : decode cX3_playerTotal 192 = .ok (.getfield 69, 3) := by decide +kernel
theorem dX3_playerTotal_195 : decode cX3_playerTotal 195 = .ok (.iastore, 1) := by decide +kernel
theorem dX3_playerTotal_196 : decode cX3_playerTotal 196 = .ok (.aload_n 0, 1) := by decide +kernel
theorem dX3_playerTotal_197 : decode cX3_playerTotal 197 = .ok (.getfield 63, 3) := by decide +kernel
theorem dX3_playerTotal_200 : decode cX3_playerTotal 200 = .ok (.iload_n 1, 1) := by decide +kernel
theorem dX3_playerTotal_201 : decode cX3_playerTotal 201 = .ok (.lload 6, 2) := by decide +kernel
theorem dX3_playerTotal_203 : decode cX3_playerTotal 203 = .ok (.lastore, 1) := by decide +kernel
theorem dX3_playerTotal_204 : decode cX3_playerTotal 204 = .ok (.lload 6, 2) := by decide +kernel
theorem dX3_playerTotal_206 : decode cX3_playerTotal 206 = .ok (.lreturn, 1) := by decide +kernel
theorem dX3_doubleTotal_0 : decode cX3_doubleTotal 0 = .ok (.lconst 0, 1) := by decide +kernel
theorem dX3_doubleTotal_1 : decode cX3_doubleTotal 1 = .ok (.lstore_n 1, 1) := by decide +kernel
theorem dX3_doubleTotal_2 : decode cX3_doubleTotal 2 = .ok (.iconst 1, 1) := by decide +kernel
theorem dX3_doubleTotal_3 : decode cX3_doubleTotal 3 = .ok (.istore_n 3, 1) := by decide +kernel
theorem dX3_doubleTotal_4 : decode cX3_doubleTotal 4 = .ok (.iload_n 3, 1) := by decide +kernel
theorem dX3_doubleTotal_5 : decode cX3_doubleTotal 5 = .ok (.bipush 10, 2) := by decide +kernel
theorem dX3_doubleTotal_7 : decode cX3_doubleTotal 7 = .ok (.if_icmp .gt 87, 3) := by decide +kernel
theorem dX3_doubleTotal_10 : decode cX3_doubleTotal 10 = .ok (.aload_n 0, 1) := by decide +kernel
theorem dX3_doubleTotal_11 : decode cX3_doubleTotal 11 = .ok (.getfield 21, 3) := by decide +kernel
theorem dX3_doubleTotal_14 : decode cX3_doubleTotal 14 = .ok (.iload_n 3, 1) := by decide +kernel
theorem dX3_doubleTotal_15 : decode cX3_doubleTotal 15 = .ok (.invokevirtual 155, 3) := by decide +kernel
theorem dX3_doubleTotal_18 : decode cX3_doubleTotal 18 = .ok (.istore 4, 2) := by decide +kernel
theorem dX3_doubleTotal_20 : decode cX3_doubleTotal 20 = .ok (.iload 4, 2) := by decide +kernel
theorem dX3_doubleTotal_22 : decode cX3_doubleTotal 22 = .ok (.ifCond .le 66, 3) := by decide +kernel
theorem dX3_doubleTotal_25 : decode cX3_doubleTotal 25 = .ok (.lload_n 1, 1) := by decide +kernel
theorem dX3_doubleTotal_26 : decode cX3_doubleTotal 26 = .ok (.iload 4, 2) := by decide +kernel
theorem dX3_doubleTotal_28 : decode cX3_doubleTotal 28 = .ok (.i2l, 1) := by decide +kernel
theorem dX3_doubleTotal_29 : decode cX3_doubleTotal 29 = .ok (.aload_n 0, 1) := by decide +kernel
theorem dX3_doubleTotal_30 : decode cX3_doubleTotal 30 = .ok (.aload_n 0, 1) := by decide +kernel
theorem dX3_doubleTotal_31 : decode cX3_doubleTotal 31 = .ok (.getfield 50, 3) := by decide +kernel
theorem dX3_doubleTotal_34 : decode cX3_doubleTotal 34 = .ok (.iload_n 3, 1) := by decide +kernel
theorem dX3_doubleTotal_35 : decode cX3_doubleTotal 35 = .ok (.iaload, 1) := by decide +kernel
theorem dX3_doubleTotal_36 : decode cX3_doubleTotal 36 = .ok (.aload_n 0, 1) := by decide +kernel
theorem dX3_doubleTotal_37 : decode cX3_doubleTotal 37 = .ok (.getfield 31, 3) := by decide +kernel
theorem dX3_doubleTotal_40 : decode cX3_doubleTotal 40 = .ok (.getfield 85, 3) := by decide +kernel
theorem dX3_doubleTotal_43 : decode cX3_doubleTotal 43 = .ok (.iload_n 3, 1) := by decide +kernel
theorem dX3_doubleTotal_44 : decode cX3_doubleTotal 44 = .ok (.iadd, 1) := by decide +kernel
theorem dX3_doubleTotal_45 : decode cX3_doubleTotal 45 = .ok (.aload_n 0, 1) := by decide +kernel
theorem dX3_doubleTotal_46 : decode cX3_doubleTotal 46 = .ok (.getfield 31, 3) := by decide +kernel
theorem dX3_doubleTotal_49 : decode cX3_doubleTotal 49 = .ok (.getfield 117, 3) := by decide +kernel
theorem dX3_doubleTotal_52 : decode cX3_doubleTotal 52 = .ok (.ifCond .ne 8, 3) := by decide +kernel
theorem dX3_doubleTotal_55 : decode cX3_doubleTotal 55 = .ok (.iload_n 3, 1) := by decide +kernel
theorem dX3_doubleTotal_56 : decode cX3_doubleTotal 56 = .ok (.iconst 1, 1) := by decide +kernel
theorem dX3_doubleTotal_57 : decode cX3_doubleTotal 57 = .ok (.if_icmp .ne 7, 3) := by decide +kernel
theorem dX3_doubleTotal_60 : decode cX3_doubleTotal 60 = .ok (.iconst 1, 1) := by decide +kernel
theorem dX3_doubleTotal_61 : decode cX3_doubleTotal 61 = .ok (.goto 4, 3) := by decide +kernel
theorem dX3_doubleTotal_64 : decode cX3_doubleTotal 64 = .ok (.iconst 0, 1) := by decide +kernel
theorem dX3_doubleTotal_65 : decode cX3_doubleTotal 65 = .ok (.aload_n 0, 1) := by decide +kernel
theorem dX3_doubleTotal_66 : decode cX3_doubleTotal 66 = .ok (.getfield 31, 3) := by decide +kernel
theorem dX3_doubleTotal_69 : decode cX3_doubleTotal 69 = .ok (.getfield 82, 3) := by decide +kernel
theorem dX3_doubleTotal_72 : decode cX3_doubleTotal 72 = .ok (.iconst 1, 1) := by decide +kernel
theorem dX3_doubleTotal_73 : decode cX3_doubleTotal 73 = .ok (.iadd, 1) := by decide +kernel
theorem dX3_doubleTotal_74 : decode cX3_doubleTotal 74 = .ok (.invokevirtual 121, 3) := by decide +kernel
theorem dX3_doubleTotal_77 : decode cX3_doubleTotal 77 = .ok (.lmul, 1) := by decide +kernel
theorem dX3_doubleTotal_78 : decode cX3_doubleTotal 78 = .ok (.ladd, 1) := by decide +kernel
theorem dX3_doubleTotal_79 : decode cX3_doubleTotal 79 = .ok (.lstore_n 1, 1) := by decide +kernel
theorem dX3_doubleTotal_80 : decode cX3_doubleTotal 80 = .ok (.aload_n 0, 1) := by decide +kernel
theorem dX3_doubleTotal_81 : decode cX3_doubleTotal 81 = .ok (.getfield 21, 3) := by decide +kernel
theorem dX3_doubleTotal_84 : decode cX3_doubleTotal 84 = .ok (.iload_n 3, 1) := by decide +kernel
theorem dX3_doubleTotal_85 : decode cX3_doubleTotal 85 = .ok (.invokevirtual 158, 3) := by decide +kernel
theorem dX3_doubleTotal_88 : decode cX3_doubleTotal 88 = .ok (.iinc 3 1, 3) := by decide +kernel
theorem dX3_doubleTotal_91 : decode cX3_doubleTotal 91 = .ok (.goto (-87), 3) := by decide +kernel
theorem dX3_doubleTotal_94 : decode cX3_doubleTotal 94 = .ok (.ldc2_w 172, 3) := by decide +kernel
theorem dX3_doubleTotal_97 : decode cX3_doubleTotal 97 = .ok (.lload_n 1, 1) := by decide +kernel
theorem dX3_doubleTotal_98 : decode cX3_doubleTotal 98 = .ok (.lmul, 1) := by decide +kernel
theorem dX3_doubleTotal_99 : decode cX3_doubleTotal 99 = .ok (.lreturn, 1) := by decide +kernel
theorem dX3_splitTotal_0 : decode cX3_splitTotal 0 = .ok (.lconst 0, 1) := by decide +kernel
theorem dX3_splitTotal_1 : decode cX3_splitTotal 1 = .ok (.lstore_n 2, 1) := by decide +kernel
theorem dX3_splitTotal_2 : decode cX3_splitTotal 2 = .ok (.iconst 1, 1) := by decide +kernel
theorem dX3_splitTotal_3 : decode cX3_splitTotal 3 = .ok (.istore 4, 2) := by decide +kernel
theorem dX3_splitTotal_5 : decode cX3_splitTotal 5 = .ok (.iload 4, 2) := by decide +kernel
theorem dX3_splitTotal_7 : decode cX3_splitTotal 7 = .ok (.bipush 10, 2) := by decide +kernel
theorem dX3_splitTotal_9 : decode cX3_splitTotal 9 = .ok (.if_icmp .gt 104, 3) := by decide +kernel
theorem dX3_splitTotal_12 : decode cX3_splitTotal 12 = .ok (.aload_n 0, 1) := by decide +kernel
theorem dX3_splitTotal_13 : decode cX3_splitTotal 13 = .ok (.getfield 21, 3) := by decide +kernel
theorem dX3_splitTotal_16 : decode cX3_splitTotal 16 = .ok (.iload 4, 2) := by decide +kernel
theorem dX3_splitTotal_18 : decode cX3_splitTotal 18 = .ok (.invokevirtual 155, 3) := by decide +kernel
theorem dX3_splitTotal_21 : decode cX3_splitTotal 21 = .ok (.i2l, 1) := by decide +kernel
theorem dX3_splitTotal_22 : decode cX3_splitTotal 22 = .ok (.lstore 5, 2) := by decide +kernel
theorem dX3_splitTotal_24 : decode cX3_splitTotal 24 = .ok (.iconst 1, 1) := by decide +kernel
theorem dX3_splitTotal_25 : decode cX3_splitTotal 25 = .ok (.istore 7, 2) := by decide +kernel
theorem dX3_splitTotal_27 : decode cX3_splitTotal 27 = .ok (.iload 7, 2) := by decide +kernel
theorem dX3_splitTotal_29 : decode cX3_splitTotal 29 = .ok (.bipush 10, 2) := by decide +kernel
theorem dX3_splitTotal_31 : decode cX3_splitTotal 31 = .ok (.if_icmp .gt 60, 3) := by decide +kernel
theorem dX3_splitTotal_34 : decode cX3_splitTotal 34 = .ok (.lload 5, 2) := by decide +kernel
theorem dX3_splitTotal_36 : decode cX3_splitTotal 36 = .ok (.lconst 0, 1) := by decide +kernel
theorem dX3_splitTotal_37 : decode cX3_splitTotal 37 = .ok (.lcmp, 1) := by decide +kernel
theorem dX3_splitTotal_38 : decode cX3_splitTotal 38 = .ok (.ifCond .le 53, 3) := by decide +kernel
theorem dX3_splitTotal_41 : decode cX3_splitTotal 41 = .ok (.aload_n 0, 1) := by decide +kernel
theorem dX3_splitTotal_42 : decode cX3_splitTotal 42 = .ok (.getfield 21, 3) := by decide +kernel
theorem dX3_splitTotal_45 : decode cX3_splitTotal 45 = .ok (.iload 7, 2) := by decide +kernel
theorem dX3_splitTotal_47 : decode cX3_splitTotal 47 = .ok (.invokevirtual 155, 3) := by decide +kernel
theorem dX3_splitTotal_50 : decode cX3_splitTotal 50 = .ok (.istore 8, 2) := by decide +kernel
theorem dX3_splitTotal_52 : decode cX3_splitTotal 52 = .ok (.iload 8, 2) := by decide +kernel
theorem dX3_splitTotal_54 : decode cX3_splitTotal 54 = .ok (.ifCond .le 31, 3) := by decide +kernel
theorem dX3_splitTotal_57 : decode cX3_splitTotal 57 = .ok (.lload_n 2, 1) := by decide +kernel
theorem dX3_splitTotal_58 : decode cX3_splitTotal 58 = .ok (.lload 5, 2) := by decide +kernel
theorem dX3_splitTotal_60 : decode cX3_splitTotal 60 = .ok (.iload 8, 2) := by decide +kernel
theorem dX3_splitTotal_62 : decode cX3_splitTotal 62 = .ok (.i2l, 1) := by decide +kernel
theorem dX3_splitTotal_63 : decode cX3_splitTotal 63 = .ok (.lmul, 1) := by decide +kernel
theorem dX3_splitTotal_64 : decode cX3_splitTotal 64 = .ok (.aload_n 0, 1) := by decide +kernel
theorem dX3_splitTotal_65 : decode cX3_splitTotal 65 = .ok (.iload_n 1, 1) := by decide +kernel
theorem dX3_splitTotal_66 : decode cX3_splitTotal 66 = .ok (.iload 4, 2) := by decide +kernel
theorem dX3_splitTotal_68 : decode cX3_splitTotal 68 = .ok (.iload 7, 2) := by decide +kernel
theorem dX3_splitTotal_70 : decode cX3_splitTotal 70 = .ok (.invokevirtual 202, 3) := by decide +kernel
theorem dX3_splitTotal_73 : decode cX3_splitTotal 73 = .ok (.lmul, 1) := by decide +kernel
theorem dX3_splitTotal_74 : decode cX3_splitTotal 74 = .ok (.ladd, 1) := by decide +kernel
theorem dX3_splitTotal_75 : decode cX3_splitTotal 75 = .ok (.lstore_n 2, 1) := by decide +kernel
theorem dX3_splitTotal_76 : decode cX3_splitTotal 76 = .ok (.aload_n 0, 1) := by decide +kernel
theorem dX3_splitTotal_77 : decode cX3_splitTotal 77 = .ok (.getfield 21, 3) := by decide +kernel
theorem dX3_splitTotal_80 : decode cX3_splitTotal 80 = .ok (.iload 7, 2) := by decide +kernel
theorem dX3_splitTotal_82 : decode cX3_splitTotal 82 = .ok (.invokevirtual 158, 3) := by decide +kernel
theorem dX3_splitTotal_85 : decode cX3_splitTotal 85 = .ok (.iinc 7 1, 3) := by decide +kernel
theorem dX3_splitTotal_88 : decode cX3_splitTotal 88 = .ok (.goto (-61), 3) := by decide +kernel
theorem dX3_splitTotal_91 : decode cX3_splitTotal 91 = .ok (.lload 5, 2) := by decide +kernel
theorem dX3_splitTotal_93 : decode cX3_splitTotal 93 = .ok (.lconst 0, 1) := by decide +kernel
theorem dX3_splitTotal_94 : decode cX3_splitTotal 94 = .ok (.lcmp, 1) := by decide +kernel
theorem dX3_splitTotal_95 : decode cX3_splitTotal 95 = .ok (.ifCond .le 12, 3) := by decide +kernel
theorem dX3_splitTotal_98 : decode cX3_splitTotal 98 = .ok (.aload_n 0, 1) := by decide +kernel
theorem dX3_splitTotal_99 : decode cX3_splitTotal 99 = .ok (.getfield 21, 3) := by decide +kernel
theorem dX3_splitTotal_102 : decode cX3_splitTotal 102 = .ok (.iload 4, 2) := by decide +kernel
theorem dX3_splitTotal_104 : decode cX3_splitTotal 104 = .ok (.invokevirtual 158, 3) := by decide +kernel
theorem dX3_splitTotal_107 : decode cX3_splitTotal 107 = .ok (.iinc 4 1, 3) := by decide +kernel
theorem dX3_splitTotal_110 : decode cX3_splitTotal 110 = .ok (.goto (-105), 3) := by decide +kernel
theorem dX3_splitTotal_113 : decode cX3_splitTotal 113 = .ok (.lload_n 2, 1) := by decide +kernel
theorem dX3_splitTotal_114 : decode cX3_splitTotal 114 = .ok (.lreturn, 1) := by decide +kernel
theorem dX3_bothTotal_0 : decode cX3_bothTotal 0 = .ok (.aload_n 0, 1) := by decide +kernel
theorem dX3_bothTotal_1 : decode cX3_bothTotal 1 = .ok (.getfield 12, 3) := by decide +kernel
theorem dX3_bothTotal_4 : decode cX3_bothTotal 4 = .ok (.iload_n 1, 1) := by decide +kernel
theorem dX3_bothTotal_5 : decode cX3_bothTotal 5 = .ok (.iload_n 2, 1) := by decide +kernel
theorem dX3_bothTotal_6 : decode cX3_bothTotal 6 = .ok (.iadd, 1) := by decide +kernel
theorem dX3_bothTotal_7 : decode cX3_bothTotal 7 = .ok (.iload_n 1, 1) := by decide +kernel
theorem dX3_bothTotal_8 : decode cX3_bothTotal 8 = .ok (.iconst 1, 1) := by decide +kernel
theorem dX3_bothTotal_9 : decode cX3_bothTotal 9 = .ok (.if_icmp .eq 8, 3) := by decide +kernel
theorem dX3_bothTotal_12 : decode cX3_bothTotal 12 = .ok (.iload_n 2, 1) := by decide +kernel
theorem dX3_bothTotal_13 : decode cX3_bothTotal 13 = .ok (.iconst 1, 1) := by decide +kernel
theorem dX3_bothTotal_14 : decode cX3_bothTotal 14 = .ok (.if_icmp .ne 7, 3) := by decide +kernel
theorem dX3_bothTotal_17 : decode cX3_bothTotal 17 = .ok (.iconst 1, 1) := by decide +kernel
theorem dX3_bothTotal_18 : decode cX3_bothTotal 18 = .ok (.goto 4, 3) := by decide +kernel
theorem dX3_bothTotal_21 : decode cX3_bothTotal 21 = .ok (.iconst 0, 1) := by decide +kernel
theorem dX3_bothTotal_22 : decode cX3_bothTotal 22 = .ok (.invokevirtual 177, 3) := by decide +kernel
theorem dX3_bothTotal_25 : decode cX3_bothTotal 25 = .ok (.istore 4, 2) := by decide +kernel
theorem dX3_bothTotal_27 : decode cX3_bothTotal 27 = .ok (.aload_n 0, 1) := by decide +kernel
theorem dX3_bothTotal_28 : decode cX3_bothTotal 28 = .ok (.getfield 12, 3) := by decide +kernel
theorem dX3_bothTotal_31 : decode cX3_bothTotal 31 = .ok (.iload_n 1, 1) := by decide +kernel
theorem dX3_bothTotal_32 : decode cX3_bothTotal 32 = .ok (.iload_n 3, 1) := by decide +kernel
theorem dX3_bothTotal_33 : decode cX3_bothTotal 33 = .ok (.iadd, 1) := by decide +kernel
theorem dX3_bothTotal_34 : decode cX3_bothTotal 34 = .ok (.iload_n 1, 1) := by decide +kernel
theorem dX3_bothTotal_35 : decode cX3_bothTotal 35 = .ok (.iconst 1, 1) := by decide +kernel
theorem dX3_bothTotal_36 : decode cX3_bothTotal 36 = .ok (.if_icmp .eq 8, 3) := by decide +kernel
theorem dX3_bothTotal_39 : decode cX3_bothTotal 39 = .ok (.iload_n 3, 1) := by decide +kernel
theorem dX3_bothTotal_40 : decode cX3_bothTotal 40 = .ok (.iconst 1, 1) := by decide +kernel
theorem dX3_bothTotal_41 : decode cX3_bothTotal 41 = .ok (.if_icmp .ne 7, 3) := by decide +kernel
theorem dX3_bothTotal_44 : decode cX3_bothTotal 44 = .ok (.iconst 1, 1) := by decide +kernel
theorem dX3_bothTotal_45 : decode cX3_bothTotal 45 = .ok (.goto 4, 3) := by decide +kernel
theorem dX3_bothTotal_48 : decode cX3_bothTotal 48 = .ok (.iconst 0, 1) := by decide +kernel
theorem dX3_bothTotal_49 : decode cX3_bothTotal 49 = .ok (.invokevirtual 177, 3) := by decide +kernel
theorem dX3_bothTotal_52 : decode cX3_bothTotal 52 = .ok (.istore 5, 2) := by decide +kernel
theorem dX3_bothTotal_54 : decode cX3_bothTotal 54 = .ok (.iconst 0, 1) := by decide +kernel
theorem dX3_bothTotal_55 : decode cX3_bothTotal 55 = .ok (.istore 6, 2) := by decide +kernel
theorem dX3_bothTotal_57 : decode cX3_bothTotal 57 = .ok (.iload 6, 2) := by decide +kernel
theorem dX3_bothTotal_59 : decode cX3_bothTotal 59 = .ok (.bipush 21, 2) := by decide +kernel
theorem dX3_bothTotal_61 : decode cX3_bothTotal 61 = .ok (.if_icmp .gt 42, 3) := by decide +kernel
theorem dX3_bothTotal_64 : decode cX3_bothTotal 64 = .ok (.aload_n 0, 1) := by decide +kernel
theorem dX3_bothTotal_65 : decode cX3_bothTotal 65 = .ok (.getfield 46, 3) := by decide +kernel
theorem dX3_bothTotal_68 : decode cX3_bothTotal 68 = .ok (.iload 6, 2) := by decide +kernel
theorem dX3_bothTotal_70 : decode cX3_bothTotal 70 = .ok (.aload_n 0, 1) := by decide +kernel
theorem dX3_bothTotal_71 : decode cX3_bothTotal 71 = .ok (.getfield 12, 3) := by decide +kernel
theorem dX3_bothTotal_74 : decode cX3_bothTotal 74 = .ok (.iload 4, 2) := by decide +kernel
theorem dX3_bothTotal_76 : decode cX3_bothTotal 76 = .ok (.iconst 0, 1) := by decide +kernel
theorem dX3_bothTotal_77 : decode cX3_bothTotal 77 = .ok (.iload 6, 2) := by decide +kernel
theorem dX3_bothTotal_79 : decode cX3_bothTotal 79 = .ok (.invokevirtual 185, 3) := by decide +kernel
theorem dX3_bothTotal_82 : decode cX3_bothTotal 82 = .ok (.aload_n 0, 1) := by decide +kernel
theorem dX3_bothTotal_83 : decode cX3_bothTotal 83 = .ok (.getfield 12, 3) := by decide +kernel
theorem dX3_bothTotal_86 : decode cX3_bothTotal 86 = .ok (.iload 5, 2) := by decide +kernel
theorem dX3_bothTotal_88 : decode cX3_bothTotal 88 = .ok (.iconst 0, 1) := by decide +kernel
theorem dX3_bothTotal_89 : decode cX3_bothTotal 89 = .ok (.iload 6, 2) := by decide +kernel
theorem dX3_bothTotal_91 : decode cX3_bothTotal 91 = .ok (.invokevirtual 185, 3) := by decide +kernel
theorem dX3_bothTotal_94 : decode cX3_bothTotal 94 = .ok (.iadd, 1) := by decide +kernel
theorem dX3_bothTotal_95 : decode cX3_bothTotal 95 = .ok (.i2l, 1) := by decide +kernel
theorem dX3_bothTotal_96 : decode cX3_bothTotal 96 = .ok (.lastore, 1) := by decide +kernel
theorem dX3_bothTotal_97 : decode cX3_bothTotal 97 = .ok (.iinc 6 1, 3) := by decide +kernel
theorem dX3_bothTotal_100 : decode cX3_bothTotal 100 = .ok (.goto (-43), 3) := by decide +kernel
theorem dX3_bothTotal_103 : decode cX3_bothTotal 103 = .ok (.aload_n 0, 1) := by decide +kernel
theorem dX3_bothTotal_104 : decode cX3_bothTotal 104 = .ok (.dup, 1) := by decide +kernel
theorem dX3_bothTotal_105 : decode cX3_bothTotal 105 = .ok (.getfield 60, 3) := by decide +kernel
theorem dX3_bothTotal_108 : decode cX3_bothTotal 108 = .ok (.iconst 1, 1) := by decide +kernel
theorem dX3_bothTotal_109 : decode cX3_bothTotal 109 = .ok (.iadd, 1) := by decide +kernel
theorem dX3_bothTotal_110 : decode cX3_bothTotal 110 = .ok (.putfield 60, 3) := by decide +kernel
theorem dX3_bothTotal_113 : decode cX3_bothTotal 113 = .ok (.aload_n 0, 1) := by decide +kernel
theorem dX3_bothTotal_114 : decode cX3_bothTotal 114 = .ok (.aload_n 0, 1) := by decide +kernel
theorem dX3_bothTotal_115 : decode cX3_bothTotal 115 = .ok (.getfield 50, 3) := by decide +kernel
theorem dX3_bothTotal_118 : decode cX3_bothTotal 118 = .ok (.iload_n 2, 1) := by decide +kernel
theorem dX3_bothTotal_119 : decode cX3_bothTotal 119 = .ok (.iaload, 1) := by decide +kernel
theorem dX3_bothTotal_120 : decode cX3_bothTotal 120 = .ok (.aload_n 0, 1) := by decide +kernel
theorem dX3_bothTotal_121 : decode cX3_bothTotal 121 = .ok (.getfield 50, 3) := by decide +kernel
theorem dX3_bothTotal_124 : decode cX3_bothTotal 124 = .ok (.iload_n 3, 1) := by decide +kernel
theorem dX3_bothTotal_125 : decode cX3_bothTotal 125 = .ok (.iaload, 1) := by decide +kernel
theorem dX3_bothTotal_126 : decode cX3_bothTotal 126 = .ok (.iadd, 1) := by decide +kernel
theorem dX3_bothTotal_127 : decode cX3_bothTotal 127 = .ok (.aload_n 0, 1) := by decide +kernel
theorem dX3_bothTotal_128 : decode cX3_bothTotal 128 = .ok (.getfield 35, 3) := by decide +kernel
theorem dX3_bothTotal_131 : decode cX3_bothTotal 131 = .ok (.aload_n 0, 1) := by decide +kernel
theorem dX3_bothTotal_132 : decode cX3_bothTotal 132 = .ok (.getfield 35, 3) := by decide +kernel
theorem dX3_bothTotal_135 : decode cX3_bothTotal 135 = .ok (.iconst 1, 1) := by decide +kernel
theorem dX3_bothTotal_136 : decode cX3_bothTotal 136 = .ok (.if_icmp .ne 7, 3) := by decide +kernel
theorem dX3_bothTotal_139 : decode cX3_bothTotal 139 = .ok (.iconst 1, 1) := by decide +kernel
theorem dX3_bothTotal_140 : decode cX3_bothTotal 140 = .ok (.goto 4, 3) := by decide +kernel
theorem dX3_bothTotal_143 : decode cX3_bothTotal 143 = .ok (.iconst 0, 1) := by decide +kernel
theorem dX3_bothTotal_144 : decode cX3_bothTotal 144 = .ok (.aload_n 0, 1) := by decide +kernel
theorem dX3_bothTotal_145 : decode cX3_bothTotal 145 = .ok (.getfield 21, 3) := by decide +kernel
theorem dX3_bothTotal_148 : decode cX3_bothTotal 148 = .ok (.getfield 92, 3) := by decide +kernel
theorem dX3_bothTotal_151 : decode cX3_bothTotal 151 = .ok (.invokevirtual 149, 3) := by decide +kernel
theorem dX3_bothTotal_154 : decode cX3_bothTotal 154 = .ok (.lreturn, 1) := by decide +kernel
theorem dX4_init_0 : decode cX4_init 0 = .ok (.aload_n 0, 1) := by decide +kernel
theorem dX4_init_1 : decode cX4_init 1 = .ok (.invokespecial 3, 3) := by decide +kernel
theorem dX4_init_4 : decode cX4_init 4 = .ok (.aload_n 0, 1) := by decide +kernel
theorem dX4_init_5 : decode cX4_init 5 = .ok (.bipush 7, 2) := by decide +kernel
theorem dX4_init_7 : decode cX4_init 7 = .ok (.newarray .int, 2) := by decide +kernel
theorem dX4_init_9 : decode cX4_init 9 = .ok (.dup, 1) := by decide +kernel
theorem dX4_init_10 : decode cX4_init 10 = .ok (.iconst 0, 1) := by decide +kernel
theorem dX4_init_11 : decode cX4_init 11 = .ok (.bipush 21, 2) := by decide +kernel
theorem dX4_init_13 : decode cX4_init 13 = .ok (.iastore, 1) := by decide +kernel
theorem dX4_init_14 : decode cX4_init 14 = .ok (.dup, 1) := by decide +kernel
theorem dX4_init_15 : decode cX4_init 15 = .ok (.iconst 1, 1) := by decide +kernel
theorem dX4_init_16 : decode cX4_init 16 = .ok (.bipush 17, 2) := by decide +kernel
theorem dX4_init_18 : decode cX4_init 18 = .ok (.iastore, 1) := by decide +kernel
theorem dX4_init_19 : decode cX4_init 19 = .ok (.dup, 1) := by decide +kernel
theorem dX4_init_20 : decode cX4_init 20 = .ok (.iconst 2, 1) := by decide +kernel
theorem dX4_init_21 : decode cX4_init 21 = .ok (.iconst 0, 1) := by decide +kernel
theorem dX4_init_22 : decode cX4_init 22 = .ok (.iastore, 1) := by decide +kernel
theorem dX4_init_23 : decode cX4_init 23 = .ok (.dup, 1) := by decide +kernel
theorem dX4_init_24 : decode cX4_init 24 = .ok (.iconst 3, 1) := by decide +kernel
theorem dX4_init_25 : decode cX4_init 25 = .ok (.iconst 1, 1) := by decide +kernel
theorem dX4_init_26 : decode cX4_init 26 = .ok (.iastore, 1) := by decide +kernel
theorem dX4_init_27 : decode cX4_init 27 = .ok (.dup, 1) := by decide +kernel
theorem dX4_init_28 : decode cX4_init 28 = .ok (.iconst 4, 1) := by decide +kernel
theorem dX4_init_29 : decode cX4_init 29 = .ok (.iconst 1, 1) := by decide +kernel
theorem dX4_init_30 : decode cX4_init 30 = .ok (.iastore, 1) := by decide +kernel
theorem dX4_init_31 : decode cX4_init 31 = .ok (.dup, 1) := by decide +kernel
theorem dX4_init_32 : decode cX4_init 32 = .ok (.iconst 5, 1) := by decide +kernel
theorem dX4_init_33 : decode cX4_init 33 = .ok (.iconst 1, 1) := by decide +kernel
theorem dX4_init_34 : decode cX4_init 34 = .ok (.iastore, 1) := by decide +kernel
theorem dX4_init_35 : decode cX4_init 35 = .ok (.dup, 1) := by decide +kernel
theorem dX4_init_36 : decode cX4_init 36 = .ok (.bipush 6, 2) := by decide +kernel
theorem dX4_init_38 : decode cX4_init 38 = .ok (.iconst 3, 1) := by decide +kernel
theorem dX4_init_39 : decode cX4_init 39 = .ok (.iastore, 1) := by decide +kernel
theorem dX4_init_40 : decode cX4_init 40 = .ok (.putfield 9, 3) := by decide +kernel
theorem dX4_init_43 : decode cX4_init 43 = .ok (.return_, 1) := by decide +kernel
theorem dX4_allows_0 : decode cX4_allows 0 = .ok (.iload_n 1, 1) := by decide +kernel
theorem dX4_allows_1 : decode cX4_allows 1 = .ok (.ifCond .lt 27, 3) := by decide +kernel
theorem dX4_allows_4 : decode cX4_allows 4 = .ok (.iload_n 1, 1) := by decide +kernel
theorem dX4_allows_5 : decode cX4_allows 5 = .ok (.bipush 6, 2) := by decide +kernel
theorem dX4_allows_7 : decode cX4_allows 7 = .ok (.if_icmp .gt 21, 3) := by decide +kernel
theorem dX4_allows_10 : decode cX4_allows 10 = .ok (.iload_n 2, 1) := by decide +kernel
theorem dX4_allows_11 : decode cX4_allows 11 = .ok (.getstatic 15, 3) := by decide +kernel
theorem dX4_allows_14 : decode cX4_allows 14 = .ok (.iload_n 1, 1) := by decide +kernel
theorem dX4_allows_15 : decode cX4_allows 15 = .ok (.iaload, 1) := by decide +kernel
theorem dX4_allows_16 : decode cX4_allows 16 = .ok (.if_icmp .lt 12, 3) := by decide +kernel
theorem dX4_allows_19 : decode cX4_allows 19 = .ok (.iload_n 2, 1) := by decide +kernel
theorem dX4_allows_20 : decode cX4_allows 20 = .ok (.getstatic 18, 3) := by decide +kernel
theorem dX4_allows_23 : decode cX4_allows 23 = .ok (.iload_n 1, 1) := by decide +kernel
theorem dX4_allows_24 : decode cX4_allows 24 = .ok (.iaload, 1) := by decide +kernel
theorem dX4_allows_25 : decode cX4_allows 25 = .ok (.if_icmp .le 5, 3) := by decide +kernel
theorem dX4_allows_28 : decode cX4_allows 28 = .ok (.iconst 0, 1) := by decide +kernel
theorem dX4_allows_29 : decode cX4_allows 29 = .ok (.ireturn, 1) := by decide +kernel
theorem dX4_allows_30 : decode cX4_allows 30 = .ok (.iload_n 1, 1) := by decide +kernel
theorem dX4_allows_31 : decode cX4_allows 31 = .ok (.ifCond .ne 19, 3) := by decide +kernel
theorem dX4_allows_34 : decode cX4_allows 34 = .ok (.iload_n 2, 1) := by decide +kernel
theorem dX4_allows_35 : decode cX4_allows 35 = .ok (.aload_n 0, 1) := by decide +kernel
theorem dX4_allows_36 : decode cX4_allows 36 = .ok (.getfield 9, 3) := by decide +kernel
theorem dX4_allows_39 : decode cX4_allows 39 = .ok (.iconst 1, 1) := by decide +kernel
theorem dX4_allows_40 : decode cX4_allows 40 = .ok (.iaload, 1) := by decide +kernel
theorem dX4_allows_41 : decode cX4_allows 41 = .ok (.if_icmp .lt 7, 3) := by decide +kernel
theorem dX4_allows_44 : decode cX4_allows 44 = .ok (.iconst 1, 1) := by decide +kernel
theorem dX4_allows_45 : decode cX4_allows 45 = .ok (.goto 4, 3) := by decide +kernel
theorem dX4_allows_48 : decode cX4_allows 48 = .ok (.iconst 0, 1) := by decide +kernel
theorem dX4_allows_49 : decode cX4_allows 49 = .ok (.ireturn, 1) := by decide +kernel
theorem dX4_allows_50 : decode cX4_allows 50 = .ok (.iload_n 1, 1) := by decide +kernel
theorem dX4_allows_51 : decode cX4_allows 51 = .ok (.iconst 1, 1) := by decide +kernel
theorem dX4_allows_52 : decode cX4_allows 52 = .ok (.if_icmp .ne 13, 3) := by decide +kernel
theorem dX4_allows_55 : decode cX4_allows 55 = .ok (.iload_n 2, 1) := by decide +kernel
theorem dX4_allows_56 : decode cX4_allows 56 = .ok (.aload_n 0, 1) := by decide +kernel
theorem dX4_allows_57 : decode cX4_allows 57 = .ok (.getfield 9, 3) := by decide +kernel
theorem dX4_allows_60 : decode cX4_allows 60 = .ok (.iconst 0, 1) := by decide +kernel
theorem dX4_allows_61 : decode cX4_allows 61 = .ok (.iaload, 1) := by decide +kernel
theorem dX4_allows_62 : decode cX4_allows 62 = .ok (.if_icmp .gt 7, 3) := by decide +kernel
theorem dX4_allows_65 : decode cX4_allows 65 = .ok (.iconst 1, 1) := by decide +kernel
theorem dX4_allows_66 : decode cX4_allows 66 = .ok (.goto 4, 3) := by decide +kernel
theorem dX4_allows_69 : decode cX4_allows 69 = .ok (.iconst 0, 1) := by decide +kernel
theorem dX4_allows_70 : decode cX4_allows 70 = .ok (.ireturn, 1) := by decide +kernel
theorem dX4_change_0 : decode cX4_change 0 = .ok (.aload_n 0, 1) := by decide +kernel
theorem dX4_change_1 : decode cX4_change 1 = .ok (.iload_n 1, 1) := by decide +kernel
theorem dX4_change_2 : decode cX4_change 2 = .ok (.iload_n 2, 1) := by decide +kernel
theorem dX4_change_3 : decode cX4_change 3 = .ok (.invokevirtual 21, 3) := by decide +kernel
theorem dX4_change_6 : decode cX4_change 6 = .ok (.ifCond .ne 7, 3) := by decide +kernel
theorem dX4_change_9 : decode cX4_change 9 = .ok (.sipush (-1001), 3) := by decide +kernel
theorem dX4_change_12 : decode cX4_change 12 = .ok (.ireturn, 1) := by decide +kernel
theorem dX4_change_13 : decode cX4_change 13 = .ok (.aload_n 0, 1) := by decide +kernel
theorem dX4_change_14 : decode cX4_change 14 = .ok (.getfield 9, 3) := by decide +kernel
theorem dX4_change_17 : decode cX4_change 17 = .ok (.iload_n 1, 1) := by decide +kernel
theorem dX4_change_18 : decode cX4_change 18 = .ok (.iaload, 1) := by decide +kernel
theorem dX4_change_19 : decode cX4_change 19 = .ok (.istore_n 3, 1) := by decide +kernel
theorem dX4_change_20 : decode cX4_change 20 = .ok (.aload_n 0, 1) := by decide +kernel
theorem dX4_change_21 : decode cX4_change 21 = .ok (.getfield 9, 3) := by decide +kernel
theorem dX4_change_24 : decode cX4_change 24 = .ok (.iload_n 1, 1) := by decide +kernel
theorem dX4_change_25 : decode cX4_change 25 = .ok (.iload_n 2, 1) := by decide +kernel
theorem dX4_change_26 : decode cX4_change 26 = .ok (.iastore, 1) := by decide +kernel
theorem dX4_change_27 : decode cX4_change 27 = .ok (.iload_n 3, 1) := by decide +kernel
theorem dX4_change_28 : decode cX4_change 28 = .ok (.ireturn, 1) := by decide +kernel
theorem dX4_copy_0 : decode cX4_copy 0 = .ok (.aload_n 1, 1) := by decide +kernel
theorem dX4_copy_1 : decode cX4_copy 1 = .ok (.getfield 9, 3) := by decide +kernel
theorem dX4_copy_4 : decode cX4_copy 4 = .ok (.iconst 0, 1) := by decide +kernel
theorem dX4_copy_5 : decode cX4_copy 5 = .ok (.aload_n 0, 1) := by decide +kernel
theorem dX4_copy_6 : decode cX4_copy 6 = .ok (.getfield 9, 3) := by decide +kernel
theorem dX4_copy_9 : decode cX4_copy 9 = .ok (.iconst 0, 1) := by decide +kernel
theorem dX4_copy_10 : decode cX4_copy 10 = .ok (.aload_n 0, 1) := by decide +kernel
theorem dX4_copy_11 : decode cX4_copy 11 = .ok (.getfield 9, 3) := by decide +kernel
theorem dX4_copy_14 : decode cX4_copy 14 = .ok (.arraylength, 1) := by decide +kernel
theorem dX4_copy_15 : decode cX4_copy 15 = .ok (.invokestatic 25, 3) := by decide +kernel
theorem dX4_copy_18 : decode cX4_copy 18 = .ok (.return_, 1) := by decide +kernel
theorem dX4_doubles_0 : decode cX4_doubles 0 = .ok (.aload_n 0, 1) := by decide +kernel
theorem dX4_doubles_1 : decode cX4_doubles 1 = .ok (.getfield 9, 3) := by decide +kernel
theorem dX4_doubles_4 : decode cX4_doubles 4 = .ok (.iconst 3, 1) := by decide +kernel
theorem dX4_doubles_5 : decode cX4_doubles 5 = .ok (.iaload, 1) := by decide +kernel
theorem dX4_doubles_6 : decode cX4_doubles 6 = .ok (.iconst 1, 1) := by decide +kernel
theorem dX4_doubles_7 : decode cX4_doubles 7 = .ok (.if_icmp .ne 7, 3) := by decide +kernel
theorem dX4_doubles_10 : decode cX4_doubles 10 = .ok (.iconst 1, 1) := by decide +kernel
theorem dX4_doubles_11 : decode cX4_doubles 11 = .ok (.goto 4, 3) := by decide +kernel
theorem dX4_doubles_14 : decode cX4_doubles 14 = .ok (.iconst 0, 1) := by decide +kernel
theorem dX4_doubles_15 : decode cX4_doubles 15 = .ok (.ireturn, 1) := by decide +kernel
theorem dX4_splits_0 : decode cX4_splits 0 = .ok (.aload_n 0, 1) := by decide +kernel
theorem dX4_splits_1 : decode cX4_splits 1 = .ok (.getfield 9, 3) := by decide +kernel
theorem dX4_splits_4 : decode cX4_splits 4 = .ok (.iconst 4, 1) := by decide +kernel
theorem dX4_splits_5 : decode cX4_splits 5 = .ok (.iaload, 1) := by decide +kernel
theorem dX4_splits_6 : decode cX4_splits 6 = .ok (.iconst 1, 1) := by decide +kernel
theorem dX4_splits_7 : decode cX4_splits 7 = .ok (.if_icmp .ne 7, 3) := by decide +kernel
theorem dX4_splits_10 : decode cX4_splits 10 = .ok (.iconst 1, 1) := by decide +kernel
theorem dX4_splits_11 : decode cX4_splits 11 = .ok (.goto 4, 3) := by decide +kernel
theorem dX4_splits_14 : decode cX4_splits 14 = .ok (.iconst 0, 1) := by decide +kernel
theorem dX4_splits_15 : decode cX4_splits 15 = .ok (.ireturn, 1) := by decide +kernel
theorem dX4_gives_0 : decode cX4_gives 0 = .ok (.aload_n 0, 1) := by decide +kernel
theorem dX4_gives_1 : decode cX4_gives 1 = .ok (.getfield 9, 3) := by decide +kernel
theorem dX4_gives_4 : decode cX4_gives 4 = .ok (.iconst 5, 1) := by decide +kernel
theorem dX4_gives_5 : decode cX4_gives 5 = .ok (.iaload, 1) := by decide +kernel
theorem dX4_gives_6 : decode cX4_gives 6 = .ok (.iconst 1, 1) := by decide +kernel
theorem dX4_gives_7 : decode cX4_gives 7 = .ok (.if_icmp .ne 7, 3) := by decide +kernel
theorem dX4_gives_10 : decode cX4_gives 10 = .ok (.iconst 1, 1) := by decide +kernel
theorem dX4_gives_11 : decode cX4_gives 11 = .ok (.goto 4, 3) := by decide +kernel
theorem dX4_gives_14 : decode cX4_gives 14 = .ok (.iconst 0, 1) := by decide +kernel
theorem dX4_gives_15 : decode cX4_gives 15 = .ok (.ireturn, 1) := by decide +kernel
theorem dX4_isSoft_0 : decode cX4_isSoft 0 = .ok (.iload_n 2, 1) := by decide +kernel
theorem dX4_isSoft_1 : decode cX4_isSoft 1 = .ok (.ifCond .eq 20, 3) := by decide +kernel
theorem dX4_isSoft_4 : decode cX4_isSoft 4 = .ok (.iload_n 1, 1) := by decide +kernel
theorem dX4_isSoft_5 : decode cX4_isSoft 5 = .ok (.bipush 10, 2) := by decide +kernel
theorem dX4_isSoft_7 : decode cX4_isSoft 7 = .ok (.iadd, 1) := by decide +kernel
theorem dX4_isSoft_8 : decode cX4_isSoft 8 = .ok (.aload_n 0, 1) := by decide +kernel
theorem dX4_isSoft_9 : decode cX4_isSoft 9 = .ok (.getfield 9, 3) := by decide +kernel
theorem dX4_isSoft_12 : decode cX4_isSoft 12 = .ok (.iconst 0, 1) := by decide +kernel
theorem dX4_isSoft_13 : decode cX4_isSoft 13 = .ok (.iaload, 1) := by decide +kernel
theorem dX4_isSoft_14 : decode cX4_isSoft 14 = .ok (.if_icmp .gt 7, 3) := by decide +kernel
theorem dX4_isSoft_17 : decode cX4_isSoft 17 = .ok (.iconst 1, 1) := by decide +kernel
theorem dX4_isSoft_18 : decode cX4_isSoft 18 = .ok (.goto 4, 3) := by decide +kernel
theorem dX4_isSoft_21 : decode cX4_isSoft 21 = .ok (.iconst 0, 1) := by decide +kernel
theorem dX4_isSoft_22 : decode cX4_isSoft 22 = .ok (.ireturn, 1) := by decide +kernel
theorem dX4_value_0 : decode cX4_value 0 = .ok (.iload_n 2, 1) := by decide +kernel
theorem dX4_value_1 : decode cX4_value 1 = .ok (.ifCond .eq 23, 3) := by decide +kernel
theorem dX4_value_4 : decode cX4_value 4 = .ok (.iload_n 1, 1) := by decide +kernel
theorem dX4_value_5 : decode cX4_value 5 = .ok (.bipush 10, 2) := by decide +kernel
theorem dX4_value_7 : decode cX4_value 7 = .ok (.iadd, 1) := by decide +kernel
theorem dX4_value_8 : decode cX4_value 8 = .ok (.aload_n 0, 1) := by decide +kernel
theorem dX4_value_9 : decode cX4_value 9 = .ok (.getfield 9, 3) := by decide +kernel
theorem dX4_value_12 : decode cX4_value 12 = .ok (.iconst 0, 1) := by decide +kernel
theorem dX4_value_13 : decode cX4_value 13 = .ok (.iaload, 1) := by decide +kernel
theorem dX4_value_14 : decode cX4_value 14 = .ok (.if_icmp .gt 10, 3) := by decide +kernel
theorem dX4_value_17 : decode cX4_value 17 = .ok (.iload_n 1, 1) := by decide +kernel
theorem dX4_value_18 : decode cX4_value 18 = .ok (.bipush 10, 2) := by decide +kernel
theorem dX4_value_20 : decode cX4_value 20 = .ok (.iadd, 1) := by decide +kernel
theorem dX4_value_21 : decode cX4_value 21 = .ok (.goto 4, 3) := by decide +kernel
theorem dX4_value_24 : decode cX4_value 24 = .ok (.iload_n 1, 1) := by decide +kernel
theorem dX4_value_25 : decode cX4_value 25 = .ok (.ireturn, 1) := by decide +kernel
theorem dX4_isBust_0 : decode cX4_isBust 0 = .ok (.iload_n 1, 1) := by decide +kernel
theorem dX4_isBust_1 : decode cX4_isBust 1 = .ok (.aload_n 0, 1) := by decide +kernel
theorem dX4_isBust_2 : decode cX4_isBust 2 = .ok (.getfield 9, 3) := by decide +kernel
theorem dX4_isBust_5 : decode cX4_isBust 5 = .ok (.iconst 0, 1) := by decide +kernel
theorem dX4_isBust_6 : decode cX4_isBust 6 = .ok (.iaload, 1) := by decide +kernel
theorem dX4_isBust_7 : decode cX4_isBust 7 = .ok (.if_icmp .le 7, 3) := by decide +kernel
theorem dX4_isBust_10 : decode cX4_isBust 10 = .ok (.iconst 1, 1) := by decide +kernel
theorem dX4_isBust_11 : decode cX4_isBust 11 = .ok (.goto 4, 3) := by decide +kernel
theorem dX4_isBust_14 : decode cX4_isBust 14 = .ok (.iconst 0, 1) := by decide +kernel
theorem dX4_isBust_15 : decode cX4_isBust 15 = .ok (.ireturn, 1) := by decide +kernel
theorem dX4_isNatural_0 : decode cX4_isNatural 0 = .ok (.iload_n 2, 1) := by decide +kernel
theorem dX4_isNatural_1 : decode cX4_isNatural 1 = .ok (.iconst 2, 1) := by decide +kernel
theorem dX4_isNatural_2 : decode cX4_isNatural 2 = .ok (.if_icmp .ne 17, 3) := by decide +kernel
theorem dX4_isNatural_5 : decode cX4_isNatural 5 = .ok (.iload_n 1, 1) := by decide +kernel
theorem dX4_isNatural_6 : decode cX4_isNatural 6 = .ok (.aload_n 0, 1) := by decide +kernel
theorem dX4_isNatural_7 : decode cX4_isNatural 7 = .ok (.getfield 9, 3) := by decide +kernel
theorem dX4_isNatural_10 : decode cX4_isNatural 10 = .ok (.iconst 0, 1) := by decide +kernel
theorem dX4_isNatural_11 : decode cX4_isNatural 11 = .ok (.iaload, 1) := by decide +kernel
theorem dX4_isNatural_12 : decode cX4_isNatural 12 = .ok (.if_icmp .ne 7, 3) := by decide +kernel
theorem dX4_isNatural_15 : decode cX4_isNatural 15 = .ok (.iconst 1, 1) := by decide +kernel
theorem dX4_isNatural_16 : decode cX4_isNatural 16 = .ok (.goto 4, 3) := by decide +kernel
theorem dX4_isNatural_19 : decode cX4_isNatural 19 = .ok (.iconst 0, 1) := by decide +kernel
theorem dX4_isNatural_20 : decode cX4_isNatural 20 = .ok (.ireturn, 1) := by decide +kernel
theorem dX4_goesOn_0 : decode cX4_goesOn 0 = .ok (.iload_n 1, 1) := by decide +kernel
theorem dX4_goesOn_1 : decode cX4_goesOn 1 = .ok (.aload_n 0, 1) := by decide +kernel
theorem dX4_goesOn_2 : decode cX4_goesOn 2 = .ok (.getfield 9, 3) := by decide +kernel
theorem dX4_goesOn_5 : decode cX4_goesOn 5 = .ok (.iconst 1, 1) := by decide +kernel
theorem dX4_goesOn_6 : decode cX4_goesOn 6 = .ok (.iaload, 1) := by decide +kernel
theorem dX4_goesOn_7 : decode cX4_goesOn 7 = .ok (.if_icmp .lt 27, 3) := by decide +kernel
theorem dX4_goesOn_10 : decode cX4_goesOn 10 = .ok (.iload_n 1, 1) := by decide +kernel
theorem dX4_goesOn_11 : decode cX4_goesOn 11 = .ok (.aload_n 0, 1) := by decide +kernel
theorem dX4_goesOn_12 : decode cX4_goesOn 12 = .ok (.getfield 9, 3) := by decide +kernel
theorem dX4_goesOn_15 : decode cX4_goesOn 15 = .ok (.iconst 1, 1) := by decide +kernel
theorem dX4_goesOn_16 : decode cX4_goesOn 16 = .ok (.iaload, 1) := by decide +kernel
theorem dX4_goesOn_17 : decode cX4_goesOn 17 = .ok (.if_icmp .ne 21, 3) := by decide +kernel
theorem dX4_goesOn_20 : decode cX4_goesOn 20 = .ok (.iload_n 2, 1) := by decide +kernel
theorem dX4_goesOn_21 : decode cX4_goesOn 21 = .ok (.ifCond .eq 17, 3) := by decide +kernel
theorem dX4_goesOn_24 : decode cX4_goesOn 24 = .ok (.aload_n 0, 1) := by decide +kernel
theorem dX4_goesOn_25 : decode cX4_goesOn 25 = .ok (.getfield 9, 3) := by decide +kernel
theorem dX4_goesOn_28 : decode cX4_goesOn 28 = .ok (.iconst 2, 1) := by decide +kernel
theorem dX4_goesOn_29 : decode cX4_goesOn 29 = .ok (.iaload, 1) := by decide +kernel
theorem dX4_goesOn_30 : decode cX4_goesOn 30 = .ok (.iconst 1, 1) := by decide +kernel
theorem dX4_goesOn_31 : decode cX4_goesOn 31 = .ok (.if_icmp .ne 7, 3) := by decide +kernel
theorem dX4_goesOn_34 : decode cX4_goesOn 34 = .ok (.iconst 1, 1) := by decide +kernel
theorem dX4_goesOn_35 : decode cX4_goesOn 35 = .ok (.goto 4, 3) := by decide +kernel
theorem dX4_goesOn_38 : decode cX4_goesOn 38 = .ok (.iconst 0, 1) := by decide +kernel
theorem dX4_goesOn_39 : decode cX4_goesOn 39 = .ok (.ireturn, 1) := by decide +kernel
theorem dX4_end_0 : decode cX4_end 0 = .ok (.iload_n 1, 1) := by decide +kernel
theorem dX4_end_1 : decode cX4_end 1 = .ok (.aload_n 0, 1) := by decide +kernel
theorem dX4_end_2 : decode cX4_end 2 = .ok (.getfield 9, 3) := by decide +kernel
theorem dX4_end_5 : decode cX4_end 5 = .ok (.iconst 0, 1) := by decide +kernel
theorem dX4_end_6 : decode cX4_end 6 = .ok (.iaload, 1) := by decide +kernel
theorem dX4_end_7 : decode cX4_end 7 = .ok (.if_icmp .le 7, 3) := by decide +kernel
theorem dX4_end_10 : decode cX4_end 10 = .ok (.iconst 0, 1) := by decide +kernel
theorem dX4_end_11 : decode cX4_end 11 = .ok (.goto 4, 3) := by decide +kernel
theorem dX4_end_14 : decode cX4_end 14 = .ok (.iload_n 1, 1) := by decide +kernel
theorem dX4_end_15 : decode cX4_end 15 = .ok (.ireturn, 1) := by decide +kernel
theorem dX4_settled_0 : decode cX4_settled 0 = .ok (.iload_n 1, 1) := by decide +kernel
theorem dX4_settled_1 : decode cX4_settled 1 = .ok (.aload_n 0, 1) := by decide +kernel
theorem dX4_settled_2 : decode cX4_settled 2 = .ok (.getfield 9, 3) := by decide +kernel
theorem dX4_settled_5 : decode cX4_settled 5 = .ok (.iconst 0, 1) := by decide +kernel
theorem dX4_settled_6 : decode cX4_settled 6 = .ok (.iaload, 1) := by decide +kernel
theorem dX4_settled_7 : decode cX4_settled 7 = .ok (.if_icmp .gt 8, 3) := by decide +kernel
theorem dX4_settled_10 : decode cX4_settled 10 = .ok (.iload_n 3, 1) := by decide +kernel
theorem dX4_settled_11 : decode cX4_settled 11 = .ok (.iload_n 1, 1) := by decide +kernel
theorem dX4_settled_12 : decode cX4_settled 12 = .ok (.if_icmp .le 6, 3) := by decide +kernel
theorem dX4_settled_15 : decode cX4_settled 15 = .ok (.bipush (-2), 2) := by decide +kernel
theorem dX4_settled_17 : decode cX4_settled 17 = .ok (.ireturn, 1) := by decide +kernel
theorem dX4_settled_18 : decode cX4_settled 18 = .ok (.iload_n 3, 1) := by decide +kernel
theorem dX4_settled_19 : decode cX4_settled 19 = .ok (.iload_n 1, 1) := by decide +kernel
theorem dX4_settled_20 : decode cX4_settled 20 = .ok (.if_icmp .ne 5, 3) := by decide +kernel
theorem dX4_settled_23 : decode cX4_settled 23 = .ok (.iconst 0, 1) := by decide +kernel
theorem dX4_settled_24 : decode cX4_settled 24 = .ok (.ireturn, 1) := by decide +kernel
theorem dX4_settled_25 : decode cX4_settled 25 = .ok (.iload_n 2, 1) := by decide +kernel
theorem dX4_settled_26 : decode cX4_settled 26 = .ok (.ifCond .eq 13, 3) := by decide +kernel
theorem dX4_settled_29 : decode cX4_settled 29 = .ok (.aload_n 0, 1) := by decide +kernel
theorem dX4_settled_30 : decode cX4_settled 30 = .ok (.getfield 9, 3) := by decide +kernel
theorem dX4_settled_33 : decode cX4_settled 33 = .ok (.bipush 6, 2) := by decide +kernel
theorem dX4_settled_35 : decode cX4_settled 35 = .ok (.iaload, 1) := by decide +kernel
theorem dX4_settled_36 : decode cX4_settled 36 = .ok (.goto 4, 3) := by decide +kernel
theorem dX4_settled_39 : decode cX4_settled 39 = .ok (.iconst 2, 1) := by decide +kernel
theorem dX4_settled_40 : decode cX4_settled 40 = .ok (.ireturn, 1) := by decide +kernel
theorem dX5_init_0 : decode cX5_init 0 = .ok (.aload_n 0, 1) := by decide +kernel
theorem dX5_init_1 : decode cX5_init 1 = .ok (.invokespecial 1, 3) := by decide +kernel
theorem dX5_init_4 : decode cX5_init 4 = .ok (.aload_n 0, 1) := by decide +kernel
theorem dX5_init_5 : decode cX5_init 5 = .ok (.new 7, 3) := by decide +kernel
theorem dX5_init_8 : decode cX5_init 8 = .ok (.dup, 1) := by decide +kernel
theorem dX5_init_9 : decode cX5_init 9 = .ok (.invokespecial 9, 3) := by decide +kernel
theorem dX5_init_12 : decode cX5_init 12 = .ok (.putfield 10, 3) := by decide +kernel
theorem dX5_init_15 : decode cX5_init 15 = .ok (.aload_n 0, 1) := by decide +kernel
theorem dX5_init_16 : decode cX5_init 16 = .ok (.new 16, 3) := by decide +kernel
theorem dX5_init_19 : decode cX5_init 19 = .ok (.dup, 1) := by decide +kernel
theorem dX5_init_20 : decode cX5_init 20 = .ok (.invokespecial 18, 3) := by decide +kernel
theorem dX5_init_23 : decode cX5_init 23 = .ok (.putfield 19, 3) := by decide +kernel
theorem dX5_init_26 : decode cX5_init 26 = .ok (.aload_n 0, 1) := by decide +kernel
theorem dX5_init_27 : decode cX5_init 27 = .ok (.new 16, 3) := by decide +kernel
theorem dX5_init_30 : decode cX5_init 30 = .ok (.dup, 1) := by decide +kernel
theorem dX5_init_31 : decode cX5_init 31 = .ok (.invokespecial 18, 3) := by decide +kernel
theorem dX5_init_34 : decode cX5_init 34 = .ok (.putfield 23, 3) := by decide +kernel
theorem dX5_init_37 : decode cX5_init 37 = .ok (.aload_n 0, 1) := by decide +kernel
theorem dX5_init_38 : decode cX5_init 38 = .ok (.new 16, 3) := by decide +kernel
theorem dX5_init_41 : decode cX5_init 41 = .ok (.dup, 1) := by decide +kernel
theorem dX5_init_42 : decode cX5_init 42 = .ok (.invokespecial 18, 3) := by decide +kernel
theorem dX5_init_45 : decode cX5_init 45 = .ok (.putfield 26, 3) := by decide +kernel
theorem dX5_init_48 : decode cX5_init 48 = .ok (.aload_n 0, 1) := by decide +kernel
theorem dX5_init_49 : decode cX5_init 49 = .ok (.new 29, 3) := by decide +kernel
theorem dX5_init_52 : decode cX5_init 52 = .ok (.dup, 1) := by decide +kernel
theorem dX5_init_53 : decode cX5_init 53 = .ok (.invokespecial 31, 3) := by decide +kernel
theorem dX5_init_56 : decode cX5_init 56 = .ok (.putfield 32, 3) := by decide +kernel
theorem dX5_init_59 : decode cX5_init 59 = .ok (.aload_n 0, 1) := by decide +kernel
theorem dX5_init_60 : decode cX5_init 60 = .ok (.bipush 11, 2) := by decide +kernel
theorem dX5_init_62 : decode cX5_init 62 = .ok (.newarray .int, 2) := by decide +kernel
theorem dX5_init_64 : decode cX5_init 64 = .ok (.putfield 36, 3) := by decide +kernel
theorem dX5_init_67 : decode cX5_init 67 = .ok (.aload_n 0, 1) := by decide +kernel
theorem dX5_init_68 : decode cX5_init 68 = .ok (.new 40, 3) := by decide +kernel
theorem dX5_init_71 : decode cX5_init 71 = .ok (.dup, 1) := by decide +kernel
theorem dX5_init_72 : decode cX5_init 72 = .ok (.invokespecial 42, 3) := by decide +kernel
theorem dX5_init_75 : decode cX5_init 75 = .ok (.putfield 43, 3) := by decide +kernel
theorem dX5_init_78 : decode cX5_init 78 = .ok (.aload_n 0, 1) := by decide +kernel
theorem dX5_init_79 : decode cX5_init 79 = .ok (.new 47, 3) := by decide +kernel
theorem dX5_init_82 : decode cX5_init 82 = .ok (.dup, 1) := by decide +kernel
theorem dX5_init_83 : decode cX5_init 83 = .ok (.invokespecial 49, 3) := by decide +kernel
theorem dX5_init_86 : decode cX5_init 86 = .ok (.putfield 50, 3) := by decide +kernel
theorem dX5_init_89 : decode cX5_init 89 = .ok (.aload_n 0, 1) := by decide +kernel
theorem dX5_init_90 : decode cX5_init 90 = .ok (.iconst (-1), 1) := by decide +kernel
theorem dX5_init_91 : decode cX5_init 91 = .ok (.putfield 54, 3) := by decide +kernel
theorem dX5_init_94 : decode cX5_init 94 = .ok (.aload_n 0, 1) := by decide +kernel
theorem dX5_init_95 : decode cX5_init 95 = .ok (.iconst 0, 1) := by decide +kernel
theorem dX5_init_96 : decode cX5_init 96 = .ok (.putfield 58, 3) := by decide +kernel
theorem dX5_init_99 : decode cX5_init 99 = .ok (.aload_n 0, 1) := by decide +kernel
theorem dX5_init_100 : decode cX5_init 100 = .ok (.lconst 1, 1) := by decide +kernel
theorem dX5_init_101 : decode cX5_init 101 = .ok (.putfield 61, 3) := by decide +kernel
theorem dX5_init_104 : decode cX5_init 104 = .ok (.aload_n 0, 1) := by decide +kernel
theorem dX5_init_105 : decode cX5_init 105 = .ok (.iconst 0, 1) := by decide +kernel
theorem dX5_init_106 : decode cX5_init 106 = .ok (.putfield 65, 3) := by decide +kernel
theorem dX5_init_109 : decode cX5_init 109 = .ok (.return_, 1) := by decide +kernel
theorem dX5_shoe_0 : decode cX5_shoe 0 = .ok (.iload_n 1, 1) := by decide +kernel
theorem dX5_shoe_1 : decode cX5_shoe 1 = .ok (.invokestatic 69, 3) := by decide +kernel
theorem dX5_shoe_4 : decode cX5_shoe 4 = .ok (.ifCond .eq 13, 3) := by decide +kernel
theorem dX5_shoe_7 : decode cX5_shoe 7 = .ok (.iload_n 2, 1) := by decide +kernel
theorem dX5_shoe_8 : decode cX5_shoe 8 = .ok (.ifCond .lt 9, 3) := by decide +kernel
theorem dX5_shoe_11 : decode cX5_shoe 11 = .ok (.iload_n 2, 1) := by decide +kernel
theorem dX5_shoe_12 : decode cX5_shoe 12 = .ok (.bipush 32, 2) := by decide +kernel
theorem dX5_shoe_14 : decode cX5_shoe 14 = .ok (.if_icmp .le 7, 3) := by decide +kernel
theorem dX5_shoe_17 : decode cX5_shoe 17 = .ok (.sipush (-1001), 3) := by decide +kernel
theorem dX5_shoe_20 : decode cX5_shoe 20 = .ok (.ireturn, 1) := by decide +kernel
theorem dX5_shoe_21 : decode cX5_shoe 21 = .ok (.aload_n 0, 1) := by decide +kernel
theorem dX5_shoe_22 : decode cX5_shoe 22 = .ok (.getfield 19, 3) := by decide +kernel
theorem dX5_shoe_25 : decode cX5_shoe 25 = .ok (.iload_n 1, 1) := by decide +kernel
theorem dX5_shoe_26 : decode cX5_shoe 26 = .ok (.invokevirtual 73, 3) := by decide +kernel
theorem dX5_shoe_29 : decode cX5_shoe 29 = .ok (.istore_n 3, 1) := by decide +kernel
theorem dX5_shoe_30 : decode cX5_shoe 30 = .ok (.aload_n 0, 1) := by decide +kernel
theorem dX5_shoe_31 : decode cX5_shoe 31 = .ok (.getfield 19, 3) := by decide +kernel
theorem dX5_shoe_34 : decode cX5_shoe 34 = .ok (.iload_n 1, 1) := by decide +kernel
theorem dX5_shoe_35 : decode cX5_shoe 35 = .ok (.iload_n 2, 1) := by decide +kernel
theorem dX5_shoe_36 : decode cX5_shoe 36 = .ok (.invokevirtual 77, 3) := by decide +kernel
theorem dX5_shoe_39 : decode cX5_shoe 39 = .ok (.aload_n 0, 1) := by decide +kernel
theorem dX5_shoe_40 : decode cX5_shoe 40 = .ok (.iconst 1, 1) := by decide +kernel
theorem dX5_shoe_41 : decode cX5_shoe 41 = .ok (.putfield 65, 3) := by decide +kernel
theorem dX5_shoe_44 : decode cX5_shoe 44 = .ok (.iload_n 3, 1) := by decide +kernel
theorem dX5_shoe_45 : decode cX5_shoe 45 = .ok (.ireturn, 1) := by decide +kernel
theorem dX5_fresh_0 : decode cX5_fresh 0 = .ok (.aload_n 0, 1) := by decide +kernel
theorem dX5_fresh_1 : decode cX5_fresh 1 = .ok (.getfield 23, 3) := by decide +kernel
theorem dX5_fresh_4 : decode cX5_fresh 4 = .ok (.invokevirtual 81, 3) := by decide +kernel
theorem dX5_fresh_7 : decode cX5_fresh 7 = .ok (.aload_n 0, 1) := by decide +kernel
theorem dX5_fresh_8 : decode cX5_fresh 8 = .ok (.getfield 26, 3) := by decide +kernel
theorem dX5_fresh_11 : decode cX5_fresh 11 = .ok (.aload_n 0, 1) := by decide +kernel
theorem dX5_fresh_12 : decode cX5_fresh 12 = .ok (.getfield 19, 3) := by decide +kernel
theorem dX5_fresh_15 : decode cX5_fresh 15 = .ok (.invokevirtual 84, 3) := by decide +kernel
theorem dX5_fresh_18 : decode cX5_fresh 18 = .ok (.aload_n 0, 1) := by decide +kernel
theorem dX5_fresh_19 : decode cX5_fresh 19 = .ok (.iconst 0, 1) := by decide +kernel
theorem dX5_fresh_20 : decode cX5_fresh 20 = .ok (.putfield 65, 3) := by decide +kernel
theorem dX5_fresh_23 : decode cX5_fresh 23 = .ok (.aload_n 0, 1) := by decide +kernel
theorem dX5_fresh_24 : decode cX5_fresh 24 = .ok (.invokevirtual 88, 3) := by decide +kernel
theorem dX5_fresh_27 : decode cX5_fresh 27 = .ok (.aload_n 0, 1) := by decide +kernel
theorem dX5_fresh_28 : decode cX5_fresh 28 = .ok (.getfield 19, 3) := by decide +kernel
theorem dX5_fresh_31 : decode cX5_fresh 31 = .ok (.getfield 91, 3) := by decide +kernel
theorem dX5_fresh_34 : decode cX5_fresh 34 = .ok (.ireturn, 1) := by decide +kernel
theorem dX5_rule_0 : decode cX5_rule 0 = .ok (.aload_n 0, 1) := by decide +kernel
theorem dX5_rule_1 : decode cX5_rule 1 = .ok (.getfield 10, 3) := by decide +kernel
theorem dX5_rule_4 : decode cX5_rule 4 = .ok (.iload_n 1, 1) := by decide +kernel
theorem dX5_rule_5 : decode cX5_rule 5 = .ok (.iload_n 2, 1) := by decide +kernel
theorem dX5_rule_6 : decode cX5_rule 6 = .ok (.invokevirtual 94, 3) := by decide +kernel
theorem dX5_rule_9 : decode cX5_rule 9 = .ok (.ireturn, 1) := by decide +kernel
theorem dX5_mark_0 : decode cX5_mark 0 = .ok (.iload_n 1, 1) := by decide +kernel
theorem dX5_mark_1 : decode cX5_mark 1 = .ok (.invokestatic 69, 3) := by decide +kernel
theorem dX5_mark_4 : decode cX5_mark 4 = .ok (.ifCond .eq 14, 3) := by decide +kernel
theorem dX5_mark_7 : decode cX5_mark 7 = .ok (.iload_n 2, 1) := by decide +kernel
theorem dX5_mark_8 : decode cX5_mark 8 = .ok (.bipush (-3), 2) := by decide +kernel
theorem dX5_mark_10 : decode cX5_mark 10 = .ok (.if_icmp .lt 8, 3) := by decide +kernel
theorem dX5_mark_13 : decode cX5_mark 13 = .ok (.iload_n 2, 1) := by decide +kernel
theorem dX5_mark_14 : decode cX5_mark 14 = .ok (.iconst 3, 1) := by decide +kernel
theorem dX5_mark_15 : decode cX5_mark 15 = .ok (.if_icmp .le 7, 3) := by decide +kernel
theorem dX5_mark_18 : decode cX5_mark 18 = .ok (.sipush (-1001), 3) := by decide +kernel
theorem dX5_mark_21 : decode cX5_mark 21 = .ok (.ireturn, 1) := by decide +kernel
theorem dX5_mark_22 : decode cX5_mark 22 = .ok (.aload_n 0, 1) := by decide +kernel
theorem dX5_mark_23 : decode cX5_mark 23 = .ok (.getfield 36, 3) := by decide +kernel
theorem dX5_mark_26 : decode cX5_mark 26 = .ok (.iload_n 1, 1) := by decide +kernel
theorem dX5_mark_27 : decode cX5_mark 27 = .ok (.iaload, 1) := by decide +kernel
theorem dX5_mark_28 : decode cX5_mark 28 = .ok (.istore_n 3, 1) := by decide +kernel
theorem dX5_mark_29 : decode cX5_mark 29 = .ok (.aload_n 0, 1) := by decide +kernel
theorem dX5_mark_30 : decode cX5_mark 30 = .ok (.getfield 36, 3) := by decide +kernel
theorem dX5_mark_33 : decode cX5_mark 33 = .ok (.iload_n 1, 1) := by decide +kernel
theorem dX5_mark_34 : decode cX5_mark 34 = .ok (.iload_n 2, 1) := by decide +kernel
theorem dX5_mark_35 : decode cX5_mark 35 = .ok (.iastore, 1) := by decide +kernel
theorem dX5_mark_36 : decode cX5_mark 36 = .ok (.iload_n 3, 1) := by decide +kernel
theorem dX5_mark_37 : decode cX5_mark 37 = .ok (.ireturn, 1) := by decide +kernel
theorem dX5_left_0 : decode cX5_left 0 = .ok (.iload_n 1, 1) := by decide +kernel
theorem dX5_left_1 : decode cX5_left 1 = .ok (.ifCond .ne 11, 3) := by decide +kernel
theorem dX5_left_4 : decode cX5_left 4 = .ok (.aload_n 0, 1) := by decide +kernel
theorem dX5_left_5 : decode cX5_left 5 = .ok (.getfield 19, 3) := by decide +kernel
theorem dX5_left_8 : decode cX5_left 8 = .ok (.getfield 91, 3) := by decide +kernel
theorem dX5_left_11 : decode cX5_left 11 = .ok (.ireturn, 1) := by decide +kernel
theorem dX5_left_12 : decode cX5_left 12 = .ok (.iload_n 1, 1) := by decide +kernel
theorem dX5_left_13 : decode cX5_left 13 = .ok (.invokestatic 69, 3) := by decide +kernel
theorem dX5_left_16 : decode cX5_left 16 = .ok (.ifCond .eq 14, 3) := by decide +kernel
theorem dX5_left_19 : decode cX5_left 19 = .ok (.aload_n 0, 1) := by decide +kernel
theorem dX5_left_20 : decode cX5_left 20 = .ok (.getfield 19, 3) := by decide +kernel
theorem dX5_left_23 : decode cX5_left 23 = .ok (.iload_n 1, 1) := by decide +kernel
theorem dX5_left_24 : decode cX5_left 24 = .ok (.invokevirtual 73, 3) := by decide +kernel
theorem dX5_left_27 : decode cX5_left 27 = .ok (.goto 6, 3) := by decide +kernel
theorem dX5_left_30 : decode cX5_left 30 = .ok (.sipush (-1001), 3) := by decide +kernel
theorem dX5_left_33 : decode cX5_left 33 = .ok (.ireturn, 1) := by decide +kernel
theorem dX5_take_0 : decode cX5_take 0 = .ok (.iload_n 1, 1) := by decide +kernel
theorem dX5_take_1 : decode cX5_take 1 = .ok (.invokestatic 69, 3) := by decide +kernel
theorem dX5_take_4 : decode cX5_take 4 = .ok (.ifCond .eq 10, 3) := by decide +kernel
theorem dX5_take_7 : decode cX5_take 7 = .ok (.iload_n 2, 1) := by decide +kernel
theorem dX5_take_8 : decode cX5_take 8 = .ok (.invokestatic 98, 3) := by decide +kernel
theorem dX5_take_11 : decode cX5_take 11 = .ok (.ifCond .ne 7, 3) := by decide +kernel
theorem dX5_take_14 : decode cX5_take 14 = .ok (.sipush (-1001), 3) := by decide +kernel
theorem dX5_take_17 : decode cX5_take 17 = .ok (.ireturn, 1) := by decide +kernel
theorem dX5_take_18 : decode cX5_take 18 = .ok (.aload_n 0, 1) := by decide +kernel
theorem dX5_take_19 : decode cX5_take 19 = .ok (.getfield 19, 3) := by decide +kernel
theorem dX5_take_22 : decode cX5_take 22 = .ok (.iload_n 1, 1) := by decide +kernel
theorem dX5_take_23 : decode cX5_take 23 = .ok (.invokevirtual 73, 3) := by decide +kernel
theorem dX5_take_26 : decode cX5_take 26 = .ok (.ifCond .ne 7, 3) := by decide +kernel
theorem dX5_take_29 : decode cX5_take 29 = .ok (.sipush (-1002), 3) := by decide +kernel
theorem dX5_take_32 : decode cX5_take 32 = .ok (.ireturn, 1) := by decide +kernel
theorem dX5_take_33 : decode cX5_take 33 = .ok (.iload_n 2, 1) := by decide +kernel
theorem dX5_take_34 : decode cX5_take 34 = .ok (.ifCond .ne 17, 3) := by decide +kernel
theorem dX5_take_37 : decode cX5_take 37 = .ok (.aload_n 0, 1) := by decide +kernel
theorem dX5_take_38 : decode cX5_take 38 = .ok (.getfield 32, 3) := by decide +kernel
theorem dX5_take_41 : decode cX5_take 41 = .ok (.invokevirtual 101, 3) := by decide +kernel
theorem dX5_take_44 : decode cX5_take 44 = .ok (.ifCond .eq 7, 3) := by decide +kernel
theorem dX5_take_47 : decode cX5_take 47 = .ok (.sipush (-1003), 3) := by decide +kernel
theorem dX5_take_50 : decode cX5_take 50 = .ok (.ireturn, 1) := by decide +kernel
theorem dX5_take_51 : decode cX5_take 51 = .ok (.aload_n 0, 1) := by decide +kernel
theorem dX5_take_52 : decode cX5_take 52 = .ok (.iload_n 1, 1) := by decide +kernel
theorem dX5_take_53 : decode cX5_take 53 = .ok (.invokevirtual 105, 3) := by decide +kernel
theorem dX5_take_56 : decode cX5_take 56 = .ok (.aload_n 0, 1) := by decide +kernel
theorem dX5_take_57 : decode cX5_take 57 = .ok (.iload_n 1, 1) := by decide +kernel
theorem dX5_take_58 : decode cX5_take 58 = .ok (.iload_n 2, 1) := by decide +kernel
theorem dX5_take_59 : decode cX5_take 59 = .ok (.invokevirtual 109, 3) := by decide +kernel
theorem dX5_take_62 : decode cX5_take 62 = .ok (.aload_n 0, 1) := by decide +kernel
theorem dX5_take_63 : decode cX5_take 63 = .ok (.getfield 32, 3) := by decide +kernel
theorem dX5_take_66 : decode cX5_take 66 = .ok (.getfield 112, 3) := by decide +kernel
theorem dX5_take_69 : decode cX5_take 69 = .ok (.ireturn, 1) := by decide +kernel
theorem dX5_draw_0 : decode cX5_draw 0 = .ok (.iload_n 1, 1) := by decide +kernel
theorem dX5_draw_1 : decode cX5_draw 1 = .ok (.invokestatic 98, 3) := by decide +kernel
theorem dX5_draw_4 : decode cX5_draw 4 = .ok (.ifCond .ne 7, 3) := by decide +kernel
theorem dX5_draw_7 : decode cX5_draw 7 = .ok (.sipush (-1001), 3) := by decide +kernel
theorem dX5_draw_10 : decode cX5_draw 10 = .ok (.ireturn, 1) := by decide +kernel
theorem dX5_draw_11 : decode cX5_draw 11 = .ok (.aload_n 0, 1) := by decide +kernel
theorem dX5_draw_12 : decode cX5_draw 12 = .ok (.getfield 19, 3) := by decide +kernel
theorem dX5_draw_15 : decode cX5_draw 15 = .ok (.getfield 91, 3) := by decide +kernel
theorem dX5_draw_18 : decode cX5_draw 18 = .ok (.ifCond .ne 7, 3) := by decide +kernel
theorem dX5_draw_21 : decode cX5_draw 21 = .ok (.sipush (-1002), 3) := by decide +kernel
theorem dX5_draw_24 : decode cX5_draw 24 = .ok (.ireturn, 1) := by decide +kernel
theorem dX5_draw_25 : decode cX5_draw 25 = .ok (.iload_n 1, 1) := by decide +kernel
theorem dX5_draw_26 : decode cX5_draw 26 = .ok (.ifCond .ne 17, 3) := by decide +kernel
theorem dX5_draw_29 : decode cX5_draw 29 = .ok (.aload_n 0, 1) := by decide +kernel
theorem dX5_draw_30 : decode cX5_draw 30 = .ok (.getfield 32, 3) := by decide +kernel
