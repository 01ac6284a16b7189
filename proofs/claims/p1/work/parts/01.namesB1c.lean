theorem inlX0 : ∀ w ∈ wsX00, w ∈ wsL_law := fun _ h => List.mem_append_left _ (List.mem_append_left _ (List.mem_append_left _ (List.mem_append_left _ (List.mem_append_right _ h))))
theorem inX0 : ∀ w ∈ wsX00, w ∈ lw_tbl := fun w h => wsL_law_in w (inlX0 w h)
theorem inlX1 : ∀ w ∈ wsX10, w ∈ wsL_law := fun _ h => List.mem_append_left _ (List.mem_append_left _ (List.mem_append_left _ (List.mem_append_right _ h)))
theorem inX1 : ∀ w ∈ wsX10, w ∈ lw_tbl := fun w h => wsL_law_in w (inlX1 w h)
theorem inlX2 : ∀ w ∈ wsX20, w ∈ wsL_law := fun _ h => List.mem_append_left _ (List.mem_append_right _ h)
theorem inX2 : ∀ w ∈ wsX20, w ∈ lw_tbl := fun w h => wsL_law_in w (inlX2 w h)
theorem inlX3 : ∀ w ∈ wsX30, w ∈ wsL_law := fun _ h => List.mem_append_left _ (List.mem_append_left _ (List.mem_append_right _ h))
theorem inX3 : ∀ w ∈ wsX30, w ∈ lw_tbl := fun w h => wsL_law_in w (inlX3 w h)
theorem inlX4 : ∀ w ∈ wsX40, w ∈ wsL_law := fun _ h => List.mem_append_left _ (List.mem_append_left _ (List.mem_append_left _ (List.mem_append_left _ (List.mem_append_left _ (List.mem_append_right _ h)))))
theorem inX4 : ∀ w ∈ wsX40, w ∈ lw_tbl := fun w h => wsL_law_in w (inlX4 w h)
theorem inlX5 : ∀ w ∈ wsX50, w ∈ wsL_law := fun _ h => List.mem_append_left _ (List.mem_append_left _ (List.mem_append_left _ (List.mem_append_left _ (List.mem_append_left _ (List.mem_append_left _ (List.mem_append_left _ (List.mem_append_right _ h)))))))
theorem inX5 : ∀ w ∈ wsX50, w ∈ lw_tbl := fun w h => wsL_law_in w (inlX5 w h)
theorem inlX6 : ∀ w ∈ wsX60, w ∈ wsL_law := fun _ h => List.mem_append_left _ (List.mem_append_left _ (List.mem_append_left _ (List.mem_append_left _ (List.mem_append_left _ (List.mem_append_left _ (List.mem_append_right _ h))))))
theorem inX6 : ∀ w ∈ wsX60, w ∈ lw_tbl := fun w h => wsL_law_in w (inlX6 w h)
theorem inJ9 : ∀ w ∈ wsJ90, w ∈ lw_tbl := by decide +kernel
theorem inJ10 : ∀ w ∈ wsJ100, w ∈ lw_tbl := by decide +kernel
theorem inJ7 : ∀ w ∈ wsJ70, w ∈ lw_tbl := by decide +kernel
theorem dX0_init_0 : decode cX0_init 0 = .ok (.aload_n 0, 1) := by decide +kernel
theorem dX0_init_1 : decode cX0_init 1 = .ok (.invokespecial 3, 3) := by decide +kernel
theorem dX0_init_4 : decode cX0_init 4 = .ok (.aload_n 0, 1) := by decide +kernel
theorem dX0_init_5 : decode cX0_init 5 = .ok (.bipush 11, 2) := by decide +kernel
theorem dX0_init_7 : decode cX0_init 7 = .ok (.newarray .int, 2) := by decide +kernel
theorem dX0_init_9 : decode cX0_init 9 = .ok (.putfield 9, 3) := by decide +kernel
theorem dX0_init_12 : decode cX0_init 12 = .ok (.aload_n 0, 1) := by decide +kernel
theorem dX0_init_13 : decode cX0_init 13 = .ok (.iconst 0, 1) := by decide +kernel
theorem dX0_init_14 : decode cX0_init 14 = .ok (.putfield 15, 3) := by decide +kernel
theorem dX0_init_17 : decode cX0_init 17 = .ok (.return_, 1) := by decide +kernel
theorem dX0_count_0 : decode cX0_count 0 = .ok (.iload_n 1, 1) := by decide +kernel
theorem dX0_count_1 : decode cX0_count 1 = .ok (.iconst 1, 1) := by decide +kernel
theorem dX0_count_2 : decode cX0_count 2 = .ok (.if_icmp .lt 18, 3) := by decide +kernel
theorem dX0_count_5 : decode cX0_count 5 = .ok (.iload_n 1, 1) := by decide +kernel
theorem dX0_count_6 : decode cX0_count 6 = .ok (.bipush 10, 2) := by decide +kernel
theorem dX0_count_8 : decode cX0_count 8 = .ok (.if_icmp .gt 12, 3) := by decide +kernel
theorem dX0_count_11 : decode cX0_count 11 = .ok (.aload_n 0, 1) := by decide +kernel
theorem dX0_count_12 : decode cX0_count 12 = .ok (.getfield 9, 3) := by decide +kernel
theorem dX0_count_15 : decode cX0_count 15 = .ok (.iload_n 1, 1) := by decide +kernel
theorem dX0_count_16 : decode cX0_count 16 = .ok (.iaload, 1) := by decide +kernel
theorem dX0_count_17 : decode cX0_count 17 = .ok (.goto 4, 3) := by decide +kernel
theorem dX0_count_20 : decode cX0_count 20 = .ok (.iconst 0, 1) := by decide +kernel
theorem dX0_count_21 : decode cX0_count 21 = .ok (.ireturn, 1) := by decide +kernel
theorem dX0_put_0 : decode cX0_put 0 = .ok (.iload_n 1, 1) := by decide +kernel
theorem dX0_put_1 : decode cX0_put 1 = .ok (.iconst 1, 1) := by decide +kernel
theorem dX0_put_2 : decode cX0_put 2 = .ok (.if_icmp .lt 33, 3) := by decide +kernel
theorem dX0_put_5 : decode cX0_put 5 = .ok (.iload_n 1, 1) := by decide +kernel
theorem dX0_put_6 : decode cX0_put 6 = .ok (.bipush 10, 2) := by decide +kernel
theorem dX0_put_8 : decode cX0_put 8 = .ok (.if_icmp .gt 27, 3) := by decide +kernel
theorem dX0_put_11 : decode cX0_put 11 = .ok (.aload_n 0, 1) := by decide +kernel
theorem dX0_put_12 : decode cX0_put 12 = .ok (.dup, 1) := by decide +kernel
theorem dX0_put_13 : decode cX0_put 13 = .ok (.getfield 15, 3) := by decide +kernel
theorem dX0_put_16 : decode cX0_put 16 = .ok (.iload_n 2, 1) := by decide +kernel
theorem dX0_put_17 : decode cX0_put 17 = .ok (.aload_n 0, 1) := by decide +kernel
theorem dX0_put_18 : decode cX0_put 18 = .ok (.getfield 9, 3) := by decide +kernel
theorem dX0_put_21 : decode cX0_put 21 = .ok (.iload_n 1, 1) := by decide +kernel
theorem dX0_put_22 : decode cX0_put 22 = .ok (.iaload, 1) := by decide +kernel
theorem dX0_put_23 : decode cX0_put 23 = .ok (.isub, 1) := by decide +kernel
theorem dX0_put_24 : decode cX0_put 24 = .ok (.iadd, 1) := by decide +kernel
theorem dX0_put_25 : decode cX0_put 25 = .ok (.putfield 15, 3) := by decide +kernel
theorem dX0_put_28 : decode cX0_put 28 = .ok (.aload_n 0, 1) := by decide +kernel
theorem dX0_put_29 : decode cX0_put 29 = .ok (.getfield 9, 3) := by decide +kernel
theorem dX0_put_32 : decode cX0_put 32 = .ok (.iload_n 1, 1) := by decide +kernel
theorem dX0_put_33 : decode cX0_put 33 = .ok (.iload_n 2, 1) := by decide +kernel
theorem dX0_put_34 : decode cX0_put 34 = .ok (.iastore, 1) := by decide +kernel
theorem dX0_put_35 : decode cX0_put 35 = .ok (.return_, 1) := by decide +kernel
theorem dX0_add_0 : decode cX0_add 0 = .ok (.iload_n 1, 1) := by decide +kernel
theorem dX0_add_1 : decode cX0_add 1 = .ok (.iconst 1, 1) := by decide +kernel
theorem dX0_add_2 : decode cX0_add 2 = .ok (.if_icmp .lt 29, 3) := by decide +kernel
theorem dX0_add_5 : decode cX0_add 5 = .ok (.iload_n 1, 1) := by decide +kernel
theorem dX0_add_6 : decode cX0_add 6 = .ok (.bipush 10, 2) := by decide +kernel
theorem dX0_add_8 : decode cX0_add 8 = .ok (.if_icmp .gt 23, 3) := by decide +kernel
theorem dX0_add_11 : decode cX0_add 11 = .ok (.aload_n 0, 1) := by decide +kernel
theorem dX0_add_12 : decode cX0_add 12 = .ok (.getfield 9, 3) := by decide +kernel
theorem dX0_add_15 : decode cX0_add 15 = .ok (.iload_n 1, 1) := by decide +kernel
theorem dX0_add_16 : decode cX0_add 16 = .ok (.dup2, 1) := by decide +kernel
theorem dX0_add_17 : decode cX0_add 17 = .ok (.iaload, 1) := by decide +kernel
theorem dX0_add_18 : decode cX0_add 18 = .ok (.iconst 1, 1) := by decide +kernel
theorem dX0_add_19 : decode cX0_add 19 = .ok (.iadd, 1) := by decide +kernel
theorem dX0_add_20 : decode cX0_add 20 = .ok (.iastore, 1) := by decide +kernel
theorem dX0_add_21 : decode cX0_add 21 = .ok (.aload_n 0, 1) := by decide +kernel
theorem dX0_add_22 : decode cX0_add 22 = .ok (.dup, 1) := by decide +kernel
theorem dX0_add_23 : decode cX0_add 23 = .ok (.getfield 15, 3) := by decide +kernel
theorem dX0_add_26 : decode cX0_add 26 = .ok (.iconst 1, 1) := by decide +kernel
theorem dX0_add_27 : decode cX0_add 27 = .ok (.iadd, 1) := by decide +kernel
theorem dX0_add_28 : decode cX0_add 28 = .ok (.putfield 15, 3) := by decide +kernel
theorem dX0_add_31 : decode cX0_add 31 = .ok (.return_, 1) := by decide +kernel
theorem dX0_remove_0 : decode cX0_remove 0 = .ok (.iload_n 1, 1) := by decide +kernel
theorem dX0_remove_1 : decode cX0_remove 1 = .ok (.iconst 1, 1) := by decide +kernel
theorem dX0_remove_2 : decode cX0_remove 2 = .ok (.if_icmp .lt 18, 3) := by decide +kernel
theorem dX0_remove_5 : decode cX0_remove 5 = .ok (.iload_n 1, 1) := by decide +kernel
theorem dX0_remove_6 : decode cX0_remove 6 = .ok (.bipush 10, 2) := by decide +kernel
theorem dX0_remove_8 : decode cX0_remove 8 = .ok (.if_icmp .gt 12, 3) := by decide +kernel
theorem dX0_remove_11 : decode cX0_remove 11 = .ok (.aload_n 0, 1) := by decide +kernel
theorem dX0_remove_12 : decode cX0_remove 12 = .ok (.getfield 9, 3) := by decide +kernel
theorem dX0_remove_15 : decode cX0_remove 15 = .ok (.iload_n 1, 1) := by decide +kernel
theorem dX0_remove_16 : decode cX0_remove 16 = .ok (.iaload, 1) := by decide +kernel
theorem dX0_remove_17 : decode cX0_remove 17 = .ok (.goto 4, 3) := by decide +kernel
theorem dX0_remove_20 : decode cX0_remove 20 = .ok (.iconst 0, 1) := by decide +kernel
theorem dX0_remove_21 : decode cX0_remove 21 = .ok (.istore_n 2, 1) := by decide +kernel
theorem dX0_remove_22 : decode cX0_remove 22 = .ok (.iload_n 2, 1) := by decide +kernel
theorem dX0_remove_23 : decode cX0_remove 23 = .ok (.ifCond .le 23, 3) := by decide +kernel
theorem dX0_remove_26 : decode cX0_remove 26 = .ok (.aload_n 0, 1) := by decide +kernel
theorem dX0_remove_27 : decode cX0_remove 27 = .ok (.getfield 9, 3) := by decide +kernel
theorem dX0_remove_30 : decode cX0_remove 30 = .ok (.iload_n 1, 1) := by decide +kernel
theorem dX0_remove_31 : decode cX0_remove 31 = .ok (.dup2, 1) := by decide +kernel
theorem dX0_remove_32 : decode cX0_remove 32 = .ok (.iaload, 1) := by decide +kernel
theorem dX0_remove_33 : decode cX0_remove 33 = .ok (.iconst 1, 1) := by decide +kernel
theorem dX0_remove_34 : decode cX0_remove 34 = .ok (.isub, 1) := by decide +kernel
theorem dX0_remove_35 : decode cX0_remove 35 = .ok (.iastore, 1) := by decide +kernel
theorem dX0_remove_36 : decode cX0_remove 36 = .ok (.aload_n 0, 1) := by decide +kernel
theorem dX0_remove_37 : decode cX0_remove 37 = .ok (.dup, 1) := by decide +kernel
theorem dX0_remove_38 : decode cX0_remove 38 = .ok (.getfield 15, 3) := by decide +kernel
theorem dX0_remove_41 : decode cX0_remove 41 = .ok (.iconst 1, 1) := by decide +kernel
theorem dX0_remove_42 : decode cX0_remove 42 = .ok (.isub, 1) := by decide +kernel
theorem dX0_remove_43 : decode cX0_remove 43 = .ok (.putfield 15, 3) := by decide +kernel
theorem dX0_remove_46 : decode cX0_remove 46 = .ok (.iload_n 2, 1) := by decide +kernel
theorem dX0_remove_47 : decode cX0_remove 47 = .ok (.ireturn, 1) := by decide +kernel
set_option maxRecDepth 20000 in
theorem ggX0_clear_J7_fill_53178 : GoodIn wsX0_clear wsJ7_fill_53178 := goodIn_r _ [6] (by decide +kernel) (by decide +kernel)
set_option maxRecDepth 20000 in
theorem gX0_clear_J7_fill_53178 : GoodIn wsX0_clear (va_wsS RX0 19 yJ7_fill_53178 wsJ7_fill_53178) := goodIn_app (goodIn_of _ (by decide +kernel)) ggX0_clear_J7_fill_53178
theorem dX0_clear_0 : decode cX0_clear 0 = .ok (.aload_n 0, 1) := by decide +kernel
theorem dX0_clear_1 : decode cX0_clear 1 = .ok (.getfield 9, 3) := by decide +kernel
theorem dX0_clear_4 : decode cX0_clear 4 = .ok (.iconst 0, 1) := by decide +kernel
theorem dX0_clear_5 : decode cX0_clear 5 = .ok (.invokestatic 19, 3) := by decide +kernel
theorem dX0_clear_8 : decode cX0_clear 8 = .ok (.aload_n 0, 1) := by decide +kernel
theorem dX0_clear_9 : decode cX0_clear 9 = .ok (.iconst 0, 1) := by decide +kernel
theorem dX0_clear_10 : decode cX0_clear 10 = .ok (.putfield 15, 3) := by decide +kernel
theorem dX0_clear_13 : decode cX0_clear 13 = .ok (.return_, 1) := by decide +kernel
theorem dX0_copy_0 : decode cX0_copy 0 = .ok (.aload_n 1, 1) := by decide +kernel
theorem dX0_copy_1 : decode cX0_copy 1 = .ok (.getfield 9, 3) := by decide +kernel
theorem dX0_copy_4 : decode cX0_copy 4 = .ok (.iconst 0, 1) := by decide +kernel
theorem dX0_copy_5 : decode cX0_copy 5 = .ok (.aload_n 0, 1) := by decide +kernel
theorem dX0_copy_6 : decode cX0_copy 6 = .ok (.getfield 9, 3) := by decide +kernel
theorem dX0_copy_9 : decode cX0_copy 9 = .ok (.iconst 0, 1) := by decide +kernel
theorem dX0_copy_10 : decode cX0_copy 10 = .ok (.aload_n 0, 1) := by decide +kernel
theorem dX0_copy_11 : decode cX0_copy 11 = .ok (.getfield 9, 3) := by decide +kernel
theorem dX0_copy_14 : decode cX0_copy 14 = .ok (.arraylength, 1) := by decide +kernel
theorem dX0_copy_15 : decode cX0_copy 15 = .ok (.invokestatic 25, 3) := by decide +kernel
theorem dX0_copy_18 : decode cX0_copy 18 = .ok (.aload_n 0, 1) := by decide +kernel
theorem dX0_copy_19 : decode cX0_copy 19 = .ok (.aload_n 1, 1) := by decide +kernel
theorem dX0_copy_20 : decode cX0_copy 20 = .ok (.getfield 15, 3) := by decide +kernel
theorem dX0_copy_23 : decode cX0_copy 23 = .ok (.putfield 15, 3) := by decide +kernel
theorem dX0_copy_26 : decode cX0_copy 26 = .ok (.return_, 1) := by decide +kernel
theorem dX0_rankAt_0 : decode cX0_rankAt 0 = .ok (.iload_n 1, 1) := by decide +kernel
theorem dX0_rankAt_1 : decode cX0_rankAt 1 = .ok (.istore_n 2, 1) := by decide +kernel
theorem dX0_rankAt_2 : decode cX0_rankAt 2 = .ok (.iconst 1, 1) := by decide +kernel
theorem dX0_rankAt_3 : decode cX0_rankAt 3 = .ok (.istore_n 3, 1) := by decide +kernel
theorem dX0_rankAt_4 : decode cX0_rankAt 4 = .ok (.iload_n 3, 1) := by decide +kernel
theorem dX0_rankAt_5 : decode cX0_rankAt 5 = .ok (.bipush 10, 2) := by decide +kernel
theorem dX0_rankAt_7 : decode cX0_rankAt 7 = .ok (.if_icmp .ge 30, 3) := by decide +kernel
theorem dX0_rankAt_10 : decode cX0_rankAt 10 = .ok (.iload_n 2, 1) := by decide +kernel
theorem dX0_rankAt_11 : decode cX0_rankAt 11 = .ok (.aload_n 0, 1) := by decide +kernel
theorem dX0_rankAt_12 : decode cX0_rankAt 12 = .ok (.getfield 9, 3) := by decide +kernel
theorem dX0_rankAt_15 : decode cX0_rankAt 15 = .ok (.iload_n 3, 1) := by decide +kernel
theorem dX0_rankAt_16 : decode cX0_rankAt 16 = .ok (.iaload, 1) := by decide +kernel
theorem dX0_rankAt_17 : decode cX0_rankAt 17 = .ok (.if_icmp .ge 5, 3) := by decide +kernel
theorem dX0_rankAt_20 : decode cX0_rankAt 20 = .ok (.iload_n 3, 1) := by decide +kernel
theorem dX0_rankAt_21 : decode cX0_rankAt 21 = .ok (.ireturn, 1) := by decide +kernel
theorem dX0_rankAt_22 : decode cX0_rankAt 22 = .ok (.iload_n 2, 1) := by decide +kernel
theorem dX0_rankAt_23 : decode cX0_rankAt 23 = .ok (.aload_n 0, 1) := by decide +kernel
theorem dX0_rankAt_24 : decode cX0_rankAt 24 = .ok (.getfield 9, 3) := by decide +kernel
theorem dX0_rankAt_27 : decode cX0_rankAt 27 = .ok (.iload_n 3, 1) := by decide +kernel
theorem dX0_rankAt_28 : decode cX0_rankAt 28 = .ok (.iaload, 1) := by decide +kernel
theorem dX0_rankAt_29 : decode cX0_rankAt 29 = .ok (.isub, 1) := by decide +kernel
theorem dX0_rankAt_30 : decode cX0_rankAt 30 = .ok (.istore_n 2, 1) := by decide +kernel
theorem dX0_rankAt_31 : decode cX0_rankAt 31 = .ok (.iinc 3 1, 3) := by decide +kernel
theorem dX0_rankAt_34 : decode cX0_rankAt 34 = .ok (.goto (-30), 3) := by decide +kernel
theorem dX0_rankAt_37 : decode cX0_rankAt 37 = .ok (.bipush 10, 2) := by decide +kernel
theorem dX0_rankAt_39 : decode cX0_rankAt 39 = .ok (.ireturn, 1) := by decide +kernel
theorem dX1_init_0 : decode cX1_init 0 = .ok (.aload_n 0, 1) := by decide +kernel
theorem dX1_init_1 : decode cX1_init 1 = .ok (.invokespecial 3, 3) := by decide +kernel
theorem dX1_init_4 : decode cX1_init 4 = .ok (.aload_n 0, 1) := by decide +kernel
theorem dX1_init_5 : decode cX1_init 5 = .ok (.bipush 12, 2) := by decide +kernel
theorem dX1_init_7 : decode cX1_init 7 = .ok (.newarray .int, 2) := by decide +kernel
theorem dX1_init_9 : decode cX1_init 9 = .ok (.putfield 9, 3) := by decide +kernel
theorem dX1_init_12 : decode cX1_init 12 = .ok (.aload_n 0, 1) := by decide +kernel
theorem dX1_init_13 : decode cX1_init 13 = .ok (.iconst 0, 1) := by decide +kernel
theorem dX1_init_14 : decode cX1_init 14 = .ok (.putfield 15, 3) := by decide +kernel
theorem dX1_init_17 : decode cX1_init 17 = .ok (.aload_n 0, 1) := by decide +kernel
theorem dX1_init_18 : decode cX1_init 18 = .ok (.iconst 0, 1) := by decide +kernel
theorem dX1_init_19 : decode cX1_init 19 = .ok (.putfield 19, 3) := by decide +kernel
theorem dX1_init_22 : decode cX1_init 22 = .ok (.aload_n 0, 1) := by decide +kernel
theorem dX1_init_23 : decode cX1_init 23 = .ok (.iconst 0, 1) := by decide +kernel
theorem dX1_init_24 : decode cX1_init 24 = .ok (.putfield 22, 3) := by decide +kernel
theorem dX1_init_27 : decode cX1_init 27 = .ok (.return_, 1) := by decide +kernel
theorem dX1_isFull_0 : decode cX1_isFull 0 = .ok (.aload_n 0, 1) := by decide +kernel
theorem dX1_isFull_1 : decode cX1_isFull 1 = .ok (.getfield 15, 3) := by decide +kernel
theorem dX1_isFull_4 : decode cX1_isFull 4 = .ok (.bipush 12, 2) := by decide +kernel
theorem dX1_isFull_6 : decode cX1_isFull 6 = .ok (.if_icmp .lt 7, 3) := by decide +kernel
theorem dX1_isFull_9 : decode cX1_isFull 9 = .ok (.iconst 1, 1) := by decide +kernel
theorem dX1_isFull_10 : decode cX1_isFull 10 = .ok (.goto 4, 3) := by decide +kernel
theorem dX1_isFull_13 : decode cX1_isFull 13 = .ok (.iconst 0, 1) := by decide +kernel
theorem dX1_isFull_14 : decode cX1_isFull 14 = .ok (.ireturn, 1) := by decide +kernel
theorem dX1_add_0 : decode cX1_add 0 = .ok (.aload_n 0, 1) := by decide +kernel
theorem dX1_add_1 : decode cX1_add 1 = .ok (.getfield 15, 3) := by decide +kernel
theorem dX1_add_4 : decode cX1_add 4 = .ok (.bipush 12, 2) := by decide +kernel
theorem dX1_add_6 : decode cX1_add 6 = .ok (.if_icmp .lt 4, 3) := by decide +kernel
theorem dX1_add_9 : decode cX1_add 9 = .ok (.return_, 1) := by decide +kernel
theorem dX1_add_10 : decode cX1_add 10 = .ok (.aload_n 0, 1) := by decide +kernel
theorem dX1_add_11 : decode cX1_add 11 = .ok (.getfield 9, 3) := by decide +kernel
theorem dX1_add_14 : decode cX1_add 14 = .ok (.aload_n 0, 1) := by decide +kernel
theorem dX1_add_15 : decode cX1_add 15 = .ok (.getfield 15, 3) := by decide +kernel
theorem dX1_add_18 : decode cX1_add 18 = .ok (.iload_n 1, 1) := by decide +kernel
theorem dX1_add_19 : decode cX1_add 19 = .ok (.iastore, 1) := by decide +kernel
theorem dX1_add_20 : decode cX1_add 20 = .ok (.aload_n 0, 1) := by decide +kernel
theorem dX1_add_21 : decode cX1_add 21 = .ok (.dup, 1) := by decide +kernel
theorem dX1_add_22 : decode cX1_add 22 = .ok (.getfield 15, 3) := by decide +kernel
theorem dX1_add_25 : decode cX1_add 25 = .ok (.iconst 1, 1) := by decide +kernel
theorem dX1_add_26 : decode cX1_add 26 = .ok (.iadd, 1) := by decide +kernel
theorem dX1_add_27 : decode cX1_add 27 = .ok (.putfield 15, 3) := by decide +kernel
theorem dX1_add_30 : decode cX1_add 30 = .ok (.aload_n 0, 1) := by decide +kernel
theorem dX1_add_31 : decode cX1_add 31 = .ok (.dup, 1) := by decide +kernel
theorem dX1_add_32 : decode cX1_add 32 = .ok (.getfield 19, 3) := by decide +kernel
theorem dX1_add_35 : decode cX1_add 35 = .ok (.iload_n 1, 1) := by decide +kernel
theorem dX1_add_36 : decode cX1_add 36 = .ok (.iadd, 1) := by decide +kernel
theorem dX1_add_37 : decode cX1_add 37 = .ok (.putfield 19, 3) := by decide +kernel
theorem dX1_add_40 : decode cX1_add 40 = .ok (.aload_n 0, 1) := by decide +kernel
theorem dX1_add_41 : decode cX1_add 41 = .ok (.aload_n 0, 1) := by decide +kernel
theorem dX1_add_42 : decode cX1_add 42 = .ok (.getfield 22, 3) := by decide +kernel
theorem dX1_add_45 : decode cX1_add 45 = .ok (.ifCond .ne 8, 3) := by decide +kernel
theorem dX1_add_48 : decode cX1_add 48 = .ok (.iload_n 1, 1) := by decide +kernel
theorem dX1_add_49 : decode cX1_add 49 = .ok (.iconst 1, 1) := by decide +kernel
theorem dX1_add_50 : decode cX1_add 50 = .ok (.if_icmp .ne 7, 3) := by decide +kernel
theorem dX1_add_53 : decode cX1_add 53 = .ok (.iconst 1, 1) := by decide +kernel
theorem dX1_add_54 : decode cX1_add 54 = .ok (.goto 4, 3) := by decide +kernel
theorem dX1_add_57 : decode cX1_add 57 = .ok (.iconst 0, 1) := by decide +kernel
theorem dX1_add_58 : decode cX1_add 58 = .ok (.putfield 22, 3) := by decide +kernel
theorem dX1_add_61 : decode cX1_add 61 = .ok (.return_, 1) := by decide +kernel
theorem dX1_clear_0 : decode cX1_clear 0 = .ok (.aload_n 0, 1) := by decide +kernel
theorem dX1_clear_1 : decode cX1_clear 1 = .ok (.iconst 0, 1) := by decide +kernel
theorem dX1_clear_2 : decode cX1_clear 2 = .ok (.putfield 15, 3) := by decide +kernel
theorem dX1_clear_5 : decode cX1_clear 5 = .ok (.aload_n 0, 1) := by decide +kernel
theorem dX1_clear_6 : decode cX1_clear 6 = .ok (.iconst 0, 1) := by decide +kernel
theorem dX1_clear_7 : decode cX1_clear 7 = .ok (.putfield 19, 3) := by decide +kernel
theorem dX1_clear_10 : decode cX1_clear 10 = .ok (.aload_n 0, 1) := by decide +kernel
theorem dX1_clear_11 : decode cX1_clear 11 = .ok (.iconst 0, 1) := by decide +kernel
theorem dX1_clear_12 : decode cX1_clear 12 = .ok (.putfield 22, 3) := by decide +kernel
theorem dX1_clear_15 : decode cX1_clear 15 = .ok (.return_, 1) := by decide +kernel
theorem dX1_card_0 : decode cX1_card 0 = .ok (.iload_n 1, 1) := by decide +kernel
theorem dX1_card_1 : decode cX1_card 1 = .ok (.ifCond .lt 20, 3) := by decide +kernel
theorem dX1_card_4 : decode cX1_card 4 = .ok (.iload_n 1, 1) := by decide +kernel
theorem dX1_card_5 : decode cX1_card 5 = .ok (.aload_n 0, 1) := by decide +kernel
theorem dX1_card_6 : decode cX1_card 6 = .ok (.getfield 15, 3) := by decide +kernel
theorem dX1_card_9 : decode cX1_card 9 = .ok (.if_icmp .ge 12, 3) := by decide +kernel
theorem dX1_card_12 : decode cX1_card 12 = .ok (.aload_n 0, 1) := by decide +kernel
theorem dX1_card_13 : decode cX1_card 13 = .ok (.getfield 9, 3) := by decide +kernel
theorem dX1_card_16 : decode cX1_card 16 = .ok (.iload_n 1, 1) := by decide +kernel
theorem dX1_card_17 : decode cX1_card 17 = .ok (.iaload, 1) := by decide +kernel
theorem dX1_card_18 : decode cX1_card 18 = .ok (.goto 4, 3) := by decide +kernel
theorem dX1_card_21 : decode cX1_card 21 = .ok (.iconst (-1), 1) := by decide +kernel
theorem dX1_card_22 : decode cX1_card 22 = .ok (.ireturn, 1) := by decide +kernel
theorem dX1_isPair_0 : decode cX1_isPair 0 = .ok (.aload_n 0, 1) := by decide +kernel
theorem dX1_isPair_1 : decode cX1_isPair 1 = .ok (.getfield 15, 3) := by decide +kernel
theorem dX1_isPair_4 : decode cX1_isPair 4 = .ok (.iconst 2, 1) := by decide +kernel
theorem dX1_isPair_5 : decode cX1_isPair 5 = .ok (.if_icmp .ne 22, 3) := by decide +kernel
theorem dX1_isPair_8 : decode cX1_isPair 8 = .ok (.aload_n 0, 1) := by decide +kernel
theorem dX1_isPair_9 : decode cX1_isPair 9 = .ok (.getfield 9, 3) := by decide +kernel
theorem dX1_isPair_12 : decode cX1_isPair 12 = .ok (.iconst 0, 1) := by decide +kernel
theorem dX1_isPair_13 : decode cX1_isPair 13 = .ok (.iaload, 1) := by decide +kernel
theorem dX1_isPair_14 : decode cX1_isPair 14 = .ok (.aload_n 0, 1) := by decide +kernel
theorem dX1_isPair_15 : decode cX1_isPair 15 = .ok (.getfield 9, 3) := by decide +kernel
theorem dX1_isPair_18 : decode cX1_isPair 18 = .ok (.iconst 1, 1) := by decide +kernel
theorem dX1_isPair_19 : decode cX1_isPair 19 = .ok (.iaload, 1) := by decide +kernel
theorem dX1_isPair_20 : decode cX1_isPair 20 = .ok (.if_icmp .ne 7, 3) := by decide +kernel
theorem dX1_isPair_23 : decode cX1_isPair 23 = .ok (.iconst 1, 1) := by decide +kernel
theorem dX1_isPair_24 : decode cX1_isPair 24 = .ok (.goto 4, 3) := by decide +kernel
theorem dX1_isPair_27 : decode cX1_isPair 27 = .ok (.iconst 0, 1) := by decide +kernel
theorem dX1_isPair_28 : decode cX1_isPair 28 = .ok (.ireturn, 1) := by decide +kernel
theorem dX1_copy_0 : decode cX1_copy 0 = .ok (.aload_n 1, 1) := by decide +kernel
theorem dX1_copy_1 : decode cX1_copy 1 = .ok (.getfield 9, 3) := by decide +kernel
theorem dX1_copy_4 : decode cX1_copy 4 = .ok (.iconst 0, 1) := by decide +kernel
theorem dX1_copy_5 : decode cX1_copy 5 = .ok (.aload_n 0, 1) := by decide +kernel
theorem dX1_copy_6 : decode cX1_copy 6 = .ok (.getfield 9, 3) := by decide +kernel
theorem dX1_copy_9 : decode cX1_copy 9 = .ok (.iconst 0, 1) := by decide +kernel
theorem dX1_copy_10 : decode cX1_copy 10 = .ok (.aload_n 0, 1) := by decide +kernel
theorem dX1_copy_11 : decode cX1_copy 11 = .ok (.getfield 9, 3) := by decide +kernel
theorem dX1_copy_14 : decode cX1_copy 14 = .ok (.arraylength, 1) := by decide +kernel
theorem dX1_copy_15 : decode cX1_copy 15 = .ok (.invokestatic 26, 3) := by decide +kernel
theorem dX1_copy_18 : decode cX1_copy 18 = .ok (.aload_n 0, 1) := by decide +kernel
theorem dX1_copy_19 : decode cX1_copy 19 = .ok (.aload_n 1, 1) := by decide +kernel
theorem dX1_copy_20 : decode cX1_copy 20 = .ok (.getfield 15, 3) := by decide +kernel
theorem dX1_copy_23 : decode cX1_copy 23 = .ok (.putfield 15, 3) := by decide +kernel
theorem dX1_copy_26 : decode cX1_copy 26 = .ok (.aload_n 0, 1) := by decide +kernel
theorem dX1_copy_27 : decode cX1_copy 27 = .ok (.aload_n 1, 1) := by decide +kernel
theorem dX1_copy_28 : decode cX1_copy 28 = .ok (.getfield 19, 3) := by decide +kernel
theorem dX1_copy_31 : decode cX1_copy 31 = .ok (.putfield 19, 3) := by decide +kernel
theorem dX1_copy_34 : decode cX1_copy 34 = .ok (.aload_n 0, 1) := by decide +kernel
theorem dX1_copy_35 : decode cX1_copy 35 = .ok (.aload_n 1, 1) := by decide +kernel
theorem dX1_copy_36 : decode cX1_copy 36 = .ok (.getfield 22, 3) := by decide +kernel
theorem dX1_copy_39 : decode cX1_copy 39 = .ok (.putfield 22, 3) := by decide +kernel
theorem dX1_copy_42 : decode cX1_copy 42 = .ok (.return_, 1) := by decide +kernel
theorem dX2_init_0 : decode cX2_init 0 = .ok (.aload_n 0, 1) := by decide +kernel
theorem dX2_init_1 : decode cX2_init 1 = .ok (.invokespecial 5, 3) := by decide +kernel
theorem dX2_init_4 : decode cX2_init 4 = .ok (.aload_n 0, 1) := by decide +kernel
theorem dX2_init_5 : decode cX2_init 5 = .ok (.bipush 9, 2) := by decide +kernel
theorem dX2_init_7 : decode cX2_init 7 = .ok (.bipush 49, 2) := by decide +kernel
theorem dX2_init_9 : decode cX2_init 9 = .ok (.multianewarray 11 2, 4) := by decide +kernel
theorem dX2_init_13 : decode cX2_init 13 = .ok (.putfield 13, 3) := by decide +kernel
theorem dX2_init_16 : decode cX2_init 16 = .ok (.return_, 1) := by decide +kernel
set_option maxRecDepth 20000 in
theorem ggX2_ways_J7_fill_d0a16 : GoodIn wsX2_ways wsJ7_fill_d0a16 := goodIn_r _ [5] (by decide +kernel) (by decide +kernel)
set_option maxRecDepth 20000 in
theorem gX2_ways_J7_fill_d0a16 : GoodIn wsX2_ways (va_wsS RX2 16 yJ7_fill_d0a16 wsJ7_fill_d0a16) := goodIn_app (goodIn_of _ (by decide +kernel)) ggX2_ways_J7_fill_d0a16
set_option maxRecDepth 20000 in
theorem ggX2_ways_X0_count : GoodIn wsX2_ways wsX0_count := goodIn_r _ [10, 11, 25, 26] (by decide +kernel) (by decide +kernel)
set_option maxRecDepth 20000 in
theorem gX2_ways_X0_count : GoodIn wsX2_ways (wsV RX2 22 RX0 yX0_count wsX0_count) := goodIn_app (goodIn_of _ (by decide +kernel)) ggX2_ways_X0_count
set_option maxRecDepth 20000 in
theorem ggX2_ways_X2_addCard : GoodIn wsX2_ways wsX2_addCard := goodIn_r _ [16, 17, 18, 19, 20, 21, 22, 23, 1, 24] (by decide +kernel) (by decide +kernel)
set_option maxRecDepth 20000 in
theorem gX2_ways_X2_addCard : GoodIn wsX2_ways (wsV RX2 28 RX2 yX2_addCard wsX2_addCard) := goodIn_app (goodIn_of _ (by decide +kernel)) ggX2_ways_X2_addCard
theorem dX2_ways_0 : decode cX2_ways 0 = .ok (.iload_n 3, 1) := by decide +kernel
theorem dX2_ways_1 : decode cX2_ways 1 = .ok (.ifCond .lt 23, 3) := by decide +kernel
theorem dX2_ways_4 : decode cX2_ways 4 = .ok (.iload_n 3, 1) := by decide +kernel
theorem dX2_ways_5 : decode cX2_ways 5 = .ok (.bipush 8, 2) := by decide +kernel
theorem dX2_ways_7 : decode cX2_ways 7 = .ok (.if_icmp .gt 17, 3) := by decide +kernel
theorem dX2_ways_10 : decode cX2_ways 10 = .ok (.iload 4, 2) := by decide +kernel
theorem dX2_ways_12 : decode cX2_ways 12 = .ok (.bipush (-24), 2) := by decide +kernel
theorem dX2_ways_14 : decode cX2_ways 14 = .ok (.if_icmp .lt 10, 3) := by decide +kernel
theorem dX2_ways_17 : decode cX2_ways 17 = .ok (.iload 4, 2) := by decide +kernel
theorem dX2_ways_19 : decode cX2_ways 19 = .ok (.bipush 24, 2) := by decide +kernel
theorem dX2_ways_21 : decode cX2_ways 21 = .ok (.if_icmp .le 5, 3) := by decide +kernel
theorem dX2_ways_24 : decode cX2_ways 24 = .ok (.lconst 0, 1) := by decide +kernel
theorem dX2_ways_25 : decode cX2_ways 25 = .ok (.lreturn, 1) := by decide +kernel
theorem dX2_ways_26 : decode cX2_ways 26 = .ok (.iconst 0, 1) := by decide +kernel
theorem dX2_ways_27 : decode cX2_ways 27 = .ok (.istore 5, 2) := by decide +kernel
theorem dX2_ways_29 : decode cX2_ways 29 = .ok (.iload 5, 2) := by decide +kernel
theorem dX2_ways_31 : decode cX2_ways 31 = .ok (.iload_n 3, 1) := by decide +kernel
theorem dX2_ways_32 : decode cX2_ways 32 = .ok (.if_icmp .gt 20, 3) := by decide +kernel
theorem dX2_ways_35 : decode cX2_ways 35 = .ok (.aload_n 0, 1) := by decide +kernel
theorem dX2_ways_36 : decode cX2_ways 36 = .ok (.getfield 13, 3) := by decide +kernel
theorem dX2_ways_39 : decode cX2_ways 39 = .ok (.iload 5, 2) := by decide +kernel
theorem dX2_ways_41 : decode cX2_ways 41 = .ok (.aaload, 1) := by decide +kernel
theorem dX2_ways_42 : decode cX2_ways 42 = .ok (.lconst 0, 1) := by decide +kernel
theorem dX2_ways_43 : decode cX2_ways 43 = .ok (.invokestatic 16, 3) := by decide +kernel
theorem dX2_ways_46 : decode cX2_ways 46 = .ok (.iinc 5 1, 3) := by decide +kernel
theorem dX2_ways_49 : decode cX2_ways 49 = .ok (.goto (-20), 3) := by decide +kernel
theorem dX2_ways_52 : decode cX2_ways 52 = .ok (.aload_n 0, 1) := by decide +kernel
theorem dX2_ways_53 : decode cX2_ways 53 = .ok (.getfield 13, 3) := by decide +kernel
theorem dX2_ways_56 : decode cX2_ways 56 = .ok (.iconst 0, 1) := by decide +kernel

