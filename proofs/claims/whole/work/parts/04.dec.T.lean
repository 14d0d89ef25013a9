theorem d_N_init_0 : decode b_N_init 0 = .ok (.aload_n 0, 1) := by decide +kernel
theorem d_N_init_1 : decode b_N_init 1 = .ok (.invokespecial 3, 3) := by decide +kernel
theorem d_N_init_4 : decode b_N_init 4 = .ok (.aload_n 0, 1) := by decide +kernel
theorem d_N_init_5 : decode b_N_init 5 = .ok (.bipush 60, 2) := by decide +kernel
theorem d_N_init_7 : decode b_N_init 7 = .ok (.anewarray 9, 3) := by decide +kernel
theorem d_N_init_10 : decode b_N_init 10 = .ok (.putfield 11, 3) := by decide +kernel
theorem d_N_init_13 : decode b_N_init 13 = .ok (.iconst 0, 1) := by decide +kernel
theorem d_N_init_14 : decode b_N_init 14 = .ok (.istore_n 1, 1) := by decide +kernel
theorem d_N_init_15 : decode b_N_init 15 = .ok (.iload_n 1, 1) := by decide +kernel
theorem d_N_init_16 : decode b_N_init 16 = .ok (.aload_n 0, 1) := by decide +kernel
theorem d_N_init_17 : decode b_N_init 17 = .ok (.getfield 11, 3) := by decide +kernel
theorem d_N_init_20 : decode b_N_init 20 = .ok (.arraylength, 1) := by decide +kernel
theorem d_N_init_21 : decode b_N_init 21 = .ok (.if_icmp .ge 24, 3) := by decide +kernel
theorem d_N_init_24 : decode b_N_init 24 = .ok (.aload_n 0, 1) := by decide +kernel
theorem d_N_init_25 : decode b_N_init 25 = .ok (.getfield 11, 3) := by decide +kernel
theorem d_N_init_28 : decode b_N_init 28 = .ok (.iload_n 1, 1) := by decide +kernel
theorem d_N_init_29 : decode b_N_init 29 = .ok (.new 9, 3) := by decide +kernel
theorem d_N_init_32 : decode b_N_init 32 = .ok (.dup, 1) := by decide +kernel
theorem d_N_init_33 : decode b_N_init 33 = .ok (.bipush 24, 2) := by decide +kernel
theorem d_N_init_35 : decode b_N_init 35 = .ok (.invokespecial 17, 3) := by decide +kernel
theorem d_N_init_38 : decode b_N_init 38 = .ok (.aastore, 1) := by decide +kernel
theorem d_N_init_39 : decode b_N_init 39 = .ok (.iinc 1 1, 3) := by decide +kernel
theorem d_N_init_42 : decode b_N_init 42 = .ok (.goto (-27), 3) := by decide +kernel
theorem d_N_init_45 : decode b_N_init 45 = .ok (.aload_n 0, 1) := by decide +kernel
theorem d_N_init_46 : decode b_N_init 46 = .ok (.iconst 0, 1) := by decide +kernel
theorem d_N_init_47 : decode b_N_init 47 = .ok (.putfield 20, 3) := by decide +kernel
theorem d_N_init_50 : decode b_N_init 50 = .ok (.return_, 1) := by decide +kernel
theorem d_N_size_0 : decode b_N_size 0 = .ok (.aload_n 0, 1) := by decide +kernel
theorem d_N_size_1 : decode b_N_size 1 = .ok (.getfield 20, 3) := by decide +kernel
theorem d_N_size_4 : decode b_N_size 4 = .ok (.ireturn, 1) := by decide +kernel
theorem d_N_has_0 : decode b_N_has 0 = .ok (.iload_n 1, 1) := by decide +kernel
theorem d_N_has_1 : decode b_N_has 1 = .ok (.ifCond .lt 15, 3) := by decide +kernel
theorem d_N_has_4 : decode b_N_has 4 = .ok (.iload_n 1, 1) := by decide +kernel
theorem d_N_has_5 : decode b_N_has 5 = .ok (.aload_n 0, 1) := by decide +kernel
theorem d_N_has_6 : decode b_N_has 6 = .ok (.getfield 20, 3) := by decide +kernel
theorem d_N_has_9 : decode b_N_has 9 = .ok (.if_icmp .ge 7, 3) := by decide +kernel
theorem d_N_has_12 : decode b_N_has 12 = .ok (.iconst 1, 1) := by decide +kernel
theorem d_N_has_13 : decode b_N_has 13 = .ok (.goto 4, 3) := by decide +kernel
theorem d_N_has_16 : decode b_N_has 16 = .ok (.iconst 0, 1) := by decide +kernel
theorem d_N_has_17 : decode b_N_has 17 = .ok (.ireturn, 1) := by decide +kernel
theorem d_N_isFull_0 : decode b_N_isFull 0 = .ok (.aload_n 0, 1) := by decide +kernel
theorem d_N_isFull_1 : decode b_N_isFull 1 = .ok (.getfield 20, 3) := by decide +kernel
theorem d_N_isFull_4 : decode b_N_isFull 4 = .ok (.aload_n 0, 1) := by decide +kernel
theorem d_N_isFull_5 : decode b_N_isFull 5 = .ok (.getfield 11, 3) := by decide +kernel
theorem d_N_isFull_8 : decode b_N_isFull 8 = .ok (.arraylength, 1) := by decide +kernel
theorem d_N_isFull_9 : decode b_N_isFull 9 = .ok (.if_icmp .lt 7, 3) := by decide +kernel
theorem d_N_isFull_12 : decode b_N_isFull 12 = .ok (.iconst 1, 1) := by decide +kernel
theorem d_N_isFull_13 : decode b_N_isFull 13 = .ok (.goto 4, 3) := by decide +kernel
theorem d_N_isFull_16 : decode b_N_isFull 16 = .ok (.iconst 0, 1) := by decide +kernel
theorem d_N_isFull_17 : decode b_N_isFull 17 = .ok (.ireturn, 1) := by decide +kernel
theorem d_N_text_0 : decode b_N_text 0 = .ok (.aload_n 0, 1) := by decide +kernel
theorem d_N_text_1 : decode b_N_text 1 = .ok (.getfield 11, 3) := by decide +kernel
theorem d_N_text_4 : decode b_N_text 4 = .ok (.iload_n 1, 1) := by decide +kernel
theorem d_N_text_5 : decode b_N_text 5 = .ok (.aaload, 1) := by decide +kernel
theorem d_N_text_6 : decode b_N_text 6 = .ok (.areturn, 1) := by decide +kernel
theorem d_N_find_0 : decode b_N_find 0 = .ok (.iconst 0, 1) := by decide +kernel
theorem d_N_find_1 : decode b_N_find 1 = .ok (.istore_n 2, 1) := by decide +kernel
theorem d_N_find_2 : decode b_N_find 2 = .ok (.iload_n 2, 1) := by decide +kernel
theorem d_N_find_3 : decode b_N_find 3 = .ok (.aload_n 0, 1) := by decide +kernel
theorem d_N_find_4 : decode b_N_find 4 = .ok (.getfield 20, 3) := by decide +kernel
theorem d_N_find_7 : decode b_N_find 7 = .ok (.if_icmp .ge 24, 3) := by decide +kernel
theorem d_N_find_10 : decode b_N_find 10 = .ok (.aload_n 0, 1) := by decide +kernel
theorem d_N_find_11 : decode b_N_find 11 = .ok (.getfield 11, 3) := by decide +kernel
theorem d_N_find_14 : decode b_N_find 14 = .ok (.iload_n 2, 1) := by decide +kernel
theorem d_N_find_15 : decode b_N_find 15 = .ok (.aaload, 1) := by decide +kernel
theorem d_N_find_16 : decode b_N_find 16 = .ok (.aload_n 1, 1) := by decide +kernel
theorem d_N_find_17 : decode b_N_find 17 = .ok (.invokevirtual 24, 3) := by decide +kernel
theorem d_N_find_20 : decode b_N_find 20 = .ok (.ifCond .ne 5, 3) := by decide +kernel
theorem d_N_find_23 : decode b_N_find 23 = .ok (.iload_n 2, 1) := by decide +kernel
theorem d_N_find_24 : decode b_N_find 24 = .ok (.ireturn, 1) := by decide +kernel
theorem d_N_find_25 : decode b_N_find 25 = .ok (.iinc 2 1, 3) := by decide +kernel
theorem d_N_find_28 : decode b_N_find 28 = .ok (.goto (-26), 3) := by decide +kernel
theorem d_N_find_31 : decode b_N_find 31 = .ok (.iconst (-1), 1) := by decide +kernel
theorem d_N_find_32 : decode b_N_find 32 = .ok (.ireturn, 1) := by decide +kernel
theorem d_N_add_0 : decode b_N_add 0 = .ok (.aload_n 0, 1) := by decide +kernel
theorem d_N_add_1 : decode b_N_add 1 = .ok (.getfield 20, 3) := by decide +kernel
theorem d_N_add_4 : decode b_N_add 4 = .ok (.istore_n 2, 1) := by decide +kernel
theorem d_N_add_5 : decode b_N_add 5 = .ok (.aload_n 0, 1) := by decide +kernel
theorem d_N_add_6 : decode b_N_add 6 = .ok (.getfield 11, 3) := by decide +kernel
theorem d_N_add_9 : decode b_N_add 9 = .ok (.iload_n 2, 1) := by decide +kernel
theorem d_N_add_10 : decode b_N_add 10 = .ok (.aaload, 1) := by decide +kernel
theorem d_N_add_11 : decode b_N_add 11 = .ok (.aload_n 1, 1) := by decide +kernel
theorem d_N_add_12 : decode b_N_add 12 = .ok (.invokevirtual 28, 3) := by decide +kernel
theorem d_N_add_15 : decode b_N_add 15 = .ok (.aload_n 0, 1) := by decide +kernel
theorem d_N_add_16 : decode b_N_add 16 = .ok (.dup, 1) := by decide +kernel
theorem d_N_add_17 : decode b_N_add 17 = .ok (.getfield 20, 3) := by decide +kernel
theorem d_N_add_20 : decode b_N_add 20 = .ok (.iconst 1, 1) := by decide +kernel
theorem d_N_add_21 : decode b_N_add 21 = .ok (.iadd, 1) := by decide +kernel
theorem d_N_add_22 : decode b_N_add 22 = .ok (.putfield 20, 3) := by decide +kernel
theorem d_N_add_25 : decode b_N_add 25 = .ok (.iload_n 2, 1) := by decide +kernel
theorem d_N_add_26 : decode b_N_add 26 = .ok (.ireturn, 1) := by decide +kernel
theorem d_R_init_0 : decode b_R_init 0 = .ok (.aload_n 0, 1) := by decide +kernel
theorem d_R_init_1 : decode b_R_init 1 = .ok (.invokespecial 3, 3) := by decide +kernel
theorem d_R_init_4 : decode b_R_init 4 = .ok (.aload_n 0, 1) := by decide +kernel
theorem d_R_init_5 : decode b_R_init 5 = .ok (.bipush 20, 2) := by decide +kernel
theorem d_R_init_7 : decode b_R_init 7 = .ok (.newarray .int, 2) := by decide +kernel
theorem d_R_init_9 : decode b_R_init 9 = .ok (.putfield 9, 3) := by decide +kernel
theorem d_R_init_12 : decode b_R_init 12 = .ok (.aload_n 0, 1) := by decide +kernel
theorem d_R_init_13 : decode b_R_init 13 = .ok (.bipush 20, 2) := by decide +kernel
theorem d_R_init_15 : decode b_R_init 15 = .ok (.newarray .int, 2) := by decide +kernel
theorem d_R_init_17 : decode b_R_init 17 = .ok (.putfield 15, 3) := by decide +kernel
theorem d_R_init_20 : decode b_R_init 20 = .ok (.aload_n 0, 1) := by decide +kernel
theorem d_R_init_21 : decode b_R_init 21 = .ok (.iconst 0, 1) := by decide +kernel
theorem d_R_init_22 : decode b_R_init 22 = .ok (.putfield 18, 3) := by decide +kernel
theorem d_R_init_25 : decode b_R_init 25 = .ok (.return_, 1) := by decide +kernel
theorem d_R_size_0 : decode b_R_size 0 = .ok (.aload_n 0, 1) := by decide +kernel
theorem d_R_size_1 : decode b_R_size 1 = .ok (.getfield 18, 3) := by decide +kernel
theorem d_R_size_4 : decode b_R_size 4 = .ok (.ireturn, 1) := by decide +kernel
theorem d_R_isFull_0 : decode b_R_isFull 0 = .ok (.aload_n 0, 1) := by decide +kernel
theorem d_R_isFull_1 : decode b_R_isFull 1 = .ok (.getfield 18, 3) := by decide +kernel
theorem d_R_isFull_4 : decode b_R_isFull 4 = .ok (.bipush 20, 2) := by decide +kernel
theorem d_R_isFull_6 : decode b_R_isFull 6 = .ok (.if_icmp .lt 7, 3) := by decide +kernel
theorem d_R_isFull_9 : decode b_R_isFull 9 = .ok (.iconst 1, 1) := by decide +kernel
theorem d_R_isFull_10 : decode b_R_isFull 10 = .ok (.goto 4, 3) := by decide +kernel
theorem d_R_isFull_13 : decode b_R_isFull 13 = .ok (.iconst 0, 1) := by decide +kernel
theorem d_R_isFull_14 : decode b_R_isFull 14 = .ok (.ireturn, 1) := by decide +kernel
theorem d_R_add_0 : decode b_R_add 0 = .ok (.aload_n 0, 1) := by decide +kernel
theorem d_R_add_1 : decode b_R_add 1 = .ok (.getfield 9, 3) := by decide +kernel
theorem d_R_add_4 : decode b_R_add 4 = .ok (.aload_n 0, 1) := by decide +kernel
theorem d_R_add_5 : decode b_R_add 5 = .ok (.getfield 18, 3) := by decide +kernel
theorem d_R_add_8 : decode b_R_add 8 = .ok (.iload_n 1, 1) := by decide +kernel
theorem d_R_add_9 : decode b_R_add 9 = .ok (.iastore, 1) := by decide +kernel
theorem d_R_add_10 : decode b_R_add 10 = .ok (.aload_n 0, 1) := by decide +kernel
theorem d_R_add_11 : decode b_R_add 11 = .ok (.getfield 15, 3) := by decide +kernel
theorem d_R_add_14 : decode b_R_add 14 = .ok (.aload_n 0, 1) := by decide +kernel
theorem d_R_add_15 : decode b_R_add 15 = .ok (.getfield 18, 3) := by decide +kernel
theorem d_R_add_18 : decode b_R_add 18 = .ok (.iload_n 2, 1) := by decide +kernel
theorem d_R_add_19 : decode b_R_add 19 = .ok (.iastore, 1) := by decide +kernel
theorem d_R_add_20 : decode b_R_add 20 = .ok (.aload_n 0, 1) := by decide +kernel
theorem d_R_add_21 : decode b_R_add 21 = .ok (.dup, 1) := by decide +kernel
theorem d_R_add_22 : decode b_R_add 22 = .ok (.getfield 18, 3) := by decide +kernel
theorem d_R_add_25 : decode b_R_add 25 = .ok (.iconst 1, 1) := by decide +kernel
theorem d_R_add_26 : decode b_R_add 26 = .ok (.iadd, 1) := by decide +kernel
theorem d_R_add_27 : decode b_R_add 27 = .ok (.putfield 18, 3) := by decide +kernel
theorem d_R_add_30 : decode b_R_add 30 = .ok (.return_, 1) := by decide +kernel
theorem d_R_forward_0 : decode b_R_forward 0 = .ok (.iload_n 1, 1) := by decide +kernel
theorem d_R_forward_1 : decode b_R_forward 1 = .ok (.istore_n 2, 1) := by decide +kernel
theorem d_R_forward_2 : decode b_R_forward 2 = .ok (.iconst 0, 1) := by decide +kernel
theorem d_R_forward_3 : decode b_R_forward 3 = .ok (.istore_n 3, 1) := by decide +kernel
theorem d_R_forward_4 : decode b_R_forward 4 = .ok (.iload_n 3, 1) := by decide +kernel
theorem d_R_forward_5 : decode b_R_forward 5 = .ok (.aload_n 0, 1) := by decide +kernel
theorem d_R_forward_6 : decode b_R_forward 6 = .ok (.getfield 18, 3) := by decide +kernel
theorem d_R_forward_9 : decode b_R_forward 9 = .ok (.if_icmp .ge 26, 3) := by decide +kernel
theorem d_R_forward_12 : decode b_R_forward 12 = .ok (.aload_n 0, 1) := by decide +kernel
theorem d_R_forward_13 : decode b_R_forward 13 = .ok (.getfield 9, 3) := by decide +kernel
theorem d_R_forward_16 : decode b_R_forward 16 = .ok (.iload_n 3, 1) := by decide +kernel
theorem d_R_forward_17 : decode b_R_forward 17 = .ok (.iaload, 1) := by decide +kernel
theorem d_R_forward_18 : decode b_R_forward 18 = .ok (.iload_n 2, 1) := by decide +kernel
theorem d_R_forward_19 : decode b_R_forward 19 = .ok (.if_icmp .ne 10, 3) := by decide +kernel
theorem d_R_forward_22 : decode b_R_forward 22 = .ok (.aload_n 0, 1) := by decide +kernel
theorem d_R_forward_23 : decode b_R_forward 23 = .ok (.getfield 15, 3) := by decide +kernel
theorem d_R_forward_26 : decode b_R_forward 26 = .ok (.iload_n 3, 1) := by decide +kernel
theorem d_R_forward_27 : decode b_R_forward 27 = .ok (.iaload, 1) := by decide +kernel
theorem d_R_forward_28 : decode b_R_forward 28 = .ok (.istore_n 2, 1) := by decide +kernel
theorem d_R_forward_29 : decode b_R_forward 29 = .ok (.iinc 3 1, 3) := by decide +kernel
theorem d_R_forward_32 : decode b_R_forward 32 = .ok (.goto (-28), 3) := by decide +kernel
theorem d_R_forward_35 : decode b_R_forward 35 = .ok (.iload_n 2, 1) := by decide +kernel
theorem d_R_forward_36 : decode b_R_forward 36 = .ok (.ireturn, 1) := by decide +kernel
theorem d_R_back_0 : decode b_R_back 0 = .ok (.iload_n 1, 1) := by decide +kernel
theorem d_R_back_1 : decode b_R_back 1 = .ok (.istore_n 2, 1) := by decide +kernel
theorem d_R_back_2 : decode b_R_back 2 = .ok (.aload_n 0, 1) := by decide +kernel
theorem d_R_back_3 : decode b_R_back 3 = .ok (.getfield 18, 3) := by decide +kernel
theorem d_R_back_6 : decode b_R_back 6 = .ok (.iconst 1, 1) := by decide +kernel
theorem d_R_back_7 : decode b_R_back 7 = .ok (.isub, 1) := by decide +kernel
theorem d_R_back_8 : decode b_R_back 8 = .ok (.istore_n 3, 1) := by decide +kernel
theorem d_R_back_9 : decode b_R_back 9 = .ok (.iload_n 3, 1) := by decide +kernel
theorem d_R_back_10 : decode b_R_back 10 = .ok (.ifCond .lt 26, 3) := by decide +kernel
theorem d_R_back_13 : decode b_R_back 13 = .ok (.aload_n 0, 1) := by decide +kernel
theorem d_R_back_14 : decode b_R_back 14 = .ok (.getfield 15, 3) := by decide +kernel
theorem d_R_back_17 : decode b_R_back 17 = .ok (.iload_n 3, 1) := by decide +kernel
theorem d_R_back_18 : decode b_R_back 18 = .ok (.iaload, 1) := by decide +kernel
theorem d_R_back_19 : decode b_R_back 19 = .ok (.iload_n 2, 1) := by decide +kernel
theorem d_R_back_20 : decode b_R_back 20 = .ok (.if_icmp .ne 10, 3) := by decide +kernel
theorem d_R_back_23 : decode b_R_back 23 = .ok (.aload_n 0, 1) := by decide +kernel
theorem d_R_back_24 : decode b_R_back 24 = .ok (.getfield 9, 3) := by decide +kernel
theorem d_R_back_27 : decode b_R_back 27 = .ok (.iload_n 3, 1) := by decide +kernel
theorem d_R_back_28 : decode b_R_back 28 = .ok (.iaload, 1) := by decide +kernel
theorem d_R_back_29 : decode b_R_back 29 = .ok (.istore_n 2, 1) := by decide +kernel
theorem d_R_back_30 : decode b_R_back 30 = .ok (.iinc 3 (-1), 3) := by decide +kernel
theorem d_R_back_33 : decode b_R_back 33 = .ok (.goto (-24), 3) := by decide +kernel
theorem d_R_back_36 : decode b_R_back 36 = .ok (.iload_n 2, 1) := by decide +kernel
theorem d_R_back_37 : decode b_R_back 37 = .ok (.ireturn, 1) := by decide +kernel
theorem d_W_init_0 : decode b_W_init 0 = .ok (.aload_n 0, 1) := by decide +kernel
theorem d_W_init_1 : decode b_W_init 1 = .ok (.invokespecial 3, 3) := by decide +kernel
theorem d_W_init_4 : decode b_W_init 4 = .ok (.aload_n 0, 1) := by decide +kernel
theorem d_W_init_5 : decode b_W_init 5 = .ok (.bipush 120, 2) := by decide +kernel
theorem d_W_init_7 : decode b_W_init 7 = .ok (.newarray .int, 2) := by decide +kernel
theorem d_W_init_9 : decode b_W_init 9 = .ok (.putfield 11, 3) := by decide +kernel
theorem d_W_init_12 : decode b_W_init 12 = .ok (.aload_n 0, 1) := by decide +kernel
theorem d_W_init_13 : decode b_W_init 13 = .ok (.iconst 0, 1) := by decide +kernel
theorem d_W_init_14 : decode b_W_init 14 = .ok (.putfield 15, 3) := by decide +kernel
theorem d_W_init_17 : decode b_W_init 17 = .ok (.return_, 1) := by decide +kernel
theorem d_W_size_0 : decode b_W_size 0 = .ok (.aload_n 0, 1) := by decide +kernel
theorem d_W_size_1 : decode b_W_size 1 = .ok (.getfield 15, 3) := by decide +kernel
theorem d_W_size_4 : decode b_W_size 4 = .ok (.ireturn, 1) := by decide +kernel
theorem d_W_has_0 : decode b_W_has 0 = .ok (.iload_n 1, 1) := by decide +kernel
theorem d_W_has_1 : decode b_W_has 1 = .ok (.ifCond .lt 15, 3) := by decide +kernel
theorem d_W_has_4 : decode b_W_has 4 = .ok (.iload_n 1, 1) := by decide +kernel
theorem d_W_has_5 : decode b_W_has 5 = .ok (.aload_n 0, 1) := by decide +kernel
theorem d_W_has_6 : decode b_W_has 6 = .ok (.getfield 15, 3) := by decide +kernel
theorem d_W_has_9 : decode b_W_has 9 = .ok (.if_icmp .ge 7, 3) := by decide +kernel
theorem d_W_has_12 : decode b_W_has 12 = .ok (.iconst 1, 1) := by decide +kernel
theorem d_W_has_13 : decode b_W_has 13 = .ok (.goto 4, 3) := by decide +kernel
theorem d_W_has_16 : decode b_W_has 16 = .ok (.iconst 0, 1) := by decide +kernel
theorem d_W_has_17 : decode b_W_has 17 = .ok (.ireturn, 1) := by decide +kernel
theorem d_W_isFull_0 : decode b_W_isFull 0 = .ok (.aload_n 0, 1) := by decide +kernel
theorem d_W_isFull_1 : decode b_W_isFull 1 = .ok (.getfield 15, 3) := by decide +kernel
theorem d_W_isFull_4 : decode b_W_isFull 4 = .ok (.bipush 40, 2) := by decide +kernel
theorem d_W_isFull_6 : decode b_W_isFull 6 = .ok (.if_icmp .lt 7, 3) := by decide +kernel
theorem d_W_isFull_9 : decode b_W_isFull 9 = .ok (.iconst 1, 1) := by decide +kernel
theorem d_W_isFull_10 : decode b_W_isFull 10 = .ok (.goto 4, 3) := by decide +kernel
theorem d_W_isFull_13 : decode b_W_isFull 13 = .ok (.iconst 0, 1) := by decide +kernel
theorem d_W_isFull_14 : decode b_W_isFull 14 = .ok (.ireturn, 1) := by decide +kernel
theorem d_W_cell_0 : decode b_W_cell 0 = .ok (.aload_n 0, 1) := by decide +kernel
theorem d_W_cell_1 : decode b_W_cell 1 = .ok (.getfield 11, 3) := by decide +kernel
theorem d_W_cell_4 : decode b_W_cell 4 = .ok (.iload_n 1, 1) := by decide +kernel
theorem d_W_cell_5 : decode b_W_cell 5 = .ok (.iconst 3, 1) := by decide +kernel
theorem d_W_cell_6 : decode b_W_cell 6 = .ok (.imul, 1) := by decide +kernel
theorem d_W_cell_7 : decode b_W_cell 7 = .ok (.iload_n 2, 1) := by decide +kernel
theorem d_W_cell_8 : decode b_W_cell 8 = .ok (.iadd, 1) := by decide +kernel
theorem d_W_cell_9 : decode b_W_cell 9 = .ok (.iaload, 1) := by decide +kernel
theorem d_W_cell_10 : decode b_W_cell 10 = .ok (.ireturn, 1) := by decide +kernel
theorem d_W_rowOfTerm_0 : decode b_W_rowOfTerm 0 = .ok (.iconst 0, 1) := by decide +kernel
theorem d_W_rowOfTerm_1 : decode b_W_rowOfTerm 1 = .ok (.istore_n 2, 1) := by decide +kernel
theorem d_W_rowOfTerm_2 : decode b_W_rowOfTerm 2 = .ok (.iload_n 2, 1) := by decide +kernel
theorem d_W_rowOfTerm_3 : decode b_W_rowOfTerm 3 = .ok (.aload_n 0, 1) := by decide +kernel
theorem d_W_rowOfTerm_4 : decode b_W_rowOfTerm 4 = .ok (.getfield 15, 3) := by decide +kernel
theorem d_W_rowOfTerm_7 : decode b_W_rowOfTerm 7 = .ok (.if_icmp .ge 21, 3) := by decide +kernel
theorem d_W_rowOfTerm_10 : decode b_W_rowOfTerm 10 = .ok (.aload_n 0, 1) := by decide +kernel
theorem d_W_rowOfTerm_11 : decode b_W_rowOfTerm 11 = .ok (.iload_n 2, 1) := by decide +kernel
theorem d_W_rowOfTerm_12 : decode b_W_rowOfTerm 12 = .ok (.iconst 0, 1) := by decide +kernel
theorem d_W_rowOfTerm_13 : decode b_W_rowOfTerm 13 = .ok (.invokevirtual 19, 3) := by decide +kernel
theorem d_W_rowOfTerm_16 : decode b_W_rowOfTerm 16 = .ok (.iload_n 1, 1) := by decide +kernel
theorem d_W_rowOfTerm_17 : decode b_W_rowOfTerm 17 = .ok (.if_icmp .ne 5, 3) := by decide +kernel
theorem d_W_rowOfTerm_20 : decode b_W_rowOfTerm 20 = .ok (.iload_n 2, 1) := by decide +kernel
theorem d_W_rowOfTerm_21 : decode b_W_rowOfTerm 21 = .ok (.ireturn, 1) := by decide +kernel
theorem d_W_rowOfTerm_22 : decode b_W_rowOfTerm 22 = .ok (.iinc 2 1, 3) := by decide +kernel
theorem d_W_rowOfTerm_25 : decode b_W_rowOfTerm 25 = .ok (.goto (-23), 3) := by decide +kernel
theorem d_W_rowOfTerm_28 : decode b_W_rowOfTerm 28 = .ok (.iconst (-1), 1) := by decide +kernel
theorem d_W_rowOfTerm_29 : decode b_W_rowOfTerm 29 = .ok (.ireturn, 1) := by decide +kernel
theorem d_W_add_0 : decode b_W_add 0 = .ok (.aload_n 0, 1) := by decide +kernel
theorem d_W_add_1 : decode b_W_add 1 = .ok (.getfield 15, 3) := by decide +kernel
theorem d_W_add_4 : decode b_W_add 4 = .ok (.istore 4, 2) := by decide +kernel
theorem d_W_add_6 : decode b_W_add 6 = .ok (.aload_n 0, 1) := by decide +kernel
theorem d_W_add_7 : decode b_W_add 7 = .ok (.getfield 11, 3) := by decide +kernel
theorem d_W_add_10 : decode b_W_add 10 = .ok (.iload 4, 2) := by decide +kernel
theorem d_W_add_12 : decode b_W_add 12 = .ok (.iconst 3, 1) := by decide +kernel
theorem d_W_add_13 : decode b_W_add 13 = .ok (.imul, 1) := by decide +kernel
theorem d_W_add_14 : decode b_W_add 14 = .ok (.iconst 0, 1) := by decide +kernel
theorem d_W_add_15 : decode b_W_add 15 = .ok (.iadd, 1) := by decide +kernel
theorem d_W_add_16 : decode b_W_add 16 = .ok (.iload_n 1, 1) := by decide +kernel
theorem d_W_add_17 : decode b_W_add 17 = .ok (.iastore, 1) := by decide +kernel
theorem d_W_add_18 : decode b_W_add 18 = .ok (.aload_n 0, 1) := by decide +kernel
theorem d_W_add_19 : decode b_W_add 19 = .ok (.getfield 11, 3) := by decide +kernel
theorem d_W_add_22 : decode b_W_add 22 = .ok (.iload 4, 2) := by decide +kernel
theorem d_W_add_24 : decode b_W_add 24 = .ok (.iconst 3, 1) := by decide +kernel
theorem d_W_add_25 : decode b_W_add 25 = .ok (.imul, 1) := by decide +kernel
theorem d_W_add_26 : decode b_W_add 26 = .ok (.iconst 1, 1) := by decide +kernel
theorem d_W_add_27 : decode b_W_add 27 = .ok (.iadd, 1) := by decide +kernel
theorem d_W_add_28 : decode b_W_add 28 = .ok (.iload_n 2, 1) := by decide +kernel
theorem d_W_add_29 : decode b_W_add 29 = .ok (.iastore, 1) := by decide +kernel
theorem d_W_add_30 : decode b_W_add 30 = .ok (.aload_n 0, 1) := by decide +kernel
theorem d_W_add_31 : decode b_W_add 31 = .ok (.getfield 11, 3) := by decide +kernel
theorem d_W_add_34 : decode b_W_add 34 = .ok (.iload 4, 2) := by decide +kernel
theorem d_W_add_36 : decode b_W_add 36 = .ok (.iconst 3, 1) := by decide +kernel
theorem d_W_add_37 : decode b_W_add 37 = .ok (.imul, 1) := by decide +kernel
theorem d_W_add_38 : decode b_W_add 38 = .ok (.iconst 2, 1) := by decide +kernel
theorem d_W_add_39 : decode b_W_add 39 = .ok (.iadd, 1) := by decide +kernel
theorem d_W_add_40 : decode b_W_add 40 = .ok (.iload_n 3, 1) := by decide +kernel
theorem d_W_add_41 : decode b_W_add 41 = .ok (.iastore, 1) := by decide +kernel
theorem d_W_add_42 : decode b_W_add 42 = .ok (.aload_n 0, 1) := by decide +kernel
theorem d_W_add_43 : decode b_W_add 43 = .ok (.dup, 1) := by decide +kernel
theorem d_W_add_44 : decode b_W_add 44 = .ok (.getfield 15, 3) := by decide +kernel
theorem d_W_add_47 : decode b_W_add 47 = .ok (.iconst 1, 1) := by decide +kernel
theorem d_W_add_48 : decode b_W_add 48 = .ok (.iadd, 1) := by decide +kernel
theorem d_W_add_49 : decode b_W_add 49 = .ok (.putfield 15, 3) := by decide +kernel
theorem d_W_add_52 : decode b_W_add 52 = .ok (.iload 4, 2) := by decide +kernel
theorem d_W_add_54 : decode b_W_add 54 = .ok (.ireturn, 1) := by decide +kernel
theorem d_W_replace_0 : decode b_W_replace 0 = .ok (.iconst 0, 1) := by decide +kernel
theorem d_W_replace_1 : decode b_W_replace 1 = .ok (.istore_n 3, 1) := by decide +kernel
theorem d_W_replace_2 : decode b_W_replace 2 = .ok (.iconst 0, 1) := by decide +kernel
theorem d_W_replace_3 : decode b_W_replace 3 = .ok (.istore 4, 2) := by decide +kernel
theorem d_W_replace_5 : decode b_W_replace 5 = .ok (.iload 4, 2) := by decide +kernel
theorem d_W_replace_7 : decode b_W_replace 7 = .ok (.aload_n 0, 1) := by decide +kernel
theorem d_W_replace_8 : decode b_W_replace 8 = .ok (.getfield 15, 3) := by decide +kernel
theorem d_W_replace_11 : decode b_W_replace 11 = .ok (.iconst 3, 1) := by decide +kernel
theorem d_W_replace_12 : decode b_W_replace 12 = .ok (.imul, 1) := by decide +kernel
theorem d_W_replace_13 : decode b_W_replace 13 = .ok (.if_icmp .ge 31, 3) := by decide +kernel
theorem d_W_replace_16 : decode b_W_replace 16 = .ok (.aload_n 0, 1) := by decide +kernel
theorem d_W_replace_17 : decode b_W_replace 17 = .ok (.getfield 11, 3) := by decide +kernel
theorem d_W_replace_20 : decode b_W_replace 20 = .ok (.iload 4, 2) := by decide +kernel
theorem d_W_replace_22 : decode b_W_replace 22 = .ok (.iaload, 1) := by decide +kernel
theorem d_W_replace_23 : decode b_W_replace 23 = .ok (.iload_n 1, 1) := by decide +kernel
theorem d_W_replace_24 : decode b_W_replace 24 = .ok (.if_icmp .ne 14, 3) := by decide +kernel
theorem d_W_replace_27 : decode b_W_replace 27 = .ok (.aload_n 0, 1) := by decide +kernel
theorem d_W_replace_28 : decode b_W_replace 28 = .ok (.getfield 11, 3) := by decide +kernel
theorem d_W_replace_31 : decode b_W_replace 31 = .ok (.iload 4, 2) := by decide +kernel
theorem d_W_replace_33 : decode b_W_replace 33 = .ok (.iload_n 2, 1) := by decide +kernel
theorem d_W_replace_34 : decode b_W_replace 34 = .ok (.iastore, 1) := by decide +kernel
theorem d_W_replace_35 : decode b_W_replace 35 = .ok (.iinc 3 1, 3) := by decide +kernel
theorem d_W_replace_38 : decode b_W_replace 38 = .ok (.iinc 4 1, 3) := by decide +kernel
theorem d_W_replace_41 : decode b_W_replace 41 = .ok (.goto (-36), 3) := by decide +kernel
theorem d_W_replace_44 : decode b_W_replace 44 = .ok (.iload_n 3, 1) := by decide +kernel
theorem d_W_replace_45 : decode b_W_replace 45 = .ok (.ireturn, 1) := by decide +kernel
theorem d_H_init_0 : decode b_H_init 0 = .ok (.aload_n 0, 1) := by decide +kernel
theorem d_H_init_1 : decode b_H_init 1 = .ok (.invokespecial 3, 3) := by decide +kernel
theorem d_H_init_4 : decode b_H_init 4 = .ok (.aload_n 0, 1) := by decide +kernel
theorem d_H_init_5 : decode b_H_init 5 = .ok (.aload_n 1, 1) := by decide +kernel
theorem d_H_init_6 : decode b_H_init 6 = .ok (.putfield 9, 3) := by decide +kernel
theorem d_H_init_9 : decode b_H_init 9 = .ok (.aload_n 0, 1) := by decide +kernel
theorem d_H_init_10 : decode b_H_init 10 = .ok (.bipush 60, 2) := by decide +kernel
theorem d_H_init_12 : decode b_H_init 12 = .ok (.newarray .int, 2) := by decide +kernel
theorem d_H_init_14 : decode b_H_init 14 = .ok (.putfield 15, 3) := by decide +kernel
theorem d_H_init_17 : decode b_H_init 17 = .ok (.aload_n 0, 1) := by decide +kernel
theorem d_H_init_18 : decode b_H_init 18 = .ok (.bipush 60, 2) := by decide +kernel
theorem d_H_init_20 : decode b_H_init 20 = .ok (.newarray .int, 2) := by decide +kernel
theorem d_H_init_22 : decode b_H_init 22 = .ok (.putfield 19, 3) := by decide +kernel
theorem d_H_init_25 : decode b_H_init 25 = .ok (.iconst 0, 1) := by decide +kernel
theorem d_H_init_26 : decode b_H_init 26 = .ok (.istore_n 2, 1) := by decide +kernel
theorem d_H_init_27 : decode b_H_init 27 = .ok (.iload_n 2, 1) := by decide +kernel
theorem d_H_init_28 : decode b_H_init 28 = .ok (.bipush 60, 2) := by decide +kernel
theorem d_H_init_30 : decode b_H_init 30 = .ok (.if_icmp .ge 23, 3) := by decide +kernel
theorem d_H_init_33 : decode b_H_init 33 = .ok (.aload_n 0, 1) := by decide +kernel
theorem d_H_init_34 : decode b_H_init 34 = .ok (.getfield 15, 3) := by decide +kernel
theorem d_H_init_37 : decode b_H_init 37 = .ok (.iload_n 2, 1) := by decide +kernel
theorem d_H_init_38 : decode b_H_init 38 = .ok (.iconst (-1), 1) := by decide +kernel
theorem d_H_init_39 : decode b_H_init 39 = .ok (.iastore, 1) := by decide +kernel
theorem d_H_init_40 : decode b_H_init 40 = .ok (.aload_n 0, 1) := by decide +kernel
theorem d_H_init_41 : decode b_H_init 41 = .ok (.getfield 19, 3) := by decide +kernel
theorem d_H_init_44 : decode b_H_init 44 = .ok (.iload_n 2, 1) := by decide +kernel
theorem d_H_init_45 : decode b_H_init 45 = .ok (.iconst (-1), 1) := by decide +kernel
theorem d_H_init_46 : decode b_H_init 46 = .ok (.iastore, 1) := by decide +kernel
theorem d_H_init_47 : decode b_H_init 47 = .ok (.iinc 2 1, 3) := by decide +kernel
theorem d_H_init_50 : decode b_H_init 50 = .ok (.goto (-23), 3) := by decide +kernel
theorem d_H_init_53 : decode b_H_init 53 = .ok (.aload_n 0, 1) := by decide +kernel
theorem d_H_init_54 : decode b_H_init 54 = .ok (.iconst 0, 1) := by decide +kernel
theorem d_H_init_55 : decode b_H_init 55 = .ok (.putfield 22, 3) := by decide +kernel
theorem d_H_init_58 : decode b_H_init 58 = .ok (.aload_n 0, 1) := by decide +kernel
theorem d_H_init_59 : decode b_H_init 59 = .ok (.iconst 0, 1) := by decide +kernel
theorem d_H_init_60 : decode b_H_init 60 = .ok (.putfield 26, 3) := by decide +kernel
theorem d_H_init_63 : decode b_H_init 63 = .ok (.return_, 1) := by decide +kernel
theorem d_H_size_0 : decode b_H_size 0 = .ok (.aload_n 0, 1) := by decide +kernel
theorem d_H_size_1 : decode b_H_size 1 = .ok (.getfield 22, 3) := by decide +kernel
theorem d_H_size_4 : decode b_H_size 4 = .ok (.ireturn, 1) := by decide +kernel
theorem d_H_spaces_0 : decode b_H_spaces 0 = .ok (.aload_n 0, 1) := by decide +kernel
theorem d_H_spaces_1 : decode b_H_spaces 1 = .ok (.getfield 26, 3) := by decide +kernel
theorem d_H_spaces_4 : decode b_H_spaces 4 = .ok (.ireturn, 1) := by decide +kernel
theorem d_H_spaceOfShort_0 : decode b_H_spaceOfShort 0 = .ok (.aload_n 0, 1) := by decide +kernel
theorem d_H_spaceOfShort_1 : decode b_H_spaceOfShort 1 = .ok (.getfield 15, 3) := by decide +kernel
theorem d_H_spaceOfShort_4 : decode b_H_spaceOfShort 4 = .ok (.iload_n 1, 1) := by decide +kernel
theorem d_H_spaceOfShort_5 : decode b_H_spaceOfShort 5 = .ok (.iaload, 1) := by decide +kernel
theorem d_H_spaceOfShort_6 : decode b_H_spaceOfShort 6 = .ok (.ireturn, 1) := by decide +kernel
theorem d_H_bestOfSpace_0 : decode b_H_bestOfSpace 0 = .ok (.iload_n 1, 1) := by decide +kernel
theorem d_H_bestOfSpace_1 : decode b_H_bestOfSpace 1 = .ok (.iconst (-1), 1) := by decide +kernel
theorem d_H_bestOfSpace_2 : decode b_H_bestOfSpace 2 = .ok (.if_icmp .ne 7, 3) := by decide +kernel
theorem d_H_bestOfSpace_5 : decode b_H_bestOfSpace 5 = .ok (.iconst (-1), 1) := by decide +kernel
theorem d_H_bestOfSpace_6 : decode b_H_bestOfSpace 6 = .ok (.goto 9, 3) := by decide +kernel
theorem d_H_bestOfSpace_9 : decode b_H_bestOfSpace 9 = .ok (.aload_n 0, 1) := by decide +kernel
theorem d_H_bestOfSpace_10 : decode b_H_bestOfSpace 10 = .ok (.getfield 19, 3) := by decide +kernel
theorem d_H_bestOfSpace_13 : decode b_H_bestOfSpace 13 = .ok (.iload_n 1, 1) := by decide +kernel
theorem d_H_bestOfSpace_14 : decode b_H_bestOfSpace 14 = .ok (.iaload, 1) := by decide +kernel
theorem d_H_bestOfSpace_15 : decode b_H_bestOfSpace 15 = .ok (.ireturn, 1) := by decide +kernel
theorem d_H_isShort_0 : decode b_H_isShort 0 = .ok (.aload_n 0, 1) := by decide +kernel
theorem d_H_isShort_1 : decode b_H_isShort 1 = .ok (.getfield 9, 3) := by decide +kernel
theorem d_H_isShort_4 : decode b_H_isShort 4 = .ok (.aload_n 1, 1) := by decide +kernel
theorem d_H_isShort_5 : decode b_H_isShort 5 = .ok (.invokevirtual 29, 3) := by decide +kernel
theorem d_H_isShort_8 : decode b_H_isShort 8 = .ok (.istore_n 2, 1) := by decide +kernel
theorem d_H_isShort_9 : decode b_H_isShort 9 = .ok (.iload_n 2, 1) := by decide +kernel
theorem d_H_isShort_10 : decode b_H_isShort 10 = .ok (.iconst (-1), 1) := by decide +kernel
theorem d_H_isShort_11 : decode b_H_isShort 11 = .ok (.if_icmp .eq 17, 3) := by decide +kernel
theorem d_H_isShort_14 : decode b_H_isShort 14 = .ok (.aload_n 0, 1) := by decide +kernel
theorem d_H_isShort_15 : decode b_H_isShort 15 = .ok (.getfield 15, 3) := by decide +kernel
theorem d_H_isShort_18 : decode b_H_isShort 18 = .ok (.iload_n 2, 1) := by decide +kernel
theorem d_H_isShort_19 : decode b_H_isShort 19 = .ok (.iaload, 1) := by decide +kernel
theorem d_H_isShort_20 : decode b_H_isShort 20 = .ok (.iconst (-1), 1) := by decide +kernel
theorem d_H_isShort_21 : decode b_H_isShort 21 = .ok (.if_icmp .eq 7, 3) := by decide +kernel
theorem d_H_isShort_24 : decode b_H_isShort 24 = .ok (.iconst 1, 1) := by decide +kernel
theorem d_H_isShort_25 : decode b_H_isShort 25 = .ok (.goto 4, 3) := by decide +kernel
theorem d_H_isShort_28 : decode b_H_isShort 28 = .ok (.iconst 0, 1) := by decide +kernel
theorem d_H_isShort_29 : decode b_H_isShort 29 = .ok (.ireturn, 1) := by decide +kernel
theorem d_H_add_0 : decode b_H_add 0 = .ok (.aload_n 0, 1) := by decide +kernel
theorem d_H_add_1 : decode b_H_add 1 = .ok (.getfield 15, 3) := by decide +kernel
theorem d_H_add_4 : decode b_H_add 4 = .ok (.iload_n 2, 1) := by decide +kernel
theorem d_H_add_5 : decode b_H_add 5 = .ok (.iload_n 1, 1) := by decide +kernel
theorem d_H_add_6 : decode b_H_add 6 = .ok (.iastore, 1) := by decide +kernel
theorem d_H_add_7 : decode b_H_add 7 = .ok (.aload_n 0, 1) := by decide +kernel
theorem d_H_add_8 : decode b_H_add 8 = .ok (.dup, 1) := by decide +kernel
theorem d_H_add_9 : decode b_H_add 9 = .ok (.getfield 22, 3) := by decide +kernel
theorem d_H_add_12 : decode b_H_add 12 = .ok (.iconst 1, 1) := by decide +kernel
theorem d_H_add_13 : decode b_H_add 13 = .ok (.iadd, 1) := by decide +kernel
theorem d_H_add_14 : decode b_H_add 14 = .ok (.putfield 22, 3) := by decide +kernel
theorem d_H_add_17 : decode b_H_add 17 = .ok (.aload_n 0, 1) := by decide +kernel
theorem d_H_add_18 : decode b_H_add 18 = .ok (.getfield 19, 3) := by decide +kernel
theorem d_H_add_21 : decode b_H_add 21 = .ok (.iload_n 1, 1) := by decide +kernel
theorem d_H_add_22 : decode b_H_add 22 = .ok (.iaload, 1) := by decide +kernel
theorem d_H_add_23 : decode b_H_add 23 = .ok (.istore_n 3, 1) := by decide +kernel
theorem d_H_add_24 : decode b_H_add 24 = .ok (.iload_n 3, 1) := by decide +kernel
theorem d_H_add_25 : decode b_H_add 25 = .ok (.iconst (-1), 1) := by decide +kernel
theorem d_H_add_26 : decode b_H_add 26 = .ok (.if_icmp .ne 13, 3) := by decide +kernel
theorem d_H_add_29 : decode b_H_add 29 = .ok (.aload_n 0, 1) := by decide +kernel
theorem d_H_add_30 : decode b_H_add 30 = .ok (.dup, 1) := by decide +kernel
theorem d_H_add_31 : decode b_H_add 31 = .ok (.getfield 26, 3) := by decide +kernel
theorem d_H_add_34 : decode b_H_add 34 = .ok (.iconst 1, 1) := by decide +kernel
theorem d_H_add_35 : decode b_H_add 35 = .ok (.iadd, 1) := by decide +kernel
theorem d_H_add_36 : decode b_H_add 36 = .ok (.putfield 26, 3) := by decide +kernel
theorem d_H_add_39 : decode b_H_add 39 = .ok (.iload_n 3, 1) := by decide +kernel
theorem d_H_add_40 : decode b_H_add 40 = .ok (.iconst (-1), 1) := by decide +kernel
theorem d_H_add_41 : decode b_H_add 41 = .ok (.if_icmp .eq 25, 3) := by decide +kernel
theorem d_H_add_44 : decode b_H_add 44 = .ok (.aload_n 0, 1) := by decide +kernel
theorem d_H_add_45 : decode b_H_add 45 = .ok (.getfield 9, 3) := by decide +kernel
theorem d_H_add_48 : decode b_H_add 48 = .ok (.iload_n 2, 1) := by decide +kernel
theorem d_H_add_49 : decode b_H_add 49 = .ok (.invokevirtual 35, 3) := by decide +kernel
theorem d_H_add_52 : decode b_H_add 52 = .ok (.aload_n 0, 1) := by decide +kernel
theorem d_H_add_53 : decode b_H_add 53 = .ok (.getfield 9, 3) := by decide +kernel
theorem d_H_add_56 : decode b_H_add 56 = .ok (.iload_n 3, 1) := by decide +kernel
theorem d_H_add_57 : decode b_H_add 57 = .ok (.invokevirtual 35, 3) := by decide +kernel
theorem d_H_add_60 : decode b_H_add 60 = .ok (.invokevirtual 39, 3) := by decide +kernel
theorem d_H_add_63 : decode b_H_add 63 = .ok (.ifCond .eq 10, 3) := by decide +kernel
theorem d_H_add_66 : decode b_H_add 66 = .ok (.aload_n 0, 1) := by decide +kernel
theorem d_H_add_67 : decode b_H_add 67 = .ok (.getfield 19, 3) := by decide +kernel
theorem d_H_add_70 : decode b_H_add 70 = .ok (.iload_n 1, 1) := by decide +kernel
theorem d_H_add_71 : decode b_H_add 71 = .ok (.iload_n 2, 1) := by decide +kernel
theorem d_H_add_72 : decode b_H_add 72 = .ok (.iastore, 1) := by decide +kernel
theorem d_H_add_73 : decode b_H_add 73 = .ok (.return_, 1) := by decide +kernel
theorem d_H_spaceOfName_0 : decode b_H_spaceOfName 0 = .ok (.aload_n 0, 1) := by decide +kernel
theorem d_H_spaceOfName_1 : decode b_H_spaceOfName 1 = .ok (.getfield 9, 3) := by decide +kernel
theorem d_H_spaceOfName_4 : decode b_H_spaceOfName 4 = .ok (.iload_n 1, 1) := by decide +kernel
theorem d_H_spaceOfName_5 : decode b_H_spaceOfName 5 = .ok (.invokevirtual 35, 3) := by decide +kernel
theorem d_H_spaceOfName_8 : decode b_H_spaceOfName 8 = .ok (.astore_n 2, 1) := by decide +kernel
theorem d_H_spaceOfName_9 : decode b_H_spaceOfName 9 = .ok (.iconst (-1), 1) := by decide +kernel
theorem d_H_spaceOfName_10 : decode b_H_spaceOfName 10 = .ok (.istore_n 3, 1) := by decide +kernel
theorem d_H_spaceOfName_11 : decode b_H_spaceOfName 11 = .ok (.iconst 0, 1) := by decide +kernel
theorem d_H_spaceOfName_12 : decode b_H_spaceOfName 12 = .ok (.istore 4, 2) := by decide +kernel
theorem d_H_spaceOfName_14 : decode b_H_spaceOfName 14 = .ok (.iconst 0, 1) := by decide +kernel
theorem d_H_spaceOfName_15 : decode b_H_spaceOfName 15 = .ok (.istore 5, 2) := by decide +kernel
theorem d_H_spaceOfName_17 : decode b_H_spaceOfName 17 = .ok (.iload 5, 2) := by decide +kernel
theorem d_H_spaceOfName_19 : decode b_H_spaceOfName 19 = .ok (.aload_n 0, 1) := by decide +kernel
theorem d_H_spaceOfName_20 : decode b_H_spaceOfName 20 = .ok (.getfield 9, 3) := by decide +kernel
theorem d_H_spaceOfName_23 : decode b_H_spaceOfName 23 = .ok (.invokevirtual 45, 3) := by decide +kernel
theorem d_H_spaceOfName_26 : decode b_H_spaceOfName 26 = .ok (.if_icmp .ge 60, 3) := by decide +kernel
theorem d_H_spaceOfName_29 : decode b_H_spaceOfName 29 = .ok (.aload_n 0, 1) := by decide +kernel
theorem d_H_spaceOfName_30 : decode b_H_spaceOfName 30 = .ok (.getfield 9, 3) := by decide +kernel
theorem d_H_spaceOfName_33 : decode b_H_spaceOfName 33 = .ok (.iload 5, 2) := by decide +kernel
theorem d_H_spaceOfName_35 : decode b_H_spaceOfName 35 = .ok (.invokevirtual 35, 3) := by decide +kernel
theorem d_H_spaceOfName_38 : decode b_H_spaceOfName 38 = .ok (.astore 6, 2) := by decide +kernel
theorem d_H_spaceOfName_40 : decode b_H_spaceOfName 40 = .ok (.aload_n 0, 1) := by decide +kernel
theorem d_H_spaceOfName_41 : decode b_H_spaceOfName 41 = .ok (.getfield 19, 3) := by decide +kernel
theorem d_H_spaceOfName_44 : decode b_H_spaceOfName 44 = .ok (.iload 5, 2) := by decide +kernel
theorem d_H_spaceOfName_46 : decode b_H_spaceOfName 46 = .ok (.iaload, 1) := by decide +kernel
theorem d_H_spaceOfName_47 : decode b_H_spaceOfName 47 = .ok (.iconst (-1), 1) := by decide +kernel
theorem d_H_spaceOfName_48 : decode b_H_spaceOfName 48 = .ok (.if_icmp .eq 32, 3) := by decide +kernel
theorem d_H_spaceOfName_51 : decode b_H_spaceOfName 51 = .ok (.aload 6, 2) := by decide +kernel
theorem d_H_spaceOfName_53 : decode b_H_spaceOfName 53 = .ok (.invokevirtual 48, 3) := by decide +kernel
theorem d_H_spaceOfName_56 : decode b_H_spaceOfName 56 = .ok (.iload 4, 2) := by decide +kernel
theorem d_H_spaceOfName_58 : decode b_H_spaceOfName 58 = .ok (.if_icmp .le 22, 3) := by decide +kernel
theorem d_H_spaceOfName_61 : decode b_H_spaceOfName 61 = .ok (.aload_n 2, 1) := by decide +kernel
theorem d_H_spaceOfName_62 : decode b_H_spaceOfName 62 = .ok (.aload 6, 2) := by decide +kernel
theorem d_H_spaceOfName_64 : decode b_H_spaceOfName 64 = .ok (.invokevirtual 51, 3) := by decide +kernel
theorem d_H_spaceOfName_67 : decode b_H_spaceOfName 67 = .ok (.ifCond .eq 13, 3) := by decide +kernel
theorem d_H_spaceOfName_70 : decode b_H_spaceOfName 70 = .ok (.iload 5, 2) := by decide +kernel
theorem d_H_spaceOfName_72 : decode b_H_spaceOfName 72 = .ok (.istore_n 3, 1) := by decide +kernel
theorem d_H_spaceOfName_73 : decode b_H_spaceOfName 73 = .ok (.aload 6, 2) := by decide +kernel
theorem d_H_spaceOfName_75 : decode b_H_spaceOfName 75 = .ok (.invokevirtual 48, 3) := by decide +kernel
theorem d_H_spaceOfName_78 : decode b_H_spaceOfName 78 = .ok (.istore 4, 2) := by decide +kernel
theorem d_H_spaceOfName_80 : decode b_H_spaceOfName 80 = .ok (.iinc 5 1, 3) := by decide +kernel
theorem d_H_spaceOfName_83 : decode b_H_spaceOfName 83 = .ok (.goto (-66), 3) := by decide +kernel
theorem d_H_spaceOfName_86 : decode b_H_spaceOfName 86 = .ok (.iload_n 3, 1) := by decide +kernel
theorem d_H_spaceOfName_87 : decode b_H_spaceOfName 87 = .ok (.ireturn, 1) := by decide +kernel
theorem d_G_init_0 : decode b_G_init 0 = .ok (.aload_n 0, 1) := by decide +kernel
theorem d_G_init_1 : decode b_G_init 1 = .ok (.invokespecial 3, 3) := by decide +kernel
theorem d_G_init_4 : decode b_G_init 4 = .ok (.aload_n 0, 1) := by decide +kernel
theorem d_G_init_5 : decode b_G_init 5 = .ok (.bipush 60, 2) := by decide +kernel
theorem d_G_init_7 : decode b_G_init 7 = .ok (.newarray .int, 2) := by decide +kernel
theorem d_G_init_9 : decode b_G_init 9 = .ok (.putfield 9, 3) := by decide +kernel
theorem d_G_init_12 : decode b_G_init 12 = .ok (.iconst 0, 1) := by decide +kernel
theorem d_G_init_13 : decode b_G_init 13 = .ok (.istore_n 1, 1) := by decide +kernel
theorem d_G_init_14 : decode b_G_init 14 = .ok (.iload_n 1, 1) := by decide +kernel
theorem d_G_init_15 : decode b_G_init 15 = .ok (.aload_n 0, 1) := by decide +kernel
theorem d_G_init_16 : decode b_G_init 16 = .ok (.getfield 9, 3) := by decide +kernel
theorem d_G_init_19 : decode b_G_init 19 = .ok (.arraylength, 1) := by decide +kernel
theorem d_G_init_20 : decode b_G_init 20 = .ok (.if_icmp .ge 16, 3) := by decide +kernel
theorem d_G_init_23 : decode b_G_init 23 = .ok (.aload_n 0, 1) := by decide +kernel
theorem d_G_init_24 : decode b_G_init 24 = .ok (.getfield 9, 3) := by decide +kernel
theorem d_G_init_27 : decode b_G_init 27 = .ok (.iload_n 1, 1) := by decide +kernel
theorem d_G_init_28 : decode b_G_init 28 = .ok (.iconst (-1), 1) := by decide +kernel
theorem d_G_init_29 : decode b_G_init 29 = .ok (.iastore, 1) := by decide +kernel
theorem d_G_init_30 : decode b_G_init 30 = .ok (.iinc 1 1, 3) := by decide +kernel
theorem d_G_init_33 : decode b_G_init 33 = .ok (.goto (-19), 3) := by decide +kernel
theorem d_G_init_36 : decode b_G_init 36 = .ok (.return_, 1) := by decide +kernel
theorem d_G_next_0 : decode b_G_next 0 = .ok (.aload_n 0, 1) := by decide +kernel
theorem d_G_next_1 : decode b_G_next 1 = .ok (.getfield 9, 3) := by decide +kernel
theorem d_G_next_4 : decode b_G_next 4 = .ok (.iload_n 1, 1) := by decide +kernel
theorem d_G_next_5 : decode b_G_next 5 = .ok (.iaload, 1) := by decide +kernel
theorem d_G_next_6 : decode b_G_next 6 = .ok (.ireturn, 1) := by decide +kernel
theorem d_G_set_0 : decode b_G_set 0 = .ok (.aload_n 0, 1) := by decide +kernel
theorem d_G_set_1 : decode b_G_set 1 = .ok (.getfield 9, 3) := by decide +kernel
theorem d_G_set_4 : decode b_G_set 4 = .ok (.iload_n 1, 1) := by decide +kernel
theorem d_G_set_5 : decode b_G_set 5 = .ok (.iload_n 2, 1) := by decide +kernel
theorem d_G_set_6 : decode b_G_set 6 = .ok (.iastore, 1) := by decide +kernel
theorem d_G_set_7 : decode b_G_set 7 = .ok (.return_, 1) := by decide +kernel
theorem d_G_end_0 : decode b_G_end 0 = .ok (.iload_n 1, 1) := by decide +kernel
theorem d_G_end_1 : decode b_G_end 1 = .ok (.istore_n 2, 1) := by decide +kernel
theorem d_G_end_2 : decode b_G_end 2 = .ok (.iconst 0, 1) := by decide +kernel
theorem d_G_end_3 : decode b_G_end 3 = .ok (.istore_n 3, 1) := by decide +kernel
theorem d_G_end_4 : decode b_G_end 4 = .ok (.iload_n 3, 1) := by decide +kernel
theorem d_G_end_5 : decode b_G_end 5 = .ok (.bipush 60, 2) := by decide +kernel
theorem d_G_end_7 : decode b_G_end 7 = .ok (.if_icmp .ge 26, 3) := by decide +kernel
theorem d_G_end_10 : decode b_G_end 10 = .ok (.aload_n 0, 1) := by decide +kernel
theorem d_G_end_11 : decode b_G_end 11 = .ok (.getfield 9, 3) := by decide +kernel
theorem d_G_end_14 : decode b_G_end 14 = .ok (.iload_n 2, 1) := by decide +kernel
theorem d_G_end_15 : decode b_G_end 15 = .ok (.iaload, 1) := by decide +kernel
theorem d_G_end_16 : decode b_G_end 16 = .ok (.iconst (-1), 1) := by decide +kernel
theorem d_G_end_17 : decode b_G_end 17 = .ok (.if_icmp .eq 16, 3) := by decide +kernel
theorem d_G_end_20 : decode b_G_end 20 = .ok (.aload_n 0, 1) := by decide +kernel
theorem d_G_end_21 : decode b_G_end 21 = .ok (.getfield 9, 3) := by decide +kernel
theorem d_G_end_24 : decode b_G_end 24 = .ok (.iload_n 2, 1) := by decide +kernel
theorem d_G_end_25 : decode b_G_end 25 = .ok (.iaload, 1) := by decide +kernel
theorem d_G_end_26 : decode b_G_end 26 = .ok (.istore_n 2, 1) := by decide +kernel
theorem d_G_end_27 : decode b_G_end 27 = .ok (.iinc 3 1, 3) := by decide +kernel
theorem d_G_end_30 : decode b_G_end 30 = .ok (.goto (-26), 3) := by decide +kernel
theorem d_G_end_33 : decode b_G_end 33 = .ok (.iload_n 2, 1) := by decide +kernel
theorem d_G_end_34 : decode b_G_end 34 = .ok (.ireturn, 1) := by decide +kernel
theorem d_G_leads_0 : decode b_G_leads 0 = .ok (.iload_n 1, 1) := by decide +kernel
theorem d_G_leads_1 : decode b_G_leads 1 = .ok (.istore_n 3, 1) := by decide +kernel
theorem d_G_leads_2 : decode b_G_leads 2 = .ok (.iconst 0, 1) := by decide +kernel
theorem d_G_leads_3 : decode b_G_leads 3 = .ok (.istore 4, 2) := by decide +kernel
theorem d_G_leads_5 : decode b_G_leads 5 = .ok (.iload 4, 2) := by decide +kernel
theorem d_G_leads_7 : decode b_G_leads 7 = .ok (.bipush 60, 2) := by decide +kernel
theorem d_G_leads_9 : decode b_G_leads 9 = .ok (.if_icmp .ge 33, 3) := by decide +kernel
theorem d_G_leads_12 : decode b_G_leads 12 = .ok (.aload_n 0, 1) := by decide +kernel
theorem d_G_leads_13 : decode b_G_leads 13 = .ok (.getfield 9, 3) := by decide +kernel
theorem d_G_leads_16 : decode b_G_leads 16 = .ok (.iload_n 3, 1) := by decide +kernel
theorem d_G_leads_17 : decode b_G_leads 17 = .ok (.iaload, 1) := by decide +kernel
theorem d_G_leads_18 : decode b_G_leads 18 = .ok (.iconst (-1), 1) := by decide +kernel
theorem d_G_leads_19 : decode b_G_leads 19 = .ok (.if_icmp .eq 23, 3) := by decide +kernel
theorem d_G_leads_22 : decode b_G_leads 22 = .ok (.aload_n 0, 1) := by decide +kernel
theorem d_G_leads_23 : decode b_G_leads 23 = .ok (.getfield 9, 3) := by decide +kernel
theorem d_G_leads_26 : decode b_G_leads 26 = .ok (.iload_n 3, 1) := by decide +kernel
theorem d_G_leads_27 : decode b_G_leads 27 = .ok (.iaload, 1) := by decide +kernel
theorem d_G_leads_28 : decode b_G_leads 28 = .ok (.istore_n 3, 1) := by decide +kernel
theorem d_G_leads_29 : decode b_G_leads 29 = .ok (.iload_n 3, 1) := by decide +kernel
theorem d_G_leads_30 : decode b_G_leads 30 = .ok (.iload_n 2, 1) := by decide +kernel
theorem d_G_leads_31 : decode b_G_leads 31 = .ok (.if_icmp .ne 5, 3) := by decide +kernel
theorem d_G_leads_34 : decode b_G_leads 34 = .ok (.iconst 1, 1) := by decide +kernel
theorem d_G_leads_35 : decode b_G_leads 35 = .ok (.ireturn, 1) := by decide +kernel
theorem d_G_leads_36 : decode b_G_leads 36 = .ok (.iinc 4 1, 3) := by decide +kernel
theorem d_G_leads_39 : decode b_G_leads 39 = .ok (.goto (-34), 3) := by decide +kernel
theorem d_G_leads_42 : decode b_G_leads 42 = .ok (.iconst 0, 1) := by decide +kernel
theorem d_G_leads_43 : decode b_G_leads 43 = .ok (.ireturn, 1) := by decide +kernel
theorem d_G_replace_0 : decode b_G_replace 0 = .ok (.iconst 0, 1) := by decide +kernel
theorem d_G_replace_1 : decode b_G_replace 1 = .ok (.istore_n 3, 1) := by decide +kernel
theorem d_G_replace_2 : decode b_G_replace 2 = .ok (.iconst 0, 1) := by decide +kernel
theorem d_G_replace_3 : decode b_G_replace 3 = .ok (.istore 4, 2) := by decide +kernel
theorem d_G_replace_5 : decode b_G_replace 5 = .ok (.iload 4, 2) := by decide +kernel
theorem d_G_replace_7 : decode b_G_replace 7 = .ok (.aload_n 0, 1) := by decide +kernel
theorem d_G_replace_8 : decode b_G_replace 8 = .ok (.getfield 9, 3) := by decide +kernel
theorem d_G_replace_11 : decode b_G_replace 11 = .ok (.arraylength, 1) := by decide +kernel
theorem d_G_replace_12 : decode b_G_replace 12 = .ok (.if_icmp .ge 31, 3) := by decide +kernel
theorem d_G_replace_15 : decode b_G_replace 15 = .ok (.aload_n 0, 1) := by decide +kernel
theorem d_G_replace_16 : decode b_G_replace 16 = .ok (.getfield 9, 3) := by decide +kernel
theorem d_G_replace_19 : decode b_G_replace 19 = .ok (.iload 4, 2) := by decide +kernel
theorem d_G_replace_21 : decode b_G_replace 21 = .ok (.iaload, 1) := by decide +kernel
theorem d_G_replace_22 : decode b_G_replace 22 = .ok (.iload_n 1, 1) := by decide +kernel
theorem d_G_replace_23 : decode b_G_replace 23 = .ok (.if_icmp .ne 14, 3) := by decide +kernel
theorem d_G_replace_26 : decode b_G_replace 26 = .ok (.aload_n 0, 1) := by decide +kernel
theorem d_G_replace_27 : decode b_G_replace 27 = .ok (.getfield 9, 3) := by decide +kernel
theorem d_G_replace_30 : decode b_G_replace 30 = .ok (.iload 4, 2) := by decide +kernel
theorem d_G_replace_32 : decode b_G_replace 32 = .ok (.iload_n 2, 1) := by decide +kernel
theorem d_G_replace_33 : decode b_G_replace 33 = .ok (.iastore, 1) := by decide +kernel
theorem d_G_replace_34 : decode b_G_replace 34 = .ok (.iinc 3 1, 3) := by decide +kernel
theorem d_G_replace_37 : decode b_G_replace 37 = .ok (.iinc 4 1, 3) := by decide +kernel
theorem d_G_replace_40 : decode b_G_replace 40 = .ok (.goto (-35), 3) := by decide +kernel
theorem d_G_replace_43 : decode b_G_replace 43 = .ok (.aload_n 0, 1) := by decide +kernel
theorem d_G_replace_44 : decode b_G_replace 44 = .ok (.getfield 9, 3) := by decide +kernel
theorem d_G_replace_47 : decode b_G_replace 47 = .ok (.iload_n 1, 1) := by decide +kernel
theorem d_G_replace_48 : decode b_G_replace 48 = .ok (.iaload, 1) := by decide +kernel
theorem d_G_replace_49 : decode b_G_replace 49 = .ok (.iconst (-1), 1) := by decide +kernel
theorem d_G_replace_50 : decode b_G_replace 50 = .ok (.if_icmp .eq 25, 3) := by decide +kernel
theorem d_G_replace_53 : decode b_G_replace 53 = .ok (.aload_n 0, 1) := by decide +kernel
theorem d_G_replace_54 : decode b_G_replace 54 = .ok (.getfield 9, 3) := by decide +kernel
theorem d_G_replace_57 : decode b_G_replace 57 = .ok (.iload_n 2, 1) := by decide +kernel
theorem d_G_replace_58 : decode b_G_replace 58 = .ok (.aload_n 0, 1) := by decide +kernel
theorem d_G_replace_59 : decode b_G_replace 59 = .ok (.getfield 9, 3) := by decide +kernel
theorem d_G_replace_62 : decode b_G_replace 62 = .ok (.iload_n 1, 1) := by decide +kernel
theorem d_G_replace_63 : decode b_G_replace 63 = .ok (.iaload, 1) := by decide +kernel
theorem d_G_replace_64 : decode b_G_replace 64 = .ok (.iastore, 1) := by decide +kernel
theorem d_G_replace_65 : decode b_G_replace 65 = .ok (.aload_n 0, 1) := by decide +kernel
theorem d_G_replace_66 : decode b_G_replace 66 = .ok (.getfield 9, 3) := by decide +kernel
theorem d_G_replace_69 : decode b_G_replace 69 = .ok (.iload_n 1, 1) := by decide +kernel
theorem d_G_replace_70 : decode b_G_replace 70 = .ok (.iconst (-1), 1) := by decide +kernel
theorem d_G_replace_71 : decode b_G_replace 71 = .ok (.iastore, 1) := by decide +kernel
theorem d_G_replace_72 : decode b_G_replace 72 = .ok (.iinc 3 1, 3) := by decide +kernel
theorem d_G_replace_75 : decode b_G_replace 75 = .ok (.iload_n 3, 1) := by decide +kernel
theorem d_G_replace_76 : decode b_G_replace 76 = .ok (.ireturn, 1) := by decide +kernel
theorem d_E_init_0 : decode b_E_init 0 = .ok (.aload_n 0, 1) := by decide +kernel
theorem d_E_init_1 : decode b_E_init 1 = .ok (.invokespecial 3, 3) := by decide +kernel
theorem d_E_init_4 : decode b_E_init 4 = .ok (.aload_n 0, 1) := by decide +kernel
theorem d_E_init_5 : decode b_E_init 5 = .ok (.bipush 25, 2) := by decide +kernel
theorem d_E_init_7 : decode b_E_init 7 = .ok (.newarray .int, 2) := by decide +kernel
theorem d_E_init_9 : decode b_E_init 9 = .ok (.putfield 9, 3) := by decide +kernel
theorem d_E_init_12 : decode b_E_init 12 = .ok (.return_, 1) := by decide +kernel
theorem d_E_between_0 : decode b_E_between 0 = .ok (.aload_n 2, 1) := by decide +kernel
theorem d_E_between_1 : decode b_E_between 1 = .ok (.invokevirtual 15, 3) := by decide +kernel
theorem d_E_between_4 : decode b_E_between 4 = .ok (.bipush 24, 2) := by decide +kernel
theorem d_E_between_6 : decode b_E_between 6 = .ok (.invokestatic 21, 3) := by decide +kernel
theorem d_E_between_9 : decode b_E_between 9 = .ok (.istore_n 3, 1) := by decide +kernel
theorem d_E_between_10 : decode b_E_between 10 = .ok (.iconst 0, 1) := by decide +kernel
theorem d_E_between_11 : decode b_E_between 11 = .ok (.istore 4, 2) := by decide +kernel
theorem d_E_between_13 : decode b_E_between 13 = .ok (.iload 4, 2) := by decide +kernel
theorem d_E_between_15 : decode b_E_between 15 = .ok (.iload_n 3, 1) := by decide +kernel
theorem d_E_between_16 : decode b_E_between 16 = .ok (.if_icmp .gt 18, 3) := by decide +kernel
theorem d_E_between_19 : decode b_E_between 19 = .ok (.aload_n 0, 1) := by decide +kernel
theorem d_E_between_20 : decode b_E_between 20 = .ok (.getfield 9, 3) := by decide +kernel
theorem d_E_between_23 : decode b_E_between 23 = .ok (.iload 4, 2) := by decide +kernel
theorem d_E_between_25 : decode b_E_between 25 = .ok (.iload 4, 2) := by decide +kernel
theorem d_E_between_27 : decode b_E_between 27 = .ok (.iastore, 1) := by decide +kernel
theorem d_E_between_28 : decode b_E_between 28 = .ok (.iinc 4 1, 3) := by decide +kernel
theorem d_E_between_31 : decode b_E_between 31 = .ok (.goto (-18), 3) := by decide +kernel
theorem d_E_between_34 : decode b_E_between 34 = .ok (.iconst 1, 1) := by decide +kernel
theorem d_E_between_35 : decode b_E_between 35 = .ok (.istore 4, 2) := by decide +kernel
theorem d_E_between_37 : decode b_E_between 37 = .ok (.iload 4, 2) := by decide +kernel
theorem d_E_between_39 : decode b_E_between 39 = .ok (.aload_n 1, 1) := by decide +kernel
theorem d_E_between_40 : decode b_E_between 40 = .ok (.invokevirtual 15, 3) := by decide +kernel
theorem d_E_between_43 : decode b_E_between 43 = .ok (.if_icmp .gt 107, 3) := by decide +kernel
theorem d_E_between_46 : decode b_E_between 46 = .ok (.aload_n 0, 1) := by decide +kernel
theorem d_E_between_47 : decode b_E_between 47 = .ok (.getfield 9, 3) := by decide +kernel
theorem d_E_between_50 : decode b_E_between 50 = .ok (.iconst 0, 1) := by decide +kernel
theorem d_E_between_51 : decode b_E_between 51 = .ok (.iaload, 1) := by decide +kernel
theorem d_E_between_52 : decode b_E_between 52 = .ok (.istore 5, 2) := by decide +kernel
theorem d_E_between_54 : decode b_E_between 54 = .ok (.aload_n 0, 1) := by decide +kernel
theorem d_E_between_55 : decode b_E_between 55 = .ok (.getfield 9, 3) := by decide +kernel
theorem d_E_between_58 : decode b_E_between 58 = .ok (.iconst 0, 1) := by decide +kernel
theorem d_E_between_59 : decode b_E_between 59 = .ok (.iload 4, 2) := by decide +kernel
theorem d_E_between_61 : decode b_E_between 61 = .ok (.iastore, 1) := by decide +kernel
theorem d_E_between_62 : decode b_E_between 62 = .ok (.iconst 1, 1) := by decide +kernel
theorem d_E_between_63 : decode b_E_between 63 = .ok (.istore 6, 2) := by decide +kernel
theorem d_E_between_65 : decode b_E_between 65 = .ok (.iload 6, 2) := by decide +kernel
theorem d_E_between_67 : decode b_E_between 67 = .ok (.iload_n 3, 1) := by decide +kernel
theorem d_E_between_68 : decode b_E_between 68 = .ok (.if_icmp .gt 76, 3) := by decide +kernel
theorem d_E_between_71 : decode b_E_between 71 = .ok (.aload_n 1, 1) := by decide +kernel
theorem d_E_between_72 : decode b_E_between 72 = .ok (.iload 4, 2) := by decide +kernel
theorem d_E_between_74 : decode b_E_between 74 = .ok (.iconst 1, 1) := by decide +kernel
theorem d_E_between_75 : decode b_E_between 75 = .ok (.isub, 1) := by decide +kernel
theorem d_E_between_76 : decode b_E_between 76 = .ok (.invokevirtual 27, 3) := by decide +kernel
theorem d_E_between_79 : decode b_E_between 79 = .ok (.aload_n 2, 1) := by decide +kernel
theorem d_E_between_80 : decode b_E_between 80 = .ok (.iload 6, 2) := by decide +kernel
theorem d_E_between_82 : decode b_E_between 82 = .ok (.iconst 1, 1) := by decide +kernel
theorem d_E_between_83 : decode b_E_between 83 = .ok (.isub, 1) := by decide +kernel
theorem d_E_between_84 : decode b_E_between 84 = .ok (.invokevirtual 27, 3) := by decide +kernel
theorem d_E_between_87 : decode b_E_between 87 = .ok (.if_icmp .ne 8, 3) := by decide +kernel
theorem d_E_between_90 : decode b_E_between 90 = .ok (.iload 5, 2) := by decide +kernel
theorem d_E_between_92 : decode b_E_between 92 = .ok (.goto 7, 3) := by decide +kernel
theorem d_E_between_95 : decode b_E_between 95 = .ok (.iload 5, 2) := by decide +kernel
theorem d_E_between_97 : decode b_E_between 97 = .ok (.iconst 1, 1) := by decide +kernel
theorem d_E_between_98 : decode b_E_between 98 = .ok (.iadd, 1) := by decide +kernel
theorem d_E_between_99 : decode b_E_between 99 = .ok (.istore 7, 2) := by decide +kernel
theorem d_E_between_101 : decode b_E_between 101 = .ok (.aload_n 0, 1) := by decide +kernel
theorem d_E_between_102 : decode b_E_between 102 = .ok (.getfield 9, 3) := by decide +kernel
theorem d_E_between_105 : decode b_E_between 105 = .ok (.iload 6, 2) := by decide +kernel
theorem d_E_between_107 : decode b_E_between 107 = .ok (.iaload, 1) := by decide +kernel
theorem d_E_between_108 : decode b_E_between 108 = .ok (.istore 5, 2) := by decide +kernel
theorem d_E_between_110 : decode b_E_between 110 = .ok (.aload_n 0, 1) := by decide +kernel
theorem d_E_between_111 : decode b_E_between 111 = .ok (.getfield 9, 3) := by decide +kernel
theorem d_E_between_114 : decode b_E_between 114 = .ok (.iload 6, 2) := by decide +kernel
theorem d_E_between_116 : decode b_E_between 116 = .ok (.iload 7, 2) := by decide +kernel
theorem d_E_between_118 : decode b_E_between 118 = .ok (.iload 5, 2) := by decide +kernel
theorem d_E_between_120 : decode b_E_between 120 = .ok (.aload_n 0, 1) := by decide +kernel
theorem d_E_between_121 : decode b_E_between 121 = .ok (.getfield 9, 3) := by decide +kernel
theorem d_E_between_124 : decode b_E_between 124 = .ok (.iload 6, 2) := by decide +kernel
theorem d_E_between_126 : decode b_E_between 126 = .ok (.iconst 1, 1) := by decide +kernel
theorem d_E_between_127 : decode b_E_between 127 = .ok (.isub, 1) := by decide +kernel
theorem d_E_between_128 : decode b_E_between 128 = .ok (.iaload, 1) := by decide +kernel
theorem d_E_between_129 : decode b_E_between 129 = .ok (.invokestatic 21, 3) := by decide +kernel
theorem d_E_between_132 : decode b_E_between 132 = .ok (.iconst 1, 1) := by decide +kernel
theorem d_E_between_133 : decode b_E_between 133 = .ok (.iadd, 1) := by decide +kernel
theorem d_E_between_134 : decode b_E_between 134 = .ok (.invokestatic 21, 3) := by decide +kernel
theorem d_E_between_137 : decode b_E_between 137 = .ok (.iastore, 1) := by decide +kernel
theorem d_E_between_138 : decode b_E_between 138 = .ok (.iinc 6 1, 3) := by decide +kernel
theorem d_E_between_141 : decode b_E_between 141 = .ok (.goto (-76), 3) := by decide +kernel
theorem d_E_between_144 : decode b_E_between 144 = .ok (.iinc 4 1, 3) := by decide +kernel
theorem d_E_between_147 : decode b_E_between 147 = .ok (.goto (-110), 3) := by decide +kernel
theorem d_E_between_150 : decode b_E_between 150 = .ok (.aload_n 0, 1) := by decide +kernel
theorem d_E_between_151 : decode b_E_between 151 = .ok (.getfield 9, 3) := by decide +kernel
theorem d_E_between_154 : decode b_E_between 154 = .ok (.iload_n 3, 1) := by decide +kernel
theorem d_E_between_155 : decode b_E_between 155 = .ok (.iaload, 1) := by decide +kernel
theorem d_E_between_156 : decode b_E_between 156 = .ok (.ireturn, 1) := by decide +kernel
theorem d_T_init_0 : decode b_T_init 0 = .ok (.aload_n 0, 1) := by decide +kernel
theorem d_T_init_1 : decode b_T_init 1 = .ok (.invokespecial 3, 3) := by decide +kernel
theorem d_T_init_4 : decode b_T_init 4 = .ok (.aload_n 0, 1) := by decide +kernel
theorem d_T_init_5 : decode b_T_init 5 = .ok (.iload_n 1, 1) := by decide +kernel
theorem d_T_init_6 : decode b_T_init 6 = .ok (.newarray .char, 2) := by decide +kernel
theorem d_T_init_8 : decode b_T_init 8 = .ok (.putfield 9, 3) := by decide +kernel
theorem d_T_init_11 : decode b_T_init 11 = .ok (.aload_n 0, 1) := by decide +kernel
theorem d_T_init_12 : decode b_T_init 12 = .ok (.iconst 0, 1) := by decide +kernel
theorem d_T_init_13 : decode b_T_init 13 = .ok (.putfield 15, 3) := by decide +kernel
theorem d_T_init_16 : decode b_T_init 16 = .ok (.return_, 1) := by decide +kernel
theorem d_T_length_0 : decode b_T_length 0 = .ok (.aload_n 0, 1) := by decide +kernel
theorem d_T_length_1 : decode b_T_length 1 = .ok (.getfield 15, 3) := by decide +kernel
theorem d_T_length_4 : decode b_T_length 4 = .ok (.ireturn, 1) := by decide +kernel
theorem d_T_isEmpty_0 : decode b_T_isEmpty 0 = .ok (.aload_n 0, 1) := by decide +kernel
theorem d_T_isEmpty_1 : decode b_T_isEmpty 1 = .ok (.getfield 15, 3) := by decide +kernel
theorem d_T_isEmpty_4 : decode b_T_isEmpty 4 = .ok (.ifCond .ne 7, 3) := by decide +kernel
theorem d_T_isEmpty_7 : decode b_T_isEmpty 7 = .ok (.iconst 1, 1) := by decide +kernel
theorem d_T_isEmpty_8 : decode b_T_isEmpty 8 = .ok (.goto 4, 3) := by decide +kernel
theorem d_T_isEmpty_11 : decode b_T_isEmpty 11 = .ok (.iconst 0, 1) := by decide +kernel
theorem d_T_isEmpty_12 : decode b_T_isEmpty 12 = .ok (.ireturn, 1) := by decide +kernel
theorem d_T_isFull_0 : decode b_T_isFull 0 = .ok (.aload_n 0, 1) := by decide +kernel
theorem d_T_isFull_1 : decode b_T_isFull 1 = .ok (.getfield 15, 3) := by decide +kernel
theorem d_T_isFull_4 : decode b_T_isFull 4 = .ok (.aload_n 0, 1) := by decide +kernel
theorem d_T_isFull_5 : decode b_T_isFull 5 = .ok (.getfield 9, 3) := by decide +kernel
theorem d_T_isFull_8 : decode b_T_isFull 8 = .ok (.arraylength, 1) := by decide +kernel
theorem d_T_isFull_9 : decode b_T_isFull 9 = .ok (.if_icmp .lt 7, 3) := by decide +kernel
theorem d_T_isFull_12 : decode b_T_isFull 12 = .ok (.iconst 1, 1) := by decide +kernel
theorem d_T_isFull_13 : decode b_T_isFull 13 = .ok (.goto 4, 3) := by decide +kernel
theorem d_T_isFull_16 : decode b_T_isFull 16 = .ok (.iconst 0, 1) := by decide +kernel
theorem d_T_isFull_17 : decode b_T_isFull 17 = .ok (.ireturn, 1) := by decide +kernel
theorem d_T_at_0 : decode b_T_at 0 = .ok (.iload_n 1, 1) := by decide +kernel
theorem d_T_at_1 : decode b_T_at 1 = .ok (.ifCond .lt 20, 3) := by decide +kernel
theorem d_T_at_4 : decode b_T_at 4 = .ok (.iload_n 1, 1) := by decide +kernel
theorem d_T_at_5 : decode b_T_at 5 = .ok (.aload_n 0, 1) := by decide +kernel
theorem d_T_at_6 : decode b_T_at 6 = .ok (.getfield 15, 3) := by decide +kernel
theorem d_T_at_9 : decode b_T_at 9 = .ok (.if_icmp .ge 12, 3) := by decide +kernel
theorem d_T_at_12 : decode b_T_at 12 = .ok (.aload_n 0, 1) := by decide +kernel
theorem d_T_at_13 : decode b_T_at 13 = .ok (.getfield 9, 3) := by decide +kernel
theorem d_T_at_16 : decode b_T_at 16 = .ok (.iload_n 1, 1) := by decide +kernel
theorem d_T_at_17 : decode b_T_at 17 = .ok (.caload, 1) := by decide +kernel
theorem d_T_at_18 : decode b_T_at 18 = .ok (.goto 4, 3) := by decide +kernel
theorem d_T_at_21 : decode b_T_at 21 = .ok (.iconst 0, 1) := by decide +kernel
theorem d_T_at_22 : decode b_T_at 22 = .ok (.ireturn, 1) := by decide +kernel
theorem d_T_empty_0 : decode b_T_empty 0 = .ok (.aload_n 0, 1) := by decide +kernel
theorem d_T_empty_1 : decode b_T_empty 1 = .ok (.iconst 0, 1) := by decide +kernel
theorem d_T_empty_2 : decode b_T_empty 2 = .ok (.putfield 15, 3) := by decide +kernel
theorem d_T_empty_5 : decode b_T_empty 5 = .ok (.return_, 1) := by decide +kernel
theorem d_T_put_0 : decode b_T_put 0 = .ok (.aload_n 0, 1) := by decide +kernel
theorem d_T_put_1 : decode b_T_put 1 = .ok (.getfield 15, 3) := by decide +kernel
theorem d_T_put_4 : decode b_T_put 4 = .ok (.aload_n 0, 1) := by decide +kernel
theorem d_T_put_5 : decode b_T_put 5 = .ok (.getfield 9, 3) := by decide +kernel
theorem d_T_put_8 : decode b_T_put 8 = .ok (.arraylength, 1) := by decide +kernel
theorem d_T_put_9 : decode b_T_put 9 = .ok (.if_icmp .ge 23, 3) := by decide +kernel
theorem d_T_put_12 : decode b_T_put 12 = .ok (.aload_n 0, 1) := by decide +kernel
theorem d_T_put_13 : decode b_T_put 13 = .ok (.getfield 9, 3) := by decide +kernel
theorem d_T_put_16 : decode b_T_put 16 = .ok (.aload_n 0, 1) := by decide +kernel
theorem d_T_put_17 : decode b_T_put 17 = .ok (.getfield 15, 3) := by decide +kernel
theorem d_T_put_20 : decode b_T_put 20 = .ok (.iload_n 1, 1) := by decide +kernel
theorem d_T_put_21 : decode b_T_put 21 = .ok (.castore, 1) := by decide +kernel
theorem d_T_put_22 : decode b_T_put 22 = .ok (.aload_n 0, 1) := by decide +kernel
theorem d_T_put_23 : decode b_T_put 23 = .ok (.dup, 1) := by decide +kernel
theorem d_T_put_24 : decode b_T_put 24 = .ok (.getfield 15, 3) := by decide +kernel
theorem d_T_put_27 : decode b_T_put 27 = .ok (.iconst 1, 1) := by decide +kernel
theorem d_T_put_28 : decode b_T_put 28 = .ok (.iadd, 1) := by decide +kernel
theorem d_T_put_29 : decode b_T_put 29 = .ok (.putfield 15, 3) := by decide +kernel
theorem d_T_put_32 : decode b_T_put 32 = .ok (.return_, 1) := by decide +kernel
theorem d_T_putPart_0 : decode b_T_putPart 0 = .ok (.iload_n 2, 1) := by decide +kernel
theorem d_T_putPart_1 : decode b_T_putPart 1 = .ok (.istore 4, 2) := by decide +kernel
theorem d_T_putPart_3 : decode b_T_putPart 3 = .ok (.iload 4, 2) := by decide +kernel
theorem d_T_putPart_5 : decode b_T_putPart 5 = .ok (.iload_n 3, 1) := by decide +kernel
theorem d_T_putPart_6 : decode b_T_putPart 6 = .ok (.if_icmp .ge 19, 3) := by decide +kernel
theorem d_T_putPart_9 : decode b_T_putPart 9 = .ok (.aload_n 0, 1) := by decide +kernel
theorem d_T_putPart_10 : decode b_T_putPart 10 = .ok (.aload_n 1, 1) := by decide +kernel
theorem d_T_putPart_11 : decode b_T_putPart 11 = .ok (.iload 4, 2) := by decide +kernel
theorem d_T_putPart_13 : decode b_T_putPart 13 = .ok (.invokevirtual 19, 3) := by decide +kernel
theorem d_T_putPart_16 : decode b_T_putPart 16 = .ok (.invokevirtual 23, 3) := by decide +kernel
theorem d_T_putPart_19 : decode b_T_putPart 19 = .ok (.iinc 4 1, 3) := by decide +kernel
theorem d_T_putPart_22 : decode b_T_putPart 22 = .ok (.goto (-19), 3) := by decide +kernel
theorem d_T_putPart_25 : decode b_T_putPart 25 = .ok (.return_, 1) := by decide +kernel
theorem d_T_putAll_0 : decode b_T_putAll 0 = .ok (.aload_n 0, 1) := by decide +kernel
theorem d_T_putAll_1 : decode b_T_putAll 1 = .ok (.aload_n 1, 1) := by decide +kernel
theorem d_T_putAll_2 : decode b_T_putAll 2 = .ok (.iconst 0, 1) := by decide +kernel
theorem d_T_putAll_3 : decode b_T_putAll 3 = .ok (.aload_n 1, 1) := by decide +kernel
theorem d_T_putAll_4 : decode b_T_putAll 4 = .ok (.getfield 15, 3) := by decide +kernel
theorem d_T_putAll_7 : decode b_T_putAll 7 = .ok (.invokevirtual 27, 3) := by decide +kernel
theorem d_T_putAll_10 : decode b_T_putAll 10 = .ok (.return_, 1) := by decide +kernel
theorem d_T_putNumber_0 : decode b_T_putNumber 0 = .ok (.iload_n 1, 1) := by decide +kernel
theorem d_T_putNumber_1 : decode b_T_putNumber 1 = .ok (.bipush 10, 2) := by decide +kernel
theorem d_T_putNumber_3 : decode b_T_putNumber 3 = .ok (.if_icmp .lt 15, 3) := by decide +kernel
theorem d_T_putNumber_6 : decode b_T_putNumber 6 = .ok (.aload_n 0, 1) := by decide +kernel
theorem d_T_putNumber_7 : decode b_T_putNumber 7 = .ok (.bipush 48, 2) := by decide +kernel
theorem d_T_putNumber_9 : decode b_T_putNumber 9 = .ok (.iload_n 1, 1) := by decide +kernel
theorem d_T_putNumber_10 : decode b_T_putNumber 10 = .ok (.bipush 10, 2) := by decide +kernel
theorem d_T_putNumber_12 : decode b_T_putNumber 12 = .ok (.idiv, 1) := by decide +kernel
theorem d_T_putNumber_13 : decode b_T_putNumber 13 = .ok (.iadd, 1) := by decide +kernel
theorem d_T_putNumber_14 : decode b_T_putNumber 14 = .ok (.i2c, 1) := by decide +kernel
theorem d_T_putNumber_15 : decode b_T_putNumber 15 = .ok (.invokevirtual 23, 3) := by decide +kernel
theorem d_T_putNumber_18 : decode b_T_putNumber 18 = .ok (.aload_n 0, 1) := by decide +kernel
theorem d_T_putNumber_19 : decode b_T_putNumber 19 = .ok (.bipush 48, 2) := by decide +kernel
theorem d_T_putNumber_21 : decode b_T_putNumber 21 = .ok (.iload_n 1, 1) := by decide +kernel
theorem d_T_putNumber_22 : decode b_T_putNumber 22 = .ok (.bipush 10, 2) := by decide +kernel
theorem d_T_putNumber_24 : decode b_T_putNumber 24 = .ok (.irem, 1) := by decide +kernel
theorem d_T_putNumber_25 : decode b_T_putNumber 25 = .ok (.iadd, 1) := by decide +kernel
theorem d_T_putNumber_26 : decode b_T_putNumber 26 = .ok (.i2c, 1) := by decide +kernel
theorem d_T_putNumber_27 : decode b_T_putNumber 27 = .ok (.invokevirtual 23, 3) := by decide +kernel
theorem d_T_putNumber_30 : decode b_T_putNumber 30 = .ok (.return_, 1) := by decide +kernel
theorem d_T_firstPlaceOf_0 : decode b_T_firstPlaceOf 0 = .ok (.iconst 0, 1) := by decide +kernel
theorem d_T_firstPlaceOf_1 : decode b_T_firstPlaceOf 1 = .ok (.istore_n 2, 1) := by decide +kernel
theorem d_T_firstPlaceOf_2 : decode b_T_firstPlaceOf 2 = .ok (.iload_n 2, 1) := by decide +kernel
theorem d_T_firstPlaceOf_3 : decode b_T_firstPlaceOf 3 = .ok (.aload_n 0, 1) := by decide +kernel
theorem d_T_firstPlaceOf_4 : decode b_T_firstPlaceOf 4 = .ok (.getfield 15, 3) := by decide +kernel
theorem d_T_firstPlaceOf_7 : decode b_T_firstPlaceOf 7 = .ok (.if_icmp .ge 21, 3) := by decide +kernel
theorem d_T_firstPlaceOf_10 : decode b_T_firstPlaceOf 10 = .ok (.aload_n 0, 1) := by decide +kernel
theorem d_T_firstPlaceOf_11 : decode b_T_firstPlaceOf 11 = .ok (.getfield 9, 3) := by decide +kernel
theorem d_T_firstPlaceOf_14 : decode b_T_firstPlaceOf 14 = .ok (.iload_n 2, 1) := by decide +kernel
theorem d_T_firstPlaceOf_15 : decode b_T_firstPlaceOf 15 = .ok (.caload, 1) := by decide +kernel
theorem d_T_firstPlaceOf_16 : decode b_T_firstPlaceOf 16 = .ok (.iload_n 1, 1) := by decide +kernel
theorem d_T_firstPlaceOf_17 : decode b_T_firstPlaceOf 17 = .ok (.if_icmp .ne 5, 3) := by decide +kernel
theorem d_T_firstPlaceOf_20 : decode b_T_firstPlaceOf 20 = .ok (.iload_n 2, 1) := by decide +kernel
theorem d_T_firstPlaceOf_21 : decode b_T_firstPlaceOf 21 = .ok (.ireturn, 1) := by decide +kernel
theorem d_T_firstPlaceOf_22 : decode b_T_firstPlaceOf 22 = .ok (.iinc 2 1, 3) := by decide +kernel
theorem d_T_firstPlaceOf_25 : decode b_T_firstPlaceOf 25 = .ok (.goto (-23), 3) := by decide +kernel
theorem d_T_firstPlaceOf_28 : decode b_T_firstPlaceOf 28 = .ok (.iconst (-1), 1) := by decide +kernel
theorem d_T_firstPlaceOf_29 : decode b_T_firstPlaceOf 29 = .ok (.ireturn, 1) := by decide +kernel
theorem d_T_lastPlaceOf_0 : decode b_T_lastPlaceOf 0 = .ok (.aload_n 0, 1) := by decide +kernel
theorem d_T_lastPlaceOf_1 : decode b_T_lastPlaceOf 1 = .ok (.getfield 15, 3) := by decide +kernel
theorem d_T_lastPlaceOf_4 : decode b_T_lastPlaceOf 4 = .ok (.iconst 1, 1) := by decide +kernel
theorem d_T_lastPlaceOf_5 : decode b_T_lastPlaceOf 5 = .ok (.isub, 1) := by decide +kernel
theorem d_T_lastPlaceOf_6 : decode b_T_lastPlaceOf 6 = .ok (.istore_n 2, 1) := by decide +kernel
theorem d_T_lastPlaceOf_7 : decode b_T_lastPlaceOf 7 = .ok (.iload_n 2, 1) := by decide +kernel
theorem d_T_lastPlaceOf_8 : decode b_T_lastPlaceOf 8 = .ok (.ifCond .lt 21, 3) := by decide +kernel
theorem d_T_lastPlaceOf_11 : decode b_T_lastPlaceOf 11 = .ok (.aload_n 0, 1) := by decide +kernel
theorem d_T_lastPlaceOf_12 : decode b_T_lastPlaceOf 12 = .ok (.getfield 9, 3) := by decide +kernel
theorem d_T_lastPlaceOf_15 : decode b_T_lastPlaceOf 15 = .ok (.iload_n 2, 1) := by decide +kernel
theorem d_T_lastPlaceOf_16 : decode b_T_lastPlaceOf 16 = .ok (.caload, 1) := by decide +kernel
theorem d_T_lastPlaceOf_17 : decode b_T_lastPlaceOf 17 = .ok (.iload_n 1, 1) := by decide +kernel
theorem d_T_lastPlaceOf_18 : decode b_T_lastPlaceOf 18 = .ok (.if_icmp .ne 5, 3) := by decide +kernel
theorem d_T_lastPlaceOf_21 : decode b_T_lastPlaceOf 21 = .ok (.iload_n 2, 1) := by decide +kernel
theorem d_T_lastPlaceOf_22 : decode b_T_lastPlaceOf 22 = .ok (.ireturn, 1) := by decide +kernel
theorem d_T_lastPlaceOf_23 : decode b_T_lastPlaceOf 23 = .ok (.iinc 2 (-1), 3) := by decide +kernel
theorem d_T_lastPlaceOf_26 : decode b_T_lastPlaceOf 26 = .ok (.goto (-19), 3) := by decide +kernel
theorem d_T_lastPlaceOf_29 : decode b_T_lastPlaceOf 29 = .ok (.iconst (-1), 1) := by decide +kernel
theorem d_T_lastPlaceOf_30 : decode b_T_lastPlaceOf 30 = .ok (.ireturn, 1) := by decide +kernel
theorem d_T_compareWith_0 : decode b_T_compareWith 0 = .ok (.aload_n 0, 1) := by decide +kernel
theorem d_T_compareWith_1 : decode b_T_compareWith 1 = .ok (.getfield 15, 3) := by decide +kernel
theorem d_T_compareWith_4 : decode b_T_compareWith 4 = .ok (.aload_n 1, 1) := by decide +kernel
theorem d_T_compareWith_5 : decode b_T_compareWith 5 = .ok (.getfield 15, 3) := by decide +kernel
theorem d_T_compareWith_8 : decode b_T_compareWith 8 = .ok (.invokestatic 31, 3) := by decide +kernel
theorem d_T_compareWith_11 : decode b_T_compareWith 11 = .ok (.istore_n 2, 1) := by decide +kernel
theorem d_T_compareWith_12 : decode b_T_compareWith 12 = .ok (.iconst 0, 1) := by decide +kernel
theorem d_T_compareWith_13 : decode b_T_compareWith 13 = .ok (.istore_n 3, 1) := by decide +kernel
theorem d_T_compareWith_14 : decode b_T_compareWith 14 = .ok (.iload_n 3, 1) := by decide +kernel
theorem d_T_compareWith_15 : decode b_T_compareWith 15 = .ok (.iload_n 2, 1) := by decide +kernel
theorem d_T_compareWith_16 : decode b_T_compareWith 16 = .ok (.if_icmp .ge 38, 3) := by decide +kernel
theorem d_T_compareWith_19 : decode b_T_compareWith 19 = .ok (.aload_n 0, 1) := by decide +kernel
theorem d_T_compareWith_20 : decode b_T_compareWith 20 = .ok (.getfield 9, 3) := by decide +kernel
theorem d_T_compareWith_23 : decode b_T_compareWith 23 = .ok (.iload_n 3, 1) := by decide +kernel
theorem d_T_compareWith_24 : decode b_T_compareWith 24 = .ok (.caload, 1) := by decide +kernel
theorem d_T_compareWith_25 : decode b_T_compareWith 25 = .ok (.aload_n 1, 1) := by decide +kernel
theorem d_T_compareWith_26 : decode b_T_compareWith 26 = .ok (.getfield 9, 3) := by decide +kernel
theorem d_T_compareWith_29 : decode b_T_compareWith 29 = .ok (.iload_n 3, 1) := by decide +kernel
theorem d_T_compareWith_30 : decode b_T_compareWith 30 = .ok (.caload, 1) := by decide +kernel
theorem d_T_compareWith_31 : decode b_T_compareWith 31 = .ok (.if_icmp .eq 17, 3) := by decide +kernel
theorem d_T_compareWith_34 : decode b_T_compareWith 34 = .ok (.aload_n 0, 1) := by decide +kernel
theorem d_T_compareWith_35 : decode b_T_compareWith 35 = .ok (.getfield 9, 3) := by decide +kernel
theorem d_T_compareWith_38 : decode b_T_compareWith 38 = .ok (.iload_n 3, 1) := by decide +kernel
theorem d_T_compareWith_39 : decode b_T_compareWith 39 = .ok (.caload, 1) := by decide +kernel
theorem d_T_compareWith_40 : decode b_T_compareWith 40 = .ok (.aload_n 1, 1) := by decide +kernel
theorem d_T_compareWith_41 : decode b_T_compareWith 41 = .ok (.getfield 9, 3) := by decide +kernel
theorem d_T_compareWith_44 : decode b_T_compareWith 44 = .ok (.iload_n 3, 1) := by decide +kernel
theorem d_T_compareWith_45 : decode b_T_compareWith 45 = .ok (.caload, 1) := by decide +kernel
theorem d_T_compareWith_46 : decode b_T_compareWith 46 = .ok (.isub, 1) := by decide +kernel
theorem d_T_compareWith_47 : decode b_T_compareWith 47 = .ok (.ireturn, 1) := by decide +kernel
theorem d_T_compareWith_48 : decode b_T_compareWith 48 = .ok (.iinc 3 1, 3) := by decide +kernel
theorem d_T_compareWith_51 : decode b_T_compareWith 51 = .ok (.goto (-37), 3) := by decide +kernel
theorem d_T_compareWith_54 : decode b_T_compareWith 54 = .ok (.aload_n 0, 1) := by decide +kernel
theorem d_T_compareWith_55 : decode b_T_compareWith 55 = .ok (.getfield 15, 3) := by decide +kernel
theorem d_T_compareWith_58 : decode b_T_compareWith 58 = .ok (.aload_n 1, 1) := by decide +kernel
theorem d_T_compareWith_59 : decode b_T_compareWith 59 = .ok (.getfield 15, 3) := by decide +kernel
theorem d_T_compareWith_62 : decode b_T_compareWith 62 = .ok (.isub, 1) := by decide +kernel
theorem d_T_compareWith_63 : decode b_T_compareWith 63 = .ok (.ireturn, 1) := by decide +kernel
theorem d_T_goesOnBehind_0 : decode b_T_goesOnBehind 0 = .ok (.aload_n 0, 1) := by decide +kernel
theorem d_T_goesOnBehind_1 : decode b_T_goesOnBehind 1 = .ok (.getfield 15, 3) := by decide +kernel
theorem d_T_goesOnBehind_4 : decode b_T_goesOnBehind 4 = .ok (.aload_n 1, 1) := by decide +kernel
theorem d_T_goesOnBehind_5 : decode b_T_goesOnBehind 5 = .ok (.getfield 15, 3) := by decide +kernel
theorem d_T_goesOnBehind_8 : decode b_T_goesOnBehind 8 = .ok (.if_icmp .gt 5, 3) := by decide +kernel
theorem d_T_goesOnBehind_11 : decode b_T_goesOnBehind 11 = .ok (.iconst 0, 1) := by decide +kernel
theorem d_T_goesOnBehind_12 : decode b_T_goesOnBehind 12 = .ok (.ireturn, 1) := by decide +kernel
theorem d_T_goesOnBehind_13 : decode b_T_goesOnBehind 13 = .ok (.iconst 0, 1) := by decide +kernel
theorem d_T_goesOnBehind_14 : decode b_T_goesOnBehind 14 = .ok (.istore_n 2, 1) := by decide +kernel
theorem d_T_goesOnBehind_15 : decode b_T_goesOnBehind 15 = .ok (.iload_n 2, 1) := by decide +kernel
theorem d_T_goesOnBehind_16 : decode b_T_goesOnBehind 16 = .ok (.aload_n 1, 1) := by decide +kernel
theorem d_T_goesOnBehind_17 : decode b_T_goesOnBehind 17 = .ok (.getfield 15, 3) := by decide +kernel
theorem d_T_goesOnBehind_20 : decode b_T_goesOnBehind 20 = .ok (.if_icmp .ge 26, 3) := by decide +kernel
theorem d_T_goesOnBehind_23 : decode b_T_goesOnBehind 23 = .ok (.aload_n 0, 1) := by decide +kernel
theorem d_T_goesOnBehind_24 : decode b_T_goesOnBehind 24 = .ok (.getfield 9, 3) := by decide +kernel
theorem d_T_goesOnBehind_27 : decode b_T_goesOnBehind 27 = .ok (.iload_n 2, 1) := by decide +kernel
theorem d_T_goesOnBehind_28 : decode b_T_goesOnBehind 28 = .ok (.caload, 1) := by decide +kernel
theorem d_T_goesOnBehind_29 : decode b_T_goesOnBehind 29 = .ok (.aload_n 1, 1) := by decide +kernel
theorem d_T_goesOnBehind_30 : decode b_T_goesOnBehind 30 = .ok (.getfield 9, 3) := by decide +kernel
theorem d_T_goesOnBehind_33 : decode b_T_goesOnBehind 33 = .ok (.iload_n 2, 1) := by decide +kernel
theorem d_T_goesOnBehind_34 : decode b_T_goesOnBehind 34 = .ok (.caload, 1) := by decide +kernel
theorem d_T_goesOnBehind_35 : decode b_T_goesOnBehind 35 = .ok (.if_icmp .eq 5, 3) := by decide +kernel
theorem d_T_goesOnBehind_38 : decode b_T_goesOnBehind 38 = .ok (.iconst 0, 1) := by decide +kernel
theorem d_T_goesOnBehind_39 : decode b_T_goesOnBehind 39 = .ok (.ireturn, 1) := by decide +kernel
theorem d_T_goesOnBehind_40 : decode b_T_goesOnBehind 40 = .ok (.iinc 2 1, 3) := by decide +kernel
theorem d_T_goesOnBehind_43 : decode b_T_goesOnBehind 43 = .ok (.goto (-28), 3) := by decide +kernel
theorem d_T_goesOnBehind_46 : decode b_T_goesOnBehind 46 = .ok (.iconst 1, 1) := by decide +kernel
theorem d_T_goesOnBehind_47 : decode b_T_goesOnBehind 47 = .ok (.ireturn, 1) := by decide +kernel
theorem d_T_canBeShort_0 : decode b_T_canBeShort 0 = .ok (.aload_n 0, 1) := by decide +kernel
theorem d_T_canBeShort_1 : decode b_T_canBeShort 1 = .ok (.getfield 15, 3) := by decide +kernel
theorem d_T_canBeShort_4 : decode b_T_canBeShort 4 = .ok (.iconst 4, 1) := by decide +kernel
theorem d_T_canBeShort_5 : decode b_T_canBeShort 5 = .ok (.if_icmp .gt 14, 3) := by decide +kernel
theorem d_T_canBeShort_8 : decode b_T_canBeShort 8 = .ok (.aload_n 0, 1) := by decide +kernel
theorem d_T_canBeShort_9 : decode b_T_canBeShort 9 = .ok (.iconst 0, 1) := by decide +kernel
theorem d_T_canBeShort_10 : decode b_T_canBeShort 10 = .ok (.invokevirtual 19, 3) := by decide +kernel
theorem d_T_canBeShort_13 : decode b_T_canBeShort 13 = .ok (.invokestatic 37, 3) := by decide +kernel
theorem d_T_canBeShort_16 : decode b_T_canBeShort 16 = .ok (.ifCond .ne 5, 3) := by decide +kernel
theorem d_T_canBeShort_19 : decode b_T_canBeShort 19 = .ok (.iconst 0, 1) := by decide +kernel
theorem d_T_canBeShort_20 : decode b_T_canBeShort 20 = .ok (.ireturn, 1) := by decide +kernel
theorem d_T_canBeShort_21 : decode b_T_canBeShort 21 = .ok (.iconst 1, 1) := by decide +kernel
theorem d_T_canBeShort_22 : decode b_T_canBeShort 22 = .ok (.istore_n 1, 1) := by decide +kernel
theorem d_T_canBeShort_23 : decode b_T_canBeShort 23 = .ok (.iload_n 1, 1) := by decide +kernel
theorem d_T_canBeShort_24 : decode b_T_canBeShort 24 = .ok (.aload_n 0, 1) := by decide +kernel
theorem d_T_canBeShort_25 : decode b_T_canBeShort 25 = .ok (.getfield 15, 3) := by decide +kernel
theorem d_T_canBeShort_28 : decode b_T_canBeShort 28 = .ok (.if_icmp .ge 35, 3) := by decide +kernel
theorem d_T_canBeShort_31 : decode b_T_canBeShort 31 = .ok (.aload_n 0, 1) := by decide +kernel
theorem d_T_canBeShort_32 : decode b_T_canBeShort 32 = .ok (.getfield 9, 3) := by decide +kernel
theorem d_T_canBeShort_35 : decode b_T_canBeShort 35 = .ok (.iload_n 1, 1) := by decide +kernel
theorem d_T_canBeShort_36 : decode b_T_canBeShort 36 = .ok (.caload, 1) := by decide +kernel
theorem d_T_canBeShort_37 : decode b_T_canBeShort 37 = .ok (.invokestatic 37, 3) := by decide +kernel
theorem d_T_canBeShort_40 : decode b_T_canBeShort 40 = .ok (.ifCond .ne 17, 3) := by decide +kernel
theorem d_T_canBeShort_43 : decode b_T_canBeShort 43 = .ok (.aload_n 0, 1) := by decide +kernel
theorem d_T_canBeShort_44 : decode b_T_canBeShort 44 = .ok (.getfield 9, 3) := by decide +kernel
theorem d_T_canBeShort_47 : decode b_T_canBeShort 47 = .ok (.iload_n 1, 1) := by decide +kernel
theorem d_T_canBeShort_48 : decode b_T_canBeShort 48 = .ok (.caload, 1) := by decide +kernel
theorem d_T_canBeShort_49 : decode b_T_canBeShort 49 = .ok (.invokestatic 41, 3) := by decide +kernel
theorem d_T_canBeShort_52 : decode b_T_canBeShort 52 = .ok (.ifCond .ne 5, 3) := by decide +kernel
theorem d_T_canBeShort_55 : decode b_T_canBeShort 55 = .ok (.iconst 0, 1) := by decide +kernel
theorem d_T_canBeShort_56 : decode b_T_canBeShort 56 = .ok (.ireturn, 1) := by decide +kernel
theorem d_T_canBeShort_57 : decode b_T_canBeShort 57 = .ok (.iinc 1 1, 3) := by decide +kernel
theorem d_T_canBeShort_60 : decode b_T_canBeShort 60 = .ok (.goto (-37), 3) := by decide +kernel
theorem d_T_canBeShort_63 : decode b_T_canBeShort 63 = .ok (.iconst 1, 1) := by decide +kernel
theorem d_T_canBeShort_64 : decode b_T_canBeShort 64 = .ok (.ireturn, 1) := by decide +kernel
theorem d_T_isBetterShortThan_0 : decode b_T_isBetterShortThan 0 = .ok (.aload_n 0, 1) := by decide +kernel
theorem d_T_isBetterShortThan_1 : decode b_T_isBetterShortThan 1 = .ok (.getfield 15, 3) := by decide +kernel
theorem d_T_isBetterShortThan_4 : decode b_T_isBetterShortThan 4 = .ok (.aload_n 1, 1) := by decide +kernel
theorem d_T_isBetterShortThan_5 : decode b_T_isBetterShortThan 5 = .ok (.getfield 15, 3) := by decide +kernel
theorem d_T_isBetterShortThan_8 : decode b_T_isBetterShortThan 8 = .ok (.if_icmp .eq 22, 3) := by decide +kernel
theorem d_T_isBetterShortThan_11 : decode b_T_isBetterShortThan 11 = .ok (.aload_n 0, 1) := by decide +kernel
theorem d_T_isBetterShortThan_12 : decode b_T_isBetterShortThan 12 = .ok (.getfield 15, 3) := by decide +kernel
theorem d_T_isBetterShortThan_15 : decode b_T_isBetterShortThan 15 = .ok (.aload_n 1, 1) := by decide +kernel
theorem d_T_isBetterShortThan_16 : decode b_T_isBetterShortThan 16 = .ok (.getfield 15, 3) := by decide +kernel
theorem d_T_isBetterShortThan_19 : decode b_T_isBetterShortThan 19 = .ok (.if_icmp .ge 7, 3) := by decide +kernel
theorem d_T_isBetterShortThan_22 : decode b_T_isBetterShortThan 22 = .ok (.iconst 1, 1) := by decide +kernel
theorem d_T_isBetterShortThan_23 : decode b_T_isBetterShortThan 23 = .ok (.goto 20, 3) := by decide +kernel
theorem d_T_isBetterShortThan_26 : decode b_T_isBetterShortThan 26 = .ok (.iconst 0, 1) := by decide +kernel
theorem d_T_isBetterShortThan_27 : decode b_T_isBetterShortThan 27 = .ok (.goto 16, 3) := by decide +kernel
theorem d_T_isBetterShortThan_30 : decode b_T_isBetterShortThan 30 = .ok (.aload_n 0, 1) := by decide +kernel
theorem d_T_isBetterShortThan_31 : decode b_T_isBetterShortThan 31 = .ok (.aload_n 1, 1) := by decide +kernel
theorem d_T_isBetterShortThan_32 : decode b_T_isBetterShortThan 32 = .ok (.invokevirtual 44, 3) := by decide +kernel
theorem d_T_isBetterShortThan_35 : decode b_T_isBetterShortThan 35 = .ok (.ifCond .ge 7, 3) := by decide +kernel
theorem d_T_isBetterShortThan_38 : decode b_T_isBetterShortThan 38 = .ok (.iconst 1, 1) := by decide +kernel
theorem d_T_isBetterShortThan_39 : decode b_T_isBetterShortThan 39 = .ok (.goto 4, 3) := by decide +kernel
theorem d_T_isBetterShortThan_42 : decode b_T_isBetterShortThan 42 = .ok (.iconst 0, 1) := by decide +kernel
theorem d_T_isBetterShortThan_43 : decode b_T_isBetterShortThan 43 = .ok (.ireturn, 1) := by decide +kernel
