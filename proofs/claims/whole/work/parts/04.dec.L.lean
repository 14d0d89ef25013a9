theorem d_L_type_0 : decode b_L_type 0 = .ok (.aload_n 2, 1) := by decide +kernel
theorem d_L_type_1 : decode b_L_type 1 = .ok (.iconst 0, 1) := by decide +kernel
theorem d_L_type_2 : decode b_L_type 2 = .ok (.aload_n 0, 1) := by decide +kernel
theorem d_L_type_3 : decode b_L_type 3 = .ok (.iload_n 1, 1) := by decide +kernel
theorem d_L_type_4 : decode b_L_type 4 = .ok (.invokevirtual 7, 3) := by decide +kernel
theorem d_L_type_7 : decode b_L_type 7 = .ok (.i2l, 1) := by decide +kernel
theorem d_L_type_8 : decode b_L_type 8 = .ok (.lastore, 1) := by decide +kernel
theorem d_L_type_9 : decode b_L_type 9 = .ok (.goto 9, 3) := by decide +kernel
theorem d_L_type_12 : decode b_L_type 12 = .ok (.astore_n 3, 1) := by decide +kernel
theorem d_L_type_13 : decode b_L_type 13 = .ok (.iconst 1, 1) := by decide +kernel
theorem d_L_type_14 : decode b_L_type 14 = .ok (.ireturn, 1) := by decide +kernel
theorem d_L_type_15 : decode b_L_type 15 = .ok (.astore_n 3, 1) := by decide +kernel
theorem d_L_type_16 : decode b_L_type 16 = .ok (.iconst 2, 1) := by decide +kernel
theorem d_L_type_17 : decode b_L_type 17 = .ok (.ireturn, 1) := by decide +kernel
theorem d_L_type_18 : decode b_L_type 18 = .ok (.iconst 0, 1) := by decide +kernel
theorem d_L_type_19 : decode b_L_type 19 = .ok (.ireturn, 1) := by decide +kernel
theorem d_L_name_0 : decode b_L_name 0 = .ok (.aload_n 1, 1) := by decide +kernel
theorem d_L_name_1 : decode b_L_name 1 = .ok (.iconst 0, 1) := by decide +kernel
theorem d_L_name_2 : decode b_L_name 2 = .ok (.aload_n 0, 1) := by decide +kernel
theorem d_L_name_3 : decode b_L_name 3 = .ok (.invokevirtual 17, 3) := by decide +kernel
theorem d_L_name_6 : decode b_L_name 6 = .ok (.i2l, 1) := by decide +kernel
theorem d_L_name_7 : decode b_L_name 7 = .ok (.lastore, 1) := by decide +kernel
theorem d_L_name_8 : decode b_L_name 8 = .ok (.goto 9, 3) := by decide +kernel
theorem d_L_name_11 : decode b_L_name 11 = .ok (.astore_n 2, 1) := by decide +kernel
theorem d_L_name_12 : decode b_L_name 12 = .ok (.iconst 1, 1) := by decide +kernel
theorem d_L_name_13 : decode b_L_name 13 = .ok (.ireturn, 1) := by decide +kernel
theorem d_L_name_14 : decode b_L_name 14 = .ok (.astore_n 2, 1) := by decide +kernel
theorem d_L_name_15 : decode b_L_name 15 = .ok (.iconst 2, 1) := by decide +kernel
theorem d_L_name_16 : decode b_L_name 16 = .ok (.ireturn, 1) := by decide +kernel
theorem d_L_name_17 : decode b_L_name 17 = .ok (.iconst 0, 1) := by decide +kernel
theorem d_L_name_18 : decode b_L_name 18 = .ok (.ireturn, 1) := by decide +kernel
theorem d_L_expand_0 : decode b_L_expand 0 = .ok (.aload_n 1, 1) := by decide +kernel
theorem d_L_expand_1 : decode b_L_expand 1 = .ok (.iconst 0, 1) := by decide +kernel
theorem d_L_expand_2 : decode b_L_expand 2 = .ok (.aload_n 0, 1) := by decide +kernel
theorem d_L_expand_3 : decode b_L_expand 3 = .ok (.invokevirtual 23, 3) := by decide +kernel
theorem d_L_expand_6 : decode b_L_expand 6 = .ok (.i2l, 1) := by decide +kernel
theorem d_L_expand_7 : decode b_L_expand 7 = .ok (.lastore, 1) := by decide +kernel
theorem d_L_expand_8 : decode b_L_expand 8 = .ok (.goto 12, 3) := by decide +kernel
theorem d_L_expand_11 : decode b_L_expand 11 = .ok (.astore_n 2, 1) := by decide +kernel
theorem d_L_expand_12 : decode b_L_expand 12 = .ok (.iconst 1, 1) := by decide +kernel
theorem d_L_expand_13 : decode b_L_expand 13 = .ok (.ireturn, 1) := by decide +kernel
theorem d_L_expand_14 : decode b_L_expand 14 = .ok (.astore_n 2, 1) := by decide +kernel
theorem d_L_expand_15 : decode b_L_expand 15 = .ok (.iconst 2, 1) := by decide +kernel
theorem d_L_expand_16 : decode b_L_expand 16 = .ok (.ireturn, 1) := by decide +kernel
theorem d_L_expand_17 : decode b_L_expand 17 = .ok (.astore_n 2, 1) := by decide +kernel
theorem d_L_expand_18 : decode b_L_expand 18 = .ok (.iconst 3, 1) := by decide +kernel
theorem d_L_expand_19 : decode b_L_expand 19 = .ok (.ireturn, 1) := by decide +kernel
theorem d_L_expand_20 : decode b_L_expand 20 = .ok (.iconst 0, 1) := by decide +kernel
theorem d_L_expand_21 : decode b_L_expand 21 = .ok (.ireturn, 1) := by decide +kernel
theorem d_L_prefix_0 : decode b_L_prefix 0 = .ok (.aload_n 3, 1) := by decide +kernel
theorem d_L_prefix_1 : decode b_L_prefix 1 = .ok (.iconst 0, 1) := by decide +kernel
theorem d_L_prefix_2 : decode b_L_prefix 2 = .ok (.aload_n 0, 1) := by decide +kernel
theorem d_L_prefix_3 : decode b_L_prefix 3 = .ok (.iload_n 1, 1) := by decide +kernel
theorem d_L_prefix_4 : decode b_L_prefix 4 = .ok (.iload_n 2, 1) := by decide +kernel
theorem d_L_prefix_5 : decode b_L_prefix 5 = .ok (.invokevirtual 26, 3) := by decide +kernel
theorem d_L_prefix_8 : decode b_L_prefix 8 = .ok (.ifCond .eq 7, 3) := by decide +kernel
theorem d_L_prefix_11 : decode b_L_prefix 11 = .ok (.lconst 1, 1) := by decide +kernel
theorem d_L_prefix_12 : decode b_L_prefix 12 = .ok (.goto 4, 3) := by decide +kernel
theorem d_L_prefix_15 : decode b_L_prefix 15 = .ok (.lconst 0, 1) := by decide +kernel
theorem d_L_prefix_16 : decode b_L_prefix 16 = .ok (.lastore, 1) := by decide +kernel
theorem d_L_prefix_17 : decode b_L_prefix 17 = .ok (.goto 11, 3) := by decide +kernel
theorem d_L_prefix_20 : decode b_L_prefix 20 = .ok (.astore 4, 2) := by decide +kernel
theorem d_L_prefix_22 : decode b_L_prefix 22 = .ok (.iconst 1, 1) := by decide +kernel
theorem d_L_prefix_23 : decode b_L_prefix 23 = .ok (.ireturn, 1) := by decide +kernel
theorem d_L_prefix_24 : decode b_L_prefix 24 = .ok (.astore 4, 2) := by decide +kernel
theorem d_L_prefix_26 : decode b_L_prefix 26 = .ok (.iconst 2, 1) := by decide +kernel
theorem d_L_prefix_27 : decode b_L_prefix 27 = .ok (.ireturn, 1) := by decide +kernel
theorem d_L_prefix_28 : decode b_L_prefix 28 = .ok (.iconst 0, 1) := by decide +kernel
theorem d_L_prefix_29 : decode b_L_prefix 29 = .ok (.ireturn, 1) := by decide +kernel
theorem d_L_space_0 : decode b_L_space 0 = .ok (.aload_n 2, 1) := by decide +kernel
theorem d_L_space_1 : decode b_L_space 1 = .ok (.iconst 0, 1) := by decide +kernel
theorem d_L_space_2 : decode b_L_space 2 = .ok (.aload_n 0, 1) := by decide +kernel
theorem d_L_space_3 : decode b_L_space 3 = .ok (.iload_n 1, 1) := by decide +kernel
theorem d_L_space_4 : decode b_L_space 4 = .ok (.invokevirtual 32, 3) := by decide +kernel
theorem d_L_space_7 : decode b_L_space 7 = .ok (.i2l, 1) := by decide +kernel
theorem d_L_space_8 : decode b_L_space 8 = .ok (.lastore, 1) := by decide +kernel
theorem d_L_space_9 : decode b_L_space 9 = .ok (.goto 6, 3) := by decide +kernel
theorem d_L_space_12 : decode b_L_space 12 = .ok (.astore_n 3, 1) := by decide +kernel
theorem d_L_space_13 : decode b_L_space 13 = .ok (.iconst 1, 1) := by decide +kernel
theorem d_L_space_14 : decode b_L_space 14 = .ok (.ireturn, 1) := by decide +kernel
theorem d_L_space_15 : decode b_L_space 15 = .ok (.iconst 0, 1) := by decide +kernel
theorem d_L_space_16 : decode b_L_space 16 = .ok (.ireturn, 1) := by decide +kernel
theorem d_L_best_0 : decode b_L_best 0 = .ok (.aload_n 2, 1) := by decide +kernel
theorem d_L_best_1 : decode b_L_best 1 = .ok (.iconst 0, 1) := by decide +kernel
theorem d_L_best_2 : decode b_L_best 2 = .ok (.aload_n 0, 1) := by decide +kernel
theorem d_L_best_3 : decode b_L_best 3 = .ok (.iload_n 1, 1) := by decide +kernel
theorem d_L_best_4 : decode b_L_best 4 = .ok (.invokevirtual 35, 3) := by decide +kernel
theorem d_L_best_7 : decode b_L_best 7 = .ok (.i2l, 1) := by decide +kernel
theorem d_L_best_8 : decode b_L_best 8 = .ok (.lastore, 1) := by decide +kernel
theorem d_L_best_9 : decode b_L_best 9 = .ok (.goto 6, 3) := by decide +kernel
theorem d_L_best_12 : decode b_L_best 12 = .ok (.astore_n 3, 1) := by decide +kernel
theorem d_L_best_13 : decode b_L_best 13 = .ok (.iconst 1, 1) := by decide +kernel
theorem d_L_best_14 : decode b_L_best 14 = .ok (.ireturn, 1) := by decide +kernel
theorem d_L_best_15 : decode b_L_best 15 = .ok (.iconst 0, 1) := by decide +kernel
theorem d_L_best_16 : decode b_L_best 16 = .ok (.ireturn, 1) := by decide +kernel
theorem d_L_propose_0 : decode b_L_propose 0 = .ok (.aload_n 2, 1) := by decide +kernel
theorem d_L_propose_1 : decode b_L_propose 1 = .ok (.iconst 0, 1) := by decide +kernel
theorem d_L_propose_2 : decode b_L_propose 2 = .ok (.aload_n 0, 1) := by decide +kernel
theorem d_L_propose_3 : decode b_L_propose 3 = .ok (.iload_n 1, 1) := by decide +kernel
theorem d_L_propose_4 : decode b_L_propose 4 = .ok (.invokevirtual 38, 3) := by decide +kernel
theorem d_L_propose_7 : decode b_L_propose 7 = .ok (.i2l, 1) := by decide +kernel
theorem d_L_propose_8 : decode b_L_propose 8 = .ok (.lastore, 1) := by decide +kernel
theorem d_L_propose_9 : decode b_L_propose 9 = .ok (.goto 6, 3) := by decide +kernel
theorem d_L_propose_12 : decode b_L_propose 12 = .ok (.astore_n 3, 1) := by decide +kernel
theorem d_L_propose_13 : decode b_L_propose 13 = .ok (.iconst 1, 1) := by decide +kernel
theorem d_L_propose_14 : decode b_L_propose 14 = .ok (.ireturn, 1) := by decide +kernel
theorem d_L_propose_15 : decode b_L_propose 15 = .ok (.iconst 0, 1) := by decide +kernel
theorem d_L_propose_16 : decode b_L_propose 16 = .ok (.ireturn, 1) := by decide +kernel
theorem d_L_print_0 : decode b_L_print 0 = .ok (.aload_n 2, 1) := by decide +kernel
theorem d_L_print_1 : decode b_L_print 1 = .ok (.iconst 0, 1) := by decide +kernel
theorem d_L_print_2 : decode b_L_print 2 = .ok (.aload_n 0, 1) := by decide +kernel
theorem d_L_print_3 : decode b_L_print 3 = .ok (.iload_n 1, 1) := by decide +kernel
theorem d_L_print_4 : decode b_L_print 4 = .ok (.invokevirtual 41, 3) := by decide +kernel
theorem d_L_print_7 : decode b_L_print 7 = .ok (.i2l, 1) := by decide +kernel
theorem d_L_print_8 : decode b_L_print 8 = .ok (.lastore, 1) := by decide +kernel
theorem d_L_print_9 : decode b_L_print 9 = .ok (.goto 6, 3) := by decide +kernel
theorem d_L_print_12 : decode b_L_print 12 = .ok (.astore_n 3, 1) := by decide +kernel
theorem d_L_print_13 : decode b_L_print 13 = .ok (.iconst 1, 1) := by decide +kernel
theorem d_L_print_14 : decode b_L_print 14 = .ok (.ireturn, 1) := by decide +kernel
theorem d_L_print_15 : decode b_L_print 15 = .ok (.iconst 0, 1) := by decide +kernel
theorem d_L_print_16 : decode b_L_print 16 = .ok (.ireturn, 1) := by decide +kernel
theorem d_L_row_0 : decode b_L_row 0 = .ok (.aload 4, 2) := by decide +kernel
theorem d_L_row_2 : decode b_L_row 2 = .ok (.iconst 0, 1) := by decide +kernel
theorem d_L_row_3 : decode b_L_row 3 = .ok (.aload_n 0, 1) := by decide +kernel
theorem d_L_row_4 : decode b_L_row 4 = .ok (.iload_n 1, 1) := by decide +kernel
theorem d_L_row_5 : decode b_L_row 5 = .ok (.iload_n 2, 1) := by decide +kernel
theorem d_L_row_6 : decode b_L_row 6 = .ok (.iload_n 3, 1) := by decide +kernel
theorem d_L_row_7 : decode b_L_row 7 = .ok (.invokevirtual 44, 3) := by decide +kernel
theorem d_L_row_10 : decode b_L_row 10 = .ok (.i2l, 1) := by decide +kernel
theorem d_L_row_11 : decode b_L_row 11 = .ok (.lastore, 1) := by decide +kernel
theorem d_L_row_12 : decode b_L_row 12 = .ok (.goto 15, 3) := by decide +kernel
theorem d_L_row_15 : decode b_L_row 15 = .ok (.astore 5, 2) := by decide +kernel
theorem d_L_row_17 : decode b_L_row 17 = .ok (.iconst 1, 1) := by decide +kernel
theorem d_L_row_18 : decode b_L_row 18 = .ok (.ireturn, 1) := by decide +kernel
theorem d_L_row_19 : decode b_L_row 19 = .ok (.astore 5, 2) := by decide +kernel
theorem d_L_row_21 : decode b_L_row 21 = .ok (.iconst 2, 1) := by decide +kernel
theorem d_L_row_22 : decode b_L_row 22 = .ok (.ireturn, 1) := by decide +kernel
theorem d_L_row_23 : decode b_L_row 23 = .ok (.astore 5, 2) := by decide +kernel
theorem d_L_row_25 : decode b_L_row 25 = .ok (.iconst 3, 1) := by decide +kernel
theorem d_L_row_26 : decode b_L_row 26 = .ok (.ireturn, 1) := by decide +kernel
theorem d_L_row_27 : decode b_L_row 27 = .ok (.iconst 0, 1) := by decide +kernel
theorem d_L_row_28 : decode b_L_row 28 = .ok (.ireturn, 1) := by decide +kernel
theorem d_L_told_0 : decode b_L_told 0 = .ok (.aload_n 3, 1) := by decide +kernel
theorem d_L_told_1 : decode b_L_told 1 = .ok (.iconst 0, 1) := by decide +kernel
theorem d_L_told_2 : decode b_L_told 2 = .ok (.aload_n 0, 1) := by decide +kernel
theorem d_L_told_3 : decode b_L_told 3 = .ok (.iload_n 1, 1) := by decide +kernel
theorem d_L_told_4 : decode b_L_told 4 = .ok (.iload_n 2, 1) := by decide +kernel
theorem d_L_told_5 : decode b_L_told 5 = .ok (.invokevirtual 48, 3) := by decide +kernel
theorem d_L_told_8 : decode b_L_told 8 = .ok (.i2l, 1) := by decide +kernel
theorem d_L_told_9 : decode b_L_told 9 = .ok (.lastore, 1) := by decide +kernel
theorem d_L_told_10 : decode b_L_told 10 = .ok (.goto 11, 3) := by decide +kernel
theorem d_L_told_13 : decode b_L_told 13 = .ok (.astore 4, 2) := by decide +kernel
theorem d_L_told_15 : decode b_L_told 15 = .ok (.iconst 1, 1) := by decide +kernel
theorem d_L_told_16 : decode b_L_told 16 = .ok (.ireturn, 1) := by decide +kernel
theorem d_L_told_17 : decode b_L_told 17 = .ok (.astore 4, 2) := by decide +kernel
theorem d_L_told_19 : decode b_L_told 19 = .ok (.iconst 2, 1) := by decide +kernel
theorem d_L_told_20 : decode b_L_told 20 = .ok (.ireturn, 1) := by decide +kernel
theorem d_L_told_21 : decode b_L_told 21 = .ok (.iconst 0, 1) := by decide +kernel
theorem d_L_told_22 : decode b_L_told 22 = .ok (.ireturn, 1) := by decide +kernel
theorem d_L_document_0 : decode b_L_document 0 = .ok (.aload_n 3, 1) := by decide +kernel
theorem d_L_document_1 : decode b_L_document 1 = .ok (.iconst 0, 1) := by decide +kernel
theorem d_L_document_2 : decode b_L_document 2 = .ok (.aload_n 0, 1) := by decide +kernel
theorem d_L_document_3 : decode b_L_document 3 = .ok (.iload_n 1, 1) := by decide +kernel
theorem d_L_document_4 : decode b_L_document 4 = .ok (.iload_n 2, 1) := by decide +kernel
theorem d_L_document_5 : decode b_L_document 5 = .ok (.invokevirtual 52, 3) := by decide +kernel
theorem d_L_document_8 : decode b_L_document 8 = .ok (.i2l, 1) := by decide +kernel
theorem d_L_document_9 : decode b_L_document 9 = .ok (.lastore, 1) := by decide +kernel
theorem d_L_document_10 : decode b_L_document 10 = .ok (.goto 7, 3) := by decide +kernel
theorem d_L_document_13 : decode b_L_document 13 = .ok (.astore 4, 2) := by decide +kernel
theorem d_L_document_15 : decode b_L_document 15 = .ok (.iconst 1, 1) := by decide +kernel
theorem d_L_document_16 : decode b_L_document 16 = .ok (.ireturn, 1) := by decide +kernel
theorem d_L_document_17 : decode b_L_document 17 = .ok (.iconst 0, 1) := by decide +kernel
theorem d_L_document_18 : decode b_L_document 18 = .ok (.ireturn, 1) := by decide +kernel
theorem d_L_use_0 : decode b_L_use 0 = .ok (.aload_n 2, 1) := by decide +kernel
theorem d_L_use_1 : decode b_L_use 1 = .ok (.iconst 0, 1) := by decide +kernel
theorem d_L_use_2 : decode b_L_use 2 = .ok (.aload_n 0, 1) := by decide +kernel
theorem d_L_use_3 : decode b_L_use 3 = .ok (.iload_n 1, 1) := by decide +kernel
theorem d_L_use_4 : decode b_L_use 4 = .ok (.invokevirtual 55, 3) := by decide +kernel
theorem d_L_use_7 : decode b_L_use 7 = .ok (.i2l, 1) := by decide +kernel
theorem d_L_use_8 : decode b_L_use 8 = .ok (.lastore, 1) := by decide +kernel
theorem d_L_use_9 : decode b_L_use 9 = .ok (.goto 6, 3) := by decide +kernel
theorem d_L_use_12 : decode b_L_use 12 = .ok (.astore_n 3, 1) := by decide +kernel
theorem d_L_use_13 : decode b_L_use 13 = .ok (.iconst 1, 1) := by decide +kernel
theorem d_L_use_14 : decode b_L_use 14 = .ok (.ireturn, 1) := by decide +kernel
theorem d_L_use_15 : decode b_L_use 15 = .ok (.iconst 0, 1) := by decide +kernel
theorem d_L_use_16 : decode b_L_use 16 = .ok (.ireturn, 1) := by decide +kernel
theorem d_L_used_0 : decode b_L_used 0 = .ok (.aload_n 2, 1) := by decide +kernel
theorem d_L_used_1 : decode b_L_used 1 = .ok (.iconst 0, 1) := by decide +kernel
theorem d_L_used_2 : decode b_L_used 2 = .ok (.aload_n 0, 1) := by decide +kernel
theorem d_L_used_3 : decode b_L_used 3 = .ok (.iload_n 1, 1) := by decide +kernel
theorem d_L_used_4 : decode b_L_used 4 = .ok (.invokevirtual 58, 3) := by decide +kernel
theorem d_L_used_7 : decode b_L_used 7 = .ok (.i2l, 1) := by decide +kernel
theorem d_L_used_8 : decode b_L_used 8 = .ok (.lastore, 1) := by decide +kernel
theorem d_L_used_9 : decode b_L_used 9 = .ok (.goto 6, 3) := by decide +kernel
theorem d_L_used_12 : decode b_L_used 12 = .ok (.astore_n 3, 1) := by decide +kernel
theorem d_L_used_13 : decode b_L_used 13 = .ok (.iconst 1, 1) := by decide +kernel
theorem d_L_used_14 : decode b_L_used 14 = .ok (.ireturn, 1) := by decide +kernel
theorem d_L_used_15 : decode b_L_used 15 = .ok (.iconst 0, 1) := by decide +kernel
theorem d_L_used_16 : decode b_L_used 16 = .ok (.ireturn, 1) := by decide +kernel
theorem d_L_unknown_0 : decode b_L_unknown 0 = .ok (.aload_n 2, 1) := by decide +kernel
theorem d_L_unknown_1 : decode b_L_unknown 1 = .ok (.iconst 0, 1) := by decide +kernel
theorem d_L_unknown_2 : decode b_L_unknown 2 = .ok (.aload_n 0, 1) := by decide +kernel
theorem d_L_unknown_3 : decode b_L_unknown 3 = .ok (.iload_n 1, 1) := by decide +kernel
theorem d_L_unknown_4 : decode b_L_unknown 4 = .ok (.invokevirtual 61, 3) := by decide +kernel
theorem d_L_unknown_7 : decode b_L_unknown 7 = .ok (.i2l, 1) := by decide +kernel
theorem d_L_unknown_8 : decode b_L_unknown 8 = .ok (.lastore, 1) := by decide +kernel
theorem d_L_unknown_9 : decode b_L_unknown 9 = .ok (.goto 6, 3) := by decide +kernel
theorem d_L_unknown_12 : decode b_L_unknown 12 = .ok (.astore_n 3, 1) := by decide +kernel
theorem d_L_unknown_13 : decode b_L_unknown 13 = .ok (.iconst 1, 1) := by decide +kernel
theorem d_L_unknown_14 : decode b_L_unknown 14 = .ok (.ireturn, 1) := by decide +kernel
theorem d_L_unknown_15 : decode b_L_unknown 15 = .ok (.iconst 0, 1) := by decide +kernel
theorem d_L_unknown_16 : decode b_L_unknown 16 = .ok (.ireturn, 1) := by decide +kernel
theorem d_L_apart_0 : decode b_L_apart 0 = .ok (.aload_n 3, 1) := by decide +kernel
theorem d_L_apart_1 : decode b_L_apart 1 = .ok (.iconst 0, 1) := by decide +kernel
theorem d_L_apart_2 : decode b_L_apart 2 = .ok (.aload_n 0, 1) := by decide +kernel
theorem d_L_apart_3 : decode b_L_apart 3 = .ok (.iload_n 1, 1) := by decide +kernel
theorem d_L_apart_4 : decode b_L_apart 4 = .ok (.iload_n 2, 1) := by decide +kernel
theorem d_L_apart_5 : decode b_L_apart 5 = .ok (.invokevirtual 64, 3) := by decide +kernel
theorem d_L_apart_8 : decode b_L_apart 8 = .ok (.i2l, 1) := by decide +kernel
theorem d_L_apart_9 : decode b_L_apart 9 = .ok (.lastore, 1) := by decide +kernel
theorem d_L_apart_10 : decode b_L_apart 10 = .ok (.goto 7, 3) := by decide +kernel
theorem d_L_apart_13 : decode b_L_apart 13 = .ok (.astore 4, 2) := by decide +kernel
theorem d_L_apart_15 : decode b_L_apart 15 = .ok (.iconst 1, 1) := by decide +kernel
theorem d_L_apart_16 : decode b_L_apart 16 = .ok (.ireturn, 1) := by decide +kernel
theorem d_L_apart_17 : decode b_L_apart 17 = .ok (.iconst 0, 1) := by decide +kernel
theorem d_L_apart_18 : decode b_L_apart 18 = .ok (.ireturn, 1) := by decide +kernel
theorem d_L_near_0 : decode b_L_near 0 = .ok (.aload_n 3, 1) := by decide +kernel
theorem d_L_near_1 : decode b_L_near 1 = .ok (.iconst 0, 1) := by decide +kernel
theorem d_L_near_2 : decode b_L_near 2 = .ok (.aload_n 0, 1) := by decide +kernel
theorem d_L_near_3 : decode b_L_near 3 = .ok (.iload_n 1, 1) := by decide +kernel
theorem d_L_near_4 : decode b_L_near 4 = .ok (.iload_n 2, 1) := by decide +kernel
theorem d_L_near_5 : decode b_L_near 5 = .ok (.invokevirtual 67, 3) := by decide +kernel
theorem d_L_near_8 : decode b_L_near 8 = .ok (.i2l, 1) := by decide +kernel
theorem d_L_near_9 : decode b_L_near 9 = .ok (.lastore, 1) := by decide +kernel
theorem d_L_near_10 : decode b_L_near 10 = .ok (.goto 7, 3) := by decide +kernel
theorem d_L_near_13 : decode b_L_near 13 = .ok (.astore 4, 2) := by decide +kernel
theorem d_L_near_15 : decode b_L_near 15 = .ok (.iconst 1, 1) := by decide +kernel
theorem d_L_near_16 : decode b_L_near 16 = .ok (.ireturn, 1) := by decide +kernel
theorem d_L_near_17 : decode b_L_near 17 = .ok (.iconst 0, 1) := by decide +kernel
theorem d_L_near_18 : decode b_L_near 18 = .ok (.ireturn, 1) := by decide +kernel
theorem d_L_alias_0 : decode b_L_alias 0 = .ok (.aload_n 3, 1) := by decide +kernel
theorem d_L_alias_1 : decode b_L_alias 1 = .ok (.iconst 0, 1) := by decide +kernel
theorem d_L_alias_2 : decode b_L_alias 2 = .ok (.aload_n 0, 1) := by decide +kernel
theorem d_L_alias_3 : decode b_L_alias 3 = .ok (.iload_n 1, 1) := by decide +kernel
theorem d_L_alias_4 : decode b_L_alias 4 = .ok (.iload_n 2, 1) := by decide +kernel
theorem d_L_alias_5 : decode b_L_alias 5 = .ok (.invokevirtual 70, 3) := by decide +kernel
theorem d_L_alias_8 : decode b_L_alias 8 = .ok (.ifCond .eq 7, 3) := by decide +kernel
theorem d_L_alias_11 : decode b_L_alias 11 = .ok (.lconst 1, 1) := by decide +kernel
theorem d_L_alias_12 : decode b_L_alias 12 = .ok (.goto 4, 3) := by decide +kernel
theorem d_L_alias_15 : decode b_L_alias 15 = .ok (.lconst 0, 1) := by decide +kernel
theorem d_L_alias_16 : decode b_L_alias 16 = .ok (.lastore, 1) := by decide +kernel
theorem d_L_alias_17 : decode b_L_alias 17 = .ok (.goto 7, 3) := by decide +kernel
theorem d_L_alias_20 : decode b_L_alias 20 = .ok (.astore 4, 2) := by decide +kernel
theorem d_L_alias_22 : decode b_L_alias 22 = .ok (.iconst 1, 1) := by decide +kernel
theorem d_L_alias_23 : decode b_L_alias 23 = .ok (.ireturn, 1) := by decide +kernel
theorem d_L_alias_24 : decode b_L_alias 24 = .ok (.iconst 0, 1) := by decide +kernel
theorem d_L_alias_25 : decode b_L_alias 25 = .ok (.ireturn, 1) := by decide +kernel
theorem d_L_meaning_0 : decode b_L_meaning 0 = .ok (.aload_n 2, 1) := by decide +kernel
theorem d_L_meaning_1 : decode b_L_meaning 1 = .ok (.iconst 0, 1) := by decide +kernel
theorem d_L_meaning_2 : decode b_L_meaning 2 = .ok (.aload_n 0, 1) := by decide +kernel
theorem d_L_meaning_3 : decode b_L_meaning 3 = .ok (.iload_n 1, 1) := by decide +kernel
theorem d_L_meaning_4 : decode b_L_meaning 4 = .ok (.invokevirtual 73, 3) := by decide +kernel
theorem d_L_meaning_7 : decode b_L_meaning 7 = .ok (.i2l, 1) := by decide +kernel
theorem d_L_meaning_8 : decode b_L_meaning 8 = .ok (.lastore, 1) := by decide +kernel
theorem d_L_meaning_9 : decode b_L_meaning 9 = .ok (.goto 6, 3) := by decide +kernel
theorem d_L_meaning_12 : decode b_L_meaning 12 = .ok (.astore_n 3, 1) := by decide +kernel
theorem d_L_meaning_13 : decode b_L_meaning 13 = .ok (.iconst 1, 1) := by decide +kernel
theorem d_L_meaning_14 : decode b_L_meaning 14 = .ok (.ireturn, 1) := by decide +kernel
theorem d_L_meaning_15 : decode b_L_meaning 15 = .ok (.iconst 0, 1) := by decide +kernel
theorem d_L_meaning_16 : decode b_L_meaning 16 = .ok (.ireturn, 1) := by decide +kernel
theorem d_L_join_0 : decode b_L_join 0 = .ok (.aload 4, 2) := by decide +kernel
theorem d_L_join_2 : decode b_L_join 2 = .ok (.iconst 0, 1) := by decide +kernel
theorem d_L_join_3 : decode b_L_join 3 = .ok (.aload_n 0, 1) := by decide +kernel
theorem d_L_join_4 : decode b_L_join 4 = .ok (.iload_n 1, 1) := by decide +kernel
theorem d_L_join_5 : decode b_L_join 5 = .ok (.iload_n 2, 1) := by decide +kernel
theorem d_L_join_6 : decode b_L_join 6 = .ok (.iload_n 3, 1) := by decide +kernel
theorem d_L_join_7 : decode b_L_join 7 = .ok (.invokevirtual 76, 3) := by decide +kernel
theorem d_L_join_10 : decode b_L_join 10 = .ok (.i2l, 1) := by decide +kernel
theorem d_L_join_11 : decode b_L_join 11 = .ok (.lastore, 1) := by decide +kernel
theorem d_L_join_12 : decode b_L_join 12 = .ok (.goto 15, 3) := by decide +kernel
theorem d_L_join_15 : decode b_L_join 15 = .ok (.astore 5, 2) := by decide +kernel
theorem d_L_join_17 : decode b_L_join 17 = .ok (.iconst 1, 1) := by decide +kernel
theorem d_L_join_18 : decode b_L_join 18 = .ok (.ireturn, 1) := by decide +kernel
theorem d_L_join_19 : decode b_L_join 19 = .ok (.astore 5, 2) := by decide +kernel
theorem d_L_join_21 : decode b_L_join 21 = .ok (.iconst 2, 1) := by decide +kernel
theorem d_L_join_22 : decode b_L_join 22 = .ok (.ireturn, 1) := by decide +kernel
theorem d_L_join_23 : decode b_L_join 23 = .ok (.astore 5, 2) := by decide +kernel
theorem d_L_join_25 : decode b_L_join 25 = .ok (.iconst 3, 1) := by decide +kernel
theorem d_L_join_26 : decode b_L_join 26 = .ok (.ireturn, 1) := by decide +kernel
theorem d_L_join_27 : decode b_L_join 27 = .ok (.iconst 0, 1) := by decide +kernel
theorem d_L_join_28 : decode b_L_join 28 = .ok (.ireturn, 1) := by decide +kernel
theorem d_L_rename_0 : decode b_L_rename 0 = .ok (.aload_n 3, 1) := by decide +kernel
theorem d_L_rename_1 : decode b_L_rename 1 = .ok (.iconst 0, 1) := by decide +kernel
theorem d_L_rename_2 : decode b_L_rename 2 = .ok (.aload_n 0, 1) := by decide +kernel
theorem d_L_rename_3 : decode b_L_rename 3 = .ok (.iload_n 1, 1) := by decide +kernel
theorem d_L_rename_4 : decode b_L_rename 4 = .ok (.iload_n 2, 1) := by decide +kernel
theorem d_L_rename_5 : decode b_L_rename 5 = .ok (.invokevirtual 79, 3) := by decide +kernel
theorem d_L_rename_8 : decode b_L_rename 8 = .ok (.i2l, 1) := by decide +kernel
theorem d_L_rename_9 : decode b_L_rename 9 = .ok (.lastore, 1) := by decide +kernel
theorem d_L_rename_10 : decode b_L_rename 10 = .ok (.goto 15, 3) := by decide +kernel
theorem d_L_rename_13 : decode b_L_rename 13 = .ok (.astore 4, 2) := by decide +kernel
theorem d_L_rename_15 : decode b_L_rename 15 = .ok (.iconst 1, 1) := by decide +kernel
theorem d_L_rename_16 : decode b_L_rename 16 = .ok (.ireturn, 1) := by decide +kernel
theorem d_L_rename_17 : decode b_L_rename 17 = .ok (.astore 4, 2) := by decide +kernel
theorem d_L_rename_19 : decode b_L_rename 19 = .ok (.iconst 2, 1) := by decide +kernel
theorem d_L_rename_20 : decode b_L_rename 20 = .ok (.ireturn, 1) := by decide +kernel
theorem d_L_rename_21 : decode b_L_rename 21 = .ok (.astore 4, 2) := by decide +kernel
theorem d_L_rename_23 : decode b_L_rename 23 = .ok (.iconst 3, 1) := by decide +kernel
theorem d_L_rename_24 : decode b_L_rename 24 = .ok (.ireturn, 1) := by decide +kernel
theorem d_L_rename_25 : decode b_L_rename 25 = .ok (.iconst 0, 1) := by decide +kernel
theorem d_L_rename_26 : decode b_L_rename 26 = .ok (.ireturn, 1) := by decide +kernel
theorem d_L_now_0 : decode b_L_now 0 = .ok (.aload_n 2, 1) := by decide +kernel
theorem d_L_now_1 : decode b_L_now 1 = .ok (.iconst 0, 1) := by decide +kernel
theorem d_L_now_2 : decode b_L_now 2 = .ok (.aload_n 0, 1) := by decide +kernel
theorem d_L_now_3 : decode b_L_now 3 = .ok (.iload_n 1, 1) := by decide +kernel
theorem d_L_now_4 : decode b_L_now 4 = .ok (.invokevirtual 82, 3) := by decide +kernel
theorem d_L_now_7 : decode b_L_now 7 = .ok (.i2l, 1) := by decide +kernel
theorem d_L_now_8 : decode b_L_now 8 = .ok (.lastore, 1) := by decide +kernel
theorem d_L_now_9 : decode b_L_now 9 = .ok (.goto 6, 3) := by decide +kernel
theorem d_L_now_12 : decode b_L_now 12 = .ok (.astore_n 3, 1) := by decide +kernel
theorem d_L_now_13 : decode b_L_now 13 = .ok (.iconst 1, 1) := by decide +kernel
theorem d_L_now_14 : decode b_L_now 14 = .ok (.ireturn, 1) := by decide +kernel
theorem d_L_now_15 : decode b_L_now 15 = .ok (.iconst 0, 1) := by decide +kernel
theorem d_L_now_16 : decode b_L_now 16 = .ok (.ireturn, 1) := by decide +kernel
theorem d_L_was_0 : decode b_L_was 0 = .ok (.aload_n 2, 1) := by decide +kernel
theorem d_L_was_1 : decode b_L_was 1 = .ok (.iconst 0, 1) := by decide +kernel
theorem d_L_was_2 : decode b_L_was 2 = .ok (.aload_n 0, 1) := by decide +kernel
theorem d_L_was_3 : decode b_L_was 3 = .ok (.iload_n 1, 1) := by decide +kernel
theorem d_L_was_4 : decode b_L_was 4 = .ok (.invokevirtual 85, 3) := by decide +kernel
theorem d_L_was_7 : decode b_L_was 7 = .ok (.i2l, 1) := by decide +kernel
theorem d_L_was_8 : decode b_L_was 8 = .ok (.lastore, 1) := by decide +kernel
theorem d_L_was_9 : decode b_L_was 9 = .ok (.goto 6, 3) := by decide +kernel
theorem d_L_was_12 : decode b_L_was 12 = .ok (.astore_n 3, 1) := by decide +kernel
theorem d_L_was_13 : decode b_L_was 13 = .ok (.iconst 1, 1) := by decide +kernel
theorem d_L_was_14 : decode b_L_was 14 = .ok (.ireturn, 1) := by decide +kernel
theorem d_L_was_15 : decode b_L_was 15 = .ok (.iconst 0, 1) := by decide +kernel
theorem d_L_was_16 : decode b_L_was 16 = .ok (.ireturn, 1) := by decide +kernel
theorem d_L_clash_0 : decode b_L_clash 0 = .ok (.aload_n 2, 1) := by decide +kernel
theorem d_L_clash_1 : decode b_L_clash 1 = .ok (.iconst 0, 1) := by decide +kernel
theorem d_L_clash_2 : decode b_L_clash 2 = .ok (.aload_n 0, 1) := by decide +kernel
theorem d_L_clash_3 : decode b_L_clash 3 = .ok (.iload_n 1, 1) := by decide +kernel
theorem d_L_clash_4 : decode b_L_clash 4 = .ok (.invokevirtual 88, 3) := by decide +kernel
theorem d_L_clash_7 : decode b_L_clash 7 = .ok (.i2l, 1) := by decide +kernel
theorem d_L_clash_8 : decode b_L_clash 8 = .ok (.lastore, 1) := by decide +kernel
theorem d_L_clash_9 : decode b_L_clash 9 = .ok (.goto 6, 3) := by decide +kernel
theorem d_L_clash_12 : decode b_L_clash 12 = .ok (.astore_n 3, 1) := by decide +kernel
theorem d_L_clash_13 : decode b_L_clash 13 = .ok (.iconst 1, 1) := by decide +kernel
theorem d_L_clash_14 : decode b_L_clash 14 = .ok (.ireturn, 1) := by decide +kernel
theorem d_L_clash_15 : decode b_L_clash 15 = .ok (.iconst 0, 1) := by decide +kernel
theorem d_L_clash_16 : decode b_L_clash 16 = .ok (.ireturn, 1) := by decide +kernel
theorem d_L_count_0 : decode b_L_count 0 = .ok (.aload_n 2, 1) := by decide +kernel
theorem d_L_count_1 : decode b_L_count 1 = .ok (.iconst 0, 1) := by decide +kernel
theorem d_L_count_2 : decode b_L_count 2 = .ok (.aload_n 0, 1) := by decide +kernel
theorem d_L_count_3 : decode b_L_count 3 = .ok (.iload_n 1, 1) := by decide +kernel
theorem d_L_count_4 : decode b_L_count 4 = .ok (.invokevirtual 91, 3) := by decide +kernel
theorem d_L_count_7 : decode b_L_count 7 = .ok (.i2l, 1) := by decide +kernel
theorem d_L_count_8 : decode b_L_count 8 = .ok (.lastore, 1) := by decide +kernel
theorem d_L_count_9 : decode b_L_count 9 = .ok (.goto 6, 3) := by decide +kernel
theorem d_L_count_12 : decode b_L_count 12 = .ok (.astore_n 3, 1) := by decide +kernel
theorem d_L_count_13 : decode b_L_count 13 = .ok (.iconst 1, 1) := by decide +kernel
theorem d_L_count_14 : decode b_L_count 14 = .ok (.ireturn, 1) := by decide +kernel
theorem d_L_count_15 : decode b_L_count 15 = .ok (.iconst 0, 1) := by decide +kernel
theorem d_L_count_16 : decode b_L_count 16 = .ok (.ireturn, 1) := by decide +kernel
theorem d_L_law_0 : decode b_L_law 0 = .ok (.new 8, 3) := by decide +kernel
theorem d_L_law_3 : decode b_L_law 3 = .ok (.dup, 1) := by decide +kernel
theorem d_L_law_4 : decode b_L_law 4 = .ok (.invokespecial 94, 3) := by decide +kernel
theorem d_L_law_7 : decode b_L_law 7 = .ok (.astore_n 1, 1) := by decide +kernel
theorem d_L_law_8 : decode b_L_law 8 = .ok (.new 95, 3) := by decide +kernel
theorem d_L_law_11 : decode b_L_law 11 = .ok (.dup, 1) := by decide +kernel
theorem d_L_law_12 : decode b_L_law 12 = .ok (.invokespecial 97, 3) := by decide +kernel
theorem d_L_law_15 : decode b_L_law 15 = .ok (.astore_n 2, 1) := by decide +kernel
theorem d_L_law_16 : decode b_L_law 16 = .ok (.iconst 1, 1) := by decide +kernel
theorem d_L_law_17 : decode b_L_law 17 = .ok (.newarray .long, 2) := by decide +kernel
theorem d_L_law_19 : decode b_L_law 19 = .ok (.astore_n 3, 1) := by decide +kernel
theorem d_L_law_20 : decode b_L_law 20 = .ok (.iconst 0, 1) := by decide +kernel
theorem d_L_law_21 : decode b_L_law 21 = .ok (.istore 4, 2) := by decide +kernel
theorem d_L_law_23 : decode b_L_law 23 = .ok (.iload 4, 2) := by decide +kernel
theorem d_L_law_25 : decode b_L_law 25 = .ok (.aload_n 0, 1) := by decide +kernel
theorem d_L_law_26 : decode b_L_law 26 = .ok (.arraylength, 1) := by decide +kernel
theorem d_L_law_27 : decode b_L_law 27 = .ok (.iconst 4, 1) := by decide +kernel
theorem d_L_law_28 : decode b_L_law 28 = .ok (.isub, 1) := by decide +kernel
theorem d_L_law_29 : decode b_L_law 29 = .ok (.if_icmp .gt 1637, 3) := by decide +kernel
theorem d_L_law_32 : decode b_L_law 32 = .ok (.aload_n 0, 1) := by decide +kernel
theorem d_L_law_33 : decode b_L_law 33 = .ok (.iload 4, 2) := by decide +kernel
theorem d_L_law_35 : decode b_L_law 35 = .ok (.iaload, 1) := by decide +kernel
theorem d_L_law_36 : decode b_L_law 36 = .ok (.bipush 31, 2) := by decide +kernel
theorem d_L_law_38 : decode b_L_law 38 = .ok (.iand, 1) := by decide +kernel
theorem d_L_law_39 : decode b_L_law 39 = .ok (.tableswitch 1621 0 25 #[117, 173, 186, 230, 274, 349, 405, 461, 517, 573, 598, 678, 746, 814, 870, 926, 982, 1050, 1118, 1193, 1249, 1329, 1397, 1453, 1509, 1565], 117) := by decide +kernel
theorem d_L_law_156 : decode b_L_law 156 = .ok (.aload_n 1, 1) := by decide +kernel
theorem d_L_law_157 : decode b_L_law 157 = .ok (.aload_n 0, 1) := by decide +kernel
theorem d_L_law_158 : decode b_L_law 158 = .ok (.iload 4, 2) := by decide +kernel
theorem d_L_law_160 : decode b_L_law 160 = .ok (.iconst 1, 1) := by decide +kernel
theorem d_L_law_161 : decode b_L_law 161 = .ok (.iadd, 1) := by decide +kernel
theorem d_L_law_162 : decode b_L_law 162 = .ok (.iaload, 1) := by decide +kernel
theorem d_L_law_163 : decode b_L_law 163 = .ok (.aload_n 3, 1) := by decide +kernel
theorem d_L_law_164 : decode b_L_law 164 = .ok (.invokestatic 98, 3) := by decide +kernel
theorem d_L_law_167 : decode b_L_law 167 = .ok (.istore 5, 2) := by decide +kernel
theorem d_L_law_169 : decode b_L_law 169 = .ok (.aload_n 2, 1) := by decide +kernel
theorem d_L_law_170 : decode b_L_law 170 = .ok (.aload_n 0, 1) := by decide +kernel
theorem d_L_law_171 : decode b_L_law 171 = .ok (.iload 4, 2) := by decide +kernel
theorem d_L_law_173 : decode b_L_law 173 = .ok (.iconst 1, 1) := by decide +kernel
theorem d_L_law_174 : decode b_L_law 174 = .ok (.iadd, 1) := by decide +kernel
theorem d_L_law_175 : decode b_L_law 175 = .ok (.iaload, 1) := by decide +kernel
theorem d_L_law_176 : decode b_L_law 176 = .ok (.invokevirtual 103, 3) := by decide +kernel
theorem d_L_law_179 : decode b_L_law 179 = .ok (.istore 6, 2) := by decide +kernel
theorem d_L_law_181 : decode b_L_law 181 = .ok (.aload_n 2, 1) := by decide +kernel
theorem d_L_law_182 : decode b_L_law 182 = .ok (.invokevirtual 104, 3) := by decide +kernel
theorem d_L_law_185 : decode b_L_law 185 = .ok (.iload 5, 2) := by decide +kernel
theorem d_L_law_187 : decode b_L_law 187 = .ok (.if_icmp .eq 5, 3) := by decide +kernel
theorem d_L_law_190 : decode b_L_law 190 = .ok (.iconst 0, 1) := by decide +kernel
theorem d_L_law_191 : decode b_L_law 191 = .ok (.ireturn, 1) := by decide +kernel
theorem d_L_law_192 : decode b_L_law 192 = .ok (.iload 5, 2) := by decide +kernel
theorem d_L_law_194 : decode b_L_law 194 = .ok (.ifCond .ne 15, 3) := by decide +kernel
theorem d_L_law_197 : decode b_L_law 197 = .ok (.aload_n 3, 1) := by decide +kernel
theorem d_L_law_198 : decode b_L_law 198 = .ok (.iconst 0, 1) := by decide +kernel
theorem d_L_law_199 : decode b_L_law 199 = .ok (.laload, 1) := by decide +kernel
theorem d_L_law_200 : decode b_L_law 200 = .ok (.iload 6, 2) := by decide +kernel
theorem d_L_law_202 : decode b_L_law 202 = .ok (.i2l, 1) := by decide +kernel
theorem d_L_law_203 : decode b_L_law 203 = .ok (.lcmp, 1) := by decide +kernel
theorem d_L_law_204 : decode b_L_law 204 = .ok (.ifCond .eq 5, 3) := by decide +kernel
theorem d_L_law_207 : decode b_L_law 207 = .ok (.iconst 0, 1) := by decide +kernel
theorem d_L_law_208 : decode b_L_law 208 = .ok (.ireturn, 1) := by decide +kernel
theorem d_L_law_209 : decode b_L_law 209 = .ok (.goto 1451, 3) := by decide +kernel
theorem d_L_law_212 : decode b_L_law 212 = .ok (.aload_n 1, 1) := by decide +kernel
theorem d_L_law_213 : decode b_L_law 213 = .ok (.invokevirtual 107, 3) := by decide +kernel
theorem d_L_law_216 : decode b_L_law 216 = .ok (.aload_n 2, 1) := by decide +kernel
theorem d_L_law_217 : decode b_L_law 217 = .ok (.invokevirtual 110, 3) := by decide +kernel
theorem d_L_law_220 : decode b_L_law 220 = .ok (.if_icmp .eq 1440, 3) := by decide +kernel
theorem d_L_law_223 : decode b_L_law 223 = .ok (.iconst 0, 1) := by decide +kernel
theorem d_L_law_224 : decode b_L_law 224 = .ok (.ireturn, 1) := by decide +kernel
theorem d_L_law_225 : decode b_L_law 225 = .ok (.aload_n 1, 1) := by decide +kernel
theorem d_L_law_226 : decode b_L_law 226 = .ok (.aload_n 3, 1) := by decide +kernel
theorem d_L_law_227 : decode b_L_law 227 = .ok (.invokestatic 111, 3) := by decide +kernel
theorem d_L_law_230 : decode b_L_law 230 = .ok (.istore 5, 2) := by decide +kernel
theorem d_L_law_232 : decode b_L_law 232 = .ok (.aload_n 2, 1) := by decide +kernel
theorem d_L_law_233 : decode b_L_law 233 = .ok (.invokevirtual 114, 3) := by decide +kernel
theorem d_L_law_236 : decode b_L_law 236 = .ok (.istore 6, 2) := by decide +kernel
theorem d_L_law_238 : decode b_L_law 238 = .ok (.aload_n 2, 1) := by decide +kernel
theorem d_L_law_239 : decode b_L_law 239 = .ok (.invokevirtual 104, 3) := by decide +kernel
theorem d_L_law_242 : decode b_L_law 242 = .ok (.iload 5, 2) := by decide +kernel
theorem d_L_law_244 : decode b_L_law 244 = .ok (.if_icmp .eq 5, 3) := by decide +kernel
theorem d_L_law_247 : decode b_L_law 247 = .ok (.iconst 0, 1) := by decide +kernel
theorem d_L_law_248 : decode b_L_law 248 = .ok (.ireturn, 1) := by decide +kernel
theorem d_L_law_249 : decode b_L_law 249 = .ok (.iload 5, 2) := by decide +kernel
theorem d_L_law_251 : decode b_L_law 251 = .ok (.ifCond .ne 15, 3) := by decide +kernel
theorem d_L_law_254 : decode b_L_law 254 = .ok (.aload_n 3, 1) := by decide +kernel
theorem d_L_law_255 : decode b_L_law 255 = .ok (.iconst 0, 1) := by decide +kernel
theorem d_L_law_256 : decode b_L_law 256 = .ok (.laload, 1) := by decide +kernel
theorem d_L_law_257 : decode b_L_law 257 = .ok (.iload 6, 2) := by decide +kernel
theorem d_L_law_259 : decode b_L_law 259 = .ok (.i2l, 1) := by decide +kernel
theorem d_L_law_260 : decode b_L_law 260 = .ok (.lcmp, 1) := by decide +kernel
theorem d_L_law_261 : decode b_L_law 261 = .ok (.ifCond .eq 5, 3) := by decide +kernel
theorem d_L_law_264 : decode b_L_law 264 = .ok (.iconst 0, 1) := by decide +kernel
theorem d_L_law_265 : decode b_L_law 265 = .ok (.ireturn, 1) := by decide +kernel
theorem d_L_law_266 : decode b_L_law 266 = .ok (.goto 1394, 3) := by decide +kernel
theorem d_L_law_269 : decode b_L_law 269 = .ok (.aload_n 1, 1) := by decide +kernel
theorem d_L_law_270 : decode b_L_law 270 = .ok (.aload_n 3, 1) := by decide +kernel
theorem d_L_law_271 : decode b_L_law 271 = .ok (.invokestatic 115, 3) := by decide +kernel
theorem d_L_law_274 : decode b_L_law 274 = .ok (.istore 5, 2) := by decide +kernel
theorem d_L_law_276 : decode b_L_law 276 = .ok (.aload_n 2, 1) := by decide +kernel
theorem d_L_law_277 : decode b_L_law 277 = .ok (.invokevirtual 117, 3) := by decide +kernel
theorem d_L_law_280 : decode b_L_law 280 = .ok (.istore 6, 2) := by decide +kernel
theorem d_L_law_282 : decode b_L_law 282 = .ok (.aload_n 2, 1) := by decide +kernel
theorem d_L_law_283 : decode b_L_law 283 = .ok (.invokevirtual 104, 3) := by decide +kernel
theorem d_L_law_286 : decode b_L_law 286 = .ok (.iload 5, 2) := by decide +kernel
theorem d_L_law_288 : decode b_L_law 288 = .ok (.if_icmp .eq 5, 3) := by decide +kernel
theorem d_L_law_291 : decode b_L_law 291 = .ok (.iconst 0, 1) := by decide +kernel
theorem d_L_law_292 : decode b_L_law 292 = .ok (.ireturn, 1) := by decide +kernel
theorem d_L_law_293 : decode b_L_law 293 = .ok (.iload 5, 2) := by decide +kernel
theorem d_L_law_295 : decode b_L_law 295 = .ok (.ifCond .ne 15, 3) := by decide +kernel
theorem d_L_law_298 : decode b_L_law 298 = .ok (.aload_n 3, 1) := by decide +kernel
theorem d_L_law_299 : decode b_L_law 299 = .ok (.iconst 0, 1) := by decide +kernel
theorem d_L_law_300 : decode b_L_law 300 = .ok (.laload, 1) := by decide +kernel
theorem d_L_law_301 : decode b_L_law 301 = .ok (.iload 6, 2) := by decide +kernel
theorem d_L_law_303 : decode b_L_law 303 = .ok (.i2l, 1) := by decide +kernel
theorem d_L_law_304 : decode b_L_law 304 = .ok (.lcmp, 1) := by decide +kernel
theorem d_L_law_305 : decode b_L_law 305 = .ok (.ifCond .eq 5, 3) := by decide +kernel
theorem d_L_law_308 : decode b_L_law 308 = .ok (.iconst 0, 1) := by decide +kernel
theorem d_L_law_309 : decode b_L_law 309 = .ok (.ireturn, 1) := by decide +kernel
theorem d_L_law_310 : decode b_L_law 310 = .ok (.goto 1350, 3) := by decide +kernel
theorem d_L_law_313 : decode b_L_law 313 = .ok (.aload_n 1, 1) := by decide +kernel
theorem d_L_law_314 : decode b_L_law 314 = .ok (.aload_n 0, 1) := by decide +kernel
theorem d_L_law_315 : decode b_L_law 315 = .ok (.iload 4, 2) := by decide +kernel
theorem d_L_law_317 : decode b_L_law 317 = .ok (.iconst 1, 1) := by decide +kernel
theorem d_L_law_318 : decode b_L_law 318 = .ok (.iadd, 1) := by decide +kernel
theorem d_L_law_319 : decode b_L_law 319 = .ok (.iaload, 1) := by decide +kernel
theorem d_L_law_320 : decode b_L_law 320 = .ok (.aload_n 0, 1) := by decide +kernel
theorem d_L_law_321 : decode b_L_law 321 = .ok (.iload 4, 2) := by decide +kernel
theorem d_L_law_323 : decode b_L_law 323 = .ok (.iconst 2, 1) := by decide +kernel
theorem d_L_law_324 : decode b_L_law 324 = .ok (.iadd, 1) := by decide +kernel
theorem d_L_law_325 : decode b_L_law 325 = .ok (.iaload, 1) := by decide +kernel
theorem d_L_law_326 : decode b_L_law 326 = .ok (.aload_n 3, 1) := by decide +kernel
theorem d_L_law_327 : decode b_L_law 327 = .ok (.invokestatic 118, 3) := by decide +kernel
theorem d_L_law_330 : decode b_L_law 330 = .ok (.istore 5, 2) := by decide +kernel
theorem d_L_law_332 : decode b_L_law 332 = .ok (.aload_n 2, 1) := by decide +kernel
theorem d_L_law_333 : decode b_L_law 333 = .ok (.aload_n 0, 1) := by decide +kernel
theorem d_L_law_334 : decode b_L_law 334 = .ok (.iload 4, 2) := by decide +kernel
theorem d_L_law_336 : decode b_L_law 336 = .ok (.iconst 1, 1) := by decide +kernel
theorem d_L_law_337 : decode b_L_law 337 = .ok (.iadd, 1) := by decide +kernel
theorem d_L_law_338 : decode b_L_law 338 = .ok (.iaload, 1) := by decide +kernel
theorem d_L_law_339 : decode b_L_law 339 = .ok (.aload_n 0, 1) := by decide +kernel
theorem d_L_law_340 : decode b_L_law 340 = .ok (.iload 4, 2) := by decide +kernel
theorem d_L_law_342 : decode b_L_law 342 = .ok (.iconst 2, 1) := by decide +kernel
theorem d_L_law_343 : decode b_L_law 343 = .ok (.iadd, 1) := by decide +kernel
theorem d_L_law_344 : decode b_L_law 344 = .ok (.iaload, 1) := by decide +kernel
theorem d_L_law_345 : decode b_L_law 345 = .ok (.invokevirtual 121, 3) := by decide +kernel
theorem d_L_law_348 : decode b_L_law 348 = .ok (.istore 6, 2) := by decide +kernel
theorem d_L_law_350 : decode b_L_law 350 = .ok (.aload_n 2, 1) := by decide +kernel
theorem d_L_law_351 : decode b_L_law 351 = .ok (.invokevirtual 104, 3) := by decide +kernel
theorem d_L_law_354 : decode b_L_law 354 = .ok (.iload 5, 2) := by decide +kernel
theorem d_L_law_356 : decode b_L_law 356 = .ok (.if_icmp .eq 5, 3) := by decide +kernel
theorem d_L_law_359 : decode b_L_law 359 = .ok (.iconst 0, 1) := by decide +kernel
theorem d_L_law_360 : decode b_L_law 360 = .ok (.ireturn, 1) := by decide +kernel
theorem d_L_law_361 : decode b_L_law 361 = .ok (.iload 5, 2) := by decide +kernel
theorem d_L_law_363 : decode b_L_law 363 = .ok (.ifCond .ne 22, 3) := by decide +kernel
theorem d_L_law_366 : decode b_L_law 366 = .ok (.aload_n 3, 1) := by decide +kernel
theorem d_L_law_367 : decode b_L_law 367 = .ok (.iconst 0, 1) := by decide +kernel
theorem d_L_law_368 : decode b_L_law 368 = .ok (.laload, 1) := by decide +kernel
theorem d_L_law_369 : decode b_L_law 369 = .ok (.iload 6, 2) := by decide +kernel
theorem d_L_law_371 : decode b_L_law 371 = .ok (.ifCond .eq 7, 3) := by decide +kernel
theorem d_L_law_374 : decode b_L_law 374 = .ok (.lconst 1, 1) := by decide +kernel
theorem d_L_law_375 : decode b_L_law 375 = .ok (.goto 4, 3) := by decide +kernel
theorem d_L_law_378 : decode b_L_law 378 = .ok (.lconst 0, 1) := by decide +kernel
theorem d_L_law_379 : decode b_L_law 379 = .ok (.lcmp, 1) := by decide +kernel
theorem d_L_law_380 : decode b_L_law 380 = .ok (.ifCond .eq 5, 3) := by decide +kernel
theorem d_L_law_383 : decode b_L_law 383 = .ok (.iconst 0, 1) := by decide +kernel
theorem d_L_law_384 : decode b_L_law 384 = .ok (.ireturn, 1) := by decide +kernel
theorem d_L_law_385 : decode b_L_law 385 = .ok (.goto 1275, 3) := by decide +kernel
theorem d_L_law_388 : decode b_L_law 388 = .ok (.aload_n 1, 1) := by decide +kernel
theorem d_L_law_389 : decode b_L_law 389 = .ok (.aload_n 0, 1) := by decide +kernel
theorem d_L_law_390 : decode b_L_law 390 = .ok (.iload 4, 2) := by decide +kernel
theorem d_L_law_392 : decode b_L_law 392 = .ok (.iconst 1, 1) := by decide +kernel
theorem d_L_law_393 : decode b_L_law 393 = .ok (.iadd, 1) := by decide +kernel
theorem d_L_law_394 : decode b_L_law 394 = .ok (.iaload, 1) := by decide +kernel
theorem d_L_law_395 : decode b_L_law 395 = .ok (.aload_n 3, 1) := by decide +kernel
theorem d_L_law_396 : decode b_L_law 396 = .ok (.invokestatic 122, 3) := by decide +kernel
theorem d_L_law_399 : decode b_L_law 399 = .ok (.istore 5, 2) := by decide +kernel
theorem d_L_law_401 : decode b_L_law 401 = .ok (.aload_n 2, 1) := by decide +kernel
theorem d_L_law_402 : decode b_L_law 402 = .ok (.aload_n 0, 1) := by decide +kernel
theorem d_L_law_403 : decode b_L_law 403 = .ok (.iload 4, 2) := by decide +kernel
theorem d_L_law_405 : decode b_L_law 405 = .ok (.iconst 1, 1) := by decide +kernel
theorem d_L_law_406 : decode b_L_law 406 = .ok (.iadd, 1) := by decide +kernel
theorem d_L_law_407 : decode b_L_law 407 = .ok (.iaload, 1) := by decide +kernel
theorem d_L_law_408 : decode b_L_law 408 = .ok (.invokevirtual 124, 3) := by decide +kernel
theorem d_L_law_411 : decode b_L_law 411 = .ok (.istore 6, 2) := by decide +kernel
theorem d_L_law_413 : decode b_L_law 413 = .ok (.aload_n 2, 1) := by decide +kernel
theorem d_L_law_414 : decode b_L_law 414 = .ok (.invokevirtual 104, 3) := by decide +kernel
theorem d_L_law_417 : decode b_L_law 417 = .ok (.iload 5, 2) := by decide +kernel
theorem d_L_law_419 : decode b_L_law 419 = .ok (.if_icmp .eq 5, 3) := by decide +kernel
theorem d_L_law_422 : decode b_L_law 422 = .ok (.iconst 0, 1) := by decide +kernel
theorem d_L_law_423 : decode b_L_law 423 = .ok (.ireturn, 1) := by decide +kernel
theorem d_L_law_424 : decode b_L_law 424 = .ok (.iload 5, 2) := by decide +kernel
theorem d_L_law_426 : decode b_L_law 426 = .ok (.ifCond .ne 15, 3) := by decide +kernel
theorem d_L_law_429 : decode b_L_law 429 = .ok (.aload_n 3, 1) := by decide +kernel
theorem d_L_law_430 : decode b_L_law 430 = .ok (.iconst 0, 1) := by decide +kernel
theorem d_L_law_431 : decode b_L_law 431 = .ok (.laload, 1) := by decide +kernel
theorem d_L_law_432 : decode b_L_law 432 = .ok (.iload 6, 2) := by decide +kernel
theorem d_L_law_434 : decode b_L_law 434 = .ok (.i2l, 1) := by decide +kernel
theorem d_L_law_435 : decode b_L_law 435 = .ok (.lcmp, 1) := by decide +kernel
theorem d_L_law_436 : decode b_L_law 436 = .ok (.ifCond .eq 5, 3) := by decide +kernel
theorem d_L_law_439 : decode b_L_law 439 = .ok (.iconst 0, 1) := by decide +kernel
theorem d_L_law_440 : decode b_L_law 440 = .ok (.ireturn, 1) := by decide +kernel
theorem d_L_law_441 : decode b_L_law 441 = .ok (.goto 1219, 3) := by decide +kernel
theorem d_L_law_444 : decode b_L_law 444 = .ok (.aload_n 1, 1) := by decide +kernel
theorem d_L_law_445 : decode b_L_law 445 = .ok (.aload_n 0, 1) := by decide +kernel
theorem d_L_law_446 : decode b_L_law 446 = .ok (.iload 4, 2) := by decide +kernel
theorem d_L_law_448 : decode b_L_law 448 = .ok (.iconst 1, 1) := by decide +kernel
theorem d_L_law_449 : decode b_L_law 449 = .ok (.iadd, 1) := by decide +kernel
theorem d_L_law_450 : decode b_L_law 450 = .ok (.iaload, 1) := by decide +kernel
theorem d_L_law_451 : decode b_L_law 451 = .ok (.aload_n 3, 1) := by decide +kernel
theorem d_L_law_452 : decode b_L_law 452 = .ok (.invokestatic 125, 3) := by decide +kernel
theorem d_L_law_455 : decode b_L_law 455 = .ok (.istore 5, 2) := by decide +kernel
theorem d_L_law_457 : decode b_L_law 457 = .ok (.aload_n 2, 1) := by decide +kernel
theorem d_L_law_458 : decode b_L_law 458 = .ok (.aload_n 0, 1) := by decide +kernel
theorem d_L_law_459 : decode b_L_law 459 = .ok (.iload 4, 2) := by decide +kernel
theorem d_L_law_461 : decode b_L_law 461 = .ok (.iconst 1, 1) := by decide +kernel
theorem d_L_law_462 : decode b_L_law 462 = .ok (.iadd, 1) := by decide +kernel
theorem d_L_law_463 : decode b_L_law 463 = .ok (.iaload, 1) := by decide +kernel
theorem d_L_law_464 : decode b_L_law 464 = .ok (.invokevirtual 127, 3) := by decide +kernel
theorem d_L_law_467 : decode b_L_law 467 = .ok (.istore 6, 2) := by decide +kernel
theorem d_L_law_469 : decode b_L_law 469 = .ok (.aload_n 2, 1) := by decide +kernel
theorem d_L_law_470 : decode b_L_law 470 = .ok (.invokevirtual 104, 3) := by decide +kernel
theorem d_L_law_473 : decode b_L_law 473 = .ok (.iload 5, 2) := by decide +kernel
theorem d_L_law_475 : decode b_L_law 475 = .ok (.if_icmp .eq 5, 3) := by decide +kernel
theorem d_L_law_478 : decode b_L_law 478 = .ok (.iconst 0, 1) := by decide +kernel
theorem d_L_law_479 : decode b_L_law 479 = .ok (.ireturn, 1) := by decide +kernel
theorem d_L_law_480 : decode b_L_law 480 = .ok (.iload 5, 2) := by decide +kernel
theorem d_L_law_482 : decode b_L_law 482 = .ok (.ifCond .ne 15, 3) := by decide +kernel
theorem d_L_law_485 : decode b_L_law 485 = .ok (.aload_n 3, 1) := by decide +kernel
theorem d_L_law_486 : decode b_L_law 486 = .ok (.iconst 0, 1) := by decide +kernel
theorem d_L_law_487 : decode b_L_law 487 = .ok (.laload, 1) := by decide +kernel
theorem d_L_law_488 : decode b_L_law 488 = .ok (.iload 6, 2) := by decide +kernel
theorem d_L_law_490 : decode b_L_law 490 = .ok (.i2l, 1) := by decide +kernel
theorem d_L_law_491 : decode b_L_law 491 = .ok (.lcmp, 1) := by decide +kernel
theorem d_L_law_492 : decode b_L_law 492 = .ok (.ifCond .eq 5, 3) := by decide +kernel
theorem d_L_law_495 : decode b_L_law 495 = .ok (.iconst 0, 1) := by decide +kernel
theorem d_L_law_496 : decode b_L_law 496 = .ok (.ireturn, 1) := by decide +kernel
theorem d_L_law_497 : decode b_L_law 497 = .ok (.goto 1163, 3) := by decide +kernel
theorem d_L_law_500 : decode b_L_law 500 = .ok (.aload_n 1, 1) := by decide +kernel
theorem d_L_law_501 : decode b_L_law 501 = .ok (.aload_n 0, 1) := by decide +kernel
theorem d_L_law_502 : decode b_L_law 502 = .ok (.iload 4, 2) := by decide +kernel
theorem d_L_law_504 : decode b_L_law 504 = .ok (.iconst 1, 1) := by decide +kernel
theorem d_L_law_505 : decode b_L_law 505 = .ok (.iadd, 1) := by decide +kernel
theorem d_L_law_506 : decode b_L_law 506 = .ok (.iaload, 1) := by decide +kernel
theorem d_L_law_507 : decode b_L_law 507 = .ok (.aload_n 3, 1) := by decide +kernel
theorem d_L_law_508 : decode b_L_law 508 = .ok (.invokestatic 128, 3) := by decide +kernel
theorem d_L_law_511 : decode b_L_law 511 = .ok (.istore 5, 2) := by decide +kernel
theorem d_L_law_513 : decode b_L_law 513 = .ok (.aload_n 2, 1) := by decide +kernel
theorem d_L_law_514 : decode b_L_law 514 = .ok (.aload_n 0, 1) := by decide +kernel
theorem d_L_law_515 : decode b_L_law 515 = .ok (.iload 4, 2) := by decide +kernel
theorem d_L_law_517 : decode b_L_law 517 = .ok (.iconst 1, 1) := by decide +kernel
theorem d_L_law_518 : decode b_L_law 518 = .ok (.iadd, 1) := by decide +kernel
theorem d_L_law_519 : decode b_L_law 519 = .ok (.iaload, 1) := by decide +kernel
theorem d_L_law_520 : decode b_L_law 520 = .ok (.invokevirtual 130, 3) := by decide +kernel
theorem d_L_law_523 : decode b_L_law 523 = .ok (.istore 6, 2) := by decide +kernel
theorem d_L_law_525 : decode b_L_law 525 = .ok (.aload_n 2, 1) := by decide +kernel
theorem d_L_law_526 : decode b_L_law 526 = .ok (.invokevirtual 104, 3) := by decide +kernel
theorem d_L_law_529 : decode b_L_law 529 = .ok (.iload 5, 2) := by decide +kernel
theorem d_L_law_531 : decode b_L_law 531 = .ok (.if_icmp .eq 5, 3) := by decide +kernel
theorem d_L_law_534 : decode b_L_law 534 = .ok (.iconst 0, 1) := by decide +kernel
theorem d_L_law_535 : decode b_L_law 535 = .ok (.ireturn, 1) := by decide +kernel
theorem d_L_law_536 : decode b_L_law 536 = .ok (.iload 5, 2) := by decide +kernel
theorem d_L_law_538 : decode b_L_law 538 = .ok (.ifCond .ne 15, 3) := by decide +kernel
theorem d_L_law_541 : decode b_L_law 541 = .ok (.aload_n 3, 1) := by decide +kernel
theorem d_L_law_542 : decode b_L_law 542 = .ok (.iconst 0, 1) := by decide +kernel
theorem d_L_law_543 : decode b_L_law 543 = .ok (.laload, 1) := by decide +kernel
theorem d_L_law_544 : decode b_L_law 544 = .ok (.iload 6, 2) := by decide +kernel
theorem d_L_law_546 : decode b_L_law 546 = .ok (.i2l, 1) := by decide +kernel
theorem d_L_law_547 : decode b_L_law 547 = .ok (.lcmp, 1) := by decide +kernel
theorem d_L_law_548 : decode b_L_law 548 = .ok (.ifCond .eq 5, 3) := by decide +kernel
theorem d_L_law_551 : decode b_L_law 551 = .ok (.iconst 0, 1) := by decide +kernel
theorem d_L_law_552 : decode b_L_law 552 = .ok (.ireturn, 1) := by decide +kernel
theorem d_L_law_553 : decode b_L_law 553 = .ok (.goto 1107, 3) := by decide +kernel
theorem d_L_law_556 : decode b_L_law 556 = .ok (.aload_n 1, 1) := by decide +kernel
theorem d_L_law_557 : decode b_L_law 557 = .ok (.aload_n 0, 1) := by decide +kernel
theorem d_L_law_558 : decode b_L_law 558 = .ok (.iload 4, 2) := by decide +kernel
theorem d_L_law_560 : decode b_L_law 560 = .ok (.iconst 1, 1) := by decide +kernel
theorem d_L_law_561 : decode b_L_law 561 = .ok (.iadd, 1) := by decide +kernel
theorem d_L_law_562 : decode b_L_law 562 = .ok (.iaload, 1) := by decide +kernel
theorem d_L_law_563 : decode b_L_law 563 = .ok (.aload_n 3, 1) := by decide +kernel
theorem d_L_law_564 : decode b_L_law 564 = .ok (.invokestatic 131, 3) := by decide +kernel
theorem d_L_law_567 : decode b_L_law 567 = .ok (.istore 5, 2) := by decide +kernel
theorem d_L_law_569 : decode b_L_law 569 = .ok (.aload_n 2, 1) := by decide +kernel
theorem d_L_law_570 : decode b_L_law 570 = .ok (.aload_n 0, 1) := by decide +kernel
theorem d_L_law_571 : decode b_L_law 571 = .ok (.iload 4, 2) := by decide +kernel
theorem d_L_law_573 : decode b_L_law 573 = .ok (.iconst 1, 1) := by decide +kernel
theorem d_L_law_574 : decode b_L_law 574 = .ok (.iadd, 1) := by decide +kernel
theorem d_L_law_575 : decode b_L_law 575 = .ok (.iaload, 1) := by decide +kernel
theorem d_L_law_576 : decode b_L_law 576 = .ok (.invokevirtual 133, 3) := by decide +kernel
theorem d_L_law_579 : decode b_L_law 579 = .ok (.istore 6, 2) := by decide +kernel
theorem d_L_law_581 : decode b_L_law 581 = .ok (.aload_n 2, 1) := by decide +kernel
theorem d_L_law_582 : decode b_L_law 582 = .ok (.invokevirtual 104, 3) := by decide +kernel
theorem d_L_law_585 : decode b_L_law 585 = .ok (.iload 5, 2) := by decide +kernel
theorem d_L_law_587 : decode b_L_law 587 = .ok (.if_icmp .eq 5, 3) := by decide +kernel
theorem d_L_law_590 : decode b_L_law 590 = .ok (.iconst 0, 1) := by decide +kernel
theorem d_L_law_591 : decode b_L_law 591 = .ok (.ireturn, 1) := by decide +kernel
theorem d_L_law_592 : decode b_L_law 592 = .ok (.iload 5, 2) := by decide +kernel
theorem d_L_law_594 : decode b_L_law 594 = .ok (.ifCond .ne 15, 3) := by decide +kernel
theorem d_L_law_597 : decode b_L_law 597 = .ok (.aload_n 3, 1) := by decide +kernel
theorem d_L_law_598 : decode b_L_law 598 = .ok (.iconst 0, 1) := by decide +kernel
theorem d_L_law_599 : decode b_L_law 599 = .ok (.laload, 1) := by decide +kernel
theorem d_L_law_600 : decode b_L_law 600 = .ok (.iload 6, 2) := by decide +kernel
theorem d_L_law_602 : decode b_L_law 602 = .ok (.i2l, 1) := by decide +kernel
theorem d_L_law_603 : decode b_L_law 603 = .ok (.lcmp, 1) := by decide +kernel
theorem d_L_law_604 : decode b_L_law 604 = .ok (.ifCond .eq 5, 3) := by decide +kernel
theorem d_L_law_607 : decode b_L_law 607 = .ok (.iconst 0, 1) := by decide +kernel
theorem d_L_law_608 : decode b_L_law 608 = .ok (.ireturn, 1) := by decide +kernel
theorem d_L_law_609 : decode b_L_law 609 = .ok (.goto 1051, 3) := by decide +kernel
theorem d_L_law_612 : decode b_L_law 612 = .ok (.aload_n 1, 1) := by decide +kernel
theorem d_L_law_613 : decode b_L_law 613 = .ok (.aload_n 0, 1) := by decide +kernel
theorem d_L_law_614 : decode b_L_law 614 = .ok (.iload 4, 2) := by decide +kernel
theorem d_L_law_616 : decode b_L_law 616 = .ok (.iconst 1, 1) := by decide +kernel
theorem d_L_law_617 : decode b_L_law 617 = .ok (.iadd, 1) := by decide +kernel
theorem d_L_law_618 : decode b_L_law 618 = .ok (.iaload, 1) := by decide +kernel
theorem d_L_law_619 : decode b_L_law 619 = .ok (.invokevirtual 134, 3) := by decide +kernel
theorem d_L_law_622 : decode b_L_law 622 = .ok (.aload_n 2, 1) := by decide +kernel
theorem d_L_law_623 : decode b_L_law 623 = .ok (.aload_n 0, 1) := by decide +kernel
theorem d_L_law_624 : decode b_L_law 624 = .ok (.iload 4, 2) := by decide +kernel
theorem d_L_law_626 : decode b_L_law 626 = .ok (.iconst 1, 1) := by decide +kernel
theorem d_L_law_627 : decode b_L_law 627 = .ok (.iadd, 1) := by decide +kernel
theorem d_L_law_628 : decode b_L_law 628 = .ok (.iaload, 1) := by decide +kernel
theorem d_L_law_629 : decode b_L_law 629 = .ok (.invokevirtual 138, 3) := by decide +kernel
theorem d_L_law_632 : decode b_L_law 632 = .ok (.if_icmp .eq 1028, 3) := by decide +kernel
theorem d_L_law_635 : decode b_L_law 635 = .ok (.iconst 0, 1) := by decide +kernel
theorem d_L_law_636 : decode b_L_law 636 = .ok (.ireturn, 1) := by decide +kernel
theorem d_L_law_637 : decode b_L_law 637 = .ok (.aload_n 1, 1) := by decide +kernel
theorem d_L_law_638 : decode b_L_law 638 = .ok (.aload_n 0, 1) := by decide +kernel
theorem d_L_law_639 : decode b_L_law 639 = .ok (.iload 4, 2) := by decide +kernel
theorem d_L_law_641 : decode b_L_law 641 = .ok (.iconst 1, 1) := by decide +kernel
theorem d_L_law_642 : decode b_L_law 642 = .ok (.iadd, 1) := by decide +kernel
theorem d_L_law_643 : decode b_L_law 643 = .ok (.iaload, 1) := by decide +kernel
theorem d_L_law_644 : decode b_L_law 644 = .ok (.aload_n 0, 1) := by decide +kernel
theorem d_L_law_645 : decode b_L_law 645 = .ok (.iload 4, 2) := by decide +kernel
theorem d_L_law_647 : decode b_L_law 647 = .ok (.iconst 2, 1) := by decide +kernel
theorem d_L_law_648 : decode b_L_law 648 = .ok (.iadd, 1) := by decide +kernel
theorem d_L_law_649 : decode b_L_law 649 = .ok (.iaload, 1) := by decide +kernel
theorem d_L_law_650 : decode b_L_law 650 = .ok (.aload_n 0, 1) := by decide +kernel
theorem d_L_law_651 : decode b_L_law 651 = .ok (.iload 4, 2) := by decide +kernel
theorem d_L_law_653 : decode b_L_law 653 = .ok (.iconst 3, 1) := by decide +kernel
theorem d_L_law_654 : decode b_L_law 654 = .ok (.iadd, 1) := by decide +kernel
theorem d_L_law_655 : decode b_L_law 655 = .ok (.iaload, 1) := by decide +kernel
theorem d_L_law_656 : decode b_L_law 656 = .ok (.aload_n 3, 1) := by decide +kernel
theorem d_L_law_657 : decode b_L_law 657 = .ok (.invokestatic 139, 3) := by decide +kernel
theorem d_L_law_660 : decode b_L_law 660 = .ok (.istore 5, 2) := by decide +kernel
theorem d_L_law_662 : decode b_L_law 662 = .ok (.aload_n 2, 1) := by decide +kernel
theorem d_L_law_663 : decode b_L_law 663 = .ok (.aload_n 0, 1) := by decide +kernel
theorem d_L_law_664 : decode b_L_law 664 = .ok (.iload 4, 2) := by decide +kernel
theorem d_L_law_666 : decode b_L_law 666 = .ok (.iconst 1, 1) := by decide +kernel
theorem d_L_law_667 : decode b_L_law 667 = .ok (.iadd, 1) := by decide +kernel
theorem d_L_law_668 : decode b_L_law 668 = .ok (.iaload, 1) := by decide +kernel
theorem d_L_law_669 : decode b_L_law 669 = .ok (.aload_n 0, 1) := by decide +kernel
theorem d_L_law_670 : decode b_L_law 670 = .ok (.iload 4, 2) := by decide +kernel
theorem d_L_law_672 : decode b_L_law 672 = .ok (.iconst 2, 1) := by decide +kernel
theorem d_L_law_673 : decode b_L_law 673 = .ok (.iadd, 1) := by decide +kernel
theorem d_L_law_674 : decode b_L_law 674 = .ok (.iaload, 1) := by decide +kernel
theorem d_L_law_675 : decode b_L_law 675 = .ok (.aload_n 0, 1) := by decide +kernel
theorem d_L_law_676 : decode b_L_law 676 = .ok (.iload 4, 2) := by decide +kernel
theorem d_L_law_678 : decode b_L_law 678 = .ok (.iconst 3, 1) := by decide +kernel
theorem d_L_law_679 : decode b_L_law 679 = .ok (.iadd, 1) := by decide +kernel
theorem d_L_law_680 : decode b_L_law 680 = .ok (.iaload, 1) := by decide +kernel
theorem d_L_law_681 : decode b_L_law 681 = .ok (.invokevirtual 142, 3) := by decide +kernel
theorem d_L_law_684 : decode b_L_law 684 = .ok (.istore 6, 2) := by decide +kernel
theorem d_L_law_686 : decode b_L_law 686 = .ok (.aload_n 2, 1) := by decide +kernel
theorem d_L_law_687 : decode b_L_law 687 = .ok (.invokevirtual 104, 3) := by decide +kernel
theorem d_L_law_690 : decode b_L_law 690 = .ok (.iload 5, 2) := by decide +kernel
theorem d_L_law_692 : decode b_L_law 692 = .ok (.if_icmp .eq 5, 3) := by decide +kernel
theorem d_L_law_695 : decode b_L_law 695 = .ok (.iconst 0, 1) := by decide +kernel
theorem d_L_law_696 : decode b_L_law 696 = .ok (.ireturn, 1) := by decide +kernel
theorem d_L_law_697 : decode b_L_law 697 = .ok (.iload 5, 2) := by decide +kernel
theorem d_L_law_699 : decode b_L_law 699 = .ok (.ifCond .ne 15, 3) := by decide +kernel
theorem d_L_law_702 : decode b_L_law 702 = .ok (.aload_n 3, 1) := by decide +kernel
theorem d_L_law_703 : decode b_L_law 703 = .ok (.iconst 0, 1) := by decide +kernel
theorem d_L_law_704 : decode b_L_law 704 = .ok (.laload, 1) := by decide +kernel
theorem d_L_law_705 : decode b_L_law 705 = .ok (.iload 6, 2) := by decide +kernel
theorem d_L_law_707 : decode b_L_law 707 = .ok (.i2l, 1) := by decide +kernel
theorem d_L_law_708 : decode b_L_law 708 = .ok (.lcmp, 1) := by decide +kernel
theorem d_L_law_709 : decode b_L_law 709 = .ok (.ifCond .eq 5, 3) := by decide +kernel
theorem d_L_law_712 : decode b_L_law 712 = .ok (.iconst 0, 1) := by decide +kernel
theorem d_L_law_713 : decode b_L_law 713 = .ok (.ireturn, 1) := by decide +kernel
theorem d_L_law_714 : decode b_L_law 714 = .ok (.goto 946, 3) := by decide +kernel
theorem d_L_law_717 : decode b_L_law 717 = .ok (.aload_n 1, 1) := by decide +kernel
theorem d_L_law_718 : decode b_L_law 718 = .ok (.aload_n 0, 1) := by decide +kernel
theorem d_L_law_719 : decode b_L_law 719 = .ok (.iload 4, 2) := by decide +kernel
theorem d_L_law_721 : decode b_L_law 721 = .ok (.iconst 1, 1) := by decide +kernel
theorem d_L_law_722 : decode b_L_law 722 = .ok (.iadd, 1) := by decide +kernel
theorem d_L_law_723 : decode b_L_law 723 = .ok (.iaload, 1) := by decide +kernel
theorem d_L_law_724 : decode b_L_law 724 = .ok (.aload_n 0, 1) := by decide +kernel
theorem d_L_law_725 : decode b_L_law 725 = .ok (.iload 4, 2) := by decide +kernel
theorem d_L_law_727 : decode b_L_law 727 = .ok (.iconst 2, 1) := by decide +kernel
theorem d_L_law_728 : decode b_L_law 728 = .ok (.iadd, 1) := by decide +kernel
theorem d_L_law_729 : decode b_L_law 729 = .ok (.iaload, 1) := by decide +kernel
theorem d_L_law_730 : decode b_L_law 730 = .ok (.aload_n 3, 1) := by decide +kernel
theorem d_L_law_731 : decode b_L_law 731 = .ok (.invokestatic 143, 3) := by decide +kernel
theorem d_L_law_734 : decode b_L_law 734 = .ok (.istore 5, 2) := by decide +kernel
theorem d_L_law_736 : decode b_L_law 736 = .ok (.aload_n 2, 1) := by decide +kernel
theorem d_L_law_737 : decode b_L_law 737 = .ok (.aload_n 0, 1) := by decide +kernel
theorem d_L_law_738 : decode b_L_law 738 = .ok (.iload 4, 2) := by decide +kernel
theorem d_L_law_740 : decode b_L_law 740 = .ok (.iconst 1, 1) := by decide +kernel
theorem d_L_law_741 : decode b_L_law 741 = .ok (.iadd, 1) := by decide +kernel
theorem d_L_law_742 : decode b_L_law 742 = .ok (.iaload, 1) := by decide +kernel
theorem d_L_law_743 : decode b_L_law 743 = .ok (.aload_n 0, 1) := by decide +kernel
theorem d_L_law_744 : decode b_L_law 744 = .ok (.iload 4, 2) := by decide +kernel
theorem d_L_law_746 : decode b_L_law 746 = .ok (.iconst 2, 1) := by decide +kernel
theorem d_L_law_747 : decode b_L_law 747 = .ok (.iadd, 1) := by decide +kernel
theorem d_L_law_748 : decode b_L_law 748 = .ok (.iaload, 1) := by decide +kernel
theorem d_L_law_749 : decode b_L_law 749 = .ok (.invokevirtual 145, 3) := by decide +kernel
theorem d_L_law_752 : decode b_L_law 752 = .ok (.istore 6, 2) := by decide +kernel
theorem d_L_law_754 : decode b_L_law 754 = .ok (.aload_n 2, 1) := by decide +kernel
theorem d_L_law_755 : decode b_L_law 755 = .ok (.invokevirtual 104, 3) := by decide +kernel
theorem d_L_law_758 : decode b_L_law 758 = .ok (.iload 5, 2) := by decide +kernel
theorem d_L_law_760 : decode b_L_law 760 = .ok (.if_icmp .eq 5, 3) := by decide +kernel
theorem d_L_law_763 : decode b_L_law 763 = .ok (.iconst 0, 1) := by decide +kernel
theorem d_L_law_764 : decode b_L_law 764 = .ok (.ireturn, 1) := by decide +kernel
theorem d_L_law_765 : decode b_L_law 765 = .ok (.iload 5, 2) := by decide +kernel
theorem d_L_law_767 : decode b_L_law 767 = .ok (.ifCond .ne 15, 3) := by decide +kernel
theorem d_L_law_770 : decode b_L_law 770 = .ok (.aload_n 3, 1) := by decide +kernel
theorem d_L_law_771 : decode b_L_law 771 = .ok (.iconst 0, 1) := by decide +kernel
theorem d_L_law_772 : decode b_L_law 772 = .ok (.laload, 1) := by decide +kernel
theorem d_L_law_773 : decode b_L_law 773 = .ok (.iload 6, 2) := by decide +kernel
theorem d_L_law_775 : decode b_L_law 775 = .ok (.i2l, 1) := by decide +kernel
theorem d_L_law_776 : decode b_L_law 776 = .ok (.lcmp, 1) := by decide +kernel
theorem d_L_law_777 : decode b_L_law 777 = .ok (.ifCond .eq 5, 3) := by decide +kernel
theorem d_L_law_780 : decode b_L_law 780 = .ok (.iconst 0, 1) := by decide +kernel
theorem d_L_law_781 : decode b_L_law 781 = .ok (.ireturn, 1) := by decide +kernel
theorem d_L_law_782 : decode b_L_law 782 = .ok (.goto 878, 3) := by decide +kernel
theorem d_L_law_785 : decode b_L_law 785 = .ok (.aload_n 1, 1) := by decide +kernel
theorem d_L_law_786 : decode b_L_law 786 = .ok (.aload_n 0, 1) := by decide +kernel
theorem d_L_law_787 : decode b_L_law 787 = .ok (.iload 4, 2) := by decide +kernel
theorem d_L_law_789 : decode b_L_law 789 = .ok (.iconst 1, 1) := by decide +kernel
theorem d_L_law_790 : decode b_L_law 790 = .ok (.iadd, 1) := by decide +kernel
theorem d_L_law_791 : decode b_L_law 791 = .ok (.iaload, 1) := by decide +kernel
theorem d_L_law_792 : decode b_L_law 792 = .ok (.aload_n 0, 1) := by decide +kernel
theorem d_L_law_793 : decode b_L_law 793 = .ok (.iload 4, 2) := by decide +kernel
theorem d_L_law_795 : decode b_L_law 795 = .ok (.iconst 2, 1) := by decide +kernel
theorem d_L_law_796 : decode b_L_law 796 = .ok (.iadd, 1) := by decide +kernel
theorem d_L_law_797 : decode b_L_law 797 = .ok (.iaload, 1) := by decide +kernel
theorem d_L_law_798 : decode b_L_law 798 = .ok (.aload_n 3, 1) := by decide +kernel
theorem d_L_law_799 : decode b_L_law 799 = .ok (.invokestatic 146, 3) := by decide +kernel
theorem d_L_law_802 : decode b_L_law 802 = .ok (.istore 5, 2) := by decide +kernel
theorem d_L_law_804 : decode b_L_law 804 = .ok (.aload_n 2, 1) := by decide +kernel
theorem d_L_law_805 : decode b_L_law 805 = .ok (.aload_n 0, 1) := by decide +kernel
theorem d_L_law_806 : decode b_L_law 806 = .ok (.iload 4, 2) := by decide +kernel
theorem d_L_law_808 : decode b_L_law 808 = .ok (.iconst 1, 1) := by decide +kernel
theorem d_L_law_809 : decode b_L_law 809 = .ok (.iadd, 1) := by decide +kernel
theorem d_L_law_810 : decode b_L_law 810 = .ok (.iaload, 1) := by decide +kernel
theorem d_L_law_811 : decode b_L_law 811 = .ok (.aload_n 0, 1) := by decide +kernel
theorem d_L_law_812 : decode b_L_law 812 = .ok (.iload 4, 2) := by decide +kernel
theorem d_L_law_814 : decode b_L_law 814 = .ok (.iconst 2, 1) := by decide +kernel
theorem d_L_law_815 : decode b_L_law 815 = .ok (.iadd, 1) := by decide +kernel
theorem d_L_law_816 : decode b_L_law 816 = .ok (.iaload, 1) := by decide +kernel
theorem d_L_law_817 : decode b_L_law 817 = .ok (.invokevirtual 148, 3) := by decide +kernel
theorem d_L_law_820 : decode b_L_law 820 = .ok (.istore 6, 2) := by decide +kernel
theorem d_L_law_822 : decode b_L_law 822 = .ok (.aload_n 2, 1) := by decide +kernel
theorem d_L_law_823 : decode b_L_law 823 = .ok (.invokevirtual 104, 3) := by decide +kernel
theorem d_L_law_826 : decode b_L_law 826 = .ok (.iload 5, 2) := by decide +kernel
theorem d_L_law_828 : decode b_L_law 828 = .ok (.if_icmp .eq 5, 3) := by decide +kernel
theorem d_L_law_831 : decode b_L_law 831 = .ok (.iconst 0, 1) := by decide +kernel
theorem d_L_law_832 : decode b_L_law 832 = .ok (.ireturn, 1) := by decide +kernel
theorem d_L_law_833 : decode b_L_law 833 = .ok (.iload 5, 2) := by decide +kernel
theorem d_L_law_835 : decode b_L_law 835 = .ok (.ifCond .ne 15, 3) := by decide +kernel
theorem d_L_law_838 : decode b_L_law 838 = .ok (.aload_n 3, 1) := by decide +kernel
theorem d_L_law_839 : decode b_L_law 839 = .ok (.iconst 0, 1) := by decide +kernel
theorem d_L_law_840 : decode b_L_law 840 = .ok (.laload, 1) := by decide +kernel
theorem d_L_law_841 : decode b_L_law 841 = .ok (.iload 6, 2) := by decide +kernel
theorem d_L_law_843 : decode b_L_law 843 = .ok (.i2l, 1) := by decide +kernel
theorem d_L_law_844 : decode b_L_law 844 = .ok (.lcmp, 1) := by decide +kernel
theorem d_L_law_845 : decode b_L_law 845 = .ok (.ifCond .eq 5, 3) := by decide +kernel
theorem d_L_law_848 : decode b_L_law 848 = .ok (.iconst 0, 1) := by decide +kernel
theorem d_L_law_849 : decode b_L_law 849 = .ok (.ireturn, 1) := by decide +kernel
theorem d_L_law_850 : decode b_L_law 850 = .ok (.goto 810, 3) := by decide +kernel
theorem d_L_law_853 : decode b_L_law 853 = .ok (.aload_n 1, 1) := by decide +kernel
theorem d_L_law_854 : decode b_L_law 854 = .ok (.aload_n 0, 1) := by decide +kernel
theorem d_L_law_855 : decode b_L_law 855 = .ok (.iload 4, 2) := by decide +kernel
theorem d_L_law_857 : decode b_L_law 857 = .ok (.iconst 1, 1) := by decide +kernel
theorem d_L_law_858 : decode b_L_law 858 = .ok (.iadd, 1) := by decide +kernel
theorem d_L_law_859 : decode b_L_law 859 = .ok (.iaload, 1) := by decide +kernel
theorem d_L_law_860 : decode b_L_law 860 = .ok (.aload_n 3, 1) := by decide +kernel
theorem d_L_law_861 : decode b_L_law 861 = .ok (.invokestatic 149, 3) := by decide +kernel
theorem d_L_law_864 : decode b_L_law 864 = .ok (.istore 5, 2) := by decide +kernel
theorem d_L_law_866 : decode b_L_law 866 = .ok (.aload_n 2, 1) := by decide +kernel
theorem d_L_law_867 : decode b_L_law 867 = .ok (.aload_n 0, 1) := by decide +kernel
theorem d_L_law_868 : decode b_L_law 868 = .ok (.iload 4, 2) := by decide +kernel
theorem d_L_law_870 : decode b_L_law 870 = .ok (.iconst 1, 1) := by decide +kernel
theorem d_L_law_871 : decode b_L_law 871 = .ok (.iadd, 1) := by decide +kernel
theorem d_L_law_872 : decode b_L_law 872 = .ok (.iaload, 1) := by decide +kernel
theorem d_L_law_873 : decode b_L_law 873 = .ok (.invokevirtual 151, 3) := by decide +kernel
theorem d_L_law_876 : decode b_L_law 876 = .ok (.istore 6, 2) := by decide +kernel
theorem d_L_law_878 : decode b_L_law 878 = .ok (.aload_n 2, 1) := by decide +kernel
theorem d_L_law_879 : decode b_L_law 879 = .ok (.invokevirtual 104, 3) := by decide +kernel
theorem d_L_law_882 : decode b_L_law 882 = .ok (.iload 5, 2) := by decide +kernel
theorem d_L_law_884 : decode b_L_law 884 = .ok (.if_icmp .eq 5, 3) := by decide +kernel
theorem d_L_law_887 : decode b_L_law 887 = .ok (.iconst 0, 1) := by decide +kernel
theorem d_L_law_888 : decode b_L_law 888 = .ok (.ireturn, 1) := by decide +kernel
theorem d_L_law_889 : decode b_L_law 889 = .ok (.iload 5, 2) := by decide +kernel
theorem d_L_law_891 : decode b_L_law 891 = .ok (.ifCond .ne 15, 3) := by decide +kernel
theorem d_L_law_894 : decode b_L_law 894 = .ok (.aload_n 3, 1) := by decide +kernel
theorem d_L_law_895 : decode b_L_law 895 = .ok (.iconst 0, 1) := by decide +kernel
theorem d_L_law_896 : decode b_L_law 896 = .ok (.laload, 1) := by decide +kernel
theorem d_L_law_897 : decode b_L_law 897 = .ok (.iload 6, 2) := by decide +kernel
theorem d_L_law_899 : decode b_L_law 899 = .ok (.i2l, 1) := by decide +kernel
theorem d_L_law_900 : decode b_L_law 900 = .ok (.lcmp, 1) := by decide +kernel
theorem d_L_law_901 : decode b_L_law 901 = .ok (.ifCond .eq 5, 3) := by decide +kernel
theorem d_L_law_904 : decode b_L_law 904 = .ok (.iconst 0, 1) := by decide +kernel
theorem d_L_law_905 : decode b_L_law 905 = .ok (.ireturn, 1) := by decide +kernel
theorem d_L_law_906 : decode b_L_law 906 = .ok (.goto 754, 3) := by decide +kernel
theorem d_L_law_909 : decode b_L_law 909 = .ok (.aload_n 1, 1) := by decide +kernel
theorem d_L_law_910 : decode b_L_law 910 = .ok (.aload_n 0, 1) := by decide +kernel
theorem d_L_law_911 : decode b_L_law 911 = .ok (.iload 4, 2) := by decide +kernel
theorem d_L_law_913 : decode b_L_law 913 = .ok (.iconst 1, 1) := by decide +kernel
theorem d_L_law_914 : decode b_L_law 914 = .ok (.iadd, 1) := by decide +kernel
theorem d_L_law_915 : decode b_L_law 915 = .ok (.iaload, 1) := by decide +kernel
theorem d_L_law_916 : decode b_L_law 916 = .ok (.aload_n 3, 1) := by decide +kernel
theorem d_L_law_917 : decode b_L_law 917 = .ok (.invokestatic 152, 3) := by decide +kernel
theorem d_L_law_920 : decode b_L_law 920 = .ok (.istore 5, 2) := by decide +kernel
theorem d_L_law_922 : decode b_L_law 922 = .ok (.aload_n 2, 1) := by decide +kernel
theorem d_L_law_923 : decode b_L_law 923 = .ok (.aload_n 0, 1) := by decide +kernel
theorem d_L_law_924 : decode b_L_law 924 = .ok (.iload 4, 2) := by decide +kernel
theorem d_L_law_926 : decode b_L_law 926 = .ok (.iconst 1, 1) := by decide +kernel
theorem d_L_law_927 : decode b_L_law 927 = .ok (.iadd, 1) := by decide +kernel
theorem d_L_law_928 : decode b_L_law 928 = .ok (.iaload, 1) := by decide +kernel
theorem d_L_law_929 : decode b_L_law 929 = .ok (.invokevirtual 154, 3) := by decide +kernel
theorem d_L_law_932 : decode b_L_law 932 = .ok (.istore 6, 2) := by decide +kernel
theorem d_L_law_934 : decode b_L_law 934 = .ok (.aload_n 2, 1) := by decide +kernel
theorem d_L_law_935 : decode b_L_law 935 = .ok (.invokevirtual 104, 3) := by decide +kernel
theorem d_L_law_938 : decode b_L_law 938 = .ok (.iload 5, 2) := by decide +kernel
theorem d_L_law_940 : decode b_L_law 940 = .ok (.if_icmp .eq 5, 3) := by decide +kernel
theorem d_L_law_943 : decode b_L_law 943 = .ok (.iconst 0, 1) := by decide +kernel
theorem d_L_law_944 : decode b_L_law 944 = .ok (.ireturn, 1) := by decide +kernel
theorem d_L_law_945 : decode b_L_law 945 = .ok (.iload 5, 2) := by decide +kernel
theorem d_L_law_947 : decode b_L_law 947 = .ok (.ifCond .ne 15, 3) := by decide +kernel
theorem d_L_law_950 : decode b_L_law 950 = .ok (.aload_n 3, 1) := by decide +kernel
theorem d_L_law_951 : decode b_L_law 951 = .ok (.iconst 0, 1) := by decide +kernel
theorem d_L_law_952 : decode b_L_law 952 = .ok (.laload, 1) := by decide +kernel
theorem d_L_law_953 : decode b_L_law 953 = .ok (.iload 6, 2) := by decide +kernel
theorem d_L_law_955 : decode b_L_law 955 = .ok (.i2l, 1) := by decide +kernel
theorem d_L_law_956 : decode b_L_law 956 = .ok (.lcmp, 1) := by decide +kernel
theorem d_L_law_957 : decode b_L_law 957 = .ok (.ifCond .eq 5, 3) := by decide +kernel
theorem d_L_law_960 : decode b_L_law 960 = .ok (.iconst 0, 1) := by decide +kernel
theorem d_L_law_961 : decode b_L_law 961 = .ok (.ireturn, 1) := by decide +kernel
theorem d_L_law_962 : decode b_L_law 962 = .ok (.goto 698, 3) := by decide +kernel
theorem d_L_law_965 : decode b_L_law 965 = .ok (.aload_n 1, 1) := by decide +kernel
theorem d_L_law_966 : decode b_L_law 966 = .ok (.aload_n 0, 1) := by decide +kernel
theorem d_L_law_967 : decode b_L_law 967 = .ok (.iload 4, 2) := by decide +kernel
theorem d_L_law_969 : decode b_L_law 969 = .ok (.iconst 1, 1) := by decide +kernel
theorem d_L_law_970 : decode b_L_law 970 = .ok (.iadd, 1) := by decide +kernel
theorem d_L_law_971 : decode b_L_law 971 = .ok (.iaload, 1) := by decide +kernel
theorem d_L_law_972 : decode b_L_law 972 = .ok (.aload_n 3, 1) := by decide +kernel
theorem d_L_law_973 : decode b_L_law 973 = .ok (.invokestatic 155, 3) := by decide +kernel
theorem d_L_law_976 : decode b_L_law 976 = .ok (.istore 5, 2) := by decide +kernel
theorem d_L_law_978 : decode b_L_law 978 = .ok (.aload_n 2, 1) := by decide +kernel
theorem d_L_law_979 : decode b_L_law 979 = .ok (.aload_n 0, 1) := by decide +kernel
theorem d_L_law_980 : decode b_L_law 980 = .ok (.iload 4, 2) := by decide +kernel
theorem d_L_law_982 : decode b_L_law 982 = .ok (.iconst 1, 1) := by decide +kernel
theorem d_L_law_983 : decode b_L_law 983 = .ok (.iadd, 1) := by decide +kernel
theorem d_L_law_984 : decode b_L_law 984 = .ok (.iaload, 1) := by decide +kernel
theorem d_L_law_985 : decode b_L_law 985 = .ok (.invokevirtual 157, 3) := by decide +kernel
theorem d_L_law_988 : decode b_L_law 988 = .ok (.istore 6, 2) := by decide +kernel
theorem d_L_law_990 : decode b_L_law 990 = .ok (.aload_n 2, 1) := by decide +kernel
theorem d_L_law_991 : decode b_L_law 991 = .ok (.invokevirtual 104, 3) := by decide +kernel
theorem d_L_law_994 : decode b_L_law 994 = .ok (.iload 5, 2) := by decide +kernel
theorem d_L_law_996 : decode b_L_law 996 = .ok (.if_icmp .eq 5, 3) := by decide +kernel
theorem d_L_law_999 : decode b_L_law 999 = .ok (.iconst 0, 1) := by decide +kernel
theorem d_L_law_1000 : decode b_L_law 1000 = .ok (.ireturn, 1) := by decide +kernel
theorem d_L_law_1001 : decode b_L_law 1001 = .ok (.iload 5, 2) := by decide +kernel
theorem d_L_law_1003 : decode b_L_law 1003 = .ok (.ifCond .ne 15, 3) := by decide +kernel
theorem d_L_law_1006 : decode b_L_law 1006 = .ok (.aload_n 3, 1) := by decide +kernel
theorem d_L_law_1007 : decode b_L_law 1007 = .ok (.iconst 0, 1) := by decide +kernel
theorem d_L_law_1008 : decode b_L_law 1008 = .ok (.laload, 1) := by decide +kernel
theorem d_L_law_1009 : decode b_L_law 1009 = .ok (.iload 6, 2) := by decide +kernel
theorem d_L_law_1011 : decode b_L_law 1011 = .ok (.i2l, 1) := by decide +kernel
theorem d_L_law_1012 : decode b_L_law 1012 = .ok (.lcmp, 1) := by decide +kernel
theorem d_L_law_1013 : decode b_L_law 1013 = .ok (.ifCond .eq 5, 3) := by decide +kernel
theorem d_L_law_1016 : decode b_L_law 1016 = .ok (.iconst 0, 1) := by decide +kernel
theorem d_L_law_1017 : decode b_L_law 1017 = .ok (.ireturn, 1) := by decide +kernel
theorem d_L_law_1018 : decode b_L_law 1018 = .ok (.goto 642, 3) := by decide +kernel
theorem d_L_law_1021 : decode b_L_law 1021 = .ok (.aload_n 1, 1) := by decide +kernel
theorem d_L_law_1022 : decode b_L_law 1022 = .ok (.aload_n 0, 1) := by decide +kernel
theorem d_L_law_1023 : decode b_L_law 1023 = .ok (.iload 4, 2) := by decide +kernel
theorem d_L_law_1025 : decode b_L_law 1025 = .ok (.iconst 1, 1) := by decide +kernel
theorem d_L_law_1026 : decode b_L_law 1026 = .ok (.iadd, 1) := by decide +kernel
theorem d_L_law_1027 : decode b_L_law 1027 = .ok (.iaload, 1) := by decide +kernel
theorem d_L_law_1028 : decode b_L_law 1028 = .ok (.aload_n 0, 1) := by decide +kernel
theorem d_L_law_1029 : decode b_L_law 1029 = .ok (.iload 4, 2) := by decide +kernel
theorem d_L_law_1031 : decode b_L_law 1031 = .ok (.iconst 2, 1) := by decide +kernel
theorem d_L_law_1032 : decode b_L_law 1032 = .ok (.iadd, 1) := by decide +kernel
theorem d_L_law_1033 : decode b_L_law 1033 = .ok (.iaload, 1) := by decide +kernel
theorem d_L_law_1034 : decode b_L_law 1034 = .ok (.aload_n 3, 1) := by decide +kernel
theorem d_L_law_1035 : decode b_L_law 1035 = .ok (.invokestatic 158, 3) := by decide +kernel
theorem d_L_law_1038 : decode b_L_law 1038 = .ok (.istore 5, 2) := by decide +kernel
theorem d_L_law_1040 : decode b_L_law 1040 = .ok (.aload_n 2, 1) := by decide +kernel
theorem d_L_law_1041 : decode b_L_law 1041 = .ok (.aload_n 0, 1) := by decide +kernel
theorem d_L_law_1042 : decode b_L_law 1042 = .ok (.iload 4, 2) := by decide +kernel
theorem d_L_law_1044 : decode b_L_law 1044 = .ok (.iconst 1, 1) := by decide +kernel
theorem d_L_law_1045 : decode b_L_law 1045 = .ok (.iadd, 1) := by decide +kernel
theorem d_L_law_1046 : decode b_L_law 1046 = .ok (.iaload, 1) := by decide +kernel
theorem d_L_law_1047 : decode b_L_law 1047 = .ok (.aload_n 0, 1) := by decide +kernel
theorem d_L_law_1048 : decode b_L_law 1048 = .ok (.iload 4, 2) := by decide +kernel
theorem d_L_law_1050 : decode b_L_law 1050 = .ok (.iconst 2, 1) := by decide +kernel
theorem d_L_law_1051 : decode b_L_law 1051 = .ok (.iadd, 1) := by decide +kernel
theorem d_L_law_1052 : decode b_L_law 1052 = .ok (.iaload, 1) := by decide +kernel
theorem d_L_law_1053 : decode b_L_law 1053 = .ok (.invokevirtual 160, 3) := by decide +kernel
theorem d_L_law_1056 : decode b_L_law 1056 = .ok (.istore 6, 2) := by decide +kernel
theorem d_L_law_1058 : decode b_L_law 1058 = .ok (.aload_n 2, 1) := by decide +kernel
theorem d_L_law_1059 : decode b_L_law 1059 = .ok (.invokevirtual 104, 3) := by decide +kernel
theorem d_L_law_1062 : decode b_L_law 1062 = .ok (.iload 5, 2) := by decide +kernel
theorem d_L_law_1064 : decode b_L_law 1064 = .ok (.if_icmp .eq 5, 3) := by decide +kernel
theorem d_L_law_1067 : decode b_L_law 1067 = .ok (.iconst 0, 1) := by decide +kernel
theorem d_L_law_1068 : decode b_L_law 1068 = .ok (.ireturn, 1) := by decide +kernel
theorem d_L_law_1069 : decode b_L_law 1069 = .ok (.iload 5, 2) := by decide +kernel
theorem d_L_law_1071 : decode b_L_law 1071 = .ok (.ifCond .ne 15, 3) := by decide +kernel
theorem d_L_law_1074 : decode b_L_law 1074 = .ok (.aload_n 3, 1) := by decide +kernel
theorem d_L_law_1075 : decode b_L_law 1075 = .ok (.iconst 0, 1) := by decide +kernel
theorem d_L_law_1076 : decode b_L_law 1076 = .ok (.laload, 1) := by decide +kernel
theorem d_L_law_1077 : decode b_L_law 1077 = .ok (.iload 6, 2) := by decide +kernel
theorem d_L_law_1079 : decode b_L_law 1079 = .ok (.i2l, 1) := by decide +kernel
theorem d_L_law_1080 : decode b_L_law 1080 = .ok (.lcmp, 1) := by decide +kernel
theorem d_L_law_1081 : decode b_L_law 1081 = .ok (.ifCond .eq 5, 3) := by decide +kernel
theorem d_L_law_1084 : decode b_L_law 1084 = .ok (.iconst 0, 1) := by decide +kernel
theorem d_L_law_1085 : decode b_L_law 1085 = .ok (.ireturn, 1) := by decide +kernel
theorem d_L_law_1086 : decode b_L_law 1086 = .ok (.goto 574, 3) := by decide +kernel
theorem d_L_law_1089 : decode b_L_law 1089 = .ok (.aload_n 1, 1) := by decide +kernel
theorem d_L_law_1090 : decode b_L_law 1090 = .ok (.aload_n 0, 1) := by decide +kernel
theorem d_L_law_1091 : decode b_L_law 1091 = .ok (.iload 4, 2) := by decide +kernel
theorem d_L_law_1093 : decode b_L_law 1093 = .ok (.iconst 1, 1) := by decide +kernel
theorem d_L_law_1094 : decode b_L_law 1094 = .ok (.iadd, 1) := by decide +kernel
theorem d_L_law_1095 : decode b_L_law 1095 = .ok (.iaload, 1) := by decide +kernel
theorem d_L_law_1096 : decode b_L_law 1096 = .ok (.aload_n 0, 1) := by decide +kernel
theorem d_L_law_1097 : decode b_L_law 1097 = .ok (.iload 4, 2) := by decide +kernel
theorem d_L_law_1099 : decode b_L_law 1099 = .ok (.iconst 2, 1) := by decide +kernel
theorem d_L_law_1100 : decode b_L_law 1100 = .ok (.iadd, 1) := by decide +kernel
theorem d_L_law_1101 : decode b_L_law 1101 = .ok (.iaload, 1) := by decide +kernel
theorem d_L_law_1102 : decode b_L_law 1102 = .ok (.aload_n 3, 1) := by decide +kernel
theorem d_L_law_1103 : decode b_L_law 1103 = .ok (.invokestatic 161, 3) := by decide +kernel
theorem d_L_law_1106 : decode b_L_law 1106 = .ok (.istore 5, 2) := by decide +kernel
theorem d_L_law_1108 : decode b_L_law 1108 = .ok (.aload_n 2, 1) := by decide +kernel
theorem d_L_law_1109 : decode b_L_law 1109 = .ok (.aload_n 0, 1) := by decide +kernel
theorem d_L_law_1110 : decode b_L_law 1110 = .ok (.iload 4, 2) := by decide +kernel
theorem d_L_law_1112 : decode b_L_law 1112 = .ok (.iconst 1, 1) := by decide +kernel
theorem d_L_law_1113 : decode b_L_law 1113 = .ok (.iadd, 1) := by decide +kernel
theorem d_L_law_1114 : decode b_L_law 1114 = .ok (.iaload, 1) := by decide +kernel
theorem d_L_law_1115 : decode b_L_law 1115 = .ok (.aload_n 0, 1) := by decide +kernel
theorem d_L_law_1116 : decode b_L_law 1116 = .ok (.iload 4, 2) := by decide +kernel
theorem d_L_law_1118 : decode b_L_law 1118 = .ok (.iconst 2, 1) := by decide +kernel
theorem d_L_law_1119 : decode b_L_law 1119 = .ok (.iadd, 1) := by decide +kernel
theorem d_L_law_1120 : decode b_L_law 1120 = .ok (.iaload, 1) := by decide +kernel
theorem d_L_law_1121 : decode b_L_law 1121 = .ok (.invokevirtual 163, 3) := by decide +kernel
theorem d_L_law_1124 : decode b_L_law 1124 = .ok (.istore 6, 2) := by decide +kernel
theorem d_L_law_1126 : decode b_L_law 1126 = .ok (.aload_n 2, 1) := by decide +kernel
theorem d_L_law_1127 : decode b_L_law 1127 = .ok (.invokevirtual 104, 3) := by decide +kernel
theorem d_L_law_1130 : decode b_L_law 1130 = .ok (.iload 5, 2) := by decide +kernel
theorem d_L_law_1132 : decode b_L_law 1132 = .ok (.if_icmp .eq 5, 3) := by decide +kernel
theorem d_L_law_1135 : decode b_L_law 1135 = .ok (.iconst 0, 1) := by decide +kernel
theorem d_L_law_1136 : decode b_L_law 1136 = .ok (.ireturn, 1) := by decide +kernel
theorem d_L_law_1137 : decode b_L_law 1137 = .ok (.iload 5, 2) := by decide +kernel
theorem d_L_law_1139 : decode b_L_law 1139 = .ok (.ifCond .ne 15, 3) := by decide +kernel
theorem d_L_law_1142 : decode b_L_law 1142 = .ok (.aload_n 3, 1) := by decide +kernel
theorem d_L_law_1143 : decode b_L_law 1143 = .ok (.iconst 0, 1) := by decide +kernel
theorem d_L_law_1144 : decode b_L_law 1144 = .ok (.laload, 1) := by decide +kernel
theorem d_L_law_1145 : decode b_L_law 1145 = .ok (.iload 6, 2) := by decide +kernel
theorem d_L_law_1147 : decode b_L_law 1147 = .ok (.i2l, 1) := by decide +kernel
theorem d_L_law_1148 : decode b_L_law 1148 = .ok (.lcmp, 1) := by decide +kernel
theorem d_L_law_1149 : decode b_L_law 1149 = .ok (.ifCond .eq 5, 3) := by decide +kernel
theorem d_L_law_1152 : decode b_L_law 1152 = .ok (.iconst 0, 1) := by decide +kernel
theorem d_L_law_1153 : decode b_L_law 1153 = .ok (.ireturn, 1) := by decide +kernel
theorem d_L_law_1154 : decode b_L_law 1154 = .ok (.goto 506, 3) := by decide +kernel
theorem d_L_law_1157 : decode b_L_law 1157 = .ok (.aload_n 1, 1) := by decide +kernel
theorem d_L_law_1158 : decode b_L_law 1158 = .ok (.aload_n 0, 1) := by decide +kernel
theorem d_L_law_1159 : decode b_L_law 1159 = .ok (.iload 4, 2) := by decide +kernel
theorem d_L_law_1161 : decode b_L_law 1161 = .ok (.iconst 1, 1) := by decide +kernel
theorem d_L_law_1162 : decode b_L_law 1162 = .ok (.iadd, 1) := by decide +kernel
theorem d_L_law_1163 : decode b_L_law 1163 = .ok (.iaload, 1) := by decide +kernel
theorem d_L_law_1164 : decode b_L_law 1164 = .ok (.aload_n 0, 1) := by decide +kernel
theorem d_L_law_1165 : decode b_L_law 1165 = .ok (.iload 4, 2) := by decide +kernel
theorem d_L_law_1167 : decode b_L_law 1167 = .ok (.iconst 2, 1) := by decide +kernel
theorem d_L_law_1168 : decode b_L_law 1168 = .ok (.iadd, 1) := by decide +kernel
theorem d_L_law_1169 : decode b_L_law 1169 = .ok (.iaload, 1) := by decide +kernel
theorem d_L_law_1170 : decode b_L_law 1170 = .ok (.aload_n 3, 1) := by decide +kernel
theorem d_L_law_1171 : decode b_L_law 1171 = .ok (.invokestatic 164, 3) := by decide +kernel
theorem d_L_law_1174 : decode b_L_law 1174 = .ok (.istore 5, 2) := by decide +kernel
theorem d_L_law_1176 : decode b_L_law 1176 = .ok (.aload_n 2, 1) := by decide +kernel
theorem d_L_law_1177 : decode b_L_law 1177 = .ok (.aload_n 0, 1) := by decide +kernel
theorem d_L_law_1178 : decode b_L_law 1178 = .ok (.iload 4, 2) := by decide +kernel
theorem d_L_law_1180 : decode b_L_law 1180 = .ok (.iconst 1, 1) := by decide +kernel
theorem d_L_law_1181 : decode b_L_law 1181 = .ok (.iadd, 1) := by decide +kernel
theorem d_L_law_1182 : decode b_L_law 1182 = .ok (.iaload, 1) := by decide +kernel
theorem d_L_law_1183 : decode b_L_law 1183 = .ok (.aload_n 0, 1) := by decide +kernel
theorem d_L_law_1184 : decode b_L_law 1184 = .ok (.iload 4, 2) := by decide +kernel
theorem d_L_law_1186 : decode b_L_law 1186 = .ok (.iconst 2, 1) := by decide +kernel
theorem d_L_law_1187 : decode b_L_law 1187 = .ok (.iadd, 1) := by decide +kernel
theorem d_L_law_1188 : decode b_L_law 1188 = .ok (.iaload, 1) := by decide +kernel
theorem d_L_law_1189 : decode b_L_law 1189 = .ok (.invokevirtual 166, 3) := by decide +kernel
theorem d_L_law_1192 : decode b_L_law 1192 = .ok (.istore 6, 2) := by decide +kernel
theorem d_L_law_1194 : decode b_L_law 1194 = .ok (.aload_n 2, 1) := by decide +kernel
theorem d_L_law_1195 : decode b_L_law 1195 = .ok (.invokevirtual 104, 3) := by decide +kernel
theorem d_L_law_1198 : decode b_L_law 1198 = .ok (.iload 5, 2) := by decide +kernel
theorem d_L_law_1200 : decode b_L_law 1200 = .ok (.if_icmp .eq 5, 3) := by decide +kernel
theorem d_L_law_1203 : decode b_L_law 1203 = .ok (.iconst 0, 1) := by decide +kernel
theorem d_L_law_1204 : decode b_L_law 1204 = .ok (.ireturn, 1) := by decide +kernel
theorem d_L_law_1205 : decode b_L_law 1205 = .ok (.iload 5, 2) := by decide +kernel
theorem d_L_law_1207 : decode b_L_law 1207 = .ok (.ifCond .ne 22, 3) := by decide +kernel
theorem d_L_law_1210 : decode b_L_law 1210 = .ok (.aload_n 3, 1) := by decide +kernel
theorem d_L_law_1211 : decode b_L_law 1211 = .ok (.iconst 0, 1) := by decide +kernel
theorem d_L_law_1212 : decode b_L_law 1212 = .ok (.laload, 1) := by decide +kernel
theorem d_L_law_1213 : decode b_L_law 1213 = .ok (.iload 6, 2) := by decide +kernel
theorem d_L_law_1215 : decode b_L_law 1215 = .ok (.ifCond .eq 7, 3) := by decide +kernel
theorem d_L_law_1218 : decode b_L_law 1218 = .ok (.lconst 1, 1) := by decide +kernel
theorem d_L_law_1219 : decode b_L_law 1219 = .ok (.goto 4, 3) := by decide +kernel
theorem d_L_law_1222 : decode b_L_law 1222 = .ok (.lconst 0, 1) := by decide +kernel
theorem d_L_law_1223 : decode b_L_law 1223 = .ok (.lcmp, 1) := by decide +kernel
theorem d_L_law_1224 : decode b_L_law 1224 = .ok (.ifCond .eq 5, 3) := by decide +kernel
theorem d_L_law_1227 : decode b_L_law 1227 = .ok (.iconst 0, 1) := by decide +kernel
theorem d_L_law_1228 : decode b_L_law 1228 = .ok (.ireturn, 1) := by decide +kernel
theorem d_L_law_1229 : decode b_L_law 1229 = .ok (.goto 431, 3) := by decide +kernel
theorem d_L_law_1232 : decode b_L_law 1232 = .ok (.aload_n 1, 1) := by decide +kernel
theorem d_L_law_1233 : decode b_L_law 1233 = .ok (.aload_n 0, 1) := by decide +kernel
theorem d_L_law_1234 : decode b_L_law 1234 = .ok (.iload 4, 2) := by decide +kernel
theorem d_L_law_1236 : decode b_L_law 1236 = .ok (.iconst 1, 1) := by decide +kernel
theorem d_L_law_1237 : decode b_L_law 1237 = .ok (.iadd, 1) := by decide +kernel
theorem d_L_law_1238 : decode b_L_law 1238 = .ok (.iaload, 1) := by decide +kernel
theorem d_L_law_1239 : decode b_L_law 1239 = .ok (.aload_n 3, 1) := by decide +kernel
theorem d_L_law_1240 : decode b_L_law 1240 = .ok (.invokestatic 167, 3) := by decide +kernel
theorem d_L_law_1243 : decode b_L_law 1243 = .ok (.istore 5, 2) := by decide +kernel
theorem d_L_law_1245 : decode b_L_law 1245 = .ok (.aload_n 2, 1) := by decide +kernel
theorem d_L_law_1246 : decode b_L_law 1246 = .ok (.aload_n 0, 1) := by decide +kernel
theorem d_L_law_1247 : decode b_L_law 1247 = .ok (.iload 4, 2) := by decide +kernel
theorem d_L_law_1249 : decode b_L_law 1249 = .ok (.iconst 1, 1) := by decide +kernel
theorem d_L_law_1250 : decode b_L_law 1250 = .ok (.iadd, 1) := by decide +kernel
theorem d_L_law_1251 : decode b_L_law 1251 = .ok (.iaload, 1) := by decide +kernel
theorem d_L_law_1252 : decode b_L_law 1252 = .ok (.invokevirtual 169, 3) := by decide +kernel
theorem d_L_law_1255 : decode b_L_law 1255 = .ok (.istore 6, 2) := by decide +kernel
theorem d_L_law_1257 : decode b_L_law 1257 = .ok (.aload_n 2, 1) := by decide +kernel
theorem d_L_law_1258 : decode b_L_law 1258 = .ok (.invokevirtual 104, 3) := by decide +kernel
theorem d_L_law_1261 : decode b_L_law 1261 = .ok (.iload 5, 2) := by decide +kernel
theorem d_L_law_1263 : decode b_L_law 1263 = .ok (.if_icmp .eq 5, 3) := by decide +kernel
theorem d_L_law_1266 : decode b_L_law 1266 = .ok (.iconst 0, 1) := by decide +kernel
theorem d_L_law_1267 : decode b_L_law 1267 = .ok (.ireturn, 1) := by decide +kernel
theorem d_L_law_1268 : decode b_L_law 1268 = .ok (.iload 5, 2) := by decide +kernel
theorem d_L_law_1270 : decode b_L_law 1270 = .ok (.ifCond .ne 15, 3) := by decide +kernel
theorem d_L_law_1273 : decode b_L_law 1273 = .ok (.aload_n 3, 1) := by decide +kernel
theorem d_L_law_1274 : decode b_L_law 1274 = .ok (.iconst 0, 1) := by decide +kernel
theorem d_L_law_1275 : decode b_L_law 1275 = .ok (.laload, 1) := by decide +kernel
theorem d_L_law_1276 : decode b_L_law 1276 = .ok (.iload 6, 2) := by decide +kernel
theorem d_L_law_1278 : decode b_L_law 1278 = .ok (.i2l, 1) := by decide +kernel
theorem d_L_law_1279 : decode b_L_law 1279 = .ok (.lcmp, 1) := by decide +kernel
theorem d_L_law_1280 : decode b_L_law 1280 = .ok (.ifCond .eq 5, 3) := by decide +kernel
theorem d_L_law_1283 : decode b_L_law 1283 = .ok (.iconst 0, 1) := by decide +kernel
theorem d_L_law_1284 : decode b_L_law 1284 = .ok (.ireturn, 1) := by decide +kernel
theorem d_L_law_1285 : decode b_L_law 1285 = .ok (.goto 375, 3) := by decide +kernel
theorem d_L_law_1288 : decode b_L_law 1288 = .ok (.aload_n 1, 1) := by decide +kernel
theorem d_L_law_1289 : decode b_L_law 1289 = .ok (.aload_n 0, 1) := by decide +kernel
theorem d_L_law_1290 : decode b_L_law 1290 = .ok (.iload 4, 2) := by decide +kernel
theorem d_L_law_1292 : decode b_L_law 1292 = .ok (.iconst 1, 1) := by decide +kernel
theorem d_L_law_1293 : decode b_L_law 1293 = .ok (.iadd, 1) := by decide +kernel
theorem d_L_law_1294 : decode b_L_law 1294 = .ok (.iaload, 1) := by decide +kernel
theorem d_L_law_1295 : decode b_L_law 1295 = .ok (.aload_n 0, 1) := by decide +kernel
theorem d_L_law_1296 : decode b_L_law 1296 = .ok (.iload 4, 2) := by decide +kernel
theorem d_L_law_1298 : decode b_L_law 1298 = .ok (.iconst 2, 1) := by decide +kernel
theorem d_L_law_1299 : decode b_L_law 1299 = .ok (.iadd, 1) := by decide +kernel
theorem d_L_law_1300 : decode b_L_law 1300 = .ok (.iaload, 1) := by decide +kernel
theorem d_L_law_1301 : decode b_L_law 1301 = .ok (.aload_n 0, 1) := by decide +kernel
theorem d_L_law_1302 : decode b_L_law 1302 = .ok (.iload 4, 2) := by decide +kernel
theorem d_L_law_1304 : decode b_L_law 1304 = .ok (.iconst 3, 1) := by decide +kernel
theorem d_L_law_1305 : decode b_L_law 1305 = .ok (.iadd, 1) := by decide +kernel
theorem d_L_law_1306 : decode b_L_law 1306 = .ok (.iaload, 1) := by decide +kernel
theorem d_L_law_1307 : decode b_L_law 1307 = .ok (.aload_n 3, 1) := by decide +kernel
theorem d_L_law_1308 : decode b_L_law 1308 = .ok (.invokestatic 170, 3) := by decide +kernel
theorem d_L_law_1311 : decode b_L_law 1311 = .ok (.istore 5, 2) := by decide +kernel
theorem d_L_law_1313 : decode b_L_law 1313 = .ok (.aload_n 2, 1) := by decide +kernel
theorem d_L_law_1314 : decode b_L_law 1314 = .ok (.aload_n 0, 1) := by decide +kernel
theorem d_L_law_1315 : decode b_L_law 1315 = .ok (.iload 4, 2) := by decide +kernel
theorem d_L_law_1317 : decode b_L_law 1317 = .ok (.iconst 1, 1) := by decide +kernel
theorem d_L_law_1318 : decode b_L_law 1318 = .ok (.iadd, 1) := by decide +kernel
theorem d_L_law_1319 : decode b_L_law 1319 = .ok (.iaload, 1) := by decide +kernel
theorem d_L_law_1320 : decode b_L_law 1320 = .ok (.aload_n 0, 1) := by decide +kernel
theorem d_L_law_1321 : decode b_L_law 1321 = .ok (.iload 4, 2) := by decide +kernel
theorem d_L_law_1323 : decode b_L_law 1323 = .ok (.iconst 2, 1) := by decide +kernel
theorem d_L_law_1324 : decode b_L_law 1324 = .ok (.iadd, 1) := by decide +kernel
theorem d_L_law_1325 : decode b_L_law 1325 = .ok (.iaload, 1) := by decide +kernel
theorem d_L_law_1326 : decode b_L_law 1326 = .ok (.aload_n 0, 1) := by decide +kernel
theorem d_L_law_1327 : decode b_L_law 1327 = .ok (.iload 4, 2) := by decide +kernel
theorem d_L_law_1329 : decode b_L_law 1329 = .ok (.iconst 3, 1) := by decide +kernel
theorem d_L_law_1330 : decode b_L_law 1330 = .ok (.iadd, 1) := by decide +kernel
theorem d_L_law_1331 : decode b_L_law 1331 = .ok (.iaload, 1) := by decide +kernel
theorem d_L_law_1332 : decode b_L_law 1332 = .ok (.invokevirtual 172, 3) := by decide +kernel
theorem d_L_law_1335 : decode b_L_law 1335 = .ok (.istore 6, 2) := by decide +kernel
theorem d_L_law_1337 : decode b_L_law 1337 = .ok (.aload_n 2, 1) := by decide +kernel
theorem d_L_law_1338 : decode b_L_law 1338 = .ok (.invokevirtual 104, 3) := by decide +kernel
theorem d_L_law_1341 : decode b_L_law 1341 = .ok (.iload 5, 2) := by decide +kernel
theorem d_L_law_1343 : decode b_L_law 1343 = .ok (.if_icmp .eq 5, 3) := by decide +kernel
theorem d_L_law_1346 : decode b_L_law 1346 = .ok (.iconst 0, 1) := by decide +kernel
theorem d_L_law_1347 : decode b_L_law 1347 = .ok (.ireturn, 1) := by decide +kernel
theorem d_L_law_1348 : decode b_L_law 1348 = .ok (.iload 5, 2) := by decide +kernel
theorem d_L_law_1350 : decode b_L_law 1350 = .ok (.ifCond .ne 15, 3) := by decide +kernel
theorem d_L_law_1353 : decode b_L_law 1353 = .ok (.aload_n 3, 1) := by decide +kernel
theorem d_L_law_1354 : decode b_L_law 1354 = .ok (.iconst 0, 1) := by decide +kernel
theorem d_L_law_1355 : decode b_L_law 1355 = .ok (.laload, 1) := by decide +kernel
theorem d_L_law_1356 : decode b_L_law 1356 = .ok (.iload 6, 2) := by decide +kernel
theorem d_L_law_1358 : decode b_L_law 1358 = .ok (.i2l, 1) := by decide +kernel
theorem d_L_law_1359 : decode b_L_law 1359 = .ok (.lcmp, 1) := by decide +kernel
theorem d_L_law_1360 : decode b_L_law 1360 = .ok (.ifCond .eq 5, 3) := by decide +kernel
theorem d_L_law_1363 : decode b_L_law 1363 = .ok (.iconst 0, 1) := by decide +kernel
theorem d_L_law_1364 : decode b_L_law 1364 = .ok (.ireturn, 1) := by decide +kernel
theorem d_L_law_1365 : decode b_L_law 1365 = .ok (.goto 295, 3) := by decide +kernel
theorem d_L_law_1368 : decode b_L_law 1368 = .ok (.aload_n 1, 1) := by decide +kernel
theorem d_L_law_1369 : decode b_L_law 1369 = .ok (.aload_n 0, 1) := by decide +kernel
theorem d_L_law_1370 : decode b_L_law 1370 = .ok (.iload 4, 2) := by decide +kernel
theorem d_L_law_1372 : decode b_L_law 1372 = .ok (.iconst 1, 1) := by decide +kernel
theorem d_L_law_1373 : decode b_L_law 1373 = .ok (.iadd, 1) := by decide +kernel
theorem d_L_law_1374 : decode b_L_law 1374 = .ok (.iaload, 1) := by decide +kernel
theorem d_L_law_1375 : decode b_L_law 1375 = .ok (.aload_n 0, 1) := by decide +kernel
theorem d_L_law_1376 : decode b_L_law 1376 = .ok (.iload 4, 2) := by decide +kernel
theorem d_L_law_1378 : decode b_L_law 1378 = .ok (.iconst 2, 1) := by decide +kernel
theorem d_L_law_1379 : decode b_L_law 1379 = .ok (.iadd, 1) := by decide +kernel
theorem d_L_law_1380 : decode b_L_law 1380 = .ok (.iaload, 1) := by decide +kernel
theorem d_L_law_1381 : decode b_L_law 1381 = .ok (.aload_n 3, 1) := by decide +kernel
theorem d_L_law_1382 : decode b_L_law 1382 = .ok (.invokestatic 173, 3) := by decide +kernel
theorem d_L_law_1385 : decode b_L_law 1385 = .ok (.istore 5, 2) := by decide +kernel
theorem d_L_law_1387 : decode b_L_law 1387 = .ok (.aload_n 2, 1) := by decide +kernel
theorem d_L_law_1388 : decode b_L_law 1388 = .ok (.aload_n 0, 1) := by decide +kernel
theorem d_L_law_1389 : decode b_L_law 1389 = .ok (.iload 4, 2) := by decide +kernel
theorem d_L_law_1391 : decode b_L_law 1391 = .ok (.iconst 1, 1) := by decide +kernel
theorem d_L_law_1392 : decode b_L_law 1392 = .ok (.iadd, 1) := by decide +kernel
theorem d_L_law_1393 : decode b_L_law 1393 = .ok (.iaload, 1) := by decide +kernel
theorem d_L_law_1394 : decode b_L_law 1394 = .ok (.aload_n 0, 1) := by decide +kernel
theorem d_L_law_1395 : decode b_L_law 1395 = .ok (.iload 4, 2) := by decide +kernel
theorem d_L_law_1397 : decode b_L_law 1397 = .ok (.iconst 2, 1) := by decide +kernel
theorem d_L_law_1398 : decode b_L_law 1398 = .ok (.iadd, 1) := by decide +kernel
theorem d_L_law_1399 : decode b_L_law 1399 = .ok (.iaload, 1) := by decide +kernel
theorem d_L_law_1400 : decode b_L_law 1400 = .ok (.invokevirtual 175, 3) := by decide +kernel
theorem d_L_law_1403 : decode b_L_law 1403 = .ok (.istore 6, 2) := by decide +kernel
theorem d_L_law_1405 : decode b_L_law 1405 = .ok (.aload_n 2, 1) := by decide +kernel
theorem d_L_law_1406 : decode b_L_law 1406 = .ok (.invokevirtual 104, 3) := by decide +kernel
theorem d_L_law_1409 : decode b_L_law 1409 = .ok (.iload 5, 2) := by decide +kernel
theorem d_L_law_1411 : decode b_L_law 1411 = .ok (.if_icmp .eq 5, 3) := by decide +kernel
theorem d_L_law_1414 : decode b_L_law 1414 = .ok (.iconst 0, 1) := by decide +kernel
theorem d_L_law_1415 : decode b_L_law 1415 = .ok (.ireturn, 1) := by decide +kernel
theorem d_L_law_1416 : decode b_L_law 1416 = .ok (.iload 5, 2) := by decide +kernel
theorem d_L_law_1418 : decode b_L_law 1418 = .ok (.ifCond .ne 15, 3) := by decide +kernel
theorem d_L_law_1421 : decode b_L_law 1421 = .ok (.aload_n 3, 1) := by decide +kernel
theorem d_L_law_1422 : decode b_L_law 1422 = .ok (.iconst 0, 1) := by decide +kernel
theorem d_L_law_1423 : decode b_L_law 1423 = .ok (.laload, 1) := by decide +kernel
theorem d_L_law_1424 : decode b_L_law 1424 = .ok (.iload 6, 2) := by decide +kernel
theorem d_L_law_1426 : decode b_L_law 1426 = .ok (.i2l, 1) := by decide +kernel
theorem d_L_law_1427 : decode b_L_law 1427 = .ok (.lcmp, 1) := by decide +kernel
theorem d_L_law_1428 : decode b_L_law 1428 = .ok (.ifCond .eq 5, 3) := by decide +kernel
theorem d_L_law_1431 : decode b_L_law 1431 = .ok (.iconst 0, 1) := by decide +kernel
theorem d_L_law_1432 : decode b_L_law 1432 = .ok (.ireturn, 1) := by decide +kernel
theorem d_L_law_1433 : decode b_L_law 1433 = .ok (.goto 227, 3) := by decide +kernel
theorem d_L_law_1436 : decode b_L_law 1436 = .ok (.aload_n 1, 1) := by decide +kernel
theorem d_L_law_1437 : decode b_L_law 1437 = .ok (.aload_n 0, 1) := by decide +kernel
theorem d_L_law_1438 : decode b_L_law 1438 = .ok (.iload 4, 2) := by decide +kernel
theorem d_L_law_1440 : decode b_L_law 1440 = .ok (.iconst 1, 1) := by decide +kernel
theorem d_L_law_1441 : decode b_L_law 1441 = .ok (.iadd, 1) := by decide +kernel
theorem d_L_law_1442 : decode b_L_law 1442 = .ok (.iaload, 1) := by decide +kernel
theorem d_L_law_1443 : decode b_L_law 1443 = .ok (.aload_n 3, 1) := by decide +kernel
theorem d_L_law_1444 : decode b_L_law 1444 = .ok (.invokestatic 176, 3) := by decide +kernel
theorem d_L_law_1447 : decode b_L_law 1447 = .ok (.istore 5, 2) := by decide +kernel
theorem d_L_law_1449 : decode b_L_law 1449 = .ok (.aload_n 2, 1) := by decide +kernel
theorem d_L_law_1450 : decode b_L_law 1450 = .ok (.aload_n 0, 1) := by decide +kernel
theorem d_L_law_1451 : decode b_L_law 1451 = .ok (.iload 4, 2) := by decide +kernel
theorem d_L_law_1453 : decode b_L_law 1453 = .ok (.iconst 1, 1) := by decide +kernel
theorem d_L_law_1454 : decode b_L_law 1454 = .ok (.iadd, 1) := by decide +kernel
theorem d_L_law_1455 : decode b_L_law 1455 = .ok (.iaload, 1) := by decide +kernel
theorem d_L_law_1456 : decode b_L_law 1456 = .ok (.invokevirtual 178, 3) := by decide +kernel
theorem d_L_law_1459 : decode b_L_law 1459 = .ok (.istore 6, 2) := by decide +kernel
theorem d_L_law_1461 : decode b_L_law 1461 = .ok (.aload_n 2, 1) := by decide +kernel
theorem d_L_law_1462 : decode b_L_law 1462 = .ok (.invokevirtual 104, 3) := by decide +kernel
theorem d_L_law_1465 : decode b_L_law 1465 = .ok (.iload 5, 2) := by decide +kernel
theorem d_L_law_1467 : decode b_L_law 1467 = .ok (.if_icmp .eq 5, 3) := by decide +kernel
theorem d_L_law_1470 : decode b_L_law 1470 = .ok (.iconst 0, 1) := by decide +kernel
theorem d_L_law_1471 : decode b_L_law 1471 = .ok (.ireturn, 1) := by decide +kernel
theorem d_L_law_1472 : decode b_L_law 1472 = .ok (.iload 5, 2) := by decide +kernel
theorem d_L_law_1474 : decode b_L_law 1474 = .ok (.ifCond .ne 15, 3) := by decide +kernel
theorem d_L_law_1477 : decode b_L_law 1477 = .ok (.aload_n 3, 1) := by decide +kernel
theorem d_L_law_1478 : decode b_L_law 1478 = .ok (.iconst 0, 1) := by decide +kernel
theorem d_L_law_1479 : decode b_L_law 1479 = .ok (.laload, 1) := by decide +kernel
theorem d_L_law_1480 : decode b_L_law 1480 = .ok (.iload 6, 2) := by decide +kernel
theorem d_L_law_1482 : decode b_L_law 1482 = .ok (.i2l, 1) := by decide +kernel
theorem d_L_law_1483 : decode b_L_law 1483 = .ok (.lcmp, 1) := by decide +kernel
theorem d_L_law_1484 : decode b_L_law 1484 = .ok (.ifCond .eq 5, 3) := by decide +kernel
theorem d_L_law_1487 : decode b_L_law 1487 = .ok (.iconst 0, 1) := by decide +kernel
theorem d_L_law_1488 : decode b_L_law 1488 = .ok (.ireturn, 1) := by decide +kernel
theorem d_L_law_1489 : decode b_L_law 1489 = .ok (.goto 171, 3) := by decide +kernel
theorem d_L_law_1492 : decode b_L_law 1492 = .ok (.aload_n 1, 1) := by decide +kernel
theorem d_L_law_1493 : decode b_L_law 1493 = .ok (.aload_n 0, 1) := by decide +kernel
theorem d_L_law_1494 : decode b_L_law 1494 = .ok (.iload 4, 2) := by decide +kernel
theorem d_L_law_1496 : decode b_L_law 1496 = .ok (.iconst 1, 1) := by decide +kernel
theorem d_L_law_1497 : decode b_L_law 1497 = .ok (.iadd, 1) := by decide +kernel
theorem d_L_law_1498 : decode b_L_law 1498 = .ok (.iaload, 1) := by decide +kernel
theorem d_L_law_1499 : decode b_L_law 1499 = .ok (.aload_n 3, 1) := by decide +kernel
theorem d_L_law_1500 : decode b_L_law 1500 = .ok (.invokestatic 179, 3) := by decide +kernel
theorem d_L_law_1503 : decode b_L_law 1503 = .ok (.istore 5, 2) := by decide +kernel
theorem d_L_law_1505 : decode b_L_law 1505 = .ok (.aload_n 2, 1) := by decide +kernel
theorem d_L_law_1506 : decode b_L_law 1506 = .ok (.aload_n 0, 1) := by decide +kernel
theorem d_L_law_1507 : decode b_L_law 1507 = .ok (.iload 4, 2) := by decide +kernel
theorem d_L_law_1509 : decode b_L_law 1509 = .ok (.iconst 1, 1) := by decide +kernel
theorem d_L_law_1510 : decode b_L_law 1510 = .ok (.iadd, 1) := by decide +kernel
theorem d_L_law_1511 : decode b_L_law 1511 = .ok (.iaload, 1) := by decide +kernel
theorem d_L_law_1512 : decode b_L_law 1512 = .ok (.invokevirtual 181, 3) := by decide +kernel
theorem d_L_law_1515 : decode b_L_law 1515 = .ok (.istore 6, 2) := by decide +kernel
theorem d_L_law_1517 : decode b_L_law 1517 = .ok (.aload_n 2, 1) := by decide +kernel
theorem d_L_law_1518 : decode b_L_law 1518 = .ok (.invokevirtual 104, 3) := by decide +kernel
theorem d_L_law_1521 : decode b_L_law 1521 = .ok (.iload 5, 2) := by decide +kernel
theorem d_L_law_1523 : decode b_L_law 1523 = .ok (.if_icmp .eq 5, 3) := by decide +kernel
theorem d_L_law_1526 : decode b_L_law 1526 = .ok (.iconst 0, 1) := by decide +kernel
theorem d_L_law_1527 : decode b_L_law 1527 = .ok (.ireturn, 1) := by decide +kernel
theorem d_L_law_1528 : decode b_L_law 1528 = .ok (.iload 5, 2) := by decide +kernel
theorem d_L_law_1530 : decode b_L_law 1530 = .ok (.ifCond .ne 15, 3) := by decide +kernel
theorem d_L_law_1533 : decode b_L_law 1533 = .ok (.aload_n 3, 1) := by decide +kernel
theorem d_L_law_1534 : decode b_L_law 1534 = .ok (.iconst 0, 1) := by decide +kernel
theorem d_L_law_1535 : decode b_L_law 1535 = .ok (.laload, 1) := by decide +kernel
theorem d_L_law_1536 : decode b_L_law 1536 = .ok (.iload 6, 2) := by decide +kernel
theorem d_L_law_1538 : decode b_L_law 1538 = .ok (.i2l, 1) := by decide +kernel
theorem d_L_law_1539 : decode b_L_law 1539 = .ok (.lcmp, 1) := by decide +kernel
theorem d_L_law_1540 : decode b_L_law 1540 = .ok (.ifCond .eq 5, 3) := by decide +kernel
theorem d_L_law_1543 : decode b_L_law 1543 = .ok (.iconst 0, 1) := by decide +kernel
theorem d_L_law_1544 : decode b_L_law 1544 = .ok (.ireturn, 1) := by decide +kernel
theorem d_L_law_1545 : decode b_L_law 1545 = .ok (.goto 115, 3) := by decide +kernel
theorem d_L_law_1548 : decode b_L_law 1548 = .ok (.aload_n 1, 1) := by decide +kernel
theorem d_L_law_1549 : decode b_L_law 1549 = .ok (.aload_n 0, 1) := by decide +kernel
theorem d_L_law_1550 : decode b_L_law 1550 = .ok (.iload 4, 2) := by decide +kernel
theorem d_L_law_1552 : decode b_L_law 1552 = .ok (.iconst 1, 1) := by decide +kernel
theorem d_L_law_1553 : decode b_L_law 1553 = .ok (.iadd, 1) := by decide +kernel
theorem d_L_law_1554 : decode b_L_law 1554 = .ok (.iaload, 1) := by decide +kernel
theorem d_L_law_1555 : decode b_L_law 1555 = .ok (.aload_n 3, 1) := by decide +kernel
theorem d_L_law_1556 : decode b_L_law 1556 = .ok (.invokestatic 182, 3) := by decide +kernel
theorem d_L_law_1559 : decode b_L_law 1559 = .ok (.istore 5, 2) := by decide +kernel
theorem d_L_law_1561 : decode b_L_law 1561 = .ok (.aload_n 2, 1) := by decide +kernel
theorem d_L_law_1562 : decode b_L_law 1562 = .ok (.aload_n 0, 1) := by decide +kernel
theorem d_L_law_1563 : decode b_L_law 1563 = .ok (.iload 4, 2) := by decide +kernel
theorem d_L_law_1565 : decode b_L_law 1565 = .ok (.iconst 1, 1) := by decide +kernel
theorem d_L_law_1566 : decode b_L_law 1566 = .ok (.iadd, 1) := by decide +kernel
theorem d_L_law_1567 : decode b_L_law 1567 = .ok (.iaload, 1) := by decide +kernel
theorem d_L_law_1568 : decode b_L_law 1568 = .ok (.invokevirtual 184, 3) := by decide +kernel
theorem d_L_law_1571 : decode b_L_law 1571 = .ok (.istore 6, 2) := by decide +kernel
theorem d_L_law_1573 : decode b_L_law 1573 = .ok (.aload_n 2, 1) := by decide +kernel
theorem d_L_law_1574 : decode b_L_law 1574 = .ok (.invokevirtual 104, 3) := by decide +kernel
theorem d_L_law_1577 : decode b_L_law 1577 = .ok (.iload 5, 2) := by decide +kernel
theorem d_L_law_1579 : decode b_L_law 1579 = .ok (.if_icmp .eq 5, 3) := by decide +kernel
theorem d_L_law_1582 : decode b_L_law 1582 = .ok (.iconst 0, 1) := by decide +kernel
theorem d_L_law_1583 : decode b_L_law 1583 = .ok (.ireturn, 1) := by decide +kernel
theorem d_L_law_1584 : decode b_L_law 1584 = .ok (.iload 5, 2) := by decide +kernel
theorem d_L_law_1586 : decode b_L_law 1586 = .ok (.ifCond .ne 15, 3) := by decide +kernel
theorem d_L_law_1589 : decode b_L_law 1589 = .ok (.aload_n 3, 1) := by decide +kernel
theorem d_L_law_1590 : decode b_L_law 1590 = .ok (.iconst 0, 1) := by decide +kernel
theorem d_L_law_1591 : decode b_L_law 1591 = .ok (.laload, 1) := by decide +kernel
theorem d_L_law_1592 : decode b_L_law 1592 = .ok (.iload 6, 2) := by decide +kernel
theorem d_L_law_1594 : decode b_L_law 1594 = .ok (.i2l, 1) := by decide +kernel
theorem d_L_law_1595 : decode b_L_law 1595 = .ok (.lcmp, 1) := by decide +kernel
theorem d_L_law_1596 : decode b_L_law 1596 = .ok (.ifCond .eq 5, 3) := by decide +kernel
theorem d_L_law_1599 : decode b_L_law 1599 = .ok (.iconst 0, 1) := by decide +kernel
theorem d_L_law_1600 : decode b_L_law 1600 = .ok (.ireturn, 1) := by decide +kernel
theorem d_L_law_1601 : decode b_L_law 1601 = .ok (.goto 59, 3) := by decide +kernel
theorem d_L_law_1604 : decode b_L_law 1604 = .ok (.aload_n 1, 1) := by decide +kernel
theorem d_L_law_1605 : decode b_L_law 1605 = .ok (.aload_n 0, 1) := by decide +kernel
theorem d_L_law_1606 : decode b_L_law 1606 = .ok (.iload 4, 2) := by decide +kernel
theorem d_L_law_1608 : decode b_L_law 1608 = .ok (.iconst 1, 1) := by decide +kernel
theorem d_L_law_1609 : decode b_L_law 1609 = .ok (.iadd, 1) := by decide +kernel
theorem d_L_law_1610 : decode b_L_law 1610 = .ok (.iaload, 1) := by decide +kernel
theorem d_L_law_1611 : decode b_L_law 1611 = .ok (.aload_n 3, 1) := by decide +kernel
theorem d_L_law_1612 : decode b_L_law 1612 = .ok (.invokestatic 185, 3) := by decide +kernel
theorem d_L_law_1615 : decode b_L_law 1615 = .ok (.istore 5, 2) := by decide +kernel
theorem d_L_law_1617 : decode b_L_law 1617 = .ok (.aload_n 2, 1) := by decide +kernel
theorem d_L_law_1618 : decode b_L_law 1618 = .ok (.aload_n 0, 1) := by decide +kernel
theorem d_L_law_1619 : decode b_L_law 1619 = .ok (.iload 4, 2) := by decide +kernel
theorem d_L_law_1621 : decode b_L_law 1621 = .ok (.iconst 1, 1) := by decide +kernel
theorem d_L_law_1622 : decode b_L_law 1622 = .ok (.iadd, 1) := by decide +kernel
theorem d_L_law_1623 : decode b_L_law 1623 = .ok (.iaload, 1) := by decide +kernel
theorem d_L_law_1624 : decode b_L_law 1624 = .ok (.invokevirtual 187, 3) := by decide +kernel
theorem d_L_law_1627 : decode b_L_law 1627 = .ok (.istore 6, 2) := by decide +kernel
theorem d_L_law_1629 : decode b_L_law 1629 = .ok (.aload_n 2, 1) := by decide +kernel
theorem d_L_law_1630 : decode b_L_law 1630 = .ok (.invokevirtual 104, 3) := by decide +kernel
theorem d_L_law_1633 : decode b_L_law 1633 = .ok (.iload 5, 2) := by decide +kernel
theorem d_L_law_1635 : decode b_L_law 1635 = .ok (.if_icmp .eq 5, 3) := by decide +kernel
theorem d_L_law_1638 : decode b_L_law 1638 = .ok (.iconst 0, 1) := by decide +kernel
theorem d_L_law_1639 : decode b_L_law 1639 = .ok (.ireturn, 1) := by decide +kernel
theorem d_L_law_1640 : decode b_L_law 1640 = .ok (.iload 5, 2) := by decide +kernel
theorem d_L_law_1642 : decode b_L_law 1642 = .ok (.ifCond .ne 15, 3) := by decide +kernel
theorem d_L_law_1645 : decode b_L_law 1645 = .ok (.aload_n 3, 1) := by decide +kernel
theorem d_L_law_1646 : decode b_L_law 1646 = .ok (.iconst 0, 1) := by decide +kernel
theorem d_L_law_1647 : decode b_L_law 1647 = .ok (.laload, 1) := by decide +kernel
theorem d_L_law_1648 : decode b_L_law 1648 = .ok (.iload 6, 2) := by decide +kernel
theorem d_L_law_1650 : decode b_L_law 1650 = .ok (.i2l, 1) := by decide +kernel
theorem d_L_law_1651 : decode b_L_law 1651 = .ok (.lcmp, 1) := by decide +kernel
theorem d_L_law_1652 : decode b_L_law 1652 = .ok (.ifCond .eq 5, 3) := by decide +kernel
theorem d_L_law_1655 : decode b_L_law 1655 = .ok (.iconst 0, 1) := by decide +kernel
theorem d_L_law_1656 : decode b_L_law 1656 = .ok (.ireturn, 1) := by decide +kernel
theorem d_L_law_1657 : decode b_L_law 1657 = .ok (.goto 3, 3) := by decide +kernel
theorem d_L_law_1660 : decode b_L_law 1660 = .ok (.iinc 4 4, 3) := by decide +kernel
theorem d_L_law_1663 : decode b_L_law 1663 = .ok (.goto (-1640), 3) := by decide +kernel
theorem d_L_law_1666 : decode b_L_law 1666 = .ok (.iconst 1, 1) := by decide +kernel
theorem d_L_law_1667 : decode b_L_law 1667 = .ok (.ireturn, 1) := by decide +kernel
