theorem d_M_init_0 : decode b_M_init 0 = .ok (.aload_n 0, 1) := by decide +kernel
theorem d_M_init_1 : decode b_M_init 1 = .ok (.invokespecial 1, 3) := by decide +kernel
theorem d_M_init_4 : decode b_M_init 4 = .ok (.aload_n 0, 1) := by decide +kernel
theorem d_M_init_5 : decode b_M_init 5 = .ok (.bipush 24, 2) := by decide +kernel
theorem d_M_init_7 : decode b_M_init 7 = .ok (.newarray .byte, 2) := by decide +kernel
theorem d_M_init_9 : decode b_M_init 9 = .ok (.putfield 7, 3) := by decide +kernel
theorem d_M_init_12 : decode b_M_init 12 = .ok (.aload_n 0, 1) := by decide +kernel
theorem d_M_init_13 : decode b_M_init 13 = .ok (.sipush 1440, 3) := by decide +kernel
theorem d_M_init_16 : decode b_M_init 16 = .ok (.newarray .byte, 2) := by decide +kernel
theorem d_M_init_18 : decode b_M_init 18 = .ok (.putfield 13, 3) := by decide +kernel
theorem d_M_init_21 : decode b_M_init 21 = .ok (.aload_n 0, 1) := by decide +kernel
theorem d_M_init_22 : decode b_M_init 22 = .ok (.bipush 60, 2) := by decide +kernel
theorem d_M_init_24 : decode b_M_init 24 = .ok (.newarray .int, 2) := by decide +kernel
theorem d_M_init_26 : decode b_M_init 26 = .ok (.putfield 16, 3) := by decide +kernel
theorem d_M_init_29 : decode b_M_init 29 = .ok (.aload_n 0, 1) := by decide +kernel
theorem d_M_init_30 : decode b_M_init 30 = .ok (.bipush 60, 2) := by decide +kernel
theorem d_M_init_32 : decode b_M_init 32 = .ok (.newarray .int, 2) := by decide +kernel
theorem d_M_init_34 : decode b_M_init 34 = .ok (.putfield 20, 3) := by decide +kernel
theorem d_M_init_37 : decode b_M_init 37 = .ok (.aload_n 0, 1) := by decide +kernel
theorem d_M_init_38 : decode b_M_init 38 = .ok (.bipush 60, 2) := by decide +kernel
theorem d_M_init_40 : decode b_M_init 40 = .ok (.newarray .int, 2) := by decide +kernel
theorem d_M_init_42 : decode b_M_init 42 = .ok (.putfield 23, 3) := by decide +kernel
theorem d_M_init_45 : decode b_M_init 45 = .ok (.aload_n 0, 1) := by decide +kernel
theorem d_M_init_46 : decode b_M_init 46 = .ok (.bipush 60, 2) := by decide +kernel
theorem d_M_init_48 : decode b_M_init 48 = .ok (.newarray .int, 2) := by decide +kernel
theorem d_M_init_50 : decode b_M_init 50 = .ok (.putfield 26, 3) := by decide +kernel
theorem d_M_init_53 : decode b_M_init 53 = .ok (.aload_n 0, 1) := by decide +kernel
theorem d_M_init_54 : decode b_M_init 54 = .ok (.bipush 120, 2) := by decide +kernel
theorem d_M_init_56 : decode b_M_init 56 = .ok (.newarray .int, 2) := by decide +kernel
theorem d_M_init_58 : decode b_M_init 58 = .ok (.putfield 29, 3) := by decide +kernel
theorem d_M_init_61 : decode b_M_init 61 = .ok (.aload_n 0, 1) := by decide +kernel
theorem d_M_init_62 : decode b_M_init 62 = .ok (.bipush 40, 2) := by decide +kernel
theorem d_M_init_64 : decode b_M_init 64 = .ok (.newarray .int, 2) := by decide +kernel
theorem d_M_init_66 : decode b_M_init 66 = .ok (.putfield 32, 3) := by decide +kernel
theorem d_M_init_69 : decode b_M_init 69 = .ok (.aload_n 0, 1) := by decide +kernel
theorem d_M_init_70 : decode b_M_init 70 = .ok (.bipush 80, 2) := by decide +kernel
theorem d_M_init_72 : decode b_M_init 72 = .ok (.newarray .byte, 2) := by decide +kernel
theorem d_M_init_74 : decode b_M_init 74 = .ok (.putfield 35, 3) := by decide +kernel
theorem d_M_init_77 : decode b_M_init 77 = .ok (.aload_n 0, 1) := by decide +kernel
theorem d_M_init_78 : decode b_M_init 78 = .ok (.iconst 3, 1) := by decide +kernel
theorem d_M_init_79 : decode b_M_init 79 = .ok (.newarray .int, 2) := by decide +kernel
theorem d_M_init_81 : decode b_M_init 81 = .ok (.dup, 1) := by decide +kernel
theorem d_M_init_82 : decode b_M_init 82 = .ok (.iconst 0, 1) := by decide +kernel
theorem d_M_init_83 : decode b_M_init 83 = .ok (.iconst 0, 1) := by decide +kernel
theorem d_M_init_84 : decode b_M_init 84 = .ok (.iastore, 1) := by decide +kernel
theorem d_M_init_85 : decode b_M_init 85 = .ok (.dup, 1) := by decide +kernel
theorem d_M_init_86 : decode b_M_init 86 = .ok (.iconst 1, 1) := by decide +kernel
theorem d_M_init_87 : decode b_M_init 87 = .ok (.iconst (-1), 1) := by decide +kernel
theorem d_M_init_88 : decode b_M_init 88 = .ok (.iastore, 1) := by decide +kernel
theorem d_M_init_89 : decode b_M_init 89 = .ok (.dup, 1) := by decide +kernel
theorem d_M_init_90 : decode b_M_init 90 = .ok (.iconst 2, 1) := by decide +kernel
theorem d_M_init_91 : decode b_M_init 91 = .ok (.iconst (-1), 1) := by decide +kernel
theorem d_M_init_92 : decode b_M_init 92 = .ok (.iastore, 1) := by decide +kernel
theorem d_M_init_93 : decode b_M_init 93 = .ok (.putfield 38, 3) := by decide +kernel
theorem d_M_init_96 : decode b_M_init 96 = .ok (.aload_n 0, 1) := by decide +kernel
theorem d_M_init_97 : decode b_M_init 97 = .ok (.bipush 64, 2) := by decide +kernel
theorem d_M_init_99 : decode b_M_init 99 = .ok (.newarray .byte, 2) := by decide +kernel
theorem d_M_init_101 : decode b_M_init 101 = .ok (.putfield 41, 3) := by decide +kernel
theorem d_M_init_104 : decode b_M_init 104 = .ok (.aload_n 0, 1) := by decide +kernel
theorem d_M_init_105 : decode b_M_init 105 = .ok (.bipush 25, 2) := by decide +kernel
theorem d_M_init_107 : decode b_M_init 107 = .ok (.newarray .int, 2) := by decide +kernel
theorem d_M_init_109 : decode b_M_init 109 = .ok (.putfield 44, 3) := by decide +kernel
theorem d_M_init_112 : decode b_M_init 112 = .ok (.return_, 1) := by decide +kernel
theorem d_M_thrown_0 : decode b_M_thrown 0 = .ok (.aload_n 0, 1) := by decide +kernel
theorem d_M_thrown_1 : decode b_M_thrown 1 = .ok (.getfield 47, 3) := by decide +kernel
theorem d_M_thrown_4 : decode b_M_thrown 4 = .ok (.ireturn, 1) := by decide +kernel
theorem d_M_refuses_0 : decode b_M_refuses 0 = .ok (.aload_n 0, 1) := by decide +kernel
theorem d_M_refuses_1 : decode b_M_refuses 1 = .ok (.iload_n 1, 1) := by decide +kernel
theorem d_M_refuses_2 : decode b_M_refuses 2 = .ok (.putfield 47, 3) := by decide +kernel
theorem d_M_refuses_5 : decode b_M_refuses 5 = .ok (.iload_n 1, 1) := by decide +kernel
theorem d_M_refuses_6 : decode b_M_refuses 6 = .ok (.ifCond .eq 7, 3) := by decide +kernel
theorem d_M_refuses_9 : decode b_M_refuses 9 = .ok (.iconst 1, 1) := by decide +kernel
theorem d_M_refuses_10 : decode b_M_refuses 10 = .ok (.goto 4, 3) := by decide +kernel
theorem d_M_refuses_13 : decode b_M_refuses 13 = .ok (.iconst 0, 1) := by decide +kernel
theorem d_M_refuses_14 : decode b_M_refuses 14 = .ok (.ireturn, 1) := by decide +kernel
theorem d_M_no_0 : decode b_M_no 0 = .ok (.iload_n 1, 1) := by decide +kernel
theorem d_M_no_1 : decode b_M_no 1 = .ok (.ifCond .lt 11, 3) := by decide +kernel
theorem d_M_no_4 : decode b_M_no 4 = .ok (.iload_n 1, 1) := by decide +kernel
theorem d_M_no_5 : decode b_M_no 5 = .ok (.aload_n 0, 1) := by decide +kernel
theorem d_M_no_6 : decode b_M_no 6 = .ok (.getfield 51, 3) := by decide +kernel
theorem d_M_no_9 : decode b_M_no 9 = .ok (.if_icmp .lt 7, 3) := by decide +kernel
theorem d_M_no_12 : decode b_M_no 12 = .ok (.iconst 1, 1) := by decide +kernel
theorem d_M_no_13 : decode b_M_no 13 = .ok (.goto 4, 3) := by decide +kernel
theorem d_M_no_16 : decode b_M_no 16 = .ok (.iconst 0, 1) := by decide +kernel
theorem d_M_no_17 : decode b_M_no 17 = .ok (.ireturn, 1) := by decide +kernel
theorem d_M_clashes_0 : decode b_M_clashes 0 = .ok (.aload_n 0, 1) := by decide +kernel
theorem d_M_clashes_1 : decode b_M_clashes 1 = .ok (.getfield 38, 3) := by decide +kernel
theorem d_M_clashes_4 : decode b_M_clashes 4 = .ok (.iconst 0, 1) := by decide +kernel
theorem d_M_clashes_5 : decode b_M_clashes 5 = .ok (.iload_n 1, 1) := by decide +kernel
theorem d_M_clashes_6 : decode b_M_clashes 6 = .ok (.iastore, 1) := by decide +kernel
theorem d_M_clashes_7 : decode b_M_clashes 7 = .ok (.aload_n 0, 1) := by decide +kernel
theorem d_M_clashes_8 : decode b_M_clashes 8 = .ok (.getfield 38, 3) := by decide +kernel
theorem d_M_clashes_11 : decode b_M_clashes 11 = .ok (.iconst 1, 1) := by decide +kernel
theorem d_M_clashes_12 : decode b_M_clashes 12 = .ok (.iload_n 2, 1) := by decide +kernel
theorem d_M_clashes_13 : decode b_M_clashes 13 = .ok (.iastore, 1) := by decide +kernel
theorem d_M_clashes_14 : decode b_M_clashes 14 = .ok (.aload_n 0, 1) := by decide +kernel
theorem d_M_clashes_15 : decode b_M_clashes 15 = .ok (.getfield 38, 3) := by decide +kernel
theorem d_M_clashes_18 : decode b_M_clashes 18 = .ok (.iconst 2, 1) := by decide +kernel
theorem d_M_clashes_19 : decode b_M_clashes 19 = .ok (.iload_n 3, 1) := by decide +kernel
theorem d_M_clashes_20 : decode b_M_clashes 20 = .ok (.iastore, 1) := by decide +kernel
theorem d_M_clashes_21 : decode b_M_clashes 21 = .ok (.return_, 1) := by decide +kernel
theorem d_M_at_0 : decode b_M_at 0 = .ok (.aload_n 0, 1) := by decide +kernel
theorem d_M_at_1 : decode b_M_at 1 = .ok (.getfield 13, 3) := by decide +kernel
theorem d_M_at_4 : decode b_M_at 4 = .ok (.bipush 24, 2) := by decide +kernel
theorem d_M_at_6 : decode b_M_at 6 = .ok (.iload_n 1, 1) := by decide +kernel
theorem d_M_at_7 : decode b_M_at 7 = .ok (.imul, 1) := by decide +kernel
theorem d_M_at_8 : decode b_M_at 8 = .ok (.iload_n 2, 1) := by decide +kernel
theorem d_M_at_9 : decode b_M_at 9 = .ok (.iadd, 1) := by decide +kernel
theorem d_M_at_10 : decode b_M_at 10 = .ok (.baload, 1) := by decide +kernel
theorem d_M_at_11 : decode b_M_at 11 = .ok (.ireturn, 1) := by decide +kernel
theorem d_M_type_0 : decode b_M_type 0 = .ok (.aload_n 0, 1) := by decide +kernel
theorem d_M_type_1 : decode b_M_type 1 = .ok (.iload_n 1, 1) := by decide +kernel
theorem d_M_type_2 : decode b_M_type 2 = .ok (.bipush 33, 2) := by decide +kernel
theorem d_M_type_4 : decode b_M_type 4 = .ok (.if_icmp .lt 9, 3) := by decide +kernel
theorem d_M_type_7 : decode b_M_type 7 = .ok (.iload_n 1, 1) := by decide +kernel
theorem d_M_type_8 : decode b_M_type 8 = .ok (.bipush 126, 2) := by decide +kernel
theorem d_M_type_10 : decode b_M_type 10 = .ok (.if_icmp .le 7, 3) := by decide +kernel
theorem d_M_type_13 : decode b_M_type 13 = .ok (.iconst 1, 1) := by decide +kernel
theorem d_M_type_14 : decode b_M_type 14 = .ok (.goto 17, 3) := by decide +kernel
theorem d_M_type_17 : decode b_M_type 17 = .ok (.aload_n 0, 1) := by decide +kernel
theorem d_M_type_18 : decode b_M_type 18 = .ok (.getfield 54, 3) := by decide +kernel
theorem d_M_type_21 : decode b_M_type 21 = .ok (.bipush 24, 2) := by decide +kernel
theorem d_M_type_23 : decode b_M_type 23 = .ok (.if_icmp .ne 7, 3) := by decide +kernel
theorem d_M_type_26 : decode b_M_type 26 = .ok (.iconst 2, 1) := by decide +kernel
theorem d_M_type_27 : decode b_M_type 27 = .ok (.goto 4, 3) := by decide +kernel
theorem d_M_type_30 : decode b_M_type 30 = .ok (.iconst 0, 1) := by decide +kernel
theorem d_M_type_31 : decode b_M_type 31 = .ok (.invokevirtual 57, 3) := by decide +kernel
theorem d_M_type_34 : decode b_M_type 34 = .ok (.ifCond .eq 5, 3) := by decide +kernel
theorem d_M_type_37 : decode b_M_type 37 = .ok (.iconst 0, 1) := by decide +kernel
theorem d_M_type_38 : decode b_M_type 38 = .ok (.ireturn, 1) := by decide +kernel
theorem d_M_type_39 : decode b_M_type 39 = .ok (.aload_n 0, 1) := by decide +kernel
theorem d_M_type_40 : decode b_M_type 40 = .ok (.getfield 7, 3) := by decide +kernel
theorem d_M_type_43 : decode b_M_type 43 = .ok (.aload_n 0, 1) := by decide +kernel
theorem d_M_type_44 : decode b_M_type 44 = .ok (.dup, 1) := by decide +kernel
theorem d_M_type_45 : decode b_M_type 45 = .ok (.getfield 54, 3) := by decide +kernel
theorem d_M_type_48 : decode b_M_type 48 = .ok (.dup_x1, 1) := by decide +kernel
theorem d_M_type_49 : decode b_M_type 49 = .ok (.iconst 1, 1) := by decide +kernel
theorem d_M_type_50 : decode b_M_type 50 = .ok (.iadd, 1) := by decide +kernel
theorem d_M_type_51 : decode b_M_type 51 = .ok (.putfield 54, 3) := by decide +kernel
theorem d_M_type_54 : decode b_M_type 54 = .ok (.iload_n 1, 1) := by decide +kernel
theorem d_M_type_55 : decode b_M_type 55 = .ok (.i2b, 1) := by decide +kernel
theorem d_M_type_56 : decode b_M_type 56 = .ok (.bastore, 1) := by decide +kernel
theorem d_M_type_57 : decode b_M_type 57 = .ok (.aload_n 0, 1) := by decide +kernel
theorem d_M_type_58 : decode b_M_type 58 = .ok (.getfield 54, 3) := by decide +kernel
theorem d_M_type_61 : decode b_M_type 61 = .ok (.ireturn, 1) := by decide +kernel
theorem d_M_clear_0 : decode b_M_clear 0 = .ok (.aload_n 0, 1) := by decide +kernel
theorem d_M_clear_1 : decode b_M_clear 1 = .ok (.iconst 0, 1) := by decide +kernel
theorem d_M_clear_2 : decode b_M_clear 2 = .ok (.putfield 47, 3) := by decide +kernel
theorem d_M_clear_5 : decode b_M_clear 5 = .ok (.aload_n 0, 1) := by decide +kernel
theorem d_M_clear_6 : decode b_M_clear 6 = .ok (.getfield 54, 3) := by decide +kernel
theorem d_M_clear_9 : decode b_M_clear 9 = .ok (.istore_n 1, 1) := by decide +kernel
theorem d_M_clear_10 : decode b_M_clear 10 = .ok (.aload_n 0, 1) := by decide +kernel
theorem d_M_clear_11 : decode b_M_clear 11 = .ok (.iconst 0, 1) := by decide +kernel
theorem d_M_clear_12 : decode b_M_clear 12 = .ok (.putfield 54, 3) := by decide +kernel
theorem d_M_clear_15 : decode b_M_clear 15 = .ok (.iload_n 1, 1) := by decide +kernel
theorem d_M_clear_16 : decode b_M_clear 16 = .ok (.ireturn, 1) := by decide +kernel
theorem d_M_begin_0 : decode b_M_begin 0 = .ok (.aload_n 0, 1) := by decide +kernel
theorem d_M_begin_1 : decode b_M_begin 1 = .ok (.iconst 0, 1) := by decide +kernel
theorem d_M_begin_2 : decode b_M_begin 2 = .ok (.putfield 61, 3) := by decide +kernel
theorem d_M_begin_5 : decode b_M_begin 5 = .ok (.return_, 1) := by decide +kernel
theorem d_M_makes_0 : decode b_M_makes 0 = .ok (.aload_n 0, 1) := by decide +kernel
theorem d_M_makes_1 : decode b_M_makes 1 = .ok (.getfield 61, 3) := by decide +kernel
theorem d_M_makes_4 : decode b_M_makes 4 = .ok (.bipush 64, 2) := by decide +kernel
theorem d_M_makes_6 : decode b_M_makes 6 = .ok (.if_icmp .ge 21, 3) := by decide +kernel
theorem d_M_makes_9 : decode b_M_makes 9 = .ok (.aload_n 0, 1) := by decide +kernel
theorem d_M_makes_10 : decode b_M_makes 10 = .ok (.getfield 41, 3) := by decide +kernel
theorem d_M_makes_13 : decode b_M_makes 13 = .ok (.aload_n 0, 1) := by decide +kernel
theorem d_M_makes_14 : decode b_M_makes 14 = .ok (.dup, 1) := by decide +kernel
theorem d_M_makes_15 : decode b_M_makes 15 = .ok (.getfield 61, 3) := by decide +kernel
theorem d_M_makes_18 : decode b_M_makes 18 = .ok (.dup_x1, 1) := by decide +kernel
theorem d_M_makes_19 : decode b_M_makes 19 = .ok (.iconst 1, 1) := by decide +kernel
theorem d_M_makes_20 : decode b_M_makes 20 = .ok (.iadd, 1) := by decide +kernel
theorem d_M_makes_21 : decode b_M_makes 21 = .ok (.putfield 61, 3) := by decide +kernel
theorem d_M_makes_24 : decode b_M_makes 24 = .ok (.iload_n 1, 1) := by decide +kernel
theorem d_M_makes_25 : decode b_M_makes 25 = .ok (.i2b, 1) := by decide +kernel
theorem d_M_makes_26 : decode b_M_makes 26 = .ok (.bastore, 1) := by decide +kernel
theorem d_M_makes_27 : decode b_M_makes 27 = .ok (.return_, 1) := by decide +kernel
theorem d_M_found_0 : decode b_M_found 0 = .ok (.iconst 0, 1) := by decide +kernel
theorem d_M_found_1 : decode b_M_found 1 = .ok (.istore_n 1, 1) := by decide +kernel
theorem d_M_found_2 : decode b_M_found 2 = .ok (.iload_n 1, 1) := by decide +kernel
theorem d_M_found_3 : decode b_M_found 3 = .ok (.aload_n 0, 1) := by decide +kernel
theorem d_M_found_4 : decode b_M_found 4 = .ok (.getfield 51, 3) := by decide +kernel
theorem d_M_found_7 : decode b_M_found 7 = .ok (.if_icmp .ge 75, 3) := by decide +kernel
theorem d_M_found_10 : decode b_M_found 10 = .ok (.aload_n 0, 1) := by decide +kernel
theorem d_M_found_11 : decode b_M_found 11 = .ok (.getfield 16, 3) := by decide +kernel
theorem d_M_found_14 : decode b_M_found 14 = .ok (.iload_n 1, 1) := by decide +kernel
theorem d_M_found_15 : decode b_M_found 15 = .ok (.iaload, 1) := by decide +kernel
theorem d_M_found_16 : decode b_M_found 16 = .ok (.aload_n 0, 1) := by decide +kernel
theorem d_M_found_17 : decode b_M_found 17 = .ok (.getfield 61, 3) := by decide +kernel
theorem d_M_found_20 : decode b_M_found 20 = .ok (.if_icmp .ne 7, 3) := by decide +kernel
theorem d_M_found_23 : decode b_M_found 23 = .ok (.iconst 1, 1) := by decide +kernel
theorem d_M_found_24 : decode b_M_found 24 = .ok (.goto 4, 3) := by decide +kernel
theorem d_M_found_27 : decode b_M_found 27 = .ok (.iconst 0, 1) := by decide +kernel
theorem d_M_found_28 : decode b_M_found 28 = .ok (.istore_n 2, 1) := by decide +kernel
theorem d_M_found_29 : decode b_M_found 29 = .ok (.iconst 0, 1) := by decide +kernel
theorem d_M_found_30 : decode b_M_found 30 = .ok (.istore_n 3, 1) := by decide +kernel
theorem d_M_found_31 : decode b_M_found 31 = .ok (.iload_n 3, 1) := by decide +kernel
theorem d_M_found_32 : decode b_M_found 32 = .ok (.aload_n 0, 1) := by decide +kernel
theorem d_M_found_33 : decode b_M_found 33 = .ok (.getfield 61, 3) := by decide +kernel
theorem d_M_found_36 : decode b_M_found 36 = .ok (.if_icmp .ge 34, 3) := by decide +kernel
theorem d_M_found_39 : decode b_M_found 39 = .ok (.iload_n 2, 1) := by decide +kernel
theorem d_M_found_40 : decode b_M_found 40 = .ok (.ifCond .eq 30, 3) := by decide +kernel
theorem d_M_found_43 : decode b_M_found 43 = .ok (.aload_n 0, 1) := by decide +kernel
theorem d_M_found_44 : decode b_M_found 44 = .ok (.iload_n 1, 1) := by decide +kernel
theorem d_M_found_45 : decode b_M_found 45 = .ok (.iload_n 3, 1) := by decide +kernel
theorem d_M_found_46 : decode b_M_found 46 = .ok (.invokevirtual 64, 3) := by decide +kernel
theorem d_M_found_49 : decode b_M_found 49 = .ok (.aload_n 0, 1) := by decide +kernel
theorem d_M_found_50 : decode b_M_found 50 = .ok (.getfield 41, 3) := by decide +kernel
theorem d_M_found_53 : decode b_M_found 53 = .ok (.iload_n 3, 1) := by decide +kernel
theorem d_M_found_54 : decode b_M_found 54 = .ok (.baload, 1) := by decide +kernel
theorem d_M_found_55 : decode b_M_found 55 = .ok (.if_icmp .ne 7, 3) := by decide +kernel
theorem d_M_found_58 : decode b_M_found 58 = .ok (.iconst 1, 1) := by decide +kernel
theorem d_M_found_59 : decode b_M_found 59 = .ok (.goto 4, 3) := by decide +kernel
theorem d_M_found_62 : decode b_M_found 62 = .ok (.iconst 0, 1) := by decide +kernel
theorem d_M_found_63 : decode b_M_found 63 = .ok (.istore_n 2, 1) := by decide +kernel
theorem d_M_found_64 : decode b_M_found 64 = .ok (.iinc 3 1, 3) := by decide +kernel
theorem d_M_found_67 : decode b_M_found 67 = .ok (.goto (-36), 3) := by decide +kernel
theorem d_M_found_70 : decode b_M_found 70 = .ok (.iload_n 2, 1) := by decide +kernel
theorem d_M_found_71 : decode b_M_found 71 = .ok (.ifCond .eq 5, 3) := by decide +kernel
theorem d_M_found_74 : decode b_M_found 74 = .ok (.iload_n 1, 1) := by decide +kernel
theorem d_M_found_75 : decode b_M_found 75 = .ok (.ireturn, 1) := by decide +kernel
theorem d_M_found_76 : decode b_M_found 76 = .ok (.iinc 1 1, 3) := by decide +kernel
theorem d_M_found_79 : decode b_M_found 79 = .ok (.goto (-77), 3) := by decide +kernel
theorem d_M_found_82 : decode b_M_found 82 = .ok (.iconst (-1), 1) := by decide +kernel
theorem d_M_found_83 : decode b_M_found 83 = .ok (.ireturn, 1) := by decide +kernel
theorem d_M_comes_0 : decode b_M_comes 0 = .ok (.aload_n 0, 1) := by decide +kernel
theorem d_M_comes_1 : decode b_M_comes 1 = .ok (.invokevirtual 68, 3) := by decide +kernel
theorem d_M_comes_4 : decode b_M_comes 4 = .ok (.istore_n 1, 1) := by decide +kernel
theorem d_M_comes_5 : decode b_M_comes 5 = .ok (.iload_n 1, 1) := by decide +kernel
theorem d_M_comes_6 : decode b_M_comes 6 = .ok (.ifCond .lt 5, 3) := by decide +kernel
theorem d_M_comes_9 : decode b_M_comes 9 = .ok (.iload_n 1, 1) := by decide +kernel
theorem d_M_comes_10 : decode b_M_comes 10 = .ok (.ireturn, 1) := by decide +kernel
theorem d_M_comes_11 : decode b_M_comes 11 = .ok (.iconst 0, 1) := by decide +kernel
theorem d_M_comes_12 : decode b_M_comes 12 = .ok (.istore_n 2, 1) := by decide +kernel
theorem d_M_comes_13 : decode b_M_comes 13 = .ok (.iload_n 2, 1) := by decide +kernel
theorem d_M_comes_14 : decode b_M_comes 14 = .ok (.aload_n 0, 1) := by decide +kernel
theorem d_M_comes_15 : decode b_M_comes 15 = .ok (.getfield 61, 3) := by decide +kernel
theorem d_M_comes_18 : decode b_M_comes 18 = .ok (.if_icmp .ge 29, 3) := by decide +kernel
theorem d_M_comes_21 : decode b_M_comes 21 = .ok (.aload_n 0, 1) := by decide +kernel
theorem d_M_comes_22 : decode b_M_comes 22 = .ok (.getfield 13, 3) := by decide +kernel
theorem d_M_comes_25 : decode b_M_comes 25 = .ok (.bipush 24, 2) := by decide +kernel
theorem d_M_comes_27 : decode b_M_comes 27 = .ok (.aload_n 0, 1) := by decide +kernel
theorem d_M_comes_28 : decode b_M_comes 28 = .ok (.getfield 51, 3) := by decide +kernel
theorem d_M_comes_31 : decode b_M_comes 31 = .ok (.imul, 1) := by decide +kernel
theorem d_M_comes_32 : decode b_M_comes 32 = .ok (.iload_n 2, 1) := by decide +kernel
theorem d_M_comes_33 : decode b_M_comes 33 = .ok (.iadd, 1) := by decide +kernel
theorem d_M_comes_34 : decode b_M_comes 34 = .ok (.aload_n 0, 1) := by decide +kernel
theorem d_M_comes_35 : decode b_M_comes 35 = .ok (.getfield 41, 3) := by decide +kernel
theorem d_M_comes_38 : decode b_M_comes 38 = .ok (.iload_n 2, 1) := by decide +kernel
theorem d_M_comes_39 : decode b_M_comes 39 = .ok (.baload, 1) := by decide +kernel
theorem d_M_comes_40 : decode b_M_comes 40 = .ok (.bastore, 1) := by decide +kernel
theorem d_M_comes_41 : decode b_M_comes 41 = .ok (.iinc 2 1, 3) := by decide +kernel
theorem d_M_comes_44 : decode b_M_comes 44 = .ok (.goto (-31), 3) := by decide +kernel
theorem d_M_comes_47 : decode b_M_comes 47 = .ok (.aload_n 0, 1) := by decide +kernel
theorem d_M_comes_48 : decode b_M_comes 48 = .ok (.getfield 16, 3) := by decide +kernel
theorem d_M_comes_51 : decode b_M_comes 51 = .ok (.aload_n 0, 1) := by decide +kernel
theorem d_M_comes_52 : decode b_M_comes 52 = .ok (.getfield 51, 3) := by decide +kernel
theorem d_M_comes_55 : decode b_M_comes 55 = .ok (.aload_n 0, 1) := by decide +kernel
theorem d_M_comes_56 : decode b_M_comes 56 = .ok (.getfield 61, 3) := by decide +kernel
theorem d_M_comes_59 : decode b_M_comes 59 = .ok (.iastore, 1) := by decide +kernel
theorem d_M_comes_60 : decode b_M_comes 60 = .ok (.aload_n 0, 1) := by decide +kernel
theorem d_M_comes_61 : decode b_M_comes 61 = .ok (.getfield 20, 3) := by decide +kernel
theorem d_M_comes_64 : decode b_M_comes 64 = .ok (.aload_n 0, 1) := by decide +kernel
theorem d_M_comes_65 : decode b_M_comes 65 = .ok (.getfield 51, 3) := by decide +kernel
theorem d_M_comes_68 : decode b_M_comes 68 = .ok (.iconst (-1), 1) := by decide +kernel
theorem d_M_comes_69 : decode b_M_comes 69 = .ok (.iastore, 1) := by decide +kernel
theorem d_M_comes_70 : decode b_M_comes 70 = .ok (.aload_n 0, 1) := by decide +kernel
theorem d_M_comes_71 : decode b_M_comes 71 = .ok (.getfield 23, 3) := by decide +kernel
theorem d_M_comes_74 : decode b_M_comes 74 = .ok (.aload_n 0, 1) := by decide +kernel
theorem d_M_comes_75 : decode b_M_comes 75 = .ok (.getfield 51, 3) := by decide +kernel
theorem d_M_comes_78 : decode b_M_comes 78 = .ok (.iconst 0, 1) := by decide +kernel
theorem d_M_comes_79 : decode b_M_comes 79 = .ok (.iastore, 1) := by decide +kernel
theorem d_M_comes_80 : decode b_M_comes 80 = .ok (.aload_n 0, 1) := by decide +kernel
theorem d_M_comes_81 : decode b_M_comes 81 = .ok (.getfield 26, 3) := by decide +kernel
theorem d_M_comes_84 : decode b_M_comes 84 = .ok (.aload_n 0, 1) := by decide +kernel
theorem d_M_comes_85 : decode b_M_comes 85 = .ok (.getfield 51, 3) := by decide +kernel
theorem d_M_comes_88 : decode b_M_comes 88 = .ok (.iconst (-1), 1) := by decide +kernel
theorem d_M_comes_89 : decode b_M_comes 89 = .ok (.iastore, 1) := by decide +kernel
theorem d_M_comes_90 : decode b_M_comes 90 = .ok (.aload_n 0, 1) := by decide +kernel
theorem d_M_comes_91 : decode b_M_comes 91 = .ok (.dup, 1) := by decide +kernel
theorem d_M_comes_92 : decode b_M_comes 92 = .ok (.getfield 51, 3) := by decide +kernel
theorem d_M_comes_95 : decode b_M_comes 95 = .ok (.dup_x1, 1) := by decide +kernel
theorem d_M_comes_96 : decode b_M_comes 96 = .ok (.iconst 1, 1) := by decide +kernel
theorem d_M_comes_97 : decode b_M_comes 97 = .ok (.iadd, 1) := by decide +kernel
theorem d_M_comes_98 : decode b_M_comes 98 = .ok (.putfield 51, 3) := by decide +kernel
theorem d_M_comes_101 : decode b_M_comes 101 = .ok (.ireturn, 1) := by decide +kernel
theorem d_M_isTooMuch_0 : decode b_M_isTooMuch 0 = .ok (.aload_n 0, 1) := by decide +kernel
theorem d_M_isTooMuch_1 : decode b_M_isTooMuch 1 = .ok (.getfield 61, 3) := by decide +kernel
theorem d_M_isTooMuch_4 : decode b_M_isTooMuch 4 = .ok (.bipush 24, 2) := by decide +kernel
theorem d_M_isTooMuch_6 : decode b_M_isTooMuch 6 = .ok (.if_icmp .gt 19, 3) := by decide +kernel
theorem d_M_isTooMuch_9 : decode b_M_isTooMuch 9 = .ok (.aload_n 0, 1) := by decide +kernel
theorem d_M_isTooMuch_10 : decode b_M_isTooMuch 10 = .ok (.invokevirtual 68, 3) := by decide +kernel
theorem d_M_isTooMuch_13 : decode b_M_isTooMuch 13 = .ok (.ifCond .ge 16, 3) := by decide +kernel
theorem d_M_isTooMuch_16 : decode b_M_isTooMuch 16 = .ok (.aload_n 0, 1) := by decide +kernel
theorem d_M_isTooMuch_17 : decode b_M_isTooMuch 17 = .ok (.getfield 51, 3) := by decide +kernel
theorem d_M_isTooMuch_20 : decode b_M_isTooMuch 20 = .ok (.bipush 60, 2) := by decide +kernel
theorem d_M_isTooMuch_22 : decode b_M_isTooMuch 22 = .ok (.if_icmp .ne 7, 3) := by decide +kernel
theorem d_M_isTooMuch_25 : decode b_M_isTooMuch 25 = .ok (.iconst 1, 1) := by decide +kernel
theorem d_M_isTooMuch_26 : decode b_M_isTooMuch 26 = .ok (.goto 4, 3) := by decide +kernel
theorem d_M_isTooMuch_29 : decode b_M_isTooMuch 29 = .ok (.iconst 0, 1) := by decide +kernel
theorem d_M_isTooMuch_30 : decode b_M_isTooMuch 30 = .ok (.ireturn, 1) := by decide +kernel
theorem d_M_name_0 : decode b_M_name 0 = .ok (.aload_n 0, 1) := by decide +kernel
theorem d_M_name_1 : decode b_M_name 1 = .ok (.invokevirtual 72, 3) := by decide +kernel
theorem d_M_name_4 : decode b_M_name 4 = .ok (.iconst 0, 1) := by decide +kernel
theorem d_M_name_5 : decode b_M_name 5 = .ok (.istore_n 1, 1) := by decide +kernel
theorem d_M_name_6 : decode b_M_name 6 = .ok (.iload_n 1, 1) := by decide +kernel
theorem d_M_name_7 : decode b_M_name 7 = .ok (.aload_n 0, 1) := by decide +kernel
theorem d_M_name_8 : decode b_M_name 8 = .ok (.getfield 54, 3) := by decide +kernel
theorem d_M_name_11 : decode b_M_name 11 = .ok (.if_icmp .ge 19, 3) := by decide +kernel
theorem d_M_name_14 : decode b_M_name 14 = .ok (.aload_n 0, 1) := by decide +kernel
theorem d_M_name_15 : decode b_M_name 15 = .ok (.aload_n 0, 1) := by decide +kernel
theorem d_M_name_16 : decode b_M_name 16 = .ok (.getfield 7, 3) := by decide +kernel
theorem d_M_name_19 : decode b_M_name 19 = .ok (.iload_n 1, 1) := by decide +kernel
theorem d_M_name_20 : decode b_M_name 20 = .ok (.baload, 1) := by decide +kernel
theorem d_M_name_21 : decode b_M_name 21 = .ok (.invokevirtual 75, 3) := by decide +kernel
theorem d_M_name_24 : decode b_M_name 24 = .ok (.iinc 1 1, 3) := by decide +kernel
theorem d_M_name_27 : decode b_M_name 27 = .ok (.goto (-21), 3) := by decide +kernel
theorem d_M_name_30 : decode b_M_name 30 = .ok (.aload_n 0, 1) := by decide +kernel
theorem d_M_name_31 : decode b_M_name 31 = .ok (.aload_n 0, 1) := by decide +kernel
theorem d_M_name_32 : decode b_M_name 32 = .ok (.getfield 54, 3) := by decide +kernel
theorem d_M_name_35 : decode b_M_name 35 = .ok (.ifCond .ne 7, 3) := by decide +kernel
theorem d_M_name_38 : decode b_M_name 38 = .ok (.iconst 1, 1) := by decide +kernel
theorem d_M_name_39 : decode b_M_name 39 = .ok (.goto 15, 3) := by decide +kernel
theorem d_M_name_42 : decode b_M_name 42 = .ok (.aload_n 0, 1) := by decide +kernel
theorem d_M_name_43 : decode b_M_name 43 = .ok (.invokevirtual 79, 3) := by decide +kernel
theorem d_M_name_46 : decode b_M_name 46 = .ok (.ifCond .eq 7, 3) := by decide +kernel
theorem d_M_name_49 : decode b_M_name 49 = .ok (.iconst 2, 1) := by decide +kernel
theorem d_M_name_50 : decode b_M_name 50 = .ok (.goto 4, 3) := by decide +kernel
theorem d_M_name_53 : decode b_M_name 53 = .ok (.iconst 0, 1) := by decide +kernel
theorem d_M_name_54 : decode b_M_name 54 = .ok (.invokevirtual 57, 3) := by decide +kernel
theorem d_M_name_57 : decode b_M_name 57 = .ok (.ifCond .eq 5, 3) := by decide +kernel
theorem d_M_name_60 : decode b_M_name 60 = .ok (.iconst 0, 1) := by decide +kernel
theorem d_M_name_61 : decode b_M_name 61 = .ok (.ireturn, 1) := by decide +kernel
theorem d_M_name_62 : decode b_M_name 62 = .ok (.aload_n 0, 1) := by decide +kernel
theorem d_M_name_63 : decode b_M_name 63 = .ok (.iconst 0, 1) := by decide +kernel
theorem d_M_name_64 : decode b_M_name 64 = .ok (.putfield 54, 3) := by decide +kernel
theorem d_M_name_67 : decode b_M_name 67 = .ok (.aload_n 0, 1) := by decide +kernel
theorem d_M_name_68 : decode b_M_name 68 = .ok (.invokevirtual 83, 3) := by decide +kernel
theorem d_M_name_71 : decode b_M_name 71 = .ok (.ireturn, 1) := by decide +kernel
theorem d_M_told0_0 : decode b_M_told0 0 = .ok (.aload_n 0, 1) := by decide +kernel
theorem d_M_told0_1 : decode b_M_told0 1 = .ok (.invokevirtual 72, 3) := by decide +kernel
theorem d_M_told0_4 : decode b_M_told0 4 = .ok (.aload_n 0, 1) := by decide +kernel
theorem d_M_told0_5 : decode b_M_told0 5 = .ok (.getfield 54, 3) := by decide +kernel
theorem d_M_told0_8 : decode b_M_told0 8 = .ok (.iconst 2, 1) := by decide +kernel
theorem d_M_told0_9 : decode b_M_told0 9 = .ok (.if_icmp .le 60, 3) := by decide +kernel
theorem d_M_told0_12 : decode b_M_told0 12 = .ok (.aload_n 0, 1) := by decide +kernel
theorem d_M_told0_13 : decode b_M_told0 13 = .ok (.getfield 7, 3) := by decide +kernel
theorem d_M_told0_16 : decode b_M_told0 16 = .ok (.iconst 0, 1) := by decide +kernel
theorem d_M_told0_17 : decode b_M_told0 17 = .ok (.baload, 1) := by decide +kernel
theorem d_M_told0_18 : decode b_M_told0 18 = .ok (.bipush 60, 2) := by decide +kernel
theorem d_M_told0_20 : decode b_M_told0 20 = .ok (.if_icmp .ne 49, 3) := by decide +kernel
theorem d_M_told0_23 : decode b_M_told0 23 = .ok (.aload_n 0, 1) := by decide +kernel
theorem d_M_told0_24 : decode b_M_told0 24 = .ok (.getfield 7, 3) := by decide +kernel
theorem d_M_told0_27 : decode b_M_told0 27 = .ok (.aload_n 0, 1) := by decide +kernel
theorem d_M_told0_28 : decode b_M_told0 28 = .ok (.getfield 54, 3) := by decide +kernel
theorem d_M_told0_31 : decode b_M_told0 31 = .ok (.iconst 1, 1) := by decide +kernel
theorem d_M_told0_32 : decode b_M_told0 32 = .ok (.isub, 1) := by decide +kernel
theorem d_M_told0_33 : decode b_M_told0 33 = .ok (.baload, 1) := by decide +kernel
theorem d_M_told0_34 : decode b_M_told0 34 = .ok (.bipush 62, 2) := by decide +kernel
theorem d_M_told0_36 : decode b_M_told0 36 = .ok (.if_icmp .ne 33, 3) := by decide +kernel
theorem d_M_told0_39 : decode b_M_told0 39 = .ok (.iconst 1, 1) := by decide +kernel
theorem d_M_told0_40 : decode b_M_told0 40 = .ok (.istore_n 1, 1) := by decide +kernel
theorem d_M_told0_41 : decode b_M_told0 41 = .ok (.iload_n 1, 1) := by decide +kernel
theorem d_M_told0_42 : decode b_M_told0 42 = .ok (.aload_n 0, 1) := by decide +kernel
theorem d_M_told0_43 : decode b_M_told0 43 = .ok (.getfield 54, 3) := by decide +kernel
theorem d_M_told0_46 : decode b_M_told0 46 = .ok (.iconst 1, 1) := by decide +kernel
theorem d_M_told0_47 : decode b_M_told0 47 = .ok (.isub, 1) := by decide +kernel
theorem d_M_told0_48 : decode b_M_told0 48 = .ok (.if_icmp .ge 19, 3) := by decide +kernel
theorem d_M_told0_51 : decode b_M_told0 51 = .ok (.aload_n 0, 1) := by decide +kernel
theorem d_M_told0_52 : decode b_M_told0 52 = .ok (.aload_n 0, 1) := by decide +kernel
theorem d_M_told0_53 : decode b_M_told0 53 = .ok (.getfield 7, 3) := by decide +kernel
theorem d_M_told0_56 : decode b_M_told0 56 = .ok (.iload_n 1, 1) := by decide +kernel
theorem d_M_told0_57 : decode b_M_told0 57 = .ok (.baload, 1) := by decide +kernel
theorem d_M_told0_58 : decode b_M_told0 58 = .ok (.invokevirtual 75, 3) := by decide +kernel
theorem d_M_told0_61 : decode b_M_told0 61 = .ok (.iinc 1 1, 3) := by decide +kernel
theorem d_M_told0_64 : decode b_M_told0 64 = .ok (.goto (-23), 3) := by decide +kernel
theorem d_M_told0_67 : decode b_M_told0 67 = .ok (.iconst 1, 1) := by decide +kernel
theorem d_M_told0_68 : decode b_M_told0 68 = .ok (.ireturn, 1) := by decide +kernel
theorem d_M_told0_69 : decode b_M_told0 69 = .ok (.iconst 0, 1) := by decide +kernel
theorem d_M_told0_70 : decode b_M_told0 70 = .ok (.istore_n 1, 1) := by decide +kernel
theorem d_M_told0_71 : decode b_M_told0 71 = .ok (.iload_n 1, 1) := by decide +kernel
theorem d_M_told0_72 : decode b_M_told0 72 = .ok (.aload_n 0, 1) := by decide +kernel
theorem d_M_told0_73 : decode b_M_told0 73 = .ok (.getfield 54, 3) := by decide +kernel
theorem d_M_told0_76 : decode b_M_told0 76 = .ok (.if_icmp .ge 20, 3) := by decide +kernel
theorem d_M_told0_79 : decode b_M_told0 79 = .ok (.aload_n 0, 1) := by decide +kernel
theorem d_M_told0_80 : decode b_M_told0 80 = .ok (.getfield 7, 3) := by decide +kernel
theorem d_M_told0_83 : decode b_M_told0 83 = .ok (.iload_n 1, 1) := by decide +kernel
theorem d_M_told0_84 : decode b_M_told0 84 = .ok (.baload, 1) := by decide +kernel
theorem d_M_told0_85 : decode b_M_told0 85 = .ok (.bipush 58, 2) := by decide +kernel
theorem d_M_told0_87 : decode b_M_told0 87 = .ok (.if_icmp .eq 9, 3) := by decide +kernel
theorem d_M_told0_90 : decode b_M_told0 90 = .ok (.iinc 1 1, 3) := by decide +kernel
theorem d_M_told0_93 : decode b_M_told0 93 = .ok (.goto (-22), 3) := by decide +kernel
theorem d_M_told0_96 : decode b_M_told0 96 = .ok (.iload_n 1, 1) := by decide +kernel
theorem d_M_told0_97 : decode b_M_told0 97 = .ok (.aload_n 0, 1) := by decide +kernel
theorem d_M_told0_98 : decode b_M_told0 98 = .ok (.getfield 54, 3) := by decide +kernel
theorem d_M_told0_101 : decode b_M_told0 101 = .ok (.iconst 1, 1) := by decide +kernel
theorem d_M_told0_102 : decode b_M_told0 102 = .ok (.isub, 1) := by decide +kernel
theorem d_M_told0_103 : decode b_M_told0 103 = .ok (.if_icmp .lt 5, 3) := by decide +kernel
theorem d_M_told0_106 : decode b_M_told0 106 = .ok (.iconst 0, 1) := by decide +kernel
theorem d_M_told0_107 : decode b_M_told0 107 = .ok (.ireturn, 1) := by decide +kernel
theorem d_M_told0_108 : decode b_M_told0 108 = .ok (.iconst 0, 1) := by decide +kernel
theorem d_M_told0_109 : decode b_M_told0 109 = .ok (.istore_n 2, 1) := by decide +kernel
theorem d_M_told0_110 : decode b_M_told0 110 = .ok (.iload_n 2, 1) := by decide +kernel
theorem d_M_told0_111 : decode b_M_told0 111 = .ok (.aload_n 0, 1) := by decide +kernel
theorem d_M_told0_112 : decode b_M_told0 112 = .ok (.getfield 51, 3) := by decide +kernel
theorem d_M_told0_115 : decode b_M_told0 115 = .ok (.if_icmp .ge 157, 3) := by decide +kernel
theorem d_M_told0_118 : decode b_M_told0 118 = .ok (.aload_n 0, 1) := by decide +kernel
theorem d_M_told0_119 : decode b_M_told0 119 = .ok (.getfield 20, 3) := by decide +kernel
theorem d_M_told0_122 : decode b_M_told0 122 = .ok (.iload_n 2, 1) := by decide +kernel
theorem d_M_told0_123 : decode b_M_told0 123 = .ok (.iaload, 1) := by decide +kernel
theorem d_M_told0_124 : decode b_M_told0 124 = .ok (.ifCond .lt 17, 3) := by decide +kernel
theorem d_M_told0_127 : decode b_M_told0 127 = .ok (.aload_n 0, 1) := by decide +kernel
theorem d_M_told0_128 : decode b_M_told0 128 = .ok (.getfield 16, 3) := by decide +kernel
theorem d_M_told0_131 : decode b_M_told0 131 = .ok (.iload_n 2, 1) := by decide +kernel
theorem d_M_told0_132 : decode b_M_told0 132 = .ok (.iaload, 1) := by decide +kernel
theorem d_M_told0_133 : decode b_M_told0 133 = .ok (.iload_n 1, 1) := by decide +kernel
theorem d_M_told0_134 : decode b_M_told0 134 = .ok (.if_icmp .ne 7, 3) := by decide +kernel
theorem d_M_told0_137 : decode b_M_told0 137 = .ok (.iconst 1, 1) := by decide +kernel
theorem d_M_told0_138 : decode b_M_told0 138 = .ok (.goto 4, 3) := by decide +kernel
theorem d_M_told0_141 : decode b_M_told0 141 = .ok (.iconst 0, 1) := by decide +kernel
theorem d_M_told0_142 : decode b_M_told0 142 = .ok (.istore_n 3, 1) := by decide +kernel
theorem d_M_told0_143 : decode b_M_told0 143 = .ok (.iconst 0, 1) := by decide +kernel
theorem d_M_told0_144 : decode b_M_told0 144 = .ok (.istore 4, 2) := by decide +kernel
theorem d_M_told0_146 : decode b_M_told0 146 = .ok (.iload 4, 2) := by decide +kernel
theorem d_M_told0_148 : decode b_M_told0 148 = .ok (.iload_n 1, 1) := by decide +kernel
theorem d_M_told0_149 : decode b_M_told0 149 = .ok (.if_icmp .ge 36, 3) := by decide +kernel
theorem d_M_told0_152 : decode b_M_told0 152 = .ok (.iload_n 3, 1) := by decide +kernel
theorem d_M_told0_153 : decode b_M_told0 153 = .ok (.ifCond .eq 32, 3) := by decide +kernel
theorem d_M_told0_156 : decode b_M_told0 156 = .ok (.aload_n 0, 1) := by decide +kernel
theorem d_M_told0_157 : decode b_M_told0 157 = .ok (.iload_n 2, 1) := by decide +kernel
theorem d_M_told0_158 : decode b_M_told0 158 = .ok (.iload 4, 2) := by decide +kernel
theorem d_M_told0_160 : decode b_M_told0 160 = .ok (.invokevirtual 64, 3) := by decide +kernel
theorem d_M_told0_163 : decode b_M_told0 163 = .ok (.aload_n 0, 1) := by decide +kernel
theorem d_M_told0_164 : decode b_M_told0 164 = .ok (.getfield 7, 3) := by decide +kernel
theorem d_M_told0_167 : decode b_M_told0 167 = .ok (.iload 4, 2) := by decide +kernel
theorem d_M_told0_169 : decode b_M_told0 169 = .ok (.baload, 1) := by decide +kernel
theorem d_M_told0_170 : decode b_M_told0 170 = .ok (.if_icmp .ne 7, 3) := by decide +kernel
theorem d_M_told0_173 : decode b_M_told0 173 = .ok (.iconst 1, 1) := by decide +kernel
theorem d_M_told0_174 : decode b_M_told0 174 = .ok (.goto 4, 3) := by decide +kernel
theorem d_M_told0_177 : decode b_M_told0 177 = .ok (.iconst 0, 1) := by decide +kernel
theorem d_M_told0_178 : decode b_M_told0 178 = .ok (.istore_n 3, 1) := by decide +kernel
theorem d_M_told0_179 : decode b_M_told0 179 = .ok (.iinc 4 1, 3) := by decide +kernel
theorem d_M_told0_182 : decode b_M_told0 182 = .ok (.goto (-36), 3) := by decide +kernel
theorem d_M_told0_185 : decode b_M_told0 185 = .ok (.iload_n 3, 1) := by decide +kernel
theorem d_M_told0_186 : decode b_M_told0 186 = .ok (.ifCond .ne 6, 3) := by decide +kernel
theorem d_M_told0_189 : decode b_M_told0 189 = .ok (.goto 77, 3) := by decide +kernel
theorem d_M_told0_192 : decode b_M_told0 192 = .ok (.aload_n 0, 1) := by decide +kernel
theorem d_M_told0_193 : decode b_M_told0 193 = .ok (.getfield 20, 3) := by decide +kernel
theorem d_M_told0_196 : decode b_M_told0 196 = .ok (.iload_n 2, 1) := by decide +kernel
theorem d_M_told0_197 : decode b_M_told0 197 = .ok (.iaload, 1) := by decide +kernel
theorem d_M_told0_198 : decode b_M_told0 198 = .ok (.istore 4, 2) := by decide +kernel
theorem d_M_told0_200 : decode b_M_told0 200 = .ok (.iconst 0, 1) := by decide +kernel
theorem d_M_told0_201 : decode b_M_told0 201 = .ok (.istore 5, 2) := by decide +kernel
theorem d_M_told0_203 : decode b_M_told0 203 = .ok (.iload 5, 2) := by decide +kernel
theorem d_M_told0_205 : decode b_M_told0 205 = .ok (.aload_n 0, 1) := by decide +kernel
theorem d_M_told0_206 : decode b_M_told0 206 = .ok (.getfield 16, 3) := by decide +kernel
theorem d_M_told0_209 : decode b_M_told0 209 = .ok (.iload 4, 2) := by decide +kernel
theorem d_M_told0_211 : decode b_M_told0 211 = .ok (.iaload, 1) := by decide +kernel
theorem d_M_told0_212 : decode b_M_told0 212 = .ok (.if_icmp .ge 21, 3) := by decide +kernel
theorem d_M_told0_215 : decode b_M_told0 215 = .ok (.aload_n 0, 1) := by decide +kernel
theorem d_M_told0_216 : decode b_M_told0 216 = .ok (.aload_n 0, 1) := by decide +kernel
theorem d_M_told0_217 : decode b_M_told0 217 = .ok (.iload 4, 2) := by decide +kernel
theorem d_M_told0_219 : decode b_M_told0 219 = .ok (.iload 5, 2) := by decide +kernel
theorem d_M_told0_221 : decode b_M_told0 221 = .ok (.invokevirtual 64, 3) := by decide +kernel
theorem d_M_told0_224 : decode b_M_told0 224 = .ok (.invokevirtual 75, 3) := by decide +kernel
theorem d_M_told0_227 : decode b_M_told0 227 = .ok (.iinc 5 1, 3) := by decide +kernel
theorem d_M_told0_230 : decode b_M_told0 230 = .ok (.goto (-27), 3) := by decide +kernel
theorem d_M_told0_233 : decode b_M_told0 233 = .ok (.iload_n 1, 1) := by decide +kernel
theorem d_M_told0_234 : decode b_M_told0 234 = .ok (.iconst 1, 1) := by decide +kernel
theorem d_M_told0_235 : decode b_M_told0 235 = .ok (.iadd, 1) := by decide +kernel
theorem d_M_told0_236 : decode b_M_told0 236 = .ok (.istore 5, 2) := by decide +kernel
theorem d_M_told0_238 : decode b_M_told0 238 = .ok (.iload 5, 2) := by decide +kernel
theorem d_M_told0_240 : decode b_M_told0 240 = .ok (.aload_n 0, 1) := by decide +kernel
theorem d_M_told0_241 : decode b_M_told0 241 = .ok (.getfield 54, 3) := by decide +kernel
theorem d_M_told0_244 : decode b_M_told0 244 = .ok (.if_icmp .ge 20, 3) := by decide +kernel
theorem d_M_told0_247 : decode b_M_told0 247 = .ok (.aload_n 0, 1) := by decide +kernel
theorem d_M_told0_248 : decode b_M_told0 248 = .ok (.aload_n 0, 1) := by decide +kernel
theorem d_M_told0_249 : decode b_M_told0 249 = .ok (.getfield 7, 3) := by decide +kernel
theorem d_M_told0_252 : decode b_M_told0 252 = .ok (.iload 5, 2) := by decide +kernel
theorem d_M_told0_254 : decode b_M_told0 254 = .ok (.baload, 1) := by decide +kernel
theorem d_M_told0_255 : decode b_M_told0 255 = .ok (.invokevirtual 75, 3) := by decide +kernel
theorem d_M_told0_258 : decode b_M_told0 258 = .ok (.iinc 5 1, 3) := by decide +kernel
theorem d_M_told0_261 : decode b_M_told0 261 = .ok (.goto (-23), 3) := by decide +kernel
theorem d_M_told0_264 : decode b_M_told0 264 = .ok (.iconst 1, 1) := by decide +kernel
theorem d_M_told0_265 : decode b_M_told0 265 = .ok (.ireturn, 1) := by decide +kernel
theorem d_M_told0_266 : decode b_M_told0 266 = .ok (.iinc 2 1, 3) := by decide +kernel
theorem d_M_told0_269 : decode b_M_told0 269 = .ok (.goto (-159), 3) := by decide +kernel
theorem d_M_told0_272 : decode b_M_told0 272 = .ok (.iconst 0, 1) := by decide +kernel
theorem d_M_told0_273 : decode b_M_told0 273 = .ok (.ireturn, 1) := by decide +kernel
theorem d_M_expand_0 : decode b_M_expand 0 = .ok (.aload_n 0, 1) := by decide +kernel
theorem d_M_expand_1 : decode b_M_expand 1 = .ok (.aload_n 0, 1) := by decide +kernel
theorem d_M_expand_2 : decode b_M_expand 2 = .ok (.getfield 54, 3) := by decide +kernel
theorem d_M_expand_5 : decode b_M_expand 5 = .ok (.ifCond .ne 7, 3) := by decide +kernel
theorem d_M_expand_8 : decode b_M_expand 8 = .ok (.iconst 1, 1) := by decide +kernel
theorem d_M_expand_9 : decode b_M_expand 9 = .ok (.goto 26, 3) := by decide +kernel
theorem d_M_expand_12 : decode b_M_expand 12 = .ok (.aload_n 0, 1) := by decide +kernel
theorem d_M_expand_13 : decode b_M_expand 13 = .ok (.invokevirtual 86, 3) := by decide +kernel
theorem d_M_expand_16 : decode b_M_expand 16 = .ok (.ifCond .ne 7, 3) := by decide +kernel
theorem d_M_expand_19 : decode b_M_expand 19 = .ok (.iconst 2, 1) := by decide +kernel
theorem d_M_expand_20 : decode b_M_expand 20 = .ok (.goto 15, 3) := by decide +kernel
theorem d_M_expand_23 : decode b_M_expand 23 = .ok (.aload_n 0, 1) := by decide +kernel
theorem d_M_expand_24 : decode b_M_expand 24 = .ok (.invokevirtual 79, 3) := by decide +kernel
theorem d_M_expand_27 : decode b_M_expand 27 = .ok (.ifCond .eq 7, 3) := by decide +kernel
theorem d_M_expand_30 : decode b_M_expand 30 = .ok (.iconst 3, 1) := by decide +kernel
theorem d_M_expand_31 : decode b_M_expand 31 = .ok (.goto 4, 3) := by decide +kernel
theorem d_M_expand_34 : decode b_M_expand 34 = .ok (.iconst 0, 1) := by decide +kernel
theorem d_M_expand_35 : decode b_M_expand 35 = .ok (.invokevirtual 57, 3) := by decide +kernel
theorem d_M_expand_38 : decode b_M_expand 38 = .ok (.ifCond .eq 5, 3) := by decide +kernel
theorem d_M_expand_41 : decode b_M_expand 41 = .ok (.iconst 0, 1) := by decide +kernel
theorem d_M_expand_42 : decode b_M_expand 42 = .ok (.ireturn, 1) := by decide +kernel
theorem d_M_expand_43 : decode b_M_expand 43 = .ok (.aload_n 0, 1) := by decide +kernel
theorem d_M_expand_44 : decode b_M_expand 44 = .ok (.iconst 0, 1) := by decide +kernel
theorem d_M_expand_45 : decode b_M_expand 45 = .ok (.putfield 54, 3) := by decide +kernel
theorem d_M_expand_48 : decode b_M_expand 48 = .ok (.aload_n 0, 1) := by decide +kernel
theorem d_M_expand_49 : decode b_M_expand 49 = .ok (.invokevirtual 83, 3) := by decide +kernel
theorem d_M_expand_52 : decode b_M_expand 52 = .ok (.ireturn, 1) := by decide +kernel
theorem d_M_canBeShort_0 : decode b_M_canBeShort 0 = .ok (.aload_n 0, 1) := by decide +kernel
theorem d_M_canBeShort_1 : decode b_M_canBeShort 1 = .ok (.getfield 16, 3) := by decide +kernel
theorem d_M_canBeShort_4 : decode b_M_canBeShort 4 = .ok (.iload_n 1, 1) := by decide +kernel
theorem d_M_canBeShort_5 : decode b_M_canBeShort 5 = .ok (.iaload, 1) := by decide +kernel
theorem d_M_canBeShort_6 : decode b_M_canBeShort 6 = .ok (.iconst 4, 1) := by decide +kernel
theorem d_M_canBeShort_7 : decode b_M_canBeShort 7 = .ok (.if_icmp .gt 29, 3) := by decide +kernel
theorem d_M_canBeShort_10 : decode b_M_canBeShort 10 = .ok (.aload_n 0, 1) := by decide +kernel
theorem d_M_canBeShort_11 : decode b_M_canBeShort 11 = .ok (.iload_n 1, 1) := by decide +kernel
theorem d_M_canBeShort_12 : decode b_M_canBeShort 12 = .ok (.iconst 0, 1) := by decide +kernel
theorem d_M_canBeShort_13 : decode b_M_canBeShort 13 = .ok (.invokevirtual 64, 3) := by decide +kernel
theorem d_M_canBeShort_16 : decode b_M_canBeShort 16 = .ok (.bipush 97, 2) := by decide +kernel
theorem d_M_canBeShort_18 : decode b_M_canBeShort 18 = .ok (.if_icmp .lt 18, 3) := by decide +kernel
theorem d_M_canBeShort_21 : decode b_M_canBeShort 21 = .ok (.aload_n 0, 1) := by decide +kernel
theorem d_M_canBeShort_22 : decode b_M_canBeShort 22 = .ok (.iload_n 1, 1) := by decide +kernel
theorem d_M_canBeShort_23 : decode b_M_canBeShort 23 = .ok (.iconst 0, 1) := by decide +kernel
theorem d_M_canBeShort_24 : decode b_M_canBeShort 24 = .ok (.invokevirtual 64, 3) := by decide +kernel
theorem d_M_canBeShort_27 : decode b_M_canBeShort 27 = .ok (.bipush 122, 2) := by decide +kernel
theorem d_M_canBeShort_29 : decode b_M_canBeShort 29 = .ok (.if_icmp .gt 7, 3) := by decide +kernel
theorem d_M_canBeShort_32 : decode b_M_canBeShort 32 = .ok (.iconst 1, 1) := by decide +kernel
theorem d_M_canBeShort_33 : decode b_M_canBeShort 33 = .ok (.goto 4, 3) := by decide +kernel
theorem d_M_canBeShort_36 : decode b_M_canBeShort 36 = .ok (.iconst 0, 1) := by decide +kernel
theorem d_M_canBeShort_37 : decode b_M_canBeShort 37 = .ok (.istore_n 2, 1) := by decide +kernel
theorem d_M_canBeShort_38 : decode b_M_canBeShort 38 = .ok (.iconst 1, 1) := by decide +kernel
theorem d_M_canBeShort_39 : decode b_M_canBeShort 39 = .ok (.istore_n 3, 1) := by decide +kernel
theorem d_M_canBeShort_40 : decode b_M_canBeShort 40 = .ok (.iload_n 3, 1) := by decide +kernel
theorem d_M_canBeShort_41 : decode b_M_canBeShort 41 = .ok (.aload_n 0, 1) := by decide +kernel
theorem d_M_canBeShort_42 : decode b_M_canBeShort 42 = .ok (.getfield 16, 3) := by decide +kernel
theorem d_M_canBeShort_45 : decode b_M_canBeShort 45 = .ok (.iload_n 1, 1) := by decide +kernel
theorem d_M_canBeShort_46 : decode b_M_canBeShort 46 = .ok (.iaload, 1) := by decide +kernel
theorem d_M_canBeShort_47 : decode b_M_canBeShort 47 = .ok (.if_icmp .ge 55, 3) := by decide +kernel
theorem d_M_canBeShort_50 : decode b_M_canBeShort 50 = .ok (.iload_n 2, 1) := by decide +kernel
theorem d_M_canBeShort_51 : decode b_M_canBeShort 51 = .ok (.ifCond .eq 51, 3) := by decide +kernel
theorem d_M_canBeShort_54 : decode b_M_canBeShort 54 = .ok (.aload_n 0, 1) := by decide +kernel
theorem d_M_canBeShort_55 : decode b_M_canBeShort 55 = .ok (.iload_n 1, 1) := by decide +kernel
theorem d_M_canBeShort_56 : decode b_M_canBeShort 56 = .ok (.iload_n 3, 1) := by decide +kernel
theorem d_M_canBeShort_57 : decode b_M_canBeShort 57 = .ok (.invokevirtual 64, 3) := by decide +kernel
theorem d_M_canBeShort_60 : decode b_M_canBeShort 60 = .ok (.istore 4, 2) := by decide +kernel
theorem d_M_canBeShort_62 : decode b_M_canBeShort 62 = .ok (.iload 4, 2) := by decide +kernel
theorem d_M_canBeShort_64 : decode b_M_canBeShort 64 = .ok (.bipush 97, 2) := by decide +kernel
theorem d_M_canBeShort_66 : decode b_M_canBeShort 66 = .ok (.if_icmp .lt 10, 3) := by decide +kernel
theorem d_M_canBeShort_69 : decode b_M_canBeShort 69 = .ok (.iload 4, 2) := by decide +kernel
theorem d_M_canBeShort_71 : decode b_M_canBeShort 71 = .ok (.bipush 122, 2) := by decide +kernel
theorem d_M_canBeShort_73 : decode b_M_canBeShort 73 = .ok (.if_icmp .le 17, 3) := by decide +kernel
theorem d_M_canBeShort_76 : decode b_M_canBeShort 76 = .ok (.iload 4, 2) := by decide +kernel
theorem d_M_canBeShort_78 : decode b_M_canBeShort 78 = .ok (.bipush 48, 2) := by decide +kernel
theorem d_M_canBeShort_80 : decode b_M_canBeShort 80 = .ok (.if_icmp .lt 14, 3) := by decide +kernel
theorem d_M_canBeShort_83 : decode b_M_canBeShort 83 = .ok (.iload 4, 2) := by decide +kernel
theorem d_M_canBeShort_85 : decode b_M_canBeShort 85 = .ok (.bipush 57, 2) := by decide +kernel
theorem d_M_canBeShort_87 : decode b_M_canBeShort 87 = .ok (.if_icmp .gt 7, 3) := by decide +kernel
theorem d_M_canBeShort_90 : decode b_M_canBeShort 90 = .ok (.iconst 1, 1) := by decide +kernel
theorem d_M_canBeShort_91 : decode b_M_canBeShort 91 = .ok (.goto 4, 3) := by decide +kernel
theorem d_M_canBeShort_94 : decode b_M_canBeShort 94 = .ok (.iconst 0, 1) := by decide +kernel
theorem d_M_canBeShort_95 : decode b_M_canBeShort 95 = .ok (.istore_n 2, 1) := by decide +kernel
theorem d_M_canBeShort_96 : decode b_M_canBeShort 96 = .ok (.iinc 3 1, 3) := by decide +kernel
theorem d_M_canBeShort_99 : decode b_M_canBeShort 99 = .ok (.goto (-59), 3) := by decide +kernel
theorem d_M_canBeShort_102 : decode b_M_canBeShort 102 = .ok (.iload_n 2, 1) := by decide +kernel
theorem d_M_canBeShort_103 : decode b_M_canBeShort 103 = .ok (.ireturn, 1) := by decide +kernel
theorem d_M_prefix_0 : decode b_M_prefix 0 = .ok (.aload_n 0, 1) := by decide +kernel
theorem d_M_prefix_1 : decode b_M_prefix 1 = .ok (.aload_n 0, 1) := by decide +kernel
theorem d_M_prefix_2 : decode b_M_prefix 2 = .ok (.iload_n 1, 1) := by decide +kernel
theorem d_M_prefix_3 : decode b_M_prefix 3 = .ok (.invokevirtual 89, 3) := by decide +kernel
theorem d_M_prefix_6 : decode b_M_prefix 6 = .ok (.ifCond .ne 11, 3) := by decide +kernel
theorem d_M_prefix_9 : decode b_M_prefix 9 = .ok (.aload_n 0, 1) := by decide +kernel
theorem d_M_prefix_10 : decode b_M_prefix 10 = .ok (.iload_n 2, 1) := by decide +kernel
theorem d_M_prefix_11 : decode b_M_prefix 11 = .ok (.invokevirtual 89, 3) := by decide +kernel
theorem d_M_prefix_14 : decode b_M_prefix 14 = .ok (.ifCond .eq 7, 3) := by decide +kernel
theorem d_M_prefix_17 : decode b_M_prefix 17 = .ok (.iconst 1, 1) := by decide +kernel
theorem d_M_prefix_18 : decode b_M_prefix 18 = .ok (.goto 21, 3) := by decide +kernel
theorem d_M_prefix_21 : decode b_M_prefix 21 = .ok (.iload_n 1, 1) := by decide +kernel
theorem d_M_prefix_22 : decode b_M_prefix 22 = .ok (.iload_n 2, 1) := by decide +kernel
theorem d_M_prefix_23 : decode b_M_prefix 23 = .ok (.if_icmp .eq 11, 3) := by decide +kernel
theorem d_M_prefix_26 : decode b_M_prefix 26 = .ok (.aload_n 0, 1) := by decide +kernel
theorem d_M_prefix_27 : decode b_M_prefix 27 = .ok (.iload_n 2, 1) := by decide +kernel
theorem d_M_prefix_28 : decode b_M_prefix 28 = .ok (.invokevirtual 92, 3) := by decide +kernel
theorem d_M_prefix_31 : decode b_M_prefix 31 = .ok (.ifCond .ne 7, 3) := by decide +kernel
theorem d_M_prefix_34 : decode b_M_prefix 34 = .ok (.iconst 2, 1) := by decide +kernel
theorem d_M_prefix_35 : decode b_M_prefix 35 = .ok (.goto 4, 3) := by decide +kernel
theorem d_M_prefix_38 : decode b_M_prefix 38 = .ok (.iconst 0, 1) := by decide +kernel
theorem d_M_prefix_39 : decode b_M_prefix 39 = .ok (.invokevirtual 57, 3) := by decide +kernel
theorem d_M_prefix_42 : decode b_M_prefix 42 = .ok (.ifCond .eq 5, 3) := by decide +kernel
theorem d_M_prefix_45 : decode b_M_prefix 45 = .ok (.iconst 0, 1) := by decide +kernel
theorem d_M_prefix_46 : decode b_M_prefix 46 = .ok (.ireturn, 1) := by decide +kernel
theorem d_M_prefix_47 : decode b_M_prefix 47 = .ok (.aload_n 0, 1) := by decide +kernel
theorem d_M_prefix_48 : decode b_M_prefix 48 = .ok (.getfield 20, 3) := by decide +kernel
theorem d_M_prefix_51 : decode b_M_prefix 51 = .ok (.iload_n 2, 1) := by decide +kernel
theorem d_M_prefix_52 : decode b_M_prefix 52 = .ok (.iaload, 1) := by decide +kernel
theorem d_M_prefix_53 : decode b_M_prefix 53 = .ok (.ifCond .lt 27, 3) := by decide +kernel
theorem d_M_prefix_56 : decode b_M_prefix 56 = .ok (.aload_n 0, 1) := by decide +kernel
theorem d_M_prefix_57 : decode b_M_prefix 57 = .ok (.getfield 20, 3) := by decide +kernel
theorem d_M_prefix_60 : decode b_M_prefix 60 = .ok (.iload_n 2, 1) := by decide +kernel
theorem d_M_prefix_61 : decode b_M_prefix 61 = .ok (.iaload, 1) := by decide +kernel
theorem d_M_prefix_62 : decode b_M_prefix 62 = .ok (.iload_n 1, 1) := by decide +kernel
theorem d_M_prefix_63 : decode b_M_prefix 63 = .ok (.if_icmp .eq 17, 3) := by decide +kernel
theorem d_M_prefix_66 : decode b_M_prefix 66 = .ok (.aload_n 0, 1) := by decide +kernel
theorem d_M_prefix_67 : decode b_M_prefix 67 = .ok (.iconst 1, 1) := by decide +kernel
theorem d_M_prefix_68 : decode b_M_prefix 68 = .ok (.aload_n 0, 1) := by decide +kernel
theorem d_M_prefix_69 : decode b_M_prefix 69 = .ok (.getfield 20, 3) := by decide +kernel
theorem d_M_prefix_72 : decode b_M_prefix 72 = .ok (.iload_n 2, 1) := by decide +kernel
theorem d_M_prefix_73 : decode b_M_prefix 73 = .ok (.iaload, 1) := by decide +kernel
theorem d_M_prefix_74 : decode b_M_prefix 74 = .ok (.iload_n 1, 1) := by decide +kernel
theorem d_M_prefix_75 : decode b_M_prefix 75 = .ok (.invokevirtual 95, 3) := by decide +kernel
theorem d_M_prefix_78 : decode b_M_prefix 78 = .ok (.iconst 0, 1) := by decide +kernel
theorem d_M_prefix_79 : decode b_M_prefix 79 = .ok (.ireturn, 1) := by decide +kernel
theorem d_M_prefix_80 : decode b_M_prefix 80 = .ok (.aload_n 0, 1) := by decide +kernel
theorem d_M_prefix_81 : decode b_M_prefix 81 = .ok (.getfield 20, 3) := by decide +kernel
theorem d_M_prefix_84 : decode b_M_prefix 84 = .ok (.iload_n 2, 1) := by decide +kernel
theorem d_M_prefix_85 : decode b_M_prefix 85 = .ok (.iload_n 1, 1) := by decide +kernel
theorem d_M_prefix_86 : decode b_M_prefix 86 = .ok (.iastore, 1) := by decide +kernel
theorem d_M_prefix_87 : decode b_M_prefix 87 = .ok (.iconst 1, 1) := by decide +kernel
theorem d_M_prefix_88 : decode b_M_prefix 88 = .ok (.ireturn, 1) := by decide +kernel
theorem d_M_isSpace_0 : decode b_M_isSpace 0 = .ok (.iconst 0, 1) := by decide +kernel
theorem d_M_isSpace_1 : decode b_M_isSpace 1 = .ok (.istore_n 2, 1) := by decide +kernel
theorem d_M_isSpace_2 : decode b_M_isSpace 2 = .ok (.iload_n 2, 1) := by decide +kernel
theorem d_M_isSpace_3 : decode b_M_isSpace 3 = .ok (.aload_n 0, 1) := by decide +kernel
theorem d_M_isSpace_4 : decode b_M_isSpace 4 = .ok (.getfield 51, 3) := by decide +kernel
theorem d_M_isSpace_7 : decode b_M_isSpace 7 = .ok (.if_icmp .ge 21, 3) := by decide +kernel
theorem d_M_isSpace_10 : decode b_M_isSpace 10 = .ok (.aload_n 0, 1) := by decide +kernel
theorem d_M_isSpace_11 : decode b_M_isSpace 11 = .ok (.getfield 20, 3) := by decide +kernel
theorem d_M_isSpace_14 : decode b_M_isSpace 14 = .ok (.iload_n 2, 1) := by decide +kernel
theorem d_M_isSpace_15 : decode b_M_isSpace 15 = .ok (.iaload, 1) := by decide +kernel
theorem d_M_isSpace_16 : decode b_M_isSpace 16 = .ok (.iload_n 1, 1) := by decide +kernel
theorem d_M_isSpace_17 : decode b_M_isSpace 17 = .ok (.if_icmp .ne 5, 3) := by decide +kernel
theorem d_M_isSpace_20 : decode b_M_isSpace 20 = .ok (.iconst 1, 1) := by decide +kernel
theorem d_M_isSpace_21 : decode b_M_isSpace 21 = .ok (.ireturn, 1) := by decide +kernel
theorem d_M_isSpace_22 : decode b_M_isSpace 22 = .ok (.iinc 2 1, 3) := by decide +kernel
theorem d_M_isSpace_25 : decode b_M_isSpace 25 = .ok (.goto (-23), 3) := by decide +kernel
theorem d_M_isSpace_28 : decode b_M_isSpace 28 = .ok (.iconst 0, 1) := by decide +kernel
theorem d_M_isSpace_29 : decode b_M_isSpace 29 = .ok (.ireturn, 1) := by decide +kernel
theorem d_M_goesOn_0 : decode b_M_goesOn 0 = .ok (.aload_n 0, 1) := by decide +kernel
theorem d_M_goesOn_1 : decode b_M_goesOn 1 = .ok (.getfield 16, 3) := by decide +kernel
theorem d_M_goesOn_4 : decode b_M_goesOn 4 = .ok (.iload_n 1, 1) := by decide +kernel
theorem d_M_goesOn_5 : decode b_M_goesOn 5 = .ok (.iaload, 1) := by decide +kernel
theorem d_M_goesOn_6 : decode b_M_goesOn 6 = .ok (.aload_n 0, 1) := by decide +kernel
theorem d_M_goesOn_7 : decode b_M_goesOn 7 = .ok (.getfield 16, 3) := by decide +kernel
theorem d_M_goesOn_10 : decode b_M_goesOn 10 = .ok (.iload_n 2, 1) := by decide +kernel
theorem d_M_goesOn_11 : decode b_M_goesOn 11 = .ok (.iaload, 1) := by decide +kernel
theorem d_M_goesOn_12 : decode b_M_goesOn 12 = .ok (.if_icmp .le 7, 3) := by decide +kernel
theorem d_M_goesOn_15 : decode b_M_goesOn 15 = .ok (.iconst 1, 1) := by decide +kernel
theorem d_M_goesOn_16 : decode b_M_goesOn 16 = .ok (.goto 4, 3) := by decide +kernel
theorem d_M_goesOn_19 : decode b_M_goesOn 19 = .ok (.iconst 0, 1) := by decide +kernel
theorem d_M_goesOn_20 : decode b_M_goesOn 20 = .ok (.istore_n 3, 1) := by decide +kernel
theorem d_M_goesOn_21 : decode b_M_goesOn 21 = .ok (.iconst 0, 1) := by decide +kernel
theorem d_M_goesOn_22 : decode b_M_goesOn 22 = .ok (.istore 4, 2) := by decide +kernel
theorem d_M_goesOn_24 : decode b_M_goesOn 24 = .ok (.iload 4, 2) := by decide +kernel
theorem d_M_goesOn_26 : decode b_M_goesOn 26 = .ok (.aload_n 0, 1) := by decide +kernel
theorem d_M_goesOn_27 : decode b_M_goesOn 27 = .ok (.getfield 16, 3) := by decide +kernel
theorem d_M_goesOn_30 : decode b_M_goesOn 30 = .ok (.iload_n 2, 1) := by decide +kernel
theorem d_M_goesOn_31 : decode b_M_goesOn 31 = .ok (.iaload, 1) := by decide +kernel
theorem d_M_goesOn_32 : decode b_M_goesOn 32 = .ok (.if_icmp .ge 36, 3) := by decide +kernel
theorem d_M_goesOn_35 : decode b_M_goesOn 35 = .ok (.iload_n 3, 1) := by decide +kernel
theorem d_M_goesOn_36 : decode b_M_goesOn 36 = .ok (.ifCond .eq 32, 3) := by decide +kernel
theorem d_M_goesOn_39 : decode b_M_goesOn 39 = .ok (.aload_n 0, 1) := by decide +kernel
theorem d_M_goesOn_40 : decode b_M_goesOn 40 = .ok (.iload_n 1, 1) := by decide +kernel
theorem d_M_goesOn_41 : decode b_M_goesOn 41 = .ok (.iload 4, 2) := by decide +kernel
theorem d_M_goesOn_43 : decode b_M_goesOn 43 = .ok (.invokevirtual 64, 3) := by decide +kernel
theorem d_M_goesOn_46 : decode b_M_goesOn 46 = .ok (.aload_n 0, 1) := by decide +kernel
theorem d_M_goesOn_47 : decode b_M_goesOn 47 = .ok (.iload_n 2, 1) := by decide +kernel
theorem d_M_goesOn_48 : decode b_M_goesOn 48 = .ok (.iload 4, 2) := by decide +kernel
theorem d_M_goesOn_50 : decode b_M_goesOn 50 = .ok (.invokevirtual 64, 3) := by decide +kernel
theorem d_M_goesOn_53 : decode b_M_goesOn 53 = .ok (.if_icmp .ne 7, 3) := by decide +kernel
theorem d_M_goesOn_56 : decode b_M_goesOn 56 = .ok (.iconst 1, 1) := by decide +kernel
theorem d_M_goesOn_57 : decode b_M_goesOn 57 = .ok (.goto 4, 3) := by decide +kernel
theorem d_M_goesOn_60 : decode b_M_goesOn 60 = .ok (.iconst 0, 1) := by decide +kernel
theorem d_M_goesOn_61 : decode b_M_goesOn 61 = .ok (.istore_n 3, 1) := by decide +kernel
theorem d_M_goesOn_62 : decode b_M_goesOn 62 = .ok (.iinc 4 1, 3) := by decide +kernel
theorem d_M_goesOn_65 : decode b_M_goesOn 65 = .ok (.goto (-41), 3) := by decide +kernel
theorem d_M_goesOn_68 : decode b_M_goesOn 68 = .ok (.iload_n 3, 1) := by decide +kernel
theorem d_M_goesOn_69 : decode b_M_goesOn 69 = .ok (.ireturn, 1) := by decide +kernel
theorem d_M_spaceOf_0 : decode b_M_spaceOf 0 = .ok (.iconst (-1), 1) := by decide +kernel
theorem d_M_spaceOf_1 : decode b_M_spaceOf 1 = .ok (.istore_n 2, 1) := by decide +kernel
theorem d_M_spaceOf_2 : decode b_M_spaceOf 2 = .ok (.iconst 0, 1) := by decide +kernel
theorem d_M_spaceOf_3 : decode b_M_spaceOf 3 = .ok (.istore_n 3, 1) := by decide +kernel
theorem d_M_spaceOf_4 : decode b_M_spaceOf 4 = .ok (.iload_n 3, 1) := by decide +kernel
theorem d_M_spaceOf_5 : decode b_M_spaceOf 5 = .ok (.aload_n 0, 1) := by decide +kernel
theorem d_M_spaceOf_6 : decode b_M_spaceOf 6 = .ok (.getfield 51, 3) := by decide +kernel
theorem d_M_spaceOf_9 : decode b_M_spaceOf 9 = .ok (.if_icmp .ge 47, 3) := by decide +kernel
theorem d_M_spaceOf_12 : decode b_M_spaceOf 12 = .ok (.aload_n 0, 1) := by decide +kernel
theorem d_M_spaceOf_13 : decode b_M_spaceOf 13 = .ok (.iload_n 1, 1) := by decide +kernel
theorem d_M_spaceOf_14 : decode b_M_spaceOf 14 = .ok (.iload_n 3, 1) := by decide +kernel
theorem d_M_spaceOf_15 : decode b_M_spaceOf 15 = .ok (.invokevirtual 99, 3) := by decide +kernel
theorem d_M_spaceOf_18 : decode b_M_spaceOf 18 = .ok (.ifCond .eq 32, 3) := by decide +kernel
theorem d_M_spaceOf_21 : decode b_M_spaceOf 21 = .ok (.aload_n 0, 1) := by decide +kernel
theorem d_M_spaceOf_22 : decode b_M_spaceOf 22 = .ok (.iload_n 3, 1) := by decide +kernel
theorem d_M_spaceOf_23 : decode b_M_spaceOf 23 = .ok (.invokevirtual 103, 3) := by decide +kernel
theorem d_M_spaceOf_26 : decode b_M_spaceOf 26 = .ok (.ifCond .eq 24, 3) := by decide +kernel
theorem d_M_spaceOf_29 : decode b_M_spaceOf 29 = .ok (.iload_n 2, 1) := by decide +kernel
theorem d_M_spaceOf_30 : decode b_M_spaceOf 30 = .ok (.ifCond .lt 18, 3) := by decide +kernel
theorem d_M_spaceOf_33 : decode b_M_spaceOf 33 = .ok (.aload_n 0, 1) := by decide +kernel
theorem d_M_spaceOf_34 : decode b_M_spaceOf 34 = .ok (.getfield 16, 3) := by decide +kernel
theorem d_M_spaceOf_37 : decode b_M_spaceOf 37 = .ok (.iload_n 3, 1) := by decide +kernel
theorem d_M_spaceOf_38 : decode b_M_spaceOf 38 = .ok (.iaload, 1) := by decide +kernel
theorem d_M_spaceOf_39 : decode b_M_spaceOf 39 = .ok (.aload_n 0, 1) := by decide +kernel
theorem d_M_spaceOf_40 : decode b_M_spaceOf 40 = .ok (.getfield 16, 3) := by decide +kernel
theorem d_M_spaceOf_43 : decode b_M_spaceOf 43 = .ok (.iload_n 2, 1) := by decide +kernel
theorem d_M_spaceOf_44 : decode b_M_spaceOf 44 = .ok (.iaload, 1) := by decide +kernel
theorem d_M_spaceOf_45 : decode b_M_spaceOf 45 = .ok (.if_icmp .le 5, 3) := by decide +kernel
theorem d_M_spaceOf_48 : decode b_M_spaceOf 48 = .ok (.iload_n 3, 1) := by decide +kernel
theorem d_M_spaceOf_49 : decode b_M_spaceOf 49 = .ok (.istore_n 2, 1) := by decide +kernel
theorem d_M_spaceOf_50 : decode b_M_spaceOf 50 = .ok (.iinc 3 1, 3) := by decide +kernel
theorem d_M_spaceOf_53 : decode b_M_spaceOf 53 = .ok (.goto (-49), 3) := by decide +kernel
theorem d_M_spaceOf_56 : decode b_M_spaceOf 56 = .ok (.iload_n 2, 1) := by decide +kernel
theorem d_M_spaceOf_57 : decode b_M_spaceOf 57 = .ok (.ireturn, 1) := by decide +kernel
theorem d_M_space_0 : decode b_M_space 0 = .ok (.aload_n 0, 1) := by decide +kernel
theorem d_M_space_1 : decode b_M_space 1 = .ok (.aload_n 0, 1) := by decide +kernel
theorem d_M_space_2 : decode b_M_space 2 = .ok (.iload_n 1, 1) := by decide +kernel
theorem d_M_space_3 : decode b_M_space 3 = .ok (.invokevirtual 89, 3) := by decide +kernel
theorem d_M_space_6 : decode b_M_space 6 = .ok (.ifCond .eq 7, 3) := by decide +kernel
theorem d_M_space_9 : decode b_M_space 9 = .ok (.iconst 1, 1) := by decide +kernel
theorem d_M_space_10 : decode b_M_space 10 = .ok (.goto 4, 3) := by decide +kernel
theorem d_M_space_13 : decode b_M_space 13 = .ok (.iconst 0, 1) := by decide +kernel
theorem d_M_space_14 : decode b_M_space 14 = .ok (.invokevirtual 57, 3) := by decide +kernel
theorem d_M_space_17 : decode b_M_space 17 = .ok (.ifCond .eq 7, 3) := by decide +kernel
theorem d_M_space_20 : decode b_M_space 20 = .ok (.iconst 0, 1) := by decide +kernel
theorem d_M_space_21 : decode b_M_space 21 = .ok (.goto 8, 3) := by decide +kernel
theorem d_M_space_24 : decode b_M_space 24 = .ok (.aload_n 0, 1) := by decide +kernel
theorem d_M_space_25 : decode b_M_space 25 = .ok (.iload_n 1, 1) := by decide +kernel
theorem d_M_space_26 : decode b_M_space 26 = .ok (.invokevirtual 106, 3) := by decide +kernel
theorem d_M_space_29 : decode b_M_space 29 = .ok (.ireturn, 1) := by decide +kernel
theorem d_M_isBefore_0 : decode b_M_isBefore 0 = .ok (.iconst 0, 1) := by decide +kernel
theorem d_M_isBefore_1 : decode b_M_isBefore 1 = .ok (.istore_n 3, 1) := by decide +kernel
theorem d_M_isBefore_2 : decode b_M_isBefore 2 = .ok (.iload_n 3, 1) := by decide +kernel
theorem d_M_isBefore_3 : decode b_M_isBefore 3 = .ok (.aload_n 0, 1) := by decide +kernel
theorem d_M_isBefore_4 : decode b_M_isBefore 4 = .ok (.getfield 16, 3) := by decide +kernel
theorem d_M_isBefore_7 : decode b_M_isBefore 7 = .ok (.iload_n 1, 1) := by decide +kernel
theorem d_M_isBefore_8 : decode b_M_isBefore 8 = .ok (.iaload, 1) := by decide +kernel
theorem d_M_isBefore_9 : decode b_M_isBefore 9 = .ok (.if_icmp .ge 34, 3) := by decide +kernel
theorem d_M_isBefore_12 : decode b_M_isBefore 12 = .ok (.iload_n 3, 1) := by decide +kernel
theorem d_M_isBefore_13 : decode b_M_isBefore 13 = .ok (.aload_n 0, 1) := by decide +kernel
theorem d_M_isBefore_14 : decode b_M_isBefore 14 = .ok (.getfield 16, 3) := by decide +kernel
theorem d_M_isBefore_17 : decode b_M_isBefore 17 = .ok (.iload_n 2, 1) := by decide +kernel
theorem d_M_isBefore_18 : decode b_M_isBefore 18 = .ok (.iaload, 1) := by decide +kernel
theorem d_M_isBefore_19 : decode b_M_isBefore 19 = .ok (.if_icmp .ge 24, 3) := by decide +kernel
theorem d_M_isBefore_22 : decode b_M_isBefore 22 = .ok (.aload_n 0, 1) := by decide +kernel
theorem d_M_isBefore_23 : decode b_M_isBefore 23 = .ok (.iload_n 1, 1) := by decide +kernel
theorem d_M_isBefore_24 : decode b_M_isBefore 24 = .ok (.iload_n 3, 1) := by decide +kernel
theorem d_M_isBefore_25 : decode b_M_isBefore 25 = .ok (.invokevirtual 64, 3) := by decide +kernel
theorem d_M_isBefore_28 : decode b_M_isBefore 28 = .ok (.aload_n 0, 1) := by decide +kernel
theorem d_M_isBefore_29 : decode b_M_isBefore 29 = .ok (.iload_n 2, 1) := by decide +kernel
theorem d_M_isBefore_30 : decode b_M_isBefore 30 = .ok (.iload_n 3, 1) := by decide +kernel
theorem d_M_isBefore_31 : decode b_M_isBefore 31 = .ok (.invokevirtual 64, 3) := by decide +kernel
theorem d_M_isBefore_34 : decode b_M_isBefore 34 = .ok (.if_icmp .ne 9, 3) := by decide +kernel
theorem d_M_isBefore_37 : decode b_M_isBefore 37 = .ok (.iinc 3 1, 3) := by decide +kernel
theorem d_M_isBefore_40 : decode b_M_isBefore 40 = .ok (.goto (-38), 3) := by decide +kernel
theorem d_M_isBefore_43 : decode b_M_isBefore 43 = .ok (.iload_n 3, 1) := by decide +kernel
theorem d_M_isBefore_44 : decode b_M_isBefore 44 = .ok (.aload_n 0, 1) := by decide +kernel
theorem d_M_isBefore_45 : decode b_M_isBefore 45 = .ok (.getfield 16, 3) := by decide +kernel
theorem d_M_isBefore_48 : decode b_M_isBefore 48 = .ok (.iload_n 1, 1) := by decide +kernel
theorem d_M_isBefore_49 : decode b_M_isBefore 49 = .ok (.iaload, 1) := by decide +kernel
theorem d_M_isBefore_50 : decode b_M_isBefore 50 = .ok (.if_icmp .ne 21, 3) := by decide +kernel
theorem d_M_isBefore_53 : decode b_M_isBefore 53 = .ok (.aload_n 0, 1) := by decide +kernel
theorem d_M_isBefore_54 : decode b_M_isBefore 54 = .ok (.getfield 16, 3) := by decide +kernel
theorem d_M_isBefore_57 : decode b_M_isBefore 57 = .ok (.iload_n 2, 1) := by decide +kernel
theorem d_M_isBefore_58 : decode b_M_isBefore 58 = .ok (.iaload, 1) := by decide +kernel
theorem d_M_isBefore_59 : decode b_M_isBefore 59 = .ok (.iload_n 3, 1) := by decide +kernel
theorem d_M_isBefore_60 : decode b_M_isBefore 60 = .ok (.if_icmp .le 7, 3) := by decide +kernel
theorem d_M_isBefore_63 : decode b_M_isBefore 63 = .ok (.iconst 1, 1) := by decide +kernel
theorem d_M_isBefore_64 : decode b_M_isBefore 64 = .ok (.goto 37, 3) := by decide +kernel
theorem d_M_isBefore_67 : decode b_M_isBefore 67 = .ok (.iconst 0, 1) := by decide +kernel
theorem d_M_isBefore_68 : decode b_M_isBefore 68 = .ok (.goto 33, 3) := by decide +kernel
theorem d_M_isBefore_71 : decode b_M_isBefore 71 = .ok (.iload_n 3, 1) := by decide +kernel
theorem d_M_isBefore_72 : decode b_M_isBefore 72 = .ok (.aload_n 0, 1) := by decide +kernel
theorem d_M_isBefore_73 : decode b_M_isBefore 73 = .ok (.getfield 16, 3) := by decide +kernel
theorem d_M_isBefore_76 : decode b_M_isBefore 76 = .ok (.iload_n 2, 1) := by decide +kernel
theorem d_M_isBefore_77 : decode b_M_isBefore 77 = .ok (.iaload, 1) := by decide +kernel
theorem d_M_isBefore_78 : decode b_M_isBefore 78 = .ok (.if_icmp .ge 22, 3) := by decide +kernel
theorem d_M_isBefore_81 : decode b_M_isBefore 81 = .ok (.aload_n 0, 1) := by decide +kernel
theorem d_M_isBefore_82 : decode b_M_isBefore 82 = .ok (.iload_n 1, 1) := by decide +kernel
theorem d_M_isBefore_83 : decode b_M_isBefore 83 = .ok (.iload_n 3, 1) := by decide +kernel
theorem d_M_isBefore_84 : decode b_M_isBefore 84 = .ok (.invokevirtual 64, 3) := by decide +kernel
theorem d_M_isBefore_87 : decode b_M_isBefore 87 = .ok (.aload_n 0, 1) := by decide +kernel
theorem d_M_isBefore_88 : decode b_M_isBefore 88 = .ok (.iload_n 2, 1) := by decide +kernel
theorem d_M_isBefore_89 : decode b_M_isBefore 89 = .ok (.iload_n 3, 1) := by decide +kernel
theorem d_M_isBefore_90 : decode b_M_isBefore 90 = .ok (.invokevirtual 64, 3) := by decide +kernel
theorem d_M_isBefore_93 : decode b_M_isBefore 93 = .ok (.if_icmp .ge 7, 3) := by decide +kernel
theorem d_M_isBefore_96 : decode b_M_isBefore 96 = .ok (.iconst 1, 1) := by decide +kernel
theorem d_M_isBefore_97 : decode b_M_isBefore 97 = .ok (.goto 4, 3) := by decide +kernel
theorem d_M_isBefore_100 : decode b_M_isBefore 100 = .ok (.iconst 0, 1) := by decide +kernel
theorem d_M_isBefore_101 : decode b_M_isBefore 101 = .ok (.ireturn, 1) := by decide +kernel
theorem d_M_bestOf_0 : decode b_M_bestOf 0 = .ok (.iconst (-1), 1) := by decide +kernel
theorem d_M_bestOf_1 : decode b_M_bestOf 1 = .ok (.istore_n 2, 1) := by decide +kernel
theorem d_M_bestOf_2 : decode b_M_bestOf 2 = .ok (.iconst 0, 1) := by decide +kernel
theorem d_M_bestOf_3 : decode b_M_bestOf 3 = .ok (.istore_n 3, 1) := by decide +kernel
theorem d_M_bestOf_4 : decode b_M_bestOf 4 = .ok (.iload_n 3, 1) := by decide +kernel
theorem d_M_bestOf_5 : decode b_M_bestOf 5 = .ok (.aload_n 0, 1) := by decide +kernel
theorem d_M_bestOf_6 : decode b_M_bestOf 6 = .ok (.getfield 51, 3) := by decide +kernel
theorem d_M_bestOf_9 : decode b_M_bestOf 9 = .ok (.if_icmp .ge 71, 3) := by decide +kernel
theorem d_M_bestOf_12 : decode b_M_bestOf 12 = .ok (.iload_n 1, 1) := by decide +kernel
theorem d_M_bestOf_13 : decode b_M_bestOf 13 = .ok (.ifCond .lt 61, 3) := by decide +kernel
theorem d_M_bestOf_16 : decode b_M_bestOf 16 = .ok (.aload_n 0, 1) := by decide +kernel
theorem d_M_bestOf_17 : decode b_M_bestOf 17 = .ok (.getfield 20, 3) := by decide +kernel
theorem d_M_bestOf_20 : decode b_M_bestOf 20 = .ok (.iload_n 3, 1) := by decide +kernel
theorem d_M_bestOf_21 : decode b_M_bestOf 21 = .ok (.iaload, 1) := by decide +kernel
theorem d_M_bestOf_22 : decode b_M_bestOf 22 = .ok (.iload_n 1, 1) := by decide +kernel
theorem d_M_bestOf_23 : decode b_M_bestOf 23 = .ok (.if_icmp .eq 6, 3) := by decide +kernel
theorem d_M_bestOf_26 : decode b_M_bestOf 26 = .ok (.goto 48, 3) := by decide +kernel
theorem d_M_bestOf_29 : decode b_M_bestOf 29 = .ok (.iload_n 2, 1) := by decide +kernel
theorem d_M_bestOf_30 : decode b_M_bestOf 30 = .ok (.ifCond .lt 42, 3) := by decide +kernel
theorem d_M_bestOf_33 : decode b_M_bestOf 33 = .ok (.aload_n 0, 1) := by decide +kernel
theorem d_M_bestOf_34 : decode b_M_bestOf 34 = .ok (.getfield 16, 3) := by decide +kernel
theorem d_M_bestOf_37 : decode b_M_bestOf 37 = .ok (.iload_n 3, 1) := by decide +kernel
theorem d_M_bestOf_38 : decode b_M_bestOf 38 = .ok (.iaload, 1) := by decide +kernel
theorem d_M_bestOf_39 : decode b_M_bestOf 39 = .ok (.aload_n 0, 1) := by decide +kernel
theorem d_M_bestOf_40 : decode b_M_bestOf 40 = .ok (.getfield 16, 3) := by decide +kernel
theorem d_M_bestOf_43 : decode b_M_bestOf 43 = .ok (.iload_n 2, 1) := by decide +kernel
theorem d_M_bestOf_44 : decode b_M_bestOf 44 = .ok (.iaload, 1) := by decide +kernel
theorem d_M_bestOf_45 : decode b_M_bestOf 45 = .ok (.if_icmp .lt 27, 3) := by decide +kernel
theorem d_M_bestOf_48 : decode b_M_bestOf 48 = .ok (.aload_n 0, 1) := by decide +kernel
theorem d_M_bestOf_49 : decode b_M_bestOf 49 = .ok (.getfield 16, 3) := by decide +kernel
theorem d_M_bestOf_52 : decode b_M_bestOf 52 = .ok (.iload_n 3, 1) := by decide +kernel
theorem d_M_bestOf_53 : decode b_M_bestOf 53 = .ok (.iaload, 1) := by decide +kernel
theorem d_M_bestOf_54 : decode b_M_bestOf 54 = .ok (.aload_n 0, 1) := by decide +kernel
theorem d_M_bestOf_55 : decode b_M_bestOf 55 = .ok (.getfield 16, 3) := by decide +kernel
theorem d_M_bestOf_58 : decode b_M_bestOf 58 = .ok (.iload_n 2, 1) := by decide +kernel
theorem d_M_bestOf_59 : decode b_M_bestOf 59 = .ok (.iaload, 1) := by decide +kernel
theorem d_M_bestOf_60 : decode b_M_bestOf 60 = .ok (.if_icmp .ne 14, 3) := by decide +kernel
theorem d_M_bestOf_63 : decode b_M_bestOf 63 = .ok (.aload_n 0, 1) := by decide +kernel
theorem d_M_bestOf_64 : decode b_M_bestOf 64 = .ok (.iload_n 3, 1) := by decide +kernel
theorem d_M_bestOf_65 : decode b_M_bestOf 65 = .ok (.iload_n 2, 1) := by decide +kernel
theorem d_M_bestOf_66 : decode b_M_bestOf 66 = .ok (.invokevirtual 110, 3) := by decide +kernel
theorem d_M_bestOf_69 : decode b_M_bestOf 69 = .ok (.ifCond .eq 5, 3) := by decide +kernel
theorem d_M_bestOf_72 : decode b_M_bestOf 72 = .ok (.iload_n 3, 1) := by decide +kernel
theorem d_M_bestOf_73 : decode b_M_bestOf 73 = .ok (.istore_n 2, 1) := by decide +kernel
theorem d_M_bestOf_74 : decode b_M_bestOf 74 = .ok (.iinc 3 1, 3) := by decide +kernel
theorem d_M_bestOf_77 : decode b_M_bestOf 77 = .ok (.goto (-73), 3) := by decide +kernel
theorem d_M_bestOf_80 : decode b_M_bestOf 80 = .ok (.iload_n 2, 1) := by decide +kernel
theorem d_M_bestOf_81 : decode b_M_bestOf 81 = .ok (.ireturn, 1) := by decide +kernel
theorem d_M_best_0 : decode b_M_best 0 = .ok (.aload_n 0, 1) := by decide +kernel
theorem d_M_best_1 : decode b_M_best 1 = .ok (.aload_n 0, 1) := by decide +kernel
theorem d_M_best_2 : decode b_M_best 2 = .ok (.iload_n 1, 1) := by decide +kernel
theorem d_M_best_3 : decode b_M_best 3 = .ok (.invokevirtual 89, 3) := by decide +kernel
theorem d_M_best_6 : decode b_M_best 6 = .ok (.ifCond .eq 7, 3) := by decide +kernel
theorem d_M_best_9 : decode b_M_best 9 = .ok (.iconst 1, 1) := by decide +kernel
theorem d_M_best_10 : decode b_M_best 10 = .ok (.goto 4, 3) := by decide +kernel
theorem d_M_best_13 : decode b_M_best 13 = .ok (.iconst 0, 1) := by decide +kernel
theorem d_M_best_14 : decode b_M_best 14 = .ok (.invokevirtual 57, 3) := by decide +kernel
theorem d_M_best_17 : decode b_M_best 17 = .ok (.ifCond .eq 7, 3) := by decide +kernel
theorem d_M_best_20 : decode b_M_best 20 = .ok (.iconst 0, 1) := by decide +kernel
theorem d_M_best_21 : decode b_M_best 21 = .ok (.goto 12, 3) := by decide +kernel
theorem d_M_best_24 : decode b_M_best 24 = .ok (.aload_n 0, 1) := by decide +kernel
theorem d_M_best_25 : decode b_M_best 25 = .ok (.aload_n 0, 1) := by decide +kernel
theorem d_M_best_26 : decode b_M_best 26 = .ok (.iload_n 1, 1) := by decide +kernel
theorem d_M_best_27 : decode b_M_best 27 = .ok (.invokevirtual 106, 3) := by decide +kernel
theorem d_M_best_30 : decode b_M_best 30 = .ok (.invokevirtual 113, 3) := by decide +kernel
theorem d_M_best_33 : decode b_M_best 33 = .ok (.ireturn, 1) := by decide +kernel
theorem d_M_isLetter_0 : decode b_M_isLetter 0 = .ok (.iload_n 0, 1) := by decide +kernel
theorem d_M_isLetter_1 : decode b_M_isLetter 1 = .ok (.bipush 97, 2) := by decide +kernel
theorem d_M_isLetter_3 : decode b_M_isLetter 3 = .ok (.if_icmp .lt 9, 3) := by decide +kernel
theorem d_M_isLetter_6 : decode b_M_isLetter 6 = .ok (.iload_n 0, 1) := by decide +kernel
theorem d_M_isLetter_7 : decode b_M_isLetter 7 = .ok (.bipush 122, 2) := by decide +kernel
theorem d_M_isLetter_9 : decode b_M_isLetter 9 = .ok (.if_icmp .le 15, 3) := by decide +kernel
theorem d_M_isLetter_12 : decode b_M_isLetter 12 = .ok (.iload_n 0, 1) := by decide +kernel
theorem d_M_isLetter_13 : decode b_M_isLetter 13 = .ok (.bipush 65, 2) := by decide +kernel
theorem d_M_isLetter_15 : decode b_M_isLetter 15 = .ok (.if_icmp .lt 13, 3) := by decide +kernel
theorem d_M_isLetter_18 : decode b_M_isLetter 18 = .ok (.iload_n 0, 1) := by decide +kernel
theorem d_M_isLetter_19 : decode b_M_isLetter 19 = .ok (.bipush 90, 2) := by decide +kernel
theorem d_M_isLetter_21 : decode b_M_isLetter 21 = .ok (.if_icmp .gt 7, 3) := by decide +kernel
theorem d_M_isLetter_24 : decode b_M_isLetter 24 = .ok (.iconst 1, 1) := by decide +kernel
theorem d_M_isLetter_25 : decode b_M_isLetter 25 = .ok (.goto 4, 3) := by decide +kernel
theorem d_M_isLetter_28 : decode b_M_isLetter 28 = .ok (.iconst 0, 1) := by decide +kernel
theorem d_M_isLetter_29 : decode b_M_isLetter 29 = .ok (.ireturn, 1) := by decide +kernel
theorem d_M_isTaken_0 : decode b_M_isTaken 0 = .ok (.aload_n 0, 1) := by decide +kernel
theorem d_M_isTaken_1 : decode b_M_isTaken 1 = .ok (.invokevirtual 68, 3) := by decide +kernel
theorem d_M_isTaken_4 : decode b_M_isTaken 4 = .ok (.istore_n 1, 1) := by decide +kernel
theorem d_M_isTaken_5 : decode b_M_isTaken 5 = .ok (.iload_n 1, 1) := by decide +kernel
theorem d_M_isTaken_6 : decode b_M_isTaken 6 = .ok (.ifCond .lt 16, 3) := by decide +kernel
theorem d_M_isTaken_9 : decode b_M_isTaken 9 = .ok (.aload_n 0, 1) := by decide +kernel
theorem d_M_isTaken_10 : decode b_M_isTaken 10 = .ok (.getfield 20, 3) := by decide +kernel
theorem d_M_isTaken_13 : decode b_M_isTaken 13 = .ok (.iload_n 1, 1) := by decide +kernel
theorem d_M_isTaken_14 : decode b_M_isTaken 14 = .ok (.iaload, 1) := by decide +kernel
theorem d_M_isTaken_15 : decode b_M_isTaken 15 = .ok (.ifCond .lt 7, 3) := by decide +kernel
theorem d_M_isTaken_18 : decode b_M_isTaken 18 = .ok (.iconst 1, 1) := by decide +kernel
theorem d_M_isTaken_19 : decode b_M_isTaken 19 = .ok (.goto 4, 3) := by decide +kernel
theorem d_M_isTaken_22 : decode b_M_isTaken 22 = .ok (.iconst 0, 1) := by decide +kernel
theorem d_M_isTaken_23 : decode b_M_isTaken 23 = .ok (.ireturn, 1) := by decide +kernel
theorem d_M_propose_0 : decode b_M_propose 0 = .ok (.aload_n 0, 1) := by decide +kernel
theorem d_M_propose_1 : decode b_M_propose 1 = .ok (.aload_n 0, 1) := by decide +kernel
theorem d_M_propose_2 : decode b_M_propose 2 = .ok (.iload_n 1, 1) := by decide +kernel
theorem d_M_propose_3 : decode b_M_propose 3 = .ok (.invokevirtual 89, 3) := by decide +kernel
theorem d_M_propose_6 : decode b_M_propose 6 = .ok (.ifCond .eq 7, 3) := by decide +kernel
theorem d_M_propose_9 : decode b_M_propose 9 = .ok (.iconst 1, 1) := by decide +kernel
theorem d_M_propose_10 : decode b_M_propose 10 = .ok (.goto 4, 3) := by decide +kernel
theorem d_M_propose_13 : decode b_M_propose 13 = .ok (.iconst 0, 1) := by decide +kernel
theorem d_M_propose_14 : decode b_M_propose 14 = .ok (.invokevirtual 57, 3) := by decide +kernel
theorem d_M_propose_17 : decode b_M_propose 17 = .ok (.ifCond .eq 5, 3) := by decide +kernel
theorem d_M_propose_20 : decode b_M_propose 20 = .ok (.iconst 0, 1) := by decide +kernel
theorem d_M_propose_21 : decode b_M_propose 21 = .ok (.ireturn, 1) := by decide +kernel
theorem d_M_propose_22 : decode b_M_propose 22 = .ok (.aload_n 0, 1) := by decide +kernel
theorem d_M_propose_23 : decode b_M_propose 23 = .ok (.getfield 16, 3) := by decide +kernel
theorem d_M_propose_26 : decode b_M_propose 26 = .ok (.iload_n 1, 1) := by decide +kernel
theorem d_M_propose_27 : decode b_M_propose 27 = .ok (.iaload, 1) := by decide +kernel
theorem d_M_propose_28 : decode b_M_propose 28 = .ok (.istore_n 2, 1) := by decide +kernel
theorem d_M_propose_29 : decode b_M_propose 29 = .ok (.iload_n 2, 1) := by decide +kernel
theorem d_M_propose_30 : decode b_M_propose 30 = .ok (.ifCond .le 23, 3) := by decide +kernel
theorem d_M_propose_33 : decode b_M_propose 33 = .ok (.aload_n 0, 1) := by decide +kernel
theorem d_M_propose_34 : decode b_M_propose 34 = .ok (.iload_n 1, 1) := by decide +kernel
theorem d_M_propose_35 : decode b_M_propose 35 = .ok (.iload_n 2, 1) := by decide +kernel
theorem d_M_propose_36 : decode b_M_propose 36 = .ok (.iconst 1, 1) := by decide +kernel
theorem d_M_propose_37 : decode b_M_propose 37 = .ok (.isub, 1) := by decide +kernel
theorem d_M_propose_38 : decode b_M_propose 38 = .ok (.invokevirtual 64, 3) := by decide +kernel
theorem d_M_propose_41 : decode b_M_propose 41 = .ok (.invokestatic 116, 3) := by decide +kernel
theorem d_M_propose_44 : decode b_M_propose 44 = .ok (.ifCond .ne 9, 3) := by decide +kernel
theorem d_M_propose_47 : decode b_M_propose 47 = .ok (.iinc 2 (-1), 3) := by decide +kernel
theorem d_M_propose_50 : decode b_M_propose 50 = .ok (.goto (-21), 3) := by decide +kernel
theorem d_M_propose_53 : decode b_M_propose 53 = .ok (.iload_n 2, 1) := by decide +kernel
theorem d_M_propose_54 : decode b_M_propose 54 = .ok (.istore_n 3, 1) := by decide +kernel
theorem d_M_propose_55 : decode b_M_propose 55 = .ok (.iload_n 3, 1) := by decide +kernel
theorem d_M_propose_56 : decode b_M_propose 56 = .ok (.ifCond .le 23, 3) := by decide +kernel
theorem d_M_propose_59 : decode b_M_propose 59 = .ok (.aload_n 0, 1) := by decide +kernel
theorem d_M_propose_60 : decode b_M_propose 60 = .ok (.iload_n 1, 1) := by decide +kernel
theorem d_M_propose_61 : decode b_M_propose 61 = .ok (.iload_n 3, 1) := by decide +kernel
theorem d_M_propose_62 : decode b_M_propose 62 = .ok (.iconst 1, 1) := by decide +kernel
theorem d_M_propose_63 : decode b_M_propose 63 = .ok (.isub, 1) := by decide +kernel
theorem d_M_propose_64 : decode b_M_propose 64 = .ok (.invokevirtual 64, 3) := by decide +kernel
theorem d_M_propose_67 : decode b_M_propose 67 = .ok (.invokestatic 116, 3) := by decide +kernel
theorem d_M_propose_70 : decode b_M_propose 70 = .ok (.ifCond .eq 9, 3) := by decide +kernel
theorem d_M_propose_73 : decode b_M_propose 73 = .ok (.iinc 3 (-1), 3) := by decide +kernel
theorem d_M_propose_76 : decode b_M_propose 76 = .ok (.goto (-21), 3) := by decide +kernel
theorem d_M_propose_79 : decode b_M_propose 79 = .ok (.iload_n 2, 1) := by decide +kernel
theorem d_M_propose_80 : decode b_M_propose 80 = .ok (.iload_n 3, 1) := by decide +kernel
theorem d_M_propose_81 : decode b_M_propose 81 = .ok (.isub, 1) := by decide +kernel
theorem d_M_propose_82 : decode b_M_propose 82 = .ok (.istore 4, 2) := by decide +kernel
theorem d_M_propose_84 : decode b_M_propose 84 = .ok (.iconst 1, 1) := by decide +kernel
theorem d_M_propose_85 : decode b_M_propose 85 = .ok (.istore 5, 2) := by decide +kernel
theorem d_M_propose_87 : decode b_M_propose 87 = .ok (.iconst 1, 1) := by decide +kernel
theorem d_M_propose_88 : decode b_M_propose 88 = .ok (.istore 6, 2) := by decide +kernel
theorem d_M_propose_90 : decode b_M_propose 90 = .ok (.iload 6, 2) := by decide +kernel
theorem d_M_propose_92 : decode b_M_propose 92 = .ok (.iconst 4, 1) := by decide +kernel
theorem d_M_propose_93 : decode b_M_propose 93 = .ok (.if_icmp .gt 82, 3) := by decide +kernel
theorem d_M_propose_96 : decode b_M_propose 96 = .ok (.iload 5, 2) := by decide +kernel
theorem d_M_propose_98 : decode b_M_propose 98 = .ok (.ifCond .eq 77, 3) := by decide +kernel
theorem d_M_propose_101 : decode b_M_propose 101 = .ok (.iload 6, 2) := by decide +kernel
theorem d_M_propose_103 : decode b_M_propose 103 = .ok (.iload 4, 2) := by decide +kernel
theorem d_M_propose_105 : decode b_M_propose 105 = .ok (.ifCond .ne 7, 3) := by decide +kernel
theorem d_M_propose_108 : decode b_M_propose 108 = .ok (.iconst 1, 1) := by decide +kernel
theorem d_M_propose_109 : decode b_M_propose 109 = .ok (.goto 5, 3) := by decide +kernel
theorem d_M_propose_112 : decode b_M_propose 112 = .ok (.iload 4, 2) := by decide +kernel
theorem d_M_propose_114 : decode b_M_propose 114 = .ok (.if_icmp .gt 61, 3) := by decide +kernel
theorem d_M_propose_117 : decode b_M_propose 117 = .ok (.aload_n 0, 1) := by decide +kernel
theorem d_M_propose_118 : decode b_M_propose 118 = .ok (.invokevirtual 72, 3) := by decide +kernel
theorem d_M_propose_121 : decode b_M_propose 121 = .ok (.iconst 0, 1) := by decide +kernel
theorem d_M_propose_122 : decode b_M_propose 122 = .ok (.istore 7, 2) := by decide +kernel
theorem d_M_propose_124 : decode b_M_propose 124 = .ok (.iload 7, 2) := by decide +kernel
theorem d_M_propose_126 : decode b_M_propose 126 = .ok (.iload 6, 2) := by decide +kernel
theorem d_M_propose_128 : decode b_M_propose 128 = .ok (.if_icmp .ge 35, 3) := by decide +kernel
theorem d_M_propose_131 : decode b_M_propose 131 = .ok (.aload_n 0, 1) := by decide +kernel
theorem d_M_propose_132 : decode b_M_propose 132 = .ok (.iload 4, 2) := by decide +kernel
theorem d_M_propose_134 : decode b_M_propose 134 = .ok (.ifCond .ne 8, 3) := by decide +kernel
theorem d_M_propose_137 : decode b_M_propose 137 = .ok (.bipush 110, 2) := by decide +kernel
theorem d_M_propose_139 : decode b_M_propose 139 = .ok (.goto 15, 3) := by decide +kernel
theorem d_M_propose_142 : decode b_M_propose 142 = .ok (.aload_n 0, 1) := by decide +kernel
theorem d_M_propose_143 : decode b_M_propose 143 = .ok (.iload_n 1, 1) := by decide +kernel
theorem d_M_propose_144 : decode b_M_propose 144 = .ok (.iload_n 3, 1) := by decide +kernel
theorem d_M_propose_145 : decode b_M_propose 145 = .ok (.iload 7, 2) := by decide +kernel
theorem d_M_propose_147 : decode b_M_propose 147 = .ok (.iadd, 1) := by decide +kernel
theorem d_M_propose_148 : decode b_M_propose 148 = .ok (.invokevirtual 64, 3) := by decide +kernel
theorem d_M_propose_151 : decode b_M_propose 151 = .ok (.bipush 32, 2) := by decide +kernel
theorem d_M_propose_153 : decode b_M_propose 153 = .ok (.ior, 1) := by decide +kernel
theorem d_M_propose_154 : decode b_M_propose 154 = .ok (.invokevirtual 75, 3) := by decide +kernel
theorem d_M_propose_157 : decode b_M_propose 157 = .ok (.iinc 7 1, 3) := by decide +kernel
theorem d_M_propose_160 : decode b_M_propose 160 = .ok (.goto (-36), 3) := by decide +kernel
theorem d_M_propose_163 : decode b_M_propose 163 = .ok (.aload_n 0, 1) := by decide +kernel
theorem d_M_propose_164 : decode b_M_propose 164 = .ok (.invokevirtual 119, 3) := by decide +kernel
theorem d_M_propose_167 : decode b_M_propose 167 = .ok (.istore 5, 2) := by decide +kernel
theorem d_M_propose_169 : decode b_M_propose 169 = .ok (.iinc 6 1, 3) := by decide +kernel
theorem d_M_propose_172 : decode b_M_propose 172 = .ok (.goto (-82), 3) := by decide +kernel
theorem d_M_propose_175 : decode b_M_propose 175 = .ok (.iload 4, 2) := by decide +kernel
theorem d_M_propose_177 : decode b_M_propose 177 = .ok (.ifCond .ne 8, 3) := by decide +kernel
theorem d_M_propose_180 : decode b_M_propose 180 = .ok (.bipush 110, 2) := by decide +kernel
theorem d_M_propose_182 : decode b_M_propose 182 = .ok (.goto 12, 3) := by decide +kernel
theorem d_M_propose_185 : decode b_M_propose 185 = .ok (.aload_n 0, 1) := by decide +kernel
theorem d_M_propose_186 : decode b_M_propose 186 = .ok (.iload_n 1, 1) := by decide +kernel
theorem d_M_propose_187 : decode b_M_propose 187 = .ok (.iload_n 3, 1) := by decide +kernel
theorem d_M_propose_188 : decode b_M_propose 188 = .ok (.invokevirtual 64, 3) := by decide +kernel
theorem d_M_propose_191 : decode b_M_propose 191 = .ok (.bipush 32, 2) := by decide +kernel
theorem d_M_propose_193 : decode b_M_propose 193 = .ok (.ior, 1) := by decide +kernel
theorem d_M_propose_194 : decode b_M_propose 194 = .ok (.istore 6, 2) := by decide +kernel
theorem d_M_propose_196 : decode b_M_propose 196 = .ok (.iconst 1, 1) := by decide +kernel
theorem d_M_propose_197 : decode b_M_propose 197 = .ok (.istore 7, 2) := by decide +kernel
theorem d_M_propose_199 : decode b_M_propose 199 = .ok (.iload 7, 2) := by decide +kernel
theorem d_M_propose_201 : decode b_M_propose 201 = .ok (.bipush 99, 2) := by decide +kernel
theorem d_M_propose_203 : decode b_M_propose 203 = .ok (.if_icmp .gt 61, 3) := by decide +kernel
theorem d_M_propose_206 : decode b_M_propose 206 = .ok (.iload 5, 2) := by decide +kernel
theorem d_M_propose_208 : decode b_M_propose 208 = .ok (.ifCond .eq 56, 3) := by decide +kernel
theorem d_M_propose_211 : decode b_M_propose 211 = .ok (.aload_n 0, 1) := by decide +kernel
theorem d_M_propose_212 : decode b_M_propose 212 = .ok (.invokevirtual 72, 3) := by decide +kernel
theorem d_M_propose_215 : decode b_M_propose 215 = .ok (.aload_n 0, 1) := by decide +kernel
theorem d_M_propose_216 : decode b_M_propose 216 = .ok (.iload 6, 2) := by decide +kernel
theorem d_M_propose_218 : decode b_M_propose 218 = .ok (.invokevirtual 75, 3) := by decide +kernel
theorem d_M_propose_221 : decode b_M_propose 221 = .ok (.iload 7, 2) := by decide +kernel
theorem d_M_propose_223 : decode b_M_propose 223 = .ok (.bipush 9, 2) := by decide +kernel
theorem d_M_propose_225 : decode b_M_propose 225 = .ok (.if_icmp .le 15, 3) := by decide +kernel
theorem d_M_propose_228 : decode b_M_propose 228 = .ok (.aload_n 0, 1) := by decide +kernel
theorem d_M_propose_229 : decode b_M_propose 229 = .ok (.bipush 48, 2) := by decide +kernel
theorem d_M_propose_231 : decode b_M_propose 231 = .ok (.iload 7, 2) := by decide +kernel
theorem d_M_propose_233 : decode b_M_propose 233 = .ok (.bipush 10, 2) := by decide +kernel
theorem d_M_propose_235 : decode b_M_propose 235 = .ok (.idiv, 1) := by decide +kernel
theorem d_M_propose_236 : decode b_M_propose 236 = .ok (.iadd, 1) := by decide +kernel
theorem d_M_propose_237 : decode b_M_propose 237 = .ok (.invokevirtual 75, 3) := by decide +kernel
theorem d_M_propose_240 : decode b_M_propose 240 = .ok (.aload_n 0, 1) := by decide +kernel
theorem d_M_propose_241 : decode b_M_propose 241 = .ok (.bipush 48, 2) := by decide +kernel
theorem d_M_propose_243 : decode b_M_propose 243 = .ok (.iload 7, 2) := by decide +kernel
theorem d_M_propose_245 : decode b_M_propose 245 = .ok (.bipush 10, 2) := by decide +kernel
theorem d_M_propose_247 : decode b_M_propose 247 = .ok (.irem, 1) := by decide +kernel
theorem d_M_propose_248 : decode b_M_propose 248 = .ok (.iadd, 1) := by decide +kernel
theorem d_M_propose_249 : decode b_M_propose 249 = .ok (.invokevirtual 75, 3) := by decide +kernel
theorem d_M_propose_252 : decode b_M_propose 252 = .ok (.aload_n 0, 1) := by decide +kernel
theorem d_M_propose_253 : decode b_M_propose 253 = .ok (.invokevirtual 119, 3) := by decide +kernel
theorem d_M_propose_256 : decode b_M_propose 256 = .ok (.istore 5, 2) := by decide +kernel
theorem d_M_propose_258 : decode b_M_propose 258 = .ok (.iinc 7 1, 3) := by decide +kernel
theorem d_M_propose_261 : decode b_M_propose 261 = .ok (.goto (-62), 3) := by decide +kernel
theorem d_M_propose_264 : decode b_M_propose 264 = .ok (.aload_n 0, 1) := by decide +kernel
theorem d_M_propose_265 : decode b_M_propose 265 = .ok (.iconst 0, 1) := by decide +kernel
theorem d_M_propose_266 : decode b_M_propose 266 = .ok (.putfield 122, 3) := by decide +kernel
theorem d_M_propose_269 : decode b_M_propose 269 = .ok (.iconst 0, 1) := by decide +kernel
theorem d_M_propose_270 : decode b_M_propose 270 = .ok (.istore 7, 2) := by decide +kernel
theorem d_M_propose_272 : decode b_M_propose 272 = .ok (.iload 7, 2) := by decide +kernel
theorem d_M_propose_274 : decode b_M_propose 274 = .ok (.aload_n 0, 1) := by decide +kernel
theorem d_M_propose_275 : decode b_M_propose 275 = .ok (.getfield 61, 3) := by decide +kernel
theorem d_M_propose_278 : decode b_M_propose 278 = .ok (.if_icmp .ge 32, 3) := by decide +kernel
theorem d_M_propose_281 : decode b_M_propose 281 = .ok (.aload_n 0, 1) := by decide +kernel
theorem d_M_propose_282 : decode b_M_propose 282 = .ok (.getfield 35, 3) := by decide +kernel
theorem d_M_propose_285 : decode b_M_propose 285 = .ok (.aload_n 0, 1) := by decide +kernel
theorem d_M_propose_286 : decode b_M_propose 286 = .ok (.dup, 1) := by decide +kernel
theorem d_M_propose_287 : decode b_M_propose 287 = .ok (.getfield 122, 3) := by decide +kernel
theorem d_M_propose_290 : decode b_M_propose 290 = .ok (.dup_x1, 1) := by decide +kernel
theorem d_M_propose_291 : decode b_M_propose 291 = .ok (.iconst 1, 1) := by decide +kernel
theorem d_M_propose_292 : decode b_M_propose 292 = .ok (.iadd, 1) := by decide +kernel
theorem d_M_propose_293 : decode b_M_propose 293 = .ok (.putfield 122, 3) := by decide +kernel
theorem d_M_propose_296 : decode b_M_propose 296 = .ok (.aload_n 0, 1) := by decide +kernel
theorem d_M_propose_297 : decode b_M_propose 297 = .ok (.getfield 41, 3) := by decide +kernel
theorem d_M_propose_300 : decode b_M_propose 300 = .ok (.iload 7, 2) := by decide +kernel
theorem d_M_propose_302 : decode b_M_propose 302 = .ok (.baload, 1) := by decide +kernel
theorem d_M_propose_303 : decode b_M_propose 303 = .ok (.bastore, 1) := by decide +kernel
theorem d_M_propose_304 : decode b_M_propose 304 = .ok (.iinc 7 1, 3) := by decide +kernel
theorem d_M_propose_307 : decode b_M_propose 307 = .ok (.goto (-35), 3) := by decide +kernel
theorem d_M_propose_310 : decode b_M_propose 310 = .ok (.aload_n 0, 1) := by decide +kernel
theorem d_M_propose_311 : decode b_M_propose 311 = .ok (.getfield 122, 3) := by decide +kernel
theorem d_M_propose_314 : decode b_M_propose 314 = .ok (.ireturn, 1) := by decide +kernel
theorem d_M_print_0 : decode b_M_print 0 = .ok (.aload_n 0, 1) := by decide +kernel
theorem d_M_print_1 : decode b_M_print 1 = .ok (.aload_n 0, 1) := by decide +kernel
theorem d_M_print_2 : decode b_M_print 2 = .ok (.iload_n 1, 1) := by decide +kernel
theorem d_M_print_3 : decode b_M_print 3 = .ok (.invokevirtual 89, 3) := by decide +kernel
theorem d_M_print_6 : decode b_M_print 6 = .ok (.ifCond .eq 7, 3) := by decide +kernel
theorem d_M_print_9 : decode b_M_print 9 = .ok (.iconst 1, 1) := by decide +kernel
theorem d_M_print_10 : decode b_M_print 10 = .ok (.goto 4, 3) := by decide +kernel
theorem d_M_print_13 : decode b_M_print 13 = .ok (.iconst 0, 1) := by decide +kernel
theorem d_M_print_14 : decode b_M_print 14 = .ok (.invokevirtual 57, 3) := by decide +kernel
theorem d_M_print_17 : decode b_M_print 17 = .ok (.ifCond .eq 5, 3) := by decide +kernel
theorem d_M_print_20 : decode b_M_print 20 = .ok (.iconst 0, 1) := by decide +kernel
theorem d_M_print_21 : decode b_M_print 21 = .ok (.ireturn, 1) := by decide +kernel
theorem d_M_print_22 : decode b_M_print 22 = .ok (.aload_n 0, 1) := by decide +kernel
theorem d_M_print_23 : decode b_M_print 23 = .ok (.iload_n 1, 1) := by decide +kernel
theorem d_M_print_24 : decode b_M_print 24 = .ok (.invokevirtual 106, 3) := by decide +kernel
theorem d_M_print_27 : decode b_M_print 27 = .ok (.istore_n 2, 1) := by decide +kernel
theorem d_M_print_28 : decode b_M_print 28 = .ok (.aload_n 0, 1) := by decide +kernel
theorem d_M_print_29 : decode b_M_print 29 = .ok (.iload_n 2, 1) := by decide +kernel
theorem d_M_print_30 : decode b_M_print 30 = .ok (.invokevirtual 113, 3) := by decide +kernel
theorem d_M_print_33 : decode b_M_print 33 = .ok (.istore_n 3, 1) := by decide +kernel
theorem d_M_print_34 : decode b_M_print 34 = .ok (.aload_n 0, 1) := by decide +kernel
theorem d_M_print_35 : decode b_M_print 35 = .ok (.iconst 0, 1) := by decide +kernel
theorem d_M_print_36 : decode b_M_print 36 = .ok (.putfield 122, 3) := by decide +kernel
theorem d_M_print_39 : decode b_M_print 39 = .ok (.iload_n 3, 1) := by decide +kernel
theorem d_M_print_40 : decode b_M_print 40 = .ok (.ifCond .ge 86, 3) := by decide +kernel
theorem d_M_print_43 : decode b_M_print 43 = .ok (.aload_n 0, 1) := by decide +kernel
theorem d_M_print_44 : decode b_M_print 44 = .ok (.getfield 35, 3) := by decide +kernel
theorem d_M_print_47 : decode b_M_print 47 = .ok (.aload_n 0, 1) := by decide +kernel
theorem d_M_print_48 : decode b_M_print 48 = .ok (.dup, 1) := by decide +kernel
theorem d_M_print_49 : decode b_M_print 49 = .ok (.getfield 122, 3) := by decide +kernel
theorem d_M_print_52 : decode b_M_print 52 = .ok (.dup_x1, 1) := by decide +kernel
theorem d_M_print_53 : decode b_M_print 53 = .ok (.iconst 1, 1) := by decide +kernel
theorem d_M_print_54 : decode b_M_print 54 = .ok (.iadd, 1) := by decide +kernel
theorem d_M_print_55 : decode b_M_print 55 = .ok (.putfield 122, 3) := by decide +kernel
theorem d_M_print_58 : decode b_M_print 58 = .ok (.bipush 60, 2) := by decide +kernel
theorem d_M_print_60 : decode b_M_print 60 = .ok (.bastore, 1) := by decide +kernel
theorem d_M_print_61 : decode b_M_print 61 = .ok (.iconst 0, 1) := by decide +kernel
theorem d_M_print_62 : decode b_M_print 62 = .ok (.istore 4, 2) := by decide +kernel
theorem d_M_print_64 : decode b_M_print 64 = .ok (.iload 4, 2) := by decide +kernel
theorem d_M_print_66 : decode b_M_print 66 = .ok (.aload_n 0, 1) := by decide +kernel
theorem d_M_print_67 : decode b_M_print 67 = .ok (.getfield 16, 3) := by decide +kernel
theorem d_M_print_70 : decode b_M_print 70 = .ok (.iload_n 1, 1) := by decide +kernel
theorem d_M_print_71 : decode b_M_print 71 = .ok (.iaload, 1) := by decide +kernel
theorem d_M_print_72 : decode b_M_print 72 = .ok (.if_icmp .ge 33, 3) := by decide +kernel
theorem d_M_print_75 : decode b_M_print 75 = .ok (.aload_n 0, 1) := by decide +kernel
theorem d_M_print_76 : decode b_M_print 76 = .ok (.getfield 35, 3) := by decide +kernel
theorem d_M_print_79 : decode b_M_print 79 = .ok (.aload_n 0, 1) := by decide +kernel
theorem d_M_print_80 : decode b_M_print 80 = .ok (.dup, 1) := by decide +kernel
theorem d_M_print_81 : decode b_M_print 81 = .ok (.getfield 122, 3) := by decide +kernel
theorem d_M_print_84 : decode b_M_print 84 = .ok (.dup_x1, 1) := by decide +kernel
theorem d_M_print_85 : decode b_M_print 85 = .ok (.iconst 1, 1) := by decide +kernel
theorem d_M_print_86 : decode b_M_print 86 = .ok (.iadd, 1) := by decide +kernel
theorem d_M_print_87 : decode b_M_print 87 = .ok (.putfield 122, 3) := by decide +kernel
theorem d_M_print_90 : decode b_M_print 90 = .ok (.aload_n 0, 1) := by decide +kernel
theorem d_M_print_91 : decode b_M_print 91 = .ok (.iload_n 1, 1) := by decide +kernel
theorem d_M_print_92 : decode b_M_print 92 = .ok (.iload 4, 2) := by decide +kernel
theorem d_M_print_94 : decode b_M_print 94 = .ok (.invokevirtual 64, 3) := by decide +kernel
theorem d_M_print_97 : decode b_M_print 97 = .ok (.i2b, 1) := by decide +kernel
theorem d_M_print_98 : decode b_M_print 98 = .ok (.bastore, 1) := by decide +kernel
theorem d_M_print_99 : decode b_M_print 99 = .ok (.iinc 4 1, 3) := by decide +kernel
theorem d_M_print_102 : decode b_M_print 102 = .ok (.goto (-38), 3) := by decide +kernel
theorem d_M_print_105 : decode b_M_print 105 = .ok (.aload_n 0, 1) := by decide +kernel
theorem d_M_print_106 : decode b_M_print 106 = .ok (.getfield 35, 3) := by decide +kernel
theorem d_M_print_109 : decode b_M_print 109 = .ok (.aload_n 0, 1) := by decide +kernel
theorem d_M_print_110 : decode b_M_print 110 = .ok (.dup, 1) := by decide +kernel
theorem d_M_print_111 : decode b_M_print 111 = .ok (.getfield 122, 3) := by decide +kernel
theorem d_M_print_114 : decode b_M_print 114 = .ok (.dup_x1, 1) := by decide +kernel
theorem d_M_print_115 : decode b_M_print 115 = .ok (.iconst 1, 1) := by decide +kernel
theorem d_M_print_116 : decode b_M_print 116 = .ok (.iadd, 1) := by decide +kernel
theorem d_M_print_117 : decode b_M_print 117 = .ok (.putfield 122, 3) := by decide +kernel
theorem d_M_print_120 : decode b_M_print 120 = .ok (.bipush 62, 2) := by decide +kernel
theorem d_M_print_122 : decode b_M_print 122 = .ok (.bastore, 1) := by decide +kernel
theorem d_M_print_123 : decode b_M_print 123 = .ok (.goto 114, 3) := by decide +kernel
theorem d_M_print_126 : decode b_M_print 126 = .ok (.iconst 0, 1) := by decide +kernel
theorem d_M_print_127 : decode b_M_print 127 = .ok (.istore 4, 2) := by decide +kernel
theorem d_M_print_129 : decode b_M_print 129 = .ok (.iload 4, 2) := by decide +kernel
theorem d_M_print_131 : decode b_M_print 131 = .ok (.aload_n 0, 1) := by decide +kernel
theorem d_M_print_132 : decode b_M_print 132 = .ok (.getfield 16, 3) := by decide +kernel
theorem d_M_print_135 : decode b_M_print 135 = .ok (.iload_n 3, 1) := by decide +kernel
theorem d_M_print_136 : decode b_M_print 136 = .ok (.iaload, 1) := by decide +kernel
theorem d_M_print_137 : decode b_M_print 137 = .ok (.if_icmp .ge 33, 3) := by decide +kernel
theorem d_M_print_140 : decode b_M_print 140 = .ok (.aload_n 0, 1) := by decide +kernel
theorem d_M_print_141 : decode b_M_print 141 = .ok (.getfield 35, 3) := by decide +kernel
theorem d_M_print_144 : decode b_M_print 144 = .ok (.aload_n 0, 1) := by decide +kernel
theorem d_M_print_145 : decode b_M_print 145 = .ok (.dup, 1) := by decide +kernel
theorem d_M_print_146 : decode b_M_print 146 = .ok (.getfield 122, 3) := by decide +kernel
theorem d_M_print_149 : decode b_M_print 149 = .ok (.dup_x1, 1) := by decide +kernel
theorem d_M_print_150 : decode b_M_print 150 = .ok (.iconst 1, 1) := by decide +kernel
theorem d_M_print_151 : decode b_M_print 151 = .ok (.iadd, 1) := by decide +kernel
theorem d_M_print_152 : decode b_M_print 152 = .ok (.putfield 122, 3) := by decide +kernel
theorem d_M_print_155 : decode b_M_print 155 = .ok (.aload_n 0, 1) := by decide +kernel
theorem d_M_print_156 : decode b_M_print 156 = .ok (.iload_n 3, 1) := by decide +kernel
theorem d_M_print_157 : decode b_M_print 157 = .ok (.iload 4, 2) := by decide +kernel
theorem d_M_print_159 : decode b_M_print 159 = .ok (.invokevirtual 64, 3) := by decide +kernel
theorem d_M_print_162 : decode b_M_print 162 = .ok (.i2b, 1) := by decide +kernel
theorem d_M_print_163 : decode b_M_print 163 = .ok (.bastore, 1) := by decide +kernel
theorem d_M_print_164 : decode b_M_print 164 = .ok (.iinc 4 1, 3) := by decide +kernel
theorem d_M_print_167 : decode b_M_print 167 = .ok (.goto (-38), 3) := by decide +kernel
theorem d_M_print_170 : decode b_M_print 170 = .ok (.aload_n 0, 1) := by decide +kernel
theorem d_M_print_171 : decode b_M_print 171 = .ok (.getfield 35, 3) := by decide +kernel
theorem d_M_print_174 : decode b_M_print 174 = .ok (.aload_n 0, 1) := by decide +kernel
theorem d_M_print_175 : decode b_M_print 175 = .ok (.dup, 1) := by decide +kernel
theorem d_M_print_176 : decode b_M_print 176 = .ok (.getfield 122, 3) := by decide +kernel
theorem d_M_print_179 : decode b_M_print 179 = .ok (.dup_x1, 1) := by decide +kernel
theorem d_M_print_180 : decode b_M_print 180 = .ok (.iconst 1, 1) := by decide +kernel
theorem d_M_print_181 : decode b_M_print 181 = .ok (.iadd, 1) := by decide +kernel
theorem d_M_print_182 : decode b_M_print 182 = .ok (.putfield 122, 3) := by decide +kernel
theorem d_M_print_185 : decode b_M_print 185 = .ok (.bipush 58, 2) := by decide +kernel
theorem d_M_print_187 : decode b_M_print 187 = .ok (.bastore, 1) := by decide +kernel
theorem d_M_print_188 : decode b_M_print 188 = .ok (.aload_n 0, 1) := by decide +kernel
theorem d_M_print_189 : decode b_M_print 189 = .ok (.getfield 16, 3) := by decide +kernel
theorem d_M_print_192 : decode b_M_print 192 = .ok (.iload_n 2, 1) := by decide +kernel
theorem d_M_print_193 : decode b_M_print 193 = .ok (.iaload, 1) := by decide +kernel
theorem d_M_print_194 : decode b_M_print 194 = .ok (.istore 4, 2) := by decide +kernel
theorem d_M_print_196 : decode b_M_print 196 = .ok (.iload 4, 2) := by decide +kernel
theorem d_M_print_198 : decode b_M_print 198 = .ok (.aload_n 0, 1) := by decide +kernel
theorem d_M_print_199 : decode b_M_print 199 = .ok (.getfield 16, 3) := by decide +kernel
theorem d_M_print_202 : decode b_M_print 202 = .ok (.iload_n 1, 1) := by decide +kernel
theorem d_M_print_203 : decode b_M_print 203 = .ok (.iaload, 1) := by decide +kernel
theorem d_M_print_204 : decode b_M_print 204 = .ok (.if_icmp .ge 33, 3) := by decide +kernel
theorem d_M_print_207 : decode b_M_print 207 = .ok (.aload_n 0, 1) := by decide +kernel
theorem d_M_print_208 : decode b_M_print 208 = .ok (.getfield 35, 3) := by decide +kernel
theorem d_M_print_211 : decode b_M_print 211 = .ok (.aload_n 0, 1) := by decide +kernel
theorem d_M_print_212 : decode b_M_print 212 = .ok (.dup, 1) := by decide +kernel
theorem d_M_print_213 : decode b_M_print 213 = .ok (.getfield 122, 3) := by decide +kernel
theorem d_M_print_216 : decode b_M_print 216 = .ok (.dup_x1, 1) := by decide +kernel
theorem d_M_print_217 : decode b_M_print 217 = .ok (.iconst 1, 1) := by decide +kernel
theorem d_M_print_218 : decode b_M_print 218 = .ok (.iadd, 1) := by decide +kernel
theorem d_M_print_219 : decode b_M_print 219 = .ok (.putfield 122, 3) := by decide +kernel
theorem d_M_print_222 : decode b_M_print 222 = .ok (.aload_n 0, 1) := by decide +kernel
theorem d_M_print_223 : decode b_M_print 223 = .ok (.iload_n 1, 1) := by decide +kernel
theorem d_M_print_224 : decode b_M_print 224 = .ok (.iload 4, 2) := by decide +kernel
theorem d_M_print_226 : decode b_M_print 226 = .ok (.invokevirtual 64, 3) := by decide +kernel
theorem d_M_print_229 : decode b_M_print 229 = .ok (.i2b, 1) := by decide +kernel
theorem d_M_print_230 : decode b_M_print 230 = .ok (.bastore, 1) := by decide +kernel
theorem d_M_print_231 : decode b_M_print 231 = .ok (.iinc 4 1, 3) := by decide +kernel
theorem d_M_print_234 : decode b_M_print 234 = .ok (.goto (-38), 3) := by decide +kernel
theorem d_M_print_237 : decode b_M_print 237 = .ok (.aload_n 0, 1) := by decide +kernel
theorem d_M_print_238 : decode b_M_print 238 = .ok (.getfield 122, 3) := by decide +kernel
theorem d_M_print_241 : decode b_M_print 241 = .ok (.ireturn, 1) := by decide +kernel
theorem d_M_letter_0 : decode b_M_letter 0 = .ok (.aload_n 0, 1) := by decide +kernel
theorem d_M_letter_1 : decode b_M_letter 1 = .ok (.iconst 0, 1) := by decide +kernel
theorem d_M_letter_2 : decode b_M_letter 2 = .ok (.putfield 47, 3) := by decide +kernel
theorem d_M_letter_5 : decode b_M_letter 5 = .ok (.iload_n 1, 1) := by decide +kernel
theorem d_M_letter_6 : decode b_M_letter 6 = .ok (.ifCond .lt 11, 3) := by decide +kernel
theorem d_M_letter_9 : decode b_M_letter 9 = .ok (.iload_n 1, 1) := by decide +kernel
theorem d_M_letter_10 : decode b_M_letter 10 = .ok (.aload_n 0, 1) := by decide +kernel
theorem d_M_letter_11 : decode b_M_letter 11 = .ok (.getfield 122, 3) := by decide +kernel
theorem d_M_letter_14 : decode b_M_letter 14 = .ok (.if_icmp .lt 7, 3) := by decide +kernel
theorem d_M_letter_17 : decode b_M_letter 17 = .ok (.iconst 0, 1) := by decide +kernel
theorem d_M_letter_18 : decode b_M_letter 18 = .ok (.goto 10, 3) := by decide +kernel
theorem d_M_letter_21 : decode b_M_letter 21 = .ok (.aload_n 0, 1) := by decide +kernel
theorem d_M_letter_22 : decode b_M_letter 22 = .ok (.getfield 35, 3) := by decide +kernel
theorem d_M_letter_25 : decode b_M_letter 25 = .ok (.iload_n 1, 1) := by decide +kernel
theorem d_M_letter_26 : decode b_M_letter 26 = .ok (.baload, 1) := by decide +kernel
theorem d_M_letter_27 : decode b_M_letter 27 = .ok (.i2c, 1) := by decide +kernel
theorem d_M_letter_28 : decode b_M_letter 28 = .ok (.ireturn, 1) := by decide +kernel
theorem d_M_rowOf_0 : decode b_M_rowOf 0 = .ok (.iconst 0, 1) := by decide +kernel
theorem d_M_rowOf_1 : decode b_M_rowOf 1 = .ok (.istore_n 2, 1) := by decide +kernel
theorem d_M_rowOf_2 : decode b_M_rowOf 2 = .ok (.iload_n 2, 1) := by decide +kernel
theorem d_M_rowOf_3 : decode b_M_rowOf 3 = .ok (.aload_n 0, 1) := by decide +kernel
theorem d_M_rowOf_4 : decode b_M_rowOf 4 = .ok (.getfield 125, 3) := by decide +kernel
theorem d_M_rowOf_7 : decode b_M_rowOf 7 = .ok (.if_icmp .ge 23, 3) := by decide +kernel
theorem d_M_rowOf_10 : decode b_M_rowOf 10 = .ok (.aload_n 0, 1) := by decide +kernel
theorem d_M_rowOf_11 : decode b_M_rowOf 11 = .ok (.getfield 29, 3) := by decide +kernel
theorem d_M_rowOf_14 : decode b_M_rowOf 14 = .ok (.iconst 3, 1) := by decide +kernel
theorem d_M_rowOf_15 : decode b_M_rowOf 15 = .ok (.iload_n 2, 1) := by decide +kernel
theorem d_M_rowOf_16 : decode b_M_rowOf 16 = .ok (.imul, 1) := by decide +kernel
theorem d_M_rowOf_17 : decode b_M_rowOf 17 = .ok (.iaload, 1) := by decide +kernel
theorem d_M_rowOf_18 : decode b_M_rowOf 18 = .ok (.iload_n 1, 1) := by decide +kernel
theorem d_M_rowOf_19 : decode b_M_rowOf 19 = .ok (.if_icmp .ne 5, 3) := by decide +kernel
theorem d_M_rowOf_22 : decode b_M_rowOf 22 = .ok (.iload_n 2, 1) := by decide +kernel
theorem d_M_rowOf_23 : decode b_M_rowOf 23 = .ok (.ireturn, 1) := by decide +kernel
theorem d_M_rowOf_24 : decode b_M_rowOf 24 = .ok (.iinc 2 1, 3) := by decide +kernel
theorem d_M_rowOf_27 : decode b_M_rowOf 27 = .ok (.goto (-25), 3) := by decide +kernel
theorem d_M_rowOf_30 : decode b_M_rowOf 30 = .ok (.iconst (-1), 1) := by decide +kernel
theorem d_M_rowOf_31 : decode b_M_rowOf 31 = .ok (.ireturn, 1) := by decide +kernel
theorem d_M_row_0 : decode b_M_row 0 = .ok (.aload_n 0, 1) := by decide +kernel
theorem d_M_row_1 : decode b_M_row 1 = .ok (.aload_n 0, 1) := by decide +kernel
theorem d_M_row_2 : decode b_M_row 2 = .ok (.iload_n 1, 1) := by decide +kernel
theorem d_M_row_3 : decode b_M_row 3 = .ok (.invokevirtual 89, 3) := by decide +kernel
theorem d_M_row_6 : decode b_M_row 6 = .ok (.ifCond .ne 19, 3) := by decide +kernel
theorem d_M_row_9 : decode b_M_row 9 = .ok (.aload_n 0, 1) := by decide +kernel
theorem d_M_row_10 : decode b_M_row 10 = .ok (.iload_n 2, 1) := by decide +kernel
theorem d_M_row_11 : decode b_M_row 11 = .ok (.invokevirtual 89, 3) := by decide +kernel
theorem d_M_row_14 : decode b_M_row 14 = .ok (.ifCond .ne 11, 3) := by decide +kernel
theorem d_M_row_17 : decode b_M_row 17 = .ok (.aload_n 0, 1) := by decide +kernel
theorem d_M_row_18 : decode b_M_row 18 = .ok (.iload_n 3, 1) := by decide +kernel
theorem d_M_row_19 : decode b_M_row 19 = .ok (.invokevirtual 89, 3) := by decide +kernel
theorem d_M_row_22 : decode b_M_row 22 = .ok (.ifCond .eq 7, 3) := by decide +kernel
theorem d_M_row_25 : decode b_M_row 25 = .ok (.iconst 1, 1) := by decide +kernel
theorem d_M_row_26 : decode b_M_row 26 = .ok (.goto 16, 3) := by decide +kernel
theorem d_M_row_29 : decode b_M_row 29 = .ok (.aload_n 0, 1) := by decide +kernel
theorem d_M_row_30 : decode b_M_row 30 = .ok (.iload_n 1, 1) := by decide +kernel
theorem d_M_row_31 : decode b_M_row 31 = .ok (.invokevirtual 106, 3) := by decide +kernel
theorem d_M_row_34 : decode b_M_row 34 = .ok (.ifCond .ge 7, 3) := by decide +kernel
theorem d_M_row_37 : decode b_M_row 37 = .ok (.iconst 2, 1) := by decide +kernel
theorem d_M_row_38 : decode b_M_row 38 = .ok (.goto 4, 3) := by decide +kernel
theorem d_M_row_41 : decode b_M_row 41 = .ok (.iconst 0, 1) := by decide +kernel
theorem d_M_row_42 : decode b_M_row 42 = .ok (.invokevirtual 57, 3) := by decide +kernel
theorem d_M_row_45 : decode b_M_row 45 = .ok (.ifCond .eq 5, 3) := by decide +kernel
theorem d_M_row_48 : decode b_M_row 48 = .ok (.iconst 0, 1) := by decide +kernel
theorem d_M_row_49 : decode b_M_row 49 = .ok (.ireturn, 1) := by decide +kernel
theorem d_M_row_50 : decode b_M_row 50 = .ok (.aload_n 0, 1) := by decide +kernel
theorem d_M_row_51 : decode b_M_row 51 = .ok (.iload_n 1, 1) := by decide +kernel
theorem d_M_row_52 : decode b_M_row 52 = .ok (.invokevirtual 128, 3) := by decide +kernel
theorem d_M_row_55 : decode b_M_row 55 = .ok (.istore 4, 2) := by decide +kernel
theorem d_M_row_57 : decode b_M_row 57 = .ok (.iload 4, 2) := by decide +kernel
theorem d_M_row_59 : decode b_M_row 59 = .ok (.ifCond .lt 16, 3) := by decide +kernel
theorem d_M_row_62 : decode b_M_row 62 = .ok (.aload_n 0, 1) := by decide +kernel
theorem d_M_row_63 : decode b_M_row 63 = .ok (.iconst 2, 1) := by decide +kernel
theorem d_M_row_64 : decode b_M_row 64 = .ok (.iload 4, 2) := by decide +kernel
theorem d_M_row_66 : decode b_M_row 66 = .ok (.iload_n 1, 1) := by decide +kernel
theorem d_M_row_67 : decode b_M_row 67 = .ok (.invokevirtual 95, 3) := by decide +kernel
theorem d_M_row_70 : decode b_M_row 70 = .ok (.iconst (-1), 1) := by decide +kernel
theorem d_M_row_71 : decode b_M_row 71 = .ok (.iload 4, 2) := by decide +kernel
theorem d_M_row_73 : decode b_M_row 73 = .ok (.isub, 1) := by decide +kernel
theorem d_M_row_74 : decode b_M_row 74 = .ok (.ireturn, 1) := by decide +kernel
theorem d_M_row_75 : decode b_M_row 75 = .ok (.aload_n 0, 1) := by decide +kernel
theorem d_M_row_76 : decode b_M_row 76 = .ok (.aload_n 0, 1) := by decide +kernel
theorem d_M_row_77 : decode b_M_row 77 = .ok (.getfield 125, 3) := by decide +kernel
theorem d_M_row_80 : decode b_M_row 80 = .ok (.bipush 40, 2) := by decide +kernel
theorem d_M_row_82 : decode b_M_row 82 = .ok (.if_icmp .ne 7, 3) := by decide +kernel
theorem d_M_row_85 : decode b_M_row 85 = .ok (.iconst 3, 1) := by decide +kernel
theorem d_M_row_86 : decode b_M_row 86 = .ok (.goto 4, 3) := by decide +kernel
theorem d_M_row_89 : decode b_M_row 89 = .ok (.iconst 0, 1) := by decide +kernel
theorem d_M_row_90 : decode b_M_row 90 = .ok (.invokevirtual 57, 3) := by decide +kernel
theorem d_M_row_93 : decode b_M_row 93 = .ok (.ifCond .eq 5, 3) := by decide +kernel
theorem d_M_row_96 : decode b_M_row 96 = .ok (.iconst 0, 1) := by decide +kernel
theorem d_M_row_97 : decode b_M_row 97 = .ok (.ireturn, 1) := by decide +kernel
theorem d_M_row_98 : decode b_M_row 98 = .ok (.aload_n 0, 1) := by decide +kernel
theorem d_M_row_99 : decode b_M_row 99 = .ok (.getfield 29, 3) := by decide +kernel
theorem d_M_row_102 : decode b_M_row 102 = .ok (.iconst 3, 1) := by decide +kernel
theorem d_M_row_103 : decode b_M_row 103 = .ok (.aload_n 0, 1) := by decide +kernel
theorem d_M_row_104 : decode b_M_row 104 = .ok (.getfield 125, 3) := by decide +kernel
theorem d_M_row_107 : decode b_M_row 107 = .ok (.imul, 1) := by decide +kernel
theorem d_M_row_108 : decode b_M_row 108 = .ok (.iload_n 1, 1) := by decide +kernel
theorem d_M_row_109 : decode b_M_row 109 = .ok (.iastore, 1) := by decide +kernel
theorem d_M_row_110 : decode b_M_row 110 = .ok (.aload_n 0, 1) := by decide +kernel
theorem d_M_row_111 : decode b_M_row 111 = .ok (.getfield 29, 3) := by decide +kernel
theorem d_M_row_114 : decode b_M_row 114 = .ok (.iconst 3, 1) := by decide +kernel
theorem d_M_row_115 : decode b_M_row 115 = .ok (.aload_n 0, 1) := by decide +kernel
theorem d_M_row_116 : decode b_M_row 116 = .ok (.getfield 125, 3) := by decide +kernel
theorem d_M_row_119 : decode b_M_row 119 = .ok (.imul, 1) := by decide +kernel
theorem d_M_row_120 : decode b_M_row 120 = .ok (.iconst 1, 1) := by decide +kernel
theorem d_M_row_121 : decode b_M_row 121 = .ok (.iadd, 1) := by decide +kernel
theorem d_M_row_122 : decode b_M_row 122 = .ok (.iload_n 2, 1) := by decide +kernel
theorem d_M_row_123 : decode b_M_row 123 = .ok (.iastore, 1) := by decide +kernel
theorem d_M_row_124 : decode b_M_row 124 = .ok (.aload_n 0, 1) := by decide +kernel
theorem d_M_row_125 : decode b_M_row 125 = .ok (.getfield 29, 3) := by decide +kernel
theorem d_M_row_128 : decode b_M_row 128 = .ok (.iconst 3, 1) := by decide +kernel
theorem d_M_row_129 : decode b_M_row 129 = .ok (.aload_n 0, 1) := by decide +kernel
theorem d_M_row_130 : decode b_M_row 130 = .ok (.getfield 125, 3) := by decide +kernel
theorem d_M_row_133 : decode b_M_row 133 = .ok (.imul, 1) := by decide +kernel
theorem d_M_row_134 : decode b_M_row 134 = .ok (.iconst 2, 1) := by decide +kernel
theorem d_M_row_135 : decode b_M_row 135 = .ok (.iadd, 1) := by decide +kernel
theorem d_M_row_136 : decode b_M_row 136 = .ok (.iload_n 3, 1) := by decide +kernel
theorem d_M_row_137 : decode b_M_row 137 = .ok (.iastore, 1) := by decide +kernel
theorem d_M_row_138 : decode b_M_row 138 = .ok (.aload_n 0, 1) := by decide +kernel
theorem d_M_row_139 : decode b_M_row 139 = .ok (.dup, 1) := by decide +kernel
theorem d_M_row_140 : decode b_M_row 140 = .ok (.getfield 125, 3) := by decide +kernel
theorem d_M_row_143 : decode b_M_row 143 = .ok (.dup_x1, 1) := by decide +kernel
theorem d_M_row_144 : decode b_M_row 144 = .ok (.iconst 1, 1) := by decide +kernel
theorem d_M_row_145 : decode b_M_row 145 = .ok (.iadd, 1) := by decide +kernel
theorem d_M_row_146 : decode b_M_row 146 = .ok (.putfield 125, 3) := by decide +kernel
theorem d_M_row_149 : decode b_M_row 149 = .ok (.ireturn, 1) := by decide +kernel
theorem d_M_told2_0 : decode b_M_told2 0 = .ok (.aload_n 0, 1) := by decide +kernel
theorem d_M_told2_1 : decode b_M_told2 1 = .ok (.iload_n 1, 1) := by decide +kernel
theorem d_M_told2_2 : decode b_M_told2 2 = .ok (.ifCond .lt 11, 3) := by decide +kernel
theorem d_M_told2_5 : decode b_M_told2 5 = .ok (.iload_n 1, 1) := by decide +kernel
theorem d_M_told2_6 : decode b_M_told2 6 = .ok (.aload_n 0, 1) := by decide +kernel
theorem d_M_told2_7 : decode b_M_told2 7 = .ok (.getfield 125, 3) := by decide +kernel
theorem d_M_told2_10 : decode b_M_told2 10 = .ok (.if_icmp .lt 7, 3) := by decide +kernel
theorem d_M_told2_13 : decode b_M_told2 13 = .ok (.iconst 1, 1) := by decide +kernel
theorem d_M_told2_14 : decode b_M_told2 14 = .ok (.goto 17, 3) := by decide +kernel
theorem d_M_told2_17 : decode b_M_told2 17 = .ok (.iload_n 2, 1) := by decide +kernel
theorem d_M_told2_18 : decode b_M_told2 18 = .ok (.ifCond .lt 8, 3) := by decide +kernel
theorem d_M_told2_21 : decode b_M_told2 21 = .ok (.iload_n 2, 1) := by decide +kernel
theorem d_M_told2_22 : decode b_M_told2 22 = .ok (.iconst 2, 1) := by decide +kernel
theorem d_M_told2_23 : decode b_M_told2 23 = .ok (.if_icmp .le 7, 3) := by decide +kernel
theorem d_M_told2_26 : decode b_M_told2 26 = .ok (.iconst 2, 1) := by decide +kernel
theorem d_M_told2_27 : decode b_M_told2 27 = .ok (.goto 4, 3) := by decide +kernel
theorem d_M_told2_30 : decode b_M_told2 30 = .ok (.iconst 0, 1) := by decide +kernel
theorem d_M_told2_31 : decode b_M_told2 31 = .ok (.invokevirtual 57, 3) := by decide +kernel
theorem d_M_told2_34 : decode b_M_told2 34 = .ok (.ifCond .eq 7, 3) := by decide +kernel
theorem d_M_told2_37 : decode b_M_told2 37 = .ok (.iconst 0, 1) := by decide +kernel
theorem d_M_told2_38 : decode b_M_told2 38 = .ok (.goto 13, 3) := by decide +kernel
theorem d_M_told2_41 : decode b_M_told2 41 = .ok (.aload_n 0, 1) := by decide +kernel
theorem d_M_told2_42 : decode b_M_told2 42 = .ok (.getfield 29, 3) := by decide +kernel
theorem d_M_told2_45 : decode b_M_told2 45 = .ok (.iconst 3, 1) := by decide +kernel
theorem d_M_told2_46 : decode b_M_told2 46 = .ok (.iload_n 1, 1) := by decide +kernel
theorem d_M_told2_47 : decode b_M_told2 47 = .ok (.imul, 1) := by decide +kernel
theorem d_M_told2_48 : decode b_M_told2 48 = .ok (.iload_n 2, 1) := by decide +kernel
theorem d_M_told2_49 : decode b_M_told2 49 = .ok (.iadd, 1) := by decide +kernel
theorem d_M_told2_50 : decode b_M_told2 50 = .ok (.iaload, 1) := by decide +kernel
theorem d_M_told2_51 : decode b_M_told2 51 = .ok (.ireturn, 1) := by decide +kernel
theorem d_M_document_0 : decode b_M_document 0 = .ok (.aload_n 0, 1) := by decide +kernel
theorem d_M_document_1 : decode b_M_document 1 = .ok (.aload_n 0, 1) := by decide +kernel
theorem d_M_document_2 : decode b_M_document 2 = .ok (.iload_n 1, 1) := by decide +kernel
theorem d_M_document_3 : decode b_M_document 3 = .ok (.invokevirtual 89, 3) := by decide +kernel
theorem d_M_document_6 : decode b_M_document 6 = .ok (.ifCond .ne 7, 3) := by decide +kernel
theorem d_M_document_9 : decode b_M_document 9 = .ok (.iload_n 2, 1) := by decide +kernel
theorem d_M_document_10 : decode b_M_document 10 = .ok (.ifCond .ge 7, 3) := by decide +kernel
theorem d_M_document_13 : decode b_M_document 13 = .ok (.iconst 1, 1) := by decide +kernel
theorem d_M_document_14 : decode b_M_document 14 = .ok (.goto 4, 3) := by decide +kernel
theorem d_M_document_17 : decode b_M_document 17 = .ok (.iconst 0, 1) := by decide +kernel
theorem d_M_document_18 : decode b_M_document 18 = .ok (.invokevirtual 57, 3) := by decide +kernel
theorem d_M_document_21 : decode b_M_document 21 = .ok (.ifCond .eq 5, 3) := by decide +kernel
theorem d_M_document_24 : decode b_M_document 24 = .ok (.iconst 0, 1) := by decide +kernel
theorem d_M_document_25 : decode b_M_document 25 = .ok (.ireturn, 1) := by decide +kernel
theorem d_M_document_26 : decode b_M_document 26 = .ok (.iconst 0, 1) := by decide +kernel
theorem d_M_document_27 : decode b_M_document 27 = .ok (.istore_n 3, 1) := by decide +kernel
theorem d_M_document_28 : decode b_M_document 28 = .ok (.iload_n 3, 1) := by decide +kernel
theorem d_M_document_29 : decode b_M_document 29 = .ok (.aload_n 0, 1) := by decide +kernel
theorem d_M_document_30 : decode b_M_document 30 = .ok (.getfield 125, 3) := by decide +kernel
theorem d_M_document_33 : decode b_M_document 33 = .ok (.if_icmp .ge 108, 3) := by decide +kernel
theorem d_M_document_36 : decode b_M_document 36 = .ok (.aload_n 0, 1) := by decide +kernel
theorem d_M_document_37 : decode b_M_document 37 = .ok (.aload_n 0, 1) := by decide +kernel
theorem d_M_document_38 : decode b_M_document 38 = .ok (.getfield 29, 3) := by decide +kernel
theorem d_M_document_41 : decode b_M_document 41 = .ok (.iconst 3, 1) := by decide +kernel
theorem d_M_document_42 : decode b_M_document 42 = .ok (.iload_n 3, 1) := by decide +kernel
theorem d_M_document_43 : decode b_M_document 43 = .ok (.imul, 1) := by decide +kernel
theorem d_M_document_44 : decode b_M_document 44 = .ok (.iaload, 1) := by decide +kernel
theorem d_M_document_45 : decode b_M_document 45 = .ok (.invokevirtual 106, 3) := by decide +kernel
theorem d_M_document_48 : decode b_M_document 48 = .ok (.iload_n 1, 1) := by decide +kernel
theorem d_M_document_49 : decode b_M_document 49 = .ok (.if_icmp .eq 6, 3) := by decide +kernel
theorem d_M_document_52 : decode b_M_document 52 = .ok (.goto 83, 3) := by decide +kernel
theorem d_M_document_55 : decode b_M_document 55 = .ok (.iconst 0, 1) := by decide +kernel
theorem d_M_document_56 : decode b_M_document 56 = .ok (.istore 4, 2) := by decide +kernel
theorem d_M_document_58 : decode b_M_document 58 = .ok (.iconst 0, 1) := by decide +kernel
theorem d_M_document_59 : decode b_M_document 59 = .ok (.istore 5, 2) := by decide +kernel
theorem d_M_document_61 : decode b_M_document 61 = .ok (.iload 5, 2) := by decide +kernel
theorem d_M_document_63 : decode b_M_document 63 = .ok (.aload_n 0, 1) := by decide +kernel
theorem d_M_document_64 : decode b_M_document 64 = .ok (.getfield 125, 3) := by decide +kernel
theorem d_M_document_67 : decode b_M_document 67 = .ok (.if_icmp .ge 60, 3) := by decide +kernel
theorem d_M_document_70 : decode b_M_document 70 = .ok (.iload 4, 2) := by decide +kernel
theorem d_M_document_72 : decode b_M_document 72 = .ok (.aload_n 0, 1) := by decide +kernel
theorem d_M_document_73 : decode b_M_document 73 = .ok (.aload_n 0, 1) := by decide +kernel
theorem d_M_document_74 : decode b_M_document 74 = .ok (.getfield 29, 3) := by decide +kernel
theorem d_M_document_77 : decode b_M_document 77 = .ok (.iconst 3, 1) := by decide +kernel
theorem d_M_document_78 : decode b_M_document 78 = .ok (.iload 5, 2) := by decide +kernel
theorem d_M_document_80 : decode b_M_document 80 = .ok (.imul, 1) := by decide +kernel
theorem d_M_document_81 : decode b_M_document 81 = .ok (.iaload, 1) := by decide +kernel
theorem d_M_document_82 : decode b_M_document 82 = .ok (.invokevirtual 106, 3) := by decide +kernel
theorem d_M_document_85 : decode b_M_document 85 = .ok (.iload_n 1, 1) := by decide +kernel
theorem d_M_document_86 : decode b_M_document 86 = .ok (.if_icmp .ne 31, 3) := by decide +kernel
theorem d_M_document_89 : decode b_M_document 89 = .ok (.aload_n 0, 1) := by decide +kernel
theorem d_M_document_90 : decode b_M_document 90 = .ok (.aload_n 0, 1) := by decide +kernel
theorem d_M_document_91 : decode b_M_document 91 = .ok (.getfield 29, 3) := by decide +kernel
theorem d_M_document_94 : decode b_M_document 94 = .ok (.iconst 3, 1) := by decide +kernel
theorem d_M_document_95 : decode b_M_document 95 = .ok (.iload 5, 2) := by decide +kernel
theorem d_M_document_97 : decode b_M_document 97 = .ok (.imul, 1) := by decide +kernel
theorem d_M_document_98 : decode b_M_document 98 = .ok (.iaload, 1) := by decide +kernel
theorem d_M_document_99 : decode b_M_document 99 = .ok (.aload_n 0, 1) := by decide +kernel
theorem d_M_document_100 : decode b_M_document 100 = .ok (.getfield 29, 3) := by decide +kernel
theorem d_M_document_103 : decode b_M_document 103 = .ok (.iconst 3, 1) := by decide +kernel
theorem d_M_document_104 : decode b_M_document 104 = .ok (.iload_n 3, 1) := by decide +kernel
theorem d_M_document_105 : decode b_M_document 105 = .ok (.imul, 1) := by decide +kernel
theorem d_M_document_106 : decode b_M_document 106 = .ok (.iaload, 1) := by decide +kernel
theorem d_M_document_107 : decode b_M_document 107 = .ok (.invokevirtual 110, 3) := by decide +kernel
theorem d_M_document_110 : decode b_M_document 110 = .ok (.ifCond .eq 7, 3) := by decide +kernel
theorem d_M_document_113 : decode b_M_document 113 = .ok (.iconst 1, 1) := by decide +kernel
theorem d_M_document_114 : decode b_M_document 114 = .ok (.goto 4, 3) := by decide +kernel
theorem d_M_document_117 : decode b_M_document 117 = .ok (.iconst 0, 1) := by decide +kernel
theorem d_M_document_118 : decode b_M_document 118 = .ok (.iadd, 1) := by decide +kernel
theorem d_M_document_119 : decode b_M_document 119 = .ok (.istore 4, 2) := by decide +kernel
theorem d_M_document_121 : decode b_M_document 121 = .ok (.iinc 5 1, 3) := by decide +kernel
theorem d_M_document_124 : decode b_M_document 124 = .ok (.goto (-63), 3) := by decide +kernel
theorem d_M_document_127 : decode b_M_document 127 = .ok (.iload 4, 2) := by decide +kernel
theorem d_M_document_129 : decode b_M_document 129 = .ok (.iload_n 2, 1) := by decide +kernel
theorem d_M_document_130 : decode b_M_document 130 = .ok (.if_icmp .ne 5, 3) := by decide +kernel
theorem d_M_document_133 : decode b_M_document 133 = .ok (.iload_n 3, 1) := by decide +kernel
theorem d_M_document_134 : decode b_M_document 134 = .ok (.ireturn, 1) := by decide +kernel
theorem d_M_document_135 : decode b_M_document 135 = .ok (.iinc 3 1, 3) := by decide +kernel
theorem d_M_document_138 : decode b_M_document 138 = .ok (.goto (-110), 3) := by decide +kernel
theorem d_M_document_141 : decode b_M_document 141 = .ok (.iconst (-1), 1) := by decide +kernel
theorem d_M_document_142 : decode b_M_document 142 = .ok (.ireturn, 1) := by decide +kernel
theorem d_M_use_0 : decode b_M_use 0 = .ok (.aload_n 0, 1) := by decide +kernel
theorem d_M_use_1 : decode b_M_use 1 = .ok (.aload_n 0, 1) := by decide +kernel
theorem d_M_use_2 : decode b_M_use 2 = .ok (.iload_n 1, 1) := by decide +kernel
theorem d_M_use_3 : decode b_M_use 3 = .ok (.invokevirtual 89, 3) := by decide +kernel
theorem d_M_use_6 : decode b_M_use 6 = .ok (.ifCond .eq 7, 3) := by decide +kernel
theorem d_M_use_9 : decode b_M_use 9 = .ok (.iconst 1, 1) := by decide +kernel
theorem d_M_use_10 : decode b_M_use 10 = .ok (.goto 4, 3) := by decide +kernel
theorem d_M_use_13 : decode b_M_use 13 = .ok (.iconst 0, 1) := by decide +kernel
theorem d_M_use_14 : decode b_M_use 14 = .ok (.invokevirtual 57, 3) := by decide +kernel
theorem d_M_use_17 : decode b_M_use 17 = .ok (.ifCond .eq 7, 3) := by decide +kernel
theorem d_M_use_20 : decode b_M_use 20 = .ok (.iconst 0, 1) := by decide +kernel
theorem d_M_use_21 : decode b_M_use 21 = .ok (.goto 14, 3) := by decide +kernel
theorem d_M_use_24 : decode b_M_use 24 = .ok (.aload_n 0, 1) := by decide +kernel
theorem d_M_use_25 : decode b_M_use 25 = .ok (.getfield 23, 3) := by decide +kernel
theorem d_M_use_28 : decode b_M_use 28 = .ok (.iload_n 1, 1) := by decide +kernel
theorem d_M_use_29 : decode b_M_use 29 = .ok (.dup2, 1) := by decide +kernel
theorem d_M_use_30 : decode b_M_use 30 = .ok (.iaload, 1) := by decide +kernel
theorem d_M_use_31 : decode b_M_use 31 = .ok (.iconst 1, 1) := by decide +kernel
theorem d_M_use_32 : decode b_M_use 32 = .ok (.iadd, 1) := by decide +kernel
theorem d_M_use_33 : decode b_M_use 33 = .ok (.dup_x2, 1) := by decide +kernel
theorem d_M_use_34 : decode b_M_use 34 = .ok (.iastore, 1) := by decide +kernel
theorem d_M_use_35 : decode b_M_use 35 = .ok (.ireturn, 1) := by decide +kernel
theorem d_M_used_0 : decode b_M_used 0 = .ok (.aload_n 0, 1) := by decide +kernel
theorem d_M_used_1 : decode b_M_used 1 = .ok (.aload_n 0, 1) := by decide +kernel
theorem d_M_used_2 : decode b_M_used 2 = .ok (.iload_n 1, 1) := by decide +kernel
theorem d_M_used_3 : decode b_M_used 3 = .ok (.invokevirtual 89, 3) := by decide +kernel
theorem d_M_used_6 : decode b_M_used 6 = .ok (.ifCond .eq 7, 3) := by decide +kernel
theorem d_M_used_9 : decode b_M_used 9 = .ok (.iconst 1, 1) := by decide +kernel
theorem d_M_used_10 : decode b_M_used 10 = .ok (.goto 4, 3) := by decide +kernel
theorem d_M_used_13 : decode b_M_used 13 = .ok (.iconst 0, 1) := by decide +kernel
theorem d_M_used_14 : decode b_M_used 14 = .ok (.invokevirtual 57, 3) := by decide +kernel
theorem d_M_used_17 : decode b_M_used 17 = .ok (.ifCond .eq 7, 3) := by decide +kernel
theorem d_M_used_20 : decode b_M_used 20 = .ok (.iconst 0, 1) := by decide +kernel
theorem d_M_used_21 : decode b_M_used 21 = .ok (.goto 9, 3) := by decide +kernel
theorem d_M_used_24 : decode b_M_used 24 = .ok (.aload_n 0, 1) := by decide +kernel
theorem d_M_used_25 : decode b_M_used 25 = .ok (.getfield 23, 3) := by decide +kernel
theorem d_M_used_28 : decode b_M_used 28 = .ok (.iload_n 1, 1) := by decide +kernel
theorem d_M_used_29 : decode b_M_used 29 = .ok (.iaload, 1) := by decide +kernel
theorem d_M_used_30 : decode b_M_used 30 = .ok (.ireturn, 1) := by decide +kernel
theorem d_M_isUnknown_0 : decode b_M_isUnknown 0 = .ok (.aload_n 0, 1) := by decide +kernel
theorem d_M_isUnknown_1 : decode b_M_isUnknown 1 = .ok (.getfield 23, 3) := by decide +kernel
theorem d_M_isUnknown_4 : decode b_M_isUnknown 4 = .ok (.iload_n 1, 1) := by decide +kernel
theorem d_M_isUnknown_5 : decode b_M_isUnknown 5 = .ok (.iaload, 1) := by decide +kernel
theorem d_M_isUnknown_6 : decode b_M_isUnknown 6 = .ok (.ifCond .ne 7, 3) := by decide +kernel
theorem d_M_isUnknown_9 : decode b_M_isUnknown 9 = .ok (.iconst (-1), 1) := by decide +kernel
theorem d_M_isUnknown_10 : decode b_M_isUnknown 10 = .ok (.goto 8, 3) := by decide +kernel
theorem d_M_isUnknown_13 : decode b_M_isUnknown 13 = .ok (.aload_n 0, 1) := by decide +kernel
theorem d_M_isUnknown_14 : decode b_M_isUnknown 14 = .ok (.iload_n 1, 1) := by decide +kernel
theorem d_M_isUnknown_15 : decode b_M_isUnknown 15 = .ok (.invokevirtual 106, 3) := by decide +kernel
theorem d_M_isUnknown_18 : decode b_M_isUnknown 18 = .ok (.istore_n 2, 1) := by decide +kernel
theorem d_M_isUnknown_19 : decode b_M_isUnknown 19 = .ok (.iconst 0, 1) := by decide +kernel
theorem d_M_isUnknown_20 : decode b_M_isUnknown 20 = .ok (.istore_n 3, 1) := by decide +kernel
theorem d_M_isUnknown_21 : decode b_M_isUnknown 21 = .ok (.iconst 0, 1) := by decide +kernel
theorem d_M_isUnknown_22 : decode b_M_isUnknown 22 = .ok (.istore 4, 2) := by decide +kernel
theorem d_M_isUnknown_24 : decode b_M_isUnknown 24 = .ok (.iload 4, 2) := by decide +kernel
theorem d_M_isUnknown_26 : decode b_M_isUnknown 26 = .ok (.aload_n 0, 1) := by decide +kernel
theorem d_M_isUnknown_27 : decode b_M_isUnknown 27 = .ok (.getfield 125, 3) := by decide +kernel
theorem d_M_isUnknown_30 : decode b_M_isUnknown 30 = .ok (.if_icmp .ge 53, 3) := by decide +kernel
theorem d_M_isUnknown_33 : decode b_M_isUnknown 33 = .ok (.iload_n 2, 1) := by decide +kernel
theorem d_M_isUnknown_34 : decode b_M_isUnknown 34 = .ok (.ifCond .lt 49, 3) := by decide +kernel
theorem d_M_isUnknown_37 : decode b_M_isUnknown 37 = .ok (.aload_n 0, 1) := by decide +kernel
theorem d_M_isUnknown_38 : decode b_M_isUnknown 38 = .ok (.getfield 29, 3) := by decide +kernel
theorem d_M_isUnknown_41 : decode b_M_isUnknown 41 = .ok (.iconst 3, 1) := by decide +kernel
theorem d_M_isUnknown_42 : decode b_M_isUnknown 42 = .ok (.iload 4, 2) := by decide +kernel
theorem d_M_isUnknown_44 : decode b_M_isUnknown 44 = .ok (.imul, 1) := by decide +kernel
theorem d_M_isUnknown_45 : decode b_M_isUnknown 45 = .ok (.iaload, 1) := by decide +kernel
theorem d_M_isUnknown_46 : decode b_M_isUnknown 46 = .ok (.iload_n 1, 1) := by decide +kernel
theorem d_M_isUnknown_47 : decode b_M_isUnknown 47 = .ok (.if_icmp .ne 5, 3) := by decide +kernel
theorem d_M_isUnknown_50 : decode b_M_isUnknown 50 = .ok (.iconst 0, 1) := by decide +kernel
theorem d_M_isUnknown_51 : decode b_M_isUnknown 51 = .ok (.ireturn, 1) := by decide +kernel
theorem d_M_isUnknown_52 : decode b_M_isUnknown 52 = .ok (.iload_n 3, 1) := by decide +kernel
theorem d_M_isUnknown_53 : decode b_M_isUnknown 53 = .ok (.aload_n 0, 1) := by decide +kernel
theorem d_M_isUnknown_54 : decode b_M_isUnknown 54 = .ok (.aload_n 0, 1) := by decide +kernel
theorem d_M_isUnknown_55 : decode b_M_isUnknown 55 = .ok (.getfield 29, 3) := by decide +kernel
theorem d_M_isUnknown_58 : decode b_M_isUnknown 58 = .ok (.iconst 3, 1) := by decide +kernel
theorem d_M_isUnknown_59 : decode b_M_isUnknown 59 = .ok (.iload 4, 2) := by decide +kernel
theorem d_M_isUnknown_61 : decode b_M_isUnknown 61 = .ok (.imul, 1) := by decide +kernel
theorem d_M_isUnknown_62 : decode b_M_isUnknown 62 = .ok (.iaload, 1) := by decide +kernel
theorem d_M_isUnknown_63 : decode b_M_isUnknown 63 = .ok (.invokevirtual 106, 3) := by decide +kernel
theorem d_M_isUnknown_66 : decode b_M_isUnknown 66 = .ok (.iload_n 2, 1) := by decide +kernel
theorem d_M_isUnknown_67 : decode b_M_isUnknown 67 = .ok (.if_icmp .ne 7, 3) := by decide +kernel
theorem d_M_isUnknown_70 : decode b_M_isUnknown 70 = .ok (.iconst 1, 1) := by decide +kernel
theorem d_M_isUnknown_71 : decode b_M_isUnknown 71 = .ok (.goto 4, 3) := by decide +kernel
theorem d_M_isUnknown_74 : decode b_M_isUnknown 74 = .ok (.iconst 0, 1) := by decide +kernel
theorem d_M_isUnknown_75 : decode b_M_isUnknown 75 = .ok (.ior, 1) := by decide +kernel
theorem d_M_isUnknown_76 : decode b_M_isUnknown 76 = .ok (.istore_n 3, 1) := by decide +kernel
theorem d_M_isUnknown_77 : decode b_M_isUnknown 77 = .ok (.iinc 4 1, 3) := by decide +kernel
theorem d_M_isUnknown_80 : decode b_M_isUnknown 80 = .ok (.goto (-56), 3) := by decide +kernel
theorem d_M_isUnknown_83 : decode b_M_isUnknown 83 = .ok (.iload_n 3, 1) := by decide +kernel
theorem d_M_isUnknown_84 : decode b_M_isUnknown 84 = .ok (.ireturn, 1) := by decide +kernel
theorem d_M_unknown_0 : decode b_M_unknown 0 = .ok (.aload_n 0, 1) := by decide +kernel
theorem d_M_unknown_1 : decode b_M_unknown 1 = .ok (.iload_n 1, 1) := by decide +kernel
theorem d_M_unknown_2 : decode b_M_unknown 2 = .ok (.ifCond .ge 7, 3) := by decide +kernel
theorem d_M_unknown_5 : decode b_M_unknown 5 = .ok (.iconst 1, 1) := by decide +kernel
theorem d_M_unknown_6 : decode b_M_unknown 6 = .ok (.goto 4, 3) := by decide +kernel
theorem d_M_unknown_9 : decode b_M_unknown 9 = .ok (.iconst 0, 1) := by decide +kernel
theorem d_M_unknown_10 : decode b_M_unknown 10 = .ok (.invokevirtual 57, 3) := by decide +kernel
theorem d_M_unknown_13 : decode b_M_unknown 13 = .ok (.ifCond .eq 5, 3) := by decide +kernel
theorem d_M_unknown_16 : decode b_M_unknown 16 = .ok (.iconst 0, 1) := by decide +kernel
theorem d_M_unknown_17 : decode b_M_unknown 17 = .ok (.ireturn, 1) := by decide +kernel
theorem d_M_unknown_18 : decode b_M_unknown 18 = .ok (.iload_n 1, 1) := by decide +kernel
theorem d_M_unknown_19 : decode b_M_unknown 19 = .ok (.istore_n 2, 1) := by decide +kernel
theorem d_M_unknown_20 : decode b_M_unknown 20 = .ok (.iconst 0, 1) := by decide +kernel
theorem d_M_unknown_21 : decode b_M_unknown 21 = .ok (.istore_n 3, 1) := by decide +kernel
theorem d_M_unknown_22 : decode b_M_unknown 22 = .ok (.iload_n 3, 1) := by decide +kernel
theorem d_M_unknown_23 : decode b_M_unknown 23 = .ok (.aload_n 0, 1) := by decide +kernel
theorem d_M_unknown_24 : decode b_M_unknown 24 = .ok (.getfield 51, 3) := by decide +kernel
theorem d_M_unknown_27 : decode b_M_unknown 27 = .ok (.if_icmp .ge 26, 3) := by decide +kernel
theorem d_M_unknown_30 : decode b_M_unknown 30 = .ok (.aload_n 0, 1) := by decide +kernel
theorem d_M_unknown_31 : decode b_M_unknown 31 = .ok (.iload_n 3, 1) := by decide +kernel
theorem d_M_unknown_32 : decode b_M_unknown 32 = .ok (.invokevirtual 131, 3) := by decide +kernel
theorem d_M_unknown_35 : decode b_M_unknown 35 = .ok (.ifCond .eq 12, 3) := by decide +kernel
theorem d_M_unknown_38 : decode b_M_unknown 38 = .ok (.iload_n 2, 1) := by decide +kernel
theorem d_M_unknown_39 : decode b_M_unknown 39 = .ok (.iinc 2 (-1), 3) := by decide +kernel
theorem d_M_unknown_42 : decode b_M_unknown 42 = .ok (.ifCond .ne 5, 3) := by decide +kernel
theorem d_M_unknown_45 : decode b_M_unknown 45 = .ok (.iload_n 3, 1) := by decide +kernel
theorem d_M_unknown_46 : decode b_M_unknown 46 = .ok (.ireturn, 1) := by decide +kernel
theorem d_M_unknown_47 : decode b_M_unknown 47 = .ok (.iinc 3 1, 3) := by decide +kernel
theorem d_M_unknown_50 : decode b_M_unknown 50 = .ok (.goto (-28), 3) := by decide +kernel
theorem d_M_unknown_53 : decode b_M_unknown 53 = .ok (.iconst (-1), 1) := by decide +kernel
theorem d_M_unknown_54 : decode b_M_unknown 54 = .ok (.ireturn, 1) := by decide +kernel
theorem d_M_distance_0 : decode b_M_distance 0 = .ok (.iconst 0, 1) := by decide +kernel
theorem d_M_distance_1 : decode b_M_distance 1 = .ok (.istore_n 3, 1) := by decide +kernel
theorem d_M_distance_2 : decode b_M_distance 2 = .ok (.iload_n 3, 1) := by decide +kernel
theorem d_M_distance_3 : decode b_M_distance 3 = .ok (.aload_n 0, 1) := by decide +kernel
theorem d_M_distance_4 : decode b_M_distance 4 = .ok (.getfield 16, 3) := by decide +kernel
theorem d_M_distance_7 : decode b_M_distance 7 = .ok (.iload_n 2, 1) := by decide +kernel
theorem d_M_distance_8 : decode b_M_distance 8 = .ok (.iaload, 1) := by decide +kernel
theorem d_M_distance_9 : decode b_M_distance 9 = .ok (.if_icmp .gt 16, 3) := by decide +kernel
theorem d_M_distance_12 : decode b_M_distance 12 = .ok (.aload_n 0, 1) := by decide +kernel
theorem d_M_distance_13 : decode b_M_distance 13 = .ok (.getfield 44, 3) := by decide +kernel
theorem d_M_distance_16 : decode b_M_distance 16 = .ok (.iload_n 3, 1) := by decide +kernel
theorem d_M_distance_17 : decode b_M_distance 17 = .ok (.iload_n 3, 1) := by decide +kernel
theorem d_M_distance_18 : decode b_M_distance 18 = .ok (.iastore, 1) := by decide +kernel
theorem d_M_distance_19 : decode b_M_distance 19 = .ok (.iinc 3 1, 3) := by decide +kernel
theorem d_M_distance_22 : decode b_M_distance 22 = .ok (.goto (-20), 3) := by decide +kernel
theorem d_M_distance_25 : decode b_M_distance 25 = .ok (.iconst 1, 1) := by decide +kernel
theorem d_M_distance_26 : decode b_M_distance 26 = .ok (.istore_n 3, 1) := by decide +kernel
theorem d_M_distance_27 : decode b_M_distance 27 = .ok (.iload_n 3, 1) := by decide +kernel
theorem d_M_distance_28 : decode b_M_distance 28 = .ok (.aload_n 0, 1) := by decide +kernel
theorem d_M_distance_29 : decode b_M_distance 29 = .ok (.getfield 16, 3) := by decide +kernel
theorem d_M_distance_32 : decode b_M_distance 32 = .ok (.iload_n 1, 1) := by decide +kernel
theorem d_M_distance_33 : decode b_M_distance 33 = .ok (.iaload, 1) := by decide +kernel
theorem d_M_distance_34 : decode b_M_distance 34 = .ok (.if_icmp .gt 146, 3) := by decide +kernel
theorem d_M_distance_37 : decode b_M_distance 37 = .ok (.aload_n 0, 1) := by decide +kernel
theorem d_M_distance_38 : decode b_M_distance 38 = .ok (.getfield 44, 3) := by decide +kernel
theorem d_M_distance_41 : decode b_M_distance 41 = .ok (.iconst 0, 1) := by decide +kernel
theorem d_M_distance_42 : decode b_M_distance 42 = .ok (.iaload, 1) := by decide +kernel
theorem d_M_distance_43 : decode b_M_distance 43 = .ok (.istore 4, 2) := by decide +kernel
theorem d_M_distance_45 : decode b_M_distance 45 = .ok (.aload_n 0, 1) := by decide +kernel
theorem d_M_distance_46 : decode b_M_distance 46 = .ok (.getfield 44, 3) := by decide +kernel
theorem d_M_distance_49 : decode b_M_distance 49 = .ok (.iconst 0, 1) := by decide +kernel
theorem d_M_distance_50 : decode b_M_distance 50 = .ok (.iload_n 3, 1) := by decide +kernel
theorem d_M_distance_51 : decode b_M_distance 51 = .ok (.iastore, 1) := by decide +kernel
theorem d_M_distance_52 : decode b_M_distance 52 = .ok (.iconst 1, 1) := by decide +kernel
theorem d_M_distance_53 : decode b_M_distance 53 = .ok (.istore 5, 2) := by decide +kernel
theorem d_M_distance_55 : decode b_M_distance 55 = .ok (.iload 5, 2) := by decide +kernel
theorem d_M_distance_57 : decode b_M_distance 57 = .ok (.aload_n 0, 1) := by decide +kernel
theorem d_M_distance_58 : decode b_M_distance 58 = .ok (.getfield 16, 3) := by decide +kernel
theorem d_M_distance_61 : decode b_M_distance 61 = .ok (.iload_n 2, 1) := by decide +kernel
theorem d_M_distance_62 : decode b_M_distance 62 = .ok (.iaload, 1) := by decide +kernel
theorem d_M_distance_63 : decode b_M_distance 63 = .ok (.if_icmp .gt 111, 3) := by decide +kernel
theorem d_M_distance_66 : decode b_M_distance 66 = .ok (.aload_n 0, 1) := by decide +kernel
theorem d_M_distance_67 : decode b_M_distance 67 = .ok (.getfield 44, 3) := by decide +kernel
theorem d_M_distance_70 : decode b_M_distance 70 = .ok (.iload 5, 2) := by decide +kernel
theorem d_M_distance_72 : decode b_M_distance 72 = .ok (.iaload, 1) := by decide +kernel
theorem d_M_distance_73 : decode b_M_distance 73 = .ok (.aload_n 0, 1) := by decide +kernel
theorem d_M_distance_74 : decode b_M_distance 74 = .ok (.getfield 44, 3) := by decide +kernel
theorem d_M_distance_77 : decode b_M_distance 77 = .ok (.iload 5, 2) := by decide +kernel
theorem d_M_distance_79 : decode b_M_distance 79 = .ok (.iconst 1, 1) := by decide +kernel
theorem d_M_distance_80 : decode b_M_distance 80 = .ok (.isub, 1) := by decide +kernel
theorem d_M_distance_81 : decode b_M_distance 81 = .ok (.iaload, 1) := by decide +kernel
theorem d_M_distance_82 : decode b_M_distance 82 = .ok (.if_icmp .ge 13, 3) := by decide +kernel
theorem d_M_distance_85 : decode b_M_distance 85 = .ok (.aload_n 0, 1) := by decide +kernel
theorem d_M_distance_86 : decode b_M_distance 86 = .ok (.getfield 44, 3) := by decide +kernel
theorem d_M_distance_89 : decode b_M_distance 89 = .ok (.iload 5, 2) := by decide +kernel
theorem d_M_distance_91 : decode b_M_distance 91 = .ok (.iaload, 1) := by decide +kernel
theorem d_M_distance_92 : decode b_M_distance 92 = .ok (.goto 12, 3) := by decide +kernel
theorem d_M_distance_95 : decode b_M_distance 95 = .ok (.aload_n 0, 1) := by decide +kernel
theorem d_M_distance_96 : decode b_M_distance 96 = .ok (.getfield 44, 3) := by decide +kernel
theorem d_M_distance_99 : decode b_M_distance 99 = .ok (.iload 5, 2) := by decide +kernel
theorem d_M_distance_101 : decode b_M_distance 101 = .ok (.iconst 1, 1) := by decide +kernel
theorem d_M_distance_102 : decode b_M_distance 102 = .ok (.isub, 1) := by decide +kernel
theorem d_M_distance_103 : decode b_M_distance 103 = .ok (.iaload, 1) := by decide +kernel
theorem d_M_distance_104 : decode b_M_distance 104 = .ok (.iconst 1, 1) := by decide +kernel
theorem d_M_distance_105 : decode b_M_distance 105 = .ok (.iadd, 1) := by decide +kernel
theorem d_M_distance_106 : decode b_M_distance 106 = .ok (.istore 6, 2) := by decide +kernel
theorem d_M_distance_108 : decode b_M_distance 108 = .ok (.iload 4, 2) := by decide +kernel
theorem d_M_distance_110 : decode b_M_distance 110 = .ok (.aload_n 0, 1) := by decide +kernel
theorem d_M_distance_111 : decode b_M_distance 111 = .ok (.iload_n 1, 1) := by decide +kernel
theorem d_M_distance_112 : decode b_M_distance 112 = .ok (.iload_n 3, 1) := by decide +kernel
theorem d_M_distance_113 : decode b_M_distance 113 = .ok (.iconst 1, 1) := by decide +kernel
theorem d_M_distance_114 : decode b_M_distance 114 = .ok (.isub, 1) := by decide +kernel
theorem d_M_distance_115 : decode b_M_distance 115 = .ok (.invokevirtual 64, 3) := by decide +kernel
theorem d_M_distance_118 : decode b_M_distance 118 = .ok (.aload_n 0, 1) := by decide +kernel
theorem d_M_distance_119 : decode b_M_distance 119 = .ok (.iload_n 2, 1) := by decide +kernel
theorem d_M_distance_120 : decode b_M_distance 120 = .ok (.iload 5, 2) := by decide +kernel
theorem d_M_distance_122 : decode b_M_distance 122 = .ok (.iconst 1, 1) := by decide +kernel
theorem d_M_distance_123 : decode b_M_distance 123 = .ok (.isub, 1) := by decide +kernel
theorem d_M_distance_124 : decode b_M_distance 124 = .ok (.invokevirtual 64, 3) := by decide +kernel
theorem d_M_distance_127 : decode b_M_distance 127 = .ok (.if_icmp .ne 7, 3) := by decide +kernel
theorem d_M_distance_130 : decode b_M_distance 130 = .ok (.iconst 0, 1) := by decide +kernel
theorem d_M_distance_131 : decode b_M_distance 131 = .ok (.goto 4, 3) := by decide +kernel
theorem d_M_distance_134 : decode b_M_distance 134 = .ok (.iconst 1, 1) := by decide +kernel
theorem d_M_distance_135 : decode b_M_distance 135 = .ok (.iadd, 1) := by decide +kernel
theorem d_M_distance_136 : decode b_M_distance 136 = .ok (.istore 7, 2) := by decide +kernel
theorem d_M_distance_138 : decode b_M_distance 138 = .ok (.aload_n 0, 1) := by decide +kernel
theorem d_M_distance_139 : decode b_M_distance 139 = .ok (.getfield 44, 3) := by decide +kernel
theorem d_M_distance_142 : decode b_M_distance 142 = .ok (.iload 5, 2) := by decide +kernel
theorem d_M_distance_144 : decode b_M_distance 144 = .ok (.iaload, 1) := by decide +kernel
theorem d_M_distance_145 : decode b_M_distance 145 = .ok (.istore 4, 2) := by decide +kernel
theorem d_M_distance_147 : decode b_M_distance 147 = .ok (.aload_n 0, 1) := by decide +kernel
theorem d_M_distance_148 : decode b_M_distance 148 = .ok (.getfield 44, 3) := by decide +kernel
theorem d_M_distance_151 : decode b_M_distance 151 = .ok (.iload 5, 2) := by decide +kernel
theorem d_M_distance_153 : decode b_M_distance 153 = .ok (.iload 6, 2) := by decide +kernel
theorem d_M_distance_155 : decode b_M_distance 155 = .ok (.iload 7, 2) := by decide +kernel
theorem d_M_distance_157 : decode b_M_distance 157 = .ok (.if_icmp .ge 8, 3) := by decide +kernel
theorem d_M_distance_160 : decode b_M_distance 160 = .ok (.iload 6, 2) := by decide +kernel
theorem d_M_distance_162 : decode b_M_distance 162 = .ok (.goto 5, 3) := by decide +kernel
theorem d_M_distance_165 : decode b_M_distance 165 = .ok (.iload 7, 2) := by decide +kernel
theorem d_M_distance_167 : decode b_M_distance 167 = .ok (.iastore, 1) := by decide +kernel
theorem d_M_distance_168 : decode b_M_distance 168 = .ok (.iinc 5 1, 3) := by decide +kernel
theorem d_M_distance_171 : decode b_M_distance 171 = .ok (.goto (-116), 3) := by decide +kernel
theorem d_M_distance_174 : decode b_M_distance 174 = .ok (.iinc 3 1, 3) := by decide +kernel
theorem d_M_distance_177 : decode b_M_distance 177 = .ok (.goto (-150), 3) := by decide +kernel
theorem d_M_distance_180 : decode b_M_distance 180 = .ok (.aload_n 0, 1) := by decide +kernel
theorem d_M_distance_181 : decode b_M_distance 181 = .ok (.getfield 44, 3) := by decide +kernel
theorem d_M_distance_184 : decode b_M_distance 184 = .ok (.aload_n 0, 1) := by decide +kernel
theorem d_M_distance_185 : decode b_M_distance 185 = .ok (.getfield 16, 3) := by decide +kernel
theorem d_M_distance_188 : decode b_M_distance 188 = .ok (.iload_n 2, 1) := by decide +kernel
theorem d_M_distance_189 : decode b_M_distance 189 = .ok (.iaload, 1) := by decide +kernel
theorem d_M_distance_190 : decode b_M_distance 190 = .ok (.iaload, 1) := by decide +kernel
theorem d_M_distance_191 : decode b_M_distance 191 = .ok (.ireturn, 1) := by decide +kernel
theorem d_M_apart_0 : decode b_M_apart 0 = .ok (.aload_n 0, 1) := by decide +kernel
theorem d_M_apart_1 : decode b_M_apart 1 = .ok (.aload_n 0, 1) := by decide +kernel
theorem d_M_apart_2 : decode b_M_apart 2 = .ok (.iload_n 1, 1) := by decide +kernel
theorem d_M_apart_3 : decode b_M_apart 3 = .ok (.invokevirtual 89, 3) := by decide +kernel
theorem d_M_apart_6 : decode b_M_apart 6 = .ok (.ifCond .ne 11, 3) := by decide +kernel
theorem d_M_apart_9 : decode b_M_apart 9 = .ok (.aload_n 0, 1) := by decide +kernel
theorem d_M_apart_10 : decode b_M_apart 10 = .ok (.iload_n 2, 1) := by decide +kernel
theorem d_M_apart_11 : decode b_M_apart 11 = .ok (.invokevirtual 89, 3) := by decide +kernel
theorem d_M_apart_14 : decode b_M_apart 14 = .ok (.ifCond .eq 7, 3) := by decide +kernel
theorem d_M_apart_17 : decode b_M_apart 17 = .ok (.iconst 1, 1) := by decide +kernel
theorem d_M_apart_18 : decode b_M_apart 18 = .ok (.goto 4, 3) := by decide +kernel
theorem d_M_apart_21 : decode b_M_apart 21 = .ok (.iconst 0, 1) := by decide +kernel
theorem d_M_apart_22 : decode b_M_apart 22 = .ok (.invokevirtual 57, 3) := by decide +kernel
theorem d_M_apart_25 : decode b_M_apart 25 = .ok (.ifCond .eq 7, 3) := by decide +kernel
theorem d_M_apart_28 : decode b_M_apart 28 = .ok (.iconst 0, 1) := by decide +kernel
theorem d_M_apart_29 : decode b_M_apart 29 = .ok (.goto 9, 3) := by decide +kernel
theorem d_M_apart_32 : decode b_M_apart 32 = .ok (.aload_n 0, 1) := by decide +kernel
theorem d_M_apart_33 : decode b_M_apart 33 = .ok (.iload_n 1, 1) := by decide +kernel
theorem d_M_apart_34 : decode b_M_apart 34 = .ok (.iload_n 2, 1) := by decide +kernel
theorem d_M_apart_35 : decode b_M_apart 35 = .ok (.invokevirtual 134, 3) := by decide +kernel
theorem d_M_apart_38 : decode b_M_apart 38 = .ok (.ireturn, 1) := by decide +kernel
theorem d_M_near_0 : decode b_M_near 0 = .ok (.aload_n 0, 1) := by decide +kernel
theorem d_M_near_1 : decode b_M_near 1 = .ok (.aload_n 0, 1) := by decide +kernel
theorem d_M_near_2 : decode b_M_near 2 = .ok (.iload_n 1, 1) := by decide +kernel
theorem d_M_near_3 : decode b_M_near 3 = .ok (.invokevirtual 89, 3) := by decide +kernel
theorem d_M_near_6 : decode b_M_near 6 = .ok (.ifCond .ne 7, 3) := by decide +kernel
theorem d_M_near_9 : decode b_M_near 9 = .ok (.iload_n 2, 1) := by decide +kernel
theorem d_M_near_10 : decode b_M_near 10 = .ok (.ifCond .ge 7, 3) := by decide +kernel
theorem d_M_near_13 : decode b_M_near 13 = .ok (.iconst 1, 1) := by decide +kernel
theorem d_M_near_14 : decode b_M_near 14 = .ok (.goto 4, 3) := by decide +kernel
theorem d_M_near_17 : decode b_M_near 17 = .ok (.iconst 0, 1) := by decide +kernel
theorem d_M_near_18 : decode b_M_near 18 = .ok (.invokevirtual 57, 3) := by decide +kernel
theorem d_M_near_21 : decode b_M_near 21 = .ok (.ifCond .eq 5, 3) := by decide +kernel
theorem d_M_near_24 : decode b_M_near 24 = .ok (.iconst 0, 1) := by decide +kernel
theorem d_M_near_25 : decode b_M_near 25 = .ok (.ireturn, 1) := by decide +kernel
theorem d_M_near_26 : decode b_M_near 26 = .ok (.iload_n 2, 1) := by decide +kernel
theorem d_M_near_27 : decode b_M_near 27 = .ok (.istore_n 3, 1) := by decide +kernel
theorem d_M_near_28 : decode b_M_near 28 = .ok (.iconst 0, 1) := by decide +kernel
theorem d_M_near_29 : decode b_M_near 29 = .ok (.istore 4, 2) := by decide +kernel
theorem d_M_near_31 : decode b_M_near 31 = .ok (.iload 4, 2) := by decide +kernel
theorem d_M_near_33 : decode b_M_near 33 = .ok (.bipush 24, 2) := by decide +kernel
theorem d_M_near_35 : decode b_M_near 35 = .ok (.if_icmp .gt 56, 3) := by decide +kernel
theorem d_M_near_38 : decode b_M_near 38 = .ok (.iconst 0, 1) := by decide +kernel
theorem d_M_near_39 : decode b_M_near 39 = .ok (.istore 5, 2) := by decide +kernel
theorem d_M_near_41 : decode b_M_near 41 = .ok (.iload 5, 2) := by decide +kernel
theorem d_M_near_43 : decode b_M_near 43 = .ok (.aload_n 0, 1) := by decide +kernel
theorem d_M_near_44 : decode b_M_near 44 = .ok (.getfield 125, 3) := by decide +kernel
theorem d_M_near_47 : decode b_M_near 47 = .ok (.if_icmp .ge 38, 3) := by decide +kernel
theorem d_M_near_50 : decode b_M_near 50 = .ok (.aload_n 0, 1) := by decide +kernel
theorem d_M_near_51 : decode b_M_near 51 = .ok (.iload_n 1, 1) := by decide +kernel
theorem d_M_near_52 : decode b_M_near 52 = .ok (.aload_n 0, 1) := by decide +kernel
theorem d_M_near_53 : decode b_M_near 53 = .ok (.getfield 29, 3) := by decide +kernel
theorem d_M_near_56 : decode b_M_near 56 = .ok (.iconst 3, 1) := by decide +kernel
theorem d_M_near_57 : decode b_M_near 57 = .ok (.iload 5, 2) := by decide +kernel
theorem d_M_near_59 : decode b_M_near 59 = .ok (.imul, 1) := by decide +kernel
theorem d_M_near_60 : decode b_M_near 60 = .ok (.iaload, 1) := by decide +kernel
theorem d_M_near_61 : decode b_M_near 61 = .ok (.invokevirtual 134, 3) := by decide +kernel
theorem d_M_near_64 : decode b_M_near 64 = .ok (.iload 4, 2) := by decide +kernel
theorem d_M_near_66 : decode b_M_near 66 = .ok (.if_icmp .ne 13, 3) := by decide +kernel
theorem d_M_near_69 : decode b_M_near 69 = .ok (.iload_n 3, 1) := by decide +kernel
theorem d_M_near_70 : decode b_M_near 70 = .ok (.iinc 3 (-1), 3) := by decide +kernel
theorem d_M_near_73 : decode b_M_near 73 = .ok (.ifCond .ne 6, 3) := by decide +kernel
theorem d_M_near_76 : decode b_M_near 76 = .ok (.iload 5, 2) := by decide +kernel
theorem d_M_near_78 : decode b_M_near 78 = .ok (.ireturn, 1) := by decide +kernel
theorem d_M_near_79 : decode b_M_near 79 = .ok (.iinc 5 1, 3) := by decide +kernel
theorem d_M_near_82 : decode b_M_near 82 = .ok (.goto (-41), 3) := by decide +kernel
theorem d_M_near_85 : decode b_M_near 85 = .ok (.iinc 4 1, 3) := by decide +kernel
theorem d_M_near_88 : decode b_M_near 88 = .ok (.goto (-57), 3) := by decide +kernel
theorem d_M_near_91 : decode b_M_near 91 = .ok (.iconst (-1), 1) := by decide +kernel
theorem d_M_near_92 : decode b_M_near 92 = .ok (.ireturn, 1) := by decide +kernel
theorem d_M_comesTo_0 : decode b_M_comesTo 0 = .ok (.iload_n 1, 1) := by decide +kernel
theorem d_M_comesTo_1 : decode b_M_comesTo 1 = .ok (.istore_n 3, 1) := by decide +kernel
theorem d_M_comesTo_2 : decode b_M_comesTo 2 = .ok (.iload_n 3, 1) := by decide +kernel
theorem d_M_comesTo_3 : decode b_M_comesTo 3 = .ok (.ifCond .lt 18, 3) := by decide +kernel
theorem d_M_comesTo_6 : decode b_M_comesTo 6 = .ok (.iload_n 3, 1) := by decide +kernel
theorem d_M_comesTo_7 : decode b_M_comesTo 7 = .ok (.iload_n 2, 1) := by decide +kernel
theorem d_M_comesTo_8 : decode b_M_comesTo 8 = .ok (.if_icmp .eq 13, 3) := by decide +kernel
theorem d_M_comesTo_11 : decode b_M_comesTo 11 = .ok (.aload_n 0, 1) := by decide +kernel
theorem d_M_comesTo_12 : decode b_M_comesTo 12 = .ok (.getfield 26, 3) := by decide +kernel
theorem d_M_comesTo_15 : decode b_M_comesTo 15 = .ok (.iload_n 3, 1) := by decide +kernel
theorem d_M_comesTo_16 : decode b_M_comesTo 16 = .ok (.iaload, 1) := by decide +kernel
theorem d_M_comesTo_17 : decode b_M_comesTo 17 = .ok (.istore_n 3, 1) := by decide +kernel
theorem d_M_comesTo_18 : decode b_M_comesTo 18 = .ok (.goto (-16), 3) := by decide +kernel
theorem d_M_comesTo_21 : decode b_M_comesTo 21 = .ok (.iload_n 3, 1) := by decide +kernel
theorem d_M_comesTo_22 : decode b_M_comesTo 22 = .ok (.ifCond .lt 7, 3) := by decide +kernel
theorem d_M_comesTo_25 : decode b_M_comesTo 25 = .ok (.iconst 1, 1) := by decide +kernel
theorem d_M_comesTo_26 : decode b_M_comesTo 26 = .ok (.goto 4, 3) := by decide +kernel
theorem d_M_comesTo_29 : decode b_M_comesTo 29 = .ok (.iconst 0, 1) := by decide +kernel
theorem d_M_comesTo_30 : decode b_M_comesTo 30 = .ok (.ireturn, 1) := by decide +kernel
theorem d_M_alias_0 : decode b_M_alias 0 = .ok (.aload_n 0, 1) := by decide +kernel
theorem d_M_alias_1 : decode b_M_alias 1 = .ok (.aload_n 0, 1) := by decide +kernel
theorem d_M_alias_2 : decode b_M_alias 2 = .ok (.iload_n 1, 1) := by decide +kernel
theorem d_M_alias_3 : decode b_M_alias 3 = .ok (.invokevirtual 89, 3) := by decide +kernel
theorem d_M_alias_6 : decode b_M_alias 6 = .ok (.ifCond .ne 11, 3) := by decide +kernel
theorem d_M_alias_9 : decode b_M_alias 9 = .ok (.aload_n 0, 1) := by decide +kernel
theorem d_M_alias_10 : decode b_M_alias 10 = .ok (.iload_n 2, 1) := by decide +kernel
theorem d_M_alias_11 : decode b_M_alias 11 = .ok (.invokevirtual 89, 3) := by decide +kernel
theorem d_M_alias_14 : decode b_M_alias 14 = .ok (.ifCond .eq 7, 3) := by decide +kernel
theorem d_M_alias_17 : decode b_M_alias 17 = .ok (.iconst 1, 1) := by decide +kernel
theorem d_M_alias_18 : decode b_M_alias 18 = .ok (.goto 4, 3) := by decide +kernel
theorem d_M_alias_21 : decode b_M_alias 21 = .ok (.iconst 0, 1) := by decide +kernel
theorem d_M_alias_22 : decode b_M_alias 22 = .ok (.invokevirtual 57, 3) := by decide +kernel
theorem d_M_alias_25 : decode b_M_alias 25 = .ok (.ifCond .eq 5, 3) := by decide +kernel
theorem d_M_alias_28 : decode b_M_alias 28 = .ok (.iconst 0, 1) := by decide +kernel
theorem d_M_alias_29 : decode b_M_alias 29 = .ok (.ireturn, 1) := by decide +kernel
theorem d_M_alias_30 : decode b_M_alias 30 = .ok (.aload_n 0, 1) := by decide +kernel
theorem d_M_alias_31 : decode b_M_alias 31 = .ok (.iload_n 2, 1) := by decide +kernel
theorem d_M_alias_32 : decode b_M_alias 32 = .ok (.iload_n 1, 1) := by decide +kernel
theorem d_M_alias_33 : decode b_M_alias 33 = .ok (.invokevirtual 137, 3) := by decide +kernel
theorem d_M_alias_36 : decode b_M_alias 36 = .ok (.ifCond .eq 12, 3) := by decide +kernel
theorem d_M_alias_39 : decode b_M_alias 39 = .ok (.aload_n 0, 1) := by decide +kernel
theorem d_M_alias_40 : decode b_M_alias 40 = .ok (.iconst 3, 1) := by decide +kernel
theorem d_M_alias_41 : decode b_M_alias 41 = .ok (.iload_n 1, 1) := by decide +kernel
theorem d_M_alias_42 : decode b_M_alias 42 = .ok (.iload_n 2, 1) := by decide +kernel
theorem d_M_alias_43 : decode b_M_alias 43 = .ok (.invokevirtual 95, 3) := by decide +kernel
theorem d_M_alias_46 : decode b_M_alias 46 = .ok (.iconst 0, 1) := by decide +kernel
theorem d_M_alias_47 : decode b_M_alias 47 = .ok (.ireturn, 1) := by decide +kernel
theorem d_M_alias_48 : decode b_M_alias 48 = .ok (.aload_n 0, 1) := by decide +kernel
theorem d_M_alias_49 : decode b_M_alias 49 = .ok (.getfield 26, 3) := by decide +kernel
theorem d_M_alias_52 : decode b_M_alias 52 = .ok (.iload_n 1, 1) := by decide +kernel
theorem d_M_alias_53 : decode b_M_alias 53 = .ok (.iload_n 2, 1) := by decide +kernel
theorem d_M_alias_54 : decode b_M_alias 54 = .ok (.iastore, 1) := by decide +kernel
theorem d_M_alias_55 : decode b_M_alias 55 = .ok (.iconst 1, 1) := by decide +kernel
theorem d_M_alias_56 : decode b_M_alias 56 = .ok (.ireturn, 1) := by decide +kernel
theorem d_M_meaning_0 : decode b_M_meaning 0 = .ok (.aload_n 0, 1) := by decide +kernel
theorem d_M_meaning_1 : decode b_M_meaning 1 = .ok (.aload_n 0, 1) := by decide +kernel
theorem d_M_meaning_2 : decode b_M_meaning 2 = .ok (.iload_n 1, 1) := by decide +kernel
theorem d_M_meaning_3 : decode b_M_meaning 3 = .ok (.invokevirtual 89, 3) := by decide +kernel
theorem d_M_meaning_6 : decode b_M_meaning 6 = .ok (.ifCond .eq 7, 3) := by decide +kernel
theorem d_M_meaning_9 : decode b_M_meaning 9 = .ok (.iconst 1, 1) := by decide +kernel
theorem d_M_meaning_10 : decode b_M_meaning 10 = .ok (.goto 4, 3) := by decide +kernel
theorem d_M_meaning_13 : decode b_M_meaning 13 = .ok (.iconst 0, 1) := by decide +kernel
theorem d_M_meaning_14 : decode b_M_meaning 14 = .ok (.invokevirtual 57, 3) := by decide +kernel
theorem d_M_meaning_17 : decode b_M_meaning 17 = .ok (.ifCond .eq 5, 3) := by decide +kernel
theorem d_M_meaning_20 : decode b_M_meaning 20 = .ok (.iconst 0, 1) := by decide +kernel
theorem d_M_meaning_21 : decode b_M_meaning 21 = .ok (.ireturn, 1) := by decide +kernel
theorem d_M_meaning_22 : decode b_M_meaning 22 = .ok (.iload_n 1, 1) := by decide +kernel
theorem d_M_meaning_23 : decode b_M_meaning 23 = .ok (.istore_n 2, 1) := by decide +kernel
theorem d_M_meaning_24 : decode b_M_meaning 24 = .ok (.aload_n 0, 1) := by decide +kernel
theorem d_M_meaning_25 : decode b_M_meaning 25 = .ok (.getfield 26, 3) := by decide +kernel
theorem d_M_meaning_28 : decode b_M_meaning 28 = .ok (.iload_n 2, 1) := by decide +kernel
theorem d_M_meaning_29 : decode b_M_meaning 29 = .ok (.iaload, 1) := by decide +kernel
theorem d_M_meaning_30 : decode b_M_meaning 30 = .ok (.ifCond .lt 13, 3) := by decide +kernel
theorem d_M_meaning_33 : decode b_M_meaning 33 = .ok (.aload_n 0, 1) := by decide +kernel
theorem d_M_meaning_34 : decode b_M_meaning 34 = .ok (.getfield 26, 3) := by decide +kernel
theorem d_M_meaning_37 : decode b_M_meaning 37 = .ok (.iload_n 2, 1) := by decide +kernel
theorem d_M_meaning_38 : decode b_M_meaning 38 = .ok (.iaload, 1) := by decide +kernel
theorem d_M_meaning_39 : decode b_M_meaning 39 = .ok (.istore_n 2, 1) := by decide +kernel
theorem d_M_meaning_40 : decode b_M_meaning 40 = .ok (.goto (-16), 3) := by decide +kernel
theorem d_M_meaning_43 : decode b_M_meaning 43 = .ok (.iload_n 2, 1) := by decide +kernel
theorem d_M_meaning_44 : decode b_M_meaning 44 = .ok (.ireturn, 1) := by decide +kernel
theorem d_M_join_0 : decode b_M_join 0 = .ok (.aload_n 0, 1) := by decide +kernel
theorem d_M_join_1 : decode b_M_join 1 = .ok (.aload_n 0, 1) := by decide +kernel
theorem d_M_join_2 : decode b_M_join 2 = .ok (.iload_n 1, 1) := by decide +kernel
theorem d_M_join_3 : decode b_M_join 3 = .ok (.invokevirtual 89, 3) := by decide +kernel
theorem d_M_join_6 : decode b_M_join 6 = .ok (.ifCond .ne 11, 3) := by decide +kernel
theorem d_M_join_9 : decode b_M_join 9 = .ok (.aload_n 0, 1) := by decide +kernel
theorem d_M_join_10 : decode b_M_join 10 = .ok (.iload_n 2, 1) := by decide +kernel
theorem d_M_join_11 : decode b_M_join 11 = .ok (.invokevirtual 89, 3) := by decide +kernel
theorem d_M_join_14 : decode b_M_join 14 = .ok (.ifCond .eq 7, 3) := by decide +kernel
theorem d_M_join_17 : decode b_M_join 17 = .ok (.iconst 1, 1) := by decide +kernel
theorem d_M_join_18 : decode b_M_join 18 = .ok (.goto 17, 3) := by decide +kernel
theorem d_M_join_21 : decode b_M_join 21 = .ok (.iload_n 3, 1) := by decide +kernel
theorem d_M_join_22 : decode b_M_join 22 = .ok (.ifCond .lt 8, 3) := by decide +kernel
theorem d_M_join_25 : decode b_M_join 25 = .ok (.iload_n 3, 1) := by decide +kernel
theorem d_M_join_26 : decode b_M_join 26 = .ok (.iconst 1, 1) := by decide +kernel
theorem d_M_join_27 : decode b_M_join 27 = .ok (.if_icmp .le 7, 3) := by decide +kernel
theorem d_M_join_30 : decode b_M_join 30 = .ok (.iconst 2, 1) := by decide +kernel
theorem d_M_join_31 : decode b_M_join 31 = .ok (.goto 4, 3) := by decide +kernel
theorem d_M_join_34 : decode b_M_join 34 = .ok (.iconst 0, 1) := by decide +kernel
theorem d_M_join_35 : decode b_M_join 35 = .ok (.invokevirtual 57, 3) := by decide +kernel
theorem d_M_join_38 : decode b_M_join 38 = .ok (.ifCond .eq 5, 3) := by decide +kernel
theorem d_M_join_41 : decode b_M_join 41 = .ok (.iconst 0, 1) := by decide +kernel
theorem d_M_join_42 : decode b_M_join 42 = .ok (.ireturn, 1) := by decide +kernel
theorem d_M_join_43 : decode b_M_join 43 = .ok (.iconst 0, 1) := by decide +kernel
theorem d_M_join_44 : decode b_M_join 44 = .ok (.istore 4, 2) := by decide +kernel
theorem d_M_join_46 : decode b_M_join 46 = .ok (.iconst 0, 1) := by decide +kernel
theorem d_M_join_47 : decode b_M_join 47 = .ok (.istore 5, 2) := by decide +kernel
theorem d_M_join_49 : decode b_M_join 49 = .ok (.iload 5, 2) := by decide +kernel
theorem d_M_join_51 : decode b_M_join 51 = .ok (.aload_n 0, 1) := by decide +kernel
theorem d_M_join_52 : decode b_M_join 52 = .ok (.getfield 16, 3) := by decide +kernel
theorem d_M_join_55 : decode b_M_join 55 = .ok (.iload_n 1, 1) := by decide +kernel
theorem d_M_join_56 : decode b_M_join 56 = .ok (.iaload, 1) := by decide +kernel
theorem d_M_join_57 : decode b_M_join 57 = .ok (.if_icmp .ge 36, 3) := by decide +kernel
theorem d_M_join_60 : decode b_M_join 60 = .ok (.iload_n 3, 1) := by decide +kernel
theorem d_M_join_61 : decode b_M_join 61 = .ok (.ifCond .ne 32, 3) := by decide +kernel
theorem d_M_join_64 : decode b_M_join 64 = .ok (.aload_n 0, 1) := by decide +kernel
theorem d_M_join_65 : decode b_M_join 65 = .ok (.iload_n 1, 1) := by decide +kernel
theorem d_M_join_66 : decode b_M_join 66 = .ok (.iload 5, 2) := by decide +kernel
theorem d_M_join_68 : decode b_M_join 68 = .ok (.invokevirtual 64, 3) := by decide +kernel
theorem d_M_join_71 : decode b_M_join 71 = .ok (.bipush 47, 2) := by decide +kernel
theorem d_M_join_73 : decode b_M_join 73 = .ok (.if_icmp .ne 10, 3) := by decide +kernel
theorem d_M_join_76 : decode b_M_join 76 = .ok (.iload 5, 2) := by decide +kernel
theorem d_M_join_78 : decode b_M_join 78 = .ok (.iconst 1, 1) := by decide +kernel
theorem d_M_join_79 : decode b_M_join 79 = .ok (.iadd, 1) := by decide +kernel
theorem d_M_join_80 : decode b_M_join 80 = .ok (.goto 5, 3) := by decide +kernel
theorem d_M_join_83 : decode b_M_join 83 = .ok (.iload 4, 2) := by decide +kernel
theorem d_M_join_85 : decode b_M_join 85 = .ok (.istore 4, 2) := by decide +kernel
theorem d_M_join_87 : decode b_M_join 87 = .ok (.iinc 5 1, 3) := by decide +kernel
theorem d_M_join_90 : decode b_M_join 90 = .ok (.goto (-41), 3) := by decide +kernel
theorem d_M_join_93 : decode b_M_join 93 = .ok (.iload_n 3, 1) := by decide +kernel
theorem d_M_join_94 : decode b_M_join 94 = .ok (.iconst 1, 1) := by decide +kernel
theorem d_M_join_95 : decode b_M_join 95 = .ok (.if_icmp .ne 32, 3) := by decide +kernel
theorem d_M_join_98 : decode b_M_join 98 = .ok (.iload 4, 2) := by decide +kernel
theorem d_M_join_100 : decode b_M_join 100 = .ok (.aload_n 0, 1) := by decide +kernel
theorem d_M_join_101 : decode b_M_join 101 = .ok (.getfield 16, 3) := by decide +kernel
theorem d_M_join_104 : decode b_M_join 104 = .ok (.iload_n 1, 1) := by decide +kernel
theorem d_M_join_105 : decode b_M_join 105 = .ok (.iaload, 1) := by decide +kernel
theorem d_M_join_106 : decode b_M_join 106 = .ok (.if_icmp .ge 21, 3) := by decide +kernel
theorem d_M_join_109 : decode b_M_join 109 = .ok (.aload_n 0, 1) := by decide +kernel
theorem d_M_join_110 : decode b_M_join 110 = .ok (.iload_n 1, 1) := by decide +kernel
theorem d_M_join_111 : decode b_M_join 111 = .ok (.iload 4, 2) := by decide +kernel
theorem d_M_join_113 : decode b_M_join 113 = .ok (.invokevirtual 64, 3) := by decide +kernel
theorem d_M_join_116 : decode b_M_join 116 = .ok (.bipush 35, 2) := by decide +kernel
theorem d_M_join_118 : decode b_M_join 118 = .ok (.if_icmp .eq 9, 3) := by decide +kernel
theorem d_M_join_121 : decode b_M_join 121 = .ok (.iinc 4 1, 3) := by decide +kernel
theorem d_M_join_124 : decode b_M_join 124 = .ok (.goto (-31), 3) := by decide +kernel
theorem d_M_join_127 : decode b_M_join 127 = .ok (.aload_n 0, 1) := by decide +kernel
theorem d_M_join_128 : decode b_M_join 128 = .ok (.invokevirtual 72, 3) := by decide +kernel
theorem d_M_join_131 : decode b_M_join 131 = .ok (.iconst 0, 1) := by decide +kernel
theorem d_M_join_132 : decode b_M_join 132 = .ok (.istore 5, 2) := by decide +kernel
theorem d_M_join_134 : decode b_M_join 134 = .ok (.iload 5, 2) := by decide +kernel
theorem d_M_join_136 : decode b_M_join 136 = .ok (.iload 4, 2) := by decide +kernel
theorem d_M_join_138 : decode b_M_join 138 = .ok (.if_icmp .ge 20, 3) := by decide +kernel
theorem d_M_join_141 : decode b_M_join 141 = .ok (.aload_n 0, 1) := by decide +kernel
theorem d_M_join_142 : decode b_M_join 142 = .ok (.aload_n 0, 1) := by decide +kernel
theorem d_M_join_143 : decode b_M_join 143 = .ok (.iload_n 1, 1) := by decide +kernel
theorem d_M_join_144 : decode b_M_join 144 = .ok (.iload 5, 2) := by decide +kernel
theorem d_M_join_146 : decode b_M_join 146 = .ok (.invokevirtual 64, 3) := by decide +kernel
theorem d_M_join_149 : decode b_M_join 149 = .ok (.invokevirtual 75, 3) := by decide +kernel
theorem d_M_join_152 : decode b_M_join 152 = .ok (.iinc 5 1, 3) := by decide +kernel
theorem d_M_join_155 : decode b_M_join 155 = .ok (.goto (-21), 3) := by decide +kernel
theorem d_M_join_158 : decode b_M_join 158 = .ok (.iload_n 3, 1) := by decide +kernel
theorem d_M_join_159 : decode b_M_join 159 = .ok (.iconst 1, 1) := by decide +kernel
theorem d_M_join_160 : decode b_M_join 160 = .ok (.if_icmp .ne 9, 3) := by decide +kernel
theorem d_M_join_163 : decode b_M_join 163 = .ok (.aload_n 0, 1) := by decide +kernel
theorem d_M_join_164 : decode b_M_join 164 = .ok (.bipush 35, 2) := by decide +kernel
theorem d_M_join_166 : decode b_M_join 166 = .ok (.invokevirtual 75, 3) := by decide +kernel
theorem d_M_join_169 : decode b_M_join 169 = .ok (.iconst 0, 1) := by decide +kernel
theorem d_M_join_170 : decode b_M_join 170 = .ok (.istore 5, 2) := by decide +kernel
theorem d_M_join_172 : decode b_M_join 172 = .ok (.iload 5, 2) := by decide +kernel
theorem d_M_join_174 : decode b_M_join 174 = .ok (.aload_n 0, 1) := by decide +kernel
theorem d_M_join_175 : decode b_M_join 175 = .ok (.getfield 16, 3) := by decide +kernel
theorem d_M_join_178 : decode b_M_join 178 = .ok (.iload_n 2, 1) := by decide +kernel
theorem d_M_join_179 : decode b_M_join 179 = .ok (.iaload, 1) := by decide +kernel
theorem d_M_join_180 : decode b_M_join 180 = .ok (.if_icmp .ge 20, 3) := by decide +kernel
theorem d_M_join_183 : decode b_M_join 183 = .ok (.aload_n 0, 1) := by decide +kernel
theorem d_M_join_184 : decode b_M_join 184 = .ok (.aload_n 0, 1) := by decide +kernel
theorem d_M_join_185 : decode b_M_join 185 = .ok (.iload_n 2, 1) := by decide +kernel
theorem d_M_join_186 : decode b_M_join 186 = .ok (.iload 5, 2) := by decide +kernel
theorem d_M_join_188 : decode b_M_join 188 = .ok (.invokevirtual 64, 3) := by decide +kernel
theorem d_M_join_191 : decode b_M_join 191 = .ok (.invokevirtual 75, 3) := by decide +kernel
theorem d_M_join_194 : decode b_M_join 194 = .ok (.iinc 5 1, 3) := by decide +kernel
theorem d_M_join_197 : decode b_M_join 197 = .ok (.goto (-25), 3) := by decide +kernel
theorem d_M_join_200 : decode b_M_join 200 = .ok (.aload_n 0, 1) := by decide +kernel
theorem d_M_join_201 : decode b_M_join 201 = .ok (.aload_n 0, 1) := by decide +kernel
theorem d_M_join_202 : decode b_M_join 202 = .ok (.invokevirtual 79, 3) := by decide +kernel
theorem d_M_join_205 : decode b_M_join 205 = .ok (.ifCond .eq 7, 3) := by decide +kernel
theorem d_M_join_208 : decode b_M_join 208 = .ok (.iconst 3, 1) := by decide +kernel
theorem d_M_join_209 : decode b_M_join 209 = .ok (.goto 4, 3) := by decide +kernel
theorem d_M_join_212 : decode b_M_join 212 = .ok (.iconst 0, 1) := by decide +kernel
theorem d_M_join_213 : decode b_M_join 213 = .ok (.invokevirtual 57, 3) := by decide +kernel
theorem d_M_join_216 : decode b_M_join 216 = .ok (.ifCond .eq 7, 3) := by decide +kernel
theorem d_M_join_219 : decode b_M_join 219 = .ok (.iconst 0, 1) := by decide +kernel
theorem d_M_join_220 : decode b_M_join 220 = .ok (.goto 7, 3) := by decide +kernel
theorem d_M_join_223 : decode b_M_join 223 = .ok (.aload_n 0, 1) := by decide +kernel
theorem d_M_join_224 : decode b_M_join 224 = .ok (.invokevirtual 83, 3) := by decide +kernel
theorem d_M_join_227 : decode b_M_join 227 = .ok (.ireturn, 1) := by decide +kernel
theorem d_M_canNotRename_0 : decode b_M_canNotRename 0 = .ok (.aload_n 0, 1) := by decide +kernel
theorem d_M_canNotRename_1 : decode b_M_canNotRename 1 = .ok (.iload_n 1, 1) := by decide +kernel
theorem d_M_canNotRename_2 : decode b_M_canNotRename 2 = .ok (.invokevirtual 128, 3) := by decide +kernel
theorem d_M_canNotRename_5 : decode b_M_canNotRename 5 = .ok (.istore_n 3, 1) := by decide +kernel
theorem d_M_canNotRename_6 : decode b_M_canNotRename 6 = .ok (.aload_n 0, 1) := by decide +kernel
theorem d_M_canNotRename_7 : decode b_M_canNotRename 7 = .ok (.iload_n 2, 1) := by decide +kernel
theorem d_M_canNotRename_8 : decode b_M_canNotRename 8 = .ok (.invokevirtual 128, 3) := by decide +kernel
theorem d_M_canNotRename_11 : decode b_M_canNotRename 11 = .ok (.istore 4, 2) := by decide +kernel
theorem d_M_canNotRename_13 : decode b_M_canNotRename 13 = .ok (.iload_n 3, 1) := by decide +kernel
theorem d_M_canNotRename_14 : decode b_M_canNotRename 14 = .ok (.ifCond .lt 19, 3) := by decide +kernel
theorem d_M_canNotRename_17 : decode b_M_canNotRename 17 = .ok (.iload 4, 2) := by decide +kernel
theorem d_M_canNotRename_19 : decode b_M_canNotRename 19 = .ok (.ifCond .lt 14, 3) := by decide +kernel
theorem d_M_canNotRename_22 : decode b_M_canNotRename 22 = .ok (.aload_n 0, 1) := by decide +kernel
theorem d_M_canNotRename_23 : decode b_M_canNotRename 23 = .ok (.iconst 4, 1) := by decide +kernel
theorem d_M_canNotRename_24 : decode b_M_canNotRename 24 = .ok (.iload_n 3, 1) := by decide +kernel
theorem d_M_canNotRename_25 : decode b_M_canNotRename 25 = .ok (.iload 4, 2) := by decide +kernel
theorem d_M_canNotRename_27 : decode b_M_canNotRename 27 = .ok (.invokevirtual 95, 3) := by decide +kernel
theorem d_M_canNotRename_30 : decode b_M_canNotRename 30 = .ok (.goto 71, 3) := by decide +kernel
theorem d_M_canNotRename_33 : decode b_M_canNotRename 33 = .ok (.aload_n 0, 1) := by decide +kernel
theorem d_M_canNotRename_34 : decode b_M_canNotRename 34 = .ok (.getfield 26, 3) := by decide +kernel
theorem d_M_canNotRename_37 : decode b_M_canNotRename 37 = .ok (.iload_n 1, 1) := by decide +kernel
theorem d_M_canNotRename_38 : decode b_M_canNotRename 38 = .ok (.iaload, 1) := by decide +kernel
theorem d_M_canNotRename_39 : decode b_M_canNotRename 39 = .ok (.ifCond .lt 32, 3) := by decide +kernel
theorem d_M_canNotRename_42 : decode b_M_canNotRename 42 = .ok (.aload_n 0, 1) := by decide +kernel
theorem d_M_canNotRename_43 : decode b_M_canNotRename 43 = .ok (.getfield 26, 3) := by decide +kernel
theorem d_M_canNotRename_46 : decode b_M_canNotRename 46 = .ok (.iload_n 2, 1) := by decide +kernel
theorem d_M_canNotRename_47 : decode b_M_canNotRename 47 = .ok (.iaload, 1) := by decide +kernel
theorem d_M_canNotRename_48 : decode b_M_canNotRename 48 = .ok (.ifCond .lt 23, 3) := by decide +kernel
theorem d_M_canNotRename_51 : decode b_M_canNotRename 51 = .ok (.aload_n 0, 1) := by decide +kernel
theorem d_M_canNotRename_52 : decode b_M_canNotRename 52 = .ok (.iconst 5, 1) := by decide +kernel
theorem d_M_canNotRename_53 : decode b_M_canNotRename 53 = .ok (.aload_n 0, 1) := by decide +kernel
theorem d_M_canNotRename_54 : decode b_M_canNotRename 54 = .ok (.getfield 26, 3) := by decide +kernel
theorem d_M_canNotRename_57 : decode b_M_canNotRename 57 = .ok (.iload_n 1, 1) := by decide +kernel
theorem d_M_canNotRename_58 : decode b_M_canNotRename 58 = .ok (.iaload, 1) := by decide +kernel
theorem d_M_canNotRename_59 : decode b_M_canNotRename 59 = .ok (.aload_n 0, 1) := by decide +kernel
theorem d_M_canNotRename_60 : decode b_M_canNotRename 60 = .ok (.getfield 26, 3) := by decide +kernel
theorem d_M_canNotRename_63 : decode b_M_canNotRename 63 = .ok (.iload_n 2, 1) := by decide +kernel
theorem d_M_canNotRename_64 : decode b_M_canNotRename 64 = .ok (.iaload, 1) := by decide +kernel
theorem d_M_canNotRename_65 : decode b_M_canNotRename 65 = .ok (.invokevirtual 95, 3) := by decide +kernel
theorem d_M_canNotRename_68 : decode b_M_canNotRename 68 = .ok (.goto 33, 3) := by decide +kernel
theorem d_M_canNotRename_71 : decode b_M_canNotRename 71 = .ok (.aload_n 0, 1) := by decide +kernel
theorem d_M_canNotRename_72 : decode b_M_canNotRename 72 = .ok (.iload_n 1, 1) := by decide +kernel
theorem d_M_canNotRename_73 : decode b_M_canNotRename 73 = .ok (.iload_n 2, 1) := by decide +kernel
theorem d_M_canNotRename_74 : decode b_M_canNotRename 74 = .ok (.invokevirtual 137, 3) := by decide +kernel
theorem d_M_canNotRename_77 : decode b_M_canNotRename 77 = .ok (.ifCond .ne 12, 3) := by decide +kernel
theorem d_M_canNotRename_80 : decode b_M_canNotRename 80 = .ok (.aload_n 0, 1) := by decide +kernel
theorem d_M_canNotRename_81 : decode b_M_canNotRename 81 = .ok (.iload_n 2, 1) := by decide +kernel
theorem d_M_canNotRename_82 : decode b_M_canNotRename 82 = .ok (.iload_n 1, 1) := by decide +kernel
theorem d_M_canNotRename_83 : decode b_M_canNotRename 83 = .ok (.invokevirtual 137, 3) := by decide +kernel
theorem d_M_canNotRename_86 : decode b_M_canNotRename 86 = .ok (.ifCond .eq 13, 3) := by decide +kernel
theorem d_M_canNotRename_89 : decode b_M_canNotRename 89 = .ok (.aload_n 0, 1) := by decide +kernel
theorem d_M_canNotRename_90 : decode b_M_canNotRename 90 = .ok (.iconst 3, 1) := by decide +kernel
theorem d_M_canNotRename_91 : decode b_M_canNotRename 91 = .ok (.iload_n 1, 1) := by decide +kernel
theorem d_M_canNotRename_92 : decode b_M_canNotRename 92 = .ok (.iload_n 2, 1) := by decide +kernel
theorem d_M_canNotRename_93 : decode b_M_canNotRename 93 = .ok (.invokevirtual 95, 3) := by decide +kernel
theorem d_M_canNotRename_96 : decode b_M_canNotRename 96 = .ok (.goto 5, 3) := by decide +kernel
theorem d_M_canNotRename_99 : decode b_M_canNotRename 99 = .ok (.iconst 0, 1) := by decide +kernel
theorem d_M_canNotRename_100 : decode b_M_canNotRename 100 = .ok (.ireturn, 1) := by decide +kernel
theorem d_M_canNotRename_101 : decode b_M_canNotRename 101 = .ok (.iconst 1, 1) := by decide +kernel
theorem d_M_canNotRename_102 : decode b_M_canNotRename 102 = .ok (.ireturn, 1) := by decide +kernel
theorem d_M_rename_0 : decode b_M_rename 0 = .ok (.aload_n 0, 1) := by decide +kernel
theorem d_M_rename_1 : decode b_M_rename 1 = .ok (.aload_n 0, 1) := by decide +kernel
theorem d_M_rename_2 : decode b_M_rename 2 = .ok (.iload_n 1, 1) := by decide +kernel
theorem d_M_rename_3 : decode b_M_rename 3 = .ok (.invokevirtual 89, 3) := by decide +kernel
theorem d_M_rename_6 : decode b_M_rename 6 = .ok (.ifCond .ne 11, 3) := by decide +kernel
theorem d_M_rename_9 : decode b_M_rename 9 = .ok (.aload_n 0, 1) := by decide +kernel
theorem d_M_rename_10 : decode b_M_rename 10 = .ok (.iload_n 2, 1) := by decide +kernel
theorem d_M_rename_11 : decode b_M_rename 11 = .ok (.invokevirtual 89, 3) := by decide +kernel
theorem d_M_rename_14 : decode b_M_rename 14 = .ok (.ifCond .eq 7, 3) := by decide +kernel
theorem d_M_rename_17 : decode b_M_rename 17 = .ok (.iconst 1, 1) := by decide +kernel
theorem d_M_rename_18 : decode b_M_rename 18 = .ok (.goto 13, 3) := by decide +kernel
theorem d_M_rename_21 : decode b_M_rename 21 = .ok (.iload_n 1, 1) := by decide +kernel
theorem d_M_rename_22 : decode b_M_rename 22 = .ok (.iload_n 2, 1) := by decide +kernel
theorem d_M_rename_23 : decode b_M_rename 23 = .ok (.if_icmp .ne 7, 3) := by decide +kernel
theorem d_M_rename_26 : decode b_M_rename 26 = .ok (.iconst 2, 1) := by decide +kernel
theorem d_M_rename_27 : decode b_M_rename 27 = .ok (.goto 4, 3) := by decide +kernel
theorem d_M_rename_30 : decode b_M_rename 30 = .ok (.iconst 0, 1) := by decide +kernel
theorem d_M_rename_31 : decode b_M_rename 31 = .ok (.invokevirtual 57, 3) := by decide +kernel
theorem d_M_rename_34 : decode b_M_rename 34 = .ok (.ifCond .eq 5, 3) := by decide +kernel
theorem d_M_rename_37 : decode b_M_rename 37 = .ok (.iconst 0, 1) := by decide +kernel
theorem d_M_rename_38 : decode b_M_rename 38 = .ok (.ireturn, 1) := by decide +kernel
theorem d_M_rename_39 : decode b_M_rename 39 = .ok (.aload_n 0, 1) := by decide +kernel
theorem d_M_rename_40 : decode b_M_rename 40 = .ok (.iload_n 1, 1) := by decide +kernel
theorem d_M_rename_41 : decode b_M_rename 41 = .ok (.iload_n 2, 1) := by decide +kernel
theorem d_M_rename_42 : decode b_M_rename 42 = .ok (.invokevirtual 140, 3) := by decide +kernel
theorem d_M_rename_45 : decode b_M_rename 45 = .ok (.ifCond .eq 5, 3) := by decide +kernel
theorem d_M_rename_48 : decode b_M_rename 48 = .ok (.iconst (-1), 1) := by decide +kernel
theorem d_M_rename_49 : decode b_M_rename 49 = .ok (.ireturn, 1) := by decide +kernel
theorem d_M_rename_50 : decode b_M_rename 50 = .ok (.aload_n 0, 1) := by decide +kernel
theorem d_M_rename_51 : decode b_M_rename 51 = .ok (.aload_n 0, 1) := by decide +kernel
theorem d_M_rename_52 : decode b_M_rename 52 = .ok (.getfield 143, 3) := by decide +kernel
theorem d_M_rename_55 : decode b_M_rename 55 = .ok (.bipush 20, 2) := by decide +kernel
theorem d_M_rename_57 : decode b_M_rename 57 = .ok (.if_icmp .ne 7, 3) := by decide +kernel
theorem d_M_rename_60 : decode b_M_rename 60 = .ok (.iconst 3, 1) := by decide +kernel
theorem d_M_rename_61 : decode b_M_rename 61 = .ok (.goto 4, 3) := by decide +kernel
theorem d_M_rename_64 : decode b_M_rename 64 = .ok (.iconst 0, 1) := by decide +kernel
theorem d_M_rename_65 : decode b_M_rename 65 = .ok (.invokevirtual 57, 3) := by decide +kernel
theorem d_M_rename_68 : decode b_M_rename 68 = .ok (.ifCond .eq 5, 3) := by decide +kernel
theorem d_M_rename_71 : decode b_M_rename 71 = .ok (.iconst 0, 1) := by decide +kernel
theorem d_M_rename_72 : decode b_M_rename 72 = .ok (.ireturn, 1) := by decide +kernel
theorem d_M_rename_73 : decode b_M_rename 73 = .ok (.iconst 0, 1) := by decide +kernel
theorem d_M_rename_74 : decode b_M_rename 74 = .ok (.istore_n 3, 1) := by decide +kernel
theorem d_M_rename_75 : decode b_M_rename 75 = .ok (.iconst 0, 1) := by decide +kernel
theorem d_M_rename_76 : decode b_M_rename 76 = .ok (.istore 4, 2) := by decide +kernel
theorem d_M_rename_78 : decode b_M_rename 78 = .ok (.iload 4, 2) := by decide +kernel
theorem d_M_rename_80 : decode b_M_rename 80 = .ok (.iconst 3, 1) := by decide +kernel
theorem d_M_rename_81 : decode b_M_rename 81 = .ok (.aload_n 0, 1) := by decide +kernel
theorem d_M_rename_82 : decode b_M_rename 82 = .ok (.getfield 125, 3) := by decide +kernel
theorem d_M_rename_85 : decode b_M_rename 85 = .ok (.imul, 1) := by decide +kernel
theorem d_M_rename_86 : decode b_M_rename 86 = .ok (.if_icmp .ge 34, 3) := by decide +kernel
theorem d_M_rename_89 : decode b_M_rename 89 = .ok (.aload_n 0, 1) := by decide +kernel
theorem d_M_rename_90 : decode b_M_rename 90 = .ok (.getfield 29, 3) := by decide +kernel
theorem d_M_rename_93 : decode b_M_rename 93 = .ok (.iload 4, 2) := by decide +kernel
theorem d_M_rename_95 : decode b_M_rename 95 = .ok (.iaload, 1) := by decide +kernel
theorem d_M_rename_96 : decode b_M_rename 96 = .ok (.iload_n 1, 1) := by decide +kernel
theorem d_M_rename_97 : decode b_M_rename 97 = .ok (.if_icmp .eq 6, 3) := by decide +kernel
theorem d_M_rename_100 : decode b_M_rename 100 = .ok (.goto 14, 3) := by decide +kernel
theorem d_M_rename_103 : decode b_M_rename 103 = .ok (.aload_n 0, 1) := by decide +kernel
theorem d_M_rename_104 : decode b_M_rename 104 = .ok (.getfield 29, 3) := by decide +kernel
theorem d_M_rename_107 : decode b_M_rename 107 = .ok (.iload 4, 2) := by decide +kernel
theorem d_M_rename_109 : decode b_M_rename 109 = .ok (.iload_n 2, 1) := by decide +kernel
theorem d_M_rename_110 : decode b_M_rename 110 = .ok (.iastore, 1) := by decide +kernel
theorem d_M_rename_111 : decode b_M_rename 111 = .ok (.iinc 3 1, 3) := by decide +kernel
theorem d_M_rename_114 : decode b_M_rename 114 = .ok (.iinc 4 1, 3) := by decide +kernel
theorem d_M_rename_117 : decode b_M_rename 117 = .ok (.goto (-39), 3) := by decide +kernel
theorem d_M_rename_120 : decode b_M_rename 120 = .ok (.iconst 0, 1) := by decide +kernel
theorem d_M_rename_121 : decode b_M_rename 121 = .ok (.istore 4, 2) := by decide +kernel
theorem d_M_rename_123 : decode b_M_rename 123 = .ok (.iload 4, 2) := by decide +kernel
theorem d_M_rename_125 : decode b_M_rename 125 = .ok (.aload_n 0, 1) := by decide +kernel
theorem d_M_rename_126 : decode b_M_rename 126 = .ok (.getfield 51, 3) := by decide +kernel
theorem d_M_rename_129 : decode b_M_rename 129 = .ok (.if_icmp .ge 34, 3) := by decide +kernel
theorem d_M_rename_132 : decode b_M_rename 132 = .ok (.aload_n 0, 1) := by decide +kernel
theorem d_M_rename_133 : decode b_M_rename 133 = .ok (.getfield 26, 3) := by decide +kernel
theorem d_M_rename_136 : decode b_M_rename 136 = .ok (.iload 4, 2) := by decide +kernel
theorem d_M_rename_138 : decode b_M_rename 138 = .ok (.iaload, 1) := by decide +kernel
theorem d_M_rename_139 : decode b_M_rename 139 = .ok (.iload_n 1, 1) := by decide +kernel
theorem d_M_rename_140 : decode b_M_rename 140 = .ok (.if_icmp .eq 6, 3) := by decide +kernel
theorem d_M_rename_143 : decode b_M_rename 143 = .ok (.goto 14, 3) := by decide +kernel
theorem d_M_rename_146 : decode b_M_rename 146 = .ok (.aload_n 0, 1) := by decide +kernel
theorem d_M_rename_147 : decode b_M_rename 147 = .ok (.getfield 26, 3) := by decide +kernel
theorem d_M_rename_150 : decode b_M_rename 150 = .ok (.iload 4, 2) := by decide +kernel
theorem d_M_rename_152 : decode b_M_rename 152 = .ok (.iload_n 2, 1) := by decide +kernel
theorem d_M_rename_153 : decode b_M_rename 153 = .ok (.iastore, 1) := by decide +kernel
theorem d_M_rename_154 : decode b_M_rename 154 = .ok (.iinc 3 1, 3) := by decide +kernel
theorem d_M_rename_157 : decode b_M_rename 157 = .ok (.iinc 4 1, 3) := by decide +kernel
theorem d_M_rename_160 : decode b_M_rename 160 = .ok (.goto (-37), 3) := by decide +kernel
theorem d_M_rename_163 : decode b_M_rename 163 = .ok (.aload_n 0, 1) := by decide +kernel
theorem d_M_rename_164 : decode b_M_rename 164 = .ok (.getfield 26, 3) := by decide +kernel
theorem d_M_rename_167 : decode b_M_rename 167 = .ok (.iload_n 1, 1) := by decide +kernel
theorem d_M_rename_168 : decode b_M_rename 168 = .ok (.iaload, 1) := by decide +kernel
theorem d_M_rename_169 : decode b_M_rename 169 = .ok (.ifCond .lt 25, 3) := by decide +kernel
theorem d_M_rename_172 : decode b_M_rename 172 = .ok (.aload_n 0, 1) := by decide +kernel
theorem d_M_rename_173 : decode b_M_rename 173 = .ok (.getfield 26, 3) := by decide +kernel
theorem d_M_rename_176 : decode b_M_rename 176 = .ok (.iload_n 2, 1) := by decide +kernel
theorem d_M_rename_177 : decode b_M_rename 177 = .ok (.aload_n 0, 1) := by decide +kernel
theorem d_M_rename_178 : decode b_M_rename 178 = .ok (.getfield 26, 3) := by decide +kernel
theorem d_M_rename_181 : decode b_M_rename 181 = .ok (.iload_n 1, 1) := by decide +kernel
theorem d_M_rename_182 : decode b_M_rename 182 = .ok (.iaload, 1) := by decide +kernel
theorem d_M_rename_183 : decode b_M_rename 183 = .ok (.iastore, 1) := by decide +kernel
theorem d_M_rename_184 : decode b_M_rename 184 = .ok (.aload_n 0, 1) := by decide +kernel
theorem d_M_rename_185 : decode b_M_rename 185 = .ok (.getfield 26, 3) := by decide +kernel
theorem d_M_rename_188 : decode b_M_rename 188 = .ok (.iload_n 1, 1) := by decide +kernel
theorem d_M_rename_189 : decode b_M_rename 189 = .ok (.iconst (-1), 1) := by decide +kernel
theorem d_M_rename_190 : decode b_M_rename 190 = .ok (.iastore, 1) := by decide +kernel
theorem d_M_rename_191 : decode b_M_rename 191 = .ok (.iinc 3 1, 3) := by decide +kernel
theorem d_M_rename_194 : decode b_M_rename 194 = .ok (.iload_n 3, 1) := by decide +kernel
theorem d_M_rename_195 : decode b_M_rename 195 = .ok (.aload_n 0, 1) := by decide +kernel
theorem d_M_rename_196 : decode b_M_rename 196 = .ok (.getfield 23, 3) := by decide +kernel
theorem d_M_rename_199 : decode b_M_rename 199 = .ok (.iload_n 1, 1) := by decide +kernel
theorem d_M_rename_200 : decode b_M_rename 200 = .ok (.iaload, 1) := by decide +kernel
theorem d_M_rename_201 : decode b_M_rename 201 = .ok (.ifCond .le 7, 3) := by decide +kernel
theorem d_M_rename_204 : decode b_M_rename 204 = .ok (.iconst 1, 1) := by decide +kernel
theorem d_M_rename_205 : decode b_M_rename 205 = .ok (.goto 4, 3) := by decide +kernel
theorem d_M_rename_208 : decode b_M_rename 208 = .ok (.iconst 0, 1) := by decide +kernel
theorem d_M_rename_209 : decode b_M_rename 209 = .ok (.iadd, 1) := by decide +kernel
theorem d_M_rename_210 : decode b_M_rename 210 = .ok (.istore_n 3, 1) := by decide +kernel
theorem d_M_rename_211 : decode b_M_rename 211 = .ok (.aload_n 0, 1) := by decide +kernel
theorem d_M_rename_212 : decode b_M_rename 212 = .ok (.getfield 23, 3) := by decide +kernel
theorem d_M_rename_215 : decode b_M_rename 215 = .ok (.iload_n 2, 1) := by decide +kernel
theorem d_M_rename_216 : decode b_M_rename 216 = .ok (.dup2, 1) := by decide +kernel
theorem d_M_rename_217 : decode b_M_rename 217 = .ok (.iaload, 1) := by decide +kernel
theorem d_M_rename_218 : decode b_M_rename 218 = .ok (.aload_n 0, 1) := by decide +kernel
theorem d_M_rename_219 : decode b_M_rename 219 = .ok (.getfield 23, 3) := by decide +kernel
theorem d_M_rename_222 : decode b_M_rename 222 = .ok (.iload_n 1, 1) := by decide +kernel
theorem d_M_rename_223 : decode b_M_rename 223 = .ok (.iaload, 1) := by decide +kernel
theorem d_M_rename_224 : decode b_M_rename 224 = .ok (.iadd, 1) := by decide +kernel
theorem d_M_rename_225 : decode b_M_rename 225 = .ok (.iastore, 1) := by decide +kernel
theorem d_M_rename_226 : decode b_M_rename 226 = .ok (.aload_n 0, 1) := by decide +kernel
theorem d_M_rename_227 : decode b_M_rename 227 = .ok (.getfield 23, 3) := by decide +kernel
theorem d_M_rename_230 : decode b_M_rename 230 = .ok (.iload_n 1, 1) := by decide +kernel
theorem d_M_rename_231 : decode b_M_rename 231 = .ok (.iconst 0, 1) := by decide +kernel
theorem d_M_rename_232 : decode b_M_rename 232 = .ok (.iastore, 1) := by decide +kernel
theorem d_M_rename_233 : decode b_M_rename 233 = .ok (.aload_n 0, 1) := by decide +kernel
theorem d_M_rename_234 : decode b_M_rename 234 = .ok (.getfield 32, 3) := by decide +kernel
theorem d_M_rename_237 : decode b_M_rename 237 = .ok (.iconst 2, 1) := by decide +kernel
theorem d_M_rename_238 : decode b_M_rename 238 = .ok (.aload_n 0, 1) := by decide +kernel
theorem d_M_rename_239 : decode b_M_rename 239 = .ok (.getfield 143, 3) := by decide +kernel
theorem d_M_rename_242 : decode b_M_rename 242 = .ok (.imul, 1) := by decide +kernel
theorem d_M_rename_243 : decode b_M_rename 243 = .ok (.iload_n 1, 1) := by decide +kernel
theorem d_M_rename_244 : decode b_M_rename 244 = .ok (.iastore, 1) := by decide +kernel
theorem d_M_rename_245 : decode b_M_rename 245 = .ok (.aload_n 0, 1) := by decide +kernel
theorem d_M_rename_246 : decode b_M_rename 246 = .ok (.getfield 32, 3) := by decide +kernel
theorem d_M_rename_249 : decode b_M_rename 249 = .ok (.iconst 2, 1) := by decide +kernel
theorem d_M_rename_250 : decode b_M_rename 250 = .ok (.aload_n 0, 1) := by decide +kernel
theorem d_M_rename_251 : decode b_M_rename 251 = .ok (.getfield 143, 3) := by decide +kernel
theorem d_M_rename_254 : decode b_M_rename 254 = .ok (.imul, 1) := by decide +kernel
theorem d_M_rename_255 : decode b_M_rename 255 = .ok (.iconst 1, 1) := by decide +kernel
theorem d_M_rename_256 : decode b_M_rename 256 = .ok (.iadd, 1) := by decide +kernel
theorem d_M_rename_257 : decode b_M_rename 257 = .ok (.iload_n 2, 1) := by decide +kernel
theorem d_M_rename_258 : decode b_M_rename 258 = .ok (.iastore, 1) := by decide +kernel
theorem d_M_rename_259 : decode b_M_rename 259 = .ok (.aload_n 0, 1) := by decide +kernel
theorem d_M_rename_260 : decode b_M_rename 260 = .ok (.dup, 1) := by decide +kernel
theorem d_M_rename_261 : decode b_M_rename 261 = .ok (.getfield 143, 3) := by decide +kernel
theorem d_M_rename_264 : decode b_M_rename 264 = .ok (.iconst 1, 1) := by decide +kernel
theorem d_M_rename_265 : decode b_M_rename 265 = .ok (.iadd, 1) := by decide +kernel
theorem d_M_rename_266 : decode b_M_rename 266 = .ok (.putfield 143, 3) := by decide +kernel
theorem d_M_rename_269 : decode b_M_rename 269 = .ok (.iload_n 3, 1) := by decide +kernel
theorem d_M_rename_270 : decode b_M_rename 270 = .ok (.ireturn, 1) := by decide +kernel
theorem d_M_now_0 : decode b_M_now 0 = .ok (.aload_n 0, 1) := by decide +kernel
theorem d_M_now_1 : decode b_M_now 1 = .ok (.aload_n 0, 1) := by decide +kernel
theorem d_M_now_2 : decode b_M_now 2 = .ok (.iload_n 1, 1) := by decide +kernel
theorem d_M_now_3 : decode b_M_now 3 = .ok (.invokevirtual 89, 3) := by decide +kernel
theorem d_M_now_6 : decode b_M_now 6 = .ok (.ifCond .eq 7, 3) := by decide +kernel
theorem d_M_now_9 : decode b_M_now 9 = .ok (.iconst 1, 1) := by decide +kernel
theorem d_M_now_10 : decode b_M_now 10 = .ok (.goto 4, 3) := by decide +kernel
theorem d_M_now_13 : decode b_M_now 13 = .ok (.iconst 0, 1) := by decide +kernel
theorem d_M_now_14 : decode b_M_now 14 = .ok (.invokevirtual 57, 3) := by decide +kernel
theorem d_M_now_17 : decode b_M_now 17 = .ok (.ifCond .eq 5, 3) := by decide +kernel
theorem d_M_now_20 : decode b_M_now 20 = .ok (.iconst 0, 1) := by decide +kernel
theorem d_M_now_21 : decode b_M_now 21 = .ok (.ireturn, 1) := by decide +kernel
theorem d_M_now_22 : decode b_M_now 22 = .ok (.iload_n 1, 1) := by decide +kernel
theorem d_M_now_23 : decode b_M_now 23 = .ok (.istore_n 2, 1) := by decide +kernel
theorem d_M_now_24 : decode b_M_now 24 = .ok (.iconst 0, 1) := by decide +kernel
theorem d_M_now_25 : decode b_M_now 25 = .ok (.istore_n 3, 1) := by decide +kernel
theorem d_M_now_26 : decode b_M_now 26 = .ok (.iload_n 3, 1) := by decide +kernel
theorem d_M_now_27 : decode b_M_now 27 = .ok (.aload_n 0, 1) := by decide +kernel
theorem d_M_now_28 : decode b_M_now 28 = .ok (.getfield 143, 3) := by decide +kernel
theorem d_M_now_31 : decode b_M_now 31 = .ok (.if_icmp .ge 36, 3) := by decide +kernel
theorem d_M_now_34 : decode b_M_now 34 = .ok (.aload_n 0, 1) := by decide +kernel
theorem d_M_now_35 : decode b_M_now 35 = .ok (.getfield 32, 3) := by decide +kernel
theorem d_M_now_38 : decode b_M_now 38 = .ok (.iconst 2, 1) := by decide +kernel
theorem d_M_now_39 : decode b_M_now 39 = .ok (.iload_n 3, 1) := by decide +kernel
theorem d_M_now_40 : decode b_M_now 40 = .ok (.imul, 1) := by decide +kernel
theorem d_M_now_41 : decode b_M_now 41 = .ok (.iaload, 1) := by decide +kernel
theorem d_M_now_42 : decode b_M_now 42 = .ok (.iload_n 2, 1) := by decide +kernel
theorem d_M_now_43 : decode b_M_now 43 = .ok (.if_icmp .ne 16, 3) := by decide +kernel
theorem d_M_now_46 : decode b_M_now 46 = .ok (.aload_n 0, 1) := by decide +kernel
theorem d_M_now_47 : decode b_M_now 47 = .ok (.getfield 32, 3) := by decide +kernel
theorem d_M_now_50 : decode b_M_now 50 = .ok (.iconst 2, 1) := by decide +kernel
theorem d_M_now_51 : decode b_M_now 51 = .ok (.iload_n 3, 1) := by decide +kernel
theorem d_M_now_52 : decode b_M_now 52 = .ok (.imul, 1) := by decide +kernel
theorem d_M_now_53 : decode b_M_now 53 = .ok (.iconst 1, 1) := by decide +kernel
theorem d_M_now_54 : decode b_M_now 54 = .ok (.iadd, 1) := by decide +kernel
theorem d_M_now_55 : decode b_M_now 55 = .ok (.iaload, 1) := by decide +kernel
theorem d_M_now_56 : decode b_M_now 56 = .ok (.goto 4, 3) := by decide +kernel
theorem d_M_now_59 : decode b_M_now 59 = .ok (.iload_n 2, 1) := by decide +kernel
theorem d_M_now_60 : decode b_M_now 60 = .ok (.istore_n 2, 1) := by decide +kernel
theorem d_M_now_61 : decode b_M_now 61 = .ok (.iinc 3 1, 3) := by decide +kernel
theorem d_M_now_64 : decode b_M_now 64 = .ok (.goto (-38), 3) := by decide +kernel
theorem d_M_now_67 : decode b_M_now 67 = .ok (.iload_n 2, 1) := by decide +kernel
theorem d_M_now_68 : decode b_M_now 68 = .ok (.ireturn, 1) := by decide +kernel
theorem d_M_was_0 : decode b_M_was 0 = .ok (.aload_n 0, 1) := by decide +kernel
theorem d_M_was_1 : decode b_M_was 1 = .ok (.aload_n 0, 1) := by decide +kernel
theorem d_M_was_2 : decode b_M_was 2 = .ok (.iload_n 1, 1) := by decide +kernel
theorem d_M_was_3 : decode b_M_was 3 = .ok (.invokevirtual 89, 3) := by decide +kernel
theorem d_M_was_6 : decode b_M_was 6 = .ok (.ifCond .eq 7, 3) := by decide +kernel
theorem d_M_was_9 : decode b_M_was 9 = .ok (.iconst 1, 1) := by decide +kernel
theorem d_M_was_10 : decode b_M_was 10 = .ok (.goto 4, 3) := by decide +kernel
theorem d_M_was_13 : decode b_M_was 13 = .ok (.iconst 0, 1) := by decide +kernel
theorem d_M_was_14 : decode b_M_was 14 = .ok (.invokevirtual 57, 3) := by decide +kernel
theorem d_M_was_17 : decode b_M_was 17 = .ok (.ifCond .eq 5, 3) := by decide +kernel
theorem d_M_was_20 : decode b_M_was 20 = .ok (.iconst 0, 1) := by decide +kernel
theorem d_M_was_21 : decode b_M_was 21 = .ok (.ireturn, 1) := by decide +kernel
theorem d_M_was_22 : decode b_M_was 22 = .ok (.iload_n 1, 1) := by decide +kernel
theorem d_M_was_23 : decode b_M_was 23 = .ok (.istore_n 2, 1) := by decide +kernel
theorem d_M_was_24 : decode b_M_was 24 = .ok (.aload_n 0, 1) := by decide +kernel
theorem d_M_was_25 : decode b_M_was 25 = .ok (.getfield 143, 3) := by decide +kernel
theorem d_M_was_28 : decode b_M_was 28 = .ok (.iconst 1, 1) := by decide +kernel
theorem d_M_was_29 : decode b_M_was 29 = .ok (.isub, 1) := by decide +kernel
theorem d_M_was_30 : decode b_M_was 30 = .ok (.istore_n 3, 1) := by decide +kernel
theorem d_M_was_31 : decode b_M_was 31 = .ok (.iload_n 3, 1) := by decide +kernel
theorem d_M_was_32 : decode b_M_was 32 = .ok (.ifCond .lt 36, 3) := by decide +kernel
theorem d_M_was_35 : decode b_M_was 35 = .ok (.aload_n 0, 1) := by decide +kernel
theorem d_M_was_36 : decode b_M_was 36 = .ok (.getfield 32, 3) := by decide +kernel
theorem d_M_was_39 : decode b_M_was 39 = .ok (.iconst 2, 1) := by decide +kernel
theorem d_M_was_40 : decode b_M_was 40 = .ok (.iload_n 3, 1) := by decide +kernel
theorem d_M_was_41 : decode b_M_was 41 = .ok (.imul, 1) := by decide +kernel
theorem d_M_was_42 : decode b_M_was 42 = .ok (.iconst 1, 1) := by decide +kernel
theorem d_M_was_43 : decode b_M_was 43 = .ok (.iadd, 1) := by decide +kernel
theorem d_M_was_44 : decode b_M_was 44 = .ok (.iaload, 1) := by decide +kernel
theorem d_M_was_45 : decode b_M_was 45 = .ok (.iload_n 2, 1) := by decide +kernel
theorem d_M_was_46 : decode b_M_was 46 = .ok (.if_icmp .ne 14, 3) := by decide +kernel
theorem d_M_was_49 : decode b_M_was 49 = .ok (.aload_n 0, 1) := by decide +kernel
theorem d_M_was_50 : decode b_M_was 50 = .ok (.getfield 32, 3) := by decide +kernel
theorem d_M_was_53 : decode b_M_was 53 = .ok (.iconst 2, 1) := by decide +kernel
theorem d_M_was_54 : decode b_M_was 54 = .ok (.iload_n 3, 1) := by decide +kernel
theorem d_M_was_55 : decode b_M_was 55 = .ok (.imul, 1) := by decide +kernel
theorem d_M_was_56 : decode b_M_was 56 = .ok (.iaload, 1) := by decide +kernel
theorem d_M_was_57 : decode b_M_was 57 = .ok (.goto 4, 3) := by decide +kernel
theorem d_M_was_60 : decode b_M_was 60 = .ok (.iload_n 2, 1) := by decide +kernel
theorem d_M_was_61 : decode b_M_was 61 = .ok (.istore_n 2, 1) := by decide +kernel
theorem d_M_was_62 : decode b_M_was 62 = .ok (.iinc 3 (-1), 3) := by decide +kernel
theorem d_M_was_65 : decode b_M_was 65 = .ok (.goto (-34), 3) := by decide +kernel
theorem d_M_was_68 : decode b_M_was 68 = .ok (.iload_n 2, 1) := by decide +kernel
theorem d_M_was_69 : decode b_M_was 69 = .ok (.ireturn, 1) := by decide +kernel
theorem d_M_clash_0 : decode b_M_clash 0 = .ok (.aload_n 0, 1) := by decide +kernel
theorem d_M_clash_1 : decode b_M_clash 1 = .ok (.iload_n 1, 1) := by decide +kernel
theorem d_M_clash_2 : decode b_M_clash 2 = .ok (.ifCond .lt 8, 3) := by decide +kernel
theorem d_M_clash_5 : decode b_M_clash 5 = .ok (.iload_n 1, 1) := by decide +kernel
theorem d_M_clash_6 : decode b_M_clash 6 = .ok (.iconst 2, 1) := by decide +kernel
theorem d_M_clash_7 : decode b_M_clash 7 = .ok (.if_icmp .le 7, 3) := by decide +kernel
theorem d_M_clash_10 : decode b_M_clash 10 = .ok (.iconst 1, 1) := by decide +kernel
theorem d_M_clash_11 : decode b_M_clash 11 = .ok (.goto 4, 3) := by decide +kernel
theorem d_M_clash_14 : decode b_M_clash 14 = .ok (.iconst 0, 1) := by decide +kernel
theorem d_M_clash_15 : decode b_M_clash 15 = .ok (.invokevirtual 57, 3) := by decide +kernel
theorem d_M_clash_18 : decode b_M_clash 18 = .ok (.ifCond .eq 7, 3) := by decide +kernel
theorem d_M_clash_21 : decode b_M_clash 21 = .ok (.iconst 0, 1) := by decide +kernel
theorem d_M_clash_22 : decode b_M_clash 22 = .ok (.goto 9, 3) := by decide +kernel
theorem d_M_clash_25 : decode b_M_clash 25 = .ok (.aload_n 0, 1) := by decide +kernel
theorem d_M_clash_26 : decode b_M_clash 26 = .ok (.getfield 38, 3) := by decide +kernel
theorem d_M_clash_29 : decode b_M_clash 29 = .ok (.iload_n 1, 1) := by decide +kernel
theorem d_M_clash_30 : decode b_M_clash 30 = .ok (.iaload, 1) := by decide +kernel
theorem d_M_clash_31 : decode b_M_clash 31 = .ok (.ireturn, 1) := by decide +kernel
theorem d_M_count_0 : decode b_M_count 0 = .ok (.aload_n 0, 1) := by decide +kernel
theorem d_M_count_1 : decode b_M_count 1 = .ok (.iload_n 1, 1) := by decide +kernel
theorem d_M_count_2 : decode b_M_count 2 = .ok (.ifCond .lt 9, 3) := by decide +kernel
theorem d_M_count_5 : decode b_M_count 5 = .ok (.iload_n 1, 1) := by decide +kernel
theorem d_M_count_6 : decode b_M_count 6 = .ok (.bipush 6, 2) := by decide +kernel
theorem d_M_count_8 : decode b_M_count 8 = .ok (.if_icmp .le 7, 3) := by decide +kernel
theorem d_M_count_11 : decode b_M_count 11 = .ok (.iconst 1, 1) := by decide +kernel
theorem d_M_count_12 : decode b_M_count 12 = .ok (.goto 4, 3) := by decide +kernel
theorem d_M_count_15 : decode b_M_count 15 = .ok (.iconst 0, 1) := by decide +kernel
theorem d_M_count_16 : decode b_M_count 16 = .ok (.invokevirtual 57, 3) := by decide +kernel
theorem d_M_count_19 : decode b_M_count 19 = .ok (.ifCond .eq 5, 3) := by decide +kernel
theorem d_M_count_22 : decode b_M_count 22 = .ok (.iconst 0, 1) := by decide +kernel
theorem d_M_count_23 : decode b_M_count 23 = .ok (.ireturn, 1) := by decide +kernel
theorem d_M_count_24 : decode b_M_count 24 = .ok (.iconst 0, 1) := by decide +kernel
theorem d_M_count_25 : decode b_M_count 25 = .ok (.istore_n 2, 1) := by decide +kernel
theorem d_M_count_26 : decode b_M_count 26 = .ok (.iconst 0, 1) := by decide +kernel
theorem d_M_count_27 : decode b_M_count 27 = .ok (.istore_n 3, 1) := by decide +kernel
theorem d_M_count_28 : decode b_M_count 28 = .ok (.iload_n 3, 1) := by decide +kernel
theorem d_M_count_29 : decode b_M_count 29 = .ok (.aload_n 0, 1) := by decide +kernel
theorem d_M_count_30 : decode b_M_count 30 = .ok (.getfield 51, 3) := by decide +kernel
theorem d_M_count_33 : decode b_M_count 33 = .ok (.if_icmp .ge 58, 3) := by decide +kernel
theorem d_M_count_36 : decode b_M_count 36 = .ok (.iload_n 2, 1) := by decide +kernel
theorem d_M_count_37 : decode b_M_count 37 = .ok (.iload_n 1, 1) := by decide +kernel
theorem d_M_count_38 : decode b_M_count 38 = .ok (.iconst 1, 1) := by decide +kernel
theorem d_M_count_39 : decode b_M_count 39 = .ok (.if_icmp .ne 11, 3) := by decide +kernel
theorem d_M_count_42 : decode b_M_count 42 = .ok (.aload_n 0, 1) := by decide +kernel
theorem d_M_count_43 : decode b_M_count 43 = .ok (.iload_n 3, 1) := by decide +kernel
theorem d_M_count_44 : decode b_M_count 44 = .ok (.invokevirtual 103, 3) := by decide +kernel
theorem d_M_count_47 : decode b_M_count 47 = .ok (.ifCond .ne 31, 3) := by decide +kernel
theorem d_M_count_50 : decode b_M_count 50 = .ok (.iload_n 1, 1) := by decide +kernel
theorem d_M_count_51 : decode b_M_count 51 = .ok (.iconst 2, 1) := by decide +kernel
theorem d_M_count_52 : decode b_M_count 52 = .ok (.if_icmp .ne 12, 3) := by decide +kernel
theorem d_M_count_55 : decode b_M_count 55 = .ok (.aload_n 0, 1) := by decide +kernel
theorem d_M_count_56 : decode b_M_count 56 = .ok (.getfield 20, 3) := by decide +kernel
theorem d_M_count_59 : decode b_M_count 59 = .ok (.iload_n 3, 1) := by decide +kernel
theorem d_M_count_60 : decode b_M_count 60 = .ok (.iaload, 1) := by decide +kernel
theorem d_M_count_61 : decode b_M_count 61 = .ok (.ifCond .ge 17, 3) := by decide +kernel
theorem d_M_count_64 : decode b_M_count 64 = .ok (.iload_n 1, 1) := by decide +kernel
theorem d_M_count_65 : decode b_M_count 65 = .ok (.bipush 6, 2) := by decide +kernel
theorem d_M_count_67 : decode b_M_count 67 = .ok (.if_icmp .ne 15, 3) := by decide +kernel
theorem d_M_count_70 : decode b_M_count 70 = .ok (.aload_n 0, 1) := by decide +kernel
theorem d_M_count_71 : decode b_M_count 71 = .ok (.iload_n 3, 1) := by decide +kernel
theorem d_M_count_72 : decode b_M_count 72 = .ok (.invokevirtual 131, 3) := by decide +kernel
theorem d_M_count_75 : decode b_M_count 75 = .ok (.ifCond .eq 7, 3) := by decide +kernel
theorem d_M_count_78 : decode b_M_count 78 = .ok (.iconst 1, 1) := by decide +kernel
theorem d_M_count_79 : decode b_M_count 79 = .ok (.goto 4, 3) := by decide +kernel
theorem d_M_count_82 : decode b_M_count 82 = .ok (.iconst 0, 1) := by decide +kernel
theorem d_M_count_83 : decode b_M_count 83 = .ok (.iadd, 1) := by decide +kernel
theorem d_M_count_84 : decode b_M_count 84 = .ok (.istore_n 2, 1) := by decide +kernel
theorem d_M_count_85 : decode b_M_count 85 = .ok (.iinc 3 1, 3) := by decide +kernel
theorem d_M_count_88 : decode b_M_count 88 = .ok (.goto (-60), 3) := by decide +kernel
theorem d_M_count_91 : decode b_M_count 91 = .ok (.iload_n 1, 1) := by decide +kernel
theorem d_M_count_92 : decode b_M_count 92 = .ok (.tableswitch 60 0 5 #[40, 60, 60, 45, 50, 55], 40) := by decide +kernel
theorem d_M_count_132 : decode b_M_count 132 = .ok (.aload_n 0, 1) := by decide +kernel
theorem d_M_count_133 : decode b_M_count 133 = .ok (.getfield 51, 3) := by decide +kernel
theorem d_M_count_136 : decode b_M_count 136 = .ok (.ireturn, 1) := by decide +kernel
theorem d_M_count_137 : decode b_M_count 137 = .ok (.aload_n 0, 1) := by decide +kernel
theorem d_M_count_138 : decode b_M_count 138 = .ok (.getfield 125, 3) := by decide +kernel
theorem d_M_count_141 : decode b_M_count 141 = .ok (.ireturn, 1) := by decide +kernel
theorem d_M_count_142 : decode b_M_count 142 = .ok (.aload_n 0, 1) := by decide +kernel
theorem d_M_count_143 : decode b_M_count 143 = .ok (.getfield 143, 3) := by decide +kernel
theorem d_M_count_146 : decode b_M_count 146 = .ok (.ireturn, 1) := by decide +kernel
theorem d_M_count_147 : decode b_M_count 147 = .ok (.aload_n 0, 1) := by decide +kernel
theorem d_M_count_148 : decode b_M_count 148 = .ok (.getfield 54, 3) := by decide +kernel
theorem d_M_count_151 : decode b_M_count 151 = .ok (.ireturn, 1) := by decide +kernel
theorem d_M_count_152 : decode b_M_count 152 = .ok (.iload_n 2, 1) := by decide +kernel
theorem d_M_count_153 : decode b_M_count 153 = .ok (.ireturn, 1) := by decide +kernel
