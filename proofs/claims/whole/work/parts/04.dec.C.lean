theorem d_C_init_0 : decode b_C_init 0 = .ok (.aload_n 0, 1) := by decide +kernel
theorem d_C_init_1 : decode b_C_init 1 = .ok (.invokespecial 3, 3) := by decide +kernel
theorem d_C_init_4 : decode b_C_init 4 = .ok (.aload_n 0, 1) := by decide +kernel
theorem d_C_init_5 : decode b_C_init 5 = .ok (.new 9, 3) := by decide +kernel
theorem d_C_init_8 : decode b_C_init 8 = .ok (.dup, 1) := by decide +kernel
theorem d_C_init_9 : decode b_C_init 9 = .ok (.bipush 24, 2) := by decide +kernel
theorem d_C_init_11 : decode b_C_init 11 = .ok (.invokespecial 11, 3) := by decide +kernel
theorem d_C_init_14 : decode b_C_init 14 = .ok (.putfield 14, 3) := by decide +kernel
theorem d_C_init_17 : decode b_C_init 17 = .ok (.aload_n 0, 1) := by decide +kernel
theorem d_C_init_18 : decode b_C_init 18 = .ok (.new 9, 3) := by decide +kernel
theorem d_C_init_21 : decode b_C_init 21 = .ok (.dup, 1) := by decide +kernel
theorem d_C_init_22 : decode b_C_init 22 = .ok (.bipush 28, 2) := by decide +kernel
theorem d_C_init_24 : decode b_C_init 24 = .ok (.invokespecial 11, 3) := by decide +kernel
theorem d_C_init_27 : decode b_C_init 27 = .ok (.putfield 18, 3) := by decide +kernel
theorem d_C_init_30 : decode b_C_init 30 = .ok (.aload_n 0, 1) := by decide +kernel
theorem d_C_init_31 : decode b_C_init 31 = .ok (.new 9, 3) := by decide +kernel
theorem d_C_init_34 : decode b_C_init 34 = .ok (.dup, 1) := by decide +kernel
theorem d_C_init_35 : decode b_C_init 35 = .ok (.bipush 49, 2) := by decide +kernel
theorem d_C_init_37 : decode b_C_init 37 = .ok (.invokespecial 11, 3) := by decide +kernel
theorem d_C_init_40 : decode b_C_init 40 = .ok (.putfield 21, 3) := by decide +kernel
theorem d_C_init_43 : decode b_C_init 43 = .ok (.aload_n 0, 1) := by decide +kernel
theorem d_C_init_44 : decode b_C_init 44 = .ok (.new 24, 3) := by decide +kernel
theorem d_C_init_47 : decode b_C_init 47 = .ok (.dup, 1) := by decide +kernel
theorem d_C_init_48 : decode b_C_init 48 = .ok (.invokespecial 26, 3) := by decide +kernel
theorem d_C_init_51 : decode b_C_init 51 = .ok (.putfield 27, 3) := by decide +kernel
theorem d_C_init_54 : decode b_C_init 54 = .ok (.aload_n 0, 1) := by decide +kernel
theorem d_C_init_55 : decode b_C_init 55 = .ok (.new 31, 3) := by decide +kernel
theorem d_C_init_58 : decode b_C_init 58 = .ok (.dup, 1) := by decide +kernel
theorem d_C_init_59 : decode b_C_init 59 = .ok (.aload_n 0, 1) := by decide +kernel
theorem d_C_init_60 : decode b_C_init 60 = .ok (.getfield 27, 3) := by decide +kernel
theorem d_C_init_63 : decode b_C_init 63 = .ok (.invokespecial 33, 3) := by decide +kernel
theorem d_C_init_66 : decode b_C_init 66 = .ok (.putfield 36, 3) := by decide +kernel
theorem d_C_init_69 : decode b_C_init 69 = .ok (.aload_n 0, 1) := by decide +kernel
theorem d_C_init_70 : decode b_C_init 70 = .ok (.new 40, 3) := by decide +kernel
theorem d_C_init_73 : decode b_C_init 73 = .ok (.dup, 1) := by decide +kernel
theorem d_C_init_74 : decode b_C_init 74 = .ok (.invokespecial 42, 3) := by decide +kernel
theorem d_C_init_77 : decode b_C_init 77 = .ok (.putfield 43, 3) := by decide +kernel
theorem d_C_init_80 : decode b_C_init 80 = .ok (.aload_n 0, 1) := by decide +kernel
theorem d_C_init_81 : decode b_C_init 81 = .ok (.new 47, 3) := by decide +kernel
theorem d_C_init_84 : decode b_C_init 84 = .ok (.dup, 1) := by decide +kernel
theorem d_C_init_85 : decode b_C_init 85 = .ok (.invokespecial 49, 3) := by decide +kernel
theorem d_C_init_88 : decode b_C_init 88 = .ok (.putfield 50, 3) := by decide +kernel
theorem d_C_init_91 : decode b_C_init 91 = .ok (.aload_n 0, 1) := by decide +kernel
theorem d_C_init_92 : decode b_C_init 92 = .ok (.new 54, 3) := by decide +kernel
theorem d_C_init_95 : decode b_C_init 95 = .ok (.dup, 1) := by decide +kernel
theorem d_C_init_96 : decode b_C_init 96 = .ok (.invokespecial 56, 3) := by decide +kernel
theorem d_C_init_99 : decode b_C_init 99 = .ok (.putfield 57, 3) := by decide +kernel
theorem d_C_init_102 : decode b_C_init 102 = .ok (.aload_n 0, 1) := by decide +kernel
theorem d_C_init_103 : decode b_C_init 103 = .ok (.new 61, 3) := by decide +kernel
theorem d_C_init_106 : decode b_C_init 106 = .ok (.dup, 1) := by decide +kernel
theorem d_C_init_107 : decode b_C_init 107 = .ok (.invokespecial 63, 3) := by decide +kernel
theorem d_C_init_110 : decode b_C_init 110 = .ok (.putfield 64, 3) := by decide +kernel
theorem d_C_init_113 : decode b_C_init 113 = .ok (.aload_n 0, 1) := by decide +kernel
theorem d_C_init_114 : decode b_C_init 114 = .ok (.bipush 60, 2) := by decide +kernel
theorem d_C_init_116 : decode b_C_init 116 = .ok (.newarray .int, 2) := by decide +kernel
theorem d_C_init_118 : decode b_C_init 118 = .ok (.putfield 68, 3) := by decide +kernel
theorem d_C_init_121 : decode b_C_init 121 = .ok (.aload_n 0, 1) := by decide +kernel
theorem d_C_init_122 : decode b_C_init 122 = .ok (.bipush 60, 2) := by decide +kernel
theorem d_C_init_124 : decode b_C_init 124 = .ok (.newarray .boolean, 2) := by decide +kernel
theorem d_C_init_126 : decode b_C_init 126 = .ok (.putfield 72, 3) := by decide +kernel
theorem d_C_init_129 : decode b_C_init 129 = .ok (.aload_n 0, 1) := by decide +kernel
theorem d_C_init_130 : decode b_C_init 130 = .ok (.bipush 40, 2) := by decide +kernel
theorem d_C_init_132 : decode b_C_init 132 = .ok (.newarray .int, 2) := by decide +kernel
theorem d_C_init_134 : decode b_C_init 134 = .ok (.putfield 76, 3) := by decide +kernel
theorem d_C_init_137 : decode b_C_init 137 = .ok (.aload_n 0, 1) := by decide +kernel
theorem d_C_init_138 : decode b_C_init 138 = .ok (.iconst 0, 1) := by decide +kernel
theorem d_C_init_139 : decode b_C_init 139 = .ok (.putfield 79, 3) := by decide +kernel
theorem d_C_init_142 : decode b_C_init 142 = .ok (.aload_n 0, 1) := by decide +kernel
theorem d_C_init_143 : decode b_C_init 143 = .ok (.iconst (-1), 1) := by decide +kernel
theorem d_C_init_144 : decode b_C_init 144 = .ok (.putfield 83, 3) := by decide +kernel
theorem d_C_init_147 : decode b_C_init 147 = .ok (.aload_n 0, 1) := by decide +kernel
theorem d_C_init_148 : decode b_C_init 148 = .ok (.iconst (-1), 1) := by decide +kernel
theorem d_C_init_149 : decode b_C_init 149 = .ok (.putfield 86, 3) := by decide +kernel
theorem d_C_init_152 : decode b_C_init 152 = .ok (.return_, 1) := by decide +kernel
theorem d_C_type_0 : decode b_C_type 0 = .ok (.iload_n 1, 1) := by decide +kernel
theorem d_C_type_1 : decode b_C_type 1 = .ok (.bipush 33, 2) := by decide +kernel
theorem d_C_type_3 : decode b_C_type 3 = .ok (.if_icmp .lt 9, 3) := by decide +kernel
theorem d_C_type_6 : decode b_C_type 6 = .ok (.iload_n 1, 1) := by decide +kernel
theorem d_C_type_7 : decode b_C_type 7 = .ok (.bipush 126, 2) := by decide +kernel
theorem d_C_type_9 : decode b_C_type 9 = .ok (.if_icmp .le 13, 3) := by decide +kernel
theorem d_C_type_12 : decode b_C_type 12 = .ok (.new 89, 3) := by decide +kernel
theorem d_C_type_15 : decode b_C_type 15 = .ok (.dup, 1) := by decide +kernel
theorem d_C_type_16 : decode b_C_type 16 = .ok (.ldc 91, 2) := by decide +kernel
theorem d_C_type_18 : decode b_C_type 18 = .ok (.invokespecial 93, 3) := by decide +kernel
theorem d_C_type_21 : decode b_C_type 21 = .ok (.athrow, 1) := by decide +kernel
theorem d_C_type_22 : decode b_C_type 22 = .ok (.aload_n 0, 1) := by decide +kernel
theorem d_C_type_23 : decode b_C_type 23 = .ok (.getfield 14, 3) := by decide +kernel
theorem d_C_type_26 : decode b_C_type 26 = .ok (.invokevirtual 96, 3) := by decide +kernel
theorem d_C_type_29 : decode b_C_type 29 = .ok (.ifCond .eq 13, 3) := by decide +kernel
theorem d_C_type_32 : decode b_C_type 32 = .ok (.new 100, 3) := by decide +kernel
theorem d_C_type_35 : decode b_C_type 35 = .ok (.dup, 1) := by decide +kernel
theorem d_C_type_36 : decode b_C_type 36 = .ok (.ldc 102, 2) := by decide +kernel
theorem d_C_type_38 : decode b_C_type 38 = .ok (.invokespecial 104, 3) := by decide +kernel
theorem d_C_type_41 : decode b_C_type 41 = .ok (.athrow, 1) := by decide +kernel
theorem d_C_type_42 : decode b_C_type 42 = .ok (.aload_n 0, 1) := by decide +kernel
theorem d_C_type_43 : decode b_C_type 43 = .ok (.getfield 14, 3) := by decide +kernel
theorem d_C_type_46 : decode b_C_type 46 = .ok (.iload_n 1, 1) := by decide +kernel
theorem d_C_type_47 : decode b_C_type 47 = .ok (.i2c, 1) := by decide +kernel
theorem d_C_type_48 : decode b_C_type 48 = .ok (.invokevirtual 105, 3) := by decide +kernel
theorem d_C_type_51 : decode b_C_type 51 = .ok (.aload_n 0, 1) := by decide +kernel
theorem d_C_type_52 : decode b_C_type 52 = .ok (.getfield 14, 3) := by decide +kernel
theorem d_C_type_55 : decode b_C_type 55 = .ok (.invokevirtual 109, 3) := by decide +kernel
theorem d_C_type_58 : decode b_C_type 58 = .ok (.ireturn, 1) := by decide +kernel
theorem d_C_clear_0 : decode b_C_clear 0 = .ok (.aload_n 0, 1) := by decide +kernel
theorem d_C_clear_1 : decode b_C_clear 1 = .ok (.getfield 14, 3) := by decide +kernel
theorem d_C_clear_4 : decode b_C_clear 4 = .ok (.invokevirtual 109, 3) := by decide +kernel
theorem d_C_clear_7 : decode b_C_clear 7 = .ok (.istore_n 1, 1) := by decide +kernel
theorem d_C_clear_8 : decode b_C_clear 8 = .ok (.aload_n 0, 1) := by decide +kernel
theorem d_C_clear_9 : decode b_C_clear 9 = .ok (.getfield 14, 3) := by decide +kernel
theorem d_C_clear_12 : decode b_C_clear 12 = .ok (.invokevirtual 113, 3) := by decide +kernel
theorem d_C_clear_15 : decode b_C_clear 15 = .ok (.iload_n 1, 1) := by decide +kernel
theorem d_C_clear_16 : decode b_C_clear 16 = .ok (.ireturn, 1) := by decide +kernel
theorem d_C_name_0 : decode b_C_name 0 = .ok (.aload_n 0, 1) := by decide +kernel
theorem d_C_name_1 : decode b_C_name 1 = .ok (.invokevirtual 116, 3) := by decide +kernel
theorem d_C_name_4 : decode b_C_name 4 = .ok (.aload_n 0, 1) := by decide +kernel
theorem d_C_name_5 : decode b_C_name 5 = .ok (.aload_n 0, 1) := by decide +kernel
theorem d_C_name_6 : decode b_C_name 6 = .ok (.getfield 14, 3) := by decide +kernel
theorem d_C_name_9 : decode b_C_name 9 = .ok (.invokevirtual 119, 3) := by decide +kernel
theorem d_C_name_12 : decode b_C_name 12 = .ok (.istore_n 1, 1) := by decide +kernel
theorem d_C_name_13 : decode b_C_name 13 = .ok (.aload_n 0, 1) := by decide +kernel
theorem d_C_name_14 : decode b_C_name 14 = .ok (.getfield 14, 3) := by decide +kernel
theorem d_C_name_17 : decode b_C_name 17 = .ok (.invokevirtual 113, 3) := by decide +kernel
theorem d_C_name_20 : decode b_C_name 20 = .ok (.iload_n 1, 1) := by decide +kernel
theorem d_C_name_21 : decode b_C_name 21 = .ok (.ireturn, 1) := by decide +kernel
theorem d_C_expand_0 : decode b_C_expand 0 = .ok (.aload_n 0, 1) := by decide +kernel
theorem d_C_expand_1 : decode b_C_expand 1 = .ok (.invokevirtual 116, 3) := by decide +kernel
theorem d_C_expand_4 : decode b_C_expand 4 = .ok (.aload_n 0, 1) := by decide +kernel
theorem d_C_expand_5 : decode b_C_expand 5 = .ok (.invokevirtual 123, 3) := by decide +kernel
theorem d_C_expand_8 : decode b_C_expand 8 = .ok (.aload_n 0, 1) := by decide +kernel
theorem d_C_expand_9 : decode b_C_expand 9 = .ok (.getfield 21, 3) := by decide +kernel
theorem d_C_expand_12 : decode b_C_expand 12 = .ok (.invokevirtual 126, 3) := by decide +kernel
theorem d_C_expand_15 : decode b_C_expand 15 = .ok (.ifCond .eq 13, 3) := by decide +kernel
theorem d_C_expand_18 : decode b_C_expand 18 = .ok (.new 89, 3) := by decide +kernel
theorem d_C_expand_21 : decode b_C_expand 21 = .ok (.dup, 1) := by decide +kernel
theorem d_C_expand_22 : decode b_C_expand 22 = .ok (.ldc 129, 2) := by decide +kernel
theorem d_C_expand_24 : decode b_C_expand 24 = .ok (.invokespecial 93, 3) := by decide +kernel
theorem d_C_expand_27 : decode b_C_expand 27 = .ok (.athrow, 1) := by decide +kernel
theorem d_C_expand_28 : decode b_C_expand 28 = .ok (.aload_n 0, 1) := by decide +kernel
theorem d_C_expand_29 : decode b_C_expand 29 = .ok (.aload_n 0, 1) := by decide +kernel
theorem d_C_expand_30 : decode b_C_expand 30 = .ok (.getfield 21, 3) := by decide +kernel
theorem d_C_expand_33 : decode b_C_expand 33 = .ok (.invokevirtual 119, 3) := by decide +kernel
theorem d_C_expand_36 : decode b_C_expand 36 = .ok (.istore_n 1, 1) := by decide +kernel
theorem d_C_expand_37 : decode b_C_expand 37 = .ok (.aload_n 0, 1) := by decide +kernel
theorem d_C_expand_38 : decode b_C_expand 38 = .ok (.getfield 14, 3) := by decide +kernel
theorem d_C_expand_41 : decode b_C_expand 41 = .ok (.invokevirtual 113, 3) := by decide +kernel
theorem d_C_expand_44 : decode b_C_expand 44 = .ok (.iload_n 1, 1) := by decide +kernel
theorem d_C_expand_45 : decode b_C_expand 45 = .ok (.ireturn, 1) := by decide +kernel
theorem d_C_prefix_0 : decode b_C_prefix 0 = .ok (.aload_n 0, 1) := by decide +kernel
theorem d_C_prefix_1 : decode b_C_prefix 1 = .ok (.iload_n 1, 1) := by decide +kernel
theorem d_C_prefix_2 : decode b_C_prefix 2 = .ok (.invokevirtual 131, 3) := by decide +kernel
theorem d_C_prefix_5 : decode b_C_prefix 5 = .ok (.aload_n 0, 1) := by decide +kernel
theorem d_C_prefix_6 : decode b_C_prefix 6 = .ok (.iload_n 2, 1) := by decide +kernel
theorem d_C_prefix_7 : decode b_C_prefix 7 = .ok (.invokevirtual 131, 3) := by decide +kernel
theorem d_C_prefix_10 : decode b_C_prefix 10 = .ok (.iload_n 1, 1) := by decide +kernel
theorem d_C_prefix_11 : decode b_C_prefix 11 = .ok (.iload_n 2, 1) := by decide +kernel
theorem d_C_prefix_12 : decode b_C_prefix 12 = .ok (.if_icmp .eq 17, 3) := by decide +kernel
theorem d_C_prefix_15 : decode b_C_prefix 15 = .ok (.aload_n 0, 1) := by decide +kernel
theorem d_C_prefix_16 : decode b_C_prefix 16 = .ok (.getfield 27, 3) := by decide +kernel
theorem d_C_prefix_19 : decode b_C_prefix 19 = .ok (.iload_n 2, 1) := by decide +kernel
theorem d_C_prefix_20 : decode b_C_prefix 20 = .ok (.invokevirtual 134, 3) := by decide +kernel
theorem d_C_prefix_23 : decode b_C_prefix 23 = .ok (.invokevirtual 138, 3) := by decide +kernel
theorem d_C_prefix_26 : decode b_C_prefix 26 = .ok (.ifCond .ne 13, 3) := by decide +kernel
theorem d_C_prefix_29 : decode b_C_prefix 29 = .ok (.new 89, 3) := by decide +kernel
theorem d_C_prefix_32 : decode b_C_prefix 32 = .ok (.dup, 1) := by decide +kernel
theorem d_C_prefix_33 : decode b_C_prefix 33 = .ok (.ldc 141, 2) := by decide +kernel
theorem d_C_prefix_35 : decode b_C_prefix 35 = .ok (.invokespecial 93, 3) := by decide +kernel
theorem d_C_prefix_38 : decode b_C_prefix 38 = .ok (.athrow, 1) := by decide +kernel
theorem d_C_prefix_39 : decode b_C_prefix 39 = .ok (.aload_n 0, 1) := by decide +kernel
theorem d_C_prefix_40 : decode b_C_prefix 40 = .ok (.getfield 36, 3) := by decide +kernel
theorem d_C_prefix_43 : decode b_C_prefix 43 = .ok (.iload_n 2, 1) := by decide +kernel
theorem d_C_prefix_44 : decode b_C_prefix 44 = .ok (.invokevirtual 143, 3) := by decide +kernel
theorem d_C_prefix_47 : decode b_C_prefix 47 = .ok (.istore_n 3, 1) := by decide +kernel
theorem d_C_prefix_48 : decode b_C_prefix 48 = .ok (.iload_n 3, 1) := by decide +kernel
theorem d_C_prefix_49 : decode b_C_prefix 49 = .ok (.iconst (-1), 1) := by decide +kernel
theorem d_C_prefix_50 : decode b_C_prefix 50 = .ok (.if_icmp .eq 17, 3) := by decide +kernel
theorem d_C_prefix_53 : decode b_C_prefix 53 = .ok (.iload_n 3, 1) := by decide +kernel
theorem d_C_prefix_54 : decode b_C_prefix 54 = .ok (.iload_n 1, 1) := by decide +kernel
theorem d_C_prefix_55 : decode b_C_prefix 55 = .ok (.if_icmp .eq 12, 3) := by decide +kernel
theorem d_C_prefix_58 : decode b_C_prefix 58 = .ok (.aload_n 0, 1) := by decide +kernel
theorem d_C_prefix_59 : decode b_C_prefix 59 = .ok (.iconst 1, 1) := by decide +kernel
theorem d_C_prefix_60 : decode b_C_prefix 60 = .ok (.iload_n 3, 1) := by decide +kernel
theorem d_C_prefix_61 : decode b_C_prefix 61 = .ok (.iload_n 1, 1) := by decide +kernel
theorem d_C_prefix_62 : decode b_C_prefix 62 = .ok (.invokevirtual 147, 3) := by decide +kernel
theorem d_C_prefix_65 : decode b_C_prefix 65 = .ok (.iconst 0, 1) := by decide +kernel
theorem d_C_prefix_66 : decode b_C_prefix 66 = .ok (.ireturn, 1) := by decide +kernel
theorem d_C_prefix_67 : decode b_C_prefix 67 = .ok (.iload_n 3, 1) := by decide +kernel
theorem d_C_prefix_68 : decode b_C_prefix 68 = .ok (.iconst (-1), 1) := by decide +kernel
theorem d_C_prefix_69 : decode b_C_prefix 69 = .ok (.if_icmp .ne 12, 3) := by decide +kernel
theorem d_C_prefix_72 : decode b_C_prefix 72 = .ok (.aload_n 0, 1) := by decide +kernel
theorem d_C_prefix_73 : decode b_C_prefix 73 = .ok (.getfield 36, 3) := by decide +kernel
theorem d_C_prefix_76 : decode b_C_prefix 76 = .ok (.iload_n 1, 1) := by decide +kernel
theorem d_C_prefix_77 : decode b_C_prefix 77 = .ok (.iload_n 2, 1) := by decide +kernel
theorem d_C_prefix_78 : decode b_C_prefix 78 = .ok (.invokevirtual 151, 3) := by decide +kernel
theorem d_C_prefix_81 : decode b_C_prefix 81 = .ok (.iconst 1, 1) := by decide +kernel
theorem d_C_prefix_82 : decode b_C_prefix 82 = .ok (.ireturn, 1) := by decide +kernel
theorem d_C_space_0 : decode b_C_space 0 = .ok (.aload_n 0, 1) := by decide +kernel
theorem d_C_space_1 : decode b_C_space 1 = .ok (.iload_n 1, 1) := by decide +kernel
theorem d_C_space_2 : decode b_C_space 2 = .ok (.invokevirtual 131, 3) := by decide +kernel
theorem d_C_space_5 : decode b_C_space 5 = .ok (.aload_n 0, 1) := by decide +kernel
theorem d_C_space_6 : decode b_C_space 6 = .ok (.getfield 36, 3) := by decide +kernel
theorem d_C_space_9 : decode b_C_space 9 = .ok (.iload_n 1, 1) := by decide +kernel
theorem d_C_space_10 : decode b_C_space 10 = .ok (.invokevirtual 155, 3) := by decide +kernel
theorem d_C_space_13 : decode b_C_space 13 = .ok (.ireturn, 1) := by decide +kernel
theorem d_C_best_0 : decode b_C_best 0 = .ok (.aload_n 0, 1) := by decide +kernel
theorem d_C_best_1 : decode b_C_best 1 = .ok (.iload_n 1, 1) := by decide +kernel
theorem d_C_best_2 : decode b_C_best 2 = .ok (.invokevirtual 131, 3) := by decide +kernel
theorem d_C_best_5 : decode b_C_best 5 = .ok (.aload_n 0, 1) := by decide +kernel
theorem d_C_best_6 : decode b_C_best 6 = .ok (.getfield 36, 3) := by decide +kernel
theorem d_C_best_9 : decode b_C_best 9 = .ok (.aload_n 0, 1) := by decide +kernel
theorem d_C_best_10 : decode b_C_best 10 = .ok (.getfield 36, 3) := by decide +kernel
theorem d_C_best_13 : decode b_C_best 13 = .ok (.iload_n 1, 1) := by decide +kernel
theorem d_C_best_14 : decode b_C_best 14 = .ok (.invokevirtual 155, 3) := by decide +kernel
theorem d_C_best_17 : decode b_C_best 17 = .ok (.invokevirtual 158, 3) := by decide +kernel
theorem d_C_best_20 : decode b_C_best 20 = .ok (.ireturn, 1) := by decide +kernel
theorem d_C_propose_0 : decode b_C_propose 0 = .ok (.aload_n 0, 1) := by decide +kernel
theorem d_C_propose_1 : decode b_C_propose 1 = .ok (.iload_n 1, 1) := by decide +kernel
theorem d_C_propose_2 : decode b_C_propose 2 = .ok (.invokevirtual 131, 3) := by decide +kernel
theorem d_C_propose_5 : decode b_C_propose 5 = .ok (.aload_n 0, 1) := by decide +kernel
theorem d_C_propose_6 : decode b_C_propose 6 = .ok (.aload_n 0, 1) := by decide +kernel
theorem d_C_propose_7 : decode b_C_propose 7 = .ok (.getfield 27, 3) := by decide +kernel
theorem d_C_propose_10 : decode b_C_propose 10 = .ok (.iload_n 1, 1) := by decide +kernel
theorem d_C_propose_11 : decode b_C_propose 11 = .ok (.invokevirtual 134, 3) := by decide +kernel
theorem d_C_propose_14 : decode b_C_propose 14 = .ok (.invokevirtual 161, 3) := by decide +kernel
theorem d_C_propose_17 : decode b_C_propose 17 = .ok (.aload_n 0, 1) := by decide +kernel
theorem d_C_propose_18 : decode b_C_propose 18 = .ok (.getfield 21, 3) := by decide +kernel
theorem d_C_propose_21 : decode b_C_propose 21 = .ok (.invokevirtual 109, 3) := by decide +kernel
theorem d_C_propose_24 : decode b_C_propose 24 = .ok (.iconst 4, 1) := by decide +kernel
theorem d_C_propose_25 : decode b_C_propose 25 = .ok (.invokestatic 165, 3) := by decide +kernel
theorem d_C_propose_28 : decode b_C_propose 28 = .ok (.istore_n 2, 1) := by decide +kernel
theorem d_C_propose_29 : decode b_C_propose 29 = .ok (.iconst 1, 1) := by decide +kernel
theorem d_C_propose_30 : decode b_C_propose 30 = .ok (.istore_n 3, 1) := by decide +kernel
theorem d_C_propose_31 : decode b_C_propose 31 = .ok (.iload_n 3, 1) := by decide +kernel
theorem d_C_propose_32 : decode b_C_propose 32 = .ok (.iload_n 2, 1) := by decide +kernel
theorem d_C_propose_33 : decode b_C_propose 33 = .ok (.if_icmp .gt 51, 3) := by decide +kernel
theorem d_C_propose_36 : decode b_C_propose 36 = .ok (.aload_n 0, 1) := by decide +kernel
theorem d_C_propose_37 : decode b_C_propose 37 = .ok (.getfield 18, 3) := by decide +kernel
theorem d_C_propose_40 : decode b_C_propose 40 = .ok (.invokevirtual 113, 3) := by decide +kernel
theorem d_C_propose_43 : decode b_C_propose 43 = .ok (.aload_n 0, 1) := by decide +kernel
theorem d_C_propose_44 : decode b_C_propose 44 = .ok (.getfield 18, 3) := by decide +kernel
theorem d_C_propose_47 : decode b_C_propose 47 = .ok (.aload_n 0, 1) := by decide +kernel
theorem d_C_propose_48 : decode b_C_propose 48 = .ok (.getfield 21, 3) := by decide +kernel
theorem d_C_propose_51 : decode b_C_propose 51 = .ok (.iconst 0, 1) := by decide +kernel
theorem d_C_propose_52 : decode b_C_propose 52 = .ok (.iload_n 3, 1) := by decide +kernel
theorem d_C_propose_53 : decode b_C_propose 53 = .ok (.invokevirtual 171, 3) := by decide +kernel
theorem d_C_propose_56 : decode b_C_propose 56 = .ok (.aload_n 0, 1) := by decide +kernel
theorem d_C_propose_57 : decode b_C_propose 57 = .ok (.getfield 36, 3) := by decide +kernel
theorem d_C_propose_60 : decode b_C_propose 60 = .ok (.aload_n 0, 1) := by decide +kernel
theorem d_C_propose_61 : decode b_C_propose 61 = .ok (.getfield 18, 3) := by decide +kernel
theorem d_C_propose_64 : decode b_C_propose 64 = .ok (.invokevirtual 175, 3) := by decide +kernel
theorem d_C_propose_67 : decode b_C_propose 67 = .ok (.ifCond .ne 11, 3) := by decide +kernel
theorem d_C_propose_70 : decode b_C_propose 70 = .ok (.aload_n 0, 1) := by decide +kernel
theorem d_C_propose_71 : decode b_C_propose 71 = .ok (.getfield 18, 3) := by decide +kernel
theorem d_C_propose_74 : decode b_C_propose 74 = .ok (.invokevirtual 109, 3) := by decide +kernel
theorem d_C_propose_77 : decode b_C_propose 77 = .ok (.ireturn, 1) := by decide +kernel
theorem d_C_propose_78 : decode b_C_propose 78 = .ok (.iinc 3 1, 3) := by decide +kernel
theorem d_C_propose_81 : decode b_C_propose 81 = .ok (.goto (-50), 3) := by decide +kernel
theorem d_C_propose_84 : decode b_C_propose 84 = .ok (.iconst 1, 1) := by decide +kernel
theorem d_C_propose_85 : decode b_C_propose 85 = .ok (.istore_n 3, 1) := by decide +kernel
theorem d_C_propose_86 : decode b_C_propose 86 = .ok (.iload_n 3, 1) := by decide +kernel
theorem d_C_propose_87 : decode b_C_propose 87 = .ok (.bipush 99, 2) := by decide +kernel
theorem d_C_propose_89 : decode b_C_propose 89 = .ok (.if_icmp .gt 56, 3) := by decide +kernel
theorem d_C_propose_92 : decode b_C_propose 92 = .ok (.aload_n 0, 1) := by decide +kernel
theorem d_C_propose_93 : decode b_C_propose 93 = .ok (.getfield 18, 3) := by decide +kernel
theorem d_C_propose_96 : decode b_C_propose 96 = .ok (.invokevirtual 113, 3) := by decide +kernel
theorem d_C_propose_99 : decode b_C_propose 99 = .ok (.aload_n 0, 1) := by decide +kernel
theorem d_C_propose_100 : decode b_C_propose 100 = .ok (.getfield 18, 3) := by decide +kernel
theorem d_C_propose_103 : decode b_C_propose 103 = .ok (.aload_n 0, 1) := by decide +kernel
theorem d_C_propose_104 : decode b_C_propose 104 = .ok (.getfield 21, 3) := by decide +kernel
theorem d_C_propose_107 : decode b_C_propose 107 = .ok (.iconst 0, 1) := by decide +kernel
theorem d_C_propose_108 : decode b_C_propose 108 = .ok (.invokevirtual 179, 3) := by decide +kernel
theorem d_C_propose_111 : decode b_C_propose 111 = .ok (.invokevirtual 105, 3) := by decide +kernel
theorem d_C_propose_114 : decode b_C_propose 114 = .ok (.aload_n 0, 1) := by decide +kernel
theorem d_C_propose_115 : decode b_C_propose 115 = .ok (.getfield 18, 3) := by decide +kernel
theorem d_C_propose_118 : decode b_C_propose 118 = .ok (.iload_n 3, 1) := by decide +kernel
theorem d_C_propose_119 : decode b_C_propose 119 = .ok (.invokevirtual 183, 3) := by decide +kernel
theorem d_C_propose_122 : decode b_C_propose 122 = .ok (.aload_n 0, 1) := by decide +kernel
theorem d_C_propose_123 : decode b_C_propose 123 = .ok (.getfield 36, 3) := by decide +kernel
theorem d_C_propose_126 : decode b_C_propose 126 = .ok (.aload_n 0, 1) := by decide +kernel
theorem d_C_propose_127 : decode b_C_propose 127 = .ok (.getfield 18, 3) := by decide +kernel
theorem d_C_propose_130 : decode b_C_propose 130 = .ok (.invokevirtual 175, 3) := by decide +kernel
theorem d_C_propose_133 : decode b_C_propose 133 = .ok (.ifCond .ne 6, 3) := by decide +kernel
theorem d_C_propose_136 : decode b_C_propose 136 = .ok (.goto 9, 3) := by decide +kernel
theorem d_C_propose_139 : decode b_C_propose 139 = .ok (.iinc 3 1, 3) := by decide +kernel
theorem d_C_propose_142 : decode b_C_propose 142 = .ok (.goto (-56), 3) := by decide +kernel
theorem d_C_propose_145 : decode b_C_propose 145 = .ok (.aload_n 0, 1) := by decide +kernel
theorem d_C_propose_146 : decode b_C_propose 146 = .ok (.getfield 18, 3) := by decide +kernel
theorem d_C_propose_149 : decode b_C_propose 149 = .ok (.invokevirtual 109, 3) := by decide +kernel
theorem d_C_propose_152 : decode b_C_propose 152 = .ok (.ireturn, 1) := by decide +kernel
theorem d_C_print_0 : decode b_C_print 0 = .ok (.aload_n 0, 1) := by decide +kernel
theorem d_C_print_1 : decode b_C_print 1 = .ok (.iload_n 1, 1) := by decide +kernel
theorem d_C_print_2 : decode b_C_print 2 = .ok (.invokevirtual 131, 3) := by decide +kernel
theorem d_C_print_5 : decode b_C_print 5 = .ok (.aload_n 0, 1) := by decide +kernel
theorem d_C_print_6 : decode b_C_print 6 = .ok (.getfield 27, 3) := by decide +kernel
theorem d_C_print_9 : decode b_C_print 9 = .ok (.iload_n 1, 1) := by decide +kernel
theorem d_C_print_10 : decode b_C_print 10 = .ok (.invokevirtual 134, 3) := by decide +kernel
theorem d_C_print_13 : decode b_C_print 13 = .ok (.astore_n 2, 1) := by decide +kernel
theorem d_C_print_14 : decode b_C_print 14 = .ok (.aload_n 0, 1) := by decide +kernel
theorem d_C_print_15 : decode b_C_print 15 = .ok (.getfield 36, 3) := by decide +kernel
theorem d_C_print_18 : decode b_C_print 18 = .ok (.iload_n 1, 1) := by decide +kernel
theorem d_C_print_19 : decode b_C_print 19 = .ok (.invokevirtual 155, 3) := by decide +kernel
theorem d_C_print_22 : decode b_C_print 22 = .ok (.istore_n 3, 1) := by decide +kernel
theorem d_C_print_23 : decode b_C_print 23 = .ok (.aload_n 0, 1) := by decide +kernel
theorem d_C_print_24 : decode b_C_print 24 = .ok (.getfield 18, 3) := by decide +kernel
theorem d_C_print_27 : decode b_C_print 27 = .ok (.invokevirtual 113, 3) := by decide +kernel
theorem d_C_print_30 : decode b_C_print 30 = .ok (.iload_n 3, 1) := by decide +kernel
theorem d_C_print_31 : decode b_C_print 31 = .ok (.iconst (-1), 1) := by decide +kernel
theorem d_C_print_32 : decode b_C_print 32 = .ok (.if_icmp .ne 32, 3) := by decide +kernel
theorem d_C_print_35 : decode b_C_print 35 = .ok (.aload_n 0, 1) := by decide +kernel
theorem d_C_print_36 : decode b_C_print 36 = .ok (.getfield 18, 3) := by decide +kernel
theorem d_C_print_39 : decode b_C_print 39 = .ok (.bipush 60, 2) := by decide +kernel
theorem d_C_print_41 : decode b_C_print 41 = .ok (.invokevirtual 105, 3) := by decide +kernel
theorem d_C_print_44 : decode b_C_print 44 = .ok (.aload_n 0, 1) := by decide +kernel
theorem d_C_print_45 : decode b_C_print 45 = .ok (.getfield 18, 3) := by decide +kernel
theorem d_C_print_48 : decode b_C_print 48 = .ok (.aload_n 2, 1) := by decide +kernel
theorem d_C_print_49 : decode b_C_print 49 = .ok (.invokevirtual 186, 3) := by decide +kernel
theorem d_C_print_52 : decode b_C_print 52 = .ok (.aload_n 0, 1) := by decide +kernel
theorem d_C_print_53 : decode b_C_print 53 = .ok (.getfield 18, 3) := by decide +kernel
theorem d_C_print_56 : decode b_C_print 56 = .ok (.bipush 62, 2) := by decide +kernel
theorem d_C_print_58 : decode b_C_print 58 = .ok (.invokevirtual 105, 3) := by decide +kernel
theorem d_C_print_61 : decode b_C_print 61 = .ok (.goto 57, 3) := by decide +kernel
theorem d_C_print_64 : decode b_C_print 64 = .ok (.aload_n 0, 1) := by decide +kernel
theorem d_C_print_65 : decode b_C_print 65 = .ok (.getfield 18, 3) := by decide +kernel
theorem d_C_print_68 : decode b_C_print 68 = .ok (.aload_n 0, 1) := by decide +kernel
theorem d_C_print_69 : decode b_C_print 69 = .ok (.getfield 27, 3) := by decide +kernel
theorem d_C_print_72 : decode b_C_print 72 = .ok (.aload_n 0, 1) := by decide +kernel
theorem d_C_print_73 : decode b_C_print 73 = .ok (.getfield 36, 3) := by decide +kernel
theorem d_C_print_76 : decode b_C_print 76 = .ok (.iload_n 3, 1) := by decide +kernel
theorem d_C_print_77 : decode b_C_print 77 = .ok (.invokevirtual 158, 3) := by decide +kernel
theorem d_C_print_80 : decode b_C_print 80 = .ok (.invokevirtual 134, 3) := by decide +kernel
theorem d_C_print_83 : decode b_C_print 83 = .ok (.invokevirtual 186, 3) := by decide +kernel
theorem d_C_print_86 : decode b_C_print 86 = .ok (.aload_n 0, 1) := by decide +kernel
theorem d_C_print_87 : decode b_C_print 87 = .ok (.getfield 18, 3) := by decide +kernel
theorem d_C_print_90 : decode b_C_print 90 = .ok (.bipush 58, 2) := by decide +kernel
theorem d_C_print_92 : decode b_C_print 92 = .ok (.invokevirtual 105, 3) := by decide +kernel
theorem d_C_print_95 : decode b_C_print 95 = .ok (.aload_n 0, 1) := by decide +kernel
theorem d_C_print_96 : decode b_C_print 96 = .ok (.getfield 18, 3) := by decide +kernel
theorem d_C_print_99 : decode b_C_print 99 = .ok (.aload_n 2, 1) := by decide +kernel
theorem d_C_print_100 : decode b_C_print 100 = .ok (.aload_n 0, 1) := by decide +kernel
theorem d_C_print_101 : decode b_C_print 101 = .ok (.getfield 27, 3) := by decide +kernel
theorem d_C_print_104 : decode b_C_print 104 = .ok (.iload_n 3, 1) := by decide +kernel
theorem d_C_print_105 : decode b_C_print 105 = .ok (.invokevirtual 134, 3) := by decide +kernel
theorem d_C_print_108 : decode b_C_print 108 = .ok (.invokevirtual 109, 3) := by decide +kernel
theorem d_C_print_111 : decode b_C_print 111 = .ok (.aload_n 2, 1) := by decide +kernel
theorem d_C_print_112 : decode b_C_print 112 = .ok (.invokevirtual 109, 3) := by decide +kernel
theorem d_C_print_115 : decode b_C_print 115 = .ok (.invokevirtual 171, 3) := by decide +kernel
theorem d_C_print_118 : decode b_C_print 118 = .ok (.aload_n 0, 1) := by decide +kernel
theorem d_C_print_119 : decode b_C_print 119 = .ok (.getfield 18, 3) := by decide +kernel
theorem d_C_print_122 : decode b_C_print 122 = .ok (.invokevirtual 109, 3) := by decide +kernel
theorem d_C_print_125 : decode b_C_print 125 = .ok (.ireturn, 1) := by decide +kernel
theorem d_C_letter_0 : decode b_C_letter 0 = .ok (.aload_n 0, 1) := by decide +kernel
theorem d_C_letter_1 : decode b_C_letter 1 = .ok (.getfield 18, 3) := by decide +kernel
theorem d_C_letter_4 : decode b_C_letter 4 = .ok (.iload_n 1, 1) := by decide +kernel
theorem d_C_letter_5 : decode b_C_letter 5 = .ok (.invokevirtual 179, 3) := by decide +kernel
theorem d_C_letter_8 : decode b_C_letter 8 = .ok (.ireturn, 1) := by decide +kernel
theorem d_C_row_0 : decode b_C_row 0 = .ok (.aload_n 0, 1) := by decide +kernel
theorem d_C_row_1 : decode b_C_row 1 = .ok (.iload_n 1, 1) := by decide +kernel
theorem d_C_row_2 : decode b_C_row 2 = .ok (.invokevirtual 131, 3) := by decide +kernel
theorem d_C_row_5 : decode b_C_row 5 = .ok (.aload_n 0, 1) := by decide +kernel
theorem d_C_row_6 : decode b_C_row 6 = .ok (.iload_n 2, 1) := by decide +kernel
theorem d_C_row_7 : decode b_C_row 7 = .ok (.invokevirtual 131, 3) := by decide +kernel
theorem d_C_row_10 : decode b_C_row 10 = .ok (.aload_n 0, 1) := by decide +kernel
theorem d_C_row_11 : decode b_C_row 11 = .ok (.iload_n 3, 1) := by decide +kernel
theorem d_C_row_12 : decode b_C_row 12 = .ok (.invokevirtual 131, 3) := by decide +kernel
theorem d_C_row_15 : decode b_C_row 15 = .ok (.aload_n 0, 1) := by decide +kernel
theorem d_C_row_16 : decode b_C_row 16 = .ok (.getfield 36, 3) := by decide +kernel
theorem d_C_row_19 : decode b_C_row 19 = .ok (.iload_n 1, 1) := by decide +kernel
theorem d_C_row_20 : decode b_C_row 20 = .ok (.invokevirtual 155, 3) := by decide +kernel
theorem d_C_row_23 : decode b_C_row 23 = .ok (.iconst (-1), 1) := by decide +kernel
theorem d_C_row_24 : decode b_C_row 24 = .ok (.if_icmp .ne 13, 3) := by decide +kernel
theorem d_C_row_27 : decode b_C_row 27 = .ok (.new 189, 3) := by decide +kernel
theorem d_C_row_30 : decode b_C_row 30 = .ok (.dup, 1) := by decide +kernel
theorem d_C_row_31 : decode b_C_row 31 = .ok (.ldc 191, 2) := by decide +kernel
theorem d_C_row_33 : decode b_C_row 33 = .ok (.invokespecial 193, 3) := by decide +kernel
theorem d_C_row_36 : decode b_C_row 36 = .ok (.athrow, 1) := by decide +kernel
theorem d_C_row_37 : decode b_C_row 37 = .ok (.aload_n 0, 1) := by decide +kernel
theorem d_C_row_38 : decode b_C_row 38 = .ok (.getfield 43, 3) := by decide +kernel
theorem d_C_row_41 : decode b_C_row 41 = .ok (.iload_n 1, 1) := by decide +kernel
theorem d_C_row_42 : decode b_C_row 42 = .ok (.invokevirtual 194, 3) := by decide +kernel
theorem d_C_row_45 : decode b_C_row 45 = .ok (.istore 4, 2) := by decide +kernel
theorem d_C_row_47 : decode b_C_row 47 = .ok (.iload 4, 2) := by decide +kernel
theorem d_C_row_49 : decode b_C_row 49 = .ok (.iconst (-1), 1) := by decide +kernel
theorem d_C_row_50 : decode b_C_row 50 = .ok (.if_icmp .eq 16, 3) := by decide +kernel
theorem d_C_row_53 : decode b_C_row 53 = .ok (.aload_n 0, 1) := by decide +kernel
theorem d_C_row_54 : decode b_C_row 54 = .ok (.iconst 2, 1) := by decide +kernel
theorem d_C_row_55 : decode b_C_row 55 = .ok (.iload 4, 2) := by decide +kernel
theorem d_C_row_57 : decode b_C_row 57 = .ok (.iload_n 1, 1) := by decide +kernel
theorem d_C_row_58 : decode b_C_row 58 = .ok (.invokevirtual 147, 3) := by decide +kernel
theorem d_C_row_61 : decode b_C_row 61 = .ok (.iconst (-1), 1) := by decide +kernel
theorem d_C_row_62 : decode b_C_row 62 = .ok (.iload 4, 2) := by decide +kernel
theorem d_C_row_64 : decode b_C_row 64 = .ok (.isub, 1) := by decide +kernel
theorem d_C_row_65 : decode b_C_row 65 = .ok (.ireturn, 1) := by decide +kernel
theorem d_C_row_66 : decode b_C_row 66 = .ok (.aload_n 0, 1) := by decide +kernel
theorem d_C_row_67 : decode b_C_row 67 = .ok (.getfield 43, 3) := by decide +kernel
theorem d_C_row_70 : decode b_C_row 70 = .ok (.invokevirtual 197, 3) := by decide +kernel
theorem d_C_row_73 : decode b_C_row 73 = .ok (.ifCond .eq 13, 3) := by decide +kernel
theorem d_C_row_76 : decode b_C_row 76 = .ok (.new 100, 3) := by decide +kernel
theorem d_C_row_79 : decode b_C_row 79 = .ok (.dup, 1) := by decide +kernel
theorem d_C_row_80 : decode b_C_row 80 = .ok (.ldc 198, 2) := by decide +kernel
theorem d_C_row_82 : decode b_C_row 82 = .ok (.invokespecial 104, 3) := by decide +kernel
theorem d_C_row_85 : decode b_C_row 85 = .ok (.athrow, 1) := by decide +kernel
theorem d_C_row_86 : decode b_C_row 86 = .ok (.aload_n 0, 1) := by decide +kernel
theorem d_C_row_87 : decode b_C_row 87 = .ok (.getfield 43, 3) := by decide +kernel
theorem d_C_row_90 : decode b_C_row 90 = .ok (.iload_n 1, 1) := by decide +kernel
theorem d_C_row_91 : decode b_C_row 91 = .ok (.iload_n 2, 1) := by decide +kernel
theorem d_C_row_92 : decode b_C_row 92 = .ok (.iload_n 3, 1) := by decide +kernel
theorem d_C_row_93 : decode b_C_row 93 = .ok (.invokevirtual 200, 3) := by decide +kernel
theorem d_C_row_96 : decode b_C_row 96 = .ok (.ireturn, 1) := by decide +kernel
theorem d_C_told_0 : decode b_C_told 0 = .ok (.aload_n 0, 1) := by decide +kernel
theorem d_C_told_1 : decode b_C_told 1 = .ok (.getfield 43, 3) := by decide +kernel
theorem d_C_told_4 : decode b_C_told 4 = .ok (.iload_n 1, 1) := by decide +kernel
theorem d_C_told_5 : decode b_C_told 5 = .ok (.invokevirtual 203, 3) := by decide +kernel
theorem d_C_told_8 : decode b_C_told 8 = .ok (.ifCond .ne 13, 3) := by decide +kernel
theorem d_C_told_11 : decode b_C_told 11 = .ok (.new 207, 3) := by decide +kernel
theorem d_C_told_14 : decode b_C_told 14 = .ok (.dup, 1) := by decide +kernel
theorem d_C_told_15 : decode b_C_told 15 = .ok (.ldc 209, 2) := by decide +kernel
theorem d_C_told_17 : decode b_C_told 17 = .ok (.invokespecial 211, 3) := by decide +kernel
theorem d_C_told_20 : decode b_C_told 20 = .ok (.athrow, 1) := by decide +kernel
theorem d_C_told_21 : decode b_C_told 21 = .ok (.iload_n 2, 1) := by decide +kernel
theorem d_C_told_22 : decode b_C_told 22 = .ok (.ifCond .lt 8, 3) := by decide +kernel
theorem d_C_told_25 : decode b_C_told 25 = .ok (.iload_n 2, 1) := by decide +kernel
theorem d_C_told_26 : decode b_C_told 26 = .ok (.iconst 3, 1) := by decide +kernel
theorem d_C_told_27 : decode b_C_told 27 = .ok (.if_icmp .lt 13, 3) := by decide +kernel
theorem d_C_told_30 : decode b_C_told 30 = .ok (.new 89, 3) := by decide +kernel
theorem d_C_told_33 : decode b_C_told 33 = .ok (.dup, 1) := by decide +kernel
theorem d_C_told_34 : decode b_C_told 34 = .ok (.ldc 212, 2) := by decide +kernel
theorem d_C_told_36 : decode b_C_told 36 = .ok (.invokespecial 93, 3) := by decide +kernel
theorem d_C_told_39 : decode b_C_told 39 = .ok (.athrow, 1) := by decide +kernel
theorem d_C_told_40 : decode b_C_told 40 = .ok (.aload_n 0, 1) := by decide +kernel
theorem d_C_told_41 : decode b_C_told 41 = .ok (.getfield 43, 3) := by decide +kernel
theorem d_C_told_44 : decode b_C_told 44 = .ok (.iload_n 1, 1) := by decide +kernel
theorem d_C_told_45 : decode b_C_told 45 = .ok (.iload_n 2, 1) := by decide +kernel
theorem d_C_told_46 : decode b_C_told 46 = .ok (.invokevirtual 214, 3) := by decide +kernel
theorem d_C_told_49 : decode b_C_told 49 = .ok (.ireturn, 1) := by decide +kernel
theorem d_C_document_0 : decode b_C_document 0 = .ok (.aload_n 0, 1) := by decide +kernel
theorem d_C_document_1 : decode b_C_document 1 = .ok (.iload_n 1, 1) := by decide +kernel
theorem d_C_document_2 : decode b_C_document 2 = .ok (.invokevirtual 131, 3) := by decide +kernel
theorem d_C_document_5 : decode b_C_document 5 = .ok (.aload_n 0, 1) := by decide +kernel
theorem d_C_document_6 : decode b_C_document 6 = .ok (.iload_n 2, 1) := by decide +kernel
theorem d_C_document_7 : decode b_C_document 7 = .ok (.invokevirtual 217, 3) := by decide +kernel
theorem d_C_document_10 : decode b_C_document 10 = .ok (.iconst 0, 1) := by decide +kernel
theorem d_C_document_11 : decode b_C_document 11 = .ok (.istore_n 3, 1) := by decide +kernel
theorem d_C_document_12 : decode b_C_document 12 = .ok (.iload_n 3, 1) := by decide +kernel
theorem d_C_document_13 : decode b_C_document 13 = .ok (.aload_n 0, 1) := by decide +kernel
theorem d_C_document_14 : decode b_C_document 14 = .ok (.getfield 43, 3) := by decide +kernel
theorem d_C_document_17 : decode b_C_document 17 = .ok (.invokevirtual 220, 3) := by decide +kernel
theorem d_C_document_20 : decode b_C_document 20 = .ok (.if_icmp .ge 30, 3) := by decide +kernel
theorem d_C_document_23 : decode b_C_document 23 = .ok (.aload_n 0, 1) := by decide +kernel
theorem d_C_document_24 : decode b_C_document 24 = .ok (.iload_n 3, 1) := by decide +kernel
theorem d_C_document_25 : decode b_C_document 25 = .ok (.iload_n 1, 1) := by decide +kernel
theorem d_C_document_26 : decode b_C_document 26 = .ok (.invokevirtual 223, 3) := by decide +kernel
theorem d_C_document_29 : decode b_C_document 29 = .ok (.ifCond .eq 15, 3) := by decide +kernel
theorem d_C_document_32 : decode b_C_document 32 = .ok (.aload_n 0, 1) := by decide +kernel
theorem d_C_document_33 : decode b_C_document 33 = .ok (.iload_n 3, 1) := by decide +kernel
theorem d_C_document_34 : decode b_C_document 34 = .ok (.iload_n 1, 1) := by decide +kernel
theorem d_C_document_35 : decode b_C_document 35 = .ok (.invokevirtual 227, 3) := by decide +kernel
theorem d_C_document_38 : decode b_C_document 38 = .ok (.iload_n 2, 1) := by decide +kernel
theorem d_C_document_39 : decode b_C_document 39 = .ok (.if_icmp .ne 5, 3) := by decide +kernel
theorem d_C_document_42 : decode b_C_document 42 = .ok (.iload_n 3, 1) := by decide +kernel
theorem d_C_document_43 : decode b_C_document 43 = .ok (.ireturn, 1) := by decide +kernel
theorem d_C_document_44 : decode b_C_document 44 = .ok (.iinc 3 1, 3) := by decide +kernel
theorem d_C_document_47 : decode b_C_document 47 = .ok (.goto (-35), 3) := by decide +kernel
theorem d_C_document_50 : decode b_C_document 50 = .ok (.iconst (-1), 1) := by decide +kernel
theorem d_C_document_51 : decode b_C_document 51 = .ok (.ireturn, 1) := by decide +kernel
theorem d_C_use_0 : decode b_C_use 0 = .ok (.aload_n 0, 1) := by decide +kernel
theorem d_C_use_1 : decode b_C_use 1 = .ok (.iload_n 1, 1) := by decide +kernel
theorem d_C_use_2 : decode b_C_use 2 = .ok (.invokevirtual 131, 3) := by decide +kernel
theorem d_C_use_5 : decode b_C_use 5 = .ok (.aload_n 0, 1) := by decide +kernel
theorem d_C_use_6 : decode b_C_use 6 = .ok (.getfield 68, 3) := by decide +kernel
theorem d_C_use_9 : decode b_C_use 9 = .ok (.iload_n 1, 1) := by decide +kernel
theorem d_C_use_10 : decode b_C_use 10 = .ok (.dup2, 1) := by decide +kernel
theorem d_C_use_11 : decode b_C_use 11 = .ok (.iaload, 1) := by decide +kernel
theorem d_C_use_12 : decode b_C_use 12 = .ok (.iconst 1, 1) := by decide +kernel
theorem d_C_use_13 : decode b_C_use 13 = .ok (.iadd, 1) := by decide +kernel
theorem d_C_use_14 : decode b_C_use 14 = .ok (.iastore, 1) := by decide +kernel
theorem d_C_use_15 : decode b_C_use 15 = .ok (.aload_n 0, 1) := by decide +kernel
theorem d_C_use_16 : decode b_C_use 16 = .ok (.getfield 68, 3) := by decide +kernel
theorem d_C_use_19 : decode b_C_use 19 = .ok (.iload_n 1, 1) := by decide +kernel
theorem d_C_use_20 : decode b_C_use 20 = .ok (.iaload, 1) := by decide +kernel
theorem d_C_use_21 : decode b_C_use 21 = .ok (.ireturn, 1) := by decide +kernel
theorem d_C_used_0 : decode b_C_used 0 = .ok (.aload_n 0, 1) := by decide +kernel
theorem d_C_used_1 : decode b_C_used 1 = .ok (.iload_n 1, 1) := by decide +kernel
theorem d_C_used_2 : decode b_C_used 2 = .ok (.invokevirtual 131, 3) := by decide +kernel
theorem d_C_used_5 : decode b_C_used 5 = .ok (.aload_n 0, 1) := by decide +kernel
theorem d_C_used_6 : decode b_C_used 6 = .ok (.getfield 68, 3) := by decide +kernel
theorem d_C_used_9 : decode b_C_used 9 = .ok (.iload_n 1, 1) := by decide +kernel
theorem d_C_used_10 : decode b_C_used 10 = .ok (.iaload, 1) := by decide +kernel
theorem d_C_used_11 : decode b_C_used 11 = .ok (.ireturn, 1) := by decide +kernel
theorem d_C_unknown_0 : decode b_C_unknown 0 = .ok (.aload_n 0, 1) := by decide +kernel
theorem d_C_unknown_1 : decode b_C_unknown 1 = .ok (.iload_n 1, 1) := by decide +kernel
theorem d_C_unknown_2 : decode b_C_unknown 2 = .ok (.invokevirtual 217, 3) := by decide +kernel
theorem d_C_unknown_5 : decode b_C_unknown 5 = .ok (.aload_n 0, 1) := by decide +kernel
theorem d_C_unknown_6 : decode b_C_unknown 6 = .ok (.invokevirtual 230, 3) := by decide +kernel
theorem d_C_unknown_9 : decode b_C_unknown 9 = .ok (.iconst 0, 1) := by decide +kernel
theorem d_C_unknown_10 : decode b_C_unknown 10 = .ok (.istore_n 2, 1) := by decide +kernel
theorem d_C_unknown_11 : decode b_C_unknown 11 = .ok (.iconst 0, 1) := by decide +kernel
theorem d_C_unknown_12 : decode b_C_unknown 12 = .ok (.istore_n 3, 1) := by decide +kernel
theorem d_C_unknown_13 : decode b_C_unknown 13 = .ok (.iload_n 3, 1) := by decide +kernel
theorem d_C_unknown_14 : decode b_C_unknown 14 = .ok (.aload_n 0, 1) := by decide +kernel
theorem d_C_unknown_15 : decode b_C_unknown 15 = .ok (.getfield 27, 3) := by decide +kernel
theorem d_C_unknown_18 : decode b_C_unknown 18 = .ok (.invokevirtual 233, 3) := by decide +kernel
theorem d_C_unknown_21 : decode b_C_unknown 21 = .ok (.if_icmp .ge 27, 3) := by decide +kernel
theorem d_C_unknown_24 : decode b_C_unknown 24 = .ok (.aload_n 0, 1) := by decide +kernel
theorem d_C_unknown_25 : decode b_C_unknown 25 = .ok (.iload_n 3, 1) := by decide +kernel
theorem d_C_unknown_26 : decode b_C_unknown 26 = .ok (.invokevirtual 234, 3) := by decide +kernel
theorem d_C_unknown_29 : decode b_C_unknown 29 = .ok (.ifCond .eq 13, 3) := by decide +kernel
theorem d_C_unknown_32 : decode b_C_unknown 32 = .ok (.iload_n 2, 1) := by decide +kernel
theorem d_C_unknown_33 : decode b_C_unknown 33 = .ok (.iload_n 1, 1) := by decide +kernel
theorem d_C_unknown_34 : decode b_C_unknown 34 = .ok (.if_icmp .ne 5, 3) := by decide +kernel
theorem d_C_unknown_37 : decode b_C_unknown 37 = .ok (.iload_n 3, 1) := by decide +kernel
theorem d_C_unknown_38 : decode b_C_unknown 38 = .ok (.ireturn, 1) := by decide +kernel
theorem d_C_unknown_39 : decode b_C_unknown 39 = .ok (.iinc 2 1, 3) := by decide +kernel
theorem d_C_unknown_42 : decode b_C_unknown 42 = .ok (.iinc 3 1, 3) := by decide +kernel
theorem d_C_unknown_45 : decode b_C_unknown 45 = .ok (.goto (-32), 3) := by decide +kernel
theorem d_C_unknown_48 : decode b_C_unknown 48 = .ok (.iconst (-1), 1) := by decide +kernel
theorem d_C_unknown_49 : decode b_C_unknown 49 = .ok (.ireturn, 1) := by decide +kernel
theorem d_C_apart_0 : decode b_C_apart 0 = .ok (.aload_n 0, 1) := by decide +kernel
theorem d_C_apart_1 : decode b_C_apart 1 = .ok (.iload_n 1, 1) := by decide +kernel
theorem d_C_apart_2 : decode b_C_apart 2 = .ok (.invokevirtual 131, 3) := by decide +kernel
theorem d_C_apart_5 : decode b_C_apart 5 = .ok (.aload_n 0, 1) := by decide +kernel
theorem d_C_apart_6 : decode b_C_apart 6 = .ok (.iload_n 2, 1) := by decide +kernel
theorem d_C_apart_7 : decode b_C_apart 7 = .ok (.invokevirtual 131, 3) := by decide +kernel
theorem d_C_apart_10 : decode b_C_apart 10 = .ok (.aload_n 0, 1) := by decide +kernel
theorem d_C_apart_11 : decode b_C_apart 11 = .ok (.getfield 64, 3) := by decide +kernel
theorem d_C_apart_14 : decode b_C_apart 14 = .ok (.aload_n 0, 1) := by decide +kernel
theorem d_C_apart_15 : decode b_C_apart 15 = .ok (.getfield 27, 3) := by decide +kernel
theorem d_C_apart_18 : decode b_C_apart 18 = .ok (.iload_n 1, 1) := by decide +kernel
theorem d_C_apart_19 : decode b_C_apart 19 = .ok (.invokevirtual 134, 3) := by decide +kernel
theorem d_C_apart_22 : decode b_C_apart 22 = .ok (.aload_n 0, 1) := by decide +kernel
theorem d_C_apart_23 : decode b_C_apart 23 = .ok (.getfield 27, 3) := by decide +kernel
theorem d_C_apart_26 : decode b_C_apart 26 = .ok (.iload_n 2, 1) := by decide +kernel
theorem d_C_apart_27 : decode b_C_apart 27 = .ok (.invokevirtual 134, 3) := by decide +kernel
theorem d_C_apart_30 : decode b_C_apart 30 = .ok (.invokevirtual 237, 3) := by decide +kernel
theorem d_C_apart_33 : decode b_C_apart 33 = .ok (.ireturn, 1) := by decide +kernel
theorem d_C_near_0 : decode b_C_near 0 = .ok (.aload_n 0, 1) := by decide +kernel
theorem d_C_near_1 : decode b_C_near 1 = .ok (.iload_n 1, 1) := by decide +kernel
theorem d_C_near_2 : decode b_C_near 2 = .ok (.invokevirtual 131, 3) := by decide +kernel
theorem d_C_near_5 : decode b_C_near 5 = .ok (.aload_n 0, 1) := by decide +kernel
theorem d_C_near_6 : decode b_C_near 6 = .ok (.iload_n 2, 1) := by decide +kernel
theorem d_C_near_7 : decode b_C_near 7 = .ok (.invokevirtual 217, 3) := by decide +kernel
theorem d_C_near_10 : decode b_C_near 10 = .ok (.aload_n 0, 1) := by decide +kernel
theorem d_C_near_11 : decode b_C_near 11 = .ok (.iload_n 1, 1) := by decide +kernel
theorem d_C_near_12 : decode b_C_near 12 = .ok (.invokevirtual 241, 3) := by decide +kernel
theorem d_C_near_15 : decode b_C_near 15 = .ok (.iconst 0, 1) := by decide +kernel
theorem d_C_near_16 : decode b_C_near 16 = .ok (.istore_n 3, 1) := by decide +kernel
theorem d_C_near_17 : decode b_C_near 17 = .ok (.iload_n 3, 1) := by decide +kernel
theorem d_C_near_18 : decode b_C_near 18 = .ok (.aload_n 0, 1) := by decide +kernel
theorem d_C_near_19 : decode b_C_near 19 = .ok (.getfield 43, 3) := by decide +kernel
theorem d_C_near_22 : decode b_C_near 22 = .ok (.invokevirtual 220, 3) := by decide +kernel
theorem d_C_near_25 : decode b_C_near 25 = .ok (.if_icmp .ge 20, 3) := by decide +kernel
theorem d_C_near_28 : decode b_C_near 28 = .ok (.aload_n 0, 1) := by decide +kernel
theorem d_C_near_29 : decode b_C_near 29 = .ok (.iload_n 3, 1) := by decide +kernel
theorem d_C_near_30 : decode b_C_near 30 = .ok (.invokevirtual 244, 3) := by decide +kernel
theorem d_C_near_33 : decode b_C_near 33 = .ok (.iload_n 2, 1) := by decide +kernel
theorem d_C_near_34 : decode b_C_near 34 = .ok (.if_icmp .ne 5, 3) := by decide +kernel
theorem d_C_near_37 : decode b_C_near 37 = .ok (.iload_n 3, 1) := by decide +kernel
theorem d_C_near_38 : decode b_C_near 38 = .ok (.ireturn, 1) := by decide +kernel
theorem d_C_near_39 : decode b_C_near 39 = .ok (.iinc 3 1, 3) := by decide +kernel
theorem d_C_near_42 : decode b_C_near 42 = .ok (.goto (-25), 3) := by decide +kernel
theorem d_C_near_45 : decode b_C_near 45 = .ok (.iconst (-1), 1) := by decide +kernel
theorem d_C_near_46 : decode b_C_near 46 = .ok (.ireturn, 1) := by decide +kernel
theorem d_C_alias_0 : decode b_C_alias 0 = .ok (.aload_n 0, 1) := by decide +kernel
theorem d_C_alias_1 : decode b_C_alias 1 = .ok (.iload_n 1, 1) := by decide +kernel
theorem d_C_alias_2 : decode b_C_alias 2 = .ok (.invokevirtual 131, 3) := by decide +kernel
theorem d_C_alias_5 : decode b_C_alias 5 = .ok (.aload_n 0, 1) := by decide +kernel
theorem d_C_alias_6 : decode b_C_alias 6 = .ok (.iload_n 2, 1) := by decide +kernel
theorem d_C_alias_7 : decode b_C_alias 7 = .ok (.invokevirtual 131, 3) := by decide +kernel
theorem d_C_alias_10 : decode b_C_alias 10 = .ok (.iload_n 1, 1) := by decide +kernel
theorem d_C_alias_11 : decode b_C_alias 11 = .ok (.iload_n 2, 1) := by decide +kernel
theorem d_C_alias_12 : decode b_C_alias 12 = .ok (.if_icmp .eq 15, 3) := by decide +kernel
theorem d_C_alias_15 : decode b_C_alias 15 = .ok (.aload_n 0, 1) := by decide +kernel
theorem d_C_alias_16 : decode b_C_alias 16 = .ok (.getfield 50, 3) := by decide +kernel
theorem d_C_alias_19 : decode b_C_alias 19 = .ok (.iload_n 2, 1) := by decide +kernel
theorem d_C_alias_20 : decode b_C_alias 20 = .ok (.iload_n 1, 1) := by decide +kernel
theorem d_C_alias_21 : decode b_C_alias 21 = .ok (.invokevirtual 247, 3) := by decide +kernel
theorem d_C_alias_24 : decode b_C_alias 24 = .ok (.ifCond .eq 12, 3) := by decide +kernel
theorem d_C_alias_27 : decode b_C_alias 27 = .ok (.aload_n 0, 1) := by decide +kernel
theorem d_C_alias_28 : decode b_C_alias 28 = .ok (.iconst 3, 1) := by decide +kernel
theorem d_C_alias_29 : decode b_C_alias 29 = .ok (.iload_n 1, 1) := by decide +kernel
theorem d_C_alias_30 : decode b_C_alias 30 = .ok (.iload_n 2, 1) := by decide +kernel
theorem d_C_alias_31 : decode b_C_alias 31 = .ok (.invokevirtual 147, 3) := by decide +kernel
theorem d_C_alias_34 : decode b_C_alias 34 = .ok (.iconst 0, 1) := by decide +kernel
theorem d_C_alias_35 : decode b_C_alias 35 = .ok (.ireturn, 1) := by decide +kernel
theorem d_C_alias_36 : decode b_C_alias 36 = .ok (.aload_n 0, 1) := by decide +kernel
theorem d_C_alias_37 : decode b_C_alias 37 = .ok (.getfield 50, 3) := by decide +kernel
theorem d_C_alias_40 : decode b_C_alias 40 = .ok (.iload_n 1, 1) := by decide +kernel
theorem d_C_alias_41 : decode b_C_alias 41 = .ok (.iload_n 2, 1) := by decide +kernel
theorem d_C_alias_42 : decode b_C_alias 42 = .ok (.invokevirtual 250, 3) := by decide +kernel
theorem d_C_alias_45 : decode b_C_alias 45 = .ok (.iconst 1, 1) := by decide +kernel
theorem d_C_alias_46 : decode b_C_alias 46 = .ok (.ireturn, 1) := by decide +kernel
theorem d_C_meaning_0 : decode b_C_meaning 0 = .ok (.aload_n 0, 1) := by decide +kernel
theorem d_C_meaning_1 : decode b_C_meaning 1 = .ok (.iload_n 1, 1) := by decide +kernel
theorem d_C_meaning_2 : decode b_C_meaning 2 = .ok (.invokevirtual 131, 3) := by decide +kernel
theorem d_C_meaning_5 : decode b_C_meaning 5 = .ok (.aload_n 0, 1) := by decide +kernel
theorem d_C_meaning_6 : decode b_C_meaning 6 = .ok (.getfield 50, 3) := by decide +kernel
theorem d_C_meaning_9 : decode b_C_meaning 9 = .ok (.iload_n 1, 1) := by decide +kernel
theorem d_C_meaning_10 : decode b_C_meaning 10 = .ok (.invokevirtual 253, 3) := by decide +kernel
theorem d_C_meaning_13 : decode b_C_meaning 13 = .ok (.ireturn, 1) := by decide +kernel
theorem d_C_join_0 : decode b_C_join 0 = .ok (.aload_n 0, 1) := by decide +kernel
theorem d_C_join_1 : decode b_C_join 1 = .ok (.iload_n 1, 1) := by decide +kernel
theorem d_C_join_2 : decode b_C_join 2 = .ok (.invokevirtual 131, 3) := by decide +kernel
theorem d_C_join_5 : decode b_C_join 5 = .ok (.aload_n 0, 1) := by decide +kernel
theorem d_C_join_6 : decode b_C_join 6 = .ok (.iload_n 2, 1) := by decide +kernel
theorem d_C_join_7 : decode b_C_join 7 = .ok (.invokevirtual 131, 3) := by decide +kernel
theorem d_C_join_10 : decode b_C_join 10 = .ok (.iload_n 3, 1) := by decide +kernel
theorem d_C_join_11 : decode b_C_join 11 = .ok (.ifCond .eq 19, 3) := by decide +kernel
theorem d_C_join_14 : decode b_C_join 14 = .ok (.iload_n 3, 1) := by decide +kernel
theorem d_C_join_15 : decode b_C_join 15 = .ok (.iconst 1, 1) := by decide +kernel
theorem d_C_join_16 : decode b_C_join 16 = .ok (.if_icmp .eq 14, 3) := by decide +kernel
theorem d_C_join_19 : decode b_C_join 19 = .ok (.new 89, 3) := by decide +kernel
theorem d_C_join_22 : decode b_C_join 22 = .ok (.dup, 1) := by decide +kernel
theorem d_C_join_23 : decode b_C_join 23 = .ok (.ldc_w 256, 3) := by decide +kernel
theorem d_C_join_26 : decode b_C_join 26 = .ok (.invokespecial 93, 3) := by decide +kernel
theorem d_C_join_29 : decode b_C_join 29 = .ok (.athrow, 1) := by decide +kernel
theorem d_C_join_30 : decode b_C_join 30 = .ok (.iload_n 3, 1) := by decide +kernel
theorem d_C_join_31 : decode b_C_join 31 = .ok (.ifCond .ne 26, 3) := by decide +kernel
theorem d_C_join_34 : decode b_C_join 34 = .ok (.aload_n 0, 1) := by decide +kernel
theorem d_C_join_35 : decode b_C_join 35 = .ok (.aload_n 0, 1) := by decide +kernel
theorem d_C_join_36 : decode b_C_join 36 = .ok (.getfield 27, 3) := by decide +kernel
theorem d_C_join_39 : decode b_C_join 39 = .ok (.iload_n 1, 1) := by decide +kernel
theorem d_C_join_40 : decode b_C_join 40 = .ok (.invokevirtual 134, 3) := by decide +kernel
theorem d_C_join_43 : decode b_C_join 43 = .ok (.aload_n 0, 1) := by decide +kernel
theorem d_C_join_44 : decode b_C_join 44 = .ok (.getfield 27, 3) := by decide +kernel
theorem d_C_join_47 : decode b_C_join 47 = .ok (.iload_n 2, 1) := by decide +kernel
theorem d_C_join_48 : decode b_C_join 48 = .ok (.invokevirtual 134, 3) := by decide +kernel
theorem d_C_join_51 : decode b_C_join 51 = .ok (.invokevirtual 258, 3) := by decide +kernel
theorem d_C_join_54 : decode b_C_join 54 = .ok (.goto 23, 3) := by decide +kernel
theorem d_C_join_57 : decode b_C_join 57 = .ok (.aload_n 0, 1) := by decide +kernel
theorem d_C_join_58 : decode b_C_join 58 = .ok (.aload_n 0, 1) := by decide +kernel
theorem d_C_join_59 : decode b_C_join 59 = .ok (.getfield 27, 3) := by decide +kernel
theorem d_C_join_62 : decode b_C_join 62 = .ok (.iload_n 1, 1) := by decide +kernel
theorem d_C_join_63 : decode b_C_join 63 = .ok (.invokevirtual 134, 3) := by decide +kernel
theorem d_C_join_66 : decode b_C_join 66 = .ok (.aload_n 0, 1) := by decide +kernel
theorem d_C_join_67 : decode b_C_join 67 = .ok (.getfield 27, 3) := by decide +kernel
theorem d_C_join_70 : decode b_C_join 70 = .ok (.iload_n 2, 1) := by decide +kernel
theorem d_C_join_71 : decode b_C_join 71 = .ok (.invokevirtual 134, 3) := by decide +kernel
theorem d_C_join_74 : decode b_C_join 74 = .ok (.invokevirtual 262, 3) := by decide +kernel
theorem d_C_join_77 : decode b_C_join 77 = .ok (.aload_n 0, 1) := by decide +kernel
theorem d_C_join_78 : decode b_C_join 78 = .ok (.aload_n 0, 1) := by decide +kernel
theorem d_C_join_79 : decode b_C_join 79 = .ok (.getfield 21, 3) := by decide +kernel
theorem d_C_join_82 : decode b_C_join 82 = .ok (.invokevirtual 119, 3) := by decide +kernel
theorem d_C_join_85 : decode b_C_join 85 = .ok (.ireturn, 1) := by decide +kernel
theorem d_C_rename_0 : decode b_C_rename 0 = .ok (.aload_n 0, 1) := by decide +kernel
theorem d_C_rename_1 : decode b_C_rename 1 = .ok (.iload_n 1, 1) := by decide +kernel
theorem d_C_rename_2 : decode b_C_rename 2 = .ok (.invokevirtual 131, 3) := by decide +kernel
theorem d_C_rename_5 : decode b_C_rename 5 = .ok (.aload_n 0, 1) := by decide +kernel
theorem d_C_rename_6 : decode b_C_rename 6 = .ok (.iload_n 2, 1) := by decide +kernel
theorem d_C_rename_7 : decode b_C_rename 7 = .ok (.invokevirtual 131, 3) := by decide +kernel
theorem d_C_rename_10 : decode b_C_rename 10 = .ok (.iload_n 1, 1) := by decide +kernel
theorem d_C_rename_11 : decode b_C_rename 11 = .ok (.iload_n 2, 1) := by decide +kernel
theorem d_C_rename_12 : decode b_C_rename 12 = .ok (.if_icmp .ne 14, 3) := by decide +kernel
theorem d_C_rename_15 : decode b_C_rename 15 = .ok (.new 89, 3) := by decide +kernel
theorem d_C_rename_18 : decode b_C_rename 18 = .ok (.dup, 1) := by decide +kernel
theorem d_C_rename_19 : decode b_C_rename 19 = .ok (.ldc_w 265, 3) := by decide +kernel
theorem d_C_rename_22 : decode b_C_rename 22 = .ok (.invokespecial 93, 3) := by decide +kernel
theorem d_C_rename_25 : decode b_C_rename 25 = .ok (.athrow, 1) := by decide +kernel
theorem d_C_rename_26 : decode b_C_rename 26 = .ok (.aload_n 0, 1) := by decide +kernel
theorem d_C_rename_27 : decode b_C_rename 27 = .ok (.iload_n 1, 1) := by decide +kernel
theorem d_C_rename_28 : decode b_C_rename 28 = .ok (.iload_n 2, 1) := by decide +kernel
theorem d_C_rename_29 : decode b_C_rename 29 = .ok (.invokevirtual 267, 3) := by decide +kernel
theorem d_C_rename_32 : decode b_C_rename 32 = .ok (.ifCond .eq 5, 3) := by decide +kernel
theorem d_C_rename_35 : decode b_C_rename 35 = .ok (.iconst (-1), 1) := by decide +kernel
theorem d_C_rename_36 : decode b_C_rename 36 = .ok (.ireturn, 1) := by decide +kernel
theorem d_C_rename_37 : decode b_C_rename 37 = .ok (.aload_n 0, 1) := by decide +kernel
theorem d_C_rename_38 : decode b_C_rename 38 = .ok (.getfield 57, 3) := by decide +kernel
theorem d_C_rename_41 : decode b_C_rename 41 = .ok (.invokevirtual 270, 3) := by decide +kernel
theorem d_C_rename_44 : decode b_C_rename 44 = .ok (.ifCond .eq 14, 3) := by decide +kernel
theorem d_C_rename_47 : decode b_C_rename 47 = .ok (.new 100, 3) := by decide +kernel
theorem d_C_rename_50 : decode b_C_rename 50 = .ok (.dup, 1) := by decide +kernel
theorem d_C_rename_51 : decode b_C_rename 51 = .ok (.ldc_w 271, 3) := by decide +kernel
theorem d_C_rename_54 : decode b_C_rename 54 = .ok (.invokespecial 104, 3) := by decide +kernel
theorem d_C_rename_57 : decode b_C_rename 57 = .ok (.athrow, 1) := by decide +kernel
theorem d_C_rename_58 : decode b_C_rename 58 = .ok (.aload_n 0, 1) := by decide +kernel
theorem d_C_rename_59 : decode b_C_rename 59 = .ok (.getfield 57, 3) := by decide +kernel
theorem d_C_rename_62 : decode b_C_rename 62 = .ok (.iload_n 1, 1) := by decide +kernel
theorem d_C_rename_63 : decode b_C_rename 63 = .ok (.iload_n 2, 1) := by decide +kernel
theorem d_C_rename_64 : decode b_C_rename 64 = .ok (.invokevirtual 273, 3) := by decide +kernel
theorem d_C_rename_67 : decode b_C_rename 67 = .ok (.aload_n 0, 1) := by decide +kernel
theorem d_C_rename_68 : decode b_C_rename 68 = .ok (.getfield 43, 3) := by decide +kernel
theorem d_C_rename_71 : decode b_C_rename 71 = .ok (.iload_n 1, 1) := by decide +kernel
theorem d_C_rename_72 : decode b_C_rename 72 = .ok (.iload_n 2, 1) := by decide +kernel
theorem d_C_rename_73 : decode b_C_rename 73 = .ok (.invokevirtual 274, 3) := by decide +kernel
theorem d_C_rename_76 : decode b_C_rename 76 = .ok (.aload_n 0, 1) := by decide +kernel
theorem d_C_rename_77 : decode b_C_rename 77 = .ok (.getfield 50, 3) := by decide +kernel
theorem d_C_rename_80 : decode b_C_rename 80 = .ok (.iload_n 1, 1) := by decide +kernel
theorem d_C_rename_81 : decode b_C_rename 81 = .ok (.iload_n 2, 1) := by decide +kernel
theorem d_C_rename_82 : decode b_C_rename 82 = .ok (.invokevirtual 277, 3) := by decide +kernel
theorem d_C_rename_85 : decode b_C_rename 85 = .ok (.iadd, 1) := by decide +kernel
theorem d_C_rename_86 : decode b_C_rename 86 = .ok (.aload_n 0, 1) := by decide +kernel
theorem d_C_rename_87 : decode b_C_rename 87 = .ok (.iload_n 1, 1) := by decide +kernel
theorem d_C_rename_88 : decode b_C_rename 88 = .ok (.iload_n 2, 1) := by decide +kernel
theorem d_C_rename_89 : decode b_C_rename 89 = .ok (.invokevirtual 278, 3) := by decide +kernel
theorem d_C_rename_92 : decode b_C_rename 92 = .ok (.iadd, 1) := by decide +kernel
theorem d_C_rename_93 : decode b_C_rename 93 = .ok (.ireturn, 1) := by decide +kernel
theorem d_C_now_0 : decode b_C_now 0 = .ok (.aload_n 0, 1) := by decide +kernel
theorem d_C_now_1 : decode b_C_now 1 = .ok (.iload_n 1, 1) := by decide +kernel
theorem d_C_now_2 : decode b_C_now 2 = .ok (.invokevirtual 131, 3) := by decide +kernel
theorem d_C_now_5 : decode b_C_now 5 = .ok (.aload_n 0, 1) := by decide +kernel
theorem d_C_now_6 : decode b_C_now 6 = .ok (.getfield 57, 3) := by decide +kernel
theorem d_C_now_9 : decode b_C_now 9 = .ok (.iload_n 1, 1) := by decide +kernel
theorem d_C_now_10 : decode b_C_now 10 = .ok (.invokevirtual 281, 3) := by decide +kernel
theorem d_C_now_13 : decode b_C_now 13 = .ok (.ireturn, 1) := by decide +kernel
theorem d_C_was_0 : decode b_C_was 0 = .ok (.aload_n 0, 1) := by decide +kernel
theorem d_C_was_1 : decode b_C_was 1 = .ok (.iload_n 1, 1) := by decide +kernel
theorem d_C_was_2 : decode b_C_was 2 = .ok (.invokevirtual 131, 3) := by decide +kernel
theorem d_C_was_5 : decode b_C_was 5 = .ok (.aload_n 0, 1) := by decide +kernel
theorem d_C_was_6 : decode b_C_was 6 = .ok (.getfield 57, 3) := by decide +kernel
theorem d_C_was_9 : decode b_C_was 9 = .ok (.iload_n 1, 1) := by decide +kernel
theorem d_C_was_10 : decode b_C_was 10 = .ok (.invokevirtual 284, 3) := by decide +kernel
theorem d_C_was_13 : decode b_C_was 13 = .ok (.ireturn, 1) := by decide +kernel
theorem d_C_clash_0 : decode b_C_clash 0 = .ok (.iload_n 1, 1) := by decide +kernel
theorem d_C_clash_1 : decode b_C_clash 1 = .ok (.tableswitch 42 0 2 #[27, 32, 37], 27) := by decide +kernel
theorem d_C_clash_28 : decode b_C_clash 28 = .ok (.aload_n 0, 1) := by decide +kernel
theorem d_C_clash_29 : decode b_C_clash 29 = .ok (.getfield 79, 3) := by decide +kernel
theorem d_C_clash_32 : decode b_C_clash 32 = .ok (.ireturn, 1) := by decide +kernel
theorem d_C_clash_33 : decode b_C_clash 33 = .ok (.aload_n 0, 1) := by decide +kernel
theorem d_C_clash_34 : decode b_C_clash 34 = .ok (.getfield 83, 3) := by decide +kernel
theorem d_C_clash_37 : decode b_C_clash 37 = .ok (.ireturn, 1) := by decide +kernel
theorem d_C_clash_38 : decode b_C_clash 38 = .ok (.aload_n 0, 1) := by decide +kernel
theorem d_C_clash_39 : decode b_C_clash 39 = .ok (.getfield 86, 3) := by decide +kernel
theorem d_C_clash_42 : decode b_C_clash 42 = .ok (.ireturn, 1) := by decide +kernel
theorem d_C_clash_43 : decode b_C_clash 43 = .ok (.new 89, 3) := by decide +kernel
theorem d_C_clash_46 : decode b_C_clash 46 = .ok (.dup, 1) := by decide +kernel
theorem d_C_clash_47 : decode b_C_clash 47 = .ok (.ldc_w 287, 3) := by decide +kernel
theorem d_C_clash_50 : decode b_C_clash 50 = .ok (.invokespecial 93, 3) := by decide +kernel
theorem d_C_clash_53 : decode b_C_clash 53 = .ok (.athrow, 1) := by decide +kernel
theorem d_C_count_0 : decode b_C_count 0 = .ok (.iload_n 1, 1) := by decide +kernel
theorem d_C_count_1 : decode b_C_count 1 = .ok (.tableswitch 96 0 6 #[43, 51, 59, 67, 75, 83, 91], 43) := by decide +kernel
theorem d_C_count_44 : decode b_C_count 44 = .ok (.aload_n 0, 1) := by decide +kernel
theorem d_C_count_45 : decode b_C_count 45 = .ok (.getfield 27, 3) := by decide +kernel
theorem d_C_count_48 : decode b_C_count 48 = .ok (.invokevirtual 233, 3) := by decide +kernel
theorem d_C_count_51 : decode b_C_count 51 = .ok (.ireturn, 1) := by decide +kernel
theorem d_C_count_52 : decode b_C_count 52 = .ok (.aload_n 0, 1) := by decide +kernel
theorem d_C_count_53 : decode b_C_count 53 = .ok (.getfield 36, 3) := by decide +kernel
theorem d_C_count_56 : decode b_C_count 56 = .ok (.invokevirtual 289, 3) := by decide +kernel
theorem d_C_count_59 : decode b_C_count 59 = .ok (.ireturn, 1) := by decide +kernel
theorem d_C_count_60 : decode b_C_count 60 = .ok (.aload_n 0, 1) := by decide +kernel
theorem d_C_count_61 : decode b_C_count 61 = .ok (.getfield 36, 3) := by decide +kernel
theorem d_C_count_64 : decode b_C_count 64 = .ok (.invokevirtual 292, 3) := by decide +kernel
theorem d_C_count_67 : decode b_C_count 67 = .ok (.ireturn, 1) := by decide +kernel
theorem d_C_count_68 : decode b_C_count 68 = .ok (.aload_n 0, 1) := by decide +kernel
theorem d_C_count_69 : decode b_C_count 69 = .ok (.getfield 43, 3) := by decide +kernel
theorem d_C_count_72 : decode b_C_count 72 = .ok (.invokevirtual 220, 3) := by decide +kernel
theorem d_C_count_75 : decode b_C_count 75 = .ok (.ireturn, 1) := by decide +kernel
theorem d_C_count_76 : decode b_C_count 76 = .ok (.aload_n 0, 1) := by decide +kernel
theorem d_C_count_77 : decode b_C_count 77 = .ok (.getfield 57, 3) := by decide +kernel
theorem d_C_count_80 : decode b_C_count 80 = .ok (.invokevirtual 293, 3) := by decide +kernel
theorem d_C_count_83 : decode b_C_count 83 = .ok (.ireturn, 1) := by decide +kernel
theorem d_C_count_84 : decode b_C_count 84 = .ok (.aload_n 0, 1) := by decide +kernel
theorem d_C_count_85 : decode b_C_count 85 = .ok (.getfield 14, 3) := by decide +kernel
theorem d_C_count_88 : decode b_C_count 88 = .ok (.invokevirtual 109, 3) := by decide +kernel
theorem d_C_count_91 : decode b_C_count 91 = .ok (.ireturn, 1) := by decide +kernel
theorem d_C_count_92 : decode b_C_count 92 = .ok (.aload_n 0, 1) := by decide +kernel
theorem d_C_count_93 : decode b_C_count 93 = .ok (.invokevirtual 294, 3) := by decide +kernel
theorem d_C_count_96 : decode b_C_count 96 = .ok (.ireturn, 1) := by decide +kernel
theorem d_C_count_97 : decode b_C_count 97 = .ok (.new 89, 3) := by decide +kernel
theorem d_C_count_100 : decode b_C_count 100 = .ok (.dup, 1) := by decide +kernel
theorem d_C_count_101 : decode b_C_count 101 = .ok (.ldc_w 297, 3) := by decide +kernel
theorem d_C_count_104 : decode b_C_count 104 = .ok (.invokespecial 93, 3) := by decide +kernel
theorem d_C_count_107 : decode b_C_count 107 = .ok (.athrow, 1) := by decide +kernel
theorem d_C_requireName_0 : decode b_C_requireName 0 = .ok (.aload_n 0, 1) := by decide +kernel
theorem d_C_requireName_1 : decode b_C_requireName 1 = .ok (.getfield 27, 3) := by decide +kernel
theorem d_C_requireName_4 : decode b_C_requireName 4 = .ok (.iload_n 1, 1) := by decide +kernel
theorem d_C_requireName_5 : decode b_C_requireName 5 = .ok (.invokevirtual 299, 3) := by decide +kernel
theorem d_C_requireName_8 : decode b_C_requireName 8 = .ok (.ifCond .ne 14, 3) := by decide +kernel
theorem d_C_requireName_11 : decode b_C_requireName 11 = .ok (.new 207, 3) := by decide +kernel
theorem d_C_requireName_14 : decode b_C_requireName 14 = .ok (.dup, 1) := by decide +kernel
theorem d_C_requireName_15 : decode b_C_requireName 15 = .ok (.ldc_w 300, 3) := by decide +kernel
theorem d_C_requireName_18 : decode b_C_requireName 18 = .ok (.invokespecial 211, 3) := by decide +kernel
theorem d_C_requireName_21 : decode b_C_requireName 21 = .ok (.athrow, 1) := by decide +kernel
theorem d_C_requireName_22 : decode b_C_requireName 22 = .ok (.return_, 1) := by decide +kernel
theorem d_C_requirePlace_0 : decode b_C_requirePlace 0 = .ok (.iload_n 1, 1) := by decide +kernel
theorem d_C_requirePlace_1 : decode b_C_requirePlace 1 = .ok (.ifCond .ge 14, 3) := by decide +kernel
theorem d_C_requirePlace_4 : decode b_C_requirePlace 4 = .ok (.new 207, 3) := by decide +kernel
theorem d_C_requirePlace_7 : decode b_C_requirePlace 7 = .ok (.dup, 1) := by decide +kernel
theorem d_C_requirePlace_8 : decode b_C_requirePlace 8 = .ok (.ldc_w 302, 3) := by decide +kernel
theorem d_C_requirePlace_11 : decode b_C_requirePlace 11 = .ok (.invokespecial 211, 3) := by decide +kernel
theorem d_C_requirePlace_14 : decode b_C_requirePlace 14 = .ok (.athrow, 1) := by decide +kernel
theorem d_C_requirePlace_15 : decode b_C_requirePlace 15 = .ok (.return_, 1) := by decide +kernel
theorem d_C_requireTape_0 : decode b_C_requireTape 0 = .ok (.aload_n 0, 1) := by decide +kernel
theorem d_C_requireTape_1 : decode b_C_requireTape 1 = .ok (.getfield 14, 3) := by decide +kernel
theorem d_C_requireTape_4 : decode b_C_requireTape 4 = .ok (.invokevirtual 126, 3) := by decide +kernel
theorem d_C_requireTape_7 : decode b_C_requireTape 7 = .ok (.ifCond .eq 14, 3) := by decide +kernel
theorem d_C_requireTape_10 : decode b_C_requireTape 10 = .ok (.new 189, 3) := by decide +kernel
theorem d_C_requireTape_13 : decode b_C_requireTape 13 = .ok (.dup, 1) := by decide +kernel
theorem d_C_requireTape_14 : decode b_C_requireTape 14 = .ok (.ldc_w 304, 3) := by decide +kernel
theorem d_C_requireTape_17 : decode b_C_requireTape 17 = .ok (.invokespecial 193, 3) := by decide +kernel
theorem d_C_requireTape_20 : decode b_C_requireTape 20 = .ok (.athrow, 1) := by decide +kernel
theorem d_C_requireTape_21 : decode b_C_requireTape 21 = .ok (.return_, 1) := by decide +kernel
theorem d_C_keepClash_0 : decode b_C_keepClash 0 = .ok (.aload_n 0, 1) := by decide +kernel
theorem d_C_keepClash_1 : decode b_C_keepClash 1 = .ok (.iload_n 1, 1) := by decide +kernel
theorem d_C_keepClash_2 : decode b_C_keepClash 2 = .ok (.putfield 79, 3) := by decide +kernel
theorem d_C_keepClash_5 : decode b_C_keepClash 5 = .ok (.aload_n 0, 1) := by decide +kernel
theorem d_C_keepClash_6 : decode b_C_keepClash 6 = .ok (.iload_n 2, 1) := by decide +kernel
theorem d_C_keepClash_7 : decode b_C_keepClash 7 = .ok (.putfield 83, 3) := by decide +kernel
theorem d_C_keepClash_10 : decode b_C_keepClash 10 = .ok (.aload_n 0, 1) := by decide +kernel
theorem d_C_keepClash_11 : decode b_C_keepClash 11 = .ok (.iload_n 3, 1) := by decide +kernel
theorem d_C_keepClash_12 : decode b_C_keepClash 12 = .ok (.putfield 86, 3) := by decide +kernel
theorem d_C_keepClash_15 : decode b_C_keepClash 15 = .ok (.return_, 1) := by decide +kernel
theorem d_C_numberOf_0 : decode b_C_numberOf 0 = .ok (.aload_n 0, 1) := by decide +kernel
theorem d_C_numberOf_1 : decode b_C_numberOf 1 = .ok (.getfield 27, 3) := by decide +kernel
theorem d_C_numberOf_4 : decode b_C_numberOf 4 = .ok (.aload_n 1, 1) := by decide +kernel
theorem d_C_numberOf_5 : decode b_C_numberOf 5 = .ok (.invokevirtual 306, 3) := by decide +kernel
theorem d_C_numberOf_8 : decode b_C_numberOf 8 = .ok (.istore_n 2, 1) := by decide +kernel
theorem d_C_numberOf_9 : decode b_C_numberOf 9 = .ok (.iload_n 2, 1) := by decide +kernel
theorem d_C_numberOf_10 : decode b_C_numberOf 10 = .ok (.iconst (-1), 1) := by decide +kernel
theorem d_C_numberOf_11 : decode b_C_numberOf 11 = .ok (.if_icmp .eq 5, 3) := by decide +kernel
theorem d_C_numberOf_14 : decode b_C_numberOf 14 = .ok (.iload_n 2, 1) := by decide +kernel
theorem d_C_numberOf_15 : decode b_C_numberOf 15 = .ok (.ireturn, 1) := by decide +kernel
theorem d_C_numberOf_16 : decode b_C_numberOf 16 = .ok (.aload_n 1, 1) := by decide +kernel
theorem d_C_numberOf_17 : decode b_C_numberOf 17 = .ok (.invokevirtual 109, 3) := by decide +kernel
theorem d_C_numberOf_20 : decode b_C_numberOf 20 = .ok (.bipush 24, 2) := by decide +kernel
theorem d_C_numberOf_22 : decode b_C_numberOf 22 = .ok (.if_icmp .gt 13, 3) := by decide +kernel
theorem d_C_numberOf_25 : decode b_C_numberOf 25 = .ok (.aload_n 0, 1) := by decide +kernel
theorem d_C_numberOf_26 : decode b_C_numberOf 26 = .ok (.getfield 27, 3) := by decide +kernel
theorem d_C_numberOf_29 : decode b_C_numberOf 29 = .ok (.invokevirtual 309, 3) := by decide +kernel
theorem d_C_numberOf_32 : decode b_C_numberOf 32 = .ok (.ifCond .eq 14, 3) := by decide +kernel
theorem d_C_numberOf_35 : decode b_C_numberOf 35 = .ok (.new 100, 3) := by decide +kernel
theorem d_C_numberOf_38 : decode b_C_numberOf 38 = .ok (.dup, 1) := by decide +kernel
theorem d_C_numberOf_39 : decode b_C_numberOf 39 = .ok (.ldc_w 310, 3) := by decide +kernel
theorem d_C_numberOf_42 : decode b_C_numberOf 42 = .ok (.invokespecial 104, 3) := by decide +kernel
theorem d_C_numberOf_45 : decode b_C_numberOf 45 = .ok (.athrow, 1) := by decide +kernel
theorem d_C_numberOf_46 : decode b_C_numberOf 46 = .ok (.aload_n 0, 1) := by decide +kernel
theorem d_C_numberOf_47 : decode b_C_numberOf 47 = .ok (.getfield 27, 3) := by decide +kernel
theorem d_C_numberOf_50 : decode b_C_numberOf 50 = .ok (.aload_n 1, 1) := by decide +kernel
theorem d_C_numberOf_51 : decode b_C_numberOf 51 = .ok (.invokevirtual 312, 3) := by decide +kernel
theorem d_C_numberOf_54 : decode b_C_numberOf 54 = .ok (.ireturn, 1) := by decide +kernel
theorem d_C_buildFromTape_0 : decode b_C_buildFromTape 0 = .ok (.aload_n 0, 1) := by decide +kernel
theorem d_C_buildFromTape_1 : decode b_C_buildFromTape 1 = .ok (.getfield 14, 3) := by decide +kernel
theorem d_C_buildFromTape_4 : decode b_C_buildFromTape 4 = .ok (.invokevirtual 109, 3) := by decide +kernel
theorem d_C_buildFromTape_7 : decode b_C_buildFromTape 7 = .ok (.iconst 1, 1) := by decide +kernel
theorem d_C_buildFromTape_8 : decode b_C_buildFromTape 8 = .ok (.isub, 1) := by decide +kernel
theorem d_C_buildFromTape_9 : decode b_C_buildFromTape 9 = .ok (.istore_n 1, 1) := by decide +kernel
theorem d_C_buildFromTape_10 : decode b_C_buildFromTape 10 = .ok (.aload_n 0, 1) := by decide +kernel
theorem d_C_buildFromTape_11 : decode b_C_buildFromTape 11 = .ok (.getfield 14, 3) := by decide +kernel
theorem d_C_buildFromTape_14 : decode b_C_buildFromTape 14 = .ok (.invokevirtual 109, 3) := by decide +kernel
theorem d_C_buildFromTape_17 : decode b_C_buildFromTape 17 = .ok (.iconst 2, 1) := by decide +kernel
theorem d_C_buildFromTape_18 : decode b_C_buildFromTape 18 = .ok (.if_icmp .le 50, 3) := by decide +kernel
theorem d_C_buildFromTape_21 : decode b_C_buildFromTape 21 = .ok (.aload_n 0, 1) := by decide +kernel
theorem d_C_buildFromTape_22 : decode b_C_buildFromTape 22 = .ok (.getfield 14, 3) := by decide +kernel
theorem d_C_buildFromTape_25 : decode b_C_buildFromTape 25 = .ok (.iconst 0, 1) := by decide +kernel
theorem d_C_buildFromTape_26 : decode b_C_buildFromTape 26 = .ok (.invokevirtual 179, 3) := by decide +kernel
theorem d_C_buildFromTape_29 : decode b_C_buildFromTape 29 = .ok (.bipush 60, 2) := by decide +kernel
theorem d_C_buildFromTape_31 : decode b_C_buildFromTape 31 = .ok (.if_icmp .ne 37, 3) := by decide +kernel
theorem d_C_buildFromTape_34 : decode b_C_buildFromTape 34 = .ok (.aload_n 0, 1) := by decide +kernel
theorem d_C_buildFromTape_35 : decode b_C_buildFromTape 35 = .ok (.getfield 14, 3) := by decide +kernel
theorem d_C_buildFromTape_38 : decode b_C_buildFromTape 38 = .ok (.iload_n 1, 1) := by decide +kernel
theorem d_C_buildFromTape_39 : decode b_C_buildFromTape 39 = .ok (.invokevirtual 179, 3) := by decide +kernel
theorem d_C_buildFromTape_42 : decode b_C_buildFromTape 42 = .ok (.bipush 62, 2) := by decide +kernel
theorem d_C_buildFromTape_44 : decode b_C_buildFromTape 44 = .ok (.if_icmp .ne 24, 3) := by decide +kernel
theorem d_C_buildFromTape_47 : decode b_C_buildFromTape 47 = .ok (.aload_n 0, 1) := by decide +kernel
theorem d_C_buildFromTape_48 : decode b_C_buildFromTape 48 = .ok (.getfield 21, 3) := by decide +kernel
theorem d_C_buildFromTape_51 : decode b_C_buildFromTape 51 = .ok (.invokevirtual 113, 3) := by decide +kernel
theorem d_C_buildFromTape_54 : decode b_C_buildFromTape 54 = .ok (.aload_n 0, 1) := by decide +kernel
theorem d_C_buildFromTape_55 : decode b_C_buildFromTape 55 = .ok (.getfield 21, 3) := by decide +kernel
theorem d_C_buildFromTape_58 : decode b_C_buildFromTape 58 = .ok (.aload_n 0, 1) := by decide +kernel
theorem d_C_buildFromTape_59 : decode b_C_buildFromTape 59 = .ok (.getfield 14, 3) := by decide +kernel
theorem d_C_buildFromTape_62 : decode b_C_buildFromTape 62 = .ok (.iconst 1, 1) := by decide +kernel
theorem d_C_buildFromTape_63 : decode b_C_buildFromTape 63 = .ok (.iload_n 1, 1) := by decide +kernel
theorem d_C_buildFromTape_64 : decode b_C_buildFromTape 64 = .ok (.invokevirtual 171, 3) := by decide +kernel
theorem d_C_buildFromTape_67 : decode b_C_buildFromTape 67 = .ok (.return_, 1) := by decide +kernel
theorem d_C_buildFromTape_68 : decode b_C_buildFromTape 68 = .ok (.aload_n 0, 1) := by decide +kernel
theorem d_C_buildFromTape_69 : decode b_C_buildFromTape 69 = .ok (.getfield 14, 3) := by decide +kernel
theorem d_C_buildFromTape_72 : decode b_C_buildFromTape 72 = .ok (.bipush 58, 2) := by decide +kernel
theorem d_C_buildFromTape_74 : decode b_C_buildFromTape 74 = .ok (.invokevirtual 314, 3) := by decide +kernel
theorem d_C_buildFromTape_77 : decode b_C_buildFromTape 77 = .ok (.istore_n 2, 1) := by decide +kernel
theorem d_C_buildFromTape_78 : decode b_C_buildFromTape 78 = .ok (.iload_n 2, 1) := by decide +kernel
theorem d_C_buildFromTape_79 : decode b_C_buildFromTape 79 = .ok (.iconst (-1), 1) := by decide +kernel
theorem d_C_buildFromTape_80 : decode b_C_buildFromTape 80 = .ok (.if_icmp .ne 7, 3) := by decide +kernel
theorem d_C_buildFromTape_83 : decode b_C_buildFromTape 83 = .ok (.iconst (-1), 1) := by decide +kernel
theorem d_C_buildFromTape_84 : decode b_C_buildFromTape 84 = .ok (.goto 8, 3) := by decide +kernel
theorem d_C_buildFromTape_87 : decode b_C_buildFromTape 87 = .ok (.aload_n 0, 1) := by decide +kernel
theorem d_C_buildFromTape_88 : decode b_C_buildFromTape 88 = .ok (.iload_n 2, 1) := by decide +kernel
theorem d_C_buildFromTape_89 : decode b_C_buildFromTape 89 = .ok (.invokevirtual 318, 3) := by decide +kernel
theorem d_C_buildFromTape_92 : decode b_C_buildFromTape 92 = .ok (.istore_n 3, 1) := by decide +kernel
theorem d_C_buildFromTape_93 : decode b_C_buildFromTape 93 = .ok (.aload_n 0, 1) := by decide +kernel
theorem d_C_buildFromTape_94 : decode b_C_buildFromTape 94 = .ok (.getfield 21, 3) := by decide +kernel
theorem d_C_buildFromTape_97 : decode b_C_buildFromTape 97 = .ok (.invokevirtual 113, 3) := by decide +kernel
theorem d_C_buildFromTape_100 : decode b_C_buildFromTape 100 = .ok (.iload_n 3, 1) := by decide +kernel
theorem d_C_buildFromTape_101 : decode b_C_buildFromTape 101 = .ok (.iconst (-1), 1) := by decide +kernel
theorem d_C_buildFromTape_102 : decode b_C_buildFromTape 102 = .ok (.if_icmp .eq 44, 3) := by decide +kernel
theorem d_C_buildFromTape_105 : decode b_C_buildFromTape 105 = .ok (.iload_n 2, 1) := by decide +kernel
theorem d_C_buildFromTape_106 : decode b_C_buildFromTape 106 = .ok (.iload_n 1, 1) := by decide +kernel
theorem d_C_buildFromTape_107 : decode b_C_buildFromTape 107 = .ok (.if_icmp .ge 39, 3) := by decide +kernel
theorem d_C_buildFromTape_110 : decode b_C_buildFromTape 110 = .ok (.aload_n 0, 1) := by decide +kernel
theorem d_C_buildFromTape_111 : decode b_C_buildFromTape 111 = .ok (.getfield 21, 3) := by decide +kernel
theorem d_C_buildFromTape_114 : decode b_C_buildFromTape 114 = .ok (.aload_n 0, 1) := by decide +kernel
theorem d_C_buildFromTape_115 : decode b_C_buildFromTape 115 = .ok (.getfield 27, 3) := by decide +kernel
theorem d_C_buildFromTape_118 : decode b_C_buildFromTape 118 = .ok (.iload_n 3, 1) := by decide +kernel
theorem d_C_buildFromTape_119 : decode b_C_buildFromTape 119 = .ok (.invokevirtual 134, 3) := by decide +kernel
theorem d_C_buildFromTape_122 : decode b_C_buildFromTape 122 = .ok (.invokevirtual 186, 3) := by decide +kernel
theorem d_C_buildFromTape_125 : decode b_C_buildFromTape 125 = .ok (.aload_n 0, 1) := by decide +kernel
theorem d_C_buildFromTape_126 : decode b_C_buildFromTape 126 = .ok (.getfield 21, 3) := by decide +kernel
theorem d_C_buildFromTape_129 : decode b_C_buildFromTape 129 = .ok (.aload_n 0, 1) := by decide +kernel
theorem d_C_buildFromTape_130 : decode b_C_buildFromTape 130 = .ok (.getfield 14, 3) := by decide +kernel
theorem d_C_buildFromTape_133 : decode b_C_buildFromTape 133 = .ok (.iload_n 2, 1) := by decide +kernel
theorem d_C_buildFromTape_134 : decode b_C_buildFromTape 134 = .ok (.iconst 1, 1) := by decide +kernel
theorem d_C_buildFromTape_135 : decode b_C_buildFromTape 135 = .ok (.iadd, 1) := by decide +kernel
theorem d_C_buildFromTape_136 : decode b_C_buildFromTape 136 = .ok (.aload_n 0, 1) := by decide +kernel
theorem d_C_buildFromTape_137 : decode b_C_buildFromTape 137 = .ok (.getfield 14, 3) := by decide +kernel
theorem d_C_buildFromTape_140 : decode b_C_buildFromTape 140 = .ok (.invokevirtual 109, 3) := by decide +kernel
theorem d_C_buildFromTape_143 : decode b_C_buildFromTape 143 = .ok (.invokevirtual 171, 3) := by decide +kernel
theorem d_C_buildFromTape_146 : decode b_C_buildFromTape 146 = .ok (.return_, 1) := by decide +kernel
theorem d_C_spaceOnTapeBefore_0 : decode b_C_spaceOnTapeBefore 0 = .ok (.aload_n 0, 1) := by decide +kernel
theorem d_C_spaceOnTapeBefore_1 : decode b_C_spaceOnTapeBefore 1 = .ok (.getfield 21, 3) := by decide +kernel
theorem d_C_spaceOnTapeBefore_4 : decode b_C_spaceOnTapeBefore 4 = .ok (.invokevirtual 113, 3) := by decide +kernel
theorem d_C_spaceOnTapeBefore_7 : decode b_C_spaceOnTapeBefore 7 = .ok (.aload_n 0, 1) := by decide +kernel
theorem d_C_spaceOnTapeBefore_8 : decode b_C_spaceOnTapeBefore 8 = .ok (.getfield 21, 3) := by decide +kernel
theorem d_C_spaceOnTapeBefore_11 : decode b_C_spaceOnTapeBefore 11 = .ok (.aload_n 0, 1) := by decide +kernel
theorem d_C_spaceOnTapeBefore_12 : decode b_C_spaceOnTapeBefore 12 = .ok (.getfield 14, 3) := by decide +kernel
theorem d_C_spaceOnTapeBefore_15 : decode b_C_spaceOnTapeBefore 15 = .ok (.iconst 0, 1) := by decide +kernel
theorem d_C_spaceOnTapeBefore_16 : decode b_C_spaceOnTapeBefore 16 = .ok (.iload_n 1, 1) := by decide +kernel
theorem d_C_spaceOnTapeBefore_17 : decode b_C_spaceOnTapeBefore 17 = .ok (.invokevirtual 171, 3) := by decide +kernel
theorem d_C_spaceOnTapeBefore_20 : decode b_C_spaceOnTapeBefore 20 = .ok (.aload_n 0, 1) := by decide +kernel
theorem d_C_spaceOnTapeBefore_21 : decode b_C_spaceOnTapeBefore 21 = .ok (.getfield 27, 3) := by decide +kernel
theorem d_C_spaceOnTapeBefore_24 : decode b_C_spaceOnTapeBefore 24 = .ok (.aload_n 0, 1) := by decide +kernel
theorem d_C_spaceOnTapeBefore_25 : decode b_C_spaceOnTapeBefore 25 = .ok (.getfield 21, 3) := by decide +kernel
theorem d_C_spaceOnTapeBefore_28 : decode b_C_spaceOnTapeBefore 28 = .ok (.invokevirtual 306, 3) := by decide +kernel
theorem d_C_spaceOnTapeBefore_31 : decode b_C_spaceOnTapeBefore 31 = .ok (.istore_n 2, 1) := by decide +kernel
theorem d_C_spaceOnTapeBefore_32 : decode b_C_spaceOnTapeBefore 32 = .ok (.iload_n 2, 1) := by decide +kernel
theorem d_C_spaceOnTapeBefore_33 : decode b_C_spaceOnTapeBefore 33 = .ok (.iconst (-1), 1) := by decide +kernel
theorem d_C_spaceOnTapeBefore_34 : decode b_C_spaceOnTapeBefore 34 = .ok (.if_icmp .ne 7, 3) := by decide +kernel
theorem d_C_spaceOnTapeBefore_37 : decode b_C_spaceOnTapeBefore 37 = .ok (.iconst (-1), 1) := by decide +kernel
theorem d_C_spaceOnTapeBefore_38 : decode b_C_spaceOnTapeBefore 38 = .ok (.goto 11, 3) := by decide +kernel
theorem d_C_spaceOnTapeBefore_41 : decode b_C_spaceOnTapeBefore 41 = .ok (.aload_n 0, 1) := by decide +kernel
theorem d_C_spaceOnTapeBefore_42 : decode b_C_spaceOnTapeBefore 42 = .ok (.getfield 36, 3) := by decide +kernel
theorem d_C_spaceOnTapeBefore_45 : decode b_C_spaceOnTapeBefore 45 = .ok (.iload_n 2, 1) := by decide +kernel
theorem d_C_spaceOnTapeBefore_46 : decode b_C_spaceOnTapeBefore 46 = .ok (.invokevirtual 143, 3) := by decide +kernel
theorem d_C_spaceOnTapeBefore_49 : decode b_C_spaceOnTapeBefore 49 = .ok (.ireturn, 1) := by decide +kernel
theorem d_C_buildLastLetters_0 : decode b_C_buildLastLetters 0 = .ok (.aload_n 1, 1) := by decide +kernel
theorem d_C_buildLastLetters_1 : decode b_C_buildLastLetters 1 = .ok (.invokevirtual 109, 3) := by decide +kernel
theorem d_C_buildLastLetters_4 : decode b_C_buildLastLetters 4 = .ok (.istore_n 2, 1) := by decide +kernel
theorem d_C_buildLastLetters_5 : decode b_C_buildLastLetters 5 = .ok (.iload_n 2, 1) := by decide +kernel
theorem d_C_buildLastLetters_6 : decode b_C_buildLastLetters 6 = .ok (.ifCond .le 22, 3) := by decide +kernel
theorem d_C_buildLastLetters_9 : decode b_C_buildLastLetters 9 = .ok (.aload_n 1, 1) := by decide +kernel
theorem d_C_buildLastLetters_10 : decode b_C_buildLastLetters 10 = .ok (.iload_n 2, 1) := by decide +kernel
theorem d_C_buildLastLetters_11 : decode b_C_buildLastLetters 11 = .ok (.iconst 1, 1) := by decide +kernel
theorem d_C_buildLastLetters_12 : decode b_C_buildLastLetters 12 = .ok (.isub, 1) := by decide +kernel
theorem d_C_buildLastLetters_13 : decode b_C_buildLastLetters 13 = .ok (.invokevirtual 179, 3) := by decide +kernel
theorem d_C_buildLastLetters_16 : decode b_C_buildLastLetters 16 = .ok (.invokestatic 321, 3) := by decide +kernel
theorem d_C_buildLastLetters_19 : decode b_C_buildLastLetters 19 = .ok (.ifCond .ne 9, 3) := by decide +kernel
theorem d_C_buildLastLetters_22 : decode b_C_buildLastLetters 22 = .ok (.iinc 2 (-1), 3) := by decide +kernel
theorem d_C_buildLastLetters_25 : decode b_C_buildLastLetters 25 = .ok (.goto (-20), 3) := by decide +kernel
theorem d_C_buildLastLetters_28 : decode b_C_buildLastLetters 28 = .ok (.iload_n 2, 1) := by decide +kernel
theorem d_C_buildLastLetters_29 : decode b_C_buildLastLetters 29 = .ok (.istore_n 3, 1) := by decide +kernel
theorem d_C_buildLastLetters_30 : decode b_C_buildLastLetters 30 = .ok (.iload_n 3, 1) := by decide +kernel
theorem d_C_buildLastLetters_31 : decode b_C_buildLastLetters 31 = .ok (.ifCond .le 22, 3) := by decide +kernel
theorem d_C_buildLastLetters_34 : decode b_C_buildLastLetters 34 = .ok (.aload_n 1, 1) := by decide +kernel
theorem d_C_buildLastLetters_35 : decode b_C_buildLastLetters 35 = .ok (.iload_n 3, 1) := by decide +kernel
theorem d_C_buildLastLetters_36 : decode b_C_buildLastLetters 36 = .ok (.iconst 1, 1) := by decide +kernel
theorem d_C_buildLastLetters_37 : decode b_C_buildLastLetters 37 = .ok (.isub, 1) := by decide +kernel
theorem d_C_buildLastLetters_38 : decode b_C_buildLastLetters 38 = .ok (.invokevirtual 179, 3) := by decide +kernel
theorem d_C_buildLastLetters_41 : decode b_C_buildLastLetters 41 = .ok (.invokestatic 321, 3) := by decide +kernel
theorem d_C_buildLastLetters_44 : decode b_C_buildLastLetters 44 = .ok (.ifCond .eq 9, 3) := by decide +kernel
theorem d_C_buildLastLetters_47 : decode b_C_buildLastLetters 47 = .ok (.iinc 3 (-1), 3) := by decide +kernel
theorem d_C_buildLastLetters_50 : decode b_C_buildLastLetters 50 = .ok (.goto (-20), 3) := by decide +kernel
theorem d_C_buildLastLetters_53 : decode b_C_buildLastLetters 53 = .ok (.aload_n 0, 1) := by decide +kernel
theorem d_C_buildLastLetters_54 : decode b_C_buildLastLetters 54 = .ok (.getfield 21, 3) := by decide +kernel
theorem d_C_buildLastLetters_57 : decode b_C_buildLastLetters 57 = .ok (.invokevirtual 113, 3) := by decide +kernel
theorem d_C_buildLastLetters_60 : decode b_C_buildLastLetters 60 = .ok (.iload_n 3, 1) := by decide +kernel
theorem d_C_buildLastLetters_61 : decode b_C_buildLastLetters 61 = .ok (.istore 4, 2) := by decide +kernel
theorem d_C_buildLastLetters_63 : decode b_C_buildLastLetters 63 = .ok (.iload 4, 2) := by decide +kernel
theorem d_C_buildLastLetters_65 : decode b_C_buildLastLetters 65 = .ok (.iload_n 2, 1) := by decide +kernel
theorem d_C_buildLastLetters_66 : decode b_C_buildLastLetters 66 = .ok (.if_icmp .ge 25, 3) := by decide +kernel
theorem d_C_buildLastLetters_69 : decode b_C_buildLastLetters 69 = .ok (.aload_n 0, 1) := by decide +kernel
theorem d_C_buildLastLetters_70 : decode b_C_buildLastLetters 70 = .ok (.getfield 21, 3) := by decide +kernel
theorem d_C_buildLastLetters_73 : decode b_C_buildLastLetters 73 = .ok (.aload_n 1, 1) := by decide +kernel
theorem d_C_buildLastLetters_74 : decode b_C_buildLastLetters 74 = .ok (.iload 4, 2) := by decide +kernel
theorem d_C_buildLastLetters_76 : decode b_C_buildLastLetters 76 = .ok (.invokevirtual 179, 3) := by decide +kernel
theorem d_C_buildLastLetters_79 : decode b_C_buildLastLetters 79 = .ok (.invokestatic 325, 3) := by decide +kernel
theorem d_C_buildLastLetters_82 : decode b_C_buildLastLetters 82 = .ok (.invokevirtual 105, 3) := by decide +kernel
theorem d_C_buildLastLetters_85 : decode b_C_buildLastLetters 85 = .ok (.iinc 4 1, 3) := by decide +kernel
theorem d_C_buildLastLetters_88 : decode b_C_buildLastLetters 88 = .ok (.goto (-25), 3) := by decide +kernel
theorem d_C_buildLastLetters_91 : decode b_C_buildLastLetters 91 = .ok (.aload_n 0, 1) := by decide +kernel
theorem d_C_buildLastLetters_92 : decode b_C_buildLastLetters 92 = .ok (.getfield 21, 3) := by decide +kernel
theorem d_C_buildLastLetters_95 : decode b_C_buildLastLetters 95 = .ok (.invokevirtual 126, 3) := by decide +kernel
theorem d_C_buildLastLetters_98 : decode b_C_buildLastLetters 98 = .ok (.ifCond .eq 12, 3) := by decide +kernel
theorem d_C_buildLastLetters_101 : decode b_C_buildLastLetters 101 = .ok (.aload_n 0, 1) := by decide +kernel
theorem d_C_buildLastLetters_102 : decode b_C_buildLastLetters 102 = .ok (.getfield 21, 3) := by decide +kernel
theorem d_C_buildLastLetters_105 : decode b_C_buildLastLetters 105 = .ok (.bipush 110, 2) := by decide +kernel
theorem d_C_buildLastLetters_107 : decode b_C_buildLastLetters 107 = .ok (.invokevirtual 105, 3) := by decide +kernel
theorem d_C_buildLastLetters_110 : decode b_C_buildLastLetters 110 = .ok (.return_, 1) := by decide +kernel
theorem d_C_isSmallLetter_0 : decode b_C_isSmallLetter 0 = .ok (.iload_n 0, 1) := by decide +kernel
theorem d_C_isSmallLetter_1 : decode b_C_isSmallLetter 1 = .ok (.bipush 97, 2) := by decide +kernel
theorem d_C_isSmallLetter_3 : decode b_C_isSmallLetter 3 = .ok (.if_icmp .lt 13, 3) := by decide +kernel
theorem d_C_isSmallLetter_6 : decode b_C_isSmallLetter 6 = .ok (.iload_n 0, 1) := by decide +kernel
theorem d_C_isSmallLetter_7 : decode b_C_isSmallLetter 7 = .ok (.bipush 122, 2) := by decide +kernel
theorem d_C_isSmallLetter_9 : decode b_C_isSmallLetter 9 = .ok (.if_icmp .gt 7, 3) := by decide +kernel
theorem d_C_isSmallLetter_12 : decode b_C_isSmallLetter 12 = .ok (.iconst 1, 1) := by decide +kernel
theorem d_C_isSmallLetter_13 : decode b_C_isSmallLetter 13 = .ok (.goto 4, 3) := by decide +kernel
theorem d_C_isSmallLetter_16 : decode b_C_isSmallLetter 16 = .ok (.iconst 0, 1) := by decide +kernel
theorem d_C_isSmallLetter_17 : decode b_C_isSmallLetter 17 = .ok (.ireturn, 1) := by decide +kernel
theorem d_C_isGreatLetter_0 : decode b_C_isGreatLetter 0 = .ok (.iload_n 0, 1) := by decide +kernel
theorem d_C_isGreatLetter_1 : decode b_C_isGreatLetter 1 = .ok (.bipush 65, 2) := by decide +kernel
theorem d_C_isGreatLetter_3 : decode b_C_isGreatLetter 3 = .ok (.if_icmp .lt 13, 3) := by decide +kernel
theorem d_C_isGreatLetter_6 : decode b_C_isGreatLetter 6 = .ok (.iload_n 0, 1) := by decide +kernel
theorem d_C_isGreatLetter_7 : decode b_C_isGreatLetter 7 = .ok (.bipush 90, 2) := by decide +kernel
theorem d_C_isGreatLetter_9 : decode b_C_isGreatLetter 9 = .ok (.if_icmp .gt 7, 3) := by decide +kernel
theorem d_C_isGreatLetter_12 : decode b_C_isGreatLetter 12 = .ok (.iconst 1, 1) := by decide +kernel
theorem d_C_isGreatLetter_13 : decode b_C_isGreatLetter 13 = .ok (.goto 4, 3) := by decide +kernel
theorem d_C_isGreatLetter_16 : decode b_C_isGreatLetter 16 = .ok (.iconst 0, 1) := by decide +kernel
theorem d_C_isGreatLetter_17 : decode b_C_isGreatLetter 17 = .ok (.ireturn, 1) := by decide +kernel
theorem d_C_isLetter_0 : decode b_C_isLetter 0 = .ok (.iload_n 0, 1) := by decide +kernel
theorem d_C_isLetter_1 : decode b_C_isLetter 1 = .ok (.invokestatic 329, 3) := by decide +kernel
theorem d_C_isLetter_4 : decode b_C_isLetter 4 = .ok (.ifCond .ne 10, 3) := by decide +kernel
theorem d_C_isLetter_7 : decode b_C_isLetter 7 = .ok (.iload_n 0, 1) := by decide +kernel
theorem d_C_isLetter_8 : decode b_C_isLetter 8 = .ok (.invokestatic 332, 3) := by decide +kernel
theorem d_C_isLetter_11 : decode b_C_isLetter 11 = .ok (.ifCond .eq 7, 3) := by decide +kernel
theorem d_C_isLetter_14 : decode b_C_isLetter 14 = .ok (.iconst 1, 1) := by decide +kernel
theorem d_C_isLetter_15 : decode b_C_isLetter 15 = .ok (.goto 4, 3) := by decide +kernel
theorem d_C_isLetter_18 : decode b_C_isLetter 18 = .ok (.iconst 0, 1) := by decide +kernel
theorem d_C_isLetter_19 : decode b_C_isLetter 19 = .ok (.ireturn, 1) := by decide +kernel
theorem d_C_isDigit_0 : decode b_C_isDigit 0 = .ok (.iload_n 0, 1) := by decide +kernel
theorem d_C_isDigit_1 : decode b_C_isDigit 1 = .ok (.bipush 48, 2) := by decide +kernel
theorem d_C_isDigit_3 : decode b_C_isDigit 3 = .ok (.if_icmp .lt 13, 3) := by decide +kernel
theorem d_C_isDigit_6 : decode b_C_isDigit 6 = .ok (.iload_n 0, 1) := by decide +kernel
theorem d_C_isDigit_7 : decode b_C_isDigit 7 = .ok (.bipush 57, 2) := by decide +kernel
theorem d_C_isDigit_9 : decode b_C_isDigit 9 = .ok (.if_icmp .gt 7, 3) := by decide +kernel
theorem d_C_isDigit_12 : decode b_C_isDigit 12 = .ok (.iconst 1, 1) := by decide +kernel
theorem d_C_isDigit_13 : decode b_C_isDigit 13 = .ok (.goto 4, 3) := by decide +kernel
theorem d_C_isDigit_16 : decode b_C_isDigit 16 = .ok (.iconst 0, 1) := by decide +kernel
theorem d_C_isDigit_17 : decode b_C_isDigit 17 = .ok (.ireturn, 1) := by decide +kernel
theorem d_C_small_0 : decode b_C_small 0 = .ok (.iload_n 0, 1) := by decide +kernel
theorem d_C_small_1 : decode b_C_small 1 = .ok (.invokestatic 332, 3) := by decide +kernel
theorem d_C_small_4 : decode b_C_small 4 = .ok (.ifCond .eq 14, 3) := by decide +kernel
theorem d_C_small_7 : decode b_C_small 7 = .ok (.iload_n 0, 1) := by decide +kernel
theorem d_C_small_8 : decode b_C_small 8 = .ok (.bipush 65, 2) := by decide +kernel
theorem d_C_small_10 : decode b_C_small 10 = .ok (.isub, 1) := by decide +kernel
theorem d_C_small_11 : decode b_C_small 11 = .ok (.bipush 97, 2) := by decide +kernel
theorem d_C_small_13 : decode b_C_small 13 = .ok (.iadd, 1) := by decide +kernel
theorem d_C_small_14 : decode b_C_small 14 = .ok (.i2c, 1) := by decide +kernel
theorem d_C_small_15 : decode b_C_small 15 = .ok (.goto 4, 3) := by decide +kernel
theorem d_C_small_18 : decode b_C_small 18 = .ok (.iload_n 0, 1) := by decide +kernel
theorem d_C_small_19 : decode b_C_small 19 = .ok (.ireturn, 1) := by decide +kernel
theorem d_C_buildBesides_0 : decode b_C_buildBesides 0 = .ok (.aload_n 0, 1) := by decide +kernel
theorem d_C_buildBesides_1 : decode b_C_buildBesides 1 = .ok (.getfield 21, 3) := by decide +kernel
theorem d_C_buildBesides_4 : decode b_C_buildBesides 4 = .ok (.invokevirtual 113, 3) := by decide +kernel
theorem d_C_buildBesides_7 : decode b_C_buildBesides 7 = .ok (.aload_n 0, 1) := by decide +kernel
theorem d_C_buildBesides_8 : decode b_C_buildBesides 8 = .ok (.getfield 21, 3) := by decide +kernel
theorem d_C_buildBesides_11 : decode b_C_buildBesides 11 = .ok (.aload_n 1, 1) := by decide +kernel
theorem d_C_buildBesides_12 : decode b_C_buildBesides 12 = .ok (.iconst 0, 1) := by decide +kernel
theorem d_C_buildBesides_13 : decode b_C_buildBesides 13 = .ok (.aload_n 1, 1) := by decide +kernel
theorem d_C_buildBesides_14 : decode b_C_buildBesides 14 = .ok (.bipush 47, 2) := by decide +kernel
theorem d_C_buildBesides_16 : decode b_C_buildBesides 16 = .ok (.invokevirtual 335, 3) := by decide +kernel
theorem d_C_buildBesides_19 : decode b_C_buildBesides 19 = .ok (.iconst 1, 1) := by decide +kernel
theorem d_C_buildBesides_20 : decode b_C_buildBesides 20 = .ok (.iadd, 1) := by decide +kernel
theorem d_C_buildBesides_21 : decode b_C_buildBesides 21 = .ok (.invokevirtual 171, 3) := by decide +kernel
theorem d_C_buildBesides_24 : decode b_C_buildBesides 24 = .ok (.aload_n 0, 1) := by decide +kernel
theorem d_C_buildBesides_25 : decode b_C_buildBesides 25 = .ok (.getfield 21, 3) := by decide +kernel
theorem d_C_buildBesides_28 : decode b_C_buildBesides 28 = .ok (.aload_n 2, 1) := by decide +kernel
theorem d_C_buildBesides_29 : decode b_C_buildBesides 29 = .ok (.invokevirtual 186, 3) := by decide +kernel
theorem d_C_buildBesides_32 : decode b_C_buildBesides 32 = .ok (.return_, 1) := by decide +kernel
theorem d_C_buildWithin_0 : decode b_C_buildWithin 0 = .ok (.aload_n 1, 1) := by decide +kernel
theorem d_C_buildWithin_1 : decode b_C_buildWithin 1 = .ok (.bipush 35, 2) := by decide +kernel
theorem d_C_buildWithin_3 : decode b_C_buildWithin 3 = .ok (.invokevirtual 314, 3) := by decide +kernel
theorem d_C_buildWithin_6 : decode b_C_buildWithin 6 = .ok (.istore_n 3, 1) := by decide +kernel
theorem d_C_buildWithin_7 : decode b_C_buildWithin 7 = .ok (.aload_n 0, 1) := by decide +kernel
theorem d_C_buildWithin_8 : decode b_C_buildWithin 8 = .ok (.getfield 21, 3) := by decide +kernel
theorem d_C_buildWithin_11 : decode b_C_buildWithin 11 = .ok (.invokevirtual 113, 3) := by decide +kernel
theorem d_C_buildWithin_14 : decode b_C_buildWithin 14 = .ok (.aload_n 0, 1) := by decide +kernel
theorem d_C_buildWithin_15 : decode b_C_buildWithin 15 = .ok (.getfield 21, 3) := by decide +kernel
theorem d_C_buildWithin_18 : decode b_C_buildWithin 18 = .ok (.aload_n 1, 1) := by decide +kernel
theorem d_C_buildWithin_19 : decode b_C_buildWithin 19 = .ok (.iconst 0, 1) := by decide +kernel
theorem d_C_buildWithin_20 : decode b_C_buildWithin 20 = .ok (.iload_n 3, 1) := by decide +kernel
theorem d_C_buildWithin_21 : decode b_C_buildWithin 21 = .ok (.iconst (-1), 1) := by decide +kernel
theorem d_C_buildWithin_22 : decode b_C_buildWithin 22 = .ok (.if_icmp .ne 10, 3) := by decide +kernel
theorem d_C_buildWithin_25 : decode b_C_buildWithin 25 = .ok (.aload_n 1, 1) := by decide +kernel
theorem d_C_buildWithin_26 : decode b_C_buildWithin 26 = .ok (.invokevirtual 109, 3) := by decide +kernel
theorem d_C_buildWithin_29 : decode b_C_buildWithin 29 = .ok (.goto 4, 3) := by decide +kernel
theorem d_C_buildWithin_32 : decode b_C_buildWithin 32 = .ok (.iload_n 3, 1) := by decide +kernel
theorem d_C_buildWithin_33 : decode b_C_buildWithin 33 = .ok (.invokevirtual 171, 3) := by decide +kernel
theorem d_C_buildWithin_36 : decode b_C_buildWithin 36 = .ok (.aload_n 0, 1) := by decide +kernel
theorem d_C_buildWithin_37 : decode b_C_buildWithin 37 = .ok (.getfield 21, 3) := by decide +kernel
theorem d_C_buildWithin_40 : decode b_C_buildWithin 40 = .ok (.bipush 35, 2) := by decide +kernel
theorem d_C_buildWithin_42 : decode b_C_buildWithin 42 = .ok (.invokevirtual 105, 3) := by decide +kernel
theorem d_C_buildWithin_45 : decode b_C_buildWithin 45 = .ok (.aload_n 0, 1) := by decide +kernel
theorem d_C_buildWithin_46 : decode b_C_buildWithin 46 = .ok (.getfield 21, 3) := by decide +kernel
theorem d_C_buildWithin_49 : decode b_C_buildWithin 49 = .ok (.aload_n 2, 1) := by decide +kernel
theorem d_C_buildWithin_50 : decode b_C_buildWithin 50 = .ok (.invokevirtual 186, 3) := by decide +kernel
theorem d_C_buildWithin_53 : decode b_C_buildWithin 53 = .ok (.return_, 1) := by decide +kernel
theorem d_C_termText_0 : decode b_C_termText 0 = .ok (.aload_n 0, 1) := by decide +kernel
theorem d_C_termText_1 : decode b_C_termText 1 = .ok (.getfield 27, 3) := by decide +kernel
theorem d_C_termText_4 : decode b_C_termText 4 = .ok (.aload_n 0, 1) := by decide +kernel
theorem d_C_termText_5 : decode b_C_termText 5 = .ok (.getfield 43, 3) := by decide +kernel
theorem d_C_termText_8 : decode b_C_termText 8 = .ok (.iload_n 1, 1) := by decide +kernel
theorem d_C_termText_9 : decode b_C_termText 9 = .ok (.iconst 0, 1) := by decide +kernel
theorem d_C_termText_10 : decode b_C_termText 10 = .ok (.invokevirtual 214, 3) := by decide +kernel
theorem d_C_termText_13 : decode b_C_termText 13 = .ok (.invokevirtual 134, 3) := by decide +kernel
theorem d_C_termText_16 : decode b_C_termText 16 = .ok (.areturn, 1) := by decide +kernel
theorem d_C_spaceOfTerm_0 : decode b_C_spaceOfTerm 0 = .ok (.aload_n 0, 1) := by decide +kernel
theorem d_C_spaceOfTerm_1 : decode b_C_spaceOfTerm 1 = .ok (.getfield 36, 3) := by decide +kernel
theorem d_C_spaceOfTerm_4 : decode b_C_spaceOfTerm 4 = .ok (.aload_n 0, 1) := by decide +kernel
theorem d_C_spaceOfTerm_5 : decode b_C_spaceOfTerm 5 = .ok (.getfield 43, 3) := by decide +kernel
theorem d_C_spaceOfTerm_8 : decode b_C_spaceOfTerm 8 = .ok (.iload_n 1, 1) := by decide +kernel
theorem d_C_spaceOfTerm_9 : decode b_C_spaceOfTerm 9 = .ok (.iconst 0, 1) := by decide +kernel
theorem d_C_spaceOfTerm_10 : decode b_C_spaceOfTerm 10 = .ok (.invokevirtual 214, 3) := by decide +kernel
theorem d_C_spaceOfTerm_13 : decode b_C_spaceOfTerm 13 = .ok (.invokevirtual 155, 3) := by decide +kernel
theorem d_C_spaceOfTerm_16 : decode b_C_spaceOfTerm 16 = .ok (.ireturn, 1) := by decide +kernel
theorem d_C_isInSpace_0 : decode b_C_isInSpace 0 = .ok (.aload_n 0, 1) := by decide +kernel
theorem d_C_isInSpace_1 : decode b_C_isInSpace 1 = .ok (.iload_n 1, 1) := by decide +kernel
theorem d_C_isInSpace_2 : decode b_C_isInSpace 2 = .ok (.invokevirtual 338, 3) := by decide +kernel
theorem d_C_isInSpace_5 : decode b_C_isInSpace 5 = .ok (.iload_n 2, 1) := by decide +kernel
theorem d_C_isInSpace_6 : decode b_C_isInSpace 6 = .ok (.if_icmp .ne 7, 3) := by decide +kernel
theorem d_C_isInSpace_9 : decode b_C_isInSpace 9 = .ok (.iconst 1, 1) := by decide +kernel
theorem d_C_isInSpace_10 : decode b_C_isInSpace 10 = .ok (.goto 4, 3) := by decide +kernel
theorem d_C_isInSpace_13 : decode b_C_isInSpace 13 = .ok (.iconst 0, 1) := by decide +kernel
theorem d_C_isInSpace_14 : decode b_C_isInSpace 14 = .ok (.ireturn, 1) := by decide +kernel
theorem d_C_rowsBefore_0 : decode b_C_rowsBefore 0 = .ok (.aload_n 0, 1) := by decide +kernel
theorem d_C_rowsBefore_1 : decode b_C_rowsBefore 1 = .ok (.iload_n 1, 1) := by decide +kernel
theorem d_C_rowsBefore_2 : decode b_C_rowsBefore 2 = .ok (.invokevirtual 341, 3) := by decide +kernel
theorem d_C_rowsBefore_5 : decode b_C_rowsBefore 5 = .ok (.astore_n 3, 1) := by decide +kernel
theorem d_C_rowsBefore_6 : decode b_C_rowsBefore 6 = .ok (.iconst 0, 1) := by decide +kernel
theorem d_C_rowsBefore_7 : decode b_C_rowsBefore 7 = .ok (.istore 4, 2) := by decide +kernel
theorem d_C_rowsBefore_9 : decode b_C_rowsBefore 9 = .ok (.iconst 0, 1) := by decide +kernel
theorem d_C_rowsBefore_10 : decode b_C_rowsBefore 10 = .ok (.istore 5, 2) := by decide +kernel
theorem d_C_rowsBefore_12 : decode b_C_rowsBefore 12 = .ok (.iload 5, 2) := by decide +kernel
theorem d_C_rowsBefore_14 : decode b_C_rowsBefore 14 = .ok (.aload_n 0, 1) := by decide +kernel
theorem d_C_rowsBefore_15 : decode b_C_rowsBefore 15 = .ok (.getfield 43, 3) := by decide +kernel
theorem d_C_rowsBefore_18 : decode b_C_rowsBefore 18 = .ok (.invokevirtual 220, 3) := by decide +kernel
theorem d_C_rowsBefore_21 : decode b_C_rowsBefore 21 = .ok (.if_icmp .ge 35, 3) := by decide +kernel
theorem d_C_rowsBefore_24 : decode b_C_rowsBefore 24 = .ok (.aload_n 0, 1) := by decide +kernel
theorem d_C_rowsBefore_25 : decode b_C_rowsBefore 25 = .ok (.iload 5, 2) := by decide +kernel
theorem d_C_rowsBefore_27 : decode b_C_rowsBefore 27 = .ok (.invokevirtual 341, 3) := by decide +kernel
theorem d_C_rowsBefore_30 : decode b_C_rowsBefore 30 = .ok (.aload_n 3, 1) := by decide +kernel
theorem d_C_rowsBefore_31 : decode b_C_rowsBefore 31 = .ok (.invokevirtual 344, 3) := by decide +kernel
theorem d_C_rowsBefore_34 : decode b_C_rowsBefore 34 = .ok (.ifCond .ge 16, 3) := by decide +kernel
theorem d_C_rowsBefore_37 : decode b_C_rowsBefore 37 = .ok (.aload_n 0, 1) := by decide +kernel
theorem d_C_rowsBefore_38 : decode b_C_rowsBefore 38 = .ok (.iload 5, 2) := by decide +kernel
theorem d_C_rowsBefore_40 : decode b_C_rowsBefore 40 = .ok (.iload_n 2, 1) := by decide +kernel
theorem d_C_rowsBefore_41 : decode b_C_rowsBefore 41 = .ok (.invokevirtual 223, 3) := by decide +kernel
theorem d_C_rowsBefore_44 : decode b_C_rowsBefore 44 = .ok (.ifCond .eq 6, 3) := by decide +kernel
theorem d_C_rowsBefore_47 : decode b_C_rowsBefore 47 = .ok (.iinc 4 1, 3) := by decide +kernel
theorem d_C_rowsBefore_50 : decode b_C_rowsBefore 50 = .ok (.iinc 5 1, 3) := by decide +kernel
theorem d_C_rowsBefore_53 : decode b_C_rowsBefore 53 = .ok (.goto (-41), 3) := by decide +kernel
theorem d_C_rowsBefore_56 : decode b_C_rowsBefore 56 = .ok (.iload 4, 2) := by decide +kernel
theorem d_C_rowsBefore_58 : decode b_C_rowsBefore 58 = .ok (.ireturn, 1) := by decide +kernel
theorem d_C_markTermSpaces_0 : decode b_C_markTermSpaces 0 = .ok (.iconst 0, 1) := by decide +kernel
theorem d_C_markTermSpaces_1 : decode b_C_markTermSpaces 1 = .ok (.istore_n 1, 1) := by decide +kernel
theorem d_C_markTermSpaces_2 : decode b_C_markTermSpaces 2 = .ok (.iload_n 1, 1) := by decide +kernel
theorem d_C_markTermSpaces_3 : decode b_C_markTermSpaces 3 = .ok (.aload_n 0, 1) := by decide +kernel
theorem d_C_markTermSpaces_4 : decode b_C_markTermSpaces 4 = .ok (.getfield 72, 3) := by decide +kernel
theorem d_C_markTermSpaces_7 : decode b_C_markTermSpaces 7 = .ok (.arraylength, 1) := by decide +kernel
theorem d_C_markTermSpaces_8 : decode b_C_markTermSpaces 8 = .ok (.if_icmp .ge 16, 3) := by decide +kernel
theorem d_C_markTermSpaces_11 : decode b_C_markTermSpaces 11 = .ok (.aload_n 0, 1) := by decide +kernel
theorem d_C_markTermSpaces_12 : decode b_C_markTermSpaces 12 = .ok (.getfield 72, 3) := by decide +kernel
theorem d_C_markTermSpaces_15 : decode b_C_markTermSpaces 15 = .ok (.iload_n 1, 1) := by decide +kernel
theorem d_C_markTermSpaces_16 : decode b_C_markTermSpaces 16 = .ok (.iconst 0, 1) := by decide +kernel
theorem d_C_markTermSpaces_17 : decode b_C_markTermSpaces 17 = .ok (.bastore, 1) := by decide +kernel
theorem d_C_markTermSpaces_18 : decode b_C_markTermSpaces 18 = .ok (.iinc 1 1, 3) := by decide +kernel
theorem d_C_markTermSpaces_21 : decode b_C_markTermSpaces 21 = .ok (.goto (-19), 3) := by decide +kernel
theorem d_C_markTermSpaces_24 : decode b_C_markTermSpaces 24 = .ok (.iconst 0, 1) := by decide +kernel
theorem d_C_markTermSpaces_25 : decode b_C_markTermSpaces 25 = .ok (.istore_n 1, 1) := by decide +kernel
theorem d_C_markTermSpaces_26 : decode b_C_markTermSpaces 26 = .ok (.iload_n 1, 1) := by decide +kernel
theorem d_C_markTermSpaces_27 : decode b_C_markTermSpaces 27 = .ok (.aload_n 0, 1) := by decide +kernel
theorem d_C_markTermSpaces_28 : decode b_C_markTermSpaces 28 = .ok (.getfield 43, 3) := by decide +kernel
theorem d_C_markTermSpaces_31 : decode b_C_markTermSpaces 31 = .ok (.invokevirtual 220, 3) := by decide +kernel
theorem d_C_markTermSpaces_34 : decode b_C_markTermSpaces 34 = .ok (.if_icmp .ge 27, 3) := by decide +kernel
theorem d_C_markTermSpaces_37 : decode b_C_markTermSpaces 37 = .ok (.aload_n 0, 1) := by decide +kernel
theorem d_C_markTermSpaces_38 : decode b_C_markTermSpaces 38 = .ok (.iload_n 1, 1) := by decide +kernel
theorem d_C_markTermSpaces_39 : decode b_C_markTermSpaces 39 = .ok (.invokevirtual 338, 3) := by decide +kernel
theorem d_C_markTermSpaces_42 : decode b_C_markTermSpaces 42 = .ok (.istore_n 2, 1) := by decide +kernel
theorem d_C_markTermSpaces_43 : decode b_C_markTermSpaces 43 = .ok (.iload_n 2, 1) := by decide +kernel
theorem d_C_markTermSpaces_44 : decode b_C_markTermSpaces 44 = .ok (.iconst (-1), 1) := by decide +kernel
theorem d_C_markTermSpaces_45 : decode b_C_markTermSpaces 45 = .ok (.if_icmp .eq 10, 3) := by decide +kernel
theorem d_C_markTermSpaces_48 : decode b_C_markTermSpaces 48 = .ok (.aload_n 0, 1) := by decide +kernel
theorem d_C_markTermSpaces_49 : decode b_C_markTermSpaces 49 = .ok (.getfield 72, 3) := by decide +kernel
theorem d_C_markTermSpaces_52 : decode b_C_markTermSpaces 52 = .ok (.iload_n 2, 1) := by decide +kernel
theorem d_C_markTermSpaces_53 : decode b_C_markTermSpaces 53 = .ok (.iconst 1, 1) := by decide +kernel
theorem d_C_markTermSpaces_54 : decode b_C_markTermSpaces 54 = .ok (.bastore, 1) := by decide +kernel
theorem d_C_markTermSpaces_55 : decode b_C_markTermSpaces 55 = .ok (.iinc 1 1, 3) := by decide +kernel
theorem d_C_markTermSpaces_58 : decode b_C_markTermSpaces 58 = .ok (.goto (-32), 3) := by decide +kernel
theorem d_C_markTermSpaces_61 : decode b_C_markTermSpaces 61 = .ok (.return_, 1) := by decide +kernel
theorem d_C_isUnknown_0 : decode b_C_isUnknown 0 = .ok (.aload_n 0, 1) := by decide +kernel
theorem d_C_isUnknown_1 : decode b_C_isUnknown 1 = .ok (.getfield 68, 3) := by decide +kernel
theorem d_C_isUnknown_4 : decode b_C_isUnknown 4 = .ok (.iload_n 1, 1) := by decide +kernel
theorem d_C_isUnknown_5 : decode b_C_isUnknown 5 = .ok (.iaload, 1) := by decide +kernel
theorem d_C_isUnknown_6 : decode b_C_isUnknown 6 = .ok (.ifCond .le 15, 3) := by decide +kernel
theorem d_C_isUnknown_9 : decode b_C_isUnknown 9 = .ok (.aload_n 0, 1) := by decide +kernel
theorem d_C_isUnknown_10 : decode b_C_isUnknown 10 = .ok (.getfield 43, 3) := by decide +kernel
theorem d_C_isUnknown_13 : decode b_C_isUnknown 13 = .ok (.iload_n 1, 1) := by decide +kernel
theorem d_C_isUnknown_14 : decode b_C_isUnknown 14 = .ok (.invokevirtual 194, 3) := by decide +kernel
theorem d_C_isUnknown_17 : decode b_C_isUnknown 17 = .ok (.iconst (-1), 1) := by decide +kernel
theorem d_C_isUnknown_18 : decode b_C_isUnknown 18 = .ok (.if_icmp .eq 5, 3) := by decide +kernel
theorem d_C_isUnknown_21 : decode b_C_isUnknown 21 = .ok (.iconst 0, 1) := by decide +kernel
theorem d_C_isUnknown_22 : decode b_C_isUnknown 22 = .ok (.ireturn, 1) := by decide +kernel
theorem d_C_isUnknown_23 : decode b_C_isUnknown 23 = .ok (.aload_n 0, 1) := by decide +kernel
theorem d_C_isUnknown_24 : decode b_C_isUnknown 24 = .ok (.getfield 36, 3) := by decide +kernel
theorem d_C_isUnknown_27 : decode b_C_isUnknown 27 = .ok (.iload_n 1, 1) := by decide +kernel
theorem d_C_isUnknown_28 : decode b_C_isUnknown 28 = .ok (.invokevirtual 155, 3) := by decide +kernel
theorem d_C_isUnknown_31 : decode b_C_isUnknown 31 = .ok (.istore_n 2, 1) := by decide +kernel
theorem d_C_isUnknown_32 : decode b_C_isUnknown 32 = .ok (.iload_n 2, 1) := by decide +kernel
theorem d_C_isUnknown_33 : decode b_C_isUnknown 33 = .ok (.iconst (-1), 1) := by decide +kernel
theorem d_C_isUnknown_34 : decode b_C_isUnknown 34 = .ok (.if_icmp .eq 16, 3) := by decide +kernel
theorem d_C_isUnknown_37 : decode b_C_isUnknown 37 = .ok (.aload_n 0, 1) := by decide +kernel
theorem d_C_isUnknown_38 : decode b_C_isUnknown 38 = .ok (.getfield 72, 3) := by decide +kernel
theorem d_C_isUnknown_41 : decode b_C_isUnknown 41 = .ok (.iload_n 2, 1) := by decide +kernel
theorem d_C_isUnknown_42 : decode b_C_isUnknown 42 = .ok (.baload, 1) := by decide +kernel
theorem d_C_isUnknown_43 : decode b_C_isUnknown 43 = .ok (.ifCond .eq 7, 3) := by decide +kernel
theorem d_C_isUnknown_46 : decode b_C_isUnknown 46 = .ok (.iconst 1, 1) := by decide +kernel
theorem d_C_isUnknown_47 : decode b_C_isUnknown 47 = .ok (.goto 4, 3) := by decide +kernel
theorem d_C_isUnknown_50 : decode b_C_isUnknown 50 = .ok (.iconst 0, 1) := by decide +kernel
theorem d_C_isUnknown_51 : decode b_C_isUnknown 51 = .ok (.ireturn, 1) := by decide +kernel
theorem d_C_unknownNames_0 : decode b_C_unknownNames 0 = .ok (.aload_n 0, 1) := by decide +kernel
theorem d_C_unknownNames_1 : decode b_C_unknownNames 1 = .ok (.invokevirtual 230, 3) := by decide +kernel
theorem d_C_unknownNames_4 : decode b_C_unknownNames 4 = .ok (.iconst 0, 1) := by decide +kernel
theorem d_C_unknownNames_5 : decode b_C_unknownNames 5 = .ok (.istore_n 1, 1) := by decide +kernel
theorem d_C_unknownNames_6 : decode b_C_unknownNames 6 = .ok (.iconst 0, 1) := by decide +kernel
theorem d_C_unknownNames_7 : decode b_C_unknownNames 7 = .ok (.istore_n 2, 1) := by decide +kernel
theorem d_C_unknownNames_8 : decode b_C_unknownNames 8 = .ok (.iload_n 2, 1) := by decide +kernel
theorem d_C_unknownNames_9 : decode b_C_unknownNames 9 = .ok (.aload_n 0, 1) := by decide +kernel
theorem d_C_unknownNames_10 : decode b_C_unknownNames 10 = .ok (.getfield 27, 3) := by decide +kernel
theorem d_C_unknownNames_13 : decode b_C_unknownNames 13 = .ok (.invokevirtual 233, 3) := by decide +kernel
theorem d_C_unknownNames_16 : decode b_C_unknownNames 16 = .ok (.if_icmp .ge 20, 3) := by decide +kernel
theorem d_C_unknownNames_19 : decode b_C_unknownNames 19 = .ok (.aload_n 0, 1) := by decide +kernel
theorem d_C_unknownNames_20 : decode b_C_unknownNames 20 = .ok (.iload_n 2, 1) := by decide +kernel
theorem d_C_unknownNames_21 : decode b_C_unknownNames 21 = .ok (.invokevirtual 234, 3) := by decide +kernel
theorem d_C_unknownNames_24 : decode b_C_unknownNames 24 = .ok (.ifCond .eq 6, 3) := by decide +kernel
theorem d_C_unknownNames_27 : decode b_C_unknownNames 27 = .ok (.iinc 1 1, 3) := by decide +kernel
theorem d_C_unknownNames_30 : decode b_C_unknownNames 30 = .ok (.iinc 2 1, 3) := by decide +kernel
theorem d_C_unknownNames_33 : decode b_C_unknownNames 33 = .ok (.goto (-25), 3) := by decide +kernel
theorem d_C_unknownNames_36 : decode b_C_unknownNames 36 = .ok (.iload_n 1, 1) := by decide +kernel
theorem d_C_unknownNames_37 : decode b_C_unknownNames 37 = .ok (.ireturn, 1) := by decide +kernel
theorem d_C_measureTerms_0 : decode b_C_measureTerms 0 = .ok (.aload_n 0, 1) := by decide +kernel
theorem d_C_measureTerms_1 : decode b_C_measureTerms 1 = .ok (.getfield 27, 3) := by decide +kernel
theorem d_C_measureTerms_4 : decode b_C_measureTerms 4 = .ok (.iload_n 1, 1) := by decide +kernel
theorem d_C_measureTerms_5 : decode b_C_measureTerms 5 = .ok (.invokevirtual 134, 3) := by decide +kernel
theorem d_C_measureTerms_8 : decode b_C_measureTerms 8 = .ok (.astore_n 2, 1) := by decide +kernel
theorem d_C_measureTerms_9 : decode b_C_measureTerms 9 = .ok (.iconst 0, 1) := by decide +kernel
theorem d_C_measureTerms_10 : decode b_C_measureTerms 10 = .ok (.istore_n 3, 1) := by decide +kernel
theorem d_C_measureTerms_11 : decode b_C_measureTerms 11 = .ok (.iload_n 3, 1) := by decide +kernel
theorem d_C_measureTerms_12 : decode b_C_measureTerms 12 = .ok (.aload_n 0, 1) := by decide +kernel
theorem d_C_measureTerms_13 : decode b_C_measureTerms 13 = .ok (.getfield 43, 3) := by decide +kernel
theorem d_C_measureTerms_16 : decode b_C_measureTerms 16 = .ok (.invokevirtual 220, 3) := by decide +kernel
theorem d_C_measureTerms_19 : decode b_C_measureTerms 19 = .ok (.if_icmp .ge 28, 3) := by decide +kernel
theorem d_C_measureTerms_22 : decode b_C_measureTerms 22 = .ok (.aload_n 0, 1) := by decide +kernel
theorem d_C_measureTerms_23 : decode b_C_measureTerms 23 = .ok (.getfield 76, 3) := by decide +kernel
theorem d_C_measureTerms_26 : decode b_C_measureTerms 26 = .ok (.iload_n 3, 1) := by decide +kernel
theorem d_C_measureTerms_27 : decode b_C_measureTerms 27 = .ok (.aload_n 0, 1) := by decide +kernel
theorem d_C_measureTerms_28 : decode b_C_measureTerms 28 = .ok (.getfield 64, 3) := by decide +kernel
theorem d_C_measureTerms_31 : decode b_C_measureTerms 31 = .ok (.aload_n 2, 1) := by decide +kernel
theorem d_C_measureTerms_32 : decode b_C_measureTerms 32 = .ok (.aload_n 0, 1) := by decide +kernel
theorem d_C_measureTerms_33 : decode b_C_measureTerms 33 = .ok (.iload_n 3, 1) := by decide +kernel
theorem d_C_measureTerms_34 : decode b_C_measureTerms 34 = .ok (.invokevirtual 341, 3) := by decide +kernel
theorem d_C_measureTerms_37 : decode b_C_measureTerms 37 = .ok (.invokevirtual 237, 3) := by decide +kernel
theorem d_C_measureTerms_40 : decode b_C_measureTerms 40 = .ok (.iastore, 1) := by decide +kernel
theorem d_C_measureTerms_41 : decode b_C_measureTerms 41 = .ok (.iinc 3 1, 3) := by decide +kernel
theorem d_C_measureTerms_44 : decode b_C_measureTerms 44 = .ok (.goto (-33), 3) := by decide +kernel
theorem d_C_measureTerms_47 : decode b_C_measureTerms 47 = .ok (.return_, 1) := by decide +kernel
theorem d_C_rowsNearer_0 : decode b_C_rowsNearer 0 = .ok (.iconst 0, 1) := by decide +kernel
theorem d_C_rowsNearer_1 : decode b_C_rowsNearer 1 = .ok (.istore_n 2, 1) := by decide +kernel
theorem d_C_rowsNearer_2 : decode b_C_rowsNearer 2 = .ok (.iconst 0, 1) := by decide +kernel
theorem d_C_rowsNearer_3 : decode b_C_rowsNearer 3 = .ok (.istore_n 3, 1) := by decide +kernel
theorem d_C_rowsNearer_4 : decode b_C_rowsNearer 4 = .ok (.iload_n 3, 1) := by decide +kernel
theorem d_C_rowsNearer_5 : decode b_C_rowsNearer 5 = .ok (.aload_n 0, 1) := by decide +kernel
theorem d_C_rowsNearer_6 : decode b_C_rowsNearer 6 = .ok (.getfield 43, 3) := by decide +kernel
theorem d_C_rowsNearer_9 : decode b_C_rowsNearer 9 = .ok (.invokevirtual 220, 3) := by decide +kernel
theorem d_C_rowsNearer_12 : decode b_C_rowsNearer 12 = .ok (.if_icmp .ge 59, 3) := by decide +kernel
theorem d_C_rowsNearer_15 : decode b_C_rowsNearer 15 = .ok (.aload_n 0, 1) := by decide +kernel
theorem d_C_rowsNearer_16 : decode b_C_rowsNearer 16 = .ok (.getfield 76, 3) := by decide +kernel
theorem d_C_rowsNearer_19 : decode b_C_rowsNearer 19 = .ok (.iload_n 3, 1) := by decide +kernel
theorem d_C_rowsNearer_20 : decode b_C_rowsNearer 20 = .ok (.iaload, 1) := by decide +kernel
theorem d_C_rowsNearer_21 : decode b_C_rowsNearer 21 = .ok (.aload_n 0, 1) := by decide +kernel
theorem d_C_rowsNearer_22 : decode b_C_rowsNearer 22 = .ok (.getfield 76, 3) := by decide +kernel
theorem d_C_rowsNearer_25 : decode b_C_rowsNearer 25 = .ok (.iload_n 1, 1) := by decide +kernel
theorem d_C_rowsNearer_26 : decode b_C_rowsNearer 26 = .ok (.iaload, 1) := by decide +kernel
theorem d_C_rowsNearer_27 : decode b_C_rowsNearer 27 = .ok (.if_icmp .ne 12, 3) := by decide +kernel
theorem d_C_rowsNearer_30 : decode b_C_rowsNearer 30 = .ok (.iload_n 3, 1) := by decide +kernel
theorem d_C_rowsNearer_31 : decode b_C_rowsNearer 31 = .ok (.iload_n 1, 1) := by decide +kernel
theorem d_C_rowsNearer_32 : decode b_C_rowsNearer 32 = .ok (.if_icmp .ge 7, 3) := by decide +kernel
theorem d_C_rowsNearer_35 : decode b_C_rowsNearer 35 = .ok (.iconst 1, 1) := by decide +kernel
theorem d_C_rowsNearer_36 : decode b_C_rowsNearer 36 = .ok (.goto 4, 3) := by decide +kernel
theorem d_C_rowsNearer_39 : decode b_C_rowsNearer 39 = .ok (.iconst 0, 1) := by decide +kernel
theorem d_C_rowsNearer_40 : decode b_C_rowsNearer 40 = .ok (.istore 4, 2) := by decide +kernel
theorem d_C_rowsNearer_42 : decode b_C_rowsNearer 42 = .ok (.aload_n 0, 1) := by decide +kernel
theorem d_C_rowsNearer_43 : decode b_C_rowsNearer 43 = .ok (.getfield 76, 3) := by decide +kernel
theorem d_C_rowsNearer_46 : decode b_C_rowsNearer 46 = .ok (.iload_n 3, 1) := by decide +kernel
theorem d_C_rowsNearer_47 : decode b_C_rowsNearer 47 = .ok (.iaload, 1) := by decide +kernel
theorem d_C_rowsNearer_48 : decode b_C_rowsNearer 48 = .ok (.aload_n 0, 1) := by decide +kernel
theorem d_C_rowsNearer_49 : decode b_C_rowsNearer 49 = .ok (.getfield 76, 3) := by decide +kernel
theorem d_C_rowsNearer_52 : decode b_C_rowsNearer 52 = .ok (.iload_n 1, 1) := by decide +kernel
theorem d_C_rowsNearer_53 : decode b_C_rowsNearer 53 = .ok (.iaload, 1) := by decide +kernel
theorem d_C_rowsNearer_54 : decode b_C_rowsNearer 54 = .ok (.if_icmp .lt 8, 3) := by decide +kernel
theorem d_C_rowsNearer_57 : decode b_C_rowsNearer 57 = .ok (.iload 4, 2) := by decide +kernel
theorem d_C_rowsNearer_59 : decode b_C_rowsNearer 59 = .ok (.ifCond .eq 6, 3) := by decide +kernel
theorem d_C_rowsNearer_62 : decode b_C_rowsNearer 62 = .ok (.iinc 2 1, 3) := by decide +kernel
theorem d_C_rowsNearer_65 : decode b_C_rowsNearer 65 = .ok (.iinc 3 1, 3) := by decide +kernel
theorem d_C_rowsNearer_68 : decode b_C_rowsNearer 68 = .ok (.goto (-64), 3) := by decide +kernel
theorem d_C_rowsNearer_71 : decode b_C_rowsNearer 71 = .ok (.iload_n 2, 1) := by decide +kernel
theorem d_C_rowsNearer_72 : decode b_C_rowsNearer 72 = .ok (.ireturn, 1) := by decide +kernel
theorem d_C_renameClashes_0 : decode b_C_renameClashes 0 = .ok (.aload_n 0, 1) := by decide +kernel
theorem d_C_renameClashes_1 : decode b_C_renameClashes 1 = .ok (.getfield 43, 3) := by decide +kernel
theorem d_C_renameClashes_4 : decode b_C_renameClashes 4 = .ok (.iload_n 1, 1) := by decide +kernel
theorem d_C_renameClashes_5 : decode b_C_renameClashes 5 = .ok (.invokevirtual 194, 3) := by decide +kernel
theorem d_C_renameClashes_8 : decode b_C_renameClashes 8 = .ok (.istore_n 3, 1) := by decide +kernel
theorem d_C_renameClashes_9 : decode b_C_renameClashes 9 = .ok (.aload_n 0, 1) := by decide +kernel
theorem d_C_renameClashes_10 : decode b_C_renameClashes 10 = .ok (.getfield 43, 3) := by decide +kernel
theorem d_C_renameClashes_13 : decode b_C_renameClashes 13 = .ok (.iload_n 2, 1) := by decide +kernel
theorem d_C_renameClashes_14 : decode b_C_renameClashes 14 = .ok (.invokevirtual 194, 3) := by decide +kernel
theorem d_C_renameClashes_17 : decode b_C_renameClashes 17 = .ok (.istore 4, 2) := by decide +kernel
theorem d_C_renameClashes_19 : decode b_C_renameClashes 19 = .ok (.iload_n 3, 1) := by decide +kernel
theorem d_C_renameClashes_20 : decode b_C_renameClashes 20 = .ok (.iconst (-1), 1) := by decide +kernel
theorem d_C_renameClashes_21 : decode b_C_renameClashes 21 = .ok (.if_icmp .eq 19, 3) := by decide +kernel
theorem d_C_renameClashes_24 : decode b_C_renameClashes 24 = .ok (.iload 4, 2) := by decide +kernel
theorem d_C_renameClashes_26 : decode b_C_renameClashes 26 = .ok (.iconst (-1), 1) := by decide +kernel
theorem d_C_renameClashes_27 : decode b_C_renameClashes 27 = .ok (.if_icmp .eq 13, 3) := by decide +kernel
theorem d_C_renameClashes_30 : decode b_C_renameClashes 30 = .ok (.aload_n 0, 1) := by decide +kernel
theorem d_C_renameClashes_31 : decode b_C_renameClashes 31 = .ok (.iconst 4, 1) := by decide +kernel
theorem d_C_renameClashes_32 : decode b_C_renameClashes 32 = .ok (.iload_n 3, 1) := by decide +kernel
theorem d_C_renameClashes_33 : decode b_C_renameClashes 33 = .ok (.iload 4, 2) := by decide +kernel
theorem d_C_renameClashes_35 : decode b_C_renameClashes 35 = .ok (.invokevirtual 147, 3) := by decide +kernel
theorem d_C_renameClashes_38 : decode b_C_renameClashes 38 = .ok (.iconst 1, 1) := by decide +kernel
theorem d_C_renameClashes_39 : decode b_C_renameClashes 39 = .ok (.ireturn, 1) := by decide +kernel
theorem d_C_renameClashes_40 : decode b_C_renameClashes 40 = .ok (.aload_n 0, 1) := by decide +kernel
theorem d_C_renameClashes_41 : decode b_C_renameClashes 41 = .ok (.getfield 50, 3) := by decide +kernel
theorem d_C_renameClashes_44 : decode b_C_renameClashes 44 = .ok (.iload_n 1, 1) := by decide +kernel
theorem d_C_renameClashes_45 : decode b_C_renameClashes 45 = .ok (.invokevirtual 347, 3) := by decide +kernel
theorem d_C_renameClashes_48 : decode b_C_renameClashes 48 = .ok (.iconst (-1), 1) := by decide +kernel
theorem d_C_renameClashes_49 : decode b_C_renameClashes 49 = .ok (.if_icmp .eq 38, 3) := by decide +kernel
theorem d_C_renameClashes_52 : decode b_C_renameClashes 52 = .ok (.aload_n 0, 1) := by decide +kernel
theorem d_C_renameClashes_53 : decode b_C_renameClashes 53 = .ok (.getfield 50, 3) := by decide +kernel
theorem d_C_renameClashes_56 : decode b_C_renameClashes 56 = .ok (.iload_n 2, 1) := by decide +kernel
theorem d_C_renameClashes_57 : decode b_C_renameClashes 57 = .ok (.invokevirtual 347, 3) := by decide +kernel
theorem d_C_renameClashes_60 : decode b_C_renameClashes 60 = .ok (.iconst (-1), 1) := by decide +kernel
theorem d_C_renameClashes_61 : decode b_C_renameClashes 61 = .ok (.if_icmp .eq 26, 3) := by decide +kernel
theorem d_C_renameClashes_64 : decode b_C_renameClashes 64 = .ok (.aload_n 0, 1) := by decide +kernel
theorem d_C_renameClashes_65 : decode b_C_renameClashes 65 = .ok (.iconst 5, 1) := by decide +kernel
theorem d_C_renameClashes_66 : decode b_C_renameClashes 66 = .ok (.aload_n 0, 1) := by decide +kernel
theorem d_C_renameClashes_67 : decode b_C_renameClashes 67 = .ok (.getfield 50, 3) := by decide +kernel
theorem d_C_renameClashes_70 : decode b_C_renameClashes 70 = .ok (.iload_n 1, 1) := by decide +kernel
theorem d_C_renameClashes_71 : decode b_C_renameClashes 71 = .ok (.invokevirtual 347, 3) := by decide +kernel
theorem d_C_renameClashes_74 : decode b_C_renameClashes 74 = .ok (.aload_n 0, 1) := by decide +kernel
theorem d_C_renameClashes_75 : decode b_C_renameClashes 75 = .ok (.getfield 50, 3) := by decide +kernel
theorem d_C_renameClashes_78 : decode b_C_renameClashes 78 = .ok (.iload_n 2, 1) := by decide +kernel
theorem d_C_renameClashes_79 : decode b_C_renameClashes 79 = .ok (.invokevirtual 347, 3) := by decide +kernel
theorem d_C_renameClashes_82 : decode b_C_renameClashes 82 = .ok (.invokevirtual 147, 3) := by decide +kernel
theorem d_C_renameClashes_85 : decode b_C_renameClashes 85 = .ok (.iconst 1, 1) := by decide +kernel
theorem d_C_renameClashes_86 : decode b_C_renameClashes 86 = .ok (.ireturn, 1) := by decide +kernel
theorem d_C_renameClashes_87 : decode b_C_renameClashes 87 = .ok (.aload_n 0, 1) := by decide +kernel
theorem d_C_renameClashes_88 : decode b_C_renameClashes 88 = .ok (.getfield 50, 3) := by decide +kernel
theorem d_C_renameClashes_91 : decode b_C_renameClashes 91 = .ok (.iload_n 1, 1) := by decide +kernel
theorem d_C_renameClashes_92 : decode b_C_renameClashes 92 = .ok (.iload_n 2, 1) := by decide +kernel
theorem d_C_renameClashes_93 : decode b_C_renameClashes 93 = .ok (.invokevirtual 247, 3) := by decide +kernel
theorem d_C_renameClashes_96 : decode b_C_renameClashes 96 = .ok (.ifCond .ne 15, 3) := by decide +kernel
theorem d_C_renameClashes_99 : decode b_C_renameClashes 99 = .ok (.aload_n 0, 1) := by decide +kernel
theorem d_C_renameClashes_100 : decode b_C_renameClashes 100 = .ok (.getfield 50, 3) := by decide +kernel
theorem d_C_renameClashes_103 : decode b_C_renameClashes 103 = .ok (.iload_n 2, 1) := by decide +kernel
theorem d_C_renameClashes_104 : decode b_C_renameClashes 104 = .ok (.iload_n 1, 1) := by decide +kernel
theorem d_C_renameClashes_105 : decode b_C_renameClashes 105 = .ok (.invokevirtual 247, 3) := by decide +kernel
theorem d_C_renameClashes_108 : decode b_C_renameClashes 108 = .ok (.ifCond .eq 12, 3) := by decide +kernel
theorem d_C_renameClashes_111 : decode b_C_renameClashes 111 = .ok (.aload_n 0, 1) := by decide +kernel
theorem d_C_renameClashes_112 : decode b_C_renameClashes 112 = .ok (.iconst 3, 1) := by decide +kernel
theorem d_C_renameClashes_113 : decode b_C_renameClashes 113 = .ok (.iload_n 1, 1) := by decide +kernel
theorem d_C_renameClashes_114 : decode b_C_renameClashes 114 = .ok (.iload_n 2, 1) := by decide +kernel
theorem d_C_renameClashes_115 : decode b_C_renameClashes 115 = .ok (.invokevirtual 147, 3) := by decide +kernel
theorem d_C_renameClashes_118 : decode b_C_renameClashes 118 = .ok (.iconst 1, 1) := by decide +kernel
theorem d_C_renameClashes_119 : decode b_C_renameClashes 119 = .ok (.ireturn, 1) := by decide +kernel
theorem d_C_renameClashes_120 : decode b_C_renameClashes 120 = .ok (.iconst 0, 1) := by decide +kernel
theorem d_C_renameClashes_121 : decode b_C_renameClashes 121 = .ok (.ireturn, 1) := by decide +kernel
theorem d_C_moveUses_0 : decode b_C_moveUses 0 = .ok (.aload_n 0, 1) := by decide +kernel
theorem d_C_moveUses_1 : decode b_C_moveUses 1 = .ok (.getfield 68, 3) := by decide +kernel
theorem d_C_moveUses_4 : decode b_C_moveUses 4 = .ok (.iload_n 1, 1) := by decide +kernel
theorem d_C_moveUses_5 : decode b_C_moveUses 5 = .ok (.iaload, 1) := by decide +kernel
theorem d_C_moveUses_6 : decode b_C_moveUses 6 = .ok (.ifCond .ne 5, 3) := by decide +kernel
theorem d_C_moveUses_9 : decode b_C_moveUses 9 = .ok (.iconst 0, 1) := by decide +kernel
theorem d_C_moveUses_10 : decode b_C_moveUses 10 = .ok (.ireturn, 1) := by decide +kernel
theorem d_C_moveUses_11 : decode b_C_moveUses 11 = .ok (.aload_n 0, 1) := by decide +kernel
theorem d_C_moveUses_12 : decode b_C_moveUses 12 = .ok (.getfield 68, 3) := by decide +kernel
theorem d_C_moveUses_15 : decode b_C_moveUses 15 = .ok (.iload_n 2, 1) := by decide +kernel
theorem d_C_moveUses_16 : decode b_C_moveUses 16 = .ok (.dup2, 1) := by decide +kernel
theorem d_C_moveUses_17 : decode b_C_moveUses 17 = .ok (.iaload, 1) := by decide +kernel
theorem d_C_moveUses_18 : decode b_C_moveUses 18 = .ok (.aload_n 0, 1) := by decide +kernel
theorem d_C_moveUses_19 : decode b_C_moveUses 19 = .ok (.getfield 68, 3) := by decide +kernel
theorem d_C_moveUses_22 : decode b_C_moveUses 22 = .ok (.iload_n 1, 1) := by decide +kernel
theorem d_C_moveUses_23 : decode b_C_moveUses 23 = .ok (.iaload, 1) := by decide +kernel
theorem d_C_moveUses_24 : decode b_C_moveUses 24 = .ok (.iadd, 1) := by decide +kernel
theorem d_C_moveUses_25 : decode b_C_moveUses 25 = .ok (.iastore, 1) := by decide +kernel
theorem d_C_moveUses_26 : decode b_C_moveUses 26 = .ok (.aload_n 0, 1) := by decide +kernel
theorem d_C_moveUses_27 : decode b_C_moveUses 27 = .ok (.getfield 68, 3) := by decide +kernel
theorem d_C_moveUses_30 : decode b_C_moveUses 30 = .ok (.iload_n 1, 1) := by decide +kernel
theorem d_C_moveUses_31 : decode b_C_moveUses 31 = .ok (.iconst 0, 1) := by decide +kernel
theorem d_C_moveUses_32 : decode b_C_moveUses 32 = .ok (.iastore, 1) := by decide +kernel
theorem d_C_moveUses_33 : decode b_C_moveUses 33 = .ok (.iconst 1, 1) := by decide +kernel
theorem d_C_moveUses_34 : decode b_C_moveUses 34 = .ok (.ireturn, 1) := by decide +kernel
