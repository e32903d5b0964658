theorem dX10_less_0 : decode cX10_less 0 = .ok (.iload_n 0, 1) := by decide +kernel
theorem dX10_less_1 : decode cX10_less 1 = .ok (.iload_n 1, 1) := by decide +kernel
theorem dX10_less_2 : decode cX10_less 2 = .ok (.if_icmp .ge 7, 3) := by decide +kernel
theorem dX10_less_5 : decode cX10_less 5 = .ok (.iload_n 0, 1) := by decide +kernel
theorem dX10_less_6 : decode cX10_less 6 = .ok (.goto 4, 3) := by decide +kernel
theorem dX10_less_9 : decode cX10_less 9 = .ok (.iload_n 1, 1) := by decide +kernel
theorem dX10_less_10 : decode cX10_less 10 = .ok (.ireturn, 1) := by decide +kernel
theorem dX10_bits_0 : decode cX10_bits 0 = .ok (.iconst 0, 1) := by decide +kernel
theorem dX10_bits_1 : decode cX10_bits 1 = .ok (.istore_n 1, 1) := by decide +kernel
theorem dX10_bits_2 : decode cX10_bits 2 = .ok (.iload_n 0, 1) := by decide +kernel
theorem dX10_bits_3 : decode cX10_bits 3 = .ok (.istore_n 2, 1) := by decide +kernel
theorem dX10_bits_4 : decode cX10_bits 4 = .ok (.iload_n 2, 1) := by decide +kernel
theorem dX10_bits_5 : decode cX10_bits 5 = .ok (.ifCond .eq 15, 3) := by decide +kernel
theorem dX10_bits_8 : decode cX10_bits 8 = .ok (.iinc 1 1, 3) := by decide +kernel
theorem dX10_bits_11 : decode cX10_bits 11 = .ok (.iload_n 2, 1) := by decide +kernel
theorem dX10_bits_12 : decode cX10_bits 12 = .ok (.iload_n 2, 1) := by decide +kernel
theorem dX10_bits_13 : decode cX10_bits 13 = .ok (.iconst 1, 1) := by decide +kernel
theorem dX10_bits_14 : decode cX10_bits 14 = .ok (.isub, 1) := by decide +kernel
theorem dX10_bits_15 : decode cX10_bits 15 = .ok (.iand, 1) := by decide +kernel
theorem dX10_bits_16 : decode cX10_bits 16 = .ok (.istore_n 2, 1) := by decide +kernel
theorem dX10_bits_17 : decode cX10_bits 17 = .ok (.goto (-13), 3) := by decide +kernel
theorem dX10_bits_20 : decode cX10_bits 20 = .ok (.iload_n 1, 1) := by decide +kernel
theorem dX10_bits_21 : decode cX10_bits 21 = .ok (.ireturn, 1) := by decide +kernel
theorem dX10_copies_0 : decode cX10_copies 0 = .ok (.iconst 0, 1) := by decide +kernel
theorem dX10_copies_1 : decode cX10_copies 1 = .ok (.istore 4, 2) := by decide +kernel
theorem dX10_copies_3 : decode cX10_copies 3 = .ok (.iload 4, 2) := by decide +kernel
theorem dX10_copies_5 : decode cX10_copies 5 = .ok (.bipush 59, 2) := by decide +kernel
theorem dX10_copies_7 : decode cX10_copies 7 = .ok (.if_icmp .ge 21, 3) := by decide +kernel
theorem dX10_copies_10 : decode cX10_copies 10 = .ok (.aload_n 2, 1) := by decide +kernel
theorem dX10_copies_11 : decode cX10_copies 11 = .ok (.iload_n 3, 1) := by decide +kernel
theorem dX10_copies_12 : decode cX10_copies 12 = .ok (.iload 4, 2) := by decide +kernel
theorem dX10_copies_14 : decode cX10_copies 14 = .ok (.iadd, 1) := by decide +kernel
theorem dX10_copies_15 : decode cX10_copies 15 = .ok (.aload_n 0, 1) := by decide +kernel
theorem dX10_copies_16 : decode cX10_copies 16 = .ok (.iload_n 1, 1) := by decide +kernel
theorem dX10_copies_17 : decode cX10_copies 17 = .ok (.iload 4, 2) := by decide +kernel
theorem dX10_copies_19 : decode cX10_copies 19 = .ok (.iadd, 1) := by decide +kernel
theorem dX10_copies_20 : decode cX10_copies 20 = .ok (.iaload, 1) := by decide +kernel
theorem dX10_copies_21 : decode cX10_copies 21 = .ok (.iastore, 1) := by decide +kernel
theorem dX10_copies_22 : decode cX10_copies 22 = .ok (.iinc 4 1, 3) := by decide +kernel
theorem dX10_copies_25 : decode cX10_copies 25 = .ok (.goto (-22), 3) := by decide +kernel
theorem dX10_copies_28 : decode cX10_copies 28 = .ok (.return_, 1) := by decide +kernel
theorem dX10_found_0 : decode cX10_found 0 = .ok (.aload_n 0, 1) := by decide +kernel
theorem dX10_found_1 : decode cX10_found 1 = .ok (.iload_n 1, 1) := by decide +kernel
theorem dX10_found_2 : decode cX10_found 2 = .ok (.putfield 57, 3) := by decide +kernel
theorem dX10_found_5 : decode cX10_found 5 = .ok (.ldc 61, 2) := by decide +kernel
theorem dX10_found_7 : decode cX10_found 7 = .ok (.iload_n 1, 1) := by decide +kernel
theorem dX10_found_8 : decode cX10_found 8 = .ok (.isub, 1) := by decide +kernel
theorem dX10_found_9 : decode cX10_found 9 = .ok (.ireturn, 1) := by decide +kernel
theorem dX10_well_0 : decode cX10_well 0 = .ok (.aload_n 0, 1) := by decide +kernel
theorem dX10_well_1 : decode cX10_well 1 = .ok (.iconst 0, 1) := by decide +kernel
theorem dX10_well_2 : decode cX10_well 2 = .ok (.putfield 57, 3) := by decide +kernel
theorem dX10_well_5 : decode cX10_well 5 = .ok (.iload_n 1, 1) := by decide +kernel
theorem dX10_well_6 : decode cX10_well 6 = .ok (.ireturn, 1) := by decide +kernel
theorem dX10_isRow_0 : decode cX10_isRow 0 = .ok (.iload_n 0, 1) := by decide +kernel
theorem dX10_isRow_1 : decode cX10_isRow 1 = .ok (.i2l, 1) := by decide +kernel
theorem dX10_isRow_2 : decode cX10_isRow 2 = .ok (.lconst 0, 1) := by decide +kernel
theorem dX10_isRow_3 : decode cX10_isRow 3 = .ok (.ldc2_w 62, 3) := by decide +kernel
theorem dX10_isRow_6 : decode cX10_isRow 6 = .ok (.invokestatic 53, 3) := by decide +kernel
theorem dX10_isRow_9 : decode cX10_isRow 9 = .ok (.ireturn, 1) := by decide +kernel
theorem dX10_row_0 : decode cX10_row 0 = .ok (.iload_n 1, 1) := by decide +kernel
theorem dX10_row_1 : decode cX10_row 1 = .ok (.invokestatic 64, 3) := by decide +kernel
theorem dX10_row_4 : decode cX10_row 4 = .ok (.ifCond .eq 21, 3) := by decide +kernel
theorem dX10_row_7 : decode cX10_row 7 = .ok (.iload_n 2, 1) := by decide +kernel
theorem dX10_row_8 : decode cX10_row 8 = .ok (.i2l, 1) := by decide +kernel
theorem dX10_row_9 : decode cX10_row 9 = .ok (.lconst 0, 1) := by decide +kernel
theorem dX10_row_10 : decode cX10_row 10 = .ok (.ldc2_w 68, 3) := by decide +kernel
theorem dX10_row_13 : decode cX10_row 13 = .ok (.invokestatic 53, 3) := by decide +kernel
theorem dX10_row_16 : decode cX10_row 16 = .ok (.ifCond .eq 9, 3) := by decide +kernel
theorem dX10_row_19 : decode cX10_row 19 = .ok (.iload_n 3, 1) := by decide +kernel
theorem dX10_row_20 : decode cX10_row 20 = .ok (.bipush 40, 2) := by decide +kernel
theorem dX10_row_22 : decode cX10_row 22 = .ok (.if_icmp .le 6, 3) := by decide +kernel
theorem dX10_row_25 : decode cX10_row 25 = .ok (.ldc 70, 2) := by decide +kernel
theorem dX10_row_27 : decode cX10_row 27 = .ok (.ireturn, 1) := by decide +kernel
theorem dX10_row_28 : decode cX10_row 28 = .ok (.iload_n 3, 1) := by decide +kernel
theorem dX10_row_29 : decode cX10_row 29 = .ok (.ifCond .ge 9, 3) := by decide +kernel
theorem dX10_row_32 : decode cX10_row 32 = .ok (.aload_n 0, 1) := by decide +kernel
theorem dX10_row_33 : decode cX10_row 33 = .ok (.iconst 4, 1) := by decide +kernel
theorem dX10_row_34 : decode cX10_row 34 = .ok (.invokevirtual 71, 3) := by decide +kernel
theorem dX10_row_37 : decode cX10_row 37 = .ok (.ireturn, 1) := by decide +kernel
theorem dX10_row_38 : decode cX10_row 38 = .ok (.aload_n 0, 1) := by decide +kernel
theorem dX10_row_39 : decode cX10_row 39 = .ok (.getfield 7, 3) := by decide +kernel
theorem dX10_row_42 : decode cX10_row 42 = .ok (.iload_n 1, 1) := by decide +kernel
theorem dX10_row_43 : decode cX10_row 43 = .ok (.iload_n 2, 1) := by decide +kernel
theorem dX10_row_44 : decode cX10_row 44 = .ok (.iastore, 1) := by decide +kernel
theorem dX10_row_45 : decode cX10_row 45 = .ok (.aload_n 0, 1) := by decide +kernel
theorem dX10_row_46 : decode cX10_row 46 = .ok (.getfield 13, 3) := by decide +kernel
theorem dX10_row_49 : decode cX10_row 49 = .ok (.iload_n 1, 1) := by decide +kernel
theorem dX10_row_50 : decode cX10_row 50 = .ok (.iload_n 3, 1) := by decide +kernel
theorem dX10_row_51 : decode cX10_row 51 = .ok (.iastore, 1) := by decide +kernel
theorem dX10_row_52 : decode cX10_row 52 = .ok (.iconst 0, 1) := by decide +kernel
theorem dX10_row_53 : decode cX10_row 53 = .ok (.istore 4, 2) := by decide +kernel
theorem dX10_row_55 : decode cX10_row 55 = .ok (.iload 4, 2) := by decide +kernel
theorem dX10_row_57 : decode cX10_row 57 = .ok (.bipush 40, 2) := by decide +kernel
theorem dX10_row_59 : decode cX10_row 59 = .ok (.if_icmp .ge 22, 3) := by decide +kernel
theorem dX10_row_62 : decode cX10_row 62 = .ok (.aload_n 0, 1) := by decide +kernel
theorem dX10_row_63 : decode cX10_row 63 = .ok (.getfield 16, 3) := by decide +kernel
theorem dX10_row_66 : decode cX10_row 66 = .ok (.bipush 40, 2) := by decide +kernel
theorem dX10_row_68 : decode cX10_row 68 = .ok (.iload_n 1, 1) := by decide +kernel
theorem dX10_row_69 : decode cX10_row 69 = .ok (.imul, 1) := by decide +kernel
theorem dX10_row_70 : decode cX10_row 70 = .ok (.iload 4, 2) := by decide +kernel
theorem dX10_row_72 : decode cX10_row 72 = .ok (.iadd, 1) := by decide +kernel
theorem dX10_row_73 : decode cX10_row 73 = .ok (.iconst 0, 1) := by decide +kernel
theorem dX10_row_74 : decode cX10_row 74 = .ok (.iastore, 1) := by decide +kernel
theorem dX10_row_75 : decode cX10_row 75 = .ok (.iinc 4 1, 3) := by decide +kernel
theorem dX10_row_78 : decode cX10_row 78 = .ok (.goto (-23), 3) := by decide +kernel
theorem dX10_row_81 : decode cX10_row 81 = .ok (.aload_n 0, 1) := by decide +kernel
theorem dX10_row_82 : decode cX10_row 82 = .ok (.iload_n 3, 1) := by decide +kernel
theorem dX10_row_83 : decode cX10_row 83 = .ok (.invokevirtual 75, 3) := by decide +kernel
theorem dX10_row_86 : decode cX10_row 86 = .ok (.ireturn, 1) := by decide +kernel
theorem dX10_set_0 : decode cX10_set 0 = .ok (.iload_n 1, 1) := by decide +kernel
theorem dX10_set_1 : decode cX10_set 1 = .ok (.invokestatic 64, 3) := by decide +kernel
theorem dX10_set_4 : decode cX10_set 4 = .ok (.ifCond .ne 6, 3) := by decide +kernel
theorem dX10_set_7 : decode cX10_set 7 = .ok (.ldc 70, 2) := by decide +kernel
theorem dX10_set_9 : decode cX10_set 9 = .ok (.ireturn, 1) := by decide +kernel
theorem dX10_set_10 : decode cX10_set 10 = .ok (.aload_n 0, 1) := by decide +kernel
theorem dX10_set_11 : decode cX10_set 11 = .ok (.getfield 13, 3) := by decide +kernel
theorem dX10_set_14 : decode cX10_set 14 = .ok (.iload_n 1, 1) := by decide +kernel
theorem dX10_set_15 : decode cX10_set 15 = .ok (.iaload, 1) := by decide +kernel
theorem dX10_set_16 : decode cX10_set 16 = .ok (.ifCond .ge 9, 3) := by decide +kernel
theorem dX10_set_19 : decode cX10_set 19 = .ok (.aload_n 0, 1) := by decide +kernel
theorem dX10_set_20 : decode cX10_set 20 = .ok (.iconst 1, 1) := by decide +kernel
theorem dX10_set_21 : decode cX10_set 21 = .ok (.invokevirtual 71, 3) := by decide +kernel
theorem dX10_set_24 : decode cX10_set 24 = .ok (.ireturn, 1) := by decide +kernel
theorem dX10_set_25 : decode cX10_set 25 = .ok (.iload_n 2, 1) := by decide +kernel
theorem dX10_set_26 : decode cX10_set 26 = .ok (.i2l, 1) := by decide +kernel
theorem dX10_set_27 : decode cX10_set 27 = .ok (.lconst 0, 1) := by decide +kernel
theorem dX10_set_28 : decode cX10_set 28 = .ok (.aload_n 0, 1) := by decide +kernel
theorem dX10_set_29 : decode cX10_set 29 = .ok (.getfield 13, 3) := by decide +kernel
theorem dX10_set_32 : decode cX10_set 32 = .ok (.iload_n 1, 1) := by decide +kernel
theorem dX10_set_33 : decode cX10_set 33 = .ok (.iaload, 1) := by decide +kernel
theorem dX10_set_34 : decode cX10_set 34 = .ok (.iconst 1, 1) := by decide +kernel
theorem dX10_set_35 : decode cX10_set 35 = .ok (.isub, 1) := by decide +kernel
theorem dX10_set_36 : decode cX10_set 36 = .ok (.i2l, 1) := by decide +kernel
theorem dX10_set_37 : decode cX10_set 37 = .ok (.invokestatic 53, 3) := by decide +kernel
theorem dX10_set_40 : decode cX10_set 40 = .ok (.ifCond .ne 9, 3) := by decide +kernel
theorem dX10_set_43 : decode cX10_set 43 = .ok (.aload_n 0, 1) := by decide +kernel
theorem dX10_set_44 : decode cX10_set 44 = .ok (.iconst 2, 1) := by decide +kernel
theorem dX10_set_45 : decode cX10_set 45 = .ok (.invokevirtual 71, 3) := by decide +kernel
theorem dX10_set_48 : decode cX10_set 48 = .ok (.ireturn, 1) := by decide +kernel
theorem dX10_set_49 : decode cX10_set 49 = .ok (.aload_n 0, 1) := by decide +kernel
theorem dX10_set_50 : decode cX10_set 50 = .ok (.getfield 16, 3) := by decide +kernel
theorem dX10_set_53 : decode cX10_set 53 = .ok (.bipush 40, 2) := by decide +kernel
theorem dX10_set_55 : decode cX10_set 55 = .ok (.iload_n 1, 1) := by decide +kernel
theorem dX10_set_56 : decode cX10_set 56 = .ok (.imul, 1) := by decide +kernel
theorem dX10_set_57 : decode cX10_set 57 = .ok (.iload_n 2, 1) := by decide +kernel
theorem dX10_set_58 : decode cX10_set 58 = .ok (.iadd, 1) := by decide +kernel
theorem dX10_set_59 : decode cX10_set 59 = .ok (.aload_n 0, 1) := by decide +kernel
theorem dX10_set_60 : decode cX10_set 60 = .ok (.getfield 7, 3) := by decide +kernel
theorem dX10_set_63 : decode cX10_set 63 = .ok (.iload_n 1, 1) := by decide +kernel
theorem dX10_set_64 : decode cX10_set 64 = .ok (.iaload, 1) := by decide +kernel
theorem dX10_set_65 : decode cX10_set 65 = .ok (.ifCond .ne 8, 3) := by decide +kernel
theorem dX10_set_68 : decode cX10_set 68 = .ok (.iload_n 3, 1) := by decide +kernel
theorem dX10_set_69 : decode cX10_set 69 = .ok (.i2b, 1) := by decide +kernel
theorem dX10_set_70 : decode cX10_set 70 = .ok (.goto 19, 3) := by decide +kernel
theorem dX10_set_73 : decode cX10_set 73 = .ok (.aload_n 0, 1) := by decide +kernel
theorem dX10_set_74 : decode cX10_set 74 = .ok (.getfield 7, 3) := by decide +kernel
theorem dX10_set_77 : decode cX10_set 77 = .ok (.iload_n 1, 1) := by decide +kernel
theorem dX10_set_78 : decode cX10_set 78 = .ok (.iaload, 1) := by decide +kernel
theorem dX10_set_79 : decode cX10_set 79 = .ok (.iconst 1, 1) := by decide +kernel
theorem dX10_set_80 : decode cX10_set 80 = .ok (.if_icmp .ne 8, 3) := by decide +kernel
theorem dX10_set_83 : decode cX10_set 83 = .ok (.iload_n 3, 1) := by decide +kernel
theorem dX10_set_84 : decode cX10_set 84 = .ok (.i2s, 1) := by decide +kernel
theorem dX10_set_85 : decode cX10_set 85 = .ok (.goto 4, 3) := by decide +kernel
theorem dX10_set_88 : decode cX10_set 88 = .ok (.iload_n 3, 1) := by decide +kernel
theorem dX10_set_89 : decode cX10_set 89 = .ok (.iastore, 1) := by decide +kernel
theorem dX10_set_90 : decode cX10_set 90 = .ok (.aload_n 0, 1) := by decide +kernel
theorem dX10_set_91 : decode cX10_set 91 = .ok (.aload_n 0, 1) := by decide +kernel
theorem dX10_set_92 : decode cX10_set 92 = .ok (.getfield 16, 3) := by decide +kernel
theorem dX10_set_95 : decode cX10_set 95 = .ok (.bipush 40, 2) := by decide +kernel
theorem dX10_set_97 : decode cX10_set 97 = .ok (.iload_n 1, 1) := by decide +kernel
theorem dX10_set_98 : decode cX10_set 98 = .ok (.imul, 1) := by decide +kernel
theorem dX10_set_99 : decode cX10_set 99 = .ok (.iload_n 2, 1) := by decide +kernel
theorem dX10_set_100 : decode cX10_set 100 = .ok (.iadd, 1) := by decide +kernel
theorem dX10_set_101 : decode cX10_set 101 = .ok (.iaload, 1) := by decide +kernel
theorem dX10_set_102 : decode cX10_set 102 = .ok (.invokevirtual 75, 3) := by decide +kernel
theorem dX10_set_105 : decode cX10_set 105 = .ok (.ireturn, 1) := by decide +kernel
theorem dX10_copy_0 : decode cX10_copy 0 = .ok (.iload_n 1, 1) := by decide +kernel
theorem dX10_copy_1 : decode cX10_copy 1 = .ok (.invokestatic 64, 3) := by decide +kernel
theorem dX10_copy_4 : decode cX10_copy 4 = .ok (.ifCond .eq 10, 3) := by decide +kernel
theorem dX10_copy_7 : decode cX10_copy 7 = .ok (.iload_n 3, 1) := by decide +kernel
theorem dX10_copy_8 : decode cX10_copy 8 = .ok (.invokestatic 64, 3) := by decide +kernel
theorem dX10_copy_11 : decode cX10_copy 11 = .ok (.ifCond .ne 6, 3) := by decide +kernel
theorem dX10_copy_14 : decode cX10_copy 14 = .ok (.ldc 70, 2) := by decide +kernel
theorem dX10_copy_16 : decode cX10_copy 16 = .ok (.ireturn, 1) := by decide +kernel
theorem dX10_copy_17 : decode cX10_copy 17 = .ok (.aload_n 0, 1) := by decide +kernel
theorem dX10_copy_18 : decode cX10_copy 18 = .ok (.getfield 13, 3) := by decide +kernel
theorem dX10_copy_21 : decode cX10_copy 21 = .ok (.iload_n 1, 1) := by decide +kernel
theorem dX10_copy_22 : decode cX10_copy 22 = .ok (.iaload, 1) := by decide +kernel
theorem dX10_copy_23 : decode cX10_copy 23 = .ok (.ifCond .lt 12, 3) := by decide +kernel
theorem dX10_copy_26 : decode cX10_copy 26 = .ok (.aload_n 0, 1) := by decide +kernel
theorem dX10_copy_27 : decode cX10_copy 27 = .ok (.getfield 13, 3) := by decide +kernel
theorem dX10_copy_30 : decode cX10_copy 30 = .ok (.iload_n 3, 1) := by decide +kernel
theorem dX10_copy_31 : decode cX10_copy 31 = .ok (.iaload, 1) := by decide +kernel
theorem dX10_copy_32 : decode cX10_copy 32 = .ok (.ifCond .ge 9, 3) := by decide +kernel
theorem dX10_copy_35 : decode cX10_copy 35 = .ok (.aload_n 0, 1) := by decide +kernel
theorem dX10_copy_36 : decode cX10_copy 36 = .ok (.iconst 1, 1) := by decide +kernel
theorem dX10_copy_37 : decode cX10_copy 37 = .ok (.invokevirtual 71, 3) := by decide +kernel
theorem dX10_copy_40 : decode cX10_copy 40 = .ok (.ireturn, 1) := by decide +kernel
theorem dX10_copy_41 : decode cX10_copy 41 = .ok (.aload_n 0, 1) := by decide +kernel
theorem dX10_copy_42 : decode cX10_copy 42 = .ok (.getfield 7, 3) := by decide +kernel
theorem dX10_copy_45 : decode cX10_copy 45 = .ok (.iload_n 1, 1) := by decide +kernel
theorem dX10_copy_46 : decode cX10_copy 46 = .ok (.iaload, 1) := by decide +kernel
theorem dX10_copy_47 : decode cX10_copy 47 = .ok (.aload_n 0, 1) := by decide +kernel
theorem dX10_copy_48 : decode cX10_copy 48 = .ok (.getfield 7, 3) := by decide +kernel
theorem dX10_copy_51 : decode cX10_copy 51 = .ok (.iload_n 3, 1) := by decide +kernel
theorem dX10_copy_52 : decode cX10_copy 52 = .ok (.iaload, 1) := by decide +kernel
theorem dX10_copy_53 : decode cX10_copy 53 = .ok (.if_icmp .eq 9, 3) := by decide +kernel
theorem dX10_copy_56 : decode cX10_copy 56 = .ok (.aload_n 0, 1) := by decide +kernel
theorem dX10_copy_57 : decode cX10_copy 57 = .ok (.iconst 5, 1) := by decide +kernel
theorem dX10_copy_58 : decode cX10_copy 58 = .ok (.invokevirtual 71, 3) := by decide +kernel
theorem dX10_copy_61 : decode cX10_copy 61 = .ok (.ireturn, 1) := by decide +kernel
theorem dX10_copy_62 : decode cX10_copy 62 = .ok (.iload_n 2, 1) := by decide +kernel
theorem dX10_copy_63 : decode cX10_copy 63 = .ok (.ifCond .lt 48, 3) := by decide +kernel
theorem dX10_copy_66 : decode cX10_copy 66 = .ok (.iload 4, 2) := by decide +kernel
theorem dX10_copy_68 : decode cX10_copy 68 = .ok (.ifCond .lt 43, 3) := by decide +kernel
theorem dX10_copy_71 : decode cX10_copy 71 = .ok (.iload 5, 2) := by decide +kernel
theorem dX10_copy_73 : decode cX10_copy 73 = .ok (.ifCond .lt 38, 3) := by decide +kernel
theorem dX10_copy_76 : decode cX10_copy 76 = .ok (.iload_n 2, 1) := by decide +kernel
theorem dX10_copy_77 : decode cX10_copy 77 = .ok (.i2l, 1) := by decide +kernel
theorem dX10_copy_78 : decode cX10_copy 78 = .ok (.iload 5, 2) := by decide +kernel
theorem dX10_copy_80 : decode cX10_copy 80 = .ok (.i2l, 1) := by decide +kernel
theorem dX10_copy_81 : decode cX10_copy 81 = .ok (.ladd, 1) := by decide +kernel
theorem dX10_copy_82 : decode cX10_copy 82 = .ok (.aload_n 0, 1) := by decide +kernel
theorem dX10_copy_83 : decode cX10_copy 83 = .ok (.getfield 13, 3) := by decide +kernel
theorem dX10_copy_86 : decode cX10_copy 86 = .ok (.iload_n 1, 1) := by decide +kernel
theorem dX10_copy_87 : decode cX10_copy 87 = .ok (.iaload, 1) := by decide +kernel
theorem dX10_copy_88 : decode cX10_copy 88 = .ok (.i2l, 1) := by decide +kernel
theorem dX10_copy_89 : decode cX10_copy 89 = .ok (.lcmp, 1) := by decide +kernel
theorem dX10_copy_90 : decode cX10_copy 90 = .ok (.ifCond .gt 21, 3) := by decide +kernel
theorem dX10_copy_93 : decode cX10_copy 93 = .ok (.iload 4, 2) := by decide +kernel
theorem dX10_copy_95 : decode cX10_copy 95 = .ok (.i2l, 1) := by decide +kernel
theorem dX10_copy_96 : decode cX10_copy 96 = .ok (.iload 5, 2) := by decide +kernel
theorem dX10_copy_98 : decode cX10_copy 98 = .ok (.i2l, 1) := by decide +kernel
theorem dX10_copy_99 : decode cX10_copy 99 = .ok (.ladd, 1) := by decide +kernel
theorem dX10_copy_100 : decode cX10_copy 100 = .ok (.aload_n 0, 1) := by decide +kernel
theorem dX10_copy_101 : decode cX10_copy 101 = .ok (.getfield 13, 3) := by decide +kernel
theorem dX10_copy_104 : decode cX10_copy 104 = .ok (.iload_n 3, 1) := by decide +kernel
theorem dX10_copy_105 : decode cX10_copy 105 = .ok (.iaload, 1) := by decide +kernel
theorem dX10_copy_106 : decode cX10_copy 106 = .ok (.i2l, 1) := by decide +kernel
theorem dX10_copy_107 : decode cX10_copy 107 = .ok (.lcmp, 1) := by decide +kernel
theorem dX10_copy_108 : decode cX10_copy 108 = .ok (.ifCond .le 9, 3) := by decide +kernel
theorem dX10_copy_111 : decode cX10_copy 111 = .ok (.aload_n 0, 1) := by decide +kernel
theorem dX10_copy_112 : decode cX10_copy 112 = .ok (.iconst 2, 1) := by decide +kernel
theorem dX10_copy_113 : decode cX10_copy 113 = .ok (.invokevirtual 71, 3) := by decide +kernel
theorem dX10_copy_116 : decode cX10_copy 116 = .ok (.ireturn, 1) := by decide +kernel
theorem dX10_copy_117 : decode cX10_copy 117 = .ok (.iconst 0, 1) := by decide +kernel
theorem dX10_copy_118 : decode cX10_copy 118 = .ok (.istore 6, 2) := by decide +kernel
theorem dX10_copy_120 : decode cX10_copy 120 = .ok (.iload 6, 2) := by decide +kernel
theorem dX10_copy_122 : decode cX10_copy 122 = .ok (.iload 5, 2) := by decide +kernel
theorem dX10_copy_124 : decode cX10_copy 124 = .ok (.if_icmp .ge 58, 3) := by decide +kernel
theorem dX10_copy_127 : decode cX10_copy 127 = .ok (.iload 4, 2) := by decide +kernel
theorem dX10_copy_129 : decode cX10_copy 129 = .ok (.iload_n 2, 1) := by decide +kernel
theorem dX10_copy_130 : decode cX10_copy 130 = .ok (.if_icmp .le 13, 3) := by decide +kernel
theorem dX10_copy_133 : decode cX10_copy 133 = .ok (.iload 5, 2) := by decide +kernel
theorem dX10_copy_135 : decode cX10_copy 135 = .ok (.iconst 1, 1) := by decide +kernel
theorem dX10_copy_136 : decode cX10_copy 136 = .ok (.isub, 1) := by decide +kernel
theorem dX10_copy_137 : decode cX10_copy 137 = .ok (.iload 6, 2) := by decide +kernel
theorem dX10_copy_139 : decode cX10_copy 139 = .ok (.isub, 1) := by decide +kernel
theorem dX10_copy_140 : decode cX10_copy 140 = .ok (.goto 5, 3) := by decide +kernel
theorem dX10_copy_143 : decode cX10_copy 143 = .ok (.iload 6, 2) := by decide +kernel
theorem dX10_copy_145 : decode cX10_copy 145 = .ok (.istore 7, 2) := by decide +kernel
theorem dX10_copy_147 : decode cX10_copy 147 = .ok (.aload_n 0, 1) := by decide +kernel
theorem dX10_copy_148 : decode cX10_copy 148 = .ok (.getfield 16, 3) := by decide +kernel
theorem dX10_copy_151 : decode cX10_copy 151 = .ok (.bipush 40, 2) := by decide +kernel
theorem dX10_copy_153 : decode cX10_copy 153 = .ok (.iload_n 3, 1) := by decide +kernel
theorem dX10_copy_154 : decode cX10_copy 154 = .ok (.imul, 1) := by decide +kernel
theorem dX10_copy_155 : decode cX10_copy 155 = .ok (.iload 4, 2) := by decide +kernel
theorem dX10_copy_157 : decode cX10_copy 157 = .ok (.iadd, 1) := by decide +kernel
theorem dX10_copy_158 : decode cX10_copy 158 = .ok (.iload 7, 2) := by decide +kernel
theorem dX10_copy_160 : decode cX10_copy 160 = .ok (.iadd, 1) := by decide +kernel
theorem dX10_copy_161 : decode cX10_copy 161 = .ok (.aload_n 0, 1) := by decide +kernel
theorem dX10_copy_162 : decode cX10_copy 162 = .ok (.getfield 16, 3) := by decide +kernel
theorem dX10_copy_165 : decode cX10_copy 165 = .ok (.bipush 40, 2) := by decide +kernel
theorem dX10_copy_167 : decode cX10_copy 167 = .ok (.iload_n 1, 1) := by decide +kernel
theorem dX10_copy_168 : decode cX10_copy 168 = .ok (.imul, 1) := by decide +kernel
theorem dX10_copy_169 : decode cX10_copy 169 = .ok (.iload_n 2, 1) := by decide +kernel
theorem dX10_copy_170 : decode cX10_copy 170 = .ok (.iadd, 1) := by decide +kernel
theorem dX10_copy_171 : decode cX10_copy 171 = .ok (.iload 7, 2) := by decide +kernel
theorem dX10_copy_173 : decode cX10_copy 173 = .ok (.iadd, 1) := by decide +kernel
theorem dX10_copy_174 : decode cX10_copy 174 = .ok (.iaload, 1) := by decide +kernel
theorem dX10_copy_175 : decode cX10_copy 175 = .ok (.iastore, 1) := by decide +kernel
theorem dX10_copy_176 : decode cX10_copy 176 = .ok (.iinc 6 1, 3) := by decide +kernel
theorem dX10_copy_179 : decode cX10_copy 179 = .ok (.goto (-59), 3) := by decide +kernel
theorem dX10_copy_182 : decode cX10_copy 182 = .ok (.aload_n 0, 1) := by decide +kernel
theorem dX10_copy_183 : decode cX10_copy 183 = .ok (.iload 5, 2) := by decide +kernel
theorem dX10_copy_185 : decode cX10_copy 185 = .ok (.invokevirtual 75, 3) := by decide +kernel
theorem dX10_copy_188 : decode cX10_copy 188 = .ok (.ireturn, 1) := by decide +kernel
theorem dX10_drop_0 : decode cX10_drop 0 = .ok (.iload_n 1, 1) := by decide +kernel
theorem dX10_drop_1 : decode cX10_drop 1 = .ok (.invokestatic 64, 3) := by decide +kernel
theorem dX10_drop_4 : decode cX10_drop 4 = .ok (.ifCond .ne 6, 3) := by decide +kernel
theorem dX10_drop_7 : decode cX10_drop 7 = .ok (.ldc 70, 2) := by decide +kernel
theorem dX10_drop_9 : decode cX10_drop 9 = .ok (.ireturn, 1) := by decide +kernel
theorem dX10_drop_10 : decode cX10_drop 10 = .ok (.aload_n 0, 1) := by decide +kernel
theorem dX10_drop_11 : decode cX10_drop 11 = .ok (.getfield 13, 3) := by decide +kernel
theorem dX10_drop_14 : decode cX10_drop 14 = .ok (.iload_n 1, 1) := by decide +kernel
theorem dX10_drop_15 : decode cX10_drop 15 = .ok (.iaload, 1) := by decide +kernel
theorem dX10_drop_16 : decode cX10_drop 16 = .ok (.ifCond .ge 9, 3) := by decide +kernel
theorem dX10_drop_19 : decode cX10_drop 19 = .ok (.aload_n 0, 1) := by decide +kernel
theorem dX10_drop_20 : decode cX10_drop 20 = .ok (.iconst 1, 1) := by decide +kernel
theorem dX10_drop_21 : decode cX10_drop 21 = .ok (.invokevirtual 71, 3) := by decide +kernel
theorem dX10_drop_24 : decode cX10_drop 24 = .ok (.ireturn, 1) := by decide +kernel
theorem dX10_drop_25 : decode cX10_drop 25 = .ok (.aload_n 0, 1) := by decide +kernel
theorem dX10_drop_26 : decode cX10_drop 26 = .ok (.getfield 13, 3) := by decide +kernel
theorem dX10_drop_29 : decode cX10_drop 29 = .ok (.iload_n 1, 1) := by decide +kernel
theorem dX10_drop_30 : decode cX10_drop 30 = .ok (.iaload, 1) := by decide +kernel
theorem dX10_drop_31 : decode cX10_drop 31 = .ok (.istore_n 2, 1) := by decide +kernel
theorem dX10_drop_32 : decode cX10_drop 32 = .ok (.aload_n 0, 1) := by decide +kernel
theorem dX10_drop_33 : decode cX10_drop 33 = .ok (.getfield 13, 3) := by decide +kernel
theorem dX10_drop_36 : decode cX10_drop 36 = .ok (.iload_n 1, 1) := by decide +kernel
theorem dX10_drop_37 : decode cX10_drop 37 = .ok (.iconst (-1), 1) := by decide +kernel
theorem dX10_drop_38 : decode cX10_drop 38 = .ok (.iastore, 1) := by decide +kernel
theorem dX10_drop_39 : decode cX10_drop 39 = .ok (.aload_n 0, 1) := by decide +kernel
theorem dX10_drop_40 : decode cX10_drop 40 = .ok (.iload_n 2, 1) := by decide +kernel
theorem dX10_drop_41 : decode cX10_drop 41 = .ok (.invokevirtual 75, 3) := by decide +kernel
theorem dX10_drop_44 : decode cX10_drop 44 = .ok (.ireturn, 1) := by decide +kernel
theorem dX10_feed_0 : decode cX10_feed 0 = .ok (.iload_n 1, 1) := by decide +kernel
theorem dX10_feed_1 : decode cX10_feed 1 = .ok (.i2l, 1) := by decide +kernel
theorem dX10_feed_2 : decode cX10_feed 2 = .ok (.lconst 0, 1) := by decide +kernel
theorem dX10_feed_3 : decode cX10_feed 3 = .ok (.ldc2_w 78, 3) := by decide +kernel
theorem dX10_feed_6 : decode cX10_feed 6 = .ok (.invokestatic 53, 3) := by decide +kernel
theorem dX10_feed_9 : decode cX10_feed 9 = .ok (.ifCond .ne 6, 3) := by decide +kernel
theorem dX10_feed_12 : decode cX10_feed 12 = .ok (.ldc 70, 2) := by decide +kernel
theorem dX10_feed_14 : decode cX10_feed 14 = .ok (.ireturn, 1) := by decide +kernel
theorem dX10_feed_15 : decode cX10_feed 15 = .ok (.aload_n 0, 1) := by decide +kernel
theorem dX10_feed_16 : decode cX10_feed 16 = .ok (.getfield 80, 3) := by decide +kernel
theorem dX10_feed_19 : decode cX10_feed 19 = .ok (.bipush 90, 2) := by decide +kernel
theorem dX10_feed_21 : decode cX10_feed 21 = .ok (.if_icmp .ne 6, 3) := by decide +kernel
theorem dX10_feed_24 : decode cX10_feed 24 = .ok (.ldc 83, 2) := by decide +kernel
theorem dX10_feed_26 : decode cX10_feed 26 = .ok (.ireturn, 1) := by decide +kernel
theorem dX10_feed_27 : decode cX10_feed 27 = .ok (.aload_n 0, 1) := by decide +kernel
theorem dX10_feed_28 : decode cX10_feed 28 = .ok (.getfield 38, 3) := by decide +kernel
theorem dX10_feed_31 : decode cX10_feed 31 = .ok (.aload_n 0, 1) := by decide +kernel
theorem dX10_feed_32 : decode cX10_feed 32 = .ok (.getfield 80, 3) := by decide +kernel
theorem dX10_feed_35 : decode cX10_feed 35 = .ok (.iload_n 1, 1) := by decide +kernel
theorem dX10_feed_36 : decode cX10_feed 36 = .ok (.iastore, 1) := by decide +kernel
theorem dX10_feed_37 : decode cX10_feed 37 = .ok (.aload_n 0, 1) := by decide +kernel
theorem dX10_feed_38 : decode cX10_feed 38 = .ok (.dup, 1) := by decide +kernel
theorem dX10_feed_39 : decode cX10_feed 39 = .ok (.getfield 80, 3) := by decide +kernel
theorem dX10_feed_42 : decode cX10_feed 42 = .ok (.iconst 1, 1) := by decide +kernel
theorem dX10_feed_43 : decode cX10_feed 43 = .ok (.iadd, 1) := by decide +kernel
theorem dX10_feed_44 : decode cX10_feed 44 = .ok (.putfield 80, 3) := by decide +kernel
theorem dX10_feed_47 : decode cX10_feed 47 = .ok (.aload_n 0, 1) := by decide +kernel
theorem dX10_feed_48 : decode cX10_feed 48 = .ok (.getfield 80, 3) := by decide +kernel
theorem dX10_feed_51 : decode cX10_feed 51 = .ok (.ireturn, 1) := by decide +kernel
theorem dX10_here_0 : decode cX10_here 0 = .ok (.aload_n 0, 1) := by decide +kernel
theorem dX10_here_1 : decode cX10_here 1 = .ok (.getfield 84, 3) := by decide +kernel
theorem dX10_here_4 : decode cX10_here 4 = .ok (.aload_n 0, 1) := by decide +kernel
theorem dX10_here_5 : decode cX10_here 5 = .ok (.getfield 80, 3) := by decide +kernel
theorem dX10_here_8 : decode cX10_here 8 = .ok (.if_icmp .ge 15, 3) := by decide +kernel
theorem dX10_here_11 : decode cX10_here 11 = .ok (.aload_n 0, 1) := by decide +kernel
theorem dX10_here_12 : decode cX10_here 12 = .ok (.getfield 38, 3) := by decide +kernel
theorem dX10_here_15 : decode cX10_here 15 = .ok (.aload_n 0, 1) := by decide +kernel
theorem dX10_here_16 : decode cX10_here 16 = .ok (.getfield 84, 3) := by decide +kernel
theorem dX10_here_19 : decode cX10_here 19 = .ok (.iaload, 1) := by decide +kernel
theorem dX10_here_20 : decode cX10_here 20 = .ok (.goto 4, 3) := by decide +kernel
theorem dX10_here_23 : decode cX10_here 23 = .ok (.iconst (-1), 1) := by decide +kernel
theorem dX10_here_24 : decode cX10_here 24 = .ok (.ireturn, 1) := by decide +kernel
theorem dX10_step_0 : decode cX10_step 0 = .ok (.aload_n 0, 1) := by decide +kernel
theorem dX10_step_1 : decode cX10_step 1 = .ok (.aload_n 0, 1) := by decide +kernel
theorem dX10_step_2 : decode cX10_step 2 = .ok (.getfield 84, 3) := by decide +kernel
theorem dX10_step_5 : decode cX10_step 5 = .ok (.putfield 87, 3) := by decide +kernel
theorem dX10_step_8 : decode cX10_step 8 = .ok (.aload_n 0, 1) := by decide +kernel
theorem dX10_step_9 : decode cX10_step 9 = .ok (.aload_n 0, 1) := by decide +kernel
theorem dX10_step_10 : decode cX10_step 10 = .ok (.invokevirtual 90, 3) := by decide +kernel
theorem dX10_step_13 : decode cX10_step 13 = .ok (.putfield 94, 3) := by decide +kernel
theorem dX10_step_16 : decode cX10_step 16 = .ok (.aload_n 0, 1) := by decide +kernel
theorem dX10_step_17 : decode cX10_step 17 = .ok (.aload_n 0, 1) := by decide +kernel
theorem dX10_step_18 : decode cX10_step 18 = .ok (.getfield 94, 3) := by decide +kernel
theorem dX10_step_21 : decode cX10_step 21 = .ok (.ifCond .ge 7, 3) := by decide +kernel
theorem dX10_step_24 : decode cX10_step 24 = .ok (.iconst 0, 1) := by decide +kernel
theorem dX10_step_25 : decode cX10_step 25 = .ok (.goto 68, 3) := by decide +kernel
theorem dX10_step_28 : decode cX10_step 28 = .ok (.aload_n 0, 1) := by decide +kernel
theorem dX10_step_29 : decode cX10_step 29 = .ok (.getfield 94, 3) := by decide +kernel
theorem dX10_step_32 : decode cX10_step 32 = .ok (.i2l, 1) := by decide +kernel
theorem dX10_step_33 : decode cX10_step 33 = .ok (.ldc2_w 97, 3) := by decide +kernel
theorem dX10_step_36 : decode cX10_step 36 = .ok (.ldc2_w 99, 3) := by decide +kernel
theorem dX10_step_39 : decode cX10_step 39 = .ok (.invokestatic 53, 3) := by decide +kernel
theorem dX10_step_42 : decode cX10_step 42 = .ok (.ifCond .eq 7, 3) := by decide +kernel
theorem dX10_step_45 : decode cX10_step 45 = .ok (.iconst 1, 1) := by decide +kernel
theorem dX10_step_46 : decode cX10_step 46 = .ok (.goto 47, 3) := by decide +kernel
theorem dX10_step_49 : decode cX10_step 49 = .ok (.aload_n 0, 1) := by decide +kernel
theorem dX10_step_50 : decode cX10_step 50 = .ok (.getfield 94, 3) := by decide +kernel
theorem dX10_step_53 : decode cX10_step 53 = .ok (.i2l, 1) := by decide +kernel
theorem dX10_step_54 : decode cX10_step 54 = .ok (.ldc2_w 101, 3) := by decide +kernel
theorem dX10_step_57 : decode cX10_step 57 = .ok (.ldc2_w 103, 3) := by decide +kernel
theorem dX10_step_60 : decode cX10_step 60 = .ok (.invokestatic 53, 3) := by decide +kernel
theorem dX10_step_63 : decode cX10_step 63 = .ok (.ifCond .eq 7, 3) := by decide +kernel
theorem dX10_step_66 : decode cX10_step 66 = .ok (.iconst 2, 1) := by decide +kernel
theorem dX10_step_67 : decode cX10_step 67 = .ok (.goto 26, 3) := by decide +kernel
theorem dX10_step_70 : decode cX10_step 70 = .ok (.aload_n 0, 1) := by decide +kernel
theorem dX10_step_71 : decode cX10_step 71 = .ok (.getfield 94, 3) := by decide +kernel
theorem dX10_step_74 : decode cX10_step 74 = .ok (.bipush 44, 2) := by decide +kernel
theorem dX10_step_76 : decode cX10_step 76 = .ok (.if_icmp .eq 12, 3) := by decide +kernel
theorem dX10_step_79 : decode cX10_step 79 = .ok (.aload_n 0, 1) := by decide +kernel
theorem dX10_step_80 : decode cX10_step 80 = .ok (.getfield 94, 3) := by decide +kernel
theorem dX10_step_83 : decode cX10_step 83 = .ok (.bipush 59, 2) := by decide +kernel
theorem dX10_step_85 : decode cX10_step 85 = .ok (.if_icmp .ne 7, 3) := by decide +kernel
theorem dX10_step_88 : decode cX10_step 88 = .ok (.iconst 3, 1) := by decide +kernel
theorem dX10_step_89 : decode cX10_step 89 = .ok (.goto 4, 3) := by decide +kernel
theorem dX10_step_92 : decode cX10_step 92 = .ok (.iconst 4, 1) := by decide +kernel
theorem dX10_step_93 : decode cX10_step 93 = .ok (.putfield 105, 3) := by decide +kernel
theorem dX10_step_96 : decode cX10_step 96 = .ok (.aload_n 0, 1) := by decide +kernel
theorem dX10_step_97 : decode cX10_step 97 = .ok (.getfield 105, 3) := by decide +kernel
theorem dX10_step_100 : decode cX10_step 100 = .ok (.iconst 2, 1) := by decide +kernel
theorem dX10_step_101 : decode cX10_step 101 = .ok (.if_icmp .eq 25, 3) := by decide +kernel
theorem dX10_step_104 : decode cX10_step 104 = .ok (.aload_n 0, 1) := by decide +kernel
theorem dX10_step_105 : decode cX10_step 105 = .ok (.dup, 1) := by decide +kernel
theorem dX10_step_106 : decode cX10_step 106 = .ok (.getfield 84, 3) := by decide +kernel
theorem dX10_step_109 : decode cX10_step 109 = .ok (.aload_n 0, 1) := by decide +kernel
theorem dX10_step_110 : decode cX10_step 110 = .ok (.getfield 105, 3) := by decide +kernel
theorem dX10_step_113 : decode cX10_step 113 = .ok (.ifCond .ne 7, 3) := by decide +kernel
theorem dX10_step_116 : decode cX10_step 116 = .ok (.iconst 0, 1) := by decide +kernel
theorem dX10_step_117 : decode cX10_step 117 = .ok (.goto 4, 3) := by decide +kernel
theorem dX10_step_120 : decode cX10_step 120 = .ok (.iconst 1, 1) := by decide +kernel
theorem dX10_step_121 : decode cX10_step 121 = .ok (.iadd, 1) := by decide +kernel
theorem dX10_step_122 : decode cX10_step 122 = .ok (.putfield 84, 3) := by decide +kernel
theorem dX10_step_125 : decode cX10_step 125 = .ok (.return_, 1) := by decide +kernel
theorem dX10_step_126 : decode cX10_step 126 = .ok (.aload_n 0, 1) := by decide +kernel
theorem dX10_step_127 : decode cX10_step 127 = .ok (.iconst 0, 1) := by decide +kernel
theorem dX10_step_128 : decode cX10_step 128 = .ok (.putfield 94, 3) := by decide +kernel
theorem dX10_step_131 : decode cX10_step 131 = .ok (.aload_n 0, 1) := by decide +kernel
theorem dX10_step_132 : decode cX10_step 132 = .ok (.invokevirtual 90, 3) := by decide +kernel
theorem dX10_step_135 : decode cX10_step 135 = .ok (.i2l, 1) := by decide +kernel
theorem dX10_step_136 : decode cX10_step 136 = .ok (.ldc2_w 101, 3) := by decide +kernel
theorem dX10_step_139 : decode cX10_step 139 = .ok (.ldc2_w 103, 3) := by decide +kernel
theorem dX10_step_142 : decode cX10_step 142 = .ok (.invokestatic 53, 3) := by decide +kernel
theorem dX10_step_145 : decode cX10_step 145 = .ok (.ifCond .eq 55, 3) := by decide +kernel
theorem dX10_step_148 : decode cX10_step 148 = .ok (.aload_n 0, 1) := by decide +kernel
theorem dX10_step_149 : decode cX10_step 149 = .ok (.aload_n 0, 1) := by decide +kernel
theorem dX10_step_150 : decode cX10_step 150 = .ok (.getfield 84, 3) := by decide +kernel
theorem dX10_step_153 : decode cX10_step 153 = .ok (.aload_n 0, 1) := by decide +kernel
theorem dX10_step_154 : decode cX10_step 154 = .ok (.getfield 87, 3) := by decide +kernel
theorem dX10_step_157 : decode cX10_step 157 = .ok (.isub, 1) := by decide +kernel
theorem dX10_step_158 : decode cX10_step 158 = .ok (.iconst 2, 1) := by decide +kernel
theorem dX10_step_159 : decode cX10_step 159 = .ok (.if_icmp .ge 21, 3) := by decide +kernel
theorem dX10_step_162 : decode cX10_step 162 = .ok (.bipush 10, 2) := by decide +kernel
theorem dX10_step_164 : decode cX10_step 164 = .ok (.aload_n 0, 1) := by decide +kernel
theorem dX10_step_165 : decode cX10_step 165 = .ok (.getfield 94, 3) := by decide +kernel
theorem dX10_step_168 : decode cX10_step 168 = .ok (.imul, 1) := by decide +kernel
theorem dX10_step_169 : decode cX10_step 169 = .ok (.aload_n 0, 1) := by decide +kernel
theorem dX10_step_170 : decode cX10_step 170 = .ok (.invokevirtual 90, 3) := by decide +kernel
theorem dX10_step_173 : decode cX10_step 173 = .ok (.iadd, 1) := by decide +kernel
theorem dX10_step_174 : decode cX10_step 174 = .ok (.bipush 48, 2) := by decide +kernel
theorem dX10_step_176 : decode cX10_step 176 = .ok (.isub, 1) := by decide +kernel
theorem dX10_step_177 : decode cX10_step 177 = .ok (.goto 7, 3) := by decide +kernel
theorem dX10_step_180 : decode cX10_step 180 = .ok (.aload_n 0, 1) := by decide +kernel
theorem dX10_step_181 : decode cX10_step 181 = .ok (.getfield 94, 3) := by decide +kernel
theorem dX10_step_184 : decode cX10_step 184 = .ok (.putfield 94, 3) := by decide +kernel
theorem dX10_step_187 : decode cX10_step 187 = .ok (.aload_n 0, 1) := by decide +kernel
theorem dX10_step_188 : decode cX10_step 188 = .ok (.dup, 1) := by decide +kernel
theorem dX10_step_189 : decode cX10_step 189 = .ok (.getfield 84, 3) := by decide +kernel
theorem dX10_step_192 : decode cX10_step 192 = .ok (.iconst 1, 1) := by decide +kernel
theorem dX10_step_193 : decode cX10_step 193 = .ok (.iadd, 1) := by decide +kernel
theorem dX10_step_194 : decode cX10_step 194 = .ok (.putfield 84, 3) := by decide +kernel
theorem dX10_step_197 : decode cX10_step 197 = .ok (.goto (-66), 3) := by decide +kernel
theorem dX10_step_200 : decode cX10_step 200 = .ok (.aload_n 0, 1) := by decide +kernel
theorem dX10_step_201 : decode cX10_step 201 = .ok (.aload_n 0, 1) := by decide +kernel
theorem dX10_step_202 : decode cX10_step 202 = .ok (.getfield 84, 3) := by decide +kernel
theorem dX10_step_205 : decode cX10_step 205 = .ok (.aload_n 0, 1) := by decide +kernel
theorem dX10_step_206 : decode cX10_step 206 = .ok (.getfield 87, 3) := by decide +kernel
theorem dX10_step_209 : decode cX10_step 209 = .ok (.isub, 1) := by decide +kernel
theorem dX10_step_210 : decode cX10_step 210 = .ok (.iconst 2, 1) := by decide +kernel
theorem dX10_step_211 : decode cX10_step 211 = .ok (.if_icmp .le 7, 3) := by decide +kernel
theorem dX10_step_214 : decode cX10_step 214 = .ok (.iconst 4, 1) := by decide +kernel
theorem dX10_step_215 : decode cX10_step 215 = .ok (.goto 4, 3) := by decide +kernel
theorem dX10_step_218 : decode cX10_step 218 = .ok (.iconst 2, 1) := by decide +kernel
theorem dX10_step_219 : decode cX10_step 219 = .ok (.putfield 105, 3) := by decide +kernel
theorem dX10_step_222 : decode cX10_step 222 = .ok (.return_, 1) := by decide +kernel
theorem dX10_fails_0 : decode cX10_fails 0 = .ok (.aload_n 0, 1) := by decide +kernel
theorem dX10_fails_1 : decode cX10_fails 1 = .ok (.iload_n 1, 1) := by decide +kernel
theorem dX10_fails_2 : decode cX10_fails 2 = .ok (.putfield 108, 3) := by decide +kernel
theorem dX10_fails_5 : decode cX10_fails 5 = .ok (.iconst 0, 1) := by decide +kernel
theorem dX10_fails_6 : decode cX10_fails 6 = .ok (.ireturn, 1) := by decide +kernel
theorem dX10_number_0 : decode cX10_number 0 = .ok (.aload_n 0, 1) := by decide +kernel
theorem dX10_number_1 : decode cX10_number 1 = .ok (.invokevirtual 111, 3) := by decide +kernel
theorem dX10_number_4 : decode cX10_number 4 = .ok (.aload_n 0, 1) := by decide +kernel
theorem dX10_number_5 : decode cX10_number 5 = .ok (.getfield 105, 3) := by decide +kernel
theorem dX10_number_8 : decode cX10_number 8 = .ok (.iconst 2, 1) := by decide +kernel
theorem dX10_number_9 : decode cX10_number 9 = .ok (.if_icmp .eq 9, 3) := by decide +kernel
theorem dX10_number_12 : decode cX10_number 12 = .ok (.aload_n 0, 1) := by decide +kernel
theorem dX10_number_13 : decode cX10_number 13 = .ok (.iconst 1, 1) := by decide +kernel
theorem dX10_number_14 : decode cX10_number 14 = .ok (.invokevirtual 114, 3) := by decide +kernel
theorem dX10_number_17 : decode cX10_number 17 = .ok (.ireturn, 1) := by decide +kernel
theorem dX10_number_18 : decode cX10_number 18 = .ok (.aload_n 0, 1) := by decide +kernel
theorem dX10_number_19 : decode cX10_number 19 = .ok (.getfield 94, 3) := by decide +kernel
theorem dX10_number_22 : decode cX10_number 22 = .ok (.i2l, 1) := by decide +kernel
theorem dX10_number_23 : decode cX10_number 23 = .ok (.iload_n 2, 1) := by decide +kernel
theorem dX10_number_24 : decode cX10_number 24 = .ok (.i2l, 1) := by decide +kernel
theorem dX10_number_25 : decode cX10_number 25 = .ok (.iload_n 3, 1) := by decide +kernel
theorem dX10_number_26 : decode cX10_number 26 = .ok (.i2l, 1) := by decide +kernel
theorem dX10_number_27 : decode cX10_number 27 = .ok (.invokestatic 53, 3) := by decide +kernel
theorem dX10_number_30 : decode cX10_number 30 = .ok (.ifCond .ne 9, 3) := by decide +kernel
theorem dX10_number_33 : decode cX10_number 33 = .ok (.aload_n 0, 1) := by decide +kernel
theorem dX10_number_34 : decode cX10_number 34 = .ok (.iconst 2, 1) := by decide +kernel
theorem dX10_number_35 : decode cX10_number 35 = .ok (.invokevirtual 114, 3) := by decide +kernel
theorem dX10_number_38 : decode cX10_number 38 = .ok (.ireturn, 1) := by decide +kernel
theorem dX10_number_39 : decode cX10_number 39 = .ok (.aload_n 0, 1) := by decide +kernel
theorem dX10_number_40 : decode cX10_number 40 = .ok (.getfield 22, 3) := by decide +kernel
theorem dX10_number_43 : decode cX10_number 43 = .ok (.iload_n 1, 1) := by decide +kernel
theorem dX10_number_44 : decode cX10_number 44 = .ok (.aload_n 0, 1) := by decide +kernel
theorem dX10_number_45 : decode cX10_number 45 = .ok (.getfield 94, 3) := by decide +kernel
theorem dX10_number_48 : decode cX10_number 48 = .ok (.iastore, 1) := by decide +kernel
theorem dX10_number_49 : decode cX10_number 49 = .ok (.aload_n 0, 1) := by decide +kernel
theorem dX10_number_50 : decode cX10_number 50 = .ok (.invokevirtual 111, 3) := by decide +kernel
theorem dX10_number_53 : decode cX10_number 53 = .ok (.aload_n 0, 1) := by decide +kernel
theorem dX10_number_54 : decode cX10_number 54 = .ok (.getfield 105, 3) := by decide +kernel
theorem dX10_number_57 : decode cX10_number 57 = .ok (.iconst 3, 1) := by decide +kernel
theorem dX10_number_58 : decode cX10_number 58 = .ok (.if_icmp .ne 12, 3) := by decide +kernel
theorem dX10_number_61 : decode cX10_number 61 = .ok (.aload_n 0, 1) := by decide +kernel
theorem dX10_number_62 : decode cX10_number 62 = .ok (.getfield 94, 3) := by decide +kernel
theorem dX10_number_65 : decode cX10_number 65 = .ok (.iload 4, 2) := by decide +kernel
theorem dX10_number_67 : decode cX10_number 67 = .ok (.if_icmp .eq 11, 3) := by decide +kernel
theorem dX10_number_70 : decode cX10_number 70 = .ok (.aload_n 0, 1) := by decide +kernel
theorem dX10_number_71 : decode cX10_number 71 = .ok (.iconst 1, 1) := by decide +kernel
theorem dX10_number_72 : decode cX10_number 72 = .ok (.invokevirtual 114, 3) := by decide +kernel
theorem dX10_number_75 : decode cX10_number 75 = .ok (.ifCond .eq 7, 3) := by decide +kernel
theorem dX10_number_78 : decode cX10_number 78 = .ok (.iconst 1, 1) := by decide +kernel
theorem dX10_number_79 : decode cX10_number 79 = .ok (.goto 4, 3) := by decide +kernel
theorem dX10_number_82 : decode cX10_number 82 = .ok (.iconst 0, 1) := by decide +kernel
theorem dX10_number_83 : decode cX10_number 83 = .ok (.ireturn, 1) := by decide +kernel
theorem dX10_sortOf_0 : decode cX10_sortOf 0 = .ok (.iload_n 0, 1) := by decide +kernel
theorem dX10_sortOf_1 : decode cX10_sortOf 1 = .ok (.bipush 99, 2) := by decide +kernel
theorem dX10_sortOf_3 : decode cX10_sortOf 3 = .ok (.if_icmp .ne 7, 3) := by decide +kernel
theorem dX10_sortOf_6 : decode cX10_sortOf 6 = .ok (.iconst 1, 1) := by decide +kernel
theorem dX10_sortOf_7 : decode cX10_sortOf 7 = .ok (.goto 44, 3) := by decide +kernel
theorem dX10_sortOf_10 : decode cX10_sortOf 10 = .ok (.iload_n 0, 1) := by decide +kernel
theorem dX10_sortOf_11 : decode cX10_sortOf 11 = .ok (.bipush 108, 2) := by decide +kernel
theorem dX10_sortOf_13 : decode cX10_sortOf 13 = .ok (.if_icmp .ne 7, 3) := by decide +kernel
theorem dX10_sortOf_16 : decode cX10_sortOf 16 = .ok (.iconst 2, 1) := by decide +kernel
theorem dX10_sortOf_17 : decode cX10_sortOf 17 = .ok (.goto 34, 3) := by decide +kernel
theorem dX10_sortOf_20 : decode cX10_sortOf 20 = .ok (.iload_n 0, 1) := by decide +kernel
theorem dX10_sortOf_21 : decode cX10_sortOf 21 = .ok (.bipush 116, 2) := by decide +kernel
theorem dX10_sortOf_23 : decode cX10_sortOf 23 = .ok (.if_icmp .ne 7, 3) := by decide +kernel
theorem dX10_sortOf_26 : decode cX10_sortOf 26 = .ok (.iconst 3, 1) := by decide +kernel
theorem dX10_sortOf_27 : decode cX10_sortOf 27 = .ok (.goto 24, 3) := by decide +kernel
theorem dX10_sortOf_30 : decode cX10_sortOf 30 = .ok (.iload_n 0, 1) := by decide +kernel
theorem dX10_sortOf_31 : decode cX10_sortOf 31 = .ok (.bipush 112, 2) := by decide +kernel
theorem dX10_sortOf_33 : decode cX10_sortOf 33 = .ok (.if_icmp .ne 7, 3) := by decide +kernel
theorem dX10_sortOf_36 : decode cX10_sortOf 36 = .ok (.iconst 4, 1) := by decide +kernel
theorem dX10_sortOf_37 : decode cX10_sortOf 37 = .ok (.goto 14, 3) := by decide +kernel
theorem dX10_sortOf_40 : decode cX10_sortOf 40 = .ok (.iload_n 0, 1) := by decide +kernel
theorem dX10_sortOf_41 : decode cX10_sortOf 41 = .ok (.bipush 97, 2) := by decide +kernel
theorem dX10_sortOf_43 : decode cX10_sortOf 43 = .ok (.if_icmp .ne 7, 3) := by decide +kernel
theorem dX10_sortOf_46 : decode cX10_sortOf 46 = .ok (.iconst 5, 1) := by decide +kernel
theorem dX10_sortOf_47 : decode cX10_sortOf 47 = .ok (.goto 4, 3) := by decide +kernel
theorem dX10_sortOf_50 : decode cX10_sortOf 50 = .ok (.iconst 0, 1) := by decide +kernel
theorem dX10_sortOf_51 : decode cX10_sortOf 51 = .ok (.ireturn, 1) := by decide +kernel
theorem dX10_readsRoom_0 : decode cX10_readsRoom 0 = .ok (.aload_n 0, 1) := by decide +kernel
theorem dX10_readsRoom_1 : decode cX10_readsRoom 1 = .ok (.getfield 22, 3) := by decide +kernel
theorem dX10_readsRoom_4 : decode cX10_readsRoom 4 = .ok (.iconst 0, 1) := by decide +kernel
theorem dX10_readsRoom_5 : decode cX10_readsRoom 5 = .ok (.iaload, 1) := by decide +kernel
theorem dX10_readsRoom_6 : decode cX10_readsRoom 6 = .ok (.istore_n 1, 1) := by decide +kernel
theorem dX10_readsRoom_7 : decode cX10_readsRoom 7 = .ok (.iload_n 1, 1) := by decide +kernel
theorem dX10_readsRoom_8 : decode cX10_readsRoom 8 = .ok (.bipush 10, 2) := by decide +kernel
theorem dX10_readsRoom_10 : decode cX10_readsRoom 10 = .ok (.if_icmp .ne 9, 3) := by decide +kernel
theorem dX10_readsRoom_13 : decode cX10_readsRoom 13 = .ok (.aload_n 0, 1) := by decide +kernel
theorem dX10_readsRoom_14 : decode cX10_readsRoom 14 = .ok (.iconst 3, 1) := by decide +kernel
theorem dX10_readsRoom_15 : decode cX10_readsRoom 15 = .ok (.invokevirtual 114, 3) := by decide +kernel
theorem dX10_readsRoom_18 : decode cX10_readsRoom 18 = .ok (.ireturn, 1) := by decide +kernel
theorem dX10_readsRoom_19 : decode cX10_readsRoom 19 = .ok (.aload_n 0, 1) := by decide +kernel
theorem dX10_readsRoom_20 : decode cX10_readsRoom 20 = .ok (.getfield 22, 3) := by decide +kernel
theorem dX10_readsRoom_23 : decode cX10_readsRoom 23 = .ok (.iconst 0, 1) := by decide +kernel
theorem dX10_readsRoom_24 : decode cX10_readsRoom 24 = .ok (.dup2, 1) := by decide +kernel
theorem dX10_readsRoom_25 : decode cX10_readsRoom 25 = .ok (.iaload, 1) := by decide +kernel
theorem dX10_readsRoom_26 : decode cX10_readsRoom 26 = .ok (.iconst 1, 1) := by decide +kernel
theorem dX10_readsRoom_27 : decode cX10_readsRoom 27 = .ok (.iadd, 1) := by decide +kernel
theorem dX10_readsRoom_28 : decode cX10_readsRoom 28 = .ok (.iastore, 1) := by decide +kernel
theorem dX10_readsRoom_29 : decode cX10_readsRoom 29 = .ok (.aload_n 0, 1) := by decide +kernel
theorem dX10_readsRoom_30 : decode cX10_readsRoom 30 = .ok (.iconst 5, 1) := by decide +kernel
theorem dX10_readsRoom_31 : decode cX10_readsRoom 31 = .ok (.iload_n 1, 1) := by decide +kernel
theorem dX10_readsRoom_32 : decode cX10_readsRoom 32 = .ok (.iadd, 1) := by decide +kernel
theorem dX10_readsRoom_33 : decode cX10_readsRoom 33 = .ok (.iconst 0, 1) := by decide +kernel
theorem dX10_readsRoom_34 : decode cX10_readsRoom 34 = .ok (.bipush 9, 2) := by decide +kernel
theorem dX10_readsRoom_36 : decode cX10_readsRoom 36 = .ok (.bipush 59, 2) := by decide +kernel
theorem dX10_readsRoom_38 : decode cX10_readsRoom 38 = .ok (.invokevirtual 117, 3) := by decide +kernel
theorem dX10_readsRoom_41 : decode cX10_readsRoom 41 = .ok (.ireturn, 1) := by decide +kernel
theorem dX10_readsThing_0 : decode cX10_readsThing 0 = .ok (.aload_n 0, 1) := by decide +kernel
theorem dX10_readsThing_1 : decode cX10_readsThing 1 = .ok (.getfield 22, 3) := by decide +kernel
theorem dX10_readsThing_4 : decode cX10_readsThing 4 = .ok (.iconst 1, 1) := by decide +kernel
theorem dX10_readsThing_5 : decode cX10_readsThing 5 = .ok (.iaload, 1) := by decide +kernel
theorem dX10_readsThing_6 : decode cX10_readsThing 6 = .ok (.istore_n 1, 1) := by decide +kernel
theorem dX10_readsThing_7 : decode cX10_readsThing 7 = .ok (.aload_n 0, 1) := by decide +kernel
theorem dX10_readsThing_8 : decode cX10_readsThing 8 = .ok (.getfield 105, 3) := by decide +kernel
theorem dX10_readsThing_11 : decode cX10_readsThing 11 = .ok (.iconst 1, 1) := by decide +kernel
theorem dX10_readsThing_12 : decode cX10_readsThing 12 = .ok (.if_icmp .ne 23, 3) := by decide +kernel
theorem dX10_readsThing_15 : decode cX10_readsThing 15 = .ok (.aload_n 0, 1) := by decide +kernel
theorem dX10_readsThing_16 : decode cX10_readsThing 16 = .ok (.getfield 22, 3) := by decide +kernel
theorem dX10_readsThing_19 : decode cX10_readsThing 19 = .ok (.iconst 0, 1) := by decide +kernel
theorem dX10_readsThing_20 : decode cX10_readsThing 20 = .ok (.iaload, 1) := by decide +kernel
theorem dX10_readsThing_21 : decode cX10_readsThing 21 = .ok (.iconst 2, 1) := by decide +kernel
theorem dX10_readsThing_22 : decode cX10_readsThing 22 = .ok (.if_icmp .le 13, 3) := by decide +kernel
theorem dX10_readsThing_25 : decode cX10_readsThing 25 = .ok (.aload_n 0, 1) := by decide +kernel
theorem dX10_readsThing_26 : decode cX10_readsThing 26 = .ok (.getfield 94, 3) := by decide +kernel
theorem dX10_readsThing_29 : decode cX10_readsThing 29 = .ok (.invokestatic 121, 3) := by decide +kernel
theorem dX10_readsThing_32 : decode cX10_readsThing 32 = .ok (.goto 4, 3) := by decide +kernel
theorem dX10_readsThing_35 : decode cX10_readsThing 35 = .ok (.iconst 0, 1) := by decide +kernel
theorem dX10_readsThing_36 : decode cX10_readsThing 36 = .ok (.istore_n 2, 1) := by decide +kernel
theorem dX10_readsThing_37 : decode cX10_readsThing 37 = .ok (.iload_n 2, 1) := by decide +kernel
theorem dX10_readsThing_38 : decode cX10_readsThing 38 = .ok (.ifCond .ne 9, 3) := by decide +kernel
theorem dX10_readsThing_41 : decode cX10_readsThing 41 = .ok (.aload_n 0, 1) := by decide +kernel
theorem dX10_readsThing_42 : decode cX10_readsThing 42 = .ok (.iconst 1, 1) := by decide +kernel
theorem dX10_readsThing_43 : decode cX10_readsThing 43 = .ok (.invokevirtual 114, 3) := by decide +kernel
theorem dX10_readsThing_46 : decode cX10_readsThing 46 = .ok (.ireturn, 1) := by decide +kernel
theorem dX10_readsThing_47 : decode cX10_readsThing 47 = .ok (.iload_n 1, 1) := by decide +kernel
theorem dX10_readsThing_48 : decode cX10_readsThing 48 = .ok (.bipush 6, 2) := by decide +kernel
theorem dX10_readsThing_50 : decode cX10_readsThing 50 = .ok (.if_icmp .ne 9, 3) := by decide +kernel
theorem dX10_readsThing_53 : decode cX10_readsThing 53 = .ok (.aload_n 0, 1) := by decide +kernel
theorem dX10_readsThing_54 : decode cX10_readsThing 54 = .ok (.iconst 3, 1) := by decide +kernel
theorem dX10_readsThing_55 : decode cX10_readsThing 55 = .ok (.invokevirtual 114, 3) := by decide +kernel
theorem dX10_readsThing_58 : decode cX10_readsThing 58 = .ok (.ireturn, 1) := by decide +kernel
theorem dX10_readsThing_59 : decode cX10_readsThing 59 = .ok (.aload_n 0, 1) := by decide +kernel
theorem dX10_readsThing_60 : decode cX10_readsThing 60 = .ok (.getfield 22, 3) := by decide +kernel
theorem dX10_readsThing_63 : decode cX10_readsThing 63 = .ok (.bipush 35, 2) := by decide +kernel
theorem dX10_readsThing_65 : decode cX10_readsThing 65 = .ok (.iload_n 1, 1) := by decide +kernel
theorem dX10_readsThing_66 : decode cX10_readsThing 66 = .ok (.iadd, 1) := by decide +kernel
theorem dX10_readsThing_67 : decode cX10_readsThing 67 = .ok (.iload_n 2, 1) := by decide +kernel
theorem dX10_readsThing_68 : decode cX10_readsThing 68 = .ok (.iastore, 1) := by decide +kernel
theorem dX10_readsThing_69 : decode cX10_readsThing 69 = .ok (.aload_n 0, 1) := by decide +kernel
theorem dX10_readsThing_70 : decode cX10_readsThing 70 = .ok (.getfield 22, 3) := by decide +kernel
theorem dX10_readsThing_73 : decode cX10_readsThing 73 = .ok (.iconst 1, 1) := by decide +kernel
theorem dX10_readsThing_74 : decode cX10_readsThing 74 = .ok (.dup2, 1) := by decide +kernel
theorem dX10_readsThing_75 : decode cX10_readsThing 75 = .ok (.iaload, 1) := by decide +kernel
theorem dX10_readsThing_76 : decode cX10_readsThing 76 = .ok (.iconst 1, 1) := by decide +kernel
theorem dX10_readsThing_77 : decode cX10_readsThing 77 = .ok (.iadd, 1) := by decide +kernel
theorem dX10_readsThing_78 : decode cX10_readsThing 78 = .ok (.iastore, 1) := by decide +kernel
theorem dX10_readsThing_79 : decode cX10_readsThing 79 = .ok (.aload_n 0, 1) := by decide +kernel
theorem dX10_readsThing_80 : decode cX10_readsThing 80 = .ok (.bipush 47, 2) := by decide +kernel
theorem dX10_readsThing_82 : decode cX10_readsThing 82 = .ok (.iload_n 1, 1) := by decide +kernel
theorem dX10_readsThing_83 : decode cX10_readsThing 83 = .ok (.iadd, 1) := by decide +kernel
theorem dX10_readsThing_84 : decode cX10_readsThing 84 = .ok (.iconst 0, 1) := by decide +kernel
theorem dX10_readsThing_85 : decode cX10_readsThing 85 = .ok (.aload_n 0, 1) := by decide +kernel
theorem dX10_readsThing_86 : decode cX10_readsThing 86 = .ok (.getfield 22, 3) := by decide +kernel
theorem dX10_readsThing_89 : decode cX10_readsThing 89 = .ok (.iconst 0, 1) := by decide +kernel
theorem dX10_readsThing_90 : decode cX10_readsThing 90 = .ok (.iaload, 1) := by decide +kernel
theorem dX10_readsThing_91 : decode cX10_readsThing 91 = .ok (.iconst 1, 1) := by decide +kernel
theorem dX10_readsThing_92 : decode cX10_readsThing 92 = .ok (.isub, 1) := by decide +kernel
theorem dX10_readsThing_93 : decode cX10_readsThing 93 = .ok (.bipush 44, 2) := by decide +kernel
theorem dX10_readsThing_95 : decode cX10_readsThing 95 = .ok (.invokevirtual 117, 3) := by decide +kernel
theorem dX10_readsThing_98 : decode cX10_readsThing 98 = .ok (.ifCond .eq 23, 3) := by decide +kernel
theorem dX10_readsThing_101 : decode cX10_readsThing 101 = .ok (.aload_n 0, 1) := by decide +kernel
theorem dX10_readsThing_102 : decode cX10_readsThing 102 = .ok (.bipush 41, 2) := by decide +kernel
theorem dX10_readsThing_104 : decode cX10_readsThing 104 = .ok (.iload_n 1, 1) := by decide +kernel
theorem dX10_readsThing_105 : decode cX10_readsThing 105 = .ok (.iadd, 1) := by decide +kernel
theorem dX10_readsThing_106 : decode cX10_readsThing 106 = .ok (.iconst 1, 1) := by decide +kernel
theorem dX10_readsThing_107 : decode cX10_readsThing 107 = .ok (.bipush 9, 2) := by decide +kernel
theorem dX10_readsThing_109 : decode cX10_readsThing 109 = .ok (.bipush 59, 2) := by decide +kernel
theorem dX10_readsThing_111 : decode cX10_readsThing 111 = .ok (.invokevirtual 117, 3) := by decide +kernel
theorem dX10_readsThing_114 : decode cX10_readsThing 114 = .ok (.ifCond .eq 7, 3) := by decide +kernel
theorem dX10_readsThing_117 : decode cX10_readsThing 117 = .ok (.iconst 1, 1) := by decide +kernel
theorem dX10_readsThing_118 : decode cX10_readsThing 118 = .ok (.goto 4, 3) := by decide +kernel
theorem dX10_readsThing_121 : decode cX10_readsThing 121 = .ok (.iconst 0, 1) := by decide +kernel
theorem dX10_readsThing_122 : decode cX10_readsThing 122 = .ok (.ireturn, 1) := by decide +kernel
theorem dX10_reads_0 : decode cX10_reads 0 = .ok (.iconst 0, 1) := by decide +kernel
theorem dX10_reads_1 : decode cX10_reads 1 = .ok (.istore_n 1, 1) := by decide +kernel
theorem dX10_reads_2 : decode cX10_reads 2 = .ok (.iload_n 1, 1) := by decide +kernel
theorem dX10_reads_3 : decode cX10_reads 3 = .ok (.bipush 59, 2) := by decide +kernel
theorem dX10_reads_5 : decode cX10_reads 5 = .ok (.if_icmp .ge 16, 3) := by decide +kernel
theorem dX10_reads_8 : decode cX10_reads 8 = .ok (.aload_n 0, 1) := by decide +kernel
theorem dX10_reads_9 : decode cX10_reads 9 = .ok (.getfield 22, 3) := by decide +kernel
theorem dX10_reads_12 : decode cX10_reads 12 = .ok (.iload_n 1, 1) := by decide +kernel
theorem dX10_reads_13 : decode cX10_reads 13 = .ok (.iconst 0, 1) := by decide +kernel
theorem dX10_reads_14 : decode cX10_reads 14 = .ok (.iastore, 1) := by decide +kernel
theorem dX10_reads_15 : decode cX10_reads 15 = .ok (.iinc 1 1, 3) := by decide +kernel
theorem dX10_reads_18 : decode cX10_reads 18 = .ok (.goto (-16), 3) := by decide +kernel
theorem dX10_reads_21 : decode cX10_reads 21 = .ok (.aload_n 0, 1) := by decide +kernel
theorem dX10_reads_22 : decode cX10_reads 22 = .ok (.iconst 0, 1) := by decide +kernel
theorem dX10_reads_23 : decode cX10_reads 23 = .ok (.putfield 84, 3) := by decide +kernel
theorem dX10_reads_26 : decode cX10_reads 26 = .ok (.aload_n 0, 1) := by decide +kernel
theorem dX10_reads_27 : decode cX10_reads 27 = .ok (.invokevirtual 111, 3) := by decide +kernel
theorem dX10_reads_30 : decode cX10_reads 30 = .ok (.aload_n 0, 1) := by decide +kernel
theorem dX10_reads_31 : decode cX10_reads 31 = .ok (.getfield 105, 3) := by decide +kernel
theorem dX10_reads_34 : decode cX10_reads 34 = .ok (.iconst 1, 1) := by decide +kernel
theorem dX10_reads_35 : decode cX10_reads 35 = .ok (.if_icmp .ne 12, 3) := by decide +kernel
theorem dX10_reads_38 : decode cX10_reads 38 = .ok (.aload_n 0, 1) := by decide +kernel
theorem dX10_reads_39 : decode cX10_reads 39 = .ok (.getfield 94, 3) := by decide +kernel
theorem dX10_reads_42 : decode cX10_reads 42 = .ok (.bipush 118, 2) := by decide +kernel
theorem dX10_reads_44 : decode cX10_reads 44 = .ok (.if_icmp .eq 9, 3) := by decide +kernel
theorem dX10_reads_47 : decode cX10_reads 47 = .ok (.aload_n 0, 1) := by decide +kernel
theorem dX10_reads_48 : decode cX10_reads 48 = .ok (.iconst 1, 1) := by decide +kernel
theorem dX10_reads_49 : decode cX10_reads 49 = .ok (.invokevirtual 114, 3) := by decide +kernel
theorem dX10_reads_52 : decode cX10_reads 52 = .ok (.ireturn, 1) := by decide +kernel
theorem dX10_reads_53 : decode cX10_reads 53 = .ok (.aload_n 0, 1) := by decide +kernel
theorem dX10_reads_54 : decode cX10_reads 54 = .ok (.iconst 2, 1) := by decide +kernel
theorem dX10_reads_55 : decode cX10_reads 55 = .ok (.iconst 0, 1) := by decide +kernel
theorem dX10_reads_56 : decode cX10_reads 56 = .ok (.bipush 20, 2) := by decide +kernel
theorem dX10_reads_58 : decode cX10_reads 58 = .ok (.bipush 44, 2) := by decide +kernel
theorem dX10_reads_60 : decode cX10_reads 60 = .ok (.invokevirtual 117, 3) := by decide +kernel
theorem dX10_reads_63 : decode cX10_reads 63 = .ok (.ifCond .eq 16, 3) := by decide +kernel
theorem dX10_reads_66 : decode cX10_reads 66 = .ok (.aload_n 0, 1) := by decide +kernel
theorem dX10_reads_67 : decode cX10_reads 67 = .ok (.iconst 3, 1) := by decide +kernel
theorem dX10_reads_68 : decode cX10_reads 68 = .ok (.iconst 0, 1) := by decide +kernel
theorem dX10_reads_69 : decode cX10_reads 69 = .ok (.bipush 60, 2) := by decide +kernel
theorem dX10_reads_71 : decode cX10_reads 71 = .ok (.bipush 59, 2) := by decide +kernel
theorem dX10_reads_73 : decode cX10_reads 73 = .ok (.invokevirtual 117, 3) := by decide +kernel
theorem dX10_reads_76 : decode cX10_reads 76 = .ok (.ifCond .ne 5, 3) := by decide +kernel
theorem dX10_reads_79 : decode cX10_reads 79 = .ok (.iconst 0, 1) := by decide +kernel
theorem dX10_reads_80 : decode cX10_reads 80 = .ok (.ireturn, 1) := by decide +kernel
theorem dX10_reads_81 : decode cX10_reads 81 = .ok (.aload_n 0, 1) := by decide +kernel
theorem dX10_reads_82 : decode cX10_reads 82 = .ok (.invokevirtual 111, 3) := by decide +kernel
theorem dX10_reads_85 : decode cX10_reads 85 = .ok (.aload_n 0, 1) := by decide +kernel
theorem dX10_reads_86 : decode cX10_reads 86 = .ok (.getfield 105, 3) := by decide +kernel
theorem dX10_reads_89 : decode cX10_reads 89 = .ok (.ifCond .ne 12, 3) := by decide +kernel
theorem dX10_reads_92 : decode cX10_reads 92 = .ok (.aload_n 0, 1) := by decide +kernel
theorem dX10_reads_93 : decode cX10_reads 93 = .ok (.getfield 22, 3) := by decide +kernel
theorem dX10_reads_96 : decode cX10_reads 96 = .ok (.iconst 1, 1) := by decide +kernel
theorem dX10_reads_97 : decode cX10_reads 97 = .ok (.iaload, 1) := by decide +kernel
theorem dX10_reads_98 : decode cX10_reads 98 = .ok (.ifCond .ne 65, 3) := by decide +kernel
theorem dX10_reads_101 : decode cX10_reads 101 = .ok (.aload_n 0, 1) := by decide +kernel
theorem dX10_reads_102 : decode cX10_reads 102 = .ok (.getfield 105, 3) := by decide +kernel
theorem dX10_reads_105 : decode cX10_reads 105 = .ok (.iconst 1, 1) := by decide +kernel
theorem dX10_reads_106 : decode cX10_reads 106 = .ok (.if_icmp .ne 25, 3) := by decide +kernel
theorem dX10_reads_109 : decode cX10_reads 109 = .ok (.aload_n 0, 1) := by decide +kernel
theorem dX10_reads_110 : decode cX10_reads 110 = .ok (.getfield 94, 3) := by decide +kernel
theorem dX10_reads_113 : decode cX10_reads 113 = .ok (.bipush 114, 2) := by decide +kernel
theorem dX10_reads_115 : decode cX10_reads 115 = .ok (.if_icmp .ne 16, 3) := by decide +kernel
theorem dX10_reads_118 : decode cX10_reads 118 = .ok (.aload_n 0, 1) := by decide +kernel
theorem dX10_reads_119 : decode cX10_reads 119 = .ok (.getfield 22, 3) := by decide +kernel
theorem dX10_reads_122 : decode cX10_reads 122 = .ok (.iconst 1, 1) := by decide +kernel
theorem dX10_reads_123 : decode cX10_reads 123 = .ok (.iaload, 1) := by decide +kernel
theorem dX10_reads_124 : decode cX10_reads 124 = .ok (.ifCond .ne 7, 3) := by decide +kernel
theorem dX10_reads_127 : decode cX10_reads 127 = .ok (.iconst 1, 1) := by decide +kernel
theorem dX10_reads_128 : decode cX10_reads 128 = .ok (.goto 4, 3) := by decide +kernel
theorem dX10_reads_131 : decode cX10_reads 131 = .ok (.iconst 0, 1) := by decide +kernel
theorem dX10_reads_132 : decode cX10_reads 132 = .ok (.istore_n 1, 1) := by decide +kernel
theorem dX10_reads_133 : decode cX10_reads 133 = .ok (.iload_n 1, 1) := by decide +kernel
theorem dX10_reads_134 : decode cX10_reads 134 = .ok (.ifCond .eq 13, 3) := by decide +kernel
theorem dX10_reads_137 : decode cX10_reads 137 = .ok (.aload_n 0, 1) := by decide +kernel
theorem dX10_reads_138 : decode cX10_reads 138 = .ok (.invokevirtual 124, 3) := by decide +kernel
theorem dX10_reads_141 : decode cX10_reads 141 = .ok (.ifCond .ne 15, 3) := by decide +kernel
theorem dX10_reads_144 : decode cX10_reads 144 = .ok (.goto 10, 3) := by decide +kernel
theorem dX10_reads_147 : decode cX10_reads 147 = .ok (.aload_n 0, 1) := by decide +kernel
theorem dX10_reads_148 : decode cX10_reads 148 = .ok (.invokevirtual 128, 3) := by decide +kernel
theorem dX10_reads_151 : decode cX10_reads 151 = .ok (.ifCond .ne 5, 3) := by decide +kernel
theorem dX10_reads_154 : decode cX10_reads 154 = .ok (.iconst 0, 1) := by decide +kernel
theorem dX10_reads_155 : decode cX10_reads 155 = .ok (.ireturn, 1) := by decide +kernel
theorem dX10_reads_156 : decode cX10_reads 156 = .ok (.aload_n 0, 1) := by decide +kernel
theorem dX10_reads_157 : decode cX10_reads 157 = .ok (.invokevirtual 111, 3) := by decide +kernel
theorem dX10_reads_160 : decode cX10_reads 160 = .ok (.goto (-75), 3) := by decide +kernel
theorem dX10_reads_163 : decode cX10_reads 163 = .ok (.iconst 1, 1) := by decide +kernel
theorem dX10_reads_164 : decode cX10_reads 164 = .ok (.ireturn, 1) := by decide +kernel
theorem dX10_street_0 : decode cX10_street 0 = .ok (.aload_n 0, 1) := by decide +kernel
theorem dX10_street_1 : decode cX10_street 1 = .ok (.invokevirtual 131, 3) := by decide +kernel
theorem dX10_street_4 : decode cX10_street 4 = .ok (.istore_n 1, 1) := by decide +kernel
theorem dX10_street_5 : decode cX10_street 5 = .ok (.aload_n 0, 1) := by decide +kernel
theorem dX10_street_6 : decode cX10_street 6 = .ok (.iconst 0, 1) := by decide +kernel
theorem dX10_street_7 : decode cX10_street 7 = .ok (.putfield 80, 3) := by decide +kernel
theorem dX10_street_10 : decode cX10_street 10 = .ok (.iload_n 1, 1) := by decide +kernel
theorem dX10_street_11 : decode cX10_street 11 = .ok (.ifCond .ne 19, 3) := by decide +kernel
theorem dX10_street_14 : decode cX10_street 14 = .ok (.aload_n 0, 1) := by decide +kernel
theorem dX10_street_15 : decode cX10_street 15 = .ok (.aload_n 0, 1) := by decide +kernel
theorem dX10_street_16 : decode cX10_street 16 = .ok (.getfield 108, 3) := by decide +kernel
theorem dX10_street_19 : decode cX10_street 19 = .ok (.putfield 134, 3) := by decide +kernel
theorem dX10_street_22 : decode cX10_street 22 = .ok (.ldc 137, 2) := by decide +kernel
theorem dX10_street_24 : decode cX10_street 24 = .ok (.aload_n 0, 1) := by decide +kernel
theorem dX10_street_25 : decode cX10_street 25 = .ok (.getfield 87, 3) := by decide +kernel
theorem dX10_street_28 : decode cX10_street 28 = .ok (.isub, 1) := by decide +kernel
theorem dX10_street_29 : decode cX10_street 29 = .ok (.ireturn, 1) := by decide +kernel
theorem dX10_street_30 : decode cX10_street 30 = .ok (.aload_n 0, 1) := by decide +kernel
theorem dX10_street_31 : decode cX10_street 31 = .ok (.getfield 22, 3) := by decide +kernel
theorem dX10_street_34 : decode cX10_street 34 = .ok (.iconst 0, 1) := by decide +kernel
theorem dX10_street_35 : decode cX10_street 35 = .ok (.aload_n 0, 1) := by decide +kernel
theorem dX10_street_36 : decode cX10_street 36 = .ok (.getfield 19, 3) := by decide +kernel
theorem dX10_street_39 : decode cX10_street 39 = .ok (.iconst 0, 1) := by decide +kernel
theorem dX10_street_40 : decode cX10_street 40 = .ok (.invokestatic 138, 3) := by decide +kernel
theorem dX10_street_43 : decode cX10_street 43 = .ok (.aload_n 0, 1) := by decide +kernel
theorem dX10_street_44 : decode cX10_street 44 = .ok (.iconst 0, 1) := by decide +kernel
theorem dX10_street_45 : decode cX10_street 45 = .ok (.putfield 142, 3) := by decide +kernel
theorem dX10_street_48 : decode cX10_street 48 = .ok (.aload_n 0, 1) := by decide +kernel
theorem dX10_street_49 : decode cX10_street 49 = .ok (.getfield 19, 3) := by decide +kernel
theorem dX10_street_52 : decode cX10_street 52 = .ok (.iconst 1, 1) := by decide +kernel
theorem dX10_street_53 : decode cX10_street 53 = .ok (.iaload, 1) := by decide +kernel
theorem dX10_street_54 : decode cX10_street 54 = .ok (.ireturn, 1) := by decide +kernel
theorem dX10_fault_0 : decode cX10_fault 0 = .ok (.aload_n 0, 1) := by decide +kernel
theorem dX10_fault_1 : decode cX10_fault 1 = .ok (.getfield 134, 3) := by decide +kernel
theorem dX10_fault_4 : decode cX10_fault 4 = .ok (.ireturn, 1) := by decide +kernel
theorem dX10_flows_0 : decode cX10_flows 0 = .ok (.aload_n 0, 1) := by decide +kernel
theorem dX10_flows_1 : decode cX10_flows 1 = .ok (.iconst 4, 1) := by decide +kernel
theorem dX10_flows_2 : decode cX10_flows 2 = .ok (.iaload, 1) := by decide +kernel
theorem dX10_flows_3 : decode cX10_flows 3 = .ok (.aload_n 0, 1) := by decide +kernel
theorem dX10_flows_4 : decode cX10_flows 4 = .ok (.iconst 3, 1) := by decide +kernel
theorem dX10_flows_5 : decode cX10_flows 5 = .ok (.iaload, 1) := by decide +kernel
theorem dX10_flows_6 : decode cX10_flows 6 = .ok (.if_icmp .ge 13, 3) := by decide +kernel
theorem dX10_flows_9 : decode cX10_flows 9 = .ok (.aload_n 0, 1) := by decide +kernel
theorem dX10_flows_10 : decode cX10_flows 10 = .ok (.bipush 15, 2) := by decide +kernel
theorem dX10_flows_12 : decode cX10_flows 12 = .ok (.dup2, 1) := by decide +kernel
theorem dX10_flows_13 : decode cX10_flows 13 = .ok (.iaload, 1) := by decide +kernel
theorem dX10_flows_14 : decode cX10_flows 14 = .ok (.aload_n 0, 1) := by decide +kernel
theorem dX10_flows_15 : decode cX10_flows 15 = .ok (.iconst 2, 1) := by decide +kernel
theorem dX10_flows_16 : decode cX10_flows 16 = .ok (.iaload, 1) := by decide +kernel
theorem dX10_flows_17 : decode cX10_flows 17 = .ok (.iadd, 1) := by decide +kernel
theorem dX10_flows_18 : decode cX10_flows 18 = .ok (.iastore, 1) := by decide +kernel
theorem dX10_flows_19 : decode cX10_flows 19 = .ok (.aload_n 0, 1) := by decide +kernel
theorem dX10_flows_20 : decode cX10_flows 20 = .ok (.iconst 0, 1) := by decide +kernel
theorem dX10_flows_21 : decode cX10_flows 21 = .ok (.iaload, 1) := by decide +kernel
theorem dX10_flows_22 : decode cX10_flows 22 = .ok (.iconst 1, 1) := by decide +kernel
theorem dX10_flows_23 : decode cX10_flows 23 = .ok (.isub, 1) := by decide +kernel
theorem dX10_flows_24 : decode cX10_flows 24 = .ok (.istore_n 1, 1) := by decide +kernel
theorem dX10_flows_25 : decode cX10_flows 25 = .ok (.iconst 0, 1) := by decide +kernel
theorem dX10_flows_26 : decode cX10_flows 26 = .ok (.istore_n 2, 1) := by decide +kernel
theorem dX10_flows_27 : decode cX10_flows 27 = .ok (.iload_n 2, 1) := by decide +kernel
theorem dX10_flows_28 : decode cX10_flows 28 = .ok (.iload_n 1, 1) := by decide +kernel
theorem dX10_flows_29 : decode cX10_flows 29 = .ok (.if_icmp .gt 112, 3) := by decide +kernel
theorem dX10_flows_32 : decode cX10_flows 32 = .ok (.iload_n 2, 1) := by decide +kernel
theorem dX10_flows_33 : decode cX10_flows 33 = .ok (.iload_n 1, 1) := by decide +kernel
theorem dX10_flows_34 : decode cX10_flows 34 = .ok (.if_icmp .ne 7, 3) := by decide +kernel
theorem dX10_flows_37 : decode cX10_flows 37 = .ok (.iconst 0, 1) := by decide +kernel
theorem dX10_flows_38 : decode cX10_flows 38 = .ok (.goto 19, 3) := by decide +kernel
theorem dX10_flows_41 : decode cX10_flows 41 = .ok (.aload_n 0, 1) := by decide +kernel
theorem dX10_flows_42 : decode cX10_flows 42 = .ok (.iconst 5, 1) := by decide +kernel
theorem dX10_flows_43 : decode cX10_flows 43 = .ok (.iload_n 2, 1) := by decide +kernel
theorem dX10_flows_44 : decode cX10_flows 44 = .ok (.iadd, 1) := by decide +kernel
theorem dX10_flows_45 : decode cX10_flows 45 = .ok (.iconst 1, 1) := by decide +kernel
theorem dX10_flows_46 : decode cX10_flows 46 = .ok (.iadd, 1) := by decide +kernel
theorem dX10_flows_47 : decode cX10_flows 47 = .ok (.iaload, 1) := by decide +kernel
theorem dX10_flows_48 : decode cX10_flows 48 = .ok (.aload_n 0, 1) := by decide +kernel
theorem dX10_flows_49 : decode cX10_flows 49 = .ok (.bipush 15, 2) := by decide +kernel
theorem dX10_flows_51 : decode cX10_flows 51 = .ok (.iload_n 2, 1) := by decide +kernel
theorem dX10_flows_52 : decode cX10_flows 52 = .ok (.iadd, 1) := by decide +kernel
theorem dX10_flows_53 : decode cX10_flows 53 = .ok (.iconst 1, 1) := by decide +kernel
theorem dX10_flows_54 : decode cX10_flows 54 = .ok (.iadd, 1) := by decide +kernel
theorem dX10_flows_55 : decode cX10_flows 55 = .ok (.iaload, 1) := by decide +kernel
theorem dX10_flows_56 : decode cX10_flows 56 = .ok (.iadd, 1) := by decide +kernel
theorem dX10_flows_57 : decode cX10_flows 57 = .ok (.istore_n 3, 1) := by decide +kernel
theorem dX10_flows_58 : decode cX10_flows 58 = .ok (.aload_n 0, 1) := by decide +kernel
theorem dX10_flows_59 : decode cX10_flows 59 = .ok (.iconst 5, 1) := by decide +kernel
theorem dX10_flows_60 : decode cX10_flows 60 = .ok (.iload_n 2, 1) := by decide +kernel
theorem dX10_flows_61 : decode cX10_flows 61 = .ok (.iadd, 1) := by decide +kernel
theorem dX10_flows_62 : decode cX10_flows 62 = .ok (.iaload, 1) := by decide +kernel
theorem dX10_flows_63 : decode cX10_flows 63 = .ok (.aload_n 0, 1) := by decide +kernel
theorem dX10_flows_64 : decode cX10_flows 64 = .ok (.bipush 15, 2) := by decide +kernel
theorem dX10_flows_66 : decode cX10_flows 66 = .ok (.iload_n 2, 1) := by decide +kernel
theorem dX10_flows_67 : decode cX10_flows 67 = .ok (.iadd, 1) := by decide +kernel
theorem dX10_flows_68 : decode cX10_flows 68 = .ok (.iaload, 1) := by decide +kernel
theorem dX10_flows_69 : decode cX10_flows 69 = .ok (.iadd, 1) := by decide +kernel
theorem dX10_flows_70 : decode cX10_flows 70 = .ok (.aload_n 0, 1) := by decide +kernel
theorem dX10_flows_71 : decode cX10_flows 71 = .ok (.bipush 25, 2) := by decide +kernel
theorem dX10_flows_73 : decode cX10_flows 73 = .ok (.iload_n 2, 1) := by decide +kernel
theorem dX10_flows_74 : decode cX10_flows 74 = .ok (.iadd, 1) := by decide +kernel
theorem dX10_flows_75 : decode cX10_flows 75 = .ok (.iaload, 1) := by decide +kernel
theorem dX10_flows_76 : decode cX10_flows 76 = .ok (.isub, 1) := by decide +kernel
theorem dX10_flows_77 : decode cX10_flows 77 = .ok (.iload_n 3, 1) := by decide +kernel
theorem dX10_flows_78 : decode cX10_flows 78 = .ok (.isub, 1) := by decide +kernel
theorem dX10_flows_79 : decode cX10_flows 79 = .ok (.istore 4, 2) := by decide +kernel
theorem dX10_flows_81 : decode cX10_flows 81 = .ok (.iload 4, 2) := by decide +kernel
theorem dX10_flows_83 : decode cX10_flows 83 = .ok (.iconst 2, 1) := by decide +kernel
theorem dX10_flows_84 : decode cX10_flows 84 = .ok (.if_icmp .lt 51, 3) := by decide +kernel
theorem dX10_flows_87 : decode cX10_flows 87 = .ok (.iload 4, 2) := by decide +kernel
theorem dX10_flows_89 : decode cX10_flows 89 = .ok (.iconst 2, 1) := by decide +kernel
theorem dX10_flows_90 : decode cX10_flows 90 = .ok (.idiv, 1) := by decide +kernel
theorem dX10_flows_91 : decode cX10_flows 91 = .ok (.aload_n 0, 1) := by decide +kernel
theorem dX10_flows_92 : decode cX10_flows 92 = .ok (.bipush 15, 2) := by decide +kernel
theorem dX10_flows_94 : decode cX10_flows 94 = .ok (.iload_n 2, 1) := by decide +kernel
theorem dX10_flows_95 : decode cX10_flows 95 = .ok (.iadd, 1) := by decide +kernel
theorem dX10_flows_96 : decode cX10_flows 96 = .ok (.iaload, 1) := by decide +kernel
theorem dX10_flows_97 : decode cX10_flows 97 = .ok (.invokestatic 145, 3) := by decide +kernel
theorem dX10_flows_100 : decode cX10_flows 100 = .ok (.istore 5, 2) := by decide +kernel
theorem dX10_flows_102 : decode cX10_flows 102 = .ok (.aload_n 0, 1) := by decide +kernel
theorem dX10_flows_103 : decode cX10_flows 103 = .ok (.bipush 15, 2) := by decide +kernel
theorem dX10_flows_105 : decode cX10_flows 105 = .ok (.iload_n 2, 1) := by decide +kernel
theorem dX10_flows_106 : decode cX10_flows 106 = .ok (.iadd, 1) := by decide +kernel
theorem dX10_flows_107 : decode cX10_flows 107 = .ok (.dup2, 1) := by decide +kernel
theorem dX10_flows_108 : decode cX10_flows 108 = .ok (.iaload, 1) := by decide +kernel
theorem dX10_flows_109 : decode cX10_flows 109 = .ok (.iload 5, 2) := by decide +kernel
theorem dX10_flows_111 : decode cX10_flows 111 = .ok (.isub, 1) := by decide +kernel
theorem dX10_flows_112 : decode cX10_flows 112 = .ok (.iastore, 1) := by decide +kernel
theorem dX10_flows_113 : decode cX10_flows 113 = .ok (.aload_n 0, 1) := by decide +kernel
theorem dX10_flows_114 : decode cX10_flows 114 = .ok (.bipush 15, 2) := by decide +kernel
theorem dX10_flows_116 : decode cX10_flows 116 = .ok (.iload_n 2, 1) := by decide +kernel
theorem dX10_flows_117 : decode cX10_flows 117 = .ok (.iadd, 1) := by decide +kernel
theorem dX10_flows_118 : decode cX10_flows 118 = .ok (.iconst 1, 1) := by decide +kernel
theorem dX10_flows_119 : decode cX10_flows 119 = .ok (.iadd, 1) := by decide +kernel
theorem dX10_flows_120 : decode cX10_flows 120 = .ok (.dup2, 1) := by decide +kernel
theorem dX10_flows_121 : decode cX10_flows 121 = .ok (.iaload, 1) := by decide +kernel
theorem dX10_flows_122 : decode cX10_flows 122 = .ok (.iload_n 2, 1) := by decide +kernel
theorem dX10_flows_123 : decode cX10_flows 123 = .ok (.iload_n 1, 1) := by decide +kernel
theorem dX10_flows_124 : decode cX10_flows 124 = .ok (.if_icmp .ne 7, 3) := by decide +kernel
theorem dX10_flows_127 : decode cX10_flows 127 = .ok (.iconst 0, 1) := by decide +kernel
theorem dX10_flows_128 : decode cX10_flows 128 = .ok (.goto 5, 3) := by decide +kernel
theorem dX10_flows_131 : decode cX10_flows 131 = .ok (.iload 5, 2) := by decide +kernel
theorem dX10_flows_133 : decode cX10_flows 133 = .ok (.iadd, 1) := by decide +kernel
theorem dX10_flows_134 : decode cX10_flows 134 = .ok (.iastore, 1) := by decide +kernel
theorem dX10_flows_135 : decode cX10_flows 135 = .ok (.iinc 2 1, 3) := by decide +kernel
theorem dX10_flows_138 : decode cX10_flows 138 = .ok (.goto (-111), 3) := by decide +kernel
theorem dX10_flows_141 : decode cX10_flows 141 = .ok (.return_, 1) := by decide +kernel
theorem dX10_lies_0 : decode cX10_lies 0 = .ok (.iload_n 1, 1) := by decide +kernel
theorem dX10_lies_1 : decode cX10_lies 1 = .ok (.ifCond .lt 16, 3) := by decide +kernel
theorem dX10_lies_4 : decode cX10_lies 4 = .ok (.aload_n 0, 1) := by decide +kernel
theorem dX10_lies_5 : decode cX10_lies 5 = .ok (.bipush 15, 2) := by decide +kernel
theorem dX10_lies_7 : decode cX10_lies 7 = .ok (.iload_n 1, 1) := by decide +kernel
theorem dX10_lies_8 : decode cX10_lies 8 = .ok (.iadd, 1) := by decide +kernel
theorem dX10_lies_9 : decode cX10_lies 9 = .ok (.iaload, 1) := by decide +kernel
theorem dX10_lies_10 : decode cX10_lies 10 = .ok (.ifCond .le 7, 3) := by decide +kernel
theorem dX10_lies_13 : decode cX10_lies 13 = .ok (.iconst 1, 1) := by decide +kernel
theorem dX10_lies_14 : decode cX10_lies 14 = .ok (.goto 4, 3) := by decide +kernel
theorem dX10_lies_17 : decode cX10_lies 17 = .ok (.iconst 0, 1) := by decide +kernel
theorem dX10_lies_18 : decode cX10_lies 18 = .ok (.ireturn, 1) := by decide +kernel
theorem dX10_stepsOf_0 : decode cX10_stepsOf 0 = .ok (.aload_n 0, 1) := by decide +kernel
theorem dX10_stepsOf_1 : decode cX10_stepsOf 1 = .ok (.bipush 47, 2) := by decide +kernel
theorem dX10_stepsOf_3 : decode cX10_stepsOf 3 = .ok (.iload_n 1, 1) := by decide +kernel
theorem dX10_stepsOf_4 : decode cX10_stepsOf 4 = .ok (.iadd, 1) := by decide +kernel
theorem dX10_stepsOf_5 : decode cX10_stepsOf 5 = .ok (.iaload, 1) := by decide +kernel
theorem dX10_stepsOf_6 : decode cX10_stepsOf 6 = .ok (.istore_n 2, 1) := by decide +kernel
theorem dX10_stepsOf_7 : decode cX10_stepsOf 7 = .ok (.aload_n 0, 1) := by decide +kernel
theorem dX10_stepsOf_8 : decode cX10_stepsOf 8 = .ok (.iload_n 2, 1) := by decide +kernel
theorem dX10_stepsOf_9 : decode cX10_stepsOf 9 = .ok (.invokestatic 149, 3) := by decide +kernel
theorem dX10_stepsOf_12 : decode cX10_stepsOf 12 = .ok (.istore_n 3, 1) := by decide +kernel
theorem dX10_stepsOf_13 : decode cX10_stepsOf 13 = .ok (.iload_n 3, 1) := by decide +kernel
theorem dX10_stepsOf_14 : decode cX10_stepsOf 14 = .ok (.ifCond .ne 13, 3) := by decide +kernel
theorem dX10_stepsOf_17 : decode cX10_stepsOf 17 = .ok (.aload_n 0, 1) := by decide +kernel
theorem dX10_stepsOf_18 : decode cX10_stepsOf 18 = .ok (.iload_n 2, 1) := by decide +kernel
theorem dX10_stepsOf_19 : decode cX10_stepsOf 19 = .ok (.iconst 1, 1) := by decide +kernel
theorem dX10_stepsOf_20 : decode cX10_stepsOf 20 = .ok (.isub, 1) := by decide +kernel
theorem dX10_stepsOf_21 : decode cX10_stepsOf 21 = .ok (.invokestatic 149, 3) := by decide +kernel
theorem dX10_stepsOf_24 : decode cX10_stepsOf 24 = .ok (.ifCond .eq 7, 3) := by decide +kernel
theorem dX10_stepsOf_27 : decode cX10_stepsOf 27 = .ok (.iconst 1, 1) := by decide +kernel
theorem dX10_stepsOf_28 : decode cX10_stepsOf 28 = .ok (.goto 4, 3) := by decide +kernel
theorem dX10_stepsOf_31 : decode cX10_stepsOf 31 = .ok (.iconst 0, 1) := by decide +kernel
theorem dX10_stepsOf_32 : decode cX10_stepsOf 32 = .ok (.istore 4, 2) := by decide +kernel
theorem dX10_stepsOf_34 : decode cX10_stepsOf 34 = .ok (.iload 4, 2) := by decide +kernel
theorem dX10_stepsOf_36 : decode cX10_stepsOf 36 = .ok (.ifCond .ne 13, 3) := by decide +kernel
theorem dX10_stepsOf_39 : decode cX10_stepsOf 39 = .ok (.aload_n 0, 1) := by decide +kernel
theorem dX10_stepsOf_40 : decode cX10_stepsOf 40 = .ok (.iload_n 2, 1) := by decide +kernel
theorem dX10_stepsOf_41 : decode cX10_stepsOf 41 = .ok (.iconst 2, 1) := by decide +kernel
theorem dX10_stepsOf_42 : decode cX10_stepsOf 42 = .ok (.isub, 1) := by decide +kernel
theorem dX10_stepsOf_43 : decode cX10_stepsOf 43 = .ok (.invokestatic 149, 3) := by decide +kernel
theorem dX10_stepsOf_46 : decode cX10_stepsOf 46 = .ok (.ifCond .eq 7, 3) := by decide +kernel
theorem dX10_stepsOf_49 : decode cX10_stepsOf 49 = .ok (.iconst 1, 1) := by decide +kernel
theorem dX10_stepsOf_50 : decode cX10_stepsOf 50 = .ok (.goto 4, 3) := by decide +kernel
theorem dX10_stepsOf_53 : decode cX10_stepsOf 53 = .ok (.iconst 0, 1) := by decide +kernel
theorem dX10_stepsOf_54 : decode cX10_stepsOf 54 = .ok (.istore 5, 2) := by decide +kernel
theorem dX10_stepsOf_56 : decode cX10_stepsOf 56 = .ok (.aload_n 0, 1) := by decide +kernel
theorem dX10_stepsOf_57 : decode cX10_stepsOf 57 = .ok (.bipush 35, 2) := by decide +kernel
theorem dX10_stepsOf_59 : decode cX10_stepsOf 59 = .ok (.iload_n 1, 1) := by decide +kernel
theorem dX10_stepsOf_60 : decode cX10_stepsOf 60 = .ok (.iadd, 1) := by decide +kernel
theorem dX10_stepsOf_61 : decode cX10_stepsOf 61 = .ok (.iaload, 1) := by decide +kernel
theorem dX10_stepsOf_62 : decode cX10_stepsOf 62 = .ok (.tableswitch 81 1 4 #[30, 41, 51, 70], 30) := by decide +kernel
theorem dX10_stepsOf_92 : decode cX10_stepsOf 92 = .ok (.iload 4, 2) := by decide +kernel
theorem dX10_stepsOf_94 : decode cX10_stepsOf 94 = .ok (.ifCond .eq 7, 3) := by decide +kernel
theorem dX10_stepsOf_97 : decode cX10_stepsOf 97 = .ok (.iconst 1, 1) := by decide +kernel
theorem dX10_stepsOf_98 : decode cX10_stepsOf 98 = .ok (.goto 4, 3) := by decide +kernel
theorem dX10_stepsOf_101 : decode cX10_stepsOf 101 = .ok (.iconst 0, 1) := by decide +kernel
theorem dX10_stepsOf_102 : decode cX10_stepsOf 102 = .ok (.ireturn, 1) := by decide +kernel
theorem dX10_stepsOf_103 : decode cX10_stepsOf 103 = .ok (.iload_n 3, 1) := by decide +kernel
theorem dX10_stepsOf_104 : decode cX10_stepsOf 104 = .ok (.ifCond .eq 7, 3) := by decide +kernel
theorem dX10_stepsOf_107 : decode cX10_stepsOf 107 = .ok (.iconst 2, 1) := by decide +kernel
theorem dX10_stepsOf_108 : decode cX10_stepsOf 108 = .ok (.goto 4, 3) := by decide +kernel
theorem dX10_stepsOf_111 : decode cX10_stepsOf 111 = .ok (.iconst 0, 1) := by decide +kernel
theorem dX10_stepsOf_112 : decode cX10_stepsOf 112 = .ok (.ireturn, 1) := by decide +kernel
theorem dX10_stepsOf_113 : decode cX10_stepsOf 113 = .ok (.iload 4, 2) := by decide +kernel
theorem dX10_stepsOf_115 : decode cX10_stepsOf 115 = .ok (.ifCond .eq 15, 3) := by decide +kernel
theorem dX10_stepsOf_118 : decode cX10_stepsOf 118 = .ok (.aload_n 0, 1) := by decide +kernel
theorem dX10_stepsOf_119 : decode cX10_stepsOf 119 = .ok (.iconst 4, 1) := by decide +kernel
theorem dX10_stepsOf_120 : decode cX10_stepsOf 120 = .ok (.iaload, 1) := by decide +kernel
theorem dX10_stepsOf_121 : decode cX10_stepsOf 121 = .ok (.iconst 2, 1) := by decide +kernel
theorem dX10_stepsOf_122 : decode cX10_stepsOf 122 = .ok (.irem, 1) := by decide +kernel
theorem dX10_stepsOf_123 : decode cX10_stepsOf 123 = .ok (.ifCond .ne 7, 3) := by decide +kernel
theorem dX10_stepsOf_126 : decode cX10_stepsOf 126 = .ok (.iconst 1, 1) := by decide +kernel
theorem dX10_stepsOf_127 : decode cX10_stepsOf 127 = .ok (.goto 4, 3) := by decide +kernel
theorem dX10_stepsOf_130 : decode cX10_stepsOf 130 = .ok (.iconst 0, 1) := by decide +kernel
theorem dX10_stepsOf_131 : decode cX10_stepsOf 131 = .ok (.ireturn, 1) := by decide +kernel
theorem dX10_stepsOf_132 : decode cX10_stepsOf 132 = .ok (.iload 5, 2) := by decide +kernel
theorem dX10_stepsOf_134 : decode cX10_stepsOf 134 = .ok (.ifCond .eq 7, 3) := by decide +kernel
theorem dX10_stepsOf_137 : decode cX10_stepsOf 137 = .ok (.iconst 1, 1) := by decide +kernel
theorem dX10_stepsOf_138 : decode cX10_stepsOf 138 = .ok (.goto 4, 3) := by decide +kernel
theorem dX10_stepsOf_141 : decode cX10_stepsOf 141 = .ok (.iconst 0, 1) := by decide +kernel
theorem dX10_stepsOf_142 : decode cX10_stepsOf 142 = .ok (.ireturn, 1) := by decide +kernel
theorem dX10_stepsOf_143 : decode cX10_stepsOf 143 = .ok (.iload_n 3, 1) := by decide +kernel
theorem dX10_stepsOf_144 : decode cX10_stepsOf 144 = .ok (.ifCond .eq 7, 3) := by decide +kernel
theorem dX10_stepsOf_147 : decode cX10_stepsOf 147 = .ok (.iconst 2, 1) := by decide +kernel
theorem dX10_stepsOf_148 : decode cX10_stepsOf 148 = .ok (.goto 13, 3) := by decide +kernel
theorem dX10_stepsOf_151 : decode cX10_stepsOf 151 = .ok (.iload 5, 2) := by decide +kernel
theorem dX10_stepsOf_153 : decode cX10_stepsOf 153 = .ok (.ifCond .eq 7, 3) := by decide +kernel
theorem dX10_stepsOf_156 : decode cX10_stepsOf 156 = .ok (.iconst 1, 1) := by decide +kernel
theorem dX10_stepsOf_157 : decode cX10_stepsOf 157 = .ok (.goto 4, 3) := by decide +kernel
theorem dX10_stepsOf_160 : decode cX10_stepsOf 160 = .ok (.iconst 0, 1) := by decide +kernel
theorem dX10_stepsOf_161 : decode cX10_stepsOf 161 = .ok (.ireturn, 1) := by decide +kernel
theorem dX10_goes_0 : decode cX10_goes 0 = .ok (.aload_n 0, 1) := by decide +kernel
theorem dX10_goes_1 : decode cX10_goes 1 = .ok (.bipush 47, 2) := by decide +kernel
theorem dX10_goes_3 : decode cX10_goes 3 = .ok (.iload_n 1, 1) := by decide +kernel
theorem dX10_goes_4 : decode cX10_goes 4 = .ok (.iadd, 1) := by decide +kernel
theorem dX10_goes_5 : decode cX10_goes 5 = .ok (.iaload, 1) := by decide +kernel
theorem dX10_goes_6 : decode cX10_goes 6 = .ok (.iload_n 2, 1) := by decide +kernel
theorem dX10_goes_7 : decode cX10_goes 7 = .ok (.iadd, 1) := by decide +kernel
theorem dX10_goes_8 : decode cX10_goes 8 = .ok (.aload_n 0, 1) := by decide +kernel
theorem dX10_goes_9 : decode cX10_goes 9 = .ok (.iconst 0, 1) := by decide +kernel
theorem dX10_goes_10 : decode cX10_goes 10 = .ok (.iaload, 1) := by decide +kernel
theorem dX10_goes_11 : decode cX10_goes 11 = .ok (.if_icmp .lt 13, 3) := by decide +kernel
theorem dX10_goes_14 : decode cX10_goes 14 = .ok (.aload_n 0, 1) := by decide +kernel
theorem dX10_goes_15 : decode cX10_goes 15 = .ok (.bipush 53, 2) := by decide +kernel
theorem dX10_goes_17 : decode cX10_goes 17 = .ok (.iload_n 1, 1) := by decide +kernel
theorem dX10_goes_18 : decode cX10_goes 18 = .ok (.iadd, 1) := by decide +kernel
theorem dX10_goes_19 : decode cX10_goes 19 = .ok (.iconst 1, 1) := by decide +kernel
theorem dX10_goes_20 : decode cX10_goes 20 = .ok (.iastore, 1) := by decide +kernel
theorem dX10_goes_21 : decode cX10_goes 21 = .ok (.goto 13, 3) := by decide +kernel
theorem dX10_goes_24 : decode cX10_goes 24 = .ok (.aload_n 0, 1) := by decide +kernel
theorem dX10_goes_25 : decode cX10_goes 25 = .ok (.bipush 47, 2) := by decide +kernel
theorem dX10_goes_27 : decode cX10_goes 27 = .ok (.iload_n 1, 1) := by decide +kernel
theorem dX10_goes_28 : decode cX10_goes 28 = .ok (.iadd, 1) := by decide +kernel
theorem dX10_goes_29 : decode cX10_goes 29 = .ok (.dup2, 1) := by decide +kernel
theorem dX10_goes_30 : decode cX10_goes 30 = .ok (.iaload, 1) := by decide +kernel
theorem dX10_goes_31 : decode cX10_goes 31 = .ok (.iload_n 2, 1) := by decide +kernel
theorem dX10_goes_32 : decode cX10_goes 32 = .ok (.iadd, 1) := by decide +kernel
theorem dX10_goes_33 : decode cX10_goes 33 = .ok (.iastore, 1) := by decide +kernel
theorem dX10_goes_34 : decode cX10_goes 34 = .ok (.return_, 1) := by decide +kernel
theorem dX10_passes_0 : decode cX10_passes 0 = .ok (.aload_n 0, 1) := by decide +kernel
theorem dX10_passes_1 : decode cX10_passes 1 = .ok (.invokestatic 153, 3) := by decide +kernel
theorem dX10_passes_4 : decode cX10_passes 4 = .ok (.iconst 0, 1) := by decide +kernel
theorem dX10_passes_5 : decode cX10_passes 5 = .ok (.istore_n 1, 1) := by decide +kernel
theorem dX10_passes_6 : decode cX10_passes 6 = .ok (.iload_n 1, 1) := by decide +kernel
theorem dX10_passes_7 : decode cX10_passes 7 = .ok (.aload_n 0, 1) := by decide +kernel
theorem dX10_passes_8 : decode cX10_passes 8 = .ok (.iconst 1, 1) := by decide +kernel
theorem dX10_passes_9 : decode cX10_passes 9 = .ok (.iaload, 1) := by decide +kernel
theorem dX10_passes_10 : decode cX10_passes 10 = .ok (.if_icmp .ge 28, 3) := by decide +kernel
theorem dX10_passes_13 : decode cX10_passes 13 = .ok (.aload_n 0, 1) := by decide +kernel
theorem dX10_passes_14 : decode cX10_passes 14 = .ok (.bipush 53, 2) := by decide +kernel
theorem dX10_passes_16 : decode cX10_passes 16 = .ok (.iload_n 1, 1) := by decide +kernel
theorem dX10_passes_17 : decode cX10_passes 17 = .ok (.iadd, 1) := by decide +kernel
theorem dX10_passes_18 : decode cX10_passes 18 = .ok (.iaload, 1) := by decide +kernel
theorem dX10_passes_19 : decode cX10_passes 19 = .ok (.ifCond .ne 13, 3) := by decide +kernel
theorem dX10_passes_22 : decode cX10_passes 22 = .ok (.aload_n 0, 1) := by decide +kernel
theorem dX10_passes_23 : decode cX10_passes 23 = .ok (.iload_n 1, 1) := by decide +kernel
theorem dX10_passes_24 : decode cX10_passes 24 = .ok (.aload_n 0, 1) := by decide +kernel
theorem dX10_passes_25 : decode cX10_passes 25 = .ok (.iload_n 1, 1) := by decide +kernel
theorem dX10_passes_26 : decode cX10_passes 26 = .ok (.invokestatic 157, 3) := by decide +kernel
theorem dX10_passes_29 : decode cX10_passes 29 = .ok (.invokestatic 161, 3) := by decide +kernel
theorem dX10_passes_32 : decode cX10_passes 32 = .ok (.iinc 1 1, 3) := by decide +kernel
theorem dX10_passes_35 : decode cX10_passes 35 = .ok (.goto (-29), 3) := by decide +kernel
theorem dX10_passes_38 : decode cX10_passes 38 = .ok (.iconst 0, 1) := by decide +kernel
theorem dX10_passes_39 : decode cX10_passes 39 = .ok (.istore_n 1, 1) := by decide +kernel
theorem dX10_passes_40 : decode cX10_passes 40 = .ok (.iload_n 1, 1) := by decide +kernel
theorem dX10_passes_41 : decode cX10_passes 41 = .ok (.aload_n 0, 1) := by decide +kernel
theorem dX10_passes_42 : decode cX10_passes 42 = .ok (.iconst 1, 1) := by decide +kernel
theorem dX10_passes_43 : decode cX10_passes 43 = .ok (.iaload, 1) := by decide +kernel
theorem dX10_passes_44 : decode cX10_passes 44 = .ok (.if_icmp .ge 45, 3) := by decide +kernel
theorem dX10_passes_47 : decode cX10_passes 47 = .ok (.aload_n 0, 1) := by decide +kernel
theorem dX10_passes_48 : decode cX10_passes 48 = .ok (.bipush 53, 2) := by decide +kernel
theorem dX10_passes_50 : decode cX10_passes 50 = .ok (.iload_n 1, 1) := by decide +kernel
theorem dX10_passes_51 : decode cX10_passes 51 = .ok (.iadd, 1) := by decide +kernel
theorem dX10_passes_52 : decode cX10_passes 52 = .ok (.iaload, 1) := by decide +kernel
theorem dX10_passes_53 : decode cX10_passes 53 = .ok (.ifCond .ne 30, 3) := by decide +kernel
theorem dX10_passes_56 : decode cX10_passes 56 = .ok (.aload_n 0, 1) := by decide +kernel
theorem dX10_passes_57 : decode cX10_passes 57 = .ok (.bipush 15, 2) := by decide +kernel
theorem dX10_passes_59 : decode cX10_passes 59 = .ok (.aload_n 0, 1) := by decide +kernel
theorem dX10_passes_60 : decode cX10_passes 60 = .ok (.bipush 47, 2) := by decide +kernel
theorem dX10_passes_62 : decode cX10_passes 62 = .ok (.iload_n 1, 1) := by decide +kernel
theorem dX10_passes_63 : decode cX10_passes 63 = .ok (.iadd, 1) := by decide +kernel
theorem dX10_passes_64 : decode cX10_passes 64 = .ok (.iaload, 1) := by decide +kernel
theorem dX10_passes_65 : decode cX10_passes 65 = .ok (.iadd, 1) := by decide +kernel
theorem dX10_passes_66 : decode cX10_passes 66 = .ok (.iaload, 1) := by decide +kernel
theorem dX10_passes_67 : decode cX10_passes 67 = .ok (.aload_n 0, 1) := by decide +kernel
theorem dX10_passes_68 : decode cX10_passes 68 = .ok (.bipush 41, 2) := by decide +kernel
theorem dX10_passes_70 : decode cX10_passes 70 = .ok (.iload_n 1, 1) := by decide +kernel
theorem dX10_passes_71 : decode cX10_passes 71 = .ok (.iadd, 1) := by decide +kernel
theorem dX10_passes_72 : decode cX10_passes 72 = .ok (.iaload, 1) := by decide +kernel
theorem dX10_passes_73 : decode cX10_passes 73 = .ok (.if_icmp .lt 10, 3) := by decide +kernel
theorem dX10_passes_76 : decode cX10_passes 76 = .ok (.aload_n 0, 1) := by decide +kernel
theorem dX10_passes_77 : decode cX10_passes 77 = .ok (.bipush 53, 2) := by decide +kernel
theorem dX10_passes_79 : decode cX10_passes 79 = .ok (.iload_n 1, 1) := by decide +kernel
theorem dX10_passes_80 : decode cX10_passes 80 = .ok (.iadd, 1) := by decide +kernel
theorem dX10_passes_81 : decode cX10_passes 81 = .ok (.iconst 2, 1) := by decide +kernel
theorem dX10_passes_82 : decode cX10_passes 82 = .ok (.iastore, 1) := by decide +kernel
theorem dX10_passes_83 : decode cX10_passes 83 = .ok (.iinc 1 1, 3) := by decide +kernel
theorem dX10_passes_86 : decode cX10_passes 86 = .ok (.goto (-46), 3) := by decide +kernel
theorem dX10_passes_89 : decode cX10_passes 89 = .ok (.aload_n 0, 1) := by decide +kernel
theorem dX10_passes_90 : decode cX10_passes 90 = .ok (.iconst 4, 1) := by decide +kernel
theorem dX10_passes_91 : decode cX10_passes 91 = .ok (.dup2, 1) := by decide +kernel
theorem dX10_passes_92 : decode cX10_passes 92 = .ok (.iaload, 1) := by decide +kernel
theorem dX10_passes_93 : decode cX10_passes 93 = .ok (.iconst 1, 1) := by decide +kernel
theorem dX10_passes_94 : decode cX10_passes 94 = .ok (.iadd, 1) := by decide +kernel
theorem dX10_passes_95 : decode cX10_passes 95 = .ok (.iastore, 1) := by decide +kernel
theorem dX10_passes_96 : decode cX10_passes 96 = .ok (.return_, 1) := by decide +kernel
theorem dX10_goesBy_0 : decode cX10_goesBy 0 = .ok (.iconst 0, 1) := by decide +kernel
theorem dX10_goesBy_1 : decode cX10_goesBy 1 = .ok (.istore_n 2, 1) := by decide +kernel
theorem dX10_goesBy_2 : decode cX10_goesBy 2 = .ok (.iload_n 2, 1) := by decide +kernel
theorem dX10_goesBy_3 : decode cX10_goesBy 3 = .ok (.iload_n 1, 1) := by decide +kernel
theorem dX10_goesBy_4 : decode cX10_goesBy 4 = .ok (.if_icmp .ge 13, 3) := by decide +kernel
theorem dX10_goesBy_7 : decode cX10_goesBy 7 = .ok (.aload_n 0, 1) := by decide +kernel
theorem dX10_goesBy_8 : decode cX10_goesBy 8 = .ok (.invokestatic 165, 3) := by decide +kernel
theorem dX10_goesBy_11 : decode cX10_goesBy 11 = .ok (.iinc 2 1, 3) := by decide +kernel
theorem dX10_goesBy_14 : decode cX10_goesBy 14 = .ok (.goto (-12), 3) := by decide +kernel
theorem dX10_goesBy_17 : decode cX10_goesBy 17 = .ok (.return_, 1) := by decide +kernel
theorem dX10_whereOf_0 : decode cX10_whereOf 0 = .ok (.aload_n 0, 1) := by decide +kernel
theorem dX10_whereOf_1 : decode cX10_whereOf 1 = .ok (.bipush 53, 2) := by decide +kernel
theorem dX10_whereOf_3 : decode cX10_whereOf 3 = .ok (.iload_n 1, 1) := by decide +kernel
theorem dX10_whereOf_4 : decode cX10_whereOf 4 = .ok (.iadd, 1) := by decide +kernel
theorem dX10_whereOf_5 : decode cX10_whereOf 5 = .ok (.iaload, 1) := by decide +kernel
theorem dX10_whereOf_6 : decode cX10_whereOf 6 = .ok (.iconst 1, 1) := by decide +kernel
theorem dX10_whereOf_7 : decode cX10_whereOf 7 = .ok (.if_icmp .ne 8, 3) := by decide +kernel
theorem dX10_whereOf_10 : decode cX10_whereOf 10 = .ok (.bipush 20, 2) := by decide +kernel
theorem dX10_whereOf_12 : decode cX10_whereOf 12 = .ok (.goto 31, 3) := by decide +kernel
theorem dX10_whereOf_15 : decode cX10_whereOf 15 = .ok (.aload_n 0, 1) := by decide +kernel
theorem dX10_whereOf_16 : decode cX10_whereOf 16 = .ok (.bipush 53, 2) := by decide +kernel
theorem dX10_whereOf_18 : decode cX10_whereOf 18 = .ok (.iload_n 1, 1) := by decide +kernel
theorem dX10_whereOf_19 : decode cX10_whereOf 19 = .ok (.iadd, 1) := by decide +kernel
theorem dX10_whereOf_20 : decode cX10_whereOf 20 = .ok (.iaload, 1) := by decide +kernel
theorem dX10_whereOf_21 : decode cX10_whereOf 21 = .ok (.iconst 2, 1) := by decide +kernel
theorem dX10_whereOf_22 : decode cX10_whereOf 22 = .ok (.if_icmp .ne 15, 3) := by decide +kernel
theorem dX10_whereOf_25 : decode cX10_whereOf 25 = .ok (.bipush 30, 2) := by decide +kernel
theorem dX10_whereOf_27 : decode cX10_whereOf 27 = .ok (.aload_n 0, 1) := by decide +kernel
theorem dX10_whereOf_28 : decode cX10_whereOf 28 = .ok (.bipush 47, 2) := by decide +kernel
theorem dX10_whereOf_30 : decode cX10_whereOf 30 = .ok (.iload_n 1, 1) := by decide +kernel
theorem dX10_whereOf_31 : decode cX10_whereOf 31 = .ok (.iadd, 1) := by decide +kernel
theorem dX10_whereOf_32 : decode cX10_whereOf 32 = .ok (.iaload, 1) := by decide +kernel
theorem dX10_whereOf_33 : decode cX10_whereOf 33 = .ok (.iadd, 1) := by decide +kernel
theorem dX10_whereOf_34 : decode cX10_whereOf 34 = .ok (.goto 9, 3) := by decide +kernel
theorem dX10_whereOf_37 : decode cX10_whereOf 37 = .ok (.aload_n 0, 1) := by decide +kernel
theorem dX10_whereOf_38 : decode cX10_whereOf 38 = .ok (.bipush 47, 2) := by decide +kernel
theorem dX10_whereOf_40 : decode cX10_whereOf 40 = .ok (.iload_n 1, 1) := by decide +kernel
theorem dX10_whereOf_41 : decode cX10_whereOf 41 = .ok (.iadd, 1) := by decide +kernel
theorem dX10_whereOf_42 : decode cX10_whereOf 42 = .ok (.iaload, 1) := by decide +kernel
theorem dX10_whereOf_43 : decode cX10_whereOf 43 = .ok (.ireturn, 1) := by decide +kernel
theorem dX10_those_0 : decode cX10_those 0 = .ok (.iconst 0, 1) := by decide +kernel
theorem dX10_those_1 : decode cX10_those 1 = .ok (.istore_n 2, 1) := by decide +kernel
theorem dX10_those_2 : decode cX10_those 2 = .ok (.iconst 0, 1) := by decide +kernel
theorem dX10_those_3 : decode cX10_those 3 = .ok (.istore_n 3, 1) := by decide +kernel
theorem dX10_those_4 : decode cX10_those 4 = .ok (.iload_n 3, 1) := by decide +kernel
theorem dX10_those_5 : decode cX10_those 5 = .ok (.aload_n 0, 1) := by decide +kernel
theorem dX10_those_6 : decode cX10_those 6 = .ok (.iconst 1, 1) := by decide +kernel
theorem dX10_those_7 : decode cX10_those 7 = .ok (.iaload, 1) := by decide +kernel
theorem dX10_those_8 : decode cX10_those 8 = .ok (.if_icmp .ge 29, 3) := by decide +kernel
theorem dX10_those_11 : decode cX10_those 11 = .ok (.iload_n 2, 1) := by decide +kernel
theorem dX10_those_12 : decode cX10_those 12 = .ok (.aload_n 0, 1) := by decide +kernel
theorem dX10_those_13 : decode cX10_those 13 = .ok (.bipush 53, 2) := by decide +kernel
theorem dX10_those_15 : decode cX10_those 15 = .ok (.iload_n 3, 1) := by decide +kernel
theorem dX10_those_16 : decode cX10_those 16 = .ok (.iadd, 1) := by decide +kernel
theorem dX10_those_17 : decode cX10_those 17 = .ok (.iaload, 1) := by decide +kernel
theorem dX10_those_18 : decode cX10_those 18 = .ok (.iload_n 1, 1) := by decide +kernel
theorem dX10_those_19 : decode cX10_those 19 = .ok (.if_icmp .ne 9, 3) := by decide +kernel
theorem dX10_those_22 : decode cX10_those 22 = .ok (.iconst 1, 1) := by decide +kernel
theorem dX10_those_23 : decode cX10_those 23 = .ok (.iload_n 3, 1) := by decide +kernel
theorem dX10_those_24 : decode cX10_those 24 = .ok (.ishl, 1) := by decide +kernel
theorem dX10_those_25 : decode cX10_those 25 = .ok (.goto 4, 3) := by decide +kernel
theorem dX10_those_28 : decode cX10_those 28 = .ok (.iconst 0, 1) := by decide +kernel
theorem dX10_those_29 : decode cX10_those 29 = .ok (.ior, 1) := by decide +kernel
theorem dX10_those_30 : decode cX10_those 30 = .ok (.istore_n 2, 1) := by decide +kernel
theorem dX10_those_31 : decode cX10_those 31 = .ok (.iinc 3 1, 3) := by decide +kernel
theorem dX10_those_34 : decode cX10_those 34 = .ok (.goto (-30), 3) := by decide +kernel
theorem dX10_those_37 : decode cX10_those 37 = .ok (.iload_n 2, 1) := by decide +kernel
theorem dX10_those_38 : decode cX10_those 38 = .ok (.ireturn, 1) := by decide +kernel
theorem dX10_stones_0 : decode cX10_stones 0 = .ok (.aload_n 0, 1) := by decide +kernel
theorem dX10_stones_1 : decode cX10_stones 1 = .ok (.iconst 2, 1) := by decide +kernel
theorem dX10_stones_2 : decode cX10_stones 2 = .ok (.invokestatic 168, 3) := by decide +kernel
theorem dX10_stones_5 : decode cX10_stones 5 = .ok (.invokestatic 171, 3) := by decide +kernel
theorem dX10_stones_8 : decode cX10_stones 8 = .ok (.ireturn, 1) := by decide +kernel
theorem dX10_isThing_0 : decode cX10_isThing 0 = .ok (.iload_n 1, 1) := by decide +kernel
theorem dX10_isThing_1 : decode cX10_isThing 1 = .ok (.i2l, 1) := by decide +kernel
theorem dX10_isThing_2 : decode cX10_isThing 2 = .ok (.lconst 0, 1) := by decide +kernel
theorem dX10_isThing_3 : decode cX10_isThing 3 = .ok (.aload_n 0, 1) := by decide +kernel
theorem dX10_isThing_4 : decode cX10_isThing 4 = .ok (.getfield 19, 3) := by decide +kernel
theorem dX10_isThing_7 : decode cX10_isThing 7 = .ok (.iconst 1, 1) := by decide +kernel
theorem dX10_isThing_8 : decode cX10_isThing 8 = .ok (.iaload, 1) := by decide +kernel
theorem dX10_isThing_9 : decode cX10_isThing 9 = .ok (.iconst 1, 1) := by decide +kernel
theorem dX10_isThing_10 : decode cX10_isThing 10 = .ok (.isub, 1) := by decide +kernel
theorem dX10_isThing_11 : decode cX10_isThing 11 = .ok (.i2l, 1) := by decide +kernel
theorem dX10_isThing_12 : decode cX10_isThing 12 = .ok (.invokestatic 53, 3) := by decide +kernel
theorem dX10_isThing_15 : decode cX10_isThing 15 = .ok (.ireturn, 1) := by decide +kernel
theorem dX10_isRoom_0 : decode cX10_isRoom 0 = .ok (.iload_n 1, 1) := by decide +kernel
theorem dX10_isRoom_1 : decode cX10_isRoom 1 = .ok (.i2l, 1) := by decide +kernel
theorem dX10_isRoom_2 : decode cX10_isRoom 2 = .ok (.lconst 0, 1) := by decide +kernel
theorem dX10_isRoom_3 : decode cX10_isRoom 3 = .ok (.aload_n 0, 1) := by decide +kernel
theorem dX10_isRoom_4 : decode cX10_isRoom 4 = .ok (.getfield 19, 3) := by decide +kernel
theorem dX10_isRoom_7 : decode cX10_isRoom 7 = .ok (.iconst 0, 1) := by decide +kernel
theorem dX10_isRoom_8 : decode cX10_isRoom 8 = .ok (.iaload, 1) := by decide +kernel
theorem dX10_isRoom_9 : decode cX10_isRoom 9 = .ok (.iconst 1, 1) := by decide +kernel
theorem dX10_isRoom_10 : decode cX10_isRoom 10 = .ok (.isub, 1) := by decide +kernel
theorem dX10_isRoom_11 : decode cX10_isRoom 11 = .ok (.i2l, 1) := by decide +kernel
theorem dX10_isRoom_12 : decode cX10_isRoom 12 = .ok (.invokestatic 53, 3) := by decide +kernel
theorem dX10_isRoom_15 : decode cX10_isRoom 15 = .ok (.ireturn, 1) := by decide +kernel
theorem dX10_isThere_0 : decode cX10_isThere 0 = .ok (.aload_n 0, 1) := by decide +kernel
theorem dX10_isThere_1 : decode cX10_isThere 1 = .ok (.getfield 19, 3) := by decide +kernel
theorem dX10_isThere_4 : decode cX10_isThere 4 = .ok (.iconst 0, 1) := by decide +kernel
theorem dX10_isThere_5 : decode cX10_isThere 5 = .ok (.iaload, 1) := by decide +kernel
theorem dX10_isThere_6 : decode cX10_isThere 6 = .ok (.ifCond .le 7, 3) := by decide +kernel
theorem dX10_isThere_9 : decode cX10_isThere 9 = .ok (.iconst 1, 1) := by decide +kernel
theorem dX10_isThere_10 : decode cX10_isThere 10 = .ok (.goto 4, 3) := by decide +kernel
theorem dX10_isThere_13 : decode cX10_isThere 13 = .ok (.iconst 0, 1) := by decide +kernel
theorem dX10_isThere_14 : decode cX10_isThere 14 = .ok (.ireturn, 1) := by decide +kernel
theorem dX10_notes_0 : decode cX10_notes 0 = .ok (.aload_n 0, 1) := by decide +kernel
theorem dX10_notes_1 : decode cX10_notes 1 = .ok (.getfield 142, 3) := by decide +kernel
theorem dX10_notes_4 : decode cX10_notes 4 = .ok (.bipush 24, 2) := by decide +kernel
theorem dX10_notes_6 : decode cX10_notes 6 = .ok (.if_icmp .ne 43, 3) := by decide +kernel
theorem dX10_notes_9 : decode cX10_notes 9 = .ok (.iconst 0, 1) := by decide +kernel
theorem dX10_notes_10 : decode cX10_notes 10 = .ok (.istore_n 1, 1) := by decide +kernel
theorem dX10_notes_11 : decode cX10_notes 11 = .ok (.iload_n 1, 1) := by decide +kernel
theorem dX10_notes_12 : decode cX10_notes 12 = .ok (.sipush 1357, 3) := by decide +kernel
theorem dX10_notes_15 : decode cX10_notes 15 = .ok (.if_icmp .ge 24, 3) := by decide +kernel
theorem dX10_notes_18 : decode cX10_notes 18 = .ok (.aload_n 0, 1) := by decide +kernel
theorem dX10_notes_19 : decode cX10_notes 19 = .ok (.getfield 28, 3) := by decide +kernel
theorem dX10_notes_22 : decode cX10_notes 22 = .ok (.iload_n 1, 1) := by decide +kernel
theorem dX10_notes_23 : decode cX10_notes 23 = .ok (.aload_n 0, 1) := by decide +kernel
theorem dX10_notes_24 : decode cX10_notes 24 = .ok (.getfield 28, 3) := by decide +kernel
theorem dX10_notes_27 : decode cX10_notes 27 = .ok (.iload_n 1, 1) := by decide +kernel
theorem dX10_notes_28 : decode cX10_notes 28 = .ok (.bipush 59, 2) := by decide +kernel
theorem dX10_notes_30 : decode cX10_notes 30 = .ok (.iadd, 1) := by decide +kernel
theorem dX10_notes_31 : decode cX10_notes 31 = .ok (.iaload, 1) := by decide +kernel
theorem dX10_notes_32 : decode cX10_notes 32 = .ok (.iastore, 1) := by decide +kernel
theorem dX10_notes_33 : decode cX10_notes 33 = .ok (.iinc 1 1, 3) := by decide +kernel
theorem dX10_notes_36 : decode cX10_notes 36 = .ok (.goto (-25), 3) := by decide +kernel
theorem dX10_notes_39 : decode cX10_notes 39 = .ok (.aload_n 0, 1) := by decide +kernel
theorem dX10_notes_40 : decode cX10_notes 40 = .ok (.dup, 1) := by decide +kernel
theorem dX10_notes_41 : decode cX10_notes 41 = .ok (.getfield 142, 3) := by decide +kernel
theorem dX10_notes_44 : decode cX10_notes 44 = .ok (.iconst 1, 1) := by decide +kernel
theorem dX10_notes_45 : decode cX10_notes 45 = .ok (.isub, 1) := by decide +kernel
theorem dX10_notes_46 : decode cX10_notes 46 = .ok (.putfield 142, 3) := by decide +kernel
theorem dX10_notes_49 : decode cX10_notes 49 = .ok (.aload_n 0, 1) := by decide +kernel
theorem dX10_notes_50 : decode cX10_notes 50 = .ok (.getfield 19, 3) := by decide +kernel
theorem dX10_notes_53 : decode cX10_notes 53 = .ok (.iconst 0, 1) := by decide +kernel
theorem dX10_notes_54 : decode cX10_notes 54 = .ok (.aload_n 0, 1) := by decide +kernel
theorem dX10_notes_55 : decode cX10_notes 55 = .ok (.getfield 28, 3) := by decide +kernel
theorem dX10_notes_58 : decode cX10_notes 58 = .ok (.bipush 59, 2) := by decide +kernel
theorem dX10_notes_60 : decode cX10_notes 60 = .ok (.aload_n 0, 1) := by decide +kernel
theorem dX10_notes_61 : decode cX10_notes 61 = .ok (.getfield 142, 3) := by decide +kernel
theorem dX10_notes_64 : decode cX10_notes 64 = .ok (.imul, 1) := by decide +kernel
theorem dX10_notes_65 : decode cX10_notes 65 = .ok (.invokestatic 138, 3) := by decide +kernel
theorem dX10_notes_68 : decode cX10_notes 68 = .ok (.aload_n 0, 1) := by decide +kernel
theorem dX10_notes_69 : decode cX10_notes 69 = .ok (.dup, 1) := by decide +kernel
theorem dX10_notes_70 : decode cX10_notes 70 = .ok (.getfield 142, 3) := by decide +kernel
theorem dX10_notes_73 : decode cX10_notes 73 = .ok (.iconst 1, 1) := by decide +kernel
theorem dX10_notes_74 : decode cX10_notes 74 = .ok (.iadd, 1) := by decide +kernel
theorem dX10_notes_75 : decode cX10_notes 75 = .ok (.putfield 142, 3) := by decide +kernel
theorem dX10_notes_78 : decode cX10_notes 78 = .ok (.return_, 1) := by decide +kernel
theorem dX10_undo_0 : decode cX10_undo 0 = .ok (.aload_n 0, 1) := by decide +kernel
theorem dX10_undo_1 : decode cX10_undo 1 = .ok (.getfield 142, 3) := by decide +kernel
theorem dX10_undo_4 : decode cX10_undo 4 = .ok (.ifCond .ne 6, 3) := by decide +kernel
theorem dX10_undo_7 : decode cX10_undo 7 = .ok (.ldc 174, 2) := by decide +kernel
theorem dX10_undo_9 : decode cX10_undo 9 = .ok (.ireturn, 1) := by decide +kernel
theorem dX10_undo_10 : decode cX10_undo 10 = .ok (.aload_n 0, 1) := by decide +kernel
theorem dX10_undo_11 : decode cX10_undo 11 = .ok (.dup, 1) := by decide +kernel
theorem dX10_undo_12 : decode cX10_undo 12 = .ok (.getfield 142, 3) := by decide +kernel
theorem dX10_undo_15 : decode cX10_undo 15 = .ok (.iconst 1, 1) := by decide +kernel
theorem dX10_undo_16 : decode cX10_undo 16 = .ok (.isub, 1) := by decide +kernel
theorem dX10_undo_17 : decode cX10_undo 17 = .ok (.putfield 142, 3) := by decide +kernel
theorem dX10_undo_20 : decode cX10_undo 20 = .ok (.aload_n 0, 1) := by decide +kernel
theorem dX10_undo_21 : decode cX10_undo 21 = .ok (.getfield 28, 3) := by decide +kernel
theorem dX10_undo_24 : decode cX10_undo 24 = .ok (.bipush 59, 2) := by decide +kernel
theorem dX10_undo_26 : decode cX10_undo 26 = .ok (.aload_n 0, 1) := by decide +kernel
theorem dX10_undo_27 : decode cX10_undo 27 = .ok (.getfield 142, 3) := by decide +kernel
theorem dX10_undo_30 : decode cX10_undo 30 = .ok (.imul, 1) := by decide +kernel
theorem dX10_undo_31 : decode cX10_undo 31 = .ok (.aload_n 0, 1) := by decide +kernel
theorem dX10_undo_32 : decode cX10_undo 32 = .ok (.getfield 19, 3) := by decide +kernel
theorem dX10_undo_35 : decode cX10_undo 35 = .ok (.iconst 0, 1) := by decide +kernel
theorem dX10_undo_36 : decode cX10_undo 36 = .ok (.invokestatic 138, 3) := by decide +kernel
theorem dX10_undo_39 : decode cX10_undo 39 = .ok (.aload_n 0, 1) := by decide +kernel
theorem dX10_undo_40 : decode cX10_undo 40 = .ok (.getfield 142, 3) := by decide +kernel
theorem dX10_undo_43 : decode cX10_undo 43 = .ok (.ireturn, 1) := by decide +kernel
theorem dX10_days_0 : decode cX10_days 0 = .ok (.aload_n 0, 1) := by decide +kernel
theorem dX10_days_1 : decode cX10_days 1 = .ok (.invokevirtual 175, 3) := by decide +kernel
theorem dX10_days_4 : decode cX10_days 4 = .ok (.ifCond .ne 6, 3) := by decide +kernel
theorem dX10_days_7 : decode cX10_days 7 = .ok (.ldc 174, 2) := by decide +kernel
theorem dX10_days_9 : decode cX10_days 9 = .ok (.ireturn, 1) := by decide +kernel
theorem dX10_days_10 : decode cX10_days 10 = .ok (.iload_n 1, 1) := by decide +kernel
theorem dX10_days_11 : decode cX10_days 11 = .ok (.i2l, 1) := by decide +kernel
theorem dX10_days_12 : decode cX10_days 12 = .ok (.lconst 1, 1) := by decide +kernel
theorem dX10_days_13 : decode cX10_days 13 = .ok (.ldc2_w 178, 3) := by decide +kernel
theorem dX10_days_16 : decode cX10_days 16 = .ok (.invokestatic 53, 3) := by decide +kernel
theorem dX10_days_19 : decode cX10_days 19 = .ok (.ifCond .ne 6, 3) := by decide +kernel
theorem dX10_days_22 : decode cX10_days 22 = .ok (.ldc 70, 2) := by decide +kernel
theorem dX10_days_24 : decode cX10_days 24 = .ok (.ireturn, 1) := by decide +kernel
theorem dX10_days_25 : decode cX10_days 25 = .ok (.aload_n 0, 1) := by decide +kernel
theorem dX10_days_26 : decode cX10_days 26 = .ok (.getfield 19, 3) := by decide +kernel
theorem dX10_days_29 : decode cX10_days 29 = .ok (.iconst 4, 1) := by decide +kernel
theorem dX10_days_30 : decode cX10_days 30 = .ok (.iaload, 1) := by decide +kernel
theorem dX10_days_31 : decode cX10_days 31 = .ok (.iload_n 1, 1) := by decide +kernel
theorem dX10_days_32 : decode cX10_days 32 = .ok (.iadd, 1) := by decide +kernel
theorem dX10_days_33 : decode cX10_days 33 = .ok (.sipush 999, 3) := by decide +kernel
theorem dX10_days_36 : decode cX10_days 36 = .ok (.if_icmp .le 6, 3) := by decide +kernel
theorem dX10_days_39 : decode cX10_days 39 = .ok (.ldc 83, 2) := by decide +kernel
theorem dX10_days_41 : decode cX10_days 41 = .ok (.ireturn, 1) := by decide +kernel
theorem dX10_days_42 : decode cX10_days 42 = .ok (.iconst 0, 1) := by decide +kernel
theorem dX10_days_43 : decode cX10_days 43 = .ok (.istore_n 2, 1) := by decide +kernel
theorem dX10_days_44 : decode cX10_days 44 = .ok (.iload_n 2, 1) := by decide +kernel
theorem dX10_days_45 : decode cX10_days 45 = .ok (.iload_n 1, 1) := by decide +kernel
theorem dX10_days_46 : decode cX10_days 46 = .ok (.if_icmp .ge 20, 3) := by decide +kernel
theorem dX10_days_49 : decode cX10_days 49 = .ok (.aload_n 0, 1) := by decide +kernel
theorem dX10_days_50 : decode cX10_days 50 = .ok (.invokevirtual 180, 3) := by decide +kernel
theorem dX10_days_53 : decode cX10_days 53 = .ok (.aload_n 0, 1) := by decide +kernel
theorem dX10_days_54 : decode cX10_days 54 = .ok (.getfield 19, 3) := by decide +kernel
theorem dX10_days_57 : decode cX10_days 57 = .ok (.invokestatic 165, 3) := by decide +kernel
theorem dX10_days_60 : decode cX10_days 60 = .ok (.iinc 2 1, 3) := by decide +kernel
theorem dX10_days_63 : decode cX10_days 63 = .ok (.goto (-19), 3) := by decide +kernel
theorem dX10_days_66 : decode cX10_days 66 = .ok (.aload_n 0, 1) := by decide +kernel
theorem dX10_days_67 : decode cX10_days 67 = .ok (.getfield 19, 3) := by decide +kernel
theorem dX10_days_70 : decode cX10_days 70 = .ok (.iconst 2, 1) := by decide +kernel
theorem dX10_days_71 : decode cX10_days 71 = .ok (.invokestatic 168, 3) := by decide +kernel
theorem dX10_days_74 : decode cX10_days 74 = .ok (.ireturn, 1) := by decide +kernel
theorem dX10_wall_0 : decode cX10_wall 0 = .ok (.aload_n 0, 1) := by decide +kernel
theorem dX10_wall_1 : decode cX10_wall 1 = .ok (.iload_n 1, 1) := by decide +kernel
theorem dX10_wall_2 : decode cX10_wall 2 = .ok (.invokevirtual 183, 3) := by decide +kernel
theorem dX10_wall_5 : decode cX10_wall 5 = .ok (.ifCond .eq 15, 3) := by decide +kernel
theorem dX10_wall_8 : decode cX10_wall 8 = .ok (.iload_n 2, 1) := by decide +kernel
theorem dX10_wall_9 : decode cX10_wall 9 = .ok (.i2l, 1) := by decide +kernel
theorem dX10_wall_10 : decode cX10_wall 10 = .ok (.lconst 0, 1) := by decide +kernel
theorem dX10_wall_11 : decode cX10_wall 11 = .ok (.ldc2_w 186, 3) := by decide +kernel
theorem dX10_wall_14 : decode cX10_wall 14 = .ok (.invokestatic 53, 3) := by decide +kernel
theorem dX10_wall_17 : decode cX10_wall 17 = .ok (.ifCond .ne 6, 3) := by decide +kernel
theorem dX10_wall_20 : decode cX10_wall 20 = .ok (.ldc 70, 2) := by decide +kernel
theorem dX10_wall_22 : decode cX10_wall 22 = .ok (.ireturn, 1) := by decide +kernel
theorem dX10_wall_23 : decode cX10_wall 23 = .ok (.aload_n 0, 1) := by decide +kernel
theorem dX10_wall_24 : decode cX10_wall 24 = .ok (.invokevirtual 180, 3) := by decide +kernel
theorem dX10_wall_27 : decode cX10_wall 27 = .ok (.aload_n 0, 1) := by decide +kernel
theorem dX10_wall_28 : decode cX10_wall 28 = .ok (.getfield 19, 3) := by decide +kernel
theorem dX10_wall_31 : decode cX10_wall 31 = .ok (.bipush 25, 2) := by decide +kernel
theorem dX10_wall_33 : decode cX10_wall 33 = .ok (.iload_n 1, 1) := by decide +kernel
theorem dX10_wall_34 : decode cX10_wall 34 = .ok (.iadd, 1) := by decide +kernel
theorem dX10_wall_35 : decode cX10_wall 35 = .ok (.iaload, 1) := by decide +kernel
theorem dX10_wall_36 : decode cX10_wall 36 = .ok (.istore_n 3, 1) := by decide +kernel
theorem dX10_wall_37 : decode cX10_wall 37 = .ok (.aload_n 0, 1) := by decide +kernel
theorem dX10_wall_38 : decode cX10_wall 38 = .ok (.getfield 19, 3) := by decide +kernel
theorem dX10_wall_41 : decode cX10_wall 41 = .ok (.bipush 25, 2) := by decide +kernel
theorem dX10_wall_43 : decode cX10_wall 43 = .ok (.iload_n 1, 1) := by decide +kernel
theorem dX10_wall_44 : decode cX10_wall 44 = .ok (.iadd, 1) := by decide +kernel
theorem dX10_wall_45 : decode cX10_wall 45 = .ok (.iload_n 2, 1) := by decide +kernel
theorem dX10_wall_46 : decode cX10_wall 46 = .ok (.iastore, 1) := by decide +kernel
theorem dX10_wall_47 : decode cX10_wall 47 = .ok (.iload_n 3, 1) := by decide +kernel
theorem dX10_wall_48 : decode cX10_wall 48 = .ok (.ireturn, 1) := by decide +kernel
theorem dX10_carry_0 : decode cX10_carry 0 = .ok (.aload_n 0, 1) := by decide +kernel
theorem dX10_carry_1 : decode cX10_carry 1 = .ok (.iload_n 1, 1) := by decide +kernel
theorem dX10_carry_2 : decode cX10_carry 2 = .ok (.invokevirtual 188, 3) := by decide +kernel
theorem dX10_carry_5 : decode cX10_carry 5 = .ok (.ifCond .ne 6, 3) := by decide +kernel
theorem dX10_carry_8 : decode cX10_carry 8 = .ok (.ldc 70, 2) := by decide +kernel
theorem dX10_carry_10 : decode cX10_carry 10 = .ok (.ireturn, 1) := by decide +kernel
theorem dX10_carry_11 : decode cX10_carry 11 = .ok (.aload_n 0, 1) := by decide +kernel
theorem dX10_carry_12 : decode cX10_carry 12 = .ok (.getfield 19, 3) := by decide +kernel
theorem dX10_carry_15 : decode cX10_carry 15 = .ok (.bipush 53, 2) := by decide +kernel
theorem dX10_carry_17 : decode cX10_carry 17 = .ok (.iload_n 1, 1) := by decide +kernel
theorem dX10_carry_18 : decode cX10_carry 18 = .ok (.iadd, 1) := by decide +kernel
theorem dX10_carry_19 : decode cX10_carry 19 = .ok (.iaload, 1) := by decide +kernel
theorem dX10_carry_20 : decode cX10_carry 20 = .ok (.ifCond .eq 6, 3) := by decide +kernel
theorem dX10_carry_23 : decode cX10_carry 23 = .ok (.ldc 174, 2) := by decide +kernel
theorem dX10_carry_25 : decode cX10_carry 25 = .ok (.ireturn, 1) := by decide +kernel
theorem dX10_carry_26 : decode cX10_carry 26 = .ok (.aload_n 0, 1) := by decide +kernel
theorem dX10_carry_27 : decode cX10_carry 27 = .ok (.invokevirtual 180, 3) := by decide +kernel
theorem dX10_carry_30 : decode cX10_carry 30 = .ok (.aload_n 0, 1) := by decide +kernel
theorem dX10_carry_31 : decode cX10_carry 31 = .ok (.getfield 19, 3) := by decide +kernel
theorem dX10_carry_34 : decode cX10_carry 34 = .ok (.iload_n 1, 1) := by decide +kernel
theorem dX10_carry_35 : decode cX10_carry 35 = .ok (.iconst 1, 1) := by decide +kernel
theorem dX10_carry_36 : decode cX10_carry 36 = .ok (.invokestatic 161, 3) := by decide +kernel
theorem dX10_carry_39 : decode cX10_carry 39 = .ok (.aload_n 0, 1) := by decide +kernel
theorem dX10_carry_40 : decode cX10_carry 40 = .ok (.getfield 19, 3) := by decide +kernel
theorem dX10_carry_43 : decode cX10_carry 43 = .ok (.iload_n 1, 1) := by decide +kernel
theorem dX10_carry_44 : decode cX10_carry 44 = .ok (.invokestatic 191, 3) := by decide +kernel
theorem dX10_carry_47 : decode cX10_carry 47 = .ok (.ireturn, 1) := by decide +kernel
theorem dX10_feeding_0 : decode cX10_feeding 0 = .ok (.aload_n 0, 1) := by decide +kernel
theorem dX10_feeding_1 : decode cX10_feeding 1 = .ok (.invokevirtual 175, 3) := by decide +kernel
theorem dX10_feeding_4 : decode cX10_feeding 4 = .ok (.ifCond .ne 6, 3) := by decide +kernel
theorem dX10_feeding_7 : decode cX10_feeding 7 = .ok (.ldc 174, 2) := by decide +kernel
theorem dX10_feeding_9 : decode cX10_feeding 9 = .ok (.ireturn, 1) := by decide +kernel
theorem dX10_feeding_10 : decode cX10_feeding 10 = .ok (.iload_n 1, 1) := by decide +kernel
theorem dX10_feeding_11 : decode cX10_feeding 11 = .ok (.i2l, 1) := by decide +kernel
theorem dX10_feeding_12 : decode cX10_feeding 12 = .ok (.lconst 0, 1) := by decide +kernel
theorem dX10_feeding_13 : decode cX10_feeding 13 = .ok (.ldc2_w 194, 3) := by decide +kernel
theorem dX10_feeding_16 : decode cX10_feeding 16 = .ok (.invokestatic 53, 3) := by decide +kernel
theorem dX10_feeding_19 : decode cX10_feeding 19 = .ok (.ifCond .ne 6, 3) := by decide +kernel
theorem dX10_feeding_22 : decode cX10_feeding 22 = .ok (.ldc 70, 2) := by decide +kernel
theorem dX10_feeding_24 : decode cX10_feeding 24 = .ok (.ireturn, 1) := by decide +kernel
theorem dX10_feeding_25 : decode cX10_feeding 25 = .ok (.aload_n 0, 1) := by decide +kernel
theorem dX10_feeding_26 : decode cX10_feeding 26 = .ok (.invokevirtual 180, 3) := by decide +kernel
theorem dX10_feeding_29 : decode cX10_feeding 29 = .ok (.aload_n 0, 1) := by decide +kernel
theorem dX10_feeding_30 : decode cX10_feeding 30 = .ok (.getfield 19, 3) := by decide +kernel
theorem dX10_feeding_33 : decode cX10_feeding 33 = .ok (.iconst 2, 1) := by decide +kernel
theorem dX10_feeding_34 : decode cX10_feeding 34 = .ok (.iaload, 1) := by decide +kernel
theorem dX10_feeding_35 : decode cX10_feeding 35 = .ok (.istore_n 2, 1) := by decide +kernel
theorem dX10_feeding_36 : decode cX10_feeding 36 = .ok (.aload_n 0, 1) := by decide +kernel
theorem dX10_feeding_37 : decode cX10_feeding 37 = .ok (.getfield 19, 3) := by decide +kernel
theorem dX10_feeding_40 : decode cX10_feeding 40 = .ok (.iconst 2, 1) := by decide +kernel
theorem dX10_feeding_41 : decode cX10_feeding 41 = .ok (.iload_n 1, 1) := by decide +kernel
theorem dX10_feeding_42 : decode cX10_feeding 42 = .ok (.iastore, 1) := by decide +kernel
theorem dX10_feeding_43 : decode cX10_feeding 43 = .ok (.iload_n 2, 1) := by decide +kernel
theorem dX10_feeding_44 : decode cX10_feeding 44 = .ok (.ireturn, 1) := by decide +kernel
theorem dX10_dig_0 : decode cX10_dig 0 = .ok (.aload_n 0, 1) := by decide +kernel
theorem dX10_dig_1 : decode cX10_dig 1 = .ok (.iload_n 1, 1) := by decide +kernel
theorem dX10_dig_2 : decode cX10_dig 2 = .ok (.invokevirtual 188, 3) := by decide +kernel
theorem dX10_dig_5 : decode cX10_dig 5 = .ok (.ifCond .ne 6, 3) := by decide +kernel
theorem dX10_dig_8 : decode cX10_dig 8 = .ok (.ldc 70, 2) := by decide +kernel
theorem dX10_dig_10 : decode cX10_dig 10 = .ok (.ireturn, 1) := by decide +kernel
theorem dX10_dig_11 : decode cX10_dig 11 = .ok (.aload_n 0, 1) := by decide +kernel
theorem dX10_dig_12 : decode cX10_dig 12 = .ok (.getfield 19, 3) := by decide +kernel
theorem dX10_dig_15 : decode cX10_dig 15 = .ok (.bipush 53, 2) := by decide +kernel
theorem dX10_dig_17 : decode cX10_dig 17 = .ok (.iload_n 1, 1) := by decide +kernel
theorem dX10_dig_18 : decode cX10_dig 18 = .ok (.iadd, 1) := by decide +kernel
theorem dX10_dig_19 : decode cX10_dig 19 = .ok (.iaload, 1) := by decide +kernel
theorem dX10_dig_20 : decode cX10_dig 20 = .ok (.iconst 2, 1) := by decide +kernel
theorem dX10_dig_21 : decode cX10_dig 21 = .ok (.if_icmp .eq 6, 3) := by decide +kernel
theorem dX10_dig_24 : decode cX10_dig 24 = .ok (.ldc 174, 2) := by decide +kernel
theorem dX10_dig_26 : decode cX10_dig 26 = .ok (.ireturn, 1) := by decide +kernel
theorem dX10_dig_27 : decode cX10_dig 27 = .ok (.aload_n 0, 1) := by decide +kernel
theorem dX10_dig_28 : decode cX10_dig 28 = .ok (.invokevirtual 180, 3) := by decide +kernel
theorem dX10_dig_31 : decode cX10_dig 31 = .ok (.aload_n 0, 1) := by decide +kernel
theorem dX10_dig_32 : decode cX10_dig 32 = .ok (.getfield 19, 3) := by decide +kernel
theorem dX10_dig_35 : decode cX10_dig 35 = .ok (.bipush 53, 2) := by decide +kernel
theorem dX10_dig_37 : decode cX10_dig 37 = .ok (.iload_n 1, 1) := by decide +kernel
theorem dX10_dig_38 : decode cX10_dig 38 = .ok (.iadd, 1) := by decide +kernel
theorem dX10_dig_39 : decode cX10_dig 39 = .ok (.iconst 1, 1) := by decide +kernel
theorem dX10_dig_40 : decode cX10_dig 40 = .ok (.iastore, 1) := by decide +kernel
theorem dX10_dig_41 : decode cX10_dig 41 = .ok (.aload_n 0, 1) := by decide +kernel
theorem dX10_dig_42 : decode cX10_dig 42 = .ok (.getfield 19, 3) := by decide +kernel
theorem dX10_dig_45 : decode cX10_dig 45 = .ok (.iconst 2, 1) := by decide +kernel
theorem dX10_dig_46 : decode cX10_dig 46 = .ok (.invokestatic 168, 3) := by decide +kernel
theorem dX10_dig_49 : decode cX10_dig 49 = .ok (.ireturn, 1) := by decide +kernel
theorem dX10_thing_0 : decode cX10_thing 0 = .ok (.aload_n 0, 1) := by decide +kernel
theorem dX10_thing_1 : decode cX10_thing 1 = .ok (.iload_n 1, 1) := by decide +kernel
theorem dX10_thing_2 : decode cX10_thing 2 = .ok (.invokevirtual 188, 3) := by decide +kernel
theorem dX10_thing_5 : decode cX10_thing 5 = .ok (.ifCond .eq 15, 3) := by decide +kernel
theorem dX10_thing_8 : decode cX10_thing 8 = .ok (.iload_n 2, 1) := by decide +kernel
theorem dX10_thing_9 : decode cX10_thing 9 = .ok (.i2l, 1) := by decide +kernel
theorem dX10_thing_10 : decode cX10_thing 10 = .ok (.lconst 0, 1) := by decide +kernel
theorem dX10_thing_11 : decode cX10_thing 11 = .ok (.ldc2_w 68, 3) := by decide +kernel
theorem dX10_thing_14 : decode cX10_thing 14 = .ok (.invokestatic 53, 3) := by decide +kernel
theorem dX10_thing_17 : decode cX10_thing 17 = .ok (.ifCond .ne 6, 3) := by decide +kernel
theorem dX10_thing_20 : decode cX10_thing 20 = .ok (.ldc 70, 2) := by decide +kernel
theorem dX10_thing_22 : decode cX10_thing 22 = .ok (.ireturn, 1) := by decide +kernel
theorem dX10_thing_23 : decode cX10_thing 23 = .ok (.iload_n 2, 1) := by decide +kernel
theorem dX10_thing_24 : decode cX10_thing 24 = .ok (.ifCond .ne 15, 3) := by decide +kernel
theorem dX10_thing_27 : decode cX10_thing 27 = .ok (.aload_n 0, 1) := by decide +kernel
theorem dX10_thing_28 : decode cX10_thing 28 = .ok (.getfield 19, 3) := by decide +kernel
theorem dX10_thing_31 : decode cX10_thing 31 = .ok (.bipush 41, 2) := by decide +kernel
theorem dX10_thing_33 : decode cX10_thing 33 = .ok (.iload_n 1, 1) := by decide +kernel
theorem dX10_thing_34 : decode cX10_thing 34 = .ok (.iadd, 1) := by decide +kernel
theorem dX10_thing_35 : decode cX10_thing 35 = .ok (.iaload, 1) := by decide +kernel
theorem dX10_thing_36 : decode cX10_thing 36 = .ok (.goto 53, 3) := by decide +kernel
theorem dX10_thing_39 : decode cX10_thing 39 = .ok (.iload_n 2, 1) := by decide +kernel
theorem dX10_thing_40 : decode cX10_thing 40 = .ok (.iconst 1, 1) := by decide +kernel
theorem dX10_thing_41 : decode cX10_thing 41 = .ok (.if_icmp .ne 14, 3) := by decide +kernel
theorem dX10_thing_44 : decode cX10_thing 44 = .ok (.aload_n 0, 1) := by decide +kernel
theorem dX10_thing_45 : decode cX10_thing 45 = .ok (.getfield 19, 3) := by decide +kernel
theorem dX10_thing_48 : decode cX10_thing 48 = .ok (.iload_n 1, 1) := by decide +kernel
theorem dX10_thing_49 : decode cX10_thing 49 = .ok (.invokestatic 191, 3) := by decide +kernel
theorem dX10_thing_52 : decode cX10_thing 52 = .ok (.goto 37, 3) := by decide +kernel
theorem dX10_thing_55 : decode cX10_thing 55 = .ok (.aload_n 0, 1) := by decide +kernel
theorem dX10_thing_56 : decode cX10_thing 56 = .ok (.getfield 19, 3) := by decide +kernel
theorem dX10_thing_59 : decode cX10_thing 59 = .ok (.bipush 53, 2) := by decide +kernel
theorem dX10_thing_61 : decode cX10_thing 61 = .ok (.iload_n 1, 1) := by decide +kernel
theorem dX10_thing_62 : decode cX10_thing 62 = .ok (.iadd, 1) := by decide +kernel
theorem dX10_thing_63 : decode cX10_thing 63 = .ok (.iaload, 1) := by decide +kernel
theorem dX10_thing_64 : decode cX10_thing 64 = .ok (.iconst 1, 1) := by decide +kernel
theorem dX10_thing_65 : decode cX10_thing 65 = .ok (.if_icmp .ne 7, 3) := by decide +kernel
theorem dX10_thing_68 : decode cX10_thing 68 = .ok (.iconst 0, 1) := by decide +kernel
theorem dX10_thing_69 : decode cX10_thing 69 = .ok (.goto 20, 3) := by decide +kernel
theorem dX10_thing_72 : decode cX10_thing 72 = .ok (.aload_n 0, 1) := by decide +kernel
theorem dX10_thing_73 : decode cX10_thing 73 = .ok (.getfield 19, 3) := by decide +kernel
theorem dX10_thing_76 : decode cX10_thing 76 = .ok (.bipush 15, 2) := by decide +kernel
theorem dX10_thing_78 : decode cX10_thing 78 = .ok (.aload_n 0, 1) := by decide +kernel
theorem dX10_thing_79 : decode cX10_thing 79 = .ok (.getfield 19, 3) := by decide +kernel
theorem dX10_thing_82 : decode cX10_thing 82 = .ok (.bipush 47, 2) := by decide +kernel
theorem dX10_thing_84 : decode cX10_thing 84 = .ok (.iload_n 1, 1) := by decide +kernel
theorem dX10_thing_85 : decode cX10_thing 85 = .ok (.iadd, 1) := by decide +kernel
theorem dX10_thing_86 : decode cX10_thing 86 = .ok (.iaload, 1) := by decide +kernel
theorem dX10_thing_87 : decode cX10_thing 87 = .ok (.iadd, 1) := by decide +kernel
theorem dX10_thing_88 : decode cX10_thing 88 = .ok (.iaload, 1) := by decide +kernel
theorem dX10_thing_89 : decode cX10_thing 89 = .ok (.ireturn, 1) := by decide +kernel
theorem dX10_thoseIn_0 : decode cX10_thoseIn 0 = .ok (.iconst 0, 1) := by decide +kernel
theorem dX10_thoseIn_1 : decode cX10_thoseIn 1 = .ok (.istore_n 3, 1) := by decide +kernel
theorem dX10_thoseIn_2 : decode cX10_thoseIn 2 = .ok (.iconst 0, 1) := by decide +kernel
theorem dX10_thoseIn_3 : decode cX10_thoseIn 3 = .ok (.istore 4, 2) := by decide +kernel
theorem dX10_thoseIn_5 : decode cX10_thoseIn 5 = .ok (.iload 4, 2) := by decide +kernel
theorem dX10_thoseIn_7 : decode cX10_thoseIn 7 = .ok (.aload_n 0, 1) := by decide +kernel
theorem dX10_thoseIn_8 : decode cX10_thoseIn 8 = .ok (.getfield 19, 3) := by decide +kernel
theorem dX10_thoseIn_11 : decode cX10_thoseIn 11 = .ok (.iconst 1, 1) := by decide +kernel
theorem dX10_thoseIn_12 : decode cX10_thoseIn 12 = .ok (.iaload, 1) := by decide +kernel
theorem dX10_thoseIn_13 : decode cX10_thoseIn 13 = .ok (.if_icmp .ge 48, 3) := by decide +kernel
theorem dX10_thoseIn_16 : decode cX10_thoseIn 16 = .ok (.iload_n 3, 1) := by decide +kernel
theorem dX10_thoseIn_17 : decode cX10_thoseIn 17 = .ok (.aload_n 0, 1) := by decide +kernel
theorem dX10_thoseIn_18 : decode cX10_thoseIn 18 = .ok (.getfield 19, 3) := by decide +kernel
theorem dX10_thoseIn_21 : decode cX10_thoseIn 21 = .ok (.bipush 53, 2) := by decide +kernel
theorem dX10_thoseIn_23 : decode cX10_thoseIn 23 = .ok (.iload 4, 2) := by decide +kernel
theorem dX10_thoseIn_25 : decode cX10_thoseIn 25 = .ok (.iadd, 1) := by decide +kernel
theorem dX10_thoseIn_26 : decode cX10_thoseIn 26 = .ok (.iaload, 1) := by decide +kernel
theorem dX10_thoseIn_27 : decode cX10_thoseIn 27 = .ok (.iload_n 2, 1) := by decide +kernel
theorem dX10_thoseIn_28 : decode cX10_thoseIn 28 = .ok (.if_icmp .ne 24, 3) := by decide +kernel
theorem dX10_thoseIn_31 : decode cX10_thoseIn 31 = .ok (.aload_n 0, 1) := by decide +kernel
theorem dX10_thoseIn_32 : decode cX10_thoseIn 32 = .ok (.getfield 19, 3) := by decide +kernel
theorem dX10_thoseIn_35 : decode cX10_thoseIn 35 = .ok (.bipush 47, 2) := by decide +kernel
theorem dX10_thoseIn_37 : decode cX10_thoseIn 37 = .ok (.iload 4, 2) := by decide +kernel
theorem dX10_thoseIn_39 : decode cX10_thoseIn 39 = .ok (.iadd, 1) := by decide +kernel
theorem dX10_thoseIn_40 : decode cX10_thoseIn 40 = .ok (.iaload, 1) := by decide +kernel
theorem dX10_thoseIn_41 : decode cX10_thoseIn 41 = .ok (.iload_n 1, 1) := by decide +kernel
theorem dX10_thoseIn_42 : decode cX10_thoseIn 42 = .ok (.if_icmp .ne 10, 3) := by decide +kernel
theorem dX10_thoseIn_45 : decode cX10_thoseIn 45 = .ok (.iconst 1, 1) := by decide +kernel
theorem dX10_thoseIn_46 : decode cX10_thoseIn 46 = .ok (.iload 4, 2) := by decide +kernel
theorem dX10_thoseIn_48 : decode cX10_thoseIn 48 = .ok (.ishl, 1) := by decide +kernel
theorem dX10_thoseIn_49 : decode cX10_thoseIn 49 = .ok (.goto 4, 3) := by decide +kernel
theorem dX10_thoseIn_52 : decode cX10_thoseIn 52 = .ok (.iconst 0, 1) := by decide +kernel
theorem dX10_thoseIn_53 : decode cX10_thoseIn 53 = .ok (.ior, 1) := by decide +kernel
theorem dX10_thoseIn_54 : decode cX10_thoseIn 54 = .ok (.istore_n 3, 1) := by decide +kernel
theorem dX10_thoseIn_55 : decode cX10_thoseIn 55 = .ok (.iinc 4 1, 3) := by decide +kernel
theorem dX10_thoseIn_58 : decode cX10_thoseIn 58 = .ok (.goto (-53), 3) := by decide +kernel
theorem dX10_thoseIn_61 : decode cX10_thoseIn 61 = .ok (.iload_n 3, 1) := by decide +kernel
theorem dX10_thoseIn_62 : decode cX10_thoseIn 62 = .ok (.ireturn, 1) := by decide +kernel
theorem dX10_roomOf_0 : decode cX10_roomOf 0 = .ok (.aload_n 0, 1) := by decide +kernel
theorem dX10_roomOf_1 : decode cX10_roomOf 1 = .ok (.iload_n 1, 1) := by decide +kernel
theorem dX10_roomOf_2 : decode cX10_roomOf 2 = .ok (.invokevirtual 183, 3) := by decide +kernel
theorem dX10_roomOf_5 : decode cX10_roomOf 5 = .ok (.ifCond .ne 6, 3) := by decide +kernel
theorem dX10_roomOf_8 : decode cX10_roomOf 8 = .ok (.ldc 70, 2) := by decide +kernel
theorem dX10_roomOf_10 : decode cX10_roomOf 10 = .ok (.ireturn, 1) := by decide +kernel
theorem dX10_roomOf_11 : decode cX10_roomOf 11 = .ok (.iload_n 2, 1) := by decide +kernel
theorem dX10_roomOf_12 : decode cX10_roomOf 12 = .ok (.tableswitch 79 0 4 #[36, 45, 55, 65, 72], 36) := by decide +kernel
theorem dX10_roomOf_48 : decode cX10_roomOf 48 = .ok (.aload_n 0, 1) := by decide +kernel
theorem dX10_roomOf_49 : decode cX10_roomOf 49 = .ok (.getfield 19, 3) := by decide +kernel
theorem dX10_roomOf_52 : decode cX10_roomOf 52 = .ok (.iconst 5, 1) := by decide +kernel
theorem dX10_roomOf_53 : decode cX10_roomOf 53 = .ok (.iload_n 1, 1) := by decide +kernel
theorem dX10_roomOf_54 : decode cX10_roomOf 54 = .ok (.iadd, 1) := by decide +kernel
theorem dX10_roomOf_55 : decode cX10_roomOf 55 = .ok (.iaload, 1) := by decide +kernel
theorem dX10_roomOf_56 : decode cX10_roomOf 56 = .ok (.ireturn, 1) := by decide +kernel
theorem dX10_roomOf_57 : decode cX10_roomOf 57 = .ok (.aload_n 0, 1) := by decide +kernel
theorem dX10_roomOf_58 : decode cX10_roomOf 58 = .ok (.getfield 19, 3) := by decide +kernel
theorem dX10_roomOf_61 : decode cX10_roomOf 61 = .ok (.bipush 15, 2) := by decide +kernel
theorem dX10_roomOf_63 : decode cX10_roomOf 63 = .ok (.iload_n 1, 1) := by decide +kernel
theorem dX10_roomOf_64 : decode cX10_roomOf 64 = .ok (.iadd, 1) := by decide +kernel
theorem dX10_roomOf_65 : decode cX10_roomOf 65 = .ok (.iaload, 1) := by decide +kernel
theorem dX10_roomOf_66 : decode cX10_roomOf 66 = .ok (.ireturn, 1) := by decide +kernel
theorem dX10_roomOf_67 : decode cX10_roomOf 67 = .ok (.aload_n 0, 1) := by decide +kernel
theorem dX10_roomOf_68 : decode cX10_roomOf 68 = .ok (.getfield 19, 3) := by decide +kernel
theorem dX10_roomOf_71 : decode cX10_roomOf 71 = .ok (.bipush 25, 2) := by decide +kernel
theorem dX10_roomOf_73 : decode cX10_roomOf 73 = .ok (.iload_n 1, 1) := by decide +kernel
theorem dX10_roomOf_74 : decode cX10_roomOf 74 = .ok (.iadd, 1) := by decide +kernel
theorem dX10_roomOf_75 : decode cX10_roomOf 75 = .ok (.iaload, 1) := by decide +kernel
theorem dX10_roomOf_76 : decode cX10_roomOf 76 = .ok (.ireturn, 1) := by decide +kernel
theorem dX10_roomOf_77 : decode cX10_roomOf 77 = .ok (.aload_n 0, 1) := by decide +kernel
theorem dX10_roomOf_78 : decode cX10_roomOf 78 = .ok (.iload_n 1, 1) := by decide +kernel
theorem dX10_roomOf_79 : decode cX10_roomOf 79 = .ok (.iconst 0, 1) := by decide +kernel
theorem dX10_roomOf_80 : decode cX10_roomOf 80 = .ok (.invokevirtual 196, 3) := by decide +kernel
theorem dX10_roomOf_83 : decode cX10_roomOf 83 = .ok (.ireturn, 1) := by decide +kernel
theorem dX10_roomOf_84 : decode cX10_roomOf 84 = .ok (.aload_n 0, 1) := by decide +kernel
theorem dX10_roomOf_85 : decode cX10_roomOf 85 = .ok (.iload_n 1, 1) := by decide +kernel
theorem dX10_roomOf_86 : decode cX10_roomOf 86 = .ok (.iconst 2, 1) := by decide +kernel
theorem dX10_roomOf_87 : decode cX10_roomOf 87 = .ok (.invokevirtual 196, 3) := by decide +kernel
theorem dX10_roomOf_90 : decode cX10_roomOf 90 = .ok (.ireturn, 1) := by decide +kernel
theorem dX10_roomOf_91 : decode cX10_roomOf 91 = .ok (.ldc 70, 2) := by decide +kernel
theorem dX10_roomOf_93 : decode cX10_roomOf 93 = .ok (.ireturn, 1) := by decide +kernel
