theorem dX8_placeAfter_0 : decode cX8_placeAfter 0 = .ok (.iload_n 1, 1) := by decide +kernel
theorem dX8_placeAfter_1 : decode cX8_placeAfter 1 = .ok (.bipush 20, 2) := by decide +kernel
theorem dX8_placeAfter_3 : decode cX8_placeAfter 3 = .ok (.if_icmp .lt 5, 3) := by decide +kernel
theorem dX8_placeAfter_6 : decode cX8_placeAfter 6 = .ok (.iload_n 1, 1) := by decide +kernel
theorem dX8_placeAfter_7 : decode cX8_placeAfter 7 = .ok (.ireturn, 1) := by decide +kernel
theorem dX8_placeAfter_8 : decode cX8_placeAfter 8 = .ok (.aload_n 0, 1) := by decide +kernel
theorem dX8_placeAfter_9 : decode cX8_placeAfter 9 = .ok (.iload_n 1, 1) := by decide +kernel
theorem dX8_placeAfter_10 : decode cX8_placeAfter 10 = .ok (.iload_n 2, 1) := by decide +kernel
theorem dX8_placeAfter_11 : decode cX8_placeAfter 11 = .ok (.iload_n 1, 1) := by decide +kernel
theorem dX8_placeAfter_12 : decode cX8_placeAfter 12 = .ok (.aload 4, 2) := by decide +kernel
theorem dX8_placeAfter_14 : decode cX8_placeAfter 14 = .ok (.iload 5, 2) := by decide +kernel
theorem dX8_placeAfter_16 : decode cX8_placeAfter 16 = .ok (.iload 6, 2) := by decide +kernel
theorem dX8_placeAfter_18 : decode cX8_placeAfter 18 = .ok (.invokestatic 76, 3) := by decide +kernel
theorem dX8_placeAfter_21 : decode cX8_placeAfter 21 = .ok (.invokevirtual 59, 3) := by decide +kernel
theorem dX8_placeAfter_24 : decode cX8_placeAfter 24 = .ok (.istore 7, 2) := by decide +kernel
theorem dX8_placeAfter_26 : decode cX8_placeAfter 26 = .ok (.iload 7, 2) := by decide +kernel
theorem dX8_placeAfter_28 : decode cX8_placeAfter 28 = .ok (.bipush 20, 2) := by decide +kernel
theorem dX8_placeAfter_30 : decode cX8_placeAfter 30 = .ok (.if_icmp .eq 15, 3) := by decide +kernel
theorem dX8_placeAfter_33 : decode cX8_placeAfter 33 = .ok (.aload 4, 2) := by decide +kernel
theorem dX8_placeAfter_35 : decode cX8_placeAfter 35 = .ok (.iload 5, 2) := by decide +kernel
theorem dX8_placeAfter_37 : decode cX8_placeAfter 37 = .ok (.iload 7, 2) := by decide +kernel
theorem dX8_placeAfter_39 : decode cX8_placeAfter 39 = .ok (.iadd, 1) := by decide +kernel
theorem dX8_placeAfter_40 : decode cX8_placeAfter 40 = .ok (.iaload, 1) := by decide +kernel
theorem dX8_placeAfter_41 : decode cX8_placeAfter 41 = .ok (.iload_n 3, 1) := by decide +kernel
theorem dX8_placeAfter_42 : decode cX8_placeAfter 42 = .ok (.if_icmp .ge 6, 3) := by decide +kernel
theorem dX8_placeAfter_45 : decode cX8_placeAfter 45 = .ok (.iload 7, 2) := by decide +kernel
theorem dX8_placeAfter_47 : decode cX8_placeAfter 47 = .ok (.ireturn, 1) := by decide +kernel
theorem dX8_placeAfter_48 : decode cX8_placeAfter 48 = .ok (.bipush 30, 2) := by decide +kernel
theorem dX8_placeAfter_50 : decode cX8_placeAfter 50 = .ok (.iload 7, 2) := by decide +kernel
theorem dX8_placeAfter_52 : decode cX8_placeAfter 52 = .ok (.iadd, 1) := by decide +kernel
theorem dX8_placeAfter_53 : decode cX8_placeAfter 53 = .ok (.ireturn, 1) := by decide +kernel
theorem dX8_pace_0 : decode cX8_pace 0 = .ok (.aload_n 2, 1) := by decide +kernel
theorem dX8_pace_1 : decode cX8_pace 1 = .ok (.iload_n 3, 1) := by decide +kernel
theorem dX8_pace_2 : decode cX8_pace 2 = .ok (.iload_n 1, 1) := by decide +kernel
theorem dX8_pace_3 : decode cX8_pace 3 = .ok (.iadd, 1) := by decide +kernel
theorem dX8_pace_4 : decode cX8_pace 4 = .ok (.iaload, 1) := by decide +kernel
theorem dX8_pace_5 : decode cX8_pace 5 = .ok (.ifCond .le 7, 3) := by decide +kernel
theorem dX8_pace_8 : decode cX8_pace 8 = .ok (.iconst 1, 1) := by decide +kernel
theorem dX8_pace_9 : decode cX8_pace 9 = .ok (.goto 4, 3) := by decide +kernel
theorem dX8_pace_12 : decode cX8_pace 12 = .ok (.iconst 0, 1) := by decide +kernel
theorem dX8_pace_13 : decode cX8_pace 13 = .ok (.istore 5, 2) := by decide +kernel
theorem dX8_pace_15 : decode cX8_pace 15 = .ok (.iload_n 1, 1) := by decide +kernel
theorem dX8_pace_16 : decode cX8_pace 16 = .ok (.iconst 1, 1) := by decide +kernel
theorem dX8_pace_17 : decode cX8_pace 17 = .ok (.if_icmp .lt 17, 3) := by decide +kernel
theorem dX8_pace_20 : decode cX8_pace 20 = .ok (.aload_n 2, 1) := by decide +kernel
theorem dX8_pace_21 : decode cX8_pace 21 = .ok (.iload_n 3, 1) := by decide +kernel
theorem dX8_pace_22 : decode cX8_pace 22 = .ok (.iload_n 1, 1) := by decide +kernel
theorem dX8_pace_23 : decode cX8_pace 23 = .ok (.iadd, 1) := by decide +kernel
theorem dX8_pace_24 : decode cX8_pace 24 = .ok (.iconst 1, 1) := by decide +kernel
theorem dX8_pace_25 : decode cX8_pace 25 = .ok (.isub, 1) := by decide +kernel
theorem dX8_pace_26 : decode cX8_pace 26 = .ok (.iaload, 1) := by decide +kernel
theorem dX8_pace_27 : decode cX8_pace 27 = .ok (.ifCond .le 7, 3) := by decide +kernel
theorem dX8_pace_30 : decode cX8_pace 30 = .ok (.iconst 1, 1) := by decide +kernel
theorem dX8_pace_31 : decode cX8_pace 31 = .ok (.goto 4, 3) := by decide +kernel
theorem dX8_pace_34 : decode cX8_pace 34 = .ok (.iconst 0, 1) := by decide +kernel
theorem dX8_pace_35 : decode cX8_pace 35 = .ok (.istore 6, 2) := by decide +kernel
theorem dX8_pace_37 : decode cX8_pace 37 = .ok (.iload_n 1, 1) := by decide +kernel
theorem dX8_pace_38 : decode cX8_pace 38 = .ok (.iconst 2, 1) := by decide +kernel
theorem dX8_pace_39 : decode cX8_pace 39 = .ok (.if_icmp .lt 17, 3) := by decide +kernel
theorem dX8_pace_42 : decode cX8_pace 42 = .ok (.aload_n 2, 1) := by decide +kernel
theorem dX8_pace_43 : decode cX8_pace 43 = .ok (.iload_n 3, 1) := by decide +kernel
theorem dX8_pace_44 : decode cX8_pace 44 = .ok (.iload_n 1, 1) := by decide +kernel
theorem dX8_pace_45 : decode cX8_pace 45 = .ok (.iadd, 1) := by decide +kernel
theorem dX8_pace_46 : decode cX8_pace 46 = .ok (.iconst 2, 1) := by decide +kernel
theorem dX8_pace_47 : decode cX8_pace 47 = .ok (.isub, 1) := by decide +kernel
theorem dX8_pace_48 : decode cX8_pace 48 = .ok (.iaload, 1) := by decide +kernel
theorem dX8_pace_49 : decode cX8_pace 49 = .ok (.ifCond .le 7, 3) := by decide +kernel
theorem dX8_pace_52 : decode cX8_pace 52 = .ok (.iconst 1, 1) := by decide +kernel
theorem dX8_pace_53 : decode cX8_pace 53 = .ok (.goto 4, 3) := by decide +kernel
theorem dX8_pace_56 : decode cX8_pace 56 = .ok (.iconst 0, 1) := by decide +kernel
theorem dX8_pace_57 : decode cX8_pace 57 = .ok (.istore 7, 2) := by decide +kernel
theorem dX8_pace_59 : decode cX8_pace 59 = .ok (.iload_n 0, 1) := by decide +kernel
theorem dX8_pace_60 : decode cX8_pace 60 = .ok (.tableswitch 122 2 5 #[32, 43, 70, 95], 32) := by decide +kernel
theorem dX8_pace_92 : decode cX8_pace 92 = .ok (.iload 5, 2) := by decide +kernel
theorem dX8_pace_94 : decode cX8_pace 94 = .ok (.ifCond .eq 7, 3) := by decide +kernel
theorem dX8_pace_97 : decode cX8_pace 97 = .ok (.iconst 2, 1) := by decide +kernel
theorem dX8_pace_98 : decode cX8_pace 98 = .ok (.goto 4, 3) := by decide +kernel
theorem dX8_pace_101 : decode cX8_pace 101 = .ok (.iconst 0, 1) := by decide +kernel
theorem dX8_pace_102 : decode cX8_pace 102 = .ok (.ireturn, 1) := by decide +kernel
theorem dX8_pace_103 : decode cX8_pace 103 = .ok (.iload 4, 2) := by decide +kernel
theorem dX8_pace_105 : decode cX8_pace 105 = .ok (.iconst 2, 1) := by decide +kernel
theorem dX8_pace_106 : decode cX8_pace 106 = .ok (.irem, 1) := by decide +kernel
theorem dX8_pace_107 : decode cX8_pace 107 = .ok (.ifCond .ne 17, 3) := by decide +kernel
theorem dX8_pace_110 : decode cX8_pace 110 = .ok (.iload 5, 2) := by decide +kernel
theorem dX8_pace_112 : decode cX8_pace 112 = .ok (.ifCond .ne 8, 3) := by decide +kernel
theorem dX8_pace_115 : decode cX8_pace 115 = .ok (.iload 6, 2) := by decide +kernel
theorem dX8_pace_117 : decode cX8_pace 117 = .ok (.ifCond .eq 7, 3) := by decide +kernel
theorem dX8_pace_120 : decode cX8_pace 120 = .ok (.iconst 1, 1) := by decide +kernel
theorem dX8_pace_121 : decode cX8_pace 121 = .ok (.goto 4, 3) := by decide +kernel
theorem dX8_pace_124 : decode cX8_pace 124 = .ok (.iconst 0, 1) := by decide +kernel
theorem dX8_pace_125 : decode cX8_pace 125 = .ok (.istore 8, 2) := by decide +kernel
theorem dX8_pace_127 : decode cX8_pace 127 = .ok (.goto 72, 3) := by decide +kernel
theorem dX8_pace_130 : decode cX8_pace 130 = .ok (.iload 5, 2) := by decide +kernel
theorem dX8_pace_132 : decode cX8_pace 132 = .ok (.ifCond .ne 13, 3) := by decide +kernel
theorem dX8_pace_135 : decode cX8_pace 135 = .ok (.iload 6, 2) := by decide +kernel
theorem dX8_pace_137 : decode cX8_pace 137 = .ok (.ifCond .ne 8, 3) := by decide +kernel
theorem dX8_pace_140 : decode cX8_pace 140 = .ok (.iload 7, 2) := by decide +kernel
theorem dX8_pace_142 : decode cX8_pace 142 = .ok (.ifCond .eq 7, 3) := by decide +kernel
theorem dX8_pace_145 : decode cX8_pace 145 = .ok (.iconst 1, 1) := by decide +kernel
theorem dX8_pace_146 : decode cX8_pace 146 = .ok (.goto 4, 3) := by decide +kernel
theorem dX8_pace_149 : decode cX8_pace 149 = .ok (.iconst 0, 1) := by decide +kernel
theorem dX8_pace_150 : decode cX8_pace 150 = .ok (.istore 8, 2) := by decide +kernel
theorem dX8_pace_152 : decode cX8_pace 152 = .ok (.goto 47, 3) := by decide +kernel
theorem dX8_pace_155 : decode cX8_pace 155 = .ok (.iload 5, 2) := by decide +kernel
theorem dX8_pace_157 : decode cX8_pace 157 = .ok (.ifCond .eq 5, 3) := by decide +kernel
theorem dX8_pace_160 : decode cX8_pace 160 = .ok (.iconst 2, 1) := by decide +kernel
theorem dX8_pace_161 : decode cX8_pace 161 = .ok (.ireturn, 1) := by decide +kernel
theorem dX8_pace_162 : decode cX8_pace 162 = .ok (.iload 6, 2) := by decide +kernel
theorem dX8_pace_164 : decode cX8_pace 164 = .ok (.ifCond .ne 8, 3) := by decide +kernel
theorem dX8_pace_167 : decode cX8_pace 167 = .ok (.iload 7, 2) := by decide +kernel
theorem dX8_pace_169 : decode cX8_pace 169 = .ok (.ifCond .eq 7, 3) := by decide +kernel
theorem dX8_pace_172 : decode cX8_pace 172 = .ok (.iconst 1, 1) := by decide +kernel
theorem dX8_pace_173 : decode cX8_pace 173 = .ok (.goto 4, 3) := by decide +kernel
theorem dX8_pace_176 : decode cX8_pace 176 = .ok (.iconst 0, 1) := by decide +kernel
theorem dX8_pace_177 : decode cX8_pace 177 = .ok (.istore 8, 2) := by decide +kernel
theorem dX8_pace_179 : decode cX8_pace 179 = .ok (.goto 20, 3) := by decide +kernel
theorem dX8_pace_182 : decode cX8_pace 182 = .ok (.iload 5, 2) := by decide +kernel
theorem dX8_pace_184 : decode cX8_pace 184 = .ok (.ifCond .ne 8, 3) := by decide +kernel
theorem dX8_pace_187 : decode cX8_pace 187 = .ok (.iload 6, 2) := by decide +kernel
theorem dX8_pace_189 : decode cX8_pace 189 = .ok (.ifCond .eq 7, 3) := by decide +kernel
theorem dX8_pace_192 : decode cX8_pace 192 = .ok (.iconst 1, 1) := by decide +kernel
theorem dX8_pace_193 : decode cX8_pace 193 = .ok (.goto 4, 3) := by decide +kernel
theorem dX8_pace_196 : decode cX8_pace 196 = .ok (.iconst 0, 1) := by decide +kernel
theorem dX8_pace_197 : decode cX8_pace 197 = .ok (.istore 8, 2) := by decide +kernel
theorem dX8_pace_199 : decode cX8_pace 199 = .ok (.iload 8, 2) := by decide +kernel
theorem dX8_pace_201 : decode cX8_pace 201 = .ok (.ifCond .eq 7, 3) := by decide +kernel
theorem dX8_pace_204 : decode cX8_pace 204 = .ok (.iconst 1, 1) := by decide +kernel
theorem dX8_pace_205 : decode cX8_pace 205 = .ok (.goto 4, 3) := by decide +kernel
theorem dX8_pace_208 : decode cX8_pace 208 = .ok (.iconst 0, 1) := by decide +kernel
theorem dX8_pace_209 : decode cX8_pace 209 = .ok (.ireturn, 1) := by decide +kernel
theorem dX9_init_0 : decode cX9_init 0 = .ok (.aload_n 0, 1) := by decide +kernel
theorem dX9_init_1 : decode cX9_init 1 = .ok (.invokespecial 1, 3) := by decide +kernel
theorem dX9_init_4 : decode cX9_init 4 = .ok (.aload_n 0, 1) := by decide +kernel
theorem dX9_init_5 : decode cX9_init 5 = .ok (.new 7, 3) := by decide +kernel
theorem dX9_init_8 : decode cX9_init 8 = .ok (.dup, 1) := by decide +kernel
theorem dX9_init_9 : decode cX9_init 9 = .ok (.invokespecial 9, 3) := by decide +kernel
theorem dX9_init_12 : decode cX9_init 12 = .ok (.putfield 10, 3) := by decide +kernel
theorem dX9_init_15 : decode cX9_init 15 = .ok (.aload_n 0, 1) := by decide +kernel
theorem dX9_init_16 : decode cX9_init 16 = .ok (.new 16, 3) := by decide +kernel
theorem dX9_init_19 : decode cX9_init 19 = .ok (.dup, 1) := by decide +kernel
theorem dX9_init_20 : decode cX9_init 20 = .ok (.invokespecial 18, 3) := by decide +kernel
theorem dX9_init_23 : decode cX9_init 23 = .ok (.putfield 19, 3) := by decide +kernel
theorem dX9_init_26 : decode cX9_init 26 = .ok (.aload_n 0, 1) := by decide +kernel
theorem dX9_init_27 : decode cX9_init 27 = .ok (.new 23, 3) := by decide +kernel
theorem dX9_init_30 : decode cX9_init 30 = .ok (.dup, 1) := by decide +kernel
theorem dX9_init_31 : decode cX9_init 31 = .ok (.invokespecial 25, 3) := by decide +kernel
theorem dX9_init_34 : decode cX9_init 34 = .ok (.putfield 26, 3) := by decide +kernel
theorem dX9_init_37 : decode cX9_init 37 = .ok (.aload_n 0, 1) := by decide +kernel
theorem dX9_init_38 : decode cX9_init 38 = .ok (.new 30, 3) := by decide +kernel
theorem dX9_init_41 : decode cX9_init 41 = .ok (.dup, 1) := by decide +kernel
theorem dX9_init_42 : decode cX9_init 42 = .ok (.invokespecial 32, 3) := by decide +kernel
theorem dX9_init_45 : decode cX9_init 45 = .ok (.putfield 33, 3) := by decide +kernel
theorem dX9_init_48 : decode cX9_init 48 = .ok (.aload_n 0, 1) := by decide +kernel
theorem dX9_init_49 : decode cX9_init 49 = .ok (.iconst 2, 1) := by decide +kernel
theorem dX9_init_50 : decode cX9_init 50 = .ok (.anewarray 23, 3) := by decide +kernel
theorem dX9_init_53 : decode cX9_init 53 = .ok (.putfield 37, 3) := by decide +kernel
theorem dX9_init_56 : decode cX9_init 56 = .ok (.aload_n 0, 1) := by decide +kernel
theorem dX9_init_57 : decode cX9_init 57 = .ok (.new 41, 3) := by decide +kernel
theorem dX9_init_60 : decode cX9_init 60 = .ok (.dup, 1) := by decide +kernel
theorem dX9_init_61 : decode cX9_init 61 = .ok (.invokespecial 43, 3) := by decide +kernel
theorem dX9_init_64 : decode cX9_init 64 = .ok (.putfield 44, 3) := by decide +kernel
theorem dX9_init_67 : decode cX9_init 67 = .ok (.aload_n 0, 1) := by decide +kernel
theorem dX9_init_68 : decode cX9_init 68 = .ok (.new 48, 3) := by decide +kernel
theorem dX9_init_71 : decode cX9_init 71 = .ok (.dup, 1) := by decide +kernel
theorem dX9_init_72 : decode cX9_init 72 = .ok (.invokespecial 50, 3) := by decide +kernel
theorem dX9_init_75 : decode cX9_init 75 = .ok (.putfield 51, 3) := by decide +kernel
theorem dX9_init_78 : decode cX9_init 78 = .ok (.aload_n 0, 1) := by decide +kernel
theorem dX9_init_79 : decode cX9_init 79 = .ok (.new 55, 3) := by decide +kernel
theorem dX9_init_82 : decode cX9_init 82 = .ok (.dup, 1) := by decide +kernel
theorem dX9_init_83 : decode cX9_init 83 = .ok (.invokespecial 57, 3) := by decide +kernel
theorem dX9_init_86 : decode cX9_init 86 = .ok (.putfield 58, 3) := by decide +kernel
theorem dX9_init_89 : decode cX9_init 89 = .ok (.aload_n 0, 1) := by decide +kernel
theorem dX9_init_90 : decode cX9_init 90 = .ok (.new 62, 3) := by decide +kernel
theorem dX9_init_93 : decode cX9_init 93 = .ok (.dup, 1) := by decide +kernel
theorem dX9_init_94 : decode cX9_init 94 = .ok (.invokespecial 64, 3) := by decide +kernel
theorem dX9_init_97 : decode cX9_init 97 = .ok (.putfield 65, 3) := by decide +kernel
theorem dX9_init_100 : decode cX9_init 100 = .ok (.aload_n 0, 1) := by decide +kernel
theorem dX9_init_101 : decode cX9_init 101 = .ok (.iconst 0, 1) := by decide +kernel
theorem dX9_init_102 : decode cX9_init 102 = .ok (.putfield 69, 3) := by decide +kernel
theorem dX9_init_105 : decode cX9_init 105 = .ok (.iconst 0, 1) := by decide +kernel
theorem dX9_init_106 : decode cX9_init 106 = .ok (.istore_n 1, 1) := by decide +kernel
theorem dX9_init_107 : decode cX9_init 107 = .ok (.iload_n 1, 1) := by decide +kernel
theorem dX9_init_108 : decode cX9_init 108 = .ok (.iconst 2, 1) := by decide +kernel
theorem dX9_init_109 : decode cX9_init 109 = .ok (.if_icmp .ge 22, 3) := by decide +kernel
theorem dX9_init_112 : decode cX9_init 112 = .ok (.aload_n 0, 1) := by decide +kernel
theorem dX9_init_113 : decode cX9_init 113 = .ok (.getfield 37, 3) := by decide +kernel
theorem dX9_init_116 : decode cX9_init 116 = .ok (.iload_n 1, 1) := by decide +kernel
theorem dX9_init_117 : decode cX9_init 117 = .ok (.new 23, 3) := by decide +kernel
theorem dX9_init_120 : decode cX9_init 120 = .ok (.dup, 1) := by decide +kernel
theorem dX9_init_121 : decode cX9_init 121 = .ok (.invokespecial 25, 3) := by decide +kernel
theorem dX9_init_124 : decode cX9_init 124 = .ok (.aastore, 1) := by decide +kernel
theorem dX9_init_125 : decode cX9_init 125 = .ok (.iinc 1 1, 3) := by decide +kernel
theorem dX9_init_128 : decode cX9_init 128 = .ok (.goto (-21), 3) := by decide +kernel
theorem dX9_init_131 : decode cX9_init 131 = .ok (.return_, 1) := by decide +kernel
theorem dX9_row_0 : decode cX9_row 0 = .ok (.aload_n 0, 1) := by decide +kernel
theorem dX9_row_1 : decode cX9_row 1 = .ok (.getfield 10, 3) := by decide +kernel
theorem dX9_row_4 : decode cX9_row 4 = .ok (.iload_n 1, 1) := by decide +kernel
theorem dX9_row_5 : decode cX9_row 5 = .ok (.invokevirtual 73, 3) := by decide +kernel
theorem dX9_row_8 : decode cX9_row 8 = .ok (.ifCond .eq 18, 3) := by decide +kernel
theorem dX9_row_11 : decode cX9_row 11 = .ok (.iload_n 2, 1) := by decide +kernel
theorem dX9_row_12 : decode cX9_row 12 = .ok (.iconst 0, 1) := by decide +kernel
theorem dX9_row_13 : decode cX9_row 13 = .ok (.iconst 2, 1) := by decide +kernel
theorem dX9_row_14 : decode cX9_row 14 = .ok (.invokestatic 77, 3) := by decide +kernel
theorem dX9_row_17 : decode cX9_row 17 = .ok (.ifCond .eq 9, 3) := by decide +kernel
theorem dX9_row_20 : decode cX9_row 20 = .ok (.iload_n 3, 1) := by decide +kernel
theorem dX9_row_21 : decode cX9_row 21 = .ok (.bipush 40, 2) := by decide +kernel
theorem dX9_row_23 : decode cX9_row 23 = .ok (.if_icmp .le 6, 3) := by decide +kernel
theorem dX9_row_26 : decode cX9_row 26 = .ok (.ldc 81, 2) := by decide +kernel
theorem dX9_row_28 : decode cX9_row 28 = .ok (.ireturn, 1) := by decide +kernel
theorem dX9_row_29 : decode cX9_row 29 = .ok (.iload_n 3, 1) := by decide +kernel
theorem dX9_row_30 : decode cX9_row 30 = .ok (.ifCond .ge 9, 3) := by decide +kernel
theorem dX9_row_33 : decode cX9_row 33 = .ok (.aload_n 0, 1) := by decide +kernel
theorem dX9_row_34 : decode cX9_row 34 = .ok (.iconst 4, 1) := by decide +kernel
theorem dX9_row_35 : decode cX9_row 35 = .ok (.invokevirtual 82, 3) := by decide +kernel
theorem dX9_row_38 : decode cX9_row 38 = .ok (.ireturn, 1) := by decide +kernel
theorem dX9_row_39 : decode cX9_row 39 = .ok (.aload_n 0, 1) := by decide +kernel
theorem dX9_row_40 : decode cX9_row 40 = .ok (.getfield 10, 3) := by decide +kernel
theorem dX9_row_43 : decode cX9_row 43 = .ok (.iload_n 1, 1) := by decide +kernel
theorem dX9_row_44 : decode cX9_row 44 = .ok (.iload_n 2, 1) := by decide +kernel
theorem dX9_row_45 : decode cX9_row 45 = .ok (.iload_n 3, 1) := by decide +kernel
theorem dX9_row_46 : decode cX9_row 46 = .ok (.invokevirtual 86, 3) := by decide +kernel
theorem dX9_row_49 : decode cX9_row 49 = .ok (.aload_n 0, 1) := by decide +kernel
theorem dX9_row_50 : decode cX9_row 50 = .ok (.iload_n 3, 1) := by decide +kernel
theorem dX9_row_51 : decode cX9_row 51 = .ok (.invokevirtual 90, 3) := by decide +kernel
theorem dX9_row_54 : decode cX9_row 54 = .ok (.ireturn, 1) := by decide +kernel
theorem dX9_set_0 : decode cX9_set 0 = .ok (.aload_n 0, 1) := by decide +kernel
theorem dX9_set_1 : decode cX9_set 1 = .ok (.getfield 10, 3) := by decide +kernel
theorem dX9_set_4 : decode cX9_set 4 = .ok (.iload_n 1, 1) := by decide +kernel
theorem dX9_set_5 : decode cX9_set 5 = .ok (.invokevirtual 73, 3) := by decide +kernel
theorem dX9_set_8 : decode cX9_set 8 = .ok (.ifCond .ne 6, 3) := by decide +kernel
theorem dX9_set_11 : decode cX9_set 11 = .ok (.ldc 81, 2) := by decide +kernel
theorem dX9_set_13 : decode cX9_set 13 = .ok (.ireturn, 1) := by decide +kernel
theorem dX9_set_14 : decode cX9_set 14 = .ok (.aload_n 0, 1) := by decide +kernel
theorem dX9_set_15 : decode cX9_set 15 = .ok (.getfield 10, 3) := by decide +kernel
theorem dX9_set_18 : decode cX9_set 18 = .ok (.iload_n 1, 1) := by decide +kernel
theorem dX9_set_19 : decode cX9_set 19 = .ok (.iload_n 2, 1) := by decide +kernel
theorem dX9_set_20 : decode cX9_set 20 = .ok (.iconst 1, 1) := by decide +kernel
theorem dX9_set_21 : decode cX9_set 21 = .ok (.invokevirtual 93, 3) := by decide +kernel
theorem dX9_set_24 : decode cX9_set 24 = .ok (.istore 4, 2) := by decide +kernel
theorem dX9_set_26 : decode cX9_set 26 = .ok (.iload 4, 2) := by decide +kernel
theorem dX9_set_28 : decode cX9_set 28 = .ok (.ifCond .eq 10, 3) := by decide +kernel
theorem dX9_set_31 : decode cX9_set 31 = .ok (.aload_n 0, 1) := by decide +kernel
theorem dX9_set_32 : decode cX9_set 32 = .ok (.iload 4, 2) := by decide +kernel
theorem dX9_set_34 : decode cX9_set 34 = .ok (.invokevirtual 82, 3) := by decide +kernel
theorem dX9_set_37 : decode cX9_set 37 = .ok (.ireturn, 1) := by decide +kernel
theorem dX9_set_38 : decode cX9_set 38 = .ok (.aload_n 0, 1) := by decide +kernel
theorem dX9_set_39 : decode cX9_set 39 = .ok (.aload_n 0, 1) := by decide +kernel
theorem dX9_set_40 : decode cX9_set 40 = .ok (.getfield 10, 3) := by decide +kernel
theorem dX9_set_43 : decode cX9_set 43 = .ok (.iload_n 1, 1) := by decide +kernel
theorem dX9_set_44 : decode cX9_set 44 = .ok (.iload_n 2, 1) := by decide +kernel
theorem dX9_set_45 : decode cX9_set 45 = .ok (.iload_n 3, 1) := by decide +kernel
theorem dX9_set_46 : decode cX9_set 46 = .ok (.invokevirtual 97, 3) := by decide +kernel
theorem dX9_set_49 : decode cX9_set 49 = .ok (.invokevirtual 90, 3) := by decide +kernel
theorem dX9_set_52 : decode cX9_set 52 = .ok (.ireturn, 1) := by decide +kernel
theorem dX9_copy_0 : decode cX9_copy 0 = .ok (.aload_n 0, 1) := by decide +kernel
theorem dX9_copy_1 : decode cX9_copy 1 = .ok (.getfield 10, 3) := by decide +kernel
theorem dX9_copy_4 : decode cX9_copy 4 = .ok (.iload_n 1, 1) := by decide +kernel
theorem dX9_copy_5 : decode cX9_copy 5 = .ok (.invokevirtual 73, 3) := by decide +kernel
theorem dX9_copy_8 : decode cX9_copy 8 = .ok (.ifCond .eq 14, 3) := by decide +kernel
theorem dX9_copy_11 : decode cX9_copy 11 = .ok (.aload_n 0, 1) := by decide +kernel
theorem dX9_copy_12 : decode cX9_copy 12 = .ok (.getfield 10, 3) := by decide +kernel
theorem dX9_copy_15 : decode cX9_copy 15 = .ok (.iload_n 3, 1) := by decide +kernel
theorem dX9_copy_16 : decode cX9_copy 16 = .ok (.invokevirtual 73, 3) := by decide +kernel
theorem dX9_copy_19 : decode cX9_copy 19 = .ok (.ifCond .ne 6, 3) := by decide +kernel
theorem dX9_copy_22 : decode cX9_copy 22 = .ok (.ldc 81, 2) := by decide +kernel
theorem dX9_copy_24 : decode cX9_copy 24 = .ok (.ireturn, 1) := by decide +kernel
theorem dX9_copy_25 : decode cX9_copy 25 = .ok (.aload_n 0, 1) := by decide +kernel
theorem dX9_copy_26 : decode cX9_copy 26 = .ok (.getfield 10, 3) := by decide +kernel
theorem dX9_copy_29 : decode cX9_copy 29 = .ok (.iload_n 1, 1) := by decide +kernel
theorem dX9_copy_30 : decode cX9_copy 30 = .ok (.iload_n 2, 1) := by decide +kernel
theorem dX9_copy_31 : decode cX9_copy 31 = .ok (.iload_n 3, 1) := by decide +kernel
theorem dX9_copy_32 : decode cX9_copy 32 = .ok (.iload 4, 2) := by decide +kernel
theorem dX9_copy_34 : decode cX9_copy 34 = .ok (.iload 5, 2) := by decide +kernel
theorem dX9_copy_36 : decode cX9_copy 36 = .ok (.invokevirtual 100, 3) := by decide +kernel
theorem dX9_copy_39 : decode cX9_copy 39 = .ok (.istore 6, 2) := by decide +kernel
theorem dX9_copy_41 : decode cX9_copy 41 = .ok (.iload 6, 2) := by decide +kernel
theorem dX9_copy_43 : decode cX9_copy 43 = .ok (.ifCond .eq 10, 3) := by decide +kernel
theorem dX9_copy_46 : decode cX9_copy 46 = .ok (.aload_n 0, 1) := by decide +kernel
theorem dX9_copy_47 : decode cX9_copy 47 = .ok (.iload 6, 2) := by decide +kernel
theorem dX9_copy_49 : decode cX9_copy 49 = .ok (.invokevirtual 82, 3) := by decide +kernel
theorem dX9_copy_52 : decode cX9_copy 52 = .ok (.ireturn, 1) := by decide +kernel
theorem dX9_copy_53 : decode cX9_copy 53 = .ok (.aload_n 0, 1) := by decide +kernel
theorem dX9_copy_54 : decode cX9_copy 54 = .ok (.getfield 10, 3) := by decide +kernel
theorem dX9_copy_57 : decode cX9_copy 57 = .ok (.iload_n 1, 1) := by decide +kernel
theorem dX9_copy_58 : decode cX9_copy 58 = .ok (.iload_n 2, 1) := by decide +kernel
theorem dX9_copy_59 : decode cX9_copy 59 = .ok (.iload_n 3, 1) := by decide +kernel
theorem dX9_copy_60 : decode cX9_copy 60 = .ok (.iload 4, 2) := by decide +kernel
theorem dX9_copy_62 : decode cX9_copy 62 = .ok (.iload 5, 2) := by decide +kernel
theorem dX9_copy_64 : decode cX9_copy 64 = .ok (.invokevirtual 104, 3) := by decide +kernel
theorem dX9_copy_67 : decode cX9_copy 67 = .ok (.aload_n 0, 1) := by decide +kernel
theorem dX9_copy_68 : decode cX9_copy 68 = .ok (.iload 5, 2) := by decide +kernel
theorem dX9_copy_70 : decode cX9_copy 70 = .ok (.invokevirtual 90, 3) := by decide +kernel
theorem dX9_copy_73 : decode cX9_copy 73 = .ok (.ireturn, 1) := by decide +kernel
theorem dX9_drop_0 : decode cX9_drop 0 = .ok (.aload_n 0, 1) := by decide +kernel
theorem dX9_drop_1 : decode cX9_drop 1 = .ok (.getfield 10, 3) := by decide +kernel
theorem dX9_drop_4 : decode cX9_drop 4 = .ok (.iload_n 1, 1) := by decide +kernel
theorem dX9_drop_5 : decode cX9_drop 5 = .ok (.invokevirtual 73, 3) := by decide +kernel
theorem dX9_drop_8 : decode cX9_drop 8 = .ok (.ifCond .ne 6, 3) := by decide +kernel
theorem dX9_drop_11 : decode cX9_drop 11 = .ok (.ldc 81, 2) := by decide +kernel
theorem dX9_drop_13 : decode cX9_drop 13 = .ok (.ireturn, 1) := by decide +kernel
theorem dX9_drop_14 : decode cX9_drop 14 = .ok (.aload_n 0, 1) := by decide +kernel
theorem dX9_drop_15 : decode cX9_drop 15 = .ok (.getfield 10, 3) := by decide +kernel
theorem dX9_drop_18 : decode cX9_drop 18 = .ok (.iload_n 1, 1) := by decide +kernel
theorem dX9_drop_19 : decode cX9_drop 19 = .ok (.invokevirtual 108, 3) := by decide +kernel
theorem dX9_drop_22 : decode cX9_drop 22 = .ok (.ifCond .eq 9, 3) := by decide +kernel
theorem dX9_drop_25 : decode cX9_drop 25 = .ok (.aload_n 0, 1) := by decide +kernel
theorem dX9_drop_26 : decode cX9_drop 26 = .ok (.iconst 1, 1) := by decide +kernel
theorem dX9_drop_27 : decode cX9_drop 27 = .ok (.invokevirtual 82, 3) := by decide +kernel
theorem dX9_drop_30 : decode cX9_drop 30 = .ok (.ireturn, 1) := by decide +kernel
theorem dX9_drop_31 : decode cX9_drop 31 = .ok (.aload_n 0, 1) := by decide +kernel
theorem dX9_drop_32 : decode cX9_drop 32 = .ok (.aload_n 0, 1) := by decide +kernel
theorem dX9_drop_33 : decode cX9_drop 33 = .ok (.getfield 10, 3) := by decide +kernel
theorem dX9_drop_36 : decode cX9_drop 36 = .ok (.iload_n 1, 1) := by decide +kernel
theorem dX9_drop_37 : decode cX9_drop 37 = .ok (.invokevirtual 111, 3) := by decide +kernel
theorem dX9_drop_40 : decode cX9_drop 40 = .ok (.invokevirtual 90, 3) := by decide +kernel
theorem dX9_drop_43 : decode cX9_drop 43 = .ok (.ireturn, 1) := by decide +kernel
theorem dX9_feed_0 : decode cX9_feed 0 = .ok (.iload_n 1, 1) := by decide +kernel
theorem dX9_feed_1 : decode cX9_feed 1 = .ok (.iconst 0, 1) := by decide +kernel
theorem dX9_feed_2 : decode cX9_feed 2 = .ok (.sipush 255, 3) := by decide +kernel
theorem dX9_feed_5 : decode cX9_feed 5 = .ok (.invokestatic 77, 3) := by decide +kernel
theorem dX9_feed_8 : decode cX9_feed 8 = .ok (.ifCond .ne 6, 3) := by decide +kernel
theorem dX9_feed_11 : decode cX9_feed 11 = .ok (.ldc 81, 2) := by decide +kernel
theorem dX9_feed_13 : decode cX9_feed 13 = .ok (.ireturn, 1) := by decide +kernel
theorem dX9_feed_14 : decode cX9_feed 14 = .ok (.aload_n 0, 1) := by decide +kernel
theorem dX9_feed_15 : decode cX9_feed 15 = .ok (.getfield 19, 3) := by decide +kernel
theorem dX9_feed_18 : decode cX9_feed 18 = .ok (.iload_n 1, 1) := by decide +kernel
theorem dX9_feed_19 : decode cX9_feed 19 = .ok (.invokevirtual 114, 3) := by decide +kernel
theorem dX9_feed_22 : decode cX9_feed 22 = .ok (.ifCond .eq 13, 3) := by decide +kernel
theorem dX9_feed_25 : decode cX9_feed 25 = .ok (.aload_n 0, 1) := by decide +kernel
theorem dX9_feed_26 : decode cX9_feed 26 = .ok (.getfield 19, 3) := by decide +kernel
theorem dX9_feed_29 : decode cX9_feed 29 = .ok (.getfield 117, 3) := by decide +kernel
theorem dX9_feed_32 : decode cX9_feed 32 = .ok (.goto 5, 3) := by decide +kernel
theorem dX9_feed_35 : decode cX9_feed 35 = .ok (.ldc 120, 2) := by decide +kernel
theorem dX9_feed_37 : decode cX9_feed 37 = .ok (.ireturn, 1) := by decide +kernel
theorem dX9_street_0 : decode cX9_street 0 = .ok (.aload_n 0, 1) := by decide +kernel
theorem dX9_street_1 : decode cX9_street 1 = .ok (.getfield 19, 3) := by decide +kernel
theorem dX9_street_4 : decode cX9_street 4 = .ok (.invokevirtual 121, 3) := by decide +kernel
theorem dX9_street_7 : decode cX9_street 7 = .ok (.ifCond .ne 14, 3) := by decide +kernel
theorem dX9_street_10 : decode cX9_street 10 = .ok (.ldc 125, 2) := by decide +kernel
theorem dX9_street_12 : decode cX9_street 12 = .ok (.aload_n 0, 1) := by decide +kernel
theorem dX9_street_13 : decode cX9_street 13 = .ok (.getfield 19, 3) := by decide +kernel
theorem dX9_street_16 : decode cX9_street 16 = .ok (.getfield 126, 3) := by decide +kernel
theorem dX9_street_19 : decode cX9_street 19 = .ok (.isub, 1) := by decide +kernel
theorem dX9_street_20 : decode cX9_street 20 = .ok (.ireturn, 1) := by decide +kernel
theorem dX9_street_21 : decode cX9_street 21 = .ok (.aload_n 0, 1) := by decide +kernel
theorem dX9_street_22 : decode cX9_street 22 = .ok (.getfield 26, 3) := by decide +kernel
theorem dX9_street_25 : decode cX9_street 25 = .ok (.aload_n 0, 1) := by decide +kernel
theorem dX9_street_26 : decode cX9_street 26 = .ok (.getfield 19, 3) := by decide +kernel
theorem dX9_street_29 : decode cX9_street 29 = .ok (.getfield 129, 3) := by decide +kernel
theorem dX9_street_32 : decode cX9_street 32 = .ok (.invokevirtual 132, 3) := by decide +kernel
theorem dX9_street_35 : decode cX9_street 35 = .ok (.aload_n 0, 1) := by decide +kernel
theorem dX9_street_36 : decode cX9_street 36 = .ok (.getfield 33, 3) := by decide +kernel
theorem dX9_street_39 : decode cX9_street 39 = .ok (.invokevirtual 136, 3) := by decide +kernel
theorem dX9_street_42 : decode cX9_street 42 = .ok (.aload_n 0, 1) := by decide +kernel
theorem dX9_street_43 : decode cX9_street 43 = .ok (.getfield 26, 3) := by decide +kernel
theorem dX9_street_46 : decode cX9_street 46 = .ok (.getfield 139, 3) := by decide +kernel
theorem dX9_street_49 : decode cX9_street 49 = .ok (.ireturn, 1) := by decide +kernel
theorem dX9_fault_0 : decode cX9_fault 0 = .ok (.aload_n 0, 1) := by decide +kernel
theorem dX9_fault_1 : decode cX9_fault 1 = .ok (.getfield 19, 3) := by decide +kernel
theorem dX9_fault_4 : decode cX9_fault 4 = .ok (.getfield 142, 3) := by decide +kernel
theorem dX9_fault_7 : decode cX9_fault 7 = .ok (.ireturn, 1) := by decide +kernel
theorem dX9_undo_0 : decode cX9_undo 0 = .ok (.aload_n 0, 1) := by decide +kernel
theorem dX9_undo_1 : decode cX9_undo 1 = .ok (.getfield 33, 3) := by decide +kernel
theorem dX9_undo_4 : decode cX9_undo 4 = .ok (.aload_n 0, 1) := by decide +kernel
theorem dX9_undo_5 : decode cX9_undo 5 = .ok (.getfield 26, 3) := by decide +kernel
theorem dX9_undo_8 : decode cX9_undo 8 = .ok (.invokevirtual 145, 3) := by decide +kernel
theorem dX9_undo_11 : decode cX9_undo 11 = .ok (.ifCond .eq 13, 3) := by decide +kernel
theorem dX9_undo_14 : decode cX9_undo 14 = .ok (.aload_n 0, 1) := by decide +kernel
theorem dX9_undo_15 : decode cX9_undo 15 = .ok (.getfield 33, 3) := by decide +kernel
theorem dX9_undo_18 : decode cX9_undo 18 = .ok (.getfield 149, 3) := by decide +kernel
theorem dX9_undo_21 : decode cX9_undo 21 = .ok (.goto 5, 3) := by decide +kernel
theorem dX9_undo_24 : decode cX9_undo 24 = .ok (.ldc 152, 2) := by decide +kernel
theorem dX9_undo_26 : decode cX9_undo 26 = .ok (.ireturn, 1) := by decide +kernel
theorem dX9_days_0 : decode cX9_days 0 = .ok (.aload_n 0, 1) := by decide +kernel
theorem dX9_days_1 : decode cX9_days 1 = .ok (.invokevirtual 153, 3) := by decide +kernel
theorem dX9_days_4 : decode cX9_days 4 = .ok (.ifCond .ne 6, 3) := by decide +kernel
theorem dX9_days_7 : decode cX9_days 7 = .ok (.ldc 152, 2) := by decide +kernel
theorem dX9_days_9 : decode cX9_days 9 = .ok (.ireturn, 1) := by decide +kernel
theorem dX9_days_10 : decode cX9_days 10 = .ok (.iload_n 1, 1) := by decide +kernel
theorem dX9_days_11 : decode cX9_days 11 = .ok (.iconst 1, 1) := by decide +kernel
theorem dX9_days_12 : decode cX9_days 12 = .ok (.bipush 24, 2) := by decide +kernel
theorem dX9_days_14 : decode cX9_days 14 = .ok (.invokestatic 77, 3) := by decide +kernel
theorem dX9_days_17 : decode cX9_days 17 = .ok (.ifCond .ne 6, 3) := by decide +kernel
theorem dX9_days_20 : decode cX9_days 20 = .ok (.ldc 81, 2) := by decide +kernel
theorem dX9_days_22 : decode cX9_days 22 = .ok (.ireturn, 1) := by decide +kernel
theorem dX9_days_23 : decode cX9_days 23 = .ok (.aload_n 0, 1) := by decide +kernel
theorem dX9_days_24 : decode cX9_days 24 = .ok (.getfield 26, 3) := by decide +kernel
theorem dX9_days_27 : decode cX9_days 27 = .ok (.getfield 156, 3) := by decide +kernel
theorem dX9_days_30 : decode cX9_days 30 = .ok (.iload_n 1, 1) := by decide +kernel
theorem dX9_days_31 : decode cX9_days 31 = .ok (.iadd, 1) := by decide +kernel
theorem dX9_days_32 : decode cX9_days 32 = .ok (.sipush 999, 3) := by decide +kernel
theorem dX9_days_35 : decode cX9_days 35 = .ok (.if_icmp .le 6, 3) := by decide +kernel
theorem dX9_days_38 : decode cX9_days 38 = .ok (.ldc 120, 2) := by decide +kernel
theorem dX9_days_40 : decode cX9_days 40 = .ok (.ireturn, 1) := by decide +kernel
theorem dX9_days_41 : decode cX9_days 41 = .ok (.iconst 0, 1) := by decide +kernel
theorem dX9_days_42 : decode cX9_days 42 = .ok (.istore_n 2, 1) := by decide +kernel
theorem dX9_days_43 : decode cX9_days 43 = .ok (.iload_n 2, 1) := by decide +kernel
theorem dX9_days_44 : decode cX9_days 44 = .ok (.iload_n 1, 1) := by decide +kernel
theorem dX9_days_45 : decode cX9_days 45 = .ok (.if_icmp .ge 27, 3) := by decide +kernel
theorem dX9_days_48 : decode cX9_days 48 = .ok (.aload_n 0, 1) := by decide +kernel
theorem dX9_days_49 : decode cX9_days 49 = .ok (.getfield 33, 3) := by decide +kernel
theorem dX9_days_52 : decode cX9_days 52 = .ok (.aload_n 0, 1) := by decide +kernel
theorem dX9_days_53 : decode cX9_days 53 = .ok (.getfield 26, 3) := by decide +kernel
theorem dX9_days_56 : decode cX9_days 56 = .ok (.invokevirtual 159, 3) := by decide +kernel
theorem dX9_days_59 : decode cX9_days 59 = .ok (.aload_n 0, 1) := by decide +kernel
theorem dX9_days_60 : decode cX9_days 60 = .ok (.getfield 26, 3) := by decide +kernel
theorem dX9_days_63 : decode cX9_days 63 = .ok (.invokevirtual 162, 3) := by decide +kernel
theorem dX9_days_66 : decode cX9_days 66 = .ok (.iinc 2 1, 3) := by decide +kernel
theorem dX9_days_69 : decode cX9_days 69 = .ok (.goto (-26), 3) := by decide +kernel
theorem dX9_days_72 : decode cX9_days 72 = .ok (.aload_n 0, 1) := by decide +kernel
theorem dX9_days_73 : decode cX9_days 73 = .ok (.getfield 26, 3) := by decide +kernel
theorem dX9_days_76 : decode cX9_days 76 = .ok (.invokevirtual 165, 3) := by decide +kernel
theorem dX9_days_79 : decode cX9_days 79 = .ok (.ireturn, 1) := by decide +kernel
theorem dX9_wall_0 : decode cX9_wall 0 = .ok (.aload_n 0, 1) := by decide +kernel
theorem dX9_wall_1 : decode cX9_wall 1 = .ok (.iload_n 1, 1) := by decide +kernel
theorem dX9_wall_2 : decode cX9_wall 2 = .ok (.invokevirtual 169, 3) := by decide +kernel
theorem dX9_wall_5 : decode cX9_wall 5 = .ok (.ifCond .eq 13, 3) := by decide +kernel
theorem dX9_wall_8 : decode cX9_wall 8 = .ok (.iload_n 2, 1) := by decide +kernel
theorem dX9_wall_9 : decode cX9_wall 9 = .ok (.iconst 0, 1) := by decide +kernel
theorem dX9_wall_10 : decode cX9_wall 10 = .ok (.bipush 9, 2) := by decide +kernel
theorem dX9_wall_12 : decode cX9_wall 12 = .ok (.invokestatic 77, 3) := by decide +kernel
theorem dX9_wall_15 : decode cX9_wall 15 = .ok (.ifCond .ne 6, 3) := by decide +kernel
theorem dX9_wall_18 : decode cX9_wall 18 = .ok (.ldc 81, 2) := by decide +kernel
theorem dX9_wall_20 : decode cX9_wall 20 = .ok (.ireturn, 1) := by decide +kernel
theorem dX9_wall_21 : decode cX9_wall 21 = .ok (.aload_n 0, 1) := by decide +kernel
theorem dX9_wall_22 : decode cX9_wall 22 = .ok (.getfield 26, 3) := by decide +kernel
theorem dX9_wall_25 : decode cX9_wall 25 = .ok (.getfield 172, 3) := by decide +kernel
theorem dX9_wall_28 : decode cX9_wall 28 = .ok (.iload_n 1, 1) := by decide +kernel
theorem dX9_wall_29 : decode cX9_wall 29 = .ok (.iaload, 1) := by decide +kernel
theorem dX9_wall_30 : decode cX9_wall 30 = .ok (.istore_n 3, 1) := by decide +kernel
theorem dX9_wall_31 : decode cX9_wall 31 = .ok (.aload_n 0, 1) := by decide +kernel
theorem dX9_wall_32 : decode cX9_wall 32 = .ok (.getfield 33, 3) := by decide +kernel
theorem dX9_wall_35 : decode cX9_wall 35 = .ok (.aload_n 0, 1) := by decide +kernel
theorem dX9_wall_36 : decode cX9_wall 36 = .ok (.getfield 26, 3) := by decide +kernel
theorem dX9_wall_39 : decode cX9_wall 39 = .ok (.invokevirtual 159, 3) := by decide +kernel
theorem dX9_wall_42 : decode cX9_wall 42 = .ok (.aload_n 0, 1) := by decide +kernel
theorem dX9_wall_43 : decode cX9_wall 43 = .ok (.getfield 26, 3) := by decide +kernel
theorem dX9_wall_46 : decode cX9_wall 46 = .ok (.getfield 172, 3) := by decide +kernel
theorem dX9_wall_49 : decode cX9_wall 49 = .ok (.iload_n 1, 1) := by decide +kernel
theorem dX9_wall_50 : decode cX9_wall 50 = .ok (.iload_n 2, 1) := by decide +kernel
theorem dX9_wall_51 : decode cX9_wall 51 = .ok (.iastore, 1) := by decide +kernel
theorem dX9_wall_52 : decode cX9_wall 52 = .ok (.iload_n 3, 1) := by decide +kernel
theorem dX9_wall_53 : decode cX9_wall 53 = .ok (.ireturn, 1) := by decide +kernel
theorem dX9_carry_0 : decode cX9_carry 0 = .ok (.aload_n 0, 1) := by decide +kernel
theorem dX9_carry_1 : decode cX9_carry 1 = .ok (.iload_n 1, 1) := by decide +kernel
theorem dX9_carry_2 : decode cX9_carry 2 = .ok (.invokevirtual 176, 3) := by decide +kernel
theorem dX9_carry_5 : decode cX9_carry 5 = .ok (.ifCond .ne 6, 3) := by decide +kernel
theorem dX9_carry_8 : decode cX9_carry 8 = .ok (.ldc 81, 2) := by decide +kernel
theorem dX9_carry_10 : decode cX9_carry 10 = .ok (.ireturn, 1) := by decide +kernel
theorem dX9_carry_11 : decode cX9_carry 11 = .ok (.aload_n 0, 1) := by decide +kernel
theorem dX9_carry_12 : decode cX9_carry 12 = .ok (.getfield 26, 3) := by decide +kernel
theorem dX9_carry_15 : decode cX9_carry 15 = .ok (.iload_n 1, 1) := by decide +kernel
theorem dX9_carry_16 : decode cX9_carry 16 = .ok (.invokevirtual 179, 3) := by decide +kernel
theorem dX9_carry_19 : decode cX9_carry 19 = .ok (.ifCond .ne 6, 3) := by decide +kernel
theorem dX9_carry_22 : decode cX9_carry 22 = .ok (.ldc 152, 2) := by decide +kernel
theorem dX9_carry_24 : decode cX9_carry 24 = .ok (.ireturn, 1) := by decide +kernel
theorem dX9_carry_25 : decode cX9_carry 25 = .ok (.aload_n 0, 1) := by decide +kernel
theorem dX9_carry_26 : decode cX9_carry 26 = .ok (.getfield 33, 3) := by decide +kernel
theorem dX9_carry_29 : decode cX9_carry 29 = .ok (.aload_n 0, 1) := by decide +kernel
theorem dX9_carry_30 : decode cX9_carry 30 = .ok (.getfield 26, 3) := by decide +kernel
theorem dX9_carry_33 : decode cX9_carry 33 = .ok (.invokevirtual 159, 3) := by decide +kernel
theorem dX9_carry_36 : decode cX9_carry 36 = .ok (.aload_n 0, 1) := by decide +kernel
theorem dX9_carry_37 : decode cX9_carry 37 = .ok (.getfield 26, 3) := by decide +kernel
theorem dX9_carry_40 : decode cX9_carry 40 = .ok (.iload_n 1, 1) := by decide +kernel
theorem dX9_carry_41 : decode cX9_carry 41 = .ok (.aload_n 0, 1) := by decide +kernel
theorem dX9_carry_42 : decode cX9_carry 42 = .ok (.getfield 26, 3) := by decide +kernel
theorem dX9_carry_45 : decode cX9_carry 45 = .ok (.aload_n 0, 1) := by decide +kernel
theorem dX9_carry_46 : decode cX9_carry 46 = .ok (.getfield 26, 3) := by decide +kernel
theorem dX9_carry_49 : decode cX9_carry 49 = .ok (.getfield 182, 3) := by decide +kernel
theorem dX9_carry_52 : decode cX9_carry 52 = .ok (.iload_n 1, 1) := by decide +kernel
theorem dX9_carry_53 : decode cX9_carry 53 = .ok (.iaload, 1) := by decide +kernel
theorem dX9_carry_54 : decode cX9_carry 54 = .ok (.invokevirtual 185, 3) := by decide +kernel
theorem dX9_carry_57 : decode cX9_carry 57 = .ok (.invokevirtual 188, 3) := by decide +kernel
theorem dX9_carry_60 : decode cX9_carry 60 = .ok (.aload_n 0, 1) := by decide +kernel
theorem dX9_carry_61 : decode cX9_carry 61 = .ok (.getfield 26, 3) := by decide +kernel
theorem dX9_carry_64 : decode cX9_carry 64 = .ok (.getfield 182, 3) := by decide +kernel
theorem dX9_carry_67 : decode cX9_carry 67 = .ok (.iload_n 1, 1) := by decide +kernel
theorem dX9_carry_68 : decode cX9_carry 68 = .ok (.iaload, 1) := by decide +kernel
theorem dX9_carry_69 : decode cX9_carry 69 = .ok (.ireturn, 1) := by decide +kernel
theorem dX9_feeding_0 : decode cX9_feeding 0 = .ok (.aload_n 0, 1) := by decide +kernel
theorem dX9_feeding_1 : decode cX9_feeding 1 = .ok (.invokevirtual 153, 3) := by decide +kernel
theorem dX9_feeding_4 : decode cX9_feeding 4 = .ok (.ifCond .ne 6, 3) := by decide +kernel
theorem dX9_feeding_7 : decode cX9_feeding 7 = .ok (.ldc 152, 2) := by decide +kernel
theorem dX9_feeding_9 : decode cX9_feeding 9 = .ok (.ireturn, 1) := by decide +kernel
theorem dX9_feeding_10 : decode cX9_feeding 10 = .ok (.iload_n 1, 1) := by decide +kernel
theorem dX9_feeding_11 : decode cX9_feeding 11 = .ok (.iconst 0, 1) := by decide +kernel
theorem dX9_feeding_12 : decode cX9_feeding 12 = .ok (.bipush 20, 2) := by decide +kernel
theorem dX9_feeding_14 : decode cX9_feeding 14 = .ok (.invokestatic 77, 3) := by decide +kernel
theorem dX9_feeding_17 : decode cX9_feeding 17 = .ok (.ifCond .ne 6, 3) := by decide +kernel
theorem dX9_feeding_20 : decode cX9_feeding 20 = .ok (.ldc 81, 2) := by decide +kernel
theorem dX9_feeding_22 : decode cX9_feeding 22 = .ok (.ireturn, 1) := by decide +kernel
theorem dX9_feeding_23 : decode cX9_feeding 23 = .ok (.aload_n 0, 1) := by decide +kernel
theorem dX9_feeding_24 : decode cX9_feeding 24 = .ok (.getfield 26, 3) := by decide +kernel
theorem dX9_feeding_27 : decode cX9_feeding 27 = .ok (.getfield 192, 3) := by decide +kernel
theorem dX9_feeding_30 : decode cX9_feeding 30 = .ok (.istore_n 2, 1) := by decide +kernel
theorem dX9_feeding_31 : decode cX9_feeding 31 = .ok (.aload_n 0, 1) := by decide +kernel
theorem dX9_feeding_32 : decode cX9_feeding 32 = .ok (.getfield 33, 3) := by decide +kernel
theorem dX9_feeding_35 : decode cX9_feeding 35 = .ok (.aload_n 0, 1) := by decide +kernel
theorem dX9_feeding_36 : decode cX9_feeding 36 = .ok (.getfield 26, 3) := by decide +kernel
theorem dX9_feeding_39 : decode cX9_feeding 39 = .ok (.invokevirtual 159, 3) := by decide +kernel
theorem dX9_feeding_42 : decode cX9_feeding 42 = .ok (.aload_n 0, 1) := by decide +kernel
theorem dX9_feeding_43 : decode cX9_feeding 43 = .ok (.getfield 26, 3) := by decide +kernel
theorem dX9_feeding_46 : decode cX9_feeding 46 = .ok (.iload_n 1, 1) := by decide +kernel
theorem dX9_feeding_47 : decode cX9_feeding 47 = .ok (.putfield 192, 3) := by decide +kernel
theorem dX9_feeding_50 : decode cX9_feeding 50 = .ok (.iload_n 2, 1) := by decide +kernel
theorem dX9_feeding_51 : decode cX9_feeding 51 = .ok (.ireturn, 1) := by decide +kernel
theorem dX9_dig_0 : decode cX9_dig 0 = .ok (.aload_n 0, 1) := by decide +kernel
theorem dX9_dig_1 : decode cX9_dig 1 = .ok (.iload_n 1, 1) := by decide +kernel
theorem dX9_dig_2 : decode cX9_dig 2 = .ok (.invokevirtual 176, 3) := by decide +kernel
theorem dX9_dig_5 : decode cX9_dig 5 = .ok (.ifCond .ne 6, 3) := by decide +kernel
theorem dX9_dig_8 : decode cX9_dig 8 = .ok (.ldc 81, 2) := by decide +kernel
theorem dX9_dig_10 : decode cX9_dig 10 = .ok (.ireturn, 1) := by decide +kernel
theorem dX9_dig_11 : decode cX9_dig 11 = .ok (.aload_n 0, 1) := by decide +kernel
theorem dX9_dig_12 : decode cX9_dig 12 = .ok (.getfield 26, 3) := by decide +kernel
theorem dX9_dig_15 : decode cX9_dig 15 = .ok (.getfield 182, 3) := by decide +kernel
theorem dX9_dig_18 : decode cX9_dig 18 = .ok (.iload_n 1, 1) := by decide +kernel
theorem dX9_dig_19 : decode cX9_dig 19 = .ok (.iaload, 1) := by decide +kernel
theorem dX9_dig_20 : decode cX9_dig 20 = .ok (.bipush 30, 2) := by decide +kernel
theorem dX9_dig_22 : decode cX9_dig 22 = .ok (.if_icmp .ge 6, 3) := by decide +kernel
theorem dX9_dig_25 : decode cX9_dig 25 = .ok (.ldc 152, 2) := by decide +kernel
theorem dX9_dig_27 : decode cX9_dig 27 = .ok (.ireturn, 1) := by decide +kernel
theorem dX9_dig_28 : decode cX9_dig 28 = .ok (.aload_n 0, 1) := by decide +kernel
theorem dX9_dig_29 : decode cX9_dig 29 = .ok (.getfield 33, 3) := by decide +kernel
theorem dX9_dig_32 : decode cX9_dig 32 = .ok (.aload_n 0, 1) := by decide +kernel
theorem dX9_dig_33 : decode cX9_dig 33 = .ok (.getfield 26, 3) := by decide +kernel
theorem dX9_dig_36 : decode cX9_dig 36 = .ok (.invokevirtual 159, 3) := by decide +kernel
theorem dX9_dig_39 : decode cX9_dig 39 = .ok (.aload_n 0, 1) := by decide +kernel
theorem dX9_dig_40 : decode cX9_dig 40 = .ok (.getfield 26, 3) := by decide +kernel
theorem dX9_dig_43 : decode cX9_dig 43 = .ok (.iload_n 1, 1) := by decide +kernel
theorem dX9_dig_44 : decode cX9_dig 44 = .ok (.bipush 20, 2) := by decide +kernel
theorem dX9_dig_46 : decode cX9_dig 46 = .ok (.invokevirtual 188, 3) := by decide +kernel
theorem dX9_dig_49 : decode cX9_dig 49 = .ok (.aload_n 0, 1) := by decide +kernel
theorem dX9_dig_50 : decode cX9_dig 50 = .ok (.getfield 26, 3) := by decide +kernel
theorem dX9_dig_53 : decode cX9_dig 53 = .ok (.invokevirtual 165, 3) := by decide +kernel
theorem dX9_dig_56 : decode cX9_dig 56 = .ok (.ireturn, 1) := by decide +kernel
theorem dX9_thing_0 : decode cX9_thing 0 = .ok (.aload_n 0, 1) := by decide +kernel
theorem dX9_thing_1 : decode cX9_thing 1 = .ok (.iload_n 1, 1) := by decide +kernel
theorem dX9_thing_2 : decode cX9_thing 2 = .ok (.invokevirtual 176, 3) := by decide +kernel
theorem dX9_thing_5 : decode cX9_thing 5 = .ok (.ifCond .ne 6, 3) := by decide +kernel
theorem dX9_thing_8 : decode cX9_thing 8 = .ok (.ldc 81, 2) := by decide +kernel
theorem dX9_thing_10 : decode cX9_thing 10 = .ok (.ireturn, 1) := by decide +kernel
theorem dX9_thing_11 : decode cX9_thing 11 = .ok (.iload_n 2, 1) := by decide +kernel
theorem dX9_thing_12 : decode cX9_thing 12 = .ok (.tableswitch 84 0 2 #[28, 38, 48], 28) := by decide +kernel
theorem dX9_thing_40 : decode cX9_thing 40 = .ok (.aload_n 0, 1) := by decide +kernel
theorem dX9_thing_41 : decode cX9_thing 41 = .ok (.getfield 26, 3) := by decide +kernel
theorem dX9_thing_44 : decode cX9_thing 44 = .ok (.getfield 195, 3) := by decide +kernel
theorem dX9_thing_47 : decode cX9_thing 47 = .ok (.iload_n 1, 1) := by decide +kernel
theorem dX9_thing_48 : decode cX9_thing 48 = .ok (.iaload, 1) := by decide +kernel
theorem dX9_thing_49 : decode cX9_thing 49 = .ok (.ireturn, 1) := by decide +kernel
theorem dX9_thing_50 : decode cX9_thing 50 = .ok (.aload_n 0, 1) := by decide +kernel
theorem dX9_thing_51 : decode cX9_thing 51 = .ok (.getfield 26, 3) := by decide +kernel
theorem dX9_thing_54 : decode cX9_thing 54 = .ok (.getfield 182, 3) := by decide +kernel
theorem dX9_thing_57 : decode cX9_thing 57 = .ok (.iload_n 1, 1) := by decide +kernel
theorem dX9_thing_58 : decode cX9_thing 58 = .ok (.iaload, 1) := by decide +kernel
theorem dX9_thing_59 : decode cX9_thing 59 = .ok (.ireturn, 1) := by decide +kernel
theorem dX9_thing_60 : decode cX9_thing 60 = .ok (.aload_n 0, 1) := by decide +kernel
theorem dX9_thing_61 : decode cX9_thing 61 = .ok (.getfield 26, 3) := by decide +kernel
theorem dX9_thing_64 : decode cX9_thing 64 = .ok (.getfield 182, 3) := by decide +kernel
theorem dX9_thing_67 : decode cX9_thing 67 = .ok (.iload_n 1, 1) := by decide +kernel
theorem dX9_thing_68 : decode cX9_thing 68 = .ok (.iaload, 1) := by decide +kernel
theorem dX9_thing_69 : decode cX9_thing 69 = .ok (.bipush 20, 2) := by decide +kernel
theorem dX9_thing_71 : decode cX9_thing 71 = .ok (.if_icmp .ne 7, 3) := by decide +kernel
theorem dX9_thing_74 : decode cX9_thing 74 = .ok (.iconst 0, 1) := by decide +kernel
theorem dX9_thing_75 : decode cX9_thing 75 = .ok (.goto 20, 3) := by decide +kernel
theorem dX9_thing_78 : decode cX9_thing 78 = .ok (.aload_n 0, 1) := by decide +kernel
theorem dX9_thing_79 : decode cX9_thing 79 = .ok (.getfield 26, 3) := by decide +kernel
theorem dX9_thing_82 : decode cX9_thing 82 = .ok (.getfield 198, 3) := by decide +kernel
theorem dX9_thing_85 : decode cX9_thing 85 = .ok (.aload_n 0, 1) := by decide +kernel
theorem dX9_thing_86 : decode cX9_thing 86 = .ok (.getfield 26, 3) := by decide +kernel
theorem dX9_thing_89 : decode cX9_thing 89 = .ok (.getfield 201, 3) := by decide +kernel
theorem dX9_thing_92 : decode cX9_thing 92 = .ok (.iload_n 1, 1) := by decide +kernel
theorem dX9_thing_93 : decode cX9_thing 93 = .ok (.iaload, 1) := by decide +kernel
theorem dX9_thing_94 : decode cX9_thing 94 = .ok (.iaload, 1) := by decide +kernel
theorem dX9_thing_95 : decode cX9_thing 95 = .ok (.ireturn, 1) := by decide +kernel
theorem dX9_thing_96 : decode cX9_thing 96 = .ok (.ldc 81, 2) := by decide +kernel
theorem dX9_thing_98 : decode cX9_thing 98 = .ok (.ireturn, 1) := by decide +kernel
theorem dX9_roomOf_0 : decode cX9_roomOf 0 = .ok (.aload_n 0, 1) := by decide +kernel
theorem dX9_roomOf_1 : decode cX9_roomOf 1 = .ok (.iload_n 1, 1) := by decide +kernel
theorem dX9_roomOf_2 : decode cX9_roomOf 2 = .ok (.invokevirtual 169, 3) := by decide +kernel
theorem dX9_roomOf_5 : decode cX9_roomOf 5 = .ok (.ifCond .ne 6, 3) := by decide +kernel
theorem dX9_roomOf_8 : decode cX9_roomOf 8 = .ok (.ldc 81, 2) := by decide +kernel
theorem dX9_roomOf_10 : decode cX9_roomOf 10 = .ok (.ireturn, 1) := by decide +kernel
theorem dX9_roomOf_11 : decode cX9_roomOf 11 = .ok (.iload_n 2, 1) := by decide +kernel
theorem dX9_roomOf_12 : decode cX9_roomOf 12 = .ok (.tableswitch 87 0 4 #[36, 46, 56, 66, 75], 36) := by decide +kernel
theorem dX9_roomOf_48 : decode cX9_roomOf 48 = .ok (.aload_n 0, 1) := by decide +kernel
theorem dX9_roomOf_49 : decode cX9_roomOf 49 = .ok (.getfield 26, 3) := by decide +kernel
theorem dX9_roomOf_52 : decode cX9_roomOf 52 = .ok (.getfield 204, 3) := by decide +kernel
theorem dX9_roomOf_55 : decode cX9_roomOf 55 = .ok (.iload_n 1, 1) := by decide +kernel
theorem dX9_roomOf_56 : decode cX9_roomOf 56 = .ok (.iaload, 1) := by decide +kernel
theorem dX9_roomOf_57 : decode cX9_roomOf 57 = .ok (.ireturn, 1) := by decide +kernel
theorem dX9_roomOf_58 : decode cX9_roomOf 58 = .ok (.aload_n 0, 1) := by decide +kernel
theorem dX9_roomOf_59 : decode cX9_roomOf 59 = .ok (.getfield 26, 3) := by decide +kernel
theorem dX9_roomOf_62 : decode cX9_roomOf 62 = .ok (.getfield 198, 3) := by decide +kernel
theorem dX9_roomOf_65 : decode cX9_roomOf 65 = .ok (.iload_n 1, 1) := by decide +kernel
theorem dX9_roomOf_66 : decode cX9_roomOf 66 = .ok (.iaload, 1) := by decide +kernel
theorem dX9_roomOf_67 : decode cX9_roomOf 67 = .ok (.ireturn, 1) := by decide +kernel
theorem dX9_roomOf_68 : decode cX9_roomOf 68 = .ok (.aload_n 0, 1) := by decide +kernel
theorem dX9_roomOf_69 : decode cX9_roomOf 69 = .ok (.getfield 26, 3) := by decide +kernel
theorem dX9_roomOf_72 : decode cX9_roomOf 72 = .ok (.getfield 172, 3) := by decide +kernel
theorem dX9_roomOf_75 : decode cX9_roomOf 75 = .ok (.iload_n 1, 1) := by decide +kernel
theorem dX9_roomOf_76 : decode cX9_roomOf 76 = .ok (.iaload, 1) := by decide +kernel
theorem dX9_roomOf_77 : decode cX9_roomOf 77 = .ok (.ireturn, 1) := by decide +kernel
theorem dX9_roomOf_78 : decode cX9_roomOf 78 = .ok (.aload_n 0, 1) := by decide +kernel
theorem dX9_roomOf_79 : decode cX9_roomOf 79 = .ok (.getfield 26, 3) := by decide +kernel
theorem dX9_roomOf_82 : decode cX9_roomOf 82 = .ok (.iload_n 1, 1) := by decide +kernel
theorem dX9_roomOf_83 : decode cX9_roomOf 83 = .ok (.invokevirtual 207, 3) := by decide +kernel
theorem dX9_roomOf_86 : decode cX9_roomOf 86 = .ok (.ireturn, 1) := by decide +kernel
theorem dX9_roomOf_87 : decode cX9_roomOf 87 = .ok (.aload_n 0, 1) := by decide +kernel
theorem dX9_roomOf_88 : decode cX9_roomOf 88 = .ok (.getfield 26, 3) := by decide +kernel
theorem dX9_roomOf_91 : decode cX9_roomOf 91 = .ok (.bipush 30, 2) := by decide +kernel
theorem dX9_roomOf_93 : decode cX9_roomOf 93 = .ok (.iload_n 1, 1) := by decide +kernel
theorem dX9_roomOf_94 : decode cX9_roomOf 94 = .ok (.iadd, 1) := by decide +kernel
theorem dX9_roomOf_95 : decode cX9_roomOf 95 = .ok (.invokevirtual 207, 3) := by decide +kernel
theorem dX9_roomOf_98 : decode cX9_roomOf 98 = .ok (.ireturn, 1) := by decide +kernel
theorem dX9_roomOf_99 : decode cX9_roomOf 99 = .ok (.ldc 81, 2) := by decide +kernel
theorem dX9_roomOf_101 : decode cX9_roomOf 101 = .ok (.ireturn, 1) := by decide +kernel
theorem dX9_stand_0 : decode cX9_stand 0 = .ok (.aload_n 0, 1) := by decide +kernel
theorem dX9_stand_1 : decode cX9_stand 1 = .ok (.invokevirtual 153, 3) := by decide +kernel
theorem dX9_stand_4 : decode cX9_stand 4 = .ok (.ifCond .ne 6, 3) := by decide +kernel
theorem dX9_stand_7 : decode cX9_stand 7 = .ok (.ldc 152, 2) := by decide +kernel
theorem dX9_stand_9 : decode cX9_stand 9 = .ok (.ireturn, 1) := by decide +kernel
theorem dX9_stand_10 : decode cX9_stand 10 = .ok (.iload_n 1, 1) := by decide +kernel
theorem dX9_stand_11 : decode cX9_stand 11 = .ok (.tableswitch 87 0 5 #[37, 45, 53, 61, 69, 77], 37) := by decide +kernel
theorem dX9_stand_48 : decode cX9_stand 48 = .ok (.aload_n 0, 1) := by decide +kernel
theorem dX9_stand_49 : decode cX9_stand 49 = .ok (.getfield 26, 3) := by decide +kernel
theorem dX9_stand_52 : decode cX9_stand 52 = .ok (.getfield 210, 3) := by decide +kernel
theorem dX9_stand_55 : decode cX9_stand 55 = .ok (.ireturn, 1) := by decide +kernel
theorem dX9_stand_56 : decode cX9_stand 56 = .ok (.aload_n 0, 1) := by decide +kernel
theorem dX9_stand_57 : decode cX9_stand 57 = .ok (.getfield 26, 3) := by decide +kernel
theorem dX9_stand_60 : decode cX9_stand 60 = .ok (.getfield 192, 3) := by decide +kernel
theorem dX9_stand_63 : decode cX9_stand 63 = .ok (.ireturn, 1) := by decide +kernel
theorem dX9_stand_64 : decode cX9_stand 64 = .ok (.aload_n 0, 1) := by decide +kernel
theorem dX9_stand_65 : decode cX9_stand 65 = .ok (.getfield 26, 3) := by decide +kernel
theorem dX9_stand_68 : decode cX9_stand 68 = .ok (.getfield 213, 3) := by decide +kernel
theorem dX9_stand_71 : decode cX9_stand 71 = .ok (.ireturn, 1) := by decide +kernel
theorem dX9_stand_72 : decode cX9_stand 72 = .ok (.aload_n 0, 1) := by decide +kernel
theorem dX9_stand_73 : decode cX9_stand 73 = .ok (.getfield 26, 3) := by decide +kernel
theorem dX9_stand_76 : decode cX9_stand 76 = .ok (.invokevirtual 216, 3) := by decide +kernel
theorem dX9_stand_79 : decode cX9_stand 79 = .ok (.ireturn, 1) := by decide +kernel
theorem dX9_stand_80 : decode cX9_stand 80 = .ok (.aload_n 0, 1) := by decide +kernel
theorem dX9_stand_81 : decode cX9_stand 81 = .ok (.getfield 26, 3) := by decide +kernel
theorem dX9_stand_84 : decode cX9_stand 84 = .ok (.invokevirtual 165, 3) := by decide +kernel
theorem dX9_stand_87 : decode cX9_stand 87 = .ok (.ireturn, 1) := by decide +kernel
theorem dX9_stand_88 : decode cX9_stand 88 = .ok (.aload_n 0, 1) := by decide +kernel
theorem dX9_stand_89 : decode cX9_stand 89 = .ok (.getfield 26, 3) := by decide +kernel
theorem dX9_stand_92 : decode cX9_stand 92 = .ok (.bipush 20, 2) := by decide +kernel
theorem dX9_stand_94 : decode cX9_stand 94 = .ok (.invokevirtual 207, 3) := by decide +kernel
theorem dX9_stand_97 : decode cX9_stand 97 = .ok (.ireturn, 1) := by decide +kernel
theorem dX9_stand_98 : decode cX9_stand 98 = .ok (.ldc 81, 2) := by decide +kernel
theorem dX9_stand_100 : decode cX9_stand 100 = .ok (.ireturn, 1) := by decide +kernel
theorem dX9_ahead_0 : decode cX9_ahead 0 = .ok (.aload_n 0, 1) := by decide +kernel
theorem dX9_ahead_1 : decode cX9_ahead 1 = .ok (.iload_n 1, 1) := by decide +kernel
theorem dX9_ahead_2 : decode cX9_ahead 2 = .ok (.invokevirtual 176, 3) := by decide +kernel
theorem dX9_ahead_5 : decode cX9_ahead 5 = .ok (.ifCond .eq 13, 3) := by decide +kernel
theorem dX9_ahead_8 : decode cX9_ahead 8 = .ok (.iload_n 2, 1) := by decide +kernel
theorem dX9_ahead_9 : decode cX9_ahead 9 = .ok (.iconst 0, 1) := by decide +kernel
theorem dX9_ahead_10 : decode cX9_ahead 10 = .ok (.bipush 60, 2) := by decide +kernel
theorem dX9_ahead_12 : decode cX9_ahead 12 = .ok (.invokestatic 77, 3) := by decide +kernel
theorem dX9_ahead_15 : decode cX9_ahead 15 = .ok (.ifCond .ne 6, 3) := by decide +kernel
theorem dX9_ahead_18 : decode cX9_ahead 18 = .ok (.ldc 81, 2) := by decide +kernel
theorem dX9_ahead_20 : decode cX9_ahead 20 = .ok (.ireturn, 1) := by decide +kernel
theorem dX9_ahead_21 : decode cX9_ahead 21 = .ok (.aload_n 0, 1) := by decide +kernel
theorem dX9_ahead_22 : decode cX9_ahead 22 = .ok (.getfield 44, 3) := by decide +kernel
theorem dX9_ahead_25 : decode cX9_ahead 25 = .ok (.aload_n 0, 1) := by decide +kernel
theorem dX9_ahead_26 : decode cX9_ahead 26 = .ok (.getfield 26, 3) := by decide +kernel
theorem dX9_ahead_29 : decode cX9_ahead 29 = .ok (.iload_n 1, 1) := by decide +kernel
theorem dX9_ahead_30 : decode cX9_ahead 30 = .ok (.iload_n 2, 1) := by decide +kernel
theorem dX9_ahead_31 : decode cX9_ahead 31 = .ok (.invokevirtual 219, 3) := by decide +kernel
theorem dX9_ahead_34 : decode cX9_ahead 34 = .ok (.ireturn, 1) := by decide +kernel
theorem dX9_lava_0 : decode cX9_lava 0 = .ok (.aload_n 0, 1) := by decide +kernel
theorem dX9_lava_1 : decode cX9_lava 1 = .ok (.iload_n 1, 1) := by decide +kernel
theorem dX9_lava_2 : decode cX9_lava 2 = .ok (.invokevirtual 169, 3) := by decide +kernel
theorem dX9_lava_5 : decode cX9_lava 5 = .ok (.ifCond .eq 13, 3) := by decide +kernel
theorem dX9_lava_8 : decode cX9_lava 8 = .ok (.iload_n 2, 1) := by decide +kernel
theorem dX9_lava_9 : decode cX9_lava 9 = .ok (.iconst 0, 1) := by decide +kernel
theorem dX9_lava_10 : decode cX9_lava 10 = .ok (.bipush 60, 2) := by decide +kernel
theorem dX9_lava_12 : decode cX9_lava 12 = .ok (.invokestatic 77, 3) := by decide +kernel
theorem dX9_lava_15 : decode cX9_lava 15 = .ok (.ifCond .ne 6, 3) := by decide +kernel
theorem dX9_lava_18 : decode cX9_lava 18 = .ok (.ldc 81, 2) := by decide +kernel
theorem dX9_lava_20 : decode cX9_lava 20 = .ok (.ireturn, 1) := by decide +kernel
theorem dX9_lava_21 : decode cX9_lava 21 = .ok (.aload_n 0, 1) := by decide +kernel
theorem dX9_lava_22 : decode cX9_lava 22 = .ok (.getfield 44, 3) := by decide +kernel
theorem dX9_lava_25 : decode cX9_lava 25 = .ok (.aload_n 0, 1) := by decide +kernel
theorem dX9_lava_26 : decode cX9_lava 26 = .ok (.getfield 26, 3) := by decide +kernel
theorem dX9_lava_29 : decode cX9_lava 29 = .ok (.iload_n 1, 1) := by decide +kernel
theorem dX9_lava_30 : decode cX9_lava 30 = .ok (.iload_n 2, 1) := by decide +kernel
theorem dX9_lava_31 : decode cX9_lava 31 = .ok (.invokevirtual 223, 3) := by decide +kernel
theorem dX9_lava_34 : decode cX9_lava 34 = .ok (.ireturn, 1) := by decide +kernel
theorem dX9_kept_0 : decode cX9_kept 0 = .ok (.aload_n 0, 1) := by decide +kernel
theorem dX9_kept_1 : decode cX9_kept 1 = .ok (.invokevirtual 153, 3) := by decide +kernel
theorem dX9_kept_4 : decode cX9_kept 4 = .ok (.ifCond .ne 6, 3) := by decide +kernel
theorem dX9_kept_7 : decode cX9_kept 7 = .ok (.ldc 152, 2) := by decide +kernel
theorem dX9_kept_9 : decode cX9_kept 9 = .ok (.ireturn, 1) := by decide +kernel
theorem dX9_kept_10 : decode cX9_kept 10 = .ok (.iload_n 1, 1) := by decide +kernel
theorem dX9_kept_11 : decode cX9_kept 11 = .ok (.iconst 0, 1) := by decide +kernel
theorem dX9_kept_12 : decode cX9_kept 12 = .ok (.bipush 60, 2) := by decide +kernel
theorem dX9_kept_14 : decode cX9_kept 14 = .ok (.invokestatic 77, 3) := by decide +kernel
theorem dX9_kept_17 : decode cX9_kept 17 = .ok (.ifCond .eq 12, 3) := by decide +kernel
theorem dX9_kept_20 : decode cX9_kept 20 = .ok (.iload_n 2, 1) := by decide +kernel
theorem dX9_kept_21 : decode cX9_kept 21 = .ok (.iconst 0, 1) := by decide +kernel
theorem dX9_kept_22 : decode cX9_kept 22 = .ok (.iconst 1, 1) := by decide +kernel
theorem dX9_kept_23 : decode cX9_kept 23 = .ok (.invokestatic 77, 3) := by decide +kernel
theorem dX9_kept_26 : decode cX9_kept 26 = .ok (.ifCond .ne 6, 3) := by decide +kernel
theorem dX9_kept_29 : decode cX9_kept 29 = .ok (.ldc 81, 2) := by decide +kernel
theorem dX9_kept_31 : decode cX9_kept 31 = .ok (.ireturn, 1) := by decide +kernel
theorem dX9_kept_32 : decode cX9_kept 32 = .ok (.iload_n 2, 1) := by decide +kernel
theorem dX9_kept_33 : decode cX9_kept 33 = .ok (.ifCond .ne 18, 3) := by decide +kernel
theorem dX9_kept_36 : decode cX9_kept 36 = .ok (.aload_n 0, 1) := by decide +kernel
theorem dX9_kept_37 : decode cX9_kept 37 = .ok (.getfield 44, 3) := by decide +kernel
theorem dX9_kept_40 : decode cX9_kept 40 = .ok (.aload_n 0, 1) := by decide +kernel
theorem dX9_kept_41 : decode cX9_kept 41 = .ok (.getfield 26, 3) := by decide +kernel
theorem dX9_kept_44 : decode cX9_kept 44 = .ok (.iload_n 1, 1) := by decide +kernel
theorem dX9_kept_45 : decode cX9_kept 45 = .ok (.invokevirtual 226, 3) := by decide +kernel
theorem dX9_kept_48 : decode cX9_kept 48 = .ok (.goto 15, 3) := by decide +kernel
theorem dX9_kept_51 : decode cX9_kept 51 = .ok (.aload_n 0, 1) := by decide +kernel
theorem dX9_kept_52 : decode cX9_kept 52 = .ok (.getfield 44, 3) := by decide +kernel
theorem dX9_kept_55 : decode cX9_kept 55 = .ok (.aload_n 0, 1) := by decide +kernel
theorem dX9_kept_56 : decode cX9_kept 56 = .ok (.getfield 26, 3) := by decide +kernel
theorem dX9_kept_59 : decode cX9_kept 59 = .ok (.iload_n 1, 1) := by decide +kernel
theorem dX9_kept_60 : decode cX9_kept 60 = .ok (.invokevirtual 230, 3) := by decide +kernel
theorem dX9_kept_63 : decode cX9_kept 63 = .ok (.ireturn, 1) := by decide +kernel
theorem dX9_when_0 : decode cX9_when 0 = .ok (.aload_n 0, 1) := by decide +kernel
theorem dX9_when_1 : decode cX9_when 1 = .ok (.iload_n 1, 1) := by decide +kernel
theorem dX9_when_2 : decode cX9_when 2 = .ok (.invokevirtual 176, 3) := by decide +kernel
theorem dX9_when_5 : decode cX9_when 5 = .ok (.ifCond .eq 12, 3) := by decide +kernel
theorem dX9_when_8 : decode cX9_when 8 = .ok (.iload_n 2, 1) := by decide +kernel
theorem dX9_when_9 : decode cX9_when 9 = .ok (.iconst 0, 1) := by decide +kernel
theorem dX9_when_10 : decode cX9_when 10 = .ok (.iconst 2, 1) := by decide +kernel
theorem dX9_when_11 : decode cX9_when 11 = .ok (.invokestatic 77, 3) := by decide +kernel
theorem dX9_when_14 : decode cX9_when 14 = .ok (.ifCond .ne 6, 3) := by decide +kernel
theorem dX9_when_17 : decode cX9_when 17 = .ok (.ldc 81, 2) := by decide +kernel
theorem dX9_when_19 : decode cX9_when 19 = .ok (.ireturn, 1) := by decide +kernel
theorem dX9_when_20 : decode cX9_when 20 = .ok (.aload_n 0, 1) := by decide +kernel
theorem dX9_when_21 : decode cX9_when 21 = .ok (.getfield 44, 3) := by decide +kernel
theorem dX9_when_24 : decode cX9_when 24 = .ok (.aload_n 0, 1) := by decide +kernel
theorem dX9_when_25 : decode cX9_when 25 = .ok (.getfield 26, 3) := by decide +kernel
theorem dX9_when_28 : decode cX9_when 28 = .ok (.iload_n 1, 1) := by decide +kernel
theorem dX9_when_29 : decode cX9_when 29 = .ok (.iload_n 2, 1) := by decide +kernel
theorem dX9_when_30 : decode cX9_when 30 = .ok (.invokevirtual 233, 3) := by decide +kernel
theorem dX9_when_33 : decode cX9_when 33 = .ok (.ireturn, 1) := by decide +kernel
theorem dX9_front_0 : decode cX9_front 0 = .ok (.aload_n 0, 1) := by decide +kernel
theorem dX9_front_1 : decode cX9_front 1 = .ok (.invokevirtual 153, 3) := by decide +kernel
theorem dX9_front_4 : decode cX9_front 4 = .ok (.ifCond .ne 6, 3) := by decide +kernel
theorem dX9_front_7 : decode cX9_front 7 = .ok (.ldc 152, 2) := by decide +kernel
theorem dX9_front_9 : decode cX9_front 9 = .ok (.ireturn, 1) := by decide +kernel
theorem dX9_front_10 : decode cX9_front 10 = .ok (.iload_n 1, 1) := by decide +kernel
theorem dX9_front_11 : decode cX9_front 11 = .ok (.iconst 0, 1) := by decide +kernel
theorem dX9_front_12 : decode cX9_front 12 = .ok (.bipush 60, 2) := by decide +kernel
theorem dX9_front_14 : decode cX9_front 14 = .ok (.invokestatic 77, 3) := by decide +kernel
theorem dX9_front_17 : decode cX9_front 17 = .ok (.ifCond .ne 6, 3) := by decide +kernel
theorem dX9_front_20 : decode cX9_front 20 = .ok (.ldc 81, 2) := by decide +kernel
theorem dX9_front_22 : decode cX9_front 22 = .ok (.ireturn, 1) := by decide +kernel
theorem dX9_front_23 : decode cX9_front 23 = .ok (.aload_n 0, 1) := by decide +kernel
theorem dX9_front_24 : decode cX9_front 24 = .ok (.getfield 44, 3) := by decide +kernel
theorem dX9_front_27 : decode cX9_front 27 = .ok (.aload_n 0, 1) := by decide +kernel
theorem dX9_front_28 : decode cX9_front 28 = .ok (.getfield 26, 3) := by decide +kernel
theorem dX9_front_31 : decode cX9_front 31 = .ok (.iload_n 1, 1) := by decide +kernel
theorem dX9_front_32 : decode cX9_front 32 = .ok (.invokevirtual 236, 3) := by decide +kernel
theorem dX9_front_35 : decode cX9_front 35 = .ok (.ireturn, 1) := by decide +kernel
theorem dX9_carries_0 : decode cX9_carries 0 = .ok (.aload_n 0, 1) := by decide +kernel
theorem dX9_carries_1 : decode cX9_carries 1 = .ok (.invokevirtual 153, 3) := by decide +kernel
theorem dX9_carries_4 : decode cX9_carries 4 = .ok (.ifCond .ne 6, 3) := by decide +kernel
theorem dX9_carries_7 : decode cX9_carries 7 = .ok (.ldc 152, 2) := by decide +kernel
theorem dX9_carries_9 : decode cX9_carries 9 = .ok (.ireturn, 1) := by decide +kernel
theorem dX9_carries_10 : decode cX9_carries 10 = .ok (.iload_n 1, 1) := by decide +kernel
theorem dX9_carries_11 : decode cX9_carries 11 = .ok (.iconst 1, 1) := by decide +kernel
theorem dX9_carries_12 : decode cX9_carries 12 = .ok (.iconst 4, 1) := by decide +kernel
theorem dX9_carries_13 : decode cX9_carries 13 = .ok (.invokestatic 77, 3) := by decide +kernel
theorem dX9_carries_16 : decode cX9_carries 16 = .ok (.ifCond .eq 18, 3) := by decide +kernel
theorem dX9_carries_19 : decode cX9_carries 19 = .ok (.iload_n 2, 1) := by decide +kernel
theorem dX9_carries_20 : decode cX9_carries 20 = .ok (.iconst 0, 1) := by decide +kernel
theorem dX9_carries_21 : decode cX9_carries 21 = .ok (.bipush 20, 2) := by decide +kernel
theorem dX9_carries_23 : decode cX9_carries 23 = .ok (.invokestatic 77, 3) := by decide +kernel
theorem dX9_carries_26 : decode cX9_carries 26 = .ok (.ifCond .eq 8, 3) := by decide +kernel
theorem dX9_carries_29 : decode cX9_carries 29 = .ok (.iload_n 3, 1) := by decide +kernel
theorem dX9_carries_30 : decode cX9_carries 30 = .ok (.iconst (-1), 1) := by decide +kernel
theorem dX9_carries_31 : decode cX9_carries 31 = .ok (.if_icmp .ge 6, 3) := by decide +kernel
theorem dX9_carries_34 : decode cX9_carries 34 = .ok (.ldc 81, 2) := by decide +kernel
theorem dX9_carries_36 : decode cX9_carries 36 = .ok (.ireturn, 1) := by decide +kernel
theorem dX9_carries_37 : decode cX9_carries 37 = .ok (.aload_n 0, 1) := by decide +kernel
theorem dX9_carries_38 : decode cX9_carries 38 = .ok (.getfield 51, 3) := by decide +kernel
theorem dX9_carries_41 : decode cX9_carries 41 = .ok (.aload_n 0, 1) := by decide +kernel
theorem dX9_carries_42 : decode cX9_carries 42 = .ok (.getfield 26, 3) := by decide +kernel
theorem dX9_carries_45 : decode cX9_carries 45 = .ok (.iload_n 1, 1) := by decide +kernel
theorem dX9_carries_46 : decode cX9_carries 46 = .ok (.iload_n 2, 1) := by decide +kernel
theorem dX9_carries_47 : decode cX9_carries 47 = .ok (.invokevirtual 239, 3) := by decide +kernel
theorem dX9_carries_50 : decode cX9_carries 50 = .ok (.iload_n 3, 1) := by decide +kernel
theorem dX9_carries_51 : decode cX9_carries 51 = .ok (.iconst (-1), 1) := by decide +kernel
theorem dX9_carries_52 : decode cX9_carries 52 = .ok (.if_icmp .ne 13, 3) := by decide +kernel
theorem dX9_carries_55 : decode cX9_carries 55 = .ok (.aload_n 0, 1) := by decide +kernel
theorem dX9_carries_56 : decode cX9_carries 56 = .ok (.getfield 51, 3) := by decide +kernel
theorem dX9_carries_59 : decode cX9_carries 59 = .ok (.getfield 243, 3) := by decide +kernel
theorem dX9_carries_62 : decode cX9_carries 62 = .ok (.goto 11, 3) := by decide +kernel
theorem dX9_carries_65 : decode cX9_carries 65 = .ok (.aload_n 0, 1) := by decide +kernel
theorem dX9_carries_66 : decode cX9_carries 66 = .ok (.getfield 51, 3) := by decide +kernel
theorem dX9_carries_69 : decode cX9_carries 69 = .ok (.iload_n 3, 1) := by decide +kernel
theorem dX9_carries_70 : decode cX9_carries 70 = .ok (.invokevirtual 246, 3) := by decide +kernel
theorem dX9_carries_73 : decode cX9_carries 73 = .ok (.ireturn, 1) := by decide +kernel
theorem dX9_dam_0 : decode cX9_dam 0 = .ok (.aload_n 0, 1) := by decide +kernel
theorem dX9_dam_1 : decode cX9_dam 1 = .ok (.invokevirtual 153, 3) := by decide +kernel
theorem dX9_dam_4 : decode cX9_dam 4 = .ok (.ifCond .ne 6, 3) := by decide +kernel
theorem dX9_dam_7 : decode cX9_dam 7 = .ok (.ldc 152, 2) := by decide +kernel
theorem dX9_dam_9 : decode cX9_dam 9 = .ok (.ireturn, 1) := by decide +kernel
theorem dX9_dam_10 : decode cX9_dam 10 = .ok (.iload_n 1, 1) := by decide +kernel
theorem dX9_dam_11 : decode cX9_dam 11 = .ok (.iconst 1, 1) := by decide +kernel
theorem dX9_dam_12 : decode cX9_dam 12 = .ok (.bipush 9, 2) := by decide +kernel
theorem dX9_dam_14 : decode cX9_dam 14 = .ok (.invokestatic 77, 3) := by decide +kernel
theorem dX9_dam_17 : decode cX9_dam 17 = .ok (.ifCond .eq 22, 3) := by decide +kernel
theorem dX9_dam_20 : decode cX9_dam 20 = .ok (.iload_n 2, 1) := by decide +kernel
theorem dX9_dam_21 : decode cX9_dam 21 = .ok (.iconst 1, 1) := by decide +kernel
theorem dX9_dam_22 : decode cX9_dam 22 = .ok (.bipush 40, 2) := by decide +kernel
theorem dX9_dam_24 : decode cX9_dam 24 = .ok (.invokestatic 77, 3) := by decide +kernel
theorem dX9_dam_27 : decode cX9_dam 27 = .ok (.ifCond .eq 12, 3) := by decide +kernel
theorem dX9_dam_30 : decode cX9_dam 30 = .ok (.iload_n 3, 1) := by decide +kernel
theorem dX9_dam_31 : decode cX9_dam 31 = .ok (.iconst 0, 1) := by decide +kernel
theorem dX9_dam_32 : decode cX9_dam 32 = .ok (.iconst 1, 1) := by decide +kernel
theorem dX9_dam_33 : decode cX9_dam 33 = .ok (.invokestatic 77, 3) := by decide +kernel
theorem dX9_dam_36 : decode cX9_dam 36 = .ok (.ifCond .ne 6, 3) := by decide +kernel
theorem dX9_dam_39 : decode cX9_dam 39 = .ok (.ldc 81, 2) := by decide +kernel
theorem dX9_dam_41 : decode cX9_dam 41 = .ok (.ireturn, 1) := by decide +kernel
theorem dX9_dam_42 : decode cX9_dam 42 = .ok (.aload_n 0, 1) := by decide +kernel
theorem dX9_dam_43 : decode cX9_dam 43 = .ok (.getfield 44, 3) := by decide +kernel
theorem dX9_dam_46 : decode cX9_dam 46 = .ok (.aload_n 0, 1) := by decide +kernel
theorem dX9_dam_47 : decode cX9_dam 47 = .ok (.getfield 26, 3) := by decide +kernel
theorem dX9_dam_50 : decode cX9_dam 50 = .ok (.iload_n 1, 1) := by decide +kernel
theorem dX9_dam_51 : decode cX9_dam 51 = .ok (.iload_n 2, 1) := by decide +kernel
theorem dX9_dam_52 : decode cX9_dam 52 = .ok (.invokevirtual 249, 3) := by decide +kernel
theorem dX9_dam_55 : decode cX9_dam 55 = .ok (.istore 4, 2) := by decide +kernel
theorem dX9_dam_57 : decode cX9_dam 57 = .ok (.iload_n 3, 1) := by decide +kernel
theorem dX9_dam_58 : decode cX9_dam 58 = .ok (.ifCond .ne 8, 3) := by decide +kernel
theorem dX9_dam_61 : decode cX9_dam 61 = .ok (.iload 4, 2) := by decide +kernel
theorem dX9_dam_63 : decode cX9_dam 63 = .ok (.goto 18, 3) := by decide +kernel
theorem dX9_dam_66 : decode cX9_dam 66 = .ok (.aload_n 0, 1) := by decide +kernel
theorem dX9_dam_67 : decode cX9_dam 67 = .ok (.getfield 44, 3) := by decide +kernel
theorem dX9_dam_70 : decode cX9_dam 70 = .ok (.aload_n 0, 1) := by decide +kernel
theorem dX9_dam_71 : decode cX9_dam 71 = .ok (.getfield 26, 3) := by decide +kernel
theorem dX9_dam_74 : decode cX9_dam 74 = .ok (.iload 4, 2) := by decide +kernel
theorem dX9_dam_76 : decode cX9_dam 76 = .ok (.iload_n 1, 1) := by decide +kernel
theorem dX9_dam_77 : decode cX9_dam 77 = .ok (.iload_n 2, 1) := by decide +kernel
theorem dX9_dam_78 : decode cX9_dam 78 = .ok (.invokevirtual 252, 3) := by decide +kernel
theorem dX9_dam_81 : decode cX9_dam 81 = .ok (.ireturn, 1) := by decide +kernel
theorem dX9_hold_0 : decode cX9_hold 0 = .ok (.aload_n 0, 1) := by decide +kernel
theorem dX9_hold_1 : decode cX9_hold 1 = .ok (.iload_n 1, 1) := by decide +kernel
theorem dX9_hold_2 : decode cX9_hold 2 = .ok (.invokevirtual 169, 3) := by decide +kernel
theorem dX9_hold_5 : decode cX9_hold 5 = .ok (.ifCond .eq 21, 3) := by decide +kernel
theorem dX9_hold_8 : decode cX9_hold 8 = .ok (.aload_n 0, 1) := by decide +kernel
theorem dX9_hold_9 : decode cX9_hold 9 = .ok (.iload_n 2, 1) := by decide +kernel
theorem dX9_hold_10 : decode cX9_hold 10 = .ok (.invokevirtual 169, 3) := by decide +kernel
theorem dX9_hold_13 : decode cX9_hold 13 = .ok (.ifCond .eq 13, 3) := by decide +kernel
theorem dX9_hold_16 : decode cX9_hold 16 = .ok (.iload_n 3, 1) := by decide +kernel
theorem dX9_hold_17 : decode cX9_hold 17 = .ok (.iconst 1, 1) := by decide +kernel
theorem dX9_hold_18 : decode cX9_hold 18 = .ok (.bipush 40, 2) := by decide +kernel
theorem dX9_hold_20 : decode cX9_hold 20 = .ok (.invokestatic 77, 3) := by decide +kernel
theorem dX9_hold_23 : decode cX9_hold 23 = .ok (.ifCond .ne 6, 3) := by decide +kernel
theorem dX9_hold_26 : decode cX9_hold 26 = .ok (.ldc 81, 2) := by decide +kernel
theorem dX9_hold_28 : decode cX9_hold 28 = .ok (.ireturn, 1) := by decide +kernel
theorem dX9_hold_29 : decode cX9_hold 29 = .ok (.aload_n 0, 1) := by decide +kernel
theorem dX9_hold_30 : decode cX9_hold 30 = .ok (.getfield 44, 3) := by decide +kernel
theorem dX9_hold_33 : decode cX9_hold 33 = .ok (.aload_n 0, 1) := by decide +kernel
theorem dX9_hold_34 : decode cX9_hold 34 = .ok (.getfield 26, 3) := by decide +kernel
theorem dX9_hold_37 : decode cX9_hold 37 = .ok (.iload_n 1, 1) := by decide +kernel
theorem dX9_hold_38 : decode cX9_hold 38 = .ok (.iload_n 2, 1) := by decide +kernel
theorem dX9_hold_39 : decode cX9_hold 39 = .ok (.iload_n 3, 1) := by decide +kernel
theorem dX9_hold_40 : decode cX9_hold 40 = .ok (.invokevirtual 256, 3) := by decide +kernel
theorem dX9_hold_43 : decode cX9_hold 43 = .ok (.ireturn, 1) := by decide +kernel
theorem dX9_spare_0 : decode cX9_spare 0 = .ok (.aload_n 0, 1) := by decide +kernel
theorem dX9_spare_1 : decode cX9_spare 1 = .ok (.invokevirtual 153, 3) := by decide +kernel
theorem dX9_spare_4 : decode cX9_spare 4 = .ok (.ifCond .ne 6, 3) := by decide +kernel
theorem dX9_spare_7 : decode cX9_spare 7 = .ok (.ldc 152, 2) := by decide +kernel
theorem dX9_spare_9 : decode cX9_spare 9 = .ok (.ireturn, 1) := by decide +kernel
theorem dX9_spare_10 : decode cX9_spare 10 = .ok (.iload_n 1, 1) := by decide +kernel
theorem dX9_spare_11 : decode cX9_spare 11 = .ok (.iconst 1, 1) := by decide +kernel
theorem dX9_spare_12 : decode cX9_spare 12 = .ok (.bipush 40, 2) := by decide +kernel
theorem dX9_spare_14 : decode cX9_spare 14 = .ok (.invokestatic 77, 3) := by decide +kernel
theorem dX9_spare_17 : decode cX9_spare 17 = .ok (.ifCond .ne 6, 3) := by decide +kernel
theorem dX9_spare_20 : decode cX9_spare 20 = .ok (.ldc 81, 2) := by decide +kernel
theorem dX9_spare_22 : decode cX9_spare 22 = .ok (.ireturn, 1) := by decide +kernel
theorem dX9_spare_23 : decode cX9_spare 23 = .ok (.aload_n 0, 1) := by decide +kernel
theorem dX9_spare_24 : decode cX9_spare 24 = .ok (.getfield 44, 3) := by decide +kernel
theorem dX9_spare_27 : decode cX9_spare 27 = .ok (.aload_n 0, 1) := by decide +kernel
theorem dX9_spare_28 : decode cX9_spare 28 = .ok (.getfield 26, 3) := by decide +kernel
theorem dX9_spare_31 : decode cX9_spare 31 = .ok (.iload_n 1, 1) := by decide +kernel
theorem dX9_spare_32 : decode cX9_spare 32 = .ok (.invokevirtual 259, 3) := by decide +kernel
theorem dX9_spare_35 : decode cX9_spare 35 = .ok (.ireturn, 1) := by decide +kernel
theorem dX9_sets_0 : decode cX9_sets 0 = .ok (.aload_n 0, 1) := by decide +kernel
theorem dX9_sets_1 : decode cX9_sets 1 = .ok (.invokevirtual 153, 3) := by decide +kernel
theorem dX9_sets_4 : decode cX9_sets 4 = .ok (.ifCond .ne 6, 3) := by decide +kernel
theorem dX9_sets_7 : decode cX9_sets 7 = .ok (.ldc 152, 2) := by decide +kernel
theorem dX9_sets_9 : decode cX9_sets 9 = .ok (.ireturn, 1) := by decide +kernel
theorem dX9_sets_10 : decode cX9_sets 10 = .ok (.iload_n 1, 1) := by decide +kernel
theorem dX9_sets_11 : decode cX9_sets 11 = .ok (.iconst 0, 1) := by decide +kernel
theorem dX9_sets_12 : decode cX9_sets 12 = .ok (.bipush 54, 2) := by decide +kernel
theorem dX9_sets_14 : decode cX9_sets 14 = .ok (.invokestatic 77, 3) := by decide +kernel
theorem dX9_sets_17 : decode cX9_sets 17 = .ok (.ifCond .eq 12, 3) := by decide +kernel
theorem dX9_sets_20 : decode cX9_sets 20 = .ok (.iload_n 2, 1) := by decide +kernel
theorem dX9_sets_21 : decode cX9_sets 21 = .ok (.iconst 0, 1) := by decide +kernel
theorem dX9_sets_22 : decode cX9_sets 22 = .ok (.iconst 2, 1) := by decide +kernel
theorem dX9_sets_23 : decode cX9_sets 23 = .ok (.invokestatic 77, 3) := by decide +kernel
theorem dX9_sets_26 : decode cX9_sets 26 = .ok (.ifCond .ne 6, 3) := by decide +kernel
theorem dX9_sets_29 : decode cX9_sets 29 = .ok (.ldc 81, 2) := by decide +kernel
theorem dX9_sets_31 : decode cX9_sets 31 = .ok (.ireturn, 1) := by decide +kernel
theorem dX9_sets_32 : decode cX9_sets 32 = .ok (.aload_n 0, 1) := by decide +kernel
theorem dX9_sets_33 : decode cX9_sets 33 = .ok (.getfield 44, 3) := by decide +kernel
theorem dX9_sets_36 : decode cX9_sets 36 = .ok (.aload_n 0, 1) := by decide +kernel
theorem dX9_sets_37 : decode cX9_sets 37 = .ok (.getfield 26, 3) := by decide +kernel
theorem dX9_sets_40 : decode cX9_sets 40 = .ok (.iload_n 1, 1) := by decide +kernel
theorem dX9_sets_41 : decode cX9_sets 41 = .ok (.iload_n 2, 1) := by decide +kernel
theorem dX9_sets_42 : decode cX9_sets 42 = .ok (.invokevirtual 262, 3) := by decide +kernel
theorem dX9_sets_45 : decode cX9_sets 45 = .ok (.ireturn, 1) := by decide +kernel
theorem dX9_share_0 : decode cX9_share 0 = .ok (.aload_n 0, 1) := by decide +kernel
theorem dX9_share_1 : decode cX9_share 1 = .ok (.iload_n 1, 1) := by decide +kernel
theorem dX9_share_2 : decode cX9_share 2 = .ok (.invokevirtual 176, 3) := by decide +kernel
theorem dX9_share_5 : decode cX9_share 5 = .ok (.ifCond .eq 14, 3) := by decide +kernel
theorem dX9_share_8 : decode cX9_share 8 = .ok (.iload_n 2, 1) := by decide +kernel
theorem dX9_share_9 : decode cX9_share 9 = .ok (.iconst 0, 1) := by decide +kernel
theorem dX9_share_10 : decode cX9_share 10 = .ok (.sipush 999, 3) := by decide +kernel
theorem dX9_share_13 : decode cX9_share 13 = .ok (.invokestatic 77, 3) := by decide +kernel
theorem dX9_share_16 : decode cX9_share 16 = .ok (.ifCond .ne 6, 3) := by decide +kernel
theorem dX9_share_19 : decode cX9_share 19 = .ok (.ldc 81, 2) := by decide +kernel
theorem dX9_share_21 : decode cX9_share 21 = .ok (.ireturn, 1) := by decide +kernel
theorem dX9_share_22 : decode cX9_share 22 = .ok (.aload_n 0, 1) := by decide +kernel
theorem dX9_share_23 : decode cX9_share 23 = .ok (.getfield 44, 3) := by decide +kernel
theorem dX9_share_26 : decode cX9_share 26 = .ok (.aload_n 0, 1) := by decide +kernel
theorem dX9_share_27 : decode cX9_share 27 = .ok (.getfield 26, 3) := by decide +kernel
theorem dX9_share_30 : decode cX9_share 30 = .ok (.iload_n 1, 1) := by decide +kernel
theorem dX9_share_31 : decode cX9_share 31 = .ok (.iload_n 2, 1) := by decide +kernel
theorem dX9_share_32 : decode cX9_share 32 = .ok (.invokevirtual 265, 3) := by decide +kernel
theorem dX9_share_35 : decode cX9_share 35 = .ok (.ireturn, 1) := by decide +kernel
theorem dX9_byTurns_0 : decode cX9_byTurns 0 = .ok (.aload_n 0, 1) := by decide +kernel
theorem dX9_byTurns_1 : decode cX9_byTurns 1 = .ok (.invokevirtual 153, 3) := by decide +kernel
theorem dX9_byTurns_4 : decode cX9_byTurns 4 = .ok (.ifCond .ne 6, 3) := by decide +kernel
theorem dX9_byTurns_7 : decode cX9_byTurns 7 = .ok (.ldc 152, 2) := by decide +kernel
theorem dX9_byTurns_9 : decode cX9_byTurns 9 = .ok (.ireturn, 1) := by decide +kernel
theorem dX9_byTurns_10 : decode cX9_byTurns 10 = .ok (.iload_n 1, 1) := by decide +kernel
theorem dX9_byTurns_11 : decode cX9_byTurns 11 = .ok (.iconst 0, 1) := by decide +kernel
theorem dX9_byTurns_12 : decode cX9_byTurns 12 = .ok (.iconst 4, 1) := by decide +kernel
theorem dX9_byTurns_13 : decode cX9_byTurns 13 = .ok (.invokestatic 77, 3) := by decide +kernel
theorem dX9_byTurns_16 : decode cX9_byTurns 16 = .ok (.ifCond .eq 13, 3) := by decide +kernel
theorem dX9_byTurns_19 : decode cX9_byTurns 19 = .ok (.iload_n 2, 1) := by decide +kernel
theorem dX9_byTurns_20 : decode cX9_byTurns 20 = .ok (.iconst 1, 1) := by decide +kernel
theorem dX9_byTurns_21 : decode cX9_byTurns 21 = .ok (.bipush 20, 2) := by decide +kernel
theorem dX9_byTurns_23 : decode cX9_byTurns 23 = .ok (.invokestatic 77, 3) := by decide +kernel
theorem dX9_byTurns_26 : decode cX9_byTurns 26 = .ok (.ifCond .ne 6, 3) := by decide +kernel
theorem dX9_byTurns_29 : decode cX9_byTurns 29 = .ok (.ldc 81, 2) := by decide +kernel
theorem dX9_byTurns_31 : decode cX9_byTurns 31 = .ok (.ireturn, 1) := by decide +kernel
theorem dX9_byTurns_32 : decode cX9_byTurns 32 = .ok (.aload_n 0, 1) := by decide +kernel
theorem dX9_byTurns_33 : decode cX9_byTurns 33 = .ok (.getfield 58, 3) := by decide +kernel
theorem dX9_byTurns_36 : decode cX9_byTurns 36 = .ok (.aload_n 0, 1) := by decide +kernel
theorem dX9_byTurns_37 : decode cX9_byTurns 37 = .ok (.getfield 26, 3) := by decide +kernel
theorem dX9_byTurns_40 : decode cX9_byTurns 40 = .ok (.iload_n 1, 1) := by decide +kernel
theorem dX9_byTurns_41 : decode cX9_byTurns 41 = .ok (.iload_n 2, 1) := by decide +kernel
theorem dX9_byTurns_42 : decode cX9_byTurns 42 = .ok (.invokevirtual 268, 3) := by decide +kernel
theorem dX9_byTurns_45 : decode cX9_byTurns 45 = .ok (.ireturn, 1) := by decide +kernel
theorem dX9_who_0 : decode cX9_who 0 = .ok (.aload_n 0, 1) := by decide +kernel
theorem dX9_who_1 : decode cX9_who 1 = .ok (.iload_n 1, 1) := by decide +kernel
theorem dX9_who_2 : decode cX9_who 2 = .ok (.invokevirtual 176, 3) := by decide +kernel
theorem dX9_who_5 : decode cX9_who 5 = .ok (.ifCond .eq 34, 3) := by decide +kernel
theorem dX9_who_8 : decode cX9_who 8 = .ok (.iload_n 2, 1) := by decide +kernel
theorem dX9_who_9 : decode cX9_who 9 = .ok (.iconst 0, 1) := by decide +kernel
theorem dX9_who_10 : decode cX9_who 10 = .ok (.iconst 2, 1) := by decide +kernel
theorem dX9_who_11 : decode cX9_who 11 = .ok (.invokestatic 77, 3) := by decide +kernel
theorem dX9_who_14 : decode cX9_who 14 = .ok (.ifCond .eq 25, 3) := by decide +kernel
theorem dX9_who_17 : decode cX9_who 17 = .ok (.aload_n 0, 1) := by decide +kernel
theorem dX9_who_18 : decode cX9_who 18 = .ok (.getfield 10, 3) := by decide +kernel
theorem dX9_who_21 : decode cX9_who 21 = .ok (.iload_n 3, 1) := by decide +kernel
theorem dX9_who_22 : decode cX9_who 22 = .ok (.invokevirtual 73, 3) := by decide +kernel
theorem dX9_who_25 : decode cX9_who 25 = .ok (.ifCond .eq 14, 3) := by decide +kernel
theorem dX9_who_28 : decode cX9_who 28 = .ok (.iload 5, 2) := by decide +kernel
theorem dX9_who_30 : decode cX9_who 30 = .ok (.iconst 1, 1) := by decide +kernel
theorem dX9_who_31 : decode cX9_who 31 = .ok (.bipush 12, 2) := by decide +kernel
theorem dX9_who_33 : decode cX9_who 33 = .ok (.invokestatic 77, 3) := by decide +kernel
theorem dX9_who_36 : decode cX9_who 36 = .ok (.ifCond .ne 6, 3) := by decide +kernel
theorem dX9_who_39 : decode cX9_who 39 = .ok (.ldc 81, 2) := by decide +kernel
theorem dX9_who_41 : decode cX9_who 41 = .ok (.ireturn, 1) := by decide +kernel
theorem dX9_who_42 : decode cX9_who 42 = .ok (.aload_n 0, 1) := by decide +kernel
theorem dX9_who_43 : decode cX9_who 43 = .ok (.getfield 26, 3) := by decide +kernel
theorem dX9_who_46 : decode cX9_who 46 = .ok (.iload_n 1, 1) := by decide +kernel
theorem dX9_who_47 : decode cX9_who 47 = .ok (.invokevirtual 179, 3) := by decide +kernel
theorem dX9_who_50 : decode cX9_who 50 = .ok (.ifCond .ne 6, 3) := by decide +kernel
theorem dX9_who_53 : decode cX9_who 53 = .ok (.ldc 152, 2) := by decide +kernel
theorem dX9_who_55 : decode cX9_who 55 = .ok (.ireturn, 1) := by decide +kernel
theorem dX9_who_56 : decode cX9_who 56 = .ok (.aload_n 0, 1) := by decide +kernel
theorem dX9_who_57 : decode cX9_who 57 = .ok (.getfield 10, 3) := by decide +kernel
theorem dX9_who_60 : decode cX9_who 60 = .ok (.iload_n 3, 1) := by decide +kernel
theorem dX9_who_61 : decode cX9_who 61 = .ok (.iload 4, 2) := by decide +kernel
theorem dX9_who_63 : decode cX9_who 63 = .ok (.iload 5, 2) := by decide +kernel
theorem dX9_who_65 : decode cX9_who 65 = .ok (.invokevirtual 93, 3) := by decide +kernel
theorem dX9_who_68 : decode cX9_who 68 = .ok (.istore 6, 2) := by decide +kernel
theorem dX9_who_70 : decode cX9_who 70 = .ok (.iload 6, 2) := by decide +kernel
theorem dX9_who_72 : decode cX9_who 72 = .ok (.ifCond .eq 10, 3) := by decide +kernel
theorem dX9_who_75 : decode cX9_who 75 = .ok (.aload_n 0, 1) := by decide +kernel
theorem dX9_who_76 : decode cX9_who 76 = .ok (.iload 6, 2) := by decide +kernel
theorem dX9_who_78 : decode cX9_who 78 = .ok (.invokevirtual 82, 3) := by decide +kernel
theorem dX9_who_81 : decode cX9_who 81 = .ok (.ireturn, 1) := by decide +kernel
theorem dX9_who_82 : decode cX9_who 82 = .ok (.aload_n 0, 1) := by decide +kernel
theorem dX9_who_83 : decode cX9_who 83 = .ok (.getfield 44, 3) := by decide +kernel
theorem dX9_who_86 : decode cX9_who 86 = .ok (.aload_n 0, 1) := by decide +kernel
theorem dX9_who_87 : decode cX9_who 87 = .ok (.getfield 10, 3) := by decide +kernel
theorem dX9_who_90 : decode cX9_who 90 = .ok (.iload_n 3, 1) := by decide +kernel
theorem dX9_who_91 : decode cX9_who 91 = .ok (.iload 4, 2) := by decide +kernel
theorem dX9_who_93 : decode cX9_who 93 = .ok (.iload 5, 2) := by decide +kernel
theorem dX9_who_95 : decode cX9_who 95 = .ok (.invokevirtual 271, 3) := by decide +kernel
theorem dX9_who_98 : decode cX9_who 98 = .ok (.iload_n 2, 1) := by decide +kernel
theorem dX9_who_99 : decode cX9_who 99 = .ok (.lookupswitch 59 #[(0, 25), (1, 42)], 25) := by decide +kernel
theorem dX9_who_124 : decode cX9_who 124 = .ok (.aload_n 0, 1) := by decide +kernel
theorem dX9_who_125 : decode cX9_who 125 = .ok (.aload_n 0, 1) := by decide +kernel
theorem dX9_who_126 : decode cX9_who 126 = .ok (.getfield 44, 3) := by decide +kernel
theorem dX9_who_129 : decode cX9_who 129 = .ok (.aload_n 0, 1) := by decide +kernel
theorem dX9_who_130 : decode cX9_who 130 = .ok (.getfield 26, 3) := by decide +kernel
theorem dX9_who_133 : decode cX9_who 133 = .ok (.iload_n 1, 1) := by decide +kernel
theorem dX9_who_134 : decode cX9_who 134 = .ok (.invokevirtual 275, 3) := by decide +kernel
theorem dX9_who_137 : decode cX9_who 137 = .ok (.invokevirtual 90, 3) := by decide +kernel
theorem dX9_who_140 : decode cX9_who 140 = .ok (.ireturn, 1) := by decide +kernel
theorem dX9_who_141 : decode cX9_who 141 = .ok (.aload_n 0, 1) := by decide +kernel
theorem dX9_who_142 : decode cX9_who 142 = .ok (.aload_n 0, 1) := by decide +kernel
theorem dX9_who_143 : decode cX9_who 143 = .ok (.getfield 44, 3) := by decide +kernel
theorem dX9_who_146 : decode cX9_who 146 = .ok (.aload_n 0, 1) := by decide +kernel
theorem dX9_who_147 : decode cX9_who 147 = .ok (.getfield 26, 3) := by decide +kernel
theorem dX9_who_150 : decode cX9_who 150 = .ok (.iload_n 1, 1) := by decide +kernel
theorem dX9_who_151 : decode cX9_who 151 = .ok (.invokevirtual 278, 3) := by decide +kernel
theorem dX9_who_154 : decode cX9_who 154 = .ok (.invokevirtual 90, 3) := by decide +kernel
theorem dX9_who_157 : decode cX9_who 157 = .ok (.ireturn, 1) := by decide +kernel
theorem dX9_who_158 : decode cX9_who 158 = .ok (.aload_n 0, 1) := by decide +kernel
theorem dX9_who_159 : decode cX9_who 159 = .ok (.aload_n 0, 1) := by decide +kernel
theorem dX9_who_160 : decode cX9_who 160 = .ok (.getfield 44, 3) := by decide +kernel
theorem dX9_who_163 : decode cX9_who 163 = .ok (.aload_n 0, 1) := by decide +kernel
theorem dX9_who_164 : decode cX9_who 164 = .ok (.getfield 26, 3) := by decide +kernel
theorem dX9_who_167 : decode cX9_who 167 = .ok (.iload_n 1, 1) := by decide +kernel
theorem dX9_who_168 : decode cX9_who 168 = .ok (.invokevirtual 281, 3) := by decide +kernel
theorem dX9_who_171 : decode cX9_who 171 = .ok (.invokevirtual 90, 3) := by decide +kernel
theorem dX9_who_174 : decode cX9_who 174 = .ok (.ireturn, 1) := by decide +kernel
theorem dX9_feeds_0 : decode cX9_feeds 0 = .ok (.aload_n 0, 1) := by decide +kernel
theorem dX9_feeds_1 : decode cX9_feeds 1 = .ok (.iload_n 1, 1) := by decide +kernel
theorem dX9_feeds_2 : decode cX9_feeds 2 = .ok (.invokevirtual 169, 3) := by decide +kernel
theorem dX9_feeds_5 : decode cX9_feeds 5 = .ok (.ifCond .eq 34, 3) := by decide +kernel
theorem dX9_feeds_8 : decode cX9_feeds 8 = .ok (.iload_n 2, 1) := by decide +kernel
theorem dX9_feeds_9 : decode cX9_feeds 9 = .ok (.iconst 0, 1) := by decide +kernel
theorem dX9_feeds_10 : decode cX9_feeds 10 = .ok (.iconst 2, 1) := by decide +kernel
theorem dX9_feeds_11 : decode cX9_feeds 11 = .ok (.invokestatic 77, 3) := by decide +kernel
theorem dX9_feeds_14 : decode cX9_feeds 14 = .ok (.ifCond .eq 25, 3) := by decide +kernel
theorem dX9_feeds_17 : decode cX9_feeds 17 = .ok (.aload_n 0, 1) := by decide +kernel
theorem dX9_feeds_18 : decode cX9_feeds 18 = .ok (.getfield 10, 3) := by decide +kernel
theorem dX9_feeds_21 : decode cX9_feeds 21 = .ok (.iload_n 3, 1) := by decide +kernel
theorem dX9_feeds_22 : decode cX9_feeds 22 = .ok (.invokevirtual 73, 3) := by decide +kernel
theorem dX9_feeds_25 : decode cX9_feeds 25 = .ok (.ifCond .eq 14, 3) := by decide +kernel
theorem dX9_feeds_28 : decode cX9_feeds 28 = .ok (.iload 5, 2) := by decide +kernel
theorem dX9_feeds_30 : decode cX9_feeds 30 = .ok (.iconst 1, 1) := by decide +kernel
theorem dX9_feeds_31 : decode cX9_feeds 31 = .ok (.bipush 12, 2) := by decide +kernel
theorem dX9_feeds_33 : decode cX9_feeds 33 = .ok (.invokestatic 77, 3) := by decide +kernel
theorem dX9_feeds_36 : decode cX9_feeds 36 = .ok (.ifCond .ne 6, 3) := by decide +kernel
theorem dX9_feeds_39 : decode cX9_feeds 39 = .ok (.ldc 81, 2) := by decide +kernel
theorem dX9_feeds_41 : decode cX9_feeds 41 = .ok (.ireturn, 1) := by decide +kernel
theorem dX9_feeds_42 : decode cX9_feeds 42 = .ok (.aload_n 0, 1) := by decide +kernel
theorem dX9_feeds_43 : decode cX9_feeds 43 = .ok (.getfield 10, 3) := by decide +kernel
theorem dX9_feeds_46 : decode cX9_feeds 46 = .ok (.iload_n 3, 1) := by decide +kernel
theorem dX9_feeds_47 : decode cX9_feeds 47 = .ok (.iload 4, 2) := by decide +kernel
theorem dX9_feeds_49 : decode cX9_feeds 49 = .ok (.iload 5, 2) := by decide +kernel
theorem dX9_feeds_51 : decode cX9_feeds 51 = .ok (.invokevirtual 93, 3) := by decide +kernel
theorem dX9_feeds_54 : decode cX9_feeds 54 = .ok (.istore 6, 2) := by decide +kernel
theorem dX9_feeds_56 : decode cX9_feeds 56 = .ok (.iload 6, 2) := by decide +kernel
theorem dX9_feeds_58 : decode cX9_feeds 58 = .ok (.ifCond .eq 10, 3) := by decide +kernel
theorem dX9_feeds_61 : decode cX9_feeds 61 = .ok (.aload_n 0, 1) := by decide +kernel
theorem dX9_feeds_62 : decode cX9_feeds 62 = .ok (.iload 6, 2) := by decide +kernel
theorem dX9_feeds_64 : decode cX9_feeds 64 = .ok (.invokevirtual 82, 3) := by decide +kernel
theorem dX9_feeds_67 : decode cX9_feeds 67 = .ok (.ireturn, 1) := by decide +kernel
theorem dX9_feeds_68 : decode cX9_feeds 68 = .ok (.aload_n 0, 1) := by decide +kernel
theorem dX9_feeds_69 : decode cX9_feeds 69 = .ok (.getfield 44, 3) := by decide +kernel
theorem dX9_feeds_72 : decode cX9_feeds 72 = .ok (.aload_n 0, 1) := by decide +kernel
theorem dX9_feeds_73 : decode cX9_feeds 73 = .ok (.getfield 10, 3) := by decide +kernel
theorem dX9_feeds_76 : decode cX9_feeds 76 = .ok (.iload_n 3, 1) := by decide +kernel
theorem dX9_feeds_77 : decode cX9_feeds 77 = .ok (.iload 4, 2) := by decide +kernel
theorem dX9_feeds_79 : decode cX9_feeds 79 = .ok (.iload 5, 2) := by decide +kernel
theorem dX9_feeds_81 : decode cX9_feeds 81 = .ok (.invokevirtual 271, 3) := by decide +kernel
theorem dX9_feeds_84 : decode cX9_feeds 84 = .ok (.iload_n 2, 1) := by decide +kernel
theorem dX9_feeds_85 : decode cX9_feeds 85 = .ok (.ifCond .ne 20, 3) := by decide +kernel
theorem dX9_feeds_88 : decode cX9_feeds 88 = .ok (.aload_n 0, 1) := by decide +kernel
theorem dX9_feeds_89 : decode cX9_feeds 89 = .ok (.aload_n 0, 1) := by decide +kernel
theorem dX9_feeds_90 : decode cX9_feeds 90 = .ok (.getfield 44, 3) := by decide +kernel
theorem dX9_feeds_93 : decode cX9_feeds 93 = .ok (.aload_n 0, 1) := by decide +kernel
theorem dX9_feeds_94 : decode cX9_feeds 94 = .ok (.getfield 26, 3) := by decide +kernel
theorem dX9_feeds_97 : decode cX9_feeds 97 = .ok (.iload_n 1, 1) := by decide +kernel
theorem dX9_feeds_98 : decode cX9_feeds 98 = .ok (.invokevirtual 284, 3) := by decide +kernel
theorem dX9_feeds_101 : decode cX9_feeds 101 = .ok (.invokevirtual 90, 3) := by decide +kernel
theorem dX9_feeds_104 : decode cX9_feeds 104 = .ok (.ireturn, 1) := by decide +kernel
theorem dX9_feeds_105 : decode cX9_feeds 105 = .ok (.aload_n 0, 1) := by decide +kernel
theorem dX9_feeds_106 : decode cX9_feeds 106 = .ok (.getfield 44, 3) := by decide +kernel
theorem dX9_feeds_109 : decode cX9_feeds 109 = .ok (.aload_n 0, 1) := by decide +kernel
theorem dX9_feeds_110 : decode cX9_feeds 110 = .ok (.getfield 26, 3) := by decide +kernel
theorem dX9_feeds_113 : decode cX9_feeds 113 = .ok (.iload_n 1, 1) := by decide +kernel
theorem dX9_feeds_114 : decode cX9_feeds 114 = .ok (.invokevirtual 287, 3) := by decide +kernel
theorem dX9_feeds_117 : decode cX9_feeds 117 = .ok (.istore 7, 2) := by decide +kernel
theorem dX9_feeds_119 : decode cX9_feeds 119 = .ok (.iload_n 2, 1) := by decide +kernel
theorem dX9_feeds_120 : decode cX9_feeds 120 = .ok (.iconst 1, 1) := by decide +kernel
theorem dX9_feeds_121 : decode cX9_feeds 121 = .ok (.if_icmp .ne 13, 3) := by decide +kernel
theorem dX9_feeds_124 : decode cX9_feeds 124 = .ok (.aload_n 0, 1) := by decide +kernel
theorem dX9_feeds_125 : decode cX9_feeds 125 = .ok (.iload 7, 2) := by decide +kernel
theorem dX9_feeds_127 : decode cX9_feeds 127 = .ok (.invokestatic 290, 3) := by decide +kernel
theorem dX9_feeds_130 : decode cX9_feeds 130 = .ok (.invokevirtual 90, 3) := by decide +kernel
theorem dX9_feeds_133 : decode cX9_feeds 133 = .ok (.ireturn, 1) := by decide +kernel
theorem dX9_feeds_134 : decode cX9_feeds 134 = .ok (.aload_n 0, 1) := by decide +kernel
theorem dX9_feeds_135 : decode cX9_feeds 135 = .ok (.iload 7, 2) := by decide +kernel
theorem dX9_feeds_137 : decode cX9_feeds 137 = .ok (.ifCond .ne 9, 3) := by decide +kernel
theorem dX9_feeds_140 : decode cX9_feeds 140 = .ok (.ldc_w 295, 3) := by decide +kernel
theorem dX9_feeds_143 : decode cX9_feeds 143 = .ok (.goto 8, 3) := by decide +kernel
theorem dX9_feeds_146 : decode cX9_feeds 146 = .ok (.iload 7, 2) := by decide +kernel
theorem dX9_feeds_148 : decode cX9_feeds 148 = .ok (.invokestatic 296, 3) := by decide +kernel
theorem dX9_feeds_151 : decode cX9_feeds 151 = .ok (.invokevirtual 90, 3) := by decide +kernel
theorem dX9_feeds_154 : decode cX9_feeds 154 = .ok (.ireturn, 1) := by decide +kernel
theorem dX9_gives_0 : decode cX9_gives 0 = .ok (.aload_n 0, 1) := by decide +kernel
theorem dX9_gives_1 : decode cX9_gives 1 = .ok (.iload_n 1, 1) := by decide +kernel
theorem dX9_gives_2 : decode cX9_gives 2 = .ok (.invokevirtual 176, 3) := by decide +kernel
theorem dX9_gives_5 : decode cX9_gives 5 = .ok (.ifCond .eq 33, 3) := by decide +kernel
theorem dX9_gives_8 : decode cX9_gives 8 = .ok (.iload_n 2, 1) := by decide +kernel
theorem dX9_gives_9 : decode cX9_gives 9 = .ok (.iconst 0, 1) := by decide +kernel
theorem dX9_gives_10 : decode cX9_gives 10 = .ok (.bipush 40, 2) := by decide +kernel
theorem dX9_gives_12 : decode cX9_gives 12 = .ok (.invokestatic 77, 3) := by decide +kernel
theorem dX9_gives_15 : decode cX9_gives 15 = .ok (.ifCond .eq 23, 3) := by decide +kernel
theorem dX9_gives_18 : decode cX9_gives 18 = .ok (.iload_n 3, 1) := by decide +kernel
theorem dX9_gives_19 : decode cX9_gives 19 = .ok (.iconst 0, 1) := by decide +kernel
theorem dX9_gives_20 : decode cX9_gives 20 = .ok (.bipush 10, 2) := by decide +kernel
theorem dX9_gives_22 : decode cX9_gives 22 = .ok (.invokestatic 77, 3) := by decide +kernel
theorem dX9_gives_25 : decode cX9_gives 25 = .ok (.ifCond .eq 13, 3) := by decide +kernel
theorem dX9_gives_28 : decode cX9_gives 28 = .ok (.iload 4, 2) := by decide +kernel
theorem dX9_gives_30 : decode cX9_gives 30 = .ok (.iconst 0, 1) := by decide +kernel
theorem dX9_gives_31 : decode cX9_gives 31 = .ok (.iconst 1, 1) := by decide +kernel
theorem dX9_gives_32 : decode cX9_gives 32 = .ok (.invokestatic 77, 3) := by decide +kernel
theorem dX9_gives_35 : decode cX9_gives 35 = .ok (.ifCond .ne 7, 3) := by decide +kernel
theorem dX9_gives_38 : decode cX9_gives 38 = .ok (.ldc2_w 299, 3) := by decide +kernel
theorem dX9_gives_41 : decode cX9_gives 41 = .ok (.lreturn, 1) := by decide +kernel
theorem dX9_gives_42 : decode cX9_gives 42 = .ok (.aload_n 0, 1) := by decide +kernel
theorem dX9_gives_43 : decode cX9_gives 43 = .ok (.getfield 44, 3) := by decide +kernel
theorem dX9_gives_46 : decode cX9_gives 46 = .ok (.aload_n 0, 1) := by decide +kernel
theorem dX9_gives_47 : decode cX9_gives 47 = .ok (.getfield 26, 3) := by decide +kernel
theorem dX9_gives_50 : decode cX9_gives 50 = .ok (.iload_n 1, 1) := by decide +kernel
theorem dX9_gives_51 : decode cX9_gives 51 = .ok (.iload_n 2, 1) := by decide +kernel
theorem dX9_gives_52 : decode cX9_gives 52 = .ok (.iload_n 3, 1) := by decide +kernel
theorem dX9_gives_53 : decode cX9_gives 53 = .ok (.iload 4, 2) := by decide +kernel
theorem dX9_gives_55 : decode cX9_gives 55 = .ok (.invokevirtual 301, 3) := by decide +kernel
theorem dX9_gives_58 : decode cX9_gives 58 = .ok (.lreturn, 1) := by decide +kernel
theorem dX9_drawn_0 : decode cX9_drawn 0 = .ok (.aload_n 0, 1) := by decide +kernel
theorem dX9_drawn_1 : decode cX9_drawn 1 = .ok (.invokevirtual 153, 3) := by decide +kernel
theorem dX9_drawn_4 : decode cX9_drawn 4 = .ok (.ifCond .ne 6, 3) := by decide +kernel
theorem dX9_drawn_7 : decode cX9_drawn 7 = .ok (.ldc 152, 2) := by decide +kernel
theorem dX9_drawn_9 : decode cX9_drawn 9 = .ok (.ireturn, 1) := by decide +kernel
theorem dX9_drawn_10 : decode cX9_drawn 10 = .ok (.iload_n 1, 1) := by decide +kernel
theorem dX9_drawn_11 : decode cX9_drawn 11 = .ok (.iconst 0, 1) := by decide +kernel
theorem dX9_drawn_12 : decode cX9_drawn 12 = .ok (.bipush 60, 2) := by decide +kernel
theorem dX9_drawn_14 : decode cX9_drawn 14 = .ok (.invokestatic 77, 3) := by decide +kernel
theorem dX9_drawn_17 : decode cX9_drawn 17 = .ok (.ifCond .eq 23, 3) := by decide +kernel
theorem dX9_drawn_20 : decode cX9_drawn 20 = .ok (.iload_n 2, 1) := by decide +kernel
theorem dX9_drawn_21 : decode cX9_drawn 21 = .ok (.iconst 1, 1) := by decide +kernel
theorem dX9_drawn_22 : decode cX9_drawn 22 = .ok (.ldc_w 305, 3) := by decide +kernel
theorem dX9_drawn_25 : decode cX9_drawn 25 = .ok (.invokestatic 77, 3) := by decide +kernel
theorem dX9_drawn_28 : decode cX9_drawn 28 = .ok (.ifCond .eq 12, 3) := by decide +kernel
theorem dX9_drawn_31 : decode cX9_drawn 31 = .ok (.iload_n 3, 1) := by decide +kernel
theorem dX9_drawn_32 : decode cX9_drawn 32 = .ok (.iconst 0, 1) := by decide +kernel
theorem dX9_drawn_33 : decode cX9_drawn 33 = .ok (.iconst 1, 1) := by decide +kernel
theorem dX9_drawn_34 : decode cX9_drawn 34 = .ok (.invokestatic 77, 3) := by decide +kernel
theorem dX9_drawn_37 : decode cX9_drawn 37 = .ok (.ifCond .ne 6, 3) := by decide +kernel
theorem dX9_drawn_40 : decode cX9_drawn 40 = .ok (.ldc 81, 2) := by decide +kernel
theorem dX9_drawn_42 : decode cX9_drawn 42 = .ok (.ireturn, 1) := by decide +kernel
theorem dX9_drawn_43 : decode cX9_drawn 43 = .ok (.aload_n 0, 1) := by decide +kernel
theorem dX9_drawn_44 : decode cX9_drawn 44 = .ok (.getfield 44, 3) := by decide +kernel
theorem dX9_drawn_47 : decode cX9_drawn 47 = .ok (.aload_n 0, 1) := by decide +kernel
theorem dX9_drawn_48 : decode cX9_drawn 48 = .ok (.getfield 26, 3) := by decide +kernel
theorem dX9_drawn_51 : decode cX9_drawn 51 = .ok (.iload_n 1, 1) := by decide +kernel
theorem dX9_drawn_52 : decode cX9_drawn 52 = .ok (.iload_n 2, 1) := by decide +kernel
theorem dX9_drawn_53 : decode cX9_drawn 53 = .ok (.iload_n 3, 1) := by decide +kernel
theorem dX9_drawn_54 : decode cX9_drawn 54 = .ok (.invokevirtual 306, 3) := by decide +kernel
theorem dX9_drawn_57 : decode cX9_drawn 57 = .ok (.ireturn, 1) := by decide +kernel
theorem dX9_image_0 : decode cX9_image 0 = .ok (.iload_n 1, 1) := by decide +kernel
theorem dX9_image_1 : decode cX9_image 1 = .ok (.iconst 0, 1) := by decide +kernel
theorem dX9_image_2 : decode cX9_image 2 = .ok (.iconst 1, 1) := by decide +kernel
theorem dX9_image_3 : decode cX9_image 3 = .ok (.invokestatic 77, 3) := by decide +kernel
theorem dX9_image_6 : decode cX9_image 6 = .ok (.ifCond .ne 6, 3) := by decide +kernel
theorem dX9_image_9 : decode cX9_image 9 = .ok (.ldc 81, 2) := by decide +kernel
theorem dX9_image_11 : decode cX9_image 11 = .ok (.ireturn, 1) := by decide +kernel
theorem dX9_image_12 : decode cX9_image 12 = .ok (.aload_n 0, 1) := by decide +kernel
theorem dX9_image_13 : decode cX9_image 13 = .ok (.invokevirtual 153, 3) := by decide +kernel
theorem dX9_image_16 : decode cX9_image 16 = .ok (.ifCond .ne 6, 3) := by decide +kernel
theorem dX9_image_19 : decode cX9_image 19 = .ok (.ldc 152, 2) := by decide +kernel
theorem dX9_image_21 : decode cX9_image 21 = .ok (.ireturn, 1) := by decide +kernel
theorem dX9_image_22 : decode cX9_image 22 = .ok (.aload_n 0, 1) := by decide +kernel
theorem dX9_image_23 : decode cX9_image 23 = .ok (.getfield 37, 3) := by decide +kernel
theorem dX9_image_26 : decode cX9_image 26 = .ok (.iload_n 1, 1) := by decide +kernel
theorem dX9_image_27 : decode cX9_image 27 = .ok (.aaload, 1) := by decide +kernel
theorem dX9_image_28 : decode cX9_image 28 = .ok (.aload_n 0, 1) := by decide +kernel
theorem dX9_image_29 : decode cX9_image 29 = .ok (.getfield 26, 3) := by decide +kernel
theorem dX9_image_32 : decode cX9_image 32 = .ok (.invokevirtual 132, 3) := by decide +kernel
theorem dX9_image_35 : decode cX9_image 35 = .ok (.iconst 1, 1) := by decide +kernel
theorem dX9_image_36 : decode cX9_image 36 = .ok (.ireturn, 1) := by decide +kernel
theorem dX9_restore_0 : decode cX9_restore 0 = .ok (.iload_n 1, 1) := by decide +kernel
theorem dX9_restore_1 : decode cX9_restore 1 = .ok (.iconst 0, 1) := by decide +kernel
theorem dX9_restore_2 : decode cX9_restore 2 = .ok (.iconst 1, 1) := by decide +kernel
theorem dX9_restore_3 : decode cX9_restore 3 = .ok (.invokestatic 77, 3) := by decide +kernel
theorem dX9_restore_6 : decode cX9_restore 6 = .ok (.ifCond .ne 6, 3) := by decide +kernel
theorem dX9_restore_9 : decode cX9_restore 9 = .ok (.ldc 81, 2) := by decide +kernel
theorem dX9_restore_11 : decode cX9_restore 11 = .ok (.ireturn, 1) := by decide +kernel
theorem dX9_restore_12 : decode cX9_restore 12 = .ok (.aload_n 0, 1) := by decide +kernel
theorem dX9_restore_13 : decode cX9_restore 13 = .ok (.getfield 37, 3) := by decide +kernel
theorem dX9_restore_16 : decode cX9_restore 16 = .ok (.iload_n 1, 1) := by decide +kernel
theorem dX9_restore_17 : decode cX9_restore 17 = .ok (.aaload, 1) := by decide +kernel
theorem dX9_restore_18 : decode cX9_restore 18 = .ok (.getfield 210, 3) := by decide +kernel
theorem dX9_restore_21 : decode cX9_restore 21 = .ok (.ifCond .ne 6, 3) := by decide +kernel
theorem dX9_restore_24 : decode cX9_restore 24 = .ok (.ldc 152, 2) := by decide +kernel
theorem dX9_restore_26 : decode cX9_restore 26 = .ok (.ireturn, 1) := by decide +kernel
theorem dX9_restore_27 : decode cX9_restore 27 = .ok (.aload_n 0, 1) := by decide +kernel
theorem dX9_restore_28 : decode cX9_restore 28 = .ok (.getfield 26, 3) := by decide +kernel
theorem dX9_restore_31 : decode cX9_restore 31 = .ok (.aload_n 0, 1) := by decide +kernel
theorem dX9_restore_32 : decode cX9_restore 32 = .ok (.getfield 37, 3) := by decide +kernel
theorem dX9_restore_35 : decode cX9_restore 35 = .ok (.iload_n 1, 1) := by decide +kernel
theorem dX9_restore_36 : decode cX9_restore 36 = .ok (.aaload, 1) := by decide +kernel
theorem dX9_restore_37 : decode cX9_restore 37 = .ok (.invokevirtual 132, 3) := by decide +kernel
theorem dX9_restore_40 : decode cX9_restore 40 = .ok (.aload_n 0, 1) := by decide +kernel
theorem dX9_restore_41 : decode cX9_restore 41 = .ok (.getfield 33, 3) := by decide +kernel
theorem dX9_restore_44 : decode cX9_restore 44 = .ok (.invokevirtual 136, 3) := by decide +kernel
theorem dX9_restore_47 : decode cX9_restore 47 = .ok (.iconst 1, 1) := by decide +kernel
theorem dX9_restore_48 : decode cX9_restore 48 = .ok (.ireturn, 1) := by decide +kernel
theorem dX9_kind_0 : decode cX9_kind 0 = .ok (.aload_n 0, 1) := by decide +kernel
theorem dX9_kind_1 : decode cX9_kind 1 = .ok (.iload_n 1, 1) := by decide +kernel
theorem dX9_kind_2 : decode cX9_kind 2 = .ok (.invokevirtual 176, 3) := by decide +kernel
theorem dX9_kind_5 : decode cX9_kind 5 = .ok (.ifCond .eq 15, 3) := by decide +kernel
theorem dX9_kind_8 : decode cX9_kind 8 = .ok (.aload_n 0, 1) := by decide +kernel
theorem dX9_kind_9 : decode cX9_kind 9 = .ok (.getfield 26, 3) := by decide +kernel
theorem dX9_kind_12 : decode cX9_kind 12 = .ok (.getfield 309, 3) := by decide +kernel
theorem dX9_kind_15 : decode cX9_kind 15 = .ok (.iload_n 1, 1) := by decide +kernel
theorem dX9_kind_16 : decode cX9_kind 16 = .ok (.iaload, 1) := by decide +kernel
theorem dX9_kind_17 : decode cX9_kind 17 = .ok (.goto 5, 3) := by decide +kernel
theorem dX9_kind_20 : decode cX9_kind 20 = .ok (.ldc 81, 2) := by decide +kernel
theorem dX9_kind_22 : decode cX9_kind 22 = .ok (.ireturn, 1) := by decide +kernel
theorem dX9_as_0 : decode cX9_as 0 = .ok (.aload_n 0, 1) := by decide +kernel
theorem dX9_as_1 : decode cX9_as 1 = .ok (.iload_n 1, 1) := by decide +kernel
theorem dX9_as_2 : decode cX9_as 2 = .ok (.invokevirtual 176, 3) := by decide +kernel
theorem dX9_as_5 : decode cX9_as 5 = .ok (.ifCond .eq 12, 3) := by decide +kernel
theorem dX9_as_8 : decode cX9_as 8 = .ok (.iload_n 2, 1) := by decide +kernel
theorem dX9_as_9 : decode cX9_as 9 = .ok (.iconst 0, 1) := by decide +kernel
theorem dX9_as_10 : decode cX9_as 10 = .ok (.iconst 5, 1) := by decide +kernel
theorem dX9_as_11 : decode cX9_as 11 = .ok (.invokestatic 77, 3) := by decide +kernel
theorem dX9_as_14 : decode cX9_as 14 = .ok (.ifCond .ne 6, 3) := by decide +kernel
theorem dX9_as_17 : decode cX9_as 17 = .ok (.ldc 81, 2) := by decide +kernel
theorem dX9_as_19 : decode cX9_as 19 = .ok (.ireturn, 1) := by decide +kernel
theorem dX9_as_20 : decode cX9_as 20 = .ok (.aload_n 0, 1) := by decide +kernel
theorem dX9_as_21 : decode cX9_as 21 = .ok (.getfield 26, 3) := by decide +kernel
theorem dX9_as_24 : decode cX9_as 24 = .ok (.getfield 309, 3) := by decide +kernel
theorem dX9_as_27 : decode cX9_as 27 = .ok (.iload_n 1, 1) := by decide +kernel
theorem dX9_as_28 : decode cX9_as 28 = .ok (.iaload, 1) := by decide +kernel
theorem dX9_as_29 : decode cX9_as 29 = .ok (.iload_n 2, 1) := by decide +kernel
theorem dX9_as_30 : decode cX9_as 30 = .ok (.invokestatic 312, 3) := by decide +kernel
theorem dX9_as_33 : decode cX9_as 33 = .ok (.ifCond .eq 11, 3) := by decide +kernel
theorem dX9_as_36 : decode cX9_as 36 = .ok (.aload_n 0, 1) := by decide +kernel
theorem dX9_as_37 : decode cX9_as 37 = .ok (.iload_n 1, 1) := by decide +kernel
theorem dX9_as_38 : decode cX9_as 38 = .ok (.invokevirtual 90, 3) := by decide +kernel
theorem dX9_as_41 : decode cX9_as 41 = .ok (.goto 8, 3) := by decide +kernel
theorem dX9_as_44 : decode cX9_as 44 = .ok (.aload_n 0, 1) := by decide +kernel
theorem dX9_as_45 : decode cX9_as 45 = .ok (.iconst 3, 1) := by decide +kernel
theorem dX9_as_46 : decode cX9_as 46 = .ok (.invokevirtual 82, 3) := by decide +kernel
theorem dX9_as_49 : decode cX9_as 49 = .ok (.ireturn, 1) := by decide +kernel
theorem dX9_ask_0 : decode cX9_ask 0 = .ok (.aload_n 0, 1) := by decide +kernel
theorem dX9_ask_1 : decode cX9_ask 1 = .ok (.iload_n 1, 1) := by decide +kernel
theorem dX9_ask_2 : decode cX9_ask 2 = .ok (.invokevirtual 176, 3) := by decide +kernel
theorem dX9_ask_5 : decode cX9_ask 5 = .ok (.ifCond .eq 12, 3) := by decide +kernel
theorem dX9_ask_8 : decode cX9_ask 8 = .ok (.iload_n 2, 1) := by decide +kernel
theorem dX9_ask_9 : decode cX9_ask 9 = .ok (.iconst 0, 1) := by decide +kernel
theorem dX9_ask_10 : decode cX9_ask 10 = .ok (.iconst 1, 1) := by decide +kernel
theorem dX9_ask_11 : decode cX9_ask 11 = .ok (.invokestatic 77, 3) := by decide +kernel
theorem dX9_ask_14 : decode cX9_ask 14 = .ok (.ifCond .ne 6, 3) := by decide +kernel
theorem dX9_ask_17 : decode cX9_ask 17 = .ok (.ldc 81, 2) := by decide +kernel
theorem dX9_ask_19 : decode cX9_ask 19 = .ok (.ireturn, 1) := by decide +kernel
theorem dX9_ask_20 : decode cX9_ask 20 = .ok (.aload_n 0, 1) := by decide +kernel
theorem dX9_ask_21 : decode cX9_ask 21 = .ok (.getfield 65, 3) := by decide +kernel
theorem dX9_ask_24 : decode cX9_ask 24 = .ok (.aload_n 0, 1) := by decide +kernel
theorem dX9_ask_25 : decode cX9_ask 25 = .ok (.getfield 26, 3) := by decide +kernel
theorem dX9_ask_28 : decode cX9_ask 28 = .ok (.iload_n 1, 1) := by decide +kernel
theorem dX9_ask_29 : decode cX9_ask 29 = .ok (.iload_n 2, 1) := by decide +kernel
theorem dX9_ask_30 : decode cX9_ask 30 = .ok (.invokevirtual 316, 3) := by decide +kernel
theorem dX9_ask_33 : decode cX9_ask 33 = .ok (.ireturn, 1) := by decide +kernel
theorem dX9_trace_0 : decode cX9_trace 0 = .ok (.iload_n 1, 1) := by decide +kernel
theorem dX9_trace_1 : decode cX9_trace 1 = .ok (.ifCond .lt 26, 3) := by decide +kernel
theorem dX9_trace_4 : decode cX9_trace 4 = .ok (.iload_n 1, 1) := by decide +kernel
theorem dX9_trace_5 : decode cX9_trace 5 = .ok (.aload_n 0, 1) := by decide +kernel
theorem dX9_trace_6 : decode cX9_trace 6 = .ok (.getfield 65, 3) := by decide +kernel
theorem dX9_trace_9 : decode cX9_trace 9 = .ok (.getfield 319, 3) := by decide +kernel
theorem dX9_trace_12 : decode cX9_trace 12 = .ok (.if_icmp .ge 15, 3) := by decide +kernel
theorem dX9_trace_15 : decode cX9_trace 15 = .ok (.aload_n 0, 1) := by decide +kernel
theorem dX9_trace_16 : decode cX9_trace 16 = .ok (.getfield 65, 3) := by decide +kernel
theorem dX9_trace_19 : decode cX9_trace 19 = .ok (.getfield 322, 3) := by decide +kernel
theorem dX9_trace_22 : decode cX9_trace 22 = .ok (.iload_n 1, 1) := by decide +kernel
theorem dX9_trace_23 : decode cX9_trace 23 = .ok (.iaload, 1) := by decide +kernel
theorem dX9_trace_24 : decode cX9_trace 24 = .ok (.goto 6, 3) := by decide +kernel
theorem dX9_trace_27 : decode cX9_trace 27 = .ok (.ldc_w 295, 3) := by decide +kernel
theorem dX9_trace_30 : decode cX9_trace 30 = .ok (.ireturn, 1) := by decide +kernel
theorem dX9_count_0 : decode cX9_count 0 = .ok (.iload_n 1, 1) := by decide +kernel
theorem dX9_count_1 : decode cX9_count 1 = .ok (.tableswitch 131 0 8 #[51, 59, 67, 75, 83, 91, 102, 115, 123], 51) := by decide +kernel
theorem dX9_count_52 : decode cX9_count 52 = .ok (.aload_n 0, 1) := by decide +kernel
theorem dX9_count_53 : decode cX9_count 53 = .ok (.getfield 10, 3) := by decide +kernel
theorem dX9_count_56 : decode cX9_count 56 = .ok (.invokevirtual 325, 3) := by decide +kernel
theorem dX9_count_59 : decode cX9_count 59 = .ok (.ireturn, 1) := by decide +kernel
theorem dX9_count_60 : decode cX9_count 60 = .ok (.aload_n 0, 1) := by decide +kernel
theorem dX9_count_61 : decode cX9_count 61 = .ok (.getfield 26, 3) := by decide +kernel
theorem dX9_count_64 : decode cX9_count 64 = .ok (.getfield 139, 3) := by decide +kernel
theorem dX9_count_67 : decode cX9_count 67 = .ok (.ireturn, 1) := by decide +kernel
theorem dX9_count_68 : decode cX9_count 68 = .ok (.aload_n 0, 1) := by decide +kernel
theorem dX9_count_69 : decode cX9_count 69 = .ok (.getfield 26, 3) := by decide +kernel
theorem dX9_count_72 : decode cX9_count 72 = .ok (.getfield 210, 3) := by decide +kernel
theorem dX9_count_75 : decode cX9_count 75 = .ok (.ireturn, 1) := by decide +kernel
theorem dX9_count_76 : decode cX9_count 76 = .ok (.aload_n 0, 1) := by decide +kernel
theorem dX9_count_77 : decode cX9_count 77 = .ok (.getfield 26, 3) := by decide +kernel
theorem dX9_count_80 : decode cX9_count 80 = .ok (.getfield 156, 3) := by decide +kernel
theorem dX9_count_83 : decode cX9_count 83 = .ok (.ireturn, 1) := by decide +kernel
theorem dX9_count_84 : decode cX9_count 84 = .ok (.aload_n 0, 1) := by decide +kernel
theorem dX9_count_85 : decode cX9_count 85 = .ok (.getfield 26, 3) := by decide +kernel
theorem dX9_count_88 : decode cX9_count 88 = .ok (.invokevirtual 328, 3) := by decide +kernel
theorem dX9_count_91 : decode cX9_count 91 = .ok (.ireturn, 1) := by decide +kernel
theorem dX9_count_92 : decode cX9_count 92 = .ok (.aload_n 0, 1) := by decide +kernel
theorem dX9_count_93 : decode cX9_count 93 = .ok (.getfield 26, 3) := by decide +kernel
theorem dX9_count_96 : decode cX9_count 96 = .ok (.invokevirtual 165, 3) := by decide +kernel
theorem dX9_count_99 : decode cX9_count 99 = .ok (.invokestatic 290, 3) := by decide +kernel
theorem dX9_count_102 : decode cX9_count 102 = .ok (.ireturn, 1) := by decide +kernel
theorem dX9_count_103 : decode cX9_count 103 = .ok (.aload_n 0, 1) := by decide +kernel
theorem dX9_count_104 : decode cX9_count 104 = .ok (.getfield 26, 3) := by decide +kernel
theorem dX9_count_107 : decode cX9_count 107 = .ok (.bipush 20, 2) := by decide +kernel
theorem dX9_count_109 : decode cX9_count 109 = .ok (.invokevirtual 207, 3) := by decide +kernel
theorem dX9_count_112 : decode cX9_count 112 = .ok (.invokestatic 290, 3) := by decide +kernel
theorem dX9_count_115 : decode cX9_count 115 = .ok (.ireturn, 1) := by decide +kernel
theorem dX9_count_116 : decode cX9_count 116 = .ok (.aload_n 0, 1) := by decide +kernel
theorem dX9_count_117 : decode cX9_count 117 = .ok (.getfield 33, 3) := by decide +kernel
theorem dX9_count_120 : decode cX9_count 120 = .ok (.getfield 149, 3) := by decide +kernel
theorem dX9_count_123 : decode cX9_count 123 = .ok (.ireturn, 1) := by decide +kernel
theorem dX9_count_124 : decode cX9_count 124 = .ok (.aload_n 0, 1) := by decide +kernel
theorem dX9_count_125 : decode cX9_count 125 = .ok (.getfield 19, 3) := by decide +kernel
theorem dX9_count_128 : decode cX9_count 128 = .ok (.getfield 117, 3) := by decide +kernel
theorem dX9_count_131 : decode cX9_count 131 = .ok (.ireturn, 1) := by decide +kernel
theorem dX9_count_132 : decode cX9_count 132 = .ok (.ldc 81, 2) := by decide +kernel
theorem dX9_count_134 : decode cX9_count 134 = .ok (.ireturn, 1) := by decide +kernel
theorem dX9_status_0 : decode cX9_status 0 = .ok (.aload_n 0, 1) := by decide +kernel
theorem dX9_status_1 : decode cX9_status 1 = .ok (.getfield 69, 3) := by decide +kernel
theorem dX9_status_4 : decode cX9_status 4 = .ok (.ireturn, 1) := by decide +kernel
theorem dX9_isStreet_0 : decode cX9_isStreet 0 = .ok (.aload_n 0, 1) := by decide +kernel
theorem dX9_isStreet_1 : decode cX9_isStreet 1 = .ok (.getfield 26, 3) := by decide +kernel
theorem dX9_isStreet_4 : decode cX9_isStreet 4 = .ok (.getfield 210, 3) := by decide +kernel
theorem dX9_isStreet_7 : decode cX9_isStreet 7 = .ok (.ifCond .le 7, 3) := by decide +kernel
theorem dX9_isStreet_10 : decode cX9_isStreet 10 = .ok (.iconst 1, 1) := by decide +kernel
theorem dX9_isStreet_11 : decode cX9_isStreet 11 = .ok (.goto 4, 3) := by decide +kernel
theorem dX9_isStreet_14 : decode cX9_isStreet 14 = .ok (.iconst 0, 1) := by decide +kernel
theorem dX9_isStreet_15 : decode cX9_isStreet 15 = .ok (.ireturn, 1) := by decide +kernel
theorem dX9_isThing_0 : decode cX9_isThing 0 = .ok (.iload_n 1, 1) := by decide +kernel
theorem dX9_isThing_1 : decode cX9_isThing 1 = .ok (.ifCond .lt 18, 3) := by decide +kernel
theorem dX9_isThing_4 : decode cX9_isThing 4 = .ok (.iload_n 1, 1) := by decide +kernel
theorem dX9_isThing_5 : decode cX9_isThing 5 = .ok (.aload_n 0, 1) := by decide +kernel
theorem dX9_isThing_6 : decode cX9_isThing 6 = .ok (.getfield 26, 3) := by decide +kernel
theorem dX9_isThing_9 : decode cX9_isThing 9 = .ok (.getfield 139, 3) := by decide +kernel
theorem dX9_isThing_12 : decode cX9_isThing 12 = .ok (.if_icmp .ge 7, 3) := by decide +kernel
theorem dX9_isThing_15 : decode cX9_isThing 15 = .ok (.iconst 1, 1) := by decide +kernel
theorem dX9_isThing_16 : decode cX9_isThing 16 = .ok (.goto 4, 3) := by decide +kernel
theorem dX9_isThing_19 : decode cX9_isThing 19 = .ok (.iconst 0, 1) := by decide +kernel
theorem dX9_isThing_20 : decode cX9_isThing 20 = .ok (.ireturn, 1) := by decide +kernel
theorem dX9_isRoom_0 : decode cX9_isRoom 0 = .ok (.iload_n 1, 1) := by decide +kernel
theorem dX9_isRoom_1 : decode cX9_isRoom 1 = .ok (.ifCond .lt 18, 3) := by decide +kernel
theorem dX9_isRoom_4 : decode cX9_isRoom 4 = .ok (.iload_n 1, 1) := by decide +kernel
theorem dX9_isRoom_5 : decode cX9_isRoom 5 = .ok (.aload_n 0, 1) := by decide +kernel
theorem dX9_isRoom_6 : decode cX9_isRoom 6 = .ok (.getfield 26, 3) := by decide +kernel
theorem dX9_isRoom_9 : decode cX9_isRoom 9 = .ok (.getfield 210, 3) := by decide +kernel
theorem dX9_isRoom_12 : decode cX9_isRoom 12 = .ok (.if_icmp .ge 7, 3) := by decide +kernel
theorem dX9_isRoom_15 : decode cX9_isRoom 15 = .ok (.iconst 1, 1) := by decide +kernel
theorem dX9_isRoom_16 : decode cX9_isRoom 16 = .ok (.goto 4, 3) := by decide +kernel
theorem dX9_isRoom_19 : decode cX9_isRoom 19 = .ok (.iconst 0, 1) := by decide +kernel
theorem dX9_isRoom_20 : decode cX9_isRoom 20 = .ok (.ireturn, 1) := by decide +kernel
theorem dX9_found_0 : decode cX9_found 0 = .ok (.aload_n 0, 1) := by decide +kernel
theorem dX9_found_1 : decode cX9_found 1 = .ok (.iload_n 1, 1) := by decide +kernel
theorem dX9_found_2 : decode cX9_found 2 = .ok (.putfield 69, 3) := by decide +kernel
theorem dX9_found_5 : decode cX9_found 5 = .ok (.ldc_w 331, 3) := by decide +kernel
theorem dX9_found_8 : decode cX9_found 8 = .ok (.iload_n 1, 1) := by decide +kernel
theorem dX9_found_9 : decode cX9_found 9 = .ok (.isub, 1) := by decide +kernel
theorem dX9_found_10 : decode cX9_found 10 = .ok (.ireturn, 1) := by decide +kernel
theorem dX9_unfound_0 : decode cX9_unfound 0 = .ok (.aload_n 0, 1) := by decide +kernel
theorem dX9_unfound_1 : decode cX9_unfound 1 = .ok (.iconst 0, 1) := by decide +kernel
theorem dX9_unfound_2 : decode cX9_unfound 2 = .ok (.putfield 69, 3) := by decide +kernel
theorem dX9_unfound_5 : decode cX9_unfound 5 = .ok (.iload_n 1, 1) := by decide +kernel
theorem dX9_unfound_6 : decode cX9_unfound 6 = .ok (.ireturn, 1) := by decide +kernel
theorem dX9_within_0 : decode cX9_within 0 = .ok (.iload_n 0, 1) := by decide +kernel
theorem dX9_within_1 : decode cX9_within 1 = .ok (.iload_n 1, 1) := by decide +kernel
theorem dX9_within_2 : decode cX9_within 2 = .ok (.if_icmp .lt 12, 3) := by decide +kernel
theorem dX9_within_5 : decode cX9_within 5 = .ok (.iload_n 0, 1) := by decide +kernel
theorem dX9_within_6 : decode cX9_within 6 = .ok (.iload_n 2, 1) := by decide +kernel
theorem dX9_within_7 : decode cX9_within 7 = .ok (.if_icmp .gt 7, 3) := by decide +kernel
theorem dX9_within_10 : decode cX9_within 10 = .ok (.iconst 1, 1) := by decide +kernel
theorem dX9_within_11 : decode cX9_within 11 = .ok (.goto 4, 3) := by decide +kernel
theorem dX9_within_14 : decode cX9_within 14 = .ok (.iconst 0, 1) := by decide +kernel
theorem dX9_within_15 : decode cX9_within 15 = .ok (.ireturn, 1) := by decide +kernel
theorem dX9_isOfKind_0 : decode cX9_isOfKind 0 = .ok (.iload_n 0, 1) := by decide +kernel
theorem dX9_isOfKind_1 : decode cX9_isOfKind 1 = .ok (.istore_n 2, 1) := by decide +kernel
theorem dX9_isOfKind_2 : decode cX9_isOfKind 2 = .ok (.iconst 0, 1) := by decide +kernel
theorem dX9_isOfKind_3 : decode cX9_isOfKind 3 = .ok (.istore_n 3, 1) := by decide +kernel
theorem dX9_isOfKind_4 : decode cX9_isOfKind 4 = .ok (.iload_n 3, 1) := by decide +kernel
theorem dX9_isOfKind_5 : decode cX9_isOfKind 5 = .ok (.bipush 6, 2) := by decide +kernel
theorem dX9_isOfKind_7 : decode cX9_isOfKind 7 = .ok (.if_icmp .ge 26, 3) := by decide +kernel
theorem dX9_isOfKind_10 : decode cX9_isOfKind 10 = .ok (.iload_n 2, 1) := by decide +kernel
theorem dX9_isOfKind_11 : decode cX9_isOfKind 11 = .ok (.ifCond .lt 22, 3) := by decide +kernel
theorem dX9_isOfKind_14 : decode cX9_isOfKind 14 = .ok (.iload_n 2, 1) := by decide +kernel
theorem dX9_isOfKind_15 : decode cX9_isOfKind 15 = .ok (.iload_n 1, 1) := by decide +kernel
theorem dX9_isOfKind_16 : decode cX9_isOfKind 16 = .ok (.if_icmp .ne 5, 3) := by decide +kernel
theorem dX9_isOfKind_19 : decode cX9_isOfKind 19 = .ok (.iconst 1, 1) := by decide +kernel
theorem dX9_isOfKind_20 : decode cX9_isOfKind 20 = .ok (.ireturn, 1) := by decide +kernel
theorem dX9_isOfKind_21 : decode cX9_isOfKind 21 = .ok (.getstatic 332, 3) := by decide +kernel
theorem dX9_isOfKind_24 : decode cX9_isOfKind 24 = .ok (.iload_n 2, 1) := by decide +kernel
theorem dX9_isOfKind_25 : decode cX9_isOfKind 25 = .ok (.iaload, 1) := by decide +kernel
theorem dX9_isOfKind_26 : decode cX9_isOfKind 26 = .ok (.istore_n 2, 1) := by decide +kernel
theorem dX9_isOfKind_27 : decode cX9_isOfKind 27 = .ok (.iinc 3 1, 3) := by decide +kernel
theorem dX9_isOfKind_30 : decode cX9_isOfKind 30 = .ok (.goto (-26), 3) := by decide +kernel
theorem dX9_isOfKind_33 : decode cX9_isOfKind 33 = .ok (.iconst 0, 1) := by decide +kernel
theorem dX9_isOfKind_34 : decode cX9_isOfKind 34 = .ok (.ireturn, 1) := by decide +kernel
theorem dX10_init_0 : decode cX10_init 0 = .ok (.aload_n 0, 1) := by decide +kernel
theorem dX10_init_1 : decode cX10_init 1 = .ok (.invokespecial 1, 3) := by decide +kernel
theorem dX10_init_4 : decode cX10_init 4 = .ok (.aload_n 0, 1) := by decide +kernel
theorem dX10_init_5 : decode cX10_init 5 = .ok (.bipush 8, 2) := by decide +kernel
theorem dX10_init_7 : decode cX10_init 7 = .ok (.newarray .int, 2) := by decide +kernel
theorem dX10_init_9 : decode cX10_init 9 = .ok (.putfield 7, 3) := by decide +kernel
theorem dX10_init_12 : decode cX10_init 12 = .ok (.aload_n 0, 1) := by decide +kernel
theorem dX10_init_13 : decode cX10_init 13 = .ok (.bipush 8, 2) := by decide +kernel
theorem dX10_init_15 : decode cX10_init 15 = .ok (.newarray .int, 2) := by decide +kernel
theorem dX10_init_17 : decode cX10_init 17 = .ok (.putfield 13, 3) := by decide +kernel
theorem dX10_init_20 : decode cX10_init 20 = .ok (.aload_n 0, 1) := by decide +kernel
theorem dX10_init_21 : decode cX10_init 21 = .ok (.sipush 320, 3) := by decide +kernel
theorem dX10_init_24 : decode cX10_init 24 = .ok (.newarray .int, 2) := by decide +kernel
theorem dX10_init_26 : decode cX10_init 26 = .ok (.putfield 16, 3) := by decide +kernel
theorem dX10_init_29 : decode cX10_init 29 = .ok (.aload_n 0, 1) := by decide +kernel
theorem dX10_init_30 : decode cX10_init 30 = .ok (.bipush 59, 2) := by decide +kernel
theorem dX10_init_32 : decode cX10_init 32 = .ok (.newarray .int, 2) := by decide +kernel
theorem dX10_init_34 : decode cX10_init 34 = .ok (.putfield 19, 3) := by decide +kernel
theorem dX10_init_37 : decode cX10_init 37 = .ok (.aload_n 0, 1) := by decide +kernel
theorem dX10_init_38 : decode cX10_init 38 = .ok (.bipush 59, 2) := by decide +kernel
theorem dX10_init_40 : decode cX10_init 40 = .ok (.newarray .int, 2) := by decide +kernel
theorem dX10_init_42 : decode cX10_init 42 = .ok (.putfield 22, 3) := by decide +kernel
theorem dX10_init_45 : decode cX10_init 45 = .ok (.aload_n 0, 1) := by decide +kernel
theorem dX10_init_46 : decode cX10_init 46 = .ok (.bipush 59, 2) := by decide +kernel
theorem dX10_init_48 : decode cX10_init 48 = .ok (.newarray .int, 2) := by decide +kernel
theorem dX10_init_50 : decode cX10_init 50 = .ok (.putfield 25, 3) := by decide +kernel
theorem dX10_init_53 : decode cX10_init 53 = .ok (.aload_n 0, 1) := by decide +kernel
theorem dX10_init_54 : decode cX10_init 54 = .ok (.sipush 1416, 3) := by decide +kernel
theorem dX10_init_57 : decode cX10_init 57 = .ok (.newarray .int, 2) := by decide +kernel
theorem dX10_init_59 : decode cX10_init 59 = .ok (.putfield 28, 3) := by decide +kernel
theorem dX10_init_62 : decode cX10_init 62 = .ok (.aload_n 0, 1) := by decide +kernel
theorem dX10_init_63 : decode cX10_init 63 = .ok (.bipush 118, 2) := by decide +kernel
theorem dX10_init_65 : decode cX10_init 65 = .ok (.newarray .int, 2) := by decide +kernel
theorem dX10_init_67 : decode cX10_init 67 = .ok (.putfield 31, 3) := by decide +kernel
theorem dX10_init_70 : decode cX10_init 70 = .ok (.aload_n 0, 1) := by decide +kernel
theorem dX10_init_71 : decode cX10_init 71 = .ok (.iconst 2, 1) := by decide +kernel
theorem dX10_init_72 : decode cX10_init 72 = .ok (.newarray .boolean, 2) := by decide +kernel
theorem dX10_init_74 : decode cX10_init 74 = .ok (.putfield 34, 3) := by decide +kernel
theorem dX10_init_77 : decode cX10_init 77 = .ok (.aload_n 0, 1) := by decide +kernel
theorem dX10_init_78 : decode cX10_init 78 = .ok (.bipush 90, 2) := by decide +kernel
theorem dX10_init_80 : decode cX10_init 80 = .ok (.newarray .int, 2) := by decide +kernel
theorem dX10_init_82 : decode cX10_init 82 = .ok (.putfield 38, 3) := by decide +kernel
theorem dX10_init_85 : decode cX10_init 85 = .ok (.aload_n 0, 1) := by decide +kernel
theorem dX10_init_86 : decode cX10_init 86 = .ok (.bipush 16, 2) := by decide +kernel
theorem dX10_init_88 : decode cX10_init 88 = .ok (.newarray .int, 2) := by decide +kernel
theorem dX10_init_90 : decode cX10_init 90 = .ok (.putfield 41, 3) := by decide +kernel
theorem dX10_init_93 : decode cX10_init 93 = .ok (.aload_n 0, 1) := by decide +kernel
theorem dX10_init_94 : decode cX10_init 94 = .ok (.sipush 295, 3) := by decide +kernel
theorem dX10_init_97 : decode cX10_init 97 = .ok (.newarray .int, 2) := by decide +kernel
theorem dX10_init_99 : decode cX10_init 99 = .ok (.putfield 44, 3) := by decide +kernel
theorem dX10_init_102 : decode cX10_init 102 = .ok (.aload_n 0, 1) := by decide +kernel
theorem dX10_init_103 : decode cX10_init 103 = .ok (.iconst 5, 1) := by decide +kernel
theorem dX10_init_104 : decode cX10_init 104 = .ok (.newarray .int, 2) := by decide +kernel
theorem dX10_init_106 : decode cX10_init 106 = .ok (.putfield 47, 3) := by decide +kernel
theorem dX10_init_109 : decode cX10_init 109 = .ok (.aload_n 0, 1) := by decide +kernel
theorem dX10_init_110 : decode cX10_init 110 = .ok (.iconst 5, 1) := by decide +kernel
theorem dX10_init_111 : decode cX10_init 111 = .ok (.newarray .int, 2) := by decide +kernel
theorem dX10_init_113 : decode cX10_init 113 = .ok (.putfield 50, 3) := by decide +kernel
theorem dX10_init_116 : decode cX10_init 116 = .ok (.iconst 0, 1) := by decide +kernel
theorem dX10_init_117 : decode cX10_init 117 = .ok (.istore_n 1, 1) := by decide +kernel
theorem dX10_init_118 : decode cX10_init 118 = .ok (.iload_n 1, 1) := by decide +kernel
theorem dX10_init_119 : decode cX10_init 119 = .ok (.bipush 8, 2) := by decide +kernel
theorem dX10_init_121 : decode cX10_init 121 = .ok (.if_icmp .ge 16, 3) := by decide +kernel
theorem dX10_init_124 : decode cX10_init 124 = .ok (.aload_n 0, 1) := by decide +kernel
theorem dX10_init_125 : decode cX10_init 125 = .ok (.getfield 13, 3) := by decide +kernel
theorem dX10_init_128 : decode cX10_init 128 = .ok (.iload_n 1, 1) := by decide +kernel
theorem dX10_init_129 : decode cX10_init 129 = .ok (.iconst (-1), 1) := by decide +kernel
theorem dX10_init_130 : decode cX10_init 130 = .ok (.iastore, 1) := by decide +kernel
theorem dX10_init_131 : decode cX10_init 131 = .ok (.iinc 1 1, 3) := by decide +kernel
theorem dX10_init_134 : decode cX10_init 134 = .ok (.goto (-16), 3) := by decide +kernel
theorem dX10_init_137 : decode cX10_init 137 = .ok (.return_, 1) := by decide +kernel
theorem dX10_in_0 : decode cX10_in 0 = .ok (.lload_n 0, 1) := by decide +kernel
theorem dX10_in_1 : decode cX10_in 1 = .ok (.lload_n 2, 1) := by decide +kernel
theorem dX10_in_2 : decode cX10_in 2 = .ok (.lcmp, 1) := by decide +kernel
theorem dX10_in_3 : decode cX10_in 3 = .ok (.ifCond .lt 14, 3) := by decide +kernel
theorem dX10_in_6 : decode cX10_in 6 = .ok (.lload_n 0, 1) := by decide +kernel
theorem dX10_in_7 : decode cX10_in 7 = .ok (.lload 4, 2) := by decide +kernel
theorem dX10_in_9 : decode cX10_in 9 = .ok (.lcmp, 1) := by decide +kernel
theorem dX10_in_10 : decode cX10_in 10 = .ok (.ifCond .gt 7, 3) := by decide +kernel
theorem dX10_in_13 : decode cX10_in 13 = .ok (.iconst 1, 1) := by decide +kernel
theorem dX10_in_14 : decode cX10_in 14 = .ok (.goto 4, 3) := by decide +kernel
theorem dX10_in_17 : decode cX10_in 17 = .ok (.iconst 0, 1) := by decide +kernel
theorem dX10_in_18 : decode cX10_in 18 = .ok (.ireturn, 1) := by decide +kernel
theorem dX10_isTwo_0 : decode cX10_isTwo 0 = .ok (.iload_n 0, 1) := by decide +kernel
theorem dX10_isTwo_1 : decode cX10_isTwo 1 = .ok (.i2l, 1) := by decide +kernel
theorem dX10_isTwo_2 : decode cX10_isTwo 2 = .ok (.lconst 0, 1) := by decide +kernel
theorem dX10_isTwo_3 : decode cX10_isTwo 3 = .ok (.lconst 1, 1) := by decide +kernel
theorem dX10_isTwo_4 : decode cX10_isTwo 4 = .ok (.invokestatic 53, 3) := by decide +kernel
theorem dX10_isTwo_7 : decode cX10_isTwo 7 = .ok (.ireturn, 1) := by decide +kernel
theorem dX10_has_0 : decode cX10_has 0 = .ok (.iload_n 0, 1) := by decide +kernel
theorem dX10_has_1 : decode cX10_has 1 = .ok (.iload_n 1, 1) := by decide +kernel
theorem dX10_has_2 : decode cX10_has 2 = .ok (.ishr, 1) := by decide +kernel
theorem dX10_has_3 : decode cX10_has 3 = .ok (.iconst 1, 1) := by decide +kernel
theorem dX10_has_4 : decode cX10_has 4 = .ok (.iand, 1) := by decide +kernel
theorem dX10_has_5 : decode cX10_has 5 = .ok (.iconst 1, 1) := by decide +kernel
theorem dX10_has_6 : decode cX10_has 6 = .ok (.if_icmp .ne 7, 3) := by decide +kernel
theorem dX10_has_9 : decode cX10_has 9 = .ok (.iconst 1, 1) := by decide +kernel
theorem dX10_has_10 : decode cX10_has 10 = .ok (.goto 4, 3) := by decide +kernel
theorem dX10_has_13 : decode cX10_has 13 = .ok (.iconst 0, 1) := by decide +kernel
theorem dX10_has_14 : decode cX10_has 14 = .ok (.ireturn, 1) := by decide +kernel
