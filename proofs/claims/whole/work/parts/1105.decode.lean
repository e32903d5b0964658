theorem dX10_drawn_0 : decode cX10_drawn 0 = .ok (.aload_n 0, 1) := by decide +kernel
theorem dX10_drawn_1 : decode cX10_drawn 1 = .ok (.invokevirtual 175, 3) := by decide +kernel
theorem dX10_drawn_4 : decode cX10_drawn 4 = .ok (.ifCond .ne 6, 3) := by decide +kernel
theorem dX10_drawn_7 : decode cX10_drawn 7 = .ok (.ldc 174, 2) := by decide +kernel
theorem dX10_drawn_9 : decode cX10_drawn 9 = .ok (.ireturn, 1) := by decide +kernel
theorem dX10_drawn_10 : decode cX10_drawn 10 = .ok (.iload_n 1, 1) := by decide +kernel
theorem dX10_drawn_11 : decode cX10_drawn 11 = .ok (.i2l, 1) := by decide +kernel
theorem dX10_drawn_12 : decode cX10_drawn 12 = .ok (.lconst 0, 1) := by decide +kernel
theorem dX10_drawn_13 : decode cX10_drawn 13 = .ok (.ldc2_w 203, 3) := by decide +kernel
theorem dX10_drawn_16 : decode cX10_drawn 16 = .ok (.invokestatic 53, 3) := by decide +kernel
theorem dX10_drawn_19 : decode cX10_drawn 19 = .ok (.ifCond .eq 22, 3) := by decide +kernel
theorem dX10_drawn_22 : decode cX10_drawn 22 = .ok (.iload_n 2, 1) := by decide +kernel
theorem dX10_drawn_23 : decode cX10_drawn 23 = .ok (.i2l, 1) := by decide +kernel
theorem dX10_drawn_24 : decode cX10_drawn 24 = .ok (.lconst 1, 1) := by decide +kernel
theorem dX10_drawn_25 : decode cX10_drawn 25 = .ok (.ldc2_w 265, 3) := by decide +kernel
theorem dX10_drawn_28 : decode cX10_drawn 28 = .ok (.invokestatic 53, 3) := by decide +kernel
theorem dX10_drawn_31 : decode cX10_drawn 31 = .ok (.ifCond .eq 10, 3) := by decide +kernel
theorem dX10_drawn_34 : decode cX10_drawn 34 = .ok (.iload_n 3, 1) := by decide +kernel
theorem dX10_drawn_35 : decode cX10_drawn 35 = .ok (.invokestatic 209, 3) := by decide +kernel
theorem dX10_drawn_38 : decode cX10_drawn 38 = .ok (.ifCond .ne 6, 3) := by decide +kernel
theorem dX10_drawn_41 : decode cX10_drawn 41 = .ok (.ldc 70, 2) := by decide +kernel
theorem dX10_drawn_43 : decode cX10_drawn 43 = .ok (.ireturn, 1) := by decide +kernel
theorem dX10_drawn_44 : decode cX10_drawn 44 = .ok (.aload_n 0, 1) := by decide +kernel
theorem dX10_drawn_45 : decode cX10_drawn 45 = .ok (.iconst 0, 1) := by decide +kernel
theorem dX10_drawn_46 : decode cX10_drawn 46 = .ok (.invokevirtual 205, 3) := by decide +kernel
theorem dX10_drawn_49 : decode cX10_drawn 49 = .ok (.iload_n 3, 1) := by decide +kernel
theorem dX10_drawn_50 : decode cX10_drawn 50 = .ok (.ifCond .ne 7, 3) := by decide +kernel
theorem dX10_drawn_53 : decode cX10_drawn 53 = .ok (.iconst 2, 1) := by decide +kernel
theorem dX10_drawn_54 : decode cX10_drawn 54 = .ok (.goto 4, 3) := by decide +kernel
theorem dX10_drawn_57 : decode cX10_drawn 57 = .ok (.iconst 1, 1) := by decide +kernel
theorem dX10_drawn_58 : decode cX10_drawn 58 = .ok (.istore 4, 2) := by decide +kernel
theorem dX10_drawn_60 : decode cX10_drawn 60 = .ok (.iload_n 2, 1) := by decide +kernel
theorem dX10_drawn_61 : decode cX10_drawn 61 = .ok (.i2l, 1) := by decide +kernel
theorem dX10_drawn_62 : decode cX10_drawn 62 = .ok (.lstore 5, 2) := by decide +kernel
theorem dX10_drawn_64 : decode cX10_drawn 64 = .ok (.iconst 0, 1) := by decide +kernel
theorem dX10_drawn_65 : decode cX10_drawn 65 = .ok (.istore 7, 2) := by decide +kernel
theorem dX10_drawn_67 : decode cX10_drawn 67 = .ok (.iconst 0, 1) := by decide +kernel
theorem dX10_drawn_68 : decode cX10_drawn 68 = .ok (.istore 8, 2) := by decide +kernel
theorem dX10_drawn_70 : decode cX10_drawn 70 = .ok (.iload 8, 2) := by decide +kernel
theorem dX10_drawn_72 : decode cX10_drawn 72 = .ok (.iload_n 1, 1) := by decide +kernel
theorem dX10_drawn_73 : decode cX10_drawn 73 = .ok (.if_icmp .ge 152, 3) := by decide +kernel
theorem dX10_drawn_76 : decode cX10_drawn 76 = .ok (.lload 5, 2) := by decide +kernel
theorem dX10_drawn_78 : decode cX10_drawn 78 = .ok (.ldc2_w 267, 3) := by decide +kernel
theorem dX10_drawn_81 : decode cX10_drawn 81 = .ok (.lmul, 1) := by decide +kernel
theorem dX10_drawn_82 : decode cX10_drawn 82 = .ok (.ldc2_w 269, 3) := by decide +kernel
theorem dX10_drawn_85 : decode cX10_drawn 85 = .ok (.lrem, 1) := by decide +kernel
theorem dX10_drawn_86 : decode cX10_drawn 86 = .ok (.lstore 5, 2) := by decide +kernel
theorem dX10_drawn_88 : decode cX10_drawn 88 = .ok (.aload_n 0, 1) := by decide +kernel
theorem dX10_drawn_89 : decode cX10_drawn 89 = .ok (.getfield 25, 3) := by decide +kernel
theorem dX10_drawn_92 : decode cX10_drawn 92 = .ok (.iconst 2, 1) := by decide +kernel
theorem dX10_drawn_93 : decode cX10_drawn 93 = .ok (.lload 5, 2) := by decide +kernel
theorem dX10_drawn_95 : decode cX10_drawn 95 = .ok (.ldc2_w 271, 3) := by decide +kernel
theorem dX10_drawn_98 : decode cX10_drawn 98 = .ok (.lrem, 1) := by decide +kernel
theorem dX10_drawn_99 : decode cX10_drawn 99 = .ok (.lconst 0, 1) := by decide +kernel
theorem dX10_drawn_100 : decode cX10_drawn 100 = .ok (.lcmp, 1) := by decide +kernel
theorem dX10_drawn_101 : decode cX10_drawn 101 = .ok (.ifCond .ne 13, 3) := by decide +kernel
theorem dX10_drawn_104 : decode cX10_drawn 104 = .ok (.lload 5, 2) := by decide +kernel
theorem dX10_drawn_106 : decode cX10_drawn 106 = .ok (.ldc2_w 257, 3) := by decide +kernel
theorem dX10_drawn_109 : decode cX10_drawn 109 = .ok (.lrem, 1) := by decide +kernel
theorem dX10_drawn_110 : decode cX10_drawn 110 = .ok (.l2i, 1) := by decide +kernel
theorem dX10_drawn_111 : decode cX10_drawn 111 = .ok (.goto 9, 3) := by decide +kernel
theorem dX10_drawn_114 : decode cX10_drawn 114 = .ok (.aload_n 0, 1) := by decide +kernel
theorem dX10_drawn_115 : decode cX10_drawn 115 = .ok (.getfield 25, 3) := by decide +kernel
theorem dX10_drawn_118 : decode cX10_drawn 118 = .ok (.iconst 2, 1) := by decide +kernel
theorem dX10_drawn_119 : decode cX10_drawn 119 = .ok (.iaload, 1) := by decide +kernel
theorem dX10_drawn_120 : decode cX10_drawn 120 = .ok (.iastore, 1) := by decide +kernel
theorem dX10_drawn_121 : decode cX10_drawn 121 = .ok (.lload 5, 2) := by decide +kernel
theorem dX10_drawn_123 : decode cX10_drawn 123 = .ok (.aload_n 0, 1) := by decide +kernel
theorem dX10_drawn_124 : decode cX10_drawn 124 = .ok (.getfield 19, 3) := by decide +kernel
theorem dX10_drawn_127 : decode cX10_drawn 127 = .ok (.iconst 1, 1) := by decide +kernel
theorem dX10_drawn_128 : decode cX10_drawn 128 = .ok (.iaload, 1) := by decide +kernel
theorem dX10_drawn_129 : decode cX10_drawn 129 = .ok (.i2l, 1) := by decide +kernel
theorem dX10_drawn_130 : decode cX10_drawn 130 = .ok (.lrem, 1) := by decide +kernel
theorem dX10_drawn_131 : decode cX10_drawn 131 = .ok (.l2i, 1) := by decide +kernel
theorem dX10_drawn_132 : decode cX10_drawn 132 = .ok (.istore 9, 2) := by decide +kernel
theorem dX10_drawn_134 : decode cX10_drawn 134 = .ok (.aload_n 0, 1) := by decide +kernel
theorem dX10_drawn_135 : decode cX10_drawn 135 = .ok (.getfield 25, 3) := by decide +kernel
theorem dX10_drawn_138 : decode cX10_drawn 138 = .ok (.bipush 53, 2) := by decide +kernel
theorem dX10_drawn_140 : decode cX10_drawn 140 = .ok (.iload 9, 2) := by decide +kernel
theorem dX10_drawn_142 : decode cX10_drawn 142 = .ok (.iadd, 1) := by decide +kernel
theorem dX10_drawn_143 : decode cX10_drawn 143 = .ok (.iaload, 1) := by decide +kernel
theorem dX10_drawn_144 : decode cX10_drawn 144 = .ok (.ifCond .eq 35, 3) := by decide +kernel
theorem dX10_drawn_147 : decode cX10_drawn 147 = .ok (.aload_n 0, 1) := by decide +kernel
theorem dX10_drawn_148 : decode cX10_drawn 148 = .ok (.getfield 25, 3) := by decide +kernel
theorem dX10_drawn_151 : decode cX10_drawn 151 = .ok (.bipush 53, 2) := by decide +kernel
theorem dX10_drawn_153 : decode cX10_drawn 153 = .ok (.iload 9, 2) := by decide +kernel
theorem dX10_drawn_155 : decode cX10_drawn 155 = .ok (.iadd, 1) := by decide +kernel
theorem dX10_drawn_156 : decode cX10_drawn 156 = .ok (.iconst 0, 1) := by decide +kernel
theorem dX10_drawn_157 : decode cX10_drawn 157 = .ok (.iastore, 1) := by decide +kernel
theorem dX10_drawn_158 : decode cX10_drawn 158 = .ok (.aload_n 0, 1) := by decide +kernel
theorem dX10_drawn_159 : decode cX10_drawn 159 = .ok (.getfield 25, 3) := by decide +kernel
theorem dX10_drawn_162 : decode cX10_drawn 162 = .ok (.bipush 47, 2) := by decide +kernel
theorem dX10_drawn_164 : decode cX10_drawn 164 = .ok (.iload 9, 2) := by decide +kernel
theorem dX10_drawn_166 : decode cX10_drawn 166 = .ok (.iadd, 1) := by decide +kernel
theorem dX10_drawn_167 : decode cX10_drawn 167 = .ok (.lload 5, 2) := by decide +kernel
theorem dX10_drawn_169 : decode cX10_drawn 169 = .ok (.aload_n 0, 1) := by decide +kernel
theorem dX10_drawn_170 : decode cX10_drawn 170 = .ok (.getfield 19, 3) := by decide +kernel
theorem dX10_drawn_173 : decode cX10_drawn 173 = .ok (.iconst 0, 1) := by decide +kernel
theorem dX10_drawn_174 : decode cX10_drawn 174 = .ok (.iaload, 1) := by decide +kernel
theorem dX10_drawn_175 : decode cX10_drawn 175 = .ok (.i2l, 1) := by decide +kernel
theorem dX10_drawn_176 : decode cX10_drawn 176 = .ok (.lrem, 1) := by decide +kernel
theorem dX10_drawn_177 : decode cX10_drawn 177 = .ok (.l2i, 1) := by decide +kernel
theorem dX10_drawn_178 : decode cX10_drawn 178 = .ok (.iastore, 1) := by decide +kernel
theorem dX10_drawn_179 : decode cX10_drawn 179 = .ok (.aload_n 0, 1) := by decide +kernel
theorem dX10_drawn_180 : decode cX10_drawn 180 = .ok (.getfield 25, 3) := by decide +kernel
theorem dX10_drawn_183 : decode cX10_drawn 183 = .ok (.iload 4, 2) := by decide +kernel
theorem dX10_drawn_185 : decode cX10_drawn 185 = .ok (.invokestatic 168, 3) := by decide +kernel
theorem dX10_drawn_188 : decode cX10_drawn 188 = .ok (.istore 10, 2) := by decide +kernel
theorem dX10_drawn_190 : decode cX10_drawn 190 = .ok (.aload_n 0, 1) := by decide +kernel
theorem dX10_drawn_191 : decode cX10_drawn 191 = .ok (.getfield 25, 3) := by decide +kernel
theorem dX10_drawn_194 : decode cX10_drawn 194 = .ok (.invokestatic 165, 3) := by decide +kernel
theorem dX10_drawn_197 : decode cX10_drawn 197 = .ok (.iload 7, 2) := by decide +kernel
theorem dX10_drawn_199 : decode cX10_drawn 199 = .ok (.aload_n 0, 1) := by decide +kernel
theorem dX10_drawn_200 : decode cX10_drawn 200 = .ok (.getfield 25, 3) := by decide +kernel
theorem dX10_drawn_203 : decode cX10_drawn 203 = .ok (.iload 4, 2) := by decide +kernel
theorem dX10_drawn_205 : decode cX10_drawn 205 = .ok (.invokestatic 168, 3) := by decide +kernel
theorem dX10_drawn_208 : decode cX10_drawn 208 = .ok (.iload 10, 2) := by decide +kernel
theorem dX10_drawn_210 : decode cX10_drawn 210 = .ok (.iconst (-1), 1) := by decide +kernel
theorem dX10_drawn_211 : decode cX10_drawn 211 = .ok (.ixor, 1) := by decide +kernel
theorem dX10_drawn_212 : decode cX10_drawn 212 = .ok (.iand, 1) := by decide +kernel
theorem dX10_drawn_213 : decode cX10_drawn 213 = .ok (.invokestatic 171, 3) := by decide +kernel
theorem dX10_drawn_216 : decode cX10_drawn 216 = .ok (.iadd, 1) := by decide +kernel
theorem dX10_drawn_217 : decode cX10_drawn 217 = .ok (.istore 7, 2) := by decide +kernel
theorem dX10_drawn_219 : decode cX10_drawn 219 = .ok (.iinc 8 1, 3) := by decide +kernel
theorem dX10_drawn_222 : decode cX10_drawn 222 = .ok (.goto (-152), 3) := by decide +kernel
theorem dX10_drawn_225 : decode cX10_drawn 225 = .ok (.iload 7, 2) := by decide +kernel
theorem dX10_drawn_227 : decode cX10_drawn 227 = .ok (.ireturn, 1) := by decide +kernel
theorem dX10_image_0 : decode cX10_image 0 = .ok (.iload_n 1, 1) := by decide +kernel
theorem dX10_image_1 : decode cX10_image 1 = .ok (.invokestatic 209, 3) := by decide +kernel
theorem dX10_image_4 : decode cX10_image 4 = .ok (.ifCond .ne 6, 3) := by decide +kernel
theorem dX10_image_7 : decode cX10_image 7 = .ok (.ldc 70, 2) := by decide +kernel
theorem dX10_image_9 : decode cX10_image 9 = .ok (.ireturn, 1) := by decide +kernel
theorem dX10_image_10 : decode cX10_image 10 = .ok (.aload_n 0, 1) := by decide +kernel
theorem dX10_image_11 : decode cX10_image 11 = .ok (.invokevirtual 175, 3) := by decide +kernel
theorem dX10_image_14 : decode cX10_image 14 = .ok (.ifCond .ne 6, 3) := by decide +kernel
theorem dX10_image_17 : decode cX10_image 17 = .ok (.ldc 174, 2) := by decide +kernel
theorem dX10_image_19 : decode cX10_image 19 = .ok (.ireturn, 1) := by decide +kernel
theorem dX10_image_20 : decode cX10_image 20 = .ok (.aload_n 0, 1) := by decide +kernel
theorem dX10_image_21 : decode cX10_image 21 = .ok (.getfield 19, 3) := by decide +kernel
theorem dX10_image_24 : decode cX10_image 24 = .ok (.iconst 0, 1) := by decide +kernel
theorem dX10_image_25 : decode cX10_image 25 = .ok (.aload_n 0, 1) := by decide +kernel
theorem dX10_image_26 : decode cX10_image 26 = .ok (.getfield 31, 3) := by decide +kernel
theorem dX10_image_29 : decode cX10_image 29 = .ok (.bipush 59, 2) := by decide +kernel
theorem dX10_image_31 : decode cX10_image 31 = .ok (.iload_n 1, 1) := by decide +kernel
theorem dX10_image_32 : decode cX10_image 32 = .ok (.imul, 1) := by decide +kernel
theorem dX10_image_33 : decode cX10_image 33 = .ok (.invokestatic 138, 3) := by decide +kernel
theorem dX10_image_36 : decode cX10_image 36 = .ok (.aload_n 0, 1) := by decide +kernel
theorem dX10_image_37 : decode cX10_image 37 = .ok (.getfield 34, 3) := by decide +kernel
theorem dX10_image_40 : decode cX10_image 40 = .ok (.iload_n 1, 1) := by decide +kernel
theorem dX10_image_41 : decode cX10_image 41 = .ok (.iconst 1, 1) := by decide +kernel
theorem dX10_image_42 : decode cX10_image 42 = .ok (.bastore, 1) := by decide +kernel
theorem dX10_image_43 : decode cX10_image 43 = .ok (.iconst 1, 1) := by decide +kernel
theorem dX10_image_44 : decode cX10_image 44 = .ok (.ireturn, 1) := by decide +kernel
theorem dX10_restore_0 : decode cX10_restore 0 = .ok (.iload_n 1, 1) := by decide +kernel
theorem dX10_restore_1 : decode cX10_restore 1 = .ok (.invokestatic 209, 3) := by decide +kernel
theorem dX10_restore_4 : decode cX10_restore 4 = .ok (.ifCond .ne 6, 3) := by decide +kernel
theorem dX10_restore_7 : decode cX10_restore 7 = .ok (.ldc 70, 2) := by decide +kernel
theorem dX10_restore_9 : decode cX10_restore 9 = .ok (.ireturn, 1) := by decide +kernel
theorem dX10_restore_10 : decode cX10_restore 10 = .ok (.aload_n 0, 1) := by decide +kernel
theorem dX10_restore_11 : decode cX10_restore 11 = .ok (.getfield 34, 3) := by decide +kernel
theorem dX10_restore_14 : decode cX10_restore 14 = .ok (.iload_n 1, 1) := by decide +kernel
theorem dX10_restore_15 : decode cX10_restore 15 = .ok (.baload, 1) := by decide +kernel
theorem dX10_restore_16 : decode cX10_restore 16 = .ok (.ifCond .ne 6, 3) := by decide +kernel
theorem dX10_restore_19 : decode cX10_restore 19 = .ok (.ldc 174, 2) := by decide +kernel
theorem dX10_restore_21 : decode cX10_restore 21 = .ok (.ireturn, 1) := by decide +kernel
theorem dX10_restore_22 : decode cX10_restore 22 = .ok (.aload_n 0, 1) := by decide +kernel
theorem dX10_restore_23 : decode cX10_restore 23 = .ok (.getfield 31, 3) := by decide +kernel
theorem dX10_restore_26 : decode cX10_restore 26 = .ok (.bipush 59, 2) := by decide +kernel
theorem dX10_restore_28 : decode cX10_restore 28 = .ok (.iload_n 1, 1) := by decide +kernel
theorem dX10_restore_29 : decode cX10_restore 29 = .ok (.imul, 1) := by decide +kernel
theorem dX10_restore_30 : decode cX10_restore 30 = .ok (.aload_n 0, 1) := by decide +kernel
theorem dX10_restore_31 : decode cX10_restore 31 = .ok (.getfield 19, 3) := by decide +kernel
theorem dX10_restore_34 : decode cX10_restore 34 = .ok (.iconst 0, 1) := by decide +kernel
theorem dX10_restore_35 : decode cX10_restore 35 = .ok (.invokestatic 138, 3) := by decide +kernel
theorem dX10_restore_38 : decode cX10_restore 38 = .ok (.aload_n 0, 1) := by decide +kernel
theorem dX10_restore_39 : decode cX10_restore 39 = .ok (.iconst 0, 1) := by decide +kernel
theorem dX10_restore_40 : decode cX10_restore 40 = .ok (.putfield 142, 3) := by decide +kernel
theorem dX10_restore_43 : decode cX10_restore 43 = .ok (.iconst 1, 1) := by decide +kernel
theorem dX10_restore_44 : decode cX10_restore 44 = .ok (.ireturn, 1) := by decide +kernel
theorem dX10_kind_0 : decode cX10_kind 0 = .ok (.aload_n 0, 1) := by decide +kernel
theorem dX10_kind_1 : decode cX10_kind 1 = .ok (.iload_n 1, 1) := by decide +kernel
theorem dX10_kind_2 : decode cX10_kind 2 = .ok (.invokevirtual 188, 3) := by decide +kernel
theorem dX10_kind_5 : decode cX10_kind 5 = .ok (.ifCond .eq 15, 3) := by decide +kernel
theorem dX10_kind_8 : decode cX10_kind 8 = .ok (.aload_n 0, 1) := by decide +kernel
theorem dX10_kind_9 : decode cX10_kind 9 = .ok (.getfield 19, 3) := by decide +kernel
theorem dX10_kind_12 : decode cX10_kind 12 = .ok (.bipush 35, 2) := by decide +kernel
theorem dX10_kind_14 : decode cX10_kind 14 = .ok (.iload_n 1, 1) := by decide +kernel
theorem dX10_kind_15 : decode cX10_kind 15 = .ok (.iadd, 1) := by decide +kernel
theorem dX10_kind_16 : decode cX10_kind 16 = .ok (.iaload, 1) := by decide +kernel
theorem dX10_kind_17 : decode cX10_kind 17 = .ok (.goto 5, 3) := by decide +kernel
theorem dX10_kind_20 : decode cX10_kind 20 = .ok (.ldc 70, 2) := by decide +kernel
theorem dX10_kind_22 : decode cX10_kind 22 = .ok (.ireturn, 1) := by decide +kernel
theorem dX10_isOf_0 : decode cX10_isOf 0 = .ok (.iload_n 1, 1) := by decide +kernel
theorem dX10_isOf_1 : decode cX10_isOf 1 = .ok (.ifCond .eq 33, 3) := by decide +kernel
theorem dX10_isOf_4 : decode cX10_isOf 4 = .ok (.iload_n 0, 1) := by decide +kernel
theorem dX10_isOf_5 : decode cX10_isOf 5 = .ok (.iload_n 1, 1) := by decide +kernel
theorem dX10_isOf_6 : decode cX10_isOf 6 = .ok (.if_icmp .eq 28, 3) := by decide +kernel
theorem dX10_isOf_9 : decode cX10_isOf 9 = .ok (.iload_n 1, 1) := by decide +kernel
theorem dX10_isOf_10 : decode cX10_isOf 10 = .ok (.iconst 1, 1) := by decide +kernel
theorem dX10_isOf_11 : decode cX10_isOf 11 = .ok (.if_icmp .ne 13, 3) := by decide +kernel
theorem dX10_isOf_14 : decode cX10_isOf 14 = .ok (.iload_n 0, 1) := by decide +kernel
theorem dX10_isOf_15 : decode cX10_isOf 15 = .ok (.iconst 2, 1) := by decide +kernel
theorem dX10_isOf_16 : decode cX10_isOf 16 = .ok (.if_icmp .eq 18, 3) := by decide +kernel
theorem dX10_isOf_19 : decode cX10_isOf 19 = .ok (.iload_n 0, 1) := by decide +kernel
theorem dX10_isOf_20 : decode cX10_isOf 20 = .ok (.iconst 3, 1) := by decide +kernel
theorem dX10_isOf_21 : decode cX10_isOf 21 = .ok (.if_icmp .eq 13, 3) := by decide +kernel
theorem dX10_isOf_24 : decode cX10_isOf 24 = .ok (.iload_n 1, 1) := by decide +kernel
theorem dX10_isOf_25 : decode cX10_isOf 25 = .ok (.iconst 4, 1) := by decide +kernel
theorem dX10_isOf_26 : decode cX10_isOf 26 = .ok (.if_icmp .ne 12, 3) := by decide +kernel
theorem dX10_isOf_29 : decode cX10_isOf 29 = .ok (.iload_n 0, 1) := by decide +kernel
theorem dX10_isOf_30 : decode cX10_isOf 30 = .ok (.iconst 5, 1) := by decide +kernel
theorem dX10_isOf_31 : decode cX10_isOf 31 = .ok (.if_icmp .ne 7, 3) := by decide +kernel
theorem dX10_isOf_34 : decode cX10_isOf 34 = .ok (.iconst 1, 1) := by decide +kernel
theorem dX10_isOf_35 : decode cX10_isOf 35 = .ok (.goto 4, 3) := by decide +kernel
theorem dX10_isOf_38 : decode cX10_isOf 38 = .ok (.iconst 0, 1) := by decide +kernel
theorem dX10_isOf_39 : decode cX10_isOf 39 = .ok (.ireturn, 1) := by decide +kernel
theorem dX10_as_0 : decode cX10_as 0 = .ok (.aload_n 0, 1) := by decide +kernel
theorem dX10_as_1 : decode cX10_as 1 = .ok (.iload_n 1, 1) := by decide +kernel
theorem dX10_as_2 : decode cX10_as 2 = .ok (.invokevirtual 188, 3) := by decide +kernel
theorem dX10_as_5 : decode cX10_as 5 = .ok (.ifCond .eq 15, 3) := by decide +kernel
theorem dX10_as_8 : decode cX10_as 8 = .ok (.iload_n 2, 1) := by decide +kernel
theorem dX10_as_9 : decode cX10_as 9 = .ok (.i2l, 1) := by decide +kernel
theorem dX10_as_10 : decode cX10_as 10 = .ok (.lconst 0, 1) := by decide +kernel
theorem dX10_as_11 : decode cX10_as 11 = .ok (.ldc2_w 273, 3) := by decide +kernel
theorem dX10_as_14 : decode cX10_as 14 = .ok (.invokestatic 53, 3) := by decide +kernel
theorem dX10_as_17 : decode cX10_as 17 = .ok (.ifCond .ne 6, 3) := by decide +kernel
theorem dX10_as_20 : decode cX10_as 20 = .ok (.ldc 70, 2) := by decide +kernel
theorem dX10_as_22 : decode cX10_as 22 = .ok (.ireturn, 1) := by decide +kernel
theorem dX10_as_23 : decode cX10_as 23 = .ok (.aload_n 0, 1) := by decide +kernel
theorem dX10_as_24 : decode cX10_as 24 = .ok (.getfield 19, 3) := by decide +kernel
theorem dX10_as_27 : decode cX10_as 27 = .ok (.bipush 35, 2) := by decide +kernel
theorem dX10_as_29 : decode cX10_as 29 = .ok (.iload_n 1, 1) := by decide +kernel
theorem dX10_as_30 : decode cX10_as 30 = .ok (.iadd, 1) := by decide +kernel
theorem dX10_as_31 : decode cX10_as 31 = .ok (.iaload, 1) := by decide +kernel
theorem dX10_as_32 : decode cX10_as 32 = .ok (.iload_n 2, 1) := by decide +kernel
theorem dX10_as_33 : decode cX10_as 33 = .ok (.invokestatic 275, 3) := by decide +kernel
theorem dX10_as_36 : decode cX10_as 36 = .ok (.ifCond .eq 11, 3) := by decide +kernel
theorem dX10_as_39 : decode cX10_as 39 = .ok (.aload_n 0, 1) := by decide +kernel
theorem dX10_as_40 : decode cX10_as 40 = .ok (.iload_n 1, 1) := by decide +kernel
theorem dX10_as_41 : decode cX10_as 41 = .ok (.invokevirtual 75, 3) := by decide +kernel
theorem dX10_as_44 : decode cX10_as 44 = .ok (.goto 8, 3) := by decide +kernel
theorem dX10_as_47 : decode cX10_as 47 = .ok (.aload_n 0, 1) := by decide +kernel
theorem dX10_as_48 : decode cX10_as 48 = .ok (.iconst 3, 1) := by decide +kernel
theorem dX10_as_49 : decode cX10_as 49 = .ok (.invokevirtual 71, 3) := by decide +kernel
theorem dX10_as_52 : decode cX10_as 52 = .ok (.ireturn, 1) := by decide +kernel
theorem dX10_leave_0 : decode cX10_leave 0 = .ok (.lconst 1, 1) := by decide +kernel
theorem dX10_leave_1 : decode cX10_leave 1 = .ok (.lstore_n 3, 1) := by decide +kernel
theorem dX10_leave_2 : decode cX10_leave 2 = .ok (.lload_n 3, 1) := by decide +kernel
theorem dX10_leave_3 : decode cX10_leave 3 = .ok (.ldc2_w 278, 3) := by decide +kernel
theorem dX10_leave_6 : decode cX10_leave 6 = .ok (.lmul, 1) := by decide +kernel
theorem dX10_leave_7 : decode cX10_leave 7 = .ok (.lload_n 1, 1) := by decide +kernel
theorem dX10_leave_8 : decode cX10_leave 8 = .ok (.lcmp, 1) := by decide +kernel
theorem dX10_leave_9 : decode cX10_leave 9 = .ok (.ifCond .gt 12, 3) := by decide +kernel
theorem dX10_leave_12 : decode cX10_leave 12 = .ok (.lload_n 3, 1) := by decide +kernel
theorem dX10_leave_13 : decode cX10_leave 13 = .ok (.ldc2_w 278, 3) := by decide +kernel
theorem dX10_leave_16 : decode cX10_leave 16 = .ok (.lmul, 1) := by decide +kernel
theorem dX10_leave_17 : decode cX10_leave 17 = .ok (.lstore_n 3, 1) := by decide +kernel
theorem dX10_leave_18 : decode cX10_leave 18 = .ok (.goto (-16), 3) := by decide +kernel
theorem dX10_leave_21 : decode cX10_leave 21 = .ok (.lload_n 1, 1) := by decide +kernel
theorem dX10_leave_22 : decode cX10_leave 22 = .ok (.lstore 5, 2) := by decide +kernel
theorem dX10_leave_24 : decode cX10_leave 24 = .ok (.lload_n 3, 1) := by decide +kernel
theorem dX10_leave_25 : decode cX10_leave 25 = .ok (.lconst 0, 1) := by decide +kernel
theorem dX10_leave_26 : decode cX10_leave 26 = .ok (.lcmp, 1) := by decide +kernel
theorem dX10_leave_27 : decode cX10_leave 27 = .ok (.ifCond .le 42, 3) := by decide +kernel
theorem dX10_leave_30 : decode cX10_leave 30 = .ok (.aload_n 0, 1) := by decide +kernel
theorem dX10_leave_31 : decode cX10_leave 31 = .ok (.getfield 41, 3) := by decide +kernel
theorem dX10_leave_34 : decode cX10_leave 34 = .ok (.aload_n 0, 1) := by decide +kernel
theorem dX10_leave_35 : decode cX10_leave 35 = .ok (.getfield 280, 3) := by decide +kernel
theorem dX10_leave_38 : decode cX10_leave 38 = .ok (.lload 5, 2) := by decide +kernel
theorem dX10_leave_40 : decode cX10_leave 40 = .ok (.lload_n 3, 1) := by decide +kernel
theorem dX10_leave_41 : decode cX10_leave 41 = .ok (.ldiv, 1) := by decide +kernel
theorem dX10_leave_42 : decode cX10_leave 42 = .ok (.l2i, 1) := by decide +kernel
theorem dX10_leave_43 : decode cX10_leave 43 = .ok (.iastore, 1) := by decide +kernel
theorem dX10_leave_44 : decode cX10_leave 44 = .ok (.lload 5, 2) := by decide +kernel
theorem dX10_leave_46 : decode cX10_leave 46 = .ok (.lload_n 3, 1) := by decide +kernel
theorem dX10_leave_47 : decode cX10_leave 47 = .ok (.lrem, 1) := by decide +kernel
theorem dX10_leave_48 : decode cX10_leave 48 = .ok (.lstore 5, 2) := by decide +kernel
theorem dX10_leave_50 : decode cX10_leave 50 = .ok (.aload_n 0, 1) := by decide +kernel
theorem dX10_leave_51 : decode cX10_leave 51 = .ok (.dup, 1) := by decide +kernel
theorem dX10_leave_52 : decode cX10_leave 52 = .ok (.getfield 280, 3) := by decide +kernel
theorem dX10_leave_55 : decode cX10_leave 55 = .ok (.iconst 1, 1) := by decide +kernel
theorem dX10_leave_56 : decode cX10_leave 56 = .ok (.iadd, 1) := by decide +kernel
theorem dX10_leave_57 : decode cX10_leave 57 = .ok (.putfield 280, 3) := by decide +kernel
theorem dX10_leave_60 : decode cX10_leave 60 = .ok (.lload_n 3, 1) := by decide +kernel
theorem dX10_leave_61 : decode cX10_leave 61 = .ok (.ldc2_w 278, 3) := by decide +kernel
theorem dX10_leave_64 : decode cX10_leave 64 = .ok (.ldiv, 1) := by decide +kernel
theorem dX10_leave_65 : decode cX10_leave 65 = .ok (.lstore_n 3, 1) := by decide +kernel
theorem dX10_leave_66 : decode cX10_leave 66 = .ok (.goto (-42), 3) := by decide +kernel
theorem dX10_leave_69 : decode cX10_leave 69 = .ok (.return_, 1) := by decide +kernel
theorem dX10_mark_0 : decode cX10_mark 0 = .ok (.aload_n 0, 1) := by decide +kernel
theorem dX10_mark_1 : decode cX10_mark 1 = .ok (.getfield 19, 3) := by decide +kernel
theorem dX10_mark_4 : decode cX10_mark 4 = .ok (.bipush 35, 2) := by decide +kernel
theorem dX10_mark_6 : decode cX10_mark 6 = .ok (.iload_n 1, 1) := by decide +kernel
theorem dX10_mark_7 : decode cX10_mark 7 = .ok (.iadd, 1) := by decide +kernel
theorem dX10_mark_8 : decode cX10_mark 8 = .ok (.iaload, 1) := by decide +kernel
theorem dX10_mark_9 : decode cX10_mark 9 = .ok (.istore_n 2, 1) := by decide +kernel
theorem dX10_mark_10 : decode cX10_mark 10 = .ok (.iload_n 1, 1) := by decide +kernel
theorem dX10_mark_11 : decode cX10_mark 11 = .ok (.aload_n 0, 1) := by decide +kernel
theorem dX10_mark_12 : decode cX10_mark 12 = .ok (.getfield 19, 3) := by decide +kernel
theorem dX10_mark_15 : decode cX10_mark 15 = .ok (.bipush 47, 2) := by decide +kernel
theorem dX10_mark_17 : decode cX10_mark 17 = .ok (.iload_n 1, 1) := by decide +kernel
theorem dX10_mark_18 : decode cX10_mark 18 = .ok (.iadd, 1) := by decide +kernel
theorem dX10_mark_19 : decode cX10_mark 19 = .ok (.iaload, 1) := by decide +kernel
theorem dX10_mark_20 : decode cX10_mark 20 = .ok (.iadd, 1) := by decide +kernel
theorem dX10_mark_21 : decode cX10_mark 21 = .ok (.istore_n 3, 1) := by decide +kernel
theorem dX10_mark_22 : decode cX10_mark 22 = .ok (.aload_n 0, 1) := by decide +kernel
theorem dX10_mark_23 : decode cX10_mark 23 = .ok (.iload_n 2, 1) := by decide +kernel
theorem dX10_mark_24 : decode cX10_mark 24 = .ok (.iconst 2, 1) := by decide +kernel
theorem dX10_mark_25 : decode cX10_mark 25 = .ok (.if_icmp .ne 9, 3) := by decide +kernel
theorem dX10_mark_28 : decode cX10_mark 28 = .ok (.ldc2_w 283, 3) := by decide +kernel
theorem dX10_mark_31 : decode cX10_mark 31 = .ok (.goto 17, 3) := by decide +kernel
theorem dX10_mark_34 : decode cX10_mark 34 = .ok (.iload_n 2, 1) := by decide +kernel
theorem dX10_mark_35 : decode cX10_mark 35 = .ok (.iconst 3, 1) := by decide +kernel
theorem dX10_mark_36 : decode cX10_mark 36 = .ok (.if_icmp .ne 9, 3) := by decide +kernel
theorem dX10_mark_39 : decode cX10_mark 39 = .ok (.ldc2_w 285, 3) := by decide +kernel
theorem dX10_mark_42 : decode cX10_mark 42 = .ok (.goto 6, 3) := by decide +kernel
theorem dX10_mark_45 : decode cX10_mark 45 = .ok (.ldc2_w 287, 3) := by decide +kernel
theorem dX10_mark_48 : decode cX10_mark 48 = .ok (.invokevirtual 289, 3) := by decide +kernel
theorem dX10_mark_51 : decode cX10_mark 51 = .ok (.iload_n 2, 1) := by decide +kernel
theorem dX10_mark_52 : decode cX10_mark 52 = .ok (.iconst 2, 1) := by decide +kernel
theorem dX10_mark_53 : decode cX10_mark 53 = .ok (.if_icmp .ne 9, 3) := by decide +kernel
theorem dX10_mark_56 : decode cX10_mark 56 = .ok (.iconst 2, 1) := by decide +kernel
theorem dX10_mark_57 : decode cX10_mark 57 = .ok (.iload_n 3, 1) := by decide +kernel
theorem dX10_mark_58 : decode cX10_mark 58 = .ok (.imul, 1) := by decide +kernel
theorem dX10_mark_59 : decode cX10_mark 59 = .ok (.goto 17, 3) := by decide +kernel
theorem dX10_mark_62 : decode cX10_mark 62 = .ok (.iload_n 2, 1) := by decide +kernel
theorem dX10_mark_63 : decode cX10_mark 63 = .ok (.iconst 3, 1) := by decide +kernel
theorem dX10_mark_64 : decode cX10_mark 64 = .ok (.if_icmp .ne 11, 3) := by decide +kernel
theorem dX10_mark_67 : decode cX10_mark 67 = .ok (.iload_n 3, 1) := by decide +kernel
theorem dX10_mark_68 : decode cX10_mark 68 = .ok (.sipush 1000, 3) := by decide +kernel
theorem dX10_mark_71 : decode cX10_mark 71 = .ok (.isub, 1) := by decide +kernel
theorem dX10_mark_72 : decode cX10_mark 72 = .ok (.goto 4, 3) := by decide +kernel
theorem dX10_mark_75 : decode cX10_mark 75 = .ok (.iload_n 3, 1) := by decide +kernel
theorem dX10_mark_76 : decode cX10_mark 76 = .ok (.ireturn, 1) := by decide +kernel
theorem dX10_sizeOf_0 : decode cX10_sizeOf 0 = .ok (.aload_n 0, 1) := by decide +kernel
theorem dX10_sizeOf_1 : decode cX10_sizeOf 1 = .ok (.getfield 19, 3) := by decide +kernel
theorem dX10_sizeOf_4 : decode cX10_sizeOf 4 = .ok (.bipush 41, 2) := by decide +kernel
theorem dX10_sizeOf_6 : decode cX10_sizeOf 6 = .ok (.iload_n 1, 1) := by decide +kernel
theorem dX10_sizeOf_7 : decode cX10_sizeOf 7 = .ok (.iadd, 1) := by decide +kernel
theorem dX10_sizeOf_8 : decode cX10_sizeOf 8 = .ok (.iaload, 1) := by decide +kernel
theorem dX10_sizeOf_9 : decode cX10_sizeOf 9 = .ok (.bipush 100, 2) := by decide +kernel
theorem dX10_sizeOf_11 : decode cX10_sizeOf 11 = .ok (.isub, 1) := by decide +kernel
theorem dX10_sizeOf_12 : decode cX10_sizeOf 12 = .ok (.istore_n 2, 1) := by decide +kernel
theorem dX10_sizeOf_13 : decode cX10_sizeOf 13 = .ok (.aload_n 0, 1) := by decide +kernel
theorem dX10_sizeOf_14 : decode cX10_sizeOf 14 = .ok (.getfield 19, 3) := by decide +kernel
theorem dX10_sizeOf_17 : decode cX10_sizeOf 17 = .ok (.bipush 35, 2) := by decide +kernel
theorem dX10_sizeOf_19 : decode cX10_sizeOf 19 = .ok (.iload_n 1, 1) := by decide +kernel
theorem dX10_sizeOf_20 : decode cX10_sizeOf 20 = .ok (.iadd, 1) := by decide +kernel
theorem dX10_sizeOf_21 : decode cX10_sizeOf 21 = .ok (.iaload, 1) := by decide +kernel
theorem dX10_sizeOf_22 : decode cX10_sizeOf 22 = .ok (.iconst 5, 1) := by decide +kernel
theorem dX10_sizeOf_23 : decode cX10_sizeOf 23 = .ok (.if_icmp .ne 7, 3) := by decide +kernel
theorem dX10_sizeOf_26 : decode cX10_sizeOf 26 = .ok (.iconst 1, 1) := by decide +kernel
theorem dX10_sizeOf_27 : decode cX10_sizeOf 27 = .ok (.goto 4, 3) := by decide +kernel
theorem dX10_sizeOf_30 : decode cX10_sizeOf 30 = .ok (.iconst 0, 1) := by decide +kernel
theorem dX10_sizeOf_31 : decode cX10_sizeOf 31 = .ok (.istore_n 3, 1) := by decide +kernel
theorem dX10_sizeOf_32 : decode cX10_sizeOf 32 = .ok (.aload_n 0, 1) := by decide +kernel
theorem dX10_sizeOf_33 : decode cX10_sizeOf 33 = .ok (.iload_n 3, 1) := by decide +kernel
theorem dX10_sizeOf_34 : decode cX10_sizeOf 34 = .ok (.ifCond .eq 9, 3) := by decide +kernel
theorem dX10_sizeOf_37 : decode cX10_sizeOf 37 = .ok (.ldc2_w 293, 3) := by decide +kernel
theorem dX10_sizeOf_40 : decode cX10_sizeOf 40 = .ok (.goto 6, 3) := by decide +kernel
theorem dX10_sizeOf_43 : decode cX10_sizeOf 43 = .ok (.ldc2_w 295, 3) := by decide +kernel
theorem dX10_sizeOf_46 : decode cX10_sizeOf 46 = .ok (.invokevirtual 289, 3) := by decide +kernel
theorem dX10_sizeOf_49 : decode cX10_sizeOf 49 = .ok (.iload_n 3, 1) := by decide +kernel
theorem dX10_sizeOf_50 : decode cX10_sizeOf 50 = .ok (.ifCond .eq 9, 3) := by decide +kernel
theorem dX10_sizeOf_53 : decode cX10_sizeOf 53 = .ok (.iconst 2, 1) := by decide +kernel
theorem dX10_sizeOf_54 : decode cX10_sizeOf 54 = .ok (.iload_n 2, 1) := by decide +kernel
theorem dX10_sizeOf_55 : decode cX10_sizeOf 55 = .ok (.imul, 1) := by decide +kernel
theorem dX10_sizeOf_56 : decode cX10_sizeOf 56 = .ok (.goto 4, 3) := by decide +kernel
theorem dX10_sizeOf_59 : decode cX10_sizeOf 59 = .ok (.iload_n 2, 1) := by decide +kernel
theorem dX10_sizeOf_60 : decode cX10_sizeOf 60 = .ok (.ireturn, 1) := by decide +kernel
theorem dX10_ask_0 : decode cX10_ask 0 = .ok (.aload_n 0, 1) := by decide +kernel
theorem dX10_ask_1 : decode cX10_ask 1 = .ok (.iload_n 1, 1) := by decide +kernel
theorem dX10_ask_2 : decode cX10_ask 2 = .ok (.invokevirtual 188, 3) := by decide +kernel
theorem dX10_ask_5 : decode cX10_ask 5 = .ok (.ifCond .eq 10, 3) := by decide +kernel
theorem dX10_ask_8 : decode cX10_ask 8 = .ok (.iload_n 2, 1) := by decide +kernel
theorem dX10_ask_9 : decode cX10_ask 9 = .ok (.invokestatic 209, 3) := by decide +kernel
theorem dX10_ask_12 : decode cX10_ask 12 = .ok (.ifCond .ne 6, 3) := by decide +kernel
theorem dX10_ask_15 : decode cX10_ask 15 = .ok (.ldc 70, 2) := by decide +kernel
theorem dX10_ask_17 : decode cX10_ask 17 = .ok (.ireturn, 1) := by decide +kernel
theorem dX10_ask_18 : decode cX10_ask 18 = .ok (.aload_n 0, 1) := by decide +kernel
theorem dX10_ask_19 : decode cX10_ask 19 = .ok (.iconst 0, 1) := by decide +kernel
theorem dX10_ask_20 : decode cX10_ask 20 = .ok (.putfield 280, 3) := by decide +kernel
theorem dX10_ask_23 : decode cX10_ask 23 = .ok (.aload_n 0, 1) := by decide +kernel
theorem dX10_ask_24 : decode cX10_ask 24 = .ok (.getfield 19, 3) := by decide +kernel
theorem dX10_ask_27 : decode cX10_ask 27 = .ok (.bipush 35, 2) := by decide +kernel
theorem dX10_ask_29 : decode cX10_ask 29 = .ok (.iload_n 1, 1) := by decide +kernel
theorem dX10_ask_30 : decode cX10_ask 30 = .ok (.iadd, 1) := by decide +kernel
theorem dX10_ask_31 : decode cX10_ask 31 = .ok (.iaload, 1) := by decide +kernel
theorem dX10_ask_32 : decode cX10_ask 32 = .ok (.istore_n 3, 1) := by decide +kernel
theorem dX10_ask_33 : decode cX10_ask 33 = .ok (.iload_n 3, 1) := by decide +kernel
theorem dX10_ask_34 : decode cX10_ask 34 = .ok (.iconst 4, 1) := by decide +kernel
theorem dX10_ask_35 : decode cX10_ask 35 = .ok (.if_icmp .ge 63, 3) := by decide +kernel
theorem dX10_ask_38 : decode cX10_ask 38 = .ok (.iload_n 2, 1) := by decide +kernel
theorem dX10_ask_39 : decode cX10_ask 39 = .ok (.iconst 1, 1) := by decide +kernel
theorem dX10_ask_40 : decode cX10_ask 40 = .ok (.if_icmp .ne 9, 3) := by decide +kernel
theorem dX10_ask_43 : decode cX10_ask 43 = .ok (.aload_n 0, 1) := by decide +kernel
theorem dX10_ask_44 : decode cX10_ask 44 = .ok (.iload_n 1, 1) := by decide +kernel
theorem dX10_ask_45 : decode cX10_ask 45 = .ok (.invokevirtual 297, 3) := by decide +kernel
theorem dX10_ask_48 : decode cX10_ask 48 = .ok (.ireturn, 1) := by decide +kernel
theorem dX10_ask_49 : decode cX10_ask 49 = .ok (.aload_n 0, 1) := by decide +kernel
theorem dX10_ask_50 : decode cX10_ask 50 = .ok (.iload_n 3, 1) := by decide +kernel
theorem dX10_ask_51 : decode cX10_ask 51 = .ok (.iconst 2, 1) := by decide +kernel
theorem dX10_ask_52 : decode cX10_ask 52 = .ok (.if_icmp .ne 9, 3) := by decide +kernel
theorem dX10_ask_55 : decode cX10_ask 55 = .ok (.ldc2_w 300, 3) := by decide +kernel
theorem dX10_ask_58 : decode cX10_ask 58 = .ok (.goto 6, 3) := by decide +kernel
theorem dX10_ask_61 : decode cX10_ask 61 = .ok (.ldc2_w 302, 3) := by decide +kernel
theorem dX10_ask_64 : decode cX10_ask 64 = .ok (.invokevirtual 289, 3) := by decide +kernel
theorem dX10_ask_67 : decode cX10_ask 67 = .ok (.aload_n 0, 1) := by decide +kernel
theorem dX10_ask_68 : decode cX10_ask 68 = .ok (.getfield 19, 3) := by decide +kernel
theorem dX10_ask_71 : decode cX10_ask 71 = .ok (.bipush 41, 2) := by decide +kernel
theorem dX10_ask_73 : decode cX10_ask 73 = .ok (.iload_n 1, 1) := by decide +kernel
theorem dX10_ask_74 : decode cX10_ask 74 = .ok (.iadd, 1) := by decide +kernel
theorem dX10_ask_75 : decode cX10_ask 75 = .ok (.iaload, 1) := by decide +kernel
theorem dX10_ask_76 : decode cX10_ask 76 = .ok (.aload_n 0, 1) := by decide +kernel
theorem dX10_ask_77 : decode cX10_ask 77 = .ok (.iload_n 1, 1) := by decide +kernel
theorem dX10_ask_78 : decode cX10_ask 78 = .ok (.invokevirtual 297, 3) := by decide +kernel
theorem dX10_ask_81 : decode cX10_ask 81 = .ok (.iadd, 1) := by decide +kernel
theorem dX10_ask_82 : decode cX10_ask 82 = .ok (.istore 4, 2) := by decide +kernel
theorem dX10_ask_84 : decode cX10_ask 84 = .ok (.iload_n 3, 1) := by decide +kernel
theorem dX10_ask_85 : decode cX10_ask 85 = .ok (.iconst 2, 1) := by decide +kernel
theorem dX10_ask_86 : decode cX10_ask 86 = .ok (.if_icmp .ne 9, 3) := by decide +kernel
theorem dX10_ask_89 : decode cX10_ask 89 = .ok (.iload 4, 2) := by decide +kernel
theorem dX10_ask_91 : decode cX10_ask 91 = .ok (.ineg, 1) := by decide +kernel
theorem dX10_ask_92 : decode cX10_ask 92 = .ok (.goto 5, 3) := by decide +kernel
theorem dX10_ask_95 : decode cX10_ask 95 = .ok (.iload 4, 2) := by decide +kernel
theorem dX10_ask_97 : decode cX10_ask 97 = .ok (.ireturn, 1) := by decide +kernel
theorem dX10_ask_98 : decode cX10_ask 98 = .ok (.iload_n 2, 1) := by decide +kernel
theorem dX10_ask_99 : decode cX10_ask 99 = .ok (.ifCond .ne 9, 3) := by decide +kernel
theorem dX10_ask_102 : decode cX10_ask 102 = .ok (.aload_n 0, 1) := by decide +kernel
theorem dX10_ask_103 : decode cX10_ask 103 = .ok (.iload_n 1, 1) := by decide +kernel
theorem dX10_ask_104 : decode cX10_ask 104 = .ok (.invokevirtual 304, 3) := by decide +kernel
theorem dX10_ask_107 : decode cX10_ask 107 = .ok (.ireturn, 1) := by decide +kernel
theorem dX10_ask_108 : decode cX10_ask 108 = .ok (.aload_n 0, 1) := by decide +kernel
theorem dX10_ask_109 : decode cX10_ask 109 = .ok (.ldc2_w 307, 3) := by decide +kernel
theorem dX10_ask_112 : decode cX10_ask 112 = .ok (.invokevirtual 289, 3) := by decide +kernel
theorem dX10_ask_115 : decode cX10_ask 115 = .ok (.iload_n 1, 1) := by decide +kernel
theorem dX10_ask_116 : decode cX10_ask 116 = .ok (.aload_n 0, 1) := by decide +kernel
theorem dX10_ask_117 : decode cX10_ask 117 = .ok (.iload_n 1, 1) := by decide +kernel
theorem dX10_ask_118 : decode cX10_ask 118 = .ok (.invokevirtual 304, 3) := by decide +kernel
theorem dX10_ask_121 : decode cX10_ask 121 = .ok (.isub, 1) := by decide +kernel
theorem dX10_ask_122 : decode cX10_ask 122 = .ok (.ireturn, 1) := by decide +kernel
theorem dX10_trace_0 : decode cX10_trace 0 = .ok (.iload_n 1, 1) := by decide +kernel
theorem dX10_trace_1 : decode cX10_trace 1 = .ok (.i2l, 1) := by decide +kernel
theorem dX10_trace_2 : decode cX10_trace 2 = .ok (.lconst 0, 1) := by decide +kernel
theorem dX10_trace_3 : decode cX10_trace 3 = .ok (.aload_n 0, 1) := by decide +kernel
theorem dX10_trace_4 : decode cX10_trace 4 = .ok (.getfield 280, 3) := by decide +kernel
theorem dX10_trace_7 : decode cX10_trace 7 = .ok (.iconst 1, 1) := by decide +kernel
theorem dX10_trace_8 : decode cX10_trace 8 = .ok (.isub, 1) := by decide +kernel
theorem dX10_trace_9 : decode cX10_trace 9 = .ok (.i2l, 1) := by decide +kernel
theorem dX10_trace_10 : decode cX10_trace 10 = .ok (.invokestatic 53, 3) := by decide +kernel
theorem dX10_trace_13 : decode cX10_trace 13 = .ok (.ifCond .eq 12, 3) := by decide +kernel
theorem dX10_trace_16 : decode cX10_trace 16 = .ok (.aload_n 0, 1) := by decide +kernel
theorem dX10_trace_17 : decode cX10_trace 17 = .ok (.getfield 41, 3) := by decide +kernel
theorem dX10_trace_20 : decode cX10_trace 20 = .ok (.iload_n 1, 1) := by decide +kernel
theorem dX10_trace_21 : decode cX10_trace 21 = .ok (.iaload, 1) := by decide +kernel
theorem dX10_trace_22 : decode cX10_trace 22 = .ok (.goto 5, 3) := by decide +kernel
theorem dX10_trace_25 : decode cX10_trace 25 = .ok (.ldc 216, 2) := by decide +kernel
theorem dX10_trace_27 : decode cX10_trace 27 = .ok (.ireturn, 1) := by decide +kernel
theorem dX10_count_0 : decode cX10_count 0 = .ok (.iconst 0, 1) := by decide +kernel
theorem dX10_count_1 : decode cX10_count 1 = .ok (.istore_n 2, 1) := by decide +kernel
theorem dX10_count_2 : decode cX10_count 2 = .ok (.iconst 0, 1) := by decide +kernel
theorem dX10_count_3 : decode cX10_count 3 = .ok (.istore_n 3, 1) := by decide +kernel
theorem dX10_count_4 : decode cX10_count 4 = .ok (.iconst 0, 1) := by decide +kernel
theorem dX10_count_5 : decode cX10_count 5 = .ok (.istore 4, 2) := by decide +kernel
theorem dX10_count_7 : decode cX10_count 7 = .ok (.iload 4, 2) := by decide +kernel
theorem dX10_count_9 : decode cX10_count 9 = .ok (.bipush 8, 2) := by decide +kernel
theorem dX10_count_11 : decode cX10_count 11 = .ok (.if_icmp .ge 27, 3) := by decide +kernel
theorem dX10_count_14 : decode cX10_count 14 = .ok (.iload_n 2, 1) := by decide +kernel
theorem dX10_count_15 : decode cX10_count 15 = .ok (.aload_n 0, 1) := by decide +kernel
theorem dX10_count_16 : decode cX10_count 16 = .ok (.getfield 13, 3) := by decide +kernel
theorem dX10_count_19 : decode cX10_count 19 = .ok (.iload 4, 2) := by decide +kernel
theorem dX10_count_21 : decode cX10_count 21 = .ok (.iaload, 1) := by decide +kernel
theorem dX10_count_22 : decode cX10_count 22 = .ok (.ifCond .ge 7, 3) := by decide +kernel
theorem dX10_count_25 : decode cX10_count 25 = .ok (.iconst 0, 1) := by decide +kernel
theorem dX10_count_26 : decode cX10_count 26 = .ok (.goto 4, 3) := by decide +kernel
theorem dX10_count_29 : decode cX10_count 29 = .ok (.iconst 1, 1) := by decide +kernel
theorem dX10_count_30 : decode cX10_count 30 = .ok (.iadd, 1) := by decide +kernel
theorem dX10_count_31 : decode cX10_count 31 = .ok (.istore_n 2, 1) := by decide +kernel
theorem dX10_count_32 : decode cX10_count 32 = .ok (.iinc 4 1, 3) := by decide +kernel
theorem dX10_count_35 : decode cX10_count 35 = .ok (.goto (-28), 3) := by decide +kernel
theorem dX10_count_38 : decode cX10_count 38 = .ok (.iconst 0, 1) := by decide +kernel
theorem dX10_count_39 : decode cX10_count 39 = .ok (.istore 4, 2) := by decide +kernel
theorem dX10_count_41 : decode cX10_count 41 = .ok (.iload 4, 2) := by decide +kernel
theorem dX10_count_43 : decode cX10_count 43 = .ok (.bipush 10, 2) := by decide +kernel
theorem dX10_count_45 : decode cX10_count 45 = .ok (.if_icmp .ge 22, 3) := by decide +kernel
theorem dX10_count_48 : decode cX10_count 48 = .ok (.iload_n 3, 1) := by decide +kernel
theorem dX10_count_49 : decode cX10_count 49 = .ok (.aload_n 0, 1) := by decide +kernel
theorem dX10_count_50 : decode cX10_count 50 = .ok (.getfield 19, 3) := by decide +kernel
theorem dX10_count_53 : decode cX10_count 53 = .ok (.bipush 15, 2) := by decide +kernel
theorem dX10_count_55 : decode cX10_count 55 = .ok (.iload 4, 2) := by decide +kernel
theorem dX10_count_57 : decode cX10_count 57 = .ok (.iadd, 1) := by decide +kernel
theorem dX10_count_58 : decode cX10_count 58 = .ok (.iaload, 1) := by decide +kernel
theorem dX10_count_59 : decode cX10_count 59 = .ok (.iadd, 1) := by decide +kernel
theorem dX10_count_60 : decode cX10_count 60 = .ok (.istore_n 3, 1) := by decide +kernel
theorem dX10_count_61 : decode cX10_count 61 = .ok (.iinc 4 1, 3) := by decide +kernel
theorem dX10_count_64 : decode cX10_count 64 = .ok (.goto (-23), 3) := by decide +kernel
theorem dX10_count_67 : decode cX10_count 67 = .ok (.iload_n 1, 1) := by decide +kernel
theorem dX10_count_68 : decode cX10_count 68 = .ok (.tableswitch 107 0 8 #[52, 54, 61, 68, 75, 77, 85, 97, 102], 52) := by decide +kernel
theorem dX10_count_120 : decode cX10_count 120 = .ok (.iload_n 2, 1) := by decide +kernel
theorem dX10_count_121 : decode cX10_count 121 = .ok (.ireturn, 1) := by decide +kernel
theorem dX10_count_122 : decode cX10_count 122 = .ok (.aload_n 0, 1) := by decide +kernel
theorem dX10_count_123 : decode cX10_count 123 = .ok (.getfield 19, 3) := by decide +kernel
theorem dX10_count_126 : decode cX10_count 126 = .ok (.iconst 1, 1) := by decide +kernel
theorem dX10_count_127 : decode cX10_count 127 = .ok (.iaload, 1) := by decide +kernel
theorem dX10_count_128 : decode cX10_count 128 = .ok (.ireturn, 1) := by decide +kernel
theorem dX10_count_129 : decode cX10_count 129 = .ok (.aload_n 0, 1) := by decide +kernel
theorem dX10_count_130 : decode cX10_count 130 = .ok (.getfield 19, 3) := by decide +kernel
theorem dX10_count_133 : decode cX10_count 133 = .ok (.iconst 0, 1) := by decide +kernel
theorem dX10_count_134 : decode cX10_count 134 = .ok (.iaload, 1) := by decide +kernel
theorem dX10_count_135 : decode cX10_count 135 = .ok (.ireturn, 1) := by decide +kernel
theorem dX10_count_136 : decode cX10_count 136 = .ok (.aload_n 0, 1) := by decide +kernel
theorem dX10_count_137 : decode cX10_count 137 = .ok (.getfield 19, 3) := by decide +kernel
theorem dX10_count_140 : decode cX10_count 140 = .ok (.iconst 4, 1) := by decide +kernel
theorem dX10_count_141 : decode cX10_count 141 = .ok (.iaload, 1) := by decide +kernel
theorem dX10_count_142 : decode cX10_count 142 = .ok (.ireturn, 1) := by decide +kernel
theorem dX10_count_143 : decode cX10_count 143 = .ok (.iload_n 3, 1) := by decide +kernel
theorem dX10_count_144 : decode cX10_count 144 = .ok (.ireturn, 1) := by decide +kernel
theorem dX10_count_145 : decode cX10_count 145 = .ok (.aload_n 0, 1) := by decide +kernel
theorem dX10_count_146 : decode cX10_count 146 = .ok (.getfield 19, 3) := by decide +kernel
theorem dX10_count_149 : decode cX10_count 149 = .ok (.invokestatic 220, 3) := by decide +kernel
theorem dX10_count_152 : decode cX10_count 152 = .ok (.ireturn, 1) := by decide +kernel
theorem dX10_count_153 : decode cX10_count 153 = .ok (.aload_n 0, 1) := by decide +kernel
theorem dX10_count_154 : decode cX10_count 154 = .ok (.getfield 19, 3) := by decide +kernel
theorem dX10_count_157 : decode cX10_count 157 = .ok (.iconst 1, 1) := by decide +kernel
theorem dX10_count_158 : decode cX10_count 158 = .ok (.invokestatic 168, 3) := by decide +kernel
theorem dX10_count_161 : decode cX10_count 161 = .ok (.invokestatic 171, 3) := by decide +kernel
theorem dX10_count_164 : decode cX10_count 164 = .ok (.ireturn, 1) := by decide +kernel
theorem dX10_count_165 : decode cX10_count 165 = .ok (.aload_n 0, 1) := by decide +kernel
theorem dX10_count_166 : decode cX10_count 166 = .ok (.getfield 142, 3) := by decide +kernel
theorem dX10_count_169 : decode cX10_count 169 = .ok (.ireturn, 1) := by decide +kernel
theorem dX10_count_170 : decode cX10_count 170 = .ok (.aload_n 0, 1) := by decide +kernel
theorem dX10_count_171 : decode cX10_count 171 = .ok (.getfield 80, 3) := by decide +kernel
theorem dX10_count_174 : decode cX10_count 174 = .ok (.ireturn, 1) := by decide +kernel
theorem dX10_count_175 : decode cX10_count 175 = .ok (.ldc 70, 2) := by decide +kernel
theorem dX10_count_177 : decode cX10_count 177 = .ok (.ireturn, 1) := by decide +kernel
theorem dX10_status_0 : decode cX10_status 0 = .ok (.aload_n 0, 1) := by decide +kernel
theorem dX10_status_1 : decode cX10_status 1 = .ok (.getfield 57, 3) := by decide +kernel
theorem dX10_status_4 : decode cX10_status 4 = .ok (.ireturn, 1) := by decide +kernel
theorem dJ6_numberOfTrailingZeros_0f7a4_0 : decode cJ6_numberOfTrailingZeros_0f7a4 0 = .ok (.iload_n 0, 1) := by decide +kernel
theorem dJ6_numberOfTrailingZeros_0f7a4_1 : decode cJ6_numberOfTrailingZeros_0f7a4 1 = .ok (.iconst (-1), 1) := by decide +kernel
theorem dJ6_numberOfTrailingZeros_0f7a4_2 : decode cJ6_numberOfTrailingZeros_0f7a4 2 = .ok (.ixor, 1) := by decide +kernel
theorem dJ6_numberOfTrailingZeros_0f7a4_3 : decode cJ6_numberOfTrailingZeros_0f7a4 3 = .ok (.iload_n 0, 1) := by decide +kernel
theorem dJ6_numberOfTrailingZeros_0f7a4_4 : decode cJ6_numberOfTrailingZeros_0f7a4 4 = .ok (.iconst 1, 1) := by decide +kernel
theorem dJ6_numberOfTrailingZeros_0f7a4_5 : decode cJ6_numberOfTrailingZeros_0f7a4 5 = .ok (.isub, 1) := by decide +kernel
theorem dJ6_numberOfTrailingZeros_0f7a4_6 : decode cJ6_numberOfTrailingZeros_0f7a4 6 = .ok (.iand, 1) := by decide +kernel
theorem dJ6_numberOfTrailingZeros_0f7a4_7 : decode cJ6_numberOfTrailingZeros_0f7a4 7 = .ok (.istore_n 0, 1) := by decide +kernel
theorem dJ6_numberOfTrailingZeros_0f7a4_8 : decode cJ6_numberOfTrailingZeros_0f7a4 8 = .ok (.iload_n 0, 1) := by decide +kernel
theorem dJ6_numberOfTrailingZeros_0f7a4_9 : decode cJ6_numberOfTrailingZeros_0f7a4 9 = .ok (.ifCond .gt 8, 3) := by decide +kernel
theorem dJ6_numberOfTrailingZeros_0f7a4_12 : decode cJ6_numberOfTrailingZeros_0f7a4 12 = .ok (.iload_n 0, 1) := by decide +kernel
theorem dJ6_numberOfTrailingZeros_0f7a4_13 : decode cJ6_numberOfTrailingZeros_0f7a4 13 = .ok (.bipush 32, 2) := by decide +kernel
theorem dJ6_numberOfTrailingZeros_0f7a4_15 : decode cJ6_numberOfTrailingZeros_0f7a4 15 = .ok (.iand, 1) := by decide +kernel
theorem dJ6_numberOfTrailingZeros_0f7a4_16 : decode cJ6_numberOfTrailingZeros_0f7a4 16 = .ok (.ireturn, 1) := by decide +kernel
theorem dJ6_numberOfTrailingZeros_0f7a4_17 : decode cJ6_numberOfTrailingZeros_0f7a4 17 = .ok (.iconst 1, 1) := by decide +kernel
theorem dJ6_numberOfTrailingZeros_0f7a4_18 : decode cJ6_numberOfTrailingZeros_0f7a4 18 = .ok (.istore_n 1, 1) := by decide +kernel
theorem dJ6_numberOfTrailingZeros_0f7a4_19 : decode cJ6_numberOfTrailingZeros_0f7a4 19 = .ok (.iload_n 0, 1) := by decide +kernel
theorem dJ6_numberOfTrailingZeros_0f7a4_20 : decode cJ6_numberOfTrailingZeros_0f7a4 20 = .ok (.ldc_w 264, 3) := by decide +kernel
theorem dJ6_numberOfTrailingZeros_0f7a4_23 : decode cJ6_numberOfTrailingZeros_0f7a4 23 = .ok (.if_icmp .le 11, 3) := by decide +kernel
theorem dJ6_numberOfTrailingZeros_0f7a4_26 : decode cJ6_numberOfTrailingZeros_0f7a4 26 = .ok (.iinc 1 16, 3) := by decide +kernel
theorem dJ6_numberOfTrailingZeros_0f7a4_29 : decode cJ6_numberOfTrailingZeros_0f7a4 29 = .ok (.iload_n 0, 1) := by decide +kernel
theorem dJ6_numberOfTrailingZeros_0f7a4_30 : decode cJ6_numberOfTrailingZeros_0f7a4 30 = .ok (.bipush 16, 2) := by decide +kernel
theorem dJ6_numberOfTrailingZeros_0f7a4_32 : decode cJ6_numberOfTrailingZeros_0f7a4 32 = .ok (.iushr, 1) := by decide +kernel
theorem dJ6_numberOfTrailingZeros_0f7a4_33 : decode cJ6_numberOfTrailingZeros_0f7a4 33 = .ok (.istore_n 0, 1) := by decide +kernel
theorem dJ6_numberOfTrailingZeros_0f7a4_34 : decode cJ6_numberOfTrailingZeros_0f7a4 34 = .ok (.iload_n 0, 1) := by decide +kernel
theorem dJ6_numberOfTrailingZeros_0f7a4_35 : decode cJ6_numberOfTrailingZeros_0f7a4 35 = .ok (.sipush 256, 3) := by decide +kernel
theorem dJ6_numberOfTrailingZeros_0f7a4_38 : decode cJ6_numberOfTrailingZeros_0f7a4 38 = .ok (.if_icmp .le 11, 3) := by decide +kernel
theorem dJ6_numberOfTrailingZeros_0f7a4_41 : decode cJ6_numberOfTrailingZeros_0f7a4 41 = .ok (.iinc 1 8, 3) := by decide +kernel
theorem dJ6_numberOfTrailingZeros_0f7a4_44 : decode cJ6_numberOfTrailingZeros_0f7a4 44 = .ok (.iload_n 0, 1) := by decide +kernel
theorem dJ6_numberOfTrailingZeros_0f7a4_45 : decode cJ6_numberOfTrailingZeros_0f7a4 45 = .ok (.bipush 8, 2) := by decide +kernel
theorem dJ6_numberOfTrailingZeros_0f7a4_47 : decode cJ6_numberOfTrailingZeros_0f7a4 47 = .ok (.iushr, 1) := by decide +kernel
theorem dJ6_numberOfTrailingZeros_0f7a4_48 : decode cJ6_numberOfTrailingZeros_0f7a4 48 = .ok (.istore_n 0, 1) := by decide +kernel
theorem dJ6_numberOfTrailingZeros_0f7a4_49 : decode cJ6_numberOfTrailingZeros_0f7a4 49 = .ok (.iload_n 0, 1) := by decide +kernel
theorem dJ6_numberOfTrailingZeros_0f7a4_50 : decode cJ6_numberOfTrailingZeros_0f7a4 50 = .ok (.bipush 16, 2) := by decide +kernel
theorem dJ6_numberOfTrailingZeros_0f7a4_52 : decode cJ6_numberOfTrailingZeros_0f7a4 52 = .ok (.if_icmp .le 10, 3) := by decide +kernel
theorem dJ6_numberOfTrailingZeros_0f7a4_55 : decode cJ6_numberOfTrailingZeros_0f7a4 55 = .ok (.iinc 1 4, 3) := by decide +kernel
theorem dJ6_numberOfTrailingZeros_0f7a4_58 : decode cJ6_numberOfTrailingZeros_0f7a4 58 = .ok (.iload_n 0, 1) := by decide +kernel
theorem dJ6_numberOfTrailingZeros_0f7a4_59 : decode cJ6_numberOfTrailingZeros_0f7a4 59 = .ok (.iconst 4, 1) := by decide +kernel
theorem dJ6_numberOfTrailingZeros_0f7a4_60 : decode cJ6_numberOfTrailingZeros_0f7a4 60 = .ok (.iushr, 1) := by decide +kernel
theorem dJ6_numberOfTrailingZeros_0f7a4_61 : decode cJ6_numberOfTrailingZeros_0f7a4 61 = .ok (.istore_n 0, 1) := by decide +kernel
theorem dJ6_numberOfTrailingZeros_0f7a4_62 : decode cJ6_numberOfTrailingZeros_0f7a4 62 = .ok (.iload_n 0, 1) := by decide +kernel
theorem dJ6_numberOfTrailingZeros_0f7a4_63 : decode cJ6_numberOfTrailingZeros_0f7a4 63 = .ok (.iconst 4, 1) := by decide +kernel
theorem dJ6_numberOfTrailingZeros_0f7a4_64 : decode cJ6_numberOfTrailingZeros_0f7a4 64 = .ok (.if_icmp .le 10, 3) := by decide +kernel
theorem dJ6_numberOfTrailingZeros_0f7a4_67 : decode cJ6_numberOfTrailingZeros_0f7a4 67 = .ok (.iinc 1 2, 3) := by decide +kernel
theorem dJ6_numberOfTrailingZeros_0f7a4_70 : decode cJ6_numberOfTrailingZeros_0f7a4 70 = .ok (.iload_n 0, 1) := by decide +kernel
theorem dJ6_numberOfTrailingZeros_0f7a4_71 : decode cJ6_numberOfTrailingZeros_0f7a4 71 = .ok (.iconst 2, 1) := by decide +kernel
theorem dJ6_numberOfTrailingZeros_0f7a4_72 : decode cJ6_numberOfTrailingZeros_0f7a4 72 = .ok (.iushr, 1) := by decide +kernel
theorem dJ6_numberOfTrailingZeros_0f7a4_73 : decode cJ6_numberOfTrailingZeros_0f7a4 73 = .ok (.istore_n 0, 1) := by decide +kernel
theorem dJ6_numberOfTrailingZeros_0f7a4_74 : decode cJ6_numberOfTrailingZeros_0f7a4 74 = .ok (.iload_n 1, 1) := by decide +kernel
theorem dJ6_numberOfTrailingZeros_0f7a4_75 : decode cJ6_numberOfTrailingZeros_0f7a4 75 = .ok (.iload_n 0, 1) := by decide +kernel
theorem dJ6_numberOfTrailingZeros_0f7a4_76 : decode cJ6_numberOfTrailingZeros_0f7a4 76 = .ok (.iconst 1, 1) := by decide +kernel
theorem dJ6_numberOfTrailingZeros_0f7a4_77 : decode cJ6_numberOfTrailingZeros_0f7a4 77 = .ok (.iushr, 1) := by decide +kernel
theorem dJ6_numberOfTrailingZeros_0f7a4_78 : decode cJ6_numberOfTrailingZeros_0f7a4 78 = .ok (.iadd, 1) := by decide +kernel
theorem dJ6_numberOfTrailingZeros_0f7a4_79 : decode cJ6_numberOfTrailingZeros_0f7a4 79 = .ok (.ireturn, 1) := by decide +kernel
theorem dJ6_bitCount_0f7a4_0 : decode cJ6_bitCount_0f7a4 0 = .ok (.iload_n 0, 1) := by decide +kernel
theorem dJ6_bitCount_0f7a4_1 : decode cJ6_bitCount_0f7a4 1 = .ok (.iload_n 0, 1) := by decide +kernel
theorem dJ6_bitCount_0f7a4_2 : decode cJ6_bitCount_0f7a4 2 = .ok (.iconst 1, 1) := by decide +kernel
theorem dJ6_bitCount_0f7a4_3 : decode cJ6_bitCount_0f7a4 3 = .ok (.iushr, 1) := by decide +kernel
theorem dJ6_bitCount_0f7a4_4 : decode cJ6_bitCount_0f7a4 4 = .ok (.ldc_w 265, 3) := by decide +kernel
theorem dJ6_bitCount_0f7a4_7 : decode cJ6_bitCount_0f7a4 7 = .ok (.iand, 1) := by decide +kernel
theorem dJ6_bitCount_0f7a4_8 : decode cJ6_bitCount_0f7a4 8 = .ok (.isub, 1) := by decide +kernel
theorem dJ6_bitCount_0f7a4_9 : decode cJ6_bitCount_0f7a4 9 = .ok (.istore_n 0, 1) := by decide +kernel
theorem dJ6_bitCount_0f7a4_10 : decode cJ6_bitCount_0f7a4 10 = .ok (.iload_n 0, 1) := by decide +kernel
theorem dJ6_bitCount_0f7a4_11 : decode cJ6_bitCount_0f7a4 11 = .ok (.ldc_w 266, 3) := by decide +kernel
theorem dJ6_bitCount_0f7a4_14 : decode cJ6_bitCount_0f7a4 14 = .ok (.iand, 1) := by decide +kernel
theorem dJ6_bitCount_0f7a4_15 : decode cJ6_bitCount_0f7a4 15 = .ok (.iload_n 0, 1) := by decide +kernel
theorem dJ6_bitCount_0f7a4_16 : decode cJ6_bitCount_0f7a4 16 = .ok (.iconst 2, 1) := by decide +kernel
theorem dJ6_bitCount_0f7a4_17 : decode cJ6_bitCount_0f7a4 17 = .ok (.iushr, 1) := by decide +kernel
theorem dJ6_bitCount_0f7a4_18 : decode cJ6_bitCount_0f7a4 18 = .ok (.ldc_w 266, 3) := by decide +kernel
theorem dJ6_bitCount_0f7a4_21 : decode cJ6_bitCount_0f7a4 21 = .ok (.iand, 1) := by decide +kernel
theorem dJ6_bitCount_0f7a4_22 : decode cJ6_bitCount_0f7a4 22 = .ok (.iadd, 1) := by decide +kernel
theorem dJ6_bitCount_0f7a4_23 : decode cJ6_bitCount_0f7a4 23 = .ok (.istore_n 0, 1) := by decide +kernel
theorem dJ6_bitCount_0f7a4_24 : decode cJ6_bitCount_0f7a4 24 = .ok (.iload_n 0, 1) := by decide +kernel
theorem dJ6_bitCount_0f7a4_25 : decode cJ6_bitCount_0f7a4 25 = .ok (.iload_n 0, 1) := by decide +kernel
theorem dJ6_bitCount_0f7a4_26 : decode cJ6_bitCount_0f7a4 26 = .ok (.iconst 4, 1) := by decide +kernel
theorem dJ6_bitCount_0f7a4_27 : decode cJ6_bitCount_0f7a4 27 = .ok (.iushr, 1) := by decide +kernel
theorem dJ6_bitCount_0f7a4_28 : decode cJ6_bitCount_0f7a4 28 = .ok (.iadd, 1) := by decide +kernel
theorem dJ6_bitCount_0f7a4_29 : decode cJ6_bitCount_0f7a4 29 = .ok (.ldc_w 267, 3) := by decide +kernel
theorem dJ6_bitCount_0f7a4_32 : decode cJ6_bitCount_0f7a4 32 = .ok (.iand, 1) := by decide +kernel
theorem dJ6_bitCount_0f7a4_33 : decode cJ6_bitCount_0f7a4 33 = .ok (.istore_n 0, 1) := by decide +kernel
theorem dJ6_bitCount_0f7a4_34 : decode cJ6_bitCount_0f7a4 34 = .ok (.iload_n 0, 1) := by decide +kernel
theorem dJ6_bitCount_0f7a4_35 : decode cJ6_bitCount_0f7a4 35 = .ok (.iload_n 0, 1) := by decide +kernel
theorem dJ6_bitCount_0f7a4_36 : decode cJ6_bitCount_0f7a4 36 = .ok (.bipush 8, 2) := by decide +kernel
theorem dJ6_bitCount_0f7a4_38 : decode cJ6_bitCount_0f7a4 38 = .ok (.iushr, 1) := by decide +kernel
theorem dJ6_bitCount_0f7a4_39 : decode cJ6_bitCount_0f7a4 39 = .ok (.iadd, 1) := by decide +kernel
theorem dJ6_bitCount_0f7a4_40 : decode cJ6_bitCount_0f7a4 40 = .ok (.istore_n 0, 1) := by decide +kernel
theorem dJ6_bitCount_0f7a4_41 : decode cJ6_bitCount_0f7a4 41 = .ok (.iload_n 0, 1) := by decide +kernel
theorem dJ6_bitCount_0f7a4_42 : decode cJ6_bitCount_0f7a4 42 = .ok (.iload_n 0, 1) := by decide +kernel
theorem dJ6_bitCount_0f7a4_43 : decode cJ6_bitCount_0f7a4 43 = .ok (.bipush 16, 2) := by decide +kernel
theorem dJ6_bitCount_0f7a4_45 : decode cJ6_bitCount_0f7a4 45 = .ok (.iushr, 1) := by decide +kernel
theorem dJ6_bitCount_0f7a4_46 : decode cJ6_bitCount_0f7a4 46 = .ok (.iadd, 1) := by decide +kernel
theorem dJ6_bitCount_0f7a4_47 : decode cJ6_bitCount_0f7a4 47 = .ok (.istore_n 0, 1) := by decide +kernel
theorem dJ6_bitCount_0f7a4_48 : decode cJ6_bitCount_0f7a4 48 = .ok (.iload_n 0, 1) := by decide +kernel
theorem dJ6_bitCount_0f7a4_49 : decode cJ6_bitCount_0f7a4 49 = .ok (.bipush 63, 2) := by decide +kernel
theorem dJ6_bitCount_0f7a4_51 : decode cJ6_bitCount_0f7a4 51 = .ok (.iand, 1) := by decide +kernel
theorem dJ6_bitCount_0f7a4_52 : decode cJ6_bitCount_0f7a4 52 = .ok (.ireturn, 1) := by decide +kernel
theorem dJ9_max_7cf53_0 : decode cJ9_max_7cf53 0 = .ok (.iload_n 0, 1) := by decide +kernel
theorem dJ9_max_7cf53_1 : decode cJ9_max_7cf53 1 = .ok (.iload_n 1, 1) := by decide +kernel
theorem dJ9_max_7cf53_2 : decode cJ9_max_7cf53 2 = .ok (.if_icmp .lt 7, 3) := by decide +kernel
theorem dJ9_max_7cf53_5 : decode cJ9_max_7cf53 5 = .ok (.iload_n 0, 1) := by decide +kernel
theorem dJ9_max_7cf53_6 : decode cJ9_max_7cf53 6 = .ok (.goto 4, 3) := by decide +kernel
theorem dJ9_max_7cf53_9 : decode cJ9_max_7cf53 9 = .ok (.iload_n 1, 1) := by decide +kernel
theorem dJ9_max_7cf53_10 : decode cJ9_max_7cf53 10 = .ok (.ireturn, 1) := by decide +kernel
theorem dJ9_min_7cf53_0 : decode cJ9_min_7cf53 0 = .ok (.iload_n 0, 1) := by decide +kernel
theorem dJ9_min_7cf53_1 : decode cJ9_min_7cf53 1 = .ok (.iload_n 1, 1) := by decide +kernel
theorem dJ9_min_7cf53_2 : decode cJ9_min_7cf53 2 = .ok (.if_icmp .gt 7, 3) := by decide +kernel
theorem dJ9_min_7cf53_5 : decode cJ9_min_7cf53 5 = .ok (.iload_n 0, 1) := by decide +kernel
theorem dJ9_min_7cf53_6 : decode cJ9_min_7cf53 6 = .ok (.goto 4, 3) := by decide +kernel
theorem dJ9_min_7cf53_9 : decode cJ9_min_7cf53 9 = .ok (.iload_n 1, 1) := by decide +kernel
theorem dJ9_min_7cf53_10 : decode cJ9_min_7cf53 10 = .ok (.ireturn, 1) := by decide +kernel
