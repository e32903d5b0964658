theorem dX0_init_0 : decode cX0_init 0 = .ok (.aload_n 0, 1) := by decide +kernel
theorem dX0_init_1 : decode cX0_init 1 = .ok (.invokespecial 3, 3) := by decide +kernel
theorem dX0_init_4 : decode cX0_init 4 = .ok (.aload_n 0, 1) := by decide +kernel
theorem dX0_init_5 : decode cX0_init 5 = .ok (.iconst 0, 1) := by decide +kernel
theorem dX0_init_6 : decode cX0_init 6 = .ok (.putfield 9, 3) := by decide +kernel
theorem dX0_init_9 : decode cX0_init 9 = .ok (.aload_n 0, 1) := by decide +kernel
theorem dX0_init_10 : decode cX0_init 10 = .ok (.bipush 16, 2) := by decide +kernel
theorem dX0_init_12 : decode cX0_init 12 = .ok (.newarray .int, 2) := by decide +kernel
theorem dX0_init_14 : decode cX0_init 14 = .ok (.putfield 15, 3) := by decide +kernel
theorem dX0_init_17 : decode cX0_init 17 = .ok (.return_, 1) := by decide +kernel
theorem dX0_answer_0 : decode cX0_answer 0 = .ok (.aload_n 0, 1) := by decide +kernel
theorem dX0_answer_1 : decode cX0_answer 1 = .ok (.iconst 0, 1) := by decide +kernel
theorem dX0_answer_2 : decode cX0_answer 2 = .ok (.putfield 9, 3) := by decide +kernel
theorem dX0_answer_5 : decode cX0_answer 5 = .ok (.aload_n 0, 1) := by decide +kernel
theorem dX0_answer_6 : decode cX0_answer 6 = .ok (.aload_n 1, 1) := by decide +kernel
theorem dX0_answer_7 : decode cX0_answer 7 = .ok (.iload_n 2, 1) := by decide +kernel
theorem dX0_answer_8 : decode cX0_answer 8 = .ok (.aload_n 1, 1) := by decide +kernel
theorem dX0_answer_9 : decode cX0_answer 9 = .ok (.getfield 19, 3) := by decide +kernel
theorem dX0_answer_12 : decode cX0_answer 12 = .ok (.iload_n 2, 1) := by decide +kernel
theorem dX0_answer_13 : decode cX0_answer 13 = .ok (.iaload, 1) := by decide +kernel
theorem dX0_answer_14 : decode cX0_answer 14 = .ok (.iload_n 3, 1) := by decide +kernel
theorem dX0_answer_15 : decode cX0_answer 15 = .ok (.invokestatic 24, 3) := by decide +kernel
theorem dX0_answer_18 : decode cX0_answer 18 = .ok (.iconst 0, 1) := by decide +kernel
theorem dX0_answer_19 : decode cX0_answer 19 = .ok (.invokevirtual 28, 3) := by decide +kernel
theorem dX0_answer_22 : decode cX0_answer 22 = .ok (.ireturn, 1) := by decide +kernel
theorem dX0_bodyFor_0 : decode cX0_bodyFor 0 = .ok (.iload_n 0, 1) := by decide +kernel
theorem dX0_bodyFor_1 : decode cX0_bodyFor 1 = .ok (.istore_n 2, 1) := by decide +kernel
theorem dX0_bodyFor_2 : decode cX0_bodyFor 2 = .ok (.iconst 0, 1) := by decide +kernel
theorem dX0_bodyFor_3 : decode cX0_bodyFor 3 = .ok (.istore_n 3, 1) := by decide +kernel
theorem dX0_bodyFor_4 : decode cX0_bodyFor 4 = .ok (.iconst 0, 1) := by decide +kernel
theorem dX0_bodyFor_5 : decode cX0_bodyFor 5 = .ok (.istore 4, 2) := by decide +kernel
theorem dX0_bodyFor_7 : decode cX0_bodyFor 7 = .ok (.iload 4, 2) := by decide +kernel
theorem dX0_bodyFor_9 : decode cX0_bodyFor 9 = .ok (.bipush 6, 2) := by decide +kernel
theorem dX0_bodyFor_11 : decode cX0_bodyFor 11 = .ok (.if_icmp .ge 41, 3) := by decide +kernel
theorem dX0_bodyFor_14 : decode cX0_bodyFor 14 = .ok (.iload_n 2, 1) := by decide +kernel
theorem dX0_bodyFor_15 : decode cX0_bodyFor 15 = .ok (.ifCond .lt 37, 3) := by decide +kernel
theorem dX0_bodyFor_18 : decode cX0_bodyFor 18 = .ok (.iload_n 3, 1) := by decide +kernel
theorem dX0_bodyFor_19 : decode cX0_bodyFor 19 = .ok (.ifCond .ne 33, 3) := by decide +kernel
theorem dX0_bodyFor_22 : decode cX0_bodyFor 22 = .ok (.iload_n 1, 1) := by decide +kernel
theorem dX0_bodyFor_23 : decode cX0_bodyFor 23 = .ok (.ifCond .ne 11, 3) := by decide +kernel
theorem dX0_bodyFor_26 : decode cX0_bodyFor 26 = .ok (.getstatic 32, 3) := by decide +kernel
theorem dX0_bodyFor_29 : decode cX0_bodyFor 29 = .ok (.iload_n 2, 1) := by decide +kernel
theorem dX0_bodyFor_30 : decode cX0_bodyFor 30 = .ok (.iaload, 1) := by decide +kernel
theorem dX0_bodyFor_31 : decode cX0_bodyFor 31 = .ok (.goto 8, 3) := by decide +kernel
theorem dX0_bodyFor_34 : decode cX0_bodyFor 34 = .ok (.getstatic 35, 3) := by decide +kernel
theorem dX0_bodyFor_37 : decode cX0_bodyFor 37 = .ok (.iload_n 2, 1) := by decide +kernel
theorem dX0_bodyFor_38 : decode cX0_bodyFor 38 = .ok (.iaload, 1) := by decide +kernel
theorem dX0_bodyFor_39 : decode cX0_bodyFor 39 = .ok (.istore_n 3, 1) := by decide +kernel
theorem dX0_bodyFor_40 : decode cX0_bodyFor 40 = .ok (.getstatic 38, 3) := by decide +kernel
theorem dX0_bodyFor_43 : decode cX0_bodyFor 43 = .ok (.iload_n 2, 1) := by decide +kernel
theorem dX0_bodyFor_44 : decode cX0_bodyFor 44 = .ok (.iaload, 1) := by decide +kernel
theorem dX0_bodyFor_45 : decode cX0_bodyFor 45 = .ok (.istore_n 2, 1) := by decide +kernel
theorem dX0_bodyFor_46 : decode cX0_bodyFor 46 = .ok (.iinc 4 1, 3) := by decide +kernel
theorem dX0_bodyFor_49 : decode cX0_bodyFor 49 = .ok (.goto (-42), 3) := by decide +kernel
theorem dX0_bodyFor_52 : decode cX0_bodyFor 52 = .ok (.iload_n 3, 1) := by decide +kernel
theorem dX0_bodyFor_53 : decode cX0_bodyFor 53 = .ok (.ireturn, 1) := by decide +kernel
theorem dX0_begin_0 : decode cX0_begin 0 = .ok (.aload_n 0, 1) := by decide +kernel
theorem dX0_begin_1 : decode cX0_begin 1 = .ok (.getfield 9, 3) := by decide +kernel
theorem dX0_begin_4 : decode cX0_begin 4 = .ok (.bipush 16, 2) := by decide +kernel
theorem dX0_begin_6 : decode cX0_begin 6 = .ok (.if_icmp .ge 23, 3) := by decide +kernel
theorem dX0_begin_9 : decode cX0_begin 9 = .ok (.aload_n 0, 1) := by decide +kernel
theorem dX0_begin_10 : decode cX0_begin 10 = .ok (.getfield 15, 3) := by decide +kernel
theorem dX0_begin_13 : decode cX0_begin 13 = .ok (.aload_n 0, 1) := by decide +kernel
theorem dX0_begin_14 : decode cX0_begin 14 = .ok (.getfield 9, 3) := by decide +kernel
theorem dX0_begin_17 : decode cX0_begin 17 = .ok (.iload_n 1, 1) := by decide +kernel
theorem dX0_begin_18 : decode cX0_begin 18 = .ok (.iastore, 1) := by decide +kernel
theorem dX0_begin_19 : decode cX0_begin 19 = .ok (.aload_n 0, 1) := by decide +kernel
theorem dX0_begin_20 : decode cX0_begin 20 = .ok (.dup, 1) := by decide +kernel
theorem dX0_begin_21 : decode cX0_begin 21 = .ok (.getfield 9, 3) := by decide +kernel
theorem dX0_begin_24 : decode cX0_begin 24 = .ok (.iconst 1, 1) := by decide +kernel
theorem dX0_begin_25 : decode cX0_begin 25 = .ok (.iadd, 1) := by decide +kernel
theorem dX0_begin_26 : decode cX0_begin 26 = .ok (.putfield 9, 3) := by decide +kernel
theorem dX0_begin_29 : decode cX0_begin 29 = .ok (.return_, 1) := by decide +kernel
theorem dX0_give_0 : decode cX0_give 0 = .ok (.iload 4, 2) := by decide +kernel
theorem dX0_give_2 : decode cX0_give 2 = .ok (.bipush 16, 2) := by decide +kernel
theorem dX0_give_4 : decode cX0_give 4 = .ok (.if_icmp .le 5, 3) := by decide +kernel
theorem dX0_give_7 : decode cX0_give 7 = .ok (.iconst 0, 1) := by decide +kernel
theorem dX0_give_8 : decode cX0_give 8 = .ok (.ireturn, 1) := by decide +kernel
theorem dX0_give_9 : decode cX0_give 9 = .ok (.aload_n 0, 1) := by decide +kernel
theorem dX0_give_10 : decode cX0_give 10 = .ok (.iload_n 3, 1) := by decide +kernel
theorem dX0_give_11 : decode cX0_give 11 = .ok (.invokevirtual 41, 3) := by decide +kernel
theorem dX0_give_14 : decode cX0_give 14 = .ok (.iload_n 3, 1) := by decide +kernel
theorem dX0_give_15 : decode cX0_give 15 = .ok (.tableswitch 226 10 24 #[73, 80, 103, 118, 134, 226, 226, 226, 226, 226, 149, 151, 171, 188, 211], 73) := by decide +kernel
theorem dX0_give_88 : decode cX0_give 88 = .ok (.aload_n 1, 1) := by decide +kernel
theorem dX0_give_89 : decode cX0_give 89 = .ok (.getfield 45, 3) := by decide +kernel
theorem dX0_give_92 : decode cX0_give 92 = .ok (.iload_n 2, 1) := by decide +kernel
theorem dX0_give_93 : decode cX0_give 93 = .ok (.iaload, 1) := by decide +kernel
theorem dX0_give_94 : decode cX0_give 94 = .ok (.ireturn, 1) := by decide +kernel
theorem dX0_give_95 : decode cX0_give 95 = .ok (.aload_n 0, 1) := by decide +kernel
theorem dX0_give_96 : decode cX0_give 96 = .ok (.aload_n 1, 1) := by decide +kernel
theorem dX0_give_97 : decode cX0_give 97 = .ok (.iload_n 2, 1) := by decide +kernel
theorem dX0_give_98 : decode cX0_give 98 = .ok (.bipush 10, 2) := by decide +kernel
theorem dX0_give_100 : decode cX0_give 100 = .ok (.iload 4, 2) := by decide +kernel
theorem dX0_give_102 : decode cX0_give 102 = .ok (.iconst 1, 1) := by decide +kernel
theorem dX0_give_103 : decode cX0_give 103 = .ok (.iadd, 1) := by decide +kernel
theorem dX0_give_104 : decode cX0_give 104 = .ok (.invokevirtual 28, 3) := by decide +kernel
theorem dX0_give_107 : decode cX0_give 107 = .ok (.aload_n 0, 1) := by decide +kernel
theorem dX0_give_108 : decode cX0_give 108 = .ok (.aload_n 1, 1) := by decide +kernel
theorem dX0_give_109 : decode cX0_give 109 = .ok (.iload_n 2, 1) := by decide +kernel
theorem dX0_give_110 : decode cX0_give 110 = .ok (.iconst 1, 1) := by decide +kernel
theorem dX0_give_111 : decode cX0_give 111 = .ok (.iload 4, 2) := by decide +kernel
theorem dX0_give_113 : decode cX0_give 113 = .ok (.invokevirtual 48, 3) := by decide +kernel
theorem dX0_give_116 : decode cX0_give 116 = .ok (.iadd, 1) := by decide +kernel
theorem dX0_give_117 : decode cX0_give 117 = .ok (.ireturn, 1) := by decide +kernel
theorem dX0_give_118 : decode cX0_give 118 = .ok (.iconst 0, 1) := by decide +kernel
theorem dX0_give_119 : decode cX0_give 119 = .ok (.aload_n 0, 1) := by decide +kernel
theorem dX0_give_120 : decode cX0_give 120 = .ok (.aload_n 1, 1) := by decide +kernel
theorem dX0_give_121 : decode cX0_give 121 = .ok (.iload_n 2, 1) := by decide +kernel
theorem dX0_give_122 : decode cX0_give 122 = .ok (.bipush 11, 2) := by decide +kernel
theorem dX0_give_124 : decode cX0_give 124 = .ok (.iload 4, 2) := by decide +kernel
theorem dX0_give_126 : decode cX0_give 126 = .ok (.iconst 1, 1) := by decide +kernel
theorem dX0_give_127 : decode cX0_give 127 = .ok (.iadd, 1) := by decide +kernel
theorem dX0_give_128 : decode cX0_give 128 = .ok (.invokevirtual 28, 3) := by decide +kernel
theorem dX0_give_131 : decode cX0_give 131 = .ok (.isub, 1) := by decide +kernel
theorem dX0_give_132 : decode cX0_give 132 = .ok (.ireturn, 1) := by decide +kernel
theorem dX0_give_133 : decode cX0_give 133 = .ok (.aload_n 0, 1) := by decide +kernel
theorem dX0_give_134 : decode cX0_give 134 = .ok (.aload_n 1, 1) := by decide +kernel
theorem dX0_give_135 : decode cX0_give 135 = .ok (.iload_n 2, 1) := by decide +kernel
theorem dX0_give_136 : decode cX0_give 136 = .ok (.bipush 10, 2) := by decide +kernel
theorem dX0_give_138 : decode cX0_give 138 = .ok (.iload 4, 2) := by decide +kernel
theorem dX0_give_140 : decode cX0_give 140 = .ok (.iconst 1, 1) := by decide +kernel
theorem dX0_give_141 : decode cX0_give 141 = .ok (.iadd, 1) := by decide +kernel
theorem dX0_give_142 : decode cX0_give 142 = .ok (.invokevirtual 28, 3) := by decide +kernel
theorem dX0_give_145 : decode cX0_give 145 = .ok (.bipush 100, 2) := by decide +kernel
theorem dX0_give_147 : decode cX0_give 147 = .ok (.isub, 1) := by decide +kernel
theorem dX0_give_148 : decode cX0_give 148 = .ok (.ireturn, 1) := by decide +kernel
theorem dX0_give_149 : decode cX0_give 149 = .ok (.iconst 2, 1) := by decide +kernel
theorem dX0_give_150 : decode cX0_give 150 = .ok (.aload_n 0, 1) := by decide +kernel
theorem dX0_give_151 : decode cX0_give 151 = .ok (.aload_n 1, 1) := by decide +kernel
theorem dX0_give_152 : decode cX0_give 152 = .ok (.iload_n 2, 1) := by decide +kernel
theorem dX0_give_153 : decode cX0_give 153 = .ok (.bipush 13, 2) := by decide +kernel
theorem dX0_give_155 : decode cX0_give 155 = .ok (.iload 4, 2) := by decide +kernel
theorem dX0_give_157 : decode cX0_give 157 = .ok (.iconst 1, 1) := by decide +kernel
theorem dX0_give_158 : decode cX0_give 158 = .ok (.iadd, 1) := by decide +kernel
theorem dX0_give_159 : decode cX0_give 159 = .ok (.invokevirtual 28, 3) := by decide +kernel
theorem dX0_give_162 : decode cX0_give 162 = .ok (.imul, 1) := by decide +kernel
theorem dX0_give_163 : decode cX0_give 163 = .ok (.ireturn, 1) := by decide +kernel
theorem dX0_give_164 : decode cX0_give 164 = .ok (.iload_n 2, 1) := by decide +kernel
theorem dX0_give_165 : decode cX0_give 165 = .ok (.ireturn, 1) := by decide +kernel
theorem dX0_give_166 : decode cX0_give 166 = .ok (.aload_n 0, 1) := by decide +kernel
theorem dX0_give_167 : decode cX0_give 167 = .ok (.aload_n 1, 1) := by decide +kernel
theorem dX0_give_168 : decode cX0_give 168 = .ok (.iload_n 2, 1) := by decide +kernel
theorem dX0_give_169 : decode cX0_give 169 = .ok (.bipush 20, 2) := by decide +kernel
theorem dX0_give_171 : decode cX0_give 171 = .ok (.iload 4, 2) := by decide +kernel
theorem dX0_give_173 : decode cX0_give 173 = .ok (.iconst 1, 1) := by decide +kernel
theorem dX0_give_174 : decode cX0_give 174 = .ok (.iadd, 1) := by decide +kernel
theorem dX0_give_175 : decode cX0_give 175 = .ok (.invokevirtual 28, 3) := by decide +kernel
theorem dX0_give_178 : decode cX0_give 178 = .ok (.aload_n 1, 1) := by decide +kernel
theorem dX0_give_179 : decode cX0_give 179 = .ok (.getfield 51, 3) := by decide +kernel
theorem dX0_give_182 : decode cX0_give 182 = .ok (.iload_n 2, 1) := by decide +kernel
theorem dX0_give_183 : decode cX0_give 183 = .ok (.iaload, 1) := by decide +kernel
theorem dX0_give_184 : decode cX0_give 184 = .ok (.iadd, 1) := by decide +kernel
theorem dX0_give_185 : decode cX0_give 185 = .ok (.ireturn, 1) := by decide +kernel
theorem dX0_give_186 : decode cX0_give 186 = .ok (.aload_n 0, 1) := by decide +kernel
theorem dX0_give_187 : decode cX0_give 187 = .ok (.aload_n 1, 1) := by decide +kernel
theorem dX0_give_188 : decode cX0_give 188 = .ok (.iload_n 2, 1) := by decide +kernel
theorem dX0_give_189 : decode cX0_give 189 = .ok (.bipush 21, 2) := by decide +kernel
theorem dX0_give_191 : decode cX0_give 191 = .ok (.iload 4, 2) := by decide +kernel
theorem dX0_give_193 : decode cX0_give 193 = .ok (.iconst 1, 1) := by decide +kernel
theorem dX0_give_194 : decode cX0_give 194 = .ok (.iadd, 1) := by decide +kernel
theorem dX0_give_195 : decode cX0_give 195 = .ok (.invokevirtual 28, 3) := by decide +kernel
theorem dX0_give_198 : decode cX0_give 198 = .ok (.sipush 1000, 3) := by decide +kernel
theorem dX0_give_201 : decode cX0_give 201 = .ok (.isub, 1) := by decide +kernel
theorem dX0_give_202 : decode cX0_give 202 = .ok (.ireturn, 1) := by decide +kernel
theorem dX0_give_203 : decode cX0_give 203 = .ok (.aload_n 0, 1) := by decide +kernel
theorem dX0_give_204 : decode cX0_give 204 = .ok (.aload_n 1, 1) := by decide +kernel
theorem dX0_give_205 : decode cX0_give 205 = .ok (.iload_n 2, 1) := by decide +kernel
theorem dX0_give_206 : decode cX0_give 206 = .ok (.bipush 20, 2) := by decide +kernel
theorem dX0_give_208 : decode cX0_give 208 = .ok (.iload 4, 2) := by decide +kernel
theorem dX0_give_210 : decode cX0_give 210 = .ok (.iconst 1, 1) := by decide +kernel
theorem dX0_give_211 : decode cX0_give 211 = .ok (.iadd, 1) := by decide +kernel
theorem dX0_give_212 : decode cX0_give 212 = .ok (.invokevirtual 28, 3) := by decide +kernel
theorem dX0_give_215 : decode cX0_give 215 = .ok (.aload_n 0, 1) := by decide +kernel
theorem dX0_give_216 : decode cX0_give 216 = .ok (.aload_n 1, 1) := by decide +kernel
theorem dX0_give_217 : decode cX0_give 217 = .ok (.iload_n 2, 1) := by decide +kernel
theorem dX0_give_218 : decode cX0_give 218 = .ok (.iconst 0, 1) := by decide +kernel
theorem dX0_give_219 : decode cX0_give 219 = .ok (.iload 4, 2) := by decide +kernel
theorem dX0_give_221 : decode cX0_give 221 = .ok (.invokevirtual 48, 3) := by decide +kernel
theorem dX0_give_224 : decode cX0_give 224 = .ok (.isub, 1) := by decide +kernel
theorem dX0_give_225 : decode cX0_give 225 = .ok (.ireturn, 1) := by decide +kernel
theorem dX0_give_226 : decode cX0_give 226 = .ok (.iconst 2, 1) := by decide +kernel
theorem dX0_give_227 : decode cX0_give 227 = .ok (.aload_n 0, 1) := by decide +kernel
theorem dX0_give_228 : decode cX0_give 228 = .ok (.aload_n 1, 1) := by decide +kernel
theorem dX0_give_229 : decode cX0_give 229 = .ok (.iload_n 2, 1) := by decide +kernel
theorem dX0_give_230 : decode cX0_give 230 = .ok (.bipush 21, 2) := by decide +kernel
theorem dX0_give_232 : decode cX0_give 232 = .ok (.iload 4, 2) := by decide +kernel
theorem dX0_give_234 : decode cX0_give 234 = .ok (.iconst 1, 1) := by decide +kernel
theorem dX0_give_235 : decode cX0_give 235 = .ok (.iadd, 1) := by decide +kernel
theorem dX0_give_236 : decode cX0_give 236 = .ok (.invokevirtual 28, 3) := by decide +kernel
theorem dX0_give_239 : decode cX0_give 239 = .ok (.imul, 1) := by decide +kernel
theorem dX0_give_240 : decode cX0_give 240 = .ok (.ireturn, 1) := by decide +kernel
theorem dX0_give_241 : decode cX0_give 241 = .ok (.iconst 0, 1) := by decide +kernel
theorem dX0_give_242 : decode cX0_give 242 = .ok (.ireturn, 1) := by decide +kernel
theorem dX0_anew_0 : decode cX0_anew 0 = .ok (.aload_n 0, 1) := by decide +kernel
theorem dX0_anew_1 : decode cX0_anew 1 = .ok (.aload_n 1, 1) := by decide +kernel
theorem dX0_anew_2 : decode cX0_anew 2 = .ok (.iload_n 2, 1) := by decide +kernel
theorem dX0_anew_3 : decode cX0_anew 3 = .ok (.aload_n 1, 1) := by decide +kernel
theorem dX0_anew_4 : decode cX0_anew 4 = .ok (.getfield 19, 3) := by decide +kernel
theorem dX0_anew_7 : decode cX0_anew 7 = .ok (.iload_n 2, 1) := by decide +kernel
theorem dX0_anew_8 : decode cX0_anew 8 = .ok (.iaload, 1) := by decide +kernel
theorem dX0_anew_9 : decode cX0_anew 9 = .ok (.iload_n 3, 1) := by decide +kernel
theorem dX0_anew_10 : decode cX0_anew 10 = .ok (.invokestatic 24, 3) := by decide +kernel
theorem dX0_anew_13 : decode cX0_anew 13 = .ok (.iload 4, 2) := by decide +kernel
theorem dX0_anew_15 : decode cX0_anew 15 = .ok (.iconst 1, 1) := by decide +kernel
theorem dX0_anew_16 : decode cX0_anew 16 = .ok (.iadd, 1) := by decide +kernel
theorem dX0_anew_17 : decode cX0_anew 17 = .ok (.invokevirtual 28, 3) := by decide +kernel
theorem dX0_anew_20 : decode cX0_anew 20 = .ok (.ireturn, 1) := by decide +kernel
theorem dX1_init_0 : decode cX1_init 0 = .ok (.aload_n 0, 1) := by decide +kernel
theorem dX1_init_1 : decode cX1_init 1 = .ok (.invokespecial 5, 3) := by decide +kernel
theorem dX1_init_4 : decode cX1_init 4 = .ok (.aload_n 0, 1) := by decide +kernel
theorem dX1_init_5 : decode cX1_init 5 = .ok (.iconst 0, 1) := by decide +kernel
theorem dX1_init_6 : decode cX1_init 6 = .ok (.putfield 11, 3) := by decide +kernel
theorem dX1_init_9 : decode cX1_init 9 = .ok (.aload_n 0, 1) := by decide +kernel
theorem dX1_init_10 : decode cX1_init 10 = .ok (.new 15, 3) := by decide +kernel
theorem dX1_init_13 : decode cX1_init 13 = .ok (.dup, 1) := by decide +kernel
theorem dX1_init_14 : decode cX1_init 14 = .ok (.bipush 24, 2) := by decide +kernel
theorem dX1_init_16 : decode cX1_init 16 = .ok (.invokespecial 17, 3) := by decide +kernel
theorem dX1_init_19 : decode cX1_init 19 = .ok (.putfield 20, 3) := by decide +kernel
theorem dX1_init_22 : decode cX1_init 22 = .ok (.aload_n 0, 1) := by decide +kernel
theorem dX1_init_23 : decode cX1_init 23 = .ok (.bipush 96, 2) := by decide +kernel
theorem dX1_init_25 : decode cX1_init 25 = .ok (.newarray .boolean, 2) := by decide +kernel
theorem dX1_init_27 : decode cX1_init 27 = .ok (.putfield 24, 3) := by decide +kernel
theorem dX1_init_30 : decode cX1_init 30 = .ok (.aload_n 0, 1) := by decide +kernel
theorem dX1_init_31 : decode cX1_init 31 = .ok (.iconst 4, 1) := by decide +kernel
theorem dX1_init_32 : decode cX1_init 32 = .ok (.newarray .int, 2) := by decide +kernel
theorem dX1_init_34 : decode cX1_init 34 = .ok (.putfield 28, 3) := by decide +kernel
theorem dX1_init_37 : decode cX1_init 37 = .ok (.aload_n 0, 1) := by decide +kernel
theorem dX1_init_38 : decode cX1_init 38 = .ok (.iconst 4, 1) := by decide +kernel
theorem dX1_init_39 : decode cX1_init 39 = .ok (.newarray .int, 2) := by decide +kernel
theorem dX1_init_41 : decode cX1_init 41 = .ok (.putfield 32, 3) := by decide +kernel
theorem dX1_init_44 : decode cX1_init 44 = .ok (.aload_n 0, 1) := by decide +kernel
theorem dX1_init_45 : decode cX1_init 45 = .ok (.bipush 6, 2) := by decide +kernel
theorem dX1_init_47 : decode cX1_init 47 = .ok (.newarray .int, 2) := by decide +kernel
theorem dX1_init_49 : decode cX1_init 49 = .ok (.putfield 35, 3) := by decide +kernel
theorem dX1_init_52 : decode cX1_init 52 = .ok (.aload_n 0, 1) := by decide +kernel
theorem dX1_init_53 : decode cX1_init 53 = .ok (.iconst 0, 1) := by decide +kernel
theorem dX1_init_54 : decode cX1_init 54 = .ok (.putfield 38, 3) := by decide +kernel
theorem dX1_init_57 : decode cX1_init 57 = .ok (.aload_n 0, 1) := by decide +kernel
theorem dX1_init_58 : decode cX1_init 58 = .ok (.iconst 0, 1) := by decide +kernel
theorem dX1_init_59 : decode cX1_init 59 = .ok (.putfield 41, 3) := by decide +kernel
theorem dX1_init_62 : decode cX1_init 62 = .ok (.return_, 1) := by decide +kernel
theorem dX1_search_0 : decode cX1_search 0 = .ok (.aload_n 0, 1) := by decide +kernel
theorem dX1_search_1 : decode cX1_search 1 = .ok (.aload_n 1, 1) := by decide +kernel
theorem dX1_search_2 : decode cX1_search 2 = .ok (.getfield 44, 3) := by decide +kernel
theorem dX1_search_5 : decode cX1_search 5 = .ok (.putfield 38, 3) := by decide +kernel
theorem dX1_search_8 : decode cX1_search 8 = .ok (.aload_n 0, 1) := by decide +kernel
theorem dX1_search_9 : decode cX1_search 9 = .ok (.iload_n 2, 1) := by decide +kernel
theorem dX1_search_10 : decode cX1_search 10 = .ok (.iconst 4, 1) := by decide +kernel
theorem dX1_search_11 : decode cX1_search 11 = .ok (.invokestatic 47, 3) := by decide +kernel
theorem dX1_search_14 : decode cX1_search 14 = .ok (.putfield 41, 3) := by decide +kernel
theorem dX1_search_17 : decode cX1_search 17 = .ok (.aload_n 0, 1) := by decide +kernel
theorem dX1_search_18 : decode cX1_search 18 = .ok (.getfield 20, 3) := by decide +kernel
theorem dX1_search_21 : decode cX1_search 21 = .ok (.aload_n 1, 1) := by decide +kernel
theorem dX1_search_22 : decode cX1_search 22 = .ok (.aload_n 0, 1) := by decide +kernel
theorem dX1_search_23 : decode cX1_search 23 = .ok (.getfield 41, 3) := by decide +kernel
theorem dX1_search_26 : decode cX1_search 26 = .ok (.iload_n 3, 1) := by decide +kernel
theorem dX1_search_27 : decode cX1_search 27 = .ok (.iadd, 1) := by decide +kernel
theorem dX1_search_28 : decode cX1_search 28 = .ok (.invokevirtual 53, 3) := by decide +kernel
theorem dX1_search_31 : decode cX1_search 31 = .ok (.aload_n 0, 1) := by decide +kernel
theorem dX1_search_32 : decode cX1_search 32 = .ok (.aload_n 1, 1) := by decide +kernel
theorem dX1_search_33 : decode cX1_search 33 = .ok (.aload_n 0, 1) := by decide +kernel
theorem dX1_search_34 : decode cX1_search 34 = .ok (.getfield 41, 3) := by decide +kernel
theorem dX1_search_37 : decode cX1_search 37 = .ok (.iload_n 3, 1) := by decide +kernel
theorem dX1_search_38 : decode cX1_search 38 = .ok (.iadd, 1) := by decide +kernel
theorem dX1_search_39 : decode cX1_search 39 = .ok (.invokevirtual 57, 3) := by decide +kernel
theorem dX1_search_42 : decode cX1_search 42 = .ok (.aload_n 0, 1) := by decide +kernel
theorem dX1_search_43 : decode cX1_search 43 = .ok (.bipush 7, 2) := by decide +kernel
theorem dX1_search_45 : decode cX1_search 45 = .ok (.putfield 11, 3) := by decide +kernel
theorem dX1_search_48 : decode cX1_search 48 = .ok (.aload_n 0, 1) := by decide +kernel
theorem dX1_search_49 : decode cX1_search 49 = .ok (.iconst 0, 1) := by decide +kernel
theorem dX1_search_50 : decode cX1_search 50 = .ok (.invokevirtual 60, 3) := by decide +kernel
theorem dX1_search_53 : decode cX1_search 53 = .ok (.return_, 1) := by decide +kernel
theorem dX1_choiceAt_0 : decode cX1_choiceAt 0 = .ok (.iload_n 1, 1) := by decide +kernel
theorem dX1_choiceAt_1 : decode cX1_choiceAt 1 = .ok (.ifCond .lt 33, 3) := by decide +kernel
theorem dX1_choiceAt_4 : decode cX1_choiceAt 4 = .ok (.iload_n 1, 1) := by decide +kernel
theorem dX1_choiceAt_5 : decode cX1_choiceAt 5 = .ok (.aload_n 0, 1) := by decide +kernel
theorem dX1_choiceAt_6 : decode cX1_choiceAt 6 = .ok (.getfield 41, 3) := by decide +kernel
theorem dX1_choiceAt_9 : decode cX1_choiceAt 9 = .ok (.if_icmp .ge 25, 3) := by decide +kernel
theorem dX1_choiceAt_12 : decode cX1_choiceAt 12 = .ok (.aload_n 0, 1) := by decide +kernel
theorem dX1_choiceAt_13 : decode cX1_choiceAt 13 = .ok (.getfield 32, 3) := by decide +kernel
theorem dX1_choiceAt_16 : decode cX1_choiceAt 16 = .ok (.iload_n 1, 1) := by decide +kernel
theorem dX1_choiceAt_17 : decode cX1_choiceAt 17 = .ok (.iaload, 1) := by decide +kernel
theorem dX1_choiceAt_18 : decode cX1_choiceAt 18 = .ok (.aload_n 0, 1) := by decide +kernel
theorem dX1_choiceAt_19 : decode cX1_choiceAt 19 = .ok (.getfield 38, 3) := by decide +kernel
theorem dX1_choiceAt_22 : decode cX1_choiceAt 22 = .ok (.if_icmp .ge 12, 3) := by decide +kernel
theorem dX1_choiceAt_25 : decode cX1_choiceAt 25 = .ok (.aload_n 0, 1) := by decide +kernel
theorem dX1_choiceAt_26 : decode cX1_choiceAt 26 = .ok (.getfield 32, 3) := by decide +kernel
theorem dX1_choiceAt_29 : decode cX1_choiceAt 29 = .ok (.iload_n 1, 1) := by decide +kernel
theorem dX1_choiceAt_30 : decode cX1_choiceAt 30 = .ok (.iaload, 1) := by decide +kernel
theorem dX1_choiceAt_31 : decode cX1_choiceAt 31 = .ok (.goto 5, 3) := by decide +kernel
theorem dX1_choiceAt_34 : decode cX1_choiceAt 34 = .ok (.ldc 63, 2) := by decide +kernel
theorem dX1_choiceAt_36 : decode cX1_choiceAt 36 = .ok (.ireturn, 1) := by decide +kernel
theorem dX1_followAll_0 : decode cX1_followAll 0 = .ok (.iconst 0, 1) := by decide +kernel
theorem dX1_followAll_1 : decode cX1_followAll 1 = .ok (.istore_n 3, 1) := by decide +kernel
theorem dX1_followAll_2 : decode cX1_followAll 2 = .ok (.iload_n 3, 1) := by decide +kernel
theorem dX1_followAll_3 : decode cX1_followAll 3 = .ok (.aload_n 0, 1) := by decide +kernel
theorem dX1_followAll_4 : decode cX1_followAll 4 = .ok (.getfield 38, 3) := by decide +kernel
theorem dX1_followAll_7 : decode cX1_followAll 7 = .ok (.if_icmp .ge 60, 3) := by decide +kernel
theorem dX1_followAll_10 : decode cX1_followAll 10 = .ok (.iconst 0, 1) := by decide +kernel
theorem dX1_followAll_11 : decode cX1_followAll 11 = .ok (.istore 4, 2) := by decide +kernel
theorem dX1_followAll_13 : decode cX1_followAll 13 = .ok (.iload 4, 2) := by decide +kernel
theorem dX1_followAll_15 : decode cX1_followAll 15 = .ok (.iconst 1, 1) := by decide +kernel
theorem dX1_followAll_16 : decode cX1_followAll 16 = .ok (.aload_n 0, 1) := by decide +kernel
theorem dX1_followAll_17 : decode cX1_followAll 17 = .ok (.getfield 41, 3) := by decide +kernel
theorem dX1_followAll_20 : decode cX1_followAll 20 = .ok (.ishl, 1) := by decide +kernel
theorem dX1_followAll_21 : decode cX1_followAll 21 = .ok (.if_icmp .ge 40, 3) := by decide +kernel
theorem dX1_followAll_24 : decode cX1_followAll 24 = .ok (.aload_n 0, 1) := by decide +kernel
theorem dX1_followAll_25 : decode cX1_followAll 25 = .ok (.getfield 24, 3) := by decide +kernel
theorem dX1_followAll_28 : decode cX1_followAll 28 = .ok (.iload_n 3, 1) := by decide +kernel
theorem dX1_followAll_29 : decode cX1_followAll 29 = .ok (.bipush 16, 2) := by decide +kernel
theorem dX1_followAll_31 : decode cX1_followAll 31 = .ok (.imul, 1) := by decide +kernel
theorem dX1_followAll_32 : decode cX1_followAll 32 = .ok (.iload 4, 2) := by decide +kernel
theorem dX1_followAll_34 : decode cX1_followAll 34 = .ok (.iadd, 1) := by decide +kernel
theorem dX1_followAll_35 : decode cX1_followAll 35 = .ok (.aload_n 0, 1) := by decide +kernel
theorem dX1_followAll_36 : decode cX1_followAll 36 = .ok (.aload_n 1, 1) := by decide +kernel
theorem dX1_followAll_37 : decode cX1_followAll 37 = .ok (.iload_n 3, 1) := by decide +kernel
theorem dX1_followAll_38 : decode cX1_followAll 38 = .ok (.iload 4, 2) := by decide +kernel
theorem dX1_followAll_40 : decode cX1_followAll 40 = .ok (.iload_n 2, 1) := by decide +kernel
theorem dX1_followAll_41 : decode cX1_followAll 41 = .ok (.invokevirtual 64, 3) := by decide +kernel
theorem dX1_followAll_44 : decode cX1_followAll 44 = .ok (.bipush 30, 2) := by decide +kernel
theorem dX1_followAll_46 : decode cX1_followAll 46 = .ok (.if_icmp .lt 7, 3) := by decide +kernel
theorem dX1_followAll_49 : decode cX1_followAll 49 = .ok (.iconst 1, 1) := by decide +kernel
theorem dX1_followAll_50 : decode cX1_followAll 50 = .ok (.goto 4, 3) := by decide +kernel
theorem dX1_followAll_53 : decode cX1_followAll 53 = .ok (.iconst 0, 1) := by decide +kernel
theorem dX1_followAll_54 : decode cX1_followAll 54 = .ok (.bastore, 1) := by decide +kernel
theorem dX1_followAll_55 : decode cX1_followAll 55 = .ok (.iinc 4 1, 3) := by decide +kernel
theorem dX1_followAll_58 : decode cX1_followAll 58 = .ok (.goto (-45), 3) := by decide +kernel
theorem dX1_followAll_61 : decode cX1_followAll 61 = .ok (.iinc 3 1, 3) := by decide +kernel
theorem dX1_followAll_64 : decode cX1_followAll 64 = .ok (.goto (-62), 3) := by decide +kernel
theorem dX1_followAll_67 : decode cX1_followAll 67 = .ok (.return_, 1) := by decide +kernel
theorem dX1_placeBehind_0 : decode cX1_placeBehind 0 = .ok (.aload_n 1, 1) := by decide +kernel
theorem dX1_placeBehind_1 : decode cX1_placeBehind 1 = .ok (.getfield 68, 3) := by decide +kernel
theorem dX1_placeBehind_4 : decode cX1_placeBehind 4 = .ok (.iload_n 2, 1) := by decide +kernel
theorem dX1_placeBehind_5 : decode cX1_placeBehind 5 = .ok (.iaload, 1) := by decide +kernel
theorem dX1_placeBehind_6 : decode cX1_placeBehind 6 = .ok (.istore 5, 2) := by decide +kernel
theorem dX1_placeBehind_8 : decode cX1_placeBehind 8 = .ok (.iconst 0, 1) := by decide +kernel
theorem dX1_placeBehind_9 : decode cX1_placeBehind 9 = .ok (.istore 6, 2) := by decide +kernel
theorem dX1_placeBehind_11 : decode cX1_placeBehind 11 = .ok (.iload 6, 2) := by decide +kernel
theorem dX1_placeBehind_13 : decode cX1_placeBehind 13 = .ok (.iload 4, 2) := by decide +kernel
theorem dX1_placeBehind_15 : decode cX1_placeBehind 15 = .ok (.if_icmp .ge 51, 3) := by decide +kernel
theorem dX1_placeBehind_18 : decode cX1_placeBehind 18 = .ok (.iload 6, 2) := by decide +kernel
theorem dX1_placeBehind_20 : decode cX1_placeBehind 20 = .ok (.aload_n 0, 1) := by decide +kernel
theorem dX1_placeBehind_21 : decode cX1_placeBehind 21 = .ok (.getfield 41, 3) := by decide +kernel
theorem dX1_placeBehind_24 : decode cX1_placeBehind 24 = .ok (.if_icmp .ge 21, 3) := by decide +kernel
theorem dX1_placeBehind_27 : decode cX1_placeBehind 27 = .ok (.iload_n 3, 1) := by decide +kernel
theorem dX1_placeBehind_28 : decode cX1_placeBehind 28 = .ok (.iload 6, 2) := by decide +kernel
theorem dX1_placeBehind_30 : decode cX1_placeBehind 30 = .ok (.ishr, 1) := by decide +kernel
theorem dX1_placeBehind_31 : decode cX1_placeBehind 31 = .ok (.iconst 1, 1) := by decide +kernel
theorem dX1_placeBehind_32 : decode cX1_placeBehind 32 = .ok (.iand, 1) := by decide +kernel
theorem dX1_placeBehind_33 : decode cX1_placeBehind 33 = .ok (.iconst 1, 1) := by decide +kernel
theorem dX1_placeBehind_34 : decode cX1_placeBehind 34 = .ok (.if_icmp .ne 11, 3) := by decide +kernel
theorem dX1_placeBehind_37 : decode cX1_placeBehind 37 = .ok (.aload_n 1, 1) := by decide +kernel
theorem dX1_placeBehind_38 : decode cX1_placeBehind 38 = .ok (.iload 5, 2) := by decide +kernel
theorem dX1_placeBehind_40 : decode cX1_placeBehind 40 = .ok (.invokevirtual 71, 3) := by decide +kernel
theorem dX1_placeBehind_43 : decode cX1_placeBehind 43 = .ok (.istore 5, 2) := by decide +kernel
theorem dX1_placeBehind_45 : decode cX1_placeBehind 45 = .ok (.aload_n 0, 1) := by decide +kernel
theorem dX1_placeBehind_46 : decode cX1_placeBehind 46 = .ok (.getfield 20, 3) := by decide +kernel
theorem dX1_placeBehind_49 : decode cX1_placeBehind 49 = .ok (.aload_n 1, 1) := by decide +kernel
theorem dX1_placeBehind_50 : decode cX1_placeBehind 50 = .ok (.iload_n 2, 1) := by decide +kernel
theorem dX1_placeBehind_51 : decode cX1_placeBehind 51 = .ok (.iload 5, 2) := by decide +kernel
theorem dX1_placeBehind_53 : decode cX1_placeBehind 53 = .ok (.iload 6, 2) := by decide +kernel
theorem dX1_placeBehind_55 : decode cX1_placeBehind 55 = .ok (.invokevirtual 75, 3) := by decide +kernel
theorem dX1_placeBehind_58 : decode cX1_placeBehind 58 = .ok (.istore 5, 2) := by decide +kernel
theorem dX1_placeBehind_60 : decode cX1_placeBehind 60 = .ok (.iinc 6 1, 3) := by decide +kernel
theorem dX1_placeBehind_63 : decode cX1_placeBehind 63 = .ok (.goto (-52), 3) := by decide +kernel
theorem dX1_placeBehind_66 : decode cX1_placeBehind 66 = .ok (.iload 5, 2) := by decide +kernel
theorem dX1_placeBehind_68 : decode cX1_placeBehind 68 = .ok (.ireturn, 1) := by decide +kernel
theorem dX1_tryFrom_0 : decode cX1_tryFrom 0 = .ok (.iload_n 1, 1) := by decide +kernel
theorem dX1_tryFrom_1 : decode cX1_tryFrom 1 = .ok (.aload_n 0, 1) := by decide +kernel
theorem dX1_tryFrom_2 : decode cX1_tryFrom 2 = .ok (.getfield 41, 3) := by decide +kernel
theorem dX1_tryFrom_5 : decode cX1_tryFrom 5 = .ok (.if_icmp .lt 8, 3) := by decide +kernel
theorem dX1_tryFrom_8 : decode cX1_tryFrom 8 = .ok (.aload_n 0, 1) := by decide +kernel
theorem dX1_tryFrom_9 : decode cX1_tryFrom 9 = .ok (.invokevirtual 78, 3) := by decide +kernel
theorem dX1_tryFrom_12 : decode cX1_tryFrom 12 = .ok (.return_, 1) := by decide +kernel
theorem dX1_tryFrom_13 : decode cX1_tryFrom 13 = .ok (.iconst 0, 1) := by decide +kernel
theorem dX1_tryFrom_14 : decode cX1_tryFrom 14 = .ok (.istore_n 2, 1) := by decide +kernel
theorem dX1_tryFrom_15 : decode cX1_tryFrom 15 = .ok (.iload_n 2, 1) := by decide +kernel
theorem dX1_tryFrom_16 : decode cX1_tryFrom 16 = .ok (.aload_n 0, 1) := by decide +kernel
theorem dX1_tryFrom_17 : decode cX1_tryFrom 17 = .ok (.getfield 38, 3) := by decide +kernel
theorem dX1_tryFrom_20 : decode cX1_tryFrom 20 = .ok (.if_icmp .ge 49, 3) := by decide +kernel
theorem dX1_tryFrom_23 : decode cX1_tryFrom 23 = .ok (.aload_n 0, 1) := by decide +kernel
theorem dX1_tryFrom_24 : decode cX1_tryFrom 24 = .ok (.getfield 28, 3) := by decide +kernel
theorem dX1_tryFrom_27 : decode cX1_tryFrom 27 = .ok (.iload_n 1, 1) := by decide +kernel
theorem dX1_tryFrom_28 : decode cX1_tryFrom 28 = .ok (.iload_n 2, 1) := by decide +kernel
theorem dX1_tryFrom_29 : decode cX1_tryFrom 29 = .ok (.iastore, 1) := by decide +kernel
theorem dX1_tryFrom_30 : decode cX1_tryFrom 30 = .ok (.aload_n 0, 1) := by decide +kernel
theorem dX1_tryFrom_31 : decode cX1_tryFrom 31 = .ok (.getfield 35, 3) := by decide +kernel
theorem dX1_tryFrom_34 : decode cX1_tryFrom 34 = .ok (.iload_n 2, 1) := by decide +kernel
theorem dX1_tryFrom_35 : decode cX1_tryFrom 35 = .ok (.dup2, 1) := by decide +kernel
theorem dX1_tryFrom_36 : decode cX1_tryFrom 36 = .ok (.iaload, 1) := by decide +kernel
theorem dX1_tryFrom_37 : decode cX1_tryFrom 37 = .ok (.iconst 1, 1) := by decide +kernel
theorem dX1_tryFrom_38 : decode cX1_tryFrom 38 = .ok (.iload_n 1, 1) := by decide +kernel
theorem dX1_tryFrom_39 : decode cX1_tryFrom 39 = .ok (.ishl, 1) := by decide +kernel
theorem dX1_tryFrom_40 : decode cX1_tryFrom 40 = .ok (.ior, 1) := by decide +kernel
theorem dX1_tryFrom_41 : decode cX1_tryFrom 41 = .ok (.iastore, 1) := by decide +kernel
theorem dX1_tryFrom_42 : decode cX1_tryFrom 42 = .ok (.aload_n 0, 1) := by decide +kernel
theorem dX1_tryFrom_43 : decode cX1_tryFrom 43 = .ok (.iload_n 1, 1) := by decide +kernel
theorem dX1_tryFrom_44 : decode cX1_tryFrom 44 = .ok (.iconst 1, 1) := by decide +kernel
theorem dX1_tryFrom_45 : decode cX1_tryFrom 45 = .ok (.iadd, 1) := by decide +kernel
theorem dX1_tryFrom_46 : decode cX1_tryFrom 46 = .ok (.invokevirtual 60, 3) := by decide +kernel
theorem dX1_tryFrom_49 : decode cX1_tryFrom 49 = .ok (.aload_n 0, 1) := by decide +kernel
theorem dX1_tryFrom_50 : decode cX1_tryFrom 50 = .ok (.getfield 35, 3) := by decide +kernel
theorem dX1_tryFrom_53 : decode cX1_tryFrom 53 = .ok (.iload_n 2, 1) := by decide +kernel
theorem dX1_tryFrom_54 : decode cX1_tryFrom 54 = .ok (.dup2, 1) := by decide +kernel
theorem dX1_tryFrom_55 : decode cX1_tryFrom 55 = .ok (.iaload, 1) := by decide +kernel
theorem dX1_tryFrom_56 : decode cX1_tryFrom 56 = .ok (.iconst 1, 1) := by decide +kernel
theorem dX1_tryFrom_57 : decode cX1_tryFrom 57 = .ok (.iload_n 1, 1) := by decide +kernel
theorem dX1_tryFrom_58 : decode cX1_tryFrom 58 = .ok (.ishl, 1) := by decide +kernel
theorem dX1_tryFrom_59 : decode cX1_tryFrom 59 = .ok (.iconst (-1), 1) := by decide +kernel
theorem dX1_tryFrom_60 : decode cX1_tryFrom 60 = .ok (.ixor, 1) := by decide +kernel
theorem dX1_tryFrom_61 : decode cX1_tryFrom 61 = .ok (.iand, 1) := by decide +kernel
theorem dX1_tryFrom_62 : decode cX1_tryFrom 62 = .ok (.iastore, 1) := by decide +kernel
theorem dX1_tryFrom_63 : decode cX1_tryFrom 63 = .ok (.iinc 2 1, 3) := by decide +kernel
theorem dX1_tryFrom_66 : decode cX1_tryFrom 66 = .ok (.goto (-51), 3) := by decide +kernel
theorem dX1_tryFrom_69 : decode cX1_tryFrom 69 = .ok (.aload_n 0, 1) := by decide +kernel
theorem dX1_tryFrom_70 : decode cX1_tryFrom 70 = .ok (.getfield 28, 3) := by decide +kernel
theorem dX1_tryFrom_73 : decode cX1_tryFrom 73 = .ok (.iload_n 1, 1) := by decide +kernel
theorem dX1_tryFrom_74 : decode cX1_tryFrom 74 = .ok (.aload_n 0, 1) := by decide +kernel
theorem dX1_tryFrom_75 : decode cX1_tryFrom 75 = .ok (.getfield 38, 3) := by decide +kernel
theorem dX1_tryFrom_78 : decode cX1_tryFrom 78 = .ok (.iastore, 1) := by decide +kernel
theorem dX1_tryFrom_79 : decode cX1_tryFrom 79 = .ok (.aload_n 0, 1) := by decide +kernel
theorem dX1_tryFrom_80 : decode cX1_tryFrom 80 = .ok (.iload_n 1, 1) := by decide +kernel
theorem dX1_tryFrom_81 : decode cX1_tryFrom 81 = .ok (.iconst 1, 1) := by decide +kernel
theorem dX1_tryFrom_82 : decode cX1_tryFrom 82 = .ok (.iadd, 1) := by decide +kernel
theorem dX1_tryFrom_83 : decode cX1_tryFrom 83 = .ok (.invokevirtual 60, 3) := by decide +kernel
theorem dX1_tryFrom_86 : decode cX1_tryFrom 86 = .ok (.return_, 1) := by decide +kernel
theorem dX1_weigh_0 : decode cX1_weigh 0 = .ok (.iconst 0, 1) := by decide +kernel
theorem dX1_weigh_1 : decode cX1_weigh 1 = .ok (.istore_n 1, 1) := by decide +kernel
theorem dX1_weigh_2 : decode cX1_weigh 2 = .ok (.iconst 0, 1) := by decide +kernel
theorem dX1_weigh_3 : decode cX1_weigh 3 = .ok (.istore_n 2, 1) := by decide +kernel
theorem dX1_weigh_4 : decode cX1_weigh 4 = .ok (.iload_n 2, 1) := by decide +kernel
theorem dX1_weigh_5 : decode cX1_weigh 5 = .ok (.aload_n 0, 1) := by decide +kernel
theorem dX1_weigh_6 : decode cX1_weigh 6 = .ok (.getfield 38, 3) := by decide +kernel
theorem dX1_weigh_9 : decode cX1_weigh 9 = .ok (.if_icmp .ge 36, 3) := by decide +kernel
theorem dX1_weigh_12 : decode cX1_weigh 12 = .ok (.iload_n 1, 1) := by decide +kernel
theorem dX1_weigh_13 : decode cX1_weigh 13 = .ok (.aload_n 0, 1) := by decide +kernel
theorem dX1_weigh_14 : decode cX1_weigh 14 = .ok (.getfield 24, 3) := by decide +kernel
theorem dX1_weigh_17 : decode cX1_weigh 17 = .ok (.iload_n 2, 1) := by decide +kernel
theorem dX1_weigh_18 : decode cX1_weigh 18 = .ok (.bipush 16, 2) := by decide +kernel
theorem dX1_weigh_20 : decode cX1_weigh 20 = .ok (.imul, 1) := by decide +kernel
theorem dX1_weigh_21 : decode cX1_weigh 21 = .ok (.aload_n 0, 1) := by decide +kernel
theorem dX1_weigh_22 : decode cX1_weigh 22 = .ok (.getfield 35, 3) := by decide +kernel
theorem dX1_weigh_25 : decode cX1_weigh 25 = .ok (.iload_n 2, 1) := by decide +kernel
theorem dX1_weigh_26 : decode cX1_weigh 26 = .ok (.iaload, 1) := by decide +kernel
theorem dX1_weigh_27 : decode cX1_weigh 27 = .ok (.iadd, 1) := by decide +kernel
theorem dX1_weigh_28 : decode cX1_weigh 28 = .ok (.baload, 1) := by decide +kernel
theorem dX1_weigh_29 : decode cX1_weigh 29 = .ok (.ifCond .eq 7, 3) := by decide +kernel
theorem dX1_weigh_32 : decode cX1_weigh 32 = .ok (.iconst 1, 1) := by decide +kernel
theorem dX1_weigh_33 : decode cX1_weigh 33 = .ok (.goto 4, 3) := by decide +kernel
theorem dX1_weigh_36 : decode cX1_weigh 36 = .ok (.iconst 0, 1) := by decide +kernel
theorem dX1_weigh_37 : decode cX1_weigh 37 = .ok (.iadd, 1) := by decide +kernel
theorem dX1_weigh_38 : decode cX1_weigh 38 = .ok (.istore_n 1, 1) := by decide +kernel
theorem dX1_weigh_39 : decode cX1_weigh 39 = .ok (.iinc 2 1, 3) := by decide +kernel
theorem dX1_weigh_42 : decode cX1_weigh 42 = .ok (.goto (-38), 3) := by decide +kernel
theorem dX1_weigh_45 : decode cX1_weigh 45 = .ok (.iload_n 1, 1) := by decide +kernel
theorem dX1_weigh_46 : decode cX1_weigh 46 = .ok (.aload_n 0, 1) := by decide +kernel
theorem dX1_weigh_47 : decode cX1_weigh 47 = .ok (.getfield 11, 3) := by decide +kernel
theorem dX1_weigh_50 : decode cX1_weigh 50 = .ok (.if_icmp .ge 25, 3) := by decide +kernel
theorem dX1_weigh_53 : decode cX1_weigh 53 = .ok (.aload_n 0, 1) := by decide +kernel
theorem dX1_weigh_54 : decode cX1_weigh 54 = .ok (.iload_n 1, 1) := by decide +kernel
theorem dX1_weigh_55 : decode cX1_weigh 55 = .ok (.putfield 11, 3) := by decide +kernel
theorem dX1_weigh_58 : decode cX1_weigh 58 = .ok (.aload_n 0, 1) := by decide +kernel
theorem dX1_weigh_59 : decode cX1_weigh 59 = .ok (.getfield 28, 3) := by decide +kernel
theorem dX1_weigh_62 : decode cX1_weigh 62 = .ok (.iconst 0, 1) := by decide +kernel
theorem dX1_weigh_63 : decode cX1_weigh 63 = .ok (.aload_n 0, 1) := by decide +kernel
theorem dX1_weigh_64 : decode cX1_weigh 64 = .ok (.getfield 32, 3) := by decide +kernel
theorem dX1_weigh_67 : decode cX1_weigh 67 = .ok (.iconst 0, 1) := by decide +kernel
theorem dX1_weigh_68 : decode cX1_weigh 68 = .ok (.aload_n 0, 1) := by decide +kernel
theorem dX1_weigh_69 : decode cX1_weigh 69 = .ok (.getfield 41, 3) := by decide +kernel
theorem dX1_weigh_72 : decode cX1_weigh 72 = .ok (.invokestatic 81, 3) := by decide +kernel
theorem dX1_weigh_75 : decode cX1_weigh 75 = .ok (.return_, 1) := by decide +kernel
theorem dX2_init_0 : decode cX2_init 0 = .ok (.aload_n 0, 1) := by decide +kernel
theorem dX2_init_1 : decode cX2_init 1 = .ok (.invokespecial 3, 3) := by decide +kernel
theorem dX2_init_4 : decode cX2_init 4 = .ok (.aload_n 0, 1) := by decide +kernel
theorem dX2_init_5 : decode cX2_init 5 = .ok (.iconst 0, 1) := by decide +kernel
theorem dX2_init_6 : decode cX2_init 6 = .ok (.iload_n 1, 1) := by decide +kernel
theorem dX2_init_7 : decode cX2_init 7 = .ok (.invokestatic 9, 3) := by decide +kernel
theorem dX2_init_10 : decode cX2_init 10 = .ok (.putfield 15, 3) := by decide +kernel
theorem dX2_init_13 : decode cX2_init 13 = .ok (.aload_n 0, 1) := by decide +kernel
theorem dX2_init_14 : decode cX2_init 14 = .ok (.aload_n 0, 1) := by decide +kernel
theorem dX2_init_15 : decode cX2_init 15 = .ok (.getfield 15, 3) := by decide +kernel
theorem dX2_init_18 : decode cX2_init 18 = .ok (.iconst 1, 1) := by decide +kernel
theorem dX2_init_19 : decode cX2_init 19 = .ok (.iadd, 1) := by decide +kernel
theorem dX2_init_20 : decode cX2_init 20 = .ok (.bipush 10, 2) := by decide +kernel
theorem dX2_init_22 : decode cX2_init 22 = .ok (.imul, 1) := by decide +kernel
theorem dX2_init_23 : decode cX2_init 23 = .ok (.newarray .int, 2) := by decide +kernel
theorem dX2_init_25 : decode cX2_init 25 = .ok (.putfield 21, 3) := by decide +kernel
theorem dX2_init_28 : decode cX2_init 28 = .ok (.return_, 1) := by decide +kernel
theorem dX2_tell_0 : decode cX2_tell 0 = .ok (.aload_n 1, 1) := by decide +kernel
theorem dX2_tell_1 : decode cX2_tell 1 = .ok (.getfield 25, 3) := by decide +kernel
theorem dX2_tell_4 : decode cX2_tell 4 = .ok (.iconst 0, 1) := by decide +kernel
theorem dX2_tell_5 : decode cX2_tell 5 = .ok (.aload_n 0, 1) := by decide +kernel
theorem dX2_tell_6 : decode cX2_tell 6 = .ok (.getfield 21, 3) := by decide +kernel
theorem dX2_tell_9 : decode cX2_tell 9 = .ok (.iconst 0, 1) := by decide +kernel
theorem dX2_tell_10 : decode cX2_tell 10 = .ok (.bipush 10, 2) := by decide +kernel
theorem dX2_tell_12 : decode cX2_tell 12 = .ok (.invokestatic 30, 3) := by decide +kernel
theorem dX2_tell_15 : decode cX2_tell 15 = .ok (.iconst 0, 1) := by decide +kernel
theorem dX2_tell_16 : decode cX2_tell 16 = .ok (.istore_n 3, 1) := by decide +kernel
theorem dX2_tell_17 : decode cX2_tell 17 = .ok (.iload_n 3, 1) := by decide +kernel
theorem dX2_tell_18 : decode cX2_tell 18 = .ok (.iload_n 2, 1) := by decide +kernel
theorem dX2_tell_19 : decode cX2_tell 19 = .ok (.if_icmp .ge 62, 3) := by decide +kernel
theorem dX2_tell_22 : decode cX2_tell 22 = .ok (.iload_n 3, 1) := by decide +kernel
theorem dX2_tell_23 : decode cX2_tell 23 = .ok (.aload_n 0, 1) := by decide +kernel
theorem dX2_tell_24 : decode cX2_tell 24 = .ok (.getfield 15, 3) := by decide +kernel
theorem dX2_tell_27 : decode cX2_tell 27 = .ok (.if_icmp .ge 54, 3) := by decide +kernel
theorem dX2_tell_30 : decode cX2_tell 30 = .ok (.iload_n 3, 1) := by decide +kernel
theorem dX2_tell_31 : decode cX2_tell 31 = .ok (.bipush 10, 2) := by decide +kernel
theorem dX2_tell_33 : decode cX2_tell 33 = .ok (.imul, 1) := by decide +kernel
theorem dX2_tell_34 : decode cX2_tell 34 = .ok (.istore 4, 2) := by decide +kernel
theorem dX2_tell_36 : decode cX2_tell 36 = .ok (.aload_n 0, 1) := by decide +kernel
theorem dX2_tell_37 : decode cX2_tell 37 = .ok (.getfield 21, 3) := by decide +kernel
theorem dX2_tell_40 : decode cX2_tell 40 = .ok (.iload 4, 2) := by decide +kernel
theorem dX2_tell_42 : decode cX2_tell 42 = .ok (.aload_n 0, 1) := by decide +kernel
theorem dX2_tell_43 : decode cX2_tell 43 = .ok (.getfield 21, 3) := by decide +kernel
theorem dX2_tell_46 : decode cX2_tell 46 = .ok (.iload 4, 2) := by decide +kernel
theorem dX2_tell_48 : decode cX2_tell 48 = .ok (.bipush 10, 2) := by decide +kernel
theorem dX2_tell_50 : decode cX2_tell 50 = .ok (.iadd, 1) := by decide +kernel
theorem dX2_tell_51 : decode cX2_tell 51 = .ok (.bipush 10, 2) := by decide +kernel
theorem dX2_tell_53 : decode cX2_tell 53 = .ok (.invokestatic 30, 3) := by decide +kernel
theorem dX2_tell_56 : decode cX2_tell 56 = .ok (.aload_n 1, 1) := by decide +kernel
theorem dX2_tell_57 : decode cX2_tell 57 = .ok (.aload_n 0, 1) := by decide +kernel
theorem dX2_tell_58 : decode cX2_tell 58 = .ok (.getfield 21, 3) := by decide +kernel
theorem dX2_tell_61 : decode cX2_tell 61 = .ok (.iload 4, 2) := by decide +kernel
theorem dX2_tell_63 : decode cX2_tell 63 = .ok (.bipush 10, 2) := by decide +kernel
theorem dX2_tell_65 : decode cX2_tell 65 = .ok (.iadd, 1) := by decide +kernel
theorem dX2_tell_66 : decode cX2_tell 66 = .ok (.aload_n 1, 1) := by decide +kernel
theorem dX2_tell_67 : decode cX2_tell 67 = .ok (.getfield 36, 3) := by decide +kernel
theorem dX2_tell_70 : decode cX2_tell 70 = .ok (.iload_n 3, 1) := by decide +kernel
theorem dX2_tell_71 : decode cX2_tell 71 = .ok (.iadd, 1) := by decide +kernel
theorem dX2_tell_72 : decode cX2_tell 72 = .ok (.invokevirtual 39, 3) := by decide +kernel
theorem dX2_tell_75 : decode cX2_tell 75 = .ok (.iinc 3 1, 3) := by decide +kernel
theorem dX2_tell_78 : decode cX2_tell 78 = .ok (.goto (-61), 3) := by decide +kernel
theorem dX2_tell_81 : decode cX2_tell 81 = .ok (.return_, 1) := by decide +kernel
theorem dX2_lavaIn_0 : decode cX2_lavaIn 0 = .ok (.aload_n 0, 1) := by decide +kernel
theorem dX2_lavaIn_1 : decode cX2_lavaIn 1 = .ok (.getfield 21, 3) := by decide +kernel
theorem dX2_lavaIn_4 : decode cX2_lavaIn 4 = .ok (.iload_n 2, 1) := by decide +kernel
theorem dX2_lavaIn_5 : decode cX2_lavaIn 5 = .ok (.bipush 10, 2) := by decide +kernel
theorem dX2_lavaIn_7 : decode cX2_lavaIn 7 = .ok (.imul, 1) := by decide +kernel
theorem dX2_lavaIn_8 : decode cX2_lavaIn 8 = .ok (.iload_n 1, 1) := by decide +kernel
theorem dX2_lavaIn_9 : decode cX2_lavaIn 9 = .ok (.iadd, 1) := by decide +kernel
theorem dX2_lavaIn_10 : decode cX2_lavaIn 10 = .ok (.iaload, 1) := by decide +kernel
theorem dX2_lavaIn_11 : decode cX2_lavaIn 11 = .ok (.ireturn, 1) := by decide +kernel
theorem dX2_placeAfter_0 : decode cX2_placeAfter 0 = .ok (.aload_n 1, 1) := by decide +kernel
theorem dX2_placeAfter_1 : decode cX2_placeAfter 1 = .ok (.iload_n 3, 1) := by decide +kernel
theorem dX2_placeAfter_2 : decode cX2_placeAfter 2 = .ok (.aload_n 1, 1) := by decide +kernel
theorem dX2_placeAfter_3 : decode cX2_placeAfter 3 = .ok (.getfield 43, 3) := by decide +kernel
theorem dX2_placeAfter_6 : decode cX2_placeAfter 6 = .ok (.iload_n 2, 1) := by decide +kernel
theorem dX2_placeAfter_7 : decode cX2_placeAfter 7 = .ok (.iaload, 1) := by decide +kernel
theorem dX2_placeAfter_8 : decode cX2_placeAfter 8 = .ok (.aload_n 1, 1) := by decide +kernel
theorem dX2_placeAfter_9 : decode cX2_placeAfter 9 = .ok (.getfield 46, 3) := by decide +kernel
theorem dX2_placeAfter_12 : decode cX2_placeAfter 12 = .ok (.iload_n 2, 1) := by decide +kernel
theorem dX2_placeAfter_13 : decode cX2_placeAfter 13 = .ok (.iaload, 1) := by decide +kernel
theorem dX2_placeAfter_14 : decode cX2_placeAfter 14 = .ok (.aload_n 0, 1) := by decide +kernel
theorem dX2_placeAfter_15 : decode cX2_placeAfter 15 = .ok (.getfield 21, 3) := by decide +kernel
theorem dX2_placeAfter_18 : decode cX2_placeAfter 18 = .ok (.iload 4, 2) := by decide +kernel
theorem dX2_placeAfter_20 : decode cX2_placeAfter 20 = .ok (.iconst 1, 1) := by decide +kernel
theorem dX2_placeAfter_21 : decode cX2_placeAfter 21 = .ok (.iadd, 1) := by decide +kernel
theorem dX2_placeAfter_22 : decode cX2_placeAfter 22 = .ok (.bipush 10, 2) := by decide +kernel
theorem dX2_placeAfter_24 : decode cX2_placeAfter 24 = .ok (.imul, 1) := by decide +kernel
theorem dX2_placeAfter_25 : decode cX2_placeAfter 25 = .ok (.aload_n 1, 1) := by decide +kernel
theorem dX2_placeAfter_26 : decode cX2_placeAfter 26 = .ok (.getfield 36, 3) := by decide +kernel
theorem dX2_placeAfter_29 : decode cX2_placeAfter 29 = .ok (.iload 4, 2) := by decide +kernel
theorem dX2_placeAfter_31 : decode cX2_placeAfter 31 = .ok (.iadd, 1) := by decide +kernel
theorem dX2_placeAfter_32 : decode cX2_placeAfter 32 = .ok (.invokevirtual 49, 3) := by decide +kernel
theorem dX2_placeAfter_35 : decode cX2_placeAfter 35 = .ok (.ireturn, 1) := by decide +kernel
theorem dX2_placeBehind_0 : decode cX2_placeBehind 0 = .ok (.iload_n 3, 1) := by decide +kernel
theorem dX2_placeBehind_1 : decode cX2_placeBehind 1 = .ok (.istore 5, 2) := by decide +kernel
theorem dX2_placeBehind_3 : decode cX2_placeBehind 3 = .ok (.iconst 0, 1) := by decide +kernel
theorem dX2_placeBehind_4 : decode cX2_placeBehind 4 = .ok (.istore 6, 2) := by decide +kernel
theorem dX2_placeBehind_6 : decode cX2_placeBehind 6 = .ok (.iload 6, 2) := by decide +kernel
theorem dX2_placeBehind_8 : decode cX2_placeBehind 8 = .ok (.iload 4, 2) := by decide +kernel
theorem dX2_placeBehind_10 : decode cX2_placeBehind 10 = .ok (.if_icmp .ge 28, 3) := by decide +kernel
theorem dX2_placeBehind_13 : decode cX2_placeBehind 13 = .ok (.iload 5, 2) := by decide +kernel
theorem dX2_placeBehind_15 : decode cX2_placeBehind 15 = .ok (.bipush 20, 2) := by decide +kernel
theorem dX2_placeBehind_17 : decode cX2_placeBehind 17 = .ok (.if_icmp .ge 21, 3) := by decide +kernel
theorem dX2_placeBehind_20 : decode cX2_placeBehind 20 = .ok (.aload_n 0, 1) := by decide +kernel
theorem dX2_placeBehind_21 : decode cX2_placeBehind 21 = .ok (.aload_n 1, 1) := by decide +kernel
theorem dX2_placeBehind_22 : decode cX2_placeBehind 22 = .ok (.iload_n 2, 1) := by decide +kernel
theorem dX2_placeBehind_23 : decode cX2_placeBehind 23 = .ok (.iload 5, 2) := by decide +kernel
theorem dX2_placeBehind_25 : decode cX2_placeBehind 25 = .ok (.iload 6, 2) := by decide +kernel
theorem dX2_placeBehind_27 : decode cX2_placeBehind 27 = .ok (.invokevirtual 53, 3) := by decide +kernel
theorem dX2_placeBehind_30 : decode cX2_placeBehind 30 = .ok (.istore 5, 2) := by decide +kernel
theorem dX2_placeBehind_32 : decode cX2_placeBehind 32 = .ok (.iinc 6 1, 3) := by decide +kernel
theorem dX2_placeBehind_35 : decode cX2_placeBehind 35 = .ok (.goto (-29), 3) := by decide +kernel
theorem dX2_placeBehind_38 : decode cX2_placeBehind 38 = .ok (.iload 5, 2) := by decide +kernel
theorem dX2_placeBehind_40 : decode cX2_placeBehind 40 = .ok (.ireturn, 1) := by decide +kernel
theorem dX3_init_0 : decode cX3_init 0 = .ok (.aload_n 0, 1) := by decide +kernel
theorem dX3_init_1 : decode cX3_init 1 = .ok (.invokespecial 3, 3) := by decide +kernel
theorem dX3_init_4 : decode cX3_init 4 = .ok (.aload_n 0, 1) := by decide +kernel
theorem dX3_init_5 : decode cX3_init 5 = .ok (.iconst 0, 1) := by decide +kernel
theorem dX3_init_6 : decode cX3_init 6 = .ok (.putfield 9, 3) := by decide +kernel
theorem dX3_init_9 : decode cX3_init 9 = .ok (.aload_n 0, 1) := by decide +kernel
theorem dX3_init_10 : decode cX3_init 10 = .ok (.iconst 0, 1) := by decide +kernel
theorem dX3_init_11 : decode cX3_init 11 = .ok (.putfield 15, 3) := by decide +kernel
theorem dX3_init_14 : decode cX3_init 14 = .ok (.aload_n 0, 1) := by decide +kernel
theorem dX3_init_15 : decode cX3_init 15 = .ok (.bipush 24, 2) := by decide +kernel
theorem dX3_init_17 : decode cX3_init 17 = .ok (.anewarray 18, 3) := by decide +kernel
theorem dX3_init_20 : decode cX3_init 20 = .ok (.putfield 20, 3) := by decide +kernel
theorem dX3_init_23 : decode cX3_init 23 = .ok (.iconst 0, 1) := by decide +kernel
theorem dX3_init_24 : decode cX3_init 24 = .ok (.istore_n 1, 1) := by decide +kernel
theorem dX3_init_25 : decode cX3_init 25 = .ok (.iload_n 1, 1) := by decide +kernel
theorem dX3_init_26 : decode cX3_init 26 = .ok (.bipush 24, 2) := by decide +kernel
theorem dX3_init_28 : decode cX3_init 28 = .ok (.if_icmp .ge 22, 3) := by decide +kernel
theorem dX3_init_31 : decode cX3_init 31 = .ok (.aload_n 0, 1) := by decide +kernel
theorem dX3_init_32 : decode cX3_init 32 = .ok (.getfield 20, 3) := by decide +kernel
theorem dX3_init_35 : decode cX3_init 35 = .ok (.iload_n 1, 1) := by decide +kernel
theorem dX3_init_36 : decode cX3_init 36 = .ok (.new 18, 3) := by decide +kernel
theorem dX3_init_39 : decode cX3_init 39 = .ok (.dup, 1) := by decide +kernel
theorem dX3_init_40 : decode cX3_init 40 = .ok (.invokespecial 24, 3) := by decide +kernel
theorem dX3_init_43 : decode cX3_init 43 = .ok (.aastore, 1) := by decide +kernel
theorem dX3_init_44 : decode cX3_init 44 = .ok (.iinc 1 1, 3) := by decide +kernel
theorem dX3_init_47 : decode cX3_init 47 = .ok (.goto (-22), 3) := by decide +kernel
theorem dX3_init_50 : decode cX3_init 50 = .ok (.return_, 1) := by decide +kernel
theorem dX3_keep_0 : decode cX3_keep 0 = .ok (.aload_n 0, 1) := by decide +kernel
theorem dX3_keep_1 : decode cX3_keep 1 = .ok (.getfield 20, 3) := by decide +kernel
theorem dX3_keep_4 : decode cX3_keep 4 = .ok (.aload_n 0, 1) := by decide +kernel
theorem dX3_keep_5 : decode cX3_keep 5 = .ok (.getfield 15, 3) := by decide +kernel
theorem dX3_keep_8 : decode cX3_keep 8 = .ok (.aload_n 0, 1) := by decide +kernel
theorem dX3_keep_9 : decode cX3_keep 9 = .ok (.getfield 9, 3) := by decide +kernel
theorem dX3_keep_12 : decode cX3_keep 12 = .ok (.iadd, 1) := by decide +kernel
theorem dX3_keep_13 : decode cX3_keep 13 = .ok (.bipush 24, 2) := by decide +kernel
theorem dX3_keep_15 : decode cX3_keep 15 = .ok (.irem, 1) := by decide +kernel
theorem dX3_keep_16 : decode cX3_keep 16 = .ok (.aaload, 1) := by decide +kernel
theorem dX3_keep_17 : decode cX3_keep 17 = .ok (.aload_n 1, 1) := by decide +kernel
theorem dX3_keep_18 : decode cX3_keep 18 = .ok (.invokevirtual 25, 3) := by decide +kernel
theorem dX3_keep_21 : decode cX3_keep 21 = .ok (.aload_n 0, 1) := by decide +kernel
theorem dX3_keep_22 : decode cX3_keep 22 = .ok (.getfield 9, 3) := by decide +kernel
theorem dX3_keep_25 : decode cX3_keep 25 = .ok (.bipush 24, 2) := by decide +kernel
theorem dX3_keep_27 : decode cX3_keep 27 = .ok (.if_icmp .ge 16, 3) := by decide +kernel
theorem dX3_keep_30 : decode cX3_keep 30 = .ok (.aload_n 0, 1) := by decide +kernel
theorem dX3_keep_31 : decode cX3_keep 31 = .ok (.dup, 1) := by decide +kernel
theorem dX3_keep_32 : decode cX3_keep 32 = .ok (.getfield 9, 3) := by decide +kernel
theorem dX3_keep_35 : decode cX3_keep 35 = .ok (.iconst 1, 1) := by decide +kernel
theorem dX3_keep_36 : decode cX3_keep 36 = .ok (.iadd, 1) := by decide +kernel
theorem dX3_keep_37 : decode cX3_keep 37 = .ok (.putfield 9, 3) := by decide +kernel
theorem dX3_keep_40 : decode cX3_keep 40 = .ok (.goto 16, 3) := by decide +kernel
theorem dX3_keep_43 : decode cX3_keep 43 = .ok (.aload_n 0, 1) := by decide +kernel
theorem dX3_keep_44 : decode cX3_keep 44 = .ok (.aload_n 0, 1) := by decide +kernel
theorem dX3_keep_45 : decode cX3_keep 45 = .ok (.getfield 15, 3) := by decide +kernel
theorem dX3_keep_48 : decode cX3_keep 48 = .ok (.iconst 1, 1) := by decide +kernel
theorem dX3_keep_49 : decode cX3_keep 49 = .ok (.iadd, 1) := by decide +kernel
theorem dX3_keep_50 : decode cX3_keep 50 = .ok (.bipush 24, 2) := by decide +kernel
theorem dX3_keep_52 : decode cX3_keep 52 = .ok (.irem, 1) := by decide +kernel
theorem dX3_keep_53 : decode cX3_keep 53 = .ok (.putfield 15, 3) := by decide +kernel
theorem dX3_keep_56 : decode cX3_keep 56 = .ok (.return_, 1) := by decide +kernel
theorem dX3_goBack_0 : decode cX3_goBack 0 = .ok (.aload_n 0, 1) := by decide +kernel
theorem dX3_goBack_1 : decode cX3_goBack 1 = .ok (.getfield 9, 3) := by decide +kernel
theorem dX3_goBack_4 : decode cX3_goBack 4 = .ok (.ifCond .ne 5, 3) := by decide +kernel
theorem dX3_goBack_7 : decode cX3_goBack 7 = .ok (.iconst 0, 1) := by decide +kernel
theorem dX3_goBack_8 : decode cX3_goBack 8 = .ok (.ireturn, 1) := by decide +kernel
theorem dX3_goBack_9 : decode cX3_goBack 9 = .ok (.aload_n 0, 1) := by decide +kernel
theorem dX3_goBack_10 : decode cX3_goBack 10 = .ok (.dup, 1) := by decide +kernel
theorem dX3_goBack_11 : decode cX3_goBack 11 = .ok (.getfield 9, 3) := by decide +kernel
theorem dX3_goBack_14 : decode cX3_goBack 14 = .ok (.iconst 1, 1) := by decide +kernel
theorem dX3_goBack_15 : decode cX3_goBack 15 = .ok (.isub, 1) := by decide +kernel
theorem dX3_goBack_16 : decode cX3_goBack 16 = .ok (.putfield 9, 3) := by decide +kernel
theorem dX3_goBack_19 : decode cX3_goBack 19 = .ok (.aload_n 1, 1) := by decide +kernel
theorem dX3_goBack_20 : decode cX3_goBack 20 = .ok (.aload_n 0, 1) := by decide +kernel
theorem dX3_goBack_21 : decode cX3_goBack 21 = .ok (.getfield 20, 3) := by decide +kernel
theorem dX3_goBack_24 : decode cX3_goBack 24 = .ok (.aload_n 0, 1) := by decide +kernel
theorem dX3_goBack_25 : decode cX3_goBack 25 = .ok (.getfield 15, 3) := by decide +kernel
theorem dX3_goBack_28 : decode cX3_goBack 28 = .ok (.aload_n 0, 1) := by decide +kernel
theorem dX3_goBack_29 : decode cX3_goBack 29 = .ok (.getfield 9, 3) := by decide +kernel
theorem dX3_goBack_32 : decode cX3_goBack 32 = .ok (.iadd, 1) := by decide +kernel
theorem dX3_goBack_33 : decode cX3_goBack 33 = .ok (.bipush 24, 2) := by decide +kernel
theorem dX3_goBack_35 : decode cX3_goBack 35 = .ok (.irem, 1) := by decide +kernel
theorem dX3_goBack_36 : decode cX3_goBack 36 = .ok (.aaload, 1) := by decide +kernel
theorem dX3_goBack_37 : decode cX3_goBack 37 = .ok (.invokevirtual 25, 3) := by decide +kernel
theorem dX3_goBack_40 : decode cX3_goBack 40 = .ok (.iconst 1, 1) := by decide +kernel
theorem dX3_goBack_41 : decode cX3_goBack 41 = .ok (.ireturn, 1) := by decide +kernel
theorem dX3_forget_0 : decode cX3_forget 0 = .ok (.aload_n 0, 1) := by decide +kernel
theorem dX3_forget_1 : decode cX3_forget 1 = .ok (.iconst 0, 1) := by decide +kernel
theorem dX3_forget_2 : decode cX3_forget 2 = .ok (.putfield 9, 3) := by decide +kernel
theorem dX3_forget_5 : decode cX3_forget 5 = .ok (.aload_n 0, 1) := by decide +kernel
theorem dX3_forget_6 : decode cX3_forget 6 = .ok (.iconst 0, 1) := by decide +kernel
theorem dX3_forget_7 : decode cX3_forget 7 = .ok (.putfield 15, 3) := by decide +kernel
theorem dX3_forget_10 : decode cX3_forget 10 = .ok (.return_, 1) := by decide +kernel
theorem dX4_init_0 : decode cX4_init 0 = .ok (.aload_n 0, 1) := by decide +kernel
theorem dX4_init_1 : decode cX4_init 1 = .ok (.invokespecial 3, 3) := by decide +kernel
theorem dX4_init_4 : decode cX4_init 4 = .ok (.aload_n 0, 1) := by decide +kernel
theorem dX4_init_5 : decode cX4_init 5 = .ok (.bipush 8, 2) := by decide +kernel
theorem dX4_init_7 : decode cX4_init 7 = .ok (.bipush 40, 2) := by decide +kernel
theorem dX4_init_9 : decode cX4_init 9 = .ok (.multianewarray 11 2, 4) := by decide +kernel
theorem dX4_init_13 : decode cX4_init 13 = .ok (.putfield 13, 3) := by decide +kernel
theorem dX4_init_16 : decode cX4_init 16 = .ok (.aload_n 0, 1) := by decide +kernel
theorem dX4_init_17 : decode cX4_init 17 = .ok (.bipush 8, 2) := by decide +kernel
theorem dX4_init_19 : decode cX4_init 19 = .ok (.newarray .int, 2) := by decide +kernel
theorem dX4_init_21 : decode cX4_init 21 = .ok (.putfield 16, 3) := by decide +kernel
theorem dX4_init_24 : decode cX4_init 24 = .ok (.aload_n 0, 1) := by decide +kernel
theorem dX4_init_25 : decode cX4_init 25 = .ok (.bipush 8, 2) := by decide +kernel
theorem dX4_init_27 : decode cX4_init 27 = .ok (.newarray .int, 2) := by decide +kernel
theorem dX4_init_29 : decode cX4_init 29 = .ok (.putfield 20, 3) := by decide +kernel
theorem dX4_init_32 : decode cX4_init 32 = .ok (.iconst 0, 1) := by decide +kernel
theorem dX4_init_33 : decode cX4_init 33 = .ok (.istore_n 1, 1) := by decide +kernel
theorem dX4_init_34 : decode cX4_init 34 = .ok (.iload_n 1, 1) := by decide +kernel
theorem dX4_init_35 : decode cX4_init 35 = .ok (.bipush 8, 2) := by decide +kernel
theorem dX4_init_37 : decode cX4_init 37 = .ok (.if_icmp .ge 16, 3) := by decide +kernel
theorem dX4_init_40 : decode cX4_init 40 = .ok (.aload_n 0, 1) := by decide +kernel
theorem dX4_init_41 : decode cX4_init 41 = .ok (.getfield 16, 3) := by decide +kernel
theorem dX4_init_44 : decode cX4_init 44 = .ok (.iload_n 1, 1) := by decide +kernel
theorem dX4_init_45 : decode cX4_init 45 = .ok (.iconst (-1), 1) := by decide +kernel
theorem dX4_init_46 : decode cX4_init 46 = .ok (.iastore, 1) := by decide +kernel
theorem dX4_init_47 : decode cX4_init 47 = .ok (.iinc 1 1, 3) := by decide +kernel
theorem dX4_init_50 : decode cX4_init 50 = .ok (.goto (-16), 3) := by decide +kernel
theorem dX4_init_53 : decode cX4_init 53 = .ok (.return_, 1) := by decide +kernel
theorem dX4_isNumber_0 : decode cX4_isNumber 0 = .ok (.iload_n 1, 1) := by decide +kernel
theorem dX4_isNumber_1 : decode cX4_isNumber 1 = .ok (.ifCond .lt 13, 3) := by decide +kernel
theorem dX4_isNumber_4 : decode cX4_isNumber 4 = .ok (.iload_n 1, 1) := by decide +kernel
theorem dX4_isNumber_5 : decode cX4_isNumber 5 = .ok (.bipush 8, 2) := by decide +kernel
theorem dX4_isNumber_7 : decode cX4_isNumber 7 = .ok (.if_icmp .ge 7, 3) := by decide +kernel
theorem dX4_isNumber_10 : decode cX4_isNumber 10 = .ok (.iconst 1, 1) := by decide +kernel
theorem dX4_isNumber_11 : decode cX4_isNumber 11 = .ok (.goto 4, 3) := by decide +kernel
theorem dX4_isNumber_14 : decode cX4_isNumber 14 = .ok (.iconst 0, 1) := by decide +kernel
theorem dX4_isNumber_15 : decode cX4_isNumber 15 = .ok (.ireturn, 1) := by decide +kernel
theorem dX4_isMissing_0 : decode cX4_isMissing 0 = .ok (.aload_n 0, 1) := by decide +kernel
theorem dX4_isMissing_1 : decode cX4_isMissing 1 = .ok (.getfield 16, 3) := by decide +kernel
theorem dX4_isMissing_4 : decode cX4_isMissing 4 = .ok (.iload_n 1, 1) := by decide +kernel
theorem dX4_isMissing_5 : decode cX4_isMissing 5 = .ok (.iaload, 1) := by decide +kernel
theorem dX4_isMissing_6 : decode cX4_isMissing 6 = .ok (.iconst (-1), 1) := by decide +kernel
theorem dX4_isMissing_7 : decode cX4_isMissing 7 = .ok (.if_icmp .ne 7, 3) := by decide +kernel
theorem dX4_isMissing_10 : decode cX4_isMissing 10 = .ok (.iconst 1, 1) := by decide +kernel
theorem dX4_isMissing_11 : decode cX4_isMissing 11 = .ok (.goto 4, 3) := by decide +kernel
theorem dX4_isMissing_14 : decode cX4_isMissing 14 = .ok (.iconst 0, 1) := by decide +kernel
theorem dX4_isMissing_15 : decode cX4_isMissing 15 = .ok (.ireturn, 1) := by decide +kernel
theorem dX4_present_0 : decode cX4_present 0 = .ok (.iconst 0, 1) := by decide +kernel
theorem dX4_present_1 : decode cX4_present 1 = .ok (.istore_n 1, 1) := by decide +kernel
theorem dX4_present_2 : decode cX4_present 2 = .ok (.iconst 0, 1) := by decide +kernel
theorem dX4_present_3 : decode cX4_present 3 = .ok (.istore_n 2, 1) := by decide +kernel
theorem dX4_present_4 : decode cX4_present 4 = .ok (.iload_n 2, 1) := by decide +kernel
theorem dX4_present_5 : decode cX4_present 5 = .ok (.bipush 8, 2) := by decide +kernel
theorem dX4_present_7 : decode cX4_present 7 = .ok (.if_icmp .ge 20, 3) := by decide +kernel
theorem dX4_present_10 : decode cX4_present 10 = .ok (.aload_n 0, 1) := by decide +kernel
theorem dX4_present_11 : decode cX4_present 11 = .ok (.iload_n 2, 1) := by decide +kernel
theorem dX4_present_12 : decode cX4_present 12 = .ok (.invokevirtual 23, 3) := by decide +kernel
theorem dX4_present_15 : decode cX4_present 15 = .ok (.ifCond .ne 6, 3) := by decide +kernel
theorem dX4_present_18 : decode cX4_present 18 = .ok (.iinc 1 1, 3) := by decide +kernel
theorem dX4_present_21 : decode cX4_present 21 = .ok (.iinc 2 1, 3) := by decide +kernel
theorem dX4_present_24 : decode cX4_present 24 = .ok (.goto (-20), 3) := by decide +kernel
theorem dX4_present_27 : decode cX4_present 27 = .ok (.iload_n 1, 1) := by decide +kernel
theorem dX4_present_28 : decode cX4_present 28 = .ok (.ireturn, 1) := by decide +kernel
theorem dX4_make_0 : decode cX4_make 0 = .ok (.aload_n 0, 1) := by decide +kernel
theorem dX4_make_1 : decode cX4_make 1 = .ok (.getfield 16, 3) := by decide +kernel
theorem dX4_make_4 : decode cX4_make 4 = .ok (.iload_n 1, 1) := by decide +kernel
theorem dX4_make_5 : decode cX4_make 5 = .ok (.iload_n 2, 1) := by decide +kernel
theorem dX4_make_6 : decode cX4_make 6 = .ok (.iastore, 1) := by decide +kernel
theorem dX4_make_7 : decode cX4_make 7 = .ok (.aload_n 0, 1) := by decide +kernel
theorem dX4_make_8 : decode cX4_make 8 = .ok (.getfield 20, 3) := by decide +kernel
theorem dX4_make_11 : decode cX4_make 11 = .ok (.iload_n 1, 1) := by decide +kernel
theorem dX4_make_12 : decode cX4_make 12 = .ok (.iload_n 3, 1) := by decide +kernel
theorem dX4_make_13 : decode cX4_make 13 = .ok (.iastore, 1) := by decide +kernel
theorem dX4_make_14 : decode cX4_make 14 = .ok (.iconst 0, 1) := by decide +kernel
theorem dX4_make_15 : decode cX4_make 15 = .ok (.istore 4, 2) := by decide +kernel
theorem dX4_make_17 : decode cX4_make 17 = .ok (.iload 4, 2) := by decide +kernel
theorem dX4_make_19 : decode cX4_make 19 = .ok (.bipush 40, 2) := by decide +kernel
theorem dX4_make_21 : decode cX4_make 21 = .ok (.if_icmp .ge 19, 3) := by decide +kernel
theorem dX4_make_24 : decode cX4_make 24 = .ok (.aload_n 0, 1) := by decide +kernel
theorem dX4_make_25 : decode cX4_make 25 = .ok (.getfield 13, 3) := by decide +kernel
theorem dX4_make_28 : decode cX4_make 28 = .ok (.iload_n 1, 1) := by decide +kernel
theorem dX4_make_29 : decode cX4_make 29 = .ok (.aaload, 1) := by decide +kernel
theorem dX4_make_30 : decode cX4_make 30 = .ok (.iload 4, 2) := by decide +kernel
theorem dX4_make_32 : decode cX4_make 32 = .ok (.iconst 0, 1) := by decide +kernel
theorem dX4_make_33 : decode cX4_make 33 = .ok (.iastore, 1) := by decide +kernel
theorem dX4_make_34 : decode cX4_make 34 = .ok (.iinc 4 1, 3) := by decide +kernel
theorem dX4_make_37 : decode cX4_make 37 = .ok (.goto (-20), 3) := by decide +kernel
theorem dX4_make_40 : decode cX4_make 40 = .ok (.return_, 1) := by decide +kernel
theorem dX4_lose_0 : decode cX4_lose 0 = .ok (.aload_n 0, 1) := by decide +kernel
theorem dX4_lose_1 : decode cX4_lose 1 = .ok (.getfield 16, 3) := by decide +kernel
theorem dX4_lose_4 : decode cX4_lose 4 = .ok (.iload_n 1, 1) := by decide +kernel
theorem dX4_lose_5 : decode cX4_lose 5 = .ok (.iconst (-1), 1) := by decide +kernel
theorem dX4_lose_6 : decode cX4_lose 6 = .ok (.iastore, 1) := by decide +kernel
theorem dX4_lose_7 : decode cX4_lose 7 = .ok (.aload_n 0, 1) := by decide +kernel
theorem dX4_lose_8 : decode cX4_lose 8 = .ok (.getfield 20, 3) := by decide +kernel
theorem dX4_lose_11 : decode cX4_lose 11 = .ok (.iload_n 1, 1) := by decide +kernel
theorem dX4_lose_12 : decode cX4_lose 12 = .ok (.iaload, 1) := by decide +kernel
theorem dX4_lose_13 : decode cX4_lose 13 = .ok (.ireturn, 1) := by decide +kernel
theorem dX4_put_0 : decode cX4_put 0 = .ok (.aload_n 0, 1) := by decide +kernel
theorem dX4_put_1 : decode cX4_put 1 = .ok (.getfield 13, 3) := by decide +kernel
theorem dX4_put_4 : decode cX4_put 4 = .ok (.iload_n 1, 1) := by decide +kernel
theorem dX4_put_5 : decode cX4_put 5 = .ok (.aaload, 1) := by decide +kernel
theorem dX4_put_6 : decode cX4_put 6 = .ok (.iload_n 2, 1) := by decide +kernel
theorem dX4_put_7 : decode cX4_put 7 = .ok (.aload_n 0, 1) := by decide +kernel
theorem dX4_put_8 : decode cX4_put 8 = .ok (.getfield 16, 3) := by decide +kernel
theorem dX4_put_11 : decode cX4_put 11 = .ok (.iload_n 1, 1) := by decide +kernel
theorem dX4_put_12 : decode cX4_put 12 = .ok (.iaload, 1) := by decide +kernel
theorem dX4_put_13 : decode cX4_put 13 = .ok (.iload_n 3, 1) := by decide +kernel
theorem dX4_put_14 : decode cX4_put 14 = .ok (.invokestatic 27, 3) := by decide +kernel
theorem dX4_put_17 : decode cX4_put 17 = .ok (.iastore, 1) := by decide +kernel
theorem dX4_put_18 : decode cX4_put 18 = .ok (.aload_n 0, 1) := by decide +kernel
theorem dX4_put_19 : decode cX4_put 19 = .ok (.getfield 13, 3) := by decide +kernel
theorem dX4_put_22 : decode cX4_put 22 = .ok (.iload_n 1, 1) := by decide +kernel
theorem dX4_put_23 : decode cX4_put 23 = .ok (.aaload, 1) := by decide +kernel
theorem dX4_put_24 : decode cX4_put 24 = .ok (.iload_n 2, 1) := by decide +kernel
theorem dX4_put_25 : decode cX4_put 25 = .ok (.iaload, 1) := by decide +kernel
theorem dX4_put_26 : decode cX4_put 26 = .ok (.ireturn, 1) := by decide +kernel
theorem dX4_item_0 : decode cX4_item 0 = .ok (.aload_n 0, 1) := by decide +kernel
theorem dX4_item_1 : decode cX4_item 1 = .ok (.getfield 13, 3) := by decide +kernel
theorem dX4_item_4 : decode cX4_item 4 = .ok (.iload_n 1, 1) := by decide +kernel
theorem dX4_item_5 : decode cX4_item 5 = .ok (.aaload, 1) := by decide +kernel
theorem dX4_item_6 : decode cX4_item 6 = .ok (.iload_n 2, 1) := by decide +kernel
theorem dX4_item_7 : decode cX4_item 7 = .ok (.iaload, 1) := by decide +kernel
theorem dX4_item_8 : decode cX4_item 8 = .ok (.ireturn, 1) := by decide +kernel
theorem dX4_move_0 : decode cX4_move 0 = .ok (.aload_n 0, 1) := by decide +kernel
theorem dX4_move_1 : decode cX4_move 1 = .ok (.getfield 13, 3) := by decide +kernel
theorem dX4_move_4 : decode cX4_move 4 = .ok (.iload_n 1, 1) := by decide +kernel
theorem dX4_move_5 : decode cX4_move 5 = .ok (.aaload, 1) := by decide +kernel
theorem dX4_move_6 : decode cX4_move 6 = .ok (.iload_n 2, 1) := by decide +kernel
theorem dX4_move_7 : decode cX4_move 7 = .ok (.aload_n 0, 1) := by decide +kernel
theorem dX4_move_8 : decode cX4_move 8 = .ok (.getfield 13, 3) := by decide +kernel
theorem dX4_move_11 : decode cX4_move 11 = .ok (.iload_n 3, 1) := by decide +kernel
theorem dX4_move_12 : decode cX4_move 12 = .ok (.aaload, 1) := by decide +kernel
theorem dX4_move_13 : decode cX4_move 13 = .ok (.iload 4, 2) := by decide +kernel
theorem dX4_move_15 : decode cX4_move 15 = .ok (.iload 5, 2) := by decide +kernel
theorem dX4_move_17 : decode cX4_move 17 = .ok (.invokestatic 31, 3) := by decide +kernel
theorem dX4_move_20 : decode cX4_move 20 = .ok (.return_, 1) := by decide +kernel
theorem dX4_findingAt_0 : decode cX4_findingAt 0 = .ok (.aload_n 0, 1) := by decide +kernel
theorem dX4_findingAt_1 : decode cX4_findingAt 1 = .ok (.iload_n 1, 1) := by decide +kernel
theorem dX4_findingAt_2 : decode cX4_findingAt 2 = .ok (.invokevirtual 23, 3) := by decide +kernel
theorem dX4_findingAt_5 : decode cX4_findingAt 5 = .ok (.ifCond .eq 5, 3) := by decide +kernel
theorem dX4_findingAt_8 : decode cX4_findingAt 8 = .ok (.iconst 1, 1) := by decide +kernel
theorem dX4_findingAt_9 : decode cX4_findingAt 9 = .ok (.ireturn, 1) := by decide +kernel
theorem dX4_findingAt_10 : decode cX4_findingAt 10 = .ok (.aload_n 0, 1) := by decide +kernel
theorem dX4_findingAt_11 : decode cX4_findingAt 11 = .ok (.iload_n 1, 1) := by decide +kernel
theorem dX4_findingAt_12 : decode cX4_findingAt 12 = .ok (.iload_n 2, 1) := by decide +kernel
theorem dX4_findingAt_13 : decode cX4_findingAt 13 = .ok (.iload_n 3, 1) := by decide +kernel
theorem dX4_findingAt_14 : decode cX4_findingAt 14 = .ok (.invokevirtual 37, 3) := by decide +kernel
theorem dX4_findingAt_17 : decode cX4_findingAt 17 = .ok (.ifCond .eq 7, 3) := by decide +kernel
theorem dX4_findingAt_20 : decode cX4_findingAt 20 = .ok (.iconst 0, 1) := by decide +kernel
theorem dX4_findingAt_21 : decode cX4_findingAt 21 = .ok (.goto 4, 3) := by decide +kernel
theorem dX4_findingAt_24 : decode cX4_findingAt 24 = .ok (.iconst 2, 1) := by decide +kernel
theorem dX4_findingAt_25 : decode cX4_findingAt 25 = .ok (.ireturn, 1) := by decide +kernel
theorem dX4_findingBetween_0 : decode cX4_findingBetween 0 = .ok (.aload_n 0, 1) := by decide +kernel
theorem dX4_findingBetween_1 : decode cX4_findingBetween 1 = .ok (.iload_n 1, 1) := by decide +kernel
theorem dX4_findingBetween_2 : decode cX4_findingBetween 2 = .ok (.invokevirtual 23, 3) := by decide +kernel
theorem dX4_findingBetween_5 : decode cX4_findingBetween 5 = .ok (.ifCond .ne 11, 3) := by decide +kernel
theorem dX4_findingBetween_8 : decode cX4_findingBetween 8 = .ok (.aload_n 0, 1) := by decide +kernel
theorem dX4_findingBetween_9 : decode cX4_findingBetween 9 = .ok (.iload_n 3, 1) := by decide +kernel
theorem dX4_findingBetween_10 : decode cX4_findingBetween 10 = .ok (.invokevirtual 23, 3) := by decide +kernel
theorem dX4_findingBetween_13 : decode cX4_findingBetween 13 = .ok (.ifCond .eq 5, 3) := by decide +kernel
theorem dX4_findingBetween_16 : decode cX4_findingBetween 16 = .ok (.iconst 1, 1) := by decide +kernel
theorem dX4_findingBetween_17 : decode cX4_findingBetween 17 = .ok (.ireturn, 1) := by decide +kernel
theorem dX4_findingBetween_18 : decode cX4_findingBetween 18 = .ok (.aload_n 0, 1) := by decide +kernel
theorem dX4_findingBetween_19 : decode cX4_findingBetween 19 = .ok (.getfield 16, 3) := by decide +kernel
theorem dX4_findingBetween_22 : decode cX4_findingBetween 22 = .ok (.iload_n 1, 1) := by decide +kernel
theorem dX4_findingBetween_23 : decode cX4_findingBetween 23 = .ok (.iaload, 1) := by decide +kernel
theorem dX4_findingBetween_24 : decode cX4_findingBetween 24 = .ok (.aload_n 0, 1) := by decide +kernel
theorem dX4_findingBetween_25 : decode cX4_findingBetween 25 = .ok (.getfield 16, 3) := by decide +kernel
theorem dX4_findingBetween_28 : decode cX4_findingBetween 28 = .ok (.iload_n 3, 1) := by decide +kernel
theorem dX4_findingBetween_29 : decode cX4_findingBetween 29 = .ok (.iaload, 1) := by decide +kernel
theorem dX4_findingBetween_30 : decode cX4_findingBetween 30 = .ok (.if_icmp .eq 5, 3) := by decide +kernel
theorem dX4_findingBetween_33 : decode cX4_findingBetween 33 = .ok (.iconst 5, 1) := by decide +kernel
theorem dX4_findingBetween_34 : decode cX4_findingBetween 34 = .ok (.ireturn, 1) := by decide +kernel
theorem dX4_findingBetween_35 : decode cX4_findingBetween 35 = .ok (.aload_n 0, 1) := by decide +kernel
theorem dX4_findingBetween_36 : decode cX4_findingBetween 36 = .ok (.iload_n 1, 1) := by decide +kernel
theorem dX4_findingBetween_37 : decode cX4_findingBetween 37 = .ok (.iload_n 2, 1) := by decide +kernel
theorem dX4_findingBetween_38 : decode cX4_findingBetween 38 = .ok (.iload 5, 2) := by decide +kernel
theorem dX4_findingBetween_40 : decode cX4_findingBetween 40 = .ok (.invokevirtual 37, 3) := by decide +kernel
theorem dX4_findingBetween_43 : decode cX4_findingBetween 43 = .ok (.ifCond .eq 19, 3) := by decide +kernel
theorem dX4_findingBetween_46 : decode cX4_findingBetween 46 = .ok (.aload_n 0, 1) := by decide +kernel
theorem dX4_findingBetween_47 : decode cX4_findingBetween 47 = .ok (.iload_n 3, 1) := by decide +kernel
theorem dX4_findingBetween_48 : decode cX4_findingBetween 48 = .ok (.iload 4, 2) := by decide +kernel
theorem dX4_findingBetween_50 : decode cX4_findingBetween 50 = .ok (.iload 5, 2) := by decide +kernel
theorem dX4_findingBetween_52 : decode cX4_findingBetween 52 = .ok (.invokevirtual 37, 3) := by decide +kernel
theorem dX4_findingBetween_55 : decode cX4_findingBetween 55 = .ok (.ifCond .eq 7, 3) := by decide +kernel
theorem dX4_findingBetween_58 : decode cX4_findingBetween 58 = .ok (.iconst 0, 1) := by decide +kernel
theorem dX4_findingBetween_59 : decode cX4_findingBetween 59 = .ok (.goto 4, 3) := by decide +kernel
theorem dX4_findingBetween_62 : decode cX4_findingBetween 62 = .ok (.iconst 2, 1) := by decide +kernel
theorem dX4_findingBetween_63 : decode cX4_findingBetween 63 = .ok (.ireturn, 1) := by decide +kernel
theorem dX4_hasPlaces_0 : decode cX4_hasPlaces 0 = .ok (.iload_n 2, 1) := by decide +kernel
theorem dX4_hasPlaces_1 : decode cX4_hasPlaces 1 = .ok (.ifCond .lt 33, 3) := by decide +kernel
theorem dX4_hasPlaces_4 : decode cX4_hasPlaces 4 = .ok (.iload_n 2, 1) := by decide +kernel
theorem dX4_hasPlaces_5 : decode cX4_hasPlaces 5 = .ok (.aload_n 0, 1) := by decide +kernel
theorem dX4_hasPlaces_6 : decode cX4_hasPlaces 6 = .ok (.getfield 20, 3) := by decide +kernel
theorem dX4_hasPlaces_9 : decode cX4_hasPlaces 9 = .ok (.iload_n 1, 1) := by decide +kernel
theorem dX4_hasPlaces_10 : decode cX4_hasPlaces 10 = .ok (.iaload, 1) := by decide +kernel
theorem dX4_hasPlaces_11 : decode cX4_hasPlaces 11 = .ok (.if_icmp .gt 23, 3) := by decide +kernel
theorem dX4_hasPlaces_14 : decode cX4_hasPlaces 14 = .ok (.iload_n 3, 1) := by decide +kernel
theorem dX4_hasPlaces_15 : decode cX4_hasPlaces 15 = .ok (.ifCond .lt 19, 3) := by decide +kernel
theorem dX4_hasPlaces_18 : decode cX4_hasPlaces 18 = .ok (.iload_n 3, 1) := by decide +kernel
theorem dX4_hasPlaces_19 : decode cX4_hasPlaces 19 = .ok (.aload_n 0, 1) := by decide +kernel
theorem dX4_hasPlaces_20 : decode cX4_hasPlaces 20 = .ok (.getfield 20, 3) := by decide +kernel
theorem dX4_hasPlaces_23 : decode cX4_hasPlaces 23 = .ok (.iload_n 1, 1) := by decide +kernel
theorem dX4_hasPlaces_24 : decode cX4_hasPlaces 24 = .ok (.iaload, 1) := by decide +kernel
theorem dX4_hasPlaces_25 : decode cX4_hasPlaces 25 = .ok (.iload_n 2, 1) := by decide +kernel
theorem dX4_hasPlaces_26 : decode cX4_hasPlaces 26 = .ok (.isub, 1) := by decide +kernel
theorem dX4_hasPlaces_27 : decode cX4_hasPlaces 27 = .ok (.if_icmp .gt 7, 3) := by decide +kernel
theorem dX4_hasPlaces_30 : decode cX4_hasPlaces 30 = .ok (.iconst 1, 1) := by decide +kernel
theorem dX4_hasPlaces_31 : decode cX4_hasPlaces 31 = .ok (.goto 4, 3) := by decide +kernel
theorem dX4_hasPlaces_34 : decode cX4_hasPlaces 34 = .ok (.iconst 0, 1) := by decide +kernel
theorem dX4_hasPlaces_35 : decode cX4_hasPlaces 35 = .ok (.ireturn, 1) := by decide +kernel
theorem dX4_cut_0 : decode cX4_cut 0 = .ok (.iload_n 0, 1) := by decide +kernel
theorem dX4_cut_1 : decode cX4_cut 1 = .ok (.ifCond .ne 6, 3) := by decide +kernel
theorem dX4_cut_4 : decode cX4_cut 4 = .ok (.iload_n 1, 1) := by decide +kernel
theorem dX4_cut_5 : decode cX4_cut 5 = .ok (.i2b, 1) := by decide +kernel
theorem dX4_cut_6 : decode cX4_cut 6 = .ok (.ireturn, 1) := by decide +kernel
theorem dX4_cut_7 : decode cX4_cut 7 = .ok (.iload_n 0, 1) := by decide +kernel
theorem dX4_cut_8 : decode cX4_cut 8 = .ok (.iconst 1, 1) := by decide +kernel
theorem dX4_cut_9 : decode cX4_cut 9 = .ok (.if_icmp .ne 8, 3) := by decide +kernel
theorem dX4_cut_12 : decode cX4_cut 12 = .ok (.iload_n 1, 1) := by decide +kernel
theorem dX4_cut_13 : decode cX4_cut 13 = .ok (.i2s, 1) := by decide +kernel
theorem dX4_cut_14 : decode cX4_cut 14 = .ok (.goto 4, 3) := by decide +kernel
theorem dX4_cut_17 : decode cX4_cut 17 = .ok (.iload_n 1, 1) := by decide +kernel
theorem dX4_cut_18 : decode cX4_cut 18 = .ok (.ireturn, 1) := by decide +kernel
theorem dX5_init_0 : decode cX5_init 0 = .ok (.aload_n 0, 1) := by decide +kernel
theorem dX5_init_1 : decode cX5_init 1 = .ok (.invokespecial 3, 3) := by decide +kernel
theorem dX5_init_4 : decode cX5_init 4 = .ok (.aload_n 0, 1) := by decide +kernel
theorem dX5_init_5 : decode cX5_init 5 = .ok (.new 9, 3) := by decide +kernel
theorem dX5_init_8 : decode cX5_init 8 = .ok (.dup, 1) := by decide +kernel
theorem dX5_init_9 : decode cX5_init 9 = .ok (.invokespecial 11, 3) := by decide +kernel
theorem dX5_init_12 : decode cX5_init 12 = .ok (.putfield 12, 3) := by decide +kernel
theorem dX5_init_15 : decode cX5_init 15 = .ok (.aload_n 0, 1) := by decide +kernel
theorem dX5_init_16 : decode cX5_init 16 = .ok (.new 18, 3) := by decide +kernel
theorem dX5_init_19 : decode cX5_init 19 = .ok (.dup, 1) := by decide +kernel
theorem dX5_init_20 : decode cX5_init 20 = .ok (.bipush 60, 2) := by decide +kernel
theorem dX5_init_22 : decode cX5_init 22 = .ok (.invokespecial 20, 3) := by decide +kernel
theorem dX5_init_25 : decode cX5_init 25 = .ok (.putfield 23, 3) := by decide +kernel
theorem dX5_init_28 : decode cX5_init 28 = .ok (.aload_n 0, 1) := by decide +kernel
theorem dX5_init_29 : decode cX5_init 29 = .ok (.bipush 12, 2) := by decide +kernel
theorem dX5_init_31 : decode cX5_init 31 = .ok (.newarray .int, 2) := by decide +kernel
theorem dX5_init_33 : decode cX5_init 33 = .ok (.putfield 27, 3) := by decide +kernel
theorem dX5_init_36 : decode cX5_init 36 = .ok (.aload_n 0, 1) := by decide +kernel
theorem dX5_init_37 : decode cX5_init 37 = .ok (.iconst 0, 1) := by decide +kernel
theorem dX5_init_38 : decode cX5_init 38 = .ok (.putfield 31, 3) := by decide +kernel
theorem dX5_init_41 : decode cX5_init 41 = .ok (.return_, 1) := by decide +kernel
theorem dX5_placeBehind_0 : decode cX5_placeBehind 0 = .ok (.aload_n 0, 1) := by decide +kernel
theorem dX5_placeBehind_1 : decode cX5_placeBehind 1 = .ok (.getfield 23, 3) := by decide +kernel
theorem dX5_placeBehind_4 : decode cX5_placeBehind 4 = .ok (.aload_n 1, 1) := by decide +kernel
theorem dX5_placeBehind_5 : decode cX5_placeBehind 5 = .ok (.iload_n 3, 1) := by decide +kernel
theorem dX5_placeBehind_6 : decode cX5_placeBehind 6 = .ok (.invokevirtual 35, 3) := by decide +kernel
theorem dX5_placeBehind_9 : decode cX5_placeBehind 9 = .ok (.aload_n 0, 1) := by decide +kernel
theorem dX5_placeBehind_10 : decode cX5_placeBehind 10 = .ok (.getfield 23, 3) := by decide +kernel
theorem dX5_placeBehind_13 : decode cX5_placeBehind 13 = .ok (.aload_n 1, 1) := by decide +kernel
theorem dX5_placeBehind_14 : decode cX5_placeBehind 14 = .ok (.iload_n 2, 1) := by decide +kernel
theorem dX5_placeBehind_15 : decode cX5_placeBehind 15 = .ok (.aload_n 1, 1) := by decide +kernel
theorem dX5_placeBehind_16 : decode cX5_placeBehind 16 = .ok (.getfield 39, 3) := by decide +kernel
theorem dX5_placeBehind_19 : decode cX5_placeBehind 19 = .ok (.iload_n 2, 1) := by decide +kernel
theorem dX5_placeBehind_20 : decode cX5_placeBehind 20 = .ok (.iaload, 1) := by decide +kernel
theorem dX5_placeBehind_21 : decode cX5_placeBehind 21 = .ok (.iload_n 3, 1) := by decide +kernel
theorem dX5_placeBehind_22 : decode cX5_placeBehind 22 = .ok (.invokevirtual 42, 3) := by decide +kernel
theorem dX5_placeBehind_25 : decode cX5_placeBehind 25 = .ok (.ireturn, 1) := by decide +kernel
theorem dX5_lavaBehind_0 : decode cX5_lavaBehind 0 = .ok (.aload_n 0, 1) := by decide +kernel
theorem dX5_lavaBehind_1 : decode cX5_lavaBehind 1 = .ok (.getfield 23, 3) := by decide +kernel
theorem dX5_lavaBehind_4 : decode cX5_lavaBehind 4 = .ok (.aload_n 1, 1) := by decide +kernel
theorem dX5_lavaBehind_5 : decode cX5_lavaBehind 5 = .ok (.iload_n 3, 1) := by decide +kernel
theorem dX5_lavaBehind_6 : decode cX5_lavaBehind 6 = .ok (.invokevirtual 35, 3) := by decide +kernel
theorem dX5_lavaBehind_9 : decode cX5_lavaBehind 9 = .ok (.aload_n 0, 1) := by decide +kernel
theorem dX5_lavaBehind_10 : decode cX5_lavaBehind 10 = .ok (.getfield 23, 3) := by decide +kernel
theorem dX5_lavaBehind_13 : decode cX5_lavaBehind 13 = .ok (.iload_n 2, 1) := by decide +kernel
theorem dX5_lavaBehind_14 : decode cX5_lavaBehind 14 = .ok (.iload_n 3, 1) := by decide +kernel
theorem dX5_lavaBehind_15 : decode cX5_lavaBehind 15 = .ok (.invokevirtual 46, 3) := by decide +kernel
theorem dX5_lavaBehind_18 : decode cX5_lavaBehind 18 = .ok (.ireturn, 1) := by decide +kernel
theorem dX5_stonesBehind_0 : decode cX5_stonesBehind 0 = .ok (.aload_n 0, 1) := by decide +kernel
theorem dX5_stonesBehind_1 : decode cX5_stonesBehind 1 = .ok (.getfield 12, 3) := by decide +kernel
theorem dX5_stonesBehind_4 : decode cX5_stonesBehind 4 = .ok (.aload_n 1, 1) := by decide +kernel
theorem dX5_stonesBehind_5 : decode cX5_stonesBehind 5 = .ok (.invokevirtual 50, 3) := by decide +kernel
theorem dX5_stonesBehind_8 : decode cX5_stonesBehind 8 = .ok (.aload_n 0, 1) := by decide +kernel
theorem dX5_stonesBehind_9 : decode cX5_stonesBehind 9 = .ok (.iload_n 2, 1) := by decide +kernel
theorem dX5_stonesBehind_10 : decode cX5_stonesBehind 10 = .ok (.invokevirtual 54, 3) := by decide +kernel
theorem dX5_stonesBehind_13 : decode cX5_stonesBehind 13 = .ok (.aload_n 0, 1) := by decide +kernel
theorem dX5_stonesBehind_14 : decode cX5_stonesBehind 14 = .ok (.getfield 12, 3) := by decide +kernel
theorem dX5_stonesBehind_17 : decode cX5_stonesBehind 17 = .ok (.invokevirtual 57, 3) := by decide +kernel
theorem dX5_stonesBehind_20 : decode cX5_stonesBehind 20 = .ok (.ireturn, 1) := by decide +kernel
theorem dX5_outsBehind_0 : decode cX5_outsBehind 0 = .ok (.aload_n 0, 1) := by decide +kernel
theorem dX5_outsBehind_1 : decode cX5_outsBehind 1 = .ok (.getfield 12, 3) := by decide +kernel
theorem dX5_outsBehind_4 : decode cX5_outsBehind 4 = .ok (.aload_n 1, 1) := by decide +kernel
theorem dX5_outsBehind_5 : decode cX5_outsBehind 5 = .ok (.invokevirtual 50, 3) := by decide +kernel
theorem dX5_outsBehind_8 : decode cX5_outsBehind 8 = .ok (.aload_n 0, 1) := by decide +kernel
theorem dX5_outsBehind_9 : decode cX5_outsBehind 9 = .ok (.iload_n 2, 1) := by decide +kernel
theorem dX5_outsBehind_10 : decode cX5_outsBehind 10 = .ok (.invokevirtual 54, 3) := by decide +kernel
theorem dX5_outsBehind_13 : decode cX5_outsBehind 13 = .ok (.aload_n 0, 1) := by decide +kernel
theorem dX5_outsBehind_14 : decode cX5_outsBehind 14 = .ok (.getfield 12, 3) := by decide +kernel
theorem dX5_outsBehind_17 : decode cX5_outsBehind 17 = .ok (.bipush 20, 2) := by decide +kernel
theorem dX5_outsBehind_19 : decode cX5_outsBehind 19 = .ok (.invokevirtual 61, 3) := by decide +kernel
theorem dX5_outsBehind_22 : decode cX5_outsBehind 22 = .ok (.ireturn, 1) := by decide +kernel
theorem dX5_passTrial_0 : decode cX5_passTrial 0 = .ok (.iconst 0, 1) := by decide +kernel
theorem dX5_passTrial_1 : decode cX5_passTrial 1 = .ok (.istore_n 2, 1) := by decide +kernel
theorem dX5_passTrial_2 : decode cX5_passTrial 2 = .ok (.iload_n 2, 1) := by decide +kernel
theorem dX5_passTrial_3 : decode cX5_passTrial 3 = .ok (.iload_n 1, 1) := by decide +kernel
theorem dX5_passTrial_4 : decode cX5_passTrial 4 = .ok (.if_icmp .ge 16, 3) := by decide +kernel
theorem dX5_passTrial_7 : decode cX5_passTrial 7 = .ok (.aload_n 0, 1) := by decide +kernel
theorem dX5_passTrial_8 : decode cX5_passTrial 8 = .ok (.getfield 12, 3) := by decide +kernel
theorem dX5_passTrial_11 : decode cX5_passTrial 11 = .ok (.invokevirtual 65, 3) := by decide +kernel
theorem dX5_passTrial_14 : decode cX5_passTrial 14 = .ok (.iinc 2 1, 3) := by decide +kernel
theorem dX5_passTrial_17 : decode cX5_passTrial 17 = .ok (.goto (-15), 3) := by decide +kernel
theorem dX5_passTrial_20 : decode cX5_passTrial 20 = .ok (.return_, 1) := by decide +kernel
theorem dX5_frontBehind_0 : decode cX5_frontBehind 0 = .ok (.aload_n 0, 1) := by decide +kernel
theorem dX5_frontBehind_1 : decode cX5_frontBehind 1 = .ok (.getfield 23, 3) := by decide +kernel
theorem dX5_frontBehind_4 : decode cX5_frontBehind 4 = .ok (.aload_n 1, 1) := by decide +kernel
theorem dX5_frontBehind_5 : decode cX5_frontBehind 5 = .ok (.iload_n 2, 1) := by decide +kernel
theorem dX5_frontBehind_6 : decode cX5_frontBehind 6 = .ok (.invokevirtual 35, 3) := by decide +kernel
theorem dX5_frontBehind_9 : decode cX5_frontBehind 9 = .ok (.aload_n 1, 1) := by decide +kernel
theorem dX5_frontBehind_10 : decode cX5_frontBehind 10 = .ok (.getfield 68, 3) := by decide +kernel
theorem dX5_frontBehind_13 : decode cX5_frontBehind 13 = .ok (.iconst 1, 1) := by decide +kernel
theorem dX5_frontBehind_14 : decode cX5_frontBehind 14 = .ok (.isub, 1) := by decide +kernel
theorem dX5_frontBehind_15 : decode cX5_frontBehind 15 = .ok (.istore_n 3, 1) := by decide +kernel
theorem dX5_frontBehind_16 : decode cX5_frontBehind 16 = .ok (.iload_n 3, 1) := by decide +kernel
theorem dX5_frontBehind_17 : decode cX5_frontBehind 17 = .ok (.ifCond .lt 23, 3) := by decide +kernel
theorem dX5_frontBehind_20 : decode cX5_frontBehind 20 = .ok (.aload_n 0, 1) := by decide +kernel
theorem dX5_frontBehind_21 : decode cX5_frontBehind 21 = .ok (.getfield 23, 3) := by decide +kernel
theorem dX5_frontBehind_24 : decode cX5_frontBehind 24 = .ok (.iload_n 3, 1) := by decide +kernel
theorem dX5_frontBehind_25 : decode cX5_frontBehind 25 = .ok (.iload_n 2, 1) := by decide +kernel
theorem dX5_frontBehind_26 : decode cX5_frontBehind 26 = .ok (.invokevirtual 46, 3) := by decide +kernel
theorem dX5_frontBehind_29 : decode cX5_frontBehind 29 = .ok (.ifCond .le 5, 3) := by decide +kernel
theorem dX5_frontBehind_32 : decode cX5_frontBehind 32 = .ok (.iload_n 3, 1) := by decide +kernel
theorem dX5_frontBehind_33 : decode cX5_frontBehind 33 = .ok (.ireturn, 1) := by decide +kernel
theorem dX5_frontBehind_34 : decode cX5_frontBehind 34 = .ok (.iinc 3 (-1), 3) := by decide +kernel
theorem dX5_frontBehind_37 : decode cX5_frontBehind 37 = .ok (.goto (-21), 3) := by decide +kernel
theorem dX5_frontBehind_40 : decode cX5_frontBehind 40 = .ok (.ldc 71, 2) := by decide +kernel
theorem dX5_frontBehind_42 : decode cX5_frontBehind 42 = .ok (.ireturn, 1) := by decide +kernel
theorem dX5_firstDay_0 : decode cX5_firstDay 0 = .ok (.aload_n 0, 1) := by decide +kernel
theorem dX5_firstDay_1 : decode cX5_firstDay 1 = .ok (.getfield 23, 3) := by decide +kernel
theorem dX5_firstDay_4 : decode cX5_firstDay 4 = .ok (.aload_n 1, 1) := by decide +kernel
theorem dX5_firstDay_5 : decode cX5_firstDay 5 = .ok (.bipush 60, 2) := by decide +kernel
theorem dX5_firstDay_7 : decode cX5_firstDay 7 = .ok (.invokevirtual 35, 3) := by decide +kernel
theorem dX5_firstDay_10 : decode cX5_firstDay 10 = .ok (.aload_n 1, 1) := by decide +kernel
theorem dX5_firstDay_11 : decode cX5_firstDay 11 = .ok (.getfield 39, 3) := by decide +kernel
theorem dX5_firstDay_14 : decode cX5_firstDay 14 = .ok (.iload_n 2, 1) := by decide +kernel
theorem dX5_firstDay_15 : decode cX5_firstDay 15 = .ok (.iaload, 1) := by decide +kernel
theorem dX5_firstDay_16 : decode cX5_firstDay 16 = .ok (.istore 4, 2) := by decide +kernel
theorem dX5_firstDay_18 : decode cX5_firstDay 18 = .ok (.iconst 0, 1) := by decide +kernel
theorem dX5_firstDay_19 : decode cX5_firstDay 19 = .ok (.istore 5, 2) := by decide +kernel
theorem dX5_firstDay_21 : decode cX5_firstDay 21 = .ok (.iload 5, 2) := by decide +kernel
theorem dX5_firstDay_23 : decode cX5_firstDay 23 = .ok (.bipush 60, 2) := by decide +kernel
theorem dX5_firstDay_25 : decode cX5_firstDay 25 = .ok (.if_icmp .ge 39, 3) := by decide +kernel
theorem dX5_firstDay_28 : decode cX5_firstDay 28 = .ok (.aload_n 0, 1) := by decide +kernel
theorem dX5_firstDay_29 : decode cX5_firstDay 29 = .ok (.iload 4, 2) := by decide +kernel
theorem dX5_firstDay_31 : decode cX5_firstDay 31 = .ok (.iload_n 3, 1) := by decide +kernel
theorem dX5_firstDay_32 : decode cX5_firstDay 32 = .ok (.iload 5, 2) := by decide +kernel
theorem dX5_firstDay_34 : decode cX5_firstDay 34 = .ok (.invokevirtual 72, 3) := by decide +kernel
theorem dX5_firstDay_37 : decode cX5_firstDay 37 = .ok (.ifCond .eq 6, 3) := by decide +kernel
theorem dX5_firstDay_40 : decode cX5_firstDay 40 = .ok (.iload 5, 2) := by decide +kernel
theorem dX5_firstDay_42 : decode cX5_firstDay 42 = .ok (.ireturn, 1) := by decide +kernel
theorem dX5_firstDay_43 : decode cX5_firstDay 43 = .ok (.aload_n 0, 1) := by decide +kernel
theorem dX5_firstDay_44 : decode cX5_firstDay 44 = .ok (.getfield 23, 3) := by decide +kernel
theorem dX5_firstDay_47 : decode cX5_firstDay 47 = .ok (.aload_n 1, 1) := by decide +kernel
theorem dX5_firstDay_48 : decode cX5_firstDay 48 = .ok (.iload_n 2, 1) := by decide +kernel
theorem dX5_firstDay_49 : decode cX5_firstDay 49 = .ok (.iload 4, 2) := by decide +kernel
theorem dX5_firstDay_51 : decode cX5_firstDay 51 = .ok (.iload 5, 2) := by decide +kernel
theorem dX5_firstDay_53 : decode cX5_firstDay 53 = .ok (.invokevirtual 76, 3) := by decide +kernel
theorem dX5_firstDay_56 : decode cX5_firstDay 56 = .ok (.istore 4, 2) := by decide +kernel
theorem dX5_firstDay_58 : decode cX5_firstDay 58 = .ok (.iinc 5 1, 3) := by decide +kernel
theorem dX5_firstDay_61 : decode cX5_firstDay 61 = .ok (.goto (-40), 3) := by decide +kernel
theorem dX5_firstDay_64 : decode cX5_firstDay 64 = .ok (.aload_n 0, 1) := by decide +kernel
theorem dX5_firstDay_65 : decode cX5_firstDay 65 = .ok (.iload 4, 2) := by decide +kernel
theorem dX5_firstDay_67 : decode cX5_firstDay 67 = .ok (.iload_n 3, 1) := by decide +kernel
theorem dX5_firstDay_68 : decode cX5_firstDay 68 = .ok (.bipush 60, 2) := by decide +kernel
theorem dX5_firstDay_70 : decode cX5_firstDay 70 = .ok (.invokevirtual 72, 3) := by decide +kernel
theorem dX5_firstDay_73 : decode cX5_firstDay 73 = .ok (.ifCond .eq 8, 3) := by decide +kernel
theorem dX5_firstDay_76 : decode cX5_firstDay 76 = .ok (.bipush 60, 2) := by decide +kernel
theorem dX5_firstDay_78 : decode cX5_firstDay 78 = .ok (.goto 5, 3) := by decide +kernel
theorem dX5_firstDay_81 : decode cX5_firstDay 81 = .ok (.ldc 71, 2) := by decide +kernel
theorem dX5_firstDay_83 : decode cX5_firstDay 83 = .ok (.ireturn, 1) := by decide +kernel
theorem dX5_isCome_0 : decode cX5_isCome 0 = .ok (.iload_n 2, 1) := by decide +kernel
theorem dX5_isCome_1 : decode cX5_isCome 1 = .ok (.lookupswitch 69 #[(0, 27), (1, 57)], 27) := by decide +kernel
theorem dX5_isCome_28 : decode cX5_isCome 28 = .ok (.iload_n 1, 1) := by decide +kernel
theorem dX5_isCome_29 : decode cX5_isCome 29 = .ok (.bipush 30, 2) := by decide +kernel
theorem dX5_isCome_31 : decode cX5_isCome 31 = .ok (.if_icmp .ge 21, 3) := by decide +kernel
theorem dX5_isCome_34 : decode cX5_isCome 34 = .ok (.iload_n 1, 1) := by decide +kernel
theorem dX5_isCome_35 : decode cX5_isCome 35 = .ok (.bipush 20, 2) := by decide +kernel
theorem dX5_isCome_37 : decode cX5_isCome 37 = .ok (.if_icmp .ge 19, 3) := by decide +kernel
theorem dX5_isCome_40 : decode cX5_isCome 40 = .ok (.aload_n 0, 1) := by decide +kernel
theorem dX5_isCome_41 : decode cX5_isCome 41 = .ok (.getfield 23, 3) := by decide +kernel
theorem dX5_isCome_44 : decode cX5_isCome 44 = .ok (.iload_n 1, 1) := by decide +kernel
theorem dX5_isCome_45 : decode cX5_isCome 45 = .ok (.iload_n 3, 1) := by decide +kernel
theorem dX5_isCome_46 : decode cX5_isCome 46 = .ok (.invokevirtual 46, 3) := by decide +kernel
theorem dX5_isCome_49 : decode cX5_isCome 49 = .ok (.ifCond .le 7, 3) := by decide +kernel
theorem dX5_isCome_52 : decode cX5_isCome 52 = .ok (.iconst 1, 1) := by decide +kernel
theorem dX5_isCome_53 : decode cX5_isCome 53 = .ok (.goto 4, 3) := by decide +kernel
theorem dX5_isCome_56 : decode cX5_isCome 56 = .ok (.iconst 0, 1) := by decide +kernel
theorem dX5_isCome_57 : decode cX5_isCome 57 = .ok (.ireturn, 1) := by decide +kernel
theorem dX5_isCome_58 : decode cX5_isCome 58 = .ok (.iload_n 1, 1) := by decide +kernel
theorem dX5_isCome_59 : decode cX5_isCome 59 = .ok (.bipush 30, 2) := by decide +kernel
theorem dX5_isCome_61 : decode cX5_isCome 61 = .ok (.if_icmp .lt 7, 3) := by decide +kernel
theorem dX5_isCome_64 : decode cX5_isCome 64 = .ok (.iconst 1, 1) := by decide +kernel
theorem dX5_isCome_65 : decode cX5_isCome 65 = .ok (.goto 4, 3) := by decide +kernel
theorem dX5_isCome_68 : decode cX5_isCome 68 = .ok (.iconst 0, 1) := by decide +kernel
theorem dX5_isCome_69 : decode cX5_isCome 69 = .ok (.ireturn, 1) := by decide +kernel
theorem dX5_isCome_70 : decode cX5_isCome 70 = .ok (.iload_n 1, 1) := by decide +kernel
theorem dX5_isCome_71 : decode cX5_isCome 71 = .ok (.bipush 20, 2) := by decide +kernel
theorem dX5_isCome_73 : decode cX5_isCome 73 = .ok (.if_icmp .ne 7, 3) := by decide +kernel
theorem dX5_isCome_76 : decode cX5_isCome 76 = .ok (.iconst 1, 1) := by decide +kernel
theorem dX5_isCome_77 : decode cX5_isCome 77 = .ok (.goto 4, 3) := by decide +kernel
theorem dX5_isCome_80 : decode cX5_isCome 80 = .ok (.iconst 0, 1) := by decide +kernel
theorem dX5_isCome_81 : decode cX5_isCome 81 = .ok (.ireturn, 1) := by decide +kernel
theorem dX5_stonesWithDam_0 : decode cX5_stonesWithDam 0 = .ok (.aload_n 0, 1) := by decide +kernel
theorem dX5_stonesWithDam_1 : decode cX5_stonesWithDam 1 = .ok (.getfield 12, 3) := by decide +kernel
theorem dX5_stonesWithDam_4 : decode cX5_stonesWithDam 4 = .ok (.aload_n 1, 1) := by decide +kernel
theorem dX5_stonesWithDam_5 : decode cX5_stonesWithDam 5 = .ok (.invokevirtual 50, 3) := by decide +kernel
theorem dX5_stonesWithDam_8 : decode cX5_stonesWithDam 8 = .ok (.aload_n 0, 1) := by decide +kernel
theorem dX5_stonesWithDam_9 : decode cX5_stonesWithDam 9 = .ok (.getfield 12, 3) := by decide +kernel
theorem dX5_stonesWithDam_12 : decode cX5_stonesWithDam 12 = .ok (.getfield 79, 3) := by decide +kernel
theorem dX5_stonesWithDam_15 : decode cX5_stonesWithDam 15 = .ok (.iload_n 2, 1) := by decide +kernel
theorem dX5_stonesWithDam_16 : decode cX5_stonesWithDam 16 = .ok (.iload_n 3, 1) := by decide +kernel
theorem dX5_stonesWithDam_17 : decode cX5_stonesWithDam 17 = .ok (.iastore, 1) := by decide +kernel
theorem dX5_stonesWithDam_18 : decode cX5_stonesWithDam 18 = .ok (.aload_n 0, 1) := by decide +kernel
theorem dX5_stonesWithDam_19 : decode cX5_stonesWithDam 19 = .ok (.iload 4, 2) := by decide +kernel
theorem dX5_stonesWithDam_21 : decode cX5_stonesWithDam 21 = .ok (.invokevirtual 54, 3) := by decide +kernel
theorem dX5_stonesWithDam_24 : decode cX5_stonesWithDam 24 = .ok (.aload_n 0, 1) := by decide +kernel
theorem dX5_stonesWithDam_25 : decode cX5_stonesWithDam 25 = .ok (.getfield 12, 3) := by decide +kernel
theorem dX5_stonesWithDam_28 : decode cX5_stonesWithDam 28 = .ok (.invokevirtual 57, 3) := by decide +kernel
theorem dX5_stonesWithDam_31 : decode cX5_stonesWithDam 31 = .ok (.invokestatic 82, 3) := by decide +kernel
theorem dX5_stonesWithDam_34 : decode cX5_stonesWithDam 34 = .ok (.ireturn, 1) := by decide +kernel
theorem dX5_bestDam_0 : decode cX5_bestDam 0 = .ok (.iconst 0, 1) := by decide +kernel
theorem dX5_bestDam_1 : decode cX5_bestDam 1 = .ok (.istore 4, 2) := by decide +kernel
theorem dX5_bestDam_3 : decode cX5_bestDam 3 = .ok (.bipush 7, 2) := by decide +kernel
theorem dX5_bestDam_5 : decode cX5_bestDam 5 = .ok (.istore 5, 2) := by decide +kernel
theorem dX5_bestDam_7 : decode cX5_bestDam 7 = .ok (.iconst 0, 1) := by decide +kernel
theorem dX5_bestDam_8 : decode cX5_bestDam 8 = .ok (.istore 6, 2) := by decide +kernel
theorem dX5_bestDam_10 : decode cX5_bestDam 10 = .ok (.iload 6, 2) := by decide +kernel
theorem dX5_bestDam_12 : decode cX5_bestDam 12 = .ok (.aload_n 1, 1) := by decide +kernel
theorem dX5_bestDam_13 : decode cX5_bestDam 13 = .ok (.getfield 68, 3) := by decide +kernel
theorem dX5_bestDam_16 : decode cX5_bestDam 16 = .ok (.if_icmp .ge 35, 3) := by decide +kernel
theorem dX5_bestDam_19 : decode cX5_bestDam 19 = .ok (.aload_n 0, 1) := by decide +kernel
theorem dX5_bestDam_20 : decode cX5_bestDam 20 = .ok (.aload_n 1, 1) := by decide +kernel
theorem dX5_bestDam_21 : decode cX5_bestDam 21 = .ok (.iload 6, 2) := by decide +kernel
theorem dX5_bestDam_23 : decode cX5_bestDam 23 = .ok (.iload_n 2, 1) := by decide +kernel
theorem dX5_bestDam_24 : decode cX5_bestDam 24 = .ok (.iload_n 3, 1) := by decide +kernel
theorem dX5_bestDam_25 : decode cX5_bestDam 25 = .ok (.invokevirtual 87, 3) := by decide +kernel
theorem dX5_bestDam_28 : decode cX5_bestDam 28 = .ok (.istore 7, 2) := by decide +kernel
theorem dX5_bestDam_30 : decode cX5_bestDam 30 = .ok (.iload 7, 2) := by decide +kernel
theorem dX5_bestDam_32 : decode cX5_bestDam 32 = .ok (.iload 5, 2) := by decide +kernel
theorem dX5_bestDam_34 : decode cX5_bestDam 34 = .ok (.if_icmp .ge 11, 3) := by decide +kernel
theorem dX5_bestDam_37 : decode cX5_bestDam 37 = .ok (.iload 7, 2) := by decide +kernel
theorem dX5_bestDam_39 : decode cX5_bestDam 39 = .ok (.istore 5, 2) := by decide +kernel
theorem dX5_bestDam_41 : decode cX5_bestDam 41 = .ok (.iload 6, 2) := by decide +kernel
theorem dX5_bestDam_43 : decode cX5_bestDam 43 = .ok (.istore 4, 2) := by decide +kernel
theorem dX5_bestDam_45 : decode cX5_bestDam 45 = .ok (.iinc 6 1, 3) := by decide +kernel
theorem dX5_bestDam_48 : decode cX5_bestDam 48 = .ok (.goto (-38), 3) := by decide +kernel
theorem dX5_bestDam_51 : decode cX5_bestDam 51 = .ok (.iload 4, 2) := by decide +kernel
theorem dX5_bestDam_53 : decode cX5_bestDam 53 = .ok (.ireturn, 1) := by decide +kernel
theorem dX5_leastWall_0 : decode cX5_leastWall 0 = .ok (.aload_n 0, 1) := by decide +kernel
theorem dX5_leastWall_1 : decode cX5_leastWall 1 = .ok (.getfield 12, 3) := by decide +kernel
theorem dX5_leastWall_4 : decode cX5_leastWall 4 = .ok (.aload_n 1, 1) := by decide +kernel
theorem dX5_leastWall_5 : decode cX5_leastWall 5 = .ok (.invokevirtual 50, 3) := by decide +kernel
theorem dX5_leastWall_8 : decode cX5_leastWall 8 = .ok (.iconst 0, 1) := by decide +kernel
theorem dX5_leastWall_9 : decode cX5_leastWall 9 = .ok (.istore 5, 2) := by decide +kernel
theorem dX5_leastWall_11 : decode cX5_leastWall 11 = .ok (.iload 5, 2) := by decide +kernel
theorem dX5_leastWall_13 : decode cX5_leastWall 13 = .ok (.bipush 9, 2) := by decide +kernel
theorem dX5_leastWall_15 : decode cX5_leastWall 15 = .ok (.if_icmp .gt 49, 3) := by decide +kernel
theorem dX5_leastWall_18 : decode cX5_leastWall 18 = .ok (.aload_n 0, 1) := by decide +kernel
theorem dX5_leastWall_19 : decode cX5_leastWall 19 = .ok (.getfield 12, 3) := by decide +kernel
theorem dX5_leastWall_22 : decode cX5_leastWall 22 = .ok (.getfield 79, 3) := by decide +kernel
theorem dX5_leastWall_25 : decode cX5_leastWall 25 = .ok (.iload_n 3, 1) := by decide +kernel
theorem dX5_leastWall_26 : decode cX5_leastWall 26 = .ok (.iload 5, 2) := by decide +kernel
theorem dX5_leastWall_28 : decode cX5_leastWall 28 = .ok (.iastore, 1) := by decide +kernel
theorem dX5_leastWall_29 : decode cX5_leastWall 29 = .ok (.aload_n 0, 1) := by decide +kernel
theorem dX5_leastWall_30 : decode cX5_leastWall 30 = .ok (.getfield 23, 3) := by decide +kernel
theorem dX5_leastWall_33 : decode cX5_leastWall 33 = .ok (.aload_n 0, 1) := by decide +kernel
theorem dX5_leastWall_34 : decode cX5_leastWall 34 = .ok (.getfield 12, 3) := by decide +kernel
theorem dX5_leastWall_37 : decode cX5_leastWall 37 = .ok (.iload 4, 2) := by decide +kernel
theorem dX5_leastWall_39 : decode cX5_leastWall 39 = .ok (.invokevirtual 35, 3) := by decide +kernel
theorem dX5_leastWall_42 : decode cX5_leastWall 42 = .ok (.aload_n 0, 1) := by decide +kernel
theorem dX5_leastWall_43 : decode cX5_leastWall 43 = .ok (.getfield 23, 3) := by decide +kernel
theorem dX5_leastWall_46 : decode cX5_leastWall 46 = .ok (.iload_n 2, 1) := by decide +kernel
theorem dX5_leastWall_47 : decode cX5_leastWall 47 = .ok (.iload 4, 2) := by decide +kernel
theorem dX5_leastWall_49 : decode cX5_leastWall 49 = .ok (.invokevirtual 46, 3) := by decide +kernel
theorem dX5_leastWall_52 : decode cX5_leastWall 52 = .ok (.ifCond .ne 6, 3) := by decide +kernel
theorem dX5_leastWall_55 : decode cX5_leastWall 55 = .ok (.iload 5, 2) := by decide +kernel
theorem dX5_leastWall_57 : decode cX5_leastWall 57 = .ok (.ireturn, 1) := by decide +kernel
theorem dX5_leastWall_58 : decode cX5_leastWall 58 = .ok (.iinc 5 1, 3) := by decide +kernel
theorem dX5_leastWall_61 : decode cX5_leastWall 61 = .ok (.goto (-50), 3) := by decide +kernel
theorem dX5_leastWall_64 : decode cX5_leastWall 64 = .ok (.ldc 71, 2) := by decide +kernel
theorem dX5_leastWall_66 : decode cX5_leastWall 66 = .ok (.ireturn, 1) := by decide +kernel
theorem dX5_mostFeed_0 : decode cX5_mostFeed 0 = .ok (.bipush 20, 2) := by decide +kernel
theorem dX5_mostFeed_2 : decode cX5_mostFeed 2 = .ok (.istore_n 3, 1) := by decide +kernel
theorem dX5_mostFeed_3 : decode cX5_mostFeed 3 = .ok (.iload_n 3, 1) := by decide +kernel
theorem dX5_mostFeed_4 : decode cX5_mostFeed 4 = .ok (.ifCond .lt 46, 3) := by decide +kernel
theorem dX5_mostFeed_7 : decode cX5_mostFeed 7 = .ok (.aload_n 0, 1) := by decide +kernel
theorem dX5_mostFeed_8 : decode cX5_mostFeed 8 = .ok (.getfield 12, 3) := by decide +kernel
theorem dX5_mostFeed_11 : decode cX5_mostFeed 11 = .ok (.aload_n 1, 1) := by decide +kernel
theorem dX5_mostFeed_12 : decode cX5_mostFeed 12 = .ok (.invokevirtual 50, 3) := by decide +kernel
theorem dX5_mostFeed_15 : decode cX5_mostFeed 15 = .ok (.aload_n 0, 1) := by decide +kernel
theorem dX5_mostFeed_16 : decode cX5_mostFeed 16 = .ok (.getfield 12, 3) := by decide +kernel
theorem dX5_mostFeed_19 : decode cX5_mostFeed 19 = .ok (.iload_n 3, 1) := by decide +kernel
theorem dX5_mostFeed_20 : decode cX5_mostFeed 20 = .ok (.putfield 90, 3) := by decide +kernel
theorem dX5_mostFeed_23 : decode cX5_mostFeed 23 = .ok (.aload_n 0, 1) := by decide +kernel
theorem dX5_mostFeed_24 : decode cX5_mostFeed 24 = .ok (.iload_n 2, 1) := by decide +kernel
theorem dX5_mostFeed_25 : decode cX5_mostFeed 25 = .ok (.invokevirtual 54, 3) := by decide +kernel
theorem dX5_mostFeed_28 : decode cX5_mostFeed 28 = .ok (.aload_n 0, 1) := by decide +kernel
theorem dX5_mostFeed_29 : decode cX5_mostFeed 29 = .ok (.getfield 12, 3) := by decide +kernel
theorem dX5_mostFeed_32 : decode cX5_mostFeed 32 = .ok (.invokevirtual 57, 3) := by decide +kernel
theorem dX5_mostFeed_35 : decode cX5_mostFeed 35 = .ok (.aload_n 1, 1) := by decide +kernel
theorem dX5_mostFeed_36 : decode cX5_mostFeed 36 = .ok (.invokevirtual 57, 3) := by decide +kernel
theorem dX5_mostFeed_39 : decode cX5_mostFeed 39 = .ok (.if_icmp .ne 5, 3) := by decide +kernel
theorem dX5_mostFeed_42 : decode cX5_mostFeed 42 = .ok (.iload_n 3, 1) := by decide +kernel
theorem dX5_mostFeed_43 : decode cX5_mostFeed 43 = .ok (.ireturn, 1) := by decide +kernel
theorem dX5_mostFeed_44 : decode cX5_mostFeed 44 = .ok (.iinc 3 (-1), 3) := by decide +kernel
theorem dX5_mostFeed_47 : decode cX5_mostFeed 47 = .ok (.goto (-44), 3) := by decide +kernel
theorem dX5_mostFeed_50 : decode cX5_mostFeed 50 = .ok (.ldc 71, 2) := by decide +kernel
theorem dX5_mostFeed_52 : decode cX5_mostFeed 52 = .ok (.ireturn, 1) := by decide +kernel
theorem dX5_setsSoHigh_0 : decode cX5_setsSoHigh 0 = .ok (.aload_n 1, 1) := by decide +kernel
theorem dX5_setsSoHigh_1 : decode cX5_setsSoHigh 1 = .ok (.invokevirtual 93, 3) := by decide +kernel
theorem dX5_setsSoHigh_4 : decode cX5_setsSoHigh 4 = .ok (.istore 4, 2) := by decide +kernel
theorem dX5_setsSoHigh_6 : decode cX5_setsSoHigh 6 = .ok (.iconst 0, 1) := by decide +kernel
theorem dX5_setsSoHigh_7 : decode cX5_setsSoHigh 7 = .ok (.istore 5, 2) := by decide +kernel
theorem dX5_setsSoHigh_9 : decode cX5_setsSoHigh 9 = .ok (.iload 4, 2) := by decide +kernel
theorem dX5_setsSoHigh_11 : decode cX5_setsSoHigh 11 = .ok (.istore 6, 2) := by decide +kernel
theorem dX5_setsSoHigh_13 : decode cX5_setsSoHigh 13 = .ok (.iconst 0, 1) := by decide +kernel
theorem dX5_setsSoHigh_14 : decode cX5_setsSoHigh 14 = .ok (.istore 7, 2) := by decide +kernel
theorem dX5_setsSoHigh_16 : decode cX5_setsSoHigh 16 = .ok (.iconst 0, 1) := by decide +kernel
theorem dX5_setsSoHigh_17 : decode cX5_setsSoHigh 17 = .ok (.istore 8, 2) := by decide +kernel
theorem dX5_setsSoHigh_19 : decode cX5_setsSoHigh 19 = .ok (.iload 8, 2) := by decide +kernel
theorem dX5_setsSoHigh_21 : decode cX5_setsSoHigh 21 = .ok (.iconst 1, 1) := by decide +kernel
theorem dX5_setsSoHigh_22 : decode cX5_setsSoHigh 22 = .ok (.aload_n 1, 1) := by decide +kernel
theorem dX5_setsSoHigh_23 : decode cX5_setsSoHigh 23 = .ok (.getfield 96, 3) := by decide +kernel
theorem dX5_setsSoHigh_26 : decode cX5_setsSoHigh 26 = .ok (.ishl, 1) := by decide +kernel
theorem dX5_setsSoHigh_27 : decode cX5_setsSoHigh 27 = .ok (.if_icmp .ge 46, 3) := by decide +kernel
theorem dX5_setsSoHigh_30 : decode cX5_setsSoHigh 30 = .ok (.iload 8, 2) := by decide +kernel
theorem dX5_setsSoHigh_32 : decode cX5_setsSoHigh 32 = .ok (.iload 4, 2) := by decide +kernel
theorem dX5_setsSoHigh_34 : decode cX5_setsSoHigh 34 = .ok (.iconst (-1), 1) := by decide +kernel
theorem dX5_setsSoHigh_35 : decode cX5_setsSoHigh 35 = .ok (.ixor, 1) := by decide +kernel
theorem dX5_setsSoHigh_36 : decode cX5_setsSoHigh 36 = .ok (.iand, 1) := by decide +kernel
theorem dX5_setsSoHigh_37 : decode cX5_setsSoHigh 37 = .ok (.ifCond .ne 30, 3) := by decide +kernel
theorem dX5_setsSoHigh_40 : decode cX5_setsSoHigh 40 = .ok (.aload_n 1, 1) := by decide +kernel
theorem dX5_setsSoHigh_41 : decode cX5_setsSoHigh 41 = .ok (.iload 8, 2) := by decide +kernel
theorem dX5_setsSoHigh_43 : decode cX5_setsSoHigh 43 = .ok (.invokestatic 99, 3) := by decide +kernel
theorem dX5_setsSoHigh_46 : decode cX5_setsSoHigh 46 = .ok (.iload_n 2, 1) := by decide +kernel
theorem dX5_setsSoHigh_47 : decode cX5_setsSoHigh 47 = .ok (.if_icmp .ne 20, 3) := by decide +kernel
theorem dX5_setsSoHigh_50 : decode cX5_setsSoHigh 50 = .ok (.iinc 5 1, 3) := by decide +kernel
theorem dX5_setsSoHigh_53 : decode cX5_setsSoHigh 53 = .ok (.iload 6, 2) := by decide +kernel
theorem dX5_setsSoHigh_55 : decode cX5_setsSoHigh 55 = .ok (.iload 8, 2) := by decide +kernel
theorem dX5_setsSoHigh_57 : decode cX5_setsSoHigh 57 = .ok (.iand, 1) := by decide +kernel
theorem dX5_setsSoHigh_58 : decode cX5_setsSoHigh 58 = .ok (.istore 6, 2) := by decide +kernel
theorem dX5_setsSoHigh_60 : decode cX5_setsSoHigh 60 = .ok (.iload 7, 2) := by decide +kernel
theorem dX5_setsSoHigh_62 : decode cX5_setsSoHigh 62 = .ok (.iload 8, 2) := by decide +kernel
theorem dX5_setsSoHigh_64 : decode cX5_setsSoHigh 64 = .ok (.ior, 1) := by decide +kernel
theorem dX5_setsSoHigh_65 : decode cX5_setsSoHigh 65 = .ok (.istore 7, 2) := by decide +kernel
theorem dX5_setsSoHigh_67 : decode cX5_setsSoHigh 67 = .ok (.iinc 8 1, 3) := by decide +kernel
theorem dX5_setsSoHigh_70 : decode cX5_setsSoHigh 70 = .ok (.goto (-51), 3) := by decide +kernel
theorem dX5_setsSoHigh_73 : decode cX5_setsSoHigh 73 = .ok (.iload_n 3, 1) := by decide +kernel
theorem dX5_setsSoHigh_74 : decode cX5_setsSoHigh 74 = .ok (.ifCond .ne 6, 3) := by decide +kernel
theorem dX5_setsSoHigh_77 : decode cX5_setsSoHigh 77 = .ok (.iload 5, 2) := by decide +kernel
theorem dX5_setsSoHigh_79 : decode cX5_setsSoHigh 79 = .ok (.ireturn, 1) := by decide +kernel
theorem dX5_setsSoHigh_80 : decode cX5_setsSoHigh 80 = .ok (.iload_n 3, 1) := by decide +kernel
theorem dX5_setsSoHigh_81 : decode cX5_setsSoHigh 81 = .ok (.iconst 1, 1) := by decide +kernel
theorem dX5_setsSoHigh_82 : decode cX5_setsSoHigh 82 = .ok (.if_icmp .ne 15, 3) := by decide +kernel
theorem dX5_setsSoHigh_85 : decode cX5_setsSoHigh 85 = .ok (.iload 5, 2) := by decide +kernel
theorem dX5_setsSoHigh_87 : decode cX5_setsSoHigh 87 = .ok (.ifCond .ne 7, 3) := by decide +kernel
theorem dX5_setsSoHigh_90 : decode cX5_setsSoHigh 90 = .ok (.iconst 0, 1) := by decide +kernel
theorem dX5_setsSoHigh_91 : decode cX5_setsSoHigh 91 = .ok (.goto 5, 3) := by decide +kernel
theorem dX5_setsSoHigh_94 : decode cX5_setsSoHigh 94 = .ok (.iload 6, 2) := by decide +kernel
theorem dX5_setsSoHigh_96 : decode cX5_setsSoHigh 96 = .ok (.ireturn, 1) := by decide +kernel
theorem dX5_setsSoHigh_97 : decode cX5_setsSoHigh 97 = .ok (.iload 7, 2) := by decide +kernel
theorem dX5_setsSoHigh_99 : decode cX5_setsSoHigh 99 = .ok (.ireturn, 1) := by decide +kernel
theorem dX5_highOfAll_0 : decode cX5_highOfAll 0 = .ok (.iconst 0, 1) := by decide +kernel
theorem dX5_highOfAll_1 : decode cX5_highOfAll 1 = .ok (.istore_n 2, 1) := by decide +kernel
theorem dX5_highOfAll_2 : decode cX5_highOfAll 2 = .ok (.iconst 0, 1) := by decide +kernel
theorem dX5_highOfAll_3 : decode cX5_highOfAll 3 = .ok (.istore_n 3, 1) := by decide +kernel
theorem dX5_highOfAll_4 : decode cX5_highOfAll 4 = .ok (.iload_n 3, 1) := by decide +kernel
theorem dX5_highOfAll_5 : decode cX5_highOfAll 5 = .ok (.aload_n 0, 1) := by decide +kernel
theorem dX5_highOfAll_6 : decode cX5_highOfAll 6 = .ok (.getfield 96, 3) := by decide +kernel
theorem dX5_highOfAll_9 : decode cX5_highOfAll 9 = .ok (.if_icmp .ge 27, 3) := by decide +kernel
theorem dX5_highOfAll_12 : decode cX5_highOfAll 12 = .ok (.iload_n 1, 1) := by decide +kernel
theorem dX5_highOfAll_13 : decode cX5_highOfAll 13 = .ok (.iload_n 3, 1) := by decide +kernel
theorem dX5_highOfAll_14 : decode cX5_highOfAll 14 = .ok (.ishr, 1) := by decide +kernel
theorem dX5_highOfAll_15 : decode cX5_highOfAll 15 = .ok (.iconst 1, 1) := by decide +kernel
theorem dX5_highOfAll_16 : decode cX5_highOfAll 16 = .ok (.iand, 1) := by decide +kernel
theorem dX5_highOfAll_17 : decode cX5_highOfAll 17 = .ok (.iconst 1, 1) := by decide +kernel
theorem dX5_highOfAll_18 : decode cX5_highOfAll 18 = .ok (.if_icmp .ne 12, 3) := by decide +kernel
theorem dX5_highOfAll_21 : decode cX5_highOfAll 21 = .ok (.iload_n 2, 1) := by decide +kernel
theorem dX5_highOfAll_22 : decode cX5_highOfAll 22 = .ok (.aload_n 0, 1) := by decide +kernel
theorem dX5_highOfAll_23 : decode cX5_highOfAll 23 = .ok (.getfield 103, 3) := by decide +kernel
theorem dX5_highOfAll_26 : decode cX5_highOfAll 26 = .ok (.iload_n 3, 1) := by decide +kernel
theorem dX5_highOfAll_27 : decode cX5_highOfAll 27 = .ok (.iaload, 1) := by decide +kernel
theorem dX5_highOfAll_28 : decode cX5_highOfAll 28 = .ok (.iadd, 1) := by decide +kernel
theorem dX5_highOfAll_29 : decode cX5_highOfAll 29 = .ok (.istore_n 2, 1) := by decide +kernel
theorem dX5_highOfAll_30 : decode cX5_highOfAll 30 = .ok (.iinc 3 1, 3) := by decide +kernel
theorem dX5_highOfAll_33 : decode cX5_highOfAll 33 = .ok (.goto (-29), 3) := by decide +kernel
theorem dX5_highOfAll_36 : decode cX5_highOfAll 36 = .ok (.iload_n 2, 1) := by decide +kernel
theorem dX5_highOfAll_37 : decode cX5_highOfAll 37 = .ok (.ireturn, 1) := by decide +kernel
theorem dX5_partOf_0 : decode cX5_partOf 0 = .ok (.aload_n 1, 1) := by decide +kernel
theorem dX5_partOf_1 : decode cX5_partOf 1 = .ok (.bipush 20, 2) := by decide +kernel
theorem dX5_partOf_3 : decode cX5_partOf 3 = .ok (.invokevirtual 61, 3) := by decide +kernel
theorem dX5_partOf_6 : decode cX5_partOf 6 = .ok (.istore 4, 2) := by decide +kernel
theorem dX5_partOf_8 : decode cX5_partOf 8 = .ok (.aload_n 1, 1) := by decide +kernel
theorem dX5_partOf_9 : decode cX5_partOf 9 = .ok (.iload 4, 2) := by decide +kernel
theorem dX5_partOf_11 : decode cX5_partOf 11 = .ok (.invokestatic 99, 3) := by decide +kernel
theorem dX5_partOf_14 : decode cX5_partOf 14 = .ok (.istore 5, 2) := by decide +kernel
theorem dX5_partOf_16 : decode cX5_partOf 16 = .ok (.iload 4, 2) := by decide +kernel
theorem dX5_partOf_18 : decode cX5_partOf 18 = .ok (.iload_n 2, 1) := by decide +kernel
theorem dX5_partOf_19 : decode cX5_partOf 19 = .ok (.ishr, 1) := by decide +kernel
theorem dX5_partOf_20 : decode cX5_partOf 20 = .ok (.iconst 1, 1) := by decide +kernel
theorem dX5_partOf_21 : decode cX5_partOf 21 = .ok (.iand, 1) := by decide +kernel
theorem dX5_partOf_22 : decode cX5_partOf 22 = .ok (.ifCond .eq 8, 3) := by decide +kernel
theorem dX5_partOf_25 : decode cX5_partOf 25 = .ok (.iload 5, 2) := by decide +kernel
theorem dX5_partOf_27 : decode cX5_partOf 27 = .ok (.ifCond .gt 5, 3) := by decide +kernel
theorem dX5_partOf_30 : decode cX5_partOf 30 = .ok (.iconst 0, 1) := by decide +kernel
theorem dX5_partOf_31 : decode cX5_partOf 31 = .ok (.ireturn, 1) := by decide +kernel
theorem dX5_partOf_32 : decode cX5_partOf 32 = .ok (.iload_n 3, 1) := by decide +kernel
theorem dX5_partOf_33 : decode cX5_partOf 33 = .ok (.istore 6, 2) := by decide +kernel
theorem dX5_partOf_35 : decode cX5_partOf 35 = .ok (.iconst 0, 1) := by decide +kernel
theorem dX5_partOf_36 : decode cX5_partOf 36 = .ok (.istore 7, 2) := by decide +kernel
theorem dX5_partOf_38 : decode cX5_partOf 38 = .ok (.iconst 0, 1) := by decide +kernel
theorem dX5_partOf_39 : decode cX5_partOf 39 = .ok (.istore 8, 2) := by decide +kernel
theorem dX5_partOf_41 : decode cX5_partOf 41 = .ok (.iload 8, 2) := by decide +kernel
theorem dX5_partOf_43 : decode cX5_partOf 43 = .ok (.aload_n 1, 1) := by decide +kernel
theorem dX5_partOf_44 : decode cX5_partOf 44 = .ok (.getfield 96, 3) := by decide +kernel
theorem dX5_partOf_47 : decode cX5_partOf 47 = .ok (.if_icmp .ge 53, 3) := by decide +kernel
theorem dX5_partOf_50 : decode cX5_partOf 50 = .ok (.iload 4, 2) := by decide +kernel
theorem dX5_partOf_52 : decode cX5_partOf 52 = .ok (.iload 8, 2) := by decide +kernel
theorem dX5_partOf_54 : decode cX5_partOf 54 = .ok (.ishr, 1) := by decide +kernel
theorem dX5_partOf_55 : decode cX5_partOf 55 = .ok (.iconst 1, 1) := by decide +kernel
theorem dX5_partOf_56 : decode cX5_partOf 56 = .ok (.iand, 1) := by decide +kernel
theorem dX5_partOf_57 : decode cX5_partOf 57 = .ok (.iconst 1, 1) := by decide +kernel
theorem dX5_partOf_58 : decode cX5_partOf 58 = .ok (.if_icmp .ne 36, 3) := by decide +kernel
theorem dX5_partOf_61 : decode cX5_partOf 61 = .ok (.iload 6, 2) := by decide +kernel
theorem dX5_partOf_63 : decode cX5_partOf 63 = .ok (.iload_n 3, 1) := by decide +kernel
theorem dX5_partOf_64 : decode cX5_partOf 64 = .ok (.aload_n 1, 1) := by decide +kernel
theorem dX5_partOf_65 : decode cX5_partOf 65 = .ok (.getfield 103, 3) := by decide +kernel
theorem dX5_partOf_68 : decode cX5_partOf 68 = .ok (.iload 8, 2) := by decide +kernel
theorem dX5_partOf_70 : decode cX5_partOf 70 = .ok (.iaload, 1) := by decide +kernel
theorem dX5_partOf_71 : decode cX5_partOf 71 = .ok (.imul, 1) := by decide +kernel
theorem dX5_partOf_72 : decode cX5_partOf 72 = .ok (.iload 5, 2) := by decide +kernel
theorem dX5_partOf_74 : decode cX5_partOf 74 = .ok (.idiv, 1) := by decide +kernel
theorem dX5_partOf_75 : decode cX5_partOf 75 = .ok (.isub, 1) := by decide +kernel
theorem dX5_partOf_76 : decode cX5_partOf 76 = .ok (.istore 6, 2) := by decide +kernel
theorem dX5_partOf_78 : decode cX5_partOf 78 = .ok (.iload 7, 2) := by decide +kernel
theorem dX5_partOf_80 : decode cX5_partOf 80 = .ok (.iload 8, 2) := by decide +kernel
theorem dX5_partOf_82 : decode cX5_partOf 82 = .ok (.iload_n 2, 1) := by decide +kernel
theorem dX5_partOf_83 : decode cX5_partOf 83 = .ok (.if_icmp .ge 7, 3) := by decide +kernel
theorem dX5_partOf_86 : decode cX5_partOf 86 = .ok (.iconst 1, 1) := by decide +kernel
theorem dX5_partOf_87 : decode cX5_partOf 87 = .ok (.goto 4, 3) := by decide +kernel
theorem dX5_partOf_90 : decode cX5_partOf 90 = .ok (.iconst 0, 1) := by decide +kernel
theorem dX5_partOf_91 : decode cX5_partOf 91 = .ok (.iadd, 1) := by decide +kernel
theorem dX5_partOf_92 : decode cX5_partOf 92 = .ok (.istore 7, 2) := by decide +kernel
theorem dX5_partOf_94 : decode cX5_partOf 94 = .ok (.iinc 8 1, 3) := by decide +kernel
theorem dX5_partOf_97 : decode cX5_partOf 97 = .ok (.goto (-56), 3) := by decide +kernel
theorem dX5_partOf_100 : decode cX5_partOf 100 = .ok (.iload_n 3, 1) := by decide +kernel
theorem dX5_partOf_101 : decode cX5_partOf 101 = .ok (.aload_n 1, 1) := by decide +kernel
theorem dX5_partOf_102 : decode cX5_partOf 102 = .ok (.getfield 103, 3) := by decide +kernel
theorem dX5_partOf_105 : decode cX5_partOf 105 = .ok (.iload_n 2, 1) := by decide +kernel
theorem dX5_partOf_106 : decode cX5_partOf 106 = .ok (.iaload, 1) := by decide +kernel
theorem dX5_partOf_107 : decode cX5_partOf 107 = .ok (.imul, 1) := by decide +kernel
theorem dX5_partOf_108 : decode cX5_partOf 108 = .ok (.iload 5, 2) := by decide +kernel
theorem dX5_partOf_110 : decode cX5_partOf 110 = .ok (.idiv, 1) := by decide +kernel
theorem dX5_partOf_111 : decode cX5_partOf 111 = .ok (.iload 7, 2) := by decide +kernel
theorem dX5_partOf_113 : decode cX5_partOf 113 = .ok (.iload 6, 2) := by decide +kernel
theorem dX5_partOf_115 : decode cX5_partOf 115 = .ok (.if_icmp .ge 7, 3) := by decide +kernel
theorem dX5_partOf_118 : decode cX5_partOf 118 = .ok (.iconst 1, 1) := by decide +kernel
theorem dX5_partOf_119 : decode cX5_partOf 119 = .ok (.goto 4, 3) := by decide +kernel
theorem dX5_partOf_122 : decode cX5_partOf 122 = .ok (.iconst 0, 1) := by decide +kernel
theorem dX5_partOf_123 : decode cX5_partOf 123 = .ok (.iadd, 1) := by decide +kernel
theorem dX5_partOf_124 : decode cX5_partOf 124 = .ok (.ireturn, 1) := by decide +kernel
theorem dX5_hear_0 : decode cX5_hear 0 = .ok (.aload_n 0, 1) := by decide +kernel
theorem dX5_hear_1 : decode cX5_hear 1 = .ok (.iload 4, 2) := by decide +kernel
theorem dX5_hear_3 : decode cX5_hear 3 = .ok (.bipush 12, 2) := by decide +kernel
theorem dX5_hear_5 : decode cX5_hear 5 = .ok (.invokestatic 106, 3) := by decide +kernel
theorem dX5_hear_8 : decode cX5_hear 8 = .ok (.putfield 31, 3) := by decide +kernel
theorem dX5_hear_11 : decode cX5_hear 11 = .ok (.iconst 0, 1) := by decide +kernel
theorem dX5_hear_12 : decode cX5_hear 12 = .ok (.istore 5, 2) := by decide +kernel
theorem dX5_hear_14 : decode cX5_hear 14 = .ok (.iload 5, 2) := by decide +kernel
theorem dX5_hear_16 : decode cX5_hear 16 = .ok (.aload_n 0, 1) := by decide +kernel
theorem dX5_hear_17 : decode cX5_hear 17 = .ok (.getfield 31, 3) := by decide +kernel
theorem dX5_hear_20 : decode cX5_hear 20 = .ok (.if_icmp .ge 25, 3) := by decide +kernel
theorem dX5_hear_23 : decode cX5_hear 23 = .ok (.aload_n 0, 1) := by decide +kernel
theorem dX5_hear_24 : decode cX5_hear 24 = .ok (.getfield 27, 3) := by decide +kernel
theorem dX5_hear_27 : decode cX5_hear 27 = .ok (.iload 5, 2) := by decide +kernel
theorem dX5_hear_29 : decode cX5_hear 29 = .ok (.aload_n 1, 1) := by decide +kernel
theorem dX5_hear_30 : decode cX5_hear 30 = .ok (.iload_n 2, 1) := by decide +kernel
theorem dX5_hear_31 : decode cX5_hear 31 = .ok (.iload_n 3, 1) := by decide +kernel
theorem dX5_hear_32 : decode cX5_hear 32 = .ok (.iload 5, 2) := by decide +kernel
theorem dX5_hear_34 : decode cX5_hear 34 = .ok (.iadd, 1) := by decide +kernel
theorem dX5_hear_35 : decode cX5_hear 35 = .ok (.invokevirtual 111, 3) := by decide +kernel
theorem dX5_hear_38 : decode cX5_hear 38 = .ok (.iastore, 1) := by decide +kernel
theorem dX5_hear_39 : decode cX5_hear 39 = .ok (.iinc 5 1, 3) := by decide +kernel
theorem dX5_hear_42 : decode cX5_hear 42 = .ok (.goto (-28), 3) := by decide +kernel
theorem dX5_hear_45 : decode cX5_hear 45 = .ok (.return_, 1) := by decide +kernel
theorem dX5_kindsThatFit_0 : decode cX5_kindsThatFit 0 = .ok (.aload_n 0, 1) := by decide +kernel
theorem dX5_kindsThatFit_1 : decode cX5_kindsThatFit 1 = .ok (.getfield 12, 3) := by decide +kernel
theorem dX5_kindsThatFit_4 : decode cX5_kindsThatFit 4 = .ok (.aload_n 1, 1) := by decide +kernel
theorem dX5_kindsThatFit_5 : decode cX5_kindsThatFit 5 = .ok (.invokevirtual 50, 3) := by decide +kernel
theorem dX5_kindsThatFit_8 : decode cX5_kindsThatFit 8 = .ok (.aload_n 0, 1) := by decide +kernel
theorem dX5_kindsThatFit_9 : decode cX5_kindsThatFit 9 = .ok (.getfield 23, 3) := by decide +kernel
theorem dX5_kindsThatFit_12 : decode cX5_kindsThatFit 12 = .ok (.aload_n 0, 1) := by decide +kernel
theorem dX5_kindsThatFit_13 : decode cX5_kindsThatFit 13 = .ok (.getfield 12, 3) := by decide +kernel
theorem dX5_kindsThatFit_16 : decode cX5_kindsThatFit 16 = .ok (.aload_n 0, 1) := by decide +kernel
theorem dX5_kindsThatFit_17 : decode cX5_kindsThatFit 17 = .ok (.getfield 31, 3) := by decide +kernel
theorem dX5_kindsThatFit_20 : decode cX5_kindsThatFit 20 = .ok (.invokevirtual 35, 3) := by decide +kernel
theorem dX5_kindsThatFit_23 : decode cX5_kindsThatFit 23 = .ok (.iconst 0, 1) := by decide +kernel
theorem dX5_kindsThatFit_24 : decode cX5_kindsThatFit 24 = .ok (.istore_n 3, 1) := by decide +kernel
theorem dX5_kindsThatFit_25 : decode cX5_kindsThatFit 25 = .ok (.iconst 1, 1) := by decide +kernel
theorem dX5_kindsThatFit_26 : decode cX5_kindsThatFit 26 = .ok (.istore 4, 2) := by decide +kernel
theorem dX5_kindsThatFit_28 : decode cX5_kindsThatFit 28 = .ok (.iload 4, 2) := by decide +kernel
theorem dX5_kindsThatFit_30 : decode cX5_kindsThatFit 30 = .ok (.iconst 5, 1) := by decide +kernel
theorem dX5_kindsThatFit_31 : decode cX5_kindsThatFit 31 = .ok (.if_icmp .gt 45, 3) := by decide +kernel
theorem dX5_kindsThatFit_34 : decode cX5_kindsThatFit 34 = .ok (.aload_n 0, 1) := by decide +kernel
theorem dX5_kindsThatFit_35 : decode cX5_kindsThatFit 35 = .ok (.getfield 12, 3) := by decide +kernel
theorem dX5_kindsThatFit_38 : decode cX5_kindsThatFit 38 = .ok (.getfield 116, 3) := by decide +kernel
theorem dX5_kindsThatFit_41 : decode cX5_kindsThatFit 41 = .ok (.iload_n 2, 1) := by decide +kernel
theorem dX5_kindsThatFit_42 : decode cX5_kindsThatFit 42 = .ok (.iload 4, 2) := by decide +kernel
theorem dX5_kindsThatFit_44 : decode cX5_kindsThatFit 44 = .ok (.iastore, 1) := by decide +kernel
theorem dX5_kindsThatFit_45 : decode cX5_kindsThatFit 45 = .ok (.iload_n 3, 1) := by decide +kernel
theorem dX5_kindsThatFit_46 : decode cX5_kindsThatFit 46 = .ok (.aload_n 0, 1) := by decide +kernel
theorem dX5_kindsThatFit_47 : decode cX5_kindsThatFit 47 = .ok (.iload_n 2, 1) := by decide +kernel
theorem dX5_kindsThatFit_48 : decode cX5_kindsThatFit 48 = .ok (.aload_n 1, 1) := by decide +kernel
theorem dX5_kindsThatFit_49 : decode cX5_kindsThatFit 49 = .ok (.getfield 39, 3) := by decide +kernel
theorem dX5_kindsThatFit_52 : decode cX5_kindsThatFit 52 = .ok (.iload_n 2, 1) := by decide +kernel
theorem dX5_kindsThatFit_53 : decode cX5_kindsThatFit 53 = .ok (.iaload, 1) := by decide +kernel
theorem dX5_kindsThatFit_54 : decode cX5_kindsThatFit 54 = .ok (.invokevirtual 119, 3) := by decide +kernel
theorem dX5_kindsThatFit_57 : decode cX5_kindsThatFit 57 = .ok (.ifCond .eq 10, 3) := by decide +kernel
theorem dX5_kindsThatFit_60 : decode cX5_kindsThatFit 60 = .ok (.iconst 1, 1) := by decide +kernel
theorem dX5_kindsThatFit_61 : decode cX5_kindsThatFit 61 = .ok (.iload 4, 2) := by decide +kernel
theorem dX5_kindsThatFit_63 : decode cX5_kindsThatFit 63 = .ok (.ishl, 1) := by decide +kernel
theorem dX5_kindsThatFit_64 : decode cX5_kindsThatFit 64 = .ok (.goto 4, 3) := by decide +kernel
theorem dX5_kindsThatFit_67 : decode cX5_kindsThatFit 67 = .ok (.iconst 0, 1) := by decide +kernel
theorem dX5_kindsThatFit_68 : decode cX5_kindsThatFit 68 = .ok (.ior, 1) := by decide +kernel
theorem dX5_kindsThatFit_69 : decode cX5_kindsThatFit 69 = .ok (.istore_n 3, 1) := by decide +kernel
theorem dX5_kindsThatFit_70 : decode cX5_kindsThatFit 70 = .ok (.iinc 4 1, 3) := by decide +kernel
theorem dX5_kindsThatFit_73 : decode cX5_kindsThatFit 73 = .ok (.goto (-45), 3) := by decide +kernel
theorem dX5_kindsThatFit_76 : decode cX5_kindsThatFit 76 = .ok (.iload_n 3, 1) := by decide +kernel
theorem dX5_kindsThatFit_77 : decode cX5_kindsThatFit 77 = .ok (.ireturn, 1) := by decide +kernel
theorem dX5_highsThatFit_0 : decode cX5_highsThatFit 0 = .ok (.aload_n 0, 1) := by decide +kernel
theorem dX5_highsThatFit_1 : decode cX5_highsThatFit 1 = .ok (.getfield 12, 3) := by decide +kernel
theorem dX5_highsThatFit_4 : decode cX5_highsThatFit 4 = .ok (.aload_n 1, 1) := by decide +kernel
theorem dX5_highsThatFit_5 : decode cX5_highsThatFit 5 = .ok (.invokevirtual 50, 3) := by decide +kernel
theorem dX5_highsThatFit_8 : decode cX5_highsThatFit 8 = .ok (.aload_n 0, 1) := by decide +kernel
theorem dX5_highsThatFit_9 : decode cX5_highsThatFit 9 = .ok (.getfield 23, 3) := by decide +kernel
theorem dX5_highsThatFit_12 : decode cX5_highsThatFit 12 = .ok (.aload_n 0, 1) := by decide +kernel
theorem dX5_highsThatFit_13 : decode cX5_highsThatFit 13 = .ok (.getfield 12, 3) := by decide +kernel
theorem dX5_highsThatFit_16 : decode cX5_highsThatFit 16 = .ok (.aload_n 0, 1) := by decide +kernel
theorem dX5_highsThatFit_17 : decode cX5_highsThatFit 17 = .ok (.getfield 31, 3) := by decide +kernel
theorem dX5_highsThatFit_20 : decode cX5_highsThatFit 20 = .ok (.invokevirtual 35, 3) := by decide +kernel
theorem dX5_highsThatFit_23 : decode cX5_highsThatFit 23 = .ok (.iconst 0, 1) := by decide +kernel
theorem dX5_highsThatFit_24 : decode cX5_highsThatFit 24 = .ok (.istore_n 3, 1) := by decide +kernel
theorem dX5_highsThatFit_25 : decode cX5_highsThatFit 25 = .ok (.iconst 1, 1) := by decide +kernel
theorem dX5_highsThatFit_26 : decode cX5_highsThatFit 26 = .ok (.istore 4, 2) := by decide +kernel
theorem dX5_highsThatFit_28 : decode cX5_highsThatFit 28 = .ok (.iload 4, 2) := by decide +kernel
theorem dX5_highsThatFit_30 : decode cX5_highsThatFit 30 = .ok (.bipush 9, 2) := by decide +kernel
theorem dX5_highsThatFit_32 : decode cX5_highsThatFit 32 = .ok (.if_icmp .gt 45, 3) := by decide +kernel
theorem dX5_highsThatFit_35 : decode cX5_highsThatFit 35 = .ok (.aload_n 0, 1) := by decide +kernel
theorem dX5_highsThatFit_36 : decode cX5_highsThatFit 36 = .ok (.getfield 12, 3) := by decide +kernel
theorem dX5_highsThatFit_39 : decode cX5_highsThatFit 39 = .ok (.getfield 103, 3) := by decide +kernel
theorem dX5_highsThatFit_42 : decode cX5_highsThatFit 42 = .ok (.iload_n 2, 1) := by decide +kernel
theorem dX5_highsThatFit_43 : decode cX5_highsThatFit 43 = .ok (.iload 4, 2) := by decide +kernel
theorem dX5_highsThatFit_45 : decode cX5_highsThatFit 45 = .ok (.iastore, 1) := by decide +kernel
theorem dX5_highsThatFit_46 : decode cX5_highsThatFit 46 = .ok (.iload_n 3, 1) := by decide +kernel
theorem dX5_highsThatFit_47 : decode cX5_highsThatFit 47 = .ok (.aload_n 0, 1) := by decide +kernel
theorem dX5_highsThatFit_48 : decode cX5_highsThatFit 48 = .ok (.iload_n 2, 1) := by decide +kernel
theorem dX5_highsThatFit_49 : decode cX5_highsThatFit 49 = .ok (.aload_n 1, 1) := by decide +kernel
theorem dX5_highsThatFit_50 : decode cX5_highsThatFit 50 = .ok (.getfield 39, 3) := by decide +kernel
theorem dX5_highsThatFit_53 : decode cX5_highsThatFit 53 = .ok (.iload_n 2, 1) := by decide +kernel
theorem dX5_highsThatFit_54 : decode cX5_highsThatFit 54 = .ok (.iaload, 1) := by decide +kernel
theorem dX5_highsThatFit_55 : decode cX5_highsThatFit 55 = .ok (.invokevirtual 119, 3) := by decide +kernel
theorem dX5_highsThatFit_58 : decode cX5_highsThatFit 58 = .ok (.ifCond .eq 10, 3) := by decide +kernel
theorem dX5_highsThatFit_61 : decode cX5_highsThatFit 61 = .ok (.iconst 1, 1) := by decide +kernel
theorem dX5_highsThatFit_62 : decode cX5_highsThatFit 62 = .ok (.iload 4, 2) := by decide +kernel
theorem dX5_highsThatFit_64 : decode cX5_highsThatFit 64 = .ok (.ishl, 1) := by decide +kernel
theorem dX5_highsThatFit_65 : decode cX5_highsThatFit 65 = .ok (.goto 4, 3) := by decide +kernel
theorem dX5_highsThatFit_68 : decode cX5_highsThatFit 68 = .ok (.iconst 0, 1) := by decide +kernel
theorem dX5_highsThatFit_69 : decode cX5_highsThatFit 69 = .ok (.ior, 1) := by decide +kernel
theorem dX5_highsThatFit_70 : decode cX5_highsThatFit 70 = .ok (.istore_n 3, 1) := by decide +kernel
theorem dX5_highsThatFit_71 : decode cX5_highsThatFit 71 = .ok (.iinc 4 1, 3) := by decide +kernel
theorem dX5_highsThatFit_74 : decode cX5_highsThatFit 74 = .ok (.goto (-46), 3) := by decide +kernel
theorem dX5_highsThatFit_77 : decode cX5_highsThatFit 77 = .ok (.iload_n 3, 1) := by decide +kernel
theorem dX5_highsThatFit_78 : decode cX5_highsThatFit 78 = .ok (.ireturn, 1) := by decide +kernel
theorem dX5_roomsThatFit_0 : decode cX5_roomsThatFit 0 = .ok (.aload_n 0, 1) := by decide +kernel
theorem dX5_roomsThatFit_1 : decode cX5_roomsThatFit 1 = .ok (.getfield 12, 3) := by decide +kernel
theorem dX5_roomsThatFit_4 : decode cX5_roomsThatFit 4 = .ok (.aload_n 1, 1) := by decide +kernel
theorem dX5_roomsThatFit_5 : decode cX5_roomsThatFit 5 = .ok (.invokevirtual 50, 3) := by decide +kernel
theorem dX5_roomsThatFit_8 : decode cX5_roomsThatFit 8 = .ok (.aload_n 0, 1) := by decide +kernel
theorem dX5_roomsThatFit_9 : decode cX5_roomsThatFit 9 = .ok (.getfield 23, 3) := by decide +kernel
theorem dX5_roomsThatFit_12 : decode cX5_roomsThatFit 12 = .ok (.aload_n 0, 1) := by decide +kernel
theorem dX5_roomsThatFit_13 : decode cX5_roomsThatFit 13 = .ok (.getfield 12, 3) := by decide +kernel
theorem dX5_roomsThatFit_16 : decode cX5_roomsThatFit 16 = .ok (.aload_n 0, 1) := by decide +kernel
theorem dX5_roomsThatFit_17 : decode cX5_roomsThatFit 17 = .ok (.getfield 31, 3) := by decide +kernel
theorem dX5_roomsThatFit_20 : decode cX5_roomsThatFit 20 = .ok (.invokevirtual 35, 3) := by decide +kernel
theorem dX5_roomsThatFit_23 : decode cX5_roomsThatFit 23 = .ok (.iconst 0, 1) := by decide +kernel
theorem dX5_roomsThatFit_24 : decode cX5_roomsThatFit 24 = .ok (.istore_n 3, 1) := by decide +kernel
theorem dX5_roomsThatFit_25 : decode cX5_roomsThatFit 25 = .ok (.iconst 0, 1) := by decide +kernel
theorem dX5_roomsThatFit_26 : decode cX5_roomsThatFit 26 = .ok (.istore 4, 2) := by decide +kernel
theorem dX5_roomsThatFit_28 : decode cX5_roomsThatFit 28 = .ok (.iload 4, 2) := by decide +kernel
theorem dX5_roomsThatFit_30 : decode cX5_roomsThatFit 30 = .ok (.aload_n 1, 1) := by decide +kernel
theorem dX5_roomsThatFit_31 : decode cX5_roomsThatFit 31 = .ok (.getfield 68, 3) := by decide +kernel
theorem dX5_roomsThatFit_34 : decode cX5_roomsThatFit 34 = .ok (.if_icmp .ge 30, 3) := by decide +kernel
theorem dX5_roomsThatFit_37 : decode cX5_roomsThatFit 37 = .ok (.iload_n 3, 1) := by decide +kernel
theorem dX5_roomsThatFit_38 : decode cX5_roomsThatFit 38 = .ok (.aload_n 0, 1) := by decide +kernel
theorem dX5_roomsThatFit_39 : decode cX5_roomsThatFit 39 = .ok (.iload_n 2, 1) := by decide +kernel
theorem dX5_roomsThatFit_40 : decode cX5_roomsThatFit 40 = .ok (.iload 4, 2) := by decide +kernel
theorem dX5_roomsThatFit_42 : decode cX5_roomsThatFit 42 = .ok (.invokevirtual 119, 3) := by decide +kernel
theorem dX5_roomsThatFit_45 : decode cX5_roomsThatFit 45 = .ok (.ifCond .eq 10, 3) := by decide +kernel
theorem dX5_roomsThatFit_48 : decode cX5_roomsThatFit 48 = .ok (.iconst 1, 1) := by decide +kernel
theorem dX5_roomsThatFit_49 : decode cX5_roomsThatFit 49 = .ok (.iload 4, 2) := by decide +kernel
theorem dX5_roomsThatFit_51 : decode cX5_roomsThatFit 51 = .ok (.ishl, 1) := by decide +kernel
theorem dX5_roomsThatFit_52 : decode cX5_roomsThatFit 52 = .ok (.goto 4, 3) := by decide +kernel
theorem dX5_roomsThatFit_55 : decode cX5_roomsThatFit 55 = .ok (.iconst 0, 1) := by decide +kernel
theorem dX5_roomsThatFit_56 : decode cX5_roomsThatFit 56 = .ok (.ior, 1) := by decide +kernel
theorem dX5_roomsThatFit_57 : decode cX5_roomsThatFit 57 = .ok (.istore_n 3, 1) := by decide +kernel
theorem dX5_roomsThatFit_58 : decode cX5_roomsThatFit 58 = .ok (.iinc 4 1, 3) := by decide +kernel
theorem dX5_roomsThatFit_61 : decode cX5_roomsThatFit 61 = .ok (.goto (-33), 3) := by decide +kernel
theorem dX5_roomsThatFit_64 : decode cX5_roomsThatFit 64 = .ok (.iload_n 3, 1) := by decide +kernel
theorem dX5_roomsThatFit_65 : decode cX5_roomsThatFit 65 = .ok (.ireturn, 1) := by decide +kernel
theorem dX5_goesAsHeard_0 : decode cX5_goesAsHeard 0 = .ok (.iload_n 2, 1) := by decide +kernel
theorem dX5_goesAsHeard_1 : decode cX5_goesAsHeard 1 = .ok (.istore_n 3, 1) := by decide +kernel
theorem dX5_goesAsHeard_2 : decode cX5_goesAsHeard 2 = .ok (.iconst 0, 1) := by decide +kernel
theorem dX5_goesAsHeard_3 : decode cX5_goesAsHeard 3 = .ok (.istore 4, 2) := by decide +kernel
theorem dX5_goesAsHeard_5 : decode cX5_goesAsHeard 5 = .ok (.iload 4, 2) := by decide +kernel
theorem dX5_goesAsHeard_7 : decode cX5_goesAsHeard 7 = .ok (.aload_n 0, 1) := by decide +kernel
theorem dX5_goesAsHeard_8 : decode cX5_goesAsHeard 8 = .ok (.getfield 31, 3) := by decide +kernel
theorem dX5_goesAsHeard_11 : decode cX5_goesAsHeard 11 = .ok (.if_icmp .ge 38, 3) := by decide +kernel
theorem dX5_goesAsHeard_14 : decode cX5_goesAsHeard 14 = .ok (.aload_n 0, 1) := by decide +kernel
theorem dX5_goesAsHeard_15 : decode cX5_goesAsHeard 15 = .ok (.getfield 23, 3) := by decide +kernel
theorem dX5_goesAsHeard_18 : decode cX5_goesAsHeard 18 = .ok (.aload_n 0, 1) := by decide +kernel
theorem dX5_goesAsHeard_19 : decode cX5_goesAsHeard 19 = .ok (.getfield 12, 3) := by decide +kernel
theorem dX5_goesAsHeard_22 : decode cX5_goesAsHeard 22 = .ok (.iload_n 1, 1) := by decide +kernel
theorem dX5_goesAsHeard_23 : decode cX5_goesAsHeard 23 = .ok (.iload_n 3, 1) := by decide +kernel
theorem dX5_goesAsHeard_24 : decode cX5_goesAsHeard 24 = .ok (.iload 4, 2) := by decide +kernel
theorem dX5_goesAsHeard_26 : decode cX5_goesAsHeard 26 = .ok (.invokevirtual 76, 3) := by decide +kernel
theorem dX5_goesAsHeard_29 : decode cX5_goesAsHeard 29 = .ok (.istore_n 3, 1) := by decide +kernel
theorem dX5_goesAsHeard_30 : decode cX5_goesAsHeard 30 = .ok (.iload_n 3, 1) := by decide +kernel
theorem dX5_goesAsHeard_31 : decode cX5_goesAsHeard 31 = .ok (.aload_n 0, 1) := by decide +kernel
theorem dX5_goesAsHeard_32 : decode cX5_goesAsHeard 32 = .ok (.getfield 27, 3) := by decide +kernel
theorem dX5_goesAsHeard_35 : decode cX5_goesAsHeard 35 = .ok (.iload 4, 2) := by decide +kernel
theorem dX5_goesAsHeard_37 : decode cX5_goesAsHeard 37 = .ok (.iaload, 1) := by decide +kernel
theorem dX5_goesAsHeard_38 : decode cX5_goesAsHeard 38 = .ok (.if_icmp .eq 5, 3) := by decide +kernel
theorem dX5_goesAsHeard_41 : decode cX5_goesAsHeard 41 = .ok (.iconst 0, 1) := by decide +kernel
theorem dX5_goesAsHeard_42 : decode cX5_goesAsHeard 42 = .ok (.ireturn, 1) := by decide +kernel
theorem dX5_goesAsHeard_43 : decode cX5_goesAsHeard 43 = .ok (.iinc 4 1, 3) := by decide +kernel
theorem dX5_goesAsHeard_46 : decode cX5_goesAsHeard 46 = .ok (.goto (-41), 3) := by decide +kernel
theorem dX5_goesAsHeard_49 : decode cX5_goesAsHeard 49 = .ok (.iconst 1, 1) := by decide +kernel
theorem dX5_goesAsHeard_50 : decode cX5_goesAsHeard 50 = .ok (.ireturn, 1) := by decide +kernel
