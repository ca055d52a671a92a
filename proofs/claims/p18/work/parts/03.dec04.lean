theorem dX13_init_72 : decode cX13_init 72 = .ok (.aload_n 0, 1) := by decide +kernel
theorem dX13_init_73 : decode cX13_init 73 = .ok (.bipush 41, 2) := by decide +kernel
theorem dX13_init_75 : decode cX13_init 75 = .ok (.newarray .int, 2) := by decide +kernel
theorem dX13_init_77 : decode cX13_init 77 = .ok (.putfield 74, 3) := by decide +kernel
theorem dX13_init_80 : decode cX13_init 80 = .ok (.aload_n 0, 1) := by decide +kernel
theorem dX13_init_81 : decode cX13_init 81 = .ok (.bipush 41, 2) := by decide +kernel
theorem dX13_init_83 : decode cX13_init 83 = .ok (.newarray .int, 2) := by decide +kernel
theorem dX13_init_85 : decode cX13_init 85 = .ok (.putfield 77, 3) := by decide +kernel
theorem dX13_init_88 : decode cX13_init 88 = .ok (.aload_n 0, 1) := by decide +kernel
theorem dX13_init_89 : decode cX13_init 89 = .ok (.bipush 41, 2) := by decide +kernel
theorem dX13_init_91 : decode cX13_init 91 = .ok (.newarray .int, 2) := by decide +kernel
theorem dX13_init_93 : decode cX13_init 93 = .ok (.putfield 80, 3) := by decide +kernel
theorem dX13_init_96 : decode cX13_init 96 = .ok (.aload_n 0, 1) := by decide +kernel
theorem dX13_init_97 : decode cX13_init 97 = .ok (.bipush 41, 2) := by decide +kernel
theorem dX13_init_99 : decode cX13_init 99 = .ok (.newarray .int, 2) := by decide +kernel
theorem dX13_init_101 : decode cX13_init 101 = .ok (.putfield 83, 3) := by decide +kernel
theorem dX13_init_104 : decode cX13_init 104 = .ok (.aload_n 0, 1) := by decide +kernel
theorem dX13_init_105 : decode cX13_init 105 = .ok (.bipush 41, 2) := by decide +kernel
theorem dX13_init_107 : decode cX13_init 107 = .ok (.newarray .int, 2) := by decide +kernel
theorem dX13_init_109 : decode cX13_init 109 = .ok (.putfield 86, 3) := by decide +kernel
theorem dX13_init_112 : decode cX13_init 112 = .ok (.aload_n 0, 1) := by decide +kernel
theorem dX13_init_113 : decode cX13_init 113 = .ok (.bipush 41, 2) := by decide +kernel
theorem dX13_init_115 : decode cX13_init 115 = .ok (.newarray .int, 2) := by decide +kernel
theorem dX13_init_117 : decode cX13_init 117 = .ok (.putfield 89, 3) := by decide +kernel
theorem dX13_init_120 : decode cX13_init 120 = .ok (.aload_n 0, 1) := by decide +kernel
theorem dX13_init_121 : decode cX13_init 121 = .ok (.sipush 246, 3) := by decide +kernel
theorem dX13_init_124 : decode cX13_init 124 = .ok (.newarray .long, 2) := by decide +kernel
theorem dX13_init_126 : decode cX13_init 126 = .ok (.putfield 92, 3) := by decide +kernel
theorem dX13_init_129 : decode cX13_init 129 = .ok (.aload_n 0, 1) := by decide +kernel
theorem dX13_init_130 : decode cX13_init 130 = .ok (.bipush 41, 2) := by decide +kernel
theorem dX13_init_132 : decode cX13_init 132 = .ok (.newarray .boolean, 2) := by decide +kernel
theorem dX13_init_134 : decode cX13_init 134 = .ok (.putfield 95, 3) := by decide +kernel
theorem dX13_init_137 : decode cX13_init 137 = .ok (.aload_n 0, 1) := by decide +kernel
theorem dX13_init_138 : decode cX13_init 138 = .ok (.bipush 41, 2) := by decide +kernel
theorem dX13_init_140 : decode cX13_init 140 = .ok (.newarray .boolean, 2) := by decide +kernel
theorem dX13_init_142 : decode cX13_init 142 = .ok (.putfield 99, 3) := by decide +kernel
theorem dX13_init_145 : decode cX13_init 145 = .ok (.aload_n 0, 1) := by decide +kernel
theorem dX13_init_146 : decode cX13_init 146 = .ok (.iconst 3, 1) := by decide +kernel
theorem dX13_init_147 : decode cX13_init 147 = .ok (.newarray .int, 2) := by decide +kernel
theorem dX13_init_149 : decode cX13_init 149 = .ok (.dup, 1) := by decide +kernel
theorem dX13_init_150 : decode cX13_init 150 = .ok (.iconst 0, 1) := by decide +kernel
theorem dX13_init_151 : decode cX13_init 151 = .ok (.iconst 0, 1) := by decide +kernel
theorem dX13_init_152 : decode cX13_init 152 = .ok (.iastore, 1) := by decide +kernel
theorem dX13_init_153 : decode cX13_init 153 = .ok (.dup, 1) := by decide +kernel
theorem dX13_init_154 : decode cX13_init 154 = .ok (.iconst 1, 1) := by decide +kernel
theorem dX13_init_155 : decode cX13_init 155 = .ok (.iconst 1, 1) := by decide +kernel
theorem dX13_init_156 : decode cX13_init 156 = .ok (.iastore, 1) := by decide +kernel
theorem dX13_init_157 : decode cX13_init 157 = .ok (.dup, 1) := by decide +kernel
theorem dX13_init_158 : decode cX13_init 158 = .ok (.iconst 2, 1) := by decide +kernel
theorem dX13_init_159 : decode cX13_init 159 = .ok (.iconst 2, 1) := by decide +kernel
theorem dX13_init_160 : decode cX13_init 160 = .ok (.iastore, 1) := by decide +kernel
theorem dX13_init_161 : decode cX13_init 161 = .ok (.putfield 102, 3) := by decide +kernel
theorem dX13_init_164 : decode cX13_init 164 = .ok (.aload_n 0, 1) := by decide +kernel
theorem dX13_init_165 : decode cX13_init 165 = .ok (.iconst 5, 1) := by decide +kernel
theorem dX13_init_166 : decode cX13_init 166 = .ok (.newarray .int, 2) := by decide +kernel
theorem dX13_init_168 : decode cX13_init 168 = .ok (.dup, 1) := by decide +kernel
theorem dX13_init_169 : decode cX13_init 169 = .ok (.iconst 0, 1) := by decide +kernel
theorem dX13_init_170 : decode cX13_init 170 = .ok (.iconst 5, 1) := by decide +kernel
theorem dX13_init_171 : decode cX13_init 171 = .ok (.iastore, 1) := by decide +kernel
theorem dX13_init_172 : decode cX13_init 172 = .ok (.dup, 1) := by decide +kernel
theorem dX13_init_173 : decode cX13_init 173 = .ok (.iconst 1, 1) := by decide +kernel
theorem dX13_init_174 : decode cX13_init 174 = .ok (.bipush 10, 2) := by decide +kernel
theorem dX13_init_176 : decode cX13_init 176 = .ok (.iastore, 1) := by decide +kernel
theorem dX13_init_177 : decode cX13_init 177 = .ok (.dup, 1) := by decide +kernel
theorem dX13_init_178 : decode cX13_init 178 = .ok (.iconst 2, 1) := by decide +kernel
theorem dX13_init_179 : decode cX13_init 179 = .ok (.bipush 10, 2) := by decide +kernel
theorem dX13_init_181 : decode cX13_init 181 = .ok (.iastore, 1) := by decide +kernel
theorem dX13_init_182 : decode cX13_init 182 = .ok (.dup, 1) := by decide +kernel
theorem dX13_init_183 : decode cX13_init 183 = .ok (.iconst 3, 1) := by decide +kernel
theorem dX13_init_184 : decode cX13_init 184 = .ok (.bipush 8, 2) := by decide +kernel
theorem dX13_init_186 : decode cX13_init 186 = .ok (.iastore, 1) := by decide +kernel
theorem dX13_init_187 : decode cX13_init 187 = .ok (.dup, 1) := by decide +kernel
theorem dX13_init_188 : decode cX13_init 188 = .ok (.iconst 4, 1) := by decide +kernel
theorem dX13_init_189 : decode cX13_init 189 = .ok (.bipush 12, 2) := by decide +kernel
theorem dX13_init_191 : decode cX13_init 191 = .ok (.iastore, 1) := by decide +kernel
theorem dX13_init_192 : decode cX13_init 192 = .ok (.putfield 105, 3) := by decide +kernel
theorem dX13_init_195 : decode cX13_init 195 = .ok (.aload_n 0, 1) := by decide +kernel
theorem dX13_init_196 : decode cX13_init 196 = .ok (.iconst 2, 1) := by decide +kernel
theorem dX13_init_197 : decode cX13_init 197 = .ok (.newarray .int, 2) := by decide +kernel
theorem dX13_init_199 : decode cX13_init 199 = .ok (.dup, 1) := by decide +kernel
theorem dX13_init_200 : decode cX13_init 200 = .ok (.iconst 0, 1) := by decide +kernel
theorem dX13_init_201 : decode cX13_init 201 = .ok (.iconst 2, 1) := by decide +kernel
theorem dX13_init_202 : decode cX13_init 202 = .ok (.iastore, 1) := by decide +kernel
theorem dX13_init_203 : decode cX13_init 203 = .ok (.dup, 1) := by decide +kernel
theorem dX13_init_204 : decode cX13_init 204 = .ok (.iconst 1, 1) := by decide +kernel
theorem dX13_init_205 : decode cX13_init 205 = .ok (.iconst 3, 1) := by decide +kernel
theorem dX13_init_206 : decode cX13_init 206 = .ok (.iastore, 1) := by decide +kernel
theorem dX13_init_207 : decode cX13_init 207 = .ok (.putfield 108, 3) := by decide +kernel
theorem dX13_init_210 : decode cX13_init 210 = .ok (.aload_n 0, 1) := by decide +kernel
theorem dX13_init_211 : decode cX13_init 211 = .ok (.bipush 40, 2) := by decide +kernel
theorem dX13_init_213 : decode cX13_init 213 = .ok (.newarray .int, 2) := by decide +kernel
theorem dX13_init_215 : decode cX13_init 215 = .ok (.putfield 111, 3) := by decide +kernel
theorem dX13_init_218 : decode cX13_init 218 = .ok (.aload_n 0, 1) := by decide +kernel
theorem dX13_init_219 : decode cX13_init 219 = .ok (.bipush 40, 2) := by decide +kernel
theorem dX13_init_221 : decode cX13_init 221 = .ok (.newarray .int, 2) := by decide +kernel
theorem dX13_init_223 : decode cX13_init 223 = .ok (.putfield 114, 3) := by decide +kernel
theorem dX13_init_226 : decode cX13_init 226 = .ok (.aload_n 0, 1) := by decide +kernel
theorem dX13_init_227 : decode cX13_init 227 = .ok (.bipush 40, 2) := by decide +kernel
theorem dX13_init_229 : decode cX13_init 229 = .ok (.newarray .boolean, 2) := by decide +kernel
theorem dX13_init_231 : decode cX13_init 231 = .ok (.putfield 117, 3) := by decide +kernel
theorem dX13_init_234 : decode cX13_init 234 = .ok (.aload_n 0, 1) := by decide +kernel
theorem dX13_init_235 : decode cX13_init 235 = .ok (.ldc 120, 2) := by decide +kernel
theorem dX13_init_237 : decode cX13_init 237 = .ok (.newarray .int, 2) := by decide +kernel
theorem dX13_init_239 : decode cX13_init 239 = .ok (.putfield 121, 3) := by decide +kernel
theorem dX13_init_242 : decode cX13_init 242 = .ok (.aload_n 0, 1) := by decide +kernel
theorem dX13_init_243 : decode cX13_init 243 = .ok (.bipush 8, 2) := by decide +kernel
theorem dX13_init_245 : decode cX13_init 245 = .ok (.newarray .int, 2) := by decide +kernel
theorem dX13_init_247 : decode cX13_init 247 = .ok (.putfield 124, 3) := by decide +kernel
theorem dX13_init_250 : decode cX13_init 250 = .ok (.aload_n 0, 1) := by decide +kernel
theorem dX13_init_251 : decode cX13_init 251 = .ok (.sipush 470, 3) := by decide +kernel
theorem dX13_init_254 : decode cX13_init 254 = .ok (.newarray .int, 2) := by decide +kernel
theorem dX13_init_256 : decode cX13_init 256 = .ok (.putfield 127, 3) := by decide +kernel
theorem dX13_init_259 : decode cX13_init 259 = .ok (.aload_n 0, 1) := by decide +kernel
theorem dX13_init_260 : decode cX13_init 260 = .ok (.sipush 470, 3) := by decide +kernel
theorem dX13_init_263 : decode cX13_init 263 = .ok (.newarray .int, 2) := by decide +kernel
theorem dX13_init_265 : decode cX13_init 265 = .ok (.putfield 130, 3) := by decide +kernel
theorem dX13_init_268 : decode cX13_init 268 = .ok (.aload_n 0, 1) := by decide +kernel
theorem dX13_init_269 : decode cX13_init 269 = .ok (.sipush 470, 3) := by decide +kernel
theorem dX13_init_272 : decode cX13_init 272 = .ok (.newarray .int, 2) := by decide +kernel
theorem dX13_init_274 : decode cX13_init 274 = .ok (.putfield 133, 3) := by decide +kernel
theorem dX13_init_277 : decode cX13_init 277 = .ok (.return_, 1) := by decide +kernel
theorem dX13_feed_0 : decode cX13_feed 0 = .ok (.aload_n 0, 1) := by decide +kernel
theorem dX13_feed_1 : decode cX13_feed 1 = .ok (.getfield 28, 3) := by decide +kernel
theorem dX13_feed_4 : decode cX13_feed 4 = .ok (.bipush 20, 2) := by decide +kernel
theorem dX13_feed_6 : decode cX13_feed 6 = .ok (.iadd, 1) := by decide +kernel
theorem dX13_feed_7 : decode cX13_feed 7 = .ok (.sipush 2000, 3) := by decide +kernel
theorem dX13_feed_10 : decode cX13_feed 10 = .ok (.if_icmp .le 6, 3) := by decide +kernel
theorem dX13_feed_13 : decode cX13_feed 13 = .ok (.bipush (-3), 2) := by decide +kernel
theorem dX13_feed_15 : decode cX13_feed 15 = .ok (.ireturn, 1) := by decide +kernel
theorem dX13_feed_16 : decode cX13_feed 16 = .ok (.aload_n 0, 1) := by decide +kernel
theorem dX13_feed_17 : decode cX13_feed 17 = .ok (.iload_n 1, 1) := by decide +kernel
theorem dX13_feed_18 : decode cX13_feed 18 = .ok (.invokevirtual 136, 3) := by decide +kernel
theorem dX13_feed_21 : decode cX13_feed 21 = .ok (.aload_n 0, 1) := by decide +kernel
theorem dX13_feed_22 : decode cX13_feed 22 = .ok (.iload_n 2, 1) := by decide +kernel
theorem dX13_feed_23 : decode cX13_feed 23 = .ok (.invokevirtual 136, 3) := by decide +kernel
theorem dX13_feed_26 : decode cX13_feed 26 = .ok (.aload_n 0, 1) := by decide +kernel
theorem dX13_feed_27 : decode cX13_feed 27 = .ok (.iload_n 3, 1) := by decide +kernel
theorem dX13_feed_28 : decode cX13_feed 28 = .ok (.invokevirtual 136, 3) := by decide +kernel
theorem dX13_feed_31 : decode cX13_feed 31 = .ok (.aload_n 0, 1) := by decide +kernel
theorem dX13_feed_32 : decode cX13_feed 32 = .ok (.iload 4, 2) := by decide +kernel
theorem dX13_feed_34 : decode cX13_feed 34 = .ok (.invokevirtual 136, 3) := by decide +kernel
theorem dX13_feed_37 : decode cX13_feed 37 = .ok (.aload_n 0, 1) := by decide +kernel
theorem dX13_feed_38 : decode cX13_feed 38 = .ok (.iload 5, 2) := by decide +kernel
theorem dX13_feed_40 : decode cX13_feed 40 = .ok (.invokevirtual 136, 3) := by decide +kernel
theorem dX13_feed_43 : decode cX13_feed 43 = .ok (.aload_n 0, 1) := by decide +kernel
theorem dX13_feed_44 : decode cX13_feed 44 = .ok (.getfield 28, 3) := by decide +kernel
theorem dX13_feed_47 : decode cX13_feed 47 = .ok (.ireturn, 1) := by decide +kernel
theorem dX13_lay_0 : decode cX13_lay 0 = .ok (.bipush 24, 2) := by decide +kernel
theorem dX13_lay_2 : decode cX13_lay 2 = .ok (.istore_n 2, 1) := by decide +kernel
theorem dX13_lay_3 : decode cX13_lay 3 = .ok (.iload_n 2, 1) := by decide +kernel
theorem dX13_lay_4 : decode cX13_lay 4 = .ok (.ifCond .lt 32, 3) := by decide +kernel
theorem dX13_lay_7 : decode cX13_lay 7 = .ok (.aload_n 0, 1) := by decide +kernel
theorem dX13_lay_8 : decode cX13_lay 8 = .ok (.getfield 17, 3) := by decide +kernel
theorem dX13_lay_11 : decode cX13_lay 11 = .ok (.aload_n 0, 1) := by decide +kernel
theorem dX13_lay_12 : decode cX13_lay 12 = .ok (.getfield 28, 3) := by decide +kernel
theorem dX13_lay_15 : decode cX13_lay 15 = .ok (.iload_n 1, 1) := by decide +kernel
theorem dX13_lay_16 : decode cX13_lay 16 = .ok (.iload_n 2, 1) := by decide +kernel
theorem dX13_lay_17 : decode cX13_lay 17 = .ok (.ishr, 1) := by decide +kernel
theorem dX13_lay_18 : decode cX13_lay 18 = .ok (.i2b, 1) := by decide +kernel
theorem dX13_lay_19 : decode cX13_lay 19 = .ok (.bastore, 1) := by decide +kernel
theorem dX13_lay_20 : decode cX13_lay 20 = .ok (.aload_n 0, 1) := by decide +kernel
theorem dX13_lay_21 : decode cX13_lay 21 = .ok (.dup, 1) := by decide +kernel
theorem dX13_lay_22 : decode cX13_lay 22 = .ok (.getfield 28, 3) := by decide +kernel
theorem dX13_lay_25 : decode cX13_lay 25 = .ok (.iconst 1, 1) := by decide +kernel
theorem dX13_lay_26 : decode cX13_lay 26 = .ok (.iadd, 1) := by decide +kernel
theorem dX13_lay_27 : decode cX13_lay 27 = .ok (.putfield 28, 3) := by decide +kernel
theorem dX13_lay_30 : decode cX13_lay 30 = .ok (.iinc 2 (-8), 3) := by decide +kernel
theorem dX13_lay_33 : decode cX13_lay 33 = .ok (.goto (-30), 3) := by decide +kernel
theorem dX13_lay_36 : decode cX13_lay 36 = .ok (.return_, 1) := by decide +kernel
theorem dX13_end_0 : decode cX13_end 0 = .ok (.iload_n 1, 1) := by decide +kernel
theorem dX13_end_1 : decode cX13_end 1 = .ok (.i2l, 1) := by decide +kernel
theorem dX13_end_2 : decode cX13_end 2 = .ok (.lconst 0, 1) := by decide +kernel
theorem dX13_end_3 : decode cX13_end 3 = .ok (.aload_n 0, 1) := by decide +kernel
theorem dX13_end_4 : decode cX13_end 4 = .ok (.getfield 28, 3) := by decide +kernel
theorem dX13_end_7 : decode cX13_end 7 = .ok (.i2l, 1) := by decide +kernel
theorem dX13_end_8 : decode cX13_end 8 = .ok (.invokestatic 140, 3) := by decide +kernel
theorem dX13_end_11 : decode cX13_end 11 = .ok (.ifCond .ne 5, 3) := by decide +kernel
theorem dX13_end_14 : decode cX13_end 14 = .ok (.iconst (-1), 1) := by decide +kernel
theorem dX13_end_15 : decode cX13_end 15 = .ok (.ireturn, 1) := by decide +kernel
theorem dX13_end_16 : decode cX13_end 16 = .ok (.aload_n 0, 1) := by decide +kernel
theorem dX13_end_17 : decode cX13_end 17 = .ok (.iload_n 1, 1) := by decide +kernel
theorem dX13_end_18 : decode cX13_end 18 = .ok (.putfield 28, 3) := by decide +kernel
theorem dX13_end_21 : decode cX13_end 21 = .ok (.iload_n 1, 1) := by decide +kernel
theorem dX13_end_22 : decode cX13_end 22 = .ok (.ireturn, 1) := by decide +kernel
theorem dX13_first_0 : decode cX13_first 0 = .ok (.aload_n 0, 1) := by decide +kernel
theorem dX13_first_1 : decode cX13_first 1 = .ok (.invokevirtual 144, 3) := by decide +kernel
theorem dX13_first_4 : decode cX13_first 4 = .ok (.aload_n 0, 1) := by decide +kernel
theorem dX13_first_5 : decode cX13_first 5 = .ok (.bipush 60, 2) := by decide +kernel
theorem dX13_first_7 : decode cX13_first 7 = .ok (.invokevirtual 147, 3) := by decide +kernel
theorem dX13_first_10 : decode cX13_first 10 = .ok (.istore_n 1, 1) := by decide +kernel
theorem dX13_first_11 : decode cX13_first 11 = .ok (.goto 6, 3) := by decide +kernel
theorem dX13_first_14 : decode cX13_first 14 = .ok (.astore_n 2, 1) := by decide +kernel
theorem dX13_first_15 : decode cX13_first 15 = .ok (.iconst (-1), 1) := by decide +kernel
theorem dX13_first_16 : decode cX13_first 16 = .ok (.ireturn, 1) := by decide +kernel
theorem dX13_first_17 : decode cX13_first 17 = .ok (.iconst 0, 1) := by decide +kernel
theorem dX13_first_18 : decode cX13_first 18 = .ok (.istore_n 2, 1) := by decide +kernel
theorem dX13_first_19 : decode cX13_first 19 = .ok (.iload_n 2, 1) := by decide +kernel
theorem dX13_first_20 : decode cX13_first 20 = .ok (.iload_n 1, 1) := by decide +kernel
theorem dX13_first_21 : decode cX13_first 21 = .ok (.if_icmp .ge 21, 3) := by decide +kernel
theorem dX13_first_24 : decode cX13_first 24 = .ok (.aload_n 0, 1) := by decide +kernel
theorem dX13_first_25 : decode cX13_first 25 = .ok (.getfield 58, 3) := by decide +kernel
theorem dX13_first_28 : decode cX13_first 28 = .ok (.iload_n 2, 1) := by decide +kernel
theorem dX13_first_29 : decode cX13_first 29 = .ok (.aload_n 0, 1) := by decide +kernel
theorem dX13_first_30 : decode cX13_first 30 = .ok (.getfield 48, 3) := by decide +kernel
theorem dX13_first_33 : decode cX13_first 33 = .ok (.iload_n 2, 1) := by decide +kernel
theorem dX13_first_34 : decode cX13_first 34 = .ok (.laload, 1) := by decide +kernel
theorem dX13_first_35 : decode cX13_first 35 = .ok (.lastore, 1) := by decide +kernel
theorem dX13_first_36 : decode cX13_first 36 = .ok (.iinc 2 1, 3) := by decide +kernel
theorem dX13_first_39 : decode cX13_first 39 = .ok (.goto (-20), 3) := by decide +kernel
theorem dX13_first_42 : decode cX13_first 42 = .ok (.aload_n 0, 1) := by decide +kernel
theorem dX13_first_43 : decode cX13_first 43 = .ok (.iload_n 1, 1) := by decide +kernel
theorem dX13_first_44 : decode cX13_first 44 = .ok (.putfield 150, 3) := by decide +kernel
theorem dX13_first_47 : decode cX13_first 47 = .ok (.aload_n 0, 1) := by decide +kernel
theorem dX13_first_48 : decode cX13_first 48 = .ok (.iconst 0, 1) := by decide +kernel
theorem dX13_first_49 : decode cX13_first 49 = .ok (.putfield 153, 3) := by decide +kernel
theorem dX13_first_52 : decode cX13_first 52 = .ok (.iload_n 1, 1) := by decide +kernel
theorem dX13_first_53 : decode cX13_first 53 = .ok (.ireturn, 1) := by decide +kernel
theorem dX13_second_0 : decode cX13_second 0 = .ok (.aload_n 0, 1) := by decide +kernel
theorem dX13_second_1 : decode cX13_second 1 = .ok (.invokevirtual 144, 3) := by decide +kernel
theorem dX13_second_4 : decode cX13_second 4 = .ok (.aload_n 0, 1) := by decide +kernel
theorem dX13_second_5 : decode cX13_second 5 = .ok (.sipush 150, 3) := by decide +kernel
theorem dX13_second_8 : decode cX13_second 8 = .ok (.invokevirtual 147, 3) := by decide +kernel
theorem dX13_second_11 : decode cX13_second 11 = .ok (.istore_n 1, 1) := by decide +kernel
theorem dX13_second_12 : decode cX13_second 12 = .ok (.goto 6, 3) := by decide +kernel
theorem dX13_second_15 : decode cX13_second 15 = .ok (.astore_n 2, 1) := by decide +kernel
theorem dX13_second_16 : decode cX13_second 16 = .ok (.iconst (-1), 1) := by decide +kernel
theorem dX13_second_17 : decode cX13_second 17 = .ok (.ireturn, 1) := by decide +kernel
theorem dX13_second_18 : decode cX13_second 18 = .ok (.iconst 0, 1) := by decide +kernel
theorem dX13_second_19 : decode cX13_second 19 = .ok (.istore_n 2, 1) := by decide +kernel
theorem dX13_second_20 : decode cX13_second 20 = .ok (.iload_n 2, 1) := by decide +kernel
theorem dX13_second_21 : decode cX13_second 21 = .ok (.iload_n 1, 1) := by decide +kernel
theorem dX13_second_22 : decode cX13_second 22 = .ok (.if_icmp .ge 21, 3) := by decide +kernel
theorem dX13_second_25 : decode cX13_second 25 = .ok (.aload_n 0, 1) := by decide +kernel
theorem dX13_second_26 : decode cX13_second 26 = .ok (.getfield 61, 3) := by decide +kernel
theorem dX13_second_29 : decode cX13_second 29 = .ok (.iload_n 2, 1) := by decide +kernel
theorem dX13_second_30 : decode cX13_second 30 = .ok (.aload_n 0, 1) := by decide +kernel
theorem dX13_second_31 : decode cX13_second 31 = .ok (.getfield 48, 3) := by decide +kernel
theorem dX13_second_34 : decode cX13_second 34 = .ok (.iload_n 2, 1) := by decide +kernel
theorem dX13_second_35 : decode cX13_second 35 = .ok (.laload, 1) := by decide +kernel
theorem dX13_second_36 : decode cX13_second 36 = .ok (.lastore, 1) := by decide +kernel
theorem dX13_second_37 : decode cX13_second 37 = .ok (.iinc 2 1, 3) := by decide +kernel
theorem dX13_second_40 : decode cX13_second 40 = .ok (.goto (-20), 3) := by decide +kernel
theorem dX13_second_43 : decode cX13_second 43 = .ok (.aload_n 0, 1) := by decide +kernel
theorem dX13_second_44 : decode cX13_second 44 = .ok (.iload_n 1, 1) := by decide +kernel
theorem dX13_second_45 : decode cX13_second 45 = .ok (.putfield 156, 3) := by decide +kernel
theorem dX13_second_48 : decode cX13_second 48 = .ok (.iload_n 1, 1) := by decide +kernel
theorem dX13_second_49 : decode cX13_second 49 = .ok (.ireturn, 1) := by decide +kernel
theorem dX13_scan_0 : decode cX13_scan 0 = .ok (.aload_n 0, 1) := by decide +kernel
theorem dX13_scan_1 : decode cX13_scan 1 = .ok (.getfield 31, 3) := by decide +kernel
theorem dX13_scan_4 : decode cX13_scan 4 = .ok (.aload_n 0, 1) := by decide +kernel
theorem dX13_scan_5 : decode cX13_scan 5 = .ok (.getfield 14, 3) := by decide +kernel
theorem dX13_scan_8 : decode cX13_scan 8 = .ok (.if_icmp .ge 30, 3) := by decide +kernel
theorem dX13_scan_11 : decode cX13_scan 11 = .ok (.aload_n 0, 1) := by decide +kernel
theorem dX13_scan_12 : decode cX13_scan 12 = .ok (.aload_n 0, 1) := by decide +kernel
theorem dX13_scan_13 : decode cX13_scan 13 = .ok (.getfield 31, 3) := by decide +kernel
theorem dX13_scan_16 : decode cX13_scan 16 = .ok (.invokevirtual 34, 3) := by decide +kernel
theorem dX13_scan_19 : decode cX13_scan 19 = .ok (.invokestatic 38, 3) := by decide +kernel
theorem dX13_scan_22 : decode cX13_scan 22 = .ok (.ifCond .eq 16, 3) := by decide +kernel
theorem dX13_scan_25 : decode cX13_scan 25 = .ok (.aload_n 0, 1) := by decide +kernel
theorem dX13_scan_26 : decode cX13_scan 26 = .ok (.dup, 1) := by decide +kernel
theorem dX13_scan_27 : decode cX13_scan 27 = .ok (.getfield 31, 3) := by decide +kernel
theorem dX13_scan_30 : decode cX13_scan 30 = .ok (.iconst 1, 1) := by decide +kernel
theorem dX13_scan_31 : decode cX13_scan 31 = .ok (.iadd, 1) := by decide +kernel
theorem dX13_scan_32 : decode cX13_scan 32 = .ok (.putfield 31, 3) := by decide +kernel
theorem dX13_scan_35 : decode cX13_scan 35 = .ok (.goto (-35), 3) := by decide +kernel
theorem dX13_scan_38 : decode cX13_scan 38 = .ok (.aload_n 0, 1) := by decide +kernel
theorem dX13_scan_39 : decode cX13_scan 39 = .ok (.aload_n 0, 1) := by decide +kernel
theorem dX13_scan_40 : decode cX13_scan 40 = .ok (.getfield 31, 3) := by decide +kernel
theorem dX13_scan_43 : decode cX13_scan 43 = .ok (.putfield 159, 3) := by decide +kernel
theorem dX13_scan_46 : decode cX13_scan 46 = .ok (.aload_n 0, 1) := by decide +kernel
theorem dX13_scan_47 : decode cX13_scan 47 = .ok (.aload_n 0, 1) := by decide +kernel
theorem dX13_scan_48 : decode cX13_scan 48 = .ok (.getfield 159, 3) := by decide +kernel
theorem dX13_scan_51 : decode cX13_scan 51 = .ok (.invokevirtual 34, 3) := by decide +kernel
theorem dX13_scan_54 : decode cX13_scan 54 = .ok (.istore_n 1, 1) := by decide +kernel
theorem dX13_scan_55 : decode cX13_scan 55 = .ok (.aload_n 0, 1) := by decide +kernel
theorem dX13_scan_56 : decode cX13_scan 56 = .ok (.getfield 159, 3) := by decide +kernel
theorem dX13_scan_59 : decode cX13_scan 59 = .ok (.aload_n 0, 1) := by decide +kernel
theorem dX13_scan_60 : decode cX13_scan 60 = .ok (.getfield 14, 3) := by decide +kernel
theorem dX13_scan_63 : decode cX13_scan 63 = .ok (.if_icmp .ne 11, 3) := by decide +kernel
theorem dX13_scan_66 : decode cX13_scan 66 = .ok (.aload_n 0, 1) := by decide +kernel
theorem dX13_scan_67 : decode cX13_scan 67 = .ok (.iconst 0, 1) := by decide +kernel
theorem dX13_scan_68 : decode cX13_scan 68 = .ok (.putfield 162, 3) := by decide +kernel
theorem dX13_scan_71 : decode cX13_scan 71 = .ok (.goto 182, 3) := by decide +kernel
theorem dX13_scan_74 : decode cX13_scan 74 = .ok (.iload_n 1, 1) := by decide +kernel
theorem dX13_scan_75 : decode cX13_scan 75 = .ok (.invokestatic 21, 3) := by decide +kernel
theorem dX13_scan_78 : decode cX13_scan 78 = .ok (.ifCond .eq 38, 3) := by decide +kernel
theorem dX13_scan_81 : decode cX13_scan 81 = .ok (.aload_n 0, 1) := by decide +kernel
theorem dX13_scan_82 : decode cX13_scan 82 = .ok (.aload_n 0, 1) := by decide +kernel
theorem dX13_scan_83 : decode cX13_scan 83 = .ok (.getfield 31, 3) := by decide +kernel
theorem dX13_scan_86 : decode cX13_scan 86 = .ok (.invokevirtual 34, 3) := by decide +kernel
theorem dX13_scan_89 : decode cX13_scan 89 = .ok (.invokestatic 21, 3) := by decide +kernel
theorem dX13_scan_92 : decode cX13_scan 92 = .ok (.ifCond .eq 16, 3) := by decide +kernel
theorem dX13_scan_95 : decode cX13_scan 95 = .ok (.aload_n 0, 1) := by decide +kernel
theorem dX13_scan_96 : decode cX13_scan 96 = .ok (.dup, 1) := by decide +kernel
theorem dX13_scan_97 : decode cX13_scan 97 = .ok (.getfield 31, 3) := by decide +kernel
theorem dX13_scan_100 : decode cX13_scan 100 = .ok (.iconst 1, 1) := by decide +kernel
theorem dX13_scan_101 : decode cX13_scan 101 = .ok (.iadd, 1) := by decide +kernel
theorem dX13_scan_102 : decode cX13_scan 102 = .ok (.putfield 31, 3) := by decide +kernel
theorem dX13_scan_105 : decode cX13_scan 105 = .ok (.goto (-24), 3) := by decide +kernel
theorem dX13_scan_108 : decode cX13_scan 108 = .ok (.aload_n 0, 1) := by decide +kernel
theorem dX13_scan_109 : decode cX13_scan 109 = .ok (.iconst 1, 1) := by decide +kernel
theorem dX13_scan_110 : decode cX13_scan 110 = .ok (.putfield 162, 3) := by decide +kernel
theorem dX13_scan_113 : decode cX13_scan 113 = .ok (.goto 140, 3) := by decide +kernel
theorem dX13_scan_116 : decode cX13_scan 116 = .ok (.iload_n 1, 1) := by decide +kernel
theorem dX13_scan_117 : decode cX13_scan 117 = .ok (.invokestatic 25, 3) := by decide +kernel
theorem dX13_scan_120 : decode cX13_scan 120 = .ok (.ifCond .eq 96, 3) := by decide +kernel
theorem dX13_scan_123 : decode cX13_scan 123 = .ok (.aload_n 0, 1) := by decide +kernel
theorem dX13_scan_124 : decode cX13_scan 124 = .ok (.iconst 0, 1) := by decide +kernel
theorem dX13_scan_125 : decode cX13_scan 125 = .ok (.putfield 165, 3) := by decide +kernel
theorem dX13_scan_128 : decode cX13_scan 128 = .ok (.aload_n 0, 1) := by decide +kernel
theorem dX13_scan_129 : decode cX13_scan 129 = .ok (.aload_n 0, 1) := by decide +kernel
theorem dX13_scan_130 : decode cX13_scan 130 = .ok (.getfield 31, 3) := by decide +kernel
theorem dX13_scan_133 : decode cX13_scan 133 = .ok (.invokevirtual 34, 3) := by decide +kernel
theorem dX13_scan_136 : decode cX13_scan 136 = .ok (.invokestatic 25, 3) := by decide +kernel
theorem dX13_scan_139 : decode cX13_scan 139 = .ok (.ifCond .eq 52, 3) := by decide +kernel
theorem dX13_scan_142 : decode cX13_scan 142 = .ok (.aload_n 0, 1) := by decide +kernel
theorem dX13_scan_143 : decode cX13_scan 143 = .ok (.getfield 31, 3) := by decide +kernel
theorem dX13_scan_146 : decode cX13_scan 146 = .ok (.aload_n 0, 1) := by decide +kernel
theorem dX13_scan_147 : decode cX13_scan 147 = .ok (.getfield 159, 3) := by decide +kernel
theorem dX13_scan_150 : decode cX13_scan 150 = .ok (.isub, 1) := by decide +kernel
theorem dX13_scan_151 : decode cX13_scan 151 = .ok (.iconst 3, 1) := by decide +kernel
theorem dX13_scan_152 : decode cX13_scan 152 = .ok (.if_icmp .ge 26, 3) := by decide +kernel
theorem dX13_scan_155 : decode cX13_scan 155 = .ok (.aload_n 0, 1) := by decide +kernel
theorem dX13_scan_156 : decode cX13_scan 156 = .ok (.bipush 10, 2) := by decide +kernel
theorem dX13_scan_158 : decode cX13_scan 158 = .ok (.aload_n 0, 1) := by decide +kernel
theorem dX13_scan_159 : decode cX13_scan 159 = .ok (.getfield 165, 3) := by decide +kernel
theorem dX13_scan_162 : decode cX13_scan 162 = .ok (.imul, 1) := by decide +kernel
theorem dX13_scan_163 : decode cX13_scan 163 = .ok (.aload_n 0, 1) := by decide +kernel
theorem dX13_scan_164 : decode cX13_scan 164 = .ok (.aload_n 0, 1) := by decide +kernel
theorem dX13_scan_165 : decode cX13_scan 165 = .ok (.getfield 31, 3) := by decide +kernel
theorem dX13_scan_168 : decode cX13_scan 168 = .ok (.invokevirtual 34, 3) := by decide +kernel
theorem dX13_scan_171 : decode cX13_scan 171 = .ok (.iadd, 1) := by decide +kernel
theorem dX13_scan_172 : decode cX13_scan 172 = .ok (.bipush 48, 2) := by decide +kernel
theorem dX13_scan_174 : decode cX13_scan 174 = .ok (.isub, 1) := by decide +kernel
theorem dX13_scan_175 : decode cX13_scan 175 = .ok (.putfield 165, 3) := by decide +kernel
theorem dX13_scan_178 : decode cX13_scan 178 = .ok (.aload_n 0, 1) := by decide +kernel
theorem dX13_scan_179 : decode cX13_scan 179 = .ok (.dup, 1) := by decide +kernel
theorem dX13_scan_180 : decode cX13_scan 180 = .ok (.getfield 31, 3) := by decide +kernel
theorem dX13_scan_183 : decode cX13_scan 183 = .ok (.iconst 1, 1) := by decide +kernel
theorem dX13_scan_184 : decode cX13_scan 184 = .ok (.iadd, 1) := by decide +kernel
theorem dX13_scan_185 : decode cX13_scan 185 = .ok (.putfield 31, 3) := by decide +kernel
theorem dX13_scan_188 : decode cX13_scan 188 = .ok (.goto (-60), 3) := by decide +kernel
theorem dX13_scan_191 : decode cX13_scan 191 = .ok (.aload_n 0, 1) := by decide +kernel
theorem dX13_scan_192 : decode cX13_scan 192 = .ok (.aload_n 0, 1) := by decide +kernel
theorem dX13_scan_193 : decode cX13_scan 193 = .ok (.getfield 31, 3) := by decide +kernel
theorem dX13_scan_196 : decode cX13_scan 196 = .ok (.aload_n 0, 1) := by decide +kernel
theorem dX13_scan_197 : decode cX13_scan 197 = .ok (.getfield 159, 3) := by decide +kernel
theorem dX13_scan_200 : decode cX13_scan 200 = .ok (.isub, 1) := by decide +kernel
theorem dX13_scan_201 : decode cX13_scan 201 = .ok (.iconst 3, 1) := by decide +kernel
theorem dX13_scan_202 : decode cX13_scan 202 = .ok (.if_icmp .le 7, 3) := by decide +kernel
theorem dX13_scan_205 : decode cX13_scan 205 = .ok (.iconst 4, 1) := by decide +kernel
theorem dX13_scan_206 : decode cX13_scan 206 = .ok (.goto 4, 3) := by decide +kernel
theorem dX13_scan_209 : decode cX13_scan 209 = .ok (.iconst 2, 1) := by decide +kernel
theorem dX13_scan_210 : decode cX13_scan 210 = .ok (.putfield 162, 3) := by decide +kernel
theorem dX13_scan_213 : decode cX13_scan 213 = .ok (.goto 40, 3) := by decide +kernel
theorem dX13_scan_216 : decode cX13_scan 216 = .ok (.aload_n 0, 1) := by decide +kernel
theorem dX13_scan_217 : decode cX13_scan 217 = .ok (.iload_n 1, 1) := by decide +kernel
theorem dX13_scan_218 : decode cX13_scan 218 = .ok (.bipush 63, 2) := by decide +kernel
theorem dX13_scan_220 : decode cX13_scan 220 = .ok (.if_icmp .eq 15, 3) := by decide +kernel
theorem dX13_scan_223 : decode cX13_scan 223 = .ok (.iload_n 1, 1) := by decide +kernel
theorem dX13_scan_224 : decode cX13_scan 224 = .ok (.bipush 61, 2) := by decide +kernel
theorem dX13_scan_226 : decode cX13_scan 226 = .ok (.if_icmp .eq 9, 3) := by decide +kernel
theorem dX13_scan_229 : decode cX13_scan 229 = .ok (.iload_n 1, 1) := by decide +kernel
theorem dX13_scan_230 : decode cX13_scan 230 = .ok (.bipush 59, 2) := by decide +kernel
theorem dX13_scan_232 : decode cX13_scan 232 = .ok (.if_icmp .ne 7, 3) := by decide +kernel
theorem dX13_scan_235 : decode cX13_scan 235 = .ok (.iconst 3, 1) := by decide +kernel
theorem dX13_scan_236 : decode cX13_scan 236 = .ok (.goto 4, 3) := by decide +kernel
theorem dX13_scan_239 : decode cX13_scan 239 = .ok (.iconst 4, 1) := by decide +kernel
theorem dX13_scan_240 : decode cX13_scan 240 = .ok (.putfield 162, 3) := by decide +kernel
theorem dX13_scan_243 : decode cX13_scan 243 = .ok (.aload_n 0, 1) := by decide +kernel
theorem dX13_scan_244 : decode cX13_scan 244 = .ok (.dup, 1) := by decide +kernel
theorem dX13_scan_245 : decode cX13_scan 245 = .ok (.getfield 31, 3) := by decide +kernel
theorem dX13_scan_248 : decode cX13_scan 248 = .ok (.iconst 1, 1) := by decide +kernel
theorem dX13_scan_249 : decode cX13_scan 249 = .ok (.iadd, 1) := by decide +kernel
theorem dX13_scan_250 : decode cX13_scan 250 = .ok (.putfield 31, 3) := by decide +kernel
theorem dX13_scan_253 : decode cX13_scan 253 = .ok (.return_, 1) := by decide +kernel
theorem dX13_is_0 : decode cX13_is 0 = .ok (.aload_n 0, 1) := by decide +kernel
theorem dX13_is_1 : decode cX13_is 1 = .ok (.getfield 162, 3) := by decide +kernel
theorem dX13_is_4 : decode cX13_is 4 = .ok (.iconst 1, 1) := by decide +kernel
theorem dX13_is_5 : decode cX13_is 5 = .ok (.if_icmp .eq 11, 3) := by decide +kernel
theorem dX13_is_8 : decode cX13_is 8 = .ok (.aload_n 0, 1) := by decide +kernel
theorem dX13_is_9 : decode cX13_is 9 = .ok (.getfield 162, 3) := by decide +kernel
theorem dX13_is_12 : decode cX13_is 12 = .ok (.iconst 3, 1) := by decide +kernel
theorem dX13_is_13 : decode cX13_is 13 = .ok (.if_icmp .ne 23, 3) := by decide +kernel
theorem dX13_is_16 : decode cX13_is 16 = .ok (.aload_n 0, 1) := by decide +kernel
theorem dX13_is_17 : decode cX13_is 17 = .ok (.getfield 31, 3) := by decide +kernel
theorem dX13_is_20 : decode cX13_is 20 = .ok (.aload_n 0, 1) := by decide +kernel
theorem dX13_is_21 : decode cX13_is 21 = .ok (.getfield 159, 3) := by decide +kernel
theorem dX13_is_24 : decode cX13_is 24 = .ok (.isub, 1) := by decide +kernel
theorem dX13_is_25 : decode cX13_is 25 = .ok (.aload_n 1, 1) := by decide +kernel
theorem dX13_is_26 : decode cX13_is 26 = .ok (.invokevirtual 168, 3) := by decide +kernel
theorem dX13_is_29 : decode cX13_is 29 = .ok (.if_icmp .ne 7, 3) := by decide +kernel
theorem dX13_is_32 : decode cX13_is 32 = .ok (.iconst 1, 1) := by decide +kernel
theorem dX13_is_33 : decode cX13_is 33 = .ok (.goto 4, 3) := by decide +kernel
theorem dX13_is_36 : decode cX13_is 36 = .ok (.iconst 0, 1) := by decide +kernel
theorem dX13_is_37 : decode cX13_is 37 = .ok (.istore_n 2, 1) := by decide +kernel
theorem dX13_is_38 : decode cX13_is 38 = .ok (.iconst 0, 1) := by decide +kernel
theorem dX13_is_39 : decode cX13_is 39 = .ok (.istore_n 3, 1) := by decide +kernel
theorem dX13_is_40 : decode cX13_is 40 = .ok (.iload_n 3, 1) := by decide +kernel
theorem dX13_is_41 : decode cX13_is 41 = .ok (.aload_n 1, 1) := by decide +kernel
theorem dX13_is_42 : decode cX13_is 42 = .ok (.invokevirtual 168, 3) := by decide +kernel
theorem dX13_is_45 : decode cX13_is 45 = .ok (.if_icmp .ge 38, 3) := by decide +kernel
theorem dX13_is_48 : decode cX13_is 48 = .ok (.iload_n 2, 1) := by decide +kernel
theorem dX13_is_49 : decode cX13_is 49 = .ok (.ifCond .eq 34, 3) := by decide +kernel
theorem dX13_is_52 : decode cX13_is 52 = .ok (.aload_n 0, 1) := by decide +kernel
theorem dX13_is_53 : decode cX13_is 53 = .ok (.getfield 17, 3) := by decide +kernel
theorem dX13_is_56 : decode cX13_is 56 = .ok (.aload_n 0, 1) := by decide +kernel
theorem dX13_is_57 : decode cX13_is 57 = .ok (.getfield 159, 3) := by decide +kernel
theorem dX13_is_60 : decode cX13_is 60 = .ok (.iload_n 3, 1) := by decide +kernel
theorem dX13_is_61 : decode cX13_is 61 = .ok (.iadd, 1) := by decide +kernel
theorem dX13_is_62 : decode cX13_is 62 = .ok (.baload, 1) := by decide +kernel
theorem dX13_is_63 : decode cX13_is 63 = .ok (.aload_n 1, 1) := by decide +kernel
theorem dX13_is_64 : decode cX13_is 64 = .ok (.iload_n 3, 1) := by decide +kernel
theorem dX13_is_65 : decode cX13_is 65 = .ok (.invokevirtual 174, 3) := by decide +kernel
theorem dX13_is_68 : decode cX13_is 68 = .ok (.if_icmp .ne 7, 3) := by decide +kernel
theorem dX13_is_71 : decode cX13_is 71 = .ok (.iconst 1, 1) := by decide +kernel
theorem dX13_is_72 : decode cX13_is 72 = .ok (.goto 4, 3) := by decide +kernel
theorem dX13_is_75 : decode cX13_is 75 = .ok (.iconst 0, 1) := by decide +kernel
theorem dX13_is_76 : decode cX13_is 76 = .ok (.istore_n 2, 1) := by decide +kernel
theorem dX13_is_77 : decode cX13_is 77 = .ok (.iinc 3 1, 3) := by decide +kernel
theorem dX13_is_80 : decode cX13_is 80 = .ok (.goto (-40), 3) := by decide +kernel
theorem dX13_is_83 : decode cX13_is 83 = .ok (.iload_n 2, 1) := by decide +kernel
theorem dX13_is_84 : decode cX13_is 84 = .ok (.ireturn, 1) := by decide +kernel
theorem dX13_number_0 : decode cX13_number 0 = .ok (.aload_n 0, 1) := by decide +kernel
theorem dX13_number_1 : decode cX13_number 1 = .ok (.getfield 162, 3) := by decide +kernel
theorem dX13_number_4 : decode cX13_number 4 = .ok (.iconst 2, 1) := by decide +kernel
theorem dX13_number_5 : decode cX13_number 5 = .ok (.if_icmp .eq 13, 3) := by decide +kernel
theorem dX13_number_8 : decode cX13_number 8 = .ok (.aload_n 0, 1) := by decide +kernel
theorem dX13_number_9 : decode cX13_number 9 = .ok (.iconst 1, 1) := by decide +kernel
theorem dX13_number_10 : decode cX13_number 10 = .ok (.aload_n 0, 1) := by decide +kernel
theorem dX13_number_11 : decode cX13_number 11 = .ok (.getfield 159, 3) := by decide +kernel
theorem dX13_number_14 : decode cX13_number 14 = .ok (.invokevirtual 44, 3) := by decide +kernel
theorem dX13_number_17 : decode cX13_number 17 = .ok (.athrow, 1) := by decide +kernel
theorem dX13_number_18 : decode cX13_number 18 = .ok (.aload_n 0, 1) := by decide +kernel
theorem dX13_number_19 : decode cX13_number 19 = .ok (.getfield 165, 3) := by decide +kernel
theorem dX13_number_22 : decode cX13_number 22 = .ok (.i2l, 1) := by decide +kernel
theorem dX13_number_23 : decode cX13_number 23 = .ok (.iload_n 1, 1) := by decide +kernel
theorem dX13_number_24 : decode cX13_number 24 = .ok (.i2l, 1) := by decide +kernel
theorem dX13_number_25 : decode cX13_number 25 = .ok (.iload_n 2, 1) := by decide +kernel
theorem dX13_number_26 : decode cX13_number 26 = .ok (.i2l, 1) := by decide +kernel
theorem dX13_number_27 : decode cX13_number 27 = .ok (.invokestatic 140, 3) := by decide +kernel
theorem dX13_number_30 : decode cX13_number 30 = .ok (.ifCond .ne 13, 3) := by decide +kernel
theorem dX13_number_33 : decode cX13_number 33 = .ok (.aload_n 0, 1) := by decide +kernel
theorem dX13_number_34 : decode cX13_number 34 = .ok (.iconst 2, 1) := by decide +kernel
theorem dX13_number_35 : decode cX13_number 35 = .ok (.aload_n 0, 1) := by decide +kernel
theorem dX13_number_36 : decode cX13_number 36 = .ok (.getfield 159, 3) := by decide +kernel
theorem dX13_number_39 : decode cX13_number 39 = .ok (.invokevirtual 44, 3) := by decide +kernel
theorem dX13_number_42 : decode cX13_number 42 = .ok (.athrow, 1) := by decide +kernel
theorem dX13_number_43 : decode cX13_number 43 = .ok (.aload_n 0, 1) := by decide +kernel
theorem dX13_number_44 : decode cX13_number 44 = .ok (.getfield 165, 3) := by decide +kernel
theorem dX13_number_47 : decode cX13_number 47 = .ok (.istore_n 3, 1) := by decide +kernel
theorem dX13_number_48 : decode cX13_number 48 = .ok (.aload_n 0, 1) := by decide +kernel
theorem dX13_number_49 : decode cX13_number 49 = .ok (.invokevirtual 178, 3) := by decide +kernel
theorem dX13_number_52 : decode cX13_number 52 = .ok (.iload_n 3, 1) := by decide +kernel
theorem dX13_number_53 : decode cX13_number 53 = .ok (.ireturn, 1) := by decide +kernel
theorem dX13_readLine_0 : decode cX13_readLine 0 = .ok (.aload_n 0, 1) := by decide +kernel
theorem dX13_readLine_1 : decode cX13_readLine 1 = .ok (.ldc 181, 2) := by decide +kernel
theorem dX13_readLine_3 : decode cX13_readLine 3 = .ok (.invokevirtual 183, 3) := by decide +kernel
theorem dX13_readLine_6 : decode cX13_readLine 6 = .ok (.ifCond .eq 7, 3) := by decide +kernel
theorem dX13_readLine_9 : decode cX13_readLine 9 = .ok (.iconst 0, 1) := by decide +kernel
theorem dX13_readLine_10 : decode cX13_readLine 10 = .ok (.goto 30, 3) := by decide +kernel
theorem dX13_readLine_13 : decode cX13_readLine 13 = .ok (.aload_n 0, 1) := by decide +kernel
theorem dX13_readLine_14 : decode cX13_readLine 14 = .ok (.ldc 187, 2) := by decide +kernel
theorem dX13_readLine_16 : decode cX13_readLine 16 = .ok (.invokevirtual 183, 3) := by decide +kernel
theorem dX13_readLine_19 : decode cX13_readLine 19 = .ok (.ifCond .eq 7, 3) := by decide +kernel
theorem dX13_readLine_22 : decode cX13_readLine 22 = .ok (.iconst 1, 1) := by decide +kernel
theorem dX13_readLine_23 : decode cX13_readLine 23 = .ok (.goto 17, 3) := by decide +kernel
theorem dX13_readLine_26 : decode cX13_readLine 26 = .ok (.aload_n 0, 1) := by decide +kernel
theorem dX13_readLine_27 : decode cX13_readLine 27 = .ok (.ldc 189, 2) := by decide +kernel
theorem dX13_readLine_29 : decode cX13_readLine 29 = .ok (.invokevirtual 183, 3) := by decide +kernel
theorem dX13_readLine_32 : decode cX13_readLine 32 = .ok (.ifCond .eq 7, 3) := by decide +kernel
theorem dX13_readLine_35 : decode cX13_readLine 35 = .ok (.iconst 2, 1) := by decide +kernel
theorem dX13_readLine_36 : decode cX13_readLine 36 = .ok (.goto 4, 3) := by decide +kernel
theorem dX13_readLine_39 : decode cX13_readLine 39 = .ok (.iconst (-1), 1) := by decide +kernel
theorem dX13_readLine_40 : decode cX13_readLine 40 = .ok (.istore_n 2, 1) := by decide +kernel
theorem dX13_readLine_41 : decode cX13_readLine 41 = .ok (.iload_n 2, 1) := by decide +kernel
theorem dX13_readLine_42 : decode cX13_readLine 42 = .ok (.iconst (-1), 1) := by decide +kernel
theorem dX13_readLine_43 : decode cX13_readLine 43 = .ok (.if_icmp .ne 13, 3) := by decide +kernel
theorem dX13_readLine_46 : decode cX13_readLine 46 = .ok (.aload_n 0, 1) := by decide +kernel
theorem dX13_readLine_47 : decode cX13_readLine 47 = .ok (.iconst 1, 1) := by decide +kernel
theorem dX13_readLine_48 : decode cX13_readLine 48 = .ok (.aload_n 0, 1) := by decide +kernel
theorem dX13_readLine_49 : decode cX13_readLine 49 = .ok (.getfield 159, 3) := by decide +kernel
theorem dX13_readLine_52 : decode cX13_readLine 52 = .ok (.invokevirtual 44, 3) := by decide +kernel
theorem dX13_readLine_55 : decode cX13_readLine 55 = .ok (.athrow, 1) := by decide +kernel
theorem dX13_readLine_56 : decode cX13_readLine 56 = .ok (.iload_n 1, 1) := by decide +kernel
theorem dX13_readLine_57 : decode cX13_readLine 57 = .ok (.bipush 40, 2) := by decide +kernel
theorem dX13_readLine_59 : decode cX13_readLine 59 = .ok (.if_icmp .ne 13, 3) := by decide +kernel
theorem dX13_readLine_62 : decode cX13_readLine 62 = .ok (.aload_n 0, 1) := by decide +kernel
theorem dX13_readLine_63 : decode cX13_readLine 63 = .ok (.iconst 3, 1) := by decide +kernel
theorem dX13_readLine_64 : decode cX13_readLine 64 = .ok (.aload_n 0, 1) := by decide +kernel
theorem dX13_readLine_65 : decode cX13_readLine 65 = .ok (.getfield 159, 3) := by decide +kernel
theorem dX13_readLine_68 : decode cX13_readLine 68 = .ok (.invokevirtual 44, 3) := by decide +kernel
theorem dX13_readLine_71 : decode cX13_readLine 71 = .ok (.athrow, 1) := by decide +kernel
theorem dX13_readLine_72 : decode cX13_readLine 72 = .ok (.aload_n 0, 1) := by decide +kernel
theorem dX13_readLine_73 : decode cX13_readLine 73 = .ok (.getfield 74, 3) := by decide +kernel
theorem dX13_readLine_76 : decode cX13_readLine 76 = .ok (.iload_n 1, 1) := by decide +kernel
theorem dX13_readLine_77 : decode cX13_readLine 77 = .ok (.iload_n 2, 1) := by decide +kernel
theorem dX13_readLine_78 : decode cX13_readLine 78 = .ok (.iastore, 1) := by decide +kernel
theorem dX13_readLine_79 : decode cX13_readLine 79 = .ok (.aload_n 0, 1) := by decide +kernel
theorem dX13_readLine_80 : decode cX13_readLine 80 = .ok (.getfield 77, 3) := by decide +kernel
theorem dX13_readLine_83 : decode cX13_readLine 83 = .ok (.iload_n 1, 1) := by decide +kernel
theorem dX13_readLine_84 : decode cX13_readLine 84 = .ok (.iconst (-1), 1) := by decide +kernel
theorem dX13_readLine_85 : decode cX13_readLine 85 = .ok (.iastore, 1) := by decide +kernel
theorem dX13_readLine_86 : decode cX13_readLine 86 = .ok (.aload_n 0, 1) := by decide +kernel
theorem dX13_readLine_87 : decode cX13_readLine 87 = .ok (.getfield 80, 3) := by decide +kernel
theorem dX13_readLine_90 : decode cX13_readLine 90 = .ok (.iload_n 1, 1) := by decide +kernel
theorem dX13_readLine_91 : decode cX13_readLine 91 = .ok (.iconst (-1), 1) := by decide +kernel
theorem dX13_readLine_92 : decode cX13_readLine 92 = .ok (.iastore, 1) := by decide +kernel
theorem dX13_readLine_93 : decode cX13_readLine 93 = .ok (.aload_n 0, 1) := by decide +kernel
theorem dX13_readLine_94 : decode cX13_readLine 94 = .ok (.getfield 83, 3) := by decide +kernel
theorem dX13_readLine_97 : decode cX13_readLine 97 = .ok (.iload_n 1, 1) := by decide +kernel
theorem dX13_readLine_98 : decode cX13_readLine 98 = .ok (.iconst (-1), 1) := by decide +kernel
theorem dX13_readLine_99 : decode cX13_readLine 99 = .ok (.iastore, 1) := by decide +kernel
theorem dX13_readLine_100 : decode cX13_readLine 100 = .ok (.aload_n 0, 1) := by decide +kernel
theorem dX13_readLine_101 : decode cX13_readLine 101 = .ok (.getfield 86, 3) := by decide +kernel
theorem dX13_readLine_104 : decode cX13_readLine 104 = .ok (.iload_n 1, 1) := by decide +kernel
theorem dX13_readLine_105 : decode cX13_readLine 105 = .ok (.iconst 0, 1) := by decide +kernel
theorem dX13_readLine_106 : decode cX13_readLine 106 = .ok (.iastore, 1) := by decide +kernel
theorem dX13_readLine_107 : decode cX13_readLine 107 = .ok (.aload_n 0, 1) := by decide +kernel
theorem dX13_readLine_108 : decode cX13_readLine 108 = .ok (.getfield 89, 3) := by decide +kernel
theorem dX13_readLine_111 : decode cX13_readLine 111 = .ok (.iload_n 1, 1) := by decide +kernel
theorem dX13_readLine_112 : decode cX13_readLine 112 = .ok (.iconst 0, 1) := by decide +kernel
theorem dX13_readLine_113 : decode cX13_readLine 113 = .ok (.iastore, 1) := by decide +kernel
theorem dX13_readLine_114 : decode cX13_readLine 114 = .ok (.aload_n 0, 1) := by decide +kernel
theorem dX13_readLine_115 : decode cX13_readLine 115 = .ok (.getfield 99, 3) := by decide +kernel
theorem dX13_readLine_118 : decode cX13_readLine 118 = .ok (.iload_n 1, 1) := by decide +kernel
theorem dX13_readLine_119 : decode cX13_readLine 119 = .ok (.iconst 0, 1) := by decide +kernel
theorem dX13_readLine_120 : decode cX13_readLine 120 = .ok (.bastore, 1) := by decide +kernel
theorem dX13_readLine_121 : decode cX13_readLine 121 = .ok (.aload_n 0, 1) := by decide +kernel
theorem dX13_readLine_122 : decode cX13_readLine 122 = .ok (.invokevirtual 178, 3) := by decide +kernel
theorem dX13_readLine_125 : decode cX13_readLine 125 = .ok (.aload_n 0, 1) := by decide +kernel
theorem dX13_readLine_126 : decode cX13_readLine 126 = .ok (.getfield 95, 3) := by decide +kernel
theorem dX13_readLine_129 : decode cX13_readLine 129 = .ok (.iload_n 1, 1) := by decide +kernel
theorem dX13_readLine_130 : decode cX13_readLine 130 = .ok (.aload_n 0, 1) := by decide +kernel
theorem dX13_readLine_131 : decode cX13_readLine 131 = .ok (.ldc 191, 2) := by decide +kernel
theorem dX13_readLine_133 : decode cX13_readLine 133 = .ok (.invokevirtual 183, 3) := by decide +kernel
theorem dX13_readLine_136 : decode cX13_readLine 136 = .ok (.bastore, 1) := by decide +kernel
theorem dX13_readLine_137 : decode cX13_readLine 137 = .ok (.aload_n 0, 1) := by decide +kernel
theorem dX13_readLine_138 : decode cX13_readLine 138 = .ok (.getfield 95, 3) := by decide +kernel
theorem dX13_readLine_141 : decode cX13_readLine 141 = .ok (.iload_n 1, 1) := by decide +kernel
theorem dX13_readLine_142 : decode cX13_readLine 142 = .ok (.baload, 1) := by decide +kernel
theorem dX13_readLine_143 : decode cX13_readLine 143 = .ok (.ifCond .eq 7, 3) := by decide +kernel
theorem dX13_readLine_146 : decode cX13_readLine 146 = .ok (.aload_n 0, 1) := by decide +kernel
theorem dX13_readLine_147 : decode cX13_readLine 147 = .ok (.invokevirtual 178, 3) := by decide +kernel
theorem dX13_readLine_150 : decode cX13_readLine 150 = .ok (.aload_n 0, 1) := by decide +kernel
theorem dX13_readLine_151 : decode cX13_readLine 151 = .ok (.getfield 150, 3) := by decide +kernel
theorem dX13_readLine_154 : decode cX13_readLine 154 = .ok (.iconst 1, 1) := by decide +kernel
theorem dX13_readLine_155 : decode cX13_readLine 155 = .ok (.isub, 1) := by decide +kernel
theorem dX13_readLine_156 : decode cX13_readLine 156 = .ok (.istore_n 3, 1) := by decide +kernel
theorem dX13_readLine_157 : decode cX13_readLine 157 = .ok (.aload_n 0, 1) := by decide +kernel
theorem dX13_readLine_158 : decode cX13_readLine 158 = .ok (.getfield 70, 3) := by decide +kernel
theorem dX13_readLine_161 : decode cX13_readLine 161 = .ok (.iload_n 1, 1) := by decide +kernel
theorem dX13_readLine_162 : decode cX13_readLine 162 = .ok (.aload_n 0, 1) := by decide +kernel
theorem dX13_readLine_163 : decode cX13_readLine 163 = .ok (.ldc 193, 2) := by decide +kernel
theorem dX13_readLine_165 : decode cX13_readLine 165 = .ok (.invokevirtual 183, 3) := by decide +kernel
theorem dX13_readLine_168 : decode cX13_readLine 168 = .ok (.ifCond .eq 7, 3) := by decide +kernel
theorem dX13_readLine_171 : decode cX13_readLine 171 = .ok (.iconst 0, 1) := by decide +kernel
theorem dX13_readLine_172 : decode cX13_readLine 172 = .ok (.goto 78, 3) := by decide +kernel
theorem dX13_readLine_175 : decode cX13_readLine 175 = .ok (.aload_n 0, 1) := by decide +kernel
theorem dX13_readLine_176 : decode cX13_readLine 176 = .ok (.ldc 195, 2) := by decide +kernel
theorem dX13_readLine_178 : decode cX13_readLine 178 = .ok (.invokevirtual 183, 3) := by decide +kernel
theorem dX13_readLine_181 : decode cX13_readLine 181 = .ok (.ifCond .eq 7, 3) := by decide +kernel
theorem dX13_readLine_184 : decode cX13_readLine 184 = .ok (.iconst 1, 1) := by decide +kernel
theorem dX13_readLine_185 : decode cX13_readLine 185 = .ok (.goto 65, 3) := by decide +kernel
theorem dX13_readLine_188 : decode cX13_readLine 188 = .ok (.aload_n 0, 1) := by decide +kernel
theorem dX13_readLine_189 : decode cX13_readLine 189 = .ok (.ldc 197, 2) := by decide +kernel
theorem dX13_readLine_191 : decode cX13_readLine 191 = .ok (.invokevirtual 183, 3) := by decide +kernel
theorem dX13_readLine_194 : decode cX13_readLine 194 = .ok (.ifCond .eq 7, 3) := by decide +kernel
theorem dX13_readLine_197 : decode cX13_readLine 197 = .ok (.iconst 2, 1) := by decide +kernel
theorem dX13_readLine_198 : decode cX13_readLine 198 = .ok (.goto 52, 3) := by decide +kernel
theorem dX13_readLine_201 : decode cX13_readLine 201 = .ok (.aload_n 0, 1) := by decide +kernel
theorem dX13_readLine_202 : decode cX13_readLine 202 = .ok (.ldc 199, 2) := by decide +kernel
theorem dX13_readLine_204 : decode cX13_readLine 204 = .ok (.invokevirtual 183, 3) := by decide +kernel
theorem dX13_readLine_207 : decode cX13_readLine 207 = .ok (.ifCond .eq 7, 3) := by decide +kernel
theorem dX13_readLine_210 : decode cX13_readLine 210 = .ok (.iconst 3, 1) := by decide +kernel
theorem dX13_readLine_211 : decode cX13_readLine 211 = .ok (.goto 39, 3) := by decide +kernel
theorem dX13_readLine_214 : decode cX13_readLine 214 = .ok (.aload_n 0, 1) := by decide +kernel
theorem dX13_readLine_215 : decode cX13_readLine 215 = .ok (.ldc 201, 2) := by decide +kernel
theorem dX13_readLine_217 : decode cX13_readLine 217 = .ok (.invokevirtual 183, 3) := by decide +kernel
theorem dX13_readLine_220 : decode cX13_readLine 220 = .ok (.ifCond .eq 7, 3) := by decide +kernel
theorem dX13_readLine_223 : decode cX13_readLine 223 = .ok (.iconst 4, 1) := by decide +kernel
theorem dX13_readLine_224 : decode cX13_readLine 224 = .ok (.goto 26, 3) := by decide +kernel
theorem dX13_readLine_227 : decode cX13_readLine 227 = .ok (.aload_n 0, 1) := by decide +kernel
theorem dX13_readLine_228 : decode cX13_readLine 228 = .ok (.ldc 203, 2) := by decide +kernel
theorem dX13_readLine_230 : decode cX13_readLine 230 = .ok (.invokevirtual 183, 3) := by decide +kernel
theorem dX13_readLine_233 : decode cX13_readLine 233 = .ok (.ifCond .eq 16, 3) := by decide +kernel
theorem dX13_readLine_236 : decode cX13_readLine 236 = .ok (.aload_n 0, 1) := by decide +kernel
theorem dX13_readLine_237 : decode cX13_readLine 237 = .ok (.getfield 95, 3) := by decide +kernel
theorem dX13_readLine_240 : decode cX13_readLine 240 = .ok (.iload_n 1, 1) := by decide +kernel
theorem dX13_readLine_241 : decode cX13_readLine 241 = .ok (.baload, 1) := by decide +kernel
theorem dX13_readLine_242 : decode cX13_readLine 242 = .ok (.ifCond .ne 7, 3) := by decide +kernel
theorem dX13_readLine_245 : decode cX13_readLine 245 = .ok (.iconst 5, 1) := by decide +kernel
theorem dX13_readLine_246 : decode cX13_readLine 246 = .ok (.goto 4, 3) := by decide +kernel
theorem dX13_readLine_249 : decode cX13_readLine 249 = .ok (.iconst (-1), 1) := by decide +kernel
theorem dX13_readLine_250 : decode cX13_readLine 250 = .ok (.iastore, 1) := by decide +kernel
theorem dX13_readLine_251 : decode cX13_readLine 251 = .ok (.aload_n 0, 1) := by decide +kernel
theorem dX13_readLine_252 : decode cX13_readLine 252 = .ok (.getfield 70, 3) := by decide +kernel
theorem dX13_readLine_255 : decode cX13_readLine 255 = .ok (.iload_n 1, 1) := by decide +kernel
theorem dX13_readLine_256 : decode cX13_readLine 256 = .ok (.iaload, 1) := by decide +kernel
theorem dX13_readLine_257 : decode cX13_readLine 257 = .ok (.iconst (-1), 1) := by decide +kernel
theorem dX13_readLine_258 : decode cX13_readLine 258 = .ok (.if_icmp .ne 13, 3) := by decide +kernel
theorem dX13_readLine_261 : decode cX13_readLine 261 = .ok (.aload_n 0, 1) := by decide +kernel
theorem dX13_readLine_262 : decode cX13_readLine 262 = .ok (.iconst 1, 1) := by decide +kernel
theorem dX13_readLine_263 : decode cX13_readLine 263 = .ok (.aload_n 0, 1) := by decide +kernel
theorem dX13_readLine_264 : decode cX13_readLine 264 = .ok (.getfield 159, 3) := by decide +kernel
theorem dX13_readLine_267 : decode cX13_readLine 267 = .ok (.invokevirtual 44, 3) := by decide +kernel
theorem dX13_readLine_270 : decode cX13_readLine 270 = .ok (.athrow, 1) := by decide +kernel
theorem dX13_readLine_271 : decode cX13_readLine 271 = .ok (.aload_n 0, 1) := by decide +kernel
theorem dX13_readLine_272 : decode cX13_readLine 272 = .ok (.invokevirtual 178, 3) := by decide +kernel
theorem dX13_readLine_275 : decode cX13_readLine 275 = .ok (.aload_n 0, 1) := by decide +kernel
theorem dX13_readLine_276 : decode cX13_readLine 276 = .ok (.getfield 70, 3) := by decide +kernel
theorem dX13_readLine_279 : decode cX13_readLine 279 = .ok (.iload_n 1, 1) := by decide +kernel
theorem dX13_readLine_280 : decode cX13_readLine 280 = .ok (.iaload, 1) := by decide +kernel
theorem dX13_readLine_281 : decode cX13_readLine 281 = .ok (.tableswitch 146 0 4 #[35, 67, 35, 85, 138], 35) := by decide +kernel
theorem dX13_readLine_316 : decode cX13_readLine 316 = .ok (.aload_n 0, 1) := by decide +kernel
theorem dX13_readLine_317 : decode cX13_readLine 317 = .ok (.getfield 77, 3) := by decide +kernel
theorem dX13_readLine_320 : decode cX13_readLine 320 = .ok (.iload_n 1, 1) := by decide +kernel
theorem dX13_readLine_321 : decode cX13_readLine 321 = .ok (.aload_n 0, 1) := by decide +kernel
theorem dX13_readLine_322 : decode cX13_readLine 322 = .ok (.iconst 0, 1) := by decide +kernel
theorem dX13_readLine_323 : decode cX13_readLine 323 = .ok (.iload_n 3, 1) := by decide +kernel
theorem dX13_readLine_324 : decode cX13_readLine 324 = .ok (.invokevirtual 205, 3) := by decide +kernel
theorem dX13_readLine_327 : decode cX13_readLine 327 = .ok (.iastore, 1) := by decide +kernel
theorem dX13_readLine_328 : decode cX13_readLine 328 = .ok (.aload_n 0, 1) := by decide +kernel
theorem dX13_readLine_329 : decode cX13_readLine 329 = .ok (.getfield 80, 3) := by decide +kernel
theorem dX13_readLine_332 : decode cX13_readLine 332 = .ok (.iload_n 1, 1) := by decide +kernel
theorem dX13_readLine_333 : decode cX13_readLine 333 = .ok (.aload_n 0, 1) := by decide +kernel
theorem dX13_readLine_334 : decode cX13_readLine 334 = .ok (.aload_n 0, 1) := by decide +kernel
theorem dX13_readLine_335 : decode cX13_readLine 335 = .ok (.getfield 77, 3) := by decide +kernel
theorem dX13_readLine_338 : decode cX13_readLine 338 = .ok (.iload_n 1, 1) := by decide +kernel
theorem dX13_readLine_339 : decode cX13_readLine 339 = .ok (.iaload, 1) := by decide +kernel
theorem dX13_readLine_340 : decode cX13_readLine 340 = .ok (.iload_n 3, 1) := by decide +kernel
theorem dX13_readLine_341 : decode cX13_readLine 341 = .ok (.invokevirtual 205, 3) := by decide +kernel
theorem dX13_readLine_344 : decode cX13_readLine 344 = .ok (.iastore, 1) := by decide +kernel
theorem dX13_readLine_345 : decode cX13_readLine 345 = .ok (.goto 135, 3) := by decide +kernel
theorem dX13_readLine_348 : decode cX13_readLine 348 = .ok (.aload_n 0, 1) := by decide +kernel
theorem dX13_readLine_349 : decode cX13_readLine 349 = .ok (.getfield 77, 3) := by decide +kernel
theorem dX13_readLine_352 : decode cX13_readLine 352 = .ok (.iload_n 1, 1) := by decide +kernel
theorem dX13_readLine_353 : decode cX13_readLine 353 = .ok (.aload_n 0, 1) := by decide +kernel
theorem dX13_readLine_354 : decode cX13_readLine 354 = .ok (.iconst 0, 1) := by decide +kernel
theorem dX13_readLine_355 : decode cX13_readLine 355 = .ok (.aload_n 0, 1) := by decide +kernel
theorem dX13_readLine_356 : decode cX13_readLine 356 = .ok (.getfield 150, 3) := by decide +kernel
theorem dX13_readLine_359 : decode cX13_readLine 359 = .ok (.invokevirtual 205, 3) := by decide +kernel
theorem dX13_readLine_362 : decode cX13_readLine 362 = .ok (.iastore, 1) := by decide +kernel
theorem dX13_readLine_363 : decode cX13_readLine 363 = .ok (.goto 117, 3) := by decide +kernel
theorem dX13_readLine_366 : decode cX13_readLine 366 = .ok (.aload_n 0, 1) := by decide +kernel
theorem dX13_readLine_367 : decode cX13_readLine 367 = .ok (.getfield 77, 3) := by decide +kernel
theorem dX13_readLine_370 : decode cX13_readLine 370 = .ok (.iload_n 1, 1) := by decide +kernel
theorem dX13_readLine_371 : decode cX13_readLine 371 = .ok (.aload_n 0, 1) := by decide +kernel
theorem dX13_readLine_372 : decode cX13_readLine 372 = .ok (.iconst 0, 1) := by decide +kernel
theorem dX13_readLine_373 : decode cX13_readLine 373 = .ok (.iload_n 3, 1) := by decide +kernel
theorem dX13_readLine_374 : decode cX13_readLine 374 = .ok (.iconst 1, 1) := by decide +kernel
theorem dX13_readLine_375 : decode cX13_readLine 375 = .ok (.isub, 1) := by decide +kernel
theorem dX13_readLine_376 : decode cX13_readLine 376 = .ok (.invokevirtual 205, 3) := by decide +kernel
theorem dX13_readLine_379 : decode cX13_readLine 379 = .ok (.iastore, 1) := by decide +kernel
theorem dX13_readLine_380 : decode cX13_readLine 380 = .ok (.aload_n 0, 1) := by decide +kernel
theorem dX13_readLine_381 : decode cX13_readLine 381 = .ok (.getfield 80, 3) := by decide +kernel
theorem dX13_readLine_384 : decode cX13_readLine 384 = .ok (.iload_n 1, 1) := by decide +kernel
theorem dX13_readLine_385 : decode cX13_readLine 385 = .ok (.aload_n 0, 1) := by decide +kernel
theorem dX13_readLine_386 : decode cX13_readLine 386 = .ok (.aload_n 0, 1) := by decide +kernel
theorem dX13_readLine_387 : decode cX13_readLine 387 = .ok (.getfield 77, 3) := by decide +kernel
theorem dX13_readLine_390 : decode cX13_readLine 390 = .ok (.iload_n 1, 1) := by decide +kernel
theorem dX13_readLine_391 : decode cX13_readLine 391 = .ok (.iaload, 1) := by decide +kernel
theorem dX13_readLine_392 : decode cX13_readLine 392 = .ok (.iconst 1, 1) := by decide +kernel
theorem dX13_readLine_393 : decode cX13_readLine 393 = .ok (.iadd, 1) := by decide +kernel
theorem dX13_readLine_394 : decode cX13_readLine 394 = .ok (.iload_n 3, 1) := by decide +kernel
theorem dX13_readLine_395 : decode cX13_readLine 395 = .ok (.invokevirtual 205, 3) := by decide +kernel
theorem dX13_readLine_398 : decode cX13_readLine 398 = .ok (.iastore, 1) := by decide +kernel
theorem dX13_readLine_399 : decode cX13_readLine 399 = .ok (.aload_n 0, 1) := by decide +kernel
theorem dX13_readLine_400 : decode cX13_readLine 400 = .ok (.getfield 83, 3) := by decide +kernel
theorem dX13_readLine_403 : decode cX13_readLine 403 = .ok (.iload_n 1, 1) := by decide +kernel
theorem dX13_readLine_404 : decode cX13_readLine 404 = .ok (.aload_n 0, 1) := by decide +kernel
theorem dX13_readLine_405 : decode cX13_readLine 405 = .ok (.aload_n 0, 1) := by decide +kernel
theorem dX13_readLine_406 : decode cX13_readLine 406 = .ok (.getfield 80, 3) := by decide +kernel
theorem dX13_readLine_409 : decode cX13_readLine 409 = .ok (.iload_n 1, 1) := by decide +kernel
theorem dX13_readLine_410 : decode cX13_readLine 410 = .ok (.iaload, 1) := by decide +kernel
theorem dX13_readLine_411 : decode cX13_readLine 411 = .ok (.iload_n 3, 1) := by decide +kernel
theorem dX13_readLine_412 : decode cX13_readLine 412 = .ok (.invokevirtual 205, 3) := by decide +kernel
theorem dX13_readLine_415 : decode cX13_readLine 415 = .ok (.iastore, 1) := by decide +kernel
theorem dX13_readLine_416 : decode cX13_readLine 416 = .ok (.goto 64, 3) := by decide +kernel
theorem dX13_readLine_419 : decode cX13_readLine 419 = .ok (.aload_n 0, 1) := by decide +kernel
theorem dX13_readLine_420 : decode cX13_readLine 420 = .ok (.iload_n 1, 1) := by decide +kernel
theorem dX13_readLine_421 : decode cX13_readLine 421 = .ok (.invokevirtual 209, 3) := by decide +kernel
theorem dX13_readLine_424 : decode cX13_readLine 424 = .ok (.goto 56, 3) := by decide +kernel
theorem dX13_readLine_427 : decode cX13_readLine 427 = .ok (.aload_n 0, 1) := by decide +kernel
theorem dX13_readLine_428 : decode cX13_readLine 428 = .ok (.getfield 162, 3) := by decide +kernel
theorem dX13_readLine_431 : decode cX13_readLine 431 = .ok (.iconst 2, 1) := by decide +kernel
theorem dX13_readLine_432 : decode cX13_readLine 432 = .ok (.if_icmp .ne 34, 3) := by decide +kernel
theorem dX13_readLine_435 : decode cX13_readLine 435 = .ok (.aload_n 0, 1) := by decide +kernel
theorem dX13_readLine_436 : decode cX13_readLine 436 = .ok (.getfield 165, 3) := by decide +kernel
theorem dX13_readLine_439 : decode cX13_readLine 439 = .ok (.iload_n 1, 1) := by decide +kernel
theorem dX13_readLine_440 : decode cX13_readLine 440 = .ok (.if_icmp .ge 16, 3) := by decide +kernel
theorem dX13_readLine_443 : decode cX13_readLine 443 = .ok (.aload_n 0, 1) := by decide +kernel
theorem dX13_readLine_444 : decode cX13_readLine 444 = .ok (.getfield 70, 3) := by decide +kernel
theorem dX13_readLine_447 : decode cX13_readLine 447 = .ok (.aload_n 0, 1) := by decide +kernel
theorem dX13_readLine_448 : decode cX13_readLine 448 = .ok (.getfield 165, 3) := by decide +kernel
theorem dX13_readLine_451 : decode cX13_readLine 451 = .ok (.iaload, 1) := by decide +kernel
theorem dX13_readLine_452 : decode cX13_readLine 452 = .ok (.iconst 5, 1) := by decide +kernel
theorem dX13_readLine_453 : decode cX13_readLine 453 = .ok (.if_icmp .ne 13, 3) := by decide +kernel
theorem dX13_readLine_456 : decode cX13_readLine 456 = .ok (.aload_n 0, 1) := by decide +kernel
theorem dX13_readLine_457 : decode cX13_readLine 457 = .ok (.iconst 2, 1) := by decide +kernel
theorem dX13_readLine_458 : decode cX13_readLine 458 = .ok (.aload_n 0, 1) := by decide +kernel
theorem dX13_readLine_459 : decode cX13_readLine 459 = .ok (.getfield 159, 3) := by decide +kernel
theorem dX13_readLine_462 : decode cX13_readLine 462 = .ok (.invokevirtual 44, 3) := by decide +kernel
theorem dX13_readLine_465 : decode cX13_readLine 465 = .ok (.athrow, 1) := by decide +kernel
theorem dX13_readLine_466 : decode cX13_readLine 466 = .ok (.aload_n 0, 1) := by decide +kernel
theorem dX13_readLine_467 : decode cX13_readLine 467 = .ok (.getfield 77, 3) := by decide +kernel
theorem dX13_readLine_470 : decode cX13_readLine 470 = .ok (.iload_n 1, 1) := by decide +kernel
theorem dX13_readLine_471 : decode cX13_readLine 471 = .ok (.aload_n 0, 1) := by decide +kernel
theorem dX13_readLine_472 : decode cX13_readLine 472 = .ok (.iconst 0, 1) := by decide +kernel
theorem dX13_readLine_473 : decode cX13_readLine 473 = .ok (.iload_n 1, 1) := by decide +kernel
theorem dX13_readLine_474 : decode cX13_readLine 474 = .ok (.iconst 1, 1) := by decide +kernel
theorem dX13_readLine_475 : decode cX13_readLine 475 = .ok (.isub, 1) := by decide +kernel
theorem dX13_readLine_476 : decode cX13_readLine 476 = .ok (.invokevirtual 205, 3) := by decide +kernel
theorem dX13_readLine_479 : decode cX13_readLine 479 = .ok (.iastore, 1) := by decide +kernel
theorem dX13_readLine_480 : decode cX13_readLine 480 = .ok (.aload_n 0, 1) := by decide +kernel
theorem dX13_readLine_481 : decode cX13_readLine 481 = .ok (.getfield 70, 3) := by decide +kernel
theorem dX13_readLine_484 : decode cX13_readLine 484 = .ok (.iload_n 1, 1) := by decide +kernel
theorem dX13_readLine_485 : decode cX13_readLine 485 = .ok (.iaload, 1) := by decide +kernel
theorem dX13_readLine_486 : decode cX13_readLine 486 = .ok (.iconst 1, 1) := by decide +kernel
theorem dX13_readLine_487 : decode cX13_readLine 487 = .ok (.if_icmp .eq 13, 3) := by decide +kernel
theorem dX13_readLine_490 : decode cX13_readLine 490 = .ok (.aload_n 0, 1) := by decide +kernel
theorem dX13_readLine_491 : decode cX13_readLine 491 = .ok (.getfield 70, 3) := by decide +kernel
theorem dX13_readLine_494 : decode cX13_readLine 494 = .ok (.iload_n 1, 1) := by decide +kernel
theorem dX13_readLine_495 : decode cX13_readLine 495 = .ok (.iaload, 1) := by decide +kernel
theorem dX13_readLine_496 : decode cX13_readLine 496 = .ok (.iconst 2, 1) := by decide +kernel
theorem dX13_readLine_497 : decode cX13_readLine 497 = .ok (.if_icmp .ne 8, 3) := by decide +kernel
theorem dX13_readLine_500 : decode cX13_readLine 500 = .ok (.aload_n 0, 1) := by decide +kernel
theorem dX13_readLine_501 : decode cX13_readLine 501 = .ok (.iload_n 1, 1) := by decide +kernel
theorem dX13_readLine_502 : decode cX13_readLine 502 = .ok (.invokevirtual 212, 3) := by decide +kernel
theorem dX13_readLine_505 : decode cX13_readLine 505 = .ok (.aload_n 0, 1) := by decide +kernel
theorem dX13_readLine_506 : decode cX13_readLine 506 = .ok (.ldc 215, 2) := by decide +kernel
theorem dX13_readLine_508 : decode cX13_readLine 508 = .ok (.invokevirtual 183, 3) := by decide +kernel
theorem dX13_readLine_511 : decode cX13_readLine 511 = .ok (.ifCond .ne 13, 3) := by decide +kernel
theorem dX13_readLine_514 : decode cX13_readLine 514 = .ok (.aload_n 0, 1) := by decide +kernel
theorem dX13_readLine_515 : decode cX13_readLine 515 = .ok (.iconst 1, 1) := by decide +kernel
theorem dX13_readLine_516 : decode cX13_readLine 516 = .ok (.aload_n 0, 1) := by decide +kernel
theorem dX13_readLine_517 : decode cX13_readLine 517 = .ok (.getfield 159, 3) := by decide +kernel
theorem dX13_readLine_520 : decode cX13_readLine 520 = .ok (.invokevirtual 44, 3) := by decide +kernel
theorem dX13_readLine_523 : decode cX13_readLine 523 = .ok (.athrow, 1) := by decide +kernel
theorem dX13_readLine_524 : decode cX13_readLine 524 = .ok (.aload_n 0, 1) := by decide +kernel
theorem dX13_readLine_525 : decode cX13_readLine 525 = .ok (.invokevirtual 178, 3) := by decide +kernel
theorem dX13_readLine_528 : decode cX13_readLine 528 = .ok (.return_, 1) := by decide +kernel
theorem dX13_readMove_0 : decode cX13_readMove 0 = .ok (.aload_n 0, 1) := by decide +kernel
theorem dX13_readMove_1 : decode cX13_readMove 1 = .ok (.getfield 150, 3) := by decide +kernel
theorem dX13_readMove_4 : decode cX13_readMove 4 = .ok (.iconst 1, 1) := by decide +kernel
theorem dX13_readMove_5 : decode cX13_readMove 5 = .ok (.isub, 1) := by decide +kernel
theorem dX13_readMove_6 : decode cX13_readMove 6 = .ok (.istore_n 2, 1) := by decide +kernel
theorem dX13_readMove_7 : decode cX13_readMove 7 = .ok (.aload_n 0, 1) := by decide +kernel
theorem dX13_readMove_8 : decode cX13_readMove 8 = .ok (.getfield 77, 3) := by decide +kernel
theorem dX13_readMove_11 : decode cX13_readMove 11 = .ok (.iload_n 1, 1) := by decide +kernel
theorem dX13_readMove_12 : decode cX13_readMove 12 = .ok (.aload_n 0, 1) := by decide +kernel
theorem dX13_readMove_13 : decode cX13_readMove 13 = .ok (.iload_n 2, 1) := by decide +kernel
theorem dX13_readMove_14 : decode cX13_readMove 14 = .ok (.iconst 1, 1) := by decide +kernel
theorem dX13_readMove_15 : decode cX13_readMove 15 = .ok (.if_icmp .ge 7, 3) := by decide +kernel
theorem dX13_readMove_18 : decode cX13_readMove 18 = .ok (.iconst 1, 1) := by decide +kernel
theorem dX13_readMove_19 : decode cX13_readMove 19 = .ok (.goto 4, 3) := by decide +kernel
theorem dX13_readMove_22 : decode cX13_readMove 22 = .ok (.iconst 0, 1) := by decide +kernel
theorem dX13_readMove_23 : decode cX13_readMove 23 = .ok (.iload_n 2, 1) := by decide +kernel
theorem dX13_readMove_24 : decode cX13_readMove 24 = .ok (.invokevirtual 205, 3) := by decide +kernel
theorem dX13_readMove_27 : decode cX13_readMove 27 = .ok (.iastore, 1) := by decide +kernel
theorem dX13_readMove_28 : decode cX13_readMove 28 = .ok (.aload_n 0, 1) := by decide +kernel
theorem dX13_readMove_29 : decode cX13_readMove 29 = .ok (.getfield 80, 3) := by decide +kernel
theorem dX13_readMove_32 : decode cX13_readMove 32 = .ok (.iload_n 1, 1) := by decide +kernel
theorem dX13_readMove_33 : decode cX13_readMove 33 = .ok (.aload_n 0, 1) := by decide +kernel
theorem dX13_readMove_34 : decode cX13_readMove 34 = .ok (.aload_n 0, 1) := by decide +kernel
theorem dX13_readMove_35 : decode cX13_readMove 35 = .ok (.getfield 77, 3) := by decide +kernel
theorem dX13_readMove_38 : decode cX13_readMove 38 = .ok (.iload_n 1, 1) := by decide +kernel
theorem dX13_readMove_39 : decode cX13_readMove 39 = .ok (.iaload, 1) := by decide +kernel
theorem dX13_readMove_40 : decode cX13_readMove 40 = .ok (.aload_n 0, 1) := by decide +kernel
theorem dX13_readMove_41 : decode cX13_readMove 41 = .ok (.getfield 77, 3) := by decide +kernel
theorem dX13_readMove_44 : decode cX13_readMove 44 = .ok (.iload_n 1, 1) := by decide +kernel
theorem dX13_readMove_45 : decode cX13_readMove 45 = .ok (.iaload, 1) := by decide +kernel
theorem dX13_readMove_46 : decode cX13_readMove 46 = .ok (.ifCond .ne 9, 3) := by decide +kernel
theorem dX13_readMove_49 : decode cX13_readMove 49 = .ok (.iload_n 2, 1) := by decide +kernel
theorem dX13_readMove_50 : decode cX13_readMove 50 = .ok (.iconst 1, 1) := by decide +kernel
theorem dX13_readMove_51 : decode cX13_readMove 51 = .ok (.isub, 1) := by decide +kernel
theorem dX13_readMove_52 : decode cX13_readMove 52 = .ok (.goto 4, 3) := by decide +kernel
theorem dX13_readMove_55 : decode cX13_readMove 55 = .ok (.iload_n 2, 1) := by decide +kernel
theorem dX13_readMove_56 : decode cX13_readMove 56 = .ok (.invokevirtual 205, 3) := by decide +kernel
theorem dX13_readMove_59 : decode cX13_readMove 59 = .ok (.iastore, 1) := by decide +kernel
theorem dX13_readMove_60 : decode cX13_readMove 60 = .ok (.aload_n 0, 1) := by decide +kernel
theorem dX13_readMove_61 : decode cX13_readMove 61 = .ok (.getfield 162, 3) := by decide +kernel
theorem dX13_readMove_64 : decode cX13_readMove 64 = .ok (.iconst 2, 1) := by decide +kernel
theorem dX13_readMove_65 : decode cX13_readMove 65 = .ok (.if_icmp .ne 40, 3) := by decide +kernel
theorem dX13_readMove_68 : decode cX13_readMove 68 = .ok (.aload_n 0, 1) := by decide +kernel
theorem dX13_readMove_69 : decode cX13_readMove 69 = .ok (.getfield 165, 3) := by decide +kernel
theorem dX13_readMove_72 : decode cX13_readMove 72 = .ok (.i2l, 1) := by decide +kernel
theorem dX13_readMove_73 : decode cX13_readMove 73 = .ok (.aload_n 0, 1) := by decide +kernel
theorem dX13_readMove_74 : decode cX13_readMove 74 = .ok (.getfield 77, 3) := by decide +kernel
theorem dX13_readMove_77 : decode cX13_readMove 77 = .ok (.iload_n 1, 1) := by decide +kernel
theorem dX13_readMove_78 : decode cX13_readMove 78 = .ok (.iaload, 1) := by decide +kernel
theorem dX13_readMove_79 : decode cX13_readMove 79 = .ok (.i2l, 1) := by decide +kernel
theorem dX13_readMove_80 : decode cX13_readMove 80 = .ok (.aload_n 0, 1) := by decide +kernel
theorem dX13_readMove_81 : decode cX13_readMove 81 = .ok (.getfield 80, 3) := by decide +kernel
theorem dX13_readMove_84 : decode cX13_readMove 84 = .ok (.iload_n 1, 1) := by decide +kernel
theorem dX13_readMove_85 : decode cX13_readMove 85 = .ok (.iaload, 1) := by decide +kernel
theorem dX13_readMove_86 : decode cX13_readMove 86 = .ok (.i2l, 1) := by decide +kernel
theorem dX13_readMove_87 : decode cX13_readMove 87 = .ok (.lconst 1, 1) := by decide +kernel
theorem dX13_readMove_88 : decode cX13_readMove 88 = .ok (.ladd, 1) := by decide +kernel
theorem dX13_readMove_89 : decode cX13_readMove 89 = .ok (.invokestatic 140, 3) := by decide +kernel
theorem dX13_readMove_92 : decode cX13_readMove 92 = .ok (.ifCond .eq 13, 3) := by decide +kernel
theorem dX13_readMove_95 : decode cX13_readMove 95 = .ok (.aload_n 0, 1) := by decide +kernel
theorem dX13_readMove_96 : decode cX13_readMove 96 = .ok (.iconst 2, 1) := by decide +kernel
theorem dX13_readMove_97 : decode cX13_readMove 97 = .ok (.aload_n 0, 1) := by decide +kernel
theorem dX13_readMove_98 : decode cX13_readMove 98 = .ok (.getfield 159, 3) := by decide +kernel
theorem dX13_readMove_101 : decode cX13_readMove 101 = .ok (.invokevirtual 44, 3) := by decide +kernel
theorem dX13_readMove_104 : decode cX13_readMove 104 = .ok (.athrow, 1) := by decide +kernel
theorem dX13_readMove_105 : decode cX13_readMove 105 = .ok (.aload_n 0, 1) := by decide +kernel
theorem dX13_readMove_106 : decode cX13_readMove 106 = .ok (.getfield 83, 3) := by decide +kernel
theorem dX13_readMove_109 : decode cX13_readMove 109 = .ok (.iload_n 1, 1) := by decide +kernel
theorem dX13_readMove_110 : decode cX13_readMove 110 = .ok (.aload_n 0, 1) := by decide +kernel
theorem dX13_readMove_111 : decode cX13_readMove 111 = .ok (.iconst 0, 1) := by decide +kernel
theorem dX13_readMove_112 : decode cX13_readMove 112 = .ok (.aload_n 0, 1) := by decide +kernel
theorem dX13_readMove_113 : decode cX13_readMove 113 = .ok (.getfield 150, 3) := by decide +kernel
theorem dX13_readMove_116 : decode cX13_readMove 116 = .ok (.invokevirtual 205, 3) := by decide +kernel
theorem dX13_readMove_119 : decode cX13_readMove 119 = .ok (.iastore, 1) := by decide +kernel
theorem dX13_readMove_120 : decode cX13_readMove 120 = .ok (.return_, 1) := by decide +kernel
theorem dX13_readWords_0 : decode cX13_readWords 0 = .ok (.aload_n 0, 1) := by decide +kernel
theorem dX13_readWords_1 : decode cX13_readWords 1 = .ok (.ldc 217, 2) := by decide +kernel
theorem dX13_readWords_3 : decode cX13_readWords 3 = .ok (.invokevirtual 183, 3) := by decide +kernel
theorem dX13_readWords_6 : decode cX13_readWords 6 = .ok (.ifCond .ne 13, 3) := by decide +kernel
theorem dX13_readWords_9 : decode cX13_readWords 9 = .ok (.aload_n 0, 1) := by decide +kernel
theorem dX13_readWords_10 : decode cX13_readWords 10 = .ok (.iconst 1, 1) := by decide +kernel
theorem dX13_readWords_11 : decode cX13_readWords 11 = .ok (.aload_n 0, 1) := by decide +kernel
theorem dX13_readWords_12 : decode cX13_readWords 12 = .ok (.getfield 159, 3) := by decide +kernel
theorem dX13_readWords_15 : decode cX13_readWords 15 = .ok (.invokevirtual 44, 3) := by decide +kernel
theorem dX13_readWords_18 : decode cX13_readWords 18 = .ok (.athrow, 1) := by decide +kernel
theorem dX13_readWords_19 : decode cX13_readWords 19 = .ok (.aload_n 0, 1) := by decide +kernel
theorem dX13_readWords_20 : decode cX13_readWords 20 = .ok (.getfield 31, 3) := by decide +kernel
theorem dX13_readWords_23 : decode cX13_readWords 23 = .ok (.aload_n 0, 1) := by decide +kernel
theorem dX13_readWords_24 : decode cX13_readWords 24 = .ok (.getfield 14, 3) := by decide +kernel
theorem dX13_readWords_27 : decode cX13_readWords 27 = .ok (.if_icmp .ge 30, 3) := by decide +kernel
theorem dX13_readWords_30 : decode cX13_readWords 30 = .ok (.aload_n 0, 1) := by decide +kernel
theorem dX13_readWords_31 : decode cX13_readWords 31 = .ok (.aload_n 0, 1) := by decide +kernel
theorem dX13_readWords_32 : decode cX13_readWords 32 = .ok (.getfield 31, 3) := by decide +kernel
theorem dX13_readWords_35 : decode cX13_readWords 35 = .ok (.invokevirtual 34, 3) := by decide +kernel
theorem dX13_readWords_38 : decode cX13_readWords 38 = .ok (.invokestatic 38, 3) := by decide +kernel
theorem dX13_readWords_41 : decode cX13_readWords 41 = .ok (.ifCond .eq 16, 3) := by decide +kernel
theorem dX13_readWords_44 : decode cX13_readWords 44 = .ok (.aload_n 0, 1) := by decide +kernel
theorem dX13_readWords_45 : decode cX13_readWords 45 = .ok (.dup, 1) := by decide +kernel
theorem dX13_readWords_46 : decode cX13_readWords 46 = .ok (.getfield 31, 3) := by decide +kernel
theorem dX13_readWords_49 : decode cX13_readWords 49 = .ok (.iconst 1, 1) := by decide +kernel
theorem dX13_readWords_50 : decode cX13_readWords 50 = .ok (.iadd, 1) := by decide +kernel
theorem dX13_readWords_51 : decode cX13_readWords 51 = .ok (.putfield 31, 3) := by decide +kernel
theorem dX13_readWords_54 : decode cX13_readWords 54 = .ok (.goto (-35), 3) := by decide +kernel
theorem dX13_readWords_57 : decode cX13_readWords 57 = .ok (.aload_n 0, 1) := by decide +kernel
theorem dX13_readWords_58 : decode cX13_readWords 58 = .ok (.aload_n 0, 1) := by decide +kernel
theorem dX13_readWords_59 : decode cX13_readWords 59 = .ok (.getfield 31, 3) := by decide +kernel
theorem dX13_readWords_62 : decode cX13_readWords 62 = .ok (.putfield 159, 3) := by decide +kernel
theorem dX13_readWords_65 : decode cX13_readWords 65 = .ok (.aload_n 0, 1) := by decide +kernel
theorem dX13_readWords_66 : decode cX13_readWords 66 = .ok (.getfield 31, 3) := by decide +kernel
theorem dX13_readWords_69 : decode cX13_readWords 69 = .ok (.aload_n 0, 1) := by decide +kernel
theorem dX13_readWords_70 : decode cX13_readWords 70 = .ok (.getfield 14, 3) := by decide +kernel
theorem dX13_readWords_73 : decode cX13_readWords 73 = .ok (.if_icmp .eq 196, 3) := by decide +kernel
theorem dX13_readWords_76 : decode cX13_readWords 76 = .ok (.aload_n 0, 1) := by decide +kernel
theorem dX13_readWords_77 : decode cX13_readWords 77 = .ok (.aload_n 0, 1) := by decide +kernel
theorem dX13_readWords_78 : decode cX13_readWords 78 = .ok (.getfield 31, 3) := by decide +kernel
theorem dX13_readWords_81 : decode cX13_readWords 81 = .ok (.invokevirtual 34, 3) := by decide +kernel
theorem dX13_readWords_84 : decode cX13_readWords 84 = .ok (.bipush 59, 2) := by decide +kernel
theorem dX13_readWords_86 : decode cX13_readWords 86 = .ok (.if_icmp .ne 6, 3) := by decide +kernel
theorem dX13_readWords_89 : decode cX13_readWords 89 = .ok (.goto 180, 3) := by decide +kernel
theorem dX13_readWords_92 : decode cX13_readWords 92 = .ok (.iconst 1, 1) := by decide +kernel
theorem dX13_readWords_93 : decode cX13_readWords 93 = .ok (.istore_n 2, 1) := by decide +kernel
theorem dX13_readWords_94 : decode cX13_readWords 94 = .ok (.lconst 0, 1) := by decide +kernel
theorem dX13_readWords_95 : decode cX13_readWords 95 = .ok (.lstore_n 3, 1) := by decide +kernel
theorem dX13_readWords_96 : decode cX13_readWords 96 = .ok (.aload_n 0, 1) := by decide +kernel
theorem dX13_readWords_97 : decode cX13_readWords 97 = .ok (.getfield 31, 3) := by decide +kernel
theorem dX13_readWords_100 : decode cX13_readWords 100 = .ok (.aload_n 0, 1) := by decide +kernel
theorem dX13_readWords_101 : decode cX13_readWords 101 = .ok (.getfield 14, 3) := by decide +kernel
theorem dX13_readWords_104 : decode cX13_readWords 104 = .ok (.if_icmp .ge 100, 3) := by decide +kernel
theorem dX13_readWords_107 : decode cX13_readWords 107 = .ok (.aload_n 0, 1) := by decide +kernel
theorem dX13_readWords_108 : decode cX13_readWords 108 = .ok (.aload_n 0, 1) := by decide +kernel
theorem dX13_readWords_109 : decode cX13_readWords 109 = .ok (.getfield 31, 3) := by decide +kernel
theorem dX13_readWords_112 : decode cX13_readWords 112 = .ok (.invokevirtual 34, 3) := by decide +kernel
theorem dX13_readWords_115 : decode cX13_readWords 115 = .ok (.invokestatic 38, 3) := by decide +kernel
theorem dX13_readWords_118 : decode cX13_readWords 118 = .ok (.ifCond .ne 86, 3) := by decide +kernel
theorem dX13_readWords_121 : decode cX13_readWords 121 = .ok (.aload_n 0, 1) := by decide +kernel
theorem dX13_readWords_122 : decode cX13_readWords 122 = .ok (.aload_n 0, 1) := by decide +kernel
theorem dX13_readWords_123 : decode cX13_readWords 123 = .ok (.getfield 31, 3) := by decide +kernel
theorem dX13_readWords_126 : decode cX13_readWords 126 = .ok (.invokevirtual 34, 3) := by decide +kernel
theorem dX13_readWords_129 : decode cX13_readWords 129 = .ok (.bipush 59, 2) := by decide +kernel
theorem dX13_readWords_131 : decode cX13_readWords 131 = .ok (.if_icmp .eq 73, 3) := by decide +kernel
theorem dX13_readWords_134 : decode cX13_readWords 134 = .ok (.iload_n 2, 1) := by decide +kernel
theorem dX13_readWords_135 : decode cX13_readWords 135 = .ok (.ifCond .eq 35, 3) := by decide +kernel
theorem dX13_readWords_138 : decode cX13_readWords 138 = .ok (.aload_n 0, 1) := by decide +kernel
theorem dX13_readWords_139 : decode cX13_readWords 139 = .ok (.aload_n 0, 1) := by decide +kernel
theorem dX13_readWords_140 : decode cX13_readWords 140 = .ok (.getfield 31, 3) := by decide +kernel
theorem dX13_readWords_143 : decode cX13_readWords 143 = .ok (.invokevirtual 34, 3) := by decide +kernel
theorem dX13_readWords_146 : decode cX13_readWords 146 = .ok (.invokestatic 41, 3) := by decide +kernel
theorem dX13_readWords_149 : decode cX13_readWords 149 = .ok (.ifCond .eq 21, 3) := by decide +kernel
theorem dX13_readWords_152 : decode cX13_readWords 152 = .ok (.aload_n 0, 1) := by decide +kernel
theorem dX13_readWords_153 : decode cX13_readWords 153 = .ok (.getfield 31, 3) := by decide +kernel
theorem dX13_readWords_156 : decode cX13_readWords 156 = .ok (.aload_n 0, 1) := by decide +kernel
theorem dX13_readWords_157 : decode cX13_readWords 157 = .ok (.getfield 159, 3) := by decide +kernel
theorem dX13_readWords_160 : decode cX13_readWords 160 = .ok (.isub, 1) := by decide +kernel
theorem dX13_readWords_161 : decode cX13_readWords 161 = .ok (.bipush 8, 2) := by decide +kernel
theorem dX13_readWords_163 : decode cX13_readWords 163 = .ok (.if_icmp .ge 7, 3) := by decide +kernel
theorem dX13_readWords_166 : decode cX13_readWords 166 = .ok (.iconst 1, 1) := by decide +kernel
theorem dX13_readWords_167 : decode cX13_readWords 167 = .ok (.goto 4, 3) := by decide +kernel
theorem dX13_readWords_170 : decode cX13_readWords 170 = .ok (.iconst 0, 1) := by decide +kernel
