theorem dX13_readWords_171 : decode cX13_readWords 171 = .ok (.istore_n 2, 1) := by decide +kernel
theorem dX13_readWords_172 : decode cX13_readWords 172 = .ok (.iload_n 2, 1) := by decide +kernel
theorem dX13_readWords_173 : decode cX13_readWords 173 = .ok (.ifCond .eq 18, 3) := by decide +kernel
theorem dX13_readWords_176 : decode cX13_readWords 176 = .ok (.lload_n 3, 1) := by decide +kernel
theorem dX13_readWords_177 : decode cX13_readWords 177 = .ok (.bipush 8, 2) := by decide +kernel
theorem dX13_readWords_179 : decode cX13_readWords 179 = .ok (.lshl, 1) := by decide +kernel
theorem dX13_readWords_180 : decode cX13_readWords 180 = .ok (.aload_n 0, 1) := by decide +kernel
theorem dX13_readWords_181 : decode cX13_readWords 181 = .ok (.aload_n 0, 1) := by decide +kernel
theorem dX13_readWords_182 : decode cX13_readWords 182 = .ok (.getfield 31, 3) := by decide +kernel
theorem dX13_readWords_185 : decode cX13_readWords 185 = .ok (.invokevirtual 34, 3) := by decide +kernel
theorem dX13_readWords_188 : decode cX13_readWords 188 = .ok (.i2l, 1) := by decide +kernel
theorem dX13_readWords_189 : decode cX13_readWords 189 = .ok (.lor, 1) := by decide +kernel
theorem dX13_readWords_190 : decode cX13_readWords 190 = .ok (.lstore_n 3, 1) := by decide +kernel
theorem dX13_readWords_191 : decode cX13_readWords 191 = .ok (.aload_n 0, 1) := by decide +kernel
theorem dX13_readWords_192 : decode cX13_readWords 192 = .ok (.dup, 1) := by decide +kernel
theorem dX13_readWords_193 : decode cX13_readWords 193 = .ok (.getfield 31, 3) := by decide +kernel
theorem dX13_readWords_196 : decode cX13_readWords 196 = .ok (.iconst 1, 1) := by decide +kernel
theorem dX13_readWords_197 : decode cX13_readWords 197 = .ok (.iadd, 1) := by decide +kernel
theorem dX13_readWords_198 : decode cX13_readWords 198 = .ok (.putfield 31, 3) := by decide +kernel
theorem dX13_readWords_201 : decode cX13_readWords 201 = .ok (.goto (-105), 3) := by decide +kernel
theorem dX13_readWords_204 : decode cX13_readWords 204 = .ok (.iload_n 2, 1) := by decide +kernel
theorem dX13_readWords_205 : decode cX13_readWords 205 = .ok (.ifCond .ne 13, 3) := by decide +kernel
theorem dX13_readWords_208 : decode cX13_readWords 208 = .ok (.aload_n 0, 1) := by decide +kernel
theorem dX13_readWords_209 : decode cX13_readWords 209 = .ok (.iconst 1, 1) := by decide +kernel
theorem dX13_readWords_210 : decode cX13_readWords 210 = .ok (.aload_n 0, 1) := by decide +kernel
theorem dX13_readWords_211 : decode cX13_readWords 211 = .ok (.getfield 159, 3) := by decide +kernel
theorem dX13_readWords_214 : decode cX13_readWords 214 = .ok (.invokevirtual 44, 3) := by decide +kernel
theorem dX13_readWords_217 : decode cX13_readWords 217 = .ok (.athrow, 1) := by decide +kernel
theorem dX13_readWords_218 : decode cX13_readWords 218 = .ok (.aload_n 0, 1) := by decide +kernel
theorem dX13_readWords_219 : decode cX13_readWords 219 = .ok (.getfield 86, 3) := by decide +kernel
theorem dX13_readWords_222 : decode cX13_readWords 222 = .ok (.iload_n 1, 1) := by decide +kernel
theorem dX13_readWords_223 : decode cX13_readWords 223 = .ok (.iaload, 1) := by decide +kernel
theorem dX13_readWords_224 : decode cX13_readWords 224 = .ok (.bipush 6, 2) := by decide +kernel
theorem dX13_readWords_226 : decode cX13_readWords 226 = .ok (.if_icmp .ne 13, 3) := by decide +kernel
theorem dX13_readWords_229 : decode cX13_readWords 229 = .ok (.aload_n 0, 1) := by decide +kernel
theorem dX13_readWords_230 : decode cX13_readWords 230 = .ok (.iconst 3, 1) := by decide +kernel
theorem dX13_readWords_231 : decode cX13_readWords 231 = .ok (.aload_n 0, 1) := by decide +kernel
theorem dX13_readWords_232 : decode cX13_readWords 232 = .ok (.getfield 159, 3) := by decide +kernel
theorem dX13_readWords_235 : decode cX13_readWords 235 = .ok (.invokevirtual 44, 3) := by decide +kernel
theorem dX13_readWords_238 : decode cX13_readWords 238 = .ok (.athrow, 1) := by decide +kernel
theorem dX13_readWords_239 : decode cX13_readWords 239 = .ok (.aload_n 0, 1) := by decide +kernel
theorem dX13_readWords_240 : decode cX13_readWords 240 = .ok (.getfield 92, 3) := by decide +kernel
theorem dX13_readWords_243 : decode cX13_readWords 243 = .ok (.bipush 6, 2) := by decide +kernel
theorem dX13_readWords_245 : decode cX13_readWords 245 = .ok (.iload_n 1, 1) := by decide +kernel
theorem dX13_readWords_246 : decode cX13_readWords 246 = .ok (.imul, 1) := by decide +kernel
theorem dX13_readWords_247 : decode cX13_readWords 247 = .ok (.aload_n 0, 1) := by decide +kernel
theorem dX13_readWords_248 : decode cX13_readWords 248 = .ok (.getfield 86, 3) := by decide +kernel
theorem dX13_readWords_251 : decode cX13_readWords 251 = .ok (.iload_n 1, 1) := by decide +kernel
theorem dX13_readWords_252 : decode cX13_readWords 252 = .ok (.iaload, 1) := by decide +kernel
theorem dX13_readWords_253 : decode cX13_readWords 253 = .ok (.iadd, 1) := by decide +kernel
theorem dX13_readWords_254 : decode cX13_readWords 254 = .ok (.lload_n 3, 1) := by decide +kernel
theorem dX13_readWords_255 : decode cX13_readWords 255 = .ok (.lastore, 1) := by decide +kernel
theorem dX13_readWords_256 : decode cX13_readWords 256 = .ok (.aload_n 0, 1) := by decide +kernel
theorem dX13_readWords_257 : decode cX13_readWords 257 = .ok (.getfield 86, 3) := by decide +kernel
theorem dX13_readWords_260 : decode cX13_readWords 260 = .ok (.iload_n 1, 1) := by decide +kernel
theorem dX13_readWords_261 : decode cX13_readWords 261 = .ok (.dup2, 1) := by decide +kernel
theorem dX13_readWords_262 : decode cX13_readWords 262 = .ok (.iaload, 1) := by decide +kernel
theorem dX13_readWords_263 : decode cX13_readWords 263 = .ok (.iconst 1, 1) := by decide +kernel
theorem dX13_readWords_264 : decode cX13_readWords 264 = .ok (.iadd, 1) := by decide +kernel
theorem dX13_readWords_265 : decode cX13_readWords 265 = .ok (.iastore, 1) := by decide +kernel
theorem dX13_readWords_266 : decode cX13_readWords 266 = .ok (.goto (-247), 3) := by decide +kernel
theorem dX13_readWords_269 : decode cX13_readWords 269 = .ok (.aload_n 0, 1) := by decide +kernel
theorem dX13_readWords_270 : decode cX13_readWords 270 = .ok (.getfield 86, 3) := by decide +kernel
theorem dX13_readWords_273 : decode cX13_readWords 273 = .ok (.iload_n 1, 1) := by decide +kernel
theorem dX13_readWords_274 : decode cX13_readWords 274 = .ok (.iaload, 1) := by decide +kernel
theorem dX13_readWords_275 : decode cX13_readWords 275 = .ok (.ifCond .ne 13, 3) := by decide +kernel
theorem dX13_readWords_278 : decode cX13_readWords 278 = .ok (.aload_n 0, 1) := by decide +kernel
theorem dX13_readWords_279 : decode cX13_readWords 279 = .ok (.iconst 1, 1) := by decide +kernel
theorem dX13_readWords_280 : decode cX13_readWords 280 = .ok (.aload_n 0, 1) := by decide +kernel
theorem dX13_readWords_281 : decode cX13_readWords 281 = .ok (.getfield 159, 3) := by decide +kernel
theorem dX13_readWords_284 : decode cX13_readWords 284 = .ok (.invokevirtual 44, 3) := by decide +kernel
theorem dX13_readWords_287 : decode cX13_readWords 287 = .ok (.athrow, 1) := by decide +kernel
theorem dX13_readWords_288 : decode cX13_readWords 288 = .ok (.aload_n 0, 1) := by decide +kernel
theorem dX13_readWords_289 : decode cX13_readWords 289 = .ok (.invokevirtual 178, 3) := by decide +kernel
theorem dX13_readWords_292 : decode cX13_readWords 292 = .ok (.return_, 1) := by decide +kernel
theorem dX13_marks_0 : decode cX13_marks 0 = .ok (.aload_n 0, 1) := by decide +kernel
theorem dX13_marks_1 : decode cX13_marks 1 = .ok (.invokevirtual 144, 3) := by decide +kernel
theorem dX13_marks_4 : decode cX13_marks 4 = .ok (.aload_n 0, 1) := by decide +kernel
theorem dX13_marks_5 : decode cX13_marks 5 = .ok (.getfield 153, 3) := by decide +kernel
theorem dX13_marks_8 : decode cX13_marks 8 = .ok (.istore_n 1, 1) := by decide +kernel
theorem dX13_marks_9 : decode cX13_marks 9 = .ok (.aload_n 0, 1) := by decide +kernel
theorem dX13_marks_10 : decode cX13_marks 10 = .ok (.invokevirtual 178, 3) := by decide +kernel
theorem dX13_marks_13 : decode cX13_marks 13 = .ok (.aload_n 0, 1) := by decide +kernel
theorem dX13_marks_14 : decode cX13_marks 14 = .ok (.getfield 162, 3) := by decide +kernel
theorem dX13_marks_17 : decode cX13_marks 17 = .ok (.ifCond .eq 14, 3) := by decide +kernel
theorem dX13_marks_20 : decode cX13_marks 20 = .ok (.aload_n 0, 1) := by decide +kernel
theorem dX13_marks_21 : decode cX13_marks 21 = .ok (.iload_n 1, 1) := by decide +kernel
theorem dX13_marks_22 : decode cX13_marks 22 = .ok (.invokevirtual 219, 3) := by decide +kernel
theorem dX13_marks_25 : decode cX13_marks 25 = .ok (.iinc 1 1, 3) := by decide +kernel
theorem dX13_marks_28 : decode cX13_marks 28 = .ok (.goto (-15), 3) := by decide +kernel
theorem dX13_marks_31 : decode cX13_marks 31 = .ok (.goto 6, 3) := by decide +kernel
theorem dX13_marks_34 : decode cX13_marks 34 = .ok (.astore_n 2, 1) := by decide +kernel
theorem dX13_marks_35 : decode cX13_marks 35 = .ok (.iconst (-1), 1) := by decide +kernel
theorem dX13_marks_36 : decode cX13_marks 36 = .ok (.ireturn, 1) := by decide +kernel
theorem dX13_marks_37 : decode cX13_marks 37 = .ok (.iload_n 1, 1) := by decide +kernel
theorem dX13_marks_38 : decode cX13_marks 38 = .ok (.aload_n 0, 1) := by decide +kernel
theorem dX13_marks_39 : decode cX13_marks 39 = .ok (.getfield 153, 3) := by decide +kernel
theorem dX13_marks_42 : decode cX13_marks 42 = .ok (.isub, 1) := by decide +kernel
theorem dX13_marks_43 : decode cX13_marks 43 = .ok (.istore_n 2, 1) := by decide +kernel
theorem dX13_marks_44 : decode cX13_marks 44 = .ok (.aload_n 0, 1) := by decide +kernel
theorem dX13_marks_45 : decode cX13_marks 45 = .ok (.iload_n 1, 1) := by decide +kernel
theorem dX13_marks_46 : decode cX13_marks 46 = .ok (.putfield 153, 3) := by decide +kernel
theorem dX13_marks_49 : decode cX13_marks 49 = .ok (.iload_n 2, 1) := by decide +kernel
theorem dX13_marks_50 : decode cX13_marks 50 = .ok (.ireturn, 1) := by decide +kernel
theorem dX13_fault_0 : decode cX13_fault 0 = .ok (.iload_n 1, 1) := by decide +kernel
theorem dX13_fault_1 : decode cX13_fault 1 = .ok (.ifCond .ne 10, 3) := by decide +kernel
theorem dX13_fault_4 : decode cX13_fault 4 = .ok (.aload_n 0, 1) := by decide +kernel
theorem dX13_fault_5 : decode cX13_fault 5 = .ok (.getfield 1, 3) := by decide +kernel
theorem dX13_fault_8 : decode cX13_fault 8 = .ok (.goto 16, 3) := by decide +kernel
theorem dX13_fault_11 : decode cX13_fault 11 = .ok (.iload_n 1, 1) := by decide +kernel
theorem dX13_fault_12 : decode cX13_fault 12 = .ok (.iconst 1, 1) := by decide +kernel
theorem dX13_fault_13 : decode cX13_fault 13 = .ok (.if_icmp .ne 10, 3) := by decide +kernel
theorem dX13_fault_16 : decode cX13_fault 16 = .ok (.aload_n 0, 1) := by decide +kernel
theorem dX13_fault_17 : decode cX13_fault 17 = .ok (.getfield 7, 3) := by decide +kernel
theorem dX13_fault_20 : decode cX13_fault 20 = .ok (.goto 4, 3) := by decide +kernel
theorem dX13_fault_23 : decode cX13_fault 23 = .ok (.iconst (-1), 1) := by decide +kernel
theorem dX13_fault_24 : decode cX13_fault 24 = .ok (.ireturn, 1) := by decide +kernel
theorem dX13_isMark_0 : decode cX13_isMark 0 = .ok (.iload_n 1, 1) := by decide +kernel
theorem dX13_isMark_1 : decode cX13_isMark 1 = .ok (.i2l, 1) := by decide +kernel
theorem dX13_isMark_2 : decode cX13_isMark 2 = .ok (.lconst 0, 1) := by decide +kernel
theorem dX13_isMark_3 : decode cX13_isMark 3 = .ok (.aload_n 0, 1) := by decide +kernel
theorem dX13_isMark_4 : decode cX13_isMark 4 = .ok (.getfield 153, 3) := by decide +kernel
theorem dX13_isMark_7 : decode cX13_isMark 7 = .ok (.i2l, 1) := by decide +kernel
theorem dX13_isMark_8 : decode cX13_isMark 8 = .ok (.lconst 1, 1) := by decide +kernel
theorem dX13_isMark_9 : decode cX13_isMark 9 = .ok (.lsub, 1) := by decide +kernel
theorem dX13_isMark_10 : decode cX13_isMark 10 = .ok (.invokestatic 140, 3) := by decide +kernel
theorem dX13_isMark_13 : decode cX13_isMark 13 = .ok (.ireturn, 1) := by decide +kernel
theorem dX13_hasRow_0 : decode cX13_hasRow 0 = .ok (.aload_n 0, 1) := by decide +kernel
theorem dX13_hasRow_1 : decode cX13_hasRow 1 = .ok (.getfield 70, 3) := by decide +kernel
theorem dX13_hasRow_4 : decode cX13_hasRow 4 = .ok (.iload_n 1, 1) := by decide +kernel
theorem dX13_hasRow_5 : decode cX13_hasRow 5 = .ok (.iaload, 1) := by decide +kernel
theorem dX13_hasRow_6 : decode cX13_hasRow 6 = .ok (.iconst 1, 1) := by decide +kernel
theorem dX13_hasRow_7 : decode cX13_hasRow 7 = .ok (.if_icmp .eq 7, 3) := by decide +kernel
theorem dX13_hasRow_10 : decode cX13_hasRow 10 = .ok (.iconst 1, 1) := by decide +kernel
theorem dX13_hasRow_11 : decode cX13_hasRow 11 = .ok (.goto 4, 3) := by decide +kernel
theorem dX13_hasRow_14 : decode cX13_hasRow 14 = .ok (.iconst 0, 1) := by decide +kernel
theorem dX13_hasRow_15 : decode cX13_hasRow 15 = .ok (.ireturn, 1) := by decide +kernel
theorem dX13_rowEnd_0 : decode cX13_rowEnd 0 = .ok (.aload_n 0, 1) := by decide +kernel
theorem dX13_rowEnd_1 : decode cX13_rowEnd 1 = .ok (.getfield 70, 3) := by decide +kernel
theorem dX13_rowEnd_4 : decode cX13_rowEnd 4 = .ok (.iload_n 1, 1) := by decide +kernel
theorem dX13_rowEnd_5 : decode cX13_rowEnd 5 = .ok (.iaload, 1) := by decide +kernel
theorem dX13_rowEnd_6 : decode cX13_rowEnd 6 = .ok (.iconst 3, 1) := by decide +kernel
theorem dX13_rowEnd_7 : decode cX13_rowEnd 7 = .ok (.if_icmp .ne 12, 3) := by decide +kernel
theorem dX13_rowEnd_10 : decode cX13_rowEnd 10 = .ok (.aload_n 0, 1) := by decide +kernel
theorem dX13_rowEnd_11 : decode cX13_rowEnd 11 = .ok (.getfield 83, 3) := by decide +kernel
theorem dX13_rowEnd_14 : decode cX13_rowEnd 14 = .ok (.iload_n 1, 1) := by decide +kernel
theorem dX13_rowEnd_15 : decode cX13_rowEnd 15 = .ok (.iaload, 1) := by decide +kernel
theorem dX13_rowEnd_16 : decode cX13_rowEnd 16 = .ok (.goto 9, 3) := by decide +kernel
theorem dX13_rowEnd_19 : decode cX13_rowEnd 19 = .ok (.aload_n 0, 1) := by decide +kernel
theorem dX13_rowEnd_20 : decode cX13_rowEnd 20 = .ok (.getfield 80, 3) := by decide +kernel
theorem dX13_rowEnd_23 : decode cX13_rowEnd 23 = .ok (.iload_n 1, 1) := by decide +kernel
theorem dX13_rowEnd_24 : decode cX13_rowEnd 24 = .ok (.iaload, 1) := by decide +kernel
theorem dX13_rowEnd_25 : decode cX13_rowEnd 25 = .ok (.ireturn, 1) := by decide +kernel
theorem dX13_gapOf_0 : decode cX13_gapOf 0 = .ok (.aload_n 0, 1) := by decide +kernel
theorem dX13_gapOf_1 : decode cX13_gapOf 1 = .ok (.getfield 70, 3) := by decide +kernel
theorem dX13_gapOf_4 : decode cX13_gapOf 4 = .ok (.iload_n 1, 1) := by decide +kernel
theorem dX13_gapOf_5 : decode cX13_gapOf 5 = .ok (.iaload, 1) := by decide +kernel
theorem dX13_gapOf_6 : decode cX13_gapOf 6 = .ok (.iconst 1, 1) := by decide +kernel
theorem dX13_gapOf_7 : decode cX13_gapOf 7 = .ok (.if_icmp .ne 12, 3) := by decide +kernel
theorem dX13_gapOf_10 : decode cX13_gapOf 10 = .ok (.aload_n 0, 1) := by decide +kernel
theorem dX13_gapOf_11 : decode cX13_gapOf 11 = .ok (.getfield 77, 3) := by decide +kernel
theorem dX13_gapOf_14 : decode cX13_gapOf 14 = .ok (.iload_n 1, 1) := by decide +kernel
theorem dX13_gapOf_15 : decode cX13_gapOf 15 = .ok (.iaload, 1) := by decide +kernel
theorem dX13_gapOf_16 : decode cX13_gapOf 16 = .ok (.goto 23, 3) := by decide +kernel
theorem dX13_gapOf_19 : decode cX13_gapOf 19 = .ok (.aload_n 0, 1) := by decide +kernel
theorem dX13_gapOf_20 : decode cX13_gapOf 20 = .ok (.getfield 70, 3) := by decide +kernel
theorem dX13_gapOf_23 : decode cX13_gapOf 23 = .ok (.iload_n 1, 1) := by decide +kernel
theorem dX13_gapOf_24 : decode cX13_gapOf 24 = .ok (.iaload, 1) := by decide +kernel
theorem dX13_gapOf_25 : decode cX13_gapOf 25 = .ok (.iconst 4, 1) := by decide +kernel
theorem dX13_gapOf_26 : decode cX13_gapOf 26 = .ok (.if_icmp .ne 12, 3) := by decide +kernel
theorem dX13_gapOf_29 : decode cX13_gapOf 29 = .ok (.aload_n 0, 1) := by decide +kernel
theorem dX13_gapOf_30 : decode cX13_gapOf 30 = .ok (.getfield 83, 3) := by decide +kernel
theorem dX13_gapOf_33 : decode cX13_gapOf 33 = .ok (.iload_n 1, 1) := by decide +kernel
theorem dX13_gapOf_34 : decode cX13_gapOf 34 = .ok (.iaload, 1) := by decide +kernel
theorem dX13_gapOf_35 : decode cX13_gapOf 35 = .ok (.goto 4, 3) := by decide +kernel
theorem dX13_gapOf_38 : decode cX13_gapOf 38 = .ok (.iconst (-1), 1) := by decide +kernel
theorem dX13_gapOf_39 : decode cX13_gapOf 39 = .ok (.ireturn, 1) := by decide +kernel
theorem dX13_isInside_0 : decode cX13_isInside 0 = .ok (.aload_n 0, 1) := by decide +kernel
theorem dX13_isInside_1 : decode cX13_isInside 1 = .ok (.iload_n 1, 1) := by decide +kernel
theorem dX13_isInside_2 : decode cX13_isInside 2 = .ok (.invokevirtual 222, 3) := by decide +kernel
theorem dX13_isInside_5 : decode cX13_isInside 5 = .ok (.ifCond .eq 24, 3) := by decide +kernel
theorem dX13_isInside_8 : decode cX13_isInside 8 = .ok (.aload_n 0, 1) := by decide +kernel
theorem dX13_isInside_9 : decode cX13_isInside 9 = .ok (.getfield 77, 3) := by decide +kernel
theorem dX13_isInside_12 : decode cX13_isInside 12 = .ok (.iload_n 1, 1) := by decide +kernel
theorem dX13_isInside_13 : decode cX13_isInside 13 = .ok (.iaload, 1) := by decide +kernel
theorem dX13_isInside_14 : decode cX13_isInside 14 = .ok (.iload_n 2, 1) := by decide +kernel
theorem dX13_isInside_15 : decode cX13_isInside 15 = .ok (.if_icmp .lt 12, 3) := by decide +kernel
theorem dX13_isInside_18 : decode cX13_isInside 18 = .ok (.aload_n 0, 1) := by decide +kernel
theorem dX13_isInside_19 : decode cX13_isInside 19 = .ok (.iload_n 1, 1) := by decide +kernel
theorem dX13_isInside_20 : decode cX13_isInside 20 = .ok (.invokevirtual 225, 3) := by decide +kernel
theorem dX13_isInside_23 : decode cX13_isInside 23 = .ok (.iload_n 3, 1) := by decide +kernel
theorem dX13_isInside_24 : decode cX13_isInside 24 = .ok (.if_icmp .le 5, 3) := by decide +kernel
theorem dX13_isInside_27 : decode cX13_isInside 27 = .ok (.iconst 0, 1) := by decide +kernel
theorem dX13_isInside_28 : decode cX13_isInside 28 = .ok (.ireturn, 1) := by decide +kernel
theorem dX13_isInside_29 : decode cX13_isInside 29 = .ok (.aload_n 0, 1) := by decide +kernel
theorem dX13_isInside_30 : decode cX13_isInside 30 = .ok (.iload_n 1, 1) := by decide +kernel
theorem dX13_isInside_31 : decode cX13_isInside 31 = .ok (.invokevirtual 228, 3) := by decide +kernel
theorem dX13_isInside_34 : decode cX13_isInside 34 = .ok (.iconst (-1), 1) := by decide +kernel
theorem dX13_isInside_35 : decode cX13_isInside 35 = .ok (.if_icmp .eq 21, 3) := by decide +kernel
theorem dX13_isInside_38 : decode cX13_isInside 38 = .ok (.aload_n 0, 1) := by decide +kernel
theorem dX13_isInside_39 : decode cX13_isInside 39 = .ok (.iload_n 1, 1) := by decide +kernel
theorem dX13_isInside_40 : decode cX13_isInside 40 = .ok (.invokevirtual 228, 3) := by decide +kernel
theorem dX13_isInside_43 : decode cX13_isInside 43 = .ok (.iload_n 2, 1) := by decide +kernel
theorem dX13_isInside_44 : decode cX13_isInside 44 = .ok (.if_icmp .le 16, 3) := by decide +kernel
theorem dX13_isInside_47 : decode cX13_isInside 47 = .ok (.aload_n 0, 1) := by decide +kernel
theorem dX13_isInside_48 : decode cX13_isInside 48 = .ok (.iload_n 1, 1) := by decide +kernel
theorem dX13_isInside_49 : decode cX13_isInside 49 = .ok (.invokevirtual 228, 3) := by decide +kernel
theorem dX13_isInside_52 : decode cX13_isInside 52 = .ok (.iload_n 3, 1) := by decide +kernel
theorem dX13_isInside_53 : decode cX13_isInside 53 = .ok (.if_icmp .gt 7, 3) := by decide +kernel
theorem dX13_isInside_56 : decode cX13_isInside 56 = .ok (.iconst 1, 1) := by decide +kernel
theorem dX13_isInside_57 : decode cX13_isInside 57 = .ok (.goto 4, 3) := by decide +kernel
theorem dX13_isInside_60 : decode cX13_isInside 60 = .ok (.iconst 0, 1) := by decide +kernel
theorem dX13_isInside_61 : decode cX13_isInside 61 = .ok (.ireturn, 1) := by decide +kernel
theorem dX13_isWithin_0 : decode cX13_isWithin 0 = .ok (.aload_n 0, 1) := by decide +kernel
theorem dX13_isWithin_1 : decode cX13_isWithin 1 = .ok (.getfield 70, 3) := by decide +kernel
theorem dX13_isWithin_4 : decode cX13_isWithin 4 = .ok (.iload_n 2, 1) := by decide +kernel
theorem dX13_isWithin_5 : decode cX13_isWithin 5 = .ok (.iaload, 1) := by decide +kernel
theorem dX13_isWithin_6 : decode cX13_isWithin 6 = .ok (.iconst 4, 1) := by decide +kernel
theorem dX13_isWithin_7 : decode cX13_isWithin 7 = .ok (.if_icmp .ne 21, 3) := by decide +kernel
theorem dX13_isWithin_10 : decode cX13_isWithin 10 = .ok (.aload_n 0, 1) := by decide +kernel
theorem dX13_isWithin_11 : decode cX13_isWithin 11 = .ok (.iload_n 1, 1) := by decide +kernel
theorem dX13_isWithin_12 : decode cX13_isWithin 12 = .ok (.aload_n 0, 1) := by decide +kernel
theorem dX13_isWithin_13 : decode cX13_isWithin 13 = .ok (.getfield 77, 3) := by decide +kernel
theorem dX13_isWithin_16 : decode cX13_isWithin 16 = .ok (.iload_n 2, 1) := by decide +kernel
theorem dX13_isWithin_17 : decode cX13_isWithin 17 = .ok (.iaload, 1) := by decide +kernel
theorem dX13_isWithin_18 : decode cX13_isWithin 18 = .ok (.aload_n 0, 1) := by decide +kernel
theorem dX13_isWithin_19 : decode cX13_isWithin 19 = .ok (.getfield 80, 3) := by decide +kernel
theorem dX13_isWithin_22 : decode cX13_isWithin 22 = .ok (.iload_n 2, 1) := by decide +kernel
theorem dX13_isWithin_23 : decode cX13_isWithin 23 = .ok (.iaload, 1) := by decide +kernel
theorem dX13_isWithin_24 : decode cX13_isWithin 24 = .ok (.invokevirtual 231, 3) := by decide +kernel
theorem dX13_isWithin_27 : decode cX13_isWithin 27 = .ok (.ireturn, 1) := by decide +kernel
theorem dX13_isWithin_28 : decode cX13_isWithin 28 = .ok (.aload_n 0, 1) := by decide +kernel
theorem dX13_isWithin_29 : decode cX13_isWithin 29 = .ok (.getfield 70, 3) := by decide +kernel
theorem dX13_isWithin_32 : decode cX13_isWithin 32 = .ok (.iload_n 2, 1) := by decide +kernel
theorem dX13_isWithin_33 : decode cX13_isWithin 33 = .ok (.iaload, 1) := by decide +kernel
theorem dX13_isWithin_34 : decode cX13_isWithin 34 = .ok (.iconst 3, 1) := by decide +kernel
theorem dX13_isWithin_35 : decode cX13_isWithin 35 = .ok (.if_icmp .ne 49, 3) := by decide +kernel
theorem dX13_isWithin_38 : decode cX13_isWithin 38 = .ok (.aload_n 0, 1) := by decide +kernel
theorem dX13_isWithin_39 : decode cX13_isWithin 39 = .ok (.iload_n 1, 1) := by decide +kernel
theorem dX13_isWithin_40 : decode cX13_isWithin 40 = .ok (.aload_n 0, 1) := by decide +kernel
theorem dX13_isWithin_41 : decode cX13_isWithin 41 = .ok (.getfield 77, 3) := by decide +kernel
theorem dX13_isWithin_44 : decode cX13_isWithin 44 = .ok (.iload_n 2, 1) := by decide +kernel
theorem dX13_isWithin_45 : decode cX13_isWithin 45 = .ok (.iaload, 1) := by decide +kernel
theorem dX13_isWithin_46 : decode cX13_isWithin 46 = .ok (.aload_n 0, 1) := by decide +kernel
theorem dX13_isWithin_47 : decode cX13_isWithin 47 = .ok (.getfield 80, 3) := by decide +kernel
theorem dX13_isWithin_50 : decode cX13_isWithin 50 = .ok (.iload_n 2, 1) := by decide +kernel
theorem dX13_isWithin_51 : decode cX13_isWithin 51 = .ok (.iaload, 1) := by decide +kernel
theorem dX13_isWithin_52 : decode cX13_isWithin 52 = .ok (.iconst 1, 1) := by decide +kernel
theorem dX13_isWithin_53 : decode cX13_isWithin 53 = .ok (.isub, 1) := by decide +kernel
theorem dX13_isWithin_54 : decode cX13_isWithin 54 = .ok (.invokevirtual 231, 3) := by decide +kernel
theorem dX13_isWithin_57 : decode cX13_isWithin 57 = .ok (.ifCond .ne 23, 3) := by decide +kernel
theorem dX13_isWithin_60 : decode cX13_isWithin 60 = .ok (.aload_n 0, 1) := by decide +kernel
theorem dX13_isWithin_61 : decode cX13_isWithin 61 = .ok (.iload_n 1, 1) := by decide +kernel
theorem dX13_isWithin_62 : decode cX13_isWithin 62 = .ok (.aload_n 0, 1) := by decide +kernel
theorem dX13_isWithin_63 : decode cX13_isWithin 63 = .ok (.getfield 80, 3) := by decide +kernel
theorem dX13_isWithin_66 : decode cX13_isWithin 66 = .ok (.iload_n 2, 1) := by decide +kernel
theorem dX13_isWithin_67 : decode cX13_isWithin 67 = .ok (.iaload, 1) := by decide +kernel
theorem dX13_isWithin_68 : decode cX13_isWithin 68 = .ok (.aload_n 0, 1) := by decide +kernel
theorem dX13_isWithin_69 : decode cX13_isWithin 69 = .ok (.getfield 83, 3) := by decide +kernel
theorem dX13_isWithin_72 : decode cX13_isWithin 72 = .ok (.iload_n 2, 1) := by decide +kernel
theorem dX13_isWithin_73 : decode cX13_isWithin 73 = .ok (.iaload, 1) := by decide +kernel
theorem dX13_isWithin_74 : decode cX13_isWithin 74 = .ok (.invokevirtual 231, 3) := by decide +kernel
theorem dX13_isWithin_77 : decode cX13_isWithin 77 = .ok (.ifCond .eq 7, 3) := by decide +kernel
theorem dX13_isWithin_80 : decode cX13_isWithin 80 = .ok (.iconst 1, 1) := by decide +kernel
theorem dX13_isWithin_81 : decode cX13_isWithin 81 = .ok (.goto 4, 3) := by decide +kernel
theorem dX13_isWithin_84 : decode cX13_isWithin 84 = .ok (.iconst 0, 1) := by decide +kernel
theorem dX13_isWithin_85 : decode cX13_isWithin 85 = .ok (.ireturn, 1) := by decide +kernel
theorem dX13_doMeet_0 : decode cX13_doMeet 0 = .ok (.aload_n 0, 1) := by decide +kernel
theorem dX13_doMeet_1 : decode cX13_doMeet 1 = .ok (.iload_n 1, 1) := by decide +kernel
theorem dX13_doMeet_2 : decode cX13_doMeet 2 = .ok (.iload_n 2, 1) := by decide +kernel
theorem dX13_doMeet_3 : decode cX13_doMeet 3 = .ok (.invokevirtual 235, 3) := by decide +kernel
theorem dX13_doMeet_6 : decode cX13_doMeet 6 = .ok (.ifCond .ne 12, 3) := by decide +kernel
theorem dX13_doMeet_9 : decode cX13_doMeet 9 = .ok (.aload_n 0, 1) := by decide +kernel
theorem dX13_doMeet_10 : decode cX13_doMeet 10 = .ok (.iload_n 2, 1) := by decide +kernel
theorem dX13_doMeet_11 : decode cX13_doMeet 11 = .ok (.iload_n 1, 1) := by decide +kernel
theorem dX13_doMeet_12 : decode cX13_doMeet 12 = .ok (.invokevirtual 235, 3) := by decide +kernel
theorem dX13_doMeet_15 : decode cX13_doMeet 15 = .ok (.ifCond .eq 5, 3) := by decide +kernel
theorem dX13_doMeet_18 : decode cX13_doMeet 18 = .ok (.iconst 0, 1) := by decide +kernel
theorem dX13_doMeet_19 : decode cX13_doMeet 19 = .ok (.ireturn, 1) := by decide +kernel
theorem dX13_doMeet_20 : decode cX13_doMeet 20 = .ok (.aload_n 0, 1) := by decide +kernel
theorem dX13_doMeet_21 : decode cX13_doMeet 21 = .ok (.iload_n 1, 1) := by decide +kernel
theorem dX13_doMeet_22 : decode cX13_doMeet 22 = .ok (.invokevirtual 222, 3) := by decide +kernel
theorem dX13_doMeet_25 : decode cX13_doMeet 25 = .ok (.ifCond .eq 41, 3) := by decide +kernel
theorem dX13_doMeet_28 : decode cX13_doMeet 28 = .ok (.aload_n 0, 1) := by decide +kernel
theorem dX13_doMeet_29 : decode cX13_doMeet 29 = .ok (.iload_n 2, 1) := by decide +kernel
theorem dX13_doMeet_30 : decode cX13_doMeet 30 = .ok (.invokevirtual 222, 3) := by decide +kernel
theorem dX13_doMeet_33 : decode cX13_doMeet 33 = .ok (.ifCond .eq 33, 3) := by decide +kernel
theorem dX13_doMeet_36 : decode cX13_doMeet 36 = .ok (.aload_n 0, 1) := by decide +kernel
theorem dX13_doMeet_37 : decode cX13_doMeet 37 = .ok (.getfield 77, 3) := by decide +kernel
theorem dX13_doMeet_40 : decode cX13_doMeet 40 = .ok (.iload_n 1, 1) := by decide +kernel
theorem dX13_doMeet_41 : decode cX13_doMeet 41 = .ok (.iaload, 1) := by decide +kernel
theorem dX13_doMeet_42 : decode cX13_doMeet 42 = .ok (.aload_n 0, 1) := by decide +kernel
theorem dX13_doMeet_43 : decode cX13_doMeet 43 = .ok (.iload_n 2, 1) := by decide +kernel
theorem dX13_doMeet_44 : decode cX13_doMeet 44 = .ok (.invokevirtual 225, 3) := by decide +kernel
theorem dX13_doMeet_47 : decode cX13_doMeet 47 = .ok (.if_icmp .gt 19, 3) := by decide +kernel
theorem dX13_doMeet_50 : decode cX13_doMeet 50 = .ok (.aload_n 0, 1) := by decide +kernel
theorem dX13_doMeet_51 : decode cX13_doMeet 51 = .ok (.getfield 77, 3) := by decide +kernel
theorem dX13_doMeet_54 : decode cX13_doMeet 54 = .ok (.iload_n 2, 1) := by decide +kernel
theorem dX13_doMeet_55 : decode cX13_doMeet 55 = .ok (.iaload, 1) := by decide +kernel
theorem dX13_doMeet_56 : decode cX13_doMeet 56 = .ok (.aload_n 0, 1) := by decide +kernel
theorem dX13_doMeet_57 : decode cX13_doMeet 57 = .ok (.iload_n 1, 1) := by decide +kernel
theorem dX13_doMeet_58 : decode cX13_doMeet 58 = .ok (.invokevirtual 225, 3) := by decide +kernel
theorem dX13_doMeet_61 : decode cX13_doMeet 61 = .ok (.if_icmp .gt 5, 3) := by decide +kernel
theorem dX13_doMeet_64 : decode cX13_doMeet 64 = .ok (.iconst 1, 1) := by decide +kernel
theorem dX13_doMeet_65 : decode cX13_doMeet 65 = .ok (.ireturn, 1) := by decide +kernel
theorem dX13_doMeet_66 : decode cX13_doMeet 66 = .ok (.aload_n 0, 1) := by decide +kernel
theorem dX13_doMeet_67 : decode cX13_doMeet 67 = .ok (.iload_n 1, 1) := by decide +kernel
theorem dX13_doMeet_68 : decode cX13_doMeet 68 = .ok (.iload_n 2, 1) := by decide +kernel
theorem dX13_doMeet_69 : decode cX13_doMeet 69 = .ok (.invokevirtual 239, 3) := by decide +kernel
theorem dX13_doMeet_72 : decode cX13_doMeet 72 = .ok (.ifCond .ne 12, 3) := by decide +kernel
theorem dX13_doMeet_75 : decode cX13_doMeet 75 = .ok (.aload_n 0, 1) := by decide +kernel
theorem dX13_doMeet_76 : decode cX13_doMeet 76 = .ok (.iload_n 2, 1) := by decide +kernel
theorem dX13_doMeet_77 : decode cX13_doMeet 77 = .ok (.iload_n 1, 1) := by decide +kernel
theorem dX13_doMeet_78 : decode cX13_doMeet 78 = .ok (.invokevirtual 239, 3) := by decide +kernel
theorem dX13_doMeet_81 : decode cX13_doMeet 81 = .ok (.ifCond .eq 7, 3) := by decide +kernel
theorem dX13_doMeet_84 : decode cX13_doMeet 84 = .ok (.iconst 1, 1) := by decide +kernel
theorem dX13_doMeet_85 : decode cX13_doMeet 85 = .ok (.goto 4, 3) := by decide +kernel
theorem dX13_doMeet_88 : decode cX13_doMeet 88 = .ok (.iconst 0, 1) := by decide +kernel
theorem dX13_doMeet_89 : decode cX13_doMeet 89 = .ok (.ireturn, 1) := by decide +kernel
theorem dX13_isCut_0 : decode cX13_isCut 0 = .ok (.aload_n 0, 1) := by decide +kernel
theorem dX13_isCut_1 : decode cX13_isCut 1 = .ok (.iload_n 1, 1) := by decide +kernel
theorem dX13_isCut_2 : decode cX13_isCut 2 = .ok (.invokevirtual 228, 3) := by decide +kernel
theorem dX13_isCut_5 : decode cX13_isCut 5 = .ok (.iconst (-1), 1) := by decide +kernel
theorem dX13_isCut_6 : decode cX13_isCut 6 = .ok (.if_icmp .eq 42, 3) := by decide +kernel
theorem dX13_isCut_9 : decode cX13_isCut 9 = .ok (.aload_n 0, 1) := by decide +kernel
theorem dX13_isCut_10 : decode cX13_isCut 10 = .ok (.iload_n 2, 1) := by decide +kernel
theorem dX13_isCut_11 : decode cX13_isCut 11 = .ok (.invokevirtual 222, 3) := by decide +kernel
theorem dX13_isCut_14 : decode cX13_isCut 14 = .ok (.ifCond .eq 34, 3) := by decide +kernel
theorem dX13_isCut_17 : decode cX13_isCut 17 = .ok (.aload_n 0, 1) := by decide +kernel
theorem dX13_isCut_18 : decode cX13_isCut 18 = .ok (.iload_n 1, 1) := by decide +kernel
theorem dX13_isCut_19 : decode cX13_isCut 19 = .ok (.invokevirtual 228, 3) := by decide +kernel
theorem dX13_isCut_22 : decode cX13_isCut 22 = .ok (.aload_n 0, 1) := by decide +kernel
theorem dX13_isCut_23 : decode cX13_isCut 23 = .ok (.getfield 77, 3) := by decide +kernel
theorem dX13_isCut_26 : decode cX13_isCut 26 = .ok (.iload_n 2, 1) := by decide +kernel
theorem dX13_isCut_27 : decode cX13_isCut 27 = .ok (.iaload, 1) := by decide +kernel
theorem dX13_isCut_28 : decode cX13_isCut 28 = .ok (.if_icmp .le 20, 3) := by decide +kernel
theorem dX13_isCut_31 : decode cX13_isCut 31 = .ok (.aload_n 0, 1) := by decide +kernel
theorem dX13_isCut_32 : decode cX13_isCut 32 = .ok (.iload_n 1, 1) := by decide +kernel
theorem dX13_isCut_33 : decode cX13_isCut 33 = .ok (.invokevirtual 228, 3) := by decide +kernel
theorem dX13_isCut_36 : decode cX13_isCut 36 = .ok (.aload_n 0, 1) := by decide +kernel
theorem dX13_isCut_37 : decode cX13_isCut 37 = .ok (.iload_n 2, 1) := by decide +kernel
theorem dX13_isCut_38 : decode cX13_isCut 38 = .ok (.invokevirtual 225, 3) := by decide +kernel
theorem dX13_isCut_41 : decode cX13_isCut 41 = .ok (.if_icmp .gt 7, 3) := by decide +kernel
theorem dX13_isCut_44 : decode cX13_isCut 44 = .ok (.iconst 1, 1) := by decide +kernel
theorem dX13_isCut_45 : decode cX13_isCut 45 = .ok (.goto 4, 3) := by decide +kernel
theorem dX13_isCut_48 : decode cX13_isCut 48 = .ok (.iconst 0, 1) := by decide +kernel
theorem dX13_isCut_49 : decode cX13_isCut 49 = .ok (.ireturn, 1) := by decide +kernel
theorem dX13_meet_0 : decode cX13_meet 0 = .ok (.aload_n 0, 1) := by decide +kernel
theorem dX13_meet_1 : decode cX13_meet 1 = .ok (.iload_n 1, 1) := by decide +kernel
theorem dX13_meet_2 : decode cX13_meet 2 = .ok (.invokevirtual 242, 3) := by decide +kernel
theorem dX13_meet_5 : decode cX13_meet 5 = .ok (.ifCond .eq 36, 3) := by decide +kernel
theorem dX13_meet_8 : decode cX13_meet 8 = .ok (.aload_n 0, 1) := by decide +kernel
theorem dX13_meet_9 : decode cX13_meet 9 = .ok (.iload_n 2, 1) := by decide +kernel
theorem dX13_meet_10 : decode cX13_meet 10 = .ok (.invokevirtual 242, 3) := by decide +kernel
theorem dX13_meet_13 : decode cX13_meet 13 = .ok (.ifCond .eq 28, 3) := by decide +kernel
theorem dX13_meet_16 : decode cX13_meet 16 = .ok (.iload_n 1, 1) := by decide +kernel
theorem dX13_meet_17 : decode cX13_meet 17 = .ok (.iload_n 2, 1) := by decide +kernel
theorem dX13_meet_18 : decode cX13_meet 18 = .ok (.if_icmp .eq 23, 3) := by decide +kernel
theorem dX13_meet_21 : decode cX13_meet 21 = .ok (.aload_n 0, 1) := by decide +kernel
theorem dX13_meet_22 : decode cX13_meet 22 = .ok (.getfield 70, 3) := by decide +kernel
theorem dX13_meet_25 : decode cX13_meet 25 = .ok (.iload_n 1, 1) := by decide +kernel
theorem dX13_meet_26 : decode cX13_meet 26 = .ok (.iaload, 1) := by decide +kernel
theorem dX13_meet_27 : decode cX13_meet 27 = .ok (.iconst 5, 1) := by decide +kernel
theorem dX13_meet_28 : decode cX13_meet 28 = .ok (.if_icmp .eq 13, 3) := by decide +kernel
theorem dX13_meet_31 : decode cX13_meet 31 = .ok (.aload_n 0, 1) := by decide +kernel
theorem dX13_meet_32 : decode cX13_meet 32 = .ok (.getfield 70, 3) := by decide +kernel
theorem dX13_meet_35 : decode cX13_meet 35 = .ok (.iload_n 2, 1) := by decide +kernel
theorem dX13_meet_36 : decode cX13_meet 36 = .ok (.iaload, 1) := by decide +kernel
theorem dX13_meet_37 : decode cX13_meet 37 = .ok (.iconst 5, 1) := by decide +kernel
theorem dX13_meet_38 : decode cX13_meet 38 = .ok (.if_icmp .ne 8, 3) := by decide +kernel
theorem dX13_meet_41 : decode cX13_meet 41 = .ok (.bipush (-2), 2) := by decide +kernel
theorem dX13_meet_43 : decode cX13_meet 43 = .ok (.goto 17, 3) := by decide +kernel
theorem dX13_meet_46 : decode cX13_meet 46 = .ok (.aload_n 0, 1) := by decide +kernel
theorem dX13_meet_47 : decode cX13_meet 47 = .ok (.iload_n 1, 1) := by decide +kernel
theorem dX13_meet_48 : decode cX13_meet 48 = .ok (.iload_n 2, 1) := by decide +kernel
theorem dX13_meet_49 : decode cX13_meet 49 = .ok (.invokevirtual 245, 3) := by decide +kernel
theorem dX13_meet_52 : decode cX13_meet 52 = .ok (.ifCond .eq 7, 3) := by decide +kernel
theorem dX13_meet_55 : decode cX13_meet 55 = .ok (.iconst 1, 1) := by decide +kernel
theorem dX13_meet_56 : decode cX13_meet 56 = .ok (.goto 4, 3) := by decide +kernel
theorem dX13_meet_59 : decode cX13_meet 59 = .ok (.iconst 0, 1) := by decide +kernel
theorem dX13_meet_60 : decode cX13_meet 60 = .ok (.ireturn, 1) := by decide +kernel
theorem dX13_within_0 : decode cX13_within 0 = .ok (.aload_n 0, 1) := by decide +kernel
theorem dX13_within_1 : decode cX13_within 1 = .ok (.iload_n 1, 1) := by decide +kernel
theorem dX13_within_2 : decode cX13_within 2 = .ok (.invokevirtual 242, 3) := by decide +kernel
theorem dX13_within_5 : decode cX13_within 5 = .ok (.ifCond .eq 36, 3) := by decide +kernel
theorem dX13_within_8 : decode cX13_within 8 = .ok (.aload_n 0, 1) := by decide +kernel
theorem dX13_within_9 : decode cX13_within 9 = .ok (.iload_n 2, 1) := by decide +kernel
theorem dX13_within_10 : decode cX13_within 10 = .ok (.invokevirtual 242, 3) := by decide +kernel
theorem dX13_within_13 : decode cX13_within 13 = .ok (.ifCond .eq 28, 3) := by decide +kernel
theorem dX13_within_16 : decode cX13_within 16 = .ok (.iload_n 1, 1) := by decide +kernel
theorem dX13_within_17 : decode cX13_within 17 = .ok (.iload_n 2, 1) := by decide +kernel
theorem dX13_within_18 : decode cX13_within 18 = .ok (.if_icmp .eq 23, 3) := by decide +kernel
theorem dX13_within_21 : decode cX13_within 21 = .ok (.aload_n 0, 1) := by decide +kernel
theorem dX13_within_22 : decode cX13_within 22 = .ok (.getfield 70, 3) := by decide +kernel
theorem dX13_within_25 : decode cX13_within 25 = .ok (.iload_n 1, 1) := by decide +kernel
theorem dX13_within_26 : decode cX13_within 26 = .ok (.iaload, 1) := by decide +kernel
theorem dX13_within_27 : decode cX13_within 27 = .ok (.iconst 5, 1) := by decide +kernel
theorem dX13_within_28 : decode cX13_within 28 = .ok (.if_icmp .eq 13, 3) := by decide +kernel
theorem dX13_within_31 : decode cX13_within 31 = .ok (.aload_n 0, 1) := by decide +kernel
theorem dX13_within_32 : decode cX13_within 32 = .ok (.getfield 70, 3) := by decide +kernel
theorem dX13_within_35 : decode cX13_within 35 = .ok (.iload_n 2, 1) := by decide +kernel
theorem dX13_within_36 : decode cX13_within 36 = .ok (.iaload, 1) := by decide +kernel
theorem dX13_within_37 : decode cX13_within 37 = .ok (.iconst 5, 1) := by decide +kernel
theorem dX13_within_38 : decode cX13_within 38 = .ok (.if_icmp .ne 8, 3) := by decide +kernel
theorem dX13_within_41 : decode cX13_within 41 = .ok (.bipush (-2), 2) := by decide +kernel
theorem dX13_within_43 : decode cX13_within 43 = .ok (.goto 17, 3) := by decide +kernel
theorem dX13_within_46 : decode cX13_within 46 = .ok (.aload_n 0, 1) := by decide +kernel
theorem dX13_within_47 : decode cX13_within 47 = .ok (.iload_n 1, 1) := by decide +kernel
theorem dX13_within_48 : decode cX13_within 48 = .ok (.iload_n 2, 1) := by decide +kernel
theorem dX13_within_49 : decode cX13_within 49 = .ok (.invokevirtual 235, 3) := by decide +kernel
theorem dX13_within_52 : decode cX13_within 52 = .ok (.ifCond .eq 7, 3) := by decide +kernel
theorem dX13_within_55 : decode cX13_within 55 = .ok (.iconst 1, 1) := by decide +kernel
theorem dX13_within_56 : decode cX13_within 56 = .ok (.goto 4, 3) := by decide +kernel
theorem dX13_within_59 : decode cX13_within 59 = .ok (.iconst 0, 1) := by decide +kernel
theorem dX13_within_60 : decode cX13_within 60 = .ok (.ireturn, 1) := by decide +kernel
theorem dX13_judge_0 : decode cX13_judge 0 = .ok (.iconst 0, 1) := by decide +kernel
theorem dX13_judge_1 : decode cX13_judge 1 = .ok (.istore_n 1, 1) := by decide +kernel
theorem dX13_judge_2 : decode cX13_judge 2 = .ok (.iload_n 1, 1) := by decide +kernel
theorem dX13_judge_3 : decode cX13_judge 3 = .ok (.aload_n 0, 1) := by decide +kernel
theorem dX13_judge_4 : decode cX13_judge 4 = .ok (.getfield 153, 3) := by decide +kernel
theorem dX13_judge_7 : decode cX13_judge 7 = .ok (.if_icmp .ge 137, 3) := by decide +kernel
theorem dX13_judge_10 : decode cX13_judge 10 = .ok (.aload_n 0, 1) := by decide +kernel
theorem dX13_judge_11 : decode cX13_judge 11 = .ok (.getfield 114, 3) := by decide +kernel
theorem dX13_judge_14 : decode cX13_judge 14 = .ok (.iload_n 1, 1) := by decide +kernel
theorem dX13_judge_15 : decode cX13_judge 15 = .ok (.iconst (-1), 1) := by decide +kernel
theorem dX13_judge_16 : decode cX13_judge 16 = .ok (.iastore, 1) := by decide +kernel
theorem dX13_judge_17 : decode cX13_judge 17 = .ok (.aload_n 0, 1) := by decide +kernel
theorem dX13_judge_18 : decode cX13_judge 18 = .ok (.getfield 153, 3) := by decide +kernel
theorem dX13_judge_21 : decode cX13_judge 21 = .ok (.iconst 1, 1) := by decide +kernel
theorem dX13_judge_22 : decode cX13_judge 22 = .ok (.isub, 1) := by decide +kernel
theorem dX13_judge_23 : decode cX13_judge 23 = .ok (.istore_n 2, 1) := by decide +kernel
theorem dX13_judge_24 : decode cX13_judge 24 = .ok (.iload_n 2, 1) := by decide +kernel
theorem dX13_judge_25 : decode cX13_judge 25 = .ok (.iload_n 1, 1) := by decide +kernel
theorem dX13_judge_26 : decode cX13_judge 26 = .ok (.if_icmp .le 36, 3) := by decide +kernel
theorem dX13_judge_29 : decode cX13_judge 29 = .ok (.aload_n 0, 1) := by decide +kernel
theorem dX13_judge_30 : decode cX13_judge 30 = .ok (.getfield 70, 3) := by decide +kernel
theorem dX13_judge_33 : decode cX13_judge 33 = .ok (.iload_n 2, 1) := by decide +kernel
theorem dX13_judge_34 : decode cX13_judge 34 = .ok (.iaload, 1) := by decide +kernel
theorem dX13_judge_35 : decode cX13_judge 35 = .ok (.iconst 5, 1) := by decide +kernel
theorem dX13_judge_36 : decode cX13_judge 36 = .ok (.if_icmp .ne 20, 3) := by decide +kernel
theorem dX13_judge_39 : decode cX13_judge 39 = .ok (.aload_n 0, 1) := by decide +kernel
theorem dX13_judge_40 : decode cX13_judge 40 = .ok (.getfield 77, 3) := by decide +kernel
theorem dX13_judge_43 : decode cX13_judge 43 = .ok (.iload_n 2, 1) := by decide +kernel
theorem dX13_judge_44 : decode cX13_judge 44 = .ok (.iaload, 1) := by decide +kernel
theorem dX13_judge_45 : decode cX13_judge 45 = .ok (.iload_n 1, 1) := by decide +kernel
theorem dX13_judge_46 : decode cX13_judge 46 = .ok (.if_icmp .ne 10, 3) := by decide +kernel
theorem dX13_judge_49 : decode cX13_judge 49 = .ok (.aload_n 0, 1) := by decide +kernel
theorem dX13_judge_50 : decode cX13_judge 50 = .ok (.getfield 114, 3) := by decide +kernel
theorem dX13_judge_53 : decode cX13_judge 53 = .ok (.iload_n 1, 1) := by decide +kernel
theorem dX13_judge_54 : decode cX13_judge 54 = .ok (.iload_n 2, 1) := by decide +kernel
theorem dX13_judge_55 : decode cX13_judge 55 = .ok (.iastore, 1) := by decide +kernel
theorem dX13_judge_56 : decode cX13_judge 56 = .ok (.iinc 2 (-1), 3) := by decide +kernel
theorem dX13_judge_59 : decode cX13_judge 59 = .ok (.goto (-35), 3) := by decide +kernel
theorem dX13_judge_62 : decode cX13_judge 62 = .ok (.aload_n 0, 1) := by decide +kernel
theorem dX13_judge_63 : decode cX13_judge 63 = .ok (.getfield 111, 3) := by decide +kernel
theorem dX13_judge_66 : decode cX13_judge 66 = .ok (.iload_n 1, 1) := by decide +kernel
theorem dX13_judge_67 : decode cX13_judge 67 = .ok (.aload_n 0, 1) := by decide +kernel
theorem dX13_judge_68 : decode cX13_judge 68 = .ok (.getfield 70, 3) := by decide +kernel
theorem dX13_judge_71 : decode cX13_judge 71 = .ok (.iload_n 1, 1) := by decide +kernel
theorem dX13_judge_72 : decode cX13_judge 72 = .ok (.iaload, 1) := by decide +kernel
theorem dX13_judge_73 : decode cX13_judge 73 = .ok (.iconst 5, 1) := by decide +kernel
theorem dX13_judge_74 : decode cX13_judge 74 = .ok (.if_icmp .ne 7, 3) := by decide +kernel
theorem dX13_judge_77 : decode cX13_judge 77 = .ok (.iconst 4, 1) := by decide +kernel
theorem dX13_judge_78 : decode cX13_judge 78 = .ok (.goto 59, 3) := by decide +kernel
theorem dX13_judge_81 : decode cX13_judge 81 = .ok (.aload_n 0, 1) := by decide +kernel
theorem dX13_judge_82 : decode cX13_judge 82 = .ok (.getfield 114, 3) := by decide +kernel
theorem dX13_judge_85 : decode cX13_judge 85 = .ok (.iload_n 1, 1) := by decide +kernel
theorem dX13_judge_86 : decode cX13_judge 86 = .ok (.iaload, 1) := by decide +kernel
theorem dX13_judge_87 : decode cX13_judge 87 = .ok (.iconst (-1), 1) := by decide +kernel
theorem dX13_judge_88 : decode cX13_judge 88 = .ok (.if_icmp .ne 22, 3) := by decide +kernel
theorem dX13_judge_91 : decode cX13_judge 91 = .ok (.aload_n 0, 1) := by decide +kernel
theorem dX13_judge_92 : decode cX13_judge 92 = .ok (.getfield 95, 3) := by decide +kernel
theorem dX13_judge_95 : decode cX13_judge 95 = .ok (.iload_n 1, 1) := by decide +kernel
theorem dX13_judge_96 : decode cX13_judge 96 = .ok (.baload, 1) := by decide +kernel
theorem dX13_judge_97 : decode cX13_judge 97 = .ok (.ifCond .eq 17, 3) := by decide +kernel
theorem dX13_judge_100 : decode cX13_judge 100 = .ok (.aload_n 0, 1) := by decide +kernel
theorem dX13_judge_101 : decode cX13_judge 101 = .ok (.getfield 89, 3) := by decide +kernel
theorem dX13_judge_104 : decode cX13_judge 104 = .ok (.iload_n 1, 1) := by decide +kernel
theorem dX13_judge_105 : decode cX13_judge 105 = .ok (.iaload, 1) := by decide +kernel
theorem dX13_judge_106 : decode cX13_judge 106 = .ok (.iconst 2, 1) := by decide +kernel
theorem dX13_judge_107 : decode cX13_judge 107 = .ok (.if_icmp .ne 7, 3) := by decide +kernel
theorem dX13_judge_110 : decode cX13_judge 110 = .ok (.iconst 2, 1) := by decide +kernel
theorem dX13_judge_111 : decode cX13_judge 111 = .ok (.goto 26, 3) := by decide +kernel
theorem dX13_judge_114 : decode cX13_judge 114 = .ok (.aload_n 0, 1) := by decide +kernel
theorem dX13_judge_115 : decode cX13_judge 115 = .ok (.getfield 95, 3) := by decide +kernel
theorem dX13_judge_118 : decode cX13_judge 118 = .ok (.iload_n 1, 1) := by decide +kernel
theorem dX13_judge_119 : decode cX13_judge 119 = .ok (.baload, 1) := by decide +kernel
theorem dX13_judge_120 : decode cX13_judge 120 = .ok (.ifCond .eq 16, 3) := by decide +kernel
theorem dX13_judge_123 : decode cX13_judge 123 = .ok (.aload_n 0, 1) := by decide +kernel
theorem dX13_judge_124 : decode cX13_judge 124 = .ok (.getfield 89, 3) := by decide +kernel
theorem dX13_judge_127 : decode cX13_judge 127 = .ok (.iload_n 1, 1) := by decide +kernel
theorem dX13_judge_128 : decode cX13_judge 128 = .ok (.iaload, 1) := by decide +kernel
theorem dX13_judge_129 : decode cX13_judge 129 = .ok (.ifCond .ne 7, 3) := by decide +kernel
theorem dX13_judge_132 : decode cX13_judge 132 = .ok (.iconst 3, 1) := by decide +kernel
theorem dX13_judge_133 : decode cX13_judge 133 = .ok (.goto 4, 3) := by decide +kernel
theorem dX13_judge_136 : decode cX13_judge 136 = .ok (.iconst 1, 1) := by decide +kernel
theorem dX13_judge_137 : decode cX13_judge 137 = .ok (.iastore, 1) := by decide +kernel
theorem dX13_judge_138 : decode cX13_judge 138 = .ok (.iinc 1 1, 3) := by decide +kernel
theorem dX13_judge_141 : decode cX13_judge 141 = .ok (.goto (-139), 3) := by decide +kernel
theorem dX13_judge_144 : decode cX13_judge 144 = .ok (.iconst 0, 1) := by decide +kernel
theorem dX13_judge_145 : decode cX13_judge 145 = .ok (.istore_n 1, 1) := by decide +kernel
theorem dX13_judge_146 : decode cX13_judge 146 = .ok (.iload_n 1, 1) := by decide +kernel
theorem dX13_judge_147 : decode cX13_judge 147 = .ok (.bipush 10, 2) := by decide +kernel
theorem dX13_judge_149 : decode cX13_judge 149 = .ok (.if_icmp .ge 55, 3) := by decide +kernel
theorem dX13_judge_152 : decode cX13_judge 152 = .ok (.iconst 0, 1) := by decide +kernel
theorem dX13_judge_153 : decode cX13_judge 153 = .ok (.istore_n 2, 1) := by decide +kernel
theorem dX13_judge_154 : decode cX13_judge 154 = .ok (.iload_n 2, 1) := by decide +kernel
theorem dX13_judge_155 : decode cX13_judge 155 = .ok (.aload_n 0, 1) := by decide +kernel
theorem dX13_judge_156 : decode cX13_judge 156 = .ok (.getfield 153, 3) := by decide +kernel
theorem dX13_judge_159 : decode cX13_judge 159 = .ok (.if_icmp .ge 39, 3) := by decide +kernel
theorem dX13_judge_162 : decode cX13_judge 162 = .ok (.aload_n 0, 1) := by decide +kernel
theorem dX13_judge_163 : decode cX13_judge 163 = .ok (.getfield 111, 3) := by decide +kernel
theorem dX13_judge_166 : decode cX13_judge 166 = .ok (.iload_n 2, 1) := by decide +kernel
theorem dX13_judge_167 : decode cX13_judge 167 = .ok (.iaload, 1) := by decide +kernel
theorem dX13_judge_168 : decode cX13_judge 168 = .ok (.iconst 1, 1) := by decide +kernel
theorem dX13_judge_169 : decode cX13_judge 169 = .ok (.if_icmp .ne 23, 3) := by decide +kernel
theorem dX13_judge_172 : decode cX13_judge 172 = .ok (.aload_n 0, 1) := by decide +kernel
theorem dX13_judge_173 : decode cX13_judge 173 = .ok (.getfield 102, 3) := by decide +kernel
theorem dX13_judge_176 : decode cX13_judge 176 = .ok (.aload_n 0, 1) := by decide +kernel
theorem dX13_judge_177 : decode cX13_judge 177 = .ok (.getfield 74, 3) := by decide +kernel
theorem dX13_judge_180 : decode cX13_judge 180 = .ok (.iload_n 2, 1) := by decide +kernel
theorem dX13_judge_181 : decode cX13_judge 181 = .ok (.iaload, 1) := by decide +kernel
theorem dX13_judge_182 : decode cX13_judge 182 = .ok (.iaload, 1) := by decide +kernel
theorem dX13_judge_183 : decode cX13_judge 183 = .ok (.iload_n 1, 1) := by decide +kernel
theorem dX13_judge_184 : decode cX13_judge 184 = .ok (.if_icmp .ne 8, 3) := by decide +kernel
theorem dX13_judge_187 : decode cX13_judge 187 = .ok (.aload_n 0, 1) := by decide +kernel
theorem dX13_judge_188 : decode cX13_judge 188 = .ok (.iload_n 2, 1) := by decide +kernel
theorem dX13_judge_189 : decode cX13_judge 189 = .ok (.invokevirtual 248, 3) := by decide +kernel
theorem dX13_judge_192 : decode cX13_judge 192 = .ok (.iinc 2 1, 3) := by decide +kernel
theorem dX13_judge_195 : decode cX13_judge 195 = .ok (.goto (-41), 3) := by decide +kernel
theorem dX13_judge_198 : decode cX13_judge 198 = .ok (.iinc 1 1, 3) := by decide +kernel
theorem dX13_judge_201 : decode cX13_judge 201 = .ok (.goto (-55), 3) := by decide +kernel
theorem dX13_judge_204 : decode cX13_judge 204 = .ok (.return_, 1) := by decide +kernel
theorem dX13_judgeOne_0 : decode cX13_judgeOne 0 = .ok (.iconst 0, 1) := by decide +kernel
theorem dX13_judgeOne_1 : decode cX13_judgeOne 1 = .ok (.istore_n 2, 1) := by decide +kernel
theorem dX13_judgeOne_2 : decode cX13_judgeOne 2 = .ok (.iload_n 2, 1) := by decide +kernel
theorem dX13_judgeOne_3 : decode cX13_judgeOne 3 = .ok (.aload_n 0, 1) := by decide +kernel
theorem dX13_judgeOne_4 : decode cX13_judgeOne 4 = .ok (.getfield 153, 3) := by decide +kernel
theorem dX13_judgeOne_7 : decode cX13_judgeOne 7 = .ok (.if_icmp .ge 44, 3) := by decide +kernel
theorem dX13_judgeOne_10 : decode cX13_judgeOne 10 = .ok (.aload_n 0, 1) := by decide +kernel
theorem dX13_judgeOne_11 : decode cX13_judgeOne 11 = .ok (.getfield 114, 3) := by decide +kernel
theorem dX13_judgeOne_14 : decode cX13_judgeOne 14 = .ok (.iload_n 1, 1) := by decide +kernel
theorem dX13_judgeOne_15 : decode cX13_judgeOne 15 = .ok (.iaload, 1) := by decide +kernel
theorem dX13_judgeOne_16 : decode cX13_judgeOne 16 = .ok (.iconst (-1), 1) := by decide +kernel
theorem dX13_judgeOne_17 : decode cX13_judgeOne 17 = .ok (.if_icmp .ne 34, 3) := by decide +kernel
theorem dX13_judgeOne_20 : decode cX13_judgeOne 20 = .ok (.aload_n 0, 1) := by decide +kernel
theorem dX13_judgeOne_21 : decode cX13_judgeOne 21 = .ok (.getfield 111, 3) := by decide +kernel
theorem dX13_judgeOne_24 : decode cX13_judgeOne 24 = .ok (.iload_n 2, 1) := by decide +kernel
theorem dX13_judgeOne_25 : decode cX13_judgeOne 25 = .ok (.iaload, 1) := by decide +kernel
theorem dX13_judgeOne_26 : decode cX13_judgeOne 26 = .ok (.ifCond .ne 19, 3) := by decide +kernel
theorem dX13_judgeOne_29 : decode cX13_judgeOne 29 = .ok (.aload_n 0, 1) := by decide +kernel
theorem dX13_judgeOne_30 : decode cX13_judgeOne 30 = .ok (.iload_n 1, 1) := by decide +kernel
theorem dX13_judgeOne_31 : decode cX13_judgeOne 31 = .ok (.iload_n 2, 1) := by decide +kernel
theorem dX13_judgeOne_32 : decode cX13_judgeOne 32 = .ok (.invokevirtual 245, 3) := by decide +kernel
theorem dX13_judgeOne_35 : decode cX13_judgeOne 35 = .ok (.ifCond .eq 10, 3) := by decide +kernel
theorem dX13_judgeOne_38 : decode cX13_judgeOne 38 = .ok (.aload_n 0, 1) := by decide +kernel
theorem dX13_judgeOne_39 : decode cX13_judgeOne 39 = .ok (.getfield 114, 3) := by decide +kernel
theorem dX13_judgeOne_42 : decode cX13_judgeOne 42 = .ok (.iload_n 1, 1) := by decide +kernel
theorem dX13_judgeOne_43 : decode cX13_judgeOne 43 = .ok (.iload_n 2, 1) := by decide +kernel
theorem dX13_judgeOne_44 : decode cX13_judgeOne 44 = .ok (.iastore, 1) := by decide +kernel
theorem dX13_judgeOne_45 : decode cX13_judgeOne 45 = .ok (.iinc 2 1, 3) := by decide +kernel
theorem dX13_judgeOne_48 : decode cX13_judgeOne 48 = .ok (.goto (-46), 3) := by decide +kernel
theorem dX13_judgeOne_51 : decode cX13_judgeOne 51 = .ok (.aload_n 0, 1) := by decide +kernel
theorem dX13_judgeOne_52 : decode cX13_judgeOne 52 = .ok (.getfield 114, 3) := by decide +kernel
theorem dX13_judgeOne_55 : decode cX13_judgeOne 55 = .ok (.iload_n 1, 1) := by decide +kernel
theorem dX13_judgeOne_56 : decode cX13_judgeOne 56 = .ok (.iaload, 1) := by decide +kernel
theorem dX13_judgeOne_57 : decode cX13_judgeOne 57 = .ok (.iconst (-1), 1) := by decide +kernel
theorem dX13_judgeOne_58 : decode cX13_judgeOne 58 = .ok (.if_icmp .ne 10, 3) := by decide +kernel
theorem dX13_judgeOne_61 : decode cX13_judgeOne 61 = .ok (.aload_n 0, 1) := by decide +kernel
theorem dX13_judgeOne_62 : decode cX13_judgeOne 62 = .ok (.getfield 111, 3) := by decide +kernel
theorem dX13_judgeOne_65 : decode cX13_judgeOne 65 = .ok (.iload_n 1, 1) := by decide +kernel
theorem dX13_judgeOne_66 : decode cX13_judgeOne 66 = .ok (.iconst 0, 1) := by decide +kernel
theorem dX13_judgeOne_67 : decode cX13_judgeOne 67 = .ok (.iastore, 1) := by decide +kernel
theorem dX13_judgeOne_68 : decode cX13_judgeOne 68 = .ok (.return_, 1) := by decide +kernel
theorem dX13_mark_0 : decode cX13_mark 0 = .ok (.aload_n 0, 1) := by decide +kernel
theorem dX13_mark_1 : decode cX13_mark 1 = .ok (.iload_n 1, 1) := by decide +kernel
theorem dX13_mark_2 : decode cX13_mark 2 = .ok (.invokevirtual 242, 3) := by decide +kernel
theorem dX13_mark_5 : decode cX13_mark 5 = .ok (.ifCond .ne 6, 3) := by decide +kernel
theorem dX13_mark_8 : decode cX13_mark 8 = .ok (.bipush (-9), 2) := by decide +kernel
theorem dX13_mark_10 : decode cX13_mark 10 = .ok (.ireturn, 1) := by decide +kernel
theorem dX13_mark_11 : decode cX13_mark 11 = .ok (.iload_n 2, 1) := by decide +kernel
theorem dX13_mark_12 : decode cX13_mark 12 = .ok (.i2l, 1) := by decide +kernel
theorem dX13_mark_13 : decode cX13_mark 13 = .ok (.ldc2_w 251, 3) := by decide +kernel
theorem dX13_mark_16 : decode cX13_mark 16 = .ok (.ldc2_w 253, 3) := by decide +kernel
theorem dX13_mark_19 : decode cX13_mark 19 = .ok (.aload_n 0, 1) := by decide +kernel
theorem dX13_mark_20 : decode cX13_mark 20 = .ok (.getfield 86, 3) := by decide +kernel
theorem dX13_mark_23 : decode cX13_mark 23 = .ok (.iload_n 1, 1) := by decide +kernel
theorem dX13_mark_24 : decode cX13_mark 24 = .ok (.iaload, 1) := by decide +kernel
theorem dX13_mark_25 : decode cX13_mark 25 = .ok (.i2l, 1) := by decide +kernel
theorem dX13_mark_26 : decode cX13_mark 26 = .ok (.ladd, 1) := by decide +kernel
theorem dX13_mark_27 : decode cX13_mark 27 = .ok (.invokestatic 140, 3) := by decide +kernel
theorem dX13_mark_30 : decode cX13_mark 30 = .ok (.ifCond .eq 19, 3) := by decide +kernel
theorem dX13_mark_33 : decode cX13_mark 33 = .ok (.aload_n 0, 1) := by decide +kernel
theorem dX13_mark_34 : decode cX13_mark 34 = .ok (.getfield 92, 3) := by decide +kernel
theorem dX13_mark_37 : decode cX13_mark 37 = .ok (.bipush 6, 2) := by decide +kernel
theorem dX13_mark_39 : decode cX13_mark 39 = .ok (.iload_n 1, 1) := by decide +kernel
theorem dX13_mark_40 : decode cX13_mark 40 = .ok (.imul, 1) := by decide +kernel
theorem dX13_mark_41 : decode cX13_mark 41 = .ok (.iload_n 2, 1) := by decide +kernel
theorem dX13_mark_42 : decode cX13_mark 42 = .ok (.iadd, 1) := by decide +kernel
theorem dX13_mark_43 : decode cX13_mark 43 = .ok (.bipush 10, 2) := by decide +kernel
theorem dX13_mark_45 : decode cX13_mark 45 = .ok (.isub, 1) := by decide +kernel
theorem dX13_mark_46 : decode cX13_mark 46 = .ok (.laload, 1) := by decide +kernel
theorem dX13_mark_47 : decode cX13_mark 47 = .ok (.l2i, 1) := by decide +kernel
theorem dX13_mark_48 : decode cX13_mark 48 = .ok (.ireturn, 1) := by decide +kernel
theorem dX13_mark_49 : decode cX13_mark 49 = .ok (.aload_n 0, 1) := by decide +kernel
theorem dX13_mark_50 : decode cX13_mark 50 = .ok (.invokevirtual 255, 3) := by decide +kernel
theorem dX13_mark_53 : decode cX13_mark 53 = .ok (.iload_n 2, 1) := by decide +kernel
theorem dX13_mark_54 : decode cX13_mark 54 = .ok (.tableswitch 121 0 8 #[50, 57, 64, 71, 78, 85, 92, 99, 106], 50) := by decide +kernel
theorem dX13_mark_104 : decode cX13_mark 104 = .ok (.aload_n 0, 1) := by decide +kernel
theorem dX13_mark_105 : decode cX13_mark 105 = .ok (.getfield 70, 3) := by decide +kernel
theorem dX13_mark_108 : decode cX13_mark 108 = .ok (.iload_n 1, 1) := by decide +kernel
theorem dX13_mark_109 : decode cX13_mark 109 = .ok (.iaload, 1) := by decide +kernel
theorem dX13_mark_110 : decode cX13_mark 110 = .ok (.ireturn, 1) := by decide +kernel
theorem dX13_mark_111 : decode cX13_mark 111 = .ok (.aload_n 0, 1) := by decide +kernel
theorem dX13_mark_112 : decode cX13_mark 112 = .ok (.getfield 74, 3) := by decide +kernel
theorem dX13_mark_115 : decode cX13_mark 115 = .ok (.iload_n 1, 1) := by decide +kernel
theorem dX13_mark_116 : decode cX13_mark 116 = .ok (.iaload, 1) := by decide +kernel
theorem dX13_mark_117 : decode cX13_mark 117 = .ok (.ireturn, 1) := by decide +kernel
theorem dX13_mark_118 : decode cX13_mark 118 = .ok (.aload_n 0, 1) := by decide +kernel
theorem dX13_mark_119 : decode cX13_mark 119 = .ok (.getfield 77, 3) := by decide +kernel
theorem dX13_mark_122 : decode cX13_mark 122 = .ok (.iload_n 1, 1) := by decide +kernel
theorem dX13_mark_123 : decode cX13_mark 123 = .ok (.iaload, 1) := by decide +kernel
theorem dX13_mark_124 : decode cX13_mark 124 = .ok (.ireturn, 1) := by decide +kernel
theorem dX13_mark_125 : decode cX13_mark 125 = .ok (.aload_n 0, 1) := by decide +kernel
theorem dX13_mark_126 : decode cX13_mark 126 = .ok (.getfield 80, 3) := by decide +kernel
theorem dX13_mark_129 : decode cX13_mark 129 = .ok (.iload_n 1, 1) := by decide +kernel
theorem dX13_mark_130 : decode cX13_mark 130 = .ok (.iaload, 1) := by decide +kernel
theorem dX13_mark_131 : decode cX13_mark 131 = .ok (.ireturn, 1) := by decide +kernel
theorem dX13_mark_132 : decode cX13_mark 132 = .ok (.aload_n 0, 1) := by decide +kernel
theorem dX13_mark_133 : decode cX13_mark 133 = .ok (.getfield 83, 3) := by decide +kernel
theorem dX13_mark_136 : decode cX13_mark 136 = .ok (.iload_n 1, 1) := by decide +kernel
theorem dX13_mark_137 : decode cX13_mark 137 = .ok (.iaload, 1) := by decide +kernel
theorem dX13_mark_138 : decode cX13_mark 138 = .ok (.ireturn, 1) := by decide +kernel
theorem dX13_mark_139 : decode cX13_mark 139 = .ok (.aload_n 0, 1) := by decide +kernel
theorem dX13_mark_140 : decode cX13_mark 140 = .ok (.getfield 86, 3) := by decide +kernel
theorem dX13_mark_143 : decode cX13_mark 143 = .ok (.iload_n 1, 1) := by decide +kernel
theorem dX13_mark_144 : decode cX13_mark 144 = .ok (.iaload, 1) := by decide +kernel
theorem dX13_mark_145 : decode cX13_mark 145 = .ok (.ireturn, 1) := by decide +kernel
theorem dX13_mark_146 : decode cX13_mark 146 = .ok (.aload_n 0, 1) := by decide +kernel
theorem dX13_mark_147 : decode cX13_mark 147 = .ok (.getfield 111, 3) := by decide +kernel
theorem dX13_mark_150 : decode cX13_mark 150 = .ok (.iload_n 1, 1) := by decide +kernel
theorem dX13_mark_151 : decode cX13_mark 151 = .ok (.iaload, 1) := by decide +kernel
theorem dX13_mark_152 : decode cX13_mark 152 = .ok (.ireturn, 1) := by decide +kernel
theorem dX13_mark_153 : decode cX13_mark 153 = .ok (.aload_n 0, 1) := by decide +kernel
theorem dX13_mark_154 : decode cX13_mark 154 = .ok (.getfield 114, 3) := by decide +kernel
theorem dX13_mark_157 : decode cX13_mark 157 = .ok (.iload_n 1, 1) := by decide +kernel
theorem dX13_mark_158 : decode cX13_mark 158 = .ok (.iaload, 1) := by decide +kernel
theorem dX13_mark_159 : decode cX13_mark 159 = .ok (.ireturn, 1) := by decide +kernel
theorem dX13_mark_160 : decode cX13_mark 160 = .ok (.aload_n 0, 1) := by decide +kernel
theorem dX13_mark_161 : decode cX13_mark 161 = .ok (.getfield 99, 3) := by decide +kernel
theorem dX13_mark_164 : decode cX13_mark 164 = .ok (.iload_n 1, 1) := by decide +kernel
theorem dX13_mark_165 : decode cX13_mark 165 = .ok (.baload, 1) := by decide +kernel
theorem dX13_mark_166 : decode cX13_mark 166 = .ok (.ifCond .eq 7, 3) := by decide +kernel
theorem dX13_mark_169 : decode cX13_mark 169 = .ok (.iconst 1, 1) := by decide +kernel
theorem dX13_mark_170 : decode cX13_mark 170 = .ok (.goto 4, 3) := by decide +kernel
theorem dX13_mark_173 : decode cX13_mark 173 = .ok (.iconst 0, 1) := by decide +kernel
theorem dX13_mark_174 : decode cX13_mark 174 = .ok (.ireturn, 1) := by decide +kernel
theorem dX13_mark_175 : decode cX13_mark 175 = .ok (.bipush (-9), 2) := by decide +kernel
theorem dX13_mark_177 : decode cX13_mark 177 = .ok (.ireturn, 1) := by decide +kernel
theorem dX13_answer_0 : decode cX13_answer 0 = .ok (.aload_n 0, 1) := by decide +kernel
theorem dX13_answer_1 : decode cX13_answer 1 = .ok (.iload_n 1, 1) := by decide +kernel
theorem dX13_answer_2 : decode cX13_answer 2 = .ok (.invokevirtual 242, 3) := by decide +kernel
theorem dX13_answer_5 : decode cX13_answer 5 = .ok (.ifCond .ne 6, 3) := by decide +kernel
theorem dX13_answer_8 : decode cX13_answer 8 = .ok (.bipush (-2), 2) := by decide +kernel
theorem dX13_answer_10 : decode cX13_answer 10 = .ok (.ireturn, 1) := by decide +kernel
theorem dX13_answer_11 : decode cX13_answer 11 = .ok (.aload_n 0, 1) := by decide +kernel
theorem dX13_answer_12 : decode cX13_answer 12 = .ok (.invokevirtual 255, 3) := by decide +kernel
theorem dX13_answer_15 : decode cX13_answer 15 = .ok (.aload_n 0, 1) := by decide +kernel
theorem dX13_answer_16 : decode cX13_answer 16 = .ok (.getfield 111, 3) := by decide +kernel
theorem dX13_answer_19 : decode cX13_answer 19 = .ok (.iload_n 1, 1) := by decide +kernel
theorem dX13_answer_20 : decode cX13_answer 20 = .ok (.iaload, 1) := by decide +kernel
theorem dX13_answer_21 : decode cX13_answer 21 = .ok (.iconst 3, 1) := by decide +kernel
theorem dX13_answer_22 : decode cX13_answer 22 = .ok (.if_icmp .eq 6, 3) := by decide +kernel
theorem dX13_answer_25 : decode cX13_answer 25 = .ok (.bipush (-4), 2) := by decide +kernel
theorem dX13_answer_27 : decode cX13_answer 27 = .ok (.ireturn, 1) := by decide +kernel
theorem dX13_answer_28 : decode cX13_answer 28 = .ok (.aload_n 0, 1) := by decide +kernel
theorem dX13_answer_29 : decode cX13_answer 29 = .ok (.getfield 89, 3) := by decide +kernel
theorem dX13_answer_32 : decode cX13_answer 32 = .ok (.iload_n 1, 1) := by decide +kernel
theorem dX13_answer_33 : decode cX13_answer 33 = .ok (.iload_n 2, 1) := by decide +kernel
theorem dX13_answer_34 : decode cX13_answer 34 = .ok (.ifCond .eq 7, 3) := by decide +kernel
theorem dX13_answer_37 : decode cX13_answer 37 = .ok (.iconst 1, 1) := by decide +kernel
theorem dX13_answer_38 : decode cX13_answer 38 = .ok (.goto 4, 3) := by decide +kernel
theorem dX13_answer_41 : decode cX13_answer 41 = .ok (.iconst 2, 1) := by decide +kernel
theorem dX13_answer_42 : decode cX13_answer 42 = .ok (.iastore, 1) := by decide +kernel
theorem dX13_answer_43 : decode cX13_answer 43 = .ok (.iconst 1, 1) := by decide +kernel
theorem dX13_answer_44 : decode cX13_answer 44 = .ok (.ireturn, 1) := by decide +kernel
theorem dX13_rank_0 : decode cX13_rank 0 = .ok (.iload_n 1, 1) := by decide +kernel
theorem dX13_rank_1 : decode cX13_rank 1 = .ok (.i2l, 1) := by decide +kernel
theorem dX13_rank_2 : decode cX13_rank 2 = .ok (.lconst 0, 1) := by decide +kernel
theorem dX13_rank_3 : decode cX13_rank 3 = .ok (.ldc2_w 258, 3) := by decide +kernel
theorem dX13_rank_6 : decode cX13_rank 6 = .ok (.invokestatic 140, 3) := by decide +kernel
theorem dX13_rank_9 : decode cX13_rank 9 = .ok (.ifCond .eq 15, 3) := by decide +kernel
theorem dX13_rank_12 : decode cX13_rank 12 = .ok (.iload_n 2, 1) := by decide +kernel
theorem dX13_rank_13 : decode cX13_rank 13 = .ok (.i2l, 1) := by decide +kernel
theorem dX13_rank_14 : decode cX13_rank 14 = .ok (.lconst 0, 1) := by decide +kernel
theorem dX13_rank_15 : decode cX13_rank 15 = .ok (.ldc2_w 253, 3) := by decide +kernel
theorem dX13_rank_18 : decode cX13_rank 18 = .ok (.invokestatic 140, 3) := by decide +kernel
theorem dX13_rank_21 : decode cX13_rank 21 = .ok (.ifCond .ne 6, 3) := by decide +kernel
theorem dX13_rank_24 : decode cX13_rank 24 = .ok (.bipush (-2), 2) := by decide +kernel
theorem dX13_rank_26 : decode cX13_rank 26 = .ok (.ireturn, 1) := by decide +kernel
theorem dX13_rank_27 : decode cX13_rank 27 = .ok (.aload_n 0, 1) := by decide +kernel
theorem dX13_rank_28 : decode cX13_rank 28 = .ok (.getfield 102, 3) := by decide +kernel
theorem dX13_rank_31 : decode cX13_rank 31 = .ok (.iload_n 1, 1) := by decide +kernel
theorem dX13_rank_32 : decode cX13_rank 32 = .ok (.iaload, 1) := by decide +kernel
theorem dX13_rank_33 : decode cX13_rank 33 = .ok (.istore_n 3, 1) := by decide +kernel
theorem dX13_rank_34 : decode cX13_rank 34 = .ok (.aload_n 0, 1) := by decide +kernel
theorem dX13_rank_35 : decode cX13_rank 35 = .ok (.getfield 102, 3) := by decide +kernel
theorem dX13_rank_38 : decode cX13_rank 38 = .ok (.iload_n 1, 1) := by decide +kernel
theorem dX13_rank_39 : decode cX13_rank 39 = .ok (.iload_n 2, 1) := by decide +kernel
theorem dX13_rank_40 : decode cX13_rank 40 = .ok (.iastore, 1) := by decide +kernel
theorem dX13_rank_41 : decode cX13_rank 41 = .ok (.iload_n 3, 1) := by decide +kernel
theorem dX13_rank_42 : decode cX13_rank 42 = .ok (.ireturn, 1) := by decide +kernel
theorem dX13_use_0 : decode cX13_use 0 = .ok (.aload_n 0, 1) := by decide +kernel
theorem dX13_use_1 : decode cX13_use 1 = .ok (.invokevirtual 255, 3) := by decide +kernel
theorem dX13_use_4 : decode cX13_use 4 = .ok (.iconst 0, 1) := by decide +kernel
theorem dX13_use_5 : decode cX13_use 5 = .ok (.istore_n 2, 1) := by decide +kernel
theorem dX13_use_6 : decode cX13_use 6 = .ok (.iconst 0, 1) := by decide +kernel
theorem dX13_use_7 : decode cX13_use 7 = .ok (.istore_n 3, 1) := by decide +kernel
theorem dX13_use_8 : decode cX13_use 8 = .ok (.iload_n 3, 1) := by decide +kernel
theorem dX13_use_9 : decode cX13_use 9 = .ok (.aload_n 0, 1) := by decide +kernel
theorem dX13_use_10 : decode cX13_use 10 = .ok (.getfield 153, 3) := by decide +kernel
theorem dX13_use_13 : decode cX13_use 13 = .ok (.if_icmp .ge 66, 3) := by decide +kernel
theorem dX13_use_16 : decode cX13_use 16 = .ok (.aload_n 0, 1) := by decide +kernel
theorem dX13_use_17 : decode cX13_use 17 = .ok (.getfield 117, 3) := by decide +kernel
theorem dX13_use_20 : decode cX13_use 20 = .ok (.iload_n 3, 1) := by decide +kernel
theorem dX13_use_21 : decode cX13_use 21 = .ok (.aload_n 0, 1) := by decide +kernel
theorem dX13_use_22 : decode cX13_use 22 = .ok (.getfield 111, 3) := by decide +kernel
theorem dX13_use_25 : decode cX13_use 25 = .ok (.iload_n 3, 1) := by decide +kernel
theorem dX13_use_26 : decode cX13_use 26 = .ok (.iaload, 1) := by decide +kernel
theorem dX13_use_27 : decode cX13_use 27 = .ok (.ifCond .ne 7, 3) := by decide +kernel
theorem dX13_use_30 : decode cX13_use 30 = .ok (.iconst 1, 1) := by decide +kernel
theorem dX13_use_31 : decode cX13_use 31 = .ok (.goto 4, 3) := by decide +kernel
theorem dX13_use_34 : decode cX13_use 34 = .ok (.iconst 0, 1) := by decide +kernel
theorem dX13_use_35 : decode cX13_use 35 = .ok (.bastore, 1) := by decide +kernel
theorem dX13_use_36 : decode cX13_use 36 = .ok (.aload_n 0, 1) := by decide +kernel
theorem dX13_use_37 : decode cX13_use 37 = .ok (.getfield 117, 3) := by decide +kernel
theorem dX13_use_40 : decode cX13_use 40 = .ok (.iload_n 3, 1) := by decide +kernel
theorem dX13_use_41 : decode cX13_use 41 = .ok (.baload, 1) := by decide +kernel
theorem dX13_use_42 : decode cX13_use 42 = .ok (.ifCond .ne 6, 3) := by decide +kernel
theorem dX13_use_45 : decode cX13_use 45 = .ok (.goto 28, 3) := by decide +kernel
theorem dX13_use_48 : decode cX13_use 48 = .ok (.iload_n 2, 1) := by decide +kernel
theorem dX13_use_49 : decode cX13_use 49 = .ok (.bipush 31, 2) := by decide +kernel
theorem dX13_use_51 : decode cX13_use 51 = .ok (.if_icmp .ge 19, 3) := by decide +kernel
theorem dX13_use_54 : decode cX13_use 54 = .ok (.iload_n 1, 1) := by decide +kernel
theorem dX13_use_55 : decode cX13_use 55 = .ok (.iload_n 2, 1) := by decide +kernel
theorem dX13_use_56 : decode cX13_use 56 = .ok (.ishr, 1) := by decide +kernel
theorem dX13_use_57 : decode cX13_use 57 = .ok (.iconst 1, 1) := by decide +kernel
theorem dX13_use_58 : decode cX13_use 58 = .ok (.iand, 1) := by decide +kernel
theorem dX13_use_59 : decode cX13_use 59 = .ok (.iconst 1, 1) := by decide +kernel
theorem dX13_use_60 : decode cX13_use 60 = .ok (.if_icmp .ne 10, 3) := by decide +kernel
theorem dX13_use_63 : decode cX13_use 63 = .ok (.aload_n 0, 1) := by decide +kernel
theorem dX13_use_64 : decode cX13_use 64 = .ok (.getfield 117, 3) := by decide +kernel
theorem dX13_use_67 : decode cX13_use 67 = .ok (.iload_n 3, 1) := by decide +kernel
theorem dX13_use_68 : decode cX13_use 68 = .ok (.iconst 0, 1) := by decide +kernel
theorem dX13_use_69 : decode cX13_use 69 = .ok (.bastore, 1) := by decide +kernel
theorem dX13_use_70 : decode cX13_use 70 = .ok (.iinc 2 1, 3) := by decide +kernel
theorem dX13_use_73 : decode cX13_use 73 = .ok (.iinc 3 1, 3) := by decide +kernel
theorem dX13_use_76 : decode cX13_use 76 = .ok (.goto (-68), 3) := by decide +kernel
theorem dX13_use_79 : decode cX13_use 79 = .ok (.return_, 1) := by decide +kernel
theorem dX13_innermost_0 : decode cX13_innermost 0 = .ok (.iconst (-1), 1) := by decide +kernel
theorem dX13_innermost_1 : decode cX13_innermost 1 = .ok (.istore_n 3, 1) := by decide +kernel
theorem dX13_innermost_2 : decode cX13_innermost 2 = .ok (.iconst 0, 1) := by decide +kernel
theorem dX13_innermost_3 : decode cX13_innermost 3 = .ok (.istore 4, 2) := by decide +kernel
theorem dX13_innermost_5 : decode cX13_innermost 5 = .ok (.iload 4, 2) := by decide +kernel
theorem dX13_innermost_7 : decode cX13_innermost 7 = .ok (.aload_n 0, 1) := by decide +kernel
theorem dX13_innermost_8 : decode cX13_innermost 8 = .ok (.getfield 153, 3) := by decide +kernel
theorem dX13_innermost_11 : decode cX13_innermost 11 = .ok (.if_icmp .ge 106, 3) := by decide +kernel
theorem dX13_innermost_14 : decode cX13_innermost 14 = .ok (.aload_n 0, 1) := by decide +kernel
theorem dX13_innermost_15 : decode cX13_innermost 15 = .ok (.getfield 117, 3) := by decide +kernel
theorem dX13_innermost_18 : decode cX13_innermost 18 = .ok (.iload 4, 2) := by decide +kernel
theorem dX13_innermost_20 : decode cX13_innermost 20 = .ok (.baload, 1) := by decide +kernel
theorem dX13_innermost_21 : decode cX13_innermost 21 = .ok (.ifCond .eq 90, 3) := by decide +kernel
theorem dX13_innermost_24 : decode cX13_innermost 24 = .ok (.aload_n 0, 1) := by decide +kernel
theorem dX13_innermost_25 : decode cX13_innermost 25 = .ok (.getfield 70, 3) := by decide +kernel
theorem dX13_innermost_28 : decode cX13_innermost 28 = .ok (.iload 4, 2) := by decide +kernel
theorem dX13_innermost_30 : decode cX13_innermost 30 = .ok (.iaload, 1) := by decide +kernel
theorem dX13_innermost_31 : decode cX13_innermost 31 = .ok (.iconst 4, 1) := by decide +kernel
theorem dX13_innermost_32 : decode cX13_innermost 32 = .ok (.if_icmp .ne 79, 3) := by decide +kernel
theorem dX13_innermost_35 : decode cX13_innermost 35 = .ok (.iload_n 1, 1) := by decide +kernel
theorem dX13_innermost_36 : decode cX13_innermost 36 = .ok (.i2l, 1) := by decide +kernel
theorem dX13_innermost_37 : decode cX13_innermost 37 = .ok (.aload_n 0, 1) := by decide +kernel
theorem dX13_innermost_38 : decode cX13_innermost 38 = .ok (.getfield 77, 3) := by decide +kernel
theorem dX13_innermost_41 : decode cX13_innermost 41 = .ok (.iload 4, 2) := by decide +kernel
theorem dX13_innermost_43 : decode cX13_innermost 43 = .ok (.iaload, 1) := by decide +kernel
theorem dX13_innermost_44 : decode cX13_innermost 44 = .ok (.i2l, 1) := by decide +kernel
theorem dX13_innermost_45 : decode cX13_innermost 45 = .ok (.iload_n 2, 1) := by decide +kernel
theorem dX13_innermost_46 : decode cX13_innermost 46 = .ok (.ifCond .eq 7, 3) := by decide +kernel
theorem dX13_innermost_49 : decode cX13_innermost 49 = .ok (.lconst 1, 1) := by decide +kernel
theorem dX13_innermost_50 : decode cX13_innermost 50 = .ok (.goto 4, 3) := by decide +kernel
theorem dX13_innermost_53 : decode cX13_innermost 53 = .ok (.lconst 0, 1) := by decide +kernel
theorem dX13_innermost_54 : decode cX13_innermost 54 = .ok (.ladd, 1) := by decide +kernel
theorem dX13_innermost_55 : decode cX13_innermost 55 = .ok (.aload_n 0, 1) := by decide +kernel
theorem dX13_innermost_56 : decode cX13_innermost 56 = .ok (.getfield 80, 3) := by decide +kernel
theorem dX13_innermost_59 : decode cX13_innermost 59 = .ok (.iload 4, 2) := by decide +kernel
theorem dX13_innermost_61 : decode cX13_innermost 61 = .ok (.iaload, 1) := by decide +kernel
theorem dX13_innermost_62 : decode cX13_innermost 62 = .ok (.i2l, 1) := by decide +kernel
theorem dX13_innermost_63 : decode cX13_innermost 63 = .ok (.invokestatic 140, 3) := by decide +kernel
theorem dX13_innermost_66 : decode cX13_innermost 66 = .ok (.ifCond .ne 6, 3) := by decide +kernel
theorem dX13_innermost_69 : decode cX13_innermost 69 = .ok (.goto 42, 3) := by decide +kernel
theorem dX13_innermost_72 : decode cX13_innermost 72 = .ok (.iload_n 3, 1) := by decide +kernel
theorem dX13_innermost_73 : decode cX13_innermost 73 = .ok (.iconst (-1), 1) := by decide +kernel
theorem dX13_innermost_74 : decode cX13_innermost 74 = .ok (.if_icmp .eq 34, 3) := by decide +kernel
theorem dX13_innermost_77 : decode cX13_innermost 77 = .ok (.aload_n 0, 1) := by decide +kernel
theorem dX13_innermost_78 : decode cX13_innermost 78 = .ok (.getfield 80, 3) := by decide +kernel
theorem dX13_innermost_81 : decode cX13_innermost 81 = .ok (.iload 4, 2) := by decide +kernel
theorem dX13_innermost_83 : decode cX13_innermost 83 = .ok (.iaload, 1) := by decide +kernel
theorem dX13_innermost_84 : decode cX13_innermost 84 = .ok (.aload_n 0, 1) := by decide +kernel
theorem dX13_innermost_85 : decode cX13_innermost 85 = .ok (.getfield 77, 3) := by decide +kernel
theorem dX13_innermost_88 : decode cX13_innermost 88 = .ok (.iload 4, 2) := by decide +kernel
theorem dX13_innermost_90 : decode cX13_innermost 90 = .ok (.iaload, 1) := by decide +kernel
theorem dX13_innermost_91 : decode cX13_innermost 91 = .ok (.isub, 1) := by decide +kernel
theorem dX13_innermost_92 : decode cX13_innermost 92 = .ok (.aload_n 0, 1) := by decide +kernel
theorem dX13_innermost_93 : decode cX13_innermost 93 = .ok (.getfield 80, 3) := by decide +kernel
theorem dX13_innermost_96 : decode cX13_innermost 96 = .ok (.iload_n 3, 1) := by decide +kernel
theorem dX13_innermost_97 : decode cX13_innermost 97 = .ok (.iaload, 1) := by decide +kernel
theorem dX13_innermost_98 : decode cX13_innermost 98 = .ok (.aload_n 0, 1) := by decide +kernel
theorem dX13_innermost_99 : decode cX13_innermost 99 = .ok (.getfield 77, 3) := by decide +kernel
theorem dX13_innermost_102 : decode cX13_innermost 102 = .ok (.iload_n 3, 1) := by decide +kernel
theorem dX13_innermost_103 : decode cX13_innermost 103 = .ok (.iaload, 1) := by decide +kernel
theorem dX13_innermost_104 : decode cX13_innermost 104 = .ok (.isub, 1) := by decide +kernel
theorem dX13_innermost_105 : decode cX13_innermost 105 = .ok (.if_icmp .ge 6, 3) := by decide +kernel
theorem dX13_innermost_108 : decode cX13_innermost 108 = .ok (.iload 4, 2) := by decide +kernel
theorem dX13_innermost_110 : decode cX13_innermost 110 = .ok (.istore_n 3, 1) := by decide +kernel
theorem dX13_innermost_111 : decode cX13_innermost 111 = .ok (.iinc 4 1, 3) := by decide +kernel
theorem dX13_innermost_114 : decode cX13_innermost 114 = .ok (.goto (-109), 3) := by decide +kernel
theorem dX13_innermost_117 : decode cX13_innermost 117 = .ok (.iload_n 3, 1) := by decide +kernel
theorem dX13_innermost_118 : decode cX13_innermost 118 = .ok (.ireturn, 1) := by decide +kernel
theorem dX13_moveOf_0 : decode cX13_moveOf 0 = .ok (.iconst (-1), 1) := by decide +kernel
theorem dX13_moveOf_1 : decode cX13_moveOf 1 = .ok (.istore_n 2, 1) := by decide +kernel
theorem dX13_moveOf_2 : decode cX13_moveOf 2 = .ok (.iconst 0, 1) := by decide +kernel
theorem dX13_moveOf_3 : decode cX13_moveOf 3 = .ok (.istore_n 3, 1) := by decide +kernel
theorem dX13_moveOf_4 : decode cX13_moveOf 4 = .ok (.iload_n 3, 1) := by decide +kernel
theorem dX13_moveOf_5 : decode cX13_moveOf 5 = .ok (.aload_n 0, 1) := by decide +kernel
theorem dX13_moveOf_6 : decode cX13_moveOf 6 = .ok (.getfield 153, 3) := by decide +kernel
theorem dX13_moveOf_9 : decode cX13_moveOf 9 = .ok (.if_icmp .ge 97, 3) := by decide +kernel
theorem dX13_moveOf_12 : decode cX13_moveOf 12 = .ok (.aload_n 0, 1) := by decide +kernel
theorem dX13_moveOf_13 : decode cX13_moveOf 13 = .ok (.getfield 117, 3) := by decide +kernel
theorem dX13_moveOf_16 : decode cX13_moveOf 16 = .ok (.iload_n 3, 1) := by decide +kernel
theorem dX13_moveOf_17 : decode cX13_moveOf 17 = .ok (.baload, 1) := by decide +kernel
theorem dX13_moveOf_18 : decode cX13_moveOf 18 = .ok (.ifCond .eq 82, 3) := by decide +kernel
theorem dX13_moveOf_21 : decode cX13_moveOf 21 = .ok (.aload_n 0, 1) := by decide +kernel
theorem dX13_moveOf_22 : decode cX13_moveOf 22 = .ok (.getfield 70, 3) := by decide +kernel
theorem dX13_moveOf_25 : decode cX13_moveOf 25 = .ok (.iload_n 3, 1) := by decide +kernel
theorem dX13_moveOf_26 : decode cX13_moveOf 26 = .ok (.iaload, 1) := by decide +kernel
theorem dX13_moveOf_27 : decode cX13_moveOf 27 = .ok (.iconst 4, 1) := by decide +kernel
theorem dX13_moveOf_28 : decode cX13_moveOf 28 = .ok (.if_icmp .ne 72, 3) := by decide +kernel
theorem dX13_moveOf_31 : decode cX13_moveOf 31 = .ok (.aload_n 0, 1) := by decide +kernel
theorem dX13_moveOf_32 : decode cX13_moveOf 32 = .ok (.getfield 77, 3) := by decide +kernel
theorem dX13_moveOf_35 : decode cX13_moveOf 35 = .ok (.iload_n 1, 1) := by decide +kernel
theorem dX13_moveOf_36 : decode cX13_moveOf 36 = .ok (.iaload, 1) := by decide +kernel
theorem dX13_moveOf_37 : decode cX13_moveOf 37 = .ok (.aload_n 0, 1) := by decide +kernel
theorem dX13_moveOf_38 : decode cX13_moveOf 38 = .ok (.getfield 77, 3) := by decide +kernel
theorem dX13_moveOf_41 : decode cX13_moveOf 41 = .ok (.iload_n 3, 1) := by decide +kernel
theorem dX13_moveOf_42 : decode cX13_moveOf 42 = .ok (.iaload, 1) := by decide +kernel
theorem dX13_moveOf_43 : decode cX13_moveOf 43 = .ok (.if_icmp .lt 57, 3) := by decide +kernel
theorem dX13_moveOf_46 : decode cX13_moveOf 46 = .ok (.aload_n 0, 1) := by decide +kernel
theorem dX13_moveOf_47 : decode cX13_moveOf 47 = .ok (.getfield 83, 3) := by decide +kernel
theorem dX13_moveOf_50 : decode cX13_moveOf 50 = .ok (.iload_n 1, 1) := by decide +kernel
theorem dX13_moveOf_51 : decode cX13_moveOf 51 = .ok (.iaload, 1) := by decide +kernel
theorem dX13_moveOf_52 : decode cX13_moveOf 52 = .ok (.aload_n 0, 1) := by decide +kernel
theorem dX13_moveOf_53 : decode cX13_moveOf 53 = .ok (.getfield 80, 3) := by decide +kernel
theorem dX13_moveOf_56 : decode cX13_moveOf 56 = .ok (.iload_n 3, 1) := by decide +kernel
theorem dX13_moveOf_57 : decode cX13_moveOf 57 = .ok (.iaload, 1) := by decide +kernel
theorem dX13_moveOf_58 : decode cX13_moveOf 58 = .ok (.if_icmp .le 6, 3) := by decide +kernel
theorem dX13_moveOf_61 : decode cX13_moveOf 61 = .ok (.goto 39, 3) := by decide +kernel
theorem dX13_moveOf_64 : decode cX13_moveOf 64 = .ok (.iload_n 2, 1) := by decide +kernel
theorem dX13_moveOf_65 : decode cX13_moveOf 65 = .ok (.iconst (-1), 1) := by decide +kernel
theorem dX13_moveOf_66 : decode cX13_moveOf 66 = .ok (.if_icmp .eq 32, 3) := by decide +kernel
theorem dX13_moveOf_69 : decode cX13_moveOf 69 = .ok (.aload_n 0, 1) := by decide +kernel
theorem dX13_moveOf_70 : decode cX13_moveOf 70 = .ok (.getfield 80, 3) := by decide +kernel
theorem dX13_moveOf_73 : decode cX13_moveOf 73 = .ok (.iload_n 3, 1) := by decide +kernel
theorem dX13_moveOf_74 : decode cX13_moveOf 74 = .ok (.iaload, 1) := by decide +kernel
theorem dX13_moveOf_75 : decode cX13_moveOf 75 = .ok (.aload_n 0, 1) := by decide +kernel
theorem dX13_moveOf_76 : decode cX13_moveOf 76 = .ok (.getfield 77, 3) := by decide +kernel
theorem dX13_moveOf_79 : decode cX13_moveOf 79 = .ok (.iload_n 3, 1) := by decide +kernel
theorem dX13_moveOf_80 : decode cX13_moveOf 80 = .ok (.iaload, 1) := by decide +kernel
theorem dX13_moveOf_81 : decode cX13_moveOf 81 = .ok (.isub, 1) := by decide +kernel
theorem dX13_moveOf_82 : decode cX13_moveOf 82 = .ok (.aload_n 0, 1) := by decide +kernel
theorem dX13_moveOf_83 : decode cX13_moveOf 83 = .ok (.getfield 80, 3) := by decide +kernel
theorem dX13_moveOf_86 : decode cX13_moveOf 86 = .ok (.iload_n 2, 1) := by decide +kernel
theorem dX13_moveOf_87 : decode cX13_moveOf 87 = .ok (.iaload, 1) := by decide +kernel
theorem dX13_moveOf_88 : decode cX13_moveOf 88 = .ok (.aload_n 0, 1) := by decide +kernel
theorem dX13_moveOf_89 : decode cX13_moveOf 89 = .ok (.getfield 77, 3) := by decide +kernel
theorem dX13_moveOf_92 : decode cX13_moveOf 92 = .ok (.iload_n 2, 1) := by decide +kernel
theorem dX13_moveOf_93 : decode cX13_moveOf 93 = .ok (.iaload, 1) := by decide +kernel
theorem dX13_moveOf_94 : decode cX13_moveOf 94 = .ok (.isub, 1) := by decide +kernel
theorem dX13_moveOf_95 : decode cX13_moveOf 95 = .ok (.if_icmp .ge 5, 3) := by decide +kernel
theorem dX13_moveOf_98 : decode cX13_moveOf 98 = .ok (.iload_n 3, 1) := by decide +kernel
theorem dX13_moveOf_99 : decode cX13_moveOf 99 = .ok (.istore_n 2, 1) := by decide +kernel
theorem dX13_moveOf_100 : decode cX13_moveOf 100 = .ok (.iinc 3 1, 3) := by decide +kernel
theorem dX13_moveOf_103 : decode cX13_moveOf 103 = .ok (.goto (-99), 3) := by decide +kernel
theorem dX13_moveOf_106 : decode cX13_moveOf 106 = .ok (.iload_n 2, 1) := by decide +kernel
theorem dX13_moveOf_107 : decode cX13_moveOf 107 = .ok (.ireturn, 1) := by decide +kernel
theorem dX13_put_0 : decode cX13_put 0 = .ok (.aload_n 0, 1) := by decide +kernel
theorem dX13_put_1 : decode cX13_put 1 = .ok (.getfield 64, 3) := by decide +kernel
theorem dX13_put_4 : decode cX13_put 4 = .ok (.aload_n 0, 1) := by decide +kernel
theorem dX13_put_5 : decode cX13_put 5 = .ok (.getfield 260, 3) := by decide +kernel
theorem dX13_put_8 : decode cX13_put 8 = .ok (.lload_n 1, 1) := by decide +kernel
theorem dX13_put_9 : decode cX13_put 9 = .ok (.lastore, 1) := by decide +kernel
theorem dX13_put_10 : decode cX13_put 10 = .ok (.aload_n 0, 1) := by decide +kernel
