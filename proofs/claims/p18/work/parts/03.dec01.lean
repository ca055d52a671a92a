theorem dX4_readMarks_37 : decode cX4_readMarks 37 = .ok (.iconst 0, 1) := by decide +kernel
theorem dX4_readMarks_38 : decode cX4_readMarks 38 = .ok (.putfield 35, 3) := by decide +kernel
theorem dX4_readMarks_41 : decode cX4_readMarks 41 = .ok (.iconst 0, 1) := by decide +kernel
theorem dX4_readMarks_42 : decode cX4_readMarks 42 = .ok (.istore 5, 2) := by decide +kernel
theorem dX4_readMarks_44 : decode cX4_readMarks 44 = .ok (.iload 5, 2) := by decide +kernel
theorem dX4_readMarks_46 : decode cX4_readMarks 46 = .ok (.bipush 40, 2) := by decide +kernel
theorem dX4_readMarks_48 : decode cX4_readMarks 48 = .ok (.if_icmp .gt 51, 3) := by decide +kernel
theorem dX4_readMarks_51 : decode cX4_readMarks 51 = .ok (.aload_n 0, 1) := by decide +kernel
theorem dX4_readMarks_52 : decode cX4_readMarks 52 = .ok (.invokevirtual 40, 3) := by decide +kernel
theorem dX4_readMarks_55 : decode cX4_readMarks 55 = .ok (.aload_n 0, 1) := by decide +kernel
theorem dX4_readMarks_56 : decode cX4_readMarks 56 = .ok (.getfield 43, 3) := by decide +kernel
theorem dX4_readMarks_59 : decode cX4_readMarks 59 = .ok (.aload_n 0, 1) := by decide +kernel
theorem dX4_readMarks_60 : decode cX4_readMarks 60 = .ok (.getfield 9, 3) := by decide +kernel
theorem dX4_readMarks_63 : decode cX4_readMarks 63 = .ok (.getfield 46, 3) := by decide +kernel
theorem dX4_readMarks_66 : decode cX4_readMarks 66 = .ok (.if_icmp .lt 5, 3) := by decide +kernel
theorem dX4_readMarks_69 : decode cX4_readMarks 69 = .ok (.iconst 1, 1) := by decide +kernel
theorem dX4_readMarks_70 : decode cX4_readMarks 70 = .ok (.ireturn, 1) := by decide +kernel
theorem dX4_readMarks_71 : decode cX4_readMarks 71 = .ok (.aload_n 0, 1) := by decide +kernel
theorem dX4_readMarks_72 : decode cX4_readMarks 72 = .ok (.invokevirtual 51, 3) := by decide +kernel
theorem dX4_readMarks_75 : decode cX4_readMarks 75 = .ok (.ifCond .ne 5, 3) := by decide +kernel
theorem dX4_readMarks_78 : decode cX4_readMarks 78 = .ok (.iconst 0, 1) := by decide +kernel
theorem dX4_readMarks_79 : decode cX4_readMarks 79 = .ok (.ireturn, 1) := by decide +kernel
theorem dX4_readMarks_80 : decode cX4_readMarks 80 = .ok (.aload_n 0, 1) := by decide +kernel
theorem dX4_readMarks_81 : decode cX4_readMarks 81 = .ok (.getfield 15, 3) := by decide +kernel
theorem dX4_readMarks_84 : decode cX4_readMarks 84 = .ok (.dup, 1) := by decide +kernel
theorem dX4_readMarks_85 : decode cX4_readMarks 85 = .ok (.getfield 35, 3) := by decide +kernel
theorem dX4_readMarks_88 : decode cX4_readMarks 88 = .ok (.iconst 1, 1) := by decide +kernel
theorem dX4_readMarks_89 : decode cX4_readMarks 89 = .ok (.iadd, 1) := by decide +kernel
theorem dX4_readMarks_90 : decode cX4_readMarks 90 = .ok (.putfield 35, 3) := by decide +kernel
theorem dX4_readMarks_93 : decode cX4_readMarks 93 = .ok (.iinc 5 1, 3) := by decide +kernel
theorem dX4_readMarks_96 : decode cX4_readMarks 96 = .ok (.goto (-52), 3) := by decide +kernel
theorem dX4_readMarks_99 : decode cX4_readMarks 99 = .ok (.iconst 0, 1) := by decide +kernel
theorem dX4_readMarks_100 : decode cX4_readMarks 100 = .ok (.ireturn, 1) := by decide +kernel
theorem dX4_readLine_0 : decode cX4_readLine 0 = .ok (.aload_n 0, 1) := by decide +kernel
theorem dX4_readLine_1 : decode cX4_readLine 1 = .ok (.invokevirtual 55, 3) := by decide +kernel
theorem dX4_readLine_4 : decode cX4_readLine 4 = .ok (.istore_n 1, 1) := by decide +kernel
theorem dX4_readLine_5 : decode cX4_readLine 5 = .ok (.iload_n 1, 1) := by decide +kernel
theorem dX4_readLine_6 : decode cX4_readLine 6 = .ok (.iconst (-1), 1) := by decide +kernel
theorem dX4_readLine_7 : decode cX4_readLine 7 = .ok (.if_icmp .ne 9, 3) := by decide +kernel
theorem dX4_readLine_10 : decode cX4_readLine 10 = .ok (.aload_n 0, 1) := by decide +kernel
theorem dX4_readLine_11 : decode cX4_readLine 11 = .ok (.iconst 1, 1) := by decide +kernel
theorem dX4_readLine_12 : decode cX4_readLine 12 = .ok (.invokevirtual 59, 3) := by decide +kernel
theorem dX4_readLine_15 : decode cX4_readLine 15 = .ok (.ireturn, 1) := by decide +kernel
theorem dX4_readLine_16 : decode cX4_readLine 16 = .ok (.aload_n 0, 1) := by decide +kernel
theorem dX4_readLine_17 : decode cX4_readLine 17 = .ok (.getfield 15, 3) := by decide +kernel
theorem dX4_readLine_20 : decode cX4_readLine 20 = .ok (.invokevirtual 63, 3) := by decide +kernel
theorem dX4_readLine_23 : decode cX4_readLine 23 = .ok (.astore_n 2, 1) := by decide +kernel
theorem dX4_readLine_24 : decode cX4_readLine 24 = .ok (.aload_n 2, 1) := by decide +kernel
theorem dX4_readLine_25 : decode cX4_readLine 25 = .ok (.ifnonnull 9, 3) := by decide +kernel
theorem dX4_readLine_28 : decode cX4_readLine 28 = .ok (.aload_n 0, 1) := by decide +kernel
theorem dX4_readLine_29 : decode cX4_readLine 29 = .ok (.iconst 3, 1) := by decide +kernel
theorem dX4_readLine_30 : decode cX4_readLine 30 = .ok (.invokevirtual 59, 3) := by decide +kernel
theorem dX4_readLine_33 : decode cX4_readLine 33 = .ok (.ireturn, 1) := by decide +kernel
theorem dX4_readLine_34 : decode cX4_readLine 34 = .ok (.aload_n 2, 1) := by decide +kernel
theorem dX4_readLine_35 : decode cX4_readLine 35 = .ok (.iload_n 1, 1) := by decide +kernel
theorem dX4_readLine_36 : decode cX4_readLine 36 = .ok (.putfield 67, 3) := by decide +kernel
theorem dX4_readLine_39 : decode cX4_readLine 39 = .ok (.aload_n 0, 1) := by decide +kernel
theorem dX4_readLine_40 : decode cX4_readLine 40 = .ok (.invokevirtual 40, 3) := by decide +kernel
theorem dX4_readLine_43 : decode cX4_readLine 43 = .ok (.aload_n 0, 1) := by decide +kernel
theorem dX4_readLine_44 : decode cX4_readLine 44 = .ok (.ldc 72, 2) := by decide +kernel
theorem dX4_readLine_46 : decode cX4_readLine 46 = .ok (.invokevirtual 74, 3) := by decide +kernel
theorem dX4_readLine_49 : decode cX4_readLine 49 = .ok (.ifCond .eq 12, 3) := by decide +kernel
theorem dX4_readLine_52 : decode cX4_readLine 52 = .ok (.aload_n 2, 1) := by decide +kernel
theorem dX4_readLine_53 : decode cX4_readLine 53 = .ok (.iconst 1, 1) := by decide +kernel
theorem dX4_readLine_54 : decode cX4_readLine 54 = .ok (.putfield 78, 3) := by decide +kernel
theorem dX4_readLine_57 : decode cX4_readLine 57 = .ok (.aload_n 0, 1) := by decide +kernel
theorem dX4_readLine_58 : decode cX4_readLine 58 = .ok (.invokevirtual 40, 3) := by decide +kernel
theorem dX4_readLine_61 : decode cX4_readLine 61 = .ok (.aload_n 2, 1) := by decide +kernel
theorem dX4_readLine_62 : decode cX4_readLine 62 = .ok (.aload_n 0, 1) := by decide +kernel
theorem dX4_readLine_63 : decode cX4_readLine 63 = .ok (.invokevirtual 82, 3) := by decide +kernel
theorem dX4_readLine_66 : decode cX4_readLine 66 = .ok (.putfield 85, 3) := by decide +kernel
theorem dX4_readLine_69 : decode cX4_readLine 69 = .ok (.aload_n 2, 1) := by decide +kernel
theorem dX4_readLine_70 : decode cX4_readLine 70 = .ok (.getfield 85, 3) := by decide +kernel
theorem dX4_readLine_73 : decode cX4_readLine 73 = .ok (.iconst (-1), 1) := by decide +kernel
theorem dX4_readLine_74 : decode cX4_readLine 74 = .ok (.if_icmp .eq 18, 3) := by decide +kernel
theorem dX4_readLine_77 : decode cX4_readLine 77 = .ok (.aload_n 2, 1) := by decide +kernel
theorem dX4_readLine_78 : decode cX4_readLine 78 = .ok (.getfield 78, 3) := by decide +kernel
theorem dX4_readLine_81 : decode cX4_readLine 81 = .ok (.ifCond .eq 17, 3) := by decide +kernel
theorem dX4_readLine_84 : decode cX4_readLine 84 = .ok (.aload_n 2, 1) := by decide +kernel
theorem dX4_readLine_85 : decode cX4_readLine 85 = .ok (.getfield 85, 3) := by decide +kernel
theorem dX4_readLine_88 : decode cX4_readLine 88 = .ok (.iconst 5, 1) := by decide +kernel
theorem dX4_readLine_89 : decode cX4_readLine 89 = .ok (.if_icmp .ne 9, 3) := by decide +kernel
theorem dX4_readLine_92 : decode cX4_readLine 92 = .ok (.aload_n 0, 1) := by decide +kernel
theorem dX4_readLine_93 : decode cX4_readLine 93 = .ok (.iconst 1, 1) := by decide +kernel
theorem dX4_readLine_94 : decode cX4_readLine 94 = .ok (.invokevirtual 59, 3) := by decide +kernel
theorem dX4_readLine_97 : decode cX4_readLine 97 = .ok (.ireturn, 1) := by decide +kernel
theorem dX4_readLine_98 : decode cX4_readLine 98 = .ok (.aload_n 0, 1) := by decide +kernel
theorem dX4_readLine_99 : decode cX4_readLine 99 = .ok (.aload_n 2, 1) := by decide +kernel
theorem dX4_readLine_100 : decode cX4_readLine 100 = .ok (.invokevirtual 88, 3) := by decide +kernel
theorem dX4_readLine_103 : decode cX4_readLine 103 = .ok (.ifCond .ne 5, 3) := by decide +kernel
theorem dX4_readLine_106 : decode cX4_readLine 106 = .ok (.iconst 0, 1) := by decide +kernel
theorem dX4_readLine_107 : decode cX4_readLine 107 = .ok (.ireturn, 1) := by decide +kernel
theorem dX4_readLine_108 : decode cX4_readLine 108 = .ok (.aload_n 2, 1) := by decide +kernel
theorem dX4_readLine_109 : decode cX4_readLine 109 = .ok (.invokevirtual 92, 3) := by decide +kernel
theorem dX4_readLine_112 : decode cX4_readLine 112 = .ok (.aload_n 0, 1) := by decide +kernel
theorem dX4_readLine_113 : decode cX4_readLine 113 = .ok (.invokevirtual 40, 3) := by decide +kernel
theorem dX4_readLine_116 : decode cX4_readLine 116 = .ok (.aload_n 2, 1) := by decide +kernel
theorem dX4_readLine_117 : decode cX4_readLine 117 = .ok (.getfield 85, 3) := by decide +kernel
theorem dX4_readLine_120 : decode cX4_readLine 120 = .ok (.iconst 1, 1) := by decide +kernel
theorem dX4_readLine_121 : decode cX4_readLine 121 = .ok (.if_icmp .eq 11, 3) := by decide +kernel
theorem dX4_readLine_124 : decode cX4_readLine 124 = .ok (.aload_n 2, 1) := by decide +kernel
theorem dX4_readLine_125 : decode cX4_readLine 125 = .ok (.getfield 85, 3) := by decide +kernel
theorem dX4_readLine_128 : decode cX4_readLine 128 = .ok (.iconst 2, 1) := by decide +kernel
theorem dX4_readLine_129 : decode cX4_readLine 129 = .ok (.if_icmp .ne 26, 3) := by decide +kernel
theorem dX4_readLine_132 : decode cX4_readLine 132 = .ok (.aload_n 0, 1) := by decide +kernel
theorem dX4_readLine_133 : decode cX4_readLine 133 = .ok (.ldc 95, 2) := by decide +kernel
theorem dX4_readLine_135 : decode cX4_readLine 135 = .ok (.invokevirtual 74, 3) := by decide +kernel
theorem dX4_readLine_138 : decode cX4_readLine 138 = .ok (.ifCond .eq 11, 3) := by decide +kernel
theorem dX4_readLine_141 : decode cX4_readLine 141 = .ok (.aload_n 0, 1) := by decide +kernel
theorem dX4_readLine_142 : decode cX4_readLine 142 = .ok (.aload_n 2, 1) := by decide +kernel
theorem dX4_readLine_143 : decode cX4_readLine 143 = .ok (.invokevirtual 97, 3) := by decide +kernel
theorem dX4_readLine_146 : decode cX4_readLine 146 = .ok (.goto 8, 3) := by decide +kernel
theorem dX4_readLine_149 : decode cX4_readLine 149 = .ok (.aload_n 0, 1) := by decide +kernel
theorem dX4_readLine_150 : decode cX4_readLine 150 = .ok (.iconst 1, 1) := by decide +kernel
theorem dX4_readLine_151 : decode cX4_readLine 151 = .ok (.invokevirtual 59, 3) := by decide +kernel
theorem dX4_readLine_154 : decode cX4_readLine 154 = .ok (.ireturn, 1) := by decide +kernel
theorem dX4_readLine_155 : decode cX4_readLine 155 = .ok (.aload_n 0, 1) := by decide +kernel
theorem dX4_readLine_156 : decode cX4_readLine 156 = .ok (.ldc 100, 2) := by decide +kernel
theorem dX4_readLine_158 : decode cX4_readLine 158 = .ok (.invokevirtual 74, 3) := by decide +kernel
theorem dX4_readLine_161 : decode cX4_readLine 161 = .ok (.ifCond .ne 11, 3) := by decide +kernel
theorem dX4_readLine_164 : decode cX4_readLine 164 = .ok (.aload_n 0, 1) := by decide +kernel
theorem dX4_readLine_165 : decode cX4_readLine 165 = .ok (.iconst 1, 1) := by decide +kernel
theorem dX4_readLine_166 : decode cX4_readLine 166 = .ok (.invokevirtual 59, 3) := by decide +kernel
theorem dX4_readLine_169 : decode cX4_readLine 169 = .ok (.ifCond .eq 7, 3) := by decide +kernel
theorem dX4_readLine_172 : decode cX4_readLine 172 = .ok (.iconst 1, 1) := by decide +kernel
theorem dX4_readLine_173 : decode cX4_readLine 173 = .ok (.goto 4, 3) := by decide +kernel
theorem dX4_readLine_176 : decode cX4_readLine 176 = .ok (.iconst 0, 1) := by decide +kernel
theorem dX4_readLine_177 : decode cX4_readLine 177 = .ok (.ireturn, 1) := by decide +kernel
theorem dX4_handNamed_0 : decode cX4_handNamed 0 = .ok (.aload_n 0, 1) := by decide +kernel
theorem dX4_handNamed_1 : decode cX4_handNamed 1 = .ok (.ldc 102, 2) := by decide +kernel
theorem dX4_handNamed_3 : decode cX4_handNamed 3 = .ok (.invokevirtual 74, 3) := by decide +kernel
theorem dX4_handNamed_6 : decode cX4_handNamed 6 = .ok (.ifCond .eq 5, 3) := by decide +kernel
theorem dX4_handNamed_9 : decode cX4_handNamed 9 = .ok (.iconst 0, 1) := by decide +kernel
theorem dX4_handNamed_10 : decode cX4_handNamed 10 = .ok (.ireturn, 1) := by decide +kernel
theorem dX4_handNamed_11 : decode cX4_handNamed 11 = .ok (.aload_n 0, 1) := by decide +kernel
theorem dX4_handNamed_12 : decode cX4_handNamed 12 = .ok (.ldc 104, 2) := by decide +kernel
theorem dX4_handNamed_14 : decode cX4_handNamed 14 = .ok (.invokevirtual 74, 3) := by decide +kernel
theorem dX4_handNamed_17 : decode cX4_handNamed 17 = .ok (.ifCond .eq 5, 3) := by decide +kernel
theorem dX4_handNamed_20 : decode cX4_handNamed 20 = .ok (.iconst 1, 1) := by decide +kernel
theorem dX4_handNamed_21 : decode cX4_handNamed 21 = .ok (.ireturn, 1) := by decide +kernel
theorem dX4_handNamed_22 : decode cX4_handNamed 22 = .ok (.aload_n 0, 1) := by decide +kernel
theorem dX4_handNamed_23 : decode cX4_handNamed 23 = .ok (.ldc 106, 2) := by decide +kernel
theorem dX4_handNamed_25 : decode cX4_handNamed 25 = .ok (.invokevirtual 74, 3) := by decide +kernel
theorem dX4_handNamed_28 : decode cX4_handNamed 28 = .ok (.ifCond .eq 7, 3) := by decide +kernel
theorem dX4_handNamed_31 : decode cX4_handNamed 31 = .ok (.iconst 2, 1) := by decide +kernel
theorem dX4_handNamed_32 : decode cX4_handNamed 32 = .ok (.goto 4, 3) := by decide +kernel
theorem dX4_handNamed_35 : decode cX4_handNamed 35 = .ok (.iconst (-1), 1) := by decide +kernel
theorem dX4_handNamed_36 : decode cX4_handNamed 36 = .ok (.ireturn, 1) := by decide +kernel
theorem dX4_kindNamed_0 : decode cX4_kindNamed 0 = .ok (.aload_n 0, 1) := by decide +kernel
theorem dX4_kindNamed_1 : decode cX4_kindNamed 1 = .ok (.ldc 108, 2) := by decide +kernel
theorem dX4_kindNamed_3 : decode cX4_kindNamed 3 = .ok (.invokevirtual 74, 3) := by decide +kernel
theorem dX4_kindNamed_6 : decode cX4_kindNamed 6 = .ok (.ifCond .eq 5, 3) := by decide +kernel
theorem dX4_kindNamed_9 : decode cX4_kindNamed 9 = .ok (.iconst 0, 1) := by decide +kernel
theorem dX4_kindNamed_10 : decode cX4_kindNamed 10 = .ok (.ireturn, 1) := by decide +kernel
theorem dX4_kindNamed_11 : decode cX4_kindNamed 11 = .ok (.aload_n 0, 1) := by decide +kernel
theorem dX4_kindNamed_12 : decode cX4_kindNamed 12 = .ok (.ldc 110, 2) := by decide +kernel
theorem dX4_kindNamed_14 : decode cX4_kindNamed 14 = .ok (.invokevirtual 74, 3) := by decide +kernel
theorem dX4_kindNamed_17 : decode cX4_kindNamed 17 = .ok (.ifCond .eq 5, 3) := by decide +kernel
theorem dX4_kindNamed_20 : decode cX4_kindNamed 20 = .ok (.iconst 1, 1) := by decide +kernel
theorem dX4_kindNamed_21 : decode cX4_kindNamed 21 = .ok (.ireturn, 1) := by decide +kernel
theorem dX4_kindNamed_22 : decode cX4_kindNamed 22 = .ok (.aload_n 0, 1) := by decide +kernel
theorem dX4_kindNamed_23 : decode cX4_kindNamed 23 = .ok (.ldc 112, 2) := by decide +kernel
theorem dX4_kindNamed_25 : decode cX4_kindNamed 25 = .ok (.invokevirtual 74, 3) := by decide +kernel
theorem dX4_kindNamed_28 : decode cX4_kindNamed 28 = .ok (.ifCond .eq 5, 3) := by decide +kernel
theorem dX4_kindNamed_31 : decode cX4_kindNamed 31 = .ok (.iconst 2, 1) := by decide +kernel
theorem dX4_kindNamed_32 : decode cX4_kindNamed 32 = .ok (.ireturn, 1) := by decide +kernel
theorem dX4_kindNamed_33 : decode cX4_kindNamed 33 = .ok (.aload_n 0, 1) := by decide +kernel
theorem dX4_kindNamed_34 : decode cX4_kindNamed 34 = .ok (.ldc 114, 2) := by decide +kernel
theorem dX4_kindNamed_36 : decode cX4_kindNamed 36 = .ok (.invokevirtual 74, 3) := by decide +kernel
theorem dX4_kindNamed_39 : decode cX4_kindNamed 39 = .ok (.ifCond .eq 5, 3) := by decide +kernel
theorem dX4_kindNamed_42 : decode cX4_kindNamed 42 = .ok (.iconst 3, 1) := by decide +kernel
theorem dX4_kindNamed_43 : decode cX4_kindNamed 43 = .ok (.ireturn, 1) := by decide +kernel
theorem dX4_kindNamed_44 : decode cX4_kindNamed 44 = .ok (.aload_n 0, 1) := by decide +kernel
theorem dX4_kindNamed_45 : decode cX4_kindNamed 45 = .ok (.ldc 116, 2) := by decide +kernel
theorem dX4_kindNamed_47 : decode cX4_kindNamed 47 = .ok (.invokevirtual 74, 3) := by decide +kernel
theorem dX4_kindNamed_50 : decode cX4_kindNamed 50 = .ok (.ifCond .eq 5, 3) := by decide +kernel
theorem dX4_kindNamed_53 : decode cX4_kindNamed 53 = .ok (.iconst 4, 1) := by decide +kernel
theorem dX4_kindNamed_54 : decode cX4_kindNamed 54 = .ok (.ireturn, 1) := by decide +kernel
theorem dX4_kindNamed_55 : decode cX4_kindNamed 55 = .ok (.aload_n 0, 1) := by decide +kernel
theorem dX4_kindNamed_56 : decode cX4_kindNamed 56 = .ok (.ldc 118, 2) := by decide +kernel
theorem dX4_kindNamed_58 : decode cX4_kindNamed 58 = .ok (.invokevirtual 74, 3) := by decide +kernel
theorem dX4_kindNamed_61 : decode cX4_kindNamed 61 = .ok (.ifCond .eq 7, 3) := by decide +kernel
theorem dX4_kindNamed_64 : decode cX4_kindNamed 64 = .ok (.iconst 5, 1) := by decide +kernel
theorem dX4_kindNamed_65 : decode cX4_kindNamed 65 = .ok (.goto 4, 3) := by decide +kernel
theorem dX4_kindNamed_68 : decode cX4_kindNamed 68 = .ok (.iconst (-1), 1) := by decide +kernel
theorem dX4_kindNamed_69 : decode cX4_kindNamed 69 = .ok (.ireturn, 1) := by decide +kernel
theorem dX4_readNumbers_0 : decode cX4_readNumbers 0 = .ok (.aload_n 1, 1) := by decide +kernel
theorem dX4_readNumbers_1 : decode cX4_readNumbers 1 = .ok (.getfield 85, 3) := by decide +kernel
theorem dX4_readNumbers_4 : decode cX4_readNumbers 4 = .ok (.ifCond .lt 14, 3) := by decide +kernel
theorem dX4_readNumbers_7 : decode cX4_readNumbers 7 = .ok (.aload_n 1, 1) := by decide +kernel
theorem dX4_readNumbers_8 : decode cX4_readNumbers 8 = .ok (.getfield 85, 3) := by decide +kernel
theorem dX4_readNumbers_11 : decode cX4_readNumbers 11 = .ok (.getstatic 120, 3) := by decide +kernel
theorem dX4_readNumbers_14 : decode cX4_readNumbers 14 = .ok (.arraylength, 1) := by decide +kernel
theorem dX4_readNumbers_15 : decode cX4_readNumbers 15 = .ok (.if_icmp .lt 7, 3) := by decide +kernel
theorem dX4_readNumbers_18 : decode cX4_readNumbers 18 = .ok (.iconst 0, 1) := by decide +kernel
theorem dX4_readNumbers_19 : decode cX4_readNumbers 19 = .ok (.goto 11, 3) := by decide +kernel
theorem dX4_readNumbers_22 : decode cX4_readNumbers 22 = .ok (.getstatic 120, 3) := by decide +kernel
theorem dX4_readNumbers_25 : decode cX4_readNumbers 25 = .ok (.aload_n 1, 1) := by decide +kernel
theorem dX4_readNumbers_26 : decode cX4_readNumbers 26 = .ok (.getfield 85, 3) := by decide +kernel
theorem dX4_readNumbers_29 : decode cX4_readNumbers 29 = .ok (.iaload, 1) := by decide +kernel
theorem dX4_readNumbers_30 : decode cX4_readNumbers 30 = .ok (.istore_n 2, 1) := by decide +kernel
theorem dX4_readNumbers_31 : decode cX4_readNumbers 31 = .ok (.iconst 0, 1) := by decide +kernel
theorem dX4_readNumbers_32 : decode cX4_readNumbers 32 = .ok (.istore_n 3, 1) := by decide +kernel
theorem dX4_readNumbers_33 : decode cX4_readNumbers 33 = .ok (.iload_n 3, 1) := by decide +kernel
theorem dX4_readNumbers_34 : decode cX4_readNumbers 34 = .ok (.iload_n 2, 1) := by decide +kernel
theorem dX4_readNumbers_35 : decode cX4_readNumbers 35 = .ok (.if_icmp .ge 64, 3) := by decide +kernel
theorem dX4_readNumbers_38 : decode cX4_readNumbers 38 = .ok (.aload_n 0, 1) := by decide +kernel
theorem dX4_readNumbers_39 : decode cX4_readNumbers 39 = .ok (.invokevirtual 40, 3) := by decide +kernel
theorem dX4_readNumbers_42 : decode cX4_readNumbers 42 = .ok (.aload_n 0, 1) := by decide +kernel
theorem dX4_readNumbers_43 : decode cX4_readNumbers 43 = .ok (.getfield 124, 3) := by decide +kernel
theorem dX4_readNumbers_46 : decode cX4_readNumbers 46 = .ok (.iconst 2, 1) := by decide +kernel
theorem dX4_readNumbers_47 : decode cX4_readNumbers 47 = .ok (.if_icmp .ne 16, 3) := by decide +kernel
theorem dX4_readNumbers_50 : decode cX4_readNumbers 50 = .ok (.aload_n 0, 1) := by decide +kernel
theorem dX4_readNumbers_51 : decode cX4_readNumbers 51 = .ok (.getfield 27, 3) := by decide +kernel
theorem dX4_readNumbers_54 : decode cX4_readNumbers 54 = .ok (.aload_n 0, 1) := by decide +kernel
theorem dX4_readNumbers_55 : decode cX4_readNumbers 55 = .ok (.getfield 43, 3) := by decide +kernel
theorem dX4_readNumbers_58 : decode cX4_readNumbers 58 = .ok (.isub, 1) := by decide +kernel
theorem dX4_readNumbers_59 : decode cX4_readNumbers 59 = .ok (.iconst 3, 1) := by decide +kernel
theorem dX4_readNumbers_60 : decode cX4_readNumbers 60 = .ok (.if_icmp .le 9, 3) := by decide +kernel
theorem dX4_readNumbers_63 : decode cX4_readNumbers 63 = .ok (.aload_n 0, 1) := by decide +kernel
theorem dX4_readNumbers_64 : decode cX4_readNumbers 64 = .ok (.iconst 1, 1) := by decide +kernel
theorem dX4_readNumbers_65 : decode cX4_readNumbers 65 = .ok (.invokevirtual 59, 3) := by decide +kernel
theorem dX4_readNumbers_68 : decode cX4_readNumbers 68 = .ok (.ireturn, 1) := by decide +kernel
theorem dX4_readNumbers_69 : decode cX4_readNumbers 69 = .ok (.aload_n 1, 1) := by decide +kernel
theorem dX4_readNumbers_70 : decode cX4_readNumbers 70 = .ok (.iload_n 3, 1) := by decide +kernel
theorem dX4_readNumbers_71 : decode cX4_readNumbers 71 = .ok (.aload_n 0, 1) := by decide +kernel
theorem dX4_readNumbers_72 : decode cX4_readNumbers 72 = .ok (.invokevirtual 127, 3) := by decide +kernel
theorem dX4_readNumbers_75 : decode cX4_readNumbers 75 = .ok (.invokevirtual 130, 3) := by decide +kernel
theorem dX4_readNumbers_78 : decode cX4_readNumbers 78 = .ok (.aload_n 0, 1) := by decide +kernel
theorem dX4_readNumbers_79 : decode cX4_readNumbers 79 = .ok (.aload_n 1, 1) := by decide +kernel
theorem dX4_readNumbers_80 : decode cX4_readNumbers 80 = .ok (.iload_n 3, 1) := by decide +kernel
theorem dX4_readNumbers_81 : decode cX4_readNumbers 81 = .ok (.invokevirtual 134, 3) := by decide +kernel
theorem dX4_readNumbers_84 : decode cX4_readNumbers 84 = .ok (.ifCond .ne 9, 3) := by decide +kernel
theorem dX4_readNumbers_87 : decode cX4_readNumbers 87 = .ok (.aload_n 0, 1) := by decide +kernel
theorem dX4_readNumbers_88 : decode cX4_readNumbers 88 = .ok (.iconst 2, 1) := by decide +kernel
theorem dX4_readNumbers_89 : decode cX4_readNumbers 89 = .ok (.invokevirtual 59, 3) := by decide +kernel
theorem dX4_readNumbers_92 : decode cX4_readNumbers 92 = .ok (.ireturn, 1) := by decide +kernel
theorem dX4_readNumbers_93 : decode cX4_readNumbers 93 = .ok (.iinc 3 1, 3) := by decide +kernel
theorem dX4_readNumbers_96 : decode cX4_readNumbers 96 = .ok (.goto (-63), 3) := by decide +kernel
theorem dX4_readNumbers_99 : decode cX4_readNumbers 99 = .ok (.iconst 1, 1) := by decide +kernel
theorem dX4_readNumbers_100 : decode cX4_readNumbers 100 = .ok (.ireturn, 1) := by decide +kernel
theorem dX4_numberRead_0 : decode cX4_numberRead 0 = .ok (.iconst 0, 1) := by decide +kernel
theorem dX4_numberRead_1 : decode cX4_numberRead 1 = .ok (.istore_n 1, 1) := by decide +kernel
theorem dX4_numberRead_2 : decode cX4_numberRead 2 = .ok (.aload_n 0, 1) := by decide +kernel
theorem dX4_numberRead_3 : decode cX4_numberRead 3 = .ok (.getfield 43, 3) := by decide +kernel
theorem dX4_numberRead_6 : decode cX4_numberRead 6 = .ok (.istore_n 2, 1) := by decide +kernel
theorem dX4_numberRead_7 : decode cX4_numberRead 7 = .ok (.iload_n 2, 1) := by decide +kernel
theorem dX4_numberRead_8 : decode cX4_numberRead 8 = .ok (.aload_n 0, 1) := by decide +kernel
theorem dX4_numberRead_9 : decode cX4_numberRead 9 = .ok (.getfield 27, 3) := by decide +kernel
theorem dX4_numberRead_12 : decode cX4_numberRead 12 = .ok (.if_icmp .ge 26, 3) := by decide +kernel
theorem dX4_numberRead_15 : decode cX4_numberRead 15 = .ok (.iload_n 1, 1) := by decide +kernel
theorem dX4_numberRead_16 : decode cX4_numberRead 16 = .ok (.bipush 10, 2) := by decide +kernel
theorem dX4_numberRead_18 : decode cX4_numberRead 18 = .ok (.imul, 1) := by decide +kernel
theorem dX4_numberRead_19 : decode cX4_numberRead 19 = .ok (.aload_n 0, 1) := by decide +kernel
theorem dX4_numberRead_20 : decode cX4_numberRead 20 = .ok (.getfield 9, 3) := by decide +kernel
theorem dX4_numberRead_23 : decode cX4_numberRead 23 = .ok (.iload_n 2, 1) := by decide +kernel
theorem dX4_numberRead_24 : decode cX4_numberRead 24 = .ok (.invokevirtual 138, 3) := by decide +kernel
theorem dX4_numberRead_27 : decode cX4_numberRead 27 = .ok (.iadd, 1) := by decide +kernel
theorem dX4_numberRead_28 : decode cX4_numberRead 28 = .ok (.bipush 48, 2) := by decide +kernel
theorem dX4_numberRead_30 : decode cX4_numberRead 30 = .ok (.isub, 1) := by decide +kernel
theorem dX4_numberRead_31 : decode cX4_numberRead 31 = .ok (.istore_n 1, 1) := by decide +kernel
theorem dX4_numberRead_32 : decode cX4_numberRead 32 = .ok (.iinc 2 1, 3) := by decide +kernel
theorem dX4_numberRead_35 : decode cX4_numberRead 35 = .ok (.goto (-28), 3) := by decide +kernel
theorem dX4_numberRead_38 : decode cX4_numberRead 38 = .ok (.iload_n 1, 1) := by decide +kernel
theorem dX4_numberRead_39 : decode cX4_numberRead 39 = .ok (.ireturn, 1) := by decide +kernel
theorem dX4_mayBegin_0 : decode cX4_mayBegin 0 = .ok (.aload_n 1, 1) := by decide +kernel
theorem dX4_mayBegin_1 : decode cX4_mayBegin 1 = .ok (.iconst 0, 1) := by decide +kernel
theorem dX4_mayBegin_2 : decode cX4_mayBegin 2 = .ok (.invokevirtual 142, 3) := by decide +kernel
theorem dX4_mayBegin_5 : decode cX4_mayBegin 5 = .ok (.istore_n 3, 1) := by decide +kernel
theorem dX4_mayBegin_6 : decode cX4_mayBegin 6 = .ok (.aload_n 1, 1) := by decide +kernel
theorem dX4_mayBegin_7 : decode cX4_mayBegin 7 = .ok (.iconst 1, 1) := by decide +kernel
theorem dX4_mayBegin_8 : decode cX4_mayBegin 8 = .ok (.invokevirtual 142, 3) := by decide +kernel
theorem dX4_mayBegin_11 : decode cX4_mayBegin 11 = .ok (.istore 4, 2) := by decide +kernel
theorem dX4_mayBegin_13 : decode cX4_mayBegin 13 = .ok (.aload_n 1, 1) := by decide +kernel
theorem dX4_mayBegin_14 : decode cX4_mayBegin 14 = .ok (.iconst 2, 1) := by decide +kernel
theorem dX4_mayBegin_15 : decode cX4_mayBegin 15 = .ok (.invokevirtual 142, 3) := by decide +kernel
theorem dX4_mayBegin_18 : decode cX4_mayBegin 18 = .ok (.istore 5, 2) := by decide +kernel
theorem dX4_mayBegin_20 : decode cX4_mayBegin 20 = .ok (.aload_n 1, 1) := by decide +kernel
theorem dX4_mayBegin_21 : decode cX4_mayBegin 21 = .ok (.getfield 85, 3) := by decide +kernel
theorem dX4_mayBegin_24 : decode cX4_mayBegin 24 = .ok (.tableswitch 172 0 4 #[36, 77, 36, 91, 161], 36) := by decide +kernel
theorem dX4_mayBegin_60 : decode cX4_mayBegin 60 = .ok (.iload_n 2, 1) := by decide +kernel
theorem dX4_mayBegin_61 : decode cX4_mayBegin 61 = .ok (.ifCond .ne 19, 3) := by decide +kernel
theorem dX4_mayBegin_64 : decode cX4_mayBegin 64 = .ok (.iload_n 3, 1) := by decide +kernel
theorem dX4_mayBegin_65 : decode cX4_mayBegin 65 = .ok (.aload_n 0, 1) := by decide +kernel
theorem dX4_mayBegin_66 : decode cX4_mayBegin 66 = .ok (.getfield 23, 3) := by decide +kernel
theorem dX4_mayBegin_69 : decode cX4_mayBegin 69 = .ok (.if_icmp .ge 7, 3) := by decide +kernel
theorem dX4_mayBegin_72 : decode cX4_mayBegin 72 = .ok (.iconst 1, 1) := by decide +kernel
theorem dX4_mayBegin_73 : decode cX4_mayBegin 73 = .ok (.goto 27, 3) := by decide +kernel
theorem dX4_mayBegin_76 : decode cX4_mayBegin 76 = .ok (.iconst 0, 1) := by decide +kernel
theorem dX4_mayBegin_77 : decode cX4_mayBegin 77 = .ok (.goto 23, 3) := by decide +kernel
theorem dX4_mayBegin_80 : decode cX4_mayBegin 80 = .ok (.iload_n 3, 1) := by decide +kernel
theorem dX4_mayBegin_81 : decode cX4_mayBegin 81 = .ok (.iload 4, 2) := by decide +kernel
theorem dX4_mayBegin_83 : decode cX4_mayBegin 83 = .ok (.if_icmp .gt 16, 3) := by decide +kernel
theorem dX4_mayBegin_86 : decode cX4_mayBegin 86 = .ok (.iload 4, 2) := by decide +kernel
theorem dX4_mayBegin_88 : decode cX4_mayBegin 88 = .ok (.aload_n 0, 1) := by decide +kernel
theorem dX4_mayBegin_89 : decode cX4_mayBegin 89 = .ok (.getfield 23, 3) := by decide +kernel
theorem dX4_mayBegin_92 : decode cX4_mayBegin 92 = .ok (.if_icmp .ge 7, 3) := by decide +kernel
theorem dX4_mayBegin_95 : decode cX4_mayBegin 95 = .ok (.iconst 1, 1) := by decide +kernel
theorem dX4_mayBegin_96 : decode cX4_mayBegin 96 = .ok (.goto 4, 3) := by decide +kernel
theorem dX4_mayBegin_99 : decode cX4_mayBegin 99 = .ok (.iconst 0, 1) := by decide +kernel
theorem dX4_mayBegin_100 : decode cX4_mayBegin 100 = .ok (.ireturn, 1) := by decide +kernel
theorem dX4_mayBegin_101 : decode cX4_mayBegin 101 = .ok (.iload_n 3, 1) := by decide +kernel
theorem dX4_mayBegin_102 : decode cX4_mayBegin 102 = .ok (.aload_n 0, 1) := by decide +kernel
theorem dX4_mayBegin_103 : decode cX4_mayBegin 103 = .ok (.getfield 23, 3) := by decide +kernel
theorem dX4_mayBegin_106 : decode cX4_mayBegin 106 = .ok (.if_icmp .gt 7, 3) := by decide +kernel
theorem dX4_mayBegin_109 : decode cX4_mayBegin 109 = .ok (.iconst 1, 1) := by decide +kernel
theorem dX4_mayBegin_110 : decode cX4_mayBegin 110 = .ok (.goto 4, 3) := by decide +kernel
theorem dX4_mayBegin_113 : decode cX4_mayBegin 113 = .ok (.iconst 0, 1) := by decide +kernel
theorem dX4_mayBegin_114 : decode cX4_mayBegin 114 = .ok (.ireturn, 1) := by decide +kernel
theorem dX4_mayBegin_115 : decode cX4_mayBegin 115 = .ok (.iload_n 2, 1) := by decide +kernel
theorem dX4_mayBegin_116 : decode cX4_mayBegin 116 = .ok (.ifCond .ne 19, 3) := by decide +kernel
theorem dX4_mayBegin_119 : decode cX4_mayBegin 119 = .ok (.iload_n 3, 1) := by decide +kernel
theorem dX4_mayBegin_120 : decode cX4_mayBegin 120 = .ok (.iconst 1, 1) := by decide +kernel
theorem dX4_mayBegin_121 : decode cX4_mayBegin 121 = .ok (.iadd, 1) := by decide +kernel
theorem dX4_mayBegin_122 : decode cX4_mayBegin 122 = .ok (.aload_n 0, 1) := by decide +kernel
theorem dX4_mayBegin_123 : decode cX4_mayBegin 123 = .ok (.getfield 23, 3) := by decide +kernel
theorem dX4_mayBegin_126 : decode cX4_mayBegin 126 = .ok (.if_icmp .ge 7, 3) := by decide +kernel
theorem dX4_mayBegin_129 : decode cX4_mayBegin 129 = .ok (.iconst 1, 1) := by decide +kernel
theorem dX4_mayBegin_130 : decode cX4_mayBegin 130 = .ok (.goto 4, 3) := by decide +kernel
theorem dX4_mayBegin_133 : decode cX4_mayBegin 133 = .ok (.iconst 0, 1) := by decide +kernel
theorem dX4_mayBegin_134 : decode cX4_mayBegin 134 = .ok (.ireturn, 1) := by decide +kernel
theorem dX4_mayBegin_135 : decode cX4_mayBegin 135 = .ok (.iload_n 2, 1) := by decide +kernel
theorem dX4_mayBegin_136 : decode cX4_mayBegin 136 = .ok (.iconst 1, 1) := by decide +kernel
theorem dX4_mayBegin_137 : decode cX4_mayBegin 137 = .ok (.if_icmp .ne 26, 3) := by decide +kernel
theorem dX4_mayBegin_140 : decode cX4_mayBegin 140 = .ok (.iload_n 3, 1) := by decide +kernel
theorem dX4_mayBegin_141 : decode cX4_mayBegin 141 = .ok (.iload 4, 2) := by decide +kernel
theorem dX4_mayBegin_143 : decode cX4_mayBegin 143 = .ok (.if_icmp .ge 16, 3) := by decide +kernel
theorem dX4_mayBegin_146 : decode cX4_mayBegin 146 = .ok (.iload 4, 2) := by decide +kernel
theorem dX4_mayBegin_148 : decode cX4_mayBegin 148 = .ok (.aload_n 0, 1) := by decide +kernel
theorem dX4_mayBegin_149 : decode cX4_mayBegin 149 = .ok (.getfield 23, 3) := by decide +kernel
theorem dX4_mayBegin_152 : decode cX4_mayBegin 152 = .ok (.if_icmp .ge 7, 3) := by decide +kernel
theorem dX4_mayBegin_155 : decode cX4_mayBegin 155 = .ok (.iconst 1, 1) := by decide +kernel
theorem dX4_mayBegin_156 : decode cX4_mayBegin 156 = .ok (.goto 28, 3) := by decide +kernel
theorem dX4_mayBegin_159 : decode cX4_mayBegin 159 = .ok (.iconst 0, 1) := by decide +kernel
theorem dX4_mayBegin_160 : decode cX4_mayBegin 160 = .ok (.goto 24, 3) := by decide +kernel
theorem dX4_mayBegin_163 : decode cX4_mayBegin 163 = .ok (.iload 4, 2) := by decide +kernel
theorem dX4_mayBegin_165 : decode cX4_mayBegin 165 = .ok (.iload 5, 2) := by decide +kernel
theorem dX4_mayBegin_167 : decode cX4_mayBegin 167 = .ok (.if_icmp .gt 16, 3) := by decide +kernel
theorem dX4_mayBegin_170 : decode cX4_mayBegin 170 = .ok (.iload 5, 2) := by decide +kernel
theorem dX4_mayBegin_172 : decode cX4_mayBegin 172 = .ok (.aload_n 0, 1) := by decide +kernel
theorem dX4_mayBegin_173 : decode cX4_mayBegin 173 = .ok (.getfield 23, 3) := by decide +kernel
theorem dX4_mayBegin_176 : decode cX4_mayBegin 176 = .ok (.if_icmp .ge 7, 3) := by decide +kernel
theorem dX4_mayBegin_179 : decode cX4_mayBegin 179 = .ok (.iconst 1, 1) := by decide +kernel
theorem dX4_mayBegin_180 : decode cX4_mayBegin 180 = .ok (.goto 4, 3) := by decide +kernel
theorem dX4_mayBegin_183 : decode cX4_mayBegin 183 = .ok (.iconst 0, 1) := by decide +kernel
theorem dX4_mayBegin_184 : decode cX4_mayBegin 184 = .ok (.ireturn, 1) := by decide +kernel
theorem dX4_mayBegin_185 : decode cX4_mayBegin 185 = .ok (.aload_n 0, 1) := by decide +kernel
theorem dX4_mayBegin_186 : decode cX4_mayBegin 186 = .ok (.iload_n 3, 1) := by decide +kernel
theorem dX4_mayBegin_187 : decode cX4_mayBegin 187 = .ok (.iload 4, 2) := by decide +kernel
theorem dX4_mayBegin_189 : decode cX4_mayBegin 189 = .ok (.iload 5, 2) := by decide +kernel
theorem dX4_mayBegin_191 : decode cX4_mayBegin 191 = .ok (.iload_n 2, 1) := by decide +kernel
theorem dX4_mayBegin_192 : decode cX4_mayBegin 192 = .ok (.invokevirtual 145, 3) := by decide +kernel
theorem dX4_mayBegin_195 : decode cX4_mayBegin 195 = .ok (.ireturn, 1) := by decide +kernel
theorem dX4_mayBegin_196 : decode cX4_mayBegin 196 = .ok (.aload_n 0, 1) := by decide +kernel
theorem dX4_mayBegin_197 : decode cX4_mayBegin 197 = .ok (.getfield 15, 3) := by decide +kernel
theorem dX4_mayBegin_200 : decode cX4_mayBegin 200 = .ok (.iload_n 3, 1) := by decide +kernel
theorem dX4_mayBegin_201 : decode cX4_mayBegin 201 = .ok (.invokevirtual 149, 3) := by decide +kernel
theorem dX4_mayBegin_204 : decode cX4_mayBegin 204 = .ok (.ireturn, 1) := by decide +kernel
theorem dX4_mayBeginMove_0 : decode cX4_mayBeginMove 0 = .ok (.iload 4, 2) := by decide +kernel
theorem dX4_mayBeginMove_2 : decode cX4_mayBeginMove 2 = .ok (.ifCond .ne 29, 3) := by decide +kernel
theorem dX4_mayBeginMove_5 : decode cX4_mayBeginMove 5 = .ok (.iload_n 1, 1) := by decide +kernel
theorem dX4_mayBeginMove_6 : decode cX4_mayBeginMove 6 = .ok (.aload_n 0, 1) := by decide +kernel
theorem dX4_mayBeginMove_7 : decode cX4_mayBeginMove 7 = .ok (.getfield 23, 3) := by decide +kernel
theorem dX4_mayBeginMove_10 : decode cX4_mayBeginMove 10 = .ok (.if_icmp .ge 19, 3) := by decide +kernel
theorem dX4_mayBeginMove_13 : decode cX4_mayBeginMove 13 = .ok (.iload_n 1, 1) := by decide +kernel
theorem dX4_mayBeginMove_14 : decode cX4_mayBeginMove 14 = .ok (.ifCond .gt 11, 3) := by decide +kernel
theorem dX4_mayBeginMove_17 : decode cX4_mayBeginMove 17 = .ok (.aload_n 0, 1) := by decide +kernel
theorem dX4_mayBeginMove_18 : decode cX4_mayBeginMove 18 = .ok (.getfield 23, 3) := by decide +kernel
theorem dX4_mayBeginMove_21 : decode cX4_mayBeginMove 21 = .ok (.iconst 1, 1) := by decide +kernel
theorem dX4_mayBeginMove_22 : decode cX4_mayBeginMove 22 = .ok (.if_icmp .le 7, 3) := by decide +kernel
theorem dX4_mayBeginMove_25 : decode cX4_mayBeginMove 25 = .ok (.iconst 1, 1) := by decide +kernel
theorem dX4_mayBeginMove_26 : decode cX4_mayBeginMove 26 = .ok (.goto 4, 3) := by decide +kernel
theorem dX4_mayBeginMove_29 : decode cX4_mayBeginMove 29 = .ok (.iconst 0, 1) := by decide +kernel
theorem dX4_mayBeginMove_30 : decode cX4_mayBeginMove 30 = .ok (.ireturn, 1) := by decide +kernel
theorem dX4_mayBeginMove_31 : decode cX4_mayBeginMove 31 = .ok (.iload 4, 2) := by decide +kernel
theorem dX4_mayBeginMove_33 : decode cX4_mayBeginMove 33 = .ok (.iconst 1, 1) := by decide +kernel
theorem dX4_mayBeginMove_34 : decode cX4_mayBeginMove 34 = .ok (.if_icmp .ne 36, 3) := by decide +kernel
theorem dX4_mayBeginMove_37 : decode cX4_mayBeginMove 37 = .ok (.iload_n 1, 1) := by decide +kernel
theorem dX4_mayBeginMove_38 : decode cX4_mayBeginMove 38 = .ok (.iload_n 2, 1) := by decide +kernel
theorem dX4_mayBeginMove_39 : decode cX4_mayBeginMove 39 = .ok (.if_icmp .gt 29, 3) := by decide +kernel
theorem dX4_mayBeginMove_42 : decode cX4_mayBeginMove 42 = .ok (.iload_n 2, 1) := by decide +kernel
theorem dX4_mayBeginMove_43 : decode cX4_mayBeginMove 43 = .ok (.aload_n 0, 1) := by decide +kernel
theorem dX4_mayBeginMove_44 : decode cX4_mayBeginMove 44 = .ok (.getfield 23, 3) := by decide +kernel
theorem dX4_mayBeginMove_47 : decode cX4_mayBeginMove 47 = .ok (.if_icmp .ge 21, 3) := by decide +kernel
theorem dX4_mayBeginMove_50 : decode cX4_mayBeginMove 50 = .ok (.iload_n 1, 1) := by decide +kernel
theorem dX4_mayBeginMove_51 : decode cX4_mayBeginMove 51 = .ok (.ifCond .gt 13, 3) := by decide +kernel
theorem dX4_mayBeginMove_54 : decode cX4_mayBeginMove 54 = .ok (.iload_n 2, 1) := by decide +kernel
theorem dX4_mayBeginMove_55 : decode cX4_mayBeginMove 55 = .ok (.iconst 1, 1) := by decide +kernel
theorem dX4_mayBeginMove_56 : decode cX4_mayBeginMove 56 = .ok (.iadd, 1) := by decide +kernel
theorem dX4_mayBeginMove_57 : decode cX4_mayBeginMove 57 = .ok (.aload_n 0, 1) := by decide +kernel
theorem dX4_mayBeginMove_58 : decode cX4_mayBeginMove 58 = .ok (.getfield 23, 3) := by decide +kernel
theorem dX4_mayBeginMove_61 : decode cX4_mayBeginMove 61 = .ok (.if_icmp .ge 7, 3) := by decide +kernel
theorem dX4_mayBeginMove_64 : decode cX4_mayBeginMove 64 = .ok (.iconst 1, 1) := by decide +kernel
theorem dX4_mayBeginMove_65 : decode cX4_mayBeginMove 65 = .ok (.goto 4, 3) := by decide +kernel
theorem dX4_mayBeginMove_68 : decode cX4_mayBeginMove 68 = .ok (.iconst 0, 1) := by decide +kernel
theorem dX4_mayBeginMove_69 : decode cX4_mayBeginMove 69 = .ok (.ireturn, 1) := by decide +kernel
theorem dX4_mayBeginMove_70 : decode cX4_mayBeginMove 70 = .ok (.iload_n 3, 1) := by decide +kernel
theorem dX4_mayBeginMove_71 : decode cX4_mayBeginMove 71 = .ok (.iload_n 1, 1) := by decide +kernel
theorem dX4_mayBeginMove_72 : decode cX4_mayBeginMove 72 = .ok (.if_icmp .lt 18, 3) := by decide +kernel
theorem dX4_mayBeginMove_75 : decode cX4_mayBeginMove 75 = .ok (.iload_n 3, 1) := by decide +kernel
theorem dX4_mayBeginMove_76 : decode cX4_mayBeginMove 76 = .ok (.iload_n 2, 1) := by decide +kernel
theorem dX4_mayBeginMove_77 : decode cX4_mayBeginMove 77 = .ok (.iconst 1, 1) := by decide +kernel
theorem dX4_mayBeginMove_78 : decode cX4_mayBeginMove 78 = .ok (.iadd, 1) := by decide +kernel
theorem dX4_mayBeginMove_79 : decode cX4_mayBeginMove 79 = .ok (.if_icmp .le 15, 3) := by decide +kernel
theorem dX4_mayBeginMove_82 : decode cX4_mayBeginMove 82 = .ok (.iload_n 3, 1) := by decide +kernel
theorem dX4_mayBeginMove_83 : decode cX4_mayBeginMove 83 = .ok (.aload_n 0, 1) := by decide +kernel
theorem dX4_mayBeginMove_84 : decode cX4_mayBeginMove 84 = .ok (.getfield 23, 3) := by decide +kernel
theorem dX4_mayBeginMove_87 : decode cX4_mayBeginMove 87 = .ok (.if_icmp .gt 7, 3) := by decide +kernel
theorem dX4_mayBeginMove_90 : decode cX4_mayBeginMove 90 = .ok (.iconst 1, 1) := by decide +kernel
theorem dX4_mayBeginMove_91 : decode cX4_mayBeginMove 91 = .ok (.goto 4, 3) := by decide +kernel
theorem dX4_mayBeginMove_94 : decode cX4_mayBeginMove 94 = .ok (.iconst 0, 1) := by decide +kernel
theorem dX4_mayBeginMove_95 : decode cX4_mayBeginMove 95 = .ok (.ireturn, 1) := by decide +kernel
theorem dX4_readWords_0 : decode cX4_readWords 0 = .ok (.iconst 0, 1) := by decide +kernel
theorem dX4_readWords_1 : decode cX4_readWords 1 = .ok (.istore_n 2, 1) := by decide +kernel
theorem dX4_readWords_2 : decode cX4_readWords 2 = .ok (.iload_n 2, 1) := by decide +kernel
theorem dX4_readWords_3 : decode cX4_readWords 3 = .ok (.bipush 7, 2) := by decide +kernel
theorem dX4_readWords_5 : decode cX4_readWords 5 = .ok (.if_icmp .gt 82, 3) := by decide +kernel
theorem dX4_readWords_8 : decode cX4_readWords 8 = .ok (.aload_n 0, 1) := by decide +kernel
theorem dX4_readWords_9 : decode cX4_readWords 9 = .ok (.invokevirtual 152, 3) := by decide +kernel
theorem dX4_readWords_12 : decode cX4_readWords 12 = .ok (.aload_n 0, 1) := by decide +kernel
theorem dX4_readWords_13 : decode cX4_readWords 13 = .ok (.aload_n 0, 1) := by decide +kernel
theorem dX4_readWords_14 : decode cX4_readWords 14 = .ok (.getfield 27, 3) := by decide +kernel
theorem dX4_readWords_17 : decode cX4_readWords 17 = .ok (.putfield 43, 3) := by decide +kernel
theorem dX4_readWords_20 : decode cX4_readWords 20 = .ok (.aload_n 0, 1) := by decide +kernel
theorem dX4_readWords_21 : decode cX4_readWords 21 = .ok (.getfield 9, 3) := by decide +kernel
theorem dX4_readWords_24 : decode cX4_readWords 24 = .ok (.aload_n 0, 1) := by decide +kernel
theorem dX4_readWords_25 : decode cX4_readWords 25 = .ok (.getfield 27, 3) := by decide +kernel
theorem dX4_readWords_28 : decode cX4_readWords 28 = .ok (.invokevirtual 138, 3) := by decide +kernel
theorem dX4_readWords_31 : decode cX4_readWords 31 = .ok (.istore_n 3, 1) := by decide +kernel
theorem dX4_readWords_32 : decode cX4_readWords 32 = .ok (.iload_n 3, 1) := by decide +kernel
theorem dX4_readWords_33 : decode cX4_readWords 33 = .ok (.iconst (-1), 1) := by decide +kernel
theorem dX4_readWords_34 : decode cX4_readWords 34 = .ok (.if_icmp .eq 13, 3) := by decide +kernel
theorem dX4_readWords_37 : decode cX4_readWords 37 = .ok (.iload_n 3, 1) := by decide +kernel
theorem dX4_readWords_38 : decode cX4_readWords 38 = .ok (.bipush 59, 2) := by decide +kernel
theorem dX4_readWords_40 : decode cX4_readWords 40 = .ok (.if_icmp .ne 13, 3) := by decide +kernel
theorem dX4_readWords_43 : decode cX4_readWords 43 = .ok (.iload_n 2, 1) := by decide +kernel
theorem dX4_readWords_44 : decode cX4_readWords 44 = .ok (.ifCond .ne 9, 3) := by decide +kernel
theorem dX4_readWords_47 : decode cX4_readWords 47 = .ok (.aload_n 0, 1) := by decide +kernel
theorem dX4_readWords_48 : decode cX4_readWords 48 = .ok (.iconst 1, 1) := by decide +kernel
theorem dX4_readWords_49 : decode cX4_readWords 49 = .ok (.invokevirtual 59, 3) := by decide +kernel
theorem dX4_readWords_52 : decode cX4_readWords 52 = .ok (.ireturn, 1) := by decide +kernel
theorem dX4_readWords_53 : decode cX4_readWords 53 = .ok (.iload_n 3, 1) := by decide +kernel
theorem dX4_readWords_54 : decode cX4_readWords 54 = .ok (.bipush 59, 2) := by decide +kernel
theorem dX4_readWords_56 : decode cX4_readWords 56 = .ok (.if_icmp .ne 15, 3) := by decide +kernel
theorem dX4_readWords_59 : decode cX4_readWords 59 = .ok (.aload_n 0, 1) := by decide +kernel
theorem dX4_readWords_60 : decode cX4_readWords 60 = .ok (.dup, 1) := by decide +kernel
theorem dX4_readWords_61 : decode cX4_readWords 61 = .ok (.getfield 27, 3) := by decide +kernel
theorem dX4_readWords_64 : decode cX4_readWords 64 = .ok (.iconst 1, 1) := by decide +kernel
theorem dX4_readWords_65 : decode cX4_readWords 65 = .ok (.iadd, 1) := by decide +kernel
theorem dX4_readWords_66 : decode cX4_readWords 66 = .ok (.putfield 27, 3) := by decide +kernel
theorem dX4_readWords_69 : decode cX4_readWords 69 = .ok (.iconst 1, 1) := by decide +kernel
theorem dX4_readWords_70 : decode cX4_readWords 70 = .ok (.ireturn, 1) := by decide +kernel
theorem dX4_readWords_71 : decode cX4_readWords 71 = .ok (.aload_n 0, 1) := by decide +kernel
theorem dX4_readWords_72 : decode cX4_readWords 72 = .ok (.aload_n 1, 1) := by decide +kernel
theorem dX4_readWords_73 : decode cX4_readWords 73 = .ok (.invokevirtual 155, 3) := by decide +kernel
theorem dX4_readWords_76 : decode cX4_readWords 76 = .ok (.ifCond .ne 5, 3) := by decide +kernel
theorem dX4_readWords_79 : decode cX4_readWords 79 = .ok (.iconst 0, 1) := by decide +kernel
theorem dX4_readWords_80 : decode cX4_readWords 80 = .ok (.ireturn, 1) := by decide +kernel
theorem dX4_readWords_81 : decode cX4_readWords 81 = .ok (.iinc 2 1, 3) := by decide +kernel
theorem dX4_readWords_84 : decode cX4_readWords 84 = .ok (.goto (-82), 3) := by decide +kernel
theorem dX4_readWords_87 : decode cX4_readWords 87 = .ok (.iconst 0, 1) := by decide +kernel
theorem dX4_readWords_88 : decode cX4_readWords 88 = .ok (.ireturn, 1) := by decide +kernel
theorem dX4_readWord_0 : decode cX4_readWord 0 = .ok (.lconst 0, 1) := by decide +kernel
theorem dX4_readWord_1 : decode cX4_readWord 1 = .ok (.lstore_n 2, 1) := by decide +kernel
theorem dX4_readWord_2 : decode cX4_readWord 2 = .ok (.iconst 1, 1) := by decide +kernel
theorem dX4_readWord_3 : decode cX4_readWord 3 = .ok (.istore 4, 2) := by decide +kernel
theorem dX4_readWord_5 : decode cX4_readWord 5 = .ok (.aload_n 0, 1) := by decide +kernel
theorem dX4_readWord_6 : decode cX4_readWord 6 = .ok (.getfield 43, 3) := by decide +kernel
theorem dX4_readWord_9 : decode cX4_readWord 9 = .ok (.istore 5, 2) := by decide +kernel
theorem dX4_readWord_11 : decode cX4_readWord 11 = .ok (.iload 5, 2) := by decide +kernel
theorem dX4_readWord_13 : decode cX4_readWord 13 = .ok (.aload_n 0, 1) := by decide +kernel
theorem dX4_readWord_14 : decode cX4_readWord 14 = .ok (.getfield 9, 3) := by decide +kernel
theorem dX4_readWord_17 : decode cX4_readWord 17 = .ok (.getfield 46, 3) := by decide +kernel
theorem dX4_readWord_20 : decode cX4_readWord 20 = .ok (.if_icmp .ge 75, 3) := by decide +kernel
theorem dX4_readWord_23 : decode cX4_readWord 23 = .ok (.aload_n 0, 1) := by decide +kernel
theorem dX4_readWord_24 : decode cX4_readWord 24 = .ok (.getfield 9, 3) := by decide +kernel
theorem dX4_readWord_27 : decode cX4_readWord 27 = .ok (.iload 5, 2) := by decide +kernel
theorem dX4_readWord_29 : decode cX4_readWord 29 = .ok (.invokevirtual 138, 3) := by decide +kernel
theorem dX4_readWord_32 : decode cX4_readWord 32 = .ok (.istore 6, 2) := by decide +kernel
theorem dX4_readWord_34 : decode cX4_readWord 34 = .ok (.iload 6, 2) := by decide +kernel
theorem dX4_readWord_36 : decode cX4_readWord 36 = .ok (.invokestatic 158, 3) := by decide +kernel
theorem dX4_readWord_39 : decode cX4_readWord 39 = .ok (.ifCond .ne 56, 3) := by decide +kernel
theorem dX4_readWord_42 : decode cX4_readWord 42 = .ok (.iload 6, 2) := by decide +kernel
theorem dX4_readWord_44 : decode cX4_readWord 44 = .ok (.bipush 59, 2) := by decide +kernel
theorem dX4_readWord_46 : decode cX4_readWord 46 = .ok (.if_icmp .ne 6, 3) := by decide +kernel
theorem dX4_readWord_49 : decode cX4_readWord 49 = .ok (.goto 46, 3) := by decide +kernel
theorem dX4_readWord_52 : decode cX4_readWord 52 = .ok (.iload 4, 2) := by decide +kernel
theorem dX4_readWord_54 : decode cX4_readWord 54 = .ok (.ifCond .eq 15, 3) := by decide +kernel
theorem dX4_readWord_57 : decode cX4_readWord 57 = .ok (.iload 6, 2) := by decide +kernel
theorem dX4_readWord_59 : decode cX4_readWord 59 = .ok (.invokestatic 161, 3) := by decide +kernel
theorem dX4_readWord_62 : decode cX4_readWord 62 = .ok (.ifCond .eq 7, 3) := by decide +kernel
theorem dX4_readWord_65 : decode cX4_readWord 65 = .ok (.iconst 1, 1) := by decide +kernel
theorem dX4_readWord_66 : decode cX4_readWord 66 = .ok (.goto 4, 3) := by decide +kernel
theorem dX4_readWord_69 : decode cX4_readWord 69 = .ok (.iconst 0, 1) := by decide +kernel
theorem dX4_readWord_70 : decode cX4_readWord 70 = .ok (.istore 4, 2) := by decide +kernel
theorem dX4_readWord_72 : decode cX4_readWord 72 = .ok (.lload_n 2, 1) := by decide +kernel
theorem dX4_readWord_73 : decode cX4_readWord 73 = .ok (.bipush 8, 2) := by decide +kernel
theorem dX4_readWord_75 : decode cX4_readWord 75 = .ok (.lshl, 1) := by decide +kernel
theorem dX4_readWord_76 : decode cX4_readWord 76 = .ok (.iload 6, 2) := by decide +kernel
theorem dX4_readWord_78 : decode cX4_readWord 78 = .ok (.i2l, 1) := by decide +kernel
theorem dX4_readWord_79 : decode cX4_readWord 79 = .ok (.lor, 1) := by decide +kernel
theorem dX4_readWord_80 : decode cX4_readWord 80 = .ok (.lstore_n 2, 1) := by decide +kernel
theorem dX4_readWord_81 : decode cX4_readWord 81 = .ok (.aload_n 0, 1) := by decide +kernel
theorem dX4_readWord_82 : decode cX4_readWord 82 = .ok (.iload 5, 2) := by decide +kernel
theorem dX4_readWord_84 : decode cX4_readWord 84 = .ok (.iconst 1, 1) := by decide +kernel
theorem dX4_readWord_85 : decode cX4_readWord 85 = .ok (.iadd, 1) := by decide +kernel
theorem dX4_readWord_86 : decode cX4_readWord 86 = .ok (.putfield 27, 3) := by decide +kernel
theorem dX4_readWord_89 : decode cX4_readWord 89 = .ok (.iinc 5 1, 3) := by decide +kernel
theorem dX4_readWord_92 : decode cX4_readWord 92 = .ok (.goto (-81), 3) := by decide +kernel
theorem dX4_readWord_95 : decode cX4_readWord 95 = .ok (.iload 4, 2) := by decide +kernel
theorem dX4_readWord_97 : decode cX4_readWord 97 = .ok (.ifCond .eq 17, 3) := by decide +kernel
theorem dX4_readWord_100 : decode cX4_readWord 100 = .ok (.aload_n 0, 1) := by decide +kernel
theorem dX4_readWord_101 : decode cX4_readWord 101 = .ok (.getfield 27, 3) := by decide +kernel
theorem dX4_readWord_104 : decode cX4_readWord 104 = .ok (.aload_n 0, 1) := by decide +kernel
theorem dX4_readWord_105 : decode cX4_readWord 105 = .ok (.getfield 43, 3) := by decide +kernel
theorem dX4_readWord_108 : decode cX4_readWord 108 = .ok (.isub, 1) := by decide +kernel
theorem dX4_readWord_109 : decode cX4_readWord 109 = .ok (.bipush 8, 2) := by decide +kernel
theorem dX4_readWord_111 : decode cX4_readWord 111 = .ok (.if_icmp .le 9, 3) := by decide +kernel
theorem dX4_readWord_114 : decode cX4_readWord 114 = .ok (.aload_n 0, 1) := by decide +kernel
theorem dX4_readWord_115 : decode cX4_readWord 115 = .ok (.iconst 1, 1) := by decide +kernel
theorem dX4_readWord_116 : decode cX4_readWord 116 = .ok (.invokevirtual 59, 3) := by decide +kernel
theorem dX4_readWord_119 : decode cX4_readWord 119 = .ok (.ireturn, 1) := by decide +kernel
theorem dX4_readWord_120 : decode cX4_readWord 120 = .ok (.aload_n 1, 1) := by decide +kernel
theorem dX4_readWord_121 : decode cX4_readWord 121 = .ok (.getfield 164, 3) := by decide +kernel
theorem dX4_readWord_124 : decode cX4_readWord 124 = .ok (.getfield 168, 3) := by decide +kernel
theorem dX4_readWord_127 : decode cX4_readWord 127 = .ok (.bipush 6, 2) := by decide +kernel
theorem dX4_readWord_129 : decode cX4_readWord 129 = .ok (.if_icmp .lt 9, 3) := by decide +kernel
theorem dX4_readWord_132 : decode cX4_readWord 132 = .ok (.aload_n 0, 1) := by decide +kernel
theorem dX4_readWord_133 : decode cX4_readWord 133 = .ok (.iconst 3, 1) := by decide +kernel
theorem dX4_readWord_134 : decode cX4_readWord 134 = .ok (.invokevirtual 59, 3) := by decide +kernel
theorem dX4_readWord_137 : decode cX4_readWord 137 = .ok (.ireturn, 1) := by decide +kernel
theorem dX4_readWord_138 : decode cX4_readWord 138 = .ok (.aload_n 1, 1) := by decide +kernel
theorem dX4_readWord_139 : decode cX4_readWord 139 = .ok (.getfield 164, 3) := by decide +kernel
theorem dX4_readWord_142 : decode cX4_readWord 142 = .ok (.lload_n 2, 1) := by decide +kernel
theorem dX4_readWord_143 : decode cX4_readWord 143 = .ok (.invokevirtual 171, 3) := by decide +kernel
theorem dX4_readWord_146 : decode cX4_readWord 146 = .ok (.iconst 1, 1) := by decide +kernel
theorem dX4_readWord_147 : decode cX4_readWord 147 = .ok (.ireturn, 1) := by decide +kernel
theorem dX4_skipBlanks_0 : decode cX4_skipBlanks 0 = .ok (.aload_n 0, 1) := by decide +kernel
theorem dX4_skipBlanks_1 : decode cX4_skipBlanks 1 = .ok (.getfield 27, 3) := by decide +kernel
theorem dX4_skipBlanks_4 : decode cX4_skipBlanks 4 = .ok (.istore_n 1, 1) := by decide +kernel
theorem dX4_skipBlanks_5 : decode cX4_skipBlanks 5 = .ok (.iload_n 1, 1) := by decide +kernel
theorem dX4_skipBlanks_6 : decode cX4_skipBlanks 6 = .ok (.aload_n 0, 1) := by decide +kernel
theorem dX4_skipBlanks_7 : decode cX4_skipBlanks 7 = .ok (.getfield 9, 3) := by decide +kernel
theorem dX4_skipBlanks_10 : decode cX4_skipBlanks 10 = .ok (.getfield 46, 3) := by decide +kernel
theorem dX4_skipBlanks_13 : decode cX4_skipBlanks 13 = .ok (.if_icmp .ge 30, 3) := by decide +kernel
theorem dX4_skipBlanks_16 : decode cX4_skipBlanks 16 = .ok (.aload_n 0, 1) := by decide +kernel
theorem dX4_skipBlanks_17 : decode cX4_skipBlanks 17 = .ok (.getfield 9, 3) := by decide +kernel
theorem dX4_skipBlanks_20 : decode cX4_skipBlanks 20 = .ok (.iload_n 1, 1) := by decide +kernel
theorem dX4_skipBlanks_21 : decode cX4_skipBlanks 21 = .ok (.invokevirtual 138, 3) := by decide +kernel
theorem dX4_skipBlanks_24 : decode cX4_skipBlanks 24 = .ok (.invokestatic 158, 3) := by decide +kernel
theorem dX4_skipBlanks_27 : decode cX4_skipBlanks 27 = .ok (.ifCond .eq 16, 3) := by decide +kernel
theorem dX4_skipBlanks_30 : decode cX4_skipBlanks 30 = .ok (.aload_n 0, 1) := by decide +kernel
theorem dX4_skipBlanks_31 : decode cX4_skipBlanks 31 = .ok (.iload_n 1, 1) := by decide +kernel
theorem dX4_skipBlanks_32 : decode cX4_skipBlanks 32 = .ok (.iconst 1, 1) := by decide +kernel
theorem dX4_skipBlanks_33 : decode cX4_skipBlanks 33 = .ok (.iadd, 1) := by decide +kernel
theorem dX4_skipBlanks_34 : decode cX4_skipBlanks 34 = .ok (.putfield 27, 3) := by decide +kernel
theorem dX4_skipBlanks_37 : decode cX4_skipBlanks 37 = .ok (.iinc 1 1, 3) := by decide +kernel
theorem dX4_skipBlanks_40 : decode cX4_skipBlanks 40 = .ok (.goto (-35), 3) := by decide +kernel
theorem dX4_skipBlanks_43 : decode cX4_skipBlanks 43 = .ok (.return_, 1) := by decide +kernel
theorem dX4_readToken_0 : decode cX4_readToken 0 = .ok (.aload_n 0, 1) := by decide +kernel
theorem dX4_readToken_1 : decode cX4_readToken 1 = .ok (.invokevirtual 152, 3) := by decide +kernel
theorem dX4_readToken_4 : decode cX4_readToken 4 = .ok (.aload_n 0, 1) := by decide +kernel
theorem dX4_readToken_5 : decode cX4_readToken 5 = .ok (.aload_n 0, 1) := by decide +kernel
theorem dX4_readToken_6 : decode cX4_readToken 6 = .ok (.getfield 27, 3) := by decide +kernel
theorem dX4_readToken_9 : decode cX4_readToken 9 = .ok (.putfield 43, 3) := by decide +kernel
theorem dX4_readToken_12 : decode cX4_readToken 12 = .ok (.aload_n 0, 1) := by decide +kernel
theorem dX4_readToken_13 : decode cX4_readToken 13 = .ok (.aload_n 0, 1) := by decide +kernel
theorem dX4_readToken_14 : decode cX4_readToken 14 = .ok (.getfield 9, 3) := by decide +kernel
theorem dX4_readToken_17 : decode cX4_readToken 17 = .ok (.aload_n 0, 1) := by decide +kernel
theorem dX4_readToken_18 : decode cX4_readToken 18 = .ok (.getfield 27, 3) := by decide +kernel
theorem dX4_readToken_21 : decode cX4_readToken 21 = .ok (.invokevirtual 138, 3) := by decide +kernel
theorem dX4_readToken_24 : decode cX4_readToken 24 = .ok (.invokestatic 175, 3) := by decide +kernel
theorem dX4_readToken_27 : decode cX4_readToken 27 = .ok (.putfield 124, 3) := by decide +kernel
theorem dX4_readToken_30 : decode cX4_readToken 30 = .ok (.aload_n 0, 1) := by decide +kernel
theorem dX4_readToken_31 : decode cX4_readToken 31 = .ok (.getfield 27, 3) := by decide +kernel
theorem dX4_readToken_34 : decode cX4_readToken 34 = .ok (.aload_n 0, 1) := by decide +kernel
theorem dX4_readToken_35 : decode cX4_readToken 35 = .ok (.getfield 9, 3) := by decide +kernel
theorem dX4_readToken_38 : decode cX4_readToken 38 = .ok (.getfield 46, 3) := by decide +kernel
theorem dX4_readToken_41 : decode cX4_readToken 41 = .ok (.if_icmp .ge 13, 3) := by decide +kernel
theorem dX4_readToken_44 : decode cX4_readToken 44 = .ok (.aload_n 0, 1) := by decide +kernel
theorem dX4_readToken_45 : decode cX4_readToken 45 = .ok (.dup, 1) := by decide +kernel
theorem dX4_readToken_46 : decode cX4_readToken 46 = .ok (.getfield 27, 3) := by decide +kernel
theorem dX4_readToken_49 : decode cX4_readToken 49 = .ok (.iconst 1, 1) := by decide +kernel
theorem dX4_readToken_50 : decode cX4_readToken 50 = .ok (.iadd, 1) := by decide +kernel
theorem dX4_readToken_51 : decode cX4_readToken 51 = .ok (.putfield 27, 3) := by decide +kernel
theorem dX4_readToken_54 : decode cX4_readToken 54 = .ok (.aload_n 0, 1) := by decide +kernel
theorem dX4_readToken_55 : decode cX4_readToken 55 = .ok (.getfield 124, 3) := by decide +kernel
theorem dX4_readToken_58 : decode cX4_readToken 58 = .ok (.ifCond .ne 4, 3) := by decide +kernel
theorem dX4_readToken_61 : decode cX4_readToken 61 = .ok (.return_, 1) := by decide +kernel
theorem dX4_readToken_62 : decode cX4_readToken 62 = .ok (.aload_n 0, 1) := by decide +kernel
theorem dX4_readToken_63 : decode cX4_readToken 63 = .ok (.getfield 27, 3) := by decide +kernel
theorem dX4_readToken_66 : decode cX4_readToken 66 = .ok (.istore_n 1, 1) := by decide +kernel
theorem dX4_readToken_67 : decode cX4_readToken 67 = .ok (.iload_n 1, 1) := by decide +kernel
theorem dX4_readToken_68 : decode cX4_readToken 68 = .ok (.aload_n 0, 1) := by decide +kernel
theorem dX4_readToken_69 : decode cX4_readToken 69 = .ok (.getfield 9, 3) := by decide +kernel
theorem dX4_readToken_72 : decode cX4_readToken 72 = .ok (.getfield 46, 3) := by decide +kernel
theorem dX4_readToken_75 : decode cX4_readToken 75 = .ok (.if_icmp .ge 34, 3) := by decide +kernel
theorem dX4_readToken_78 : decode cX4_readToken 78 = .ok (.aload_n 0, 1) := by decide +kernel
theorem dX4_readToken_79 : decode cX4_readToken 79 = .ok (.getfield 9, 3) := by decide +kernel
theorem dX4_readToken_82 : decode cX4_readToken 82 = .ok (.iload_n 1, 1) := by decide +kernel
theorem dX4_readToken_83 : decode cX4_readToken 83 = .ok (.invokevirtual 138, 3) := by decide +kernel
theorem dX4_readToken_86 : decode cX4_readToken 86 = .ok (.invokestatic 175, 3) := by decide +kernel
theorem dX4_readToken_89 : decode cX4_readToken 89 = .ok (.aload_n 0, 1) := by decide +kernel
theorem dX4_readToken_90 : decode cX4_readToken 90 = .ok (.getfield 124, 3) := by decide +kernel
theorem dX4_readToken_93 : decode cX4_readToken 93 = .ok (.if_icmp .ne 16, 3) := by decide +kernel
theorem dX4_readToken_96 : decode cX4_readToken 96 = .ok (.aload_n 0, 1) := by decide +kernel
theorem dX4_readToken_97 : decode cX4_readToken 97 = .ok (.iload_n 1, 1) := by decide +kernel
theorem dX4_readToken_98 : decode cX4_readToken 98 = .ok (.iconst 1, 1) := by decide +kernel
theorem dX4_readToken_99 : decode cX4_readToken 99 = .ok (.iadd, 1) := by decide +kernel
theorem dX4_readToken_100 : decode cX4_readToken 100 = .ok (.putfield 27, 3) := by decide +kernel
theorem dX4_readToken_103 : decode cX4_readToken 103 = .ok (.iinc 1 1, 3) := by decide +kernel
theorem dX4_readToken_106 : decode cX4_readToken 106 = .ok (.goto (-39), 3) := by decide +kernel
theorem dX4_readToken_109 : decode cX4_readToken 109 = .ok (.return_, 1) := by decide +kernel
theorem dX4_sortOf_0 : decode cX4_sortOf 0 = .ok (.iload_n 0, 1) := by decide +kernel
theorem dX4_sortOf_1 : decode cX4_sortOf 1 = .ok (.invokestatic 178, 3) := by decide +kernel
theorem dX4_sortOf_4 : decode cX4_sortOf 4 = .ok (.ifCond .eq 5, 3) := by decide +kernel
theorem dX4_sortOf_7 : decode cX4_sortOf 7 = .ok (.iconst 1, 1) := by decide +kernel
theorem dX4_sortOf_8 : decode cX4_sortOf 8 = .ok (.ireturn, 1) := by decide +kernel
theorem dX4_sortOf_9 : decode cX4_sortOf 9 = .ok (.iload_n 0, 1) := by decide +kernel
theorem dX4_sortOf_10 : decode cX4_sortOf 10 = .ok (.invokestatic 181, 3) := by decide +kernel
theorem dX4_sortOf_13 : decode cX4_sortOf 13 = .ok (.ifCond .eq 5, 3) := by decide +kernel
theorem dX4_sortOf_16 : decode cX4_sortOf 16 = .ok (.iconst 2, 1) := by decide +kernel
theorem dX4_sortOf_17 : decode cX4_sortOf 17 = .ok (.ireturn, 1) := by decide +kernel
theorem dX4_sortOf_18 : decode cX4_sortOf 18 = .ok (.iconst 0, 1) := by decide +kernel
theorem dX4_sortOf_19 : decode cX4_sortOf 19 = .ok (.ireturn, 1) := by decide +kernel
theorem dX4_isToken_0 : decode cX4_isToken 0 = .ok (.aload_n 0, 1) := by decide +kernel
theorem dX4_isToken_1 : decode cX4_isToken 1 = .ok (.getfield 27, 3) := by decide +kernel
theorem dX4_isToken_4 : decode cX4_isToken 4 = .ok (.aload_n 0, 1) := by decide +kernel
theorem dX4_isToken_5 : decode cX4_isToken 5 = .ok (.getfield 43, 3) := by decide +kernel
theorem dX4_isToken_8 : decode cX4_isToken 8 = .ok (.isub, 1) := by decide +kernel
theorem dX4_isToken_9 : decode cX4_isToken 9 = .ok (.aload_n 1, 1) := by decide +kernel
theorem dX4_isToken_10 : decode cX4_isToken 10 = .ok (.invokevirtual 184, 3) := by decide +kernel
theorem dX4_isToken_13 : decode cX4_isToken 13 = .ok (.if_icmp .eq 5, 3) := by decide +kernel
theorem dX4_isToken_16 : decode cX4_isToken 16 = .ok (.iconst 0, 1) := by decide +kernel
theorem dX4_isToken_17 : decode cX4_isToken 17 = .ok (.ireturn, 1) := by decide +kernel
theorem dX4_isToken_18 : decode cX4_isToken 18 = .ok (.iconst 0, 1) := by decide +kernel
theorem dX4_isToken_19 : decode cX4_isToken 19 = .ok (.istore_n 2, 1) := by decide +kernel
theorem dX4_isToken_20 : decode cX4_isToken 20 = .ok (.iload_n 2, 1) := by decide +kernel
theorem dX4_isToken_21 : decode cX4_isToken 21 = .ok (.aload_n 1, 1) := by decide +kernel
theorem dX4_isToken_22 : decode cX4_isToken 22 = .ok (.invokevirtual 184, 3) := by decide +kernel
theorem dX4_isToken_25 : decode cX4_isToken 25 = .ok (.if_icmp .ge 32, 3) := by decide +kernel
theorem dX4_isToken_28 : decode cX4_isToken 28 = .ok (.aload_n 0, 1) := by decide +kernel
theorem dX4_isToken_29 : decode cX4_isToken 29 = .ok (.getfield 9, 3) := by decide +kernel
theorem dX4_isToken_32 : decode cX4_isToken 32 = .ok (.aload_n 0, 1) := by decide +kernel
theorem dX4_isToken_33 : decode cX4_isToken 33 = .ok (.getfield 43, 3) := by decide +kernel
theorem dX4_isToken_36 : decode cX4_isToken 36 = .ok (.iload_n 2, 1) := by decide +kernel
theorem dX4_isToken_37 : decode cX4_isToken 37 = .ok (.iadd, 1) := by decide +kernel
theorem dX4_isToken_38 : decode cX4_isToken 38 = .ok (.invokevirtual 138, 3) := by decide +kernel
theorem dX4_isToken_41 : decode cX4_isToken 41 = .ok (.aload_n 1, 1) := by decide +kernel
theorem dX4_isToken_42 : decode cX4_isToken 42 = .ok (.iload_n 2, 1) := by decide +kernel
theorem dX4_isToken_43 : decode cX4_isToken 43 = .ok (.invokevirtual 189, 3) := by decide +kernel
theorem dX4_isToken_46 : decode cX4_isToken 46 = .ok (.if_icmp .eq 5, 3) := by decide +kernel
theorem dX4_isToken_49 : decode cX4_isToken 49 = .ok (.iconst 0, 1) := by decide +kernel
theorem dX4_isToken_50 : decode cX4_isToken 50 = .ok (.ireturn, 1) := by decide +kernel
theorem dX4_isToken_51 : decode cX4_isToken 51 = .ok (.iinc 2 1, 3) := by decide +kernel
theorem dX4_isToken_54 : decode cX4_isToken 54 = .ok (.goto (-34), 3) := by decide +kernel
theorem dX4_isToken_57 : decode cX4_isToken 57 = .ok (.iconst 1, 1) := by decide +kernel
theorem dX4_isToken_58 : decode cX4_isToken 58 = .ok (.ireturn, 1) := by decide +kernel
theorem dX4_refuse_0 : decode cX4_refuse 0 = .ok (.aload_n 0, 1) := by decide +kernel
theorem dX4_refuse_1 : decode cX4_refuse 1 = .ok (.getfield 19, 3) := by decide +kernel
theorem dX4_refuse_4 : decode cX4_refuse 4 = .ok (.iload_n 1, 1) := by decide +kernel
theorem dX4_refuse_5 : decode cX4_refuse 5 = .ok (.aload_n 0, 1) := by decide +kernel
theorem dX4_refuse_6 : decode cX4_refuse 6 = .ok (.getfield 43, 3) := by decide +kernel
theorem dX4_refuse_9 : decode cX4_refuse 9 = .ok (.invokevirtual 193, 3) := by decide +kernel
theorem dX4_refuse_12 : decode cX4_refuse 12 = .ok (.ireturn, 1) := by decide +kernel
theorem dX5_init_0 : decode cX5_init 0 = .ok (.aload_n 0, 1) := by decide +kernel
theorem dX5_init_1 : decode cX5_init 1 = .ok (.invokespecial 3, 3) := by decide +kernel
theorem dX5_init_4 : decode cX5_init 4 = .ok (.aload_n 0, 1) := by decide +kernel
theorem dX5_init_5 : decode cX5_init 5 = .ok (.bipush 40, 2) := by decide +kernel
theorem dX5_init_7 : decode cX5_init 7 = .ok (.anewarray 9, 3) := by decide +kernel
theorem dX5_init_10 : decode cX5_init 10 = .ok (.putfield 11, 3) := by decide +kernel
theorem dX5_init_13 : decode cX5_init 13 = .ok (.aload_n 0, 1) := by decide +kernel
theorem dX5_init_14 : decode cX5_init 14 = .ok (.iconst 3, 1) := by decide +kernel
theorem dX5_init_15 : decode cX5_init 15 = .ok (.newarray .int, 2) := by decide +kernel
theorem dX5_init_17 : decode cX5_init 17 = .ok (.putfield 17, 3) := by decide +kernel
theorem dX5_init_20 : decode cX5_init 20 = .ok (.aload_n 0, 1) := by decide +kernel
theorem dX5_init_21 : decode cX5_init 21 = .ok (.bipush 40, 2) := by decide +kernel
theorem dX5_init_23 : decode cX5_init 23 = .ok (.newarray .int, 2) := by decide +kernel
theorem dX5_init_25 : decode cX5_init 25 = .ok (.putfield 21, 3) := by decide +kernel
theorem dX5_init_28 : decode cX5_init 28 = .ok (.iconst 0, 1) := by decide +kernel
theorem dX5_init_29 : decode cX5_init 29 = .ok (.istore_n 1, 1) := by decide +kernel
theorem dX5_init_30 : decode cX5_init 30 = .ok (.iload_n 1, 1) := by decide +kernel
theorem dX5_init_31 : decode cX5_init 31 = .ok (.bipush 40, 2) := by decide +kernel
theorem dX5_init_33 : decode cX5_init 33 = .ok (.if_icmp .ge 22, 3) := by decide +kernel
theorem dX5_init_36 : decode cX5_init 36 = .ok (.aload_n 0, 1) := by decide +kernel
theorem dX5_init_37 : decode cX5_init 37 = .ok (.getfield 11, 3) := by decide +kernel
theorem dX5_init_40 : decode cX5_init 40 = .ok (.iload_n 1, 1) := by decide +kernel
theorem dX5_init_41 : decode cX5_init 41 = .ok (.new 9, 3) := by decide +kernel
theorem dX5_init_44 : decode cX5_init 44 = .ok (.dup, 1) := by decide +kernel
theorem dX5_init_45 : decode cX5_init 45 = .ok (.invokespecial 24, 3) := by decide +kernel
theorem dX5_init_48 : decode cX5_init 48 = .ok (.aastore, 1) := by decide +kernel
theorem dX5_init_49 : decode cX5_init 49 = .ok (.iinc 1 1, 3) := by decide +kernel
theorem dX5_init_52 : decode cX5_init 52 = .ok (.goto (-22), 3) := by decide +kernel
theorem dX5_init_55 : decode cX5_init 55 = .ok (.iconst 0, 1) := by decide +kernel
theorem dX5_init_56 : decode cX5_init 56 = .ok (.istore_n 1, 1) := by decide +kernel
theorem dX5_init_57 : decode cX5_init 57 = .ok (.iload_n 1, 1) := by decide +kernel
theorem dX5_init_58 : decode cX5_init 58 = .ok (.iconst 3, 1) := by decide +kernel
theorem dX5_init_59 : decode cX5_init 59 = .ok (.if_icmp .ge 16, 3) := by decide +kernel
theorem dX5_init_62 : decode cX5_init 62 = .ok (.aload_n 0, 1) := by decide +kernel
theorem dX5_init_63 : decode cX5_init 63 = .ok (.getfield 17, 3) := by decide +kernel
theorem dX5_init_66 : decode cX5_init 66 = .ok (.iload_n 1, 1) := by decide +kernel
theorem dX5_init_67 : decode cX5_init 67 = .ok (.iload_n 1, 1) := by decide +kernel
theorem dX5_init_68 : decode cX5_init 68 = .ok (.iastore, 1) := by decide +kernel
theorem dX5_init_69 : decode cX5_init 69 = .ok (.iinc 1 1, 3) := by decide +kernel
theorem dX5_init_72 : decode cX5_init 72 = .ok (.goto (-15), 3) := by decide +kernel
theorem dX5_init_75 : decode cX5_init 75 = .ok (.return_, 1) := by decide +kernel
theorem dX5_clear_0 : decode cX5_clear 0 = .ok (.aload_n 0, 1) := by decide +kernel
theorem dX5_clear_1 : decode cX5_clear 1 = .ok (.iconst 0, 1) := by decide +kernel
theorem dX5_clear_2 : decode cX5_clear 2 = .ok (.putfield 25, 3) := by decide +kernel
theorem dX5_clear_5 : decode cX5_clear 5 = .ok (.aload_n 0, 1) := by decide +kernel
theorem dX5_clear_6 : decode cX5_clear 6 = .ok (.iconst 0, 1) := by decide +kernel
theorem dX5_clear_7 : decode cX5_clear 7 = .ok (.putfield 29, 3) := by decide +kernel
theorem dX5_clear_10 : decode cX5_clear 10 = .ok (.aload_n 0, 1) := by decide +kernel
theorem dX5_clear_11 : decode cX5_clear 11 = .ok (.iconst 0, 1) := by decide +kernel
theorem dX5_clear_12 : decode cX5_clear 12 = .ok (.putfield 32, 3) := by decide +kernel
theorem dX5_clear_15 : decode cX5_clear 15 = .ok (.return_, 1) := by decide +kernel
theorem dX5_rankOf_0 : decode cX5_rankOf 0 = .ok (.iload_n 1, 1) := by decide +kernel
theorem dX5_rankOf_1 : decode cX5_rankOf 1 = .ok (.ifCond .lt 12, 3) := by decide +kernel
theorem dX5_rankOf_4 : decode cX5_rankOf 4 = .ok (.iload_n 1, 1) := by decide +kernel
theorem dX5_rankOf_5 : decode cX5_rankOf 5 = .ok (.aload_n 0, 1) := by decide +kernel
theorem dX5_rankOf_6 : decode cX5_rankOf 6 = .ok (.getfield 17, 3) := by decide +kernel
theorem dX5_rankOf_9 : decode cX5_rankOf 9 = .ok (.arraylength, 1) := by decide +kernel
theorem dX5_rankOf_10 : decode cX5_rankOf 10 = .ok (.if_icmp .lt 7, 3) := by decide +kernel
theorem dX5_rankOf_13 : decode cX5_rankOf 13 = .ok (.iconst (-1), 1) := by decide +kernel
theorem dX5_rankOf_14 : decode cX5_rankOf 14 = .ok (.goto 9, 3) := by decide +kernel
theorem dX5_rankOf_17 : decode cX5_rankOf 17 = .ok (.aload_n 0, 1) := by decide +kernel
theorem dX5_rankOf_18 : decode cX5_rankOf 18 = .ok (.getfield 17, 3) := by decide +kernel
theorem dX5_rankOf_21 : decode cX5_rankOf 21 = .ok (.iload_n 1, 1) := by decide +kernel
theorem dX5_rankOf_22 : decode cX5_rankOf 22 = .ok (.iaload, 1) := by decide +kernel
theorem dX5_rankOf_23 : decode cX5_rankOf 23 = .ok (.ireturn, 1) := by decide +kernel
theorem dX5_markAt_0 : decode cX5_markAt 0 = .ok (.iload_n 1, 1) := by decide +kernel
theorem dX5_markAt_1 : decode cX5_markAt 1 = .ok (.ifCond .lt 12, 3) := by decide +kernel
theorem dX5_markAt_4 : decode cX5_markAt 4 = .ok (.iload_n 1, 1) := by decide +kernel
theorem dX5_markAt_5 : decode cX5_markAt 5 = .ok (.aload_n 0, 1) := by decide +kernel
theorem dX5_markAt_6 : decode cX5_markAt 6 = .ok (.getfield 11, 3) := by decide +kernel
theorem dX5_markAt_9 : decode cX5_markAt 9 = .ok (.arraylength, 1) := by decide +kernel
theorem dX5_markAt_10 : decode cX5_markAt 10 = .ok (.if_icmp .lt 7, 3) := by decide +kernel
theorem dX5_markAt_13 : decode cX5_markAt 13 = .ok (.aconst_null, 1) := by decide +kernel
theorem dX5_markAt_14 : decode cX5_markAt 14 = .ok (.goto 9, 3) := by decide +kernel
theorem dX5_markAt_17 : decode cX5_markAt 17 = .ok (.aload_n 0, 1) := by decide +kernel
theorem dX5_markAt_18 : decode cX5_markAt 18 = .ok (.getfield 11, 3) := by decide +kernel
theorem dX5_markAt_21 : decode cX5_markAt 21 = .ok (.iload_n 1, 1) := by decide +kernel
theorem dX5_markAt_22 : decode cX5_markAt 22 = .ok (.aaload, 1) := by decide +kernel
theorem dX5_markAt_23 : decode cX5_markAt 23 = .ok (.areturn, 1) := by decide +kernel
theorem dX5_find_0 : decode cX5_find 0 = .ok (.iload_n 1, 1) := by decide +kernel
theorem dX5_find_1 : decode cX5_find 1 = .ok (.aload_n 0, 1) := by decide +kernel
theorem dX5_find_2 : decode cX5_find 2 = .ok (.getfield 25, 3) := by decide +kernel
theorem dX5_find_5 : decode cX5_find 5 = .ok (.if_icmp .lt 7, 3) := by decide +kernel
theorem dX5_find_8 : decode cX5_find 8 = .ok (.aconst_null, 1) := by decide +kernel
theorem dX5_find_9 : decode cX5_find 9 = .ok (.goto 8, 3) := by decide +kernel
theorem dX5_find_12 : decode cX5_find 12 = .ok (.aload_n 0, 1) := by decide +kernel
theorem dX5_find_13 : decode cX5_find 13 = .ok (.iload_n 1, 1) := by decide +kernel
theorem dX5_find_14 : decode cX5_find 14 = .ok (.invokevirtual 35, 3) := by decide +kernel
theorem dX5_find_17 : decode cX5_find 17 = .ok (.areturn, 1) := by decide +kernel
theorem dX5_findNoStet_0 : decode cX5_findNoStet 0 = .ok (.aload_n 0, 1) := by decide +kernel
theorem dX5_findNoStet_1 : decode cX5_findNoStet 1 = .ok (.iload_n 1, 1) := by decide +kernel
theorem dX5_findNoStet_2 : decode cX5_findNoStet 2 = .ok (.invokevirtual 39, 3) := by decide +kernel
theorem dX5_findNoStet_5 : decode cX5_findNoStet 5 = .ok (.astore_n 2, 1) := by decide +kernel
theorem dX5_findNoStet_6 : decode cX5_findNoStet 6 = .ok (.aload_n 2, 1) := by decide +kernel
theorem dX5_findNoStet_7 : decode cX5_findNoStet 7 = .ok (.ifnull 11, 3) := by decide +kernel
theorem dX5_findNoStet_10 : decode cX5_findNoStet 10 = .ok (.aload_n 2, 1) := by decide +kernel
theorem dX5_findNoStet_11 : decode cX5_findNoStet 11 = .ok (.getfield 42, 3) := by decide +kernel
theorem dX5_findNoStet_14 : decode cX5_findNoStet 14 = .ok (.iconst 5, 1) := by decide +kernel
theorem dX5_findNoStet_15 : decode cX5_findNoStet 15 = .ok (.if_icmp .ne 7, 3) := by decide +kernel
theorem dX5_findNoStet_18 : decode cX5_findNoStet 18 = .ok (.aconst_null, 1) := by decide +kernel
theorem dX5_findNoStet_19 : decode cX5_findNoStet 19 = .ok (.goto 4, 3) := by decide +kernel
theorem dX5_findNoStet_22 : decode cX5_findNoStet 22 = .ok (.aload_n 2, 1) := by decide +kernel
theorem dX5_findNoStet_23 : decode cX5_findNoStet 23 = .ok (.areturn, 1) := by decide +kernel
theorem dX5_blank_0 : decode cX5_blank 0 = .ok (.aload_n 0, 1) := by decide +kernel
theorem dX5_blank_1 : decode cX5_blank 1 = .ok (.aload_n 0, 1) := by decide +kernel
theorem dX5_blank_2 : decode cX5_blank 2 = .ok (.getfield 25, 3) := by decide +kernel
theorem dX5_blank_5 : decode cX5_blank 5 = .ok (.aload_n 0, 1) := by decide +kernel
theorem dX5_blank_6 : decode cX5_blank 6 = .ok (.getfield 29, 3) := by decide +kernel
theorem dX5_blank_9 : decode cX5_blank 9 = .ok (.iadd, 1) := by decide +kernel
theorem dX5_blank_10 : decode cX5_blank 10 = .ok (.invokevirtual 35, 3) := by decide +kernel
theorem dX5_blank_13 : decode cX5_blank 13 = .ok (.astore_n 1, 1) := by decide +kernel
theorem dX5_blank_14 : decode cX5_blank 14 = .ok (.aload_n 1, 1) := by decide +kernel
theorem dX5_blank_15 : decode cX5_blank 15 = .ok (.ifnull 7, 3) := by decide +kernel
theorem dX5_blank_18 : decode cX5_blank 18 = .ok (.aload_n 1, 1) := by decide +kernel
theorem dX5_blank_19 : decode cX5_blank 19 = .ok (.invokevirtual 45, 3) := by decide +kernel
theorem dX5_blank_22 : decode cX5_blank 22 = .ok (.aload_n 1, 1) := by decide +kernel
theorem dX5_blank_23 : decode cX5_blank 23 = .ok (.areturn, 1) := by decide +kernel
theorem dX5_canBeStet_0 : decode cX5_canBeStet 0 = .ok (.iload_n 1, 1) := by decide +kernel
theorem dX5_canBeStet_1 : decode cX5_canBeStet 1 = .ok (.aload_n 0, 1) := by decide +kernel
theorem dX5_canBeStet_2 : decode cX5_canBeStet 2 = .ok (.getfield 25, 3) := by decide +kernel
theorem dX5_canBeStet_5 : decode cX5_canBeStet 5 = .ok (.aload_n 0, 1) := by decide +kernel
theorem dX5_canBeStet_6 : decode cX5_canBeStet 6 = .ok (.getfield 29, 3) := by decide +kernel
theorem dX5_canBeStet_9 : decode cX5_canBeStet 9 = .ok (.iadd, 1) := by decide +kernel
theorem dX5_canBeStet_10 : decode cX5_canBeStet 10 = .ok (.if_icmp .lt 7, 3) := by decide +kernel
theorem dX5_canBeStet_13 : decode cX5_canBeStet 13 = .ok (.aconst_null, 1) := by decide +kernel
theorem dX5_canBeStet_14 : decode cX5_canBeStet 14 = .ok (.goto 8, 3) := by decide +kernel
theorem dX5_canBeStet_17 : decode cX5_canBeStet 17 = .ok (.aload_n 0, 1) := by decide +kernel
theorem dX5_canBeStet_18 : decode cX5_canBeStet 18 = .ok (.iload_n 1, 1) := by decide +kernel
theorem dX5_canBeStet_19 : decode cX5_canBeStet 19 = .ok (.invokevirtual 35, 3) := by decide +kernel
theorem dX5_canBeStet_22 : decode cX5_canBeStet 22 = .ok (.astore_n 2, 1) := by decide +kernel
theorem dX5_canBeStet_23 : decode cX5_canBeStet 23 = .ok (.aload_n 2, 1) := by decide +kernel
theorem dX5_canBeStet_24 : decode cX5_canBeStet 24 = .ok (.ifnull 15, 3) := by decide +kernel
theorem dX5_canBeStet_27 : decode cX5_canBeStet 27 = .ok (.aload_n 2, 1) := by decide +kernel
theorem dX5_canBeStet_28 : decode cX5_canBeStet 28 = .ok (.getfield 42, 3) := by decide +kernel
theorem dX5_canBeStet_31 : decode cX5_canBeStet 31 = .ok (.iconst 5, 1) := by decide +kernel
theorem dX5_canBeStet_32 : decode cX5_canBeStet 32 = .ok (.if_icmp .eq 7, 3) := by decide +kernel
theorem dX5_canBeStet_35 : decode cX5_canBeStet 35 = .ok (.iconst 1, 1) := by decide +kernel
theorem dX5_canBeStet_36 : decode cX5_canBeStet 36 = .ok (.goto 4, 3) := by decide +kernel
theorem dX5_canBeStet_39 : decode cX5_canBeStet 39 = .ok (.iconst 0, 1) := by decide +kernel
theorem dX5_canBeStet_40 : decode cX5_canBeStet 40 = .ok (.ireturn, 1) := by decide +kernel
theorem dX5_accept_0 : decode cX5_accept 0 = .ok (.aload_n 0, 1) := by decide +kernel
theorem dX5_accept_1 : decode cX5_accept 1 = .ok (.getfield 29, 3) := by decide +kernel
theorem dX5_accept_4 : decode cX5_accept 4 = .ok (.istore_n 1, 1) := by decide +kernel
theorem dX5_accept_5 : decode cX5_accept 5 = .ok (.aload_n 0, 1) := by decide +kernel
theorem dX5_accept_6 : decode cX5_accept 6 = .ok (.dup, 1) := by decide +kernel
theorem dX5_accept_7 : decode cX5_accept 7 = .ok (.getfield 25, 3) := by decide +kernel
theorem dX5_accept_10 : decode cX5_accept 10 = .ok (.aload_n 0, 1) := by decide +kernel
theorem dX5_accept_11 : decode cX5_accept 11 = .ok (.getfield 29, 3) := by decide +kernel
theorem dX5_accept_14 : decode cX5_accept 14 = .ok (.iadd, 1) := by decide +kernel
theorem dX5_accept_15 : decode cX5_accept 15 = .ok (.putfield 25, 3) := by decide +kernel
theorem dX5_accept_18 : decode cX5_accept 18 = .ok (.aload_n 0, 1) := by decide +kernel
theorem dX5_accept_19 : decode cX5_accept 19 = .ok (.iconst 0, 1) := by decide +kernel
theorem dX5_accept_20 : decode cX5_accept 20 = .ok (.putfield 29, 3) := by decide +kernel
theorem dX5_accept_23 : decode cX5_accept 23 = .ok (.aload_n 0, 1) := by decide +kernel
theorem dX5_accept_24 : decode cX5_accept 24 = .ok (.getfield 25, 3) := by decide +kernel
theorem dX5_accept_27 : decode cX5_accept 27 = .ok (.iload_n 1, 1) := by decide +kernel
theorem dX5_accept_28 : decode cX5_accept 28 = .ok (.isub, 1) := by decide +kernel
theorem dX5_accept_29 : decode cX5_accept 29 = .ok (.istore_n 2, 1) := by decide +kernel
theorem dX5_accept_30 : decode cX5_accept 30 = .ok (.iload_n 2, 1) := by decide +kernel
theorem dX5_accept_31 : decode cX5_accept 31 = .ok (.aload_n 0, 1) := by decide +kernel
theorem dX5_accept_32 : decode cX5_accept 32 = .ok (.getfield 25, 3) := by decide +kernel
theorem dX5_accept_35 : decode cX5_accept 35 = .ok (.if_icmp .ge 52, 3) := by decide +kernel
theorem dX5_accept_38 : decode cX5_accept 38 = .ok (.aload_n 0, 1) := by decide +kernel
theorem dX5_accept_39 : decode cX5_accept 39 = .ok (.iload_n 2, 1) := by decide +kernel
theorem dX5_accept_40 : decode cX5_accept 40 = .ok (.invokevirtual 39, 3) := by decide +kernel
theorem dX5_accept_43 : decode cX5_accept 43 = .ok (.astore_n 3, 1) := by decide +kernel
theorem dX5_accept_44 : decode cX5_accept 44 = .ok (.aload_n 3, 1) := by decide +kernel
theorem dX5_accept_45 : decode cX5_accept 45 = .ok (.ifnull 36, 3) := by decide +kernel
theorem dX5_accept_48 : decode cX5_accept 48 = .ok (.aload_n 3, 1) := by decide +kernel
theorem dX5_accept_49 : decode cX5_accept 49 = .ok (.getfield 42, 3) := by decide +kernel
theorem dX5_accept_52 : decode cX5_accept 52 = .ok (.iconst 5, 1) := by decide +kernel
theorem dX5_accept_53 : decode cX5_accept 53 = .ok (.if_icmp .eq 6, 3) := by decide +kernel
theorem dX5_accept_56 : decode cX5_accept 56 = .ok (.goto 25, 3) := by decide +kernel
theorem dX5_accept_59 : decode cX5_accept 59 = .ok (.aload_n 0, 1) := by decide +kernel
theorem dX5_accept_60 : decode cX5_accept 60 = .ok (.aload_n 3, 1) := by decide +kernel
theorem dX5_accept_61 : decode cX5_accept 61 = .ok (.iconst 0, 1) := by decide +kernel
theorem dX5_accept_62 : decode cX5_accept 62 = .ok (.invokevirtual 48, 3) := by decide +kernel
theorem dX5_accept_65 : decode cX5_accept 65 = .ok (.invokevirtual 39, 3) := by decide +kernel
theorem dX5_accept_68 : decode cX5_accept 68 = .ok (.astore 4, 2) := by decide +kernel
theorem dX5_accept_70 : decode cX5_accept 70 = .ok (.aload 4, 2) := by decide +kernel
theorem dX5_accept_72 : decode cX5_accept 72 = .ok (.ifnull 9, 3) := by decide +kernel
theorem dX5_accept_75 : decode cX5_accept 75 = .ok (.aload 4, 2) := by decide +kernel
theorem dX5_accept_77 : decode cX5_accept 77 = .ok (.iload_n 2, 1) := by decide +kernel
theorem dX5_accept_78 : decode cX5_accept 78 = .ok (.invokevirtual 52, 3) := by decide +kernel
theorem dX5_accept_81 : decode cX5_accept 81 = .ok (.iinc 2 1, 3) := by decide +kernel
theorem dX5_accept_84 : decode cX5_accept 84 = .ok (.goto (-54), 3) := by decide +kernel
theorem dX5_accept_87 : decode cX5_accept 87 = .ok (.iload_n 1, 1) := by decide +kernel
theorem dX5_accept_88 : decode cX5_accept 88 = .ok (.ireturn, 1) := by decide +kernel
theorem dX5_decide_0 : decode cX5_decide 0 = .ok (.iconst 0, 1) := by decide +kernel
theorem dX5_decide_1 : decode cX5_decide 1 = .ok (.istore_n 1, 1) := by decide +kernel
theorem dX5_decide_2 : decode cX5_decide 2 = .ok (.iload_n 1, 1) := by decide +kernel
theorem dX5_decide_3 : decode cX5_decide 3 = .ok (.aload_n 0, 1) := by decide +kernel
theorem dX5_decide_4 : decode cX5_decide 4 = .ok (.getfield 25, 3) := by decide +kernel
theorem dX5_decide_7 : decode cX5_decide 7 = .ok (.if_icmp .ge 32, 3) := by decide +kernel
theorem dX5_decide_10 : decode cX5_decide 10 = .ok (.aload_n 0, 1) := by decide +kernel
theorem dX5_decide_11 : decode cX5_decide 11 = .ok (.iload_n 1, 1) := by decide +kernel
theorem dX5_decide_12 : decode cX5_decide 12 = .ok (.invokevirtual 39, 3) := by decide +kernel
theorem dX5_decide_15 : decode cX5_decide 15 = .ok (.astore_n 2, 1) := by decide +kernel
theorem dX5_decide_16 : decode cX5_decide 16 = .ok (.aload_n 2, 1) := by decide +kernel
theorem dX5_decide_17 : decode cX5_decide 17 = .ok (.ifnull 16, 3) := by decide +kernel
theorem dX5_decide_20 : decode cX5_decide 20 = .ok (.aload_n 2, 1) := by decide +kernel
theorem dX5_decide_21 : decode cX5_decide 21 = .ok (.iconst (-1), 1) := by decide +kernel
theorem dX5_decide_22 : decode cX5_decide 22 = .ok (.putfield 56, 3) := by decide +kernel
theorem dX5_decide_25 : decode cX5_decide 25 = .ok (.aload_n 2, 1) := by decide +kernel
theorem dX5_decide_26 : decode cX5_decide 26 = .ok (.aload_n 2, 1) := by decide +kernel
theorem dX5_decide_27 : decode cX5_decide 27 = .ok (.invokevirtual 59, 3) := by decide +kernel
theorem dX5_decide_30 : decode cX5_decide 30 = .ok (.putfield 63, 3) := by decide +kernel
theorem dX5_decide_33 : decode cX5_decide 33 = .ok (.iinc 1 1, 3) := by decide +kernel
theorem dX5_decide_36 : decode cX5_decide 36 = .ok (.goto (-34), 3) := by decide +kernel
theorem dX5_decide_39 : decode cX5_decide 39 = .ok (.iconst 0, 1) := by decide +kernel
theorem dX5_decide_40 : decode cX5_decide 40 = .ok (.istore_n 1, 1) := by decide +kernel
theorem dX5_decide_41 : decode cX5_decide 41 = .ok (.iload_n 1, 1) := by decide +kernel
theorem dX5_decide_42 : decode cX5_decide 42 = .ok (.bipush 9, 2) := by decide +kernel
theorem dX5_decide_44 : decode cX5_decide 44 = .ok (.if_icmp .gt 80, 3) := by decide +kernel
theorem dX5_decide_47 : decode cX5_decide 47 = .ok (.iconst 0, 1) := by decide +kernel
theorem dX5_decide_48 : decode cX5_decide 48 = .ok (.istore_n 2, 1) := by decide +kernel
theorem dX5_decide_49 : decode cX5_decide 49 = .ok (.iload_n 2, 1) := by decide +kernel
theorem dX5_decide_50 : decode cX5_decide 50 = .ok (.aload_n 0, 1) := by decide +kernel
theorem dX5_decide_51 : decode cX5_decide 51 = .ok (.getfield 25, 3) := by decide +kernel
theorem dX5_decide_54 : decode cX5_decide 54 = .ok (.if_icmp .ge 64, 3) := by decide +kernel
theorem dX5_decide_57 : decode cX5_decide 57 = .ok (.aload_n 0, 1) := by decide +kernel
theorem dX5_decide_58 : decode cX5_decide 58 = .ok (.iload_n 2, 1) := by decide +kernel
theorem dX5_decide_59 : decode cX5_decide 59 = .ok (.invokevirtual 39, 3) := by decide +kernel
theorem dX5_decide_62 : decode cX5_decide 62 = .ok (.astore_n 3, 1) := by decide +kernel
theorem dX5_decide_63 : decode cX5_decide 63 = .ok (.aload_n 3, 1) := by decide +kernel
theorem dX5_decide_64 : decode cX5_decide 64 = .ok (.ifnull 48, 3) := by decide +kernel
theorem dX5_decide_67 : decode cX5_decide 67 = .ok (.aload_n 3, 1) := by decide +kernel
theorem dX5_decide_68 : decode cX5_decide 68 = .ok (.invokevirtual 66, 3) := by decide +kernel
theorem dX5_decide_71 : decode cX5_decide 71 = .ok (.ifCond .eq 41, 3) := by decide +kernel
theorem dX5_decide_74 : decode cX5_decide 74 = .ok (.aload_n 0, 1) := by decide +kernel
theorem dX5_decide_75 : decode cX5_decide 75 = .ok (.aload_n 3, 1) := by decide +kernel
theorem dX5_decide_76 : decode cX5_decide 76 = .ok (.getfield 70, 3) := by decide +kernel
theorem dX5_decide_79 : decode cX5_decide 79 = .ok (.invokevirtual 73, 3) := by decide +kernel
theorem dX5_decide_82 : decode cX5_decide 82 = .ok (.iload_n 1, 1) := by decide +kernel
theorem dX5_decide_83 : decode cX5_decide 83 = .ok (.if_icmp .ne 29, 3) := by decide +kernel
