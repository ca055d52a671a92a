theorem dX11_init_20 : decode cX11_init 20 = .ok (.invokespecial 18, 3) := by decide +kernel
theorem dX11_init_23 : decode cX11_init 23 = .ok (.putfield 19, 3) := by decide +kernel
theorem dX11_init_26 : decode cX11_init 26 = .ok (.aload_n 0, 1) := by decide +kernel
theorem dX11_init_27 : decode cX11_init 27 = .ok (.new 23, 3) := by decide +kernel
theorem dX11_init_30 : decode cX11_init 30 = .ok (.dup, 1) := by decide +kernel
theorem dX11_init_31 : decode cX11_init 31 = .ok (.bipush 60, 2) := by decide +kernel
theorem dX11_init_33 : decode cX11_init 33 = .ok (.invokespecial 25, 3) := by decide +kernel
theorem dX11_init_36 : decode cX11_init 36 = .ok (.putfield 28, 3) := by decide +kernel
theorem dX11_init_39 : decode cX11_init 39 = .ok (.aload_n 0, 1) := by decide +kernel
theorem dX11_init_40 : decode cX11_init 40 = .ok (.new 23, 3) := by decide +kernel
theorem dX11_init_43 : decode cX11_init 43 = .ok (.dup, 1) := by decide +kernel
theorem dX11_init_44 : decode cX11_init 44 = .ok (.sipush 150, 3) := by decide +kernel
theorem dX11_init_47 : decode cX11_init 47 = .ok (.invokespecial 25, 3) := by decide +kernel
theorem dX11_init_50 : decode cX11_init 50 = .ok (.putfield 32, 3) := by decide +kernel
theorem dX11_init_53 : decode cX11_init 53 = .ok (.aload_n 0, 1) := by decide +kernel
theorem dX11_init_54 : decode cX11_init 54 = .ok (.new 23, 3) := by decide +kernel
theorem dX11_init_57 : decode cX11_init 57 = .ok (.dup, 1) := by decide +kernel
theorem dX11_init_58 : decode cX11_init 58 = .ok (.sipush 300, 3) := by decide +kernel
theorem dX11_init_61 : decode cX11_init 61 = .ok (.invokespecial 25, 3) := by decide +kernel
theorem dX11_init_64 : decode cX11_init 64 = .ok (.putfield 35, 3) := by decide +kernel
theorem dX11_init_67 : decode cX11_init 67 = .ok (.aload_n 0, 1) := by decide +kernel
theorem dX11_init_68 : decode cX11_init 68 = .ok (.new 38, 3) := by decide +kernel
theorem dX11_init_71 : decode cX11_init 71 = .ok (.dup, 1) := by decide +kernel
theorem dX11_init_72 : decode cX11_init 72 = .ok (.invokespecial 40, 3) := by decide +kernel
theorem dX11_init_75 : decode cX11_init 75 = .ok (.putfield 41, 3) := by decide +kernel
theorem dX11_init_78 : decode cX11_init 78 = .ok (.aload_n 0, 1) := by decide +kernel
theorem dX11_init_79 : decode cX11_init 79 = .ok (.new 45, 3) := by decide +kernel
theorem dX11_init_82 : decode cX11_init 82 = .ok (.dup, 1) := by decide +kernel
theorem dX11_init_83 : decode cX11_init 83 = .ok (.invokespecial 47, 3) := by decide +kernel
theorem dX11_init_86 : decode cX11_init 86 = .ok (.putfield 48, 3) := by decide +kernel
theorem dX11_init_89 : decode cX11_init 89 = .ok (.aload_n 0, 1) := by decide +kernel
theorem dX11_init_90 : decode cX11_init 90 = .ok (.new 52, 3) := by decide +kernel
theorem dX11_init_93 : decode cX11_init 93 = .ok (.dup, 1) := by decide +kernel
theorem dX11_init_94 : decode cX11_init 94 = .ok (.invokespecial 54, 3) := by decide +kernel
theorem dX11_init_97 : decode cX11_init 97 = .ok (.putfield 55, 3) := by decide +kernel
theorem dX11_init_100 : decode cX11_init 100 = .ok (.aload_n 0, 1) := by decide +kernel
theorem dX11_init_101 : decode cX11_init 101 = .ok (.new 59, 3) := by decide +kernel
theorem dX11_init_104 : decode cX11_init 104 = .ok (.dup, 1) := by decide +kernel
theorem dX11_init_105 : decode cX11_init 105 = .ok (.invokespecial 61, 3) := by decide +kernel
theorem dX11_init_108 : decode cX11_init 108 = .ok (.putfield 62, 3) := by decide +kernel
theorem dX11_init_111 : decode cX11_init 111 = .ok (.aload_n 0, 1) := by decide +kernel
theorem dX11_init_112 : decode cX11_init 112 = .ok (.new 66, 3) := by decide +kernel
theorem dX11_init_115 : decode cX11_init 115 = .ok (.dup, 1) := by decide +kernel
theorem dX11_init_116 : decode cX11_init 116 = .ok (.invokespecial 68, 3) := by decide +kernel
theorem dX11_init_119 : decode cX11_init 119 = .ok (.putfield 69, 3) := by decide +kernel
theorem dX11_init_122 : decode cX11_init 122 = .ok (.aload_n 0, 1) := by decide +kernel
theorem dX11_init_123 : decode cX11_init 123 = .ok (.new 73, 3) := by decide +kernel
theorem dX11_init_126 : decode cX11_init 126 = .ok (.dup, 1) := by decide +kernel
theorem dX11_init_127 : decode cX11_init 127 = .ok (.invokespecial 75, 3) := by decide +kernel
theorem dX11_init_130 : decode cX11_init 130 = .ok (.putfield 76, 3) := by decide +kernel
theorem dX11_init_133 : decode cX11_init 133 = .ok (.aload_n 0, 1) := by decide +kernel
theorem dX11_init_134 : decode cX11_init 134 = .ok (.new 80, 3) := by decide +kernel
theorem dX11_init_137 : decode cX11_init 137 = .ok (.dup, 1) := by decide +kernel
theorem dX11_init_138 : decode cX11_init 138 = .ok (.invokespecial 82, 3) := by decide +kernel
theorem dX11_init_141 : decode cX11_init 141 = .ok (.putfield 83, 3) := by decide +kernel
theorem dX11_init_144 : decode cX11_init 144 = .ok (.return_, 1) := by decide +kernel
theorem dX11_feed_0 : decode cX11_feed 0 = .ok (.aload_n 0, 1) := by decide +kernel
theorem dX11_feed_1 : decode cX11_feed 1 = .ok (.getfield 12, 3) := by decide +kernel
theorem dX11_feed_4 : decode cX11_feed 4 = .ok (.getfield 87, 3) := by decide +kernel
theorem dX11_feed_7 : decode cX11_feed 7 = .ok (.bipush 20, 2) := by decide +kernel
theorem dX11_feed_9 : decode cX11_feed 9 = .ok (.iadd, 1) := by decide +kernel
theorem dX11_feed_10 : decode cX11_feed 10 = .ok (.sipush 2000, 3) := by decide +kernel
theorem dX11_feed_13 : decode cX11_feed 13 = .ok (.if_icmp .le 6, 3) := by decide +kernel
theorem dX11_feed_16 : decode cX11_feed 16 = .ok (.bipush (-3), 2) := by decide +kernel
theorem dX11_feed_18 : decode cX11_feed 18 = .ok (.ireturn, 1) := by decide +kernel
theorem dX11_feed_19 : decode cX11_feed 19 = .ok (.aload_n 0, 1) := by decide +kernel
theorem dX11_feed_20 : decode cX11_feed 20 = .ok (.getfield 12, 3) := by decide +kernel
theorem dX11_feed_23 : decode cX11_feed 23 = .ok (.iload_n 1, 1) := by decide +kernel
theorem dX11_feed_24 : decode cX11_feed 24 = .ok (.invokevirtual 91, 3) := by decide +kernel
theorem dX11_feed_27 : decode cX11_feed 27 = .ok (.aload_n 0, 1) := by decide +kernel
theorem dX11_feed_28 : decode cX11_feed 28 = .ok (.getfield 12, 3) := by decide +kernel
theorem dX11_feed_31 : decode cX11_feed 31 = .ok (.iload_n 2, 1) := by decide +kernel
theorem dX11_feed_32 : decode cX11_feed 32 = .ok (.invokevirtual 91, 3) := by decide +kernel
theorem dX11_feed_35 : decode cX11_feed 35 = .ok (.aload_n 0, 1) := by decide +kernel
theorem dX11_feed_36 : decode cX11_feed 36 = .ok (.getfield 12, 3) := by decide +kernel
theorem dX11_feed_39 : decode cX11_feed 39 = .ok (.iload_n 3, 1) := by decide +kernel
theorem dX11_feed_40 : decode cX11_feed 40 = .ok (.invokevirtual 91, 3) := by decide +kernel
theorem dX11_feed_43 : decode cX11_feed 43 = .ok (.aload_n 0, 1) := by decide +kernel
theorem dX11_feed_44 : decode cX11_feed 44 = .ok (.getfield 12, 3) := by decide +kernel
theorem dX11_feed_47 : decode cX11_feed 47 = .ok (.iload 4, 2) := by decide +kernel
theorem dX11_feed_49 : decode cX11_feed 49 = .ok (.invokevirtual 91, 3) := by decide +kernel
theorem dX11_feed_52 : decode cX11_feed 52 = .ok (.aload_n 0, 1) := by decide +kernel
theorem dX11_feed_53 : decode cX11_feed 53 = .ok (.getfield 12, 3) := by decide +kernel
theorem dX11_feed_56 : decode cX11_feed 56 = .ok (.iload 5, 2) := by decide +kernel
theorem dX11_feed_58 : decode cX11_feed 58 = .ok (.invokevirtual 91, 3) := by decide +kernel
theorem dX11_feed_61 : decode cX11_feed 61 = .ok (.aload_n 0, 1) := by decide +kernel
theorem dX11_feed_62 : decode cX11_feed 62 = .ok (.getfield 12, 3) := by decide +kernel
theorem dX11_feed_65 : decode cX11_feed 65 = .ok (.getfield 87, 3) := by decide +kernel
theorem dX11_feed_68 : decode cX11_feed 68 = .ok (.ireturn, 1) := by decide +kernel
theorem dX11_end_0 : decode cX11_end 0 = .ok (.iload_n 1, 1) := by decide +kernel
theorem dX11_end_1 : decode cX11_end 1 = .ok (.ifCond .lt 14, 3) := by decide +kernel
theorem dX11_end_4 : decode cX11_end 4 = .ok (.iload_n 1, 1) := by decide +kernel
theorem dX11_end_5 : decode cX11_end 5 = .ok (.aload_n 0, 1) := by decide +kernel
theorem dX11_end_6 : decode cX11_end 6 = .ok (.getfield 12, 3) := by decide +kernel
theorem dX11_end_9 : decode cX11_end 9 = .ok (.getfield 87, 3) := by decide +kernel
theorem dX11_end_12 : decode cX11_end 12 = .ok (.if_icmp .le 5, 3) := by decide +kernel
theorem dX11_end_15 : decode cX11_end 15 = .ok (.iconst (-1), 1) := by decide +kernel
theorem dX11_end_16 : decode cX11_end 16 = .ok (.ireturn, 1) := by decide +kernel
theorem dX11_end_17 : decode cX11_end 17 = .ok (.aload_n 0, 1) := by decide +kernel
theorem dX11_end_18 : decode cX11_end 18 = .ok (.getfield 12, 3) := by decide +kernel
theorem dX11_end_21 : decode cX11_end 21 = .ok (.iload_n 1, 1) := by decide +kernel
theorem dX11_end_22 : decode cX11_end 22 = .ok (.putfield 87, 3) := by decide +kernel
theorem dX11_end_25 : decode cX11_end 25 = .ok (.iload_n 1, 1) := by decide +kernel
theorem dX11_end_26 : decode cX11_end 26 = .ok (.ireturn, 1) := by decide +kernel
theorem dX11_first_0 : decode cX11_first 0 = .ok (.aload_n 0, 1) := by decide +kernel
theorem dX11_first_1 : decode cX11_first 1 = .ok (.getfield 48, 3) := by decide +kernel
theorem dX11_first_4 : decode cX11_first 4 = .ok (.aload_n 0, 1) := by decide +kernel
theorem dX11_first_5 : decode cX11_first 5 = .ok (.getfield 12, 3) := by decide +kernel
theorem dX11_first_8 : decode cX11_first 8 = .ok (.bipush 60, 2) := by decide +kernel
theorem dX11_first_10 : decode cX11_first 10 = .ok (.aload_n 0, 1) := by decide +kernel
theorem dX11_first_11 : decode cX11_first 11 = .ok (.getfield 19, 3) := by decide +kernel
theorem dX11_first_14 : decode cX11_first 14 = .ok (.invokevirtual 94, 3) := by decide +kernel
theorem dX11_first_17 : decode cX11_first 17 = .ok (.istore_n 1, 1) := by decide +kernel
theorem dX11_first_18 : decode cX11_first 18 = .ok (.aload_n 0, 1) := by decide +kernel
theorem dX11_first_19 : decode cX11_first 19 = .ok (.getfield 12, 3) := by decide +kernel
theorem dX11_first_22 : decode cX11_first 22 = .ok (.iconst 0, 1) := by decide +kernel
theorem dX11_first_23 : decode cX11_first 23 = .ok (.putfield 87, 3) := by decide +kernel
theorem dX11_first_26 : decode cX11_first 26 = .ok (.iload_n 1, 1) := by decide +kernel
theorem dX11_first_27 : decode cX11_first 27 = .ok (.ifCond .ne 5, 3) := by decide +kernel
theorem dX11_first_30 : decode cX11_first 30 = .ok (.iconst (-1), 1) := by decide +kernel
theorem dX11_first_31 : decode cX11_first 31 = .ok (.ireturn, 1) := by decide +kernel
theorem dX11_first_32 : decode cX11_first 32 = .ok (.aload_n 0, 1) := by decide +kernel
theorem dX11_first_33 : decode cX11_first 33 = .ok (.getfield 28, 3) := by decide +kernel
theorem dX11_first_36 : decode cX11_first 36 = .ok (.aload_n 0, 1) := by decide +kernel
theorem dX11_first_37 : decode cX11_first 37 = .ok (.getfield 48, 3) := by decide +kernel
theorem dX11_first_40 : decode cX11_first 40 = .ok (.getfield 98, 3) := by decide +kernel
theorem dX11_first_43 : decode cX11_first 43 = .ok (.invokevirtual 101, 3) := by decide +kernel
theorem dX11_first_46 : decode cX11_first 46 = .ok (.aload_n 0, 1) := by decide +kernel
theorem dX11_first_47 : decode cX11_first 47 = .ok (.getfield 41, 3) := by decide +kernel
theorem dX11_first_50 : decode cX11_first 50 = .ok (.invokevirtual 105, 3) := by decide +kernel
theorem dX11_first_53 : decode cX11_first 53 = .ok (.aload_n 0, 1) := by decide +kernel
theorem dX11_first_54 : decode cX11_first 54 = .ok (.invokevirtual 108, 3) := by decide +kernel
theorem dX11_first_57 : decode cX11_first 57 = .ok (.aload_n 0, 1) := by decide +kernel
theorem dX11_first_58 : decode cX11_first 58 = .ok (.getfield 28, 3) := by decide +kernel
theorem dX11_first_61 : decode cX11_first 61 = .ok (.getfield 111, 3) := by decide +kernel
theorem dX11_first_64 : decode cX11_first 64 = .ok (.ireturn, 1) := by decide +kernel
theorem dX11_second_0 : decode cX11_second 0 = .ok (.aload_n 0, 1) := by decide +kernel
theorem dX11_second_1 : decode cX11_second 1 = .ok (.getfield 48, 3) := by decide +kernel
theorem dX11_second_4 : decode cX11_second 4 = .ok (.aload_n 0, 1) := by decide +kernel
theorem dX11_second_5 : decode cX11_second 5 = .ok (.getfield 12, 3) := by decide +kernel
theorem dX11_second_8 : decode cX11_second 8 = .ok (.sipush 150, 3) := by decide +kernel
theorem dX11_second_11 : decode cX11_second 11 = .ok (.aload_n 0, 1) := by decide +kernel
theorem dX11_second_12 : decode cX11_second 12 = .ok (.getfield 19, 3) := by decide +kernel
theorem dX11_second_15 : decode cX11_second 15 = .ok (.invokevirtual 94, 3) := by decide +kernel
theorem dX11_second_18 : decode cX11_second 18 = .ok (.istore_n 1, 1) := by decide +kernel
theorem dX11_second_19 : decode cX11_second 19 = .ok (.aload_n 0, 1) := by decide +kernel
theorem dX11_second_20 : decode cX11_second 20 = .ok (.getfield 12, 3) := by decide +kernel
theorem dX11_second_23 : decode cX11_second 23 = .ok (.iconst 0, 1) := by decide +kernel
theorem dX11_second_24 : decode cX11_second 24 = .ok (.putfield 87, 3) := by decide +kernel
theorem dX11_second_27 : decode cX11_second 27 = .ok (.iload_n 1, 1) := by decide +kernel
theorem dX11_second_28 : decode cX11_second 28 = .ok (.ifCond .ne 5, 3) := by decide +kernel
theorem dX11_second_31 : decode cX11_second 31 = .ok (.iconst (-1), 1) := by decide +kernel
theorem dX11_second_32 : decode cX11_second 32 = .ok (.ireturn, 1) := by decide +kernel
theorem dX11_second_33 : decode cX11_second 33 = .ok (.aload_n 0, 1) := by decide +kernel
theorem dX11_second_34 : decode cX11_second 34 = .ok (.getfield 32, 3) := by decide +kernel
theorem dX11_second_37 : decode cX11_second 37 = .ok (.aload_n 0, 1) := by decide +kernel
theorem dX11_second_38 : decode cX11_second 38 = .ok (.getfield 48, 3) := by decide +kernel
theorem dX11_second_41 : decode cX11_second 41 = .ok (.getfield 98, 3) := by decide +kernel
theorem dX11_second_44 : decode cX11_second 44 = .ok (.invokevirtual 101, 3) := by decide +kernel
theorem dX11_second_47 : decode cX11_second 47 = .ok (.aload_n 0, 1) := by decide +kernel
theorem dX11_second_48 : decode cX11_second 48 = .ok (.getfield 32, 3) := by decide +kernel
theorem dX11_second_51 : decode cX11_second 51 = .ok (.getfield 111, 3) := by decide +kernel
theorem dX11_second_54 : decode cX11_second 54 = .ok (.ireturn, 1) := by decide +kernel
theorem dX11_marks_0 : decode cX11_marks 0 = .ok (.aload_n 0, 1) := by decide +kernel
theorem dX11_marks_1 : decode cX11_marks 1 = .ok (.getfield 55, 3) := by decide +kernel
theorem dX11_marks_4 : decode cX11_marks 4 = .ok (.aload_n 0, 1) := by decide +kernel
theorem dX11_marks_5 : decode cX11_marks 5 = .ok (.getfield 12, 3) := by decide +kernel
theorem dX11_marks_8 : decode cX11_marks 8 = .ok (.aload_n 0, 1) := by decide +kernel
theorem dX11_marks_9 : decode cX11_marks 9 = .ok (.getfield 41, 3) := by decide +kernel
theorem dX11_marks_12 : decode cX11_marks 12 = .ok (.aload_n 0, 1) := by decide +kernel
theorem dX11_marks_13 : decode cX11_marks 13 = .ok (.getfield 28, 3) := by decide +kernel
theorem dX11_marks_16 : decode cX11_marks 16 = .ok (.getfield 111, 3) := by decide +kernel
theorem dX11_marks_19 : decode cX11_marks 19 = .ok (.aload_n 0, 1) := by decide +kernel
theorem dX11_marks_20 : decode cX11_marks 20 = .ok (.getfield 19, 3) := by decide +kernel
theorem dX11_marks_23 : decode cX11_marks 23 = .ok (.invokevirtual 112, 3) := by decide +kernel
theorem dX11_marks_26 : decode cX11_marks 26 = .ok (.istore_n 1, 1) := by decide +kernel
theorem dX11_marks_27 : decode cX11_marks 27 = .ok (.aload_n 0, 1) := by decide +kernel
theorem dX11_marks_28 : decode cX11_marks 28 = .ok (.getfield 12, 3) := by decide +kernel
theorem dX11_marks_31 : decode cX11_marks 31 = .ok (.iconst 0, 1) := by decide +kernel
theorem dX11_marks_32 : decode cX11_marks 32 = .ok (.putfield 87, 3) := by decide +kernel
theorem dX11_marks_35 : decode cX11_marks 35 = .ok (.iload_n 1, 1) := by decide +kernel
theorem dX11_marks_36 : decode cX11_marks 36 = .ok (.ifCond .ne 5, 3) := by decide +kernel
theorem dX11_marks_39 : decode cX11_marks 39 = .ok (.iconst (-1), 1) := by decide +kernel
theorem dX11_marks_40 : decode cX11_marks 40 = .ok (.ireturn, 1) := by decide +kernel
theorem dX11_marks_41 : decode cX11_marks 41 = .ok (.aload_n 0, 1) := by decide +kernel
theorem dX11_marks_42 : decode cX11_marks 42 = .ok (.getfield 41, 3) := by decide +kernel
theorem dX11_marks_45 : decode cX11_marks 45 = .ok (.invokevirtual 116, 3) := by decide +kernel
theorem dX11_marks_48 : decode cX11_marks 48 = .ok (.istore_n 2, 1) := by decide +kernel
theorem dX11_marks_49 : decode cX11_marks 49 = .ok (.aload_n 0, 1) := by decide +kernel
theorem dX11_marks_50 : decode cX11_marks 50 = .ok (.invokevirtual 108, 3) := by decide +kernel
theorem dX11_marks_53 : decode cX11_marks 53 = .ok (.iload_n 2, 1) := by decide +kernel
theorem dX11_marks_54 : decode cX11_marks 54 = .ok (.ireturn, 1) := by decide +kernel
theorem dX11_fault_0 : decode cX11_fault 0 = .ok (.iload_n 1, 1) := by decide +kernel
theorem dX11_fault_1 : decode cX11_fault 1 = .ok (.ifCond .ne 11, 3) := by decide +kernel
theorem dX11_fault_4 : decode cX11_fault 4 = .ok (.aload_n 0, 1) := by decide +kernel
theorem dX11_fault_5 : decode cX11_fault 5 = .ok (.getfield 19, 3) := by decide +kernel
theorem dX11_fault_8 : decode cX11_fault 8 = .ok (.getfield 120, 3) := by decide +kernel
theorem dX11_fault_11 : decode cX11_fault 11 = .ok (.ireturn, 1) := by decide +kernel
theorem dX11_fault_12 : decode cX11_fault 12 = .ok (.iload_n 1, 1) := by decide +kernel
theorem dX11_fault_13 : decode cX11_fault 13 = .ok (.iconst 1, 1) := by decide +kernel
theorem dX11_fault_14 : decode cX11_fault 14 = .ok (.if_icmp .ne 13, 3) := by decide +kernel
theorem dX11_fault_17 : decode cX11_fault 17 = .ok (.aload_n 0, 1) := by decide +kernel
theorem dX11_fault_18 : decode cX11_fault 18 = .ok (.getfield 19, 3) := by decide +kernel
theorem dX11_fault_21 : decode cX11_fault 21 = .ok (.getfield 123, 3) := by decide +kernel
theorem dX11_fault_24 : decode cX11_fault 24 = .ok (.goto 4, 3) := by decide +kernel
theorem dX11_fault_27 : decode cX11_fault 27 = .ok (.iconst (-1), 1) := by decide +kernel
theorem dX11_fault_28 : decode cX11_fault 28 = .ok (.ireturn, 1) := by decide +kernel
theorem dX11_word_0 : decode cX11_word 0 = .ok (.aload_n 0, 1) := by decide +kernel
theorem dX11_word_1 : decode cX11_word 1 = .ok (.iload_n 1, 1) := by decide +kernel
theorem dX11_word_2 : decode cX11_word 2 = .ok (.invokevirtual 126, 3) := by decide +kernel
theorem dX11_word_5 : decode cX11_word 5 = .ok (.astore_n 3, 1) := by decide +kernel
theorem dX11_word_6 : decode cX11_word 6 = .ok (.aload_n 3, 1) := by decide +kernel
theorem dX11_word_7 : decode cX11_word 7 = .ok (.ifnonnull 7, 3) := by decide +kernel
theorem dX11_word_10 : decode cX11_word 10 = .ok (.lconst 0, 1) := by decide +kernel
theorem dX11_word_11 : decode cX11_word 11 = .ok (.goto 8, 3) := by decide +kernel
theorem dX11_word_14 : decode cX11_word 14 = .ok (.aload_n 3, 1) := by decide +kernel
theorem dX11_word_15 : decode cX11_word 15 = .ok (.iload_n 2, 1) := by decide +kernel
theorem dX11_word_16 : decode cX11_word 16 = .ok (.invokevirtual 130, 3) := by decide +kernel
theorem dX11_word_19 : decode cX11_word 19 = .ok (.lreturn, 1) := by decide +kernel
theorem dX11_mark_0 : decode cX11_mark 0 = .ok (.aload_n 0, 1) := by decide +kernel
theorem dX11_mark_1 : decode cX11_mark 1 = .ok (.getfield 41, 3) := by decide +kernel
theorem dX11_mark_4 : decode cX11_mark 4 = .ok (.iload_n 1, 1) := by decide +kernel
theorem dX11_mark_5 : decode cX11_mark 5 = .ok (.invokevirtual 134, 3) := by decide +kernel
theorem dX11_mark_8 : decode cX11_mark 8 = .ok (.astore_n 3, 1) := by decide +kernel
theorem dX11_mark_9 : decode cX11_mark 9 = .ok (.aload_n 3, 1) := by decide +kernel
theorem dX11_mark_10 : decode cX11_mark 10 = .ok (.ifnonnull 6, 3) := by decide +kernel
theorem dX11_mark_13 : decode cX11_mark 13 = .ok (.bipush (-9), 2) := by decide +kernel
theorem dX11_mark_15 : decode cX11_mark 15 = .ok (.ireturn, 1) := by decide +kernel
theorem dX11_mark_16 : decode cX11_mark 16 = .ok (.iload_n 2, 1) := by decide +kernel
theorem dX11_mark_17 : decode cX11_mark 17 = .ok (.bipush 10, 2) := by decide +kernel
theorem dX11_mark_19 : decode cX11_mark 19 = .ok (.if_icmp .ge 11, 3) := by decide +kernel
theorem dX11_mark_22 : decode cX11_mark 22 = .ok (.aload_n 3, 1) := by decide +kernel
theorem dX11_mark_23 : decode cX11_mark 23 = .ok (.iload_n 2, 1) := by decide +kernel
theorem dX11_mark_24 : decode cX11_mark 24 = .ok (.invokevirtual 138, 3) := by decide +kernel
theorem dX11_mark_27 : decode cX11_mark 27 = .ok (.goto 11, 3) := by decide +kernel
theorem dX11_mark_30 : decode cX11_mark 30 = .ok (.aload_n 3, 1) := by decide +kernel
theorem dX11_mark_31 : decode cX11_mark 31 = .ok (.iload_n 2, 1) := by decide +kernel
theorem dX11_mark_32 : decode cX11_mark 32 = .ok (.bipush 10, 2) := by decide +kernel
theorem dX11_mark_34 : decode cX11_mark 34 = .ok (.isub, 1) := by decide +kernel
theorem dX11_mark_35 : decode cX11_mark 35 = .ok (.invokevirtual 144, 3) := by decide +kernel
theorem dX11_mark_38 : decode cX11_mark 38 = .ok (.ireturn, 1) := by decide +kernel
theorem dX11_answer_0 : decode cX11_answer 0 = .ok (.aload_n 0, 1) := by decide +kernel
theorem dX11_answer_1 : decode cX11_answer 1 = .ok (.getfield 41, 3) := by decide +kernel
theorem dX11_answer_4 : decode cX11_answer 4 = .ok (.iload_n 1, 1) := by decide +kernel
theorem dX11_answer_5 : decode cX11_answer 5 = .ok (.invokevirtual 134, 3) := by decide +kernel
theorem dX11_answer_8 : decode cX11_answer 8 = .ok (.astore_n 3, 1) := by decide +kernel
theorem dX11_answer_9 : decode cX11_answer 9 = .ok (.aload_n 3, 1) := by decide +kernel
theorem dX11_answer_10 : decode cX11_answer 10 = .ok (.ifnonnull 6, 3) := by decide +kernel
theorem dX11_answer_13 : decode cX11_answer 13 = .ok (.bipush (-2), 2) := by decide +kernel
theorem dX11_answer_15 : decode cX11_answer 15 = .ok (.ireturn, 1) := by decide +kernel
theorem dX11_answer_16 : decode cX11_answer 16 = .ok (.aload_n 3, 1) := by decide +kernel
theorem dX11_answer_17 : decode cX11_answer 17 = .ok (.getfield 147, 3) := by decide +kernel
theorem dX11_answer_20 : decode cX11_answer 20 = .ok (.iconst 3, 1) := by decide +kernel
theorem dX11_answer_21 : decode cX11_answer 21 = .ok (.if_icmp .eq 6, 3) := by decide +kernel
theorem dX11_answer_24 : decode cX11_answer 24 = .ok (.bipush (-4), 2) := by decide +kernel
theorem dX11_answer_26 : decode cX11_answer 26 = .ok (.ireturn, 1) := by decide +kernel
theorem dX11_answer_27 : decode cX11_answer 27 = .ok (.aload_n 3, 1) := by decide +kernel
theorem dX11_answer_28 : decode cX11_answer 28 = .ok (.iconst 0, 1) := by decide +kernel
theorem dX11_answer_29 : decode cX11_answer 29 = .ok (.putfield 150, 3) := by decide +kernel
theorem dX11_answer_32 : decode cX11_answer 32 = .ok (.aload_n 3, 1) := by decide +kernel
theorem dX11_answer_33 : decode cX11_answer 33 = .ok (.iload_n 2, 1) := by decide +kernel
theorem dX11_answer_34 : decode cX11_answer 34 = .ok (.ifCond .ne 7, 3) := by decide +kernel
theorem dX11_answer_37 : decode cX11_answer 37 = .ok (.iconst 1, 1) := by decide +kernel
theorem dX11_answer_38 : decode cX11_answer 38 = .ok (.goto 4, 3) := by decide +kernel
theorem dX11_answer_41 : decode cX11_answer 41 = .ok (.iconst 0, 1) := by decide +kernel
theorem dX11_answer_42 : decode cX11_answer 42 = .ok (.putfield 154, 3) := by decide +kernel
theorem dX11_answer_45 : decode cX11_answer 45 = .ok (.aload_n 0, 1) := by decide +kernel
theorem dX11_answer_46 : decode cX11_answer 46 = .ok (.invokevirtual 108, 3) := by decide +kernel
theorem dX11_answer_49 : decode cX11_answer 49 = .ok (.iconst 1, 1) := by decide +kernel
theorem dX11_answer_50 : decode cX11_answer 50 = .ok (.ireturn, 1) := by decide +kernel
theorem dX11_rank_0 : decode cX11_rank 0 = .ok (.iload_n 1, 1) := by decide +kernel
theorem dX11_rank_1 : decode cX11_rank 1 = .ok (.ifCond .lt 18, 3) := by decide +kernel
theorem dX11_rank_4 : decode cX11_rank 4 = .ok (.iload_n 1, 1) := by decide +kernel
theorem dX11_rank_5 : decode cX11_rank 5 = .ok (.iconst 3, 1) := by decide +kernel
theorem dX11_rank_6 : decode cX11_rank 6 = .ok (.if_icmp .ge 13, 3) := by decide +kernel
theorem dX11_rank_9 : decode cX11_rank 9 = .ok (.iload_n 2, 1) := by decide +kernel
theorem dX11_rank_10 : decode cX11_rank 10 = .ok (.ifCond .lt 9, 3) := by decide +kernel
theorem dX11_rank_13 : decode cX11_rank 13 = .ok (.iload_n 2, 1) := by decide +kernel
theorem dX11_rank_14 : decode cX11_rank 14 = .ok (.bipush 9, 2) := by decide +kernel
theorem dX11_rank_16 : decode cX11_rank 16 = .ok (.if_icmp .le 6, 3) := by decide +kernel
theorem dX11_rank_19 : decode cX11_rank 19 = .ok (.bipush (-2), 2) := by decide +kernel
theorem dX11_rank_21 : decode cX11_rank 21 = .ok (.ireturn, 1) := by decide +kernel
theorem dX11_rank_22 : decode cX11_rank 22 = .ok (.aload_n 0, 1) := by decide +kernel
theorem dX11_rank_23 : decode cX11_rank 23 = .ok (.getfield 41, 3) := by decide +kernel
theorem dX11_rank_26 : decode cX11_rank 26 = .ok (.iload_n 1, 1) := by decide +kernel
theorem dX11_rank_27 : decode cX11_rank 27 = .ok (.invokevirtual 157, 3) := by decide +kernel
theorem dX11_rank_30 : decode cX11_rank 30 = .ok (.istore_n 3, 1) := by decide +kernel
theorem dX11_rank_31 : decode cX11_rank 31 = .ok (.aload_n 0, 1) := by decide +kernel
theorem dX11_rank_32 : decode cX11_rank 32 = .ok (.getfield 41, 3) := by decide +kernel
theorem dX11_rank_35 : decode cX11_rank 35 = .ok (.getfield 160, 3) := by decide +kernel
theorem dX11_rank_38 : decode cX11_rank 38 = .ok (.iload_n 1, 1) := by decide +kernel
theorem dX11_rank_39 : decode cX11_rank 39 = .ok (.iload_n 2, 1) := by decide +kernel
theorem dX11_rank_40 : decode cX11_rank 40 = .ok (.iastore, 1) := by decide +kernel
theorem dX11_rank_41 : decode cX11_rank 41 = .ok (.aload_n 0, 1) := by decide +kernel
theorem dX11_rank_42 : decode cX11_rank 42 = .ok (.invokevirtual 108, 3) := by decide +kernel
theorem dX11_rank_45 : decode cX11_rank 45 = .ok (.iload_n 3, 1) := by decide +kernel
theorem dX11_rank_46 : decode cX11_rank 46 = .ok (.ireturn, 1) := by decide +kernel
theorem dX11_meet_0 : decode cX11_meet 0 = .ok (.aload_n 0, 1) := by decide +kernel
theorem dX11_meet_1 : decode cX11_meet 1 = .ok (.getfield 41, 3) := by decide +kernel
theorem dX11_meet_4 : decode cX11_meet 4 = .ok (.iload_n 1, 1) := by decide +kernel
theorem dX11_meet_5 : decode cX11_meet 5 = .ok (.invokevirtual 164, 3) := by decide +kernel
theorem dX11_meet_8 : decode cX11_meet 8 = .ok (.astore_n 3, 1) := by decide +kernel
theorem dX11_meet_9 : decode cX11_meet 9 = .ok (.aload_n 0, 1) := by decide +kernel
theorem dX11_meet_10 : decode cX11_meet 10 = .ok (.getfield 41, 3) := by decide +kernel
theorem dX11_meet_13 : decode cX11_meet 13 = .ok (.iload_n 2, 1) := by decide +kernel
theorem dX11_meet_14 : decode cX11_meet 14 = .ok (.invokevirtual 164, 3) := by decide +kernel
theorem dX11_meet_17 : decode cX11_meet 17 = .ok (.astore 4, 2) := by decide +kernel
theorem dX11_meet_19 : decode cX11_meet 19 = .ok (.aload_n 3, 1) := by decide +kernel
theorem dX11_meet_20 : decode cX11_meet 20 = .ok (.ifnull 13, 3) := by decide +kernel
theorem dX11_meet_23 : decode cX11_meet 23 = .ok (.aload 4, 2) := by decide +kernel
theorem dX11_meet_25 : decode cX11_meet 25 = .ok (.ifnull 8, 3) := by decide +kernel
theorem dX11_meet_28 : decode cX11_meet 28 = .ok (.iload_n 1, 1) := by decide +kernel
theorem dX11_meet_29 : decode cX11_meet 29 = .ok (.iload_n 2, 1) := by decide +kernel
theorem dX11_meet_30 : decode cX11_meet 30 = .ok (.if_icmp .ne 6, 3) := by decide +kernel
theorem dX11_meet_33 : decode cX11_meet 33 = .ok (.bipush (-2), 2) := by decide +kernel
theorem dX11_meet_35 : decode cX11_meet 35 = .ok (.ireturn, 1) := by decide +kernel
theorem dX11_meet_36 : decode cX11_meet 36 = .ok (.aload_n 3, 1) := by decide +kernel
theorem dX11_meet_37 : decode cX11_meet 37 = .ok (.aload 4, 2) := by decide +kernel
theorem dX11_meet_39 : decode cX11_meet 39 = .ok (.invokevirtual 167, 3) := by decide +kernel
theorem dX11_meet_42 : decode cX11_meet 42 = .ok (.ifCond .eq 7, 3) := by decide +kernel
theorem dX11_meet_45 : decode cX11_meet 45 = .ok (.iconst 1, 1) := by decide +kernel
theorem dX11_meet_46 : decode cX11_meet 46 = .ok (.goto 4, 3) := by decide +kernel
theorem dX11_meet_49 : decode cX11_meet 49 = .ok (.iconst 0, 1) := by decide +kernel
theorem dX11_meet_50 : decode cX11_meet 50 = .ok (.ireturn, 1) := by decide +kernel
theorem dX11_within_0 : decode cX11_within 0 = .ok (.aload_n 0, 1) := by decide +kernel
theorem dX11_within_1 : decode cX11_within 1 = .ok (.getfield 41, 3) := by decide +kernel
theorem dX11_within_4 : decode cX11_within 4 = .ok (.iload_n 1, 1) := by decide +kernel
theorem dX11_within_5 : decode cX11_within 5 = .ok (.invokevirtual 164, 3) := by decide +kernel
theorem dX11_within_8 : decode cX11_within 8 = .ok (.astore_n 3, 1) := by decide +kernel
theorem dX11_within_9 : decode cX11_within 9 = .ok (.aload_n 0, 1) := by decide +kernel
theorem dX11_within_10 : decode cX11_within 10 = .ok (.getfield 41, 3) := by decide +kernel
theorem dX11_within_13 : decode cX11_within 13 = .ok (.iload_n 2, 1) := by decide +kernel
theorem dX11_within_14 : decode cX11_within 14 = .ok (.invokevirtual 164, 3) := by decide +kernel
theorem dX11_within_17 : decode cX11_within 17 = .ok (.astore 4, 2) := by decide +kernel
theorem dX11_within_19 : decode cX11_within 19 = .ok (.aload_n 3, 1) := by decide +kernel
theorem dX11_within_20 : decode cX11_within 20 = .ok (.ifnull 13, 3) := by decide +kernel
theorem dX11_within_23 : decode cX11_within 23 = .ok (.aload 4, 2) := by decide +kernel
theorem dX11_within_25 : decode cX11_within 25 = .ok (.ifnull 8, 3) := by decide +kernel
theorem dX11_within_28 : decode cX11_within 28 = .ok (.iload_n 1, 1) := by decide +kernel
theorem dX11_within_29 : decode cX11_within 29 = .ok (.iload_n 2, 1) := by decide +kernel
theorem dX11_within_30 : decode cX11_within 30 = .ok (.if_icmp .ne 6, 3) := by decide +kernel
theorem dX11_within_33 : decode cX11_within 33 = .ok (.bipush (-2), 2) := by decide +kernel
theorem dX11_within_35 : decode cX11_within 35 = .ok (.ireturn, 1) := by decide +kernel
theorem dX11_within_36 : decode cX11_within 36 = .ok (.aload_n 3, 1) := by decide +kernel
theorem dX11_within_37 : decode cX11_within 37 = .ok (.aload 4, 2) := by decide +kernel
theorem dX11_within_39 : decode cX11_within 39 = .ok (.invokevirtual 171, 3) := by decide +kernel
theorem dX11_within_42 : decode cX11_within 42 = .ok (.ifCond .eq 7, 3) := by decide +kernel
theorem dX11_within_45 : decode cX11_within 45 = .ok (.iconst 1, 1) := by decide +kernel
theorem dX11_within_46 : decode cX11_within 46 = .ok (.goto 4, 3) := by decide +kernel
theorem dX11_within_49 : decode cX11_within 49 = .ok (.iconst 0, 1) := by decide +kernel
theorem dX11_within_50 : decode cX11_within 50 = .ok (.ireturn, 1) := by decide +kernel
theorem dX11_costs_0 : decode cX11_costs 0 = .ok (.iload_n 1, 1) := by decide +kernel
theorem dX11_costs_1 : decode cX11_costs 1 = .ok (.iconst 1, 1) := by decide +kernel
theorem dX11_costs_2 : decode cX11_costs 2 = .ok (.if_icmp .lt 20, 3) := by decide +kernel
theorem dX11_costs_5 : decode cX11_costs 5 = .ok (.iload_n 1, 1) := by decide +kernel
theorem dX11_costs_6 : decode cX11_costs 6 = .ok (.bipush 9, 2) := by decide +kernel
theorem dX11_costs_8 : decode cX11_costs 8 = .ok (.if_icmp .gt 14, 3) := by decide +kernel
theorem dX11_costs_11 : decode cX11_costs 11 = .ok (.iload_n 2, 1) := by decide +kernel
theorem dX11_costs_12 : decode cX11_costs 12 = .ok (.iconst 1, 1) := by decide +kernel
theorem dX11_costs_13 : decode cX11_costs 13 = .ok (.if_icmp .lt 9, 3) := by decide +kernel
theorem dX11_costs_16 : decode cX11_costs 16 = .ok (.iload_n 2, 1) := by decide +kernel
theorem dX11_costs_17 : decode cX11_costs 17 = .ok (.bipush 9, 2) := by decide +kernel
theorem dX11_costs_19 : decode cX11_costs 19 = .ok (.if_icmp .le 6, 3) := by decide +kernel
theorem dX11_costs_22 : decode cX11_costs 22 = .ok (.bipush (-2), 2) := by decide +kernel
theorem dX11_costs_24 : decode cX11_costs 24 = .ok (.ireturn, 1) := by decide +kernel
theorem dX11_costs_25 : decode cX11_costs 25 = .ok (.aload_n 0, 1) := by decide +kernel
theorem dX11_costs_26 : decode cX11_costs 26 = .ok (.getfield 76, 3) := by decide +kernel
theorem dX11_costs_29 : decode cX11_costs 29 = .ok (.iload_n 1, 1) := by decide +kernel
theorem dX11_costs_30 : decode cX11_costs 30 = .ok (.putfield 174, 3) := by decide +kernel
theorem dX11_costs_33 : decode cX11_costs 33 = .ok (.aload_n 0, 1) := by decide +kernel
theorem dX11_costs_34 : decode cX11_costs 34 = .ok (.getfield 76, 3) := by decide +kernel
theorem dX11_costs_37 : decode cX11_costs 37 = .ok (.iload_n 2, 1) := by decide +kernel
theorem dX11_costs_38 : decode cX11_costs 38 = .ok (.putfield 177, 3) := by decide +kernel
theorem dX11_costs_41 : decode cX11_costs 41 = .ok (.iconst 1, 1) := by decide +kernel
theorem dX11_costs_42 : decode cX11_costs 42 = .ok (.ireturn, 1) := by decide +kernel
theorem dX11_hold_0 : decode cX11_hold 0 = .ok (.aload_n 0, 1) := by decide +kernel
theorem dX11_hold_1 : decode cX11_hold 1 = .ok (.getfield 41, 3) := by decide +kernel
theorem dX11_hold_4 : decode cX11_hold 4 = .ok (.getfield 180, 3) := by decide +kernel
theorem dX11_hold_7 : decode cX11_hold 7 = .ok (.bipush 8, 2) := by decide +kernel
theorem dX11_hold_9 : decode cX11_hold 9 = .ok (.if_icmp .le 6, 3) := by decide +kernel
theorem dX11_hold_12 : decode cX11_hold 12 = .ok (.bipush (-3), 2) := by decide +kernel
theorem dX11_hold_14 : decode cX11_hold 14 = .ok (.ireturn, 1) := by decide +kernel
theorem dX11_hold_15 : decode cX11_hold 15 = .ok (.aload_n 0, 1) := by decide +kernel
theorem dX11_hold_16 : decode cX11_hold 16 = .ok (.getfield 76, 3) := by decide +kernel
theorem dX11_hold_19 : decode cX11_hold 19 = .ok (.aload_n 0, 1) := by decide +kernel
theorem dX11_hold_20 : decode cX11_hold 20 = .ok (.getfield 41, 3) := by decide +kernel
theorem dX11_hold_23 : decode cX11_hold 23 = .ok (.aload_n 0, 1) := by decide +kernel
theorem dX11_hold_24 : decode cX11_hold 24 = .ok (.getfield 28, 3) := by decide +kernel
theorem dX11_hold_27 : decode cX11_hold 27 = .ok (.aload_n 0, 1) := by decide +kernel
theorem dX11_hold_28 : decode cX11_hold 28 = .ok (.getfield 32, 3) := by decide +kernel
theorem dX11_hold_31 : decode cX11_hold 31 = .ok (.aload_n 0, 1) := by decide +kernel
theorem dX11_hold_32 : decode cX11_hold 32 = .ok (.getfield 62, 3) := by decide +kernel
theorem dX11_hold_35 : decode cX11_hold 35 = .ok (.aload_n 0, 1) := by decide +kernel
theorem dX11_hold_36 : decode cX11_hold 36 = .ok (.getfield 69, 3) := by decide +kernel
theorem dX11_hold_39 : decode cX11_hold 39 = .ok (.invokevirtual 183, 3) := by decide +kernel
theorem dX11_hold_42 : decode cX11_hold 42 = .ok (.ireturn, 1) := by decide +kernel
theorem dX11_held_0 : decode cX11_held 0 = .ok (.aload_n 0, 1) := by decide +kernel
theorem dX11_held_1 : decode cX11_held 1 = .ok (.getfield 76, 3) := by decide +kernel
theorem dX11_held_4 : decode cX11_held 4 = .ok (.iload_n 1, 1) := by decide +kernel
theorem dX11_held_5 : decode cX11_held 5 = .ok (.invokevirtual 187, 3) := by decide +kernel
theorem dX11_held_8 : decode cX11_held 8 = .ok (.ireturn, 1) := by decide +kernel
theorem dX11_unasked_0 : decode cX11_unasked 0 = .ok (.aload_n 0, 1) := by decide +kernel
theorem dX11_unasked_1 : decode cX11_unasked 1 = .ok (.getfield 76, 3) := by decide +kernel
theorem dX11_unasked_4 : decode cX11_unasked 4 = .ok (.iload_n 1, 1) := by decide +kernel
theorem dX11_unasked_5 : decode cX11_unasked 5 = .ok (.iload_n 2, 1) := by decide +kernel
theorem dX11_unasked_6 : decode cX11_unasked 6 = .ok (.invokevirtual 188, 3) := by decide +kernel
theorem dX11_unasked_9 : decode cX11_unasked 9 = .ok (.ireturn, 1) := by decide +kernel
theorem dX11_distance_0 : decode cX11_distance 0 = .ok (.aload_n 0, 1) := by decide +kernel
theorem dX11_distance_1 : decode cX11_distance 1 = .ok (.iload_n 1, 1) := by decide +kernel
theorem dX11_distance_2 : decode cX11_distance 2 = .ok (.invokevirtual 126, 3) := by decide +kernel
theorem dX11_distance_5 : decode cX11_distance 5 = .ok (.astore_n 3, 1) := by decide +kernel
theorem dX11_distance_6 : decode cX11_distance 6 = .ok (.aload_n 0, 1) := by decide +kernel
theorem dX11_distance_7 : decode cX11_distance 7 = .ok (.iload_n 2, 1) := by decide +kernel
theorem dX11_distance_8 : decode cX11_distance 8 = .ok (.invokevirtual 126, 3) := by decide +kernel
theorem dX11_distance_11 : decode cX11_distance 11 = .ok (.astore 4, 2) := by decide +kernel
theorem dX11_distance_13 : decode cX11_distance 13 = .ok (.aload_n 3, 1) := by decide +kernel
theorem dX11_distance_14 : decode cX11_distance 14 = .ok (.ifnull 8, 3) := by decide +kernel
theorem dX11_distance_17 : decode cX11_distance 17 = .ok (.aload 4, 2) := by decide +kernel
theorem dX11_distance_19 : decode cX11_distance 19 = .ok (.ifnonnull 6, 3) := by decide +kernel
theorem dX11_distance_22 : decode cX11_distance 22 = .ok (.bipush (-2), 2) := by decide +kernel
theorem dX11_distance_24 : decode cX11_distance 24 = .ok (.ireturn, 1) := by decide +kernel
theorem dX11_distance_25 : decode cX11_distance 25 = .ok (.aload_n 0, 1) := by decide +kernel
theorem dX11_distance_26 : decode cX11_distance 26 = .ok (.getfield 69, 3) := by decide +kernel
theorem dX11_distance_29 : decode cX11_distance 29 = .ok (.aload_n 3, 1) := by decide +kernel
theorem dX11_distance_30 : decode cX11_distance 30 = .ok (.iconst 0, 1) := by decide +kernel
theorem dX11_distance_31 : decode cX11_distance 31 = .ok (.aload 4, 2) := by decide +kernel
theorem dX11_distance_33 : decode cX11_distance 33 = .ok (.iconst 0, 1) := by decide +kernel
theorem dX11_distance_34 : decode cX11_distance 34 = .ok (.sipush 300, 3) := by decide +kernel
theorem dX11_distance_37 : decode cX11_distance 37 = .ok (.invokevirtual 192, 3) := by decide +kernel
theorem dX11_distance_40 : decode cX11_distance 40 = .ok (.ireturn, 1) := by decide +kernel
theorem dX11_next_0 : decode cX11_next 0 = .ok (.aload_n 0, 1) := by decide +kernel
theorem dX11_next_1 : decode cX11_next 1 = .ok (.getfield 32, 3) := by decide +kernel
theorem dX11_next_4 : decode cX11_next 4 = .ok (.getfield 111, 3) := by decide +kernel
theorem dX11_next_7 : decode cX11_next 7 = .ok (.ifCond .eq 15, 3) := by decide +kernel
theorem dX11_next_10 : decode cX11_next 10 = .ok (.aload_n 0, 1) := by decide +kernel
theorem dX11_next_11 : decode cX11_next 11 = .ok (.getfield 32, 3) := by decide +kernel
theorem dX11_next_14 : decode cX11_next 14 = .ok (.getfield 111, 3) := by decide +kernel
theorem dX11_next_17 : decode cX11_next 17 = .ok (.bipush 60, 2) := by decide +kernel
theorem dX11_next_19 : decode cX11_next 19 = .ok (.if_icmp .le 6, 3) := by decide +kernel
theorem dX11_next_22 : decode cX11_next 22 = .ok (.bipush (-4), 2) := by decide +kernel
theorem dX11_next_24 : decode cX11_next 24 = .ok (.ireturn, 1) := by decide +kernel
theorem dX11_next_25 : decode cX11_next 25 = .ok (.aload_n 0, 1) := by decide +kernel
theorem dX11_next_26 : decode cX11_next 26 = .ok (.getfield 28, 3) := by decide +kernel
theorem dX11_next_29 : decode cX11_next 29 = .ok (.aload_n 0, 1) := by decide +kernel
theorem dX11_next_30 : decode cX11_next 30 = .ok (.getfield 32, 3) := by decide +kernel
theorem dX11_next_33 : decode cX11_next 33 = .ok (.invokevirtual 101, 3) := by decide +kernel
theorem dX11_next_36 : decode cX11_next 36 = .ok (.aload_n 0, 1) := by decide +kernel
theorem dX11_next_37 : decode cX11_next 37 = .ok (.getfield 32, 3) := by decide +kernel
theorem dX11_next_40 : decode cX11_next 40 = .ok (.invokevirtual 196, 3) := by decide +kernel
theorem dX11_next_43 : decode cX11_next 43 = .ok (.aload_n 0, 1) := by decide +kernel
theorem dX11_next_44 : decode cX11_next 44 = .ok (.getfield 41, 3) := by decide +kernel
theorem dX11_next_47 : decode cX11_next 47 = .ok (.invokevirtual 105, 3) := by decide +kernel
theorem dX11_next_50 : decode cX11_next 50 = .ok (.aload_n 0, 1) := by decide +kernel
theorem dX11_next_51 : decode cX11_next 51 = .ok (.invokevirtual 108, 3) := by decide +kernel
theorem dX11_next_54 : decode cX11_next 54 = .ok (.aload_n 0, 1) := by decide +kernel
theorem dX11_next_55 : decode cX11_next 55 = .ok (.getfield 28, 3) := by decide +kernel
theorem dX11_next_58 : decode cX11_next 58 = .ok (.getfield 111, 3) := by decide +kernel
theorem dX11_next_61 : decode cX11_next 61 = .ok (.ireturn, 1) := by decide +kernel
theorem dX11_error_0 : decode cX11_error 0 = .ok (.aload_n 0, 1) := by decide +kernel
theorem dX11_error_1 : decode cX11_error 1 = .ok (.getfield 41, 3) := by decide +kernel
theorem dX11_error_4 : decode cX11_error 4 = .ok (.iload_n 1, 1) := by decide +kernel
theorem dX11_error_5 : decode cX11_error 5 = .ok (.invokevirtual 164, 3) := by decide +kernel
theorem dX11_error_8 : decode cX11_error 8 = .ok (.astore_n 3, 1) := by decide +kernel
theorem dX11_error_9 : decode cX11_error 9 = .ok (.aload_n 3, 1) := by decide +kernel
theorem dX11_error_10 : decode cX11_error 10 = .ok (.ifnonnull 6, 3) := by decide +kernel
theorem dX11_error_13 : decode cX11_error 13 = .ok (.bipush (-2), 2) := by decide +kernel
theorem dX11_error_15 : decode cX11_error 15 = .ok (.ireturn, 1) := by decide +kernel
theorem dX11_error_16 : decode cX11_error 16 = .ok (.aload_n 3, 1) := by decide +kernel
theorem dX11_error_17 : decode cX11_error 17 = .ok (.getfield 197, 3) := by decide +kernel
theorem dX11_error_20 : decode cX11_error 20 = .ok (.istore 4, 2) := by decide +kernel
theorem dX11_error_22 : decode cX11_error 22 = .ok (.aload_n 3, 1) := by decide +kernel
theorem dX11_error_23 : decode cX11_error 23 = .ok (.iload_n 2, 1) := by decide +kernel
theorem dX11_error_24 : decode cX11_error 24 = .ok (.putfield 197, 3) := by decide +kernel
theorem dX11_error_27 : decode cX11_error 27 = .ok (.iload 4, 2) := by decide +kernel
theorem dX11_error_29 : decode cX11_error 29 = .ok (.iload_n 2, 1) := by decide +kernel
theorem dX11_error_30 : decode cX11_error 30 = .ok (.if_icmp .ne 7, 3) := by decide +kernel
theorem dX11_error_33 : decode cX11_error 33 = .ok (.iconst 0, 1) := by decide +kernel
theorem dX11_error_34 : decode cX11_error 34 = .ok (.goto 4, 3) := by decide +kernel
theorem dX11_error_37 : decode cX11_error 37 = .ok (.iconst 1, 1) := by decide +kernel
theorem dX11_error_38 : decode cX11_error 38 = .ok (.ireturn, 1) := by decide +kernel
theorem dX11_price_0 : decode cX11_price 0 = .ok (.iload_n 1, 1) := by decide +kernel
theorem dX11_price_1 : decode cX11_price 1 = .ok (.ifCond .lt 19, 3) := by decide +kernel
theorem dX11_price_4 : decode cX11_price 4 = .ok (.iload_n 1, 1) := by decide +kernel
theorem dX11_price_5 : decode cX11_price 5 = .ok (.iconst 5, 1) := by decide +kernel
theorem dX11_price_6 : decode cX11_price 6 = .ok (.if_icmp .ge 14, 3) := by decide +kernel
theorem dX11_price_9 : decode cX11_price 9 = .ok (.iload_n 2, 1) := by decide +kernel
theorem dX11_price_10 : decode cX11_price 10 = .ok (.ifCond .lt 10, 3) := by decide +kernel
theorem dX11_price_13 : decode cX11_price 13 = .ok (.iload_n 2, 1) := by decide +kernel
theorem dX11_price_14 : decode cX11_price 14 = .ok (.sipush 999, 3) := by decide +kernel
theorem dX11_price_17 : decode cX11_price 17 = .ok (.if_icmp .le 6, 3) := by decide +kernel
theorem dX11_price_20 : decode cX11_price 20 = .ok (.bipush (-2), 2) := by decide +kernel
theorem dX11_price_22 : decode cX11_price 22 = .ok (.ireturn, 1) := by decide +kernel
theorem dX11_price_23 : decode cX11_price 23 = .ok (.aload_n 0, 1) := by decide +kernel
theorem dX11_price_24 : decode cX11_price 24 = .ok (.getfield 83, 3) := by decide +kernel
theorem dX11_price_27 : decode cX11_price 27 = .ok (.iload_n 1, 1) := by decide +kernel
theorem dX11_price_28 : decode cX11_price 28 = .ok (.iload_n 2, 1) := by decide +kernel
theorem dX11_price_29 : decode cX11_price 29 = .ok (.invokevirtual 200, 3) := by decide +kernel
theorem dX11_price_32 : decode cX11_price 32 = .ok (.ireturn, 1) := by decide +kernel
theorem dX11_pays_0 : decode cX11_pays 0 = .ok (.iload_n 1, 1) := by decide +kernel
theorem dX11_pays_1 : decode cX11_pays 1 = .ok (.ifCond .eq 11, 3) := by decide +kernel
theorem dX11_pays_4 : decode cX11_pays 4 = .ok (.iload_n 1, 1) := by decide +kernel
theorem dX11_pays_5 : decode cX11_pays 5 = .ok (.iconst 1, 1) := by decide +kernel
theorem dX11_pays_6 : decode cX11_pays 6 = .ok (.if_icmp .eq 6, 3) := by decide +kernel
theorem dX11_pays_9 : decode cX11_pays 9 = .ok (.bipush (-2), 2) := by decide +kernel
theorem dX11_pays_11 : decode cX11_pays 11 = .ok (.ireturn, 1) := by decide +kernel
theorem dX11_pays_12 : decode cX11_pays 12 = .ok (.aload_n 0, 1) := by decide +kernel
theorem dX11_pays_13 : decode cX11_pays 13 = .ok (.getfield 83, 3) := by decide +kernel
theorem dX11_pays_16 : decode cX11_pays 16 = .ok (.aload_n 0, 1) := by decide +kernel
theorem dX11_pays_17 : decode cX11_pays 17 = .ok (.getfield 41, 3) := by decide +kernel
theorem dX11_pays_20 : decode cX11_pays 20 = .ok (.iload_n 1, 1) := by decide +kernel
theorem dX11_pays_21 : decode cX11_pays 21 = .ok (.iconst 1, 1) := by decide +kernel
theorem dX11_pays_22 : decode cX11_pays 22 = .ok (.if_icmp .ne 7, 3) := by decide +kernel
theorem dX11_pays_25 : decode cX11_pays 25 = .ok (.iconst 1, 1) := by decide +kernel
theorem dX11_pays_26 : decode cX11_pays 26 = .ok (.goto 4, 3) := by decide +kernel
theorem dX11_pays_29 : decode cX11_pays 29 = .ok (.iconst 0, 1) := by decide +kernel
theorem dX11_pays_30 : decode cX11_pays 30 = .ok (.invokevirtual 203, 3) := by decide +kernel
theorem dX11_pays_33 : decode cX11_pays 33 = .ok (.ireturn, 1) := by decide +kernel
theorem dX11_count_0 : decode cX11_count 0 = .ok (.iload_n 1, 1) := by decide +kernel
theorem dX11_count_1 : decode cX11_count 1 = .ok (.tableswitch 155 0 12 #[67, 67, 67, 73, 81, 99, 108, 117, 126, 135, 143, 143, 143], 67) := by decide +kernel
theorem dX11_count_68 : decode cX11_count 68 = .ok (.aload_n 0, 1) := by decide +kernel
theorem dX11_count_69 : decode cX11_count 69 = .ok (.iload_n 1, 1) := by decide +kernel
theorem dX11_count_70 : decode cX11_count 70 = .ok (.invokevirtual 207, 3) := by decide +kernel
theorem dX11_count_73 : decode cX11_count 73 = .ok (.ireturn, 1) := by decide +kernel
theorem dX11_count_74 : decode cX11_count 74 = .ok (.aload_n 0, 1) := by decide +kernel
theorem dX11_count_75 : decode cX11_count 75 = .ok (.getfield 41, 3) := by decide +kernel
theorem dX11_count_78 : decode cX11_count 78 = .ok (.getfield 210, 3) := by decide +kernel
theorem dX11_count_81 : decode cX11_count 81 = .ok (.ireturn, 1) := by decide +kernel
theorem dX11_count_82 : decode cX11_count 82 = .ok (.aload_n 0, 1) := by decide +kernel
theorem dX11_count_83 : decode cX11_count 83 = .ok (.getfield 41, 3) := by decide +kernel
theorem dX11_count_86 : decode cX11_count 86 = .ok (.iconst 0, 1) := by decide +kernel
theorem dX11_count_87 : decode cX11_count 87 = .ok (.invokevirtual 211, 3) := by decide +kernel
theorem dX11_count_90 : decode cX11_count 90 = .ok (.aload_n 0, 1) := by decide +kernel
theorem dX11_count_91 : decode cX11_count 91 = .ok (.getfield 41, 3) := by decide +kernel
theorem dX11_count_94 : decode cX11_count 94 = .ok (.iconst 1, 1) := by decide +kernel
theorem dX11_count_95 : decode cX11_count 95 = .ok (.invokevirtual 211, 3) := by decide +kernel
theorem dX11_count_98 : decode cX11_count 98 = .ok (.iadd, 1) := by decide +kernel
theorem dX11_count_99 : decode cX11_count 99 = .ok (.ireturn, 1) := by decide +kernel
theorem dX11_count_100 : decode cX11_count 100 = .ok (.aload_n 0, 1) := by decide +kernel
theorem dX11_count_101 : decode cX11_count 101 = .ok (.getfield 41, 3) := by decide +kernel
theorem dX11_count_104 : decode cX11_count 104 = .ok (.iconst 0, 1) := by decide +kernel
theorem dX11_count_105 : decode cX11_count 105 = .ok (.invokevirtual 211, 3) := by decide +kernel
theorem dX11_count_108 : decode cX11_count 108 = .ok (.ireturn, 1) := by decide +kernel
theorem dX11_count_109 : decode cX11_count 109 = .ok (.aload_n 0, 1) := by decide +kernel
theorem dX11_count_110 : decode cX11_count 110 = .ok (.getfield 41, 3) := by decide +kernel
theorem dX11_count_113 : decode cX11_count 113 = .ok (.iconst 1, 1) := by decide +kernel
theorem dX11_count_114 : decode cX11_count 114 = .ok (.invokevirtual 211, 3) := by decide +kernel
theorem dX11_count_117 : decode cX11_count 117 = .ok (.ireturn, 1) := by decide +kernel
theorem dX11_count_118 : decode cX11_count 118 = .ok (.aload_n 0, 1) := by decide +kernel
theorem dX11_count_119 : decode cX11_count 119 = .ok (.getfield 41, 3) := by decide +kernel
theorem dX11_count_122 : decode cX11_count 122 = .ok (.iconst 2, 1) := by decide +kernel
theorem dX11_count_123 : decode cX11_count 123 = .ok (.invokevirtual 211, 3) := by decide +kernel
theorem dX11_count_126 : decode cX11_count 126 = .ok (.ireturn, 1) := by decide +kernel
theorem dX11_count_127 : decode cX11_count 127 = .ok (.aload_n 0, 1) := by decide +kernel
theorem dX11_count_128 : decode cX11_count 128 = .ok (.getfield 41, 3) := by decide +kernel
theorem dX11_count_131 : decode cX11_count 131 = .ok (.iconst 3, 1) := by decide +kernel
theorem dX11_count_132 : decode cX11_count 132 = .ok (.invokevirtual 211, 3) := by decide +kernel
theorem dX11_count_135 : decode cX11_count 135 = .ok (.ireturn, 1) := by decide +kernel
theorem dX11_count_136 : decode cX11_count 136 = .ok (.aload_n 0, 1) := by decide +kernel
theorem dX11_count_137 : decode cX11_count 137 = .ok (.getfield 12, 3) := by decide +kernel
theorem dX11_count_140 : decode cX11_count 140 = .ok (.getfield 87, 3) := by decide +kernel
theorem dX11_count_143 : decode cX11_count 143 = .ok (.ireturn, 1) := by decide +kernel
theorem dX11_count_144 : decode cX11_count 144 = .ok (.aload_n 0, 1) := by decide +kernel
theorem dX11_count_145 : decode cX11_count 145 = .ok (.getfield 41, 3) := by decide +kernel
theorem dX11_count_148 : decode cX11_count 148 = .ok (.iload_n 1, 1) := by decide +kernel
theorem dX11_count_149 : decode cX11_count 149 = .ok (.bipush 10, 2) := by decide +kernel
theorem dX11_count_151 : decode cX11_count 151 = .ok (.isub, 1) := by decide +kernel
theorem dX11_count_152 : decode cX11_count 152 = .ok (.invokevirtual 157, 3) := by decide +kernel
theorem dX11_count_155 : decode cX11_count 155 = .ok (.ireturn, 1) := by decide +kernel
theorem dX11_count_156 : decode cX11_count 156 = .ok (.iconst (-1), 1) := by decide +kernel
theorem dX11_count_157 : decode cX11_count 157 = .ok (.ireturn, 1) := by decide +kernel
theorem dX11_sheetOf_0 : decode cX11_sheetOf 0 = .ok (.iload_n 1, 1) := by decide +kernel
theorem dX11_sheetOf_1 : decode cX11_sheetOf 1 = .ok (.tableswitch 42 0 2 #[27, 32, 37], 27) := by decide +kernel
theorem dX11_sheetOf_28 : decode cX11_sheetOf 28 = .ok (.aload_n 0, 1) := by decide +kernel
theorem dX11_sheetOf_29 : decode cX11_sheetOf 29 = .ok (.getfield 28, 3) := by decide +kernel
theorem dX11_sheetOf_32 : decode cX11_sheetOf 32 = .ok (.areturn, 1) := by decide +kernel
theorem dX11_sheetOf_33 : decode cX11_sheetOf 33 = .ok (.aload_n 0, 1) := by decide +kernel
theorem dX11_sheetOf_34 : decode cX11_sheetOf 34 = .ok (.getfield 32, 3) := by decide +kernel
theorem dX11_sheetOf_37 : decode cX11_sheetOf 37 = .ok (.areturn, 1) := by decide +kernel
theorem dX11_sheetOf_38 : decode cX11_sheetOf 38 = .ok (.aload_n 0, 1) := by decide +kernel
theorem dX11_sheetOf_39 : decode cX11_sheetOf 39 = .ok (.getfield 35, 3) := by decide +kernel
theorem dX11_sheetOf_42 : decode cX11_sheetOf 42 = .ok (.areturn, 1) := by decide +kernel
theorem dX11_sheetOf_43 : decode cX11_sheetOf 43 = .ok (.aconst_null, 1) := by decide +kernel
theorem dX11_sheetOf_44 : decode cX11_sheetOf 44 = .ok (.areturn, 1) := by decide +kernel
theorem dX11_sizeOf_0 : decode cX11_sizeOf 0 = .ok (.aload_n 0, 1) := by decide +kernel
theorem dX11_sizeOf_1 : decode cX11_sizeOf 1 = .ok (.iload_n 1, 1) := by decide +kernel
theorem dX11_sizeOf_2 : decode cX11_sizeOf 2 = .ok (.invokevirtual 126, 3) := by decide +kernel
theorem dX11_sizeOf_5 : decode cX11_sizeOf 5 = .ok (.astore_n 2, 1) := by decide +kernel
theorem dX11_sizeOf_6 : decode cX11_sizeOf 6 = .ok (.aload_n 2, 1) := by decide +kernel
theorem dX11_sizeOf_7 : decode cX11_sizeOf 7 = .ok (.ifnonnull 7, 3) := by decide +kernel
theorem dX11_sizeOf_10 : decode cX11_sizeOf 10 = .ok (.iconst (-1), 1) := by decide +kernel
theorem dX11_sizeOf_11 : decode cX11_sizeOf 11 = .ok (.goto 7, 3) := by decide +kernel
theorem dX11_sizeOf_14 : decode cX11_sizeOf 14 = .ok (.aload_n 2, 1) := by decide +kernel
theorem dX11_sizeOf_15 : decode cX11_sizeOf 15 = .ok (.getfield 111, 3) := by decide +kernel
theorem dX11_sizeOf_18 : decode cX11_sizeOf 18 = .ok (.ireturn, 1) := by decide +kernel
theorem dX11_settle_0 : decode cX11_settle 0 = .ok (.aload_n 0, 1) := by decide +kernel
theorem dX11_settle_1 : decode cX11_settle 1 = .ok (.getfield 41, 3) := by decide +kernel
theorem dX11_settle_4 : decode cX11_settle 4 = .ok (.invokevirtual 214, 3) := by decide +kernel
theorem dX11_settle_7 : decode cX11_settle 7 = .ok (.aload_n 0, 1) := by decide +kernel
theorem dX11_settle_8 : decode cX11_settle 8 = .ok (.getfield 62, 3) := by decide +kernel
theorem dX11_settle_11 : decode cX11_settle 11 = .ok (.aload_n 0, 1) := by decide +kernel
theorem dX11_settle_12 : decode cX11_settle 12 = .ok (.getfield 41, 3) := by decide +kernel
theorem dX11_settle_15 : decode cX11_settle 15 = .ok (.iconst 0, 1) := by decide +kernel
theorem dX11_settle_16 : decode cX11_settle 16 = .ok (.invokevirtual 217, 3) := by decide +kernel
theorem dX11_settle_19 : decode cX11_settle 19 = .ok (.aload_n 0, 1) := by decide +kernel
theorem dX11_settle_20 : decode cX11_settle 20 = .ok (.getfield 62, 3) := by decide +kernel
theorem dX11_settle_23 : decode cX11_settle 23 = .ok (.aload_n 0, 1) := by decide +kernel
theorem dX11_settle_24 : decode cX11_settle 24 = .ok (.getfield 28, 3) := by decide +kernel
theorem dX11_settle_27 : decode cX11_settle 27 = .ok (.aload_n 0, 1) := by decide +kernel
theorem dX11_settle_28 : decode cX11_settle 28 = .ok (.getfield 35, 3) := by decide +kernel
theorem dX11_settle_31 : decode cX11_settle 31 = .ok (.invokevirtual 221, 3) := by decide +kernel
theorem dX11_settle_34 : decode cX11_settle 34 = .ok (.return_, 1) := by decide +kernel
theorem dX11_isBlank_0 : decode cX11_isBlank 0 = .ok (.iload_n 0, 1) := by decide +kernel
theorem dX11_isBlank_1 : decode cX11_isBlank 1 = .ok (.bipush 32, 2) := by decide +kernel
theorem dX11_isBlank_3 : decode cX11_isBlank 3 = .ok (.if_icmp .eq 9, 3) := by decide +kernel
theorem dX11_isBlank_6 : decode cX11_isBlank 6 = .ok (.iload_n 0, 1) := by decide +kernel
theorem dX11_isBlank_7 : decode cX11_isBlank 7 = .ok (.bipush 10, 2) := by decide +kernel
theorem dX11_isBlank_9 : decode cX11_isBlank 9 = .ok (.if_icmp .ne 7, 3) := by decide +kernel
theorem dX11_isBlank_12 : decode cX11_isBlank 12 = .ok (.iconst 1, 1) := by decide +kernel
theorem dX11_isBlank_13 : decode cX11_isBlank 13 = .ok (.goto 4, 3) := by decide +kernel
theorem dX11_isBlank_16 : decode cX11_isBlank 16 = .ok (.iconst 0, 1) := by decide +kernel
theorem dX11_isBlank_17 : decode cX11_isBlank 17 = .ok (.ireturn, 1) := by decide +kernel
theorem dX11_isSmall_0 : decode cX11_isSmall 0 = .ok (.iload_n 0, 1) := by decide +kernel
theorem dX11_isSmall_1 : decode cX11_isSmall 1 = .ok (.bipush 97, 2) := by decide +kernel
theorem dX11_isSmall_3 : decode cX11_isSmall 3 = .ok (.if_icmp .lt 13, 3) := by decide +kernel
theorem dX11_isSmall_6 : decode cX11_isSmall 6 = .ok (.iload_n 0, 1) := by decide +kernel
theorem dX11_isSmall_7 : decode cX11_isSmall 7 = .ok (.bipush 122, 2) := by decide +kernel
theorem dX11_isSmall_9 : decode cX11_isSmall 9 = .ok (.if_icmp .gt 7, 3) := by decide +kernel
theorem dX11_isSmall_12 : decode cX11_isSmall 12 = .ok (.iconst 1, 1) := by decide +kernel
theorem dX11_isSmall_13 : decode cX11_isSmall 13 = .ok (.goto 4, 3) := by decide +kernel
theorem dX11_isSmall_16 : decode cX11_isSmall 16 = .ok (.iconst 0, 1) := by decide +kernel
theorem dX11_isSmall_17 : decode cX11_isSmall 17 = .ok (.ireturn, 1) := by decide +kernel
theorem dX11_isDigit_0 : decode cX11_isDigit 0 = .ok (.iload_n 0, 1) := by decide +kernel
theorem dX11_isDigit_1 : decode cX11_isDigit 1 = .ok (.bipush 48, 2) := by decide +kernel
theorem dX11_isDigit_3 : decode cX11_isDigit 3 = .ok (.if_icmp .lt 13, 3) := by decide +kernel
theorem dX11_isDigit_6 : decode cX11_isDigit 6 = .ok (.iload_n 0, 1) := by decide +kernel
theorem dX11_isDigit_7 : decode cX11_isDigit 7 = .ok (.bipush 57, 2) := by decide +kernel
theorem dX11_isDigit_9 : decode cX11_isDigit 9 = .ok (.if_icmp .gt 7, 3) := by decide +kernel
theorem dX11_isDigit_12 : decode cX11_isDigit 12 = .ok (.iconst 1, 1) := by decide +kernel
theorem dX11_isDigit_13 : decode cX11_isDigit 13 = .ok (.goto 4, 3) := by decide +kernel
theorem dX11_isDigit_16 : decode cX11_isDigit 16 = .ok (.iconst 0, 1) := by decide +kernel
theorem dX11_isDigit_17 : decode cX11_isDigit 17 = .ok (.ireturn, 1) := by decide +kernel
theorem dX11_isOfWord_0 : decode cX11_isOfWord 0 = .ok (.iload_n 0, 1) := by decide +kernel
theorem dX11_isOfWord_1 : decode cX11_isOfWord 1 = .ok (.invokestatic 225, 3) := by decide +kernel
theorem dX11_isOfWord_4 : decode cX11_isOfWord 4 = .ok (.ifCond .ne 22, 3) := by decide +kernel
theorem dX11_isOfWord_7 : decode cX11_isOfWord 7 = .ok (.iload_n 0, 1) := by decide +kernel
theorem dX11_isOfWord_8 : decode cX11_isOfWord 8 = .ok (.invokestatic 229, 3) := by decide +kernel
theorem dX11_isOfWord_11 : decode cX11_isOfWord 11 = .ok (.ifCond .ne 15, 3) := by decide +kernel
theorem dX11_isOfWord_14 : decode cX11_isOfWord 14 = .ok (.iload_n 0, 1) := by decide +kernel
theorem dX11_isOfWord_15 : decode cX11_isOfWord 15 = .ok (.bipush 65, 2) := by decide +kernel
theorem dX11_isOfWord_17 : decode cX11_isOfWord 17 = .ok (.if_icmp .lt 11, 3) := by decide +kernel
theorem dX11_isOfWord_20 : decode cX11_isOfWord 20 = .ok (.iload_n 0, 1) := by decide +kernel
theorem dX11_isOfWord_21 : decode cX11_isOfWord 21 = .ok (.bipush 90, 2) := by decide +kernel
theorem dX11_isOfWord_23 : decode cX11_isOfWord 23 = .ok (.if_icmp .gt 5, 3) := by decide +kernel
theorem dX11_isOfWord_26 : decode cX11_isOfWord 26 = .ok (.iconst 1, 1) := by decide +kernel
theorem dX11_isOfWord_27 : decode cX11_isOfWord 27 = .ok (.ireturn, 1) := by decide +kernel
theorem dX11_isOfWord_28 : decode cX11_isOfWord 28 = .ok (.iload_n 0, 1) := by decide +kernel
theorem dX11_isOfWord_29 : decode cX11_isOfWord 29 = .ok (.ifCond .le 24, 3) := by decide +kernel
theorem dX11_isOfWord_32 : decode cX11_isOfWord 32 = .ok (.iload_n 0, 1) := by decide +kernel
theorem dX11_isOfWord_33 : decode cX11_isOfWord 33 = .ok (.sipush 128, 3) := by decide +kernel
theorem dX11_isOfWord_36 : decode cX11_isOfWord 36 = .ok (.if_icmp .ge 17, 3) := by decide +kernel
theorem dX11_isOfWord_39 : decode cX11_isOfWord 39 = .ok (.ldc 232, 2) := by decide +kernel
theorem dX11_isOfWord_41 : decode cX11_isOfWord 41 = .ok (.iload_n 0, 1) := by decide +kernel
theorem dX11_isOfWord_42 : decode cX11_isOfWord 42 = .ok (.i2c, 1) := by decide +kernel
theorem dX11_isOfWord_43 : decode cX11_isOfWord 43 = .ok (.invokevirtual 234, 3) := by decide +kernel
theorem dX11_isOfWord_46 : decode cX11_isOfWord 46 = .ok (.ifCond .lt 7, 3) := by decide +kernel
theorem dX11_isOfWord_49 : decode cX11_isOfWord 49 = .ok (.iconst 1, 1) := by decide +kernel
theorem dX11_isOfWord_50 : decode cX11_isOfWord 50 = .ok (.goto 4, 3) := by decide +kernel
theorem dX11_isOfWord_53 : decode cX11_isOfWord 53 = .ok (.iconst 0, 1) := by decide +kernel
theorem dX11_isOfWord_54 : decode cX11_isOfWord 54 = .ok (.ireturn, 1) := by decide +kernel
theorem dX12_init_0 : decode cX12_init 0 = .ok (.aload_n 0, 1) := by decide +kernel
theorem dX12_init_1 : decode cX12_init 1 = .ok (.aconst_null, 1) := by decide +kernel
theorem dX12_init_2 : decode cX12_init 2 = .ok (.aconst_null, 1) := by decide +kernel
theorem dX12_init_3 : decode cX12_init 3 = .ok (.iconst 0, 1) := by decide +kernel
theorem dX12_init_4 : decode cX12_init 4 = .ok (.iconst 0, 1) := by decide +kernel
theorem dX12_init_5 : decode cX12_init 5 = .ok (.invokespecial 1, 3) := by decide +kernel
theorem dX12_init_8 : decode cX12_init 8 = .ok (.return_, 1) := by decide +kernel
theorem dX13_in_0 : decode cX13_in 0 = .ok (.lload_n 0, 1) := by decide +kernel
theorem dX13_in_1 : decode cX13_in 1 = .ok (.lload_n 2, 1) := by decide +kernel
theorem dX13_in_2 : decode cX13_in 2 = .ok (.lcmp, 1) := by decide +kernel
theorem dX13_in_3 : decode cX13_in 3 = .ok (.ifCond .lt 14, 3) := by decide +kernel
theorem dX13_in_6 : decode cX13_in 6 = .ok (.lload_n 0, 1) := by decide +kernel
theorem dX13_in_7 : decode cX13_in 7 = .ok (.lload 4, 2) := by decide +kernel
theorem dX13_in_9 : decode cX13_in 9 = .ok (.lcmp, 1) := by decide +kernel
theorem dX13_in_10 : decode cX13_in 10 = .ok (.ifCond .gt 7, 3) := by decide +kernel
theorem dX13_in_13 : decode cX13_in 13 = .ok (.iconst 1, 1) := by decide +kernel
theorem dX13_in_14 : decode cX13_in 14 = .ok (.goto 4, 3) := by decide +kernel
theorem dX13_in_17 : decode cX13_in 17 = .ok (.iconst 0, 1) := by decide +kernel
theorem dX13_in_18 : decode cX13_in 18 = .ok (.ireturn, 1) := by decide +kernel
theorem dX13_wrong_0 : decode cX13_wrong 0 = .ok (.aload_n 0, 1) := by decide +kernel
theorem dX13_wrong_1 : decode cX13_wrong 1 = .ok (.iload_n 1, 1) := by decide +kernel
theorem dX13_wrong_2 : decode cX13_wrong 2 = .ok (.putfield 1, 3) := by decide +kernel
theorem dX13_wrong_5 : decode cX13_wrong 5 = .ok (.aload_n 0, 1) := by decide +kernel
theorem dX13_wrong_6 : decode cX13_wrong 6 = .ok (.iload_n 2, 1) := by decide +kernel
theorem dX13_wrong_7 : decode cX13_wrong 7 = .ok (.putfield 7, 3) := by decide +kernel
theorem dX13_wrong_10 : decode cX13_wrong 10 = .ok (.aload_n 0, 1) := by decide +kernel
theorem dX13_wrong_11 : decode cX13_wrong 11 = .ok (.getfield 10, 3) := by decide +kernel
theorem dX13_wrong_14 : decode cX13_wrong 14 = .ok (.areturn, 1) := by decide +kernel
theorem dX13_byteAt_0 : decode cX13_byteAt 0 = .ok (.iload_n 1, 1) := by decide +kernel
theorem dX13_byteAt_1 : decode cX13_byteAt 1 = .ok (.aload_n 0, 1) := by decide +kernel
theorem dX13_byteAt_2 : decode cX13_byteAt 2 = .ok (.getfield 14, 3) := by decide +kernel
theorem dX13_byteAt_5 : decode cX13_byteAt 5 = .ok (.if_icmp .ge 16, 3) := by decide +kernel
theorem dX13_byteAt_8 : decode cX13_byteAt 8 = .ok (.aload_n 0, 1) := by decide +kernel
theorem dX13_byteAt_9 : decode cX13_byteAt 9 = .ok (.getfield 17, 3) := by decide +kernel
theorem dX13_byteAt_12 : decode cX13_byteAt 12 = .ok (.iload_n 1, 1) := by decide +kernel
theorem dX13_byteAt_13 : decode cX13_byteAt 13 = .ok (.baload, 1) := by decide +kernel
theorem dX13_byteAt_14 : decode cX13_byteAt 14 = .ok (.sipush 255, 3) := by decide +kernel
theorem dX13_byteAt_17 : decode cX13_byteAt 17 = .ok (.iand, 1) := by decide +kernel
theorem dX13_byteAt_18 : decode cX13_byteAt 18 = .ok (.goto 4, 3) := by decide +kernel
theorem dX13_byteAt_21 : decode cX13_byteAt 21 = .ok (.iconst 0, 1) := by decide +kernel
theorem dX13_byteAt_22 : decode cX13_byteAt 22 = .ok (.ireturn, 1) := by decide +kernel
theorem dX13_isBlank_0 : decode cX13_isBlank 0 = .ok (.iload_n 0, 1) := by decide +kernel
theorem dX13_isBlank_1 : decode cX13_isBlank 1 = .ok (.bipush 32, 2) := by decide +kernel
theorem dX13_isBlank_3 : decode cX13_isBlank 3 = .ok (.if_icmp .eq 9, 3) := by decide +kernel
theorem dX13_isBlank_6 : decode cX13_isBlank 6 = .ok (.iload_n 0, 1) := by decide +kernel
theorem dX13_isBlank_7 : decode cX13_isBlank 7 = .ok (.bipush 10, 2) := by decide +kernel
theorem dX13_isBlank_9 : decode cX13_isBlank 9 = .ok (.if_icmp .ne 7, 3) := by decide +kernel
theorem dX13_isBlank_12 : decode cX13_isBlank 12 = .ok (.iconst 1, 1) := by decide +kernel
theorem dX13_isBlank_13 : decode cX13_isBlank 13 = .ok (.goto 4, 3) := by decide +kernel
theorem dX13_isBlank_16 : decode cX13_isBlank 16 = .ok (.iconst 0, 1) := by decide +kernel
theorem dX13_isBlank_17 : decode cX13_isBlank 17 = .ok (.ireturn, 1) := by decide +kernel
theorem dX13_isSmall_0 : decode cX13_isSmall 0 = .ok (.iload_n 0, 1) := by decide +kernel
theorem dX13_isSmall_1 : decode cX13_isSmall 1 = .ok (.bipush 97, 2) := by decide +kernel
theorem dX13_isSmall_3 : decode cX13_isSmall 3 = .ok (.if_icmp .lt 13, 3) := by decide +kernel
theorem dX13_isSmall_6 : decode cX13_isSmall 6 = .ok (.iload_n 0, 1) := by decide +kernel
theorem dX13_isSmall_7 : decode cX13_isSmall 7 = .ok (.bipush 122, 2) := by decide +kernel
theorem dX13_isSmall_9 : decode cX13_isSmall 9 = .ok (.if_icmp .gt 7, 3) := by decide +kernel
theorem dX13_isSmall_12 : decode cX13_isSmall 12 = .ok (.iconst 1, 1) := by decide +kernel
theorem dX13_isSmall_13 : decode cX13_isSmall 13 = .ok (.goto 4, 3) := by decide +kernel
theorem dX13_isSmall_16 : decode cX13_isSmall 16 = .ok (.iconst 0, 1) := by decide +kernel
theorem dX13_isSmall_17 : decode cX13_isSmall 17 = .ok (.ireturn, 1) := by decide +kernel
theorem dX13_isDigit_0 : decode cX13_isDigit 0 = .ok (.iload_n 0, 1) := by decide +kernel
theorem dX13_isDigit_1 : decode cX13_isDigit 1 = .ok (.bipush 48, 2) := by decide +kernel
theorem dX13_isDigit_3 : decode cX13_isDigit 3 = .ok (.if_icmp .lt 13, 3) := by decide +kernel
theorem dX13_isDigit_6 : decode cX13_isDigit 6 = .ok (.iload_n 0, 1) := by decide +kernel
theorem dX13_isDigit_7 : decode cX13_isDigit 7 = .ok (.bipush 57, 2) := by decide +kernel
theorem dX13_isDigit_9 : decode cX13_isDigit 9 = .ok (.if_icmp .gt 7, 3) := by decide +kernel
theorem dX13_isDigit_12 : decode cX13_isDigit 12 = .ok (.iconst 1, 1) := by decide +kernel
theorem dX13_isDigit_13 : decode cX13_isDigit 13 = .ok (.goto 4, 3) := by decide +kernel
theorem dX13_isDigit_16 : decode cX13_isDigit 16 = .ok (.iconst 0, 1) := by decide +kernel
theorem dX13_isDigit_17 : decode cX13_isDigit 17 = .ok (.ireturn, 1) := by decide +kernel
theorem dX13_isOfWord_0 : decode cX13_isOfWord 0 = .ok (.iload_n 0, 1) := by decide +kernel
theorem dX13_isOfWord_1 : decode cX13_isOfWord 1 = .ok (.invokestatic 21, 3) := by decide +kernel
theorem dX13_isOfWord_4 : decode cX13_isOfWord 4 = .ok (.ifCond .ne 70, 3) := by decide +kernel
theorem dX13_isOfWord_7 : decode cX13_isOfWord 7 = .ok (.iload_n 0, 1) := by decide +kernel
theorem dX13_isOfWord_8 : decode cX13_isOfWord 8 = .ok (.invokestatic 25, 3) := by decide +kernel
theorem dX13_isOfWord_11 : decode cX13_isOfWord 11 = .ok (.ifCond .ne 63, 3) := by decide +kernel
theorem dX13_isOfWord_14 : decode cX13_isOfWord 14 = .ok (.iload_n 0, 1) := by decide +kernel
theorem dX13_isOfWord_15 : decode cX13_isOfWord 15 = .ok (.bipush 65, 2) := by decide +kernel
theorem dX13_isOfWord_17 : decode cX13_isOfWord 17 = .ok (.if_icmp .lt 9, 3) := by decide +kernel
theorem dX13_isOfWord_20 : decode cX13_isOfWord 20 = .ok (.iload_n 0, 1) := by decide +kernel
theorem dX13_isOfWord_21 : decode cX13_isOfWord 21 = .ok (.bipush 90, 2) := by decide +kernel
theorem dX13_isOfWord_23 : decode cX13_isOfWord 23 = .ok (.if_icmp .le 51, 3) := by decide +kernel
theorem dX13_isOfWord_26 : decode cX13_isOfWord 26 = .ok (.iload_n 0, 1) := by decide +kernel
theorem dX13_isOfWord_27 : decode cX13_isOfWord 27 = .ok (.bipush 46, 2) := by decide +kernel
theorem dX13_isOfWord_29 : decode cX13_isOfWord 29 = .ok (.if_icmp .eq 45, 3) := by decide +kernel
theorem dX13_isOfWord_32 : decode cX13_isOfWord 32 = .ok (.iload_n 0, 1) := by decide +kernel
theorem dX13_isOfWord_33 : decode cX13_isOfWord 33 = .ok (.bipush 44, 2) := by decide +kernel
theorem dX13_isOfWord_35 : decode cX13_isOfWord 35 = .ok (.if_icmp .eq 39, 3) := by decide +kernel
theorem dX13_isOfWord_38 : decode cX13_isOfWord 38 = .ok (.iload_n 0, 1) := by decide +kernel
theorem dX13_isOfWord_39 : decode cX13_isOfWord 39 = .ok (.bipush 39, 2) := by decide +kernel
theorem dX13_isOfWord_41 : decode cX13_isOfWord 41 = .ok (.if_icmp .eq 33, 3) := by decide +kernel
theorem dX13_isOfWord_44 : decode cX13_isOfWord 44 = .ok (.iload_n 0, 1) := by decide +kernel
theorem dX13_isOfWord_45 : decode cX13_isOfWord 45 = .ok (.bipush 33, 2) := by decide +kernel
theorem dX13_isOfWord_47 : decode cX13_isOfWord 47 = .ok (.if_icmp .eq 27, 3) := by decide +kernel
theorem dX13_isOfWord_50 : decode cX13_isOfWord 50 = .ok (.iload_n 0, 1) := by decide +kernel
theorem dX13_isOfWord_51 : decode cX13_isOfWord 51 = .ok (.bipush 63, 2) := by decide +kernel
theorem dX13_isOfWord_53 : decode cX13_isOfWord 53 = .ok (.if_icmp .eq 21, 3) := by decide +kernel
theorem dX13_isOfWord_56 : decode cX13_isOfWord 56 = .ok (.iload_n 0, 1) := by decide +kernel
theorem dX13_isOfWord_57 : decode cX13_isOfWord 57 = .ok (.bipush 59, 2) := by decide +kernel
theorem dX13_isOfWord_59 : decode cX13_isOfWord 59 = .ok (.if_icmp .eq 15, 3) := by decide +kernel
theorem dX13_isOfWord_62 : decode cX13_isOfWord 62 = .ok (.iload_n 0, 1) := by decide +kernel
theorem dX13_isOfWord_63 : decode cX13_isOfWord 63 = .ok (.bipush 58, 2) := by decide +kernel
theorem dX13_isOfWord_65 : decode cX13_isOfWord 65 = .ok (.if_icmp .eq 9, 3) := by decide +kernel
theorem dX13_isOfWord_68 : decode cX13_isOfWord 68 = .ok (.iload_n 0, 1) := by decide +kernel
theorem dX13_isOfWord_69 : decode cX13_isOfWord 69 = .ok (.bipush 45, 2) := by decide +kernel
theorem dX13_isOfWord_71 : decode cX13_isOfWord 71 = .ok (.if_icmp .ne 7, 3) := by decide +kernel
theorem dX13_isOfWord_74 : decode cX13_isOfWord 74 = .ok (.iconst 1, 1) := by decide +kernel
theorem dX13_isOfWord_75 : decode cX13_isOfWord 75 = .ok (.goto 4, 3) := by decide +kernel
theorem dX13_isOfWord_78 : decode cX13_isOfWord 78 = .ok (.iconst 0, 1) := by decide +kernel
theorem dX13_isOfWord_79 : decode cX13_isOfWord 79 = .ok (.ireturn, 1) := by decide +kernel
theorem dX13_begin_0 : decode cX13_begin 0 = .ok (.aload_n 0, 1) := by decide +kernel
theorem dX13_begin_1 : decode cX13_begin 1 = .ok (.aload_n 0, 1) := by decide +kernel
theorem dX13_begin_2 : decode cX13_begin 2 = .ok (.getfield 28, 3) := by decide +kernel
theorem dX13_begin_5 : decode cX13_begin 5 = .ok (.putfield 14, 3) := by decide +kernel
theorem dX13_begin_8 : decode cX13_begin 8 = .ok (.aload_n 0, 1) := by decide +kernel
theorem dX13_begin_9 : decode cX13_begin 9 = .ok (.iconst 0, 1) := by decide +kernel
theorem dX13_begin_10 : decode cX13_begin 10 = .ok (.putfield 28, 3) := by decide +kernel
theorem dX13_begin_13 : decode cX13_begin 13 = .ok (.aload_n 0, 1) := by decide +kernel
theorem dX13_begin_14 : decode cX13_begin 14 = .ok (.iconst 0, 1) := by decide +kernel
theorem dX13_begin_15 : decode cX13_begin 15 = .ok (.putfield 31, 3) := by decide +kernel
theorem dX13_begin_18 : decode cX13_begin 18 = .ok (.aload_n 0, 1) := by decide +kernel
theorem dX13_begin_19 : decode cX13_begin 19 = .ok (.iconst 0, 1) := by decide +kernel
theorem dX13_begin_20 : decode cX13_begin 20 = .ok (.putfield 1, 3) := by decide +kernel
theorem dX13_begin_23 : decode cX13_begin 23 = .ok (.aload_n 0, 1) := by decide +kernel
theorem dX13_begin_24 : decode cX13_begin 24 = .ok (.iconst (-1), 1) := by decide +kernel
theorem dX13_begin_25 : decode cX13_begin 25 = .ok (.putfield 7, 3) := by decide +kernel
theorem dX13_begin_28 : decode cX13_begin 28 = .ok (.return_, 1) := by decide +kernel
theorem dX13_readProof_0 : decode cX13_readProof 0 = .ok (.iconst 0, 1) := by decide +kernel
theorem dX13_readProof_1 : decode cX13_readProof 1 = .ok (.istore_n 2, 1) := by decide +kernel
theorem dX13_readProof_2 : decode cX13_readProof 2 = .ok (.iconst 0, 1) := by decide +kernel
theorem dX13_readProof_3 : decode cX13_readProof 3 = .ok (.istore_n 3, 1) := by decide +kernel
theorem dX13_readProof_4 : decode cX13_readProof 4 = .ok (.iconst 0, 1) := by decide +kernel
theorem dX13_readProof_5 : decode cX13_readProof 5 = .ok (.istore 4, 2) := by decide +kernel
theorem dX13_readProof_7 : decode cX13_readProof 7 = .ok (.iload 4, 2) := by decide +kernel
theorem dX13_readProof_9 : decode cX13_readProof 9 = .ok (.aload_n 0, 1) := by decide +kernel
theorem dX13_readProof_10 : decode cX13_readProof 10 = .ok (.getfield 14, 3) := by decide +kernel
theorem dX13_readProof_13 : decode cX13_readProof 13 = .ok (.if_icmp .ge 105, 3) := by decide +kernel
theorem dX13_readProof_16 : decode cX13_readProof 16 = .ok (.aload_n 0, 1) := by decide +kernel
theorem dX13_readProof_17 : decode cX13_readProof 17 = .ok (.iload 4, 2) := by decide +kernel
theorem dX13_readProof_19 : decode cX13_readProof 19 = .ok (.invokevirtual 34, 3) := by decide +kernel
theorem dX13_readProof_22 : decode cX13_readProof 22 = .ok (.istore 5, 2) := by decide +kernel
theorem dX13_readProof_24 : decode cX13_readProof 24 = .ok (.iload 5, 2) := by decide +kernel
theorem dX13_readProof_26 : decode cX13_readProof 26 = .ok (.invokestatic 38, 3) := by decide +kernel
theorem dX13_readProof_29 : decode cX13_readProof 29 = .ok (.ifCond .eq 8, 3) := by decide +kernel
theorem dX13_readProof_32 : decode cX13_readProof 32 = .ok (.iconst 0, 1) := by decide +kernel
theorem dX13_readProof_33 : decode cX13_readProof 33 = .ok (.istore_n 3, 1) := by decide +kernel
theorem dX13_readProof_34 : decode cX13_readProof 34 = .ok (.goto 78, 3) := by decide +kernel
theorem dX13_readProof_37 : decode cX13_readProof 37 = .ok (.iload 5, 2) := by decide +kernel
theorem dX13_readProof_39 : decode cX13_readProof 39 = .ok (.invokestatic 41, 3) := by decide +kernel
theorem dX13_readProof_42 : decode cX13_readProof 42 = .ok (.ifCond .eq 9, 3) := by decide +kernel
theorem dX13_readProof_45 : decode cX13_readProof 45 = .ok (.iload_n 3, 1) := by decide +kernel
theorem dX13_readProof_46 : decode cX13_readProof 46 = .ok (.bipush 8, 2) := by decide +kernel
theorem dX13_readProof_48 : decode cX13_readProof 48 = .ok (.if_icmp .ne 11, 3) := by decide +kernel
theorem dX13_readProof_51 : decode cX13_readProof 51 = .ok (.aload_n 0, 1) := by decide +kernel
theorem dX13_readProof_52 : decode cX13_readProof 52 = .ok (.iconst 1, 1) := by decide +kernel
theorem dX13_readProof_53 : decode cX13_readProof 53 = .ok (.iload 4, 2) := by decide +kernel
theorem dX13_readProof_55 : decode cX13_readProof 55 = .ok (.invokevirtual 44, 3) := by decide +kernel
theorem dX13_readProof_58 : decode cX13_readProof 58 = .ok (.athrow, 1) := by decide +kernel
theorem dX13_readProof_59 : decode cX13_readProof 59 = .ok (.iload_n 3, 1) := by decide +kernel
theorem dX13_readProof_60 : decode cX13_readProof 60 = .ok (.ifCond .ne 26, 3) := by decide +kernel
theorem dX13_readProof_63 : decode cX13_readProof 63 = .ok (.iload_n 2, 1) := by decide +kernel
theorem dX13_readProof_64 : decode cX13_readProof 64 = .ok (.iload_n 1, 1) := by decide +kernel
theorem dX13_readProof_65 : decode cX13_readProof 65 = .ok (.if_icmp .ne 11, 3) := by decide +kernel
theorem dX13_readProof_68 : decode cX13_readProof 68 = .ok (.aload_n 0, 1) := by decide +kernel
theorem dX13_readProof_69 : decode cX13_readProof 69 = .ok (.iconst 3, 1) := by decide +kernel
theorem dX13_readProof_70 : decode cX13_readProof 70 = .ok (.iload 4, 2) := by decide +kernel
theorem dX13_readProof_72 : decode cX13_readProof 72 = .ok (.invokevirtual 44, 3) := by decide +kernel
theorem dX13_readProof_75 : decode cX13_readProof 75 = .ok (.athrow, 1) := by decide +kernel
theorem dX13_readProof_76 : decode cX13_readProof 76 = .ok (.aload_n 0, 1) := by decide +kernel
theorem dX13_readProof_77 : decode cX13_readProof 77 = .ok (.getfield 48, 3) := by decide +kernel
theorem dX13_readProof_80 : decode cX13_readProof 80 = .ok (.iload_n 2, 1) := by decide +kernel
theorem dX13_readProof_81 : decode cX13_readProof 81 = .ok (.lconst 0, 1) := by decide +kernel
theorem dX13_readProof_82 : decode cX13_readProof 82 = .ok (.lastore, 1) := by decide +kernel
theorem dX13_readProof_83 : decode cX13_readProof 83 = .ok (.iinc 2 1, 3) := by decide +kernel
theorem dX13_readProof_86 : decode cX13_readProof 86 = .ok (.aload_n 0, 1) := by decide +kernel
theorem dX13_readProof_87 : decode cX13_readProof 87 = .ok (.getfield 48, 3) := by decide +kernel
theorem dX13_readProof_90 : decode cX13_readProof 90 = .ok (.iload_n 2, 1) := by decide +kernel
theorem dX13_readProof_91 : decode cX13_readProof 91 = .ok (.iconst 1, 1) := by decide +kernel
theorem dX13_readProof_92 : decode cX13_readProof 92 = .ok (.isub, 1) := by decide +kernel
theorem dX13_readProof_93 : decode cX13_readProof 93 = .ok (.aload_n 0, 1) := by decide +kernel
theorem dX13_readProof_94 : decode cX13_readProof 94 = .ok (.getfield 48, 3) := by decide +kernel
theorem dX13_readProof_97 : decode cX13_readProof 97 = .ok (.iload_n 2, 1) := by decide +kernel
theorem dX13_readProof_98 : decode cX13_readProof 98 = .ok (.iconst 1, 1) := by decide +kernel
theorem dX13_readProof_99 : decode cX13_readProof 99 = .ok (.isub, 1) := by decide +kernel
theorem dX13_readProof_100 : decode cX13_readProof 100 = .ok (.laload, 1) := by decide +kernel
theorem dX13_readProof_101 : decode cX13_readProof 101 = .ok (.bipush 8, 2) := by decide +kernel
theorem dX13_readProof_103 : decode cX13_readProof 103 = .ok (.lshl, 1) := by decide +kernel
theorem dX13_readProof_104 : decode cX13_readProof 104 = .ok (.iload 5, 2) := by decide +kernel
theorem dX13_readProof_106 : decode cX13_readProof 106 = .ok (.i2l, 1) := by decide +kernel
theorem dX13_readProof_107 : decode cX13_readProof 107 = .ok (.lor, 1) := by decide +kernel
theorem dX13_readProof_108 : decode cX13_readProof 108 = .ok (.lastore, 1) := by decide +kernel
theorem dX13_readProof_109 : decode cX13_readProof 109 = .ok (.iinc 3 1, 3) := by decide +kernel
theorem dX13_readProof_112 : decode cX13_readProof 112 = .ok (.iinc 4 1, 3) := by decide +kernel
theorem dX13_readProof_115 : decode cX13_readProof 115 = .ok (.goto (-108), 3) := by decide +kernel
theorem dX13_readProof_118 : decode cX13_readProof 118 = .ok (.iload_n 2, 1) := by decide +kernel
theorem dX13_readProof_119 : decode cX13_readProof 119 = .ok (.ireturn, 1) := by decide +kernel
theorem dX13_init_0 : decode cX13_init 0 = .ok (.aload_n 0, 1) := by decide +kernel
theorem dX13_init_1 : decode cX13_init 1 = .ok (.invokespecial 52, 3) := by decide +kernel
theorem dX13_init_4 : decode cX13_init 4 = .ok (.aload_n 0, 1) := by decide +kernel
theorem dX13_init_5 : decode cX13_init 5 = .ok (.bipush 60, 2) := by decide +kernel
theorem dX13_init_7 : decode cX13_init 7 = .ok (.newarray .long, 2) := by decide +kernel
theorem dX13_init_9 : decode cX13_init 9 = .ok (.putfield 58, 3) := by decide +kernel
theorem dX13_init_12 : decode cX13_init 12 = .ok (.aload_n 0, 1) := by decide +kernel
theorem dX13_init_13 : decode cX13_init 13 = .ok (.sipush 150, 3) := by decide +kernel
theorem dX13_init_16 : decode cX13_init 16 = .ok (.newarray .long, 2) := by decide +kernel
theorem dX13_init_18 : decode cX13_init 18 = .ok (.putfield 61, 3) := by decide +kernel
theorem dX13_init_21 : decode cX13_init 21 = .ok (.aload_n 0, 1) := by decide +kernel
theorem dX13_init_22 : decode cX13_init 22 = .ok (.sipush 320, 3) := by decide +kernel
theorem dX13_init_25 : decode cX13_init 25 = .ok (.newarray .long, 2) := by decide +kernel
theorem dX13_init_27 : decode cX13_init 27 = .ok (.putfield 64, 3) := by decide +kernel
theorem dX13_init_30 : decode cX13_init 30 = .ok (.aload_n 0, 1) := by decide +kernel
theorem dX13_init_31 : decode cX13_init 31 = .ok (.new 67, 3) := by decide +kernel
theorem dX13_init_34 : decode cX13_init 34 = .ok (.dup, 1) := by decide +kernel
theorem dX13_init_35 : decode cX13_init 35 = .ok (.invokespecial 69, 3) := by decide +kernel
theorem dX13_init_38 : decode cX13_init 38 = .ok (.putfield 10, 3) := by decide +kernel
theorem dX13_init_41 : decode cX13_init 41 = .ok (.aload_n 0, 1) := by decide +kernel
theorem dX13_init_42 : decode cX13_init 42 = .ok (.sipush 2000, 3) := by decide +kernel
theorem dX13_init_45 : decode cX13_init 45 = .ok (.newarray .byte, 2) := by decide +kernel
theorem dX13_init_47 : decode cX13_init 47 = .ok (.putfield 17, 3) := by decide +kernel
theorem dX13_init_50 : decode cX13_init 50 = .ok (.aload_n 0, 1) := by decide +kernel
theorem dX13_init_51 : decode cX13_init 51 = .ok (.iconst (-1), 1) := by decide +kernel
theorem dX13_init_52 : decode cX13_init 52 = .ok (.putfield 7, 3) := by decide +kernel
theorem dX13_init_55 : decode cX13_init 55 = .ok (.aload_n 0, 1) := by decide +kernel
theorem dX13_init_56 : decode cX13_init 56 = .ok (.sipush 150, 3) := by decide +kernel
theorem dX13_init_59 : decode cX13_init 59 = .ok (.newarray .long, 2) := by decide +kernel
theorem dX13_init_61 : decode cX13_init 61 = .ok (.putfield 48, 3) := by decide +kernel
theorem dX13_init_64 : decode cX13_init 64 = .ok (.aload_n 0, 1) := by decide +kernel
theorem dX13_init_65 : decode cX13_init 65 = .ok (.bipush 41, 2) := by decide +kernel
theorem dX13_init_67 : decode cX13_init 67 = .ok (.newarray .int, 2) := by decide +kernel
theorem dX13_init_69 : decode cX13_init 69 = .ok (.putfield 70, 3) := by decide +kernel
