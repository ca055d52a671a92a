theorem dX0_init_0 : decode cX0_init 0 = .ok (.aload_n 0, 1) := by decide +kernel
theorem dX0_init_1 : decode cX0_init 1 = .ok (.invokespecial 3, 3) := by decide +kernel
theorem dX0_init_4 : decode cX0_init 4 = .ok (.aload_n 0, 1) := by decide +kernel
theorem dX0_init_5 : decode cX0_init 5 = .ok (.getstatic 9, 3) := by decide +kernel
theorem dX0_init_8 : decode cX0_init 8 = .ok (.invokevirtual 13, 3) := by decide +kernel
theorem dX0_init_11 : decode cX0_init 11 = .ok (.checkcast 14, 3) := by decide +kernel
theorem dX0_init_14 : decode cX0_init 14 = .ok (.putfield 18, 3) := by decide +kernel
theorem dX0_init_17 : decode cX0_init 17 = .ok (.return_, 1) := by decide +kernel
theorem dX0_setPrice_0 : decode cX0_setPrice 0 = .ok (.aload_n 0, 1) := by decide +kernel
theorem dX0_setPrice_1 : decode cX0_setPrice 1 = .ok (.iload_n 1, 1) := by decide +kernel
theorem dX0_setPrice_2 : decode cX0_setPrice 2 = .ok (.invokevirtual 23, 3) := by decide +kernel
theorem dX0_setPrice_5 : decode cX0_setPrice 5 = .ok (.istore_n 3, 1) := by decide +kernel
theorem dX0_setPrice_6 : decode cX0_setPrice 6 = .ok (.iload_n 1, 1) := by decide +kernel
theorem dX0_setPrice_7 : decode cX0_setPrice 7 = .ok (.ifCond .lt 19, 3) := by decide +kernel
theorem dX0_setPrice_10 : decode cX0_setPrice 10 = .ok (.iload_n 1, 1) := by decide +kernel
theorem dX0_setPrice_11 : decode cX0_setPrice 11 = .ok (.aload_n 0, 1) := by decide +kernel
theorem dX0_setPrice_12 : decode cX0_setPrice 12 = .ok (.getfield 18, 3) := by decide +kernel
theorem dX0_setPrice_15 : decode cX0_setPrice 15 = .ok (.arraylength, 1) := by decide +kernel
theorem dX0_setPrice_16 : decode cX0_setPrice 16 = .ok (.if_icmp .ge 10, 3) := by decide +kernel
theorem dX0_setPrice_19 : decode cX0_setPrice 19 = .ok (.aload_n 0, 1) := by decide +kernel
theorem dX0_setPrice_20 : decode cX0_setPrice 20 = .ok (.getfield 18, 3) := by decide +kernel
theorem dX0_setPrice_23 : decode cX0_setPrice 23 = .ok (.iload_n 1, 1) := by decide +kernel
theorem dX0_setPrice_24 : decode cX0_setPrice 24 = .ok (.iload_n 2, 1) := by decide +kernel
theorem dX0_setPrice_25 : decode cX0_setPrice 25 = .ok (.iastore, 1) := by decide +kernel
theorem dX0_setPrice_26 : decode cX0_setPrice 26 = .ok (.iload_n 3, 1) := by decide +kernel
theorem dX0_setPrice_27 : decode cX0_setPrice 27 = .ok (.ireturn, 1) := by decide +kernel
theorem dX0_priceOf_0 : decode cX0_priceOf 0 = .ok (.iload_n 1, 1) := by decide +kernel
theorem dX0_priceOf_1 : decode cX0_priceOf 1 = .ok (.ifCond .lt 12, 3) := by decide +kernel
theorem dX0_priceOf_4 : decode cX0_priceOf 4 = .ok (.iload_n 1, 1) := by decide +kernel
theorem dX0_priceOf_5 : decode cX0_priceOf 5 = .ok (.aload_n 0, 1) := by decide +kernel
theorem dX0_priceOf_6 : decode cX0_priceOf 6 = .ok (.getfield 18, 3) := by decide +kernel
theorem dX0_priceOf_9 : decode cX0_priceOf 9 = .ok (.arraylength, 1) := by decide +kernel
theorem dX0_priceOf_10 : decode cX0_priceOf 10 = .ok (.if_icmp .lt 7, 3) := by decide +kernel
theorem dX0_priceOf_13 : decode cX0_priceOf 13 = .ok (.iconst 0, 1) := by decide +kernel
theorem dX0_priceOf_14 : decode cX0_priceOf 14 = .ok (.goto 9, 3) := by decide +kernel
theorem dX0_priceOf_17 : decode cX0_priceOf 17 = .ok (.aload_n 0, 1) := by decide +kernel
theorem dX0_priceOf_18 : decode cX0_priceOf 18 = .ok (.getfield 18, 3) := by decide +kernel
theorem dX0_priceOf_21 : decode cX0_priceOf 21 = .ok (.iload_n 1, 1) := by decide +kernel
theorem dX0_priceOf_22 : decode cX0_priceOf 22 = .ok (.iaload, 1) := by decide +kernel
theorem dX0_priceOf_23 : decode cX0_priceOf 23 = .ok (.ireturn, 1) := by decide +kernel
theorem dX0_sum_0 : decode cX0_sum 0 = .ok (.iconst 0, 1) := by decide +kernel
theorem dX0_sum_1 : decode cX0_sum 1 = .ok (.istore_n 3, 1) := by decide +kernel
theorem dX0_sum_2 : decode cX0_sum 2 = .ok (.iconst 0, 1) := by decide +kernel
theorem dX0_sum_3 : decode cX0_sum 3 = .ok (.istore 4, 2) := by decide +kernel
theorem dX0_sum_5 : decode cX0_sum 5 = .ok (.iload 4, 2) := by decide +kernel
theorem dX0_sum_7 : decode cX0_sum 7 = .ok (.aload_n 1, 1) := by decide +kernel
theorem dX0_sum_8 : decode cX0_sum 8 = .ok (.getfield 27, 3) := by decide +kernel
theorem dX0_sum_11 : decode cX0_sum 11 = .ok (.if_icmp .ge 64, 3) := by decide +kernel
theorem dX0_sum_14 : decode cX0_sum 14 = .ok (.aload_n 1, 1) := by decide +kernel
theorem dX0_sum_15 : decode cX0_sum 15 = .ok (.aload_n 1, 1) := by decide +kernel
theorem dX0_sum_16 : decode cX0_sum 16 = .ok (.iload 4, 2) := by decide +kernel
theorem dX0_sum_18 : decode cX0_sum 18 = .ok (.invokevirtual 33, 3) := by decide +kernel
theorem dX0_sum_21 : decode cX0_sum 21 = .ok (.invokevirtual 36, 3) := by decide +kernel
theorem dX0_sum_24 : decode cX0_sum 24 = .ok (.astore 5, 2) := by decide +kernel
theorem dX0_sum_26 : decode cX0_sum 26 = .ok (.aload 5, 2) := by decide +kernel
theorem dX0_sum_28 : decode cX0_sum 28 = .ok (.ifnull 41, 3) := by decide +kernel
theorem dX0_sum_31 : decode cX0_sum 31 = .ok (.aload 5, 2) := by decide +kernel
theorem dX0_sum_33 : decode cX0_sum 33 = .ok (.getfield 40, 3) := by decide +kernel
theorem dX0_sum_36 : decode cX0_sum 36 = .ok (.iconst 2, 1) := by decide +kernel
theorem dX0_sum_37 : decode cX0_sum 37 = .ok (.if_icmp .eq 11, 3) := by decide +kernel
theorem dX0_sum_40 : decode cX0_sum 40 = .ok (.aload 5, 2) := by decide +kernel
theorem dX0_sum_42 : decode cX0_sum 42 = .ok (.getfield 45, 3) := by decide +kernel
theorem dX0_sum_45 : decode cX0_sum 45 = .ok (.ifCond .eq 7, 3) := by decide +kernel
theorem dX0_sum_48 : decode cX0_sum 48 = .ok (.iconst 1, 1) := by decide +kernel
theorem dX0_sum_49 : decode cX0_sum 49 = .ok (.goto 4, 3) := by decide +kernel
theorem dX0_sum_52 : decode cX0_sum 52 = .ok (.iconst 0, 1) := by decide +kernel
theorem dX0_sum_53 : decode cX0_sum 53 = .ok (.iload_n 2, 1) := by decide +kernel
theorem dX0_sum_54 : decode cX0_sum 54 = .ok (.if_icmp .ne 15, 3) := by decide +kernel
theorem dX0_sum_57 : decode cX0_sum 57 = .ok (.iload_n 3, 1) := by decide +kernel
theorem dX0_sum_58 : decode cX0_sum 58 = .ok (.aload_n 0, 1) := by decide +kernel
theorem dX0_sum_59 : decode cX0_sum 59 = .ok (.aload 5, 2) := by decide +kernel
theorem dX0_sum_61 : decode cX0_sum 61 = .ok (.getfield 49, 3) := by decide +kernel
theorem dX0_sum_64 : decode cX0_sum 64 = .ok (.invokevirtual 23, 3) := by decide +kernel
theorem dX0_sum_67 : decode cX0_sum 67 = .ok (.iadd, 1) := by decide +kernel
theorem dX0_sum_68 : decode cX0_sum 68 = .ok (.istore_n 3, 1) := by decide +kernel
theorem dX0_sum_69 : decode cX0_sum 69 = .ok (.iinc 4 1, 3) := by decide +kernel
theorem dX0_sum_72 : decode cX0_sum 72 = .ok (.goto (-67), 3) := by decide +kernel
theorem dX0_sum_75 : decode cX0_sum 75 = .ok (.iload_n 3, 1) := by decide +kernel
theorem dX0_sum_76 : decode cX0_sum 76 = .ok (.ireturn, 1) := by decide +kernel
theorem dX1_init_0 : decode cX1_init 0 = .ok (.aload_n 0, 1) := by decide +kernel
theorem dX1_init_1 : decode cX1_init 1 = .ok (.invokespecial 3, 3) := by decide +kernel
theorem dX1_init_4 : decode cX1_init 4 = .ok (.aload_n 0, 1) := by decide +kernel
theorem dX1_init_5 : decode cX1_init 5 = .ok (.iconst 0, 1) := by decide +kernel
theorem dX1_init_6 : decode cX1_init 6 = .ok (.putfield 9, 3) := by decide +kernel
theorem dX1_init_9 : decode cX1_init 9 = .ok (.aload_n 0, 1) := by decide +kernel
theorem dX1_init_10 : decode cX1_init 10 = .ok (.iconst (-1), 1) := by decide +kernel
theorem dX1_init_11 : decode cX1_init 11 = .ok (.putfield 15, 3) := by decide +kernel
theorem dX1_init_14 : decode cX1_init 14 = .ok (.return_, 1) := by decide +kernel
theorem dX1_clear_0 : decode cX1_clear 0 = .ok (.aload_n 0, 1) := by decide +kernel
theorem dX1_clear_1 : decode cX1_clear 1 = .ok (.iconst 0, 1) := by decide +kernel
theorem dX1_clear_2 : decode cX1_clear 2 = .ok (.putfield 9, 3) := by decide +kernel
theorem dX1_clear_5 : decode cX1_clear 5 = .ok (.aload_n 0, 1) := by decide +kernel
theorem dX1_clear_6 : decode cX1_clear 6 = .ok (.iconst (-1), 1) := by decide +kernel
theorem dX1_clear_7 : decode cX1_clear 7 = .ok (.putfield 15, 3) := by decide +kernel
theorem dX1_clear_10 : decode cX1_clear 10 = .ok (.return_, 1) := by decide +kernel
theorem dX1_tellOf_0 : decode cX1_tellOf 0 = .ok (.aload_n 0, 1) := by decide +kernel
theorem dX1_tellOf_1 : decode cX1_tellOf 1 = .ok (.iload_n 1, 1) := by decide +kernel
theorem dX1_tellOf_2 : decode cX1_tellOf 2 = .ok (.putfield 9, 3) := by decide +kernel
theorem dX1_tellOf_5 : decode cX1_tellOf 5 = .ok (.aload_n 0, 1) := by decide +kernel
theorem dX1_tellOf_6 : decode cX1_tellOf 6 = .ok (.iload_n 2, 1) := by decide +kernel
theorem dX1_tellOf_7 : decode cX1_tellOf 7 = .ok (.putfield 15, 3) := by decide +kernel
theorem dX1_tellOf_10 : decode cX1_tellOf 10 = .ok (.iconst 0, 1) := by decide +kernel
theorem dX1_tellOf_11 : decode cX1_tellOf 11 = .ok (.ireturn, 1) := by decide +kernel
theorem dX2_init_0 : decode cX2_init 0 = .ok (.aload_n 0, 1) := by decide +kernel
theorem dX2_init_1 : decode cX2_init 1 = .ok (.invokespecial 3, 3) := by decide +kernel
theorem dX2_init_4 : decode cX2_init 4 = .ok (.aload_n 0, 1) := by decide +kernel
theorem dX2_init_5 : decode cX2_init 5 = .ok (.new 9, 3) := by decide +kernel
theorem dX2_init_8 : decode cX2_init 8 = .ok (.dup, 1) := by decide +kernel
theorem dX2_init_9 : decode cX2_init 9 = .ok (.bipush 108, 2) := by decide +kernel
theorem dX2_init_11 : decode cX2_init 11 = .ok (.invokespecial 11, 3) := by decide +kernel
theorem dX2_init_14 : decode cX2_init 14 = .ok (.putfield 14, 3) := by decide +kernel
theorem dX2_init_17 : decode cX2_init 17 = .ok (.aload_n 0, 1) := by decide +kernel
theorem dX2_init_18 : decode cX2_init 18 = .ok (.bipush 8, 2) := by decide +kernel
theorem dX2_init_20 : decode cX2_init 20 = .ok (.newarray .int, 2) := by decide +kernel
theorem dX2_init_22 : decode cX2_init 22 = .ok (.putfield 20, 3) := by decide +kernel
theorem dX2_init_25 : decode cX2_init 25 = .ok (.aload_n 0, 1) := by decide +kernel
theorem dX2_init_26 : decode cX2_init 26 = .ok (.sipush 150, 3) := by decide +kernel
theorem dX2_init_29 : decode cX2_init 29 = .ok (.newarray .int, 2) := by decide +kernel
theorem dX2_init_31 : decode cX2_init 31 = .ok (.putfield 24, 3) := by decide +kernel
theorem dX2_init_34 : decode cX2_init 34 = .ok (.aload_n 0, 1) := by decide +kernel
theorem dX2_init_35 : decode cX2_init 35 = .ok (.sipush 150, 3) := by decide +kernel
theorem dX2_init_38 : decode cX2_init 38 = .ok (.newarray .int, 2) := by decide +kernel
theorem dX2_init_40 : decode cX2_init 40 = .ok (.putfield 27, 3) := by decide +kernel
theorem dX2_init_43 : decode cX2_init 43 = .ok (.aload_n 0, 1) := by decide +kernel
theorem dX2_init_44 : decode cX2_init 44 = .ok (.sipush 150, 3) := by decide +kernel
theorem dX2_init_47 : decode cX2_init 47 = .ok (.newarray .int, 2) := by decide +kernel
theorem dX2_init_49 : decode cX2_init 49 = .ok (.putfield 30, 3) := by decide +kernel
theorem dX2_init_52 : decode cX2_init 52 = .ok (.aload_n 0, 1) := by decide +kernel
theorem dX2_init_53 : decode cX2_init 53 = .ok (.iconst 2, 1) := by decide +kernel
theorem dX2_init_54 : decode cX2_init 54 = .ok (.putfield 33, 3) := by decide +kernel
theorem dX2_init_57 : decode cX2_init 57 = .ok (.aload_n 0, 1) := by decide +kernel
theorem dX2_init_58 : decode cX2_init 58 = .ok (.iconst 3, 1) := by decide +kernel
theorem dX2_init_59 : decode cX2_init 59 = .ok (.putfield 37, 3) := by decide +kernel
theorem dX2_init_62 : decode cX2_init 62 = .ok (.return_, 1) := by decide +kernel
theorem dX2_weigh_0 : decode cX2_weigh 0 = .ok (.ldc 40, 2) := by decide +kernel
theorem dX2_weigh_2 : decode cX2_weigh 2 = .ok (.istore 6, 2) := by decide +kernel
theorem dX2_weigh_4 : decode cX2_weigh 4 = .ok (.iconst 0, 1) := by decide +kernel
theorem dX2_weigh_5 : decode cX2_weigh 5 = .ok (.istore 7, 2) := by decide +kernel
theorem dX2_weigh_7 : decode cX2_weigh 7 = .ok (.iconst 1, 1) := by decide +kernel
theorem dX2_weigh_8 : decode cX2_weigh 8 = .ok (.aload_n 1, 1) := by decide +kernel
theorem dX2_weigh_9 : decode cX2_weigh 9 = .ok (.getfield 41, 3) := by decide +kernel
theorem dX2_weigh_12 : decode cX2_weigh 12 = .ok (.bipush 8, 2) := by decide +kernel
theorem dX2_weigh_14 : decode cX2_weigh 14 = .ok (.invokestatic 46, 3) := by decide +kernel
theorem dX2_weigh_17 : decode cX2_weigh 17 = .ok (.ishl, 1) := by decide +kernel
theorem dX2_weigh_18 : decode cX2_weigh 18 = .ok (.istore 8, 2) := by decide +kernel
theorem dX2_weigh_20 : decode cX2_weigh 20 = .ok (.iconst 0, 1) := by decide +kernel
theorem dX2_weigh_21 : decode cX2_weigh 21 = .ok (.istore 9, 2) := by decide +kernel
theorem dX2_weigh_23 : decode cX2_weigh 23 = .ok (.iload 9, 2) := by decide +kernel
theorem dX2_weigh_25 : decode cX2_weigh 25 = .ok (.iload 8, 2) := by decide +kernel
theorem dX2_weigh_27 : decode cX2_weigh 27 = .ok (.if_icmp .ge 139, 3) := by decide +kernel
theorem dX2_weigh_30 : decode cX2_weigh 30 = .ok (.iload 9, 2) := by decide +kernel
theorem dX2_weigh_32 : decode cX2_weigh 32 = .ok (.invokestatic 52, 3) := by decide +kernel
theorem dX2_weigh_35 : decode cX2_weigh 35 = .ok (.istore 10, 2) := by decide +kernel
theorem dX2_weigh_37 : decode cX2_weigh 37 = .ok (.aload_n 0, 1) := by decide +kernel
theorem dX2_weigh_38 : decode cX2_weigh 38 = .ok (.iload 6, 2) := by decide +kernel
theorem dX2_weigh_40 : decode cX2_weigh 40 = .ok (.iload 10, 2) := by decide +kernel
theorem dX2_weigh_42 : decode cX2_weigh 42 = .ok (.aload_n 0, 1) := by decide +kernel
theorem dX2_weigh_43 : decode cX2_weigh 43 = .ok (.getfield 37, 3) := by decide +kernel
theorem dX2_weigh_46 : decode cX2_weigh 46 = .ok (.imul, 1) := by decide +kernel
theorem dX2_weigh_47 : decode cX2_weigh 47 = .ok (.isub, 1) := by decide +kernel
theorem dX2_weigh_48 : decode cX2_weigh 48 = .ok (.invokevirtual 58, 3) := by decide +kernel
theorem dX2_weigh_51 : decode cX2_weigh 51 = .ok (.istore 11, 2) := by decide +kernel
theorem dX2_weigh_53 : decode cX2_weigh 53 = .ok (.iload 11, 2) := by decide +kernel
theorem dX2_weigh_55 : decode cX2_weigh 55 = .ok (.ifCond .ge 6, 3) := by decide +kernel
theorem dX2_weigh_58 : decode cX2_weigh 58 = .ok (.goto 102, 3) := by decide +kernel
theorem dX2_weigh_61 : decode cX2_weigh 61 = .ok (.aload 4, 2) := by decide +kernel
theorem dX2_weigh_63 : decode cX2_weigh 63 = .ok (.aload_n 1, 1) := by decide +kernel
theorem dX2_weigh_64 : decode cX2_weigh 64 = .ok (.iload 9, 2) := by decide +kernel
theorem dX2_weigh_66 : decode cX2_weigh 66 = .ok (.invokevirtual 61, 3) := by decide +kernel
theorem dX2_weigh_69 : decode cX2_weigh 69 = .ok (.aload 4, 2) := by decide +kernel
theorem dX2_weigh_71 : decode cX2_weigh 71 = .ok (.aload_n 2, 1) := by decide +kernel
theorem dX2_weigh_72 : decode cX2_weigh 72 = .ok (.aload_n 0, 1) := by decide +kernel
theorem dX2_weigh_73 : decode cX2_weigh 73 = .ok (.getfield 14, 3) := by decide +kernel
theorem dX2_weigh_76 : decode cX2_weigh 76 = .ok (.invokevirtual 67, 3) := by decide +kernel
theorem dX2_weigh_79 : decode cX2_weigh 79 = .ok (.aload 5, 2) := by decide +kernel
theorem dX2_weigh_81 : decode cX2_weigh 81 = .ok (.aload_n 0, 1) := by decide +kernel
theorem dX2_weigh_82 : decode cX2_weigh 82 = .ok (.getfield 14, 3) := by decide +kernel
theorem dX2_weigh_85 : decode cX2_weigh 85 = .ok (.iconst 0, 1) := by decide +kernel
theorem dX2_weigh_86 : decode cX2_weigh 86 = .ok (.aload_n 3, 1) := by decide +kernel
theorem dX2_weigh_87 : decode cX2_weigh 87 = .ok (.iconst 0, 1) := by decide +kernel
theorem dX2_weigh_88 : decode cX2_weigh 88 = .ok (.iload 11, 2) := by decide +kernel
theorem dX2_weigh_90 : decode cX2_weigh 90 = .ok (.invokevirtual 71, 3) := by decide +kernel
theorem dX2_weigh_93 : decode cX2_weigh 93 = .ok (.istore 12, 2) := by decide +kernel
theorem dX2_weigh_95 : decode cX2_weigh 95 = .ok (.iload 12, 2) := by decide +kernel
theorem dX2_weigh_97 : decode cX2_weigh 97 = .ok (.aload_n 0, 1) := by decide +kernel
theorem dX2_weigh_98 : decode cX2_weigh 98 = .ok (.getfield 33, 3) := by decide +kernel
theorem dX2_weigh_101 : decode cX2_weigh 101 = .ok (.imul, 1) := by decide +kernel
theorem dX2_weigh_102 : decode cX2_weigh 102 = .ok (.iload 10, 2) := by decide +kernel
theorem dX2_weigh_104 : decode cX2_weigh 104 = .ok (.aload_n 0, 1) := by decide +kernel
theorem dX2_weigh_105 : decode cX2_weigh 105 = .ok (.getfield 37, 3) := by decide +kernel
theorem dX2_weigh_108 : decode cX2_weigh 108 = .ok (.imul, 1) := by decide +kernel
theorem dX2_weigh_109 : decode cX2_weigh 109 = .ok (.iadd, 1) := by decide +kernel
theorem dX2_weigh_110 : decode cX2_weigh 110 = .ok (.istore 13, 2) := by decide +kernel
theorem dX2_weigh_112 : decode cX2_weigh 112 = .ok (.iload 12, 2) := by decide +kernel
theorem dX2_weigh_114 : decode cX2_weigh 114 = .ok (.iload 11, 2) := by decide +kernel
theorem dX2_weigh_116 : decode cX2_weigh 116 = .ok (.if_icmp .gt 44, 3) := by decide +kernel
theorem dX2_weigh_119 : decode cX2_weigh 119 = .ok (.iload 13, 2) := by decide +kernel
theorem dX2_weigh_121 : decode cX2_weigh 121 = .ok (.iload 6, 2) := by decide +kernel
theorem dX2_weigh_123 : decode cX2_weigh 123 = .ok (.if_icmp .lt 17, 3) := by decide +kernel
theorem dX2_weigh_126 : decode cX2_weigh 126 = .ok (.iload 13, 2) := by decide +kernel
theorem dX2_weigh_128 : decode cX2_weigh 128 = .ok (.iload 6, 2) := by decide +kernel
theorem dX2_weigh_130 : decode cX2_weigh 130 = .ok (.if_icmp .ne 30, 3) := by decide +kernel
theorem dX2_weigh_133 : decode cX2_weigh 133 = .ok (.iload 10, 2) := by decide +kernel
theorem dX2_weigh_135 : decode cX2_weigh 135 = .ok (.iload 7, 2) := by decide +kernel
theorem dX2_weigh_137 : decode cX2_weigh 137 = .ok (.if_icmp .ge 23, 3) := by decide +kernel
theorem dX2_weigh_140 : decode cX2_weigh 140 = .ok (.iload 13, 2) := by decide +kernel
theorem dX2_weigh_142 : decode cX2_weigh 142 = .ok (.istore 6, 2) := by decide +kernel
theorem dX2_weigh_144 : decode cX2_weigh 144 = .ok (.iload 10, 2) := by decide +kernel
theorem dX2_weigh_146 : decode cX2_weigh 146 = .ok (.istore 7, 2) := by decide +kernel
theorem dX2_weigh_148 : decode cX2_weigh 148 = .ok (.aload_n 0, 1) := by decide +kernel
theorem dX2_weigh_149 : decode cX2_weigh 149 = .ok (.iload 9, 2) := by decide +kernel
theorem dX2_weigh_151 : decode cX2_weigh 151 = .ok (.putfield 77, 3) := by decide +kernel
theorem dX2_weigh_154 : decode cX2_weigh 154 = .ok (.aload_n 0, 1) := by decide +kernel
theorem dX2_weigh_155 : decode cX2_weigh 155 = .ok (.iload 12, 2) := by decide +kernel
theorem dX2_weigh_157 : decode cX2_weigh 157 = .ok (.putfield 80, 3) := by decide +kernel
theorem dX2_weigh_160 : decode cX2_weigh 160 = .ok (.iinc 9 1, 3) := by decide +kernel
theorem dX2_weigh_163 : decode cX2_weigh 163 = .ok (.goto (-140), 3) := by decide +kernel
theorem dX2_weigh_166 : decode cX2_weigh 166 = .ok (.aload_n 0, 1) := by decide +kernel
theorem dX2_weigh_167 : decode cX2_weigh 167 = .ok (.iconst 1, 1) := by decide +kernel
theorem dX2_weigh_168 : decode cX2_weigh 168 = .ok (.putfield 83, 3) := by decide +kernel
theorem dX2_weigh_171 : decode cX2_weigh 171 = .ok (.aload_n 0, 1) := by decide +kernel
theorem dX2_weigh_172 : decode cX2_weigh 172 = .ok (.aload_n 1, 1) := by decide +kernel
theorem dX2_weigh_173 : decode cX2_weigh 173 = .ok (.invokevirtual 87, 3) := by decide +kernel
theorem dX2_weigh_176 : decode cX2_weigh 176 = .ok (.aload 4, 2) := by decide +kernel
theorem dX2_weigh_178 : decode cX2_weigh 178 = .ok (.aload_n 1, 1) := by decide +kernel
theorem dX2_weigh_179 : decode cX2_weigh 179 = .ok (.aload_n 0, 1) := by decide +kernel
theorem dX2_weigh_180 : decode cX2_weigh 180 = .ok (.getfield 77, 3) := by decide +kernel
theorem dX2_weigh_183 : decode cX2_weigh 183 = .ok (.invokevirtual 61, 3) := by decide +kernel
theorem dX2_weigh_186 : decode cX2_weigh 186 = .ok (.aload 4, 2) := by decide +kernel
theorem dX2_weigh_188 : decode cX2_weigh 188 = .ok (.aload_n 2, 1) := by decide +kernel
theorem dX2_weigh_189 : decode cX2_weigh 189 = .ok (.aload_n 0, 1) := by decide +kernel
theorem dX2_weigh_190 : decode cX2_weigh 190 = .ok (.getfield 14, 3) := by decide +kernel
theorem dX2_weigh_193 : decode cX2_weigh 193 = .ok (.invokevirtual 67, 3) := by decide +kernel
theorem dX2_weigh_196 : decode cX2_weigh 196 = .ok (.aload_n 0, 1) := by decide +kernel
theorem dX2_weigh_197 : decode cX2_weigh 197 = .ok (.aload_n 3, 1) := by decide +kernel
theorem dX2_weigh_198 : decode cX2_weigh 198 = .ok (.aload 5, 2) := by decide +kernel
theorem dX2_weigh_200 : decode cX2_weigh 200 = .ok (.invokevirtual 91, 3) := by decide +kernel
theorem dX2_weigh_203 : decode cX2_weigh 203 = .ok (.iload 6, 2) := by decide +kernel
theorem dX2_weigh_205 : decode cX2_weigh 205 = .ok (.ireturn, 1) := by decide +kernel
theorem dX2_distanceFor_0 : decode cX2_distanceFor 0 = .ok (.iload_n 1, 1) := by decide +kernel
theorem dX2_distanceFor_1 : decode cX2_distanceFor 1 = .ok (.ifCond .lt 11, 3) := by decide +kernel
theorem dX2_distanceFor_4 : decode cX2_distanceFor 4 = .ok (.aload_n 0, 1) := by decide +kernel
theorem dX2_distanceFor_5 : decode cX2_distanceFor 5 = .ok (.getfield 33, 3) := by decide +kernel
theorem dX2_distanceFor_8 : decode cX2_distanceFor 8 = .ok (.iconst 1, 1) := by decide +kernel
theorem dX2_distanceFor_9 : decode cX2_distanceFor 9 = .ok (.if_icmp .ge 5, 3) := by decide +kernel
theorem dX2_distanceFor_12 : decode cX2_distanceFor 12 = .ok (.iconst (-1), 1) := by decide +kernel
theorem dX2_distanceFor_13 : decode cX2_distanceFor 13 = .ok (.ireturn, 1) := by decide +kernel
theorem dX2_distanceFor_14 : decode cX2_distanceFor 14 = .ok (.sipush 300, 3) := by decide +kernel
theorem dX2_distanceFor_17 : decode cX2_distanceFor 17 = .ok (.iload_n 1, 1) := by decide +kernel
theorem dX2_distanceFor_18 : decode cX2_distanceFor 18 = .ok (.aload_n 0, 1) := by decide +kernel
theorem dX2_distanceFor_19 : decode cX2_distanceFor 19 = .ok (.getfield 33, 3) := by decide +kernel
theorem dX2_distanceFor_22 : decode cX2_distanceFor 22 = .ok (.idiv, 1) := by decide +kernel
theorem dX2_distanceFor_23 : decode cX2_distanceFor 23 = .ok (.invokestatic 46, 3) := by decide +kernel
theorem dX2_distanceFor_26 : decode cX2_distanceFor 26 = .ok (.ireturn, 1) := by decide +kernel
theorem dX2_listMissed_0 : decode cX2_listMissed 0 = .ok (.aload_n 0, 1) := by decide +kernel
theorem dX2_listMissed_1 : decode cX2_listMissed 1 = .ok (.iconst 0, 1) := by decide +kernel
theorem dX2_listMissed_2 : decode cX2_listMissed 2 = .ok (.putfield 95, 3) := by decide +kernel
theorem dX2_listMissed_5 : decode cX2_listMissed 5 = .ok (.iconst 0, 1) := by decide +kernel
theorem dX2_listMissed_6 : decode cX2_listMissed 6 = .ok (.istore_n 2, 1) := by decide +kernel
theorem dX2_listMissed_7 : decode cX2_listMissed 7 = .ok (.iload_n 2, 1) := by decide +kernel
theorem dX2_listMissed_8 : decode cX2_listMissed 8 = .ok (.bipush 8, 2) := by decide +kernel
theorem dX2_listMissed_10 : decode cX2_listMissed 10 = .ok (.if_icmp .ge 57, 3) := by decide +kernel
theorem dX2_listMissed_13 : decode cX2_listMissed 13 = .ok (.aload_n 0, 1) := by decide +kernel
theorem dX2_listMissed_14 : decode cX2_listMissed 14 = .ok (.getfield 77, 3) := by decide +kernel
theorem dX2_listMissed_17 : decode cX2_listMissed 17 = .ok (.iload_n 2, 1) := by decide +kernel
theorem dX2_listMissed_18 : decode cX2_listMissed 18 = .ok (.ishr, 1) := by decide +kernel
theorem dX2_listMissed_19 : decode cX2_listMissed 19 = .ok (.iconst 1, 1) := by decide +kernel
theorem dX2_listMissed_20 : decode cX2_listMissed 20 = .ok (.iand, 1) := by decide +kernel
theorem dX2_listMissed_21 : decode cX2_listMissed 21 = .ok (.iconst 1, 1) := by decide +kernel
theorem dX2_listMissed_22 : decode cX2_listMissed 22 = .ok (.if_icmp .ne 39, 3) := by decide +kernel
theorem dX2_listMissed_25 : decode cX2_listMissed 25 = .ok (.aload_n 0, 1) := by decide +kernel
theorem dX2_listMissed_26 : decode cX2_listMissed 26 = .ok (.getfield 95, 3) := by decide +kernel
theorem dX2_listMissed_29 : decode cX2_listMissed 29 = .ok (.aload_n 0, 1) := by decide +kernel
theorem dX2_listMissed_30 : decode cX2_listMissed 30 = .ok (.getfield 20, 3) := by decide +kernel
theorem dX2_listMissed_33 : decode cX2_listMissed 33 = .ok (.arraylength, 1) := by decide +kernel
theorem dX2_listMissed_34 : decode cX2_listMissed 34 = .ok (.if_icmp .ge 27, 3) := by decide +kernel
theorem dX2_listMissed_37 : decode cX2_listMissed 37 = .ok (.aload_n 0, 1) := by decide +kernel
theorem dX2_listMissed_38 : decode cX2_listMissed 38 = .ok (.getfield 20, 3) := by decide +kernel
theorem dX2_listMissed_41 : decode cX2_listMissed 41 = .ok (.aload_n 0, 1) := by decide +kernel
theorem dX2_listMissed_42 : decode cX2_listMissed 42 = .ok (.getfield 95, 3) := by decide +kernel
theorem dX2_listMissed_45 : decode cX2_listMissed 45 = .ok (.aload_n 1, 1) := by decide +kernel
theorem dX2_listMissed_46 : decode cX2_listMissed 46 = .ok (.iload_n 2, 1) := by decide +kernel
theorem dX2_listMissed_47 : decode cX2_listMissed 47 = .ok (.invokevirtual 98, 3) := by decide +kernel
theorem dX2_listMissed_50 : decode cX2_listMissed 50 = .ok (.iastore, 1) := by decide +kernel
theorem dX2_listMissed_51 : decode cX2_listMissed 51 = .ok (.aload_n 0, 1) := by decide +kernel
theorem dX2_listMissed_52 : decode cX2_listMissed 52 = .ok (.dup, 1) := by decide +kernel
theorem dX2_listMissed_53 : decode cX2_listMissed 53 = .ok (.getfield 95, 3) := by decide +kernel
theorem dX2_listMissed_56 : decode cX2_listMissed 56 = .ok (.iconst 1, 1) := by decide +kernel
theorem dX2_listMissed_57 : decode cX2_listMissed 57 = .ok (.iadd, 1) := by decide +kernel
theorem dX2_listMissed_58 : decode cX2_listMissed 58 = .ok (.putfield 95, 3) := by decide +kernel
theorem dX2_listMissed_61 : decode cX2_listMissed 61 = .ok (.iinc 2 1, 3) := by decide +kernel
theorem dX2_listMissed_64 : decode cX2_listMissed 64 = .ok (.goto (-57), 3) := by decide +kernel
theorem dX2_listMissed_67 : decode cX2_listMissed 67 = .ok (.return_, 1) := by decide +kernel
theorem dX2_listChanges_0 : decode cX2_listChanges 0 = .ok (.aload_n 0, 1) := by decide +kernel
theorem dX2_listChanges_1 : decode cX2_listChanges 1 = .ok (.iconst 0, 1) := by decide +kernel
theorem dX2_listChanges_2 : decode cX2_listChanges 2 = .ok (.putfield 101, 3) := by decide +kernel
theorem dX2_listChanges_5 : decode cX2_listChanges 5 = .ok (.iconst 0, 1) := by decide +kernel
theorem dX2_listChanges_6 : decode cX2_listChanges 6 = .ok (.istore_n 3, 1) := by decide +kernel
theorem dX2_listChanges_7 : decode cX2_listChanges 7 = .ok (.iconst 0, 1) := by decide +kernel
theorem dX2_listChanges_8 : decode cX2_listChanges 8 = .ok (.istore 4, 2) := by decide +kernel
theorem dX2_listChanges_10 : decode cX2_listChanges 10 = .ok (.aload_n 0, 1) := by decide +kernel
theorem dX2_listChanges_11 : decode cX2_listChanges 11 = .ok (.getfield 80, 3) := by decide +kernel
theorem dX2_listChanges_14 : decode cX2_listChanges 14 = .ok (.istore 5, 2) := by decide +kernel
theorem dX2_listChanges_16 : decode cX2_listChanges 16 = .ok (.aload_n 0, 1) := by decide +kernel
theorem dX2_listChanges_17 : decode cX2_listChanges 17 = .ok (.getfield 14, 3) := by decide +kernel
theorem dX2_listChanges_20 : decode cX2_listChanges 20 = .ok (.getfield 104, 3) := by decide +kernel
theorem dX2_listChanges_23 : decode cX2_listChanges 23 = .ok (.aload_n 1, 1) := by decide +kernel
theorem dX2_listChanges_24 : decode cX2_listChanges 24 = .ok (.getfield 104, 3) := by decide +kernel
theorem dX2_listChanges_27 : decode cX2_listChanges 27 = .ok (.iadd, 1) := by decide +kernel
theorem dX2_listChanges_28 : decode cX2_listChanges 28 = .ok (.istore 6, 2) := by decide +kernel
theorem dX2_listChanges_30 : decode cX2_listChanges 30 = .ok (.iconst 0, 1) := by decide +kernel
theorem dX2_listChanges_31 : decode cX2_listChanges 31 = .ok (.istore 7, 2) := by decide +kernel
theorem dX2_listChanges_33 : decode cX2_listChanges 33 = .ok (.iload 7, 2) := by decide +kernel
theorem dX2_listChanges_35 : decode cX2_listChanges 35 = .ok (.iload 6, 2) := by decide +kernel
theorem dX2_listChanges_37 : decode cX2_listChanges 37 = .ok (.if_icmp .ge 193, 3) := by decide +kernel
theorem dX2_listChanges_40 : decode cX2_listChanges 40 = .ok (.iload_n 3, 1) := by decide +kernel
theorem dX2_listChanges_41 : decode cX2_listChanges 41 = .ok (.aload_n 0, 1) := by decide +kernel
theorem dX2_listChanges_42 : decode cX2_listChanges 42 = .ok (.getfield 14, 3) := by decide +kernel
theorem dX2_listChanges_45 : decode cX2_listChanges 45 = .ok (.getfield 104, 3) := by decide +kernel
theorem dX2_listChanges_48 : decode cX2_listChanges 48 = .ok (.if_icmp .lt 12, 3) := by decide +kernel
theorem dX2_listChanges_51 : decode cX2_listChanges 51 = .ok (.iload 4, 2) := by decide +kernel
theorem dX2_listChanges_53 : decode cX2_listChanges 53 = .ok (.aload_n 1, 1) := by decide +kernel
theorem dX2_listChanges_54 : decode cX2_listChanges 54 = .ok (.getfield 104, 3) := by decide +kernel
theorem dX2_listChanges_57 : decode cX2_listChanges 57 = .ok (.if_icmp .ge 173, 3) := by decide +kernel
theorem dX2_listChanges_60 : decode cX2_listChanges 60 = .ok (.iload_n 3, 1) := by decide +kernel
theorem dX2_listChanges_61 : decode cX2_listChanges 61 = .ok (.aload_n 0, 1) := by decide +kernel
theorem dX2_listChanges_62 : decode cX2_listChanges 62 = .ok (.getfield 14, 3) := by decide +kernel
theorem dX2_listChanges_65 : decode cX2_listChanges 65 = .ok (.getfield 104, 3) := by decide +kernel
theorem dX2_listChanges_68 : decode cX2_listChanges 68 = .ok (.if_icmp .ge 16, 3) := by decide +kernel
theorem dX2_listChanges_71 : decode cX2_listChanges 71 = .ok (.iload 4, 2) := by decide +kernel
theorem dX2_listChanges_73 : decode cX2_listChanges 73 = .ok (.aload_n 1, 1) := by decide +kernel
theorem dX2_listChanges_74 : decode cX2_listChanges 74 = .ok (.getfield 104, 3) := by decide +kernel
theorem dX2_listChanges_77 : decode cX2_listChanges 77 = .ok (.if_icmp .ge 7, 3) := by decide +kernel
theorem dX2_listChanges_80 : decode cX2_listChanges 80 = .ok (.iconst 1, 1) := by decide +kernel
theorem dX2_listChanges_81 : decode cX2_listChanges 81 = .ok (.goto 4, 3) := by decide +kernel
theorem dX2_listChanges_84 : decode cX2_listChanges 84 = .ok (.iconst 0, 1) := by decide +kernel
theorem dX2_listChanges_85 : decode cX2_listChanges 85 = .ok (.istore 8, 2) := by decide +kernel
theorem dX2_listChanges_87 : decode cX2_listChanges 87 = .ok (.iload 8, 2) := by decide +kernel
theorem dX2_listChanges_89 : decode cX2_listChanges 89 = .ok (.ifCond .eq 30, 3) := by decide +kernel
theorem dX2_listChanges_92 : decode cX2_listChanges 92 = .ok (.aload_n 0, 1) := by decide +kernel
theorem dX2_listChanges_93 : decode cX2_listChanges 93 = .ok (.getfield 14, 3) := by decide +kernel
theorem dX2_listChanges_96 : decode cX2_listChanges 96 = .ok (.iload_n 3, 1) := by decide +kernel
theorem dX2_listChanges_97 : decode cX2_listChanges 97 = .ok (.invokevirtual 107, 3) := by decide +kernel
theorem dX2_listChanges_100 : decode cX2_listChanges 100 = .ok (.aload_n 1, 1) := by decide +kernel
theorem dX2_listChanges_101 : decode cX2_listChanges 101 = .ok (.iload 4, 2) := by decide +kernel
theorem dX2_listChanges_103 : decode cX2_listChanges 103 = .ok (.invokevirtual 107, 3) := by decide +kernel
theorem dX2_listChanges_106 : decode cX2_listChanges 106 = .ok (.lcmp, 1) := by decide +kernel
theorem dX2_listChanges_107 : decode cX2_listChanges 107 = .ok (.ifCond .ne 12, 3) := by decide +kernel
theorem dX2_listChanges_110 : decode cX2_listChanges 110 = .ok (.iinc 3 1, 3) := by decide +kernel
theorem dX2_listChanges_113 : decode cX2_listChanges 113 = .ok (.iinc 4 1, 3) := by decide +kernel
theorem dX2_listChanges_116 : decode cX2_listChanges 116 = .ok (.goto 108, 3) := by decide +kernel
theorem dX2_listChanges_119 : decode cX2_listChanges 119 = .ok (.iinc 5 (-1), 3) := by decide +kernel
theorem dX2_listChanges_122 : decode cX2_listChanges 122 = .ok (.iload 8, 2) := by decide +kernel
theorem dX2_listChanges_124 : decode cX2_listChanges 124 = .ok (.ifCond .eq 43, 3) := by decide +kernel
theorem dX2_listChanges_127 : decode cX2_listChanges 127 = .ok (.aload_n 2, 1) := by decide +kernel
theorem dX2_listChanges_128 : decode cX2_listChanges 128 = .ok (.aload_n 0, 1) := by decide +kernel
theorem dX2_listChanges_129 : decode cX2_listChanges 129 = .ok (.getfield 14, 3) := by decide +kernel
theorem dX2_listChanges_132 : decode cX2_listChanges 132 = .ok (.iload_n 3, 1) := by decide +kernel
theorem dX2_listChanges_133 : decode cX2_listChanges 133 = .ok (.iconst 1, 1) := by decide +kernel
theorem dX2_listChanges_134 : decode cX2_listChanges 134 = .ok (.iadd, 1) := by decide +kernel
theorem dX2_listChanges_135 : decode cX2_listChanges 135 = .ok (.aload_n 1, 1) := by decide +kernel
theorem dX2_listChanges_136 : decode cX2_listChanges 136 = .ok (.iload 4, 2) := by decide +kernel
theorem dX2_listChanges_138 : decode cX2_listChanges 138 = .ok (.iconst 1, 1) := by decide +kernel
theorem dX2_listChanges_139 : decode cX2_listChanges 139 = .ok (.iadd, 1) := by decide +kernel
theorem dX2_listChanges_140 : decode cX2_listChanges 140 = .ok (.iload 5, 2) := by decide +kernel
theorem dX2_listChanges_142 : decode cX2_listChanges 142 = .ok (.invokevirtual 71, 3) := by decide +kernel
theorem dX2_listChanges_145 : decode cX2_listChanges 145 = .ok (.iload 5, 2) := by decide +kernel
theorem dX2_listChanges_147 : decode cX2_listChanges 147 = .ok (.if_icmp .gt 20, 3) := by decide +kernel
theorem dX2_listChanges_150 : decode cX2_listChanges 150 = .ok (.aload_n 0, 1) := by decide +kernel
theorem dX2_listChanges_151 : decode cX2_listChanges 151 = .ok (.iconst 0, 1) := by decide +kernel
theorem dX2_listChanges_152 : decode cX2_listChanges 152 = .ok (.iload_n 3, 1) := by decide +kernel
theorem dX2_listChanges_153 : decode cX2_listChanges 153 = .ok (.iload 4, 2) := by decide +kernel
theorem dX2_listChanges_155 : decode cX2_listChanges 155 = .ok (.invokevirtual 111, 3) := by decide +kernel
theorem dX2_listChanges_158 : decode cX2_listChanges 158 = .ok (.iinc 3 1, 3) := by decide +kernel
theorem dX2_listChanges_161 : decode cX2_listChanges 161 = .ok (.iinc 4 1, 3) := by decide +kernel
theorem dX2_listChanges_164 : decode cX2_listChanges 164 = .ok (.goto 60, 3) := by decide +kernel
theorem dX2_listChanges_167 : decode cX2_listChanges 167 = .ok (.iload_n 3, 1) := by decide +kernel
theorem dX2_listChanges_168 : decode cX2_listChanges 168 = .ok (.aload_n 0, 1) := by decide +kernel
theorem dX2_listChanges_169 : decode cX2_listChanges 169 = .ok (.getfield 14, 3) := by decide +kernel
theorem dX2_listChanges_172 : decode cX2_listChanges 172 = .ok (.getfield 104, 3) := by decide +kernel
theorem dX2_listChanges_175 : decode cX2_listChanges 175 = .ok (.if_icmp .ge 38, 3) := by decide +kernel
theorem dX2_listChanges_178 : decode cX2_listChanges 178 = .ok (.aload_n 2, 1) := by decide +kernel
theorem dX2_listChanges_179 : decode cX2_listChanges 179 = .ok (.aload_n 0, 1) := by decide +kernel
theorem dX2_listChanges_180 : decode cX2_listChanges 180 = .ok (.getfield 14, 3) := by decide +kernel
theorem dX2_listChanges_183 : decode cX2_listChanges 183 = .ok (.iload_n 3, 1) := by decide +kernel
theorem dX2_listChanges_184 : decode cX2_listChanges 184 = .ok (.iconst 1, 1) := by decide +kernel
theorem dX2_listChanges_185 : decode cX2_listChanges 185 = .ok (.iadd, 1) := by decide +kernel
theorem dX2_listChanges_186 : decode cX2_listChanges 186 = .ok (.aload_n 1, 1) := by decide +kernel
theorem dX2_listChanges_187 : decode cX2_listChanges 187 = .ok (.iload 4, 2) := by decide +kernel
theorem dX2_listChanges_189 : decode cX2_listChanges 189 = .ok (.iload 5, 2) := by decide +kernel
theorem dX2_listChanges_191 : decode cX2_listChanges 191 = .ok (.invokevirtual 71, 3) := by decide +kernel
theorem dX2_listChanges_194 : decode cX2_listChanges 194 = .ok (.iload 5, 2) := by decide +kernel
theorem dX2_listChanges_196 : decode cX2_listChanges 196 = .ok (.if_icmp .gt 17, 3) := by decide +kernel
theorem dX2_listChanges_199 : decode cX2_listChanges 199 = .ok (.aload_n 0, 1) := by decide +kernel
theorem dX2_listChanges_200 : decode cX2_listChanges 200 = .ok (.iconst 1, 1) := by decide +kernel
theorem dX2_listChanges_201 : decode cX2_listChanges 201 = .ok (.iload_n 3, 1) := by decide +kernel
theorem dX2_listChanges_202 : decode cX2_listChanges 202 = .ok (.iload 4, 2) := by decide +kernel
theorem dX2_listChanges_204 : decode cX2_listChanges 204 = .ok (.invokevirtual 111, 3) := by decide +kernel
theorem dX2_listChanges_207 : decode cX2_listChanges 207 = .ok (.iinc 3 1, 3) := by decide +kernel
theorem dX2_listChanges_210 : decode cX2_listChanges 210 = .ok (.goto 14, 3) := by decide +kernel
theorem dX2_listChanges_213 : decode cX2_listChanges 213 = .ok (.aload_n 0, 1) := by decide +kernel
theorem dX2_listChanges_214 : decode cX2_listChanges 214 = .ok (.iconst 2, 1) := by decide +kernel
theorem dX2_listChanges_215 : decode cX2_listChanges 215 = .ok (.iload_n 3, 1) := by decide +kernel
theorem dX2_listChanges_216 : decode cX2_listChanges 216 = .ok (.iload 4, 2) := by decide +kernel
theorem dX2_listChanges_218 : decode cX2_listChanges 218 = .ok (.invokevirtual 111, 3) := by decide +kernel
theorem dX2_listChanges_221 : decode cX2_listChanges 221 = .ok (.iinc 4 1, 3) := by decide +kernel
theorem dX2_listChanges_224 : decode cX2_listChanges 224 = .ok (.iinc 7 1, 3) := by decide +kernel
theorem dX2_listChanges_227 : decode cX2_listChanges 227 = .ok (.goto (-194), 3) := by decide +kernel
theorem dX2_listChanges_230 : decode cX2_listChanges 230 = .ok (.return_, 1) := by decide +kernel
theorem dX2_note_0 : decode cX2_note 0 = .ok (.aload_n 0, 1) := by decide +kernel
theorem dX2_note_1 : decode cX2_note 1 = .ok (.getfield 101, 3) := by decide +kernel
theorem dX2_note_4 : decode cX2_note 4 = .ok (.ifCond .lt 53, 3) := by decide +kernel
theorem dX2_note_7 : decode cX2_note 7 = .ok (.aload_n 0, 1) := by decide +kernel
theorem dX2_note_8 : decode cX2_note 8 = .ok (.getfield 101, 3) := by decide +kernel
theorem dX2_note_11 : decode cX2_note 11 = .ok (.sipush 150, 3) := by decide +kernel
theorem dX2_note_14 : decode cX2_note 14 = .ok (.if_icmp .ge 43, 3) := by decide +kernel
theorem dX2_note_17 : decode cX2_note 17 = .ok (.aload_n 0, 1) := by decide +kernel
theorem dX2_note_18 : decode cX2_note 18 = .ok (.getfield 24, 3) := by decide +kernel
theorem dX2_note_21 : decode cX2_note 21 = .ok (.aload_n 0, 1) := by decide +kernel
theorem dX2_note_22 : decode cX2_note 22 = .ok (.getfield 101, 3) := by decide +kernel
theorem dX2_note_25 : decode cX2_note 25 = .ok (.iload_n 1, 1) := by decide +kernel
theorem dX2_note_26 : decode cX2_note 26 = .ok (.iastore, 1) := by decide +kernel
theorem dX2_note_27 : decode cX2_note 27 = .ok (.aload_n 0, 1) := by decide +kernel
theorem dX2_note_28 : decode cX2_note 28 = .ok (.getfield 27, 3) := by decide +kernel
theorem dX2_note_31 : decode cX2_note 31 = .ok (.aload_n 0, 1) := by decide +kernel
theorem dX2_note_32 : decode cX2_note 32 = .ok (.getfield 101, 3) := by decide +kernel
theorem dX2_note_35 : decode cX2_note 35 = .ok (.iload_n 2, 1) := by decide +kernel
theorem dX2_note_36 : decode cX2_note 36 = .ok (.iastore, 1) := by decide +kernel
theorem dX2_note_37 : decode cX2_note 37 = .ok (.aload_n 0, 1) := by decide +kernel
theorem dX2_note_38 : decode cX2_note 38 = .ok (.getfield 30, 3) := by decide +kernel
theorem dX2_note_41 : decode cX2_note 41 = .ok (.aload_n 0, 1) := by decide +kernel
theorem dX2_note_42 : decode cX2_note 42 = .ok (.getfield 101, 3) := by decide +kernel
theorem dX2_note_45 : decode cX2_note 45 = .ok (.iload_n 3, 1) := by decide +kernel
theorem dX2_note_46 : decode cX2_note 46 = .ok (.iastore, 1) := by decide +kernel
theorem dX2_note_47 : decode cX2_note 47 = .ok (.aload_n 0, 1) := by decide +kernel
theorem dX2_note_48 : decode cX2_note 48 = .ok (.dup, 1) := by decide +kernel
theorem dX2_note_49 : decode cX2_note 49 = .ok (.getfield 101, 3) := by decide +kernel
theorem dX2_note_52 : decode cX2_note 52 = .ok (.iconst 1, 1) := by decide +kernel
theorem dX2_note_53 : decode cX2_note 53 = .ok (.iadd, 1) := by decide +kernel
theorem dX2_note_54 : decode cX2_note 54 = .ok (.putfield 101, 3) := by decide +kernel
theorem dX2_note_57 : decode cX2_note 57 = .ok (.return_, 1) := by decide +kernel
theorem dX2_tell_0 : decode cX2_tell 0 = .ok (.aload_n 0, 1) := by decide +kernel
theorem dX2_tell_1 : decode cX2_tell 1 = .ok (.getfield 83, 3) := by decide +kernel
theorem dX2_tell_4 : decode cX2_tell 4 = .ok (.ifCond .ne 5, 3) := by decide +kernel
theorem dX2_tell_7 : decode cX2_tell 7 = .ok (.iconst (-1), 1) := by decide +kernel
theorem dX2_tell_8 : decode cX2_tell 8 = .ok (.ireturn, 1) := by decide +kernel
theorem dX2_tell_9 : decode cX2_tell 9 = .ok (.iload_n 1, 1) := by decide +kernel
theorem dX2_tell_10 : decode cX2_tell 10 = .ok (.tableswitch 41 0 2 #[26, 31, 36], 26) := by decide +kernel
theorem dX2_tell_36 : decode cX2_tell 36 = .ok (.aload_n 0, 1) := by decide +kernel
theorem dX2_tell_37 : decode cX2_tell 37 = .ok (.getfield 77, 3) := by decide +kernel
theorem dX2_tell_40 : decode cX2_tell 40 = .ok (.ireturn, 1) := by decide +kernel
theorem dX2_tell_41 : decode cX2_tell 41 = .ok (.aload_n 0, 1) := by decide +kernel
theorem dX2_tell_42 : decode cX2_tell 42 = .ok (.getfield 95, 3) := by decide +kernel
theorem dX2_tell_45 : decode cX2_tell 45 = .ok (.ireturn, 1) := by decide +kernel
theorem dX2_tell_46 : decode cX2_tell 46 = .ok (.aload_n 0, 1) := by decide +kernel
theorem dX2_tell_47 : decode cX2_tell 47 = .ok (.getfield 80, 3) := by decide +kernel
theorem dX2_tell_50 : decode cX2_tell 50 = .ok (.ireturn, 1) := by decide +kernel
theorem dX2_tell_51 : decode cX2_tell 51 = .ok (.aload_n 0, 1) := by decide +kernel
theorem dX2_tell_52 : decode cX2_tell 52 = .ok (.iload_n 1, 1) := by decide +kernel
theorem dX2_tell_53 : decode cX2_tell 53 = .ok (.invokevirtual 115, 3) := by decide +kernel
theorem dX2_tell_56 : decode cX2_tell 56 = .ok (.ireturn, 1) := by decide +kernel
theorem dX2_tellMissed_0 : decode cX2_tellMissed 0 = .ok (.iload_n 1, 1) := by decide +kernel
theorem dX2_tellMissed_1 : decode cX2_tellMissed 1 = .ok (.bipush 10, 2) := by decide +kernel
theorem dX2_tellMissed_3 : decode cX2_tellMissed 3 = .ok (.if_icmp .ge 5, 3) := by decide +kernel
theorem dX2_tellMissed_6 : decode cX2_tellMissed 6 = .ok (.iconst (-1), 1) := by decide +kernel
theorem dX2_tellMissed_7 : decode cX2_tellMissed 7 = .ok (.ireturn, 1) := by decide +kernel
theorem dX2_tellMissed_8 : decode cX2_tellMissed 8 = .ok (.iload_n 1, 1) := by decide +kernel
theorem dX2_tellMissed_9 : decode cX2_tellMissed 9 = .ok (.bipush 10, 2) := by decide +kernel
theorem dX2_tellMissed_11 : decode cX2_tellMissed 11 = .ok (.isub, 1) := by decide +kernel
theorem dX2_tellMissed_12 : decode cX2_tellMissed 12 = .ok (.istore_n 2, 1) := by decide +kernel
theorem dX2_tellMissed_13 : decode cX2_tellMissed 13 = .ok (.iload_n 2, 1) := by decide +kernel
theorem dX2_tellMissed_14 : decode cX2_tellMissed 14 = .ok (.aload_n 0, 1) := by decide +kernel
theorem dX2_tellMissed_15 : decode cX2_tellMissed 15 = .ok (.getfield 95, 3) := by decide +kernel
theorem dX2_tellMissed_18 : decode cX2_tellMissed 18 = .ok (.if_icmp .ge 12, 3) := by decide +kernel
theorem dX2_tellMissed_21 : decode cX2_tellMissed 21 = .ok (.iload_n 2, 1) := by decide +kernel
theorem dX2_tellMissed_22 : decode cX2_tellMissed 22 = .ok (.aload_n 0, 1) := by decide +kernel
theorem dX2_tellMissed_23 : decode cX2_tellMissed 23 = .ok (.getfield 20, 3) := by decide +kernel
theorem dX2_tellMissed_26 : decode cX2_tellMissed 26 = .ok (.arraylength, 1) := by decide +kernel
theorem dX2_tellMissed_27 : decode cX2_tellMissed 27 = .ok (.if_icmp .lt 7, 3) := by decide +kernel
theorem dX2_tellMissed_30 : decode cX2_tellMissed 30 = .ok (.iconst (-1), 1) := by decide +kernel
theorem dX2_tellMissed_31 : decode cX2_tellMissed 31 = .ok (.goto 9, 3) := by decide +kernel
theorem dX2_tellMissed_34 : decode cX2_tellMissed 34 = .ok (.aload_n 0, 1) := by decide +kernel
theorem dX2_tellMissed_35 : decode cX2_tellMissed 35 = .ok (.getfield 20, 3) := by decide +kernel
theorem dX2_tellMissed_38 : decode cX2_tellMissed 38 = .ok (.iload_n 2, 1) := by decide +kernel
theorem dX2_tellMissed_39 : decode cX2_tellMissed 39 = .ok (.iaload, 1) := by decide +kernel
theorem dX2_tellMissed_40 : decode cX2_tellMissed 40 = .ok (.ireturn, 1) := by decide +kernel
theorem dX2_tellChange_0 : decode cX2_tellChange 0 = .ok (.iload_n 1, 1) := by decide +kernel
theorem dX2_tellChange_1 : decode cX2_tellChange 1 = .ok (.ifCond .lt 18, 3) := by decide +kernel
theorem dX2_tellChange_4 : decode cX2_tellChange 4 = .ok (.iload_n 1, 1) := by decide +kernel
theorem dX2_tellChange_5 : decode cX2_tellChange 5 = .ok (.aload_n 0, 1) := by decide +kernel
theorem dX2_tellChange_6 : decode cX2_tellChange 6 = .ok (.getfield 101, 3) := by decide +kernel
theorem dX2_tellChange_9 : decode cX2_tellChange 9 = .ok (.if_icmp .ge 10, 3) := by decide +kernel
theorem dX2_tellChange_12 : decode cX2_tellChange 12 = .ok (.iload_n 1, 1) := by decide +kernel
theorem dX2_tellChange_13 : decode cX2_tellChange 13 = .ok (.sipush 150, 3) := by decide +kernel
theorem dX2_tellChange_16 : decode cX2_tellChange 16 = .ok (.if_icmp .lt 5, 3) := by decide +kernel
theorem dX2_tellChange_19 : decode cX2_tellChange 19 = .ok (.iconst (-1), 1) := by decide +kernel
theorem dX2_tellChange_20 : decode cX2_tellChange 20 = .ok (.ireturn, 1) := by decide +kernel
theorem dX2_tellChange_21 : decode cX2_tellChange 21 = .ok (.iload_n 2, 1) := by decide +kernel
theorem dX2_tellChange_22 : decode cX2_tellChange 22 = .ok (.tableswitch 47 0 2 #[26, 33, 40], 26) := by decide +kernel
theorem dX2_tellChange_48 : decode cX2_tellChange 48 = .ok (.aload_n 0, 1) := by decide +kernel
theorem dX2_tellChange_49 : decode cX2_tellChange 49 = .ok (.getfield 24, 3) := by decide +kernel
theorem dX2_tellChange_52 : decode cX2_tellChange 52 = .ok (.iload_n 1, 1) := by decide +kernel
theorem dX2_tellChange_53 : decode cX2_tellChange 53 = .ok (.iaload, 1) := by decide +kernel
theorem dX2_tellChange_54 : decode cX2_tellChange 54 = .ok (.ireturn, 1) := by decide +kernel
theorem dX2_tellChange_55 : decode cX2_tellChange 55 = .ok (.aload_n 0, 1) := by decide +kernel
theorem dX2_tellChange_56 : decode cX2_tellChange 56 = .ok (.getfield 27, 3) := by decide +kernel
theorem dX2_tellChange_59 : decode cX2_tellChange 59 = .ok (.iload_n 1, 1) := by decide +kernel
theorem dX2_tellChange_60 : decode cX2_tellChange 60 = .ok (.iaload, 1) := by decide +kernel
theorem dX2_tellChange_61 : decode cX2_tellChange 61 = .ok (.ireturn, 1) := by decide +kernel
theorem dX2_tellChange_62 : decode cX2_tellChange 62 = .ok (.aload_n 0, 1) := by decide +kernel
theorem dX2_tellChange_63 : decode cX2_tellChange 63 = .ok (.getfield 30, 3) := by decide +kernel
theorem dX2_tellChange_66 : decode cX2_tellChange 66 = .ok (.iload_n 1, 1) := by decide +kernel
theorem dX2_tellChange_67 : decode cX2_tellChange 67 = .ok (.iaload, 1) := by decide +kernel
theorem dX2_tellChange_68 : decode cX2_tellChange 68 = .ok (.ireturn, 1) := by decide +kernel
theorem dX2_tellChange_69 : decode cX2_tellChange 69 = .ok (.iconst (-1), 1) := by decide +kernel
theorem dX2_tellChange_70 : decode cX2_tellChange 70 = .ok (.ireturn, 1) := by decide +kernel
theorem dX3_init_0 : decode cX3_init 0 = .ok (.aload_n 0, 1) := by decide +kernel
theorem dX3_init_1 : decode cX3_init 1 = .ok (.invokespecial 3, 3) := by decide +kernel
theorem dX3_init_4 : decode cX3_init 4 = .ok (.aload_n 0, 1) := by decide +kernel
theorem dX3_init_5 : decode cX3_init 5 = .ok (.iconst 3, 1) := by decide +kernel
theorem dX3_init_6 : decode cX3_init 6 = .ok (.newarray .int, 2) := by decide +kernel
theorem dX3_init_8 : decode cX3_init 8 = .ok (.putfield 9, 3) := by decide +kernel
theorem dX3_init_11 : decode cX3_init 11 = .ok (.aload_n 0, 1) := by decide +kernel
theorem dX3_init_12 : decode cX3_init 12 = .ok (.new 15, 3) := by decide +kernel
theorem dX3_init_15 : decode cX3_init 15 = .ok (.dup, 1) := by decide +kernel
theorem dX3_init_16 : decode cX3_init 16 = .ok (.bipush 6, 2) := by decide +kernel
theorem dX3_init_18 : decode cX3_init 18 = .ok (.invokespecial 17, 3) := by decide +kernel
theorem dX3_init_21 : decode cX3_init 21 = .ok (.putfield 20, 3) := by decide +kernel
theorem dX3_init_24 : decode cX3_init 24 = .ok (.return_, 1) := by decide +kernel
theorem dX3_clear_0 : decode cX3_clear 0 = .ok (.iconst 0, 1) := by decide +kernel
theorem dX3_clear_1 : decode cX3_clear 1 = .ok (.istore_n 1, 1) := by decide +kernel
theorem dX3_clear_2 : decode cX3_clear 2 = .ok (.iload_n 1, 1) := by decide +kernel
theorem dX3_clear_3 : decode cX3_clear 3 = .ok (.aload_n 0, 1) := by decide +kernel
theorem dX3_clear_4 : decode cX3_clear 4 = .ok (.getfield 9, 3) := by decide +kernel
theorem dX3_clear_7 : decode cX3_clear 7 = .ok (.arraylength, 1) := by decide +kernel
theorem dX3_clear_8 : decode cX3_clear 8 = .ok (.if_icmp .ge 16, 3) := by decide +kernel
theorem dX3_clear_11 : decode cX3_clear 11 = .ok (.aload_n 0, 1) := by decide +kernel
theorem dX3_clear_12 : decode cX3_clear 12 = .ok (.getfield 9, 3) := by decide +kernel
theorem dX3_clear_15 : decode cX3_clear 15 = .ok (.iload_n 1, 1) := by decide +kernel
theorem dX3_clear_16 : decode cX3_clear 16 = .ok (.iconst (-1), 1) := by decide +kernel
theorem dX3_clear_17 : decode cX3_clear 17 = .ok (.iastore, 1) := by decide +kernel
theorem dX3_clear_18 : decode cX3_clear 18 = .ok (.iinc 1 1, 3) := by decide +kernel
theorem dX3_clear_21 : decode cX3_clear 21 = .ok (.goto (-19), 3) := by decide +kernel
theorem dX3_clear_24 : decode cX3_clear 24 = .ok (.aload_n 0, 1) := by decide +kernel
theorem dX3_clear_25 : decode cX3_clear 25 = .ok (.getfield 20, 3) := by decide +kernel
theorem dX3_clear_28 : decode cX3_clear 28 = .ok (.invokevirtual 24, 3) := by decide +kernel
theorem dX3_clear_31 : decode cX3_clear 31 = .ok (.aload_n 0, 1) := by decide +kernel
theorem dX3_clear_32 : decode cX3_clear 32 = .ok (.iconst 0, 1) := by decide +kernel
theorem dX3_clear_33 : decode cX3_clear 33 = .ok (.putfield 27, 3) := by decide +kernel
theorem dX3_clear_36 : decode cX3_clear 36 = .ok (.aload_n 0, 1) := by decide +kernel
theorem dX3_clear_37 : decode cX3_clear 37 = .ok (.iconst 0, 1) := by decide +kernel
theorem dX3_clear_38 : decode cX3_clear 38 = .ok (.putfield 31, 3) := by decide +kernel
theorem dX3_clear_41 : decode cX3_clear 41 = .ok (.aload_n 0, 1) := by decide +kernel
theorem dX3_clear_42 : decode cX3_clear 42 = .ok (.iconst 0, 1) := by decide +kernel
theorem dX3_clear_43 : decode cX3_clear 43 = .ok (.putfield 34, 3) := by decide +kernel
theorem dX3_clear_46 : decode cX3_clear 46 = .ok (.aload_n 0, 1) := by decide +kernel
theorem dX3_clear_47 : decode cX3_clear 47 = .ok (.iconst 0, 1) := by decide +kernel
theorem dX3_clear_48 : decode cX3_clear 48 = .ok (.putfield 38, 3) := by decide +kernel
theorem dX3_clear_51 : decode cX3_clear 51 = .ok (.aload_n 0, 1) := by decide +kernel
theorem dX3_clear_52 : decode cX3_clear 52 = .ok (.iconst 0, 1) := by decide +kernel
theorem dX3_clear_53 : decode cX3_clear 53 = .ok (.putfield 41, 3) := by decide +kernel
theorem dX3_clear_56 : decode cX3_clear 56 = .ok (.aload_n 0, 1) := by decide +kernel
theorem dX3_clear_57 : decode cX3_clear 57 = .ok (.iconst (-1), 1) := by decide +kernel
theorem dX3_clear_58 : decode cX3_clear 58 = .ok (.putfield 44, 3) := by decide +kernel
theorem dX3_clear_61 : decode cX3_clear 61 = .ok (.aload_n 0, 1) := by decide +kernel
theorem dX3_clear_62 : decode cX3_clear 62 = .ok (.iconst 0, 1) := by decide +kernel
theorem dX3_clear_63 : decode cX3_clear 63 = .ok (.putfield 47, 3) := by decide +kernel
theorem dX3_clear_66 : decode cX3_clear 66 = .ok (.aload_n 0, 1) := by decide +kernel
theorem dX3_clear_67 : decode cX3_clear 67 = .ok (.iconst (-1), 1) := by decide +kernel
theorem dX3_clear_68 : decode cX3_clear 68 = .ok (.putfield 50, 3) := by decide +kernel
theorem dX3_clear_71 : decode cX3_clear 71 = .ok (.return_, 1) := by decide +kernel
theorem dX3_number_0 : decode cX3_number 0 = .ok (.iload_n 1, 1) := by decide +kernel
theorem dX3_number_1 : decode cX3_number 1 = .ok (.ifCond .lt 12, 3) := by decide +kernel
theorem dX3_number_4 : decode cX3_number 4 = .ok (.iload_n 1, 1) := by decide +kernel
theorem dX3_number_5 : decode cX3_number 5 = .ok (.aload_n 0, 1) := by decide +kernel
theorem dX3_number_6 : decode cX3_number 6 = .ok (.getfield 9, 3) := by decide +kernel
theorem dX3_number_9 : decode cX3_number 9 = .ok (.arraylength, 1) := by decide +kernel
theorem dX3_number_10 : decode cX3_number 10 = .ok (.if_icmp .lt 7, 3) := by decide +kernel
theorem dX3_number_13 : decode cX3_number 13 = .ok (.iconst (-1), 1) := by decide +kernel
theorem dX3_number_14 : decode cX3_number 14 = .ok (.goto 9, 3) := by decide +kernel
theorem dX3_number_17 : decode cX3_number 17 = .ok (.aload_n 0, 1) := by decide +kernel
theorem dX3_number_18 : decode cX3_number 18 = .ok (.getfield 9, 3) := by decide +kernel
theorem dX3_number_21 : decode cX3_number 21 = .ok (.iload_n 1, 1) := by decide +kernel
theorem dX3_number_22 : decode cX3_number 22 = .ok (.iaload, 1) := by decide +kernel
theorem dX3_number_23 : decode cX3_number 23 = .ok (.ireturn, 1) := by decide +kernel
theorem dX3_setNumber_0 : decode cX3_setNumber 0 = .ok (.iload_n 1, 1) := by decide +kernel
theorem dX3_setNumber_1 : decode cX3_setNumber 1 = .ok (.ifCond .lt 19, 3) := by decide +kernel
theorem dX3_setNumber_4 : decode cX3_setNumber 4 = .ok (.iload_n 1, 1) := by decide +kernel
theorem dX3_setNumber_5 : decode cX3_setNumber 5 = .ok (.aload_n 0, 1) := by decide +kernel
theorem dX3_setNumber_6 : decode cX3_setNumber 6 = .ok (.getfield 9, 3) := by decide +kernel
theorem dX3_setNumber_9 : decode cX3_setNumber 9 = .ok (.arraylength, 1) := by decide +kernel
theorem dX3_setNumber_10 : decode cX3_setNumber 10 = .ok (.if_icmp .ge 10, 3) := by decide +kernel
theorem dX3_setNumber_13 : decode cX3_setNumber 13 = .ok (.aload_n 0, 1) := by decide +kernel
theorem dX3_setNumber_14 : decode cX3_setNumber 14 = .ok (.getfield 9, 3) := by decide +kernel
theorem dX3_setNumber_17 : decode cX3_setNumber 17 = .ok (.iload_n 1, 1) := by decide +kernel
theorem dX3_setNumber_18 : decode cX3_setNumber 18 = .ok (.iload_n 2, 1) := by decide +kernel
theorem dX3_setNumber_19 : decode cX3_setNumber 19 = .ok (.iastore, 1) := by decide +kernel
theorem dX3_setNumber_20 : decode cX3_setNumber 20 = .ok (.return_, 1) := by decide +kernel
theorem dX3_place_0 : decode cX3_place 0 = .ok (.aload_n 0, 1) := by decide +kernel
theorem dX3_place_1 : decode cX3_place 1 = .ok (.getfield 27, 3) := by decide +kernel
theorem dX3_place_4 : decode cX3_place 4 = .ok (.iconst 1, 1) := by decide +kernel
theorem dX3_place_5 : decode cX3_place 5 = .ok (.if_icmp .eq 15, 3) := by decide +kernel
theorem dX3_place_8 : decode cX3_place 8 = .ok (.aload_n 0, 1) := by decide +kernel
theorem dX3_place_9 : decode cX3_place 9 = .ok (.getfield 27, 3) := by decide +kernel
theorem dX3_place_12 : decode cX3_place 12 = .ok (.iconst 5, 1) := by decide +kernel
theorem dX3_place_13 : decode cX3_place 13 = .ok (.if_icmp .eq 7, 3) := by decide +kernel
theorem dX3_place_16 : decode cX3_place 16 = .ok (.iconst 1, 1) := by decide +kernel
theorem dX3_place_17 : decode cX3_place 17 = .ok (.goto 4, 3) := by decide +kernel
theorem dX3_place_20 : decode cX3_place 20 = .ok (.iconst 0, 1) := by decide +kernel
theorem dX3_place_21 : decode cX3_place 21 = .ok (.istore_n 1, 1) := by decide +kernel
theorem dX3_place_22 : decode cX3_place 22 = .ok (.aload_n 0, 1) := by decide +kernel
theorem dX3_place_23 : decode cX3_place 23 = .ok (.iload_n 1, 1) := by decide +kernel
theorem dX3_place_24 : decode cX3_place 24 = .ok (.ifCond .eq 11, 3) := by decide +kernel
theorem dX3_place_27 : decode cX3_place 27 = .ok (.aload_n 0, 1) := by decide +kernel
theorem dX3_place_28 : decode cX3_place 28 = .ok (.iconst 0, 1) := by decide +kernel
theorem dX3_place_29 : decode cX3_place 29 = .ok (.invokevirtual 53, 3) := by decide +kernel
theorem dX3_place_32 : decode cX3_place 32 = .ok (.goto 4, 3) := by decide +kernel
theorem dX3_place_35 : decode cX3_place 35 = .ok (.iconst 0, 1) := by decide +kernel
theorem dX3_place_36 : decode cX3_place 36 = .ok (.putfield 57, 3) := by decide +kernel
theorem dX3_place_39 : decode cX3_place 39 = .ok (.aload_n 0, 1) := by decide +kernel
theorem dX3_place_40 : decode cX3_place 40 = .ok (.iload_n 1, 1) := by decide +kernel
theorem dX3_place_41 : decode cX3_place 41 = .ok (.ifCond .eq 23, 3) := by decide +kernel
theorem dX3_place_44 : decode cX3_place 44 = .ok (.aload_n 0, 1) := by decide +kernel
theorem dX3_place_45 : decode cX3_place 45 = .ok (.aload_n 0, 1) := by decide +kernel
theorem dX3_place_46 : decode cX3_place 46 = .ok (.getfield 27, 3) := by decide +kernel
theorem dX3_place_49 : decode cX3_place 49 = .ok (.iconst 3, 1) := by decide +kernel
theorem dX3_place_50 : decode cX3_place 50 = .ok (.if_icmp .ne 7, 3) := by decide +kernel
theorem dX3_place_53 : decode cX3_place 53 = .ok (.iconst 2, 1) := by decide +kernel
theorem dX3_place_54 : decode cX3_place 54 = .ok (.goto 4, 3) := by decide +kernel
theorem dX3_place_57 : decode cX3_place 57 = .ok (.iconst 1, 1) := by decide +kernel
theorem dX3_place_58 : decode cX3_place 58 = .ok (.invokevirtual 53, 3) := by decide +kernel
theorem dX3_place_61 : decode cX3_place 61 = .ok (.goto 4, 3) := by decide +kernel
theorem dX3_place_64 : decode cX3_place 64 = .ok (.iconst (-1), 1) := by decide +kernel
theorem dX3_place_65 : decode cX3_place 65 = .ok (.putfield 60, 3) := by decide +kernel
theorem dX3_place_68 : decode cX3_place 68 = .ok (.aload_n 0, 1) := by decide +kernel
theorem dX3_place_69 : decode cX3_place 69 = .ok (.iconst (-1), 1) := by decide +kernel
theorem dX3_place_70 : decode cX3_place 70 = .ok (.putfield 63, 3) := by decide +kernel
theorem dX3_place_73 : decode cX3_place 73 = .ok (.aload_n 0, 1) := by decide +kernel
theorem dX3_place_74 : decode cX3_place 74 = .ok (.getfield 27, 3) := by decide +kernel
theorem dX3_place_77 : decode cX3_place 77 = .ok (.iconst 1, 1) := by decide +kernel
theorem dX3_place_78 : decode cX3_place 78 = .ok (.if_icmp .eq 11, 3) := by decide +kernel
theorem dX3_place_81 : decode cX3_place 81 = .ok (.aload_n 0, 1) := by decide +kernel
theorem dX3_place_82 : decode cX3_place 82 = .ok (.getfield 27, 3) := by decide +kernel
theorem dX3_place_85 : decode cX3_place 85 = .ok (.iconst 4, 1) := by decide +kernel
theorem dX3_place_86 : decode cX3_place 86 = .ok (.if_icmp .ne 24, 3) := by decide +kernel
theorem dX3_place_89 : decode cX3_place 89 = .ok (.aload_n 0, 1) := by decide +kernel
theorem dX3_place_90 : decode cX3_place 90 = .ok (.aload_n 0, 1) := by decide +kernel
theorem dX3_place_91 : decode cX3_place 91 = .ok (.aload_n 0, 1) := by decide +kernel
theorem dX3_place_92 : decode cX3_place 92 = .ok (.getfield 27, 3) := by decide +kernel
theorem dX3_place_95 : decode cX3_place 95 = .ok (.iconst 1, 1) := by decide +kernel
theorem dX3_place_96 : decode cX3_place 96 = .ok (.if_icmp .ne 7, 3) := by decide +kernel
theorem dX3_place_99 : decode cX3_place 99 = .ok (.iconst 0, 1) := by decide +kernel
theorem dX3_place_100 : decode cX3_place 100 = .ok (.goto 4, 3) := by decide +kernel
theorem dX3_place_103 : decode cX3_place 103 = .ok (.iconst 2, 1) := by decide +kernel
theorem dX3_place_104 : decode cX3_place 104 = .ok (.invokevirtual 53, 3) := by decide +kernel
theorem dX3_place_107 : decode cX3_place 107 = .ok (.putfield 63, 3) := by decide +kernel
theorem dX3_place_110 : decode cX3_place 110 = .ok (.return_, 1) := by decide +kernel
theorem dX3_fitsInside_0 : decode cX3_fitsInside 0 = .ok (.aload_n 0, 1) := by decide +kernel
theorem dX3_fitsInside_1 : decode cX3_fitsInside 1 = .ok (.getfield 63, 3) := by decide +kernel
theorem dX3_fitsInside_4 : decode cX3_fitsInside 4 = .ok (.iconst (-1), 1) := by decide +kernel
theorem dX3_fitsInside_5 : decode cX3_fitsInside 5 = .ok (.if_icmp .eq 21, 3) := by decide +kernel
theorem dX3_fitsInside_8 : decode cX3_fitsInside 8 = .ok (.aload_n 0, 1) := by decide +kernel
theorem dX3_fitsInside_9 : decode cX3_fitsInside 9 = .ok (.getfield 63, 3) := by decide +kernel
theorem dX3_fitsInside_12 : decode cX3_fitsInside 12 = .ok (.iload_n 1, 1) := by decide +kernel
theorem dX3_fitsInside_13 : decode cX3_fitsInside 13 = .ok (.if_icmp .le 11, 3) := by decide +kernel
theorem dX3_fitsInside_16 : decode cX3_fitsInside 16 = .ok (.aload_n 0, 1) := by decide +kernel
theorem dX3_fitsInside_17 : decode cX3_fitsInside 17 = .ok (.getfield 63, 3) := by decide +kernel
theorem dX3_fitsInside_20 : decode cX3_fitsInside 20 = .ok (.iload_n 2, 1) := by decide +kernel
theorem dX3_fitsInside_21 : decode cX3_fitsInside 21 = .ok (.if_icmp .le 5, 3) := by decide +kernel
theorem dX3_fitsInside_24 : decode cX3_fitsInside 24 = .ok (.iconst 0, 1) := by decide +kernel
theorem dX3_fitsInside_25 : decode cX3_fitsInside 25 = .ok (.ireturn, 1) := by decide +kernel
theorem dX3_fitsInside_26 : decode cX3_fitsInside 26 = .ok (.aload_n 0, 1) := by decide +kernel
theorem dX3_fitsInside_27 : decode cX3_fitsInside 27 = .ok (.getfield 60, 3) := by decide +kernel
theorem dX3_fitsInside_30 : decode cX3_fitsInside 30 = .ok (.aload_n 0, 1) := by decide +kernel
theorem dX3_fitsInside_31 : decode cX3_fitsInside 31 = .ok (.getfield 57, 3) := by decide +kernel
theorem dX3_fitsInside_34 : decode cX3_fitsInside 34 = .ok (.if_icmp .lt 19, 3) := by decide +kernel
theorem dX3_fitsInside_37 : decode cX3_fitsInside 37 = .ok (.aload_n 0, 1) := by decide +kernel
theorem dX3_fitsInside_38 : decode cX3_fitsInside 38 = .ok (.getfield 57, 3) := by decide +kernel
theorem dX3_fitsInside_41 : decode cX3_fitsInside 41 = .ok (.iload_n 1, 1) := by decide +kernel
theorem dX3_fitsInside_42 : decode cX3_fitsInside 42 = .ok (.if_icmp .lt 15, 3) := by decide +kernel
theorem dX3_fitsInside_45 : decode cX3_fitsInside 45 = .ok (.aload_n 0, 1) := by decide +kernel
theorem dX3_fitsInside_46 : decode cX3_fitsInside 46 = .ok (.getfield 60, 3) := by decide +kernel
theorem dX3_fitsInside_49 : decode cX3_fitsInside 49 = .ok (.iload_n 2, 1) := by decide +kernel
theorem dX3_fitsInside_50 : decode cX3_fitsInside 50 = .ok (.if_icmp .gt 7, 3) := by decide +kernel
theorem dX3_fitsInside_53 : decode cX3_fitsInside 53 = .ok (.iconst 1, 1) := by decide +kernel
theorem dX3_fitsInside_54 : decode cX3_fitsInside 54 = .ok (.goto 4, 3) := by decide +kernel
theorem dX3_fitsInside_57 : decode cX3_fitsInside 57 = .ok (.iconst 0, 1) := by decide +kernel
theorem dX3_fitsInside_58 : decode cX3_fitsInside 58 = .ok (.ireturn, 1) := by decide +kernel
theorem dX3_isWithin_0 : decode cX3_isWithin 0 = .ok (.aload_n 1, 1) := by decide +kernel
theorem dX3_isWithin_1 : decode cX3_isWithin 1 = .ok (.getfield 27, 3) := by decide +kernel
theorem dX3_isWithin_4 : decode cX3_isWithin 4 = .ok (.iconst 4, 1) := by decide +kernel
theorem dX3_isWithin_5 : decode cX3_isWithin 5 = .ok (.if_icmp .ne 16, 3) := by decide +kernel
theorem dX3_isWithin_8 : decode cX3_isWithin 8 = .ok (.aload_n 0, 1) := by decide +kernel
theorem dX3_isWithin_9 : decode cX3_isWithin 9 = .ok (.aload_n 1, 1) := by decide +kernel
theorem dX3_isWithin_10 : decode cX3_isWithin 10 = .ok (.getfield 57, 3) := by decide +kernel
theorem dX3_isWithin_13 : decode cX3_isWithin 13 = .ok (.aload_n 1, 1) := by decide +kernel
theorem dX3_isWithin_14 : decode cX3_isWithin 14 = .ok (.getfield 60, 3) := by decide +kernel
theorem dX3_isWithin_17 : decode cX3_isWithin 17 = .ok (.invokevirtual 66, 3) := by decide +kernel
theorem dX3_isWithin_20 : decode cX3_isWithin 20 = .ok (.ireturn, 1) := by decide +kernel
theorem dX3_isWithin_21 : decode cX3_isWithin 21 = .ok (.aload_n 1, 1) := by decide +kernel
theorem dX3_isWithin_22 : decode cX3_isWithin 22 = .ok (.getfield 27, 3) := by decide +kernel
theorem dX3_isWithin_25 : decode cX3_isWithin 25 = .ok (.iconst 3, 1) := by decide +kernel
theorem dX3_isWithin_26 : decode cX3_isWithin 26 = .ok (.if_icmp .eq 5, 3) := by decide +kernel
theorem dX3_isWithin_29 : decode cX3_isWithin 29 = .ok (.iconst 0, 1) := by decide +kernel
theorem dX3_isWithin_30 : decode cX3_isWithin 30 = .ok (.ireturn, 1) := by decide +kernel
theorem dX3_isWithin_31 : decode cX3_isWithin 31 = .ok (.aload_n 1, 1) := by decide +kernel
theorem dX3_isWithin_32 : decode cX3_isWithin 32 = .ok (.iconst 1, 1) := by decide +kernel
theorem dX3_isWithin_33 : decode cX3_isWithin 33 = .ok (.invokevirtual 53, 3) := by decide +kernel
theorem dX3_isWithin_36 : decode cX3_isWithin 36 = .ok (.istore_n 2, 1) := by decide +kernel
theorem dX3_isWithin_37 : decode cX3_isWithin 37 = .ok (.aload_n 0, 1) := by decide +kernel
theorem dX3_isWithin_38 : decode cX3_isWithin 38 = .ok (.aload_n 1, 1) := by decide +kernel
theorem dX3_isWithin_39 : decode cX3_isWithin 39 = .ok (.getfield 57, 3) := by decide +kernel
theorem dX3_isWithin_42 : decode cX3_isWithin 42 = .ok (.iload_n 2, 1) := by decide +kernel
theorem dX3_isWithin_43 : decode cX3_isWithin 43 = .ok (.iconst 1, 1) := by decide +kernel
theorem dX3_isWithin_44 : decode cX3_isWithin 44 = .ok (.isub, 1) := by decide +kernel
theorem dX3_isWithin_45 : decode cX3_isWithin 45 = .ok (.invokevirtual 66, 3) := by decide +kernel
theorem dX3_isWithin_48 : decode cX3_isWithin 48 = .ok (.ifCond .ne 15, 3) := by decide +kernel
theorem dX3_isWithin_51 : decode cX3_isWithin 51 = .ok (.aload_n 0, 1) := by decide +kernel
theorem dX3_isWithin_52 : decode cX3_isWithin 52 = .ok (.iload_n 2, 1) := by decide +kernel
theorem dX3_isWithin_53 : decode cX3_isWithin 53 = .ok (.aload_n 1, 1) := by decide +kernel
theorem dX3_isWithin_54 : decode cX3_isWithin 54 = .ok (.getfield 60, 3) := by decide +kernel
theorem dX3_isWithin_57 : decode cX3_isWithin 57 = .ok (.invokevirtual 66, 3) := by decide +kernel
theorem dX3_isWithin_60 : decode cX3_isWithin 60 = .ok (.ifCond .eq 7, 3) := by decide +kernel
theorem dX3_isWithin_63 : decode cX3_isWithin 63 = .ok (.iconst 1, 1) := by decide +kernel
theorem dX3_isWithin_64 : decode cX3_isWithin 64 = .ok (.goto 4, 3) := by decide +kernel
theorem dX3_isWithin_67 : decode cX3_isWithin 67 = .ok (.iconst 0, 1) := by decide +kernel
theorem dX3_isWithin_68 : decode cX3_isWithin 68 = .ok (.ireturn, 1) := by decide +kernel
theorem dX3_meets_0 : decode cX3_meets 0 = .ok (.aload_n 0, 1) := by decide +kernel
theorem dX3_meets_1 : decode cX3_meets 1 = .ok (.aload_n 1, 1) := by decide +kernel
theorem dX3_meets_2 : decode cX3_meets 2 = .ok (.invokevirtual 70, 3) := by decide +kernel
theorem dX3_meets_5 : decode cX3_meets 5 = .ok (.ifCond .ne 11, 3) := by decide +kernel
theorem dX3_meets_8 : decode cX3_meets 8 = .ok (.aload_n 1, 1) := by decide +kernel
theorem dX3_meets_9 : decode cX3_meets 9 = .ok (.aload_n 0, 1) := by decide +kernel
theorem dX3_meets_10 : decode cX3_meets 10 = .ok (.invokevirtual 70, 3) := by decide +kernel
theorem dX3_meets_13 : decode cX3_meets 13 = .ok (.ifCond .eq 5, 3) := by decide +kernel
theorem dX3_meets_16 : decode cX3_meets 16 = .ok (.iconst 0, 1) := by decide +kernel
theorem dX3_meets_17 : decode cX3_meets 17 = .ok (.ireturn, 1) := by decide +kernel
theorem dX3_meets_18 : decode cX3_meets 18 = .ok (.aload_n 0, 1) := by decide +kernel
theorem dX3_meets_19 : decode cX3_meets 19 = .ok (.getfield 57, 3) := by decide +kernel
theorem dX3_meets_22 : decode cX3_meets 22 = .ok (.aload_n 1, 1) := by decide +kernel
theorem dX3_meets_23 : decode cX3_meets 23 = .ok (.getfield 60, 3) := by decide +kernel
theorem dX3_meets_26 : decode cX3_meets 26 = .ok (.if_icmp .gt 14, 3) := by decide +kernel
theorem dX3_meets_29 : decode cX3_meets 29 = .ok (.aload_n 1, 1) := by decide +kernel
theorem dX3_meets_30 : decode cX3_meets 30 = .ok (.getfield 57, 3) := by decide +kernel
theorem dX3_meets_33 : decode cX3_meets 33 = .ok (.aload_n 0, 1) := by decide +kernel
theorem dX3_meets_34 : decode cX3_meets 34 = .ok (.getfield 60, 3) := by decide +kernel
theorem dX3_meets_37 : decode cX3_meets 37 = .ok (.if_icmp .le 47, 3) := by decide +kernel
theorem dX3_meets_40 : decode cX3_meets 40 = .ok (.aload_n 0, 1) := by decide +kernel
theorem dX3_meets_41 : decode cX3_meets 41 = .ok (.getfield 63, 3) := by decide +kernel
theorem dX3_meets_44 : decode cX3_meets 44 = .ok (.aload_n 1, 1) := by decide +kernel
theorem dX3_meets_45 : decode cX3_meets 45 = .ok (.getfield 57, 3) := by decide +kernel
theorem dX3_meets_48 : decode cX3_meets 48 = .ok (.if_icmp .le 14, 3) := by decide +kernel
theorem dX3_meets_51 : decode cX3_meets 51 = .ok (.aload_n 0, 1) := by decide +kernel
theorem dX3_meets_52 : decode cX3_meets 52 = .ok (.getfield 63, 3) := by decide +kernel
theorem dX3_meets_55 : decode cX3_meets 55 = .ok (.aload_n 1, 1) := by decide +kernel
theorem dX3_meets_56 : decode cX3_meets 56 = .ok (.getfield 60, 3) := by decide +kernel
theorem dX3_meets_59 : decode cX3_meets 59 = .ok (.if_icmp .le 25, 3) := by decide +kernel
theorem dX3_meets_62 : decode cX3_meets 62 = .ok (.aload_n 1, 1) := by decide +kernel
theorem dX3_meets_63 : decode cX3_meets 63 = .ok (.getfield 63, 3) := by decide +kernel
theorem dX3_meets_66 : decode cX3_meets 66 = .ok (.aload_n 0, 1) := by decide +kernel
theorem dX3_meets_67 : decode cX3_meets 67 = .ok (.getfield 57, 3) := by decide +kernel
theorem dX3_meets_70 : decode cX3_meets 70 = .ok (.if_icmp .le 18, 3) := by decide +kernel
theorem dX3_meets_73 : decode cX3_meets 73 = .ok (.aload_n 1, 1) := by decide +kernel
theorem dX3_meets_74 : decode cX3_meets 74 = .ok (.getfield 63, 3) := by decide +kernel
theorem dX3_meets_77 : decode cX3_meets 77 = .ok (.aload_n 0, 1) := by decide +kernel
theorem dX3_meets_78 : decode cX3_meets 78 = .ok (.getfield 60, 3) := by decide +kernel
theorem dX3_meets_81 : decode cX3_meets 81 = .ok (.if_icmp .gt 7, 3) := by decide +kernel
theorem dX3_meets_84 : decode cX3_meets 84 = .ok (.iconst 1, 1) := by decide +kernel
theorem dX3_meets_85 : decode cX3_meets 85 = .ok (.goto 4, 3) := by decide +kernel
theorem dX3_meets_88 : decode cX3_meets 88 = .ok (.iconst 0, 1) := by decide +kernel
theorem dX3_meets_89 : decode cX3_meets 89 = .ok (.ireturn, 1) := by decide +kernel
theorem dX3_voidByStet_0 : decode cX3_voidByStet 0 = .ok (.aload_n 0, 1) := by decide +kernel
theorem dX3_voidByStet_1 : decode cX3_voidByStet 1 = .ok (.getfield 38, 3) := by decide +kernel
theorem dX3_voidByStet_4 : decode cX3_voidByStet 4 = .ok (.ifCond .ne 13, 3) := by decide +kernel
theorem dX3_voidByStet_7 : decode cX3_voidByStet 7 = .ok (.aload_n 0, 1) := by decide +kernel
theorem dX3_voidByStet_8 : decode cX3_voidByStet 8 = .ok (.iconst 1, 1) := by decide +kernel
theorem dX3_voidByStet_9 : decode cX3_voidByStet 9 = .ok (.putfield 38, 3) := by decide +kernel
theorem dX3_voidByStet_12 : decode cX3_voidByStet 12 = .ok (.aload_n 0, 1) := by decide +kernel
theorem dX3_voidByStet_13 : decode cX3_voidByStet 13 = .ok (.iload_n 1, 1) := by decide +kernel
theorem dX3_voidByStet_14 : decode cX3_voidByStet 14 = .ok (.putfield 44, 3) := by decide +kernel
theorem dX3_voidByStet_17 : decode cX3_voidByStet 17 = .ok (.return_, 1) := by decide +kernel
theorem dX3_asks_0 : decode cX3_asks 0 = .ok (.aload_n 0, 1) := by decide +kernel
theorem dX3_asks_1 : decode cX3_asks 1 = .ok (.getfield 27, 3) := by decide +kernel
theorem dX3_asks_4 : decode cX3_asks 4 = .ok (.iconst 5, 1) := by decide +kernel
theorem dX3_asks_5 : decode cX3_asks 5 = .ok (.if_icmp .eq 21, 3) := by decide +kernel
theorem dX3_asks_8 : decode cX3_asks 8 = .ok (.aload_n 0, 1) := by decide +kernel
theorem dX3_asks_9 : decode cX3_asks 9 = .ok (.getfield 38, 3) := by decide +kernel
theorem dX3_asks_12 : decode cX3_asks 12 = .ok (.ifCond .ne 14, 3) := by decide +kernel
theorem dX3_asks_15 : decode cX3_asks 15 = .ok (.aload_n 0, 1) := by decide +kernel
theorem dX3_asks_16 : decode cX3_asks 16 = .ok (.getfield 34, 3) := by decide +kernel
theorem dX3_asks_19 : decode cX3_asks 19 = .ok (.ifCond .ne 7, 3) := by decide +kernel
theorem dX3_asks_22 : decode cX3_asks 22 = .ok (.iconst 1, 1) := by decide +kernel
theorem dX3_asks_23 : decode cX3_asks 23 = .ok (.goto 4, 3) := by decide +kernel
theorem dX3_asks_26 : decode cX3_asks 26 = .ok (.iconst 0, 1) := by decide +kernel
theorem dX3_asks_27 : decode cX3_asks 27 = .ok (.ireturn, 1) := by decide +kernel
theorem dX3_undecidedStatus_0 : decode cX3_undecidedStatus 0 = .ok (.aload_n 0, 1) := by decide +kernel
theorem dX3_undecidedStatus_1 : decode cX3_undecidedStatus 1 = .ok (.getfield 27, 3) := by decide +kernel
theorem dX3_undecidedStatus_4 : decode cX3_undecidedStatus 4 = .ok (.iconst 5, 1) := by decide +kernel
theorem dX3_undecidedStatus_5 : decode cX3_undecidedStatus 5 = .ok (.if_icmp .ne 5, 3) := by decide +kernel
theorem dX3_undecidedStatus_8 : decode cX3_undecidedStatus 8 = .ok (.iconst 4, 1) := by decide +kernel
theorem dX3_undecidedStatus_9 : decode cX3_undecidedStatus 9 = .ok (.ireturn, 1) := by decide +kernel
theorem dX3_undecidedStatus_10 : decode cX3_undecidedStatus 10 = .ok (.aload_n 0, 1) := by decide +kernel
theorem dX3_undecidedStatus_11 : decode cX3_undecidedStatus 11 = .ok (.getfield 38, 3) := by decide +kernel
theorem dX3_undecidedStatus_14 : decode cX3_undecidedStatus 14 = .ok (.ifCond .eq 5, 3) := by decide +kernel
theorem dX3_undecidedStatus_17 : decode cX3_undecidedStatus 17 = .ok (.iconst 2, 1) := by decide +kernel
theorem dX3_undecidedStatus_18 : decode cX3_undecidedStatus 18 = .ok (.ireturn, 1) := by decide +kernel
theorem dX3_undecidedStatus_19 : decode cX3_undecidedStatus 19 = .ok (.aload_n 0, 1) := by decide +kernel
theorem dX3_undecidedStatus_20 : decode cX3_undecidedStatus 20 = .ok (.getfield 34, 3) := by decide +kernel
theorem dX3_undecidedStatus_23 : decode cX3_undecidedStatus 23 = .ok (.ifCond .eq 7, 3) := by decide +kernel
theorem dX3_undecidedStatus_26 : decode cX3_undecidedStatus 26 = .ok (.iconst 3, 1) := by decide +kernel
theorem dX3_undecidedStatus_27 : decode cX3_undecidedStatus 27 = .ok (.goto 4, 3) := by decide +kernel
theorem dX3_undecidedStatus_30 : decode cX3_undecidedStatus 30 = .ok (.iconst 1, 1) := by decide +kernel
theorem dX3_undecidedStatus_31 : decode cX3_undecidedStatus 31 = .ok (.ireturn, 1) := by decide +kernel
theorem dX3_tell_0 : decode cX3_tell 0 = .ok (.iload_n 1, 1) := by decide +kernel
theorem dX3_tell_1 : decode cX3_tell 1 = .ok (.tableswitch 100 0 8 #[51, 56, 61, 61, 61, 69, 77, 82, 87], 51) := by decide +kernel
theorem dX3_tell_52 : decode cX3_tell 52 = .ok (.aload_n 0, 1) := by decide +kernel
theorem dX3_tell_53 : decode cX3_tell 53 = .ok (.getfield 27, 3) := by decide +kernel
theorem dX3_tell_56 : decode cX3_tell 56 = .ok (.ireturn, 1) := by decide +kernel
theorem dX3_tell_57 : decode cX3_tell 57 = .ok (.aload_n 0, 1) := by decide +kernel
theorem dX3_tell_58 : decode cX3_tell 58 = .ok (.getfield 31, 3) := by decide +kernel
theorem dX3_tell_61 : decode cX3_tell 61 = .ok (.ireturn, 1) := by decide +kernel
theorem dX3_tell_62 : decode cX3_tell 62 = .ok (.aload_n 0, 1) := by decide +kernel
theorem dX3_tell_63 : decode cX3_tell 63 = .ok (.iload_n 1, 1) := by decide +kernel
theorem dX3_tell_64 : decode cX3_tell 64 = .ok (.iconst 2, 1) := by decide +kernel
theorem dX3_tell_65 : decode cX3_tell 65 = .ok (.isub, 1) := by decide +kernel
theorem dX3_tell_66 : decode cX3_tell 66 = .ok (.invokevirtual 53, 3) := by decide +kernel
theorem dX3_tell_69 : decode cX3_tell 69 = .ok (.ireturn, 1) := by decide +kernel
theorem dX3_tell_70 : decode cX3_tell 70 = .ok (.aload_n 0, 1) := by decide +kernel
theorem dX3_tell_71 : decode cX3_tell 71 = .ok (.getfield 20, 3) := by decide +kernel
theorem dX3_tell_74 : decode cX3_tell 74 = .ok (.getfield 74, 3) := by decide +kernel
theorem dX3_tell_77 : decode cX3_tell 77 = .ok (.ireturn, 1) := by decide +kernel
theorem dX3_tell_78 : decode cX3_tell 78 = .ok (.aload_n 0, 1) := by decide +kernel
theorem dX3_tell_79 : decode cX3_tell 79 = .ok (.getfield 47, 3) := by decide +kernel
theorem dX3_tell_82 : decode cX3_tell 82 = .ok (.ireturn, 1) := by decide +kernel
theorem dX3_tell_83 : decode cX3_tell 83 = .ok (.aload_n 0, 1) := by decide +kernel
theorem dX3_tell_84 : decode cX3_tell 84 = .ok (.invokevirtual 77, 3) := by decide +kernel
theorem dX3_tell_87 : decode cX3_tell 87 = .ok (.ireturn, 1) := by decide +kernel
theorem dX3_tell_88 : decode cX3_tell 88 = .ok (.aload_n 0, 1) := by decide +kernel
theorem dX3_tell_89 : decode cX3_tell 89 = .ok (.getfield 41, 3) := by decide +kernel
theorem dX3_tell_92 : decode cX3_tell 92 = .ok (.ifCond .eq 7, 3) := by decide +kernel
theorem dX3_tell_95 : decode cX3_tell 95 = .ok (.iconst 1, 1) := by decide +kernel
theorem dX3_tell_96 : decode cX3_tell 96 = .ok (.goto 4, 3) := by decide +kernel
theorem dX3_tell_99 : decode cX3_tell 99 = .ok (.iconst 0, 1) := by decide +kernel
theorem dX3_tell_100 : decode cX3_tell 100 = .ok (.ireturn, 1) := by decide +kernel
theorem dX3_tell_101 : decode cX3_tell 101 = .ok (.bipush (-9), 2) := by decide +kernel
theorem dX3_tell_103 : decode cX3_tell 103 = .ok (.ireturn, 1) := by decide +kernel
theorem dX3_causer_0 : decode cX3_causer 0 = .ok (.aload_n 0, 1) := by decide +kernel
theorem dX3_causer_1 : decode cX3_causer 1 = .ok (.getfield 47, 3) := by decide +kernel
theorem dX3_causer_4 : decode cX3_causer 4 = .ok (.iconst 1, 1) := by decide +kernel
theorem dX3_causer_5 : decode cX3_causer 5 = .ok (.if_icmp .ne 8, 3) := by decide +kernel
theorem dX3_causer_8 : decode cX3_causer 8 = .ok (.aload_n 0, 1) := by decide +kernel
theorem dX3_causer_9 : decode cX3_causer 9 = .ok (.getfield 50, 3) := by decide +kernel
theorem dX3_causer_12 : decode cX3_causer 12 = .ok (.ireturn, 1) := by decide +kernel
theorem dX3_causer_13 : decode cX3_causer 13 = .ok (.aload_n 0, 1) := by decide +kernel
theorem dX3_causer_14 : decode cX3_causer 14 = .ok (.getfield 47, 3) := by decide +kernel
theorem dX3_causer_17 : decode cX3_causer 17 = .ok (.iconst 2, 1) := by decide +kernel
theorem dX3_causer_18 : decode cX3_causer 18 = .ok (.if_icmp .ne 10, 3) := by decide +kernel
theorem dX3_causer_21 : decode cX3_causer 21 = .ok (.aload_n 0, 1) := by decide +kernel
theorem dX3_causer_22 : decode cX3_causer 22 = .ok (.getfield 44, 3) := by decide +kernel
theorem dX3_causer_25 : decode cX3_causer 25 = .ok (.goto 4, 3) := by decide +kernel
theorem dX3_causer_28 : decode cX3_causer 28 = .ok (.iconst (-1), 1) := by decide +kernel
theorem dX3_causer_29 : decode cX3_causer 29 = .ok (.ireturn, 1) := by decide +kernel
theorem dX3_tellWord_0 : decode cX3_tellWord 0 = .ok (.iload_n 1, 1) := by decide +kernel
theorem dX3_tellWord_1 : decode cX3_tellWord 1 = .ok (.ifCond .lt 14, 3) := by decide +kernel
theorem dX3_tellWord_4 : decode cX3_tellWord 4 = .ok (.iload_n 1, 1) := by decide +kernel
theorem dX3_tellWord_5 : decode cX3_tellWord 5 = .ok (.aload_n 0, 1) := by decide +kernel
theorem dX3_tellWord_6 : decode cX3_tellWord 6 = .ok (.getfield 20, 3) := by decide +kernel
theorem dX3_tellWord_9 : decode cX3_tellWord 9 = .ok (.getfield 74, 3) := by decide +kernel
theorem dX3_tellWord_12 : decode cX3_tellWord 12 = .ok (.if_icmp .lt 8, 3) := by decide +kernel
theorem dX3_tellWord_15 : decode cX3_tellWord 15 = .ok (.bipush (-9), 2) := by decide +kernel
theorem dX3_tellWord_17 : decode cX3_tellWord 17 = .ok (.goto 12, 3) := by decide +kernel
theorem dX3_tellWord_20 : decode cX3_tellWord 20 = .ok (.aload_n 0, 1) := by decide +kernel
theorem dX3_tellWord_21 : decode cX3_tellWord 21 = .ok (.getfield 20, 3) := by decide +kernel
theorem dX3_tellWord_24 : decode cX3_tellWord 24 = .ok (.iload_n 1, 1) := by decide +kernel
theorem dX3_tellWord_25 : decode cX3_tellWord 25 = .ok (.invokevirtual 81, 3) := by decide +kernel
theorem dX3_tellWord_28 : decode cX3_tellWord 28 = .ok (.l2i, 1) := by decide +kernel
theorem dX3_tellWord_29 : decode cX3_tellWord 29 = .ok (.ireturn, 1) := by decide +kernel
theorem dX4_init_0 : decode cX4_init 0 = .ok (.aload_n 0, 1) := by decide +kernel
theorem dX4_init_1 : decode cX4_init 1 = .ok (.invokespecial 3, 3) := by decide +kernel
theorem dX4_init_4 : decode cX4_init 4 = .ok (.return_, 1) := by decide +kernel
theorem dX4_readMarks_0 : decode cX4_readMarks 0 = .ok (.aload_n 0, 1) := by decide +kernel
theorem dX4_readMarks_1 : decode cX4_readMarks 1 = .ok (.aload_n 1, 1) := by decide +kernel
theorem dX4_readMarks_2 : decode cX4_readMarks 2 = .ok (.putfield 9, 3) := by decide +kernel
theorem dX4_readMarks_5 : decode cX4_readMarks 5 = .ok (.aload_n 0, 1) := by decide +kernel
theorem dX4_readMarks_6 : decode cX4_readMarks 6 = .ok (.aload_n 2, 1) := by decide +kernel
theorem dX4_readMarks_7 : decode cX4_readMarks 7 = .ok (.putfield 15, 3) := by decide +kernel
theorem dX4_readMarks_10 : decode cX4_readMarks 10 = .ok (.aload_n 0, 1) := by decide +kernel
theorem dX4_readMarks_11 : decode cX4_readMarks 11 = .ok (.aload 4, 2) := by decide +kernel
theorem dX4_readMarks_13 : decode cX4_readMarks 13 = .ok (.putfield 19, 3) := by decide +kernel
theorem dX4_readMarks_16 : decode cX4_readMarks 16 = .ok (.aload_n 0, 1) := by decide +kernel
theorem dX4_readMarks_17 : decode cX4_readMarks 17 = .ok (.iload_n 3, 1) := by decide +kernel
theorem dX4_readMarks_18 : decode cX4_readMarks 18 = .ok (.putfield 23, 3) := by decide +kernel
theorem dX4_readMarks_21 : decode cX4_readMarks 21 = .ok (.aload_n 0, 1) := by decide +kernel
theorem dX4_readMarks_22 : decode cX4_readMarks 22 = .ok (.iconst 0, 1) := by decide +kernel
theorem dX4_readMarks_23 : decode cX4_readMarks 23 = .ok (.putfield 27, 3) := by decide +kernel
theorem dX4_readMarks_26 : decode cX4_readMarks 26 = .ok (.aload_n 0, 1) := by decide +kernel
theorem dX4_readMarks_27 : decode cX4_readMarks 27 = .ok (.getfield 19, 3) := by decide +kernel
theorem dX4_readMarks_30 : decode cX4_readMarks 30 = .ok (.invokevirtual 30, 3) := by decide +kernel
theorem dX4_readMarks_33 : decode cX4_readMarks 33 = .ok (.aload_n 0, 1) := by decide +kernel
theorem dX4_readMarks_34 : decode cX4_readMarks 34 = .ok (.getfield 15, 3) := by decide +kernel
