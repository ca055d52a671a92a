theorem dX13_put_11 : decode cX13_put 11 = .ok (.dup, 1) := by decide +kernel
theorem dX13_put_12 : decode cX13_put 12 = .ok (.getfield 260, 3) := by decide +kernel
theorem dX13_put_15 : decode cX13_put 15 = .ok (.iconst 1, 1) := by decide +kernel
theorem dX13_put_16 : decode cX13_put 16 = .ok (.iadd, 1) := by decide +kernel
theorem dX13_put_17 : decode cX13_put 17 = .ok (.putfield 260, 3) := by decide +kernel
theorem dX13_put_20 : decode cX13_put 20 = .ok (.return_, 1) := by decide +kernel
theorem dX13_putWords_0 : decode cX13_putWords 0 = .ok (.iconst 0, 1) := by decide +kernel
theorem dX13_putWords_1 : decode cX13_putWords 1 = .ok (.istore_n 2, 1) := by decide +kernel
theorem dX13_putWords_2 : decode cX13_putWords 2 = .ok (.iload_n 2, 1) := by decide +kernel
theorem dX13_putWords_3 : decode cX13_putWords 3 = .ok (.aload_n 0, 1) := by decide +kernel
theorem dX13_putWords_4 : decode cX13_putWords 4 = .ok (.getfield 86, 3) := by decide +kernel
theorem dX13_putWords_7 : decode cX13_putWords 7 = .ok (.iload_n 1, 1) := by decide +kernel
theorem dX13_putWords_8 : decode cX13_putWords 8 = .ok (.iaload, 1) := by decide +kernel
theorem dX13_putWords_9 : decode cX13_putWords 9 = .ok (.if_icmp .ge 24, 3) := by decide +kernel
theorem dX13_putWords_12 : decode cX13_putWords 12 = .ok (.aload_n 0, 1) := by decide +kernel
theorem dX13_putWords_13 : decode cX13_putWords 13 = .ok (.aload_n 0, 1) := by decide +kernel
theorem dX13_putWords_14 : decode cX13_putWords 14 = .ok (.getfield 92, 3) := by decide +kernel
theorem dX13_putWords_17 : decode cX13_putWords 17 = .ok (.bipush 6, 2) := by decide +kernel
theorem dX13_putWords_19 : decode cX13_putWords 19 = .ok (.iload_n 1, 1) := by decide +kernel
theorem dX13_putWords_20 : decode cX13_putWords 20 = .ok (.imul, 1) := by decide +kernel
theorem dX13_putWords_21 : decode cX13_putWords 21 = .ok (.iload_n 2, 1) := by decide +kernel
theorem dX13_putWords_22 : decode cX13_putWords 22 = .ok (.iadd, 1) := by decide +kernel
theorem dX13_putWords_23 : decode cX13_putWords 23 = .ok (.laload, 1) := by decide +kernel
theorem dX13_putWords_24 : decode cX13_putWords 24 = .ok (.invokevirtual 263, 3) := by decide +kernel
theorem dX13_putWords_27 : decode cX13_putWords 27 = .ok (.iinc 2 1, 3) := by decide +kernel
theorem dX13_putWords_30 : decode cX13_putWords 30 = .ok (.goto (-28), 3) := by decide +kernel
theorem dX13_putWords_33 : decode cX13_putWords 33 = .ok (.return_, 1) := by decide +kernel
theorem dX13_layGap_0 : decode cX13_layGap 0 = .ok (.iconst 0, 1) := by decide +kernel
theorem dX13_layGap_1 : decode cX13_layGap 1 = .ok (.istore_n 2, 1) := by decide +kernel
theorem dX13_layGap_2 : decode cX13_layGap 2 = .ok (.iload_n 2, 1) := by decide +kernel
theorem dX13_layGap_3 : decode cX13_layGap 3 = .ok (.aload_n 0, 1) := by decide +kernel
theorem dX13_layGap_4 : decode cX13_layGap 4 = .ok (.getfield 153, 3) := by decide +kernel
theorem dX13_layGap_7 : decode cX13_layGap 7 = .ok (.if_icmp .ge 65, 3) := by decide +kernel
theorem dX13_layGap_10 : decode cX13_layGap 10 = .ok (.aload_n 0, 1) := by decide +kernel
theorem dX13_layGap_11 : decode cX13_layGap 11 = .ok (.getfield 117, 3) := by decide +kernel
theorem dX13_layGap_14 : decode cX13_layGap 14 = .ok (.iload_n 2, 1) := by decide +kernel
theorem dX13_layGap_15 : decode cX13_layGap 15 = .ok (.baload, 1) := by decide +kernel
theorem dX13_layGap_16 : decode cX13_layGap 16 = .ok (.ifCond .eq 50, 3) := by decide +kernel
theorem dX13_layGap_19 : decode cX13_layGap 19 = .ok (.aload_n 0, 1) := by decide +kernel
theorem dX13_layGap_20 : decode cX13_layGap 20 = .ok (.iload_n 2, 1) := by decide +kernel
theorem dX13_layGap_21 : decode cX13_layGap 21 = .ok (.invokevirtual 228, 3) := by decide +kernel
theorem dX13_layGap_24 : decode cX13_layGap 24 = .ok (.iload_n 1, 1) := by decide +kernel
theorem dX13_layGap_25 : decode cX13_layGap 25 = .ok (.if_icmp .eq 6, 3) := by decide +kernel
theorem dX13_layGap_28 : decode cX13_layGap 28 = .ok (.goto 38, 3) := by decide +kernel
theorem dX13_layGap_31 : decode cX13_layGap 31 = .ok (.aload_n 0, 1) := by decide +kernel
theorem dX13_layGap_32 : decode cX13_layGap 32 = .ok (.getfield 70, 3) := by decide +kernel
theorem dX13_layGap_35 : decode cX13_layGap 35 = .ok (.iload_n 2, 1) := by decide +kernel
theorem dX13_layGap_36 : decode cX13_layGap 36 = .ok (.iaload, 1) := by decide +kernel
theorem dX13_layGap_37 : decode cX13_layGap 37 = .ok (.iconst 1, 1) := by decide +kernel
theorem dX13_layGap_38 : decode cX13_layGap 38 = .ok (.if_icmp .ne 11, 3) := by decide +kernel
theorem dX13_layGap_41 : decode cX13_layGap 41 = .ok (.aload_n 0, 1) := by decide +kernel
theorem dX13_layGap_42 : decode cX13_layGap 42 = .ok (.iload_n 2, 1) := by decide +kernel
theorem dX13_layGap_43 : decode cX13_layGap 43 = .ok (.invokevirtual 266, 3) := by decide +kernel
theorem dX13_layGap_46 : decode cX13_layGap 46 = .ok (.goto 20, 3) := by decide +kernel
theorem dX13_layGap_49 : decode cX13_layGap 49 = .ok (.aload_n 0, 1) := by decide +kernel
theorem dX13_layGap_50 : decode cX13_layGap 50 = .ok (.aload_n 0, 1) := by decide +kernel
theorem dX13_layGap_51 : decode cX13_layGap 51 = .ok (.getfield 77, 3) := by decide +kernel
theorem dX13_layGap_54 : decode cX13_layGap 54 = .ok (.iload_n 2, 1) := by decide +kernel
theorem dX13_layGap_55 : decode cX13_layGap 55 = .ok (.iaload, 1) := by decide +kernel
theorem dX13_layGap_56 : decode cX13_layGap 56 = .ok (.aload_n 0, 1) := by decide +kernel
theorem dX13_layGap_57 : decode cX13_layGap 57 = .ok (.getfield 80, 3) := by decide +kernel
theorem dX13_layGap_60 : decode cX13_layGap 60 = .ok (.iload_n 2, 1) := by decide +kernel
theorem dX13_layGap_61 : decode cX13_layGap 61 = .ok (.iaload, 1) := by decide +kernel
theorem dX13_layGap_62 : decode cX13_layGap 62 = .ok (.iload_n 2, 1) := by decide +kernel
theorem dX13_layGap_63 : decode cX13_layGap 63 = .ok (.invokevirtual 269, 3) := by decide +kernel
theorem dX13_layGap_66 : decode cX13_layGap 66 = .ok (.iinc 2 1, 3) := by decide +kernel
theorem dX13_layGap_69 : decode cX13_layGap 69 = .ok (.goto (-67), 3) := by decide +kernel
theorem dX13_layGap_72 : decode cX13_layGap 72 = .ok (.return_, 1) := by decide +kernel
theorem dX13_turnAt_0 : decode cX13_turnAt 0 = .ok (.iconst (-1), 1) := by decide +kernel
theorem dX13_turnAt_1 : decode cX13_turnAt 1 = .ok (.istore 4, 2) := by decide +kernel
theorem dX13_turnAt_3 : decode cX13_turnAt 3 = .ok (.iconst 0, 1) := by decide +kernel
theorem dX13_turnAt_4 : decode cX13_turnAt 4 = .ok (.istore 5, 2) := by decide +kernel
theorem dX13_turnAt_6 : decode cX13_turnAt 6 = .ok (.iload 5, 2) := by decide +kernel
theorem dX13_turnAt_8 : decode cX13_turnAt 8 = .ok (.aload_n 0, 1) := by decide +kernel
theorem dX13_turnAt_9 : decode cX13_turnAt 9 = .ok (.getfield 153, 3) := by decide +kernel
theorem dX13_turnAt_12 : decode cX13_turnAt 12 = .ok (.if_icmp .ge 92, 3) := by decide +kernel
theorem dX13_turnAt_15 : decode cX13_turnAt 15 = .ok (.aload_n 0, 1) := by decide +kernel
theorem dX13_turnAt_16 : decode cX13_turnAt 16 = .ok (.getfield 117, 3) := by decide +kernel
theorem dX13_turnAt_19 : decode cX13_turnAt 19 = .ok (.iload 5, 2) := by decide +kernel
theorem dX13_turnAt_21 : decode cX13_turnAt 21 = .ok (.baload, 1) := by decide +kernel
theorem dX13_turnAt_22 : decode cX13_turnAt 22 = .ok (.ifCond .eq 76, 3) := by decide +kernel
theorem dX13_turnAt_25 : decode cX13_turnAt 25 = .ok (.aload_n 0, 1) := by decide +kernel
theorem dX13_turnAt_26 : decode cX13_turnAt 26 = .ok (.getfield 70, 3) := by decide +kernel
theorem dX13_turnAt_29 : decode cX13_turnAt 29 = .ok (.iload 5, 2) := by decide +kernel
theorem dX13_turnAt_31 : decode cX13_turnAt 31 = .ok (.iaload, 1) := by decide +kernel
theorem dX13_turnAt_32 : decode cX13_turnAt 32 = .ok (.iconst 3, 1) := by decide +kernel
theorem dX13_turnAt_33 : decode cX13_turnAt 33 = .ok (.if_icmp .ne 65, 3) := by decide +kernel
theorem dX13_turnAt_36 : decode cX13_turnAt 36 = .ok (.aload_n 0, 1) := by decide +kernel
theorem dX13_turnAt_37 : decode cX13_turnAt 37 = .ok (.getfield 77, 3) := by decide +kernel
theorem dX13_turnAt_40 : decode cX13_turnAt 40 = .ok (.iload 5, 2) := by decide +kernel
theorem dX13_turnAt_42 : decode cX13_turnAt 42 = .ok (.iaload, 1) := by decide +kernel
theorem dX13_turnAt_43 : decode cX13_turnAt 43 = .ok (.iload_n 1, 1) := by decide +kernel
theorem dX13_turnAt_44 : decode cX13_turnAt 44 = .ok (.if_icmp .ne 54, 3) := by decide +kernel
theorem dX13_turnAt_47 : decode cX13_turnAt 47 = .ok (.aload_n 0, 1) := by decide +kernel
theorem dX13_turnAt_48 : decode cX13_turnAt 48 = .ok (.getfield 83, 3) := by decide +kernel
theorem dX13_turnAt_51 : decode cX13_turnAt 51 = .ok (.iload 5, 2) := by decide +kernel
theorem dX13_turnAt_53 : decode cX13_turnAt 53 = .ok (.iaload, 1) := by decide +kernel
theorem dX13_turnAt_54 : decode cX13_turnAt 54 = .ok (.iload_n 2, 1) := by decide +kernel
theorem dX13_turnAt_55 : decode cX13_turnAt 55 = .ok (.if_icmp .gt 43, 3) := by decide +kernel
theorem dX13_turnAt_58 : decode cX13_turnAt 58 = .ok (.aload_n 0, 1) := by decide +kernel
theorem dX13_turnAt_59 : decode cX13_turnAt 59 = .ok (.iload 5, 2) := by decide +kernel
theorem dX13_turnAt_61 : decode cX13_turnAt 61 = .ok (.invokevirtual 273, 3) := by decide +kernel
theorem dX13_turnAt_64 : decode cX13_turnAt 64 = .ok (.iload_n 3, 1) := by decide +kernel
theorem dX13_turnAt_65 : decode cX13_turnAt 65 = .ok (.if_icmp .eq 6, 3) := by decide +kernel
theorem dX13_turnAt_68 : decode cX13_turnAt 68 = .ok (.goto 30, 3) := by decide +kernel
theorem dX13_turnAt_71 : decode cX13_turnAt 71 = .ok (.iload 4, 2) := by decide +kernel
theorem dX13_turnAt_73 : decode cX13_turnAt 73 = .ok (.iconst (-1), 1) := by decide +kernel
theorem dX13_turnAt_74 : decode cX13_turnAt 74 = .ok (.if_icmp .eq 20, 3) := by decide +kernel
theorem dX13_turnAt_77 : decode cX13_turnAt 77 = .ok (.aload_n 0, 1) := by decide +kernel
theorem dX13_turnAt_78 : decode cX13_turnAt 78 = .ok (.getfield 83, 3) := by decide +kernel
theorem dX13_turnAt_81 : decode cX13_turnAt 81 = .ok (.iload 5, 2) := by decide +kernel
theorem dX13_turnAt_83 : decode cX13_turnAt 83 = .ok (.iaload, 1) := by decide +kernel
theorem dX13_turnAt_84 : decode cX13_turnAt 84 = .ok (.aload_n 0, 1) := by decide +kernel
theorem dX13_turnAt_85 : decode cX13_turnAt 85 = .ok (.getfield 83, 3) := by decide +kernel
theorem dX13_turnAt_88 : decode cX13_turnAt 88 = .ok (.iload 4, 2) := by decide +kernel
theorem dX13_turnAt_90 : decode cX13_turnAt 90 = .ok (.iaload, 1) := by decide +kernel
theorem dX13_turnAt_91 : decode cX13_turnAt 91 = .ok (.if_icmp .le 7, 3) := by decide +kernel
theorem dX13_turnAt_94 : decode cX13_turnAt 94 = .ok (.iload 5, 2) := by decide +kernel
theorem dX13_turnAt_96 : decode cX13_turnAt 96 = .ok (.istore 4, 2) := by decide +kernel
theorem dX13_turnAt_98 : decode cX13_turnAt 98 = .ok (.iinc 5 1, 3) := by decide +kernel
theorem dX13_turnAt_101 : decode cX13_turnAt 101 = .ok (.goto (-95), 3) := by decide +kernel
theorem dX13_turnAt_104 : decode cX13_turnAt 104 = .ok (.iload 4, 2) := by decide +kernel
theorem dX13_turnAt_106 : decode cX13_turnAt 106 = .ok (.ireturn, 1) := by decide +kernel
theorem dX13_layRow_0 : decode cX13_layRow 0 = .ok (.iload_n 1, 1) := by decide +kernel
theorem dX13_layRow_1 : decode cX13_layRow 1 = .ok (.istore 4, 2) := by decide +kernel
theorem dX13_layRow_3 : decode cX13_layRow 3 = .ok (.iload 4, 2) := by decide +kernel
theorem dX13_layRow_5 : decode cX13_layRow 5 = .ok (.iload_n 2, 1) := by decide +kernel
theorem dX13_layRow_6 : decode cX13_layRow 6 = .ok (.if_icmp .gt 109, 3) := by decide +kernel
theorem dX13_layRow_9 : decode cX13_layRow 9 = .ok (.iload 4, 2) := by decide +kernel
theorem dX13_layRow_11 : decode cX13_layRow 11 = .ok (.iload_n 1, 1) := by decide +kernel
theorem dX13_layRow_12 : decode cX13_layRow 12 = .ok (.if_icmp .le 20, 3) := by decide +kernel
theorem dX13_layRow_15 : decode cX13_layRow 15 = .ok (.aload_n 0, 1) := by decide +kernel
theorem dX13_layRow_16 : decode cX13_layRow 16 = .ok (.iload 4, 2) := by decide +kernel
theorem dX13_layRow_18 : decode cX13_layRow 18 = .ok (.iconst 1, 1) := by decide +kernel
theorem dX13_layRow_19 : decode cX13_layRow 19 = .ok (.invokevirtual 276, 3) := by decide +kernel
theorem dX13_layRow_22 : decode cX13_layRow 22 = .ok (.iload_n 3, 1) := by decide +kernel
theorem dX13_layRow_23 : decode cX13_layRow 23 = .ok (.if_icmp .ne 9, 3) := by decide +kernel
theorem dX13_layRow_26 : decode cX13_layRow 26 = .ok (.aload_n 0, 1) := by decide +kernel
theorem dX13_layRow_27 : decode cX13_layRow 27 = .ok (.iload 4, 2) := by decide +kernel
theorem dX13_layRow_29 : decode cX13_layRow 29 = .ok (.invokevirtual 280, 3) := by decide +kernel
theorem dX13_layRow_32 : decode cX13_layRow 32 = .ok (.aload_n 0, 1) := by decide +kernel
theorem dX13_layRow_33 : decode cX13_layRow 33 = .ok (.iload 4, 2) := by decide +kernel
theorem dX13_layRow_35 : decode cX13_layRow 35 = .ok (.iload_n 2, 1) := by decide +kernel
theorem dX13_layRow_36 : decode cX13_layRow 36 = .ok (.iload_n 3, 1) := by decide +kernel
theorem dX13_layRow_37 : decode cX13_layRow 37 = .ok (.invokevirtual 283, 3) := by decide +kernel
theorem dX13_layRow_40 : decode cX13_layRow 40 = .ok (.istore 5, 2) := by decide +kernel
theorem dX13_layRow_42 : decode cX13_layRow 42 = .ok (.iload 5, 2) := by decide +kernel
theorem dX13_layRow_44 : decode cX13_layRow 44 = .ok (.iconst (-1), 1) := by decide +kernel
theorem dX13_layRow_45 : decode cX13_layRow 45 = .ok (.if_icmp .ne 16, 3) := by decide +kernel
theorem dX13_layRow_48 : decode cX13_layRow 48 = .ok (.aload_n 0, 1) := by decide +kernel
theorem dX13_layRow_49 : decode cX13_layRow 49 = .ok (.iload 4, 2) := by decide +kernel
theorem dX13_layRow_51 : decode cX13_layRow 51 = .ok (.iload_n 3, 1) := by decide +kernel
theorem dX13_layRow_52 : decode cX13_layRow 52 = .ok (.invokevirtual 287, 3) := by decide +kernel
theorem dX13_layRow_55 : decode cX13_layRow 55 = .ok (.iinc 4 1, 3) := by decide +kernel
theorem dX13_layRow_58 : decode cX13_layRow 58 = .ok (.goto (-55), 3) := by decide +kernel
theorem dX13_layRow_61 : decode cX13_layRow 61 = .ok (.aload_n 0, 1) := by decide +kernel
theorem dX13_layRow_62 : decode cX13_layRow 62 = .ok (.aload_n 0, 1) := by decide +kernel
theorem dX13_layRow_63 : decode cX13_layRow 63 = .ok (.getfield 80, 3) := by decide +kernel
theorem dX13_layRow_66 : decode cX13_layRow 66 = .ok (.iload 5, 2) := by decide +kernel
theorem dX13_layRow_68 : decode cX13_layRow 68 = .ok (.iaload, 1) := by decide +kernel
theorem dX13_layRow_69 : decode cX13_layRow 69 = .ok (.aload_n 0, 1) := by decide +kernel
theorem dX13_layRow_70 : decode cX13_layRow 70 = .ok (.getfield 83, 3) := by decide +kernel
theorem dX13_layRow_73 : decode cX13_layRow 73 = .ok (.iload 5, 2) := by decide +kernel
theorem dX13_layRow_75 : decode cX13_layRow 75 = .ok (.iaload, 1) := by decide +kernel
theorem dX13_layRow_76 : decode cX13_layRow 76 = .ok (.iload_n 3, 1) := by decide +kernel
theorem dX13_layRow_77 : decode cX13_layRow 77 = .ok (.invokevirtual 269, 3) := by decide +kernel
theorem dX13_layRow_80 : decode cX13_layRow 80 = .ok (.aload_n 0, 1) := by decide +kernel
theorem dX13_layRow_81 : decode cX13_layRow 81 = .ok (.aload_n 0, 1) := by decide +kernel
theorem dX13_layRow_82 : decode cX13_layRow 82 = .ok (.getfield 77, 3) := by decide +kernel
theorem dX13_layRow_85 : decode cX13_layRow 85 = .ok (.iload 5, 2) := by decide +kernel
theorem dX13_layRow_87 : decode cX13_layRow 87 = .ok (.iaload, 1) := by decide +kernel
theorem dX13_layRow_88 : decode cX13_layRow 88 = .ok (.aload_n 0, 1) := by decide +kernel
theorem dX13_layRow_89 : decode cX13_layRow 89 = .ok (.getfield 80, 3) := by decide +kernel
theorem dX13_layRow_92 : decode cX13_layRow 92 = .ok (.iload 5, 2) := by decide +kernel
theorem dX13_layRow_94 : decode cX13_layRow 94 = .ok (.iaload, 1) := by decide +kernel
theorem dX13_layRow_95 : decode cX13_layRow 95 = .ok (.iconst 1, 1) := by decide +kernel
theorem dX13_layRow_96 : decode cX13_layRow 96 = .ok (.isub, 1) := by decide +kernel
theorem dX13_layRow_97 : decode cX13_layRow 97 = .ok (.iload_n 3, 1) := by decide +kernel
theorem dX13_layRow_98 : decode cX13_layRow 98 = .ok (.invokevirtual 269, 3) := by decide +kernel
theorem dX13_layRow_101 : decode cX13_layRow 101 = .ok (.aload_n 0, 1) := by decide +kernel
theorem dX13_layRow_102 : decode cX13_layRow 102 = .ok (.getfield 83, 3) := by decide +kernel
theorem dX13_layRow_105 : decode cX13_layRow 105 = .ok (.iload 5, 2) := by decide +kernel
theorem dX13_layRow_107 : decode cX13_layRow 107 = .ok (.iaload, 1) := by decide +kernel
theorem dX13_layRow_108 : decode cX13_layRow 108 = .ok (.iconst 1, 1) := by decide +kernel
theorem dX13_layRow_109 : decode cX13_layRow 109 = .ok (.iadd, 1) := by decide +kernel
theorem dX13_layRow_110 : decode cX13_layRow 110 = .ok (.istore 4, 2) := by decide +kernel
theorem dX13_layRow_112 : decode cX13_layRow 112 = .ok (.goto (-109), 3) := by decide +kernel
theorem dX13_layRow_115 : decode cX13_layRow 115 = .ok (.return_, 1) := by decide +kernel
theorem dX13_layWord_0 : decode cX13_layWord 0 = .ok (.aload_n 0, 1) := by decide +kernel
theorem dX13_layWord_1 : decode cX13_layWord 1 = .ok (.iload_n 1, 1) := by decide +kernel
theorem dX13_layWord_2 : decode cX13_layWord 2 = .ok (.iconst 0, 1) := by decide +kernel
theorem dX13_layWord_3 : decode cX13_layWord 3 = .ok (.invokevirtual 276, 3) := by decide +kernel
theorem dX13_layWord_6 : decode cX13_layWord 6 = .ok (.iload_n 2, 1) := by decide +kernel
theorem dX13_layWord_7 : decode cX13_layWord 7 = .ok (.if_icmp .eq 4, 3) := by decide +kernel
theorem dX13_layWord_10 : decode cX13_layWord 10 = .ok (.return_, 1) := by decide +kernel
theorem dX13_layWord_11 : decode cX13_layWord 11 = .ok (.iconst 0, 1) := by decide +kernel
theorem dX13_layWord_12 : decode cX13_layWord 12 = .ok (.istore_n 3, 1) := by decide +kernel
theorem dX13_layWord_13 : decode cX13_layWord 13 = .ok (.iload_n 3, 1) := by decide +kernel
theorem dX13_layWord_14 : decode cX13_layWord 14 = .ok (.aload_n 0, 1) := by decide +kernel
theorem dX13_layWord_15 : decode cX13_layWord 15 = .ok (.getfield 153, 3) := by decide +kernel
theorem dX13_layWord_18 : decode cX13_layWord 18 = .ok (.if_icmp .ge 88, 3) := by decide +kernel
theorem dX13_layWord_21 : decode cX13_layWord 21 = .ok (.aload_n 0, 1) := by decide +kernel
theorem dX13_layWord_22 : decode cX13_layWord 22 = .ok (.getfield 117, 3) := by decide +kernel
theorem dX13_layWord_25 : decode cX13_layWord 25 = .ok (.iload_n 3, 1) := by decide +kernel
theorem dX13_layWord_26 : decode cX13_layWord 26 = .ok (.baload, 1) := by decide +kernel
theorem dX13_layWord_27 : decode cX13_layWord 27 = .ok (.ifCond .eq 73, 3) := by decide +kernel
theorem dX13_layWord_30 : decode cX13_layWord 30 = .ok (.aload_n 0, 1) := by decide +kernel
theorem dX13_layWord_31 : decode cX13_layWord 31 = .ok (.getfield 70, 3) := by decide +kernel
theorem dX13_layWord_34 : decode cX13_layWord 34 = .ok (.iload_n 3, 1) := by decide +kernel
theorem dX13_layWord_35 : decode cX13_layWord 35 = .ok (.iaload, 1) := by decide +kernel
theorem dX13_layWord_36 : decode cX13_layWord 36 = .ok (.ifCond .eq 13, 3) := by decide +kernel
theorem dX13_layWord_39 : decode cX13_layWord 39 = .ok (.aload_n 0, 1) := by decide +kernel
theorem dX13_layWord_40 : decode cX13_layWord 40 = .ok (.getfield 70, 3) := by decide +kernel
theorem dX13_layWord_43 : decode cX13_layWord 43 = .ok (.iload_n 3, 1) := by decide +kernel
theorem dX13_layWord_44 : decode cX13_layWord 44 = .ok (.iaload, 1) := by decide +kernel
theorem dX13_layWord_45 : decode cX13_layWord 45 = .ok (.iconst 2, 1) := by decide +kernel
theorem dX13_layWord_46 : decode cX13_layWord 46 = .ok (.if_icmp .ne 54, 3) := by decide +kernel
theorem dX13_layWord_49 : decode cX13_layWord 49 = .ok (.iload_n 1, 1) := by decide +kernel
theorem dX13_layWord_50 : decode cX13_layWord 50 = .ok (.i2l, 1) := by decide +kernel
theorem dX13_layWord_51 : decode cX13_layWord 51 = .ok (.aload_n 0, 1) := by decide +kernel
theorem dX13_layWord_52 : decode cX13_layWord 52 = .ok (.getfield 77, 3) := by decide +kernel
theorem dX13_layWord_55 : decode cX13_layWord 55 = .ok (.iload_n 3, 1) := by decide +kernel
theorem dX13_layWord_56 : decode cX13_layWord 56 = .ok (.iaload, 1) := by decide +kernel
theorem dX13_layWord_57 : decode cX13_layWord 57 = .ok (.i2l, 1) := by decide +kernel
theorem dX13_layWord_58 : decode cX13_layWord 58 = .ok (.aload_n 0, 1) := by decide +kernel
theorem dX13_layWord_59 : decode cX13_layWord 59 = .ok (.getfield 80, 3) := by decide +kernel
theorem dX13_layWord_62 : decode cX13_layWord 62 = .ok (.iload_n 3, 1) := by decide +kernel
theorem dX13_layWord_63 : decode cX13_layWord 63 = .ok (.iaload, 1) := by decide +kernel
theorem dX13_layWord_64 : decode cX13_layWord 64 = .ok (.i2l, 1) := by decide +kernel
theorem dX13_layWord_65 : decode cX13_layWord 65 = .ok (.invokestatic 140, 3) := by decide +kernel
theorem dX13_layWord_68 : decode cX13_layWord 68 = .ok (.ifCond .ne 6, 3) := by decide +kernel
theorem dX13_layWord_71 : decode cX13_layWord 71 = .ok (.goto 29, 3) := by decide +kernel
theorem dX13_layWord_74 : decode cX13_layWord 74 = .ok (.aload_n 0, 1) := by decide +kernel
theorem dX13_layWord_75 : decode cX13_layWord 75 = .ok (.getfield 70, 3) := by decide +kernel
theorem dX13_layWord_78 : decode cX13_layWord 78 = .ok (.iload_n 3, 1) := by decide +kernel
theorem dX13_layWord_79 : decode cX13_layWord 79 = .ok (.iaload, 1) := by decide +kernel
theorem dX13_layWord_80 : decode cX13_layWord 80 = .ok (.iconst 2, 1) := by decide +kernel
theorem dX13_layWord_81 : decode cX13_layWord 81 = .ok (.if_icmp .ne 18, 3) := by decide +kernel
theorem dX13_layWord_84 : decode cX13_layWord 84 = .ok (.iload_n 1, 1) := by decide +kernel
theorem dX13_layWord_85 : decode cX13_layWord 85 = .ok (.aload_n 0, 1) := by decide +kernel
theorem dX13_layWord_86 : decode cX13_layWord 86 = .ok (.getfield 77, 3) := by decide +kernel
theorem dX13_layWord_89 : decode cX13_layWord 89 = .ok (.iload_n 3, 1) := by decide +kernel
theorem dX13_layWord_90 : decode cX13_layWord 90 = .ok (.iaload, 1) := by decide +kernel
theorem dX13_layWord_91 : decode cX13_layWord 91 = .ok (.if_icmp .ne 8, 3) := by decide +kernel
theorem dX13_layWord_94 : decode cX13_layWord 94 = .ok (.aload_n 0, 1) := by decide +kernel
theorem dX13_layWord_95 : decode cX13_layWord 95 = .ok (.iload_n 3, 1) := by decide +kernel
theorem dX13_layWord_96 : decode cX13_layWord 96 = .ok (.invokevirtual 266, 3) := by decide +kernel
theorem dX13_layWord_99 : decode cX13_layWord 99 = .ok (.return_, 1) := by decide +kernel
theorem dX13_layWord_100 : decode cX13_layWord 100 = .ok (.iinc 3 1, 3) := by decide +kernel
theorem dX13_layWord_103 : decode cX13_layWord 103 = .ok (.goto (-90), 3) := by decide +kernel
theorem dX13_layWord_106 : decode cX13_layWord 106 = .ok (.aload_n 0, 1) := by decide +kernel
theorem dX13_layWord_107 : decode cX13_layWord 107 = .ok (.aload_n 0, 1) := by decide +kernel
theorem dX13_layWord_108 : decode cX13_layWord 108 = .ok (.getfield 58, 3) := by decide +kernel
theorem dX13_layWord_111 : decode cX13_layWord 111 = .ok (.iload_n 1, 1) := by decide +kernel
theorem dX13_layWord_112 : decode cX13_layWord 112 = .ok (.laload, 1) := by decide +kernel
theorem dX13_layWord_113 : decode cX13_layWord 113 = .ok (.invokevirtual 263, 3) := by decide +kernel
theorem dX13_layWord_116 : decode cX13_layWord 116 = .ok (.return_, 1) := by decide +kernel
theorem dX13_make_0 : decode cX13_make 0 = .ok (.aload_n 0, 1) := by decide +kernel
theorem dX13_make_1 : decode cX13_make 1 = .ok (.iload_n 1, 1) := by decide +kernel
theorem dX13_make_2 : decode cX13_make 2 = .ok (.invokevirtual 291, 3) := by decide +kernel
theorem dX13_make_5 : decode cX13_make 5 = .ok (.aload_n 0, 1) := by decide +kernel
theorem dX13_make_6 : decode cX13_make 6 = .ok (.iconst 0, 1) := by decide +kernel
theorem dX13_make_7 : decode cX13_make 7 = .ok (.putfield 260, 3) := by decide +kernel
theorem dX13_make_10 : decode cX13_make 10 = .ok (.aload_n 0, 1) := by decide +kernel
theorem dX13_make_11 : decode cX13_make 11 = .ok (.getfield 150, 3) := by decide +kernel
theorem dX13_make_14 : decode cX13_make 14 = .ok (.ifCond .ne 9, 3) := by decide +kernel
theorem dX13_make_17 : decode cX13_make 17 = .ok (.aload_n 0, 1) := by decide +kernel
theorem dX13_make_18 : decode cX13_make 18 = .ok (.iconst 0, 1) := by decide +kernel
theorem dX13_make_19 : decode cX13_make 19 = .ok (.invokevirtual 280, 3) := by decide +kernel
theorem dX13_make_22 : decode cX13_make 22 = .ok (.return_, 1) := by decide +kernel
theorem dX13_make_23 : decode cX13_make 23 = .ok (.aload_n 0, 1) := by decide +kernel
theorem dX13_make_24 : decode cX13_make 24 = .ok (.iconst 0, 1) := by decide +kernel
theorem dX13_make_25 : decode cX13_make 25 = .ok (.invokevirtual 280, 3) := by decide +kernel
theorem dX13_make_28 : decode cX13_make 28 = .ok (.aload_n 0, 1) := by decide +kernel
theorem dX13_make_29 : decode cX13_make 29 = .ok (.iconst 0, 1) := by decide +kernel
theorem dX13_make_30 : decode cX13_make 30 = .ok (.aload_n 0, 1) := by decide +kernel
theorem dX13_make_31 : decode cX13_make 31 = .ok (.getfield 150, 3) := by decide +kernel
theorem dX13_make_34 : decode cX13_make 34 = .ok (.iconst 1, 1) := by decide +kernel
theorem dX13_make_35 : decode cX13_make 35 = .ok (.isub, 1) := by decide +kernel
theorem dX13_make_36 : decode cX13_make 36 = .ok (.iconst (-1), 1) := by decide +kernel
theorem dX13_make_37 : decode cX13_make 37 = .ok (.invokevirtual 269, 3) := by decide +kernel
theorem dX13_make_40 : decode cX13_make 40 = .ok (.aload_n 0, 1) := by decide +kernel
theorem dX13_make_41 : decode cX13_make 41 = .ok (.aload_n 0, 1) := by decide +kernel
theorem dX13_make_42 : decode cX13_make 42 = .ok (.getfield 150, 3) := by decide +kernel
theorem dX13_make_45 : decode cX13_make 45 = .ok (.invokevirtual 280, 3) := by decide +kernel
theorem dX13_make_48 : decode cX13_make 48 = .ok (.return_, 1) := by decide +kernel
theorem dX13_isText_0 : decode cX13_isText 0 = .ok (.iload_n 0, 1) := by decide +kernel
theorem dX13_isText_1 : decode cX13_isText 1 = .ok (.i2l, 1) := by decide +kernel
theorem dX13_isText_2 : decode cX13_isText 2 = .ok (.lconst 0, 1) := by decide +kernel
theorem dX13_isText_3 : decode cX13_isText 3 = .ok (.ldc2_w 258, 3) := by decide +kernel
theorem dX13_isText_6 : decode cX13_isText 6 = .ok (.invokestatic 140, 3) := by decide +kernel
theorem dX13_isText_9 : decode cX13_isText 9 = .ok (.ireturn, 1) := by decide +kernel
theorem dX13_wordsOf_0 : decode cX13_wordsOf 0 = .ok (.iload_n 1, 1) := by decide +kernel
theorem dX13_wordsOf_1 : decode cX13_wordsOf 1 = .ok (.iconst 2, 1) := by decide +kernel
theorem dX13_wordsOf_2 : decode cX13_wordsOf 2 = .ok (.if_icmp .ne 8, 3) := by decide +kernel
theorem dX13_wordsOf_5 : decode cX13_wordsOf 5 = .ok (.aload_n 0, 1) := by decide +kernel
theorem dX13_wordsOf_6 : decode cX13_wordsOf 6 = .ok (.iconst 0, 1) := by decide +kernel
theorem dX13_wordsOf_7 : decode cX13_wordsOf 7 = .ok (.invokevirtual 294, 3) := by decide +kernel
theorem dX13_wordsOf_10 : decode cX13_wordsOf 10 = .ok (.iload_n 1, 1) := by decide +kernel
theorem dX13_wordsOf_11 : decode cX13_wordsOf 11 = .ok (.ifCond .ne 10, 3) := by decide +kernel
theorem dX13_wordsOf_14 : decode cX13_wordsOf 14 = .ok (.aload_n 0, 1) := by decide +kernel
theorem dX13_wordsOf_15 : decode cX13_wordsOf 15 = .ok (.getfield 150, 3) := by decide +kernel
theorem dX13_wordsOf_18 : decode cX13_wordsOf 18 = .ok (.goto 19, 3) := by decide +kernel
theorem dX13_wordsOf_21 : decode cX13_wordsOf 21 = .ok (.iload_n 1, 1) := by decide +kernel
theorem dX13_wordsOf_22 : decode cX13_wordsOf 22 = .ok (.iconst 1, 1) := by decide +kernel
theorem dX13_wordsOf_23 : decode cX13_wordsOf 23 = .ok (.if_icmp .ne 10, 3) := by decide +kernel
theorem dX13_wordsOf_26 : decode cX13_wordsOf 26 = .ok (.aload_n 0, 1) := by decide +kernel
theorem dX13_wordsOf_27 : decode cX13_wordsOf 27 = .ok (.getfield 156, 3) := by decide +kernel
theorem dX13_wordsOf_30 : decode cX13_wordsOf 30 = .ok (.goto 7, 3) := by decide +kernel
theorem dX13_wordsOf_33 : decode cX13_wordsOf 33 = .ok (.aload_n 0, 1) := by decide +kernel
theorem dX13_wordsOf_34 : decode cX13_wordsOf 34 = .ok (.getfield 260, 3) := by decide +kernel
theorem dX13_wordsOf_37 : decode cX13_wordsOf 37 = .ok (.ireturn, 1) := by decide +kernel
theorem dX13_wordAt_0 : decode cX13_wordAt 0 = .ok (.iload_n 1, 1) := by decide +kernel
theorem dX13_wordAt_1 : decode cX13_wordAt 1 = .ok (.ifCond .ne 12, 3) := by decide +kernel
theorem dX13_wordAt_4 : decode cX13_wordAt 4 = .ok (.aload_n 0, 1) := by decide +kernel
theorem dX13_wordAt_5 : decode cX13_wordAt 5 = .ok (.getfield 58, 3) := by decide +kernel
theorem dX13_wordAt_8 : decode cX13_wordAt 8 = .ok (.iload_n 2, 1) := by decide +kernel
theorem dX13_wordAt_9 : decode cX13_wordAt 9 = .ok (.laload, 1) := by decide +kernel
theorem dX13_wordAt_10 : decode cX13_wordAt 10 = .ok (.goto 23, 3) := by decide +kernel
theorem dX13_wordAt_13 : decode cX13_wordAt 13 = .ok (.iload_n 1, 1) := by decide +kernel
theorem dX13_wordAt_14 : decode cX13_wordAt 14 = .ok (.iconst 1, 1) := by decide +kernel
theorem dX13_wordAt_15 : decode cX13_wordAt 15 = .ok (.if_icmp .ne 12, 3) := by decide +kernel
theorem dX13_wordAt_18 : decode cX13_wordAt 18 = .ok (.aload_n 0, 1) := by decide +kernel
theorem dX13_wordAt_19 : decode cX13_wordAt 19 = .ok (.getfield 61, 3) := by decide +kernel
theorem dX13_wordAt_22 : decode cX13_wordAt 22 = .ok (.iload_n 2, 1) := by decide +kernel
theorem dX13_wordAt_23 : decode cX13_wordAt 23 = .ok (.laload, 1) := by decide +kernel
theorem dX13_wordAt_24 : decode cX13_wordAt 24 = .ok (.goto 9, 3) := by decide +kernel
theorem dX13_wordAt_27 : decode cX13_wordAt 27 = .ok (.aload_n 0, 1) := by decide +kernel
theorem dX13_wordAt_28 : decode cX13_wordAt 28 = .ok (.getfield 64, 3) := by decide +kernel
theorem dX13_wordAt_31 : decode cX13_wordAt 31 = .ok (.iload_n 2, 1) := by decide +kernel
theorem dX13_wordAt_32 : decode cX13_wordAt 32 = .ok (.laload, 1) := by decide +kernel
theorem dX13_wordAt_33 : decode cX13_wordAt 33 = .ok (.lreturn, 1) := by decide +kernel
theorem dX13_word_0 : decode cX13_word 0 = .ok (.iload_n 1, 1) := by decide +kernel
theorem dX13_word_1 : decode cX13_word 1 = .ok (.invokestatic 297, 3) := by decide +kernel
theorem dX13_word_4 : decode cX13_word 4 = .ok (.ifCond .eq 29, 3) := by decide +kernel
theorem dX13_word_7 : decode cX13_word 7 = .ok (.iload_n 2, 1) := by decide +kernel
theorem dX13_word_8 : decode cX13_word 8 = .ok (.i2l, 1) := by decide +kernel
theorem dX13_word_9 : decode cX13_word 9 = .ok (.lconst 0, 1) := by decide +kernel
theorem dX13_word_10 : decode cX13_word 10 = .ok (.aload_n 0, 1) := by decide +kernel
theorem dX13_word_11 : decode cX13_word 11 = .ok (.iload_n 1, 1) := by decide +kernel
theorem dX13_word_12 : decode cX13_word 12 = .ok (.invokevirtual 300, 3) := by decide +kernel
theorem dX13_word_15 : decode cX13_word 15 = .ok (.i2l, 1) := by decide +kernel
theorem dX13_word_16 : decode cX13_word 16 = .ok (.lconst 1, 1) := by decide +kernel
theorem dX13_word_17 : decode cX13_word 17 = .ok (.lsub, 1) := by decide +kernel
theorem dX13_word_18 : decode cX13_word 18 = .ok (.invokestatic 140, 3) := by decide +kernel
theorem dX13_word_21 : decode cX13_word 21 = .ok (.ifCond .eq 12, 3) := by decide +kernel
theorem dX13_word_24 : decode cX13_word 24 = .ok (.aload_n 0, 1) := by decide +kernel
theorem dX13_word_25 : decode cX13_word 25 = .ok (.iload_n 1, 1) := by decide +kernel
theorem dX13_word_26 : decode cX13_word 26 = .ok (.iload_n 2, 1) := by decide +kernel
theorem dX13_word_27 : decode cX13_word 27 = .ok (.invokevirtual 303, 3) := by decide +kernel
theorem dX13_word_30 : decode cX13_word 30 = .ok (.goto 4, 3) := by decide +kernel
theorem dX13_word_33 : decode cX13_word 33 = .ok (.lconst 0, 1) := by decide +kernel
theorem dX13_word_34 : decode cX13_word 34 = .ok (.lreturn, 1) := by decide +kernel
theorem dX13_at_0 : decode cX13_at 0 = .ok (.sipush 321, 3) := by decide +kernel
theorem dX13_at_3 : decode cX13_at 3 = .ok (.iload_n 0, 1) := by decide +kernel
theorem dX13_at_4 : decode cX13_at 4 = .ok (.imul, 1) := by decide +kernel
theorem dX13_at_5 : decode cX13_at 5 = .ok (.iload_n 1, 1) := by decide +kernel
theorem dX13_at_6 : decode cX13_at 6 = .ok (.iadd, 1) := by decide +kernel
theorem dX13_at_7 : decode cX13_at 7 = .ok (.ireturn, 1) := by decide +kernel
theorem dX13_apart_0 : decode cX13_apart 0 = .ok (.iload_n 2, 1) := by decide +kernel
theorem dX13_apart_1 : decode cX13_apart 1 = .ok (.istore 5, 2) := by decide +kernel
theorem dX13_apart_3 : decode cX13_apart 3 = .ok (.iload 5, 2) := by decide +kernel
theorem dX13_apart_5 : decode cX13_apart 5 = .ok (.ifCond .lt 161, 3) := by decide +kernel
theorem dX13_apart_8 : decode cX13_apart 8 = .ok (.iload 4, 2) := by decide +kernel
theorem dX13_apart_10 : decode cX13_apart 10 = .ok (.istore 6, 2) := by decide +kernel
theorem dX13_apart_12 : decode cX13_apart 12 = .ok (.iload 6, 2) := by decide +kernel
theorem dX13_apart_14 : decode cX13_apart 14 = .ok (.ifCond .lt 146, 3) := by decide +kernel
theorem dX13_apart_17 : decode cX13_apart 17 = .ok (.iload 5, 2) := by decide +kernel
theorem dX13_apart_19 : decode cX13_apart 19 = .ok (.iload_n 2, 1) := by decide +kernel
theorem dX13_apart_20 : decode cX13_apart 20 = .ok (.if_icmp .ne 11, 3) := by decide +kernel
theorem dX13_apart_23 : decode cX13_apart 23 = .ok (.iload 4, 2) := by decide +kernel
theorem dX13_apart_25 : decode cX13_apart 25 = .ok (.iload 6, 2) := by decide +kernel
theorem dX13_apart_27 : decode cX13_apart 27 = .ok (.isub, 1) := by decide +kernel
theorem dX13_apart_28 : decode cX13_apart 28 = .ok (.goto 57, 3) := by decide +kernel
theorem dX13_apart_31 : decode cX13_apart 31 = .ok (.iload 6, 2) := by decide +kernel
theorem dX13_apart_33 : decode cX13_apart 33 = .ok (.iload 4, 2) := by decide +kernel
theorem dX13_apart_35 : decode cX13_apart 35 = .ok (.if_icmp .ne 10, 3) := by decide +kernel
theorem dX13_apart_38 : decode cX13_apart 38 = .ok (.iload_n 2, 1) := by decide +kernel
theorem dX13_apart_39 : decode cX13_apart 39 = .ok (.iload 5, 2) := by decide +kernel
theorem dX13_apart_41 : decode cX13_apart 41 = .ok (.isub, 1) := by decide +kernel
theorem dX13_apart_42 : decode cX13_apart 42 = .ok (.goto 43, 3) := by decide +kernel
theorem dX13_apart_45 : decode cX13_apart 45 = .ok (.aload_n 0, 1) := by decide +kernel
theorem dX13_apart_46 : decode cX13_apart 46 = .ok (.getfield 121, 3) := by decide +kernel
theorem dX13_apart_49 : decode cX13_apart 49 = .ok (.iload 5, 2) := by decide +kernel
theorem dX13_apart_51 : decode cX13_apart 51 = .ok (.iconst 1, 1) := by decide +kernel
theorem dX13_apart_52 : decode cX13_apart 52 = .ok (.iadd, 1) := by decide +kernel
theorem dX13_apart_53 : decode cX13_apart 53 = .ok (.iload 6, 2) := by decide +kernel
theorem dX13_apart_55 : decode cX13_apart 55 = .ok (.iconst 1, 1) := by decide +kernel
theorem dX13_apart_56 : decode cX13_apart 56 = .ok (.iadd, 1) := by decide +kernel
theorem dX13_apart_57 : decode cX13_apart 57 = .ok (.invokestatic 307, 3) := by decide +kernel
theorem dX13_apart_60 : decode cX13_apart 60 = .ok (.iaload, 1) := by decide +kernel
theorem dX13_apart_61 : decode cX13_apart 61 = .ok (.aload_n 0, 1) := by decide +kernel
theorem dX13_apart_62 : decode cX13_apart 62 = .ok (.iload_n 1, 1) := by decide +kernel
theorem dX13_apart_63 : decode cX13_apart 63 = .ok (.iload 5, 2) := by decide +kernel
theorem dX13_apart_65 : decode cX13_apart 65 = .ok (.invokevirtual 303, 3) := by decide +kernel
theorem dX13_apart_68 : decode cX13_apart 68 = .ok (.aload_n 0, 1) := by decide +kernel
theorem dX13_apart_69 : decode cX13_apart 69 = .ok (.iload_n 3, 1) := by decide +kernel
theorem dX13_apart_70 : decode cX13_apart 70 = .ok (.iload 6, 2) := by decide +kernel
theorem dX13_apart_72 : decode cX13_apart 72 = .ok (.invokevirtual 303, 3) := by decide +kernel
theorem dX13_apart_75 : decode cX13_apart 75 = .ok (.lcmp, 1) := by decide +kernel
theorem dX13_apart_76 : decode cX13_apart 76 = .ok (.ifCond .ne 7, 3) := by decide +kernel
theorem dX13_apart_79 : decode cX13_apart 79 = .ok (.iconst 0, 1) := by decide +kernel
theorem dX13_apart_80 : decode cX13_apart 80 = .ok (.goto 4, 3) := by decide +kernel
theorem dX13_apart_83 : decode cX13_apart 83 = .ok (.iconst 1, 1) := by decide +kernel
theorem dX13_apart_84 : decode cX13_apart 84 = .ok (.iadd, 1) := by decide +kernel
theorem dX13_apart_85 : decode cX13_apart 85 = .ok (.istore 7, 2) := by decide +kernel
theorem dX13_apart_87 : decode cX13_apart 87 = .ok (.iload 5, 2) := by decide +kernel
theorem dX13_apart_89 : decode cX13_apart 89 = .ok (.iload_n 2, 1) := by decide +kernel
theorem dX13_apart_90 : decode cX13_apart 90 = .ok (.if_icmp .ge 50, 3) := by decide +kernel
theorem dX13_apart_93 : decode cX13_apart 93 = .ok (.iload 6, 2) := by decide +kernel
theorem dX13_apart_95 : decode cX13_apart 95 = .ok (.iload 4, 2) := by decide +kernel
theorem dX13_apart_97 : decode cX13_apart 97 = .ok (.if_icmp .ge 43, 3) := by decide +kernel
theorem dX13_apart_100 : decode cX13_apart 100 = .ok (.iload 7, 2) := by decide +kernel
theorem dX13_apart_102 : decode cX13_apart 102 = .ok (.iconst 1, 1) := by decide +kernel
theorem dX13_apart_103 : decode cX13_apart 103 = .ok (.aload_n 0, 1) := by decide +kernel
theorem dX13_apart_104 : decode cX13_apart 104 = .ok (.getfield 121, 3) := by decide +kernel
theorem dX13_apart_107 : decode cX13_apart 107 = .ok (.iload 5, 2) := by decide +kernel
theorem dX13_apart_109 : decode cX13_apart 109 = .ok (.iconst 1, 1) := by decide +kernel
theorem dX13_apart_110 : decode cX13_apart 110 = .ok (.iadd, 1) := by decide +kernel
theorem dX13_apart_111 : decode cX13_apart 111 = .ok (.iload 6, 2) := by decide +kernel
theorem dX13_apart_113 : decode cX13_apart 113 = .ok (.invokestatic 307, 3) := by decide +kernel
theorem dX13_apart_116 : decode cX13_apart 116 = .ok (.iaload, 1) := by decide +kernel
theorem dX13_apart_117 : decode cX13_apart 117 = .ok (.aload_n 0, 1) := by decide +kernel
theorem dX13_apart_118 : decode cX13_apart 118 = .ok (.getfield 121, 3) := by decide +kernel
theorem dX13_apart_121 : decode cX13_apart 121 = .ok (.iload 5, 2) := by decide +kernel
theorem dX13_apart_123 : decode cX13_apart 123 = .ok (.iload 6, 2) := by decide +kernel
theorem dX13_apart_125 : decode cX13_apart 125 = .ok (.iconst 1, 1) := by decide +kernel
theorem dX13_apart_126 : decode cX13_apart 126 = .ok (.iadd, 1) := by decide +kernel
theorem dX13_apart_127 : decode cX13_apart 127 = .ok (.invokestatic 307, 3) := by decide +kernel
theorem dX13_apart_130 : decode cX13_apart 130 = .ok (.iaload, 1) := by decide +kernel
theorem dX13_apart_131 : decode cX13_apart 131 = .ok (.invokestatic 310, 3) := by decide +kernel
theorem dX13_apart_134 : decode cX13_apart 134 = .ok (.iadd, 1) := by decide +kernel
theorem dX13_apart_135 : decode cX13_apart 135 = .ok (.invokestatic 310, 3) := by decide +kernel
theorem dX13_apart_138 : decode cX13_apart 138 = .ok (.istore 7, 2) := by decide +kernel
theorem dX13_apart_140 : decode cX13_apart 140 = .ok (.aload_n 0, 1) := by decide +kernel
theorem dX13_apart_141 : decode cX13_apart 141 = .ok (.getfield 121, 3) := by decide +kernel
theorem dX13_apart_144 : decode cX13_apart 144 = .ok (.iload 5, 2) := by decide +kernel
theorem dX13_apart_146 : decode cX13_apart 146 = .ok (.iload 6, 2) := by decide +kernel
theorem dX13_apart_148 : decode cX13_apart 148 = .ok (.invokestatic 307, 3) := by decide +kernel
theorem dX13_apart_151 : decode cX13_apart 151 = .ok (.iload 7, 2) := by decide +kernel
theorem dX13_apart_153 : decode cX13_apart 153 = .ok (.iastore, 1) := by decide +kernel
theorem dX13_apart_154 : decode cX13_apart 154 = .ok (.iinc 6 (-1), 3) := by decide +kernel
theorem dX13_apart_157 : decode cX13_apart 157 = .ok (.goto (-145), 3) := by decide +kernel
theorem dX13_apart_160 : decode cX13_apart 160 = .ok (.iinc 5 (-1), 3) := by decide +kernel
theorem dX13_apart_163 : decode cX13_apart 163 = .ok (.goto (-160), 3) := by decide +kernel
theorem dX13_apart_166 : decode cX13_apart 166 = .ok (.aload_n 0, 1) := by decide +kernel
theorem dX13_apart_167 : decode cX13_apart 167 = .ok (.getfield 121, 3) := by decide +kernel
theorem dX13_apart_170 : decode cX13_apart 170 = .ok (.iconst 0, 1) := by decide +kernel
theorem dX13_apart_171 : decode cX13_apart 171 = .ok (.iaload, 1) := by decide +kernel
theorem dX13_apart_172 : decode cX13_apart 172 = .ok (.ireturn, 1) := by decide +kernel
theorem dX13_distance_0 : decode cX13_distance 0 = .ok (.iload_n 1, 1) := by decide +kernel
theorem dX13_distance_1 : decode cX13_distance 1 = .ok (.invokestatic 297, 3) := by decide +kernel
theorem dX13_distance_4 : decode cX13_distance 4 = .ok (.ifCond .eq 10, 3) := by decide +kernel
theorem dX13_distance_7 : decode cX13_distance 7 = .ok (.iload_n 2, 1) := by decide +kernel
theorem dX13_distance_8 : decode cX13_distance 8 = .ok (.invokestatic 297, 3) := by decide +kernel
theorem dX13_distance_11 : decode cX13_distance 11 = .ok (.ifCond .ne 6, 3) := by decide +kernel
theorem dX13_distance_14 : decode cX13_distance 14 = .ok (.bipush (-2), 2) := by decide +kernel
theorem dX13_distance_16 : decode cX13_distance 16 = .ok (.ireturn, 1) := by decide +kernel
theorem dX13_distance_17 : decode cX13_distance 17 = .ok (.aload_n 0, 1) := by decide +kernel
theorem dX13_distance_18 : decode cX13_distance 18 = .ok (.iload_n 1, 1) := by decide +kernel
theorem dX13_distance_19 : decode cX13_distance 19 = .ok (.invokevirtual 300, 3) := by decide +kernel
theorem dX13_distance_22 : decode cX13_distance 22 = .ok (.istore_n 3, 1) := by decide +kernel
theorem dX13_distance_23 : decode cX13_distance 23 = .ok (.aload_n 0, 1) := by decide +kernel
theorem dX13_distance_24 : decode cX13_distance 24 = .ok (.iload_n 2, 1) := by decide +kernel
theorem dX13_distance_25 : decode cX13_distance 25 = .ok (.invokevirtual 300, 3) := by decide +kernel
theorem dX13_distance_28 : decode cX13_distance 28 = .ok (.istore 4, 2) := by decide +kernel
theorem dX13_distance_30 : decode cX13_distance 30 = .ok (.aload_n 0, 1) := by decide +kernel
theorem dX13_distance_31 : decode cX13_distance 31 = .ok (.iload_n 1, 1) := by decide +kernel
theorem dX13_distance_32 : decode cX13_distance 32 = .ok (.iload_n 3, 1) := by decide +kernel
theorem dX13_distance_33 : decode cX13_distance 33 = .ok (.iload_n 2, 1) := by decide +kernel
theorem dX13_distance_34 : decode cX13_distance 34 = .ok (.iload 4, 2) := by decide +kernel
theorem dX13_distance_36 : decode cX13_distance 36 = .ok (.invokevirtual 315, 3) := by decide +kernel
theorem dX13_distance_39 : decode cX13_distance 39 = .ok (.ireturn, 1) := by decide +kernel
theorem dX13_costs_0 : decode cX13_costs 0 = .ok (.iload_n 1, 1) := by decide +kernel
theorem dX13_costs_1 : decode cX13_costs 1 = .ok (.i2l, 1) := by decide +kernel
theorem dX13_costs_2 : decode cX13_costs 2 = .ok (.lconst 1, 1) := by decide +kernel
theorem dX13_costs_3 : decode cX13_costs 3 = .ok (.ldc2_w 253, 3) := by decide +kernel
theorem dX13_costs_6 : decode cX13_costs 6 = .ok (.invokestatic 140, 3) := by decide +kernel
theorem dX13_costs_9 : decode cX13_costs 9 = .ok (.ifCond .eq 15, 3) := by decide +kernel
theorem dX13_costs_12 : decode cX13_costs 12 = .ok (.iload_n 2, 1) := by decide +kernel
theorem dX13_costs_13 : decode cX13_costs 13 = .ok (.i2l, 1) := by decide +kernel
theorem dX13_costs_14 : decode cX13_costs 14 = .ok (.lconst 1, 1) := by decide +kernel
theorem dX13_costs_15 : decode cX13_costs 15 = .ok (.ldc2_w 253, 3) := by decide +kernel
theorem dX13_costs_18 : decode cX13_costs 18 = .ok (.invokestatic 140, 3) := by decide +kernel
theorem dX13_costs_21 : decode cX13_costs 21 = .ok (.ifCond .ne 6, 3) := by decide +kernel
theorem dX13_costs_24 : decode cX13_costs 24 = .ok (.bipush (-2), 2) := by decide +kernel
theorem dX13_costs_26 : decode cX13_costs 26 = .ok (.ireturn, 1) := by decide +kernel
theorem dX13_costs_27 : decode cX13_costs 27 = .ok (.aload_n 0, 1) := by decide +kernel
theorem dX13_costs_28 : decode cX13_costs 28 = .ok (.getfield 108, 3) := by decide +kernel
theorem dX13_costs_31 : decode cX13_costs 31 = .ok (.iconst 0, 1) := by decide +kernel
theorem dX13_costs_32 : decode cX13_costs 32 = .ok (.iload_n 1, 1) := by decide +kernel
theorem dX13_costs_33 : decode cX13_costs 33 = .ok (.iastore, 1) := by decide +kernel
theorem dX13_costs_34 : decode cX13_costs 34 = .ok (.aload_n 0, 1) := by decide +kernel
theorem dX13_costs_35 : decode cX13_costs 35 = .ok (.getfield 108, 3) := by decide +kernel
theorem dX13_costs_38 : decode cX13_costs 38 = .ok (.iconst 1, 1) := by decide +kernel
theorem dX13_costs_39 : decode cX13_costs 39 = .ok (.iload_n 2, 1) := by decide +kernel
theorem dX13_costs_40 : decode cX13_costs 40 = .ok (.iastore, 1) := by decide +kernel
theorem dX13_costs_41 : decode cX13_costs 41 = .ok (.iconst 1, 1) := by decide +kernel
theorem dX13_costs_42 : decode cX13_costs 42 = .ok (.ireturn, 1) := by decide +kernel
theorem dX13_bits_0 : decode cX13_bits 0 = .ok (.iconst 0, 1) := by decide +kernel
theorem dX13_bits_1 : decode cX13_bits 1 = .ok (.istore_n 1, 1) := by decide +kernel
theorem dX13_bits_2 : decode cX13_bits 2 = .ok (.iconst 0, 1) := by decide +kernel
theorem dX13_bits_3 : decode cX13_bits 3 = .ok (.istore_n 2, 1) := by decide +kernel
theorem dX13_bits_4 : decode cX13_bits 4 = .ok (.iload_n 2, 1) := by decide +kernel
theorem dX13_bits_5 : decode cX13_bits 5 = .ok (.bipush 31, 2) := by decide +kernel
theorem dX13_bits_7 : decode cX13_bits 7 = .ok (.if_icmp .ge 17, 3) := by decide +kernel
theorem dX13_bits_10 : decode cX13_bits 10 = .ok (.iload_n 1, 1) := by decide +kernel
theorem dX13_bits_11 : decode cX13_bits 11 = .ok (.iload_n 0, 1) := by decide +kernel
theorem dX13_bits_12 : decode cX13_bits 12 = .ok (.iload_n 2, 1) := by decide +kernel
theorem dX13_bits_13 : decode cX13_bits 13 = .ok (.ishr, 1) := by decide +kernel
theorem dX13_bits_14 : decode cX13_bits 14 = .ok (.iconst 1, 1) := by decide +kernel
theorem dX13_bits_15 : decode cX13_bits 15 = .ok (.iand, 1) := by decide +kernel
theorem dX13_bits_16 : decode cX13_bits 16 = .ok (.iadd, 1) := by decide +kernel
theorem dX13_bits_17 : decode cX13_bits 17 = .ok (.istore_n 1, 1) := by decide +kernel
theorem dX13_bits_18 : decode cX13_bits 18 = .ok (.iinc 2 1, 3) := by decide +kernel
theorem dX13_bits_21 : decode cX13_bits 21 = .ok (.goto (-17), 3) := by decide +kernel
theorem dX13_bits_24 : decode cX13_bits 24 = .ok (.iload_n 1, 1) := by decide +kernel
theorem dX13_bits_25 : decode cX13_bits 25 = .ok (.ireturn, 1) := by decide +kernel
theorem dX13_hold_0 : decode cX13_hold 0 = .ok (.aload_n 0, 1) := by decide +kernel
theorem dX13_hold_1 : decode cX13_hold 1 = .ok (.invokevirtual 255, 3) := by decide +kernel
theorem dX13_hold_4 : decode cX13_hold 4 = .ok (.iconst 0, 1) := by decide +kernel
theorem dX13_hold_5 : decode cX13_hold 5 = .ok (.istore_n 1, 1) := by decide +kernel
theorem dX13_hold_6 : decode cX13_hold 6 = .ok (.iconst 0, 1) := by decide +kernel
theorem dX13_hold_7 : decode cX13_hold 7 = .ok (.istore_n 2, 1) := by decide +kernel
theorem dX13_hold_8 : decode cX13_hold 8 = .ok (.iload_n 2, 1) := by decide +kernel
theorem dX13_hold_9 : decode cX13_hold 9 = .ok (.aload_n 0, 1) := by decide +kernel
theorem dX13_hold_10 : decode cX13_hold 10 = .ok (.getfield 153, 3) := by decide +kernel
theorem dX13_hold_13 : decode cX13_hold 13 = .ok (.if_icmp .ge 26, 3) := by decide +kernel
theorem dX13_hold_16 : decode cX13_hold 16 = .ok (.iload_n 1, 1) := by decide +kernel
theorem dX13_hold_17 : decode cX13_hold 17 = .ok (.aload_n 0, 1) := by decide +kernel
theorem dX13_hold_18 : decode cX13_hold 18 = .ok (.getfield 111, 3) := by decide +kernel
theorem dX13_hold_21 : decode cX13_hold 21 = .ok (.iload_n 2, 1) := by decide +kernel
theorem dX13_hold_22 : decode cX13_hold 22 = .ok (.iaload, 1) := by decide +kernel
theorem dX13_hold_23 : decode cX13_hold 23 = .ok (.ifCond .ne 7, 3) := by decide +kernel
theorem dX13_hold_26 : decode cX13_hold 26 = .ok (.iconst 1, 1) := by decide +kernel
theorem dX13_hold_27 : decode cX13_hold 27 = .ok (.goto 4, 3) := by decide +kernel
theorem dX13_hold_30 : decode cX13_hold 30 = .ok (.iconst 0, 1) := by decide +kernel
theorem dX13_hold_31 : decode cX13_hold 31 = .ok (.iadd, 1) := by decide +kernel
theorem dX13_hold_32 : decode cX13_hold 32 = .ok (.istore_n 1, 1) := by decide +kernel
theorem dX13_hold_33 : decode cX13_hold 33 = .ok (.iinc 2 1, 3) := by decide +kernel
theorem dX13_hold_36 : decode cX13_hold 36 = .ok (.goto (-28), 3) := by decide +kernel
theorem dX13_hold_39 : decode cX13_hold 39 = .ok (.iload_n 1, 1) := by decide +kernel
theorem dX13_hold_40 : decode cX13_hold 40 = .ok (.bipush 8, 2) := by decide +kernel
theorem dX13_hold_42 : decode cX13_hold 42 = .ok (.if_icmp .le 6, 3) := by decide +kernel
theorem dX13_hold_45 : decode cX13_hold 45 = .ok (.bipush (-3), 2) := by decide +kernel
theorem dX13_hold_47 : decode cX13_hold 47 = .ok (.ireturn, 1) := by decide +kernel
theorem dX13_hold_48 : decode cX13_hold 48 = .ok (.iconst (-1), 1) := by decide +kernel
theorem dX13_hold_49 : decode cX13_hold 49 = .ok (.istore_n 2, 1) := by decide +kernel
theorem dX13_hold_50 : decode cX13_hold 50 = .ok (.iconst 0, 1) := by decide +kernel
theorem dX13_hold_51 : decode cX13_hold 51 = .ok (.istore_n 3, 1) := by decide +kernel
theorem dX13_hold_52 : decode cX13_hold 52 = .ok (.iconst 0, 1) := by decide +kernel
theorem dX13_hold_53 : decode cX13_hold 53 = .ok (.istore 4, 2) := by decide +kernel
theorem dX13_hold_55 : decode cX13_hold 55 = .ok (.iload 4, 2) := by decide +kernel
theorem dX13_hold_57 : decode cX13_hold 57 = .ok (.iconst 1, 1) := by decide +kernel
theorem dX13_hold_58 : decode cX13_hold 58 = .ok (.iload_n 1, 1) := by decide +kernel
theorem dX13_hold_59 : decode cX13_hold 59 = .ok (.ishl, 1) := by decide +kernel
theorem dX13_hold_60 : decode cX13_hold 60 = .ok (.if_icmp .ge 101, 3) := by decide +kernel
theorem dX13_hold_63 : decode cX13_hold 63 = .ok (.aload_n 0, 1) := by decide +kernel
theorem dX13_hold_64 : decode cX13_hold 64 = .ok (.iload 4, 2) := by decide +kernel
theorem dX13_hold_66 : decode cX13_hold 66 = .ok (.invokevirtual 294, 3) := by decide +kernel
theorem dX13_hold_69 : decode cX13_hold 69 = .ok (.aload_n 0, 1) := by decide +kernel
theorem dX13_hold_70 : decode cX13_hold 70 = .ok (.getfield 108, 3) := by decide +kernel
theorem dX13_hold_73 : decode cX13_hold 73 = .ok (.iconst 0, 1) := by decide +kernel
theorem dX13_hold_74 : decode cX13_hold 74 = .ok (.iaload, 1) := by decide +kernel
theorem dX13_hold_75 : decode cX13_hold 75 = .ok (.aload_n 0, 1) := by decide +kernel
theorem dX13_hold_76 : decode cX13_hold 76 = .ok (.iconst 2, 1) := by decide +kernel
theorem dX13_hold_77 : decode cX13_hold 77 = .ok (.aload_n 0, 1) := by decide +kernel
theorem dX13_hold_78 : decode cX13_hold 78 = .ok (.getfield 260, 3) := by decide +kernel
theorem dX13_hold_81 : decode cX13_hold 81 = .ok (.iconst 1, 1) := by decide +kernel
theorem dX13_hold_82 : decode cX13_hold 82 = .ok (.aload_n 0, 1) := by decide +kernel
theorem dX13_hold_83 : decode cX13_hold 83 = .ok (.getfield 156, 3) := by decide +kernel
theorem dX13_hold_86 : decode cX13_hold 86 = .ok (.invokevirtual 315, 3) := by decide +kernel
theorem dX13_hold_89 : decode cX13_hold 89 = .ok (.imul, 1) := by decide +kernel
theorem dX13_hold_90 : decode cX13_hold 90 = .ok (.aload_n 0, 1) := by decide +kernel
theorem dX13_hold_91 : decode cX13_hold 91 = .ok (.getfield 108, 3) := by decide +kernel
theorem dX13_hold_94 : decode cX13_hold 94 = .ok (.iconst 1, 1) := by decide +kernel
theorem dX13_hold_95 : decode cX13_hold 95 = .ok (.iaload, 1) := by decide +kernel
theorem dX13_hold_96 : decode cX13_hold 96 = .ok (.iload 4, 2) := by decide +kernel
theorem dX13_hold_98 : decode cX13_hold 98 = .ok (.invokestatic 319, 3) := by decide +kernel
theorem dX13_hold_101 : decode cX13_hold 101 = .ok (.imul, 1) := by decide +kernel
theorem dX13_hold_102 : decode cX13_hold 102 = .ok (.iadd, 1) := by decide +kernel
theorem dX13_hold_103 : decode cX13_hold 103 = .ok (.istore 5, 2) := by decide +kernel
theorem dX13_hold_105 : decode cX13_hold 105 = .ok (.iload_n 2, 1) := by decide +kernel
theorem dX13_hold_106 : decode cX13_hold 106 = .ok (.iconst (-1), 1) := by decide +kernel
theorem dX13_hold_107 : decode cX13_hold 107 = .ok (.if_icmp .eq 27, 3) := by decide +kernel
theorem dX13_hold_110 : decode cX13_hold 110 = .ok (.iload 5, 2) := by decide +kernel
theorem dX13_hold_112 : decode cX13_hold 112 = .ok (.iload_n 3, 1) := by decide +kernel
theorem dX13_hold_113 : decode cX13_hold 113 = .ok (.if_icmp .lt 21, 3) := by decide +kernel
theorem dX13_hold_116 : decode cX13_hold 116 = .ok (.iload 5, 2) := by decide +kernel
theorem dX13_hold_118 : decode cX13_hold 118 = .ok (.iload_n 3, 1) := by decide +kernel
theorem dX13_hold_119 : decode cX13_hold 119 = .ok (.if_icmp .ne 19, 3) := by decide +kernel
theorem dX13_hold_122 : decode cX13_hold 122 = .ok (.iload 4, 2) := by decide +kernel
theorem dX13_hold_124 : decode cX13_hold 124 = .ok (.invokestatic 319, 3) := by decide +kernel
theorem dX13_hold_127 : decode cX13_hold 127 = .ok (.iload_n 2, 1) := by decide +kernel
theorem dX13_hold_128 : decode cX13_hold 128 = .ok (.invokestatic 319, 3) := by decide +kernel
theorem dX13_hold_131 : decode cX13_hold 131 = .ok (.if_icmp .ge 7, 3) := by decide +kernel
theorem dX13_hold_134 : decode cX13_hold 134 = .ok (.iconst 1, 1) := by decide +kernel
theorem dX13_hold_135 : decode cX13_hold 135 = .ok (.goto 4, 3) := by decide +kernel
theorem dX13_hold_138 : decode cX13_hold 138 = .ok (.iconst 0, 1) := by decide +kernel
theorem dX13_hold_139 : decode cX13_hold 139 = .ok (.istore 6, 2) := by decide +kernel
theorem dX13_hold_141 : decode cX13_hold 141 = .ok (.iload 6, 2) := by decide +kernel
theorem dX13_hold_143 : decode cX13_hold 143 = .ok (.ifCond .ne 6, 3) := by decide +kernel
theorem dX13_hold_146 : decode cX13_hold 146 = .ok (.goto 9, 3) := by decide +kernel
theorem dX13_hold_149 : decode cX13_hold 149 = .ok (.iload 4, 2) := by decide +kernel
theorem dX13_hold_151 : decode cX13_hold 151 = .ok (.istore_n 2, 1) := by decide +kernel
theorem dX13_hold_152 : decode cX13_hold 152 = .ok (.iload 5, 2) := by decide +kernel
theorem dX13_hold_154 : decode cX13_hold 154 = .ok (.istore_n 3, 1) := by decide +kernel
theorem dX13_hold_155 : decode cX13_hold 155 = .ok (.iinc 4 1, 3) := by decide +kernel
theorem dX13_hold_158 : decode cX13_hold 158 = .ok (.goto (-103), 3) := by decide +kernel
theorem dX13_hold_161 : decode cX13_hold 161 = .ok (.aload_n 0, 1) := by decide +kernel
theorem dX13_hold_162 : decode cX13_hold 162 = .ok (.iconst 1, 1) := by decide +kernel
theorem dX13_hold_163 : decode cX13_hold 163 = .ok (.putfield 322, 3) := by decide +kernel
theorem dX13_hold_166 : decode cX13_hold 166 = .ok (.aload_n 0, 1) := by decide +kernel
theorem dX13_hold_167 : decode cX13_hold 167 = .ok (.iload_n 2, 1) := by decide +kernel
theorem dX13_hold_168 : decode cX13_hold 168 = .ok (.putfield 326, 3) := by decide +kernel
theorem dX13_hold_171 : decode cX13_hold 171 = .ok (.aload_n 0, 1) := by decide +kernel
theorem dX13_hold_172 : decode cX13_hold 172 = .ok (.iconst 0, 1) := by decide +kernel
theorem dX13_hold_173 : decode cX13_hold 173 = .ok (.putfield 329, 3) := by decide +kernel
theorem dX13_hold_176 : decode cX13_hold 176 = .ok (.iconst 0, 1) := by decide +kernel
theorem dX13_hold_177 : decode cX13_hold 177 = .ok (.istore 4, 2) := by decide +kernel
theorem dX13_hold_179 : decode cX13_hold 179 = .ok (.iconst 0, 1) := by decide +kernel
theorem dX13_hold_180 : decode cX13_hold 180 = .ok (.istore 5, 2) := by decide +kernel
theorem dX13_hold_182 : decode cX13_hold 182 = .ok (.iload 5, 2) := by decide +kernel
theorem dX13_hold_184 : decode cX13_hold 184 = .ok (.aload_n 0, 1) := by decide +kernel
theorem dX13_hold_185 : decode cX13_hold 185 = .ok (.getfield 153, 3) := by decide +kernel
theorem dX13_hold_188 : decode cX13_hold 188 = .ok (.if_icmp .ge 56, 3) := by decide +kernel
theorem dX13_hold_191 : decode cX13_hold 191 = .ok (.aload_n 0, 1) := by decide +kernel
theorem dX13_hold_192 : decode cX13_hold 192 = .ok (.getfield 111, 3) := by decide +kernel
theorem dX13_hold_195 : decode cX13_hold 195 = .ok (.iload 5, 2) := by decide +kernel
theorem dX13_hold_197 : decode cX13_hold 197 = .ok (.iaload, 1) := by decide +kernel
theorem dX13_hold_198 : decode cX13_hold 198 = .ok (.ifCond .eq 6, 3) := by decide +kernel
theorem dX13_hold_201 : decode cX13_hold 201 = .ok (.goto 37, 3) := by decide +kernel
theorem dX13_hold_204 : decode cX13_hold 204 = .ok (.iload_n 2, 1) := by decide +kernel
theorem dX13_hold_205 : decode cX13_hold 205 = .ok (.iload 4, 2) := by decide +kernel
theorem dX13_hold_207 : decode cX13_hold 207 = .ok (.ishr, 1) := by decide +kernel
theorem dX13_hold_208 : decode cX13_hold 208 = .ok (.iconst 1, 1) := by decide +kernel
theorem dX13_hold_209 : decode cX13_hold 209 = .ok (.iand, 1) := by decide +kernel
theorem dX13_hold_210 : decode cX13_hold 210 = .ok (.iconst 1, 1) := by decide +kernel
theorem dX13_hold_211 : decode cX13_hold 211 = .ok (.if_icmp .ne 24, 3) := by decide +kernel
theorem dX13_hold_214 : decode cX13_hold 214 = .ok (.aload_n 0, 1) := by decide +kernel
theorem dX13_hold_215 : decode cX13_hold 215 = .ok (.getfield 124, 3) := by decide +kernel
theorem dX13_hold_218 : decode cX13_hold 218 = .ok (.aload_n 0, 1) := by decide +kernel
theorem dX13_hold_219 : decode cX13_hold 219 = .ok (.getfield 329, 3) := by decide +kernel
theorem dX13_hold_222 : decode cX13_hold 222 = .ok (.iload 5, 2) := by decide +kernel
theorem dX13_hold_224 : decode cX13_hold 224 = .ok (.iastore, 1) := by decide +kernel
theorem dX13_hold_225 : decode cX13_hold 225 = .ok (.aload_n 0, 1) := by decide +kernel
theorem dX13_hold_226 : decode cX13_hold 226 = .ok (.dup, 1) := by decide +kernel
theorem dX13_hold_227 : decode cX13_hold 227 = .ok (.getfield 329, 3) := by decide +kernel
theorem dX13_hold_230 : decode cX13_hold 230 = .ok (.iconst 1, 1) := by decide +kernel
theorem dX13_hold_231 : decode cX13_hold 231 = .ok (.iadd, 1) := by decide +kernel
theorem dX13_hold_232 : decode cX13_hold 232 = .ok (.putfield 329, 3) := by decide +kernel
theorem dX13_hold_235 : decode cX13_hold 235 = .ok (.iinc 4 1, 3) := by decide +kernel
theorem dX13_hold_238 : decode cX13_hold 238 = .ok (.iinc 5 1, 3) := by decide +kernel
theorem dX13_hold_241 : decode cX13_hold 241 = .ok (.goto (-59), 3) := by decide +kernel
theorem dX13_hold_244 : decode cX13_hold 244 = .ok (.aload_n 0, 1) := by decide +kernel
theorem dX13_hold_245 : decode cX13_hold 245 = .ok (.iload_n 2, 1) := by decide +kernel
theorem dX13_hold_246 : decode cX13_hold 246 = .ok (.invokevirtual 294, 3) := by decide +kernel
theorem dX13_hold_249 : decode cX13_hold 249 = .ok (.aload_n 0, 1) := by decide +kernel
theorem dX13_hold_250 : decode cX13_hold 250 = .ok (.invokevirtual 332, 3) := by decide +kernel
theorem dX13_hold_253 : decode cX13_hold 253 = .ok (.iload_n 3, 1) := by decide +kernel
theorem dX13_hold_254 : decode cX13_hold 254 = .ok (.ireturn, 1) := by decide +kernel
theorem dX13_trace_0 : decode cX13_trace 0 = .ok (.aload_n 0, 1) := by decide +kernel
theorem dX13_trace_1 : decode cX13_trace 1 = .ok (.iconst 2, 1) := by decide +kernel
theorem dX13_trace_2 : decode cX13_trace 2 = .ok (.aload_n 0, 1) := by decide +kernel
theorem dX13_trace_3 : decode cX13_trace 3 = .ok (.getfield 260, 3) := by decide +kernel
theorem dX13_trace_6 : decode cX13_trace 6 = .ok (.iconst 1, 1) := by decide +kernel
theorem dX13_trace_7 : decode cX13_trace 7 = .ok (.aload_n 0, 1) := by decide +kernel
theorem dX13_trace_8 : decode cX13_trace 8 = .ok (.getfield 156, 3) := by decide +kernel
theorem dX13_trace_11 : decode cX13_trace 11 = .ok (.invokevirtual 315, 3) := by decide +kernel
theorem dX13_trace_14 : decode cX13_trace 14 = .ok (.istore_n 1, 1) := by decide +kernel
theorem dX13_trace_15 : decode cX13_trace 15 = .ok (.aload_n 0, 1) := by decide +kernel
theorem dX13_trace_16 : decode cX13_trace 16 = .ok (.iconst 0, 1) := by decide +kernel
theorem dX13_trace_17 : decode cX13_trace 17 = .ok (.putfield 335, 3) := by decide +kernel
theorem dX13_trace_20 : decode cX13_trace 20 = .ok (.iconst 0, 1) := by decide +kernel
theorem dX13_trace_21 : decode cX13_trace 21 = .ok (.istore_n 2, 1) := by decide +kernel
theorem dX13_trace_22 : decode cX13_trace 22 = .ok (.iconst 0, 1) := by decide +kernel
theorem dX13_trace_23 : decode cX13_trace 23 = .ok (.istore_n 3, 1) := by decide +kernel
theorem dX13_trace_24 : decode cX13_trace 24 = .ok (.iload_n 1, 1) := by decide +kernel
theorem dX13_trace_25 : decode cX13_trace 25 = .ok (.ifCond .le 238, 3) := by decide +kernel
theorem dX13_trace_28 : decode cX13_trace 28 = .ok (.iload_n 2, 1) := by decide +kernel
theorem dX13_trace_29 : decode cX13_trace 29 = .ok (.aload_n 0, 1) := by decide +kernel
theorem dX13_trace_30 : decode cX13_trace 30 = .ok (.getfield 260, 3) := by decide +kernel
theorem dX13_trace_33 : decode cX13_trace 33 = .ok (.if_icmp .ge 54, 3) := by decide +kernel
theorem dX13_trace_36 : decode cX13_trace 36 = .ok (.iload_n 3, 1) := by decide +kernel
theorem dX13_trace_37 : decode cX13_trace 37 = .ok (.aload_n 0, 1) := by decide +kernel
theorem dX13_trace_38 : decode cX13_trace 38 = .ok (.getfield 156, 3) := by decide +kernel
theorem dX13_trace_41 : decode cX13_trace 41 = .ok (.if_icmp .ge 46, 3) := by decide +kernel
theorem dX13_trace_44 : decode cX13_trace 44 = .ok (.aload_n 0, 1) := by decide +kernel
theorem dX13_trace_45 : decode cX13_trace 45 = .ok (.getfield 64, 3) := by decide +kernel
theorem dX13_trace_48 : decode cX13_trace 48 = .ok (.iload_n 2, 1) := by decide +kernel
theorem dX13_trace_49 : decode cX13_trace 49 = .ok (.laload, 1) := by decide +kernel
theorem dX13_trace_50 : decode cX13_trace 50 = .ok (.aload_n 0, 1) := by decide +kernel
theorem dX13_trace_51 : decode cX13_trace 51 = .ok (.getfield 61, 3) := by decide +kernel
theorem dX13_trace_54 : decode cX13_trace 54 = .ok (.iload_n 3, 1) := by decide +kernel
theorem dX13_trace_55 : decode cX13_trace 55 = .ok (.laload, 1) := by decide +kernel
theorem dX13_trace_56 : decode cX13_trace 56 = .ok (.lcmp, 1) := by decide +kernel
theorem dX13_trace_57 : decode cX13_trace 57 = .ok (.ifCond .ne 30, 3) := by decide +kernel
theorem dX13_trace_60 : decode cX13_trace 60 = .ok (.aload_n 0, 1) := by decide +kernel
theorem dX13_trace_61 : decode cX13_trace 61 = .ok (.getfield 121, 3) := by decide +kernel
theorem dX13_trace_64 : decode cX13_trace 64 = .ok (.iload_n 2, 1) := by decide +kernel
theorem dX13_trace_65 : decode cX13_trace 65 = .ok (.iconst 1, 1) := by decide +kernel
theorem dX13_trace_66 : decode cX13_trace 66 = .ok (.iadd, 1) := by decide +kernel
theorem dX13_trace_67 : decode cX13_trace 67 = .ok (.iload_n 3, 1) := by decide +kernel
theorem dX13_trace_68 : decode cX13_trace 68 = .ok (.iconst 1, 1) := by decide +kernel
theorem dX13_trace_69 : decode cX13_trace 69 = .ok (.iadd, 1) := by decide +kernel
theorem dX13_trace_70 : decode cX13_trace 70 = .ok (.invokestatic 307, 3) := by decide +kernel
theorem dX13_trace_73 : decode cX13_trace 73 = .ok (.iaload, 1) := by decide +kernel
theorem dX13_trace_74 : decode cX13_trace 74 = .ok (.iload_n 1, 1) := by decide +kernel
theorem dX13_trace_75 : decode cX13_trace 75 = .ok (.if_icmp .ne 12, 3) := by decide +kernel
theorem dX13_trace_78 : decode cX13_trace 78 = .ok (.iinc 2 1, 3) := by decide +kernel
theorem dX13_trace_81 : decode cX13_trace 81 = .ok (.iinc 3 1, 3) := by decide +kernel
theorem dX13_trace_84 : decode cX13_trace 84 = .ok (.goto (-60), 3) := by decide +kernel
theorem dX13_trace_87 : decode cX13_trace 87 = .ok (.iload_n 2, 1) := by decide +kernel
theorem dX13_trace_88 : decode cX13_trace 88 = .ok (.aload_n 0, 1) := by decide +kernel
theorem dX13_trace_89 : decode cX13_trace 89 = .ok (.getfield 260, 3) := by decide +kernel
theorem dX13_trace_92 : decode cX13_trace 92 = .ok (.if_icmp .ge 35, 3) := by decide +kernel
theorem dX13_trace_95 : decode cX13_trace 95 = .ok (.iload_n 3, 1) := by decide +kernel
theorem dX13_trace_96 : decode cX13_trace 96 = .ok (.aload_n 0, 1) := by decide +kernel
theorem dX13_trace_97 : decode cX13_trace 97 = .ok (.getfield 156, 3) := by decide +kernel
theorem dX13_trace_100 : decode cX13_trace 100 = .ok (.if_icmp .ge 27, 3) := by decide +kernel
theorem dX13_trace_103 : decode cX13_trace 103 = .ok (.aload_n 0, 1) := by decide +kernel
theorem dX13_trace_104 : decode cX13_trace 104 = .ok (.getfield 121, 3) := by decide +kernel
theorem dX13_trace_107 : decode cX13_trace 107 = .ok (.iload_n 2, 1) := by decide +kernel
theorem dX13_trace_108 : decode cX13_trace 108 = .ok (.iconst 1, 1) := by decide +kernel
theorem dX13_trace_109 : decode cX13_trace 109 = .ok (.iadd, 1) := by decide +kernel
theorem dX13_trace_110 : decode cX13_trace 110 = .ok (.iload_n 3, 1) := by decide +kernel
theorem dX13_trace_111 : decode cX13_trace 111 = .ok (.iconst 1, 1) := by decide +kernel
theorem dX13_trace_112 : decode cX13_trace 112 = .ok (.iadd, 1) := by decide +kernel
theorem dX13_trace_113 : decode cX13_trace 113 = .ok (.invokestatic 307, 3) := by decide +kernel
theorem dX13_trace_116 : decode cX13_trace 116 = .ok (.iaload, 1) := by decide +kernel
theorem dX13_trace_117 : decode cX13_trace 117 = .ok (.iload_n 1, 1) := by decide +kernel
theorem dX13_trace_118 : decode cX13_trace 118 = .ok (.iconst 1, 1) := by decide +kernel
theorem dX13_trace_119 : decode cX13_trace 119 = .ok (.isub, 1) := by decide +kernel
theorem dX13_trace_120 : decode cX13_trace 120 = .ok (.if_icmp .ne 7, 3) := by decide +kernel
theorem dX13_trace_123 : decode cX13_trace 123 = .ok (.iconst 1, 1) := by decide +kernel
theorem dX13_trace_124 : decode cX13_trace 124 = .ok (.goto 4, 3) := by decide +kernel
theorem dX13_trace_127 : decode cX13_trace 127 = .ok (.iconst 0, 1) := by decide +kernel
theorem dX13_trace_128 : decode cX13_trace 128 = .ok (.istore 4, 2) := by decide +kernel
theorem dX13_trace_130 : decode cX13_trace 130 = .ok (.iload 4, 2) := by decide +kernel
theorem dX13_trace_132 : decode cX13_trace 132 = .ok (.ifCond .ne 33, 3) := by decide +kernel
theorem dX13_trace_135 : decode cX13_trace 135 = .ok (.iload_n 2, 1) := by decide +kernel
theorem dX13_trace_136 : decode cX13_trace 136 = .ok (.aload_n 0, 1) := by decide +kernel
theorem dX13_trace_137 : decode cX13_trace 137 = .ok (.getfield 260, 3) := by decide +kernel
theorem dX13_trace_140 : decode cX13_trace 140 = .ok (.if_icmp .ge 25, 3) := by decide +kernel
theorem dX13_trace_143 : decode cX13_trace 143 = .ok (.aload_n 0, 1) := by decide +kernel
theorem dX13_trace_144 : decode cX13_trace 144 = .ok (.getfield 121, 3) := by decide +kernel
theorem dX13_trace_147 : decode cX13_trace 147 = .ok (.iload_n 2, 1) := by decide +kernel
theorem dX13_trace_148 : decode cX13_trace 148 = .ok (.iconst 1, 1) := by decide +kernel
theorem dX13_trace_149 : decode cX13_trace 149 = .ok (.iadd, 1) := by decide +kernel
theorem dX13_trace_150 : decode cX13_trace 150 = .ok (.iload_n 3, 1) := by decide +kernel
theorem dX13_trace_151 : decode cX13_trace 151 = .ok (.invokestatic 307, 3) := by decide +kernel
theorem dX13_trace_154 : decode cX13_trace 154 = .ok (.iaload, 1) := by decide +kernel
theorem dX13_trace_155 : decode cX13_trace 155 = .ok (.iload_n 1, 1) := by decide +kernel
theorem dX13_trace_156 : decode cX13_trace 156 = .ok (.iconst 1, 1) := by decide +kernel
theorem dX13_trace_157 : decode cX13_trace 157 = .ok (.isub, 1) := by decide +kernel
theorem dX13_trace_158 : decode cX13_trace 158 = .ok (.if_icmp .ne 7, 3) := by decide +kernel
theorem dX13_trace_161 : decode cX13_trace 161 = .ok (.iconst 1, 1) := by decide +kernel
theorem dX13_trace_162 : decode cX13_trace 162 = .ok (.goto 4, 3) := by decide +kernel
theorem dX13_trace_165 : decode cX13_trace 165 = .ok (.iconst 0, 1) := by decide +kernel
theorem dX13_trace_166 : decode cX13_trace 166 = .ok (.istore 5, 2) := by decide +kernel
theorem dX13_trace_168 : decode cX13_trace 168 = .ok (.aload_n 0, 1) := by decide +kernel
theorem dX13_trace_169 : decode cX13_trace 169 = .ok (.getfield 127, 3) := by decide +kernel
theorem dX13_trace_172 : decode cX13_trace 172 = .ok (.aload_n 0, 1) := by decide +kernel
theorem dX13_trace_173 : decode cX13_trace 173 = .ok (.getfield 335, 3) := by decide +kernel
theorem dX13_trace_176 : decode cX13_trace 176 = .ok (.iload 4, 2) := by decide +kernel
theorem dX13_trace_178 : decode cX13_trace 178 = .ok (.ifCond .eq 7, 3) := by decide +kernel
theorem dX13_trace_181 : decode cX13_trace 181 = .ok (.iconst 0, 1) := by decide +kernel
theorem dX13_trace_182 : decode cX13_trace 182 = .ok (.goto 13, 3) := by decide +kernel
theorem dX13_trace_185 : decode cX13_trace 185 = .ok (.iload 5, 2) := by decide +kernel
theorem dX13_trace_187 : decode cX13_trace 187 = .ok (.ifCond .eq 7, 3) := by decide +kernel
theorem dX13_trace_190 : decode cX13_trace 190 = .ok (.iconst 1, 1) := by decide +kernel
theorem dX13_trace_191 : decode cX13_trace 191 = .ok (.goto 4, 3) := by decide +kernel
theorem dX13_trace_194 : decode cX13_trace 194 = .ok (.iconst 2, 1) := by decide +kernel
theorem dX13_trace_195 : decode cX13_trace 195 = .ok (.iastore, 1) := by decide +kernel
theorem dX13_trace_196 : decode cX13_trace 196 = .ok (.aload_n 0, 1) := by decide +kernel
theorem dX13_trace_197 : decode cX13_trace 197 = .ok (.getfield 130, 3) := by decide +kernel
theorem dX13_trace_200 : decode cX13_trace 200 = .ok (.aload_n 0, 1) := by decide +kernel
theorem dX13_trace_201 : decode cX13_trace 201 = .ok (.getfield 335, 3) := by decide +kernel
theorem dX13_trace_204 : decode cX13_trace 204 = .ok (.iload_n 2, 1) := by decide +kernel
theorem dX13_trace_205 : decode cX13_trace 205 = .ok (.iastore, 1) := by decide +kernel
theorem dX13_trace_206 : decode cX13_trace 206 = .ok (.aload_n 0, 1) := by decide +kernel
theorem dX13_trace_207 : decode cX13_trace 207 = .ok (.getfield 133, 3) := by decide +kernel
theorem dX13_trace_210 : decode cX13_trace 210 = .ok (.aload_n 0, 1) := by decide +kernel
theorem dX13_trace_211 : decode cX13_trace 211 = .ok (.getfield 335, 3) := by decide +kernel
theorem dX13_trace_214 : decode cX13_trace 214 = .ok (.iload_n 3, 1) := by decide +kernel
theorem dX13_trace_215 : decode cX13_trace 215 = .ok (.iastore, 1) := by decide +kernel
theorem dX13_trace_216 : decode cX13_trace 216 = .ok (.aload_n 0, 1) := by decide +kernel
theorem dX13_trace_217 : decode cX13_trace 217 = .ok (.dup, 1) := by decide +kernel
theorem dX13_trace_218 : decode cX13_trace 218 = .ok (.getfield 335, 3) := by decide +kernel
theorem dX13_trace_221 : decode cX13_trace 221 = .ok (.iconst 1, 1) := by decide +kernel
theorem dX13_trace_222 : decode cX13_trace 222 = .ok (.iadd, 1) := by decide +kernel
theorem dX13_trace_223 : decode cX13_trace 223 = .ok (.putfield 335, 3) := by decide +kernel
theorem dX13_trace_226 : decode cX13_trace 226 = .ok (.iinc 1 (-1), 3) := by decide +kernel
theorem dX13_trace_229 : decode cX13_trace 229 = .ok (.iload_n 2, 1) := by decide +kernel
theorem dX13_trace_230 : decode cX13_trace 230 = .ok (.iload 4, 2) := by decide +kernel
theorem dX13_trace_232 : decode cX13_trace 232 = .ok (.ifCond .ne 8, 3) := by decide +kernel
theorem dX13_trace_235 : decode cX13_trace 235 = .ok (.iload 5, 2) := by decide +kernel
theorem dX13_trace_237 : decode cX13_trace 237 = .ok (.ifCond .eq 7, 3) := by decide +kernel
theorem dX13_trace_240 : decode cX13_trace 240 = .ok (.iconst 1, 1) := by decide +kernel
theorem dX13_trace_241 : decode cX13_trace 241 = .ok (.goto 4, 3) := by decide +kernel
theorem dX13_trace_244 : decode cX13_trace 244 = .ok (.iconst 0, 1) := by decide +kernel
theorem dX13_trace_245 : decode cX13_trace 245 = .ok (.iadd, 1) := by decide +kernel
theorem dX13_trace_246 : decode cX13_trace 246 = .ok (.istore_n 2, 1) := by decide +kernel
theorem dX13_trace_247 : decode cX13_trace 247 = .ok (.iload_n 3, 1) := by decide +kernel
theorem dX13_trace_248 : decode cX13_trace 248 = .ok (.iload 5, 2) := by decide +kernel
theorem dX13_trace_250 : decode cX13_trace 250 = .ok (.ifCond .eq 7, 3) := by decide +kernel
theorem dX13_trace_253 : decode cX13_trace 253 = .ok (.iconst 0, 1) := by decide +kernel
theorem dX13_trace_254 : decode cX13_trace 254 = .ok (.goto 4, 3) := by decide +kernel
theorem dX13_trace_257 : decode cX13_trace 257 = .ok (.iconst 1, 1) := by decide +kernel
theorem dX13_trace_258 : decode cX13_trace 258 = .ok (.iadd, 1) := by decide +kernel
theorem dX13_trace_259 : decode cX13_trace 259 = .ok (.istore_n 3, 1) := by decide +kernel
theorem dX13_trace_260 : decode cX13_trace 260 = .ok (.goto (-236), 3) := by decide +kernel
theorem dX13_trace_263 : decode cX13_trace 263 = .ok (.return_, 1) := by decide +kernel
theorem dX13_held_0 : decode cX13_held 0 = .ok (.aload_n 0, 1) := by decide +kernel
theorem dX13_held_1 : decode cX13_held 1 = .ok (.getfield 322, 3) := by decide +kernel
theorem dX13_held_4 : decode cX13_held 4 = .ok (.ifCond .ne 5, 3) := by decide +kernel
theorem dX13_held_7 : decode cX13_held 7 = .ok (.iconst (-1), 1) := by decide +kernel
theorem dX13_held_8 : decode cX13_held 8 = .ok (.ireturn, 1) := by decide +kernel
theorem dX13_held_9 : decode cX13_held 9 = .ok (.iload_n 1, 1) := by decide +kernel
theorem dX13_held_10 : decode cX13_held 10 = .ok (.i2l, 1) := by decide +kernel
theorem dX13_held_11 : decode cX13_held 11 = .ok (.ldc2_w 251, 3) := by decide +kernel
theorem dX13_held_14 : decode cX13_held 14 = .ok (.ldc2_w 253, 3) := by decide +kernel
theorem dX13_held_17 : decode cX13_held 17 = .ok (.aload_n 0, 1) := by decide +kernel
theorem dX13_held_18 : decode cX13_held 18 = .ok (.getfield 329, 3) := by decide +kernel
theorem dX13_held_21 : decode cX13_held 21 = .ok (.i2l, 1) := by decide +kernel
theorem dX13_held_22 : decode cX13_held 22 = .ok (.ladd, 1) := by decide +kernel
theorem dX13_held_23 : decode cX13_held 23 = .ok (.invokestatic 140, 3) := by decide +kernel
theorem dX13_held_26 : decode cX13_held 26 = .ok (.ifCond .eq 13, 3) := by decide +kernel
theorem dX13_held_29 : decode cX13_held 29 = .ok (.aload_n 0, 1) := by decide +kernel
theorem dX13_held_30 : decode cX13_held 30 = .ok (.getfield 124, 3) := by decide +kernel
theorem dX13_held_33 : decode cX13_held 33 = .ok (.iload_n 1, 1) := by decide +kernel
theorem dX13_held_34 : decode cX13_held 34 = .ok (.bipush 10, 2) := by decide +kernel
theorem dX13_held_36 : decode cX13_held 36 = .ok (.isub, 1) := by decide +kernel
theorem dX13_held_37 : decode cX13_held 37 = .ok (.iaload, 1) := by decide +kernel
theorem dX13_held_38 : decode cX13_held 38 = .ok (.ireturn, 1) := by decide +kernel
theorem dX13_held_39 : decode cX13_held 39 = .ok (.iload_n 1, 1) := by decide +kernel
theorem dX13_held_40 : decode cX13_held 40 = .ok (.ifCond .ne 10, 3) := by decide +kernel
theorem dX13_held_43 : decode cX13_held 43 = .ok (.aload_n 0, 1) := by decide +kernel
theorem dX13_held_44 : decode cX13_held 44 = .ok (.getfield 326, 3) := by decide +kernel
theorem dX13_held_47 : decode cX13_held 47 = .ok (.goto 28, 3) := by decide +kernel
theorem dX13_held_50 : decode cX13_held 50 = .ok (.iload_n 1, 1) := by decide +kernel
theorem dX13_held_51 : decode cX13_held 51 = .ok (.iconst 1, 1) := by decide +kernel
theorem dX13_held_52 : decode cX13_held 52 = .ok (.if_icmp .ne 10, 3) := by decide +kernel
theorem dX13_held_55 : decode cX13_held 55 = .ok (.aload_n 0, 1) := by decide +kernel
theorem dX13_held_56 : decode cX13_held 56 = .ok (.getfield 329, 3) := by decide +kernel
theorem dX13_held_59 : decode cX13_held 59 = .ok (.goto 16, 3) := by decide +kernel
theorem dX13_held_62 : decode cX13_held 62 = .ok (.iload_n 1, 1) := by decide +kernel
theorem dX13_held_63 : decode cX13_held 63 = .ok (.iconst 2, 1) := by decide +kernel
theorem dX13_held_64 : decode cX13_held 64 = .ok (.if_icmp .ne 10, 3) := by decide +kernel
theorem dX13_held_67 : decode cX13_held 67 = .ok (.aload_n 0, 1) := by decide +kernel
theorem dX13_held_68 : decode cX13_held 68 = .ok (.getfield 335, 3) := by decide +kernel
theorem dX13_held_71 : decode cX13_held 71 = .ok (.goto 4, 3) := by decide +kernel
theorem dX13_held_74 : decode cX13_held 74 = .ok (.iconst (-1), 1) := by decide +kernel
theorem dX13_held_75 : decode cX13_held 75 = .ok (.ireturn, 1) := by decide +kernel
theorem dX13_unasked_0 : decode cX13_unasked 0 = .ok (.iload_n 1, 1) := by decide +kernel
theorem dX13_unasked_1 : decode cX13_unasked 1 = .ok (.i2l, 1) := by decide +kernel
theorem dX13_unasked_2 : decode cX13_unasked 2 = .ok (.lconst 0, 1) := by decide +kernel
theorem dX13_unasked_3 : decode cX13_unasked 3 = .ok (.aload_n 0, 1) := by decide +kernel
theorem dX13_unasked_4 : decode cX13_unasked 4 = .ok (.getfield 335, 3) := by decide +kernel
theorem dX13_unasked_7 : decode cX13_unasked 7 = .ok (.i2l, 1) := by decide +kernel
theorem dX13_unasked_8 : decode cX13_unasked 8 = .ok (.lconst 1, 1) := by decide +kernel
theorem dX13_unasked_9 : decode cX13_unasked 9 = .ok (.lsub, 1) := by decide +kernel
theorem dX13_unasked_10 : decode cX13_unasked 10 = .ok (.invokestatic 140, 3) := by decide +kernel
theorem dX13_unasked_13 : decode cX13_unasked 13 = .ok (.ifCond .ne 7, 3) := by decide +kernel
theorem dX13_unasked_16 : decode cX13_unasked 16 = .ok (.iconst (-1), 1) := by decide +kernel
theorem dX13_unasked_17 : decode cX13_unasked 17 = .ok (.goto 45, 3) := by decide +kernel
theorem dX13_unasked_20 : decode cX13_unasked 20 = .ok (.iload_n 2, 1) := by decide +kernel
theorem dX13_unasked_21 : decode cX13_unasked 21 = .ok (.ifCond .ne 12, 3) := by decide +kernel
theorem dX13_unasked_24 : decode cX13_unasked 24 = .ok (.aload_n 0, 1) := by decide +kernel
theorem dX13_unasked_25 : decode cX13_unasked 25 = .ok (.getfield 127, 3) := by decide +kernel
theorem dX13_unasked_28 : decode cX13_unasked 28 = .ok (.iload_n 1, 1) := by decide +kernel
theorem dX13_unasked_29 : decode cX13_unasked 29 = .ok (.iaload, 1) := by decide +kernel
theorem dX13_unasked_30 : decode cX13_unasked 30 = .ok (.goto 32, 3) := by decide +kernel
theorem dX13_unasked_33 : decode cX13_unasked 33 = .ok (.iload_n 2, 1) := by decide +kernel
theorem dX13_unasked_34 : decode cX13_unasked 34 = .ok (.iconst 1, 1) := by decide +kernel
theorem dX13_unasked_35 : decode cX13_unasked 35 = .ok (.if_icmp .ne 12, 3) := by decide +kernel
theorem dX13_unasked_38 : decode cX13_unasked 38 = .ok (.aload_n 0, 1) := by decide +kernel
theorem dX13_unasked_39 : decode cX13_unasked 39 = .ok (.getfield 130, 3) := by decide +kernel
theorem dX13_unasked_42 : decode cX13_unasked 42 = .ok (.iload_n 1, 1) := by decide +kernel
theorem dX13_unasked_43 : decode cX13_unasked 43 = .ok (.iaload, 1) := by decide +kernel
theorem dX13_unasked_44 : decode cX13_unasked 44 = .ok (.goto 18, 3) := by decide +kernel
theorem dX13_unasked_47 : decode cX13_unasked 47 = .ok (.iload_n 2, 1) := by decide +kernel
theorem dX13_unasked_48 : decode cX13_unasked 48 = .ok (.iconst 2, 1) := by decide +kernel
theorem dX13_unasked_49 : decode cX13_unasked 49 = .ok (.if_icmp .ne 12, 3) := by decide +kernel
theorem dX13_unasked_52 : decode cX13_unasked 52 = .ok (.aload_n 0, 1) := by decide +kernel
theorem dX13_unasked_53 : decode cX13_unasked 53 = .ok (.getfield 133, 3) := by decide +kernel
theorem dX13_unasked_56 : decode cX13_unasked 56 = .ok (.iload_n 1, 1) := by decide +kernel
theorem dX13_unasked_57 : decode cX13_unasked 57 = .ok (.iaload, 1) := by decide +kernel
theorem dX13_unasked_58 : decode cX13_unasked 58 = .ok (.goto 4, 3) := by decide +kernel
theorem dX13_unasked_61 : decode cX13_unasked 61 = .ok (.iconst (-1), 1) := by decide +kernel
theorem dX13_unasked_62 : decode cX13_unasked 62 = .ok (.ireturn, 1) := by decide +kernel
theorem dX13_next_0 : decode cX13_next 0 = .ok (.aload_n 0, 1) := by decide +kernel
theorem dX13_next_1 : decode cX13_next 1 = .ok (.getfield 156, 3) := by decide +kernel
theorem dX13_next_4 : decode cX13_next 4 = .ok (.i2l, 1) := by decide +kernel
theorem dX13_next_5 : decode cX13_next 5 = .ok (.lconst 1, 1) := by decide +kernel
theorem dX13_next_6 : decode cX13_next 6 = .ok (.ldc2_w 338, 3) := by decide +kernel
theorem dX13_next_9 : decode cX13_next 9 = .ok (.invokestatic 140, 3) := by decide +kernel
theorem dX13_next_12 : decode cX13_next 12 = .ok (.ifCond .ne 6, 3) := by decide +kernel
theorem dX13_next_15 : decode cX13_next 15 = .ok (.bipush (-4), 2) := by decide +kernel
theorem dX13_next_17 : decode cX13_next 17 = .ok (.ireturn, 1) := by decide +kernel
