theorem dX5_decide_86 : decode cX5_decide 86 = .ok (.aload_n 3, 1) := by decide +kernel
theorem dX5_decide_87 : decode cX5_decide 87 = .ok (.aload_n 0, 1) := by decide +kernel
theorem dX5_decide_88 : decode cX5_decide 88 = .ok (.aload_n 3, 1) := by decide +kernel
theorem dX5_decide_89 : decode cX5_decide 89 = .ok (.invokevirtual 76, 3) := by decide +kernel
theorem dX5_decide_92 : decode cX5_decide 92 = .ok (.putfield 56, 3) := by decide +kernel
theorem dX5_decide_95 : decode cX5_decide 95 = .ok (.aload_n 3, 1) := by decide +kernel
theorem dX5_decide_96 : decode cX5_decide 96 = .ok (.aload_n 3, 1) := by decide +kernel
theorem dX5_decide_97 : decode cX5_decide 97 = .ok (.getfield 56, 3) := by decide +kernel
theorem dX5_decide_100 : decode cX5_decide 100 = .ok (.iconst (-1), 1) := by decide +kernel
theorem dX5_decide_101 : decode cX5_decide 101 = .ok (.if_icmp .ne 7, 3) := by decide +kernel
theorem dX5_decide_104 : decode cX5_decide 104 = .ok (.iconst 0, 1) := by decide +kernel
theorem dX5_decide_105 : decode cX5_decide 105 = .ok (.goto 4, 3) := by decide +kernel
theorem dX5_decide_108 : decode cX5_decide 108 = .ok (.iconst 1, 1) := by decide +kernel
theorem dX5_decide_109 : decode cX5_decide 109 = .ok (.putfield 63, 3) := by decide +kernel
theorem dX5_decide_112 : decode cX5_decide 112 = .ok (.iinc 2 1, 3) := by decide +kernel
theorem dX5_decide_115 : decode cX5_decide 115 = .ok (.goto (-66), 3) := by decide +kernel
theorem dX5_decide_118 : decode cX5_decide 118 = .ok (.iinc 1 1, 3) := by decide +kernel
theorem dX5_decide_121 : decode cX5_decide 121 = .ok (.goto (-80), 3) := by decide +kernel
theorem dX5_decide_124 : decode cX5_decide 124 = .ok (.aload_n 0, 1) := by decide +kernel
theorem dX5_decide_125 : decode cX5_decide 125 = .ok (.invokevirtual 80, 3) := by decide +kernel
theorem dX5_decide_128 : decode cX5_decide 128 = .ok (.return_, 1) := by decide +kernel
theorem dX5_firstDoneThatMeets_0 : decode cX5_firstDoneThatMeets 0 = .ok (.iconst 0, 1) := by decide +kernel
theorem dX5_firstDoneThatMeets_1 : decode cX5_firstDoneThatMeets 1 = .ok (.istore_n 2, 1) := by decide +kernel
theorem dX5_firstDoneThatMeets_2 : decode cX5_firstDoneThatMeets 2 = .ok (.iload_n 2, 1) := by decide +kernel
theorem dX5_firstDoneThatMeets_3 : decode cX5_firstDoneThatMeets 3 = .ok (.aload_n 0, 1) := by decide +kernel
theorem dX5_firstDoneThatMeets_4 : decode cX5_firstDoneThatMeets 4 = .ok (.getfield 25, 3) := by decide +kernel
theorem dX5_firstDoneThatMeets_7 : decode cX5_firstDoneThatMeets 7 = .ok (.if_icmp .ge 41, 3) := by decide +kernel
theorem dX5_firstDoneThatMeets_10 : decode cX5_firstDoneThatMeets 10 = .ok (.aload_n 0, 1) := by decide +kernel
theorem dX5_firstDoneThatMeets_11 : decode cX5_firstDoneThatMeets 11 = .ok (.iload_n 2, 1) := by decide +kernel
theorem dX5_firstDoneThatMeets_12 : decode cX5_firstDoneThatMeets 12 = .ok (.invokevirtual 39, 3) := by decide +kernel
theorem dX5_firstDoneThatMeets_15 : decode cX5_firstDoneThatMeets 15 = .ok (.astore_n 3, 1) := by decide +kernel
theorem dX5_firstDoneThatMeets_16 : decode cX5_firstDoneThatMeets 16 = .ok (.aload_n 3, 1) := by decide +kernel
theorem dX5_firstDoneThatMeets_17 : decode cX5_firstDoneThatMeets 17 = .ok (.ifnull 25, 3) := by decide +kernel
theorem dX5_firstDoneThatMeets_20 : decode cX5_firstDoneThatMeets 20 = .ok (.aload_n 3, 1) := by decide +kernel
theorem dX5_firstDoneThatMeets_21 : decode cX5_firstDoneThatMeets 21 = .ok (.aload_n 1, 1) := by decide +kernel
theorem dX5_firstDoneThatMeets_22 : decode cX5_firstDoneThatMeets 22 = .ok (.if_acmp .eq 20, 3) := by decide +kernel
theorem dX5_firstDoneThatMeets_25 : decode cX5_firstDoneThatMeets 25 = .ok (.aload_n 3, 1) := by decide +kernel
theorem dX5_firstDoneThatMeets_26 : decode cX5_firstDoneThatMeets 26 = .ok (.getfield 63, 3) := by decide +kernel
theorem dX5_firstDoneThatMeets_29 : decode cX5_firstDoneThatMeets 29 = .ok (.ifCond .ne 13, 3) := by decide +kernel
theorem dX5_firstDoneThatMeets_32 : decode cX5_firstDoneThatMeets 32 = .ok (.aload_n 1, 1) := by decide +kernel
theorem dX5_firstDoneThatMeets_33 : decode cX5_firstDoneThatMeets 33 = .ok (.aload_n 3, 1) := by decide +kernel
theorem dX5_firstDoneThatMeets_34 : decode cX5_firstDoneThatMeets 34 = .ok (.invokevirtual 83, 3) := by decide +kernel
theorem dX5_firstDoneThatMeets_37 : decode cX5_firstDoneThatMeets 37 = .ok (.ifCond .eq 5, 3) := by decide +kernel
theorem dX5_firstDoneThatMeets_40 : decode cX5_firstDoneThatMeets 40 = .ok (.iload_n 2, 1) := by decide +kernel
theorem dX5_firstDoneThatMeets_41 : decode cX5_firstDoneThatMeets 41 = .ok (.ireturn, 1) := by decide +kernel
theorem dX5_firstDoneThatMeets_42 : decode cX5_firstDoneThatMeets 42 = .ok (.iinc 2 1, 3) := by decide +kernel
theorem dX5_firstDoneThatMeets_45 : decode cX5_firstDoneThatMeets 45 = .ok (.goto (-43), 3) := by decide +kernel
theorem dX5_firstDoneThatMeets_48 : decode cX5_firstDoneThatMeets 48 = .ok (.iconst (-1), 1) := by decide +kernel
theorem dX5_firstDoneThatMeets_49 : decode cX5_firstDoneThatMeets 49 = .ok (.ireturn, 1) := by decide +kernel
theorem dX5_listDone_0 : decode cX5_listDone 0 = .ok (.aload_n 0, 1) := by decide +kernel
theorem dX5_listDone_1 : decode cX5_listDone 1 = .ok (.iconst 0, 1) := by decide +kernel
theorem dX5_listDone_2 : decode cX5_listDone 2 = .ok (.putfield 32, 3) := by decide +kernel
theorem dX5_listDone_5 : decode cX5_listDone 5 = .ok (.iconst 0, 1) := by decide +kernel
theorem dX5_listDone_6 : decode cX5_listDone 6 = .ok (.istore_n 1, 1) := by decide +kernel
theorem dX5_listDone_7 : decode cX5_listDone 7 = .ok (.iload_n 1, 1) := by decide +kernel
theorem dX5_listDone_8 : decode cX5_listDone 8 = .ok (.aload_n 0, 1) := by decide +kernel
theorem dX5_listDone_9 : decode cX5_listDone 9 = .ok (.getfield 25, 3) := by decide +kernel
theorem dX5_listDone_12 : decode cX5_listDone 12 = .ok (.if_icmp .ge 58, 3) := by decide +kernel
theorem dX5_listDone_15 : decode cX5_listDone 15 = .ok (.aload_n 0, 1) := by decide +kernel
theorem dX5_listDone_16 : decode cX5_listDone 16 = .ok (.iload_n 1, 1) := by decide +kernel
theorem dX5_listDone_17 : decode cX5_listDone 17 = .ok (.invokevirtual 39, 3) := by decide +kernel
theorem dX5_listDone_20 : decode cX5_listDone 20 = .ok (.astore_n 2, 1) := by decide +kernel
theorem dX5_listDone_21 : decode cX5_listDone 21 = .ok (.aload_n 2, 1) := by decide +kernel
theorem dX5_listDone_22 : decode cX5_listDone 22 = .ok (.ifnull 42, 3) := by decide +kernel
theorem dX5_listDone_25 : decode cX5_listDone 25 = .ok (.aload_n 2, 1) := by decide +kernel
theorem dX5_listDone_26 : decode cX5_listDone 26 = .ok (.getfield 63, 3) := by decide +kernel
theorem dX5_listDone_29 : decode cX5_listDone 29 = .ok (.ifCond .ne 35, 3) := by decide +kernel
theorem dX5_listDone_32 : decode cX5_listDone 32 = .ok (.aload_n 0, 1) := by decide +kernel
theorem dX5_listDone_33 : decode cX5_listDone 33 = .ok (.getfield 32, 3) := by decide +kernel
theorem dX5_listDone_36 : decode cX5_listDone 36 = .ok (.aload_n 0, 1) := by decide +kernel
theorem dX5_listDone_37 : decode cX5_listDone 37 = .ok (.getfield 21, 3) := by decide +kernel
theorem dX5_listDone_40 : decode cX5_listDone 40 = .ok (.arraylength, 1) := by decide +kernel
theorem dX5_listDone_41 : decode cX5_listDone 41 = .ok (.if_icmp .ge 23, 3) := by decide +kernel
theorem dX5_listDone_44 : decode cX5_listDone 44 = .ok (.aload_n 0, 1) := by decide +kernel
theorem dX5_listDone_45 : decode cX5_listDone 45 = .ok (.getfield 21, 3) := by decide +kernel
theorem dX5_listDone_48 : decode cX5_listDone 48 = .ok (.aload_n 0, 1) := by decide +kernel
theorem dX5_listDone_49 : decode cX5_listDone 49 = .ok (.getfield 32, 3) := by decide +kernel
theorem dX5_listDone_52 : decode cX5_listDone 52 = .ok (.iload_n 1, 1) := by decide +kernel
theorem dX5_listDone_53 : decode cX5_listDone 53 = .ok (.iastore, 1) := by decide +kernel
theorem dX5_listDone_54 : decode cX5_listDone 54 = .ok (.aload_n 0, 1) := by decide +kernel
theorem dX5_listDone_55 : decode cX5_listDone 55 = .ok (.dup, 1) := by decide +kernel
theorem dX5_listDone_56 : decode cX5_listDone 56 = .ok (.getfield 32, 3) := by decide +kernel
theorem dX5_listDone_59 : decode cX5_listDone 59 = .ok (.iconst 1, 1) := by decide +kernel
theorem dX5_listDone_60 : decode cX5_listDone 60 = .ok (.iadd, 1) := by decide +kernel
theorem dX5_listDone_61 : decode cX5_listDone 61 = .ok (.putfield 32, 3) := by decide +kernel
theorem dX5_listDone_64 : decode cX5_listDone 64 = .ok (.iinc 1 1, 3) := by decide +kernel
theorem dX5_listDone_67 : decode cX5_listDone 67 = .ok (.goto (-60), 3) := by decide +kernel
theorem dX5_listDone_70 : decode cX5_listDone 70 = .ok (.return_, 1) := by decide +kernel
theorem dX5_doneNumber_0 : decode cX5_doneNumber 0 = .ok (.iload_n 1, 1) := by decide +kernel
theorem dX5_doneNumber_1 : decode cX5_doneNumber 1 = .ok (.ifCond .lt 20, 3) := by decide +kernel
theorem dX5_doneNumber_4 : decode cX5_doneNumber 4 = .ok (.iload_n 1, 1) := by decide +kernel
theorem dX5_doneNumber_5 : decode cX5_doneNumber 5 = .ok (.aload_n 0, 1) := by decide +kernel
theorem dX5_doneNumber_6 : decode cX5_doneNumber 6 = .ok (.getfield 32, 3) := by decide +kernel
theorem dX5_doneNumber_9 : decode cX5_doneNumber 9 = .ok (.if_icmp .ge 12, 3) := by decide +kernel
theorem dX5_doneNumber_12 : decode cX5_doneNumber 12 = .ok (.iload_n 1, 1) := by decide +kernel
theorem dX5_doneNumber_13 : decode cX5_doneNumber 13 = .ok (.aload_n 0, 1) := by decide +kernel
theorem dX5_doneNumber_14 : decode cX5_doneNumber 14 = .ok (.getfield 21, 3) := by decide +kernel
theorem dX5_doneNumber_17 : decode cX5_doneNumber 17 = .ok (.arraylength, 1) := by decide +kernel
theorem dX5_doneNumber_18 : decode cX5_doneNumber 18 = .ok (.if_icmp .lt 7, 3) := by decide +kernel
theorem dX5_doneNumber_21 : decode cX5_doneNumber 21 = .ok (.iconst (-1), 1) := by decide +kernel
theorem dX5_doneNumber_22 : decode cX5_doneNumber 22 = .ok (.goto 9, 3) := by decide +kernel
theorem dX5_doneNumber_25 : decode cX5_doneNumber 25 = .ok (.aload_n 0, 1) := by decide +kernel
theorem dX5_doneNumber_26 : decode cX5_doneNumber 26 = .ok (.getfield 21, 3) := by decide +kernel
theorem dX5_doneNumber_29 : decode cX5_doneNumber 29 = .ok (.iload_n 1, 1) := by decide +kernel
theorem dX5_doneNumber_30 : decode cX5_doneNumber 30 = .ok (.iaload, 1) := by decide +kernel
theorem dX5_doneNumber_31 : decode cX5_doneNumber 31 = .ok (.ireturn, 1) := by decide +kernel
theorem dX5_tally_0 : decode cX5_tally 0 = .ok (.iconst 0, 1) := by decide +kernel
theorem dX5_tally_1 : decode cX5_tally 1 = .ok (.istore_n 2, 1) := by decide +kernel
theorem dX5_tally_2 : decode cX5_tally 2 = .ok (.iconst 0, 1) := by decide +kernel
theorem dX5_tally_3 : decode cX5_tally 3 = .ok (.istore_n 3, 1) := by decide +kernel
theorem dX5_tally_4 : decode cX5_tally 4 = .ok (.iload_n 3, 1) := by decide +kernel
theorem dX5_tally_5 : decode cX5_tally 5 = .ok (.aload_n 0, 1) := by decide +kernel
theorem dX5_tally_6 : decode cX5_tally 6 = .ok (.getfield 25, 3) := by decide +kernel
theorem dX5_tally_9 : decode cX5_tally 9 = .ok (.if_icmp .ge 33, 3) := by decide +kernel
theorem dX5_tally_12 : decode cX5_tally 12 = .ok (.aload_n 0, 1) := by decide +kernel
theorem dX5_tally_13 : decode cX5_tally 13 = .ok (.iload_n 3, 1) := by decide +kernel
theorem dX5_tally_14 : decode cX5_tally 14 = .ok (.invokevirtual 39, 3) := by decide +kernel
theorem dX5_tally_17 : decode cX5_tally 17 = .ok (.astore 4, 2) := by decide +kernel
theorem dX5_tally_19 : decode cX5_tally 19 = .ok (.aload 4, 2) := by decide +kernel
theorem dX5_tally_21 : decode cX5_tally 21 = .ok (.ifnull 15, 3) := by decide +kernel
theorem dX5_tally_24 : decode cX5_tally 24 = .ok (.aload 4, 2) := by decide +kernel
theorem dX5_tally_26 : decode cX5_tally 26 = .ok (.getfield 63, 3) := by decide +kernel
theorem dX5_tally_29 : decode cX5_tally 29 = .ok (.iload_n 1, 1) := by decide +kernel
theorem dX5_tally_30 : decode cX5_tally 30 = .ok (.if_icmp .ne 6, 3) := by decide +kernel
theorem dX5_tally_33 : decode cX5_tally 33 = .ok (.iinc 2 1, 3) := by decide +kernel
theorem dX5_tally_36 : decode cX5_tally 36 = .ok (.iinc 3 1, 3) := by decide +kernel
theorem dX5_tally_39 : decode cX5_tally 39 = .ok (.goto (-35), 3) := by decide +kernel
theorem dX5_tally_42 : decode cX5_tally 42 = .ok (.iload_n 2, 1) := by decide +kernel
theorem dX5_tally_43 : decode cX5_tally 43 = .ok (.ireturn, 1) := by decide +kernel
theorem dX6_init_0 : decode cX6_init 0 = .ok (.aload_n 0, 1) := by decide +kernel
theorem dX6_init_1 : decode cX6_init 1 = .ok (.invokespecial 3, 3) := by decide +kernel
theorem dX6_init_4 : decode cX6_init 4 = .ok (.aload_n 0, 1) := by decide +kernel
theorem dX6_init_5 : decode cX6_init 5 = .ok (.sipush 301, 3) := by decide +kernel
theorem dX6_init_8 : decode cX6_init 8 = .ok (.newarray .int, 2) := by decide +kernel
theorem dX6_init_10 : decode cX6_init 10 = .ok (.putfield 9, 3) := by decide +kernel
theorem dX6_init_13 : decode cX6_init 13 = .ok (.return_, 1) := by decide +kernel
theorem dX6_measure_0 : decode cX6_measure 0 = .ok (.iconst 0, 1) := by decide +kernel
theorem dX6_measure_1 : decode cX6_measure 1 = .ok (.aload_n 1, 1) := by decide +kernel
theorem dX6_measure_2 : decode cX6_measure 2 = .ok (.getfield 15, 3) := by decide +kernel
theorem dX6_measure_5 : decode cX6_measure 5 = .ok (.iload_n 2, 1) := by decide +kernel
theorem dX6_measure_6 : decode cX6_measure 6 = .ok (.isub, 1) := by decide +kernel
theorem dX6_measure_7 : decode cX6_measure 7 = .ok (.invokestatic 21, 3) := by decide +kernel
theorem dX6_measure_10 : decode cX6_measure 10 = .ok (.istore 6, 2) := by decide +kernel
theorem dX6_measure_12 : decode cX6_measure 12 = .ok (.iconst 0, 1) := by decide +kernel
theorem dX6_measure_13 : decode cX6_measure 13 = .ok (.aload_n 3, 1) := by decide +kernel
theorem dX6_measure_14 : decode cX6_measure 14 = .ok (.getfield 15, 3) := by decide +kernel
theorem dX6_measure_17 : decode cX6_measure 17 = .ok (.iload 4, 2) := by decide +kernel
theorem dX6_measure_19 : decode cX6_measure 19 = .ok (.isub, 1) := by decide +kernel
theorem dX6_measure_20 : decode cX6_measure 20 = .ok (.invokestatic 21, 3) := by decide +kernel
theorem dX6_measure_23 : decode cX6_measure 23 = .ok (.istore 7, 2) := by decide +kernel
theorem dX6_measure_25 : decode cX6_measure 25 = .ok (.iload 5, 2) := by decide +kernel
theorem dX6_measure_27 : decode cX6_measure 27 = .ok (.iconst 1, 1) := by decide +kernel
theorem dX6_measure_28 : decode cX6_measure 28 = .ok (.iadd, 1) := by decide +kernel
theorem dX6_measure_29 : decode cX6_measure 29 = .ok (.istore 8, 2) := by decide +kernel
theorem dX6_measure_31 : decode cX6_measure 31 = .ok (.iload 6, 2) := by decide +kernel
theorem dX6_measure_33 : decode cX6_measure 33 = .ok (.iload 7, 2) := by decide +kernel
theorem dX6_measure_35 : decode cX6_measure 35 = .ok (.isub, 1) := by decide +kernel
theorem dX6_measure_36 : decode cX6_measure 36 = .ok (.invokestatic 27, 3) := by decide +kernel
theorem dX6_measure_39 : decode cX6_measure 39 = .ok (.iload 5, 2) := by decide +kernel
theorem dX6_measure_41 : decode cX6_measure 41 = .ok (.if_icmp .gt 13, 3) := by decide +kernel
theorem dX6_measure_44 : decode cX6_measure 44 = .ok (.iload 7, 2) := by decide +kernel
theorem dX6_measure_46 : decode cX6_measure 46 = .ok (.aload_n 0, 1) := by decide +kernel
theorem dX6_measure_47 : decode cX6_measure 47 = .ok (.getfield 9, 3) := by decide +kernel
theorem dX6_measure_50 : decode cX6_measure 50 = .ok (.arraylength, 1) := by decide +kernel
theorem dX6_measure_51 : decode cX6_measure 51 = .ok (.if_icmp .lt 6, 3) := by decide +kernel
theorem dX6_measure_54 : decode cX6_measure 54 = .ok (.iload 8, 2) := by decide +kernel
theorem dX6_measure_56 : decode cX6_measure 56 = .ok (.ireturn, 1) := by decide +kernel
theorem dX6_measure_57 : decode cX6_measure 57 = .ok (.iconst 0, 1) := by decide +kernel
theorem dX6_measure_58 : decode cX6_measure 58 = .ok (.istore 9, 2) := by decide +kernel
theorem dX6_measure_60 : decode cX6_measure 60 = .ok (.iload 9, 2) := by decide +kernel
theorem dX6_measure_62 : decode cX6_measure 62 = .ok (.iload 7, 2) := by decide +kernel
theorem dX6_measure_64 : decode cX6_measure 64 = .ok (.if_icmp .gt 18, 3) := by decide +kernel
theorem dX6_measure_67 : decode cX6_measure 67 = .ok (.aload_n 0, 1) := by decide +kernel
theorem dX6_measure_68 : decode cX6_measure 68 = .ok (.getfield 9, 3) := by decide +kernel
theorem dX6_measure_71 : decode cX6_measure 71 = .ok (.iload 9, 2) := by decide +kernel
theorem dX6_measure_73 : decode cX6_measure 73 = .ok (.iload 9, 2) := by decide +kernel
theorem dX6_measure_75 : decode cX6_measure 75 = .ok (.iastore, 1) := by decide +kernel
theorem dX6_measure_76 : decode cX6_measure 76 = .ok (.iinc 9 1, 3) := by decide +kernel
theorem dX6_measure_79 : decode cX6_measure 79 = .ok (.goto (-19), 3) := by decide +kernel
theorem dX6_measure_82 : decode cX6_measure 82 = .ok (.iconst 1, 1) := by decide +kernel
theorem dX6_measure_83 : decode cX6_measure 83 = .ok (.istore 9, 2) := by decide +kernel
theorem dX6_measure_85 : decode cX6_measure 85 = .ok (.iload 9, 2) := by decide +kernel
theorem dX6_measure_87 : decode cX6_measure 87 = .ok (.iload 6, 2) := by decide +kernel
theorem dX6_measure_89 : decode cX6_measure 89 = .ok (.if_icmp .gt 38, 3) := by decide +kernel
theorem dX6_measure_92 : decode cX6_measure 92 = .ok (.aload_n 0, 1) := by decide +kernel
theorem dX6_measure_93 : decode cX6_measure 93 = .ok (.iload 9, 2) := by decide +kernel
theorem dX6_measure_95 : decode cX6_measure 95 = .ok (.aload_n 1, 1) := by decide +kernel
theorem dX6_measure_96 : decode cX6_measure 96 = .ok (.iload_n 2, 1) := by decide +kernel
theorem dX6_measure_97 : decode cX6_measure 97 = .ok (.iload 9, 2) := by decide +kernel
theorem dX6_measure_99 : decode cX6_measure 99 = .ok (.iadd, 1) := by decide +kernel
theorem dX6_measure_100 : decode cX6_measure 100 = .ok (.iconst 1, 1) := by decide +kernel
theorem dX6_measure_101 : decode cX6_measure 101 = .ok (.isub, 1) := by decide +kernel
theorem dX6_measure_102 : decode cX6_measure 102 = .ok (.invokevirtual 31, 3) := by decide +kernel
theorem dX6_measure_105 : decode cX6_measure 105 = .ok (.aload_n 3, 1) := by decide +kernel
theorem dX6_measure_106 : decode cX6_measure 106 = .ok (.iload 4, 2) := by decide +kernel
theorem dX6_measure_108 : decode cX6_measure 108 = .ok (.iload 5, 2) := by decide +kernel
theorem dX6_measure_110 : decode cX6_measure 110 = .ok (.invokevirtual 35, 3) := by decide +kernel
theorem dX6_measure_113 : decode cX6_measure 113 = .ok (.iload 5, 2) := by decide +kernel
theorem dX6_measure_115 : decode cX6_measure 115 = .ok (.if_icmp .le 6, 3) := by decide +kernel
theorem dX6_measure_118 : decode cX6_measure 118 = .ok (.iload 8, 2) := by decide +kernel
theorem dX6_measure_120 : decode cX6_measure 120 = .ok (.ireturn, 1) := by decide +kernel
theorem dX6_measure_121 : decode cX6_measure 121 = .ok (.iinc 9 1, 3) := by decide +kernel
theorem dX6_measure_124 : decode cX6_measure 124 = .ok (.goto (-39), 3) := by decide +kernel
theorem dX6_measure_127 : decode cX6_measure 127 = .ok (.aload_n 0, 1) := by decide +kernel
theorem dX6_measure_128 : decode cX6_measure 128 = .ok (.getfield 9, 3) := by decide +kernel
theorem dX6_measure_131 : decode cX6_measure 131 = .ok (.iload 7, 2) := by decide +kernel
theorem dX6_measure_133 : decode cX6_measure 133 = .ok (.iaload, 1) := by decide +kernel
theorem dX6_measure_134 : decode cX6_measure 134 = .ok (.iload 8, 2) := by decide +kernel
theorem dX6_measure_136 : decode cX6_measure 136 = .ok (.invokestatic 39, 3) := by decide +kernel
theorem dX6_measure_139 : decode cX6_measure 139 = .ok (.ireturn, 1) := by decide +kernel
theorem dX6_fillRow_0 : decode cX6_fillRow 0 = .ok (.iconst 1, 1) := by decide +kernel
theorem dX6_fillRow_1 : decode cX6_fillRow 1 = .ok (.iload_n 1, 1) := by decide +kernel
theorem dX6_fillRow_2 : decode cX6_fillRow 2 = .ok (.iload 6, 2) := by decide +kernel
theorem dX6_fillRow_4 : decode cX6_fillRow 4 = .ok (.isub, 1) := by decide +kernel
theorem dX6_fillRow_5 : decode cX6_fillRow 5 = .ok (.invokestatic 21, 3) := by decide +kernel
theorem dX6_fillRow_8 : decode cX6_fillRow 8 = .ok (.istore 7, 2) := by decide +kernel
theorem dX6_fillRow_10 : decode cX6_fillRow 10 = .ok (.aload 4, 2) := by decide +kernel
theorem dX6_fillRow_12 : decode cX6_fillRow 12 = .ok (.getfield 15, 3) := by decide +kernel
theorem dX6_fillRow_15 : decode cX6_fillRow 15 = .ok (.iload 5, 2) := by decide +kernel
theorem dX6_fillRow_17 : decode cX6_fillRow 17 = .ok (.isub, 1) := by decide +kernel
theorem dX6_fillRow_18 : decode cX6_fillRow 18 = .ok (.iload_n 1, 1) := by decide +kernel
theorem dX6_fillRow_19 : decode cX6_fillRow 19 = .ok (.iload 6, 2) := by decide +kernel
theorem dX6_fillRow_21 : decode cX6_fillRow 21 = .ok (.iadd, 1) := by decide +kernel
theorem dX6_fillRow_22 : decode cX6_fillRow 22 = .ok (.invokestatic 39, 3) := by decide +kernel
theorem dX6_fillRow_25 : decode cX6_fillRow 25 = .ok (.istore 8, 2) := by decide +kernel
theorem dX6_fillRow_27 : decode cX6_fillRow 27 = .ok (.iload 7, 2) := by decide +kernel
theorem dX6_fillRow_29 : decode cX6_fillRow 29 = .ok (.aload_n 0, 1) := by decide +kernel
theorem dX6_fillRow_30 : decode cX6_fillRow 30 = .ok (.getfield 9, 3) := by decide +kernel
theorem dX6_fillRow_33 : decode cX6_fillRow 33 = .ok (.arraylength, 1) := by decide +kernel
theorem dX6_fillRow_34 : decode cX6_fillRow 34 = .ok (.if_icmp .ge 13, 3) := by decide +kernel
theorem dX6_fillRow_37 : decode cX6_fillRow 37 = .ok (.iload 8, 2) := by decide +kernel
theorem dX6_fillRow_39 : decode cX6_fillRow 39 = .ok (.aload_n 0, 1) := by decide +kernel
theorem dX6_fillRow_40 : decode cX6_fillRow 40 = .ok (.getfield 9, 3) := by decide +kernel
theorem dX6_fillRow_43 : decode cX6_fillRow 43 = .ok (.arraylength, 1) := by decide +kernel
theorem dX6_fillRow_44 : decode cX6_fillRow 44 = .ok (.if_icmp .lt 8, 3) := by decide +kernel
theorem dX6_fillRow_47 : decode cX6_fillRow 47 = .ok (.iload 6, 2) := by decide +kernel
theorem dX6_fillRow_49 : decode cX6_fillRow 49 = .ok (.iconst 1, 1) := by decide +kernel
theorem dX6_fillRow_50 : decode cX6_fillRow 50 = .ok (.iadd, 1) := by decide +kernel
theorem dX6_fillRow_51 : decode cX6_fillRow 51 = .ok (.ireturn, 1) := by decide +kernel
theorem dX6_fillRow_52 : decode cX6_fillRow 52 = .ok (.aload_n 0, 1) := by decide +kernel
theorem dX6_fillRow_53 : decode cX6_fillRow 53 = .ok (.getfield 9, 3) := by decide +kernel
theorem dX6_fillRow_56 : decode cX6_fillRow 56 = .ok (.iload 7, 2) := by decide +kernel
theorem dX6_fillRow_58 : decode cX6_fillRow 58 = .ok (.iconst 1, 1) := by decide +kernel
theorem dX6_fillRow_59 : decode cX6_fillRow 59 = .ok (.isub, 1) := by decide +kernel
theorem dX6_fillRow_60 : decode cX6_fillRow 60 = .ok (.iaload, 1) := by decide +kernel
theorem dX6_fillRow_61 : decode cX6_fillRow 61 = .ok (.istore 9, 2) := by decide +kernel
theorem dX6_fillRow_63 : decode cX6_fillRow 63 = .ok (.aload_n 0, 1) := by decide +kernel
theorem dX6_fillRow_64 : decode cX6_fillRow 64 = .ok (.getfield 9, 3) := by decide +kernel
theorem dX6_fillRow_67 : decode cX6_fillRow 67 = .ok (.iload 7, 2) := by decide +kernel
theorem dX6_fillRow_69 : decode cX6_fillRow 69 = .ok (.iconst 1, 1) := by decide +kernel
theorem dX6_fillRow_70 : decode cX6_fillRow 70 = .ok (.isub, 1) := by decide +kernel
theorem dX6_fillRow_71 : decode cX6_fillRow 71 = .ok (.iload 7, 2) := by decide +kernel
theorem dX6_fillRow_73 : decode cX6_fillRow 73 = .ok (.iconst 1, 1) := by decide +kernel
theorem dX6_fillRow_74 : decode cX6_fillRow 74 = .ok (.if_icmp .ne 7, 3) := by decide +kernel
theorem dX6_fillRow_77 : decode cX6_fillRow 77 = .ok (.iload_n 1, 1) := by decide +kernel
theorem dX6_fillRow_78 : decode cX6_fillRow 78 = .ok (.goto 7, 3) := by decide +kernel
theorem dX6_fillRow_81 : decode cX6_fillRow 81 = .ok (.iload 6, 2) := by decide +kernel
theorem dX6_fillRow_83 : decode cX6_fillRow 83 = .ok (.iconst 1, 1) := by decide +kernel
theorem dX6_fillRow_84 : decode cX6_fillRow 84 = .ok (.iadd, 1) := by decide +kernel
theorem dX6_fillRow_85 : decode cX6_fillRow 85 = .ok (.iastore, 1) := by decide +kernel
theorem dX6_fillRow_86 : decode cX6_fillRow 86 = .ok (.aload_n 0, 1) := by decide +kernel
theorem dX6_fillRow_87 : decode cX6_fillRow 87 = .ok (.getfield 9, 3) := by decide +kernel
theorem dX6_fillRow_90 : decode cX6_fillRow 90 = .ok (.iload 7, 2) := by decide +kernel
theorem dX6_fillRow_92 : decode cX6_fillRow 92 = .ok (.iconst 1, 1) := by decide +kernel
theorem dX6_fillRow_93 : decode cX6_fillRow 93 = .ok (.isub, 1) := by decide +kernel
theorem dX6_fillRow_94 : decode cX6_fillRow 94 = .ok (.iaload, 1) := by decide +kernel
theorem dX6_fillRow_95 : decode cX6_fillRow 95 = .ok (.istore 10, 2) := by decide +kernel
theorem dX6_fillRow_97 : decode cX6_fillRow 97 = .ok (.iload 7, 2) := by decide +kernel
theorem dX6_fillRow_99 : decode cX6_fillRow 99 = .ok (.istore 11, 2) := by decide +kernel
theorem dX6_fillRow_101 : decode cX6_fillRow 101 = .ok (.iload 11, 2) := by decide +kernel
theorem dX6_fillRow_103 : decode cX6_fillRow 103 = .ok (.iload 8, 2) := by decide +kernel
theorem dX6_fillRow_105 : decode cX6_fillRow 105 = .ok (.if_icmp .gt 93, 3) := by decide +kernel
theorem dX6_fillRow_108 : decode cX6_fillRow 108 = .ok (.aload_n 0, 1) := by decide +kernel
theorem dX6_fillRow_109 : decode cX6_fillRow 109 = .ok (.getfield 9, 3) := by decide +kernel
theorem dX6_fillRow_112 : decode cX6_fillRow 112 = .ok (.iload 11, 2) := by decide +kernel
theorem dX6_fillRow_114 : decode cX6_fillRow 114 = .ok (.iaload, 1) := by decide +kernel
theorem dX6_fillRow_115 : decode cX6_fillRow 115 = .ok (.istore 12, 2) := by decide +kernel
theorem dX6_fillRow_117 : decode cX6_fillRow 117 = .ok (.aload 4, 2) := by decide +kernel
theorem dX6_fillRow_119 : decode cX6_fillRow 119 = .ok (.iload 5, 2) := by decide +kernel
theorem dX6_fillRow_121 : decode cX6_fillRow 121 = .ok (.iload 11, 2) := by decide +kernel
theorem dX6_fillRow_123 : decode cX6_fillRow 123 = .ok (.iadd, 1) := by decide +kernel
theorem dX6_fillRow_124 : decode cX6_fillRow 124 = .ok (.iconst 1, 1) := by decide +kernel
theorem dX6_fillRow_125 : decode cX6_fillRow 125 = .ok (.isub, 1) := by decide +kernel
theorem dX6_fillRow_126 : decode cX6_fillRow 126 = .ok (.invokevirtual 31, 3) := by decide +kernel
theorem dX6_fillRow_129 : decode cX6_fillRow 129 = .ok (.lload_n 2, 1) := by decide +kernel
theorem dX6_fillRow_130 : decode cX6_fillRow 130 = .ok (.lcmp, 1) := by decide +kernel
theorem dX6_fillRow_131 : decode cX6_fillRow 131 = .ok (.ifCond .ne 15, 3) := by decide +kernel
theorem dX6_fillRow_134 : decode cX6_fillRow 134 = .ok (.aload_n 0, 1) := by decide +kernel
theorem dX6_fillRow_135 : decode cX6_fillRow 135 = .ok (.getfield 9, 3) := by decide +kernel
theorem dX6_fillRow_138 : decode cX6_fillRow 138 = .ok (.iload 11, 2) := by decide +kernel
theorem dX6_fillRow_140 : decode cX6_fillRow 140 = .ok (.iload 9, 2) := by decide +kernel
theorem dX6_fillRow_142 : decode cX6_fillRow 142 = .ok (.iastore, 1) := by decide +kernel
theorem dX6_fillRow_143 : decode cX6_fillRow 143 = .ok (.goto 31, 3) := by decide +kernel
theorem dX6_fillRow_146 : decode cX6_fillRow 146 = .ok (.aload_n 0, 1) := by decide +kernel
theorem dX6_fillRow_147 : decode cX6_fillRow 147 = .ok (.getfield 9, 3) := by decide +kernel
theorem dX6_fillRow_150 : decode cX6_fillRow 150 = .ok (.iload 11, 2) := by decide +kernel
theorem dX6_fillRow_152 : decode cX6_fillRow 152 = .ok (.iconst 1, 1) := by decide +kernel
theorem dX6_fillRow_153 : decode cX6_fillRow 153 = .ok (.iload 9, 2) := by decide +kernel
theorem dX6_fillRow_155 : decode cX6_fillRow 155 = .ok (.iload 12, 2) := by decide +kernel
theorem dX6_fillRow_157 : decode cX6_fillRow 157 = .ok (.aload_n 0, 1) := by decide +kernel
theorem dX6_fillRow_158 : decode cX6_fillRow 158 = .ok (.getfield 9, 3) := by decide +kernel
theorem dX6_fillRow_161 : decode cX6_fillRow 161 = .ok (.iload 11, 2) := by decide +kernel
theorem dX6_fillRow_163 : decode cX6_fillRow 163 = .ok (.iconst 1, 1) := by decide +kernel
theorem dX6_fillRow_164 : decode cX6_fillRow 164 = .ok (.isub, 1) := by decide +kernel
theorem dX6_fillRow_165 : decode cX6_fillRow 165 = .ok (.iaload, 1) := by decide +kernel
theorem dX6_fillRow_166 : decode cX6_fillRow 166 = .ok (.invokestatic 39, 3) := by decide +kernel
theorem dX6_fillRow_169 : decode cX6_fillRow 169 = .ok (.invokestatic 39, 3) := by decide +kernel
theorem dX6_fillRow_172 : decode cX6_fillRow 172 = .ok (.iadd, 1) := by decide +kernel
theorem dX6_fillRow_173 : decode cX6_fillRow 173 = .ok (.iastore, 1) := by decide +kernel
theorem dX6_fillRow_174 : decode cX6_fillRow 174 = .ok (.iload 12, 2) := by decide +kernel
theorem dX6_fillRow_176 : decode cX6_fillRow 176 = .ok (.istore 9, 2) := by decide +kernel
theorem dX6_fillRow_178 : decode cX6_fillRow 178 = .ok (.iload 10, 2) := by decide +kernel
theorem dX6_fillRow_180 : decode cX6_fillRow 180 = .ok (.aload_n 0, 1) := by decide +kernel
theorem dX6_fillRow_181 : decode cX6_fillRow 181 = .ok (.getfield 9, 3) := by decide +kernel
theorem dX6_fillRow_184 : decode cX6_fillRow 184 = .ok (.iload 11, 2) := by decide +kernel
theorem dX6_fillRow_186 : decode cX6_fillRow 186 = .ok (.iaload, 1) := by decide +kernel
theorem dX6_fillRow_187 : decode cX6_fillRow 187 = .ok (.invokestatic 39, 3) := by decide +kernel
theorem dX6_fillRow_190 : decode cX6_fillRow 190 = .ok (.istore 10, 2) := by decide +kernel
theorem dX6_fillRow_192 : decode cX6_fillRow 192 = .ok (.iinc 11 1, 3) := by decide +kernel
theorem dX6_fillRow_195 : decode cX6_fillRow 195 = .ok (.goto (-94), 3) := by decide +kernel
theorem dX6_fillRow_198 : decode cX6_fillRow 198 = .ok (.iload 10, 2) := by decide +kernel
theorem dX6_fillRow_200 : decode cX6_fillRow 200 = .ok (.ireturn, 1) := by decide +kernel
theorem dX7_init_0 : decode cX7_init 0 = .ok (.aload_n 0, 1) := by decide +kernel
theorem dX7_init_1 : decode cX7_init 1 = .ok (.invokespecial 3, 3) := by decide +kernel
theorem dX7_init_4 : decode cX7_init 4 = .ok (.aload_n 0, 1) := by decide +kernel
theorem dX7_init_5 : decode cX7_init 5 = .ok (.bipush 40, 2) := by decide +kernel
theorem dX7_init_7 : decode cX7_init 7 = .ok (.anewarray 9, 3) := by decide +kernel
theorem dX7_init_10 : decode cX7_init 10 = .ok (.putfield 11, 3) := by decide +kernel
theorem dX7_init_13 : decode cX7_init 13 = .ok (.aload_n 0, 1) := by decide +kernel
theorem dX7_init_14 : decode cX7_init 14 = .ok (.bipush 40, 2) := by decide +kernel
theorem dX7_init_16 : decode cX7_init 16 = .ok (.newarray .boolean, 2) := by decide +kernel
theorem dX7_init_18 : decode cX7_init 18 = .ok (.putfield 17, 3) := by decide +kernel
theorem dX7_init_21 : decode cX7_init 21 = .ok (.return_, 1) := by decide +kernel
theorem dX7_takeDone_0 : decode cX7_takeDone 0 = .ok (.aload_n 0, 1) := by decide +kernel
theorem dX7_takeDone_1 : decode cX7_takeDone 1 = .ok (.iconst 0, 1) := by decide +kernel
theorem dX7_takeDone_2 : decode cX7_takeDone 2 = .ok (.putfield 21, 3) := by decide +kernel
theorem dX7_takeDone_5 : decode cX7_takeDone 5 = .ok (.iconst 0, 1) := by decide +kernel
theorem dX7_takeDone_6 : decode cX7_takeDone 6 = .ok (.istore_n 3, 1) := by decide +kernel
theorem dX7_takeDone_7 : decode cX7_takeDone 7 = .ok (.iload_n 3, 1) := by decide +kernel
theorem dX7_takeDone_8 : decode cX7_takeDone 8 = .ok (.aload_n 1, 1) := by decide +kernel
theorem dX7_takeDone_9 : decode cX7_takeDone 9 = .ok (.getfield 25, 3) := by decide +kernel
theorem dX7_takeDone_12 : decode cX7_takeDone 12 = .ok (.if_icmp .ge 95, 3) := by decide +kernel
theorem dX7_takeDone_15 : decode cX7_takeDone 15 = .ok (.iload_n 3, 1) := by decide +kernel
theorem dX7_takeDone_16 : decode cX7_takeDone 16 = .ok (.bipush 8, 2) := by decide +kernel
theorem dX7_takeDone_18 : decode cX7_takeDone 18 = .ok (.if_icmp .ge 16, 3) := by decide +kernel
theorem dX7_takeDone_21 : decode cX7_takeDone 21 = .ok (.iload_n 2, 1) := by decide +kernel
theorem dX7_takeDone_22 : decode cX7_takeDone 22 = .ok (.iload_n 3, 1) := by decide +kernel
theorem dX7_takeDone_23 : decode cX7_takeDone 23 = .ok (.ishr, 1) := by decide +kernel
theorem dX7_takeDone_24 : decode cX7_takeDone 24 = .ok (.iconst 1, 1) := by decide +kernel
theorem dX7_takeDone_25 : decode cX7_takeDone 25 = .ok (.iand, 1) := by decide +kernel
theorem dX7_takeDone_26 : decode cX7_takeDone 26 = .ok (.iconst 1, 1) := by decide +kernel
theorem dX7_takeDone_27 : decode cX7_takeDone 27 = .ok (.if_icmp .ne 7, 3) := by decide +kernel
theorem dX7_takeDone_30 : decode cX7_takeDone 30 = .ok (.iconst 1, 1) := by decide +kernel
theorem dX7_takeDone_31 : decode cX7_takeDone 31 = .ok (.goto 4, 3) := by decide +kernel
theorem dX7_takeDone_34 : decode cX7_takeDone 34 = .ok (.iconst 0, 1) := by decide +kernel
theorem dX7_takeDone_35 : decode cX7_takeDone 35 = .ok (.istore 4, 2) := by decide +kernel
theorem dX7_takeDone_37 : decode cX7_takeDone 37 = .ok (.aload_n 1, 1) := by decide +kernel
theorem dX7_takeDone_38 : decode cX7_takeDone 38 = .ok (.aload_n 1, 1) := by decide +kernel
theorem dX7_takeDone_39 : decode cX7_takeDone 39 = .ok (.iload_n 3, 1) := by decide +kernel
theorem dX7_takeDone_40 : decode cX7_takeDone 40 = .ok (.invokevirtual 30, 3) := by decide +kernel
theorem dX7_takeDone_43 : decode cX7_takeDone 43 = .ok (.invokevirtual 34, 3) := by decide +kernel
theorem dX7_takeDone_46 : decode cX7_takeDone 46 = .ok (.astore 5, 2) := by decide +kernel
theorem dX7_takeDone_48 : decode cX7_takeDone 48 = .ok (.iload 4, 2) := by decide +kernel
theorem dX7_takeDone_50 : decode cX7_takeDone 50 = .ok (.ifCond .ne 51, 3) := by decide +kernel
theorem dX7_takeDone_53 : decode cX7_takeDone 53 = .ok (.aload 5, 2) := by decide +kernel
theorem dX7_takeDone_55 : decode cX7_takeDone 55 = .ok (.ifnull 46, 3) := by decide +kernel
theorem dX7_takeDone_58 : decode cX7_takeDone 58 = .ok (.aload_n 0, 1) := by decide +kernel
theorem dX7_takeDone_59 : decode cX7_takeDone 59 = .ok (.getfield 21, 3) := by decide +kernel
theorem dX7_takeDone_62 : decode cX7_takeDone 62 = .ok (.aload_n 0, 1) := by decide +kernel
theorem dX7_takeDone_63 : decode cX7_takeDone 63 = .ok (.getfield 11, 3) := by decide +kernel
theorem dX7_takeDone_66 : decode cX7_takeDone 66 = .ok (.arraylength, 1) := by decide +kernel
theorem dX7_takeDone_67 : decode cX7_takeDone 67 = .ok (.if_icmp .ge 34, 3) := by decide +kernel
theorem dX7_takeDone_70 : decode cX7_takeDone 70 = .ok (.aload_n 0, 1) := by decide +kernel
theorem dX7_takeDone_71 : decode cX7_takeDone 71 = .ok (.getfield 11, 3) := by decide +kernel
theorem dX7_takeDone_74 : decode cX7_takeDone 74 = .ok (.aload_n 0, 1) := by decide +kernel
theorem dX7_takeDone_75 : decode cX7_takeDone 75 = .ok (.getfield 21, 3) := by decide +kernel
theorem dX7_takeDone_78 : decode cX7_takeDone 78 = .ok (.aload 5, 2) := by decide +kernel
theorem dX7_takeDone_80 : decode cX7_takeDone 80 = .ok (.aastore, 1) := by decide +kernel
theorem dX7_takeDone_81 : decode cX7_takeDone 81 = .ok (.aload_n 0, 1) := by decide +kernel
theorem dX7_takeDone_82 : decode cX7_takeDone 82 = .ok (.getfield 17, 3) := by decide +kernel
theorem dX7_takeDone_85 : decode cX7_takeDone 85 = .ok (.aload_n 0, 1) := by decide +kernel
theorem dX7_takeDone_86 : decode cX7_takeDone 86 = .ok (.getfield 21, 3) := by decide +kernel
theorem dX7_takeDone_89 : decode cX7_takeDone 89 = .ok (.iconst 0, 1) := by decide +kernel
theorem dX7_takeDone_90 : decode cX7_takeDone 90 = .ok (.bastore, 1) := by decide +kernel
theorem dX7_takeDone_91 : decode cX7_takeDone 91 = .ok (.aload_n 0, 1) := by decide +kernel
theorem dX7_takeDone_92 : decode cX7_takeDone 92 = .ok (.dup, 1) := by decide +kernel
theorem dX7_takeDone_93 : decode cX7_takeDone 93 = .ok (.getfield 21, 3) := by decide +kernel
theorem dX7_takeDone_96 : decode cX7_takeDone 96 = .ok (.iconst 1, 1) := by decide +kernel
theorem dX7_takeDone_97 : decode cX7_takeDone 97 = .ok (.iadd, 1) := by decide +kernel
theorem dX7_takeDone_98 : decode cX7_takeDone 98 = .ok (.putfield 21, 3) := by decide +kernel
theorem dX7_takeDone_101 : decode cX7_takeDone 101 = .ok (.iinc 3 1, 3) := by decide +kernel
theorem dX7_takeDone_104 : decode cX7_takeDone 104 = .ok (.goto (-97), 3) := by decide +kernel
theorem dX7_takeDone_107 : decode cX7_takeDone 107 = .ok (.return_, 1) := by decide +kernel
theorem dX7_make_0 : decode cX7_make 0 = .ok (.aload_n 0, 1) := by decide +kernel
theorem dX7_make_1 : decode cX7_make 1 = .ok (.aload_n 1, 1) := by decide +kernel
theorem dX7_make_2 : decode cX7_make 2 = .ok (.putfield 38, 3) := by decide +kernel
theorem dX7_make_5 : decode cX7_make 5 = .ok (.aload_n 0, 1) := by decide +kernel
theorem dX7_make_6 : decode cX7_make 6 = .ok (.aload_n 2, 1) := by decide +kernel
theorem dX7_make_7 : decode cX7_make 7 = .ok (.putfield 42, 3) := by decide +kernel
theorem dX7_make_10 : decode cX7_make 10 = .ok (.aload_n 0, 1) := by decide +kernel
theorem dX7_make_11 : decode cX7_make 11 = .ok (.getfield 42, 3) := by decide +kernel
theorem dX7_make_14 : decode cX7_make 14 = .ok (.invokevirtual 45, 3) := by decide +kernel
theorem dX7_make_17 : decode cX7_make 17 = .ok (.aload_n 0, 1) := by decide +kernel
theorem dX7_make_18 : decode cX7_make 18 = .ok (.getfield 38, 3) := by decide +kernel
theorem dX7_make_21 : decode cX7_make 21 = .ok (.getfield 50, 3) := by decide +kernel
theorem dX7_make_24 : decode cX7_make 24 = .ok (.istore_n 3, 1) := by decide +kernel
theorem dX7_make_25 : decode cX7_make 25 = .ok (.iload_n 3, 1) := by decide +kernel
theorem dX7_make_26 : decode cX7_make 26 = .ok (.ifCond .le 18, 3) := by decide +kernel
theorem dX7_make_29 : decode cX7_make 29 = .ok (.aload_n 0, 1) := by decide +kernel
theorem dX7_make_30 : decode cX7_make 30 = .ok (.iconst 0, 1) := by decide +kernel
theorem dX7_make_31 : decode cX7_make 31 = .ok (.iconst 0, 1) := by decide +kernel
theorem dX7_make_32 : decode cX7_make 32 = .ok (.invokevirtual 53, 3) := by decide +kernel
theorem dX7_make_35 : decode cX7_make 35 = .ok (.aload_n 0, 1) := by decide +kernel
theorem dX7_make_36 : decode cX7_make 36 = .ok (.iconst 0, 1) := by decide +kernel
theorem dX7_make_37 : decode cX7_make 37 = .ok (.iload_n 3, 1) := by decide +kernel
theorem dX7_make_38 : decode cX7_make 38 = .ok (.iconst 1, 1) := by decide +kernel
theorem dX7_make_39 : decode cX7_make 39 = .ok (.isub, 1) := by decide +kernel
theorem dX7_make_40 : decode cX7_make 40 = .ok (.iconst 0, 1) := by decide +kernel
theorem dX7_make_41 : decode cX7_make 41 = .ok (.invokevirtual 57, 3) := by decide +kernel
theorem dX7_make_44 : decode cX7_make 44 = .ok (.aload_n 0, 1) := by decide +kernel
theorem dX7_make_45 : decode cX7_make 45 = .ok (.iload_n 3, 1) := by decide +kernel
theorem dX7_make_46 : decode cX7_make 46 = .ok (.iconst 0, 1) := by decide +kernel
theorem dX7_make_47 : decode cX7_make 47 = .ok (.invokevirtual 53, 3) := by decide +kernel
theorem dX7_make_50 : decode cX7_make 50 = .ok (.return_, 1) := by decide +kernel
theorem dX7_setRow_0 : decode cX7_setRow 0 = .ok (.iload_n 3, 1) := by decide +kernel
theorem dX7_setRow_1 : decode cX7_setRow 1 = .ok (.bipush 40, 2) := by decide +kernel
theorem dX7_setRow_3 : decode cX7_setRow 3 = .ok (.if_icmp .le 4, 3) := by decide +kernel
theorem dX7_setRow_6 : decode cX7_setRow 6 = .ok (.return_, 1) := by decide +kernel
theorem dX7_setRow_7 : decode cX7_setRow 7 = .ok (.iload_n 1, 1) := by decide +kernel
theorem dX7_setRow_8 : decode cX7_setRow 8 = .ok (.istore 4, 2) := by decide +kernel
theorem dX7_setRow_10 : decode cX7_setRow 10 = .ok (.iload_n 1, 1) := by decide +kernel
theorem dX7_setRow_11 : decode cX7_setRow 11 = .ok (.istore 5, 2) := by decide +kernel
theorem dX7_setRow_13 : decode cX7_setRow 13 = .ok (.iload 5, 2) := by decide +kernel
theorem dX7_setRow_15 : decode cX7_setRow 15 = .ok (.iload_n 2, 1) := by decide +kernel
theorem dX7_setRow_16 : decode cX7_setRow 16 = .ok (.if_icmp .gt 41, 3) := by decide +kernel
theorem dX7_setRow_19 : decode cX7_setRow 19 = .ok (.iload 5, 2) := by decide +kernel
theorem dX7_setRow_21 : decode cX7_setRow 21 = .ok (.iload 4, 2) := by decide +kernel
theorem dX7_setRow_23 : decode cX7_setRow 23 = .ok (.if_icmp .ge 6, 3) := by decide +kernel
theorem dX7_setRow_26 : decode cX7_setRow 26 = .ok (.goto 25, 3) := by decide +kernel
theorem dX7_setRow_29 : decode cX7_setRow 29 = .ok (.iload 5, 2) := by decide +kernel
theorem dX7_setRow_31 : decode cX7_setRow 31 = .ok (.iload_n 1, 1) := by decide +kernel
theorem dX7_setRow_32 : decode cX7_setRow 32 = .ok (.if_icmp .le 10, 3) := by decide +kernel
theorem dX7_setRow_35 : decode cX7_setRow 35 = .ok (.aload_n 0, 1) := by decide +kernel
theorem dX7_setRow_36 : decode cX7_setRow 36 = .ok (.iload 5, 2) := by decide +kernel
theorem dX7_setRow_38 : decode cX7_setRow 38 = .ok (.iload_n 3, 1) := by decide +kernel
theorem dX7_setRow_39 : decode cX7_setRow 39 = .ok (.invokevirtual 53, 3) := by decide +kernel
theorem dX7_setRow_42 : decode cX7_setRow 42 = .ok (.aload_n 0, 1) := by decide +kernel
theorem dX7_setRow_43 : decode cX7_setRow 43 = .ok (.iload 5, 2) := by decide +kernel
theorem dX7_setRow_45 : decode cX7_setRow 45 = .ok (.iload_n 3, 1) := by decide +kernel
theorem dX7_setRow_46 : decode cX7_setRow 46 = .ok (.invokevirtual 61, 3) := by decide +kernel
theorem dX7_setRow_49 : decode cX7_setRow 49 = .ok (.istore 4, 2) := by decide +kernel
theorem dX7_setRow_51 : decode cX7_setRow 51 = .ok (.iinc 5 1, 3) := by decide +kernel
theorem dX7_setRow_54 : decode cX7_setRow 54 = .ok (.goto (-41), 3) := by decide +kernel
theorem dX7_setRow_57 : decode cX7_setRow 57 = .ok (.return_, 1) := by decide +kernel
theorem dX7_setGap_0 : decode cX7_setGap 0 = .ok (.iconst 0, 1) := by decide +kernel
theorem dX7_setGap_1 : decode cX7_setGap 1 = .ok (.istore_n 3, 1) := by decide +kernel
theorem dX7_setGap_2 : decode cX7_setGap 2 = .ok (.iload_n 3, 1) := by decide +kernel
theorem dX7_setGap_3 : decode cX7_setGap 3 = .ok (.aload_n 0, 1) := by decide +kernel
theorem dX7_setGap_4 : decode cX7_setGap 4 = .ok (.getfield 21, 3) := by decide +kernel
theorem dX7_setGap_7 : decode cX7_setGap 7 = .ok (.if_icmp .ge 94, 3) := by decide +kernel
theorem dX7_setGap_10 : decode cX7_setGap 10 = .ok (.aload_n 0, 1) := by decide +kernel
theorem dX7_setGap_11 : decode cX7_setGap 11 = .ok (.iload_n 3, 1) := by decide +kernel
theorem dX7_setGap_12 : decode cX7_setGap 12 = .ok (.invokevirtual 65, 3) := by decide +kernel
theorem dX7_setGap_15 : decode cX7_setGap 15 = .ok (.astore 4, 2) := by decide +kernel
theorem dX7_setGap_17 : decode cX7_setGap 17 = .ok (.aload 4, 2) := by decide +kernel
theorem dX7_setGap_19 : decode cX7_setGap 19 = .ok (.ifnull 76, 3) := by decide +kernel
theorem dX7_setGap_22 : decode cX7_setGap 22 = .ok (.aload 4, 2) := by decide +kernel
theorem dX7_setGap_24 : decode cX7_setGap 24 = .ok (.getfield 68, 3) := by decide +kernel
theorem dX7_setGap_27 : decode cX7_setGap 27 = .ok (.iload_n 1, 1) := by decide +kernel
theorem dX7_setGap_28 : decode cX7_setGap 28 = .ok (.if_icmp .ne 67, 3) := by decide +kernel
theorem dX7_setGap_31 : decode cX7_setGap 31 = .ok (.aload_n 0, 1) := by decide +kernel
theorem dX7_setGap_32 : decode cX7_setGap 32 = .ok (.iload_n 3, 1) := by decide +kernel
theorem dX7_setGap_33 : decode cX7_setGap 33 = .ok (.invokevirtual 71, 3) := by decide +kernel
theorem dX7_setGap_36 : decode cX7_setGap 36 = .ok (.ifCond .eq 6, 3) := by decide +kernel
theorem dX7_setGap_39 : decode cX7_setGap 39 = .ok (.goto 56, 3) := by decide +kernel
theorem dX7_setGap_42 : decode cX7_setGap 42 = .ok (.aload 4, 2) := by decide +kernel
theorem dX7_setGap_44 : decode cX7_setGap 44 = .ok (.getfield 75, 3) := by decide +kernel
theorem dX7_setGap_47 : decode cX7_setGap 47 = .ok (.iconst 1, 1) := by decide +kernel
theorem dX7_setGap_48 : decode cX7_setGap 48 = .ok (.if_icmp .ne 18, 3) := by decide +kernel
theorem dX7_setGap_51 : decode cX7_setGap 51 = .ok (.aload_n 0, 1) := by decide +kernel
theorem dX7_setGap_52 : decode cX7_setGap 52 = .ok (.getfield 42, 3) := by decide +kernel
theorem dX7_setGap_55 : decode cX7_setGap 55 = .ok (.aload 4, 2) := by decide +kernel
theorem dX7_setGap_57 : decode cX7_setGap 57 = .ok (.getfield 78, 3) := by decide +kernel
theorem dX7_setGap_60 : decode cX7_setGap 60 = .ok (.invokevirtual 81, 3) := by decide +kernel
theorem dX7_setGap_63 : decode cX7_setGap 63 = .ok (.goto 32, 3) := by decide +kernel
theorem dX7_setGap_66 : decode cX7_setGap 66 = .ok (.aload_n 0, 1) := by decide +kernel
theorem dX7_setGap_67 : decode cX7_setGap 67 = .ok (.iload_n 3, 1) := by decide +kernel
theorem dX7_setGap_68 : decode cX7_setGap 68 = .ok (.iconst 1, 1) := by decide +kernel
theorem dX7_setGap_69 : decode cX7_setGap 69 = .ok (.invokevirtual 85, 3) := by decide +kernel
theorem dX7_setGap_72 : decode cX7_setGap 72 = .ok (.aload_n 0, 1) := by decide +kernel
theorem dX7_setGap_73 : decode cX7_setGap 73 = .ok (.aload 4, 2) := by decide +kernel
theorem dX7_setGap_75 : decode cX7_setGap 75 = .ok (.getfield 89, 3) := by decide +kernel
theorem dX7_setGap_78 : decode cX7_setGap 78 = .ok (.aload 4, 2) := by decide +kernel
theorem dX7_setGap_80 : decode cX7_setGap 80 = .ok (.getfield 92, 3) := by decide +kernel
theorem dX7_setGap_83 : decode cX7_setGap 83 = .ok (.iload_n 2, 1) := by decide +kernel
theorem dX7_setGap_84 : decode cX7_setGap 84 = .ok (.iconst 1, 1) := by decide +kernel
theorem dX7_setGap_85 : decode cX7_setGap 85 = .ok (.iadd, 1) := by decide +kernel
theorem dX7_setGap_86 : decode cX7_setGap 86 = .ok (.invokevirtual 57, 3) := by decide +kernel
theorem dX7_setGap_89 : decode cX7_setGap 89 = .ok (.aload_n 0, 1) := by decide +kernel
theorem dX7_setGap_90 : decode cX7_setGap 90 = .ok (.iload_n 3, 1) := by decide +kernel
theorem dX7_setGap_91 : decode cX7_setGap 91 = .ok (.iconst 0, 1) := by decide +kernel
theorem dX7_setGap_92 : decode cX7_setGap 92 = .ok (.invokevirtual 85, 3) := by decide +kernel
theorem dX7_setGap_95 : decode cX7_setGap 95 = .ok (.iinc 3 1, 3) := by decide +kernel
theorem dX7_setGap_98 : decode cX7_setGap 98 = .ok (.goto (-96), 3) := by decide +kernel
theorem dX7_setGap_101 : decode cX7_setGap 101 = .ok (.return_, 1) := by decide +kernel
theorem dX7_setPiece_0 : decode cX7_setPiece 0 = .ok (.aload_n 0, 1) := by decide +kernel
theorem dX7_setPiece_1 : decode cX7_setPiece 1 = .ok (.iload_n 1, 1) := by decide +kernel
theorem dX7_setPiece_2 : decode cX7_setPiece 2 = .ok (.invokevirtual 95, 3) := by decide +kernel
theorem dX7_setPiece_5 : decode cX7_setPiece 5 = .ok (.istore_n 3, 1) := by decide +kernel
theorem dX7_setPiece_6 : decode cX7_setPiece 6 = .ok (.aload_n 0, 1) := by decide +kernel
theorem dX7_setPiece_7 : decode cX7_setPiece 7 = .ok (.iload_n 3, 1) := by decide +kernel
theorem dX7_setPiece_8 : decode cX7_setPiece 8 = .ok (.invokevirtual 65, 3) := by decide +kernel
theorem dX7_setPiece_11 : decode cX7_setPiece 11 = .ok (.astore 4, 2) := by decide +kernel
theorem dX7_setPiece_13 : decode cX7_setPiece 13 = .ok (.aload 4, 2) := by decide +kernel
theorem dX7_setPiece_15 : decode cX7_setPiece 15 = .ok (.ifnonnull 22, 3) := by decide +kernel
theorem dX7_setPiece_18 : decode cX7_setPiece 18 = .ok (.aload_n 0, 1) := by decide +kernel
theorem dX7_setPiece_19 : decode cX7_setPiece 19 = .ok (.getfield 42, 3) := by decide +kernel
theorem dX7_setPiece_22 : decode cX7_setPiece 22 = .ok (.aload_n 0, 1) := by decide +kernel
theorem dX7_setPiece_23 : decode cX7_setPiece 23 = .ok (.getfield 38, 3) := by decide +kernel
theorem dX7_setPiece_26 : decode cX7_setPiece 26 = .ok (.iload_n 1, 1) := by decide +kernel
theorem dX7_setPiece_27 : decode cX7_setPiece 27 = .ok (.invokevirtual 98, 3) := by decide +kernel
theorem dX7_setPiece_30 : decode cX7_setPiece 30 = .ok (.invokevirtual 102, 3) := by decide +kernel
theorem dX7_setPiece_33 : decode cX7_setPiece 33 = .ok (.iload_n 1, 1) := by decide +kernel
theorem dX7_setPiece_34 : decode cX7_setPiece 34 = .ok (.iconst 1, 1) := by decide +kernel
theorem dX7_setPiece_35 : decode cX7_setPiece 35 = .ok (.iadd, 1) := by decide +kernel
theorem dX7_setPiece_36 : decode cX7_setPiece 36 = .ok (.ireturn, 1) := by decide +kernel
theorem dX7_setPiece_37 : decode cX7_setPiece 37 = .ok (.aload 4, 2) := by decide +kernel
theorem dX7_setPiece_39 : decode cX7_setPiece 39 = .ok (.getfield 75, 3) := by decide +kernel
theorem dX7_setPiece_42 : decode cX7_setPiece 42 = .ok (.iconst 2, 1) := by decide +kernel
theorem dX7_setPiece_43 : decode cX7_setPiece 43 = .ok (.if_icmp .ne 15, 3) := by decide +kernel
theorem dX7_setPiece_46 : decode cX7_setPiece 46 = .ok (.aload_n 0, 1) := by decide +kernel
theorem dX7_setPiece_47 : decode cX7_setPiece 47 = .ok (.getfield 42, 3) := by decide +kernel
theorem dX7_setPiece_50 : decode cX7_setPiece 50 = .ok (.aload 4, 2) := by decide +kernel
theorem dX7_setPiece_52 : decode cX7_setPiece 52 = .ok (.getfield 78, 3) := by decide +kernel
theorem dX7_setPiece_55 : decode cX7_setPiece 55 = .ok (.invokevirtual 81, 3) := by decide +kernel
theorem dX7_setPiece_58 : decode cX7_setPiece 58 = .ok (.aload 4, 2) := by decide +kernel
theorem dX7_setPiece_60 : decode cX7_setPiece 60 = .ok (.getfield 75, 3) := by decide +kernel
theorem dX7_setPiece_63 : decode cX7_setPiece 63 = .ok (.iconst 3, 1) := by decide +kernel
theorem dX7_setPiece_64 : decode cX7_setPiece 64 = .ok (.if_icmp .ne 53, 3) := by decide +kernel
theorem dX7_setPiece_67 : decode cX7_setPiece 67 = .ok (.aload_n 0, 1) := by decide +kernel
theorem dX7_setPiece_68 : decode cX7_setPiece 68 = .ok (.iload_n 3, 1) := by decide +kernel
theorem dX7_setPiece_69 : decode cX7_setPiece 69 = .ok (.iconst 1, 1) := by decide +kernel
theorem dX7_setPiece_70 : decode cX7_setPiece 70 = .ok (.invokevirtual 85, 3) := by decide +kernel
theorem dX7_setPiece_73 : decode cX7_setPiece 73 = .ok (.aload_n 0, 1) := by decide +kernel
theorem dX7_setPiece_74 : decode cX7_setPiece 74 = .ok (.aload 4, 2) := by decide +kernel
theorem dX7_setPiece_76 : decode cX7_setPiece 76 = .ok (.iconst 1, 1) := by decide +kernel
theorem dX7_setPiece_77 : decode cX7_setPiece 77 = .ok (.invokevirtual 106, 3) := by decide +kernel
theorem dX7_setPiece_80 : decode cX7_setPiece 80 = .ok (.aload 4, 2) := by decide +kernel
theorem dX7_setPiece_82 : decode cX7_setPiece 82 = .ok (.getfield 92, 3) := by decide +kernel
theorem dX7_setPiece_85 : decode cX7_setPiece 85 = .ok (.iload_n 2, 1) := by decide +kernel
theorem dX7_setPiece_86 : decode cX7_setPiece 86 = .ok (.iconst 1, 1) := by decide +kernel
theorem dX7_setPiece_87 : decode cX7_setPiece 87 = .ok (.iadd, 1) := by decide +kernel
theorem dX7_setPiece_88 : decode cX7_setPiece 88 = .ok (.invokevirtual 57, 3) := by decide +kernel
theorem dX7_setPiece_91 : decode cX7_setPiece 91 = .ok (.aload_n 0, 1) := by decide +kernel
theorem dX7_setPiece_92 : decode cX7_setPiece 92 = .ok (.aload 4, 2) := by decide +kernel
theorem dX7_setPiece_94 : decode cX7_setPiece 94 = .ok (.getfield 89, 3) := by decide +kernel
theorem dX7_setPiece_97 : decode cX7_setPiece 97 = .ok (.aload 4, 2) := by decide +kernel
theorem dX7_setPiece_99 : decode cX7_setPiece 99 = .ok (.iconst 1, 1) := by decide +kernel
theorem dX7_setPiece_100 : decode cX7_setPiece 100 = .ok (.invokevirtual 106, 3) := by decide +kernel
theorem dX7_setPiece_103 : decode cX7_setPiece 103 = .ok (.iconst 1, 1) := by decide +kernel
theorem dX7_setPiece_104 : decode cX7_setPiece 104 = .ok (.isub, 1) := by decide +kernel
theorem dX7_setPiece_105 : decode cX7_setPiece 105 = .ok (.iload_n 2, 1) := by decide +kernel
theorem dX7_setPiece_106 : decode cX7_setPiece 106 = .ok (.iconst 1, 1) := by decide +kernel
theorem dX7_setPiece_107 : decode cX7_setPiece 107 = .ok (.iadd, 1) := by decide +kernel
theorem dX7_setPiece_108 : decode cX7_setPiece 108 = .ok (.invokevirtual 57, 3) := by decide +kernel
theorem dX7_setPiece_111 : decode cX7_setPiece 111 = .ok (.aload_n 0, 1) := by decide +kernel
theorem dX7_setPiece_112 : decode cX7_setPiece 112 = .ok (.iload_n 3, 1) := by decide +kernel
theorem dX7_setPiece_113 : decode cX7_setPiece 113 = .ok (.iconst 0, 1) := by decide +kernel
theorem dX7_setPiece_114 : decode cX7_setPiece 114 = .ok (.invokevirtual 85, 3) := by decide +kernel
theorem dX7_setPiece_117 : decode cX7_setPiece 117 = .ok (.aload 4, 2) := by decide +kernel
theorem dX7_setPiece_119 : decode cX7_setPiece 119 = .ok (.getfield 92, 3) := by decide +kernel
theorem dX7_setPiece_122 : decode cX7_setPiece 122 = .ok (.iconst 1, 1) := by decide +kernel
theorem dX7_setPiece_123 : decode cX7_setPiece 123 = .ok (.iadd, 1) := by decide +kernel
theorem dX7_setPiece_124 : decode cX7_setPiece 124 = .ok (.ireturn, 1) := by decide +kernel
theorem dX7_outermostAt_0 : decode cX7_outermostAt 0 = .ok (.iconst (-1), 1) := by decide +kernel
theorem dX7_outermostAt_1 : decode cX7_outermostAt 1 = .ok (.istore_n 2, 1) := by decide +kernel
theorem dX7_outermostAt_2 : decode cX7_outermostAt 2 = .ok (.iconst (-1), 1) := by decide +kernel
theorem dX7_outermostAt_3 : decode cX7_outermostAt 3 = .ok (.istore_n 3, 1) := by decide +kernel
theorem dX7_outermostAt_4 : decode cX7_outermostAt 4 = .ok (.iconst 0, 1) := by decide +kernel
theorem dX7_outermostAt_5 : decode cX7_outermostAt 5 = .ok (.istore 4, 2) := by decide +kernel
theorem dX7_outermostAt_7 : decode cX7_outermostAt 7 = .ok (.iload 4, 2) := by decide +kernel
theorem dX7_outermostAt_9 : decode cX7_outermostAt 9 = .ok (.aload_n 0, 1) := by decide +kernel
theorem dX7_outermostAt_10 : decode cX7_outermostAt 10 = .ok (.getfield 21, 3) := by decide +kernel
theorem dX7_outermostAt_13 : decode cX7_outermostAt 13 = .ok (.if_icmp .ge 88, 3) := by decide +kernel
theorem dX7_outermostAt_16 : decode cX7_outermostAt 16 = .ok (.aload_n 0, 1) := by decide +kernel
theorem dX7_outermostAt_17 : decode cX7_outermostAt 17 = .ok (.iload 4, 2) := by decide +kernel
theorem dX7_outermostAt_19 : decode cX7_outermostAt 19 = .ok (.invokevirtual 65, 3) := by decide +kernel
theorem dX7_outermostAt_22 : decode cX7_outermostAt 22 = .ok (.astore 5, 2) := by decide +kernel
theorem dX7_outermostAt_24 : decode cX7_outermostAt 24 = .ok (.aload 5, 2) := by decide +kernel
theorem dX7_outermostAt_26 : decode cX7_outermostAt 26 = .ok (.ifnull 69, 3) := by decide +kernel
theorem dX7_outermostAt_29 : decode cX7_outermostAt 29 = .ok (.aload_n 0, 1) := by decide +kernel
theorem dX7_outermostAt_30 : decode cX7_outermostAt 30 = .ok (.iload 4, 2) := by decide +kernel
theorem dX7_outermostAt_32 : decode cX7_outermostAt 32 = .ok (.invokevirtual 71, 3) := by decide +kernel
theorem dX7_outermostAt_35 : decode cX7_outermostAt 35 = .ok (.ifCond .ne 60, 3) := by decide +kernel
theorem dX7_outermostAt_38 : decode cX7_outermostAt 38 = .ok (.aload 5, 2) := by decide +kernel
theorem dX7_outermostAt_40 : decode cX7_outermostAt 40 = .ok (.getfield 75, 3) := by decide +kernel
theorem dX7_outermostAt_43 : decode cX7_outermostAt 43 = .ok (.iconst 1, 1) := by decide +kernel
theorem dX7_outermostAt_44 : decode cX7_outermostAt 44 = .ok (.if_icmp .eq 51, 3) := by decide +kernel
theorem dX7_outermostAt_47 : decode cX7_outermostAt 47 = .ok (.aload 5, 2) := by decide +kernel
theorem dX7_outermostAt_49 : decode cX7_outermostAt 49 = .ok (.getfield 89, 3) := by decide +kernel
theorem dX7_outermostAt_52 : decode cX7_outermostAt 52 = .ok (.iload_n 1, 1) := by decide +kernel
theorem dX7_outermostAt_53 : decode cX7_outermostAt 53 = .ok (.if_icmp .eq 6, 3) := by decide +kernel
theorem dX7_outermostAt_56 : decode cX7_outermostAt 56 = .ok (.goto 39, 3) := by decide +kernel
theorem dX7_outermostAt_59 : decode cX7_outermostAt 59 = .ok (.aload 5, 2) := by decide +kernel
theorem dX7_outermostAt_61 : decode cX7_outermostAt 61 = .ok (.getfield 92, 3) := by decide +kernel
theorem dX7_outermostAt_64 : decode cX7_outermostAt 64 = .ok (.iload_n 3, 1) := by decide +kernel
theorem dX7_outermostAt_65 : decode cX7_outermostAt 65 = .ok (.if_icmp .gt 21, 3) := by decide +kernel
theorem dX7_outermostAt_68 : decode cX7_outermostAt 68 = .ok (.aload 5, 2) := by decide +kernel
theorem dX7_outermostAt_70 : decode cX7_outermostAt 70 = .ok (.getfield 92, 3) := by decide +kernel
theorem dX7_outermostAt_73 : decode cX7_outermostAt 73 = .ok (.iload_n 3, 1) := by decide +kernel
theorem dX7_outermostAt_74 : decode cX7_outermostAt 74 = .ok (.if_icmp .ne 21, 3) := by decide +kernel
theorem dX7_outermostAt_77 : decode cX7_outermostAt 77 = .ok (.aload 5, 2) := by decide +kernel
theorem dX7_outermostAt_79 : decode cX7_outermostAt 79 = .ok (.getfield 75, 3) := by decide +kernel
theorem dX7_outermostAt_82 : decode cX7_outermostAt 82 = .ok (.iconst 4, 1) := by decide +kernel
theorem dX7_outermostAt_83 : decode cX7_outermostAt 83 = .ok (.if_icmp .ne 12, 3) := by decide +kernel
theorem dX7_outermostAt_86 : decode cX7_outermostAt 86 = .ok (.iload 4, 2) := by decide +kernel
theorem dX7_outermostAt_88 : decode cX7_outermostAt 88 = .ok (.istore_n 2, 1) := by decide +kernel
theorem dX7_outermostAt_89 : decode cX7_outermostAt 89 = .ok (.aload 5, 2) := by decide +kernel
theorem dX7_outermostAt_91 : decode cX7_outermostAt 91 = .ok (.getfield 92, 3) := by decide +kernel
theorem dX7_outermostAt_94 : decode cX7_outermostAt 94 = .ok (.istore_n 3, 1) := by decide +kernel
theorem dX7_outermostAt_95 : decode cX7_outermostAt 95 = .ok (.iinc 4 1, 3) := by decide +kernel
theorem dX7_outermostAt_98 : decode cX7_outermostAt 98 = .ok (.goto (-91), 3) := by decide +kernel
theorem dX7_outermostAt_101 : decode cX7_outermostAt 101 = .ok (.iload_n 2, 1) := by decide +kernel
theorem dX7_outermostAt_102 : decode cX7_outermostAt 102 = .ok (.ireturn, 1) := by decide +kernel
theorem dX7_takenAt_0 : decode cX7_takenAt 0 = .ok (.iload_n 1, 1) := by decide +kernel
theorem dX7_takenAt_1 : decode cX7_takenAt 1 = .ok (.ifCond .lt 20, 3) := by decide +kernel
theorem dX7_takenAt_4 : decode cX7_takenAt 4 = .ok (.iload_n 1, 1) := by decide +kernel
theorem dX7_takenAt_5 : decode cX7_takenAt 5 = .ok (.aload_n 0, 1) := by decide +kernel
theorem dX7_takenAt_6 : decode cX7_takenAt 6 = .ok (.getfield 21, 3) := by decide +kernel
theorem dX7_takenAt_9 : decode cX7_takenAt 9 = .ok (.if_icmp .ge 12, 3) := by decide +kernel
theorem dX7_takenAt_12 : decode cX7_takenAt 12 = .ok (.iload_n 1, 1) := by decide +kernel
theorem dX7_takenAt_13 : decode cX7_takenAt 13 = .ok (.aload_n 0, 1) := by decide +kernel
theorem dX7_takenAt_14 : decode cX7_takenAt 14 = .ok (.getfield 11, 3) := by decide +kernel
theorem dX7_takenAt_17 : decode cX7_takenAt 17 = .ok (.arraylength, 1) := by decide +kernel
theorem dX7_takenAt_18 : decode cX7_takenAt 18 = .ok (.if_icmp .lt 7, 3) := by decide +kernel
theorem dX7_takenAt_21 : decode cX7_takenAt 21 = .ok (.aconst_null, 1) := by decide +kernel
theorem dX7_takenAt_22 : decode cX7_takenAt 22 = .ok (.goto 9, 3) := by decide +kernel
theorem dX7_takenAt_25 : decode cX7_takenAt 25 = .ok (.aload_n 0, 1) := by decide +kernel
theorem dX7_takenAt_26 : decode cX7_takenAt 26 = .ok (.getfield 11, 3) := by decide +kernel
theorem dX7_takenAt_29 : decode cX7_takenAt 29 = .ok (.iload_n 1, 1) := by decide +kernel
theorem dX7_takenAt_30 : decode cX7_takenAt 30 = .ok (.aaload, 1) := by decide +kernel
theorem dX7_takenAt_31 : decode cX7_takenAt 31 = .ok (.areturn, 1) := by decide +kernel
theorem dX7_isOpen_0 : decode cX7_isOpen 0 = .ok (.iload_n 1, 1) := by decide +kernel
theorem dX7_isOpen_1 : decode cX7_isOpen 1 = .ok (.ifCond .lt 25, 3) := by decide +kernel
theorem dX7_isOpen_4 : decode cX7_isOpen 4 = .ok (.iload_n 1, 1) := by decide +kernel
theorem dX7_isOpen_5 : decode cX7_isOpen 5 = .ok (.aload_n 0, 1) := by decide +kernel
theorem dX7_isOpen_6 : decode cX7_isOpen 6 = .ok (.getfield 17, 3) := by decide +kernel
theorem dX7_isOpen_9 : decode cX7_isOpen 9 = .ok (.arraylength, 1) := by decide +kernel
theorem dX7_isOpen_10 : decode cX7_isOpen 10 = .ok (.if_icmp .ge 16, 3) := by decide +kernel
theorem dX7_isOpen_13 : decode cX7_isOpen 13 = .ok (.aload_n 0, 1) := by decide +kernel
theorem dX7_isOpen_14 : decode cX7_isOpen 14 = .ok (.getfield 17, 3) := by decide +kernel
theorem dX7_isOpen_17 : decode cX7_isOpen 17 = .ok (.iload_n 1, 1) := by decide +kernel
theorem dX7_isOpen_18 : decode cX7_isOpen 18 = .ok (.baload, 1) := by decide +kernel
theorem dX7_isOpen_19 : decode cX7_isOpen 19 = .ok (.ifCond .eq 7, 3) := by decide +kernel
theorem dX7_isOpen_22 : decode cX7_isOpen 22 = .ok (.iconst 1, 1) := by decide +kernel
theorem dX7_isOpen_23 : decode cX7_isOpen 23 = .ok (.goto 4, 3) := by decide +kernel
theorem dX7_isOpen_26 : decode cX7_isOpen 26 = .ok (.iconst 0, 1) := by decide +kernel
theorem dX7_isOpen_27 : decode cX7_isOpen 27 = .ok (.ireturn, 1) := by decide +kernel
theorem dX7_mind_0 : decode cX7_mind 0 = .ok (.iload_n 1, 1) := by decide +kernel
theorem dX7_mind_1 : decode cX7_mind 1 = .ok (.ifCond .lt 19, 3) := by decide +kernel
theorem dX7_mind_4 : decode cX7_mind 4 = .ok (.iload_n 1, 1) := by decide +kernel
theorem dX7_mind_5 : decode cX7_mind 5 = .ok (.aload_n 0, 1) := by decide +kernel
theorem dX7_mind_6 : decode cX7_mind 6 = .ok (.getfield 17, 3) := by decide +kernel
theorem dX7_mind_9 : decode cX7_mind 9 = .ok (.arraylength, 1) := by decide +kernel
theorem dX7_mind_10 : decode cX7_mind 10 = .ok (.if_icmp .ge 10, 3) := by decide +kernel
theorem dX7_mind_13 : decode cX7_mind 13 = .ok (.aload_n 0, 1) := by decide +kernel
theorem dX7_mind_14 : decode cX7_mind 14 = .ok (.getfield 17, 3) := by decide +kernel
theorem dX7_mind_17 : decode cX7_mind 17 = .ok (.iload_n 1, 1) := by decide +kernel
theorem dX7_mind_18 : decode cX7_mind 18 = .ok (.iload_n 2, 1) := by decide +kernel
theorem dX7_mind_19 : decode cX7_mind 19 = .ok (.bastore, 1) := by decide +kernel
theorem dX7_mind_20 : decode cX7_mind 20 = .ok (.return_, 1) := by decide +kernel
theorem dX8_init_0 : decode cX8_init 0 = .ok (.aload_n 0, 1) := by decide +kernel
theorem dX8_init_1 : decode cX8_init 1 = .ok (.invokespecial 1, 3) := by decide +kernel
theorem dX8_init_4 : decode cX8_init 4 = .ok (.aload_n 0, 1) := by decide +kernel
theorem dX8_init_5 : decode cX8_init 5 = .ok (.iload_n 1, 1) := by decide +kernel
theorem dX8_init_6 : decode cX8_init 6 = .ok (.ifCond .ge 7, 3) := by decide +kernel
theorem dX8_init_9 : decode cX8_init 9 = .ok (.iconst 0, 1) := by decide +kernel
theorem dX8_init_10 : decode cX8_init 10 = .ok (.goto 4, 3) := by decide +kernel
theorem dX8_init_13 : decode cX8_init 13 = .ok (.iload_n 1, 1) := by decide +kernel
theorem dX8_init_14 : decode cX8_init 14 = .ok (.newarray .long, 2) := by decide +kernel
theorem dX8_init_16 : decode cX8_init 16 = .ok (.putfield 7, 3) := by decide +kernel
theorem dX8_init_19 : decode cX8_init 19 = .ok (.return_, 1) := by decide +kernel
theorem dX8_clear_0 : decode cX8_clear 0 = .ok (.aload_n 0, 1) := by decide +kernel
theorem dX8_clear_1 : decode cX8_clear 1 = .ok (.iconst 0, 1) := by decide +kernel
theorem dX8_clear_2 : decode cX8_clear 2 = .ok (.putfield 13, 3) := by decide +kernel
theorem dX8_clear_5 : decode cX8_clear 5 = .ok (.return_, 1) := by decide +kernel
theorem dX8_add_0 : decode cX8_add 0 = .ok (.aload_n 0, 1) := by decide +kernel
theorem dX8_add_1 : decode cX8_add 1 = .ok (.getfield 13, 3) := by decide +kernel
theorem dX8_add_4 : decode cX8_add 4 = .ok (.ifCond .lt 35, 3) := by decide +kernel
theorem dX8_add_7 : decode cX8_add 7 = .ok (.aload_n 0, 1) := by decide +kernel
theorem dX8_add_8 : decode cX8_add 8 = .ok (.getfield 13, 3) := by decide +kernel
theorem dX8_add_11 : decode cX8_add 11 = .ok (.aload_n 0, 1) := by decide +kernel
theorem dX8_add_12 : decode cX8_add 12 = .ok (.getfield 7, 3) := by decide +kernel
theorem dX8_add_15 : decode cX8_add 15 = .ok (.arraylength, 1) := by decide +kernel
theorem dX8_add_16 : decode cX8_add 16 = .ok (.if_icmp .ge 23, 3) := by decide +kernel
theorem dX8_add_19 : decode cX8_add 19 = .ok (.aload_n 0, 1) := by decide +kernel
theorem dX8_add_20 : decode cX8_add 20 = .ok (.getfield 7, 3) := by decide +kernel
theorem dX8_add_23 : decode cX8_add 23 = .ok (.aload_n 0, 1) := by decide +kernel
theorem dX8_add_24 : decode cX8_add 24 = .ok (.getfield 13, 3) := by decide +kernel
theorem dX8_add_27 : decode cX8_add 27 = .ok (.lload_n 1, 1) := by decide +kernel
theorem dX8_add_28 : decode cX8_add 28 = .ok (.lastore, 1) := by decide +kernel
theorem dX8_add_29 : decode cX8_add 29 = .ok (.aload_n 0, 1) := by decide +kernel
theorem dX8_add_30 : decode cX8_add 30 = .ok (.dup, 1) := by decide +kernel
theorem dX8_add_31 : decode cX8_add 31 = .ok (.getfield 13, 3) := by decide +kernel
theorem dX8_add_34 : decode cX8_add 34 = .ok (.iconst 1, 1) := by decide +kernel
theorem dX8_add_35 : decode cX8_add 35 = .ok (.iadd, 1) := by decide +kernel
theorem dX8_add_36 : decode cX8_add 36 = .ok (.putfield 13, 3) := by decide +kernel
theorem dX8_add_39 : decode cX8_add 39 = .ok (.return_, 1) := by decide +kernel
theorem dX8_addAll_0 : decode cX8_addAll 0 = .ok (.iconst 0, 1) := by decide +kernel
theorem dX8_addAll_1 : decode cX8_addAll 1 = .ok (.istore_n 2, 1) := by decide +kernel
theorem dX8_addAll_2 : decode cX8_addAll 2 = .ok (.iload_n 2, 1) := by decide +kernel
theorem dX8_addAll_3 : decode cX8_addAll 3 = .ok (.aload_n 1, 1) := by decide +kernel
theorem dX8_addAll_4 : decode cX8_addAll 4 = .ok (.getfield 13, 3) := by decide +kernel
theorem dX8_addAll_7 : decode cX8_addAll 7 = .ok (.if_icmp .ge 18, 3) := by decide +kernel
theorem dX8_addAll_10 : decode cX8_addAll 10 = .ok (.aload_n 0, 1) := by decide +kernel
theorem dX8_addAll_11 : decode cX8_addAll 11 = .ok (.aload_n 1, 1) := by decide +kernel
theorem dX8_addAll_12 : decode cX8_addAll 12 = .ok (.iload_n 2, 1) := by decide +kernel
theorem dX8_addAll_13 : decode cX8_addAll 13 = .ok (.invokevirtual 17, 3) := by decide +kernel
theorem dX8_addAll_16 : decode cX8_addAll 16 = .ok (.invokevirtual 21, 3) := by decide +kernel
theorem dX8_addAll_19 : decode cX8_addAll 19 = .ok (.iinc 2 1, 3) := by decide +kernel
theorem dX8_addAll_22 : decode cX8_addAll 22 = .ok (.goto (-20), 3) := by decide +kernel
theorem dX8_addAll_25 : decode cX8_addAll 25 = .ok (.return_, 1) := by decide +kernel
theorem dX8_copyFrom_0 : decode cX8_copyFrom 0 = .ok (.aload_n 0, 1) := by decide +kernel
theorem dX8_copyFrom_1 : decode cX8_copyFrom 1 = .ok (.invokevirtual 25, 3) := by decide +kernel
theorem dX8_copyFrom_4 : decode cX8_copyFrom 4 = .ok (.aload_n 0, 1) := by decide +kernel
theorem dX8_copyFrom_5 : decode cX8_copyFrom 5 = .ok (.aload_n 1, 1) := by decide +kernel
theorem dX8_copyFrom_6 : decode cX8_copyFrom 6 = .ok (.invokevirtual 28, 3) := by decide +kernel
theorem dX8_copyFrom_9 : decode cX8_copyFrom 9 = .ok (.return_, 1) := by decide +kernel
theorem dX8_wordAt_0 : decode cX8_wordAt 0 = .ok (.iload_n 1, 1) := by decide +kernel
theorem dX8_wordAt_1 : decode cX8_wordAt 1 = .ok (.ifCond .lt 20, 3) := by decide +kernel
theorem dX8_wordAt_4 : decode cX8_wordAt 4 = .ok (.iload_n 1, 1) := by decide +kernel
theorem dX8_wordAt_5 : decode cX8_wordAt 5 = .ok (.aload_n 0, 1) := by decide +kernel
theorem dX8_wordAt_6 : decode cX8_wordAt 6 = .ok (.getfield 13, 3) := by decide +kernel
theorem dX8_wordAt_9 : decode cX8_wordAt 9 = .ok (.if_icmp .ge 12, 3) := by decide +kernel
theorem dX8_wordAt_12 : decode cX8_wordAt 12 = .ok (.iload_n 1, 1) := by decide +kernel
theorem dX8_wordAt_13 : decode cX8_wordAt 13 = .ok (.aload_n 0, 1) := by decide +kernel
theorem dX8_wordAt_14 : decode cX8_wordAt 14 = .ok (.getfield 7, 3) := by decide +kernel
theorem dX8_wordAt_17 : decode cX8_wordAt 17 = .ok (.arraylength, 1) := by decide +kernel
theorem dX8_wordAt_18 : decode cX8_wordAt 18 = .ok (.if_icmp .lt 7, 3) := by decide +kernel
theorem dX8_wordAt_21 : decode cX8_wordAt 21 = .ok (.lconst 0, 1) := by decide +kernel
theorem dX8_wordAt_22 : decode cX8_wordAt 22 = .ok (.goto 9, 3) := by decide +kernel
theorem dX8_wordAt_25 : decode cX8_wordAt 25 = .ok (.aload_n 0, 1) := by decide +kernel
theorem dX8_wordAt_26 : decode cX8_wordAt 26 = .ok (.getfield 7, 3) := by decide +kernel
theorem dX8_wordAt_29 : decode cX8_wordAt 29 = .ok (.iload_n 1, 1) := by decide +kernel
theorem dX8_wordAt_30 : decode cX8_wordAt 30 = .ok (.laload, 1) := by decide +kernel
theorem dX8_wordAt_31 : decode cX8_wordAt 31 = .ok (.lreturn, 1) := by decide +kernel
theorem dX9_init_0 : decode cX9_init 0 = .ok (.aload_n 0, 1) := by decide +kernel
theorem dX9_init_1 : decode cX9_init 1 = .ok (.invokespecial 3, 3) := by decide +kernel
theorem dX9_init_4 : decode cX9_init 4 = .ok (.aload_n 0, 1) := by decide +kernel
theorem dX9_init_5 : decode cX9_init 5 = .ok (.new 9, 3) := by decide +kernel
theorem dX9_init_8 : decode cX9_init 8 = .ok (.dup, 1) := by decide +kernel
theorem dX9_init_9 : decode cX9_init 9 = .ok (.sipush 150, 3) := by decide +kernel
theorem dX9_init_12 : decode cX9_init 12 = .ok (.invokespecial 11, 3) := by decide +kernel
theorem dX9_init_15 : decode cX9_init 15 = .ok (.putfield 14, 3) := by decide +kernel
theorem dX9_init_18 : decode cX9_init 18 = .ok (.return_, 1) := by decide +kernel
theorem dX9_readProof_0 : decode cX9_readProof 0 = .ok (.aload_n 0, 1) := by decide +kernel
theorem dX9_readProof_1 : decode cX9_readProof 1 = .ok (.getfield 14, 3) := by decide +kernel
theorem dX9_readProof_4 : decode cX9_readProof 4 = .ok (.invokevirtual 20, 3) := by decide +kernel
theorem dX9_readProof_7 : decode cX9_readProof 7 = .ok (.aload_n 3, 1) := by decide +kernel
theorem dX9_readProof_8 : decode cX9_readProof 8 = .ok (.invokevirtual 23, 3) := by decide +kernel
theorem dX9_readProof_11 : decode cX9_readProof 11 = .ok (.lconst 0, 1) := by decide +kernel
theorem dX9_readProof_12 : decode cX9_readProof 12 = .ok (.lstore 4, 2) := by decide +kernel
theorem dX9_readProof_14 : decode cX9_readProof 14 = .ok (.iconst 0, 1) := by decide +kernel
theorem dX9_readProof_15 : decode cX9_readProof 15 = .ok (.istore 6, 2) := by decide +kernel
theorem dX9_readProof_17 : decode cX9_readProof 17 = .ok (.iconst 0, 1) := by decide +kernel
theorem dX9_readProof_18 : decode cX9_readProof 18 = .ok (.istore 7, 2) := by decide +kernel
theorem dX9_readProof_20 : decode cX9_readProof 20 = .ok (.iload 7, 2) := by decide +kernel
theorem dX9_readProof_22 : decode cX9_readProof 22 = .ok (.aload_n 1, 1) := by decide +kernel
theorem dX9_readProof_23 : decode cX9_readProof 23 = .ok (.getfield 26, 3) := by decide +kernel
theorem dX9_readProof_26 : decode cX9_readProof 26 = .ok (.if_icmp .ge 103, 3) := by decide +kernel
theorem dX9_readProof_29 : decode cX9_readProof 29 = .ok (.aload_n 1, 1) := by decide +kernel
theorem dX9_readProof_30 : decode cX9_readProof 30 = .ok (.iload 7, 2) := by decide +kernel
theorem dX9_readProof_32 : decode cX9_readProof 32 = .ok (.invokevirtual 32, 3) := by decide +kernel
theorem dX9_readProof_35 : decode cX9_readProof 35 = .ok (.istore 8, 2) := by decide +kernel
theorem dX9_readProof_37 : decode cX9_readProof 37 = .ok (.iload 8, 2) := by decide +kernel
theorem dX9_readProof_39 : decode cX9_readProof 39 = .ok (.invokestatic 36, 3) := by decide +kernel
theorem dX9_readProof_42 : decode cX9_readProof 42 = .ok (.ifCond .eq 20, 3) := by decide +kernel
theorem dX9_readProof_45 : decode cX9_readProof 45 = .ok (.aload_n 0, 1) := by decide +kernel
theorem dX9_readProof_46 : decode cX9_readProof 46 = .ok (.lload 4, 2) := by decide +kernel
theorem dX9_readProof_48 : decode cX9_readProof 48 = .ok (.iload 6, 2) := by decide +kernel
theorem dX9_readProof_50 : decode cX9_readProof 50 = .ok (.invokevirtual 40, 3) := by decide +kernel
theorem dX9_readProof_53 : decode cX9_readProof 53 = .ok (.lconst 0, 1) := by decide +kernel
theorem dX9_readProof_54 : decode cX9_readProof 54 = .ok (.lstore 4, 2) := by decide +kernel
theorem dX9_readProof_56 : decode cX9_readProof 56 = .ok (.iconst 0, 1) := by decide +kernel
theorem dX9_readProof_57 : decode cX9_readProof 57 = .ok (.istore 6, 2) := by decide +kernel
theorem dX9_readProof_59 : decode cX9_readProof 59 = .ok (.goto 64, 3) := by decide +kernel
theorem dX9_readProof_62 : decode cX9_readProof 62 = .ok (.iload 8, 2) := by decide +kernel
theorem dX9_readProof_64 : decode cX9_readProof 64 = .ok (.invokestatic 44, 3) := by decide +kernel
theorem dX9_readProof_67 : decode cX9_readProof 67 = .ok (.ifCond .eq 10, 3) := by decide +kernel
theorem dX9_readProof_70 : decode cX9_readProof 70 = .ok (.iload 6, 2) := by decide +kernel
theorem dX9_readProof_72 : decode cX9_readProof 72 = .ok (.bipush 8, 2) := by decide +kernel
theorem dX9_readProof_74 : decode cX9_readProof 74 = .ok (.if_icmp .ne 11, 3) := by decide +kernel
theorem dX9_readProof_77 : decode cX9_readProof 77 = .ok (.aload_n 3, 1) := by decide +kernel
theorem dX9_readProof_78 : decode cX9_readProof 78 = .ok (.iconst 1, 1) := by decide +kernel
theorem dX9_readProof_79 : decode cX9_readProof 79 = .ok (.iload 7, 2) := by decide +kernel
theorem dX9_readProof_81 : decode cX9_readProof 81 = .ok (.invokevirtual 47, 3) := by decide +kernel
theorem dX9_readProof_84 : decode cX9_readProof 84 = .ok (.ireturn, 1) := by decide +kernel
theorem dX9_readProof_85 : decode cX9_readProof 85 = .ok (.iload 6, 2) := by decide +kernel
theorem dX9_readProof_87 : decode cX9_readProof 87 = .ok (.ifCond .ne 22, 3) := by decide +kernel
theorem dX9_readProof_90 : decode cX9_readProof 90 = .ok (.aload_n 0, 1) := by decide +kernel
theorem dX9_readProof_91 : decode cX9_readProof 91 = .ok (.getfield 14, 3) := by decide +kernel
theorem dX9_readProof_94 : decode cX9_readProof 94 = .ok (.getfield 51, 3) := by decide +kernel
theorem dX9_readProof_97 : decode cX9_readProof 97 = .ok (.iload_n 2, 1) := by decide +kernel
theorem dX9_readProof_98 : decode cX9_readProof 98 = .ok (.if_icmp .lt 11, 3) := by decide +kernel
theorem dX9_readProof_101 : decode cX9_readProof 101 = .ok (.aload_n 3, 1) := by decide +kernel
theorem dX9_readProof_102 : decode cX9_readProof 102 = .ok (.iconst 3, 1) := by decide +kernel
theorem dX9_readProof_103 : decode cX9_readProof 103 = .ok (.iload 7, 2) := by decide +kernel
theorem dX9_readProof_105 : decode cX9_readProof 105 = .ok (.invokevirtual 47, 3) := by decide +kernel
theorem dX9_readProof_108 : decode cX9_readProof 108 = .ok (.ireturn, 1) := by decide +kernel
theorem dX9_readProof_109 : decode cX9_readProof 109 = .ok (.lload 4, 2) := by decide +kernel
theorem dX9_readProof_111 : decode cX9_readProof 111 = .ok (.bipush 8, 2) := by decide +kernel
theorem dX9_readProof_113 : decode cX9_readProof 113 = .ok (.lshl, 1) := by decide +kernel
theorem dX9_readProof_114 : decode cX9_readProof 114 = .ok (.iload 8, 2) := by decide +kernel
theorem dX9_readProof_116 : decode cX9_readProof 116 = .ok (.i2l, 1) := by decide +kernel
theorem dX9_readProof_117 : decode cX9_readProof 117 = .ok (.lor, 1) := by decide +kernel
theorem dX9_readProof_118 : decode cX9_readProof 118 = .ok (.lstore 4, 2) := by decide +kernel
theorem dX9_readProof_120 : decode cX9_readProof 120 = .ok (.iinc 6 1, 3) := by decide +kernel
theorem dX9_readProof_123 : decode cX9_readProof 123 = .ok (.iinc 7 1, 3) := by decide +kernel
theorem dX9_readProof_126 : decode cX9_readProof 126 = .ok (.goto (-106), 3) := by decide +kernel
theorem dX9_readProof_129 : decode cX9_readProof 129 = .ok (.aload_n 0, 1) := by decide +kernel
theorem dX9_readProof_130 : decode cX9_readProof 130 = .ok (.lload 4, 2) := by decide +kernel
theorem dX9_readProof_132 : decode cX9_readProof 132 = .ok (.iload 6, 2) := by decide +kernel
theorem dX9_readProof_134 : decode cX9_readProof 134 = .ok (.invokevirtual 40, 3) := by decide +kernel
theorem dX9_readProof_137 : decode cX9_readProof 137 = .ok (.iconst 1, 1) := by decide +kernel
theorem dX9_readProof_138 : decode cX9_readProof 138 = .ok (.ireturn, 1) := by decide +kernel
theorem dX9_addWord_0 : decode cX9_addWord 0 = .ok (.iload_n 3, 1) := by decide +kernel
theorem dX9_addWord_1 : decode cX9_addWord 1 = .ok (.ifCond .le 11, 3) := by decide +kernel
theorem dX9_addWord_4 : decode cX9_addWord 4 = .ok (.aload_n 0, 1) := by decide +kernel
theorem dX9_addWord_5 : decode cX9_addWord 5 = .ok (.getfield 14, 3) := by decide +kernel
theorem dX9_addWord_8 : decode cX9_addWord 8 = .ok (.lload_n 1, 1) := by decide +kernel
theorem dX9_addWord_9 : decode cX9_addWord 9 = .ok (.invokevirtual 52, 3) := by decide +kernel
theorem dX9_addWord_12 : decode cX9_addWord 12 = .ok (.return_, 1) := by decide +kernel
theorem dX10_init_0 : decode cX10_init 0 = .ok (.aload_n 0, 1) := by decide +kernel
theorem dX10_init_1 : decode cX10_init 1 = .ok (.invokespecial 3, 3) := by decide +kernel
theorem dX10_init_4 : decode cX10_init 4 = .ok (.aload_n 0, 1) := by decide +kernel
theorem dX10_init_5 : decode cX10_init 5 = .ok (.sipush 2000, 3) := by decide +kernel
theorem dX10_init_8 : decode cX10_init 8 = .ok (.newarray .byte, 2) := by decide +kernel
theorem dX10_init_10 : decode cX10_init 10 = .ok (.putfield 9, 3) := by decide +kernel
theorem dX10_init_13 : decode cX10_init 13 = .ok (.return_, 1) := by decide +kernel
theorem dX10_addFour_0 : decode cX10_addFour 0 = .ok (.bipush 24, 2) := by decide +kernel
theorem dX10_addFour_2 : decode cX10_addFour 2 = .ok (.istore_n 2, 1) := by decide +kernel
theorem dX10_addFour_3 : decode cX10_addFour 3 = .ok (.iload_n 2, 1) := by decide +kernel
theorem dX10_addFour_4 : decode cX10_addFour 4 = .ok (.ifCond .lt 51, 3) := by decide +kernel
theorem dX10_addFour_7 : decode cX10_addFour 7 = .ok (.aload_n 0, 1) := by decide +kernel
theorem dX10_addFour_8 : decode cX10_addFour 8 = .ok (.getfield 15, 3) := by decide +kernel
theorem dX10_addFour_11 : decode cX10_addFour 11 = .ok (.ifCond .lt 38, 3) := by decide +kernel
theorem dX10_addFour_14 : decode cX10_addFour 14 = .ok (.aload_n 0, 1) := by decide +kernel
theorem dX10_addFour_15 : decode cX10_addFour 15 = .ok (.getfield 15, 3) := by decide +kernel
theorem dX10_addFour_18 : decode cX10_addFour 18 = .ok (.aload_n 0, 1) := by decide +kernel
theorem dX10_addFour_19 : decode cX10_addFour 19 = .ok (.getfield 9, 3) := by decide +kernel
theorem dX10_addFour_22 : decode cX10_addFour 22 = .ok (.arraylength, 1) := by decide +kernel
theorem dX10_addFour_23 : decode cX10_addFour 23 = .ok (.if_icmp .ge 26, 3) := by decide +kernel
theorem dX10_addFour_26 : decode cX10_addFour 26 = .ok (.aload_n 0, 1) := by decide +kernel
theorem dX10_addFour_27 : decode cX10_addFour 27 = .ok (.getfield 9, 3) := by decide +kernel
theorem dX10_addFour_30 : decode cX10_addFour 30 = .ok (.aload_n 0, 1) := by decide +kernel
theorem dX10_addFour_31 : decode cX10_addFour 31 = .ok (.getfield 15, 3) := by decide +kernel
theorem dX10_addFour_34 : decode cX10_addFour 34 = .ok (.iload_n 1, 1) := by decide +kernel
theorem dX10_addFour_35 : decode cX10_addFour 35 = .ok (.iload_n 2, 1) := by decide +kernel
theorem dX10_addFour_36 : decode cX10_addFour 36 = .ok (.iushr, 1) := by decide +kernel
theorem dX10_addFour_37 : decode cX10_addFour 37 = .ok (.i2b, 1) := by decide +kernel
theorem dX10_addFour_38 : decode cX10_addFour 38 = .ok (.bastore, 1) := by decide +kernel
theorem dX10_addFour_39 : decode cX10_addFour 39 = .ok (.aload_n 0, 1) := by decide +kernel
theorem dX10_addFour_40 : decode cX10_addFour 40 = .ok (.dup, 1) := by decide +kernel
theorem dX10_addFour_41 : decode cX10_addFour 41 = .ok (.getfield 15, 3) := by decide +kernel
theorem dX10_addFour_44 : decode cX10_addFour 44 = .ok (.iconst 1, 1) := by decide +kernel
theorem dX10_addFour_45 : decode cX10_addFour 45 = .ok (.iadd, 1) := by decide +kernel
theorem dX10_addFour_46 : decode cX10_addFour 46 = .ok (.putfield 15, 3) := by decide +kernel
theorem dX10_addFour_49 : decode cX10_addFour 49 = .ok (.iinc 2 (-8), 3) := by decide +kernel
theorem dX10_addFour_52 : decode cX10_addFour 52 = .ok (.goto (-49), 3) := by decide +kernel
theorem dX10_addFour_55 : decode cX10_addFour 55 = .ok (.return_, 1) := by decide +kernel
theorem dX10_byteAt_0 : decode cX10_byteAt 0 = .ok (.iload_n 1, 1) := by decide +kernel
theorem dX10_byteAt_1 : decode cX10_byteAt 1 = .ok (.ifCond .lt 20, 3) := by decide +kernel
theorem dX10_byteAt_4 : decode cX10_byteAt 4 = .ok (.iload_n 1, 1) := by decide +kernel
theorem dX10_byteAt_5 : decode cX10_byteAt 5 = .ok (.aload_n 0, 1) := by decide +kernel
theorem dX10_byteAt_6 : decode cX10_byteAt 6 = .ok (.getfield 15, 3) := by decide +kernel
theorem dX10_byteAt_9 : decode cX10_byteAt 9 = .ok (.if_icmp .ge 12, 3) := by decide +kernel
theorem dX10_byteAt_12 : decode cX10_byteAt 12 = .ok (.iload_n 1, 1) := by decide +kernel
theorem dX10_byteAt_13 : decode cX10_byteAt 13 = .ok (.aload_n 0, 1) := by decide +kernel
theorem dX10_byteAt_14 : decode cX10_byteAt 14 = .ok (.getfield 9, 3) := by decide +kernel
theorem dX10_byteAt_17 : decode cX10_byteAt 17 = .ok (.arraylength, 1) := by decide +kernel
theorem dX10_byteAt_18 : decode cX10_byteAt 18 = .ok (.if_icmp .lt 7, 3) := by decide +kernel
theorem dX10_byteAt_21 : decode cX10_byteAt 21 = .ok (.iconst (-1), 1) := by decide +kernel
theorem dX10_byteAt_22 : decode cX10_byteAt 22 = .ok (.goto 13, 3) := by decide +kernel
theorem dX10_byteAt_25 : decode cX10_byteAt 25 = .ok (.aload_n 0, 1) := by decide +kernel
theorem dX10_byteAt_26 : decode cX10_byteAt 26 = .ok (.getfield 9, 3) := by decide +kernel
theorem dX10_byteAt_29 : decode cX10_byteAt 29 = .ok (.iload_n 1, 1) := by decide +kernel
theorem dX10_byteAt_30 : decode cX10_byteAt 30 = .ok (.baload, 1) := by decide +kernel
theorem dX10_byteAt_31 : decode cX10_byteAt 31 = .ok (.sipush 255, 3) := by decide +kernel
theorem dX10_byteAt_34 : decode cX10_byteAt 34 = .ok (.iand, 1) := by decide +kernel
theorem dX10_byteAt_35 : decode cX10_byteAt 35 = .ok (.ireturn, 1) := by decide +kernel
theorem dX11_init_0 : decode cX11_init 0 = .ok (.aload_n 0, 1) := by decide +kernel
theorem dX11_init_1 : decode cX11_init 1 = .ok (.invokespecial 3, 3) := by decide +kernel
theorem dX11_init_4 : decode cX11_init 4 = .ok (.aload_n 0, 1) := by decide +kernel
theorem dX11_init_5 : decode cX11_init 5 = .ok (.new 9, 3) := by decide +kernel
theorem dX11_init_8 : decode cX11_init 8 = .ok (.dup, 1) := by decide +kernel
theorem dX11_init_9 : decode cX11_init 9 = .ok (.invokespecial 11, 3) := by decide +kernel
theorem dX11_init_12 : decode cX11_init 12 = .ok (.putfield 12, 3) := by decide +kernel
theorem dX11_init_15 : decode cX11_init 15 = .ok (.aload_n 0, 1) := by decide +kernel
theorem dX11_init_16 : decode cX11_init 16 = .ok (.new 16, 3) := by decide +kernel
theorem dX11_init_19 : decode cX11_init 19 = .ok (.dup, 1) := by decide +kernel
