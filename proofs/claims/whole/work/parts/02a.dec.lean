theorem dX0_init_0 : decode cX0_init 0 = .ok (.aload_n 0, 1) := by decide +kernel
theorem dX0_init_1 : decode cX0_init 1 = .ok (.invokespecial 3, 3) := by decide +kernel
theorem dX0_init_4 : decode cX0_init 4 = .ok (.aload_n 0, 1) := by decide +kernel
theorem dX0_init_5 : decode cX0_init 5 = .ok (.new 9, 3) := by decide +kernel
theorem dX0_init_8 : decode cX0_init 8 = .ok (.dup, 1) := by decide +kernel
theorem dX0_init_9 : decode cX0_init 9 = .ok (.invokespecial 11, 3) := by decide +kernel
theorem dX0_init_12 : decode cX0_init 12 = .ok (.putfield 12, 3) := by decide +kernel
theorem dX0_init_15 : decode cX0_init 15 = .ok (.aload_n 0, 1) := by decide +kernel
theorem dX0_init_16 : decode cX0_init 16 = .ok (.aload_n 1, 1) := by decide +kernel
theorem dX0_init_17 : decode cX0_init 17 = .ok (.putfield 18, 3) := by decide +kernel
theorem dX0_init_20 : decode cX0_init 20 = .ok (.return_, 1) := by decide +kernel
theorem dX0_inDays_0 : decode cX0_inDays 0 = .ok (.aload_n 0, 1) := by decide +kernel
theorem dX0_inDays_1 : decode cX0_inDays 1 = .ok (.getfield 12, 3) := by decide +kernel
theorem dX0_inDays_4 : decode cX0_inDays 4 = .ok (.aload_n 0, 1) := by decide +kernel
theorem dX0_inDays_5 : decode cX0_inDays 5 = .ok (.getfield 18, 3) := by decide +kernel
theorem dX0_inDays_8 : decode cX0_inDays 8 = .ok (.invokevirtual 21, 3) := by decide +kernel
theorem dX0_inDays_11 : decode cX0_inDays 11 = .ok (.aload_n 0, 1) := by decide +kernel
theorem dX0_inDays_12 : decode cX0_inDays 12 = .ok (.getfield 12, 3) := by decide +kernel
theorem dX0_inDays_15 : decode cX0_inDays 15 = .ok (.iload_n 1, 1) := by decide +kernel
theorem dX0_inDays_16 : decode cX0_inDays 16 = .ok (.invokevirtual 25, 3) := by decide +kernel
theorem dX0_inDays_19 : decode cX0_inDays 19 = .ok (.aload_n 0, 1) := by decide +kernel
theorem dX0_inDays_20 : decode cX0_inDays 20 = .ok (.getfield 12, 3) := by decide +kernel
theorem dX0_inDays_23 : decode cX0_inDays 23 = .ok (.areturn, 1) := by decide +kernel
theorem dX0_findNext_0 : decode cX0_findNext 0 = .ok (.aload_n 0, 1) := by decide +kernel
theorem dX0_findNext_1 : decode cX0_findNext 1 = .ok (.getfield 12, 3) := by decide +kernel
theorem dX0_findNext_4 : decode cX0_findNext 4 = .ok (.aload_n 0, 1) := by decide +kernel
theorem dX0_findNext_5 : decode cX0_findNext 5 = .ok (.getfield 18, 3) := by decide +kernel
theorem dX0_findNext_8 : decode cX0_findNext 8 = .ok (.invokevirtual 21, 3) := by decide +kernel
theorem dX0_findNext_11 : decode cX0_findNext 11 = .ok (.aload_n 0, 1) := by decide +kernel
theorem dX0_findNext_12 : decode cX0_findNext 12 = .ok (.invokevirtual 29, 3) := by decide +kernel
theorem dX0_findNext_15 : decode cX0_findNext 15 = .ok (.return_, 1) := by decide +kernel
theorem dX0_findNextOfThen_0 : decode cX0_findNextOfThen 0 = .ok (.aload_n 0, 1) := by decide +kernel
theorem dX0_findNextOfThen_1 : decode cX0_findNextOfThen 1 = .ok (.iconst (-1), 1) := by decide +kernel
theorem dX0_findNextOfThen_2 : decode cX0_findNextOfThen 2 = .ok (.putfield 32, 3) := by decide +kernel
theorem dX0_findNextOfThen_5 : decode cX0_findNextOfThen 5 = .ok (.aload_n 0, 1) := by decide +kernel
theorem dX0_findNextOfThen_6 : decode cX0_findNextOfThen 6 = .ok (.iconst (-1), 1) := by decide +kernel
theorem dX0_findNextOfThen_7 : decode cX0_findNextOfThen 7 = .ok (.putfield 36, 3) := by decide +kernel
theorem dX0_findNextOfThen_10 : decode cX0_findNextOfThen 10 = .ok (.iconst 1, 1) := by decide +kernel
theorem dX0_findNextOfThen_11 : decode cX0_findNextOfThen 11 = .ok (.istore_n 1, 1) := by decide +kernel
theorem dX0_findNextOfThen_12 : decode cX0_findNextOfThen 12 = .ok (.iload_n 1, 1) := by decide +kernel
theorem dX0_findNextOfThen_13 : decode cX0_findNextOfThen 13 = .ok (.bipush 99, 2) := by decide +kernel
theorem dX0_findNextOfThen_15 : decode cX0_findNextOfThen 15 = .ok (.if_icmp .gt 51, 3) := by decide +kernel
theorem dX0_findNextOfThen_18 : decode cX0_findNextOfThen 18 = .ok (.aload_n 0, 1) := by decide +kernel
theorem dX0_findNextOfThen_19 : decode cX0_findNextOfThen 19 = .ok (.getfield 36, 3) := by decide +kernel
theorem dX0_findNextOfThen_22 : decode cX0_findNextOfThen 22 = .ok (.iconst (-1), 1) := by decide +kernel
theorem dX0_findNextOfThen_23 : decode cX0_findNextOfThen 23 = .ok (.if_icmp .ne 43, 3) := by decide +kernel
theorem dX0_findNextOfThen_26 : decode cX0_findNextOfThen 26 = .ok (.aload_n 0, 1) := by decide +kernel
theorem dX0_findNextOfThen_27 : decode cX0_findNextOfThen 27 = .ok (.getfield 12, 3) := by decide +kernel
theorem dX0_findNextOfThen_30 : decode cX0_findNextOfThen 30 = .ok (.invokevirtual 39, 3) := by decide +kernel
theorem dX0_findNextOfThen_33 : decode cX0_findNextOfThen 33 = .ok (.istore_n 2, 1) := by decide +kernel
theorem dX0_findNextOfThen_34 : decode cX0_findNextOfThen 34 = .ok (.iload_n 2, 1) := by decide +kernel
theorem dX0_findNextOfThen_35 : decode cX0_findNextOfThen 35 = .ok (.iconst (-1), 1) := by decide +kernel
theorem dX0_findNextOfThen_36 : decode cX0_findNextOfThen 36 = .ok (.if_icmp .ne 14, 3) := by decide +kernel
theorem dX0_findNextOfThen_39 : decode cX0_findNextOfThen 39 = .ok (.aload_n 0, 1) := by decide +kernel
theorem dX0_findNextOfThen_40 : decode cX0_findNextOfThen 40 = .ok (.getfield 12, 3) := by decide +kernel
theorem dX0_findNextOfThen_43 : decode cX0_findNextOfThen 43 = .ok (.iconst (-1), 1) := by decide +kernel
theorem dX0_findNextOfThen_44 : decode cX0_findNextOfThen 44 = .ok (.invokevirtual 43, 3) := by decide +kernel
theorem dX0_findNextOfThen_47 : decode cX0_findNextOfThen 47 = .ok (.goto 13, 3) := by decide +kernel
theorem dX0_findNextOfThen_50 : decode cX0_findNextOfThen 50 = .ok (.aload_n 0, 1) := by decide +kernel
theorem dX0_findNextOfThen_51 : decode cX0_findNextOfThen 51 = .ok (.iload_n 1, 1) := by decide +kernel
theorem dX0_findNextOfThen_52 : decode cX0_findNextOfThen 52 = .ok (.putfield 32, 3) := by decide +kernel
theorem dX0_findNextOfThen_55 : decode cX0_findNextOfThen 55 = .ok (.aload_n 0, 1) := by decide +kernel
theorem dX0_findNextOfThen_56 : decode cX0_findNextOfThen 56 = .ok (.iload_n 2, 1) := by decide +kernel
theorem dX0_findNextOfThen_57 : decode cX0_findNextOfThen 57 = .ok (.putfield 36, 3) := by decide +kernel
theorem dX0_findNextOfThen_60 : decode cX0_findNextOfThen 60 = .ok (.iinc 1 1, 3) := by decide +kernel
theorem dX0_findNextOfThen_63 : decode cX0_findNextOfThen 63 = .ok (.goto (-51), 3) := by decide +kernel
theorem dX0_findNextOfThen_66 : decode cX0_findNextOfThen 66 = .ok (.return_, 1) := by decide +kernel
theorem dX0_hangingSet_0 : decode cX0_hangingSet 0 = .ok (.aload_n 0, 1) := by decide +kernel
theorem dX0_hangingSet_1 : decode cX0_hangingSet 1 = .ok (.invokevirtual 46, 3) := by decide +kernel
theorem dX0_hangingSet_4 : decode cX0_hangingSet 4 = .ok (.aload_n 0, 1) := by decide +kernel
theorem dX0_hangingSet_5 : decode cX0_hangingSet 5 = .ok (.getfield 32, 3) := by decide +kernel
theorem dX0_hangingSet_8 : decode cX0_hangingSet 8 = .ok (.istore_n 1, 1) := by decide +kernel
theorem dX0_hangingSet_9 : decode cX0_hangingSet 9 = .ok (.aload_n 0, 1) := by decide +kernel
theorem dX0_hangingSet_10 : decode cX0_hangingSet 10 = .ok (.getfield 36, 3) := by decide +kernel
theorem dX0_hangingSet_13 : decode cX0_hangingSet 13 = .ok (.istore_n 2, 1) := by decide +kernel
theorem dX0_hangingSet_14 : decode cX0_hangingSet 14 = .ok (.iconst 0, 1) := by decide +kernel
theorem dX0_hangingSet_15 : decode cX0_hangingSet 15 = .ok (.istore_n 3, 1) := by decide +kernel
theorem dX0_hangingSet_16 : decode cX0_hangingSet 16 = .ok (.iconst 0, 1) := by decide +kernel
theorem dX0_hangingSet_17 : decode cX0_hangingSet 17 = .ok (.istore 4, 2) := by decide +kernel
theorem dX0_hangingSet_19 : decode cX0_hangingSet 19 = .ok (.iload 4, 2) := by decide +kernel
theorem dX0_hangingSet_21 : decode cX0_hangingSet 21 = .ok (.aload_n 0, 1) := by decide +kernel
theorem dX0_hangingSet_22 : decode cX0_hangingSet 22 = .ok (.getfield 18, 3) := by decide +kernel
theorem dX0_hangingSet_25 : decode cX0_hangingSet 25 = .ok (.getfield 49, 3) := by decide +kernel
theorem dX0_hangingSet_28 : decode cX0_hangingSet 28 = .ok (.if_icmp .ge 80, 3) := by decide +kernel
theorem dX0_hangingSet_31 : decode cX0_hangingSet 31 = .ok (.aload_n 0, 1) := by decide +kernel
theorem dX0_hangingSet_32 : decode cX0_hangingSet 32 = .ok (.getfield 18, 3) := by decide +kernel
theorem dX0_hangingSet_35 : decode cX0_hangingSet 35 = .ok (.iload 4, 2) := by decide +kernel
theorem dX0_hangingSet_37 : decode cX0_hangingSet 37 = .ok (.invokevirtual 52, 3) := by decide +kernel
theorem dX0_hangingSet_40 : decode cX0_hangingSet 40 = .ok (.ifCond .ne 6, 3) := by decide +kernel
theorem dX0_hangingSet_43 : decode cX0_hangingSet 43 = .ok (.goto 59, 3) := by decide +kernel
theorem dX0_hangingSet_46 : decode cX0_hangingSet 46 = .ok (.aload_n 0, 1) := by decide +kernel
theorem dX0_hangingSet_47 : decode cX0_hangingSet 47 = .ok (.getfield 12, 3) := by decide +kernel
theorem dX0_hangingSet_50 : decode cX0_hangingSet 50 = .ok (.aload_n 0, 1) := by decide +kernel
theorem dX0_hangingSet_51 : decode cX0_hangingSet 51 = .ok (.getfield 18, 3) := by decide +kernel
theorem dX0_hangingSet_54 : decode cX0_hangingSet 54 = .ok (.invokevirtual 21, 3) := by decide +kernel
theorem dX0_hangingSet_57 : decode cX0_hangingSet 57 = .ok (.aload_n 0, 1) := by decide +kernel
theorem dX0_hangingSet_58 : decode cX0_hangingSet 58 = .ok (.getfield 12, 3) := by decide +kernel
theorem dX0_hangingSet_61 : decode cX0_hangingSet 61 = .ok (.dup, 1) := by decide +kernel
theorem dX0_hangingSet_62 : decode cX0_hangingSet 62 = .ok (.getfield 56, 3) := by decide +kernel
theorem dX0_hangingSet_65 : decode cX0_hangingSet 65 = .ok (.iconst 1, 1) := by decide +kernel
theorem dX0_hangingSet_66 : decode cX0_hangingSet 66 = .ok (.iload 4, 2) := by decide +kernel
theorem dX0_hangingSet_68 : decode cX0_hangingSet 68 = .ok (.ishl, 1) := by decide +kernel
theorem dX0_hangingSet_69 : decode cX0_hangingSet 69 = .ok (.iconst (-1), 1) := by decide +kernel
theorem dX0_hangingSet_70 : decode cX0_hangingSet 70 = .ok (.ixor, 1) := by decide +kernel
theorem dX0_hangingSet_71 : decode cX0_hangingSet 71 = .ok (.iand, 1) := by decide +kernel
theorem dX0_hangingSet_72 : decode cX0_hangingSet 72 = .ok (.putfield 56, 3) := by decide +kernel
theorem dX0_hangingSet_75 : decode cX0_hangingSet 75 = .ok (.aload_n 0, 1) := by decide +kernel
theorem dX0_hangingSet_76 : decode cX0_hangingSet 76 = .ok (.invokevirtual 29, 3) := by decide +kernel
theorem dX0_hangingSet_79 : decode cX0_hangingSet 79 = .ok (.aload_n 0, 1) := by decide +kernel
theorem dX0_hangingSet_80 : decode cX0_hangingSet 80 = .ok (.getfield 32, 3) := by decide +kernel
theorem dX0_hangingSet_83 : decode cX0_hangingSet 83 = .ok (.iload_n 1, 1) := by decide +kernel
theorem dX0_hangingSet_84 : decode cX0_hangingSet 84 = .ok (.if_icmp .ne 11, 3) := by decide +kernel
theorem dX0_hangingSet_87 : decode cX0_hangingSet 87 = .ok (.aload_n 0, 1) := by decide +kernel
theorem dX0_hangingSet_88 : decode cX0_hangingSet 88 = .ok (.getfield 36, 3) := by decide +kernel
theorem dX0_hangingSet_91 : decode cX0_hangingSet 91 = .ok (.iload_n 2, 1) := by decide +kernel
theorem dX0_hangingSet_92 : decode cX0_hangingSet 92 = .ok (.if_icmp .eq 10, 3) := by decide +kernel
theorem dX0_hangingSet_95 : decode cX0_hangingSet 95 = .ok (.iload_n 3, 1) := by decide +kernel
theorem dX0_hangingSet_96 : decode cX0_hangingSet 96 = .ok (.iconst 1, 1) := by decide +kernel
theorem dX0_hangingSet_97 : decode cX0_hangingSet 97 = .ok (.iload 4, 2) := by decide +kernel
theorem dX0_hangingSet_99 : decode cX0_hangingSet 99 = .ok (.ishl, 1) := by decide +kernel
theorem dX0_hangingSet_100 : decode cX0_hangingSet 100 = .ok (.ior, 1) := by decide +kernel
theorem dX0_hangingSet_101 : decode cX0_hangingSet 101 = .ok (.istore_n 3, 1) := by decide +kernel
theorem dX0_hangingSet_102 : decode cX0_hangingSet 102 = .ok (.iinc 4 1, 3) := by decide +kernel
theorem dX0_hangingSet_105 : decode cX0_hangingSet 105 = .ok (.goto (-86), 3) := by decide +kernel
theorem dX0_hangingSet_108 : decode cX0_hangingSet 108 = .ok (.iload_n 3, 1) := by decide +kernel
theorem dX0_hangingSet_109 : decode cX0_hangingSet 109 = .ok (.ireturn, 1) := by decide +kernel
theorem dX0_daysToStarve_0 : decode cX0_daysToStarve 0 = .ok (.aload_n 0, 1) := by decide +kernel
theorem dX0_daysToStarve_1 : decode cX0_daysToStarve 1 = .ok (.getfield 12, 3) := by decide +kernel
theorem dX0_daysToStarve_4 : decode cX0_daysToStarve 4 = .ok (.aload_n 0, 1) := by decide +kernel
theorem dX0_daysToStarve_5 : decode cX0_daysToStarve 5 = .ok (.getfield 18, 3) := by decide +kernel
theorem dX0_daysToStarve_8 : decode cX0_daysToStarve 8 = .ok (.invokevirtual 21, 3) := by decide +kernel
theorem dX0_daysToStarve_11 : decode cX0_daysToStarve 11 = .ok (.iconst 0, 1) := by decide +kernel
theorem dX0_daysToStarve_12 : decode cX0_daysToStarve 12 = .ok (.istore_n 1, 1) := by decide +kernel
theorem dX0_daysToStarve_13 : decode cX0_daysToStarve 13 = .ok (.iload_n 1, 1) := by decide +kernel
theorem dX0_daysToStarve_14 : decode cX0_daysToStarve 14 = .ok (.bipush 99, 2) := by decide +kernel
theorem dX0_daysToStarve_16 : decode cX0_daysToStarve 16 = .ok (.if_icmp .gt 29, 3) := by decide +kernel
theorem dX0_daysToStarve_19 : decode cX0_daysToStarve 19 = .ok (.aload_n 0, 1) := by decide +kernel
theorem dX0_daysToStarve_20 : decode cX0_daysToStarve 20 = .ok (.getfield 12, 3) := by decide +kernel
theorem dX0_daysToStarve_23 : decode cX0_daysToStarve 23 = .ok (.invokevirtual 59, 3) := by decide +kernel
theorem dX0_daysToStarve_26 : decode cX0_daysToStarve 26 = .ok (.ifCond .eq 5, 3) := by decide +kernel
theorem dX0_daysToStarve_29 : decode cX0_daysToStarve 29 = .ok (.iload_n 1, 1) := by decide +kernel
theorem dX0_daysToStarve_30 : decode cX0_daysToStarve 30 = .ok (.ireturn, 1) := by decide +kernel
theorem dX0_daysToStarve_31 : decode cX0_daysToStarve 31 = .ok (.aload_n 0, 1) := by decide +kernel
theorem dX0_daysToStarve_32 : decode cX0_daysToStarve 32 = .ok (.getfield 12, 3) := by decide +kernel
theorem dX0_daysToStarve_35 : decode cX0_daysToStarve 35 = .ok (.iconst 1, 1) := by decide +kernel
theorem dX0_daysToStarve_36 : decode cX0_daysToStarve 36 = .ok (.invokevirtual 25, 3) := by decide +kernel
theorem dX0_daysToStarve_39 : decode cX0_daysToStarve 39 = .ok (.iinc 1 1, 3) := by decide +kernel
theorem dX0_daysToStarve_42 : decode cX0_daysToStarve 42 = .ok (.goto (-29), 3) := by decide +kernel
theorem dX0_daysToStarve_45 : decode cX0_daysToStarve 45 = .ok (.iconst (-1), 1) := by decide +kernel
theorem dX0_daysToStarve_46 : decode cX0_daysToStarve 46 = .ok (.ireturn, 1) := by decide +kernel
theorem dX0_leastLoaf_0 : decode cX0_leastLoaf 0 = .ok (.iconst 1, 1) := by decide +kernel
theorem dX0_leastLoaf_1 : decode cX0_leastLoaf 1 = .ok (.istore_n 2, 1) := by decide +kernel
theorem dX0_leastLoaf_2 : decode cX0_leastLoaf 2 = .ok (.iload_n 2, 1) := by decide +kernel
theorem dX0_leastLoaf_3 : decode cX0_leastLoaf 3 = .ok (.bipush 60, 2) := by decide +kernel
theorem dX0_leastLoaf_5 : decode cX0_leastLoaf 5 = .ok (.if_icmp .gt 20, 3) := by decide +kernel
theorem dX0_leastLoaf_8 : decode cX0_leastLoaf 8 = .ok (.aload_n 0, 1) := by decide +kernel
theorem dX0_leastLoaf_9 : decode cX0_leastLoaf 9 = .ok (.iload_n 2, 1) := by decide +kernel
theorem dX0_leastLoaf_10 : decode cX0_leastLoaf 10 = .ok (.iload_n 1, 1) := by decide +kernel
theorem dX0_leastLoaf_11 : decode cX0_leastLoaf 11 = .ok (.invokevirtual 62, 3) := by decide +kernel
theorem dX0_leastLoaf_14 : decode cX0_leastLoaf 14 = .ok (.ifCond .eq 5, 3) := by decide +kernel
theorem dX0_leastLoaf_17 : decode cX0_leastLoaf 17 = .ok (.iload_n 2, 1) := by decide +kernel
theorem dX0_leastLoaf_18 : decode cX0_leastLoaf 18 = .ok (.ireturn, 1) := by decide +kernel
theorem dX0_leastLoaf_19 : decode cX0_leastLoaf 19 = .ok (.iinc 2 1, 3) := by decide +kernel
theorem dX0_leastLoaf_22 : decode cX0_leastLoaf 22 = .ok (.goto (-20), 3) := by decide +kernel
theorem dX0_leastLoaf_25 : decode cX0_leastLoaf 25 = .ok (.iconst (-1), 1) := by decide +kernel
theorem dX0_leastLoaf_26 : decode cX0_leastLoaf 26 = .ok (.ireturn, 1) := by decide +kernel
theorem dX0_isEnough_0 : decode cX0_isEnough 0 = .ok (.aload_n 0, 1) := by decide +kernel
theorem dX0_isEnough_1 : decode cX0_isEnough 1 = .ok (.getfield 12, 3) := by decide +kernel
theorem dX0_isEnough_4 : decode cX0_isEnough 4 = .ok (.aload_n 0, 1) := by decide +kernel
theorem dX0_isEnough_5 : decode cX0_isEnough 5 = .ok (.getfield 18, 3) := by decide +kernel
theorem dX0_isEnough_8 : decode cX0_isEnough 8 = .ok (.invokevirtual 21, 3) := by decide +kernel
theorem dX0_isEnough_11 : decode cX0_isEnough 11 = .ok (.aload_n 0, 1) := by decide +kernel
theorem dX0_isEnough_12 : decode cX0_isEnough 12 = .ok (.getfield 12, 3) := by decide +kernel
theorem dX0_isEnough_15 : decode cX0_isEnough 15 = .ok (.iload_n 1, 1) := by decide +kernel
theorem dX0_isEnough_16 : decode cX0_isEnough 16 = .ok (.putfield 66, 3) := by decide +kernel
theorem dX0_isEnough_19 : decode cX0_isEnough 19 = .ok (.iconst 0, 1) := by decide +kernel
theorem dX0_isEnough_20 : decode cX0_isEnough 20 = .ok (.istore_n 3, 1) := by decide +kernel
theorem dX0_isEnough_21 : decode cX0_isEnough 21 = .ok (.iload_n 3, 1) := by decide +kernel
theorem dX0_isEnough_22 : decode cX0_isEnough 22 = .ok (.iload_n 2, 1) := by decide +kernel
theorem dX0_isEnough_23 : decode cX0_isEnough 23 = .ok (.if_icmp .ge 29, 3) := by decide +kernel
theorem dX0_isEnough_26 : decode cX0_isEnough 26 = .ok (.aload_n 0, 1) := by decide +kernel
theorem dX0_isEnough_27 : decode cX0_isEnough 27 = .ok (.getfield 12, 3) := by decide +kernel
theorem dX0_isEnough_30 : decode cX0_isEnough 30 = .ok (.iconst 1, 1) := by decide +kernel
theorem dX0_isEnough_31 : decode cX0_isEnough 31 = .ok (.invokevirtual 25, 3) := by decide +kernel
theorem dX0_isEnough_34 : decode cX0_isEnough 34 = .ok (.aload_n 0, 1) := by decide +kernel
theorem dX0_isEnough_35 : decode cX0_isEnough 35 = .ok (.getfield 12, 3) := by decide +kernel
theorem dX0_isEnough_38 : decode cX0_isEnough 38 = .ok (.invokevirtual 59, 3) := by decide +kernel
theorem dX0_isEnough_41 : decode cX0_isEnough 41 = .ok (.ifCond .eq 5, 3) := by decide +kernel
theorem dX0_isEnough_44 : decode cX0_isEnough 44 = .ok (.iconst 0, 1) := by decide +kernel
theorem dX0_isEnough_45 : decode cX0_isEnough 45 = .ok (.ireturn, 1) := by decide +kernel
theorem dX0_isEnough_46 : decode cX0_isEnough 46 = .ok (.iinc 3 1, 3) := by decide +kernel
theorem dX0_isEnough_49 : decode cX0_isEnough 49 = .ok (.goto (-28), 3) := by decide +kernel
theorem dX0_isEnough_52 : decode cX0_isEnough 52 = .ok (.iconst 1, 1) := by decide +kernel
theorem dX0_isEnough_53 : decode cX0_isEnough 53 = .ok (.ireturn, 1) := by decide +kernel
theorem dX1_init_0 : decode cX1_init 0 = .ok (.aload_n 0, 1) := by decide +kernel
theorem dX1_init_1 : decode cX1_init 1 = .ok (.invokespecial 3, 3) := by decide +kernel
theorem dX1_init_4 : decode cX1_init 4 = .ok (.aload_n 0, 1) := by decide +kernel
theorem dX1_init_5 : decode cX1_init 5 = .ok (.new 9, 3) := by decide +kernel
theorem dX1_init_8 : decode cX1_init 8 = .ok (.dup, 1) := by decide +kernel
theorem dX1_init_9 : decode cX1_init 9 = .ok (.invokespecial 11, 3) := by decide +kernel
theorem dX1_init_12 : decode cX1_init 12 = .ok (.putfield 12, 3) := by decide +kernel
theorem dX1_init_15 : decode cX1_init 15 = .ok (.aload_n 0, 1) := by decide +kernel
theorem dX1_init_16 : decode cX1_init 16 = .ok (.new 9, 3) := by decide +kernel
theorem dX1_init_19 : decode cX1_init 19 = .ok (.dup, 1) := by decide +kernel
theorem dX1_init_20 : decode cX1_init 20 = .ok (.invokespecial 11, 3) := by decide +kernel
theorem dX1_init_23 : decode cX1_init 23 = .ok (.putfield 18, 3) := by decide +kernel
theorem dX1_init_26 : decode cX1_init 26 = .ok (.aload_n 0, 1) := by decide +kernel
theorem dX1_init_27 : decode cX1_init 27 = .ok (.aload_n 1, 1) := by decide +kernel
theorem dX1_init_28 : decode cX1_init 28 = .ok (.putfield 21, 3) := by decide +kernel
theorem dX1_init_31 : decode cX1_init 31 = .ok (.return_, 1) := by decide +kernel
theorem dX1_outcomeOf_0 : decode cX1_outcomeOf 0 = .ok (.aload_n 0, 1) := by decide +kernel
theorem dX1_outcomeOf_1 : decode cX1_outcomeOf 1 = .ok (.iload_n 1, 1) := by decide +kernel
theorem dX1_outcomeOf_2 : decode cX1_outcomeOf 2 = .ok (.putfield 24, 3) := by decide +kernel
theorem dX1_outcomeOf_5 : decode cX1_outcomeOf 5 = .ok (.aload_n 0, 1) := by decide +kernel
theorem dX1_outcomeOf_6 : decode cX1_outcomeOf 6 = .ok (.iload_n 2, 1) := by decide +kernel
theorem dX1_outcomeOf_7 : decode cX1_outcomeOf 7 = .ok (.putfield 28, 3) := by decide +kernel
theorem dX1_outcomeOf_10 : decode cX1_outcomeOf 10 = .ok (.aload_n 0, 1) := by decide +kernel
theorem dX1_outcomeOf_11 : decode cX1_outcomeOf 11 = .ok (.iload_n 3, 1) := by decide +kernel
theorem dX1_outcomeOf_12 : decode cX1_outcomeOf 12 = .ok (.iconst 3, 1) := by decide +kernel
theorem dX1_outcomeOf_13 : decode cX1_outcomeOf 13 = .ok (.invokestatic 31, 3) := by decide +kernel
theorem dX1_outcomeOf_16 : decode cX1_outcomeOf 16 = .ok (.putfield 37, 3) := by decide +kernel
theorem dX1_outcomeOf_19 : decode cX1_outcomeOf 19 = .ok (.aload_n 0, 1) := by decide +kernel
theorem dX1_outcomeOf_20 : decode cX1_outcomeOf 20 = .ok (.iconst (-1), 1) := by decide +kernel
theorem dX1_outcomeOf_21 : decode cX1_outcomeOf 21 = .ok (.putfield 40, 3) := by decide +kernel
theorem dX1_outcomeOf_24 : decode cX1_outcomeOf 24 = .ok (.aload_n 0, 1) := by decide +kernel
theorem dX1_outcomeOf_25 : decode cX1_outcomeOf 25 = .ok (.getfield 12, 3) := by decide +kernel
theorem dX1_outcomeOf_28 : decode cX1_outcomeOf 28 = .ok (.aload_n 0, 1) := by decide +kernel
theorem dX1_outcomeOf_29 : decode cX1_outcomeOf 29 = .ok (.getfield 21, 3) := by decide +kernel
theorem dX1_outcomeOf_32 : decode cX1_outcomeOf 32 = .ok (.invokevirtual 43, 3) := by decide +kernel
theorem dX1_outcomeOf_35 : decode cX1_outcomeOf 35 = .ok (.aload_n 0, 1) := by decide +kernel
theorem dX1_outcomeOf_36 : decode cX1_outcomeOf 36 = .ok (.iconst 0, 1) := by decide +kernel
theorem dX1_outcomeOf_37 : decode cX1_outcomeOf 37 = .ok (.invokevirtual 47, 3) := by decide +kernel
theorem dX1_outcomeOf_40 : decode cX1_outcomeOf 40 = .ok (.ireturn, 1) := by decide +kernel
theorem dX1_bestFrom_0 : decode cX1_bestFrom 0 = .ok (.iload_n 1, 1) := by decide +kernel
theorem dX1_bestFrom_1 : decode cX1_bestFrom 1 = .ok (.aload_n 0, 1) := by decide +kernel
theorem dX1_bestFrom_2 : decode cX1_bestFrom 2 = .ok (.getfield 37, 3) := by decide +kernel
theorem dX1_bestFrom_5 : decode cX1_bestFrom 5 = .ok (.if_icmp .lt 8, 3) := by decide +kernel
theorem dX1_bestFrom_8 : decode cX1_bestFrom 8 = .ok (.aload_n 0, 1) := by decide +kernel
theorem dX1_bestFrom_9 : decode cX1_bestFrom 9 = .ok (.invokevirtual 51, 3) := by decide +kernel
theorem dX1_bestFrom_12 : decode cX1_bestFrom 12 = .ok (.ireturn, 1) := by decide +kernel
theorem dX1_bestFrom_13 : decode cX1_bestFrom 13 = .ok (.iload_n 1, 1) := by decide +kernel
theorem dX1_bestFrom_14 : decode cX1_bestFrom 14 = .ok (.iconst 2, 1) := by decide +kernel
theorem dX1_bestFrom_15 : decode cX1_bestFrom 15 = .ok (.irem, 1) := by decide +kernel
theorem dX1_bestFrom_16 : decode cX1_bestFrom 16 = .ok (.ifCond .ne 7, 3) := by decide +kernel
theorem dX1_bestFrom_19 : decode cX1_bestFrom 19 = .ok (.iconst 1, 1) := by decide +kernel
theorem dX1_bestFrom_20 : decode cX1_bestFrom 20 = .ok (.goto 4, 3) := by decide +kernel
theorem dX1_bestFrom_23 : decode cX1_bestFrom 23 = .ok (.iconst 0, 1) := by decide +kernel
theorem dX1_bestFrom_24 : decode cX1_bestFrom 24 = .ok (.istore_n 2, 1) := by decide +kernel
theorem dX1_bestFrom_25 : decode cX1_bestFrom 25 = .ok (.iload_n 2, 1) := by decide +kernel
theorem dX1_bestFrom_26 : decode cX1_bestFrom 26 = .ok (.ifCond .eq 10, 3) := by decide +kernel
theorem dX1_bestFrom_29 : decode cX1_bestFrom 29 = .ok (.aload_n 0, 1) := by decide +kernel
theorem dX1_bestFrom_30 : decode cX1_bestFrom 30 = .ok (.getfield 24, 3) := by decide +kernel
theorem dX1_bestFrom_33 : decode cX1_bestFrom 33 = .ok (.goto 7, 3) := by decide +kernel
theorem dX1_bestFrom_36 : decode cX1_bestFrom 36 = .ok (.aload_n 0, 1) := by decide +kernel
theorem dX1_bestFrom_37 : decode cX1_bestFrom 37 = .ok (.getfield 28, 3) := by decide +kernel
theorem dX1_bestFrom_40 : decode cX1_bestFrom 40 = .ok (.istore_n 3, 1) := by decide +kernel
theorem dX1_bestFrom_41 : decode cX1_bestFrom 41 = .ok (.iload_n 2, 1) := by decide +kernel
theorem dX1_bestFrom_42 : decode cX1_bestFrom 42 = .ok (.ifCond .eq 8, 3) := by decide +kernel
theorem dX1_bestFrom_45 : decode cX1_bestFrom 45 = .ok (.bipush (-2), 2) := by decide +kernel
theorem dX1_bestFrom_47 : decode cX1_bestFrom 47 = .ok (.goto 4, 3) := by decide +kernel
theorem dX1_bestFrom_50 : decode cX1_bestFrom 50 = .ok (.iconst 2, 1) := by decide +kernel
theorem dX1_bestFrom_51 : decode cX1_bestFrom 51 = .ok (.istore 4, 2) := by decide +kernel
theorem dX1_bestFrom_53 : decode cX1_bestFrom 53 = .ok (.iconst (-1), 1) := by decide +kernel
theorem dX1_bestFrom_54 : decode cX1_bestFrom 54 = .ok (.istore 5, 2) := by decide +kernel
theorem dX1_bestFrom_56 : decode cX1_bestFrom 56 = .ok (.iconst 0, 1) := by decide +kernel
theorem dX1_bestFrom_57 : decode cX1_bestFrom 57 = .ok (.istore 6, 2) := by decide +kernel
theorem dX1_bestFrom_59 : decode cX1_bestFrom 59 = .ok (.iload 6, 2) := by decide +kernel
theorem dX1_bestFrom_61 : decode cX1_bestFrom 61 = .ok (.aload_n 0, 1) := by decide +kernel
theorem dX1_bestFrom_62 : decode cX1_bestFrom 62 = .ok (.getfield 12, 3) := by decide +kernel
theorem dX1_bestFrom_65 : decode cX1_bestFrom 65 = .ok (.getfield 55, 3) := by decide +kernel
theorem dX1_bestFrom_68 : decode cX1_bestFrom 68 = .ok (.if_icmp .ge 103, 3) := by decide +kernel
theorem dX1_bestFrom_71 : decode cX1_bestFrom 71 = .ok (.iload 6, 2) := by decide +kernel
theorem dX1_bestFrom_73 : decode cX1_bestFrom 73 = .ok (.iload_n 3, 1) := by decide +kernel
theorem dX1_bestFrom_74 : decode cX1_bestFrom 74 = .ok (.if_icmp .eq 91, 3) := by decide +kernel
theorem dX1_bestFrom_77 : decode cX1_bestFrom 77 = .ok (.aload_n 0, 1) := by decide +kernel
theorem dX1_bestFrom_78 : decode cX1_bestFrom 78 = .ok (.getfield 12, 3) := by decide +kernel
theorem dX1_bestFrom_81 : decode cX1_bestFrom 81 = .ok (.iload 6, 2) := by decide +kernel
theorem dX1_bestFrom_83 : decode cX1_bestFrom 83 = .ok (.invokevirtual 58, 3) := by decide +kernel
theorem dX1_bestFrom_86 : decode cX1_bestFrom 86 = .ok (.ifCond .ne 6, 3) := by decide +kernel
theorem dX1_bestFrom_89 : decode cX1_bestFrom 89 = .ok (.goto 76, 3) := by decide +kernel
theorem dX1_bestFrom_92 : decode cX1_bestFrom 92 = .ok (.aload_n 0, 1) := by decide +kernel
theorem dX1_bestFrom_93 : decode cX1_bestFrom 93 = .ok (.getfield 12, 3) := by decide +kernel
theorem dX1_bestFrom_96 : decode cX1_bestFrom 96 = .ok (.getfield 62, 3) := by decide +kernel
theorem dX1_bestFrom_99 : decode cX1_bestFrom 99 = .ok (.iload 6, 2) := by decide +kernel
theorem dX1_bestFrom_101 : decode cX1_bestFrom 101 = .ok (.iaload, 1) := by decide +kernel
theorem dX1_bestFrom_102 : decode cX1_bestFrom 102 = .ok (.istore 7, 2) := by decide +kernel
theorem dX1_bestFrom_104 : decode cX1_bestFrom 104 = .ok (.aload_n 0, 1) := by decide +kernel
theorem dX1_bestFrom_105 : decode cX1_bestFrom 105 = .ok (.getfield 12, 3) := by decide +kernel
theorem dX1_bestFrom_108 : decode cX1_bestFrom 108 = .ok (.getfield 62, 3) := by decide +kernel
theorem dX1_bestFrom_111 : decode cX1_bestFrom 111 = .ok (.iload 6, 2) := by decide +kernel
theorem dX1_bestFrom_113 : decode cX1_bestFrom 113 = .ok (.iload_n 3, 1) := by decide +kernel
theorem dX1_bestFrom_114 : decode cX1_bestFrom 114 = .ok (.iastore, 1) := by decide +kernel
theorem dX1_bestFrom_115 : decode cX1_bestFrom 115 = .ok (.aload_n 0, 1) := by decide +kernel
theorem dX1_bestFrom_116 : decode cX1_bestFrom 116 = .ok (.iload_n 1, 1) := by decide +kernel
theorem dX1_bestFrom_117 : decode cX1_bestFrom 117 = .ok (.iconst 1, 1) := by decide +kernel
theorem dX1_bestFrom_118 : decode cX1_bestFrom 118 = .ok (.iadd, 1) := by decide +kernel
theorem dX1_bestFrom_119 : decode cX1_bestFrom 119 = .ok (.invokevirtual 47, 3) := by decide +kernel
theorem dX1_bestFrom_122 : decode cX1_bestFrom 122 = .ok (.istore 8, 2) := by decide +kernel
theorem dX1_bestFrom_124 : decode cX1_bestFrom 124 = .ok (.aload_n 0, 1) := by decide +kernel
theorem dX1_bestFrom_125 : decode cX1_bestFrom 125 = .ok (.getfield 12, 3) := by decide +kernel
theorem dX1_bestFrom_128 : decode cX1_bestFrom 128 = .ok (.getfield 62, 3) := by decide +kernel
theorem dX1_bestFrom_131 : decode cX1_bestFrom 131 = .ok (.iload 6, 2) := by decide +kernel
theorem dX1_bestFrom_133 : decode cX1_bestFrom 133 = .ok (.iload 7, 2) := by decide +kernel
theorem dX1_bestFrom_135 : decode cX1_bestFrom 135 = .ok (.iastore, 1) := by decide +kernel
theorem dX1_bestFrom_136 : decode cX1_bestFrom 136 = .ok (.iload_n 2, 1) := by decide +kernel
theorem dX1_bestFrom_137 : decode cX1_bestFrom 137 = .ok (.ifCond .eq 13, 3) := by decide +kernel
theorem dX1_bestFrom_140 : decode cX1_bestFrom 140 = .ok (.iload 8, 2) := by decide +kernel
theorem dX1_bestFrom_142 : decode cX1_bestFrom 142 = .ok (.iload 4, 2) := by decide +kernel
theorem dX1_bestFrom_144 : decode cX1_bestFrom 144 = .ok (.if_icmp .le 21, 3) := by decide +kernel
theorem dX1_bestFrom_147 : decode cX1_bestFrom 147 = .ok (.goto 10, 3) := by decide +kernel
theorem dX1_bestFrom_150 : decode cX1_bestFrom 150 = .ok (.iload 8, 2) := by decide +kernel
theorem dX1_bestFrom_152 : decode cX1_bestFrom 152 = .ok (.iload 4, 2) := by decide +kernel
theorem dX1_bestFrom_154 : decode cX1_bestFrom 154 = .ok (.if_icmp .ge 11, 3) := by decide +kernel
theorem dX1_bestFrom_157 : decode cX1_bestFrom 157 = .ok (.iload 8, 2) := by decide +kernel
theorem dX1_bestFrom_159 : decode cX1_bestFrom 159 = .ok (.istore 4, 2) := by decide +kernel
theorem dX1_bestFrom_161 : decode cX1_bestFrom 161 = .ok (.iload 6, 2) := by decide +kernel
theorem dX1_bestFrom_163 : decode cX1_bestFrom 163 = .ok (.istore 5, 2) := by decide +kernel
theorem dX1_bestFrom_165 : decode cX1_bestFrom 165 = .ok (.iinc 6 1, 3) := by decide +kernel
theorem dX1_bestFrom_168 : decode cX1_bestFrom 168 = .ok (.goto (-109), 3) := by decide +kernel
theorem dX1_bestFrom_171 : decode cX1_bestFrom 171 = .ok (.aload_n 0, 1) := by decide +kernel
theorem dX1_bestFrom_172 : decode cX1_bestFrom 172 = .ok (.iload_n 1, 1) := by decide +kernel
theorem dX1_bestFrom_173 : decode cX1_bestFrom 173 = .ok (.iconst 1, 1) := by decide +kernel
theorem dX1_bestFrom_174 : decode cX1_bestFrom 174 = .ok (.iadd, 1) := by decide +kernel
theorem dX1_bestFrom_175 : decode cX1_bestFrom 175 = .ok (.invokevirtual 47, 3) := by decide +kernel
theorem dX1_bestFrom_178 : decode cX1_bestFrom 178 = .ok (.istore 6, 2) := by decide +kernel
theorem dX1_bestFrom_180 : decode cX1_bestFrom 180 = .ok (.iload_n 2, 1) := by decide +kernel
theorem dX1_bestFrom_181 : decode cX1_bestFrom 181 = .ok (.ifCond .eq 13, 3) := by decide +kernel
theorem dX1_bestFrom_184 : decode cX1_bestFrom 184 = .ok (.iload 6, 2) := by decide +kernel
theorem dX1_bestFrom_186 : decode cX1_bestFrom 186 = .ok (.iload 4, 2) := by decide +kernel
theorem dX1_bestFrom_188 : decode cX1_bestFrom 188 = .ok (.if_icmp .le 20, 3) := by decide +kernel
theorem dX1_bestFrom_191 : decode cX1_bestFrom 191 = .ok (.goto 10, 3) := by decide +kernel
theorem dX1_bestFrom_194 : decode cX1_bestFrom 194 = .ok (.iload 6, 2) := by decide +kernel
theorem dX1_bestFrom_196 : decode cX1_bestFrom 196 = .ok (.iload 4, 2) := by decide +kernel
theorem dX1_bestFrom_198 : decode cX1_bestFrom 198 = .ok (.if_icmp .ge 10, 3) := by decide +kernel
theorem dX1_bestFrom_201 : decode cX1_bestFrom 201 = .ok (.iload 6, 2) := by decide +kernel
theorem dX1_bestFrom_203 : decode cX1_bestFrom 203 = .ok (.istore 4, 2) := by decide +kernel
theorem dX1_bestFrom_205 : decode cX1_bestFrom 205 = .ok (.iconst (-1), 1) := by decide +kernel
theorem dX1_bestFrom_206 : decode cX1_bestFrom 206 = .ok (.istore 5, 2) := by decide +kernel
theorem dX1_bestFrom_208 : decode cX1_bestFrom 208 = .ok (.iload_n 1, 1) := by decide +kernel
theorem dX1_bestFrom_209 : decode cX1_bestFrom 209 = .ok (.ifCond .ne 9, 3) := by decide +kernel
theorem dX1_bestFrom_212 : decode cX1_bestFrom 212 = .ok (.aload_n 0, 1) := by decide +kernel
theorem dX1_bestFrom_213 : decode cX1_bestFrom 213 = .ok (.iload 5, 2) := by decide +kernel
theorem dX1_bestFrom_215 : decode cX1_bestFrom 215 = .ok (.putfield 40, 3) := by decide +kernel
theorem dX1_bestFrom_218 : decode cX1_bestFrom 218 = .ok (.iload 4, 2) := by decide +kernel
theorem dX1_bestFrom_220 : decode cX1_bestFrom 220 = .ok (.ireturn, 1) := by decide +kernel
theorem dX1_outcome_0 : decode cX1_outcome 0 = .ok (.aload_n 0, 1) := by decide +kernel
theorem dX1_outcome_1 : decode cX1_outcome 1 = .ok (.getfield 18, 3) := by decide +kernel
theorem dX1_outcome_4 : decode cX1_outcome 4 = .ok (.aload_n 0, 1) := by decide +kernel
theorem dX1_outcome_5 : decode cX1_outcome 5 = .ok (.getfield 12, 3) := by decide +kernel
theorem dX1_outcome_8 : decode cX1_outcome 8 = .ok (.invokevirtual 43, 3) := by decide +kernel
theorem dX1_outcome_11 : decode cX1_outcome 11 = .ok (.aload_n 0, 1) := by decide +kernel
theorem dX1_outcome_12 : decode cX1_outcome 12 = .ok (.getfield 18, 3) := by decide +kernel
theorem dX1_outcome_15 : decode cX1_outcome 15 = .ok (.bipush 10, 2) := by decide +kernel
theorem dX1_outcome_17 : decode cX1_outcome 17 = .ok (.invokevirtual 66, 3) := by decide +kernel
theorem dX1_outcome_20 : decode cX1_outcome 20 = .ok (.aload_n 0, 1) := by decide +kernel
theorem dX1_outcome_21 : decode cX1_outcome 21 = .ok (.getfield 18, 3) := by decide +kernel
theorem dX1_outcome_24 : decode cX1_outcome 24 = .ok (.aload_n 0, 1) := by decide +kernel
theorem dX1_outcome_25 : decode cX1_outcome 25 = .ok (.getfield 24, 3) := by decide +kernel
theorem dX1_outcome_28 : decode cX1_outcome 28 = .ok (.invokevirtual 58, 3) := by decide +kernel
theorem dX1_outcome_31 : decode cX1_outcome 31 = .ok (.ifCond .eq 7, 3) := by decide +kernel
theorem dX1_outcome_34 : decode cX1_outcome 34 = .ok (.iconst 0, 1) := by decide +kernel
theorem dX1_outcome_35 : decode cX1_outcome 35 = .ok (.goto 4, 3) := by decide +kernel
theorem dX1_outcome_38 : decode cX1_outcome 38 = .ok (.iconst 1, 1) := by decide +kernel
theorem dX1_outcome_39 : decode cX1_outcome 39 = .ok (.aload_n 0, 1) := by decide +kernel
theorem dX1_outcome_40 : decode cX1_outcome 40 = .ok (.getfield 18, 3) := by decide +kernel
theorem dX1_outcome_43 : decode cX1_outcome 43 = .ok (.aload_n 0, 1) := by decide +kernel
theorem dX1_outcome_44 : decode cX1_outcome 44 = .ok (.getfield 28, 3) := by decide +kernel
theorem dX1_outcome_47 : decode cX1_outcome 47 = .ok (.invokevirtual 58, 3) := by decide +kernel
theorem dX1_outcome_50 : decode cX1_outcome 50 = .ok (.ifCond .eq 7, 3) := by decide +kernel
theorem dX1_outcome_53 : decode cX1_outcome 53 = .ok (.iconst 0, 1) := by decide +kernel
theorem dX1_outcome_54 : decode cX1_outcome 54 = .ok (.goto 4, 3) := by decide +kernel
theorem dX1_outcome_57 : decode cX1_outcome 57 = .ok (.iconst 1, 1) := by decide +kernel
theorem dX1_outcome_58 : decode cX1_outcome 58 = .ok (.isub, 1) := by decide +kernel
theorem dX1_outcome_59 : decode cX1_outcome 59 = .ok (.ireturn, 1) := by decide +kernel
theorem dX2_init_0 : decode cX2_init 0 = .ok (.aload_n 0, 1) := by decide +kernel
theorem dX2_init_1 : decode cX2_init 1 = .ok (.invokespecial 3, 3) := by decide +kernel
theorem dX2_init_4 : decode cX2_init 4 = .ok (.aload_n 0, 1) := by decide +kernel
theorem dX2_init_5 : decode cX2_init 5 = .ok (.new 9, 3) := by decide +kernel
theorem dX2_init_8 : decode cX2_init 8 = .ok (.dup, 1) := by decide +kernel
theorem dX2_init_9 : decode cX2_init 9 = .ok (.invokespecial 11, 3) := by decide +kernel
theorem dX2_init_12 : decode cX2_init 12 = .ok (.putfield 12, 3) := by decide +kernel
theorem dX2_init_15 : decode cX2_init 15 = .ok (.aload_n 0, 1) := by decide +kernel
theorem dX2_init_16 : decode cX2_init 16 = .ok (.aload_n 1, 1) := by decide +kernel
theorem dX2_init_17 : decode cX2_init 17 = .ok (.putfield 18, 3) := by decide +kernel
theorem dX2_init_20 : decode cX2_init 20 = .ok (.aload_n 0, 1) := by decide +kernel
theorem dX2_init_21 : decode cX2_init 21 = .ok (.aload_n 2, 1) := by decide +kernel
theorem dX2_init_22 : decode cX2_init 22 = .ok (.putfield 21, 3) := by decide +kernel
theorem dX2_init_25 : decode cX2_init 25 = .ok (.return_, 1) := by decide +kernel
theorem dX2_pass_0 : decode cX2_pass 0 = .ok (.aload_n 0, 1) := by decide +kernel
theorem dX2_pass_1 : decode cX2_pass 1 = .ok (.iload_n 1, 1) := by decide +kernel
theorem dX2_pass_2 : decode cX2_pass 2 = .ok (.putfield 25, 3) := by decide +kernel
theorem dX2_pass_5 : decode cX2_pass 5 = .ok (.aload_n 0, 1) := by decide +kernel
theorem dX2_pass_6 : decode cX2_pass 6 = .ok (.iconst 0, 1) := by decide +kernel
theorem dX2_pass_7 : decode cX2_pass 7 = .ok (.putfield 29, 3) := by decide +kernel
theorem dX2_pass_10 : decode cX2_pass 10 = .ok (.aload_n 0, 1) := by decide +kernel
theorem dX2_pass_11 : decode cX2_pass 11 = .ok (.iconst 0, 1) := by decide +kernel
theorem dX2_pass_12 : decode cX2_pass 12 = .ok (.putfield 33, 3) := by decide +kernel
theorem dX2_pass_15 : decode cX2_pass 15 = .ok (.aload_n 0, 1) := by decide +kernel
theorem dX2_pass_16 : decode cX2_pass 16 = .ok (.iconst 0, 1) := by decide +kernel
theorem dX2_pass_17 : decode cX2_pass 17 = .ok (.putfield 36, 3) := by decide +kernel
theorem dX2_pass_20 : decode cX2_pass 20 = .ok (.aload_n 0, 1) := by decide +kernel
theorem dX2_pass_21 : decode cX2_pass 21 = .ok (.iconst 0, 1) := by decide +kernel
theorem dX2_pass_22 : decode cX2_pass 22 = .ok (.putfield 39, 3) := by decide +kernel
theorem dX2_pass_25 : decode cX2_pass 25 = .ok (.aload_n 0, 1) := by decide +kernel
theorem dX2_pass_26 : decode cX2_pass 26 = .ok (.iconst 0, 1) := by decide +kernel
theorem dX2_pass_27 : decode cX2_pass 27 = .ok (.aload_n 0, 1) := by decide +kernel
theorem dX2_pass_28 : decode cX2_pass 28 = .ok (.getfield 21, 3) := by decide +kernel
theorem dX2_pass_31 : decode cX2_pass 31 = .ok (.getfield 42, 3) := by decide +kernel
theorem dX2_pass_34 : decode cX2_pass 34 = .ok (.iconst 0, 1) := by decide +kernel
theorem dX2_pass_35 : decode cX2_pass 35 = .ok (.invokevirtual 45, 3) := by decide +kernel
theorem dX2_pass_38 : decode cX2_pass 38 = .ok (.return_, 1) := by decide +kernel
theorem dX2_goThrough_0 : decode cX2_goThrough 0 = .ok (.iload_n 1, 1) := by decide +kernel
theorem dX2_goThrough_1 : decode cX2_goThrough 1 = .ok (.istore 4, 2) := by decide +kernel
theorem dX2_goThrough_3 : decode cX2_goThrough 3 = .ok (.iconst 0, 1) := by decide +kernel
theorem dX2_goThrough_4 : decode cX2_goThrough 4 = .ok (.istore 5, 2) := by decide +kernel
theorem dX2_goThrough_6 : decode cX2_goThrough 6 = .ok (.iload 5, 2) := by decide +kernel
theorem dX2_goThrough_8 : decode cX2_goThrough 8 = .ok (.bipush 30, 2) := by decide +kernel
theorem dX2_goThrough_10 : decode cX2_goThrough 10 = .ok (.if_icmp .ge 160, 3) := by decide +kernel
theorem dX2_goThrough_13 : decode cX2_goThrough 13 = .ok (.iload 4, 2) := by decide +kernel
theorem dX2_goThrough_15 : decode cX2_goThrough 15 = .ok (.iload_n 2, 1) := by decide +kernel
theorem dX2_goThrough_16 : decode cX2_goThrough 16 = .ok (.if_icmp .ge 154, 3) := by decide +kernel
theorem dX2_goThrough_19 : decode cX2_goThrough 19 = .ok (.aload_n 0, 1) := by decide +kernel
theorem dX2_goThrough_20 : decode cX2_goThrough 20 = .ok (.getfield 29, 3) := by decide +kernel
theorem dX2_goThrough_23 : decode cX2_goThrough 23 = .ok (.ifCond .ne 147, 3) := by decide +kernel
theorem dX2_goThrough_26 : decode cX2_goThrough 26 = .ok (.aload_n 0, 1) := by decide +kernel
theorem dX2_goThrough_27 : decode cX2_goThrough 27 = .ok (.getfield 33, 3) := by decide +kernel
theorem dX2_goThrough_30 : decode cX2_goThrough 30 = .ok (.sipush 300, 3) := by decide +kernel
theorem dX2_goThrough_33 : decode cX2_goThrough 33 = .ok (.if_icmp .lt 14, 3) := by decide +kernel
theorem dX2_goThrough_36 : decode cX2_goThrough 36 = .ok (.aload_n 0, 1) := by decide +kernel
theorem dX2_goThrough_37 : decode cX2_goThrough 37 = .ok (.iconst 1, 1) := by decide +kernel
theorem dX2_goThrough_38 : decode cX2_goThrough 38 = .ok (.putfield 39, 3) := by decide +kernel
theorem dX2_goThrough_41 : decode cX2_goThrough 41 = .ok (.aload_n 0, 1) := by decide +kernel
theorem dX2_goThrough_42 : decode cX2_goThrough 42 = .ok (.iconst 1, 1) := by decide +kernel
theorem dX2_goThrough_43 : decode cX2_goThrough 43 = .ok (.putfield 29, 3) := by decide +kernel
theorem dX2_goThrough_46 : decode cX2_goThrough 46 = .ok (.return_, 1) := by decide +kernel
theorem dX2_goThrough_47 : decode cX2_goThrough 47 = .ok (.aload_n 0, 1) := by decide +kernel
theorem dX2_goThrough_48 : decode cX2_goThrough 48 = .ok (.dup, 1) := by decide +kernel
theorem dX2_goThrough_49 : decode cX2_goThrough 49 = .ok (.getfield 33, 3) := by decide +kernel
theorem dX2_goThrough_52 : decode cX2_goThrough 52 = .ok (.iconst 1, 1) := by decide +kernel
theorem dX2_goThrough_53 : decode cX2_goThrough 53 = .ok (.iadd, 1) := by decide +kernel
theorem dX2_goThrough_54 : decode cX2_goThrough 54 = .ok (.putfield 33, 3) := by decide +kernel
theorem dX2_goThrough_57 : decode cX2_goThrough 57 = .ok (.aload_n 0, 1) := by decide +kernel
theorem dX2_goThrough_58 : decode cX2_goThrough 58 = .ok (.getfield 21, 3) := by decide +kernel
theorem dX2_goThrough_61 : decode cX2_goThrough 61 = .ok (.getfield 49, 3) := by decide +kernel
theorem dX2_goThrough_64 : decode cX2_goThrough 64 = .ok (.iload 4, 2) := by decide +kernel
theorem dX2_goThrough_66 : decode cX2_goThrough 66 = .ok (.iaload, 1) := by decide +kernel
theorem dX2_goThrough_67 : decode cX2_goThrough 67 = .ok (.bipush 18, 2) := by decide +kernel
theorem dX2_goThrough_69 : decode cX2_goThrough 69 = .ok (.if_icmp .eq 30, 3) := by decide +kernel
theorem dX2_goThrough_72 : decode cX2_goThrough 72 = .ok (.aload_n 0, 1) := by decide +kernel
theorem dX2_goThrough_73 : decode cX2_goThrough 73 = .ok (.getfield 21, 3) := by decide +kernel
theorem dX2_goThrough_76 : decode cX2_goThrough 76 = .ok (.getfield 49, 3) := by decide +kernel
theorem dX2_goThrough_79 : decode cX2_goThrough 79 = .ok (.iload 4, 2) := by decide +kernel
theorem dX2_goThrough_81 : decode cX2_goThrough 81 = .ok (.iaload, 1) := by decide +kernel
theorem dX2_goThrough_82 : decode cX2_goThrough 82 = .ok (.bipush 22, 2) := by decide +kernel
theorem dX2_goThrough_84 : decode cX2_goThrough 84 = .ok (.if_icmp .eq 15, 3) := by decide +kernel
theorem dX2_goThrough_87 : decode cX2_goThrough 87 = .ok (.aload_n 0, 1) := by decide +kernel
theorem dX2_goThrough_88 : decode cX2_goThrough 88 = .ok (.iload 4, 2) := by decide +kernel
theorem dX2_goThrough_90 : decode cX2_goThrough 90 = .ok (.invokevirtual 53, 3) := by decide +kernel
theorem dX2_goThrough_93 : decode cX2_goThrough 93 = .ok (.iinc 4 1, 3) := by decide +kernel
theorem dX2_goThrough_96 : decode cX2_goThrough 96 = .ok (.goto 68, 3) := by decide +kernel
theorem dX2_goThrough_99 : decode cX2_goThrough 99 = .ok (.aload_n 0, 1) := by decide +kernel
theorem dX2_goThrough_100 : decode cX2_goThrough 100 = .ok (.iload 4, 2) := by decide +kernel
theorem dX2_goThrough_102 : decode cX2_goThrough 102 = .ok (.invokevirtual 57, 3) := by decide +kernel
theorem dX2_goThrough_105 : decode cX2_goThrough 105 = .ok (.istore 6, 2) := by decide +kernel
theorem dX2_goThrough_107 : decode cX2_goThrough 107 = .ok (.aload_n 0, 1) := by decide +kernel
theorem dX2_goThrough_108 : decode cX2_goThrough 108 = .ok (.getfield 21, 3) := by decide +kernel
theorem dX2_goThrough_111 : decode cX2_goThrough 111 = .ok (.getfield 61, 3) := by decide +kernel
theorem dX2_goThrough_114 : decode cX2_goThrough 114 = .ok (.iload 4, 2) := by decide +kernel
theorem dX2_goThrough_116 : decode cX2_goThrough 116 = .ok (.iaload, 1) := by decide +kernel
theorem dX2_goThrough_117 : decode cX2_goThrough 117 = .ok (.istore 7, 2) := by decide +kernel
theorem dX2_goThrough_119 : decode cX2_goThrough 119 = .ok (.iconst 0, 1) := by decide +kernel
theorem dX2_goThrough_120 : decode cX2_goThrough 120 = .ok (.istore 8, 2) := by decide +kernel
theorem dX2_goThrough_122 : decode cX2_goThrough 122 = .ok (.iload 8, 2) := by decide +kernel
theorem dX2_goThrough_124 : decode cX2_goThrough 124 = .ok (.iload 6, 2) := by decide +kernel
theorem dX2_goThrough_126 : decode cX2_goThrough 126 = .ok (.if_icmp .ge 34, 3) := by decide +kernel
theorem dX2_goThrough_129 : decode cX2_goThrough 129 = .ok (.aload_n 0, 1) := by decide +kernel
theorem dX2_goThrough_130 : decode cX2_goThrough 130 = .ok (.getfield 29, 3) := by decide +kernel
theorem dX2_goThrough_133 : decode cX2_goThrough 133 = .ok (.ifCond .ne 27, 3) := by decide +kernel
theorem dX2_goThrough_136 : decode cX2_goThrough 136 = .ok (.iload_n 3, 1) := by decide +kernel
theorem dX2_goThrough_137 : decode cX2_goThrough 137 = .ok (.iconst 3, 1) := by decide +kernel
theorem dX2_goThrough_138 : decode cX2_goThrough 138 = .ok (.if_icmp .ge 22, 3) := by decide +kernel
theorem dX2_goThrough_141 : decode cX2_goThrough 141 = .ok (.aload_n 0, 1) := by decide +kernel
theorem dX2_goThrough_142 : decode cX2_goThrough 142 = .ok (.iload 4, 2) := by decide +kernel
theorem dX2_goThrough_144 : decode cX2_goThrough 144 = .ok (.iconst 1, 1) := by decide +kernel
theorem dX2_goThrough_145 : decode cX2_goThrough 145 = .ok (.iadd, 1) := by decide +kernel
theorem dX2_goThrough_146 : decode cX2_goThrough 146 = .ok (.iload 7, 2) := by decide +kernel
theorem dX2_goThrough_148 : decode cX2_goThrough 148 = .ok (.iload_n 3, 1) := by decide +kernel
theorem dX2_goThrough_149 : decode cX2_goThrough 149 = .ok (.iconst 1, 1) := by decide +kernel
theorem dX2_goThrough_150 : decode cX2_goThrough 150 = .ok (.iadd, 1) := by decide +kernel
theorem dX2_goThrough_151 : decode cX2_goThrough 151 = .ok (.invokevirtual 45, 3) := by decide +kernel
theorem dX2_goThrough_154 : decode cX2_goThrough 154 = .ok (.iinc 8 1, 3) := by decide +kernel
theorem dX2_goThrough_157 : decode cX2_goThrough 157 = .ok (.goto (-35), 3) := by decide +kernel
theorem dX2_goThrough_160 : decode cX2_goThrough 160 = .ok (.iload 7, 2) := by decide +kernel
theorem dX2_goThrough_162 : decode cX2_goThrough 162 = .ok (.istore 4, 2) := by decide +kernel
theorem dX2_goThrough_164 : decode cX2_goThrough 164 = .ok (.iinc 5 1, 3) := by decide +kernel
theorem dX2_goThrough_167 : decode cX2_goThrough 167 = .ok (.goto (-161), 3) := by decide +kernel
theorem dX2_goThrough_170 : decode cX2_goThrough 170 = .ok (.return_, 1) := by decide +kernel
theorem dX2_timesWithin_0 : decode cX2_timesWithin 0 = .ok (.aload_n 0, 1) := by decide +kernel
theorem dX2_timesWithin_1 : decode cX2_timesWithin 1 = .ok (.getfield 21, 3) := by decide +kernel
theorem dX2_timesWithin_4 : decode cX2_timesWithin 4 = .ok (.getfield 49, 3) := by decide +kernel
theorem dX2_timesWithin_7 : decode cX2_timesWithin 7 = .ok (.iload_n 1, 1) := by decide +kernel
theorem dX2_timesWithin_8 : decode cX2_timesWithin 8 = .ok (.iaload, 1) := by decide +kernel
theorem dX2_timesWithin_9 : decode cX2_timesWithin 9 = .ok (.bipush 22, 2) := by decide +kernel
theorem dX2_timesWithin_11 : decode cX2_timesWithin 11 = .ok (.if_icmp .ne 13, 3) := by decide +kernel
theorem dX2_timesWithin_14 : decode cX2_timesWithin 14 = .ok (.aload_n 0, 1) := by decide +kernel
theorem dX2_timesWithin_15 : decode cX2_timesWithin 15 = .ok (.getfield 21, 3) := by decide +kernel
theorem dX2_timesWithin_18 : decode cX2_timesWithin 18 = .ok (.getfield 64, 3) := by decide +kernel
theorem dX2_timesWithin_21 : decode cX2_timesWithin 21 = .ok (.iload_n 1, 1) := by decide +kernel
theorem dX2_timesWithin_22 : decode cX2_timesWithin 22 = .ok (.iaload, 1) := by decide +kernel
theorem dX2_timesWithin_23 : decode cX2_timesWithin 23 = .ok (.ireturn, 1) := by decide +kernel
theorem dX2_timesWithin_24 : decode cX2_timesWithin 24 = .ok (.aload_n 0, 1) := by decide +kernel
theorem dX2_timesWithin_25 : decode cX2_timesWithin 25 = .ok (.iload_n 1, 1) := by decide +kernel
theorem dX2_timesWithin_26 : decode cX2_timesWithin 26 = .ok (.invokevirtual 67, 3) := by decide +kernel
theorem dX2_timesWithin_29 : decode cX2_timesWithin 29 = .ok (.ifCond .eq 7, 3) := by decide +kernel
theorem dX2_timesWithin_32 : decode cX2_timesWithin 32 = .ok (.iconst 1, 1) := by decide +kernel
theorem dX2_timesWithin_33 : decode cX2_timesWithin 33 = .ok (.goto 4, 3) := by decide +kernel
theorem dX2_timesWithin_36 : decode cX2_timesWithin 36 = .ok (.iconst 0, 1) := by decide +kernel
theorem dX2_timesWithin_37 : decode cX2_timesWithin 37 = .ok (.ireturn, 1) := by decide +kernel
theorem dX2_holds_0 : decode cX2_holds 0 = .ok (.aload_n 0, 1) := by decide +kernel
theorem dX2_holds_1 : decode cX2_holds 1 = .ok (.getfield 21, 3) := by decide +kernel
theorem dX2_holds_4 : decode cX2_holds 4 = .ok (.getfield 71, 3) := by decide +kernel
theorem dX2_holds_7 : decode cX2_holds 7 = .ok (.iload_n 1, 1) := by decide +kernel
theorem dX2_holds_8 : decode cX2_holds 8 = .ok (.iaload, 1) := by decide +kernel
theorem dX2_holds_9 : decode cX2_holds 9 = .ok (.istore_n 2, 1) := by decide +kernel
theorem dX2_holds_10 : decode cX2_holds 10 = .ok (.aload_n 0, 1) := by decide +kernel
theorem dX2_holds_11 : decode cX2_holds 11 = .ok (.getfield 21, 3) := by decide +kernel
theorem dX2_holds_14 : decode cX2_holds 14 = .ok (.getfield 74, 3) := by decide +kernel
theorem dX2_holds_17 : decode cX2_holds 17 = .ok (.iload_n 1, 1) := by decide +kernel
theorem dX2_holds_18 : decode cX2_holds 18 = .ok (.iaload, 1) := by decide +kernel
theorem dX2_holds_19 : decode cX2_holds 19 = .ok (.tableswitch 56 19 21 #[25, 34, 43], 25) := by decide +kernel
theorem dX2_holds_44 : decode cX2_holds 44 = .ok (.aload_n 0, 1) := by decide +kernel
theorem dX2_holds_45 : decode cX2_holds 45 = .ok (.getfield 18, 3) := by decide +kernel
theorem dX2_holds_48 : decode cX2_holds 48 = .ok (.iload_n 2, 1) := by decide +kernel
theorem dX2_holds_49 : decode cX2_holds 49 = .ok (.invokevirtual 77, 3) := by decide +kernel
theorem dX2_holds_52 : decode cX2_holds 52 = .ok (.ireturn, 1) := by decide +kernel
theorem dX2_holds_53 : decode cX2_holds 53 = .ok (.aload_n 0, 1) := by decide +kernel
theorem dX2_holds_54 : decode cX2_holds 54 = .ok (.getfield 18, 3) := by decide +kernel
theorem dX2_holds_57 : decode cX2_holds 57 = .ok (.iload_n 2, 1) := by decide +kernel
theorem dX2_holds_58 : decode cX2_holds 58 = .ok (.invokevirtual 80, 3) := by decide +kernel
theorem dX2_holds_61 : decode cX2_holds 61 = .ok (.ireturn, 1) := by decide +kernel
theorem dX2_holds_62 : decode cX2_holds 62 = .ok (.aload_n 0, 1) := by decide +kernel
theorem dX2_holds_63 : decode cX2_holds 63 = .ok (.aload_n 0, 1) := by decide +kernel
theorem dX2_holds_64 : decode cX2_holds 64 = .ok (.getfield 18, 3) := by decide +kernel
theorem dX2_holds_67 : decode cX2_holds 67 = .ok (.getfield 83, 3) := by decide +kernel
theorem dX2_holds_70 : decode cX2_holds 70 = .ok (.iload_n 1, 1) := by decide +kernel
theorem dX2_holds_71 : decode cX2_holds 71 = .ok (.invokevirtual 86, 3) := by decide +kernel
theorem dX2_holds_74 : decode cX2_holds 74 = .ok (.ireturn, 1) := by decide +kernel
theorem dX2_holds_75 : decode cX2_holds 75 = .ok (.aload_n 0, 1) := by decide +kernel
theorem dX2_holds_76 : decode cX2_holds 76 = .ok (.getfield 18, 3) := by decide +kernel
theorem dX2_holds_79 : decode cX2_holds 79 = .ok (.iload_n 2, 1) := by decide +kernel
theorem dX2_holds_80 : decode cX2_holds 80 = .ok (.invokevirtual 90, 3) := by decide +kernel
theorem dX2_holds_83 : decode cX2_holds 83 = .ok (.ifCond .eq 24, 3) := by decide +kernel
theorem dX2_holds_86 : decode cX2_holds 86 = .ok (.aload_n 0, 1) := by decide +kernel
theorem dX2_holds_87 : decode cX2_holds 87 = .ok (.aload_n 0, 1) := by decide +kernel
theorem dX2_holds_88 : decode cX2_holds 88 = .ok (.getfield 18, 3) := by decide +kernel
theorem dX2_holds_91 : decode cX2_holds 91 = .ok (.getfield 93, 3) := by decide +kernel
theorem dX2_holds_94 : decode cX2_holds 94 = .ok (.iload_n 2, 1) := by decide +kernel
theorem dX2_holds_95 : decode cX2_holds 95 = .ok (.iaload, 1) := by decide +kernel
theorem dX2_holds_96 : decode cX2_holds 96 = .ok (.iload_n 1, 1) := by decide +kernel
theorem dX2_holds_97 : decode cX2_holds 97 = .ok (.invokevirtual 86, 3) := by decide +kernel
theorem dX2_holds_100 : decode cX2_holds 100 = .ok (.ifCond .eq 7, 3) := by decide +kernel
theorem dX2_holds_103 : decode cX2_holds 103 = .ok (.iconst 1, 1) := by decide +kernel
theorem dX2_holds_104 : decode cX2_holds 104 = .ok (.goto 4, 3) := by decide +kernel
theorem dX2_holds_107 : decode cX2_holds 107 = .ok (.iconst 0, 1) := by decide +kernel
theorem dX2_holds_108 : decode cX2_holds 108 = .ok (.ireturn, 1) := by decide +kernel
theorem dX2_compare_0 : decode cX2_compare 0 = .ok (.aload_n 0, 1) := by decide +kernel
theorem dX2_compare_1 : decode cX2_compare 1 = .ok (.getfield 21, 3) := by decide +kernel
theorem dX2_compare_4 : decode cX2_compare 4 = .ok (.getfield 64, 3) := by decide +kernel
theorem dX2_compare_7 : decode cX2_compare 7 = .ok (.iload_n 2, 1) := by decide +kernel
theorem dX2_compare_8 : decode cX2_compare 8 = .ok (.iaload, 1) := by decide +kernel
theorem dX2_compare_9 : decode cX2_compare 9 = .ok (.istore_n 3, 1) := by decide +kernel
theorem dX2_compare_10 : decode cX2_compare 10 = .ok (.aload_n 0, 1) := by decide +kernel
theorem dX2_compare_11 : decode cX2_compare 11 = .ok (.getfield 21, 3) := by decide +kernel
theorem dX2_compare_14 : decode cX2_compare 14 = .ok (.getfield 96, 3) := by decide +kernel
theorem dX2_compare_17 : decode cX2_compare 17 = .ok (.iload_n 2, 1) := by decide +kernel
theorem dX2_compare_18 : decode cX2_compare 18 = .ok (.iaload, 1) := by decide +kernel
theorem dX2_compare_19 : decode cX2_compare 19 = .ok (.lookupswitch 47 #[(60, 25), (62, 36)], 25) := by decide +kernel
theorem dX2_compare_44 : decode cX2_compare 44 = .ok (.iload_n 1, 1) := by decide +kernel
theorem dX2_compare_45 : decode cX2_compare 45 = .ok (.iload_n 3, 1) := by decide +kernel
theorem dX2_compare_46 : decode cX2_compare 46 = .ok (.if_icmp .ge 7, 3) := by decide +kernel
theorem dX2_compare_49 : decode cX2_compare 49 = .ok (.iconst 1, 1) := by decide +kernel
theorem dX2_compare_50 : decode cX2_compare 50 = .ok (.goto 4, 3) := by decide +kernel
theorem dX2_compare_53 : decode cX2_compare 53 = .ok (.iconst 0, 1) := by decide +kernel
theorem dX2_compare_54 : decode cX2_compare 54 = .ok (.ireturn, 1) := by decide +kernel
theorem dX2_compare_55 : decode cX2_compare 55 = .ok (.iload_n 1, 1) := by decide +kernel
theorem dX2_compare_56 : decode cX2_compare 56 = .ok (.iload_n 3, 1) := by decide +kernel
theorem dX2_compare_57 : decode cX2_compare 57 = .ok (.if_icmp .le 7, 3) := by decide +kernel
theorem dX2_compare_60 : decode cX2_compare 60 = .ok (.iconst 1, 1) := by decide +kernel
theorem dX2_compare_61 : decode cX2_compare 61 = .ok (.goto 4, 3) := by decide +kernel
theorem dX2_compare_64 : decode cX2_compare 64 = .ok (.iconst 0, 1) := by decide +kernel
theorem dX2_compare_65 : decode cX2_compare 65 = .ok (.ireturn, 1) := by decide +kernel
theorem dX2_compare_66 : decode cX2_compare 66 = .ok (.iload_n 1, 1) := by decide +kernel
theorem dX2_compare_67 : decode cX2_compare 67 = .ok (.iload_n 3, 1) := by decide +kernel
theorem dX2_compare_68 : decode cX2_compare 68 = .ok (.if_icmp .ne 7, 3) := by decide +kernel
theorem dX2_compare_71 : decode cX2_compare 71 = .ok (.iconst 1, 1) := by decide +kernel
theorem dX2_compare_72 : decode cX2_compare 72 = .ok (.goto 4, 3) := by decide +kernel
theorem dX2_compare_75 : decode cX2_compare 75 = .ok (.iconst 0, 1) := by decide +kernel
theorem dX2_compare_76 : decode cX2_compare 76 = .ok (.ireturn, 1) := by decide +kernel
theorem dX2_goStep_0 : decode cX2_goStep 0 = .ok (.iconst 1, 1) := by decide +kernel
theorem dX2_goStep_1 : decode cX2_goStep 1 = .ok (.istore_n 2, 1) := by decide +kernel
theorem dX2_goStep_2 : decode cX2_goStep 2 = .ok (.aload_n 0, 1) := by decide +kernel
theorem dX2_goStep_3 : decode cX2_goStep 3 = .ok (.getfield 21, 3) := by decide +kernel
theorem dX2_goStep_6 : decode cX2_goStep 6 = .ok (.getfield 49, 3) := by decide +kernel
theorem dX2_goStep_9 : decode cX2_goStep 9 = .ok (.iload_n 1, 1) := by decide +kernel
theorem dX2_goStep_10 : decode cX2_goStep 10 = .ok (.iaload, 1) := by decide +kernel
theorem dX2_goStep_11 : decode cX2_goStep 11 = .ok (.tableswitch 192 12 17 #[97, 37, 77, 123, 140, 184], 37) := by decide +kernel
theorem dX2_goStep_48 : decode cX2_goStep 48 = .ok (.aload_n 0, 1) := by decide +kernel
theorem dX2_goStep_49 : decode cX2_goStep 49 = .ok (.getfield 18, 3) := by decide +kernel
theorem dX2_goStep_52 : decode cX2_goStep 52 = .ok (.aload_n 0, 1) := by decide +kernel
theorem dX2_goStep_53 : decode cX2_goStep 53 = .ok (.getfield 21, 3) := by decide +kernel
theorem dX2_goStep_56 : decode cX2_goStep 56 = .ok (.getfield 64, 3) := by decide +kernel
theorem dX2_goStep_59 : decode cX2_goStep 59 = .ok (.iload_n 1, 1) := by decide +kernel
theorem dX2_goStep_60 : decode cX2_goStep 60 = .ok (.iaload, 1) := by decide +kernel
theorem dX2_goStep_61 : decode cX2_goStep 61 = .ok (.invokevirtual 99, 3) := by decide +kernel
theorem dX2_goStep_64 : decode cX2_goStep 64 = .ok (.istore_n 2, 1) := by decide +kernel
theorem dX2_goStep_65 : decode cX2_goStep 65 = .ok (.iload_n 2, 1) := by decide +kernel
theorem dX2_goStep_66 : decode cX2_goStep 66 = .ok (.ifCond .eq 142, 3) := by decide +kernel
theorem dX2_goStep_69 : decode cX2_goStep 69 = .ok (.aload_n 0, 1) := by decide +kernel
theorem dX2_goStep_70 : decode cX2_goStep 70 = .ok (.getfield 18, 3) := by decide +kernel
theorem dX2_goStep_73 : decode cX2_goStep 73 = .ok (.aload_n 0, 1) := by decide +kernel
theorem dX2_goStep_74 : decode cX2_goStep 74 = .ok (.getfield 21, 3) := by decide +kernel
theorem dX2_goStep_77 : decode cX2_goStep 77 = .ok (.getfield 64, 3) := by decide +kernel
theorem dX2_goStep_80 : decode cX2_goStep 80 = .ok (.iload_n 1, 1) := by decide +kernel
theorem dX2_goStep_81 : decode cX2_goStep 81 = .ok (.iaload, 1) := by decide +kernel
theorem dX2_goStep_82 : decode cX2_goStep 82 = .ok (.invokevirtual 102, 3) := by decide +kernel
theorem dX2_goStep_85 : decode cX2_goStep 85 = .ok (.goto 123, 3) := by decide +kernel
theorem dX2_goStep_88 : decode cX2_goStep 88 = .ok (.aload_n 0, 1) := by decide +kernel
theorem dX2_goStep_89 : decode cX2_goStep 89 = .ok (.getfield 18, 3) := by decide +kernel
theorem dX2_goStep_92 : decode cX2_goStep 92 = .ok (.aload_n 0, 1) := by decide +kernel
theorem dX2_goStep_93 : decode cX2_goStep 93 = .ok (.getfield 21, 3) := by decide +kernel
theorem dX2_goStep_96 : decode cX2_goStep 96 = .ok (.getfield 71, 3) := by decide +kernel
theorem dX2_goStep_99 : decode cX2_goStep 99 = .ok (.iload_n 1, 1) := by decide +kernel
theorem dX2_goStep_100 : decode cX2_goStep 100 = .ok (.iaload, 1) := by decide +kernel
theorem dX2_goStep_101 : decode cX2_goStep 101 = .ok (.invokevirtual 105, 3) := by decide +kernel
theorem dX2_goStep_104 : decode cX2_goStep 104 = .ok (.istore_n 2, 1) := by decide +kernel
theorem dX2_goStep_105 : decode cX2_goStep 105 = .ok (.goto 103, 3) := by decide +kernel
theorem dX2_goStep_108 : decode cX2_goStep 108 = .ok (.aload_n 0, 1) := by decide +kernel
theorem dX2_goStep_109 : decode cX2_goStep 109 = .ok (.aload_n 0, 1) := by decide +kernel
theorem dX2_goStep_110 : decode cX2_goStep 110 = .ok (.getfield 21, 3) := by decide +kernel
theorem dX2_goStep_113 : decode cX2_goStep 113 = .ok (.getfield 71, 3) := by decide +kernel
theorem dX2_goStep_116 : decode cX2_goStep 116 = .ok (.iload_n 1, 1) := by decide +kernel
theorem dX2_goStep_117 : decode cX2_goStep 117 = .ok (.iaload, 1) := by decide +kernel
theorem dX2_goStep_118 : decode cX2_goStep 118 = .ok (.aload_n 0, 1) := by decide +kernel
theorem dX2_goStep_119 : decode cX2_goStep 119 = .ok (.getfield 21, 3) := by decide +kernel
theorem dX2_goStep_122 : decode cX2_goStep 122 = .ok (.getfield 108, 3) := by decide +kernel
theorem dX2_goStep_125 : decode cX2_goStep 125 = .ok (.iload_n 1, 1) := by decide +kernel
theorem dX2_goStep_126 : decode cX2_goStep 126 = .ok (.iaload, 1) := by decide +kernel
theorem dX2_goStep_127 : decode cX2_goStep 127 = .ok (.invokevirtual 111, 3) := by decide +kernel
theorem dX2_goStep_130 : decode cX2_goStep 130 = .ok (.istore_n 2, 1) := by decide +kernel
theorem dX2_goStep_131 : decode cX2_goStep 131 = .ok (.goto 77, 3) := by decide +kernel
theorem dX2_goStep_134 : decode cX2_goStep 134 = .ok (.aload_n 0, 1) := by decide +kernel
theorem dX2_goStep_135 : decode cX2_goStep 135 = .ok (.aload_n 0, 1) := by decide +kernel
theorem dX2_goStep_136 : decode cX2_goStep 136 = .ok (.getfield 21, 3) := by decide +kernel
theorem dX2_goStep_139 : decode cX2_goStep 139 = .ok (.getfield 71, 3) := by decide +kernel
theorem dX2_goStep_142 : decode cX2_goStep 142 = .ok (.iload_n 1, 1) := by decide +kernel
theorem dX2_goStep_143 : decode cX2_goStep 143 = .ok (.iaload, 1) := by decide +kernel
theorem dX2_goStep_144 : decode cX2_goStep 144 = .ok (.invokevirtual 114, 3) := by decide +kernel
theorem dX2_goStep_147 : decode cX2_goStep 147 = .ok (.istore_n 2, 1) := by decide +kernel
theorem dX2_goStep_148 : decode cX2_goStep 148 = .ok (.goto 60, 3) := by decide +kernel
theorem dX2_goStep_151 : decode cX2_goStep 151 = .ok (.aload_n 0, 1) := by decide +kernel
theorem dX2_goStep_152 : decode cX2_goStep 152 = .ok (.getfield 18, 3) := by decide +kernel
theorem dX2_goStep_155 : decode cX2_goStep 155 = .ok (.getfield 117, 3) := by decide +kernel
theorem dX2_goStep_158 : decode cX2_goStep 158 = .ok (.aload_n 0, 1) := by decide +kernel
theorem dX2_goStep_159 : decode cX2_goStep 159 = .ok (.getfield 21, 3) := by decide +kernel
theorem dX2_goStep_162 : decode cX2_goStep 162 = .ok (.getfield 64, 3) := by decide +kernel
theorem dX2_goStep_165 : decode cX2_goStep 165 = .ok (.iload_n 1, 1) := by decide +kernel
theorem dX2_goStep_166 : decode cX2_goStep 166 = .ok (.iaload, 1) := by decide +kernel
theorem dX2_goStep_167 : decode cX2_goStep 167 = .ok (.if_icmp .eq 7, 3) := by decide +kernel
theorem dX2_goStep_170 : decode cX2_goStep 170 = .ok (.iconst 1, 1) := by decide +kernel
theorem dX2_goStep_171 : decode cX2_goStep 171 = .ok (.goto 4, 3) := by decide +kernel
theorem dX2_goStep_174 : decode cX2_goStep 174 = .ok (.iconst 0, 1) := by decide +kernel
theorem dX2_goStep_175 : decode cX2_goStep 175 = .ok (.istore_n 2, 1) := by decide +kernel
theorem dX2_goStep_176 : decode cX2_goStep 176 = .ok (.aload_n 0, 1) := by decide +kernel
theorem dX2_goStep_177 : decode cX2_goStep 177 = .ok (.getfield 18, 3) := by decide +kernel
theorem dX2_goStep_180 : decode cX2_goStep 180 = .ok (.aload_n 0, 1) := by decide +kernel
theorem dX2_goStep_181 : decode cX2_goStep 181 = .ok (.getfield 21, 3) := by decide +kernel
theorem dX2_goStep_184 : decode cX2_goStep 184 = .ok (.getfield 64, 3) := by decide +kernel
theorem dX2_goStep_187 : decode cX2_goStep 187 = .ok (.iload_n 1, 1) := by decide +kernel
theorem dX2_goStep_188 : decode cX2_goStep 188 = .ok (.iaload, 1) := by decide +kernel
theorem dX2_goStep_189 : decode cX2_goStep 189 = .ok (.putfield 117, 3) := by decide +kernel
theorem dX2_goStep_192 : decode cX2_goStep 192 = .ok (.goto 16, 3) := by decide +kernel
theorem dX2_goStep_195 : decode cX2_goStep 195 = .ok (.aload_n 0, 1) := by decide +kernel
theorem dX2_goStep_196 : decode cX2_goStep 196 = .ok (.invokevirtual 120, 3) := by decide +kernel
theorem dX2_goStep_199 : decode cX2_goStep 199 = .ok (.istore_n 2, 1) := by decide +kernel
theorem dX2_goStep_200 : decode cX2_goStep 200 = .ok (.goto 8, 3) := by decide +kernel
theorem dX2_goStep_203 : decode cX2_goStep 203 = .ok (.aload_n 0, 1) := by decide +kernel
theorem dX2_goStep_204 : decode cX2_goStep 204 = .ok (.iconst 1, 1) := by decide +kernel
theorem dX2_goStep_205 : decode cX2_goStep 205 = .ok (.putfield 29, 3) := by decide +kernel
theorem dX2_goStep_208 : decode cX2_goStep 208 = .ok (.iload_n 2, 1) := by decide +kernel
theorem dX2_goStep_209 : decode cX2_goStep 209 = .ok (.ifCond .ne 13, 3) := by decide +kernel
theorem dX2_goStep_212 : decode cX2_goStep 212 = .ok (.aload_n 0, 1) := by decide +kernel
theorem dX2_goStep_213 : decode cX2_goStep 213 = .ok (.dup, 1) := by decide +kernel
theorem dX2_goStep_214 : decode cX2_goStep 214 = .ok (.getfield 36, 3) := by decide +kernel
theorem dX2_goStep_217 : decode cX2_goStep 217 = .ok (.iconst 1, 1) := by decide +kernel
theorem dX2_goStep_218 : decode cX2_goStep 218 = .ok (.iadd, 1) := by decide +kernel
theorem dX2_goStep_219 : decode cX2_goStep 219 = .ok (.putfield 36, 3) := by decide +kernel
theorem dX2_goStep_222 : decode cX2_goStep 222 = .ok (.return_, 1) := by decide +kernel
theorem dX2_goButter_0 : decode cX2_goButter 0 = .ok (.aload_n 0, 1) := by decide +kernel
theorem dX2_goButter_1 : decode cX2_goButter 1 = .ok (.getfield 18, 3) := by decide +kernel
theorem dX2_goButter_4 : decode cX2_goButter 4 = .ok (.iload_n 1, 1) := by decide +kernel
theorem dX2_goButter_5 : decode cX2_goButter 5 = .ok (.invokevirtual 90, 3) := by decide +kernel
theorem dX2_goButter_8 : decode cX2_goButter 8 = .ok (.ifCond .eq 16, 3) := by decide +kernel
theorem dX2_goButter_11 : decode cX2_goButter 11 = .ok (.aload_n 0, 1) := by decide +kernel
theorem dX2_goButter_12 : decode cX2_goButter 12 = .ok (.getfield 18, 3) := by decide +kernel
theorem dX2_goButter_15 : decode cX2_goButter 15 = .ok (.getfield 124, 3) := by decide +kernel
theorem dX2_goButter_18 : decode cX2_goButter 18 = .ok (.iload_n 1, 1) := by decide +kernel
theorem dX2_goButter_19 : decode cX2_goButter 19 = .ok (.iaload, 1) := by decide +kernel
theorem dX2_goButter_20 : decode cX2_goButter 20 = .ok (.iload_n 2, 1) := by decide +kernel
theorem dX2_goButter_21 : decode cX2_goButter 21 = .ok (.if_icmp .ne 5, 3) := by decide +kernel
theorem dX2_goButter_24 : decode cX2_goButter 24 = .ok (.iconst 0, 1) := by decide +kernel
theorem dX2_goButter_25 : decode cX2_goButter 25 = .ok (.ireturn, 1) := by decide +kernel
theorem dX2_goButter_26 : decode cX2_goButter 26 = .ok (.aload_n 0, 1) := by decide +kernel
theorem dX2_goButter_27 : decode cX2_goButter 27 = .ok (.getfield 18, 3) := by decide +kernel
theorem dX2_goButter_30 : decode cX2_goButter 30 = .ok (.getfield 124, 3) := by decide +kernel
theorem dX2_goButter_33 : decode cX2_goButter 33 = .ok (.iload_n 1, 1) := by decide +kernel
theorem dX2_goButter_34 : decode cX2_goButter 34 = .ok (.iload_n 2, 1) := by decide +kernel
theorem dX2_goButter_35 : decode cX2_goButter 35 = .ok (.iastore, 1) := by decide +kernel
theorem dX2_goButter_36 : decode cX2_goButter 36 = .ok (.iconst 1, 1) := by decide +kernel
theorem dX2_goButter_37 : decode cX2_goButter 37 = .ok (.ireturn, 1) := by decide +kernel
theorem dX2_goSoup_0 : decode cX2_goSoup 0 = .ok (.aload_n 0, 1) := by decide +kernel
theorem dX2_goSoup_1 : decode cX2_goSoup 1 = .ok (.getfield 18, 3) := by decide +kernel
theorem dX2_goSoup_4 : decode cX2_goSoup 4 = .ok (.iload_n 1, 1) := by decide +kernel
theorem dX2_goSoup_5 : decode cX2_goSoup 5 = .ok (.invokevirtual 80, 3) := by decide +kernel
theorem dX2_goSoup_8 : decode cX2_goSoup 8 = .ok (.ifCond .ne 5, 3) := by decide +kernel
theorem dX2_goSoup_11 : decode cX2_goSoup 11 = .ok (.iconst 0, 1) := by decide +kernel
theorem dX2_goSoup_12 : decode cX2_goSoup 12 = .ok (.ireturn, 1) := by decide +kernel
theorem dX2_goSoup_13 : decode cX2_goSoup 13 = .ok (.aload_n 0, 1) := by decide +kernel
theorem dX2_goSoup_14 : decode cX2_goSoup 14 = .ok (.getfield 18, 3) := by decide +kernel
theorem dX2_goSoup_17 : decode cX2_goSoup 17 = .ok (.getfield 127, 3) := by decide +kernel
theorem dX2_goSoup_20 : decode cX2_goSoup 20 = .ok (.iload_n 1, 1) := by decide +kernel
theorem dX2_goSoup_21 : decode cX2_goSoup 21 = .ok (.iconst 0, 1) := by decide +kernel
theorem dX2_goSoup_22 : decode cX2_goSoup 22 = .ok (.iastore, 1) := by decide +kernel
theorem dX2_goSoup_23 : decode cX2_goSoup 23 = .ok (.iconst 1, 1) := by decide +kernel
theorem dX2_goSoup_24 : decode cX2_goSoup 24 = .ok (.ireturn, 1) := by decide +kernel
theorem dX2_goAny_0 : decode cX2_goAny 0 = .ok (.aload_n 0, 1) := by decide +kernel
theorem dX2_goAny_1 : decode cX2_goAny 1 = .ok (.getfield 18, 3) := by decide +kernel
theorem dX2_goAny_4 : decode cX2_goAny 4 = .ok (.getfield 130, 3) := by decide +kernel
theorem dX2_goAny_7 : decode cX2_goAny 7 = .ok (.ifCond .gt 5, 3) := by decide +kernel
theorem dX2_goAny_10 : decode cX2_goAny 10 = .ok (.iconst 0, 1) := by decide +kernel
theorem dX2_goAny_11 : decode cX2_goAny 11 = .ok (.ireturn, 1) := by decide +kernel
theorem dX2_goAny_12 : decode cX2_goAny 12 = .ok (.aload_n 0, 1) := by decide +kernel
theorem dX2_goAny_13 : decode cX2_goAny 13 = .ok (.aload_n 0, 1) := by decide +kernel
theorem dX2_goAny_14 : decode cX2_goAny 14 = .ok (.getfield 18, 3) := by decide +kernel
theorem dX2_goAny_17 : decode cX2_goAny 17 = .ok (.getfield 130, 3) := by decide +kernel
theorem dX2_goAny_20 : decode cX2_goAny 20 = .ok (.invokevirtual 133, 3) := by decide +kernel
theorem dX2_goAny_23 : decode cX2_goAny 23 = .ok (.istore_n 1, 1) := by decide +kernel
theorem dX2_goAny_24 : decode cX2_goAny 24 = .ok (.aload_n 0, 1) := by decide +kernel
theorem dX2_goAny_25 : decode cX2_goAny 25 = .ok (.bipush 16, 2) := by decide +kernel
theorem dX2_goAny_27 : decode cX2_goAny 27 = .ok (.invokevirtual 133, 3) := by decide +kernel
theorem dX2_goAny_30 : decode cX2_goAny 30 = .ok (.aload_n 0, 1) := by decide +kernel
theorem dX2_goAny_31 : decode cX2_goAny 31 = .ok (.getfield 18, 3) := by decide +kernel
theorem dX2_goAny_34 : decode cX2_goAny 34 = .ok (.getfield 136, 3) := by decide +kernel
theorem dX2_goAny_37 : decode cX2_goAny 37 = .ok (.if_icmp .ge 7, 3) := by decide +kernel
theorem dX2_goAny_40 : decode cX2_goAny 40 = .ok (.iconst 1, 1) := by decide +kernel
theorem dX2_goAny_41 : decode cX2_goAny 41 = .ok (.goto 4, 3) := by decide +kernel
theorem dX2_goAny_44 : decode cX2_goAny 44 = .ok (.iconst 0, 1) := by decide +kernel
theorem dX2_goAny_45 : decode cX2_goAny 45 = .ok (.istore_n 2, 1) := by decide +kernel
theorem dX2_goAny_46 : decode cX2_goAny 46 = .ok (.iload_n 2, 1) := by decide +kernel
theorem dX2_goAny_47 : decode cX2_goAny 47 = .ok (.ifCond .eq 36, 3) := by decide +kernel
theorem dX2_goAny_50 : decode cX2_goAny 50 = .ok (.aload_n 0, 1) := by decide +kernel
theorem dX2_goAny_51 : decode cX2_goAny 51 = .ok (.getfield 18, 3) := by decide +kernel
theorem dX2_goAny_54 : decode cX2_goAny 54 = .ok (.iload_n 1, 1) := by decide +kernel
theorem dX2_goAny_55 : decode cX2_goAny 55 = .ok (.invokevirtual 77, 3) := by decide +kernel
theorem dX2_goAny_58 : decode cX2_goAny 58 = .ok (.ifCond .eq 21, 3) := by decide +kernel
theorem dX2_goAny_61 : decode cX2_goAny 61 = .ok (.aload_n 0, 1) := by decide +kernel
theorem dX2_goAny_62 : decode cX2_goAny 62 = .ok (.getfield 18, 3) := by decide +kernel
theorem dX2_goAny_65 : decode cX2_goAny 65 = .ok (.getfield 93, 3) := by decide +kernel
theorem dX2_goAny_68 : decode cX2_goAny 68 = .ok (.iload_n 1, 1) := by decide +kernel
theorem dX2_goAny_69 : decode cX2_goAny 69 = .ok (.iaload, 1) := by decide +kernel
theorem dX2_goAny_70 : decode cX2_goAny 70 = .ok (.bipush 20, 2) := by decide +kernel
theorem dX2_goAny_72 : decode cX2_goAny 72 = .ok (.if_icmp .ge 7, 3) := by decide +kernel
theorem dX2_goAny_75 : decode cX2_goAny 75 = .ok (.iconst 1, 1) := by decide +kernel
theorem dX2_goAny_76 : decode cX2_goAny 76 = .ok (.goto 15, 3) := by decide +kernel
theorem dX2_goAny_79 : decode cX2_goAny 79 = .ok (.iconst 0, 1) := by decide +kernel
theorem dX2_goAny_80 : decode cX2_goAny 80 = .ok (.goto 11, 3) := by decide +kernel
theorem dX2_goAny_83 : decode cX2_goAny 83 = .ok (.aload_n 0, 1) := by decide +kernel
theorem dX2_goAny_84 : decode cX2_goAny 84 = .ok (.getfield 18, 3) := by decide +kernel
theorem dX2_goAny_87 : decode cX2_goAny 87 = .ok (.iconst 1, 1) := by decide +kernel
theorem dX2_goAny_88 : decode cX2_goAny 88 = .ok (.invokevirtual 99, 3) := by decide +kernel
theorem dX2_goAny_91 : decode cX2_goAny 91 = .ok (.istore_n 3, 1) := by decide +kernel
theorem dX2_goAny_92 : decode cX2_goAny 92 = .ok (.iload_n 3, 1) := by decide +kernel
theorem dX2_goAny_93 : decode cX2_goAny 93 = .ok (.ifCond .eq 23, 3) := by decide +kernel
theorem dX2_goAny_96 : decode cX2_goAny 96 = .ok (.iload_n 2, 1) := by decide +kernel
theorem dX2_goAny_97 : decode cX2_goAny 97 = .ok (.ifCond .eq 19, 3) := by decide +kernel
theorem dX2_goAny_100 : decode cX2_goAny 100 = .ok (.aload_n 0, 1) := by decide +kernel
theorem dX2_goAny_101 : decode cX2_goAny 101 = .ok (.getfield 18, 3) := by decide +kernel
theorem dX2_goAny_104 : decode cX2_goAny 104 = .ok (.getfield 93, 3) := by decide +kernel
theorem dX2_goAny_107 : decode cX2_goAny 107 = .ok (.iload_n 1, 1) := by decide +kernel
theorem dX2_goAny_108 : decode cX2_goAny 108 = .ok (.dup2, 1) := by decide +kernel
theorem dX2_goAny_109 : decode cX2_goAny 109 = .ok (.iaload, 1) := by decide +kernel
theorem dX2_goAny_110 : decode cX2_goAny 110 = .ok (.iconst 1, 1) := by decide +kernel
theorem dX2_goAny_111 : decode cX2_goAny 111 = .ok (.iadd, 1) := by decide +kernel
theorem dX2_goAny_112 : decode cX2_goAny 112 = .ok (.iastore, 1) := by decide +kernel
theorem dX2_goAny_113 : decode cX2_goAny 113 = .ok (.goto 21, 3) := by decide +kernel
theorem dX2_goAny_116 : decode cX2_goAny 116 = .ok (.iload_n 3, 1) := by decide +kernel
theorem dX2_goAny_117 : decode cX2_goAny 117 = .ok (.ifCond .eq 17, 3) := by decide +kernel
theorem dX2_goAny_120 : decode cX2_goAny 120 = .ok (.aload_n 0, 1) := by decide +kernel
theorem dX2_goAny_121 : decode cX2_goAny 121 = .ok (.getfield 18, 3) := by decide +kernel
theorem dX2_goAny_124 : decode cX2_goAny 124 = .ok (.aload_n 0, 1) := by decide +kernel
theorem dX2_goAny_125 : decode cX2_goAny 125 = .ok (.getfield 18, 3) := by decide +kernel
theorem dX2_goAny_128 : decode cX2_goAny 128 = .ok (.invokevirtual 139, 3) := by decide +kernel
theorem dX2_goAny_131 : decode cX2_goAny 131 = .ok (.invokevirtual 143, 3) := by decide +kernel
theorem dX2_goAny_134 : decode cX2_goAny 134 = .ok (.iload_n 3, 1) := by decide +kernel
theorem dX2_goAny_135 : decode cX2_goAny 135 = .ok (.ireturn, 1) := by decide +kernel
theorem dX2_draw_0 : decode cX2_draw 0 = .ok (.aload_n 0, 1) := by decide +kernel
theorem dX2_draw_1 : decode cX2_draw 1 = .ok (.aload_n 0, 1) := by decide +kernel
theorem dX2_draw_2 : decode cX2_draw 2 = .ok (.getfield 25, 3) := by decide +kernel
theorem dX2_draw_5 : decode cX2_draw 5 = .ok (.sipush 3283, 3) := by decide +kernel
theorem dX2_draw_8 : decode cX2_draw 8 = .ok (.imul, 1) := by decide +kernel
theorem dX2_draw_9 : decode cX2_draw 9 = .ok (.sipush 11511, 3) := by decide +kernel
theorem dX2_draw_12 : decode cX2_draw 12 = .ok (.iadd, 1) := by decide +kernel
theorem dX2_draw_13 : decode cX2_draw 13 = .ok (.ldc 146, 2) := by decide +kernel
theorem dX2_draw_15 : decode cX2_draw 15 = .ok (.irem, 1) := by decide +kernel
theorem dX2_draw_16 : decode cX2_draw 16 = .ok (.putfield 25, 3) := by decide +kernel
theorem dX2_draw_19 : decode cX2_draw 19 = .ok (.iload_n 1, 1) := by decide +kernel
theorem dX2_draw_20 : decode cX2_draw 20 = .ok (.ifCond .le 15, 3) := by decide +kernel
theorem dX2_draw_23 : decode cX2_draw 23 = .ok (.aload_n 0, 1) := by decide +kernel
theorem dX2_draw_24 : decode cX2_draw 24 = .ok (.getfield 25, 3) := by decide +kernel
theorem dX2_draw_27 : decode cX2_draw 27 = .ok (.bipush 8, 2) := by decide +kernel
theorem dX2_draw_29 : decode cX2_draw 29 = .ok (.idiv, 1) := by decide +kernel
theorem dX2_draw_30 : decode cX2_draw 30 = .ok (.iload_n 1, 1) := by decide +kernel
theorem dX2_draw_31 : decode cX2_draw 31 = .ok (.irem, 1) := by decide +kernel
theorem dX2_draw_32 : decode cX2_draw 32 = .ok (.goto 4, 3) := by decide +kernel
theorem dX2_draw_35 : decode cX2_draw 35 = .ok (.iconst 0, 1) := by decide +kernel
theorem dX2_draw_36 : decode cX2_draw 36 = .ok (.ireturn, 1) := by decide +kernel
theorem dX3_init_0 : decode cX3_init 0 = .ok (.aload_n 0, 1) := by decide +kernel
theorem dX3_init_1 : decode cX3_init 1 = .ok (.invokespecial 3, 3) := by decide +kernel
theorem dX3_init_4 : decode cX3_init 4 = .ok (.aload_n 0, 1) := by decide +kernel
theorem dX3_init_5 : decode cX3_init 5 = .ok (.bipush 6, 2) := by decide +kernel
theorem dX3_init_7 : decode cX3_init 7 = .ok (.anewarray 9, 3) := by decide +kernel
theorem dX3_init_10 : decode cX3_init 10 = .ok (.putfield 11, 3) := by decide +kernel
theorem dX3_init_13 : decode cX3_init 13 = .ok (.aload_n 0, 1) := by decide +kernel
theorem dX3_init_14 : decode cX3_init 14 = .ok (.iconst 5, 1) := by decide +kernel
theorem dX3_init_15 : decode cX3_init 15 = .ok (.newarray .int, 2) := by decide +kernel
theorem dX3_init_17 : decode cX3_init 17 = .ok (.putfield 17, 3) := by decide +kernel
theorem dX3_init_20 : decode cX3_init 20 = .ok (.aload_n 0, 1) := by decide +kernel
theorem dX3_init_21 : decode cX3_init 21 = .ok (.iconst 5, 1) := by decide +kernel
theorem dX3_init_22 : decode cX3_init 22 = .ok (.newarray .int, 2) := by decide +kernel
theorem dX3_init_24 : decode cX3_init 24 = .ok (.putfield 21, 3) := by decide +kernel
theorem dX3_init_27 : decode cX3_init 27 = .ok (.aload_n 0, 1) := by decide +kernel
theorem dX3_init_28 : decode cX3_init 28 = .ok (.aload_n 1, 1) := by decide +kernel
theorem dX3_init_29 : decode cX3_init 29 = .ok (.putfield 24, 3) := by decide +kernel
theorem dX3_init_32 : decode cX3_init 32 = .ok (.iconst 0, 1) := by decide +kernel
theorem dX3_init_33 : decode cX3_init 33 = .ok (.istore_n 2, 1) := by decide +kernel
theorem dX3_init_34 : decode cX3_init 34 = .ok (.iload_n 2, 1) := by decide +kernel
theorem dX3_init_35 : decode cX3_init 35 = .ok (.iconst 5, 1) := by decide +kernel
theorem dX3_init_36 : decode cX3_init 36 = .ok (.if_icmp .gt 22, 3) := by decide +kernel
theorem dX3_init_39 : decode cX3_init 39 = .ok (.aload_n 0, 1) := by decide +kernel
theorem dX3_init_40 : decode cX3_init 40 = .ok (.getfield 11, 3) := by decide +kernel
theorem dX3_init_43 : decode cX3_init 43 = .ok (.iload_n 2, 1) := by decide +kernel
theorem dX3_init_44 : decode cX3_init 44 = .ok (.new 9, 3) := by decide +kernel
theorem dX3_init_47 : decode cX3_init 47 = .ok (.dup, 1) := by decide +kernel
theorem dX3_init_48 : decode cX3_init 48 = .ok (.invokespecial 28, 3) := by decide +kernel
theorem dX3_init_51 : decode cX3_init 51 = .ok (.aastore, 1) := by decide +kernel
theorem dX3_init_52 : decode cX3_init 52 = .ok (.iinc 2 1, 3) := by decide +kernel
theorem dX3_init_55 : decode cX3_init 55 = .ok (.goto (-21), 3) := by decide +kernel
theorem dX3_init_58 : decode cX3_init 58 = .ok (.return_, 1) := by decide +kernel
theorem dX3_leastDear_0 : decode cX3_leastDear 0 = .ok (.aload_n 0, 1) := by decide +kernel
theorem dX3_leastDear_1 : decode cX3_leastDear 1 = .ok (.iconst (-1), 1) := by decide +kernel
theorem dX3_leastDear_2 : decode cX3_leastDear 2 = .ok (.putfield 29, 3) := by decide +kernel
theorem dX3_leastDear_5 : decode cX3_leastDear 5 = .ok (.aload_n 0, 1) := by decide +kernel
theorem dX3_leastDear_6 : decode cX3_leastDear 6 = .ok (.getfield 11, 3) := by decide +kernel
theorem dX3_leastDear_9 : decode cX3_leastDear 9 = .ok (.iconst 0, 1) := by decide +kernel
theorem dX3_leastDear_10 : decode cX3_leastDear 10 = .ok (.aaload, 1) := by decide +kernel
theorem dX3_leastDear_11 : decode cX3_leastDear 11 = .ok (.aload_n 0, 1) := by decide +kernel
theorem dX3_leastDear_12 : decode cX3_leastDear 12 = .ok (.getfield 24, 3) := by decide +kernel
theorem dX3_leastDear_15 : decode cX3_leastDear 15 = .ok (.invokevirtual 33, 3) := by decide +kernel
theorem dX3_leastDear_18 : decode cX3_leastDear 18 = .ok (.aload_n 0, 1) := by decide +kernel
theorem dX3_leastDear_19 : decode cX3_leastDear 19 = .ok (.iconst 0, 1) := by decide +kernel
theorem dX3_leastDear_20 : decode cX3_leastDear 20 = .ok (.iload_n 1, 1) := by decide +kernel
theorem dX3_leastDear_21 : decode cX3_leastDear 21 = .ok (.iconst 5, 1) := by decide +kernel
theorem dX3_leastDear_22 : decode cX3_leastDear 22 = .ok (.invokestatic 37, 3) := by decide +kernel
theorem dX3_leastDear_25 : decode cX3_leastDear 25 = .ok (.iconst 0, 1) := by decide +kernel
theorem dX3_leastDear_26 : decode cX3_leastDear 26 = .ok (.invokevirtual 43, 3) := by decide +kernel
theorem dX3_leastDear_29 : decode cX3_leastDear 29 = .ok (.aload_n 0, 1) := by decide +kernel
theorem dX3_leastDear_30 : decode cX3_leastDear 30 = .ok (.getfield 29, 3) := by decide +kernel
theorem dX3_leastDear_33 : decode cX3_leastDear 33 = .ok (.ireturn, 1) := by decide +kernel
theorem dX3_search_0 : decode cX3_search 0 = .ok (.aload_n 0, 1) := by decide +kernel
theorem dX3_search_1 : decode cX3_search 1 = .ok (.getfield 29, 3) := by decide +kernel
theorem dX3_search_4 : decode cX3_search 4 = .ok (.iconst (-1), 1) := by decide +kernel
theorem dX3_search_5 : decode cX3_search 5 = .ok (.if_icmp .eq 12, 3) := by decide +kernel
theorem dX3_search_8 : decode cX3_search 8 = .ok (.iload_n 3, 1) := by decide +kernel
theorem dX3_search_9 : decode cX3_search 9 = .ok (.aload_n 0, 1) := by decide +kernel
theorem dX3_search_10 : decode cX3_search 10 = .ok (.getfield 29, 3) := by decide +kernel
theorem dX3_search_13 : decode cX3_search 13 = .ok (.if_icmp .lt 4, 3) := by decide +kernel
theorem dX3_search_16 : decode cX3_search 16 = .ok (.return_, 1) := by decide +kernel
theorem dX3_search_17 : decode cX3_search 17 = .ok (.iload_n 1, 1) := by decide +kernel
theorem dX3_search_18 : decode cX3_search 18 = .ok (.iload_n 2, 1) := by decide +kernel
theorem dX3_search_19 : decode cX3_search 19 = .ok (.if_icmp .lt 23, 3) := by decide +kernel
theorem dX3_search_22 : decode cX3_search 22 = .ok (.aload_n 0, 1) := by decide +kernel
theorem dX3_search_23 : decode cX3_search 23 = .ok (.iload_n 3, 1) := by decide +kernel
theorem dX3_search_24 : decode cX3_search 24 = .ok (.putfield 29, 3) := by decide +kernel
theorem dX3_search_27 : decode cX3_search 27 = .ok (.aload_n 0, 1) := by decide +kernel
theorem dX3_search_28 : decode cX3_search 28 = .ok (.getfield 17, 3) := by decide +kernel
theorem dX3_search_31 : decode cX3_search 31 = .ok (.iconst 0, 1) := by decide +kernel
theorem dX3_search_32 : decode cX3_search 32 = .ok (.aload_n 0, 1) := by decide +kernel
theorem dX3_search_33 : decode cX3_search 33 = .ok (.getfield 21, 3) := by decide +kernel
theorem dX3_search_36 : decode cX3_search 36 = .ok (.iconst 0, 1) := by decide +kernel
theorem dX3_search_37 : decode cX3_search 37 = .ok (.iconst 5, 1) := by decide +kernel
theorem dX3_search_38 : decode cX3_search 38 = .ok (.invokestatic 47, 3) := by decide +kernel
theorem dX3_search_41 : decode cX3_search 41 = .ok (.return_, 1) := by decide +kernel
theorem dX3_search_42 : decode cX3_search 42 = .ok (.aload_n 0, 1) := by decide +kernel
theorem dX3_search_43 : decode cX3_search 43 = .ok (.iload_n 1, 1) := by decide +kernel
theorem dX3_search_44 : decode cX3_search 44 = .ok (.iload_n 2, 1) := by decide +kernel
theorem dX3_search_45 : decode cX3_search 45 = .ok (.iload_n 3, 1) := by decide +kernel
theorem dX3_search_46 : decode cX3_search 46 = .ok (.iconst (-1), 1) := by decide +kernel
theorem dX3_search_47 : decode cX3_search 47 = .ok (.invokevirtual 53, 3) := by decide +kernel
theorem dX3_search_50 : decode cX3_search 50 = .ok (.iconst 0, 1) := by decide +kernel
theorem dX3_search_51 : decode cX3_search 51 = .ok (.istore 4, 2) := by decide +kernel
theorem dX3_search_53 : decode cX3_search 53 = .ok (.iload 4, 2) := by decide +kernel
theorem dX3_search_55 : decode cX3_search 55 = .ok (.aload_n 0, 1) := by decide +kernel
theorem dX3_search_56 : decode cX3_search 56 = .ok (.getfield 24, 3) := by decide +kernel
theorem dX3_search_59 : decode cX3_search 59 = .ok (.getfield 57, 3) := by decide +kernel
theorem dX3_search_62 : decode cX3_search 62 = .ok (.if_icmp .ge 44, 3) := by decide +kernel
theorem dX3_search_65 : decode cX3_search 65 = .ok (.aload_n 0, 1) := by decide +kernel
theorem dX3_search_66 : decode cX3_search 66 = .ok (.getfield 11, 3) := by decide +kernel
theorem dX3_search_69 : decode cX3_search 69 = .ok (.iload_n 1, 1) := by decide +kernel
theorem dX3_search_70 : decode cX3_search 70 = .ok (.aaload, 1) := by decide +kernel
theorem dX3_search_71 : decode cX3_search 71 = .ok (.getfield 60, 3) := by decide +kernel
theorem dX3_search_74 : decode cX3_search 74 = .ok (.ifCond .ne 32, 3) := by decide +kernel
theorem dX3_search_77 : decode cX3_search 77 = .ok (.aload_n 0, 1) := by decide +kernel
theorem dX3_search_78 : decode cX3_search 78 = .ok (.getfield 11, 3) := by decide +kernel
theorem dX3_search_81 : decode cX3_search 81 = .ok (.iload_n 1, 1) := by decide +kernel
theorem dX3_search_82 : decode cX3_search 82 = .ok (.aaload, 1) := by decide +kernel
theorem dX3_search_83 : decode cX3_search 83 = .ok (.iload 4, 2) := by decide +kernel
theorem dX3_search_85 : decode cX3_search 85 = .ok (.invokevirtual 63, 3) := by decide +kernel
theorem dX3_search_88 : decode cX3_search 88 = .ok (.ifCond .eq 12, 3) := by decide +kernel
theorem dX3_search_91 : decode cX3_search 91 = .ok (.aload_n 0, 1) := by decide +kernel
theorem dX3_search_92 : decode cX3_search 92 = .ok (.iload_n 1, 1) := by decide +kernel
theorem dX3_search_93 : decode cX3_search 93 = .ok (.iload_n 2, 1) := by decide +kernel
theorem dX3_search_94 : decode cX3_search 94 = .ok (.iload_n 3, 1) := by decide +kernel
theorem dX3_search_95 : decode cX3_search 95 = .ok (.iload 4, 2) := by decide +kernel
theorem dX3_search_97 : decode cX3_search 97 = .ok (.invokevirtual 53, 3) := by decide +kernel
theorem dX3_search_100 : decode cX3_search 100 = .ok (.iinc 4 1, 3) := by decide +kernel
theorem dX3_search_103 : decode cX3_search 103 = .ok (.goto (-50), 3) := by decide +kernel
theorem dX3_search_106 : decode cX3_search 106 = .ok (.return_, 1) := by decide +kernel
theorem dX3_tryCutter_0 : decode cX3_tryCutter 0 = .ok (.aload_n 0, 1) := by decide +kernel
theorem dX3_tryCutter_1 : decode cX3_tryCutter 1 = .ok (.getfield 11, 3) := by decide +kernel
theorem dX3_tryCutter_4 : decode cX3_tryCutter 4 = .ok (.iload_n 1, 1) := by decide +kernel
theorem dX3_tryCutter_5 : decode cX3_tryCutter 5 = .ok (.iconst 1, 1) := by decide +kernel
theorem dX3_tryCutter_6 : decode cX3_tryCutter 6 = .ok (.iadd, 1) := by decide +kernel
theorem dX3_tryCutter_7 : decode cX3_tryCutter 7 = .ok (.aaload, 1) := by decide +kernel
theorem dX3_tryCutter_8 : decode cX3_tryCutter 8 = .ok (.astore 5, 2) := by decide +kernel
theorem dX3_tryCutter_10 : decode cX3_tryCutter 10 = .ok (.aload 5, 2) := by decide +kernel
theorem dX3_tryCutter_12 : decode cX3_tryCutter 12 = .ok (.aload_n 0, 1) := by decide +kernel
theorem dX3_tryCutter_13 : decode cX3_tryCutter 13 = .ok (.getfield 11, 3) := by decide +kernel
theorem dX3_tryCutter_16 : decode cX3_tryCutter 16 = .ok (.iload_n 1, 1) := by decide +kernel
theorem dX3_tryCutter_17 : decode cX3_tryCutter 17 = .ok (.aaload, 1) := by decide +kernel
theorem dX3_tryCutter_18 : decode cX3_tryCutter 18 = .ok (.invokevirtual 33, 3) := by decide +kernel
theorem dX3_tryCutter_21 : decode cX3_tryCutter 21 = .ok (.aload 5, 2) := by decide +kernel
theorem dX3_tryCutter_23 : decode cX3_tryCutter 23 = .ok (.iload 4, 2) := by decide +kernel
theorem dX3_tryCutter_25 : decode cX3_tryCutter 25 = .ok (.invokevirtual 67, 3) := by decide +kernel
theorem dX3_tryCutter_28 : decode cX3_tryCutter 28 = .ok (.aload 5, 2) := by decide +kernel
theorem dX3_tryCutter_30 : decode cX3_tryCutter 30 = .ok (.invokevirtual 71, 3) := by decide +kernel
theorem dX3_tryCutter_33 : decode cX3_tryCutter 33 = .ok (.ifCond .eq 4, 3) := by decide +kernel
theorem dX3_tryCutter_36 : decode cX3_tryCutter 36 = .ok (.return_, 1) := by decide +kernel
theorem dX3_tryCutter_37 : decode cX3_tryCutter 37 = .ok (.aload_n 0, 1) := by decide +kernel
theorem dX3_tryCutter_38 : decode cX3_tryCutter 38 = .ok (.getfield 17, 3) := by decide +kernel
theorem dX3_tryCutter_41 : decode cX3_tryCutter 41 = .ok (.iload_n 1, 1) := by decide +kernel
theorem dX3_tryCutter_42 : decode cX3_tryCutter 42 = .ok (.iload 4, 2) := by decide +kernel
theorem dX3_tryCutter_44 : decode cX3_tryCutter 44 = .ok (.iastore, 1) := by decide +kernel
theorem dX3_tryCutter_45 : decode cX3_tryCutter 45 = .ok (.aload 5, 2) := by decide +kernel
theorem dX3_tryCutter_47 : decode cX3_tryCutter 47 = .ok (.iload 4, 2) := by decide +kernel
theorem dX3_tryCutter_49 : decode cX3_tryCutter 49 = .ok (.invokevirtual 75, 3) := by decide +kernel
theorem dX3_tryCutter_52 : decode cX3_tryCutter 52 = .ok (.ifCond .eq 17, 3) := by decide +kernel
theorem dX3_tryCutter_55 : decode cX3_tryCutter 55 = .ok (.aload 5, 2) := by decide +kernel
theorem dX3_tryCutter_57 : decode cX3_tryCutter 57 = .ok (.iload 4, 2) := by decide +kernel
theorem dX3_tryCutter_59 : decode cX3_tryCutter 59 = .ok (.invokevirtual 63, 3) := by decide +kernel
theorem dX3_tryCutter_62 : decode cX3_tryCutter 62 = .ok (.ifCond .ne 7, 3) := by decide +kernel
theorem dX3_tryCutter_65 : decode cX3_tryCutter 65 = .ok (.iconst 1, 1) := by decide +kernel
theorem dX3_tryCutter_66 : decode cX3_tryCutter 66 = .ok (.goto 4, 3) := by decide +kernel
theorem dX3_tryCutter_69 : decode cX3_tryCutter 69 = .ok (.iconst 0, 1) := by decide +kernel
theorem dX3_tryCutter_70 : decode cX3_tryCutter 70 = .ok (.istore 6, 2) := by decide +kernel
theorem dX3_tryCutter_72 : decode cX3_tryCutter 72 = .ok (.aload_n 0, 1) := by decide +kernel
theorem dX3_tryCutter_73 : decode cX3_tryCutter 73 = .ok (.iload_n 1, 1) := by decide +kernel
theorem dX3_tryCutter_74 : decode cX3_tryCutter 74 = .ok (.iconst 1, 1) := by decide +kernel
theorem dX3_tryCutter_75 : decode cX3_tryCutter 75 = .ok (.iadd, 1) := by decide +kernel
theorem dX3_tryCutter_76 : decode cX3_tryCutter 76 = .ok (.iload_n 2, 1) := by decide +kernel
theorem dX3_tryCutter_77 : decode cX3_tryCutter 77 = .ok (.iload 6, 2) := by decide +kernel
theorem dX3_tryCutter_79 : decode cX3_tryCutter 79 = .ok (.ifCond .eq 16, 3) := by decide +kernel
theorem dX3_tryCutter_82 : decode cX3_tryCutter 82 = .ok (.iload_n 3, 1) := by decide +kernel
theorem dX3_tryCutter_83 : decode cX3_tryCutter 83 = .ok (.aload 5, 2) := by decide +kernel
theorem dX3_tryCutter_85 : decode cX3_tryCutter 85 = .ok (.getfield 78, 3) := by decide +kernel
theorem dX3_tryCutter_88 : decode cX3_tryCutter 88 = .ok (.iload 4, 2) := by decide +kernel
theorem dX3_tryCutter_90 : decode cX3_tryCutter 90 = .ok (.iaload, 1) := by decide +kernel
theorem dX3_tryCutter_91 : decode cX3_tryCutter 91 = .ok (.iadd, 1) := by decide +kernel
theorem dX3_tryCutter_92 : decode cX3_tryCutter 92 = .ok (.goto 4, 3) := by decide +kernel
theorem dX3_tryCutter_95 : decode cX3_tryCutter 95 = .ok (.iload_n 3, 1) := by decide +kernel
theorem dX3_tryCutter_96 : decode cX3_tryCutter 96 = .ok (.invokevirtual 43, 3) := by decide +kernel
theorem dX3_tryCutter_99 : decode cX3_tryCutter 99 = .ok (.return_, 1) := by decide +kernel
theorem dX4_init_0 : decode cX4_init 0 = .ok (.aload_n 0, 1) := by decide +kernel
theorem dX4_init_1 : decode cX4_init 1 = .ok (.invokespecial 3, 3) := by decide +kernel
theorem dX4_init_4 : decode cX4_init 4 = .ok (.aload_n 0, 1) := by decide +kernel
theorem dX4_init_5 : decode cX4_init 5 = .ok (.new 9, 3) := by decide +kernel
theorem dX4_init_8 : decode cX4_init 8 = .ok (.dup, 1) := by decide +kernel
theorem dX4_init_9 : decode cX4_init 9 = .ok (.invokespecial 11, 3) := by decide +kernel
theorem dX4_init_12 : decode cX4_init 12 = .ok (.putfield 12, 3) := by decide +kernel
theorem dX4_init_15 : decode cX4_init 15 = .ok (.aload_n 0, 1) := by decide +kernel
theorem dX4_init_16 : decode cX4_init 16 = .ok (.bipush 21, 2) := by decide +kernel
theorem dX4_init_18 : decode cX4_init 18 = .ok (.newarray .int, 2) := by decide +kernel
theorem dX4_init_20 : decode cX4_init 20 = .ok (.putfield 18, 3) := by decide +kernel
theorem dX4_init_23 : decode cX4_init 23 = .ok (.aload_n 0, 1) := by decide +kernel
theorem dX4_init_24 : decode cX4_init 24 = .ok (.bipush 21, 2) := by decide +kernel
theorem dX4_init_26 : decode cX4_init 26 = .ok (.bipush 8, 2) := by decide +kernel
theorem dX4_init_28 : decode cX4_init 28 = .ok (.multianewarray 22 2, 4) := by decide +kernel
theorem dX4_init_32 : decode cX4_init 32 = .ok (.putfield 24, 3) := by decide +kernel
theorem dX4_init_35 : decode cX4_init 35 = .ok (.aload_n 0, 1) := by decide +kernel
theorem dX4_init_36 : decode cX4_init 36 = .ok (.aload_n 1, 1) := by decide +kernel
theorem dX4_init_37 : decode cX4_init 37 = .ok (.putfield 27, 3) := by decide +kernel
theorem dX4_init_40 : decode cX4_init 40 = .ok (.return_, 1) := by decide +kernel
theorem dX4_look_0 : decode cX4_look 0 = .ok (.aload_n 0, 1) := by decide +kernel
theorem dX4_look_1 : decode cX4_look 1 = .ok (.invokevirtual 30, 3) := by decide +kernel
theorem dX4_look_4 : decode cX4_look 4 = .ok (.aload_n 0, 1) := by decide +kernel
theorem dX4_look_5 : decode cX4_look 5 = .ok (.getfield 27, 3) := by decide +kernel
theorem dX4_look_8 : decode cX4_look 8 = .ok (.iload_n 1, 1) := by decide +kernel
theorem dX4_look_9 : decode cX4_look 9 = .ok (.invokevirtual 33, 3) := by decide +kernel
theorem dX4_look_12 : decode cX4_look 12 = .ok (.ifCond .ne 4, 3) := by decide +kernel
theorem dX4_look_15 : decode cX4_look 15 = .ok (.return_, 1) := by decide +kernel
theorem dX4_look_16 : decode cX4_look 16 = .ok (.iconst 1, 1) := by decide +kernel
theorem dX4_look_17 : decode cX4_look 17 = .ok (.istore 4, 2) := by decide +kernel
theorem dX4_look_19 : decode cX4_look 19 = .ok (.iload 4, 2) := by decide +kernel
theorem dX4_look_21 : decode cX4_look 21 = .ok (.bipush 9, 2) := by decide +kernel
theorem dX4_look_23 : decode cX4_look 23 = .ok (.if_icmp .gt 51, 3) := by decide +kernel
theorem dX4_look_26 : decode cX4_look 26 = .ok (.iconst 0, 1) := by decide +kernel
theorem dX4_look_27 : decode cX4_look 27 = .ok (.istore 5, 2) := by decide +kernel
theorem dX4_look_29 : decode cX4_look 29 = .ok (.iload 5, 2) := by decide +kernel
theorem dX4_look_31 : decode cX4_look 31 = .ok (.bipush 9, 2) := by decide +kernel
theorem dX4_look_33 : decode cX4_look 33 = .ok (.if_icmp .gt 35, 3) := by decide +kernel
theorem dX4_look_36 : decode cX4_look 36 = .ok (.aload_n 0, 1) := by decide +kernel
theorem dX4_look_37 : decode cX4_look 37 = .ok (.iload_n 1, 1) := by decide +kernel
theorem dX4_look_38 : decode cX4_look 38 = .ok (.iload 4, 2) := by decide +kernel
theorem dX4_look_40 : decode cX4_look 40 = .ok (.iload 5, 2) := by decide +kernel
theorem dX4_look_42 : decode cX4_look 42 = .ok (.invokevirtual 37, 3) := by decide +kernel
theorem dX4_look_45 : decode cX4_look 45 = .ok (.aload_n 0, 1) := by decide +kernel
theorem dX4_look_46 : decode cX4_look 46 = .ok (.aload_n 2, 1) := by decide +kernel
theorem dX4_look_47 : decode cX4_look 47 = .ok (.iload_n 3, 1) := by decide +kernel
theorem dX4_look_48 : decode cX4_look 48 = .ok (.invokevirtual 41, 3) := by decide +kernel
theorem dX4_look_51 : decode cX4_look 51 = .ok (.ifCond .eq 11, 3) := by decide +kernel
theorem dX4_look_54 : decode cX4_look 54 = .ok (.aload_n 0, 1) := by decide +kernel
theorem dX4_look_55 : decode cX4_look 55 = .ok (.iload 4, 2) := by decide +kernel
theorem dX4_look_57 : decode cX4_look 57 = .ok (.iload 5, 2) := by decide +kernel
theorem dX4_look_59 : decode cX4_look 59 = .ok (.invokevirtual 45, 3) := by decide +kernel
theorem dX4_look_62 : decode cX4_look 62 = .ok (.iinc 5 1, 3) := by decide +kernel
theorem dX4_look_65 : decode cX4_look 65 = .ok (.goto (-36), 3) := by decide +kernel
theorem dX4_look_68 : decode cX4_look 68 = .ok (.iinc 4 1, 3) := by decide +kernel
theorem dX4_look_71 : decode cX4_look 71 = .ok (.goto (-52), 3) := by decide +kernel
theorem dX4_look_74 : decode cX4_look 74 = .ok (.return_, 1) := by decide +kernel
theorem dX4_partingDay_0 : decode cX4_partingDay 0 = .ok (.iconst (-1), 1) := by decide +kernel
theorem dX4_partingDay_1 : decode cX4_partingDay 1 = .ok (.istore_n 1, 1) := by decide +kernel
theorem dX4_partingDay_2 : decode cX4_partingDay 2 = .ok (.iconst 0, 1) := by decide +kernel
theorem dX4_partingDay_3 : decode cX4_partingDay 3 = .ok (.istore_n 2, 1) := by decide +kernel
theorem dX4_partingDay_4 : decode cX4_partingDay 4 = .ok (.iconst 0, 1) := by decide +kernel
theorem dX4_partingDay_5 : decode cX4_partingDay 5 = .ok (.istore_n 3, 1) := by decide +kernel
theorem dX4_partingDay_6 : decode cX4_partingDay 6 = .ok (.iload_n 3, 1) := by decide +kernel
theorem dX4_partingDay_7 : decode cX4_partingDay 7 = .ok (.bipush 20, 2) := by decide +kernel
theorem dX4_partingDay_9 : decode cX4_partingDay 9 = .ok (.if_icmp .gt 60, 3) := by decide +kernel
theorem dX4_partingDay_12 : decode cX4_partingDay 12 = .ok (.iconst 0, 1) := by decide +kernel
theorem dX4_partingDay_13 : decode cX4_partingDay 13 = .ok (.istore 4, 2) := by decide +kernel
theorem dX4_partingDay_15 : decode cX4_partingDay 15 = .ok (.iconst 0, 1) := by decide +kernel
theorem dX4_partingDay_16 : decode cX4_partingDay 16 = .ok (.istore 5, 2) := by decide +kernel
theorem dX4_partingDay_18 : decode cX4_partingDay 18 = .ok (.iload 5, 2) := by decide +kernel
theorem dX4_partingDay_20 : decode cX4_partingDay 20 = .ok (.bipush 7, 2) := by decide +kernel
theorem dX4_partingDay_22 : decode cX4_partingDay 22 = .ok (.if_icmp .gt 25, 3) := by decide +kernel
theorem dX4_partingDay_25 : decode cX4_partingDay 25 = .ok (.iload 4, 2) := by decide +kernel
theorem dX4_partingDay_27 : decode cX4_partingDay 27 = .ok (.aload_n 0, 1) := by decide +kernel
theorem dX4_partingDay_28 : decode cX4_partingDay 28 = .ok (.getfield 24, 3) := by decide +kernel
theorem dX4_partingDay_31 : decode cX4_partingDay 31 = .ok (.iload_n 3, 1) := by decide +kernel
theorem dX4_partingDay_32 : decode cX4_partingDay 32 = .ok (.aaload, 1) := by decide +kernel
theorem dX4_partingDay_33 : decode cX4_partingDay 33 = .ok (.iload 5, 2) := by decide +kernel
theorem dX4_partingDay_35 : decode cX4_partingDay 35 = .ok (.iaload, 1) := by decide +kernel
theorem dX4_partingDay_36 : decode cX4_partingDay 36 = .ok (.invokestatic 49, 3) := by decide +kernel
theorem dX4_partingDay_39 : decode cX4_partingDay 39 = .ok (.istore 4, 2) := by decide +kernel
theorem dX4_partingDay_41 : decode cX4_partingDay 41 = .ok (.iinc 5 1, 3) := by decide +kernel
theorem dX4_partingDay_44 : decode cX4_partingDay 44 = .ok (.goto (-26), 3) := by decide +kernel
theorem dX4_partingDay_47 : decode cX4_partingDay 47 = .ok (.iload_n 1, 1) := by decide +kernel
theorem dX4_partingDay_48 : decode cX4_partingDay 48 = .ok (.iconst (-1), 1) := by decide +kernel
theorem dX4_partingDay_49 : decode cX4_partingDay 49 = .ok (.if_icmp .eq 9, 3) := by decide +kernel
theorem dX4_partingDay_52 : decode cX4_partingDay 52 = .ok (.iload 4, 2) := by decide +kernel
theorem dX4_partingDay_54 : decode cX4_partingDay 54 = .ok (.iload_n 2, 1) := by decide +kernel
theorem dX4_partingDay_55 : decode cX4_partingDay 55 = .ok (.if_icmp .ge 8, 3) := by decide +kernel
theorem dX4_partingDay_58 : decode cX4_partingDay 58 = .ok (.iload_n 3, 1) := by decide +kernel
theorem dX4_partingDay_59 : decode cX4_partingDay 59 = .ok (.istore_n 1, 1) := by decide +kernel
theorem dX4_partingDay_60 : decode cX4_partingDay 60 = .ok (.iload 4, 2) := by decide +kernel
theorem dX4_partingDay_62 : decode cX4_partingDay 62 = .ok (.istore_n 2, 1) := by decide +kernel
theorem dX4_partingDay_63 : decode cX4_partingDay 63 = .ok (.iinc 3 1, 3) := by decide +kernel
theorem dX4_partingDay_66 : decode cX4_partingDay 66 = .ok (.goto (-60), 3) := by decide +kernel
theorem dX4_partingDay_69 : decode cX4_partingDay 69 = .ok (.iload_n 1, 1) := by decide +kernel
theorem dX4_partingDay_70 : decode cX4_partingDay 70 = .ok (.ireturn, 1) := by decide +kernel
theorem dX4_forget_0 : decode cX4_forget 0 = .ok (.aload_n 0, 1) := by decide +kernel
theorem dX4_forget_1 : decode cX4_forget 1 = .ok (.iconst 0, 1) := by decide +kernel
theorem dX4_forget_2 : decode cX4_forget 2 = .ok (.putfield 55, 3) := by decide +kernel
theorem dX4_forget_5 : decode cX4_forget 5 = .ok (.iconst 0, 1) := by decide +kernel
theorem dX4_forget_6 : decode cX4_forget 6 = .ok (.istore_n 1, 1) := by decide +kernel
theorem dX4_forget_7 : decode cX4_forget 7 = .ok (.iload_n 1, 1) := by decide +kernel
theorem dX4_forget_8 : decode cX4_forget 8 = .ok (.bipush 20, 2) := by decide +kernel
theorem dX4_forget_10 : decode cX4_forget 10 = .ok (.if_icmp .gt 32, 3) := by decide +kernel
theorem dX4_forget_13 : decode cX4_forget 13 = .ok (.iconst 0, 1) := by decide +kernel
theorem dX4_forget_14 : decode cX4_forget 14 = .ok (.istore_n 2, 1) := by decide +kernel
theorem dX4_forget_15 : decode cX4_forget 15 = .ok (.iload_n 2, 1) := by decide +kernel
theorem dX4_forget_16 : decode cX4_forget 16 = .ok (.bipush 7, 2) := by decide +kernel
theorem dX4_forget_18 : decode cX4_forget 18 = .ok (.if_icmp .gt 18, 3) := by decide +kernel
theorem dX4_forget_21 : decode cX4_forget 21 = .ok (.aload_n 0, 1) := by decide +kernel
theorem dX4_forget_22 : decode cX4_forget 22 = .ok (.getfield 24, 3) := by decide +kernel
theorem dX4_forget_25 : decode cX4_forget 25 = .ok (.iload_n 1, 1) := by decide +kernel
theorem dX4_forget_26 : decode cX4_forget 26 = .ok (.aaload, 1) := by decide +kernel
theorem dX4_forget_27 : decode cX4_forget 27 = .ok (.iload_n 2, 1) := by decide +kernel
theorem dX4_forget_28 : decode cX4_forget 28 = .ok (.iconst 0, 1) := by decide +kernel
theorem dX4_forget_29 : decode cX4_forget 29 = .ok (.iastore, 1) := by decide +kernel
theorem dX4_forget_30 : decode cX4_forget 30 = .ok (.iinc 2 1, 3) := by decide +kernel
theorem dX4_forget_33 : decode cX4_forget 33 = .ok (.goto (-18), 3) := by decide +kernel
theorem dX4_forget_36 : decode cX4_forget 36 = .ok (.iinc 1 1, 3) := by decide +kernel
theorem dX4_forget_39 : decode cX4_forget 39 = .ok (.goto (-32), 3) := by decide +kernel
theorem dX4_forget_42 : decode cX4_forget 42 = .ok (.return_, 1) := by decide +kernel
theorem dX4_countAhead_0 : decode cX4_countAhead 0 = .ok (.aload_n 0, 1) := by decide +kernel
theorem dX4_countAhead_1 : decode cX4_countAhead 1 = .ok (.getfield 12, 3) := by decide +kernel
theorem dX4_countAhead_4 : decode cX4_countAhead 4 = .ok (.aload_n 0, 1) := by decide +kernel
theorem dX4_countAhead_5 : decode cX4_countAhead 5 = .ok (.getfield 27, 3) := by decide +kernel
theorem dX4_countAhead_8 : decode cX4_countAhead 8 = .ok (.invokevirtual 59, 3) := by decide +kernel
theorem dX4_countAhead_11 : decode cX4_countAhead 11 = .ok (.aload_n 0, 1) := by decide +kernel
theorem dX4_countAhead_12 : decode cX4_countAhead 12 = .ok (.getfield 12, 3) := by decide +kernel
theorem dX4_countAhead_15 : decode cX4_countAhead 15 = .ok (.iload_n 2, 1) := by decide +kernel
theorem dX4_countAhead_16 : decode cX4_countAhead 16 = .ok (.putfield 63, 3) := by decide +kernel
theorem dX4_countAhead_19 : decode cX4_countAhead 19 = .ok (.aload_n 0, 1) := by decide +kernel
theorem dX4_countAhead_20 : decode cX4_countAhead 20 = .ok (.getfield 12, 3) := by decide +kernel
theorem dX4_countAhead_23 : decode cX4_countAhead 23 = .ok (.getfield 66, 3) := by decide +kernel
theorem dX4_countAhead_26 : decode cX4_countAhead 26 = .ok (.iload_n 1, 1) := by decide +kernel
theorem dX4_countAhead_27 : decode cX4_countAhead 27 = .ok (.iload_n 3, 1) := by decide +kernel
theorem dX4_countAhead_28 : decode cX4_countAhead 28 = .ok (.iastore, 1) := by decide +kernel
theorem dX4_countAhead_29 : decode cX4_countAhead 29 = .ok (.iconst 0, 1) := by decide +kernel
theorem dX4_countAhead_30 : decode cX4_countAhead 30 = .ok (.istore 4, 2) := by decide +kernel
theorem dX4_countAhead_32 : decode cX4_countAhead 32 = .ok (.iload 4, 2) := by decide +kernel
theorem dX4_countAhead_34 : decode cX4_countAhead 34 = .ok (.bipush 20, 2) := by decide +kernel
theorem dX4_countAhead_36 : decode cX4_countAhead 36 = .ok (.if_icmp .gt 31, 3) := by decide +kernel
theorem dX4_countAhead_39 : decode cX4_countAhead 39 = .ok (.aload_n 0, 1) := by decide +kernel
theorem dX4_countAhead_40 : decode cX4_countAhead 40 = .ok (.getfield 18, 3) := by decide +kernel
theorem dX4_countAhead_43 : decode cX4_countAhead 43 = .ok (.iload 4, 2) := by decide +kernel
theorem dX4_countAhead_45 : decode cX4_countAhead 45 = .ok (.aload_n 0, 1) := by decide +kernel
theorem dX4_countAhead_46 : decode cX4_countAhead 46 = .ok (.getfield 12, 3) := by decide +kernel
theorem dX4_countAhead_49 : decode cX4_countAhead 49 = .ok (.invokevirtual 69, 3) := by decide +kernel
theorem dX4_countAhead_52 : decode cX4_countAhead 52 = .ok (.iastore, 1) := by decide +kernel
theorem dX4_countAhead_53 : decode cX4_countAhead 53 = .ok (.aload_n 0, 1) := by decide +kernel
theorem dX4_countAhead_54 : decode cX4_countAhead 54 = .ok (.getfield 12, 3) := by decide +kernel
theorem dX4_countAhead_57 : decode cX4_countAhead 57 = .ok (.iconst 1, 1) := by decide +kernel
theorem dX4_countAhead_58 : decode cX4_countAhead 58 = .ok (.invokevirtual 73, 3) := by decide +kernel
theorem dX4_countAhead_61 : decode cX4_countAhead 61 = .ok (.iinc 4 1, 3) := by decide +kernel
theorem dX4_countAhead_64 : decode cX4_countAhead 64 = .ok (.goto (-32), 3) := by decide +kernel
theorem dX4_countAhead_67 : decode cX4_countAhead 67 = .ok (.return_, 1) := by decide +kernel
theorem dX4_isAsSeen_0 : decode cX4_isAsSeen 0 = .ok (.iconst 0, 1) := by decide +kernel
theorem dX4_isAsSeen_1 : decode cX4_isAsSeen 1 = .ok (.istore_n 3, 1) := by decide +kernel
theorem dX4_isAsSeen_2 : decode cX4_isAsSeen 2 = .ok (.iload_n 3, 1) := by decide +kernel
theorem dX4_isAsSeen_3 : decode cX4_isAsSeen 3 = .ok (.iload_n 2, 1) := by decide +kernel
theorem dX4_isAsSeen_4 : decode cX4_isAsSeen 4 = .ok (.if_icmp .ge 72, 3) := by decide +kernel
theorem dX4_isAsSeen_7 : decode cX4_isAsSeen 7 = .ok (.iconst 2, 1) := by decide +kernel
theorem dX4_isAsSeen_8 : decode cX4_isAsSeen 8 = .ok (.iload_n 3, 1) := by decide +kernel
theorem dX4_isAsSeen_9 : decode cX4_isAsSeen 9 = .ok (.imul, 1) := by decide +kernel
theorem dX4_isAsSeen_10 : decode cX4_isAsSeen 10 = .ok (.iconst 1, 1) := by decide +kernel
theorem dX4_isAsSeen_11 : decode cX4_isAsSeen 11 = .ok (.iadd, 1) := by decide +kernel
theorem dX4_isAsSeen_12 : decode cX4_isAsSeen 12 = .ok (.aload_n 1, 1) := by decide +kernel
theorem dX4_isAsSeen_13 : decode cX4_isAsSeen 13 = .ok (.getfield 77, 3) := by decide +kernel
theorem dX4_isAsSeen_16 : decode cX4_isAsSeen 16 = .ok (.if_icmp .ge 60, 3) := by decide +kernel
theorem dX4_isAsSeen_19 : decode cX4_isAsSeen 19 = .ok (.aload_n 1, 1) := by decide +kernel
theorem dX4_isAsSeen_20 : decode cX4_isAsSeen 20 = .ok (.getfield 82, 3) := by decide +kernel
theorem dX4_isAsSeen_23 : decode cX4_isAsSeen 23 = .ok (.iconst 2, 1) := by decide +kernel
theorem dX4_isAsSeen_24 : decode cX4_isAsSeen 24 = .ok (.iload_n 3, 1) := by decide +kernel
theorem dX4_isAsSeen_25 : decode cX4_isAsSeen 25 = .ok (.imul, 1) := by decide +kernel
theorem dX4_isAsSeen_26 : decode cX4_isAsSeen 26 = .ok (.laload, 1) := by decide +kernel
theorem dX4_isAsSeen_27 : decode cX4_isAsSeen 27 = .ok (.lstore 4, 2) := by decide +kernel
theorem dX4_isAsSeen_29 : decode cX4_isAsSeen 29 = .ok (.lload 4, 2) := by decide +kernel
theorem dX4_isAsSeen_31 : decode cX4_isAsSeen 31 = .ok (.lconst 0, 1) := by decide +kernel
theorem dX4_isAsSeen_32 : decode cX4_isAsSeen 32 = .ok (.lcmp, 1) := by decide +kernel
theorem dX4_isAsSeen_33 : decode cX4_isAsSeen 33 = .ok (.ifCond .lt 35, 3) := by decide +kernel
theorem dX4_isAsSeen_36 : decode cX4_isAsSeen 36 = .ok (.lload 4, 2) := by decide +kernel
theorem dX4_isAsSeen_38 : decode cX4_isAsSeen 38 = .ok (.ldc2_w 86, 3) := by decide +kernel
theorem dX4_isAsSeen_41 : decode cX4_isAsSeen 41 = .ok (.lcmp, 1) := by decide +kernel
theorem dX4_isAsSeen_42 : decode cX4_isAsSeen 42 = .ok (.ifCond .gt 26, 3) := by decide +kernel
theorem dX4_isAsSeen_45 : decode cX4_isAsSeen 45 = .ok (.aload_n 0, 1) := by decide +kernel
theorem dX4_isAsSeen_46 : decode cX4_isAsSeen 46 = .ok (.getfield 18, 3) := by decide +kernel
theorem dX4_isAsSeen_49 : decode cX4_isAsSeen 49 = .ok (.lload 4, 2) := by decide +kernel
theorem dX4_isAsSeen_51 : decode cX4_isAsSeen 51 = .ok (.l2i, 1) := by decide +kernel
theorem dX4_isAsSeen_52 : decode cX4_isAsSeen 52 = .ok (.iaload, 1) := by decide +kernel
theorem dX4_isAsSeen_53 : decode cX4_isAsSeen 53 = .ok (.i2l, 1) := by decide +kernel
theorem dX4_isAsSeen_54 : decode cX4_isAsSeen 54 = .ok (.aload_n 1, 1) := by decide +kernel
theorem dX4_isAsSeen_55 : decode cX4_isAsSeen 55 = .ok (.getfield 82, 3) := by decide +kernel
theorem dX4_isAsSeen_58 : decode cX4_isAsSeen 58 = .ok (.iconst 2, 1) := by decide +kernel
theorem dX4_isAsSeen_59 : decode cX4_isAsSeen 59 = .ok (.iload_n 3, 1) := by decide +kernel
theorem dX4_isAsSeen_60 : decode cX4_isAsSeen 60 = .ok (.imul, 1) := by decide +kernel
theorem dX4_isAsSeen_61 : decode cX4_isAsSeen 61 = .ok (.iconst 1, 1) := by decide +kernel
theorem dX4_isAsSeen_62 : decode cX4_isAsSeen 62 = .ok (.iadd, 1) := by decide +kernel
theorem dX4_isAsSeen_63 : decode cX4_isAsSeen 63 = .ok (.laload, 1) := by decide +kernel
theorem dX4_isAsSeen_64 : decode cX4_isAsSeen 64 = .ok (.lcmp, 1) := by decide +kernel
theorem dX4_isAsSeen_65 : decode cX4_isAsSeen 65 = .ok (.ifCond .eq 5, 3) := by decide +kernel
theorem dX4_isAsSeen_68 : decode cX4_isAsSeen 68 = .ok (.iconst 0, 1) := by decide +kernel
theorem dX4_isAsSeen_69 : decode cX4_isAsSeen 69 = .ok (.ireturn, 1) := by decide +kernel
theorem dX4_isAsSeen_70 : decode cX4_isAsSeen 70 = .ok (.iinc 3 1, 3) := by decide +kernel
theorem dX4_isAsSeen_73 : decode cX4_isAsSeen 73 = .ok (.goto (-71), 3) := by decide +kernel
theorem dX4_isAsSeen_76 : decode cX4_isAsSeen 76 = .ok (.iconst 1, 1) := by decide +kernel
theorem dX4_isAsSeen_77 : decode cX4_isAsSeen 77 = .ok (.ireturn, 1) := by decide +kernel
theorem dX4_addCouple_0 : decode cX4_addCouple 0 = .ok (.aload_n 0, 1) := by decide +kernel
theorem dX4_addCouple_1 : decode cX4_addCouple 1 = .ok (.getfield 55, 3) := by decide +kernel
theorem dX4_addCouple_4 : decode cX4_addCouple 4 = .ok (.ifCond .ne 13, 3) := by decide +kernel
theorem dX4_addCouple_7 : decode cX4_addCouple 7 = .ok (.aload_n 0, 1) := by decide +kernel
theorem dX4_addCouple_8 : decode cX4_addCouple 8 = .ok (.iload_n 1, 1) := by decide +kernel
theorem dX4_addCouple_9 : decode cX4_addCouple 9 = .ok (.putfield 88, 3) := by decide +kernel
theorem dX4_addCouple_12 : decode cX4_addCouple 12 = .ok (.aload_n 0, 1) := by decide +kernel
theorem dX4_addCouple_13 : decode cX4_addCouple 13 = .ok (.iload_n 2, 1) := by decide +kernel
theorem dX4_addCouple_14 : decode cX4_addCouple 14 = .ok (.putfield 91, 3) := by decide +kernel
theorem dX4_addCouple_17 : decode cX4_addCouple 17 = .ok (.aload_n 0, 1) := by decide +kernel
theorem dX4_addCouple_18 : decode cX4_addCouple 18 = .ok (.dup, 1) := by decide +kernel
theorem dX4_addCouple_19 : decode cX4_addCouple 19 = .ok (.getfield 55, 3) := by decide +kernel
theorem dX4_addCouple_22 : decode cX4_addCouple 22 = .ok (.iconst 1, 1) := by decide +kernel
theorem dX4_addCouple_23 : decode cX4_addCouple 23 = .ok (.iadd, 1) := by decide +kernel
theorem dX4_addCouple_24 : decode cX4_addCouple 24 = .ok (.putfield 55, 3) := by decide +kernel
theorem dX4_addCouple_27 : decode cX4_addCouple 27 = .ok (.iconst 0, 1) := by decide +kernel
theorem dX4_addCouple_28 : decode cX4_addCouple 28 = .ok (.istore_n 3, 1) := by decide +kernel
theorem dX4_addCouple_29 : decode cX4_addCouple 29 = .ok (.iload_n 3, 1) := by decide +kernel
theorem dX4_addCouple_30 : decode cX4_addCouple 30 = .ok (.bipush 20, 2) := by decide +kernel
theorem dX4_addCouple_32 : decode cX4_addCouple 32 = .ok (.if_icmp .gt 46, 3) := by decide +kernel
theorem dX4_addCouple_35 : decode cX4_addCouple 35 = .ok (.aload_n 0, 1) := by decide +kernel
theorem dX4_addCouple_36 : decode cX4_addCouple 36 = .ok (.getfield 18, 3) := by decide +kernel
theorem dX4_addCouple_39 : decode cX4_addCouple 39 = .ok (.iload_n 3, 1) := by decide +kernel
theorem dX4_addCouple_40 : decode cX4_addCouple 40 = .ok (.iaload, 1) := by decide +kernel
theorem dX4_addCouple_41 : decode cX4_addCouple 41 = .ok (.ifCond .lt 31, 3) := by decide +kernel
theorem dX4_addCouple_44 : decode cX4_addCouple 44 = .ok (.aload_n 0, 1) := by decide +kernel
theorem dX4_addCouple_45 : decode cX4_addCouple 45 = .ok (.getfield 18, 3) := by decide +kernel
theorem dX4_addCouple_48 : decode cX4_addCouple 48 = .ok (.iload_n 3, 1) := by decide +kernel
theorem dX4_addCouple_49 : decode cX4_addCouple 49 = .ok (.iaload, 1) := by decide +kernel
theorem dX4_addCouple_50 : decode cX4_addCouple 50 = .ok (.bipush 7, 2) := by decide +kernel
theorem dX4_addCouple_52 : decode cX4_addCouple 52 = .ok (.if_icmp .gt 20, 3) := by decide +kernel
theorem dX4_addCouple_55 : decode cX4_addCouple 55 = .ok (.aload_n 0, 1) := by decide +kernel
theorem dX4_addCouple_56 : decode cX4_addCouple 56 = .ok (.getfield 24, 3) := by decide +kernel
theorem dX4_addCouple_59 : decode cX4_addCouple 59 = .ok (.iload_n 3, 1) := by decide +kernel
theorem dX4_addCouple_60 : decode cX4_addCouple 60 = .ok (.aaload, 1) := by decide +kernel
theorem dX4_addCouple_61 : decode cX4_addCouple 61 = .ok (.aload_n 0, 1) := by decide +kernel
theorem dX4_addCouple_62 : decode cX4_addCouple 62 = .ok (.getfield 18, 3) := by decide +kernel
theorem dX4_addCouple_65 : decode cX4_addCouple 65 = .ok (.iload_n 3, 1) := by decide +kernel
theorem dX4_addCouple_66 : decode cX4_addCouple 66 = .ok (.iaload, 1) := by decide +kernel
theorem dX4_addCouple_67 : decode cX4_addCouple 67 = .ok (.dup2, 1) := by decide +kernel
theorem dX4_addCouple_68 : decode cX4_addCouple 68 = .ok (.iaload, 1) := by decide +kernel
theorem dX4_addCouple_69 : decode cX4_addCouple 69 = .ok (.iconst 1, 1) := by decide +kernel
theorem dX4_addCouple_70 : decode cX4_addCouple 70 = .ok (.iadd, 1) := by decide +kernel
theorem dX4_addCouple_71 : decode cX4_addCouple 71 = .ok (.iastore, 1) := by decide +kernel
theorem dX4_addCouple_72 : decode cX4_addCouple 72 = .ok (.iinc 3 1, 3) := by decide +kernel
theorem dX4_addCouple_75 : decode cX4_addCouple 75 = .ok (.goto (-46), 3) := by decide +kernel
theorem dX4_addCouple_78 : decode cX4_addCouple 78 = .ok (.return_, 1) := by decide +kernel
theorem dX5_init_0 : decode cX5_init 0 = .ok (.aload_n 0, 1) := by decide +kernel
theorem dX5_init_1 : decode cX5_init 1 = .ok (.invokespecial 3, 3) := by decide +kernel
theorem dX5_init_4 : decode cX5_init 4 = .ok (.aload_n 0, 1) := by decide +kernel
theorem dX5_init_5 : decode cX5_init 5 = .ok (.bipush 7, 2) := by decide +kernel
theorem dX5_init_7 : decode cX5_init 7 = .ok (.newarray .long, 2) := by decide +kernel
theorem dX5_init_9 : decode cX5_init 9 = .ok (.putfield 9, 3) := by decide +kernel
theorem dX5_init_12 : decode cX5_init 12 = .ok (.aload_n 0, 1) := by decide +kernel
theorem dX5_init_13 : decode cX5_init 13 = .ok (.bipush 7, 2) := by decide +kernel
theorem dX5_init_15 : decode cX5_init 15 = .ok (.newarray .int, 2) := by decide +kernel
theorem dX5_init_17 : decode cX5_init 17 = .ok (.putfield 15, 3) := by decide +kernel
theorem dX5_init_20 : decode cX5_init 20 = .ok (.aload_n 0, 1) := by decide +kernel
theorem dX5_init_21 : decode cX5_init 21 = .ok (.bipush 7, 2) := by decide +kernel
theorem dX5_init_23 : decode cX5_init 23 = .ok (.newarray .int, 2) := by decide +kernel
theorem dX5_init_25 : decode cX5_init 25 = .ok (.putfield 19, 3) := by decide +kernel
theorem dX5_init_28 : decode cX5_init 28 = .ok (.aload_n 0, 1) := by decide +kernel
theorem dX5_init_29 : decode cX5_init 29 = .ok (.bipush 7, 2) := by decide +kernel
theorem dX5_init_31 : decode cX5_init 31 = .ok (.newarray .int, 2) := by decide +kernel
theorem dX5_init_33 : decode cX5_init 33 = .ok (.putfield 22, 3) := by decide +kernel
theorem dX5_init_36 : decode cX5_init 36 = .ok (.aload_n 0, 1) := by decide +kernel
theorem dX5_init_37 : decode cX5_init 37 = .ok (.bipush 7, 2) := by decide +kernel
theorem dX5_init_39 : decode cX5_init 39 = .ok (.newarray .int, 2) := by decide +kernel
theorem dX5_init_41 : decode cX5_init 41 = .ok (.putfield 25, 3) := by decide +kernel
theorem dX5_init_44 : decode cX5_init 44 = .ok (.aload_n 0, 1) := by decide +kernel
theorem dX5_init_45 : decode cX5_init 45 = .ok (.bipush 7, 2) := by decide +kernel
theorem dX5_init_47 : decode cX5_init 47 = .ok (.newarray .int, 2) := by decide +kernel
theorem dX5_init_49 : decode cX5_init 49 = .ok (.putfield 28, 3) := by decide +kernel
theorem dX5_init_52 : decode cX5_init 52 = .ok (.aload_n 0, 1) := by decide +kernel
theorem dX5_init_53 : decode cX5_init 53 = .ok (.bipush 7, 2) := by decide +kernel
theorem dX5_init_55 : decode cX5_init 55 = .ok (.newarray .int, 2) := by decide +kernel
theorem dX5_init_57 : decode cX5_init 57 = .ok (.putfield 31, 3) := by decide +kernel
theorem dX5_init_60 : decode cX5_init 60 = .ok (.aload_n 0, 1) := by decide +kernel
theorem dX5_init_61 : decode cX5_init 61 = .ok (.bipush 7, 2) := by decide +kernel
theorem dX5_init_63 : decode cX5_init 63 = .ok (.newarray .int, 2) := by decide +kernel
theorem dX5_init_65 : decode cX5_init 65 = .ok (.putfield 34, 3) := by decide +kernel
theorem dX5_init_68 : decode cX5_init 68 = .ok (.aload_n 0, 1) := by decide +kernel
theorem dX5_init_69 : decode cX5_init 69 = .ok (.invokevirtual 37, 3) := by decide +kernel
theorem dX5_init_72 : decode cX5_init 72 = .ok (.return_, 1) := by decide +kernel
theorem dX5_clear_0 : decode cX5_clear 0 = .ok (.aload_n 0, 1) := by decide +kernel
theorem dX5_clear_1 : decode cX5_clear 1 = .ok (.iconst 0, 1) := by decide +kernel
theorem dX5_clear_2 : decode cX5_clear 2 = .ok (.putfield 40, 3) := by decide +kernel
theorem dX5_clear_5 : decode cX5_clear 5 = .ok (.aload_n 0, 1) := by decide +kernel
theorem dX5_clear_6 : decode cX5_clear 6 = .ok (.iconst 4, 1) := by decide +kernel
theorem dX5_clear_7 : decode cX5_clear 7 = .ok (.putfield 44, 3) := by decide +kernel
theorem dX5_clear_10 : decode cX5_clear 10 = .ok (.aload_n 0, 1) := by decide +kernel
theorem dX5_clear_11 : decode cX5_clear 11 = .ok (.iconst 5, 1) := by decide +kernel
theorem dX5_clear_12 : decode cX5_clear 12 = .ok (.putfield 47, 3) := by decide +kernel
theorem dX5_clear_15 : decode cX5_clear 15 = .ok (.aload_n 0, 1) := by decide +kernel
theorem dX5_clear_16 : decode cX5_clear 16 = .ok (.iconst 2, 1) := by decide +kernel
theorem dX5_clear_17 : decode cX5_clear 17 = .ok (.putfield 50, 3) := by decide +kernel
theorem dX5_clear_20 : decode cX5_clear 20 = .ok (.aload_n 0, 1) := by decide +kernel
theorem dX5_clear_21 : decode cX5_clear 21 = .ok (.bipush 8, 2) := by decide +kernel
theorem dX5_clear_23 : decode cX5_clear 23 = .ok (.putfield 53, 3) := by decide +kernel
theorem dX5_clear_26 : decode cX5_clear 26 = .ok (.aload_n 0, 1) := by decide +kernel
theorem dX5_clear_27 : decode cX5_clear 27 = .ok (.iconst 0, 1) := by decide +kernel
theorem dX5_clear_28 : decode cX5_clear 28 = .ok (.putfield 56, 3) := by decide +kernel
theorem dX5_clear_31 : decode cX5_clear 31 = .ok (.aload_n 0, 1) := by decide +kernel
theorem dX5_clear_32 : decode cX5_clear 32 = .ok (.iconst 0, 1) := by decide +kernel
theorem dX5_clear_33 : decode cX5_clear 33 = .ok (.putfield 59, 3) := by decide +kernel
theorem dX5_clear_36 : decode cX5_clear 36 = .ok (.aload_n 0, 1) := by decide +kernel
theorem dX5_clear_37 : decode cX5_clear 37 = .ok (.iconst 0, 1) := by decide +kernel
theorem dX5_clear_38 : decode cX5_clear 38 = .ok (.putfield 62, 3) := by decide +kernel
theorem dX5_clear_41 : decode cX5_clear 41 = .ok (.aload_n 0, 1) := by decide +kernel
theorem dX5_clear_42 : decode cX5_clear 42 = .ok (.iconst 0, 1) := by decide +kernel
theorem dX5_clear_43 : decode cX5_clear 43 = .ok (.putfield 65, 3) := by decide +kernel
theorem dX5_clear_46 : decode cX5_clear 46 = .ok (.return_, 1) := by decide +kernel
theorem dX5_copyFrom_0 : decode cX5_copyFrom 0 = .ok (.aload_n 0, 1) := by decide +kernel
theorem dX5_copyFrom_1 : decode cX5_copyFrom 1 = .ok (.aload_n 1, 1) := by decide +kernel
theorem dX5_copyFrom_2 : decode cX5_copyFrom 2 = .ok (.getfield 40, 3) := by decide +kernel
theorem dX5_copyFrom_5 : decode cX5_copyFrom 5 = .ok (.putfield 40, 3) := by decide +kernel
theorem dX5_copyFrom_8 : decode cX5_copyFrom 8 = .ok (.aload_n 0, 1) := by decide +kernel
theorem dX5_copyFrom_9 : decode cX5_copyFrom 9 = .ok (.aload_n 1, 1) := by decide +kernel
theorem dX5_copyFrom_10 : decode cX5_copyFrom 10 = .ok (.getfield 44, 3) := by decide +kernel
theorem dX5_copyFrom_13 : decode cX5_copyFrom 13 = .ok (.putfield 44, 3) := by decide +kernel
theorem dX5_copyFrom_16 : decode cX5_copyFrom 16 = .ok (.aload_n 0, 1) := by decide +kernel
theorem dX5_copyFrom_17 : decode cX5_copyFrom 17 = .ok (.aload_n 1, 1) := by decide +kernel
theorem dX5_copyFrom_18 : decode cX5_copyFrom 18 = .ok (.getfield 47, 3) := by decide +kernel
theorem dX5_copyFrom_21 : decode cX5_copyFrom 21 = .ok (.putfield 47, 3) := by decide +kernel
theorem dX5_copyFrom_24 : decode cX5_copyFrom 24 = .ok (.aload_n 0, 1) := by decide +kernel
theorem dX5_copyFrom_25 : decode cX5_copyFrom 25 = .ok (.aload_n 1, 1) := by decide +kernel
theorem dX5_copyFrom_26 : decode cX5_copyFrom 26 = .ok (.getfield 50, 3) := by decide +kernel
theorem dX5_copyFrom_29 : decode cX5_copyFrom 29 = .ok (.putfield 50, 3) := by decide +kernel
theorem dX5_copyFrom_32 : decode cX5_copyFrom 32 = .ok (.aload_n 0, 1) := by decide +kernel
theorem dX5_copyFrom_33 : decode cX5_copyFrom 33 = .ok (.aload_n 1, 1) := by decide +kernel
theorem dX5_copyFrom_34 : decode cX5_copyFrom 34 = .ok (.getfield 53, 3) := by decide +kernel
theorem dX5_copyFrom_37 : decode cX5_copyFrom 37 = .ok (.putfield 53, 3) := by decide +kernel
theorem dX5_copyFrom_40 : decode cX5_copyFrom 40 = .ok (.aload_n 0, 1) := by decide +kernel
theorem dX5_copyFrom_41 : decode cX5_copyFrom 41 = .ok (.aload_n 1, 1) := by decide +kernel
theorem dX5_copyFrom_42 : decode cX5_copyFrom 42 = .ok (.getfield 56, 3) := by decide +kernel
theorem dX5_copyFrom_45 : decode cX5_copyFrom 45 = .ok (.putfield 56, 3) := by decide +kernel
theorem dX5_copyFrom_48 : decode cX5_copyFrom 48 = .ok (.aload_n 0, 1) := by decide +kernel
theorem dX5_copyFrom_49 : decode cX5_copyFrom 49 = .ok (.aload_n 1, 1) := by decide +kernel
theorem dX5_copyFrom_50 : decode cX5_copyFrom 50 = .ok (.getfield 59, 3) := by decide +kernel
theorem dX5_copyFrom_53 : decode cX5_copyFrom 53 = .ok (.putfield 59, 3) := by decide +kernel
theorem dX5_copyFrom_56 : decode cX5_copyFrom 56 = .ok (.aload_n 0, 1) := by decide +kernel
theorem dX5_copyFrom_57 : decode cX5_copyFrom 57 = .ok (.aload_n 1, 1) := by decide +kernel
theorem dX5_copyFrom_58 : decode cX5_copyFrom 58 = .ok (.getfield 62, 3) := by decide +kernel
theorem dX5_copyFrom_61 : decode cX5_copyFrom 61 = .ok (.putfield 62, 3) := by decide +kernel
theorem dX5_copyFrom_64 : decode cX5_copyFrom 64 = .ok (.aload_n 0, 1) := by decide +kernel
theorem dX5_copyFrom_65 : decode cX5_copyFrom 65 = .ok (.aload_n 1, 1) := by decide +kernel
theorem dX5_copyFrom_66 : decode cX5_copyFrom 66 = .ok (.getfield 65, 3) := by decide +kernel
theorem dX5_copyFrom_69 : decode cX5_copyFrom 69 = .ok (.putfield 65, 3) := by decide +kernel
theorem dX5_copyFrom_72 : decode cX5_copyFrom 72 = .ok (.aload_n 1, 1) := by decide +kernel
theorem dX5_copyFrom_73 : decode cX5_copyFrom 73 = .ok (.getfield 9, 3) := by decide +kernel
theorem dX5_copyFrom_76 : decode cX5_copyFrom 76 = .ok (.iconst 0, 1) := by decide +kernel
theorem dX5_copyFrom_77 : decode cX5_copyFrom 77 = .ok (.aload_n 0, 1) := by decide +kernel
theorem dX5_copyFrom_78 : decode cX5_copyFrom 78 = .ok (.getfield 9, 3) := by decide +kernel
theorem dX5_copyFrom_81 : decode cX5_copyFrom 81 = .ok (.iconst 0, 1) := by decide +kernel
theorem dX5_copyFrom_82 : decode cX5_copyFrom 82 = .ok (.bipush 7, 2) := by decide +kernel
theorem dX5_copyFrom_84 : decode cX5_copyFrom 84 = .ok (.invokestatic 68, 3) := by decide +kernel
theorem dX5_copyFrom_87 : decode cX5_copyFrom 87 = .ok (.aload_n 1, 1) := by decide +kernel
theorem dX5_copyFrom_88 : decode cX5_copyFrom 88 = .ok (.getfield 15, 3) := by decide +kernel
theorem dX5_copyFrom_91 : decode cX5_copyFrom 91 = .ok (.iconst 0, 1) := by decide +kernel
theorem dX5_copyFrom_92 : decode cX5_copyFrom 92 = .ok (.aload_n 0, 1) := by decide +kernel
theorem dX5_copyFrom_93 : decode cX5_copyFrom 93 = .ok (.getfield 15, 3) := by decide +kernel
theorem dX5_copyFrom_96 : decode cX5_copyFrom 96 = .ok (.iconst 0, 1) := by decide +kernel
theorem dX5_copyFrom_97 : decode cX5_copyFrom 97 = .ok (.bipush 7, 2) := by decide +kernel
theorem dX5_copyFrom_99 : decode cX5_copyFrom 99 = .ok (.invokestatic 68, 3) := by decide +kernel
theorem dX5_copyFrom_102 : decode cX5_copyFrom 102 = .ok (.aload_n 1, 1) := by decide +kernel
theorem dX5_copyFrom_103 : decode cX5_copyFrom 103 = .ok (.getfield 19, 3) := by decide +kernel
theorem dX5_copyFrom_106 : decode cX5_copyFrom 106 = .ok (.iconst 0, 1) := by decide +kernel
theorem dX5_copyFrom_107 : decode cX5_copyFrom 107 = .ok (.aload_n 0, 1) := by decide +kernel
theorem dX5_copyFrom_108 : decode cX5_copyFrom 108 = .ok (.getfield 19, 3) := by decide +kernel
theorem dX5_copyFrom_111 : decode cX5_copyFrom 111 = .ok (.iconst 0, 1) := by decide +kernel
theorem dX5_copyFrom_112 : decode cX5_copyFrom 112 = .ok (.bipush 7, 2) := by decide +kernel
theorem dX5_copyFrom_114 : decode cX5_copyFrom 114 = .ok (.invokestatic 68, 3) := by decide +kernel
theorem dX5_copyFrom_117 : decode cX5_copyFrom 117 = .ok (.aload_n 1, 1) := by decide +kernel
theorem dX5_copyFrom_118 : decode cX5_copyFrom 118 = .ok (.getfield 22, 3) := by decide +kernel
theorem dX5_copyFrom_121 : decode cX5_copyFrom 121 = .ok (.iconst 0, 1) := by decide +kernel
theorem dX5_copyFrom_122 : decode cX5_copyFrom 122 = .ok (.aload_n 0, 1) := by decide +kernel
theorem dX5_copyFrom_123 : decode cX5_copyFrom 123 = .ok (.getfield 22, 3) := by decide +kernel
theorem dX5_copyFrom_126 : decode cX5_copyFrom 126 = .ok (.iconst 0, 1) := by decide +kernel
theorem dX5_copyFrom_127 : decode cX5_copyFrom 127 = .ok (.bipush 7, 2) := by decide +kernel
theorem dX5_copyFrom_129 : decode cX5_copyFrom 129 = .ok (.invokestatic 68, 3) := by decide +kernel
theorem dX5_copyFrom_132 : decode cX5_copyFrom 132 = .ok (.aload_n 1, 1) := by decide +kernel
theorem dX5_copyFrom_133 : decode cX5_copyFrom 133 = .ok (.getfield 25, 3) := by decide +kernel
theorem dX5_copyFrom_136 : decode cX5_copyFrom 136 = .ok (.iconst 0, 1) := by decide +kernel
theorem dX5_copyFrom_137 : decode cX5_copyFrom 137 = .ok (.aload_n 0, 1) := by decide +kernel
theorem dX5_copyFrom_138 : decode cX5_copyFrom 138 = .ok (.getfield 25, 3) := by decide +kernel
theorem dX5_copyFrom_141 : decode cX5_copyFrom 141 = .ok (.iconst 0, 1) := by decide +kernel
theorem dX5_copyFrom_142 : decode cX5_copyFrom 142 = .ok (.bipush 7, 2) := by decide +kernel
theorem dX5_copyFrom_144 : decode cX5_copyFrom 144 = .ok (.invokestatic 68, 3) := by decide +kernel
theorem dX5_copyFrom_147 : decode cX5_copyFrom 147 = .ok (.aload_n 1, 1) := by decide +kernel
theorem dX5_copyFrom_148 : decode cX5_copyFrom 148 = .ok (.getfield 28, 3) := by decide +kernel
theorem dX5_copyFrom_151 : decode cX5_copyFrom 151 = .ok (.iconst 0, 1) := by decide +kernel
theorem dX5_copyFrom_152 : decode cX5_copyFrom 152 = .ok (.aload_n 0, 1) := by decide +kernel
theorem dX5_copyFrom_153 : decode cX5_copyFrom 153 = .ok (.getfield 28, 3) := by decide +kernel
theorem dX5_copyFrom_156 : decode cX5_copyFrom 156 = .ok (.iconst 0, 1) := by decide +kernel
theorem dX5_copyFrom_157 : decode cX5_copyFrom 157 = .ok (.bipush 7, 2) := by decide +kernel
theorem dX5_copyFrom_159 : decode cX5_copyFrom 159 = .ok (.invokestatic 68, 3) := by decide +kernel
theorem dX5_copyFrom_162 : decode cX5_copyFrom 162 = .ok (.aload_n 1, 1) := by decide +kernel
theorem dX5_copyFrom_163 : decode cX5_copyFrom 163 = .ok (.getfield 31, 3) := by decide +kernel
theorem dX5_copyFrom_166 : decode cX5_copyFrom 166 = .ok (.iconst 0, 1) := by decide +kernel
theorem dX5_copyFrom_167 : decode cX5_copyFrom 167 = .ok (.aload_n 0, 1) := by decide +kernel
theorem dX5_copyFrom_168 : decode cX5_copyFrom 168 = .ok (.getfield 31, 3) := by decide +kernel
theorem dX5_copyFrom_171 : decode cX5_copyFrom 171 = .ok (.iconst 0, 1) := by decide +kernel
theorem dX5_copyFrom_172 : decode cX5_copyFrom 172 = .ok (.bipush 7, 2) := by decide +kernel
theorem dX5_copyFrom_174 : decode cX5_copyFrom 174 = .ok (.invokestatic 68, 3) := by decide +kernel
theorem dX5_copyFrom_177 : decode cX5_copyFrom 177 = .ok (.return_, 1) := by decide +kernel
theorem dX5_hasGuest_0 : decode cX5_hasGuest 0 = .ok (.iload_n 1, 1) := by decide +kernel
theorem dX5_hasGuest_1 : decode cX5_hasGuest 1 = .ok (.ifCond .lt 15, 3) := by decide +kernel
theorem dX5_hasGuest_4 : decode cX5_hasGuest 4 = .ok (.iload_n 1, 1) := by decide +kernel
theorem dX5_hasGuest_5 : decode cX5_hasGuest 5 = .ok (.aload_n 0, 1) := by decide +kernel
theorem dX5_hasGuest_6 : decode cX5_hasGuest 6 = .ok (.getfield 40, 3) := by decide +kernel
theorem dX5_hasGuest_9 : decode cX5_hasGuest 9 = .ok (.if_icmp .ge 7, 3) := by decide +kernel
theorem dX5_hasGuest_12 : decode cX5_hasGuest 12 = .ok (.iconst 1, 1) := by decide +kernel
theorem dX5_hasGuest_13 : decode cX5_hasGuest 13 = .ok (.goto 4, 3) := by decide +kernel
theorem dX5_hasGuest_16 : decode cX5_hasGuest 16 = .ok (.iconst 0, 1) := by decide +kernel
theorem dX5_hasGuest_17 : decode cX5_hasGuest 17 = .ok (.ireturn, 1) := by decide +kernel
theorem dX5_seat_0 : decode cX5_seat 0 = .ok (.aload_n 0, 1) := by decide +kernel
theorem dX5_seat_1 : decode cX5_seat 1 = .ok (.getfield 40, 3) := by decide +kernel
theorem dX5_seat_4 : decode cX5_seat 4 = .ok (.bipush 7, 2) := by decide +kernel
theorem dX5_seat_6 : decode cX5_seat 6 = .ok (.if_icmp .lt 4, 3) := by decide +kernel
theorem dX5_seat_9 : decode cX5_seat 9 = .ok (.return_, 1) := by decide +kernel
theorem dX5_seat_10 : decode cX5_seat 10 = .ok (.aload_n 0, 1) := by decide +kernel
theorem dX5_seat_11 : decode cX5_seat 11 = .ok (.getfield 9, 3) := by decide +kernel
theorem dX5_seat_14 : decode cX5_seat 14 = .ok (.aload_n 0, 1) := by decide +kernel
theorem dX5_seat_15 : decode cX5_seat 15 = .ok (.getfield 40, 3) := by decide +kernel
theorem dX5_seat_18 : decode cX5_seat 18 = .ok (.lload_n 1, 1) := by decide +kernel
theorem dX5_seat_19 : decode cX5_seat 19 = .ok (.lastore, 1) := by decide +kernel
theorem dX5_seat_20 : decode cX5_seat 20 = .ok (.aload_n 0, 1) := by decide +kernel
theorem dX5_seat_21 : decode cX5_seat 21 = .ok (.getfield 15, 3) := by decide +kernel
theorem dX5_seat_24 : decode cX5_seat 24 = .ok (.aload_n 0, 1) := by decide +kernel
theorem dX5_seat_25 : decode cX5_seat 25 = .ok (.getfield 40, 3) := by decide +kernel
theorem dX5_seat_28 : decode cX5_seat 28 = .ok (.iconst 0, 1) := by decide +kernel
theorem dX5_seat_29 : decode cX5_seat 29 = .ok (.iastore, 1) := by decide +kernel
theorem dX5_seat_30 : decode cX5_seat 30 = .ok (.aload_n 0, 1) := by decide +kernel
theorem dX5_seat_31 : decode cX5_seat 31 = .ok (.getfield 19, 3) := by decide +kernel
theorem dX5_seat_34 : decode cX5_seat 34 = .ok (.aload_n 0, 1) := by decide +kernel
theorem dX5_seat_35 : decode cX5_seat 35 = .ok (.getfield 40, 3) := by decide +kernel
theorem dX5_seat_38 : decode cX5_seat 38 = .ok (.iconst 0, 1) := by decide +kernel
theorem dX5_seat_39 : decode cX5_seat 39 = .ok (.iastore, 1) := by decide +kernel
theorem dX5_seat_40 : decode cX5_seat 40 = .ok (.aload_n 0, 1) := by decide +kernel
theorem dX5_seat_41 : decode cX5_seat 41 = .ok (.getfield 22, 3) := by decide +kernel
theorem dX5_seat_44 : decode cX5_seat 44 = .ok (.aload_n 0, 1) := by decide +kernel
theorem dX5_seat_45 : decode cX5_seat 45 = .ok (.getfield 40, 3) := by decide +kernel
theorem dX5_seat_48 : decode cX5_seat 48 = .ok (.iconst 0, 1) := by decide +kernel
theorem dX5_seat_49 : decode cX5_seat 49 = .ok (.iastore, 1) := by decide +kernel
theorem dX5_seat_50 : decode cX5_seat 50 = .ok (.aload_n 0, 1) := by decide +kernel
theorem dX5_seat_51 : decode cX5_seat 51 = .ok (.getfield 25, 3) := by decide +kernel
theorem dX5_seat_54 : decode cX5_seat 54 = .ok (.aload_n 0, 1) := by decide +kernel
theorem dX5_seat_55 : decode cX5_seat 55 = .ok (.getfield 40, 3) := by decide +kernel
theorem dX5_seat_58 : decode cX5_seat 58 = .ok (.iconst 0, 1) := by decide +kernel
theorem dX5_seat_59 : decode cX5_seat 59 = .ok (.iastore, 1) := by decide +kernel
theorem dX5_seat_60 : decode cX5_seat 60 = .ok (.aload_n 0, 1) := by decide +kernel
theorem dX5_seat_61 : decode cX5_seat 61 = .ok (.getfield 28, 3) := by decide +kernel
theorem dX5_seat_64 : decode cX5_seat 64 = .ok (.aload_n 0, 1) := by decide +kernel
theorem dX5_seat_65 : decode cX5_seat 65 = .ok (.getfield 40, 3) := by decide +kernel
theorem dX5_seat_68 : decode cX5_seat 68 = .ok (.iconst 0, 1) := by decide +kernel
theorem dX5_seat_69 : decode cX5_seat 69 = .ok (.iastore, 1) := by decide +kernel
theorem dX5_seat_70 : decode cX5_seat 70 = .ok (.aload_n 0, 1) := by decide +kernel
theorem dX5_seat_71 : decode cX5_seat 71 = .ok (.getfield 31, 3) := by decide +kernel
theorem dX5_seat_74 : decode cX5_seat 74 = .ok (.aload_n 0, 1) := by decide +kernel
theorem dX5_seat_75 : decode cX5_seat 75 = .ok (.getfield 40, 3) := by decide +kernel
theorem dX5_seat_78 : decode cX5_seat 78 = .ok (.iconst (-1), 1) := by decide +kernel
theorem dX5_seat_79 : decode cX5_seat 79 = .ok (.iastore, 1) := by decide +kernel
theorem dX5_seat_80 : decode cX5_seat 80 = .ok (.aload_n 0, 1) := by decide +kernel
theorem dX5_seat_81 : decode cX5_seat 81 = .ok (.dup, 1) := by decide +kernel
theorem dX5_seat_82 : decode cX5_seat 82 = .ok (.getfield 65, 3) := by decide +kernel
theorem dX5_seat_85 : decode cX5_seat 85 = .ok (.iconst 1, 1) := by decide +kernel
theorem dX5_seat_86 : decode cX5_seat 86 = .ok (.aload_n 0, 1) := by decide +kernel
theorem dX5_seat_87 : decode cX5_seat 87 = .ok (.getfield 40, 3) := by decide +kernel
theorem dX5_seat_90 : decode cX5_seat 90 = .ok (.ishl, 1) := by decide +kernel
theorem dX5_seat_91 : decode cX5_seat 91 = .ok (.ior, 1) := by decide +kernel
theorem dX5_seat_92 : decode cX5_seat 92 = .ok (.putfield 65, 3) := by decide +kernel
theorem dX5_seat_95 : decode cX5_seat 95 = .ok (.aload_n 0, 1) := by decide +kernel
theorem dX5_seat_96 : decode cX5_seat 96 = .ok (.dup, 1) := by decide +kernel
theorem dX5_seat_97 : decode cX5_seat 97 = .ok (.getfield 40, 3) := by decide +kernel
theorem dX5_seat_100 : decode cX5_seat 100 = .ok (.iconst 1, 1) := by decide +kernel
theorem dX5_seat_101 : decode cX5_seat 101 = .ok (.iadd, 1) := by decide +kernel
theorem dX5_seat_102 : decode cX5_seat 102 = .ok (.putfield 40, 3) := by decide +kernel
theorem dX5_seat_105 : decode cX5_seat 105 = .ok (.return_, 1) := by decide +kernel
theorem dX5_guestNamed_0 : decode cX5_guestNamed 0 = .ok (.iconst 0, 1) := by decide +kernel
theorem dX5_guestNamed_1 : decode cX5_guestNamed 1 = .ok (.istore_n 3, 1) := by decide +kernel
theorem dX5_guestNamed_2 : decode cX5_guestNamed 2 = .ok (.iload_n 3, 1) := by decide +kernel
theorem dX5_guestNamed_3 : decode cX5_guestNamed 3 = .ok (.aload_n 0, 1) := by decide +kernel
theorem dX5_guestNamed_4 : decode cX5_guestNamed 4 = .ok (.getfield 40, 3) := by decide +kernel
theorem dX5_guestNamed_7 : decode cX5_guestNamed 7 = .ok (.if_icmp .ge 22, 3) := by decide +kernel
theorem dX5_guestNamed_10 : decode cX5_guestNamed 10 = .ok (.aload_n 0, 1) := by decide +kernel
theorem dX5_guestNamed_11 : decode cX5_guestNamed 11 = .ok (.getfield 9, 3) := by decide +kernel
theorem dX5_guestNamed_14 : decode cX5_guestNamed 14 = .ok (.iload_n 3, 1) := by decide +kernel
theorem dX5_guestNamed_15 : decode cX5_guestNamed 15 = .ok (.laload, 1) := by decide +kernel
theorem dX5_guestNamed_16 : decode cX5_guestNamed 16 = .ok (.lload_n 1, 1) := by decide +kernel
theorem dX5_guestNamed_17 : decode cX5_guestNamed 17 = .ok (.lcmp, 1) := by decide +kernel
theorem dX5_guestNamed_18 : decode cX5_guestNamed 18 = .ok (.ifCond .ne 5, 3) := by decide +kernel
theorem dX5_guestNamed_21 : decode cX5_guestNamed 21 = .ok (.iload_n 3, 1) := by decide +kernel
theorem dX5_guestNamed_22 : decode cX5_guestNamed 22 = .ok (.ireturn, 1) := by decide +kernel
theorem dX5_guestNamed_23 : decode cX5_guestNamed 23 = .ok (.iinc 3 1, 3) := by decide +kernel
theorem dX5_guestNamed_26 : decode cX5_guestNamed 26 = .ok (.goto (-24), 3) := by decide +kernel
theorem dX5_guestNamed_29 : decode cX5_guestNamed 29 = .ok (.iconst (-1), 1) := by decide +kernel
theorem dX5_guestNamed_30 : decode cX5_guestNamed 30 = .ok (.ireturn, 1) := by decide +kernel
theorem dX5_isThere_0 : decode cX5_isThere 0 = .ok (.iload_n 1, 1) := by decide +kernel
theorem dX5_isThere_1 : decode cX5_isThere 1 = .ok (.ifCond .lt 26, 3) := by decide +kernel
theorem dX5_isThere_4 : decode cX5_isThere 4 = .ok (.iload_n 1, 1) := by decide +kernel
theorem dX5_isThere_5 : decode cX5_isThere 5 = .ok (.aload_n 0, 1) := by decide +kernel
theorem dX5_isThere_6 : decode cX5_isThere 6 = .ok (.getfield 40, 3) := by decide +kernel
theorem dX5_isThere_9 : decode cX5_isThere 9 = .ok (.if_icmp .ge 18, 3) := by decide +kernel
