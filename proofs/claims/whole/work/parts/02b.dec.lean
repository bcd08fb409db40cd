theorem dX5_isThere_12 : decode cX5_isThere 12 = .ok (.aload_n 0, 1) := by decide +kernel
theorem dX5_isThere_13 : decode cX5_isThere 13 = .ok (.getfield 65, 3) := by decide +kernel
theorem dX5_isThere_16 : decode cX5_isThere 16 = .ok (.iconst 1, 1) := by decide +kernel
theorem dX5_isThere_17 : decode cX5_isThere 17 = .ok (.iload_n 1, 1) := by decide +kernel
theorem dX5_isThere_18 : decode cX5_isThere 18 = .ok (.ishl, 1) := by decide +kernel
theorem dX5_isThere_19 : decode cX5_isThere 19 = .ok (.iand, 1) := by decide +kernel
theorem dX5_isThere_20 : decode cX5_isThere 20 = .ok (.ifCond .eq 7, 3) := by decide +kernel
theorem dX5_isThere_23 : decode cX5_isThere 23 = .ok (.iconst 1, 1) := by decide +kernel
theorem dX5_isThere_24 : decode cX5_isThere 24 = .ok (.goto 4, 3) := by decide +kernel
theorem dX5_isThere_27 : decode cX5_isThere 27 = .ok (.iconst 0, 1) := by decide +kernel
theorem dX5_isThere_28 : decode cX5_isThere 28 = .ok (.ireturn, 1) := by decide +kernel
theorem dX5_hungers_0 : decode cX5_hungers 0 = .ok (.aload_n 0, 1) := by decide +kernel
theorem dX5_hungers_1 : decode cX5_hungers 1 = .ok (.iload_n 1, 1) := by decide +kernel
theorem dX5_hungers_2 : decode cX5_hungers 2 = .ok (.invokevirtual 74, 3) := by decide +kernel
theorem dX5_hungers_5 : decode cX5_hungers 5 = .ok (.ifCond .eq 16, 3) := by decide +kernel
theorem dX5_hungers_8 : decode cX5_hungers 8 = .ok (.aload_n 0, 1) := by decide +kernel
theorem dX5_hungers_9 : decode cX5_hungers 9 = .ok (.getfield 28, 3) := by decide +kernel
theorem dX5_hungers_12 : decode cX5_hungers 12 = .ok (.iload_n 1, 1) := by decide +kernel
theorem dX5_hungers_13 : decode cX5_hungers 13 = .ok (.iaload, 1) := by decide +kernel
theorem dX5_hungers_14 : decode cX5_hungers 14 = .ok (.ifCond .le 7, 3) := by decide +kernel
theorem dX5_hungers_17 : decode cX5_hungers 17 = .ok (.iconst 1, 1) := by decide +kernel
theorem dX5_hungers_18 : decode cX5_hungers 18 = .ok (.goto 4, 3) := by decide +kernel
theorem dX5_hungers_21 : decode cX5_hungers 21 = .ok (.iconst 0, 1) := by decide +kernel
theorem dX5_hungers_22 : decode cX5_hungers 22 = .ok (.ireturn, 1) := by decide +kernel
theorem dX5_countThere_0 : decode cX5_countThere 0 = .ok (.aload_n 0, 1) := by decide +kernel
theorem dX5_countThere_1 : decode cX5_countThere 1 = .ok (.getfield 65, 3) := by decide +kernel
theorem dX5_countThere_4 : decode cX5_countThere 4 = .ok (.invokestatic 78, 3) := by decide +kernel
theorem dX5_countThere_7 : decode cX5_countThere 7 = .ok (.ireturn, 1) := by decide +kernel
theorem dX5_hungrySet_0 : decode cX5_hungrySet 0 = .ok (.iconst 0, 1) := by decide +kernel
theorem dX5_hungrySet_1 : decode cX5_hungrySet 1 = .ok (.istore_n 1, 1) := by decide +kernel
theorem dX5_hungrySet_2 : decode cX5_hungrySet 2 = .ok (.iconst 0, 1) := by decide +kernel
theorem dX5_hungrySet_3 : decode cX5_hungrySet 3 = .ok (.istore_n 2, 1) := by decide +kernel
theorem dX5_hungrySet_4 : decode cX5_hungrySet 4 = .ok (.iload_n 2, 1) := by decide +kernel
theorem dX5_hungrySet_5 : decode cX5_hungrySet 5 = .ok (.aload_n 0, 1) := by decide +kernel
theorem dX5_hungrySet_6 : decode cX5_hungrySet 6 = .ok (.getfield 40, 3) := by decide +kernel
theorem dX5_hungrySet_9 : decode cX5_hungrySet 9 = .ok (.if_icmp .ge 23, 3) := by decide +kernel
theorem dX5_hungrySet_12 : decode cX5_hungrySet 12 = .ok (.aload_n 0, 1) := by decide +kernel
theorem dX5_hungrySet_13 : decode cX5_hungrySet 13 = .ok (.iload_n 2, 1) := by decide +kernel
theorem dX5_hungrySet_14 : decode cX5_hungrySet 14 = .ok (.invokevirtual 84, 3) := by decide +kernel
theorem dX5_hungrySet_17 : decode cX5_hungrySet 17 = .ok (.ifCond .eq 9, 3) := by decide +kernel
theorem dX5_hungrySet_20 : decode cX5_hungrySet 20 = .ok (.iload_n 1, 1) := by decide +kernel
theorem dX5_hungrySet_21 : decode cX5_hungrySet 21 = .ok (.iconst 1, 1) := by decide +kernel
theorem dX5_hungrySet_22 : decode cX5_hungrySet 22 = .ok (.iload_n 2, 1) := by decide +kernel
theorem dX5_hungrySet_23 : decode cX5_hungrySet 23 = .ok (.ishl, 1) := by decide +kernel
theorem dX5_hungrySet_24 : decode cX5_hungrySet 24 = .ok (.ior, 1) := by decide +kernel
theorem dX5_hungrySet_25 : decode cX5_hungrySet 25 = .ok (.istore_n 1, 1) := by decide +kernel
theorem dX5_hungrySet_26 : decode cX5_hungrySet 26 = .ok (.iinc 2 1, 3) := by decide +kernel
theorem dX5_hungrySet_29 : decode cX5_hungrySet 29 = .ok (.goto (-25), 3) := by decide +kernel
theorem dX5_hungrySet_32 : decode cX5_hungrySet 32 = .ok (.iload_n 1, 1) := by decide +kernel
theorem dX5_hungrySet_33 : decode cX5_hungrySet 33 = .ok (.ireturn, 1) := by decide +kernel
theorem dX5_starvedSet_0 : decode cX5_starvedSet 0 = .ok (.iconst 0, 1) := by decide +kernel
theorem dX5_starvedSet_1 : decode cX5_starvedSet 1 = .ok (.istore_n 1, 1) := by decide +kernel
theorem dX5_starvedSet_2 : decode cX5_starvedSet 2 = .ok (.iconst 0, 1) := by decide +kernel
theorem dX5_starvedSet_3 : decode cX5_starvedSet 3 = .ok (.istore_n 2, 1) := by decide +kernel
theorem dX5_starvedSet_4 : decode cX5_starvedSet 4 = .ok (.iload_n 2, 1) := by decide +kernel
theorem dX5_starvedSet_5 : decode cX5_starvedSet 5 = .ok (.aload_n 0, 1) := by decide +kernel
theorem dX5_starvedSet_6 : decode cX5_starvedSet 6 = .ok (.getfield 40, 3) := by decide +kernel
theorem dX5_starvedSet_9 : decode cX5_starvedSet 9 = .ok (.if_icmp .ge 38, 3) := by decide +kernel
theorem dX5_starvedSet_12 : decode cX5_starvedSet 12 = .ok (.aload_n 0, 1) := by decide +kernel
theorem dX5_starvedSet_13 : decode cX5_starvedSet 13 = .ok (.iload_n 2, 1) := by decide +kernel
theorem dX5_starvedSet_14 : decode cX5_starvedSet 14 = .ok (.invokevirtual 74, 3) := by decide +kernel
theorem dX5_starvedSet_17 : decode cX5_starvedSet 17 = .ok (.ifCond .eq 24, 3) := by decide +kernel
theorem dX5_starvedSet_20 : decode cX5_starvedSet 20 = .ok (.aload_n 0, 1) := by decide +kernel
theorem dX5_starvedSet_21 : decode cX5_starvedSet 21 = .ok (.getfield 28, 3) := by decide +kernel
theorem dX5_starvedSet_24 : decode cX5_starvedSet 24 = .ok (.iload_n 2, 1) := by decide +kernel
theorem dX5_starvedSet_25 : decode cX5_starvedSet 25 = .ok (.iaload, 1) := by decide +kernel
theorem dX5_starvedSet_26 : decode cX5_starvedSet 26 = .ok (.aload_n 0, 1) := by decide +kernel
theorem dX5_starvedSet_27 : decode cX5_starvedSet 27 = .ok (.getfield 19, 3) := by decide +kernel
theorem dX5_starvedSet_30 : decode cX5_starvedSet 30 = .ok (.iload_n 2, 1) := by decide +kernel
theorem dX5_starvedSet_31 : decode cX5_starvedSet 31 = .ok (.iaload, 1) := by decide +kernel
theorem dX5_starvedSet_32 : decode cX5_starvedSet 32 = .ok (.if_icmp .le 9, 3) := by decide +kernel
theorem dX5_starvedSet_35 : decode cX5_starvedSet 35 = .ok (.iload_n 1, 1) := by decide +kernel
theorem dX5_starvedSet_36 : decode cX5_starvedSet 36 = .ok (.iconst 1, 1) := by decide +kernel
theorem dX5_starvedSet_37 : decode cX5_starvedSet 37 = .ok (.iload_n 2, 1) := by decide +kernel
theorem dX5_starvedSet_38 : decode cX5_starvedSet 38 = .ok (.ishl, 1) := by decide +kernel
theorem dX5_starvedSet_39 : decode cX5_starvedSet 39 = .ok (.ior, 1) := by decide +kernel
theorem dX5_starvedSet_40 : decode cX5_starvedSet 40 = .ok (.istore_n 1, 1) := by decide +kernel
theorem dX5_starvedSet_41 : decode cX5_starvedSet 41 = .ok (.iinc 2 1, 3) := by decide +kernel
theorem dX5_starvedSet_44 : decode cX5_starvedSet 44 = .ok (.goto (-40), 3) := by decide +kernel
theorem dX5_starvedSet_47 : decode cX5_starvedSet 47 = .ok (.iload_n 1, 1) := by decide +kernel
theorem dX5_starvedSet_48 : decode cX5_starvedSet 48 = .ok (.ireturn, 1) := by decide +kernel
theorem dX5_passingSet_0 : decode cX5_passingSet 0 = .ok (.iconst 0, 1) := by decide +kernel
theorem dX5_passingSet_1 : decode cX5_passingSet 1 = .ok (.istore_n 2, 1) := by decide +kernel
theorem dX5_passingSet_2 : decode cX5_passingSet 2 = .ok (.iconst 0, 1) := by decide +kernel
theorem dX5_passingSet_3 : decode cX5_passingSet 3 = .ok (.istore_n 3, 1) := by decide +kernel
theorem dX5_passingSet_4 : decode cX5_passingSet 4 = .ok (.iload_n 3, 1) := by decide +kernel
theorem dX5_passingSet_5 : decode cX5_passingSet 5 = .ok (.aload_n 0, 1) := by decide +kernel
theorem dX5_passingSet_6 : decode cX5_passingSet 6 = .ok (.getfield 40, 3) := by decide +kernel
theorem dX5_passingSet_9 : decode cX5_passingSet 9 = .ok (.if_icmp .ge 33, 3) := by decide +kernel
theorem dX5_passingSet_12 : decode cX5_passingSet 12 = .ok (.aload_n 0, 1) := by decide +kernel
theorem dX5_passingSet_13 : decode cX5_passingSet 13 = .ok (.iload_n 3, 1) := by decide +kernel
theorem dX5_passingSet_14 : decode cX5_passingSet 14 = .ok (.invokevirtual 74, 3) := by decide +kernel
theorem dX5_passingSet_17 : decode cX5_passingSet 17 = .ok (.ifCond .eq 19, 3) := by decide +kernel
theorem dX5_passingSet_20 : decode cX5_passingSet 20 = .ok (.aload_n 0, 1) := by decide +kernel
theorem dX5_passingSet_21 : decode cX5_passingSet 21 = .ok (.getfield 31, 3) := by decide +kernel
theorem dX5_passingSet_24 : decode cX5_passingSet 24 = .ok (.iload_n 3, 1) := by decide +kernel
theorem dX5_passingSet_25 : decode cX5_passingSet 25 = .ok (.iaload, 1) := by decide +kernel
theorem dX5_passingSet_26 : decode cX5_passingSet 26 = .ok (.iload_n 1, 1) := by decide +kernel
theorem dX5_passingSet_27 : decode cX5_passingSet 27 = .ok (.if_icmp .ne 9, 3) := by decide +kernel
theorem dX5_passingSet_30 : decode cX5_passingSet 30 = .ok (.iload_n 2, 1) := by decide +kernel
theorem dX5_passingSet_31 : decode cX5_passingSet 31 = .ok (.iconst 1, 1) := by decide +kernel
theorem dX5_passingSet_32 : decode cX5_passingSet 32 = .ok (.iload_n 3, 1) := by decide +kernel
theorem dX5_passingSet_33 : decode cX5_passingSet 33 = .ok (.ishl, 1) := by decide +kernel
theorem dX5_passingSet_34 : decode cX5_passingSet 34 = .ok (.ior, 1) := by decide +kernel
theorem dX5_passingSet_35 : decode cX5_passingSet 35 = .ok (.istore_n 2, 1) := by decide +kernel
theorem dX5_passingSet_36 : decode cX5_passingSet 36 = .ok (.iinc 3 1, 3) := by decide +kernel
theorem dX5_passingSet_39 : decode cX5_passingSet 39 = .ok (.goto (-35), 3) := by decide +kernel
theorem dX5_passingSet_42 : decode cX5_passingSet 42 = .ok (.iload_n 2, 1) := by decide +kernel
theorem dX5_passingSet_43 : decode cX5_passingSet 43 = .ok (.ireturn, 1) := by decide +kernel
theorem dX5_dearThere_0 : decode cX5_dearThere 0 = .ok (.iconst 0, 1) := by decide +kernel
theorem dX5_dearThere_1 : decode cX5_dearThere 1 = .ok (.istore_n 1, 1) := by decide +kernel
theorem dX5_dearThere_2 : decode cX5_dearThere 2 = .ok (.iconst 0, 1) := by decide +kernel
theorem dX5_dearThere_3 : decode cX5_dearThere 3 = .ok (.istore_n 2, 1) := by decide +kernel
theorem dX5_dearThere_4 : decode cX5_dearThere 4 = .ok (.iload_n 2, 1) := by decide +kernel
theorem dX5_dearThere_5 : decode cX5_dearThere 5 = .ok (.aload_n 0, 1) := by decide +kernel
theorem dX5_dearThere_6 : decode cX5_dearThere 6 = .ok (.getfield 40, 3) := by decide +kernel
theorem dX5_dearThere_9 : decode cX5_dearThere 9 = .ok (.if_icmp .ge 26, 3) := by decide +kernel
theorem dX5_dearThere_12 : decode cX5_dearThere 12 = .ok (.aload_n 0, 1) := by decide +kernel
theorem dX5_dearThere_13 : decode cX5_dearThere 13 = .ok (.iload_n 2, 1) := by decide +kernel
theorem dX5_dearThere_14 : decode cX5_dearThere 14 = .ok (.invokevirtual 74, 3) := by decide +kernel
theorem dX5_dearThere_17 : decode cX5_dearThere 17 = .ok (.ifCond .eq 12, 3) := by decide +kernel
theorem dX5_dearThere_20 : decode cX5_dearThere 20 = .ok (.iload_n 1, 1) := by decide +kernel
theorem dX5_dearThere_21 : decode cX5_dearThere 21 = .ok (.aload_n 0, 1) := by decide +kernel
theorem dX5_dearThere_22 : decode cX5_dearThere 22 = .ok (.getfield 22, 3) := by decide +kernel
theorem dX5_dearThere_25 : decode cX5_dearThere 25 = .ok (.iload_n 2, 1) := by decide +kernel
theorem dX5_dearThere_26 : decode cX5_dearThere 26 = .ok (.iaload, 1) := by decide +kernel
theorem dX5_dearThere_27 : decode cX5_dearThere 27 = .ok (.iadd, 1) := by decide +kernel
theorem dX5_dearThere_28 : decode cX5_dearThere 28 = .ok (.istore_n 1, 1) := by decide +kernel
theorem dX5_dearThere_29 : decode cX5_dearThere 29 = .ok (.iinc 2 1, 3) := by decide +kernel
theorem dX5_dearThere_32 : decode cX5_dearThere 32 = .ok (.goto (-28), 3) := by decide +kernel
theorem dX5_dearThere_35 : decode cX5_dearThere 35 = .ok (.iload_n 1, 1) := by decide +kernel
theorem dX5_dearThere_36 : decode cX5_dearThere 36 = .ok (.ireturn, 1) := by decide +kernel
theorem dX5_mostPassed_0 : decode cX5_mostPassed 0 = .ok (.iconst (-1), 1) := by decide +kernel
theorem dX5_mostPassed_1 : decode cX5_mostPassed 1 = .ok (.istore_n 1, 1) := by decide +kernel
theorem dX5_mostPassed_2 : decode cX5_mostPassed 2 = .ok (.iconst 0, 1) := by decide +kernel
theorem dX5_mostPassed_3 : decode cX5_mostPassed 3 = .ok (.istore_n 2, 1) := by decide +kernel
theorem dX5_mostPassed_4 : decode cX5_mostPassed 4 = .ok (.iconst 0, 1) := by decide +kernel
theorem dX5_mostPassed_5 : decode cX5_mostPassed 5 = .ok (.istore_n 3, 1) := by decide +kernel
theorem dX5_mostPassed_6 : decode cX5_mostPassed 6 = .ok (.iload_n 3, 1) := by decide +kernel
theorem dX5_mostPassed_7 : decode cX5_mostPassed 7 = .ok (.aload_n 0, 1) := by decide +kernel
theorem dX5_mostPassed_8 : decode cX5_mostPassed 8 = .ok (.getfield 40, 3) := by decide +kernel
theorem dX5_mostPassed_11 : decode cX5_mostPassed 11 = .ok (.if_icmp .ge 38, 3) := by decide +kernel
theorem dX5_mostPassed_14 : decode cX5_mostPassed 14 = .ok (.aload_n 0, 1) := by decide +kernel
theorem dX5_mostPassed_15 : decode cX5_mostPassed 15 = .ok (.iload_n 3, 1) := by decide +kernel
theorem dX5_mostPassed_16 : decode cX5_mostPassed 16 = .ok (.invokevirtual 87, 3) := by decide +kernel
theorem dX5_mostPassed_19 : decode cX5_mostPassed 19 = .ok (.invokestatic 78, 3) := by decide +kernel
theorem dX5_mostPassed_22 : decode cX5_mostPassed 22 = .ok (.istore 4, 2) := by decide +kernel
theorem dX5_mostPassed_24 : decode cX5_mostPassed 24 = .ok (.aload_n 0, 1) := by decide +kernel
theorem dX5_mostPassed_25 : decode cX5_mostPassed 25 = .ok (.iload_n 3, 1) := by decide +kernel
theorem dX5_mostPassed_26 : decode cX5_mostPassed 26 = .ok (.invokevirtual 74, 3) := by decide +kernel
theorem dX5_mostPassed_29 : decode cX5_mostPassed 29 = .ok (.ifCond .eq 14, 3) := by decide +kernel
theorem dX5_mostPassed_32 : decode cX5_mostPassed 32 = .ok (.iload 4, 2) := by decide +kernel
theorem dX5_mostPassed_34 : decode cX5_mostPassed 34 = .ok (.iload_n 2, 1) := by decide +kernel
theorem dX5_mostPassed_35 : decode cX5_mostPassed 35 = .ok (.if_icmp .le 8, 3) := by decide +kernel
theorem dX5_mostPassed_38 : decode cX5_mostPassed 38 = .ok (.iload_n 3, 1) := by decide +kernel
theorem dX5_mostPassed_39 : decode cX5_mostPassed 39 = .ok (.istore_n 1, 1) := by decide +kernel
theorem dX5_mostPassed_40 : decode cX5_mostPassed 40 = .ok (.iload 4, 2) := by decide +kernel
theorem dX5_mostPassed_42 : decode cX5_mostPassed 42 = .ok (.istore_n 2, 1) := by decide +kernel
theorem dX5_mostPassed_43 : decode cX5_mostPassed 43 = .ok (.iinc 3 1, 3) := by decide +kernel
theorem dX5_mostPassed_46 : decode cX5_mostPassed 46 = .ok (.goto (-40), 3) := by decide +kernel
theorem dX5_mostPassed_49 : decode cX5_mostPassed 49 = .ok (.iload_n 1, 1) := by decide +kernel
theorem dX5_mostPassed_50 : decode cX5_mostPassed 50 = .ok (.ireturn, 1) := by decide +kernel
theorem dX5_firstCutter_0 : decode cX5_firstCutter 0 = .ok (.aload_n 0, 1) := by decide +kernel
theorem dX5_firstCutter_1 : decode cX5_firstCutter 1 = .ok (.getfield 56, 3) := by decide +kernel
theorem dX5_firstCutter_4 : decode cX5_firstCutter 4 = .ok (.ifCond .le 5, 3) := by decide +kernel
theorem dX5_firstCutter_7 : decode cX5_firstCutter 7 = .ok (.iconst (-1), 1) := by decide +kernel
theorem dX5_firstCutter_8 : decode cX5_firstCutter 8 = .ok (.ireturn, 1) := by decide +kernel
theorem dX5_firstCutter_9 : decode cX5_firstCutter 9 = .ok (.iconst (-1), 1) := by decide +kernel
theorem dX5_firstCutter_10 : decode cX5_firstCutter 10 = .ok (.istore_n 1, 1) := by decide +kernel
theorem dX5_firstCutter_11 : decode cX5_firstCutter 11 = .ok (.aload_n 0, 1) := by decide +kernel
theorem dX5_firstCutter_12 : decode cX5_firstCutter 12 = .ok (.getfield 47, 3) := by decide +kernel
theorem dX5_firstCutter_15 : decode cX5_firstCutter 15 = .ok (.iconst 1, 1) := by decide +kernel
theorem dX5_firstCutter_16 : decode cX5_firstCutter 16 = .ok (.isub, 1) := by decide +kernel
theorem dX5_firstCutter_17 : decode cX5_firstCutter 17 = .ok (.istore_n 2, 1) := by decide +kernel
theorem dX5_firstCutter_18 : decode cX5_firstCutter 18 = .ok (.iconst 0, 1) := by decide +kernel
theorem dX5_firstCutter_19 : decode cX5_firstCutter 19 = .ok (.istore_n 3, 1) := by decide +kernel
theorem dX5_firstCutter_20 : decode cX5_firstCutter 20 = .ok (.iload_n 3, 1) := by decide +kernel
theorem dX5_firstCutter_21 : decode cX5_firstCutter 21 = .ok (.aload_n 0, 1) := by decide +kernel
theorem dX5_firstCutter_22 : decode cX5_firstCutter 22 = .ok (.getfield 40, 3) := by decide +kernel
theorem dX5_firstCutter_25 : decode cX5_firstCutter 25 = .ok (.if_icmp .ge 36, 3) := by decide +kernel
theorem dX5_firstCutter_28 : decode cX5_firstCutter 28 = .ok (.aload_n 0, 1) := by decide +kernel
theorem dX5_firstCutter_29 : decode cX5_firstCutter 29 = .ok (.iload_n 3, 1) := by decide +kernel
theorem dX5_firstCutter_30 : decode cX5_firstCutter 30 = .ok (.invokevirtual 74, 3) := by decide +kernel
theorem dX5_firstCutter_33 : decode cX5_firstCutter 33 = .ok (.ifCond .eq 22, 3) := by decide +kernel
theorem dX5_firstCutter_36 : decode cX5_firstCutter 36 = .ok (.aload_n 0, 1) := by decide +kernel
theorem dX5_firstCutter_37 : decode cX5_firstCutter 37 = .ok (.getfield 15, 3) := by decide +kernel
theorem dX5_firstCutter_40 : decode cX5_firstCutter 40 = .ok (.iload_n 3, 1) := by decide +kernel
theorem dX5_firstCutter_41 : decode cX5_firstCutter 41 = .ok (.iaload, 1) := by decide +kernel
theorem dX5_firstCutter_42 : decode cX5_firstCutter 42 = .ok (.iload_n 2, 1) := by decide +kernel
theorem dX5_firstCutter_43 : decode cX5_firstCutter 43 = .ok (.if_icmp .le 12, 3) := by decide +kernel
theorem dX5_firstCutter_46 : decode cX5_firstCutter 46 = .ok (.iload_n 3, 1) := by decide +kernel
theorem dX5_firstCutter_47 : decode cX5_firstCutter 47 = .ok (.istore_n 1, 1) := by decide +kernel
theorem dX5_firstCutter_48 : decode cX5_firstCutter 48 = .ok (.aload_n 0, 1) := by decide +kernel
theorem dX5_firstCutter_49 : decode cX5_firstCutter 49 = .ok (.getfield 15, 3) := by decide +kernel
theorem dX5_firstCutter_52 : decode cX5_firstCutter 52 = .ok (.iload_n 3, 1) := by decide +kernel
theorem dX5_firstCutter_53 : decode cX5_firstCutter 53 = .ok (.iaload, 1) := by decide +kernel
theorem dX5_firstCutter_54 : decode cX5_firstCutter 54 = .ok (.istore_n 2, 1) := by decide +kernel
theorem dX5_firstCutter_55 : decode cX5_firstCutter 55 = .ok (.iinc 3 1, 3) := by decide +kernel
theorem dX5_firstCutter_58 : decode cX5_firstCutter 58 = .ok (.goto (-38), 3) := by decide +kernel
theorem dX5_firstCutter_61 : decode cX5_firstCutter 61 = .ok (.iload_n 1, 1) := by decide +kernel
theorem dX5_firstCutter_62 : decode cX5_firstCutter 62 = .ok (.ireturn, 1) := by decide +kernel
theorem dX5_cutBy_0 : decode cX5_cutBy 0 = .ok (.aload_n 0, 1) := by decide +kernel
theorem dX5_cutBy_1 : decode cX5_cutBy 1 = .ok (.iload_n 1, 1) := by decide +kernel
theorem dX5_cutBy_2 : decode cX5_cutBy 2 = .ok (.invokevirtual 74, 3) := by decide +kernel
theorem dX5_cutBy_5 : decode cX5_cutBy 5 = .ok (.ifCond .eq 10, 3) := by decide +kernel
theorem dX5_cutBy_8 : decode cX5_cutBy 8 = .ok (.aload_n 0, 1) := by decide +kernel
theorem dX5_cutBy_9 : decode cX5_cutBy 9 = .ok (.getfield 56, 3) := by decide +kernel
theorem dX5_cutBy_12 : decode cX5_cutBy 12 = .ok (.ifCond .le 5, 3) := by decide +kernel
theorem dX5_cutBy_15 : decode cX5_cutBy 15 = .ok (.iconst 0, 1) := by decide +kernel
theorem dX5_cutBy_16 : decode cX5_cutBy 16 = .ok (.ireturn, 1) := by decide +kernel
theorem dX5_cutBy_17 : decode cX5_cutBy 17 = .ok (.aload_n 0, 1) := by decide +kernel
theorem dX5_cutBy_18 : decode cX5_cutBy 18 = .ok (.aload_n 0, 1) := by decide +kernel
theorem dX5_cutBy_19 : decode cX5_cutBy 19 = .ok (.getfield 25, 3) := by decide +kernel
theorem dX5_cutBy_22 : decode cX5_cutBy 22 = .ok (.iload_n 1, 1) := by decide +kernel
theorem dX5_cutBy_23 : decode cX5_cutBy 23 = .ok (.iaload, 1) := by decide +kernel
theorem dX5_cutBy_24 : decode cX5_cutBy 24 = .ok (.iconst 2, 1) := by decide +kernel
theorem dX5_cutBy_25 : decode cX5_cutBy 25 = .ok (.if_icmp .ne 14, 3) := by decide +kernel
theorem dX5_cutBy_28 : decode cX5_cutBy 28 = .ok (.aload_n 0, 1) := by decide +kernel
theorem dX5_cutBy_29 : decode cX5_cutBy 29 = .ok (.getfield 53, 3) := by decide +kernel
theorem dX5_cutBy_32 : decode cX5_cutBy 32 = .ok (.iconst 1, 1) := by decide +kernel
theorem dX5_cutBy_33 : decode cX5_cutBy 33 = .ok (.iadd, 1) := by decide +kernel
theorem dX5_cutBy_34 : decode cX5_cutBy 34 = .ok (.iconst 2, 1) := by decide +kernel
theorem dX5_cutBy_35 : decode cX5_cutBy 35 = .ok (.idiv, 1) := by decide +kernel
theorem dX5_cutBy_36 : decode cX5_cutBy 36 = .ok (.goto 7, 3) := by decide +kernel
theorem dX5_cutBy_39 : decode cX5_cutBy 39 = .ok (.aload_n 0, 1) := by decide +kernel
theorem dX5_cutBy_40 : decode cX5_cutBy 40 = .ok (.getfield 53, 3) := by decide +kernel
theorem dX5_cutBy_43 : decode cX5_cutBy 43 = .ok (.putfield 56, 3) := by decide +kernel
theorem dX5_cutBy_46 : decode cX5_cutBy 46 = .ok (.aload_n 0, 1) := by decide +kernel
theorem dX5_cutBy_47 : decode cX5_cutBy 47 = .ok (.dup, 1) := by decide +kernel
theorem dX5_cutBy_48 : decode cX5_cutBy 48 = .ok (.getfield 62, 3) := by decide +kernel
theorem dX5_cutBy_51 : decode cX5_cutBy 51 = .ok (.iconst 1, 1) := by decide +kernel
theorem dX5_cutBy_52 : decode cX5_cutBy 52 = .ok (.iadd, 1) := by decide +kernel
theorem dX5_cutBy_53 : decode cX5_cutBy 53 = .ok (.putfield 62, 3) := by decide +kernel
theorem dX5_cutBy_56 : decode cX5_cutBy 56 = .ok (.aload_n 0, 1) := by decide +kernel
theorem dX5_cutBy_57 : decode cX5_cutBy 57 = .ok (.getfield 25, 3) := by decide +kernel
theorem dX5_cutBy_60 : decode cX5_cutBy 60 = .ok (.iload_n 1, 1) := by decide +kernel
theorem dX5_cutBy_61 : decode cX5_cutBy 61 = .ok (.iaload, 1) := by decide +kernel
theorem dX5_cutBy_62 : decode cX5_cutBy 62 = .ok (.iconst 1, 1) := by decide +kernel
theorem dX5_cutBy_63 : decode cX5_cutBy 63 = .ok (.if_icmp .ne 13, 3) := by decide +kernel
theorem dX5_cutBy_66 : decode cX5_cutBy 66 = .ok (.aload_n 0, 1) := by decide +kernel
theorem dX5_cutBy_67 : decode cX5_cutBy 67 = .ok (.getfield 15, 3) := by decide +kernel
theorem dX5_cutBy_70 : decode cX5_cutBy 70 = .ok (.iload_n 1, 1) := by decide +kernel
theorem dX5_cutBy_71 : decode cX5_cutBy 71 = .ok (.iconst 0, 1) := by decide +kernel
theorem dX5_cutBy_72 : decode cX5_cutBy 72 = .ok (.iastore, 1) := by decide +kernel
theorem dX5_cutBy_73 : decode cX5_cutBy 73 = .ok (.goto 17, 3) := by decide +kernel
theorem dX5_cutBy_76 : decode cX5_cutBy 76 = .ok (.aload_n 0, 1) := by decide +kernel
theorem dX5_cutBy_77 : decode cX5_cutBy 77 = .ok (.dup, 1) := by decide +kernel
theorem dX5_cutBy_78 : decode cX5_cutBy 78 = .ok (.getfield 65, 3) := by decide +kernel
theorem dX5_cutBy_81 : decode cX5_cutBy 81 = .ok (.iconst 1, 1) := by decide +kernel
theorem dX5_cutBy_82 : decode cX5_cutBy 82 = .ok (.iload_n 1, 1) := by decide +kernel
theorem dX5_cutBy_83 : decode cX5_cutBy 83 = .ok (.ishl, 1) := by decide +kernel
theorem dX5_cutBy_84 : decode cX5_cutBy 84 = .ok (.iconst (-1), 1) := by decide +kernel
theorem dX5_cutBy_85 : decode cX5_cutBy 85 = .ok (.ixor, 1) := by decide +kernel
theorem dX5_cutBy_86 : decode cX5_cutBy 86 = .ok (.iand, 1) := by decide +kernel
theorem dX5_cutBy_87 : decode cX5_cutBy 87 = .ok (.putfield 65, 3) := by decide +kernel
theorem dX5_cutBy_90 : decode cX5_cutBy 90 = .ok (.iconst 1, 1) := by decide +kernel
theorem dX5_cutBy_91 : decode cX5_cutBy 91 = .ok (.ireturn, 1) := by decide +kernel
theorem dX5_mayPass_0 : decode cX5_mayPass 0 = .ok (.aload_n 0, 1) := by decide +kernel
theorem dX5_mayPass_1 : decode cX5_mayPass 1 = .ok (.getfield 59, 3) := by decide +kernel
theorem dX5_mayPass_4 : decode cX5_mayPass 4 = .ok (.iload_n 1, 1) := by decide +kernel
theorem dX5_mayPass_5 : decode cX5_mayPass 5 = .ok (.iadd, 1) := by decide +kernel
theorem dX5_mayPass_6 : decode cX5_mayPass 6 = .ok (.sipush 9999, 3) := by decide +kernel
theorem dX5_mayPass_9 : decode cX5_mayPass 9 = .ok (.if_icmp .gt 7, 3) := by decide +kernel
theorem dX5_mayPass_12 : decode cX5_mayPass 12 = .ok (.iconst 1, 1) := by decide +kernel
theorem dX5_mayPass_13 : decode cX5_mayPass 13 = .ok (.goto 4, 3) := by decide +kernel
theorem dX5_mayPass_16 : decode cX5_mayPass 16 = .ok (.iconst 0, 1) := by decide +kernel
theorem dX5_mayPass_17 : decode cX5_mayPass 17 = .ok (.ireturn, 1) := by decide +kernel
theorem dX5_passDays_0 : decode cX5_passDays 0 = .ok (.iconst 0, 1) := by decide +kernel
theorem dX5_passDays_1 : decode cX5_passDays 1 = .ok (.istore_n 2, 1) := by decide +kernel
theorem dX5_passDays_2 : decode cX5_passDays 2 = .ok (.iload_n 2, 1) := by decide +kernel
theorem dX5_passDays_3 : decode cX5_passDays 3 = .ok (.iload_n 1, 1) := by decide +kernel
theorem dX5_passDays_4 : decode cX5_passDays 4 = .ok (.if_icmp .ge 17, 3) := by decide +kernel
theorem dX5_passDays_7 : decode cX5_passDays 7 = .ok (.aload_n 0, 1) := by decide +kernel
theorem dX5_passDays_8 : decode cX5_passDays 8 = .ok (.aload_n 0, 1) := by decide +kernel
theorem dX5_passDays_9 : decode cX5_passDays 9 = .ok (.invokevirtual 90, 3) := by decide +kernel
theorem dX5_passDays_12 : decode cX5_passDays 12 = .ok (.invokevirtual 94, 3) := by decide +kernel
theorem dX5_passDays_15 : decode cX5_passDays 15 = .ok (.iinc 2 1, 3) := by decide +kernel
theorem dX5_passDays_18 : decode cX5_passDays 18 = .ok (.goto (-16), 3) := by decide +kernel
theorem dX5_passDays_21 : decode cX5_passDays 21 = .ok (.return_, 1) := by decide +kernel
theorem dX5_passDay_0 : decode cX5_passDay 0 = .ok (.aload_n 0, 1) := by decide +kernel
theorem dX5_passDay_1 : decode cX5_passDay 1 = .ok (.iload_n 1, 1) := by decide +kernel
theorem dX5_passDay_2 : decode cX5_passDay 2 = .ok (.invokevirtual 98, 3) := by decide +kernel
theorem dX5_passDay_5 : decode cX5_passDay 5 = .ok (.pop, 1) := by decide +kernel
theorem dX5_passDay_6 : decode cX5_passDay 6 = .ok (.aload_n 0, 1) := by decide +kernel
theorem dX5_passDay_7 : decode cX5_passDay 7 = .ok (.invokevirtual 101, 3) := by decide +kernel
theorem dX5_passDay_10 : decode cX5_passDay 10 = .ok (.aload_n 0, 1) := by decide +kernel
theorem dX5_passDay_11 : decode cX5_passDay 11 = .ok (.invokevirtual 104, 3) := by decide +kernel
theorem dX5_passDay_14 : decode cX5_passDay 14 = .ok (.aload_n 0, 1) := by decide +kernel
theorem dX5_passDay_15 : decode cX5_passDay 15 = .ok (.dup, 1) := by decide +kernel
theorem dX5_passDay_16 : decode cX5_passDay 16 = .ok (.getfield 59, 3) := by decide +kernel
theorem dX5_passDay_19 : decode cX5_passDay 19 = .ok (.iconst 1, 1) := by decide +kernel
theorem dX5_passDay_20 : decode cX5_passDay 20 = .ok (.iadd, 1) := by decide +kernel
theorem dX5_passDay_21 : decode cX5_passDay 21 = .ok (.putfield 59, 3) := by decide +kernel
theorem dX5_passDay_24 : decode cX5_passDay 24 = .ok (.return_, 1) := by decide +kernel
theorem dX5_eat_0 : decode cX5_eat 0 = .ok (.iconst 0, 1) := by decide +kernel
theorem dX5_eat_1 : decode cX5_eat 1 = .ok (.istore_n 1, 1) := by decide +kernel
theorem dX5_eat_2 : decode cX5_eat 2 = .ok (.iload_n 1, 1) := by decide +kernel
theorem dX5_eat_3 : decode cX5_eat 3 = .ok (.aload_n 0, 1) := by decide +kernel
theorem dX5_eat_4 : decode cX5_eat 4 = .ok (.getfield 40, 3) := by decide +kernel
theorem dX5_eat_7 : decode cX5_eat 7 = .ok (.if_icmp .ge 66, 3) := by decide +kernel
theorem dX5_eat_10 : decode cX5_eat 10 = .ok (.aload_n 0, 1) := by decide +kernel
theorem dX5_eat_11 : decode cX5_eat 11 = .ok (.iload_n 1, 1) := by decide +kernel
theorem dX5_eat_12 : decode cX5_eat 12 = .ok (.invokevirtual 74, 3) := by decide +kernel
theorem dX5_eat_15 : decode cX5_eat 15 = .ok (.ifCond .ne 6, 3) := by decide +kernel
theorem dX5_eat_18 : decode cX5_eat 18 = .ok (.goto 49, 3) := by decide +kernel
theorem dX5_eat_21 : decode cX5_eat 21 = .ok (.aload_n 0, 1) := by decide +kernel
theorem dX5_eat_22 : decode cX5_eat 22 = .ok (.getfield 56, 3) := by decide +kernel
theorem dX5_eat_25 : decode cX5_eat 25 = .ok (.ifCond .le 23, 3) := by decide +kernel
theorem dX5_eat_28 : decode cX5_eat 28 = .ok (.aload_n 0, 1) := by decide +kernel
theorem dX5_eat_29 : decode cX5_eat 29 = .ok (.dup, 1) := by decide +kernel
theorem dX5_eat_30 : decode cX5_eat 30 = .ok (.getfield 56, 3) := by decide +kernel
theorem dX5_eat_33 : decode cX5_eat 33 = .ok (.iconst 1, 1) := by decide +kernel
theorem dX5_eat_34 : decode cX5_eat 34 = .ok (.isub, 1) := by decide +kernel
theorem dX5_eat_35 : decode cX5_eat 35 = .ok (.putfield 56, 3) := by decide +kernel
theorem dX5_eat_38 : decode cX5_eat 38 = .ok (.aload_n 0, 1) := by decide +kernel
theorem dX5_eat_39 : decode cX5_eat 39 = .ok (.getfield 28, 3) := by decide +kernel
theorem dX5_eat_42 : decode cX5_eat 42 = .ok (.iload_n 1, 1) := by decide +kernel
theorem dX5_eat_43 : decode cX5_eat 43 = .ok (.iconst 0, 1) := by decide +kernel
theorem dX5_eat_44 : decode cX5_eat 44 = .ok (.iastore, 1) := by decide +kernel
theorem dX5_eat_45 : decode cX5_eat 45 = .ok (.goto 22, 3) := by decide +kernel
theorem dX5_eat_48 : decode cX5_eat 48 = .ok (.aload_n 0, 1) := by decide +kernel
theorem dX5_eat_49 : decode cX5_eat 49 = .ok (.getfield 28, 3) := by decide +kernel
theorem dX5_eat_52 : decode cX5_eat 52 = .ok (.iload_n 1, 1) := by decide +kernel
theorem dX5_eat_53 : decode cX5_eat 53 = .ok (.bipush 99, 2) := by decide +kernel
theorem dX5_eat_55 : decode cX5_eat 55 = .ok (.aload_n 0, 1) := by decide +kernel
theorem dX5_eat_56 : decode cX5_eat 56 = .ok (.getfield 28, 3) := by decide +kernel
theorem dX5_eat_59 : decode cX5_eat 59 = .ok (.iload_n 1, 1) := by decide +kernel
theorem dX5_eat_60 : decode cX5_eat 60 = .ok (.iaload, 1) := by decide +kernel
theorem dX5_eat_61 : decode cX5_eat 61 = .ok (.iconst 1, 1) := by decide +kernel
theorem dX5_eat_62 : decode cX5_eat 62 = .ok (.iadd, 1) := by decide +kernel
theorem dX5_eat_63 : decode cX5_eat 63 = .ok (.invokestatic 107, 3) := by decide +kernel
theorem dX5_eat_66 : decode cX5_eat 66 = .ok (.iastore, 1) := by decide +kernel
theorem dX5_eat_67 : decode cX5_eat 67 = .ok (.iinc 1 1, 3) := by decide +kernel
theorem dX5_eat_70 : decode cX5_eat 70 = .ok (.goto (-68), 3) := by decide +kernel
theorem dX5_eat_73 : decode cX5_eat 73 = .ok (.return_, 1) := by decide +kernel
theorem dX5_yearn_0 : decode cX5_yearn 0 = .ok (.iconst 0, 1) := by decide +kernel
theorem dX5_yearn_1 : decode cX5_yearn 1 = .ok (.istore_n 1, 1) := by decide +kernel
theorem dX5_yearn_2 : decode cX5_yearn 2 = .ok (.iload_n 1, 1) := by decide +kernel
theorem dX5_yearn_3 : decode cX5_yearn 3 = .ok (.aload_n 0, 1) := by decide +kernel
theorem dX5_yearn_4 : decode cX5_yearn 4 = .ok (.getfield 40, 3) := by decide +kernel
theorem dX5_yearn_7 : decode cX5_yearn 7 = .ok (.if_icmp .ge 16, 3) := by decide +kernel
theorem dX5_yearn_10 : decode cX5_yearn 10 = .ok (.aload_n 0, 1) := by decide +kernel
theorem dX5_yearn_11 : decode cX5_yearn 11 = .ok (.getfield 34, 3) := by decide +kernel
theorem dX5_yearn_14 : decode cX5_yearn 14 = .ok (.iload_n 1, 1) := by decide +kernel
theorem dX5_yearn_15 : decode cX5_yearn 15 = .ok (.iconst 0, 1) := by decide +kernel
theorem dX5_yearn_16 : decode cX5_yearn 16 = .ok (.iastore, 1) := by decide +kernel
theorem dX5_yearn_17 : decode cX5_yearn 17 = .ok (.iinc 1 1, 3) := by decide +kernel
theorem dX5_yearn_20 : decode cX5_yearn 20 = .ok (.goto (-18), 3) := by decide +kernel
theorem dX5_yearn_23 : decode cX5_yearn 23 = .ok (.iconst 0, 1) := by decide +kernel
theorem dX5_yearn_24 : decode cX5_yearn 24 = .ok (.istore_n 1, 1) := by decide +kernel
theorem dX5_yearn_25 : decode cX5_yearn 25 = .ok (.iload_n 1, 1) := by decide +kernel
theorem dX5_yearn_26 : decode cX5_yearn 26 = .ok (.aload_n 0, 1) := by decide +kernel
theorem dX5_yearn_27 : decode cX5_yearn 27 = .ok (.getfield 40, 3) := by decide +kernel
theorem dX5_yearn_30 : decode cX5_yearn 30 = .ok (.if_icmp .ge 45, 3) := by decide +kernel
theorem dX5_yearn_33 : decode cX5_yearn 33 = .ok (.aload_n 0, 1) := by decide +kernel
theorem dX5_yearn_34 : decode cX5_yearn 34 = .ok (.iload_n 1, 1) := by decide +kernel
theorem dX5_yearn_35 : decode cX5_yearn 35 = .ok (.invokevirtual 74, 3) := by decide +kernel
theorem dX5_yearn_38 : decode cX5_yearn 38 = .ok (.ifCond .eq 31, 3) := by decide +kernel
theorem dX5_yearn_41 : decode cX5_yearn 41 = .ok (.aload_n 0, 1) := by decide +kernel
theorem dX5_yearn_42 : decode cX5_yearn 42 = .ok (.aload_n 0, 1) := by decide +kernel
theorem dX5_yearn_43 : decode cX5_yearn 43 = .ok (.getfield 31, 3) := by decide +kernel
theorem dX5_yearn_46 : decode cX5_yearn 46 = .ok (.iload_n 1, 1) := by decide +kernel
theorem dX5_yearn_47 : decode cX5_yearn 47 = .ok (.iaload, 1) := by decide +kernel
theorem dX5_yearn_48 : decode cX5_yearn 48 = .ok (.invokevirtual 113, 3) := by decide +kernel
theorem dX5_yearn_51 : decode cX5_yearn 51 = .ok (.ifCond .eq 18, 3) := by decide +kernel
theorem dX5_yearn_54 : decode cX5_yearn 54 = .ok (.aload_n 0, 1) := by decide +kernel
theorem dX5_yearn_55 : decode cX5_yearn 55 = .ok (.getfield 34, 3) := by decide +kernel
theorem dX5_yearn_58 : decode cX5_yearn 58 = .ok (.aload_n 0, 1) := by decide +kernel
theorem dX5_yearn_59 : decode cX5_yearn 59 = .ok (.getfield 31, 3) := by decide +kernel
theorem dX5_yearn_62 : decode cX5_yearn 62 = .ok (.iload_n 1, 1) := by decide +kernel
theorem dX5_yearn_63 : decode cX5_yearn 63 = .ok (.iaload, 1) := by decide +kernel
theorem dX5_yearn_64 : decode cX5_yearn 64 = .ok (.dup2, 1) := by decide +kernel
theorem dX5_yearn_65 : decode cX5_yearn 65 = .ok (.iaload, 1) := by decide +kernel
theorem dX5_yearn_66 : decode cX5_yearn 66 = .ok (.iconst 1, 1) := by decide +kernel
theorem dX5_yearn_67 : decode cX5_yearn 67 = .ok (.iadd, 1) := by decide +kernel
theorem dX5_yearn_68 : decode cX5_yearn 68 = .ok (.iastore, 1) := by decide +kernel
theorem dX5_yearn_69 : decode cX5_yearn 69 = .ok (.iinc 1 1, 3) := by decide +kernel
theorem dX5_yearn_72 : decode cX5_yearn 72 = .ok (.goto (-47), 3) := by decide +kernel
theorem dX5_yearn_75 : decode cX5_yearn 75 = .ok (.iconst 0, 1) := by decide +kernel
theorem dX5_yearn_76 : decode cX5_yearn 76 = .ok (.istore_n 1, 1) := by decide +kernel
theorem dX5_yearn_77 : decode cX5_yearn 77 = .ok (.iload_n 1, 1) := by decide +kernel
theorem dX5_yearn_78 : decode cX5_yearn 78 = .ok (.aload_n 0, 1) := by decide +kernel
theorem dX5_yearn_79 : decode cX5_yearn 79 = .ok (.getfield 40, 3) := by decide +kernel
theorem dX5_yearn_82 : decode cX5_yearn 82 = .ok (.if_icmp .ge 70, 3) := by decide +kernel
theorem dX5_yearn_85 : decode cX5_yearn 85 = .ok (.aload_n 0, 1) := by decide +kernel
theorem dX5_yearn_86 : decode cX5_yearn 86 = .ok (.iload_n 1, 1) := by decide +kernel
theorem dX5_yearn_87 : decode cX5_yearn 87 = .ok (.invokevirtual 74, 3) := by decide +kernel
theorem dX5_yearn_90 : decode cX5_yearn 90 = .ok (.ifCond .eq 56, 3) := by decide +kernel
theorem dX5_yearn_93 : decode cX5_yearn 93 = .ok (.aload_n 0, 1) := by decide +kernel
theorem dX5_yearn_94 : decode cX5_yearn 94 = .ok (.getfield 28, 3) := by decide +kernel
theorem dX5_yearn_97 : decode cX5_yearn 97 = .ok (.iload_n 1, 1) := by decide +kernel
theorem dX5_yearn_98 : decode cX5_yearn 98 = .ok (.iaload, 1) := by decide +kernel
theorem dX5_yearn_99 : decode cX5_yearn 99 = .ok (.ifCond .le 7, 3) := by decide +kernel
theorem dX5_yearn_102 : decode cX5_yearn 102 = .ok (.iconst 1, 1) := by decide +kernel
theorem dX5_yearn_103 : decode cX5_yearn 103 = .ok (.goto 4, 3) := by decide +kernel
theorem dX5_yearn_106 : decode cX5_yearn 106 = .ok (.iconst 0, 1) := by decide +kernel
theorem dX5_yearn_107 : decode cX5_yearn 107 = .ok (.aload_n 0, 1) := by decide +kernel
theorem dX5_yearn_108 : decode cX5_yearn 108 = .ok (.getfield 34, 3) := by decide +kernel
theorem dX5_yearn_111 : decode cX5_yearn 111 = .ok (.iload_n 1, 1) := by decide +kernel
theorem dX5_yearn_112 : decode cX5_yearn 112 = .ok (.iaload, 1) := by decide +kernel
theorem dX5_yearn_113 : decode cX5_yearn 113 = .ok (.aload_n 0, 1) := by decide +kernel
theorem dX5_yearn_114 : decode cX5_yearn 114 = .ok (.getfield 50, 3) := by decide +kernel
theorem dX5_yearn_117 : decode cX5_yearn 117 = .ok (.if_icmp .lt 7, 3) := by decide +kernel
theorem dX5_yearn_120 : decode cX5_yearn 120 = .ok (.iconst 1, 1) := by decide +kernel
theorem dX5_yearn_121 : decode cX5_yearn 121 = .ok (.goto 4, 3) := by decide +kernel
theorem dX5_yearn_124 : decode cX5_yearn 124 = .ok (.iconst 0, 1) := by decide +kernel
theorem dX5_yearn_125 : decode cX5_yearn 125 = .ok (.iadd, 1) := by decide +kernel
theorem dX5_yearn_126 : decode cX5_yearn 126 = .ok (.istore_n 2, 1) := by decide +kernel
theorem dX5_yearn_127 : decode cX5_yearn 127 = .ok (.aload_n 0, 1) := by decide +kernel
theorem dX5_yearn_128 : decode cX5_yearn 128 = .ok (.getfield 15, 3) := by decide +kernel
theorem dX5_yearn_131 : decode cX5_yearn 131 = .ok (.iload_n 1, 1) := by decide +kernel
theorem dX5_yearn_132 : decode cX5_yearn 132 = .ok (.bipush 20, 2) := by decide +kernel
theorem dX5_yearn_134 : decode cX5_yearn 134 = .ok (.aload_n 0, 1) := by decide +kernel
theorem dX5_yearn_135 : decode cX5_yearn 135 = .ok (.getfield 15, 3) := by decide +kernel
theorem dX5_yearn_138 : decode cX5_yearn 138 = .ok (.iload_n 1, 1) := by decide +kernel
theorem dX5_yearn_139 : decode cX5_yearn 139 = .ok (.iaload, 1) := by decide +kernel
theorem dX5_yearn_140 : decode cX5_yearn 140 = .ok (.iload_n 2, 1) := by decide +kernel
theorem dX5_yearn_141 : decode cX5_yearn 141 = .ok (.iadd, 1) := by decide +kernel
theorem dX5_yearn_142 : decode cX5_yearn 142 = .ok (.invokestatic 107, 3) := by decide +kernel
theorem dX5_yearn_145 : decode cX5_yearn 145 = .ok (.iastore, 1) := by decide +kernel
theorem dX5_yearn_146 : decode cX5_yearn 146 = .ok (.iinc 1 1, 3) := by decide +kernel
theorem dX5_yearn_149 : decode cX5_yearn 149 = .ok (.goto (-72), 3) := by decide +kernel
theorem dX5_yearn_152 : decode cX5_yearn 152 = .ok (.return_, 1) := by decide +kernel
theorem dX6_init_0 : decode cX6_init 0 = .ok (.aload_n 0, 1) := by decide +kernel
theorem dX6_init_1 : decode cX6_init 1 = .ok (.invokespecial 3, 3) := by decide +kernel
theorem dX6_init_4 : decode cX6_init 4 = .ok (.aload_n 0, 1) := by decide +kernel
theorem dX6_init_5 : decode cX6_init 5 = .ok (.new 9, 3) := by decide +kernel
theorem dX6_init_8 : decode cX6_init 8 = .ok (.dup, 1) := by decide +kernel
theorem dX6_init_9 : decode cX6_init 9 = .ok (.invokespecial 11, 3) := by decide +kernel
theorem dX6_init_12 : decode cX6_init 12 = .ok (.putfield 12, 3) := by decide +kernel
theorem dX6_init_15 : decode cX6_init 15 = .ok (.aload_n 0, 1) := by decide +kernel
theorem dX6_init_16 : decode cX6_init 16 = .ok (.aload_n 1, 1) := by decide +kernel
theorem dX6_init_17 : decode cX6_init 17 = .ok (.putfield 18, 3) := by decide +kernel
theorem dX6_init_20 : decode cX6_init 20 = .ok (.return_, 1) := by decide +kernel
theorem dX6_isTable_0 : decode cX6_isTable 0 = .ok (.aload_n 0, 1) := by decide +kernel
theorem dX6_isTable_1 : decode cX6_isTable 1 = .ok (.getfield 12, 3) := by decide +kernel
theorem dX6_isTable_4 : decode cX6_isTable 4 = .ok (.invokevirtual 22, 3) := by decide +kernel
theorem dX6_isTable_7 : decode cX6_isTable 7 = .ok (.aload_n 0, 1) := by decide +kernel
theorem dX6_isTable_8 : decode cX6_isTable 8 = .ok (.iconst 0, 1) := by decide +kernel
theorem dX6_isTable_9 : decode cX6_isTable 9 = .ok (.putfield 25, 3) := by decide +kernel
theorem dX6_isTable_12 : decode cX6_isTable 12 = .ok (.iconst 1, 1) := by decide +kernel
theorem dX6_isTable_13 : decode cX6_isTable 13 = .ok (.istore_n 1, 1) := by decide +kernel
theorem dX6_isTable_14 : decode cX6_isTable 14 = .ok (.iconst 0, 1) := by decide +kernel
theorem dX6_isTable_15 : decode cX6_isTable 15 = .ok (.istore_n 2, 1) := by decide +kernel
theorem dX6_isTable_16 : decode cX6_isTable 16 = .ok (.iload_n 2, 1) := by decide +kernel
theorem dX6_isTable_17 : decode cX6_isTable 17 = .ok (.sipush 900, 3) := by decide +kernel
theorem dX6_isTable_20 : decode cX6_isTable 20 = .ok (.if_icmp .gt 86, 3) := by decide +kernel
theorem dX6_isTable_23 : decode cX6_isTable 23 = .ok (.iload_n 1, 1) := by decide +kernel
theorem dX6_isTable_24 : decode cX6_isTable 24 = .ok (.ifCond .eq 82, 3) := by decide +kernel
theorem dX6_isTable_27 : decode cX6_isTable 27 = .ok (.aload_n 0, 1) := by decide +kernel
theorem dX6_isTable_28 : decode cX6_isTable 28 = .ok (.getfield 18, 3) := by decide +kernel
theorem dX6_isTable_31 : decode cX6_isTable 31 = .ok (.getfield 29, 3) := by decide +kernel
theorem dX6_isTable_34 : decode cX6_isTable 34 = .ok (.ifCond .eq 72, 3) := by decide +kernel
theorem dX6_isTable_37 : decode cX6_isTable 37 = .ok (.aload_n 0, 1) := by decide +kernel
theorem dX6_isTable_38 : decode cX6_isTable 38 = .ok (.getfield 18, 3) := by decide +kernel
theorem dX6_isTable_41 : decode cX6_isTable 41 = .ok (.getfield 29, 3) := by decide +kernel
theorem dX6_isTable_44 : decode cX6_isTable 44 = .ok (.lookupswitch 44 #[(6, 28), (12, 36)], 28) := by decide +kernel
theorem dX6_isTable_72 : decode cX6_isTable 72 = .ok (.aload_n 0, 1) := by decide +kernel
theorem dX6_isTable_73 : decode cX6_isTable 73 = .ok (.invokevirtual 34, 3) := by decide +kernel
theorem dX6_isTable_76 : decode cX6_isTable 76 = .ok (.istore_n 1, 1) := by decide +kernel
theorem dX6_isTable_77 : decode cX6_isTable 77 = .ok (.goto 23, 3) := by decide +kernel
theorem dX6_isTable_80 : decode cX6_isTable 80 = .ok (.aload_n 0, 1) := by decide +kernel
theorem dX6_isTable_81 : decode cX6_isTable 81 = .ok (.invokevirtual 38, 3) := by decide +kernel
theorem dX6_isTable_84 : decode cX6_isTable 84 = .ok (.istore_n 1, 1) := by decide +kernel
theorem dX6_isTable_85 : decode cX6_isTable 85 = .ok (.goto 15, 3) := by decide +kernel
theorem dX6_isTable_88 : decode cX6_isTable 88 = .ok (.aload_n 0, 1) := by decide +kernel
theorem dX6_isTable_89 : decode cX6_isTable 89 = .ok (.aload_n 0, 1) := by decide +kernel
theorem dX6_isTable_90 : decode cX6_isTable 90 = .ok (.getfield 18, 3) := by decide +kernel
theorem dX6_isTable_93 : decode cX6_isTable 93 = .ok (.getfield 29, 3) := by decide +kernel
theorem dX6_isTable_96 : decode cX6_isTable 96 = .ok (.invokevirtual 41, 3) := by decide +kernel
theorem dX6_isTable_99 : decode cX6_isTable 99 = .ok (.istore_n 1, 1) := by decide +kernel
theorem dX6_isTable_100 : decode cX6_isTable 100 = .ok (.iinc 2 1, 3) := by decide +kernel
theorem dX6_isTable_103 : decode cX6_isTable 103 = .ok (.goto (-87), 3) := by decide +kernel
theorem dX6_isTable_106 : decode cX6_isTable 106 = .ok (.iload_n 1, 1) := by decide +kernel
theorem dX6_isTable_107 : decode cX6_isTable 107 = .ok (.ireturn, 1) := by decide +kernel
theorem dX6_takeSetting_0 : decode cX6_takeSetting 0 = .ok (.iload_n 1, 1) := by decide +kernel
theorem dX6_takeSetting_1 : decode cX6_takeSetting 1 = .ok (.iconst 1, 1) := by decide +kernel
theorem dX6_takeSetting_2 : decode cX6_takeSetting 2 = .ok (.iconst 5, 1) := by decide +kernel
theorem dX6_takeSetting_3 : decode cX6_takeSetting 3 = .ok (.invokestatic 45, 3) := by decide +kernel
theorem dX6_takeSetting_6 : decode cX6_takeSetting 6 = .ok (.ifCond .ne 12, 3) := by decide +kernel
theorem dX6_takeSetting_9 : decode cX6_takeSetting 9 = .ok (.aload_n 0, 1) := by decide +kernel
theorem dX6_takeSetting_10 : decode cX6_takeSetting 10 = .ok (.getfield 18, 3) := by decide +kernel
theorem dX6_takeSetting_13 : decode cX6_takeSetting 13 = .ok (.iconst 2, 1) := by decide +kernel
theorem dX6_takeSetting_14 : decode cX6_takeSetting 14 = .ok (.invokevirtual 49, 3) := by decide +kernel
theorem dX6_takeSetting_17 : decode cX6_takeSetting 17 = .ok (.ireturn, 1) := by decide +kernel
theorem dX6_takeSetting_18 : decode cX6_takeSetting 18 = .ok (.aload_n 0, 1) := by decide +kernel
theorem dX6_takeSetting_19 : decode cX6_takeSetting 19 = .ok (.getfield 25, 3) := by decide +kernel
theorem dX6_takeSetting_22 : decode cX6_takeSetting 22 = .ok (.iconst 1, 1) := by decide +kernel
theorem dX6_takeSetting_23 : decode cX6_takeSetting 23 = .ok (.iload_n 1, 1) := by decide +kernel
theorem dX6_takeSetting_24 : decode cX6_takeSetting 24 = .ok (.ishl, 1) := by decide +kernel
theorem dX6_takeSetting_25 : decode cX6_takeSetting 25 = .ok (.iand, 1) := by decide +kernel
theorem dX6_takeSetting_26 : decode cX6_takeSetting 26 = .ok (.ifCond .eq 12, 3) := by decide +kernel
theorem dX6_takeSetting_29 : decode cX6_takeSetting 29 = .ok (.aload_n 0, 1) := by decide +kernel
theorem dX6_takeSetting_30 : decode cX6_takeSetting 30 = .ok (.getfield 18, 3) := by decide +kernel
theorem dX6_takeSetting_33 : decode cX6_takeSetting 33 = .ok (.iconst 5, 1) := by decide +kernel
theorem dX6_takeSetting_34 : decode cX6_takeSetting 34 = .ok (.invokevirtual 49, 3) := by decide +kernel
theorem dX6_takeSetting_37 : decode cX6_takeSetting 37 = .ok (.ireturn, 1) := by decide +kernel
theorem dX6_takeSetting_38 : decode cX6_takeSetting 38 = .ok (.aload_n 0, 1) := by decide +kernel
theorem dX6_takeSetting_39 : decode cX6_takeSetting 39 = .ok (.dup, 1) := by decide +kernel
theorem dX6_takeSetting_40 : decode cX6_takeSetting 40 = .ok (.getfield 25, 3) := by decide +kernel
theorem dX6_takeSetting_43 : decode cX6_takeSetting 43 = .ok (.iconst 1, 1) := by decide +kernel
theorem dX6_takeSetting_44 : decode cX6_takeSetting 44 = .ok (.iload_n 1, 1) := by decide +kernel
theorem dX6_takeSetting_45 : decode cX6_takeSetting 45 = .ok (.ishl, 1) := by decide +kernel
theorem dX6_takeSetting_46 : decode cX6_takeSetting 46 = .ok (.ior, 1) := by decide +kernel
theorem dX6_takeSetting_47 : decode cX6_takeSetting 47 = .ok (.putfield 25, 3) := by decide +kernel
theorem dX6_takeSetting_50 : decode cX6_takeSetting 50 = .ok (.aload_n 0, 1) := by decide +kernel
theorem dX6_takeSetting_51 : decode cX6_takeSetting 51 = .ok (.getfield 18, 3) := by decide +kernel
theorem dX6_takeSetting_54 : decode cX6_takeSetting 54 = .ok (.invokevirtual 52, 3) := by decide +kernel
theorem dX6_takeSetting_57 : decode cX6_takeSetting 57 = .ok (.aload_n 0, 1) := by decide +kernel
theorem dX6_takeSetting_58 : decode cX6_takeSetting 58 = .ok (.iload_n 1, 1) := by decide +kernel
theorem dX6_takeSetting_59 : decode cX6_takeSetting 59 = .ok (.invokevirtual 55, 3) := by decide +kernel
theorem dX6_takeSetting_62 : decode cX6_takeSetting 62 = .ok (.ifCond .eq 19, 3) := by decide +kernel
theorem dX6_takeSetting_65 : decode cX6_takeSetting 65 = .ok (.aload_n 0, 1) := by decide +kernel
theorem dX6_takeSetting_66 : decode cX6_takeSetting 66 = .ok (.getfield 18, 3) := by decide +kernel
theorem dX6_takeSetting_69 : decode cX6_takeSetting 69 = .ok (.bipush 59, 2) := by decide +kernel
theorem dX6_takeSetting_71 : decode cX6_takeSetting 71 = .ok (.invokevirtual 58, 3) := by decide +kernel
theorem dX6_takeSetting_74 : decode cX6_takeSetting 74 = .ok (.ifCond .eq 7, 3) := by decide +kernel
theorem dX6_takeSetting_77 : decode cX6_takeSetting 77 = .ok (.iconst 1, 1) := by decide +kernel
theorem dX6_takeSetting_78 : decode cX6_takeSetting 78 = .ok (.goto 4, 3) := by decide +kernel
theorem dX6_takeSetting_81 : decode cX6_takeSetting 81 = .ok (.iconst 0, 1) := by decide +kernel
theorem dX6_takeSetting_82 : decode cX6_takeSetting 82 = .ok (.ireturn, 1) := by decide +kernel
theorem dX6_takeSettingsNumber_0 : decode cX6_takeSettingsNumber 0 = .ok (.iload_n 1, 1) := by decide +kernel
theorem dX6_takeSettingsNumber_1 : decode cX6_takeSettingsNumber 1 = .ok (.tableswitch 143 1 4 #[31, 59, 87, 115], 31) := by decide +kernel
theorem dX6_takeSettingsNumber_32 : decode cX6_takeSettingsNumber 32 = .ok (.aload_n 0, 1) := by decide +kernel
theorem dX6_takeSettingsNumber_33 : decode cX6_takeSettingsNumber 33 = .ok (.getfield 18, 3) := by decide +kernel
theorem dX6_takeSettingsNumber_36 : decode cX6_takeSettingsNumber 36 = .ok (.iconst 0, 1) := by decide +kernel
theorem dX6_takeSettingsNumber_37 : decode cX6_takeSettingsNumber 37 = .ok (.bipush 16, 2) := by decide +kernel
theorem dX6_takeSettingsNumber_39 : decode cX6_takeSettingsNumber 39 = .ok (.invokevirtual 61, 3) := by decide +kernel
theorem dX6_takeSettingsNumber_42 : decode cX6_takeSettingsNumber 42 = .ok (.istore_n 2, 1) := by decide +kernel
theorem dX6_takeSettingsNumber_43 : decode cX6_takeSettingsNumber 43 = .ok (.aload_n 0, 1) := by decide +kernel
theorem dX6_takeSettingsNumber_44 : decode cX6_takeSettingsNumber 44 = .ok (.getfield 12, 3) := by decide +kernel
theorem dX6_takeSettingsNumber_47 : decode cX6_takeSettingsNumber 47 = .ok (.aload_n 0, 1) := by decide +kernel
theorem dX6_takeSettingsNumber_48 : decode cX6_takeSettingsNumber 48 = .ok (.getfield 18, 3) := by decide +kernel
theorem dX6_takeSettingsNumber_51 : decode cX6_takeSettingsNumber 51 = .ok (.getfield 65, 3) := by decide +kernel
theorem dX6_takeSettingsNumber_54 : decode cX6_takeSettingsNumber 54 = .ok (.putfield 68, 3) := by decide +kernel
theorem dX6_takeSettingsNumber_57 : decode cX6_takeSettingsNumber 57 = .ok (.goto 112, 3) := by decide +kernel
theorem dX6_takeSettingsNumber_60 : decode cX6_takeSettingsNumber 60 = .ok (.aload_n 0, 1) := by decide +kernel
theorem dX6_takeSettingsNumber_61 : decode cX6_takeSettingsNumber 61 = .ok (.getfield 18, 3) := by decide +kernel
theorem dX6_takeSettingsNumber_64 : decode cX6_takeSettingsNumber 64 = .ok (.iconst 1, 1) := by decide +kernel
theorem dX6_takeSettingsNumber_65 : decode cX6_takeSettingsNumber 65 = .ok (.bipush 20, 2) := by decide +kernel
theorem dX6_takeSettingsNumber_67 : decode cX6_takeSettingsNumber 67 = .ok (.invokevirtual 61, 3) := by decide +kernel
theorem dX6_takeSettingsNumber_70 : decode cX6_takeSettingsNumber 70 = .ok (.istore_n 2, 1) := by decide +kernel
theorem dX6_takeSettingsNumber_71 : decode cX6_takeSettingsNumber 71 = .ok (.aload_n 0, 1) := by decide +kernel
theorem dX6_takeSettingsNumber_72 : decode cX6_takeSettingsNumber 72 = .ok (.getfield 12, 3) := by decide +kernel
theorem dX6_takeSettingsNumber_75 : decode cX6_takeSettingsNumber 75 = .ok (.aload_n 0, 1) := by decide +kernel
theorem dX6_takeSettingsNumber_76 : decode cX6_takeSettingsNumber 76 = .ok (.getfield 18, 3) := by decide +kernel
theorem dX6_takeSettingsNumber_79 : decode cX6_takeSettingsNumber 79 = .ok (.getfield 65, 3) := by decide +kernel
theorem dX6_takeSettingsNumber_82 : decode cX6_takeSettingsNumber 82 = .ok (.putfield 71, 3) := by decide +kernel
theorem dX6_takeSettingsNumber_85 : decode cX6_takeSettingsNumber 85 = .ok (.goto 84, 3) := by decide +kernel
theorem dX6_takeSettingsNumber_88 : decode cX6_takeSettingsNumber 88 = .ok (.aload_n 0, 1) := by decide +kernel
theorem dX6_takeSettingsNumber_89 : decode cX6_takeSettingsNumber 89 = .ok (.getfield 18, 3) := by decide +kernel
theorem dX6_takeSettingsNumber_92 : decode cX6_takeSettingsNumber 92 = .ok (.iconst 1, 1) := by decide +kernel
theorem dX6_takeSettingsNumber_93 : decode cX6_takeSettingsNumber 93 = .ok (.bipush 6, 2) := by decide +kernel
theorem dX6_takeSettingsNumber_95 : decode cX6_takeSettingsNumber 95 = .ok (.invokevirtual 61, 3) := by decide +kernel
theorem dX6_takeSettingsNumber_98 : decode cX6_takeSettingsNumber 98 = .ok (.istore_n 2, 1) := by decide +kernel
theorem dX6_takeSettingsNumber_99 : decode cX6_takeSettingsNumber 99 = .ok (.aload_n 0, 1) := by decide +kernel
theorem dX6_takeSettingsNumber_100 : decode cX6_takeSettingsNumber 100 = .ok (.getfield 12, 3) := by decide +kernel
theorem dX6_takeSettingsNumber_103 : decode cX6_takeSettingsNumber 103 = .ok (.aload_n 0, 1) := by decide +kernel
theorem dX6_takeSettingsNumber_104 : decode cX6_takeSettingsNumber 104 = .ok (.getfield 18, 3) := by decide +kernel
theorem dX6_takeSettingsNumber_107 : decode cX6_takeSettingsNumber 107 = .ok (.getfield 65, 3) := by decide +kernel
theorem dX6_takeSettingsNumber_110 : decode cX6_takeSettingsNumber 110 = .ok (.putfield 74, 3) := by decide +kernel
theorem dX6_takeSettingsNumber_113 : decode cX6_takeSettingsNumber 113 = .ok (.goto 56, 3) := by decide +kernel
theorem dX6_takeSettingsNumber_116 : decode cX6_takeSettingsNumber 116 = .ok (.aload_n 0, 1) := by decide +kernel
theorem dX6_takeSettingsNumber_117 : decode cX6_takeSettingsNumber 117 = .ok (.getfield 18, 3) := by decide +kernel
theorem dX6_takeSettingsNumber_120 : decode cX6_takeSettingsNumber 120 = .ok (.iconst 1, 1) := by decide +kernel
theorem dX6_takeSettingsNumber_121 : decode cX6_takeSettingsNumber 121 = .ok (.bipush 60, 2) := by decide +kernel
theorem dX6_takeSettingsNumber_123 : decode cX6_takeSettingsNumber 123 = .ok (.invokevirtual 61, 3) := by decide +kernel
theorem dX6_takeSettingsNumber_126 : decode cX6_takeSettingsNumber 126 = .ok (.istore_n 2, 1) := by decide +kernel
theorem dX6_takeSettingsNumber_127 : decode cX6_takeSettingsNumber 127 = .ok (.aload_n 0, 1) := by decide +kernel
theorem dX6_takeSettingsNumber_128 : decode cX6_takeSettingsNumber 128 = .ok (.getfield 12, 3) := by decide +kernel
theorem dX6_takeSettingsNumber_131 : decode cX6_takeSettingsNumber 131 = .ok (.aload_n 0, 1) := by decide +kernel
theorem dX6_takeSettingsNumber_132 : decode cX6_takeSettingsNumber 132 = .ok (.getfield 18, 3) := by decide +kernel
theorem dX6_takeSettingsNumber_135 : decode cX6_takeSettingsNumber 135 = .ok (.getfield 65, 3) := by decide +kernel
theorem dX6_takeSettingsNumber_138 : decode cX6_takeSettingsNumber 138 = .ok (.putfield 77, 3) := by decide +kernel
theorem dX6_takeSettingsNumber_141 : decode cX6_takeSettingsNumber 141 = .ok (.goto 28, 3) := by decide +kernel
theorem dX6_takeSettingsNumber_144 : decode cX6_takeSettingsNumber 144 = .ok (.aload_n 0, 1) := by decide +kernel
theorem dX6_takeSettingsNumber_145 : decode cX6_takeSettingsNumber 145 = .ok (.getfield 18, 3) := by decide +kernel
theorem dX6_takeSettingsNumber_148 : decode cX6_takeSettingsNumber 148 = .ok (.iconst 0, 1) := by decide +kernel
theorem dX6_takeSettingsNumber_149 : decode cX6_takeSettingsNumber 149 = .ok (.bipush 60, 2) := by decide +kernel
theorem dX6_takeSettingsNumber_151 : decode cX6_takeSettingsNumber 151 = .ok (.invokevirtual 61, 3) := by decide +kernel
theorem dX6_takeSettingsNumber_154 : decode cX6_takeSettingsNumber 154 = .ok (.istore_n 2, 1) := by decide +kernel
theorem dX6_takeSettingsNumber_155 : decode cX6_takeSettingsNumber 155 = .ok (.aload_n 0, 1) := by decide +kernel
theorem dX6_takeSettingsNumber_156 : decode cX6_takeSettingsNumber 156 = .ok (.getfield 12, 3) := by decide +kernel
theorem dX6_takeSettingsNumber_159 : decode cX6_takeSettingsNumber 159 = .ok (.aload_n 0, 1) := by decide +kernel
theorem dX6_takeSettingsNumber_160 : decode cX6_takeSettingsNumber 160 = .ok (.getfield 18, 3) := by decide +kernel
theorem dX6_takeSettingsNumber_163 : decode cX6_takeSettingsNumber 163 = .ok (.getfield 65, 3) := by decide +kernel
theorem dX6_takeSettingsNumber_166 : decode cX6_takeSettingsNumber 166 = .ok (.putfield 80, 3) := by decide +kernel
theorem dX6_takeSettingsNumber_169 : decode cX6_takeSettingsNumber 169 = .ok (.iload_n 2, 1) := by decide +kernel
theorem dX6_takeSettingsNumber_170 : decode cX6_takeSettingsNumber 170 = .ok (.ireturn, 1) := by decide +kernel
theorem dX6_takeGuest_0 : decode cX6_takeGuest 0 = .ok (.aload_n 0, 1) := by decide +kernel
theorem dX6_takeGuest_1 : decode cX6_takeGuest 1 = .ok (.getfield 12, 3) := by decide +kernel
theorem dX6_takeGuest_4 : decode cX6_takeGuest 4 = .ok (.getfield 83, 3) := by decide +kernel
theorem dX6_takeGuest_7 : decode cX6_takeGuest 7 = .ok (.istore_n 1, 1) := by decide +kernel
theorem dX6_takeGuest_8 : decode cX6_takeGuest 8 = .ok (.iload_n 1, 1) := by decide +kernel
theorem dX6_takeGuest_9 : decode cX6_takeGuest 9 = .ok (.bipush 7, 2) := by decide +kernel
theorem dX6_takeGuest_11 : decode cX6_takeGuest 11 = .ok (.if_icmp .lt 13, 3) := by decide +kernel
theorem dX6_takeGuest_14 : decode cX6_takeGuest 14 = .ok (.aload_n 0, 1) := by decide +kernel
theorem dX6_takeGuest_15 : decode cX6_takeGuest 15 = .ok (.getfield 18, 3) := by decide +kernel
theorem dX6_takeGuest_18 : decode cX6_takeGuest 18 = .ok (.bipush 6, 2) := by decide +kernel
theorem dX6_takeGuest_20 : decode cX6_takeGuest 20 = .ok (.invokevirtual 49, 3) := by decide +kernel
theorem dX6_takeGuest_23 : decode cX6_takeGuest 23 = .ok (.ireturn, 1) := by decide +kernel
theorem dX6_takeGuest_24 : decode cX6_takeGuest 24 = .ok (.aload_n 0, 1) := by decide +kernel
theorem dX6_takeGuest_25 : decode cX6_takeGuest 25 = .ok (.getfield 18, 3) := by decide +kernel
theorem dX6_takeGuest_28 : decode cX6_takeGuest 28 = .ok (.invokevirtual 52, 3) := by decide +kernel
theorem dX6_takeGuest_31 : decode cX6_takeGuest 31 = .ok (.aload_n 0, 1) := by decide +kernel
theorem dX6_takeGuest_32 : decode cX6_takeGuest 32 = .ok (.getfield 18, 3) := by decide +kernel
theorem dX6_takeGuest_35 : decode cX6_takeGuest 35 = .ok (.getfield 29, 3) := by decide +kernel
theorem dX6_takeGuest_38 : decode cX6_takeGuest 38 = .ok (.bipush 24, 2) := by decide +kernel
theorem dX6_takeGuest_40 : decode cX6_takeGuest 40 = .ok (.if_icmp .eq 12, 3) := by decide +kernel
theorem dX6_takeGuest_43 : decode cX6_takeGuest 43 = .ok (.aload_n 0, 1) := by decide +kernel
theorem dX6_takeGuest_44 : decode cX6_takeGuest 44 = .ok (.getfield 18, 3) := by decide +kernel
theorem dX6_takeGuest_47 : decode cX6_takeGuest 47 = .ok (.iconst 2, 1) := by decide +kernel
theorem dX6_takeGuest_48 : decode cX6_takeGuest 48 = .ok (.invokevirtual 49, 3) := by decide +kernel
theorem dX6_takeGuest_51 : decode cX6_takeGuest 51 = .ok (.ireturn, 1) := by decide +kernel
theorem dX6_takeGuest_52 : decode cX6_takeGuest 52 = .ok (.aload_n 0, 1) := by decide +kernel
theorem dX6_takeGuest_53 : decode cX6_takeGuest 53 = .ok (.getfield 12, 3) := by decide +kernel
theorem dX6_takeGuest_56 : decode cX6_takeGuest 56 = .ok (.aload_n 0, 1) := by decide +kernel
theorem dX6_takeGuest_57 : decode cX6_takeGuest 57 = .ok (.getfield 18, 3) := by decide +kernel
theorem dX6_takeGuest_60 : decode cX6_takeGuest 60 = .ok (.getfield 86, 3) := by decide +kernel
theorem dX6_takeGuest_63 : decode cX6_takeGuest 63 = .ok (.invokevirtual 90, 3) := by decide +kernel
theorem dX6_takeGuest_66 : decode cX6_takeGuest 66 = .ok (.iconst (-1), 1) := by decide +kernel
theorem dX6_takeGuest_67 : decode cX6_takeGuest 67 = .ok (.if_icmp .eq 12, 3) := by decide +kernel
theorem dX6_takeGuest_70 : decode cX6_takeGuest 70 = .ok (.aload_n 0, 1) := by decide +kernel
theorem dX6_takeGuest_71 : decode cX6_takeGuest 71 = .ok (.getfield 18, 3) := by decide +kernel
theorem dX6_takeGuest_74 : decode cX6_takeGuest 74 = .ok (.iconst 3, 1) := by decide +kernel
theorem dX6_takeGuest_75 : decode cX6_takeGuest 75 = .ok (.invokevirtual 49, 3) := by decide +kernel
theorem dX6_takeGuest_78 : decode cX6_takeGuest 78 = .ok (.ireturn, 1) := by decide +kernel
theorem dX6_takeGuest_79 : decode cX6_takeGuest 79 = .ok (.aload_n 0, 1) := by decide +kernel
theorem dX6_takeGuest_80 : decode cX6_takeGuest 80 = .ok (.getfield 12, 3) := by decide +kernel
theorem dX6_takeGuest_83 : decode cX6_takeGuest 83 = .ok (.aload_n 0, 1) := by decide +kernel
theorem dX6_takeGuest_84 : decode cX6_takeGuest 84 = .ok (.getfield 18, 3) := by decide +kernel
theorem dX6_takeGuest_87 : decode cX6_takeGuest 87 = .ok (.getfield 86, 3) := by decide +kernel
theorem dX6_takeGuest_90 : decode cX6_takeGuest 90 = .ok (.invokevirtual 94, 3) := by decide +kernel
theorem dX6_takeGuest_93 : decode cX6_takeGuest 93 = .ok (.aload_n 0, 1) := by decide +kernel
theorem dX6_takeGuest_94 : decode cX6_takeGuest 94 = .ok (.getfield 18, 3) := by decide +kernel
theorem dX6_takeGuest_97 : decode cX6_takeGuest 97 = .ok (.invokevirtual 52, 3) := by decide +kernel
theorem dX6_takeGuest_100 : decode cX6_takeGuest 100 = .ok (.aload_n 0, 1) := by decide +kernel
theorem dX6_takeGuest_101 : decode cX6_takeGuest 101 = .ok (.getfield 18, 3) := by decide +kernel
theorem dX6_takeGuest_104 : decode cX6_takeGuest 104 = .ok (.bipush 7, 2) := by decide +kernel
theorem dX6_takeGuest_106 : decode cX6_takeGuest 106 = .ok (.invokevirtual 58, 3) := by decide +kernel
theorem dX6_takeGuest_109 : decode cX6_takeGuest 109 = .ok (.ifCond .eq 16, 3) := by decide +kernel
theorem dX6_takeGuest_112 : decode cX6_takeGuest 112 = .ok (.aload_n 0, 1) := by decide +kernel
theorem dX6_takeGuest_113 : decode cX6_takeGuest 113 = .ok (.getfield 18, 3) := by decide +kernel
theorem dX6_takeGuest_116 : decode cX6_takeGuest 116 = .ok (.iconst 0, 1) := by decide +kernel
theorem dX6_takeGuest_117 : decode cX6_takeGuest 117 = .ok (.bipush 20, 2) := by decide +kernel
theorem dX6_takeGuest_119 : decode cX6_takeGuest 119 = .ok (.invokevirtual 61, 3) := by decide +kernel
theorem dX6_takeGuest_122 : decode cX6_takeGuest 122 = .ok (.ifCond .ne 5, 3) := by decide +kernel
theorem dX6_takeGuest_125 : decode cX6_takeGuest 125 = .ok (.iconst 0, 1) := by decide +kernel
theorem dX6_takeGuest_126 : decode cX6_takeGuest 126 = .ok (.ireturn, 1) := by decide +kernel
theorem dX6_takeGuest_127 : decode cX6_takeGuest 127 = .ok (.aload_n 0, 1) := by decide +kernel
theorem dX6_takeGuest_128 : decode cX6_takeGuest 128 = .ok (.getfield 12, 3) := by decide +kernel
theorem dX6_takeGuest_131 : decode cX6_takeGuest 131 = .ok (.getfield 98, 3) := by decide +kernel
theorem dX6_takeGuest_134 : decode cX6_takeGuest 134 = .ok (.iload_n 1, 1) := by decide +kernel
theorem dX6_takeGuest_135 : decode cX6_takeGuest 135 = .ok (.aload_n 0, 1) := by decide +kernel
theorem dX6_takeGuest_136 : decode cX6_takeGuest 136 = .ok (.getfield 18, 3) := by decide +kernel
theorem dX6_takeGuest_139 : decode cX6_takeGuest 139 = .ok (.getfield 65, 3) := by decide +kernel
theorem dX6_takeGuest_142 : decode cX6_takeGuest 142 = .ok (.iastore, 1) := by decide +kernel
theorem dX6_takeGuest_143 : decode cX6_takeGuest 143 = .ok (.aload_n 0, 1) := by decide +kernel
theorem dX6_takeGuest_144 : decode cX6_takeGuest 144 = .ok (.getfield 18, 3) := by decide +kernel
theorem dX6_takeGuest_147 : decode cX6_takeGuest 147 = .ok (.bipush 8, 2) := by decide +kernel
theorem dX6_takeGuest_149 : decode cX6_takeGuest 149 = .ok (.invokevirtual 58, 3) := by decide +kernel
theorem dX6_takeGuest_152 : decode cX6_takeGuest 152 = .ok (.ifCond .eq 16, 3) := by decide +kernel
theorem dX6_takeGuest_155 : decode cX6_takeGuest 155 = .ok (.aload_n 0, 1) := by decide +kernel
theorem dX6_takeGuest_156 : decode cX6_takeGuest 156 = .ok (.getfield 18, 3) := by decide +kernel
theorem dX6_takeGuest_159 : decode cX6_takeGuest 159 = .ok (.iconst 0, 1) := by decide +kernel
theorem dX6_takeGuest_160 : decode cX6_takeGuest 160 = .ok (.bipush 20, 2) := by decide +kernel
theorem dX6_takeGuest_162 : decode cX6_takeGuest 162 = .ok (.invokevirtual 61, 3) := by decide +kernel
theorem dX6_takeGuest_165 : decode cX6_takeGuest 165 = .ok (.ifCond .ne 5, 3) := by decide +kernel
theorem dX6_takeGuest_168 : decode cX6_takeGuest 168 = .ok (.iconst 0, 1) := by decide +kernel
theorem dX6_takeGuest_169 : decode cX6_takeGuest 169 = .ok (.ireturn, 1) := by decide +kernel
theorem dX6_takeGuest_170 : decode cX6_takeGuest 170 = .ok (.aload_n 0, 1) := by decide +kernel
theorem dX6_takeGuest_171 : decode cX6_takeGuest 171 = .ok (.getfield 12, 3) := by decide +kernel
theorem dX6_takeGuest_174 : decode cX6_takeGuest 174 = .ok (.getfield 102, 3) := by decide +kernel
theorem dX6_takeGuest_177 : decode cX6_takeGuest 177 = .ok (.iload_n 1, 1) := by decide +kernel
theorem dX6_takeGuest_178 : decode cX6_takeGuest 178 = .ok (.aload_n 0, 1) := by decide +kernel
theorem dX6_takeGuest_179 : decode cX6_takeGuest 179 = .ok (.getfield 18, 3) := by decide +kernel
theorem dX6_takeGuest_182 : decode cX6_takeGuest 182 = .ok (.getfield 65, 3) := by decide +kernel
theorem dX6_takeGuest_185 : decode cX6_takeGuest 185 = .ok (.iastore, 1) := by decide +kernel
theorem dX6_takeGuest_186 : decode cX6_takeGuest 186 = .ok (.aload_n 0, 1) := by decide +kernel
theorem dX6_takeGuest_187 : decode cX6_takeGuest 187 = .ok (.getfield 18, 3) := by decide +kernel
theorem dX6_takeGuest_190 : decode cX6_takeGuest 190 = .ok (.bipush 9, 2) := by decide +kernel
theorem dX6_takeGuest_192 : decode cX6_takeGuest 192 = .ok (.invokevirtual 58, 3) := by decide +kernel
theorem dX6_takeGuest_195 : decode cX6_takeGuest 195 = .ok (.ifCond .eq 16, 3) := by decide +kernel
theorem dX6_takeGuest_198 : decode cX6_takeGuest 198 = .ok (.aload_n 0, 1) := by decide +kernel
theorem dX6_takeGuest_199 : decode cX6_takeGuest 199 = .ok (.getfield 18, 3) := by decide +kernel
theorem dX6_takeGuest_202 : decode cX6_takeGuest 202 = .ok (.iconst 0, 1) := by decide +kernel
theorem dX6_takeGuest_203 : decode cX6_takeGuest 203 = .ok (.bipush 20, 2) := by decide +kernel
theorem dX6_takeGuest_205 : decode cX6_takeGuest 205 = .ok (.invokevirtual 61, 3) := by decide +kernel
theorem dX6_takeGuest_208 : decode cX6_takeGuest 208 = .ok (.ifCond .ne 5, 3) := by decide +kernel
theorem dX6_takeGuest_211 : decode cX6_takeGuest 211 = .ok (.iconst 0, 1) := by decide +kernel
theorem dX6_takeGuest_212 : decode cX6_takeGuest 212 = .ok (.ireturn, 1) := by decide +kernel
theorem dX6_takeGuest_213 : decode cX6_takeGuest 213 = .ok (.aload_n 0, 1) := by decide +kernel
theorem dX6_takeGuest_214 : decode cX6_takeGuest 214 = .ok (.getfield 12, 3) := by decide +kernel
theorem dX6_takeGuest_217 : decode cX6_takeGuest 217 = .ok (.getfield 105, 3) := by decide +kernel
theorem dX6_takeGuest_220 : decode cX6_takeGuest 220 = .ok (.iload_n 1, 1) := by decide +kernel
theorem dX6_takeGuest_221 : decode cX6_takeGuest 221 = .ok (.aload_n 0, 1) := by decide +kernel
theorem dX6_takeGuest_222 : decode cX6_takeGuest 222 = .ok (.getfield 18, 3) := by decide +kernel
theorem dX6_takeGuest_225 : decode cX6_takeGuest 225 = .ok (.getfield 65, 3) := by decide +kernel
theorem dX6_takeGuest_228 : decode cX6_takeGuest 228 = .ok (.iastore, 1) := by decide +kernel
theorem dX6_takeGuest_229 : decode cX6_takeGuest 229 = .ok (.aload_n 0, 1) := by decide +kernel
theorem dX6_takeGuest_230 : decode cX6_takeGuest 230 = .ok (.getfield 18, 3) := by decide +kernel
theorem dX6_takeGuest_233 : decode cX6_takeGuest 233 = .ok (.getfield 29, 3) := by decide +kernel
theorem dX6_takeGuest_236 : decode cX6_takeGuest 236 = .ok (.bipush 10, 2) := by decide +kernel
theorem dX6_takeGuest_238 : decode cX6_takeGuest 238 = .ok (.if_icmp .eq 15, 3) := by decide +kernel
theorem dX6_takeGuest_241 : decode cX6_takeGuest 241 = .ok (.aload_n 0, 1) := by decide +kernel
theorem dX6_takeGuest_242 : decode cX6_takeGuest 242 = .ok (.getfield 18, 3) := by decide +kernel
theorem dX6_takeGuest_245 : decode cX6_takeGuest 245 = .ok (.getfield 29, 3) := by decide +kernel
theorem dX6_takeGuest_248 : decode cX6_takeGuest 248 = .ok (.bipush 11, 2) := by decide +kernel
theorem dX6_takeGuest_250 : decode cX6_takeGuest 250 = .ok (.if_icmp .ne 36, 3) := by decide +kernel
theorem dX6_takeGuest_253 : decode cX6_takeGuest 253 = .ok (.aload_n 0, 1) := by decide +kernel
theorem dX6_takeGuest_254 : decode cX6_takeGuest 254 = .ok (.getfield 12, 3) := by decide +kernel
theorem dX6_takeGuest_257 : decode cX6_takeGuest 257 = .ok (.getfield 108, 3) := by decide +kernel
theorem dX6_takeGuest_260 : decode cX6_takeGuest 260 = .ok (.iload_n 1, 1) := by decide +kernel
theorem dX6_takeGuest_261 : decode cX6_takeGuest 261 = .ok (.aload_n 0, 1) := by decide +kernel
theorem dX6_takeGuest_262 : decode cX6_takeGuest 262 = .ok (.getfield 18, 3) := by decide +kernel
theorem dX6_takeGuest_265 : decode cX6_takeGuest 265 = .ok (.getfield 29, 3) := by decide +kernel
theorem dX6_takeGuest_268 : decode cX6_takeGuest 268 = .ok (.bipush 10, 2) := by decide +kernel
theorem dX6_takeGuest_270 : decode cX6_takeGuest 270 = .ok (.if_icmp .ne 7, 3) := by decide +kernel
theorem dX6_takeGuest_273 : decode cX6_takeGuest 273 = .ok (.iconst 1, 1) := by decide +kernel
theorem dX6_takeGuest_274 : decode cX6_takeGuest 274 = .ok (.goto 4, 3) := by decide +kernel
theorem dX6_takeGuest_277 : decode cX6_takeGuest 277 = .ok (.iconst 2, 1) := by decide +kernel
theorem dX6_takeGuest_278 : decode cX6_takeGuest 278 = .ok (.iastore, 1) := by decide +kernel
theorem dX6_takeGuest_279 : decode cX6_takeGuest 279 = .ok (.aload_n 0, 1) := by decide +kernel
theorem dX6_takeGuest_280 : decode cX6_takeGuest 280 = .ok (.getfield 18, 3) := by decide +kernel
theorem dX6_takeGuest_283 : decode cX6_takeGuest 283 = .ok (.invokevirtual 52, 3) := by decide +kernel
theorem dX6_takeGuest_286 : decode cX6_takeGuest 286 = .ok (.aload_n 0, 1) := by decide +kernel
theorem dX6_takeGuest_287 : decode cX6_takeGuest 287 = .ok (.getfield 18, 3) := by decide +kernel
theorem dX6_takeGuest_290 : decode cX6_takeGuest 290 = .ok (.bipush 59, 2) := by decide +kernel
theorem dX6_takeGuest_292 : decode cX6_takeGuest 292 = .ok (.invokevirtual 58, 3) := by decide +kernel
theorem dX6_takeGuest_295 : decode cX6_takeGuest 295 = .ok (.ireturn, 1) := by decide +kernel
theorem dX6_takeButter_0 : decode cX6_takeButter 0 = .ok (.aload_n 0, 1) := by decide +kernel
theorem dX6_takeButter_1 : decode cX6_takeButter 1 = .ok (.getfield 18, 3) := by decide +kernel
theorem dX6_takeButter_4 : decode cX6_takeButter 4 = .ok (.invokevirtual 52, 3) := by decide +kernel
theorem dX6_takeButter_7 : decode cX6_takeButter 7 = .ok (.aload_n 0, 1) := by decide +kernel
theorem dX6_takeButter_8 : decode cX6_takeButter 8 = .ok (.getfield 18, 3) := by decide +kernel
theorem dX6_takeButter_11 : decode cX6_takeButter 11 = .ok (.aload_n 0, 1) := by decide +kernel
theorem dX6_takeButter_12 : decode cX6_takeButter 12 = .ok (.getfield 12, 3) := by decide +kernel
theorem dX6_takeButter_15 : decode cX6_takeButter 15 = .ok (.invokevirtual 110, 3) := by decide +kernel
theorem dX6_takeButter_18 : decode cX6_takeButter 18 = .ok (.istore_n 1, 1) := by decide +kernel
theorem dX6_takeButter_19 : decode cX6_takeButter 19 = .ok (.iload_n 1, 1) := by decide +kernel
theorem dX6_takeButter_20 : decode cX6_takeButter 20 = .ok (.iconst (-1), 1) := by decide +kernel
theorem dX6_takeButter_21 : decode cX6_takeButter 21 = .ok (.if_icmp .ne 5, 3) := by decide +kernel
theorem dX6_takeButter_24 : decode cX6_takeButter 24 = .ok (.iconst 0, 1) := by decide +kernel
theorem dX6_takeButter_25 : decode cX6_takeButter 25 = .ok (.ireturn, 1) := by decide +kernel
theorem dX6_takeButter_26 : decode cX6_takeButter 26 = .ok (.aload_n 0, 1) := by decide +kernel
theorem dX6_takeButter_27 : decode cX6_takeButter 27 = .ok (.getfield 12, 3) := by decide +kernel
theorem dX6_takeButter_30 : decode cX6_takeButter 30 = .ok (.getfield 114, 3) := by decide +kernel
theorem dX6_takeButter_33 : decode cX6_takeButter 33 = .ok (.iload_n 1, 1) := by decide +kernel
theorem dX6_takeButter_34 : decode cX6_takeButter 34 = .ok (.iaload, 1) := by decide +kernel
theorem dX6_takeButter_35 : decode cX6_takeButter 35 = .ok (.iconst (-1), 1) := by decide +kernel
theorem dX6_takeButter_36 : decode cX6_takeButter 36 = .ok (.if_icmp .eq 12, 3) := by decide +kernel
theorem dX6_takeButter_39 : decode cX6_takeButter 39 = .ok (.aload_n 0, 1) := by decide +kernel
theorem dX6_takeButter_40 : decode cX6_takeButter 40 = .ok (.getfield 18, 3) := by decide +kernel
theorem dX6_takeButter_43 : decode cX6_takeButter 43 = .ok (.iconst 5, 1) := by decide +kernel
theorem dX6_takeButter_44 : decode cX6_takeButter 44 = .ok (.invokevirtual 49, 3) := by decide +kernel
theorem dX6_takeButter_47 : decode cX6_takeButter 47 = .ok (.ireturn, 1) := by decide +kernel
theorem dX6_takeButter_48 : decode cX6_takeButter 48 = .ok (.aload_n 0, 1) := by decide +kernel
theorem dX6_takeButter_49 : decode cX6_takeButter 49 = .ok (.getfield 18, 3) := by decide +kernel
theorem dX6_takeButter_52 : decode cX6_takeButter 52 = .ok (.invokevirtual 52, 3) := by decide +kernel
theorem dX6_takeButter_55 : decode cX6_takeButter 55 = .ok (.aload_n 0, 1) := by decide +kernel
theorem dX6_takeButter_56 : decode cX6_takeButter 56 = .ok (.getfield 18, 3) := by decide +kernel
theorem dX6_takeButter_59 : decode cX6_takeButter 59 = .ok (.aload_n 0, 1) := by decide +kernel
theorem dX6_takeButter_60 : decode cX6_takeButter 60 = .ok (.getfield 12, 3) := by decide +kernel
theorem dX6_takeButter_63 : decode cX6_takeButter 63 = .ok (.invokevirtual 110, 3) := by decide +kernel
theorem dX6_takeButter_66 : decode cX6_takeButter 66 = .ok (.istore_n 2, 1) := by decide +kernel
theorem dX6_takeButter_67 : decode cX6_takeButter 67 = .ok (.iload_n 2, 1) := by decide +kernel
theorem dX6_takeButter_68 : decode cX6_takeButter 68 = .ok (.iconst (-1), 1) := by decide +kernel
theorem dX6_takeButter_69 : decode cX6_takeButter 69 = .ok (.if_icmp .ne 5, 3) := by decide +kernel
theorem dX6_takeButter_72 : decode cX6_takeButter 72 = .ok (.iconst 0, 1) := by decide +kernel
theorem dX6_takeButter_73 : decode cX6_takeButter 73 = .ok (.ireturn, 1) := by decide +kernel
theorem dX6_takeButter_74 : decode cX6_takeButter 74 = .ok (.iload_n 2, 1) := by decide +kernel
theorem dX6_takeButter_75 : decode cX6_takeButter 75 = .ok (.iload_n 1, 1) := by decide +kernel
theorem dX6_takeButter_76 : decode cX6_takeButter 76 = .ok (.if_icmp .ne 12, 3) := by decide +kernel
theorem dX6_takeButter_79 : decode cX6_takeButter 79 = .ok (.aload_n 0, 1) := by decide +kernel
theorem dX6_takeButter_80 : decode cX6_takeButter 80 = .ok (.getfield 18, 3) := by decide +kernel
theorem dX6_takeButter_83 : decode cX6_takeButter 83 = .ok (.iconst 5, 1) := by decide +kernel
theorem dX6_takeButter_84 : decode cX6_takeButter 84 = .ok (.invokevirtual 49, 3) := by decide +kernel
theorem dX6_takeButter_87 : decode cX6_takeButter 87 = .ok (.ireturn, 1) := by decide +kernel
theorem dX6_takeButter_88 : decode cX6_takeButter 88 = .ok (.aload_n 0, 1) := by decide +kernel
theorem dX6_takeButter_89 : decode cX6_takeButter 89 = .ok (.getfield 12, 3) := by decide +kernel
theorem dX6_takeButter_92 : decode cX6_takeButter 92 = .ok (.getfield 114, 3) := by decide +kernel
theorem dX6_takeButter_95 : decode cX6_takeButter 95 = .ok (.iload_n 1, 1) := by decide +kernel
theorem dX6_takeButter_96 : decode cX6_takeButter 96 = .ok (.iload_n 2, 1) := by decide +kernel
theorem dX6_takeButter_97 : decode cX6_takeButter 97 = .ok (.iastore, 1) := by decide +kernel
theorem dX6_takeButter_98 : decode cX6_takeButter 98 = .ok (.aload_n 0, 1) := by decide +kernel
theorem dX6_takeButter_99 : decode cX6_takeButter 99 = .ok (.getfield 18, 3) := by decide +kernel
theorem dX6_takeButter_102 : decode cX6_takeButter 102 = .ok (.invokevirtual 52, 3) := by decide +kernel
theorem dX6_takeButter_105 : decode cX6_takeButter 105 = .ok (.aload_n 0, 1) := by decide +kernel
theorem dX6_takeButter_106 : decode cX6_takeButter 106 = .ok (.getfield 18, 3) := by decide +kernel
theorem dX6_takeButter_109 : decode cX6_takeButter 109 = .ok (.bipush 59, 2) := by decide +kernel
theorem dX6_takeButter_111 : decode cX6_takeButter 111 = .ok (.invokevirtual 58, 3) := by decide +kernel
theorem dX6_takeButter_114 : decode cX6_takeButter 114 = .ok (.ireturn, 1) := by decide +kernel
theorem dX7_init_0 : decode cX7_init 0 = .ok (.aload_n 0, 1) := by decide +kernel
theorem dX7_init_1 : decode cX7_init 1 = .ok (.invokespecial 3, 3) := by decide +kernel
theorem dX7_init_4 : decode cX7_init 4 = .ok (.aload_n 0, 1) := by decide +kernel
theorem dX7_init_5 : decode cX7_init 5 = .ok (.sipush 900, 3) := by decide +kernel
theorem dX7_init_8 : decode cX7_init 8 = .ok (.newarray .byte, 2) := by decide +kernel
theorem dX7_init_10 : decode cX7_init 10 = .ok (.putfield 9, 3) := by decide +kernel
theorem dX7_init_13 : decode cX7_init 13 = .ok (.aload_n 0, 1) := by decide +kernel
theorem dX7_init_14 : decode cX7_init 14 = .ok (.iconst (-1), 1) := by decide +kernel
theorem dX7_init_15 : decode cX7_init 15 = .ok (.putfield 15, 3) := by decide +kernel
theorem dX7_init_18 : decode cX7_init 18 = .ok (.aload_n 0, 1) := by decide +kernel
theorem dX7_init_19 : decode cX7_init 19 = .ok (.iconst (-1), 1) := by decide +kernel
theorem dX7_init_20 : decode cX7_init 20 = .ok (.putfield 19, 3) := by decide +kernel
theorem dX7_init_23 : decode cX7_init 23 = .ok (.return_, 1) := by decide +kernel
theorem dX7_append_0 : decode cX7_append 0 = .ok (.bipush 24, 2) := by decide +kernel
theorem dX7_append_2 : decode cX7_append 2 = .ok (.istore_n 2, 1) := by decide +kernel
theorem dX7_append_3 : decode cX7_append 3 = .ok (.iload_n 2, 1) := by decide +kernel
theorem dX7_append_4 : decode cX7_append 4 = .ok (.ifCond .lt 42, 3) := by decide +kernel
theorem dX7_append_7 : decode cX7_append 7 = .ok (.aload_n 0, 1) := by decide +kernel
theorem dX7_append_8 : decode cX7_append 8 = .ok (.getfield 22, 3) := by decide +kernel
theorem dX7_append_11 : decode cX7_append 11 = .ok (.sipush 900, 3) := by decide +kernel
theorem dX7_append_14 : decode cX7_append 14 = .ok (.if_icmp .ge 32, 3) := by decide +kernel
theorem dX7_append_17 : decode cX7_append 17 = .ok (.aload_n 0, 1) := by decide +kernel
theorem dX7_append_18 : decode cX7_append 18 = .ok (.getfield 9, 3) := by decide +kernel
theorem dX7_append_21 : decode cX7_append 21 = .ok (.aload_n 0, 1) := by decide +kernel
theorem dX7_append_22 : decode cX7_append 22 = .ok (.getfield 22, 3) := by decide +kernel
theorem dX7_append_25 : decode cX7_append 25 = .ok (.iload_n 1, 1) := by decide +kernel
theorem dX7_append_26 : decode cX7_append 26 = .ok (.iload_n 2, 1) := by decide +kernel
theorem dX7_append_27 : decode cX7_append 27 = .ok (.ishr, 1) := by decide +kernel
theorem dX7_append_28 : decode cX7_append 28 = .ok (.i2b, 1) := by decide +kernel
theorem dX7_append_29 : decode cX7_append 29 = .ok (.bastore, 1) := by decide +kernel
theorem dX7_append_30 : decode cX7_append 30 = .ok (.aload_n 0, 1) := by decide +kernel
theorem dX7_append_31 : decode cX7_append 31 = .ok (.dup, 1) := by decide +kernel
theorem dX7_append_32 : decode cX7_append 32 = .ok (.getfield 22, 3) := by decide +kernel
theorem dX7_append_35 : decode cX7_append 35 = .ok (.iconst 1, 1) := by decide +kernel
theorem dX7_append_36 : decode cX7_append 36 = .ok (.iadd, 1) := by decide +kernel
theorem dX7_append_37 : decode cX7_append 37 = .ok (.putfield 22, 3) := by decide +kernel
theorem dX7_append_40 : decode cX7_append 40 = .ok (.iinc 2 (-8), 3) := by decide +kernel
theorem dX7_append_43 : decode cX7_append 43 = .ok (.goto (-40), 3) := by decide +kernel
theorem dX7_append_46 : decode cX7_append 46 = .ok (.return_, 1) := by decide +kernel
theorem dX7_begin_0 : decode cX7_begin 0 = .ok (.aload_n 0, 1) := by decide +kernel
theorem dX7_begin_1 : decode cX7_begin 1 = .ok (.iload_n 1, 1) := by decide +kernel
theorem dX7_begin_2 : decode cX7_begin 2 = .ok (.aload_n 0, 1) := by decide +kernel
theorem dX7_begin_3 : decode cX7_begin 3 = .ok (.getfield 22, 3) := by decide +kernel
theorem dX7_begin_6 : decode cX7_begin 6 = .ok (.invokestatic 25, 3) := by decide +kernel
theorem dX7_begin_9 : decode cX7_begin 9 = .ok (.putfield 31, 3) := by decide +kernel
theorem dX7_begin_12 : decode cX7_begin 12 = .ok (.aload_n 0, 1) := by decide +kernel
theorem dX7_begin_13 : decode cX7_begin 13 = .ok (.iconst 0, 1) := by decide +kernel
theorem dX7_begin_14 : decode cX7_begin 14 = .ok (.putfield 22, 3) := by decide +kernel
theorem dX7_begin_17 : decode cX7_begin 17 = .ok (.aload_n 0, 1) := by decide +kernel
theorem dX7_begin_18 : decode cX7_begin 18 = .ok (.iconst 0, 1) := by decide +kernel
theorem dX7_begin_19 : decode cX7_begin 19 = .ok (.putfield 34, 3) := by decide +kernel
theorem dX7_begin_22 : decode cX7_begin 22 = .ok (.aload_n 0, 1) := by decide +kernel
theorem dX7_begin_23 : decode cX7_begin 23 = .ok (.iconst 0, 1) := by decide +kernel
theorem dX7_begin_24 : decode cX7_begin 24 = .ok (.putfield 15, 3) := by decide +kernel
theorem dX7_begin_27 : decode cX7_begin 27 = .ok (.aload_n 0, 1) := by decide +kernel
theorem dX7_begin_28 : decode cX7_begin 28 = .ok (.iconst (-1), 1) := by decide +kernel
theorem dX7_begin_29 : decode cX7_begin 29 = .ok (.putfield 19, 3) := by decide +kernel
theorem dX7_begin_32 : decode cX7_begin 32 = .ok (.aload_n 0, 1) := by decide +kernel
theorem dX7_begin_33 : decode cX7_begin 33 = .ok (.invokevirtual 37, 3) := by decide +kernel
theorem dX7_begin_36 : decode cX7_begin 36 = .ok (.return_, 1) := by decide +kernel
theorem dX7_refuse_0 : decode cX7_refuse 0 = .ok (.aload_n 0, 1) := by decide +kernel
theorem dX7_refuse_1 : decode cX7_refuse 1 = .ok (.aload_n 0, 1) := by decide +kernel
theorem dX7_refuse_2 : decode cX7_refuse 2 = .ok (.getfield 40, 3) := by decide +kernel
theorem dX7_refuse_5 : decode cX7_refuse 5 = .ok (.iconst (-1), 1) := by decide +kernel
theorem dX7_refuse_6 : decode cX7_refuse 6 = .ok (.if_icmp .ne 7, 3) := by decide +kernel
theorem dX7_refuse_9 : decode cX7_refuse 9 = .ok (.iconst 1, 1) := by decide +kernel
theorem dX7_refuse_10 : decode cX7_refuse 10 = .ok (.goto 4, 3) := by decide +kernel
theorem dX7_refuse_13 : decode cX7_refuse 13 = .ok (.iload_n 1, 1) := by decide +kernel
theorem dX7_refuse_14 : decode cX7_refuse 14 = .ok (.putfield 15, 3) := by decide +kernel
theorem dX7_refuse_17 : decode cX7_refuse 17 = .ok (.aload_n 0, 1) := by decide +kernel
theorem dX7_refuse_18 : decode cX7_refuse 18 = .ok (.aload_n 0, 1) := by decide +kernel
theorem dX7_refuse_19 : decode cX7_refuse 19 = .ok (.getfield 43, 3) := by decide +kernel
theorem dX7_refuse_22 : decode cX7_refuse 22 = .ok (.putfield 19, 3) := by decide +kernel
theorem dX7_refuse_25 : decode cX7_refuse 25 = .ok (.iconst 0, 1) := by decide +kernel
theorem dX7_refuse_26 : decode cX7_refuse 26 = .ok (.ireturn, 1) := by decide +kernel
theorem dX7_take_0 : decode cX7_take 0 = .ok (.aload_n 0, 1) := by decide +kernel
theorem dX7_take_1 : decode cX7_take 1 = .ok (.getfield 40, 3) := by decide +kernel
theorem dX7_take_4 : decode cX7_take 4 = .ok (.iload_n 1, 1) := by decide +kernel
theorem dX7_take_5 : decode cX7_take 5 = .ok (.if_icmp .eq 9, 3) := by decide +kernel
theorem dX7_take_8 : decode cX7_take 8 = .ok (.aload_n 0, 1) := by decide +kernel
theorem dX7_take_9 : decode cX7_take 9 = .ok (.iconst 2, 1) := by decide +kernel
theorem dX7_take_10 : decode cX7_take 10 = .ok (.invokevirtual 46, 3) := by decide +kernel
theorem dX7_take_13 : decode cX7_take 13 = .ok (.ireturn, 1) := by decide +kernel
theorem dX7_take_14 : decode cX7_take 14 = .ok (.aload_n 0, 1) := by decide +kernel
theorem dX7_take_15 : decode cX7_take 15 = .ok (.invokevirtual 37, 3) := by decide +kernel
theorem dX7_take_18 : decode cX7_take 18 = .ok (.iconst 1, 1) := by decide +kernel
theorem dX7_take_19 : decode cX7_take 19 = .ok (.ireturn, 1) := by decide +kernel
theorem dX7_takeNumber_0 : decode cX7_takeNumber 0 = .ok (.aload_n 0, 1) := by decide +kernel
theorem dX7_takeNumber_1 : decode cX7_takeNumber 1 = .ok (.getfield 40, 3) := by decide +kernel
theorem dX7_takeNumber_4 : decode cX7_takeNumber 4 = .ok (.bipush 26, 2) := by decide +kernel
theorem dX7_takeNumber_6 : decode cX7_takeNumber 6 = .ok (.if_icmp .eq 9, 3) := by decide +kernel
theorem dX7_takeNumber_9 : decode cX7_takeNumber 9 = .ok (.aload_n 0, 1) := by decide +kernel
theorem dX7_takeNumber_10 : decode cX7_takeNumber 10 = .ok (.iconst 2, 1) := by decide +kernel
theorem dX7_takeNumber_11 : decode cX7_takeNumber 11 = .ok (.invokevirtual 46, 3) := by decide +kernel
theorem dX7_takeNumber_14 : decode cX7_takeNumber 14 = .ok (.ireturn, 1) := by decide +kernel
theorem dX7_takeNumber_15 : decode cX7_takeNumber 15 = .ok (.aload_n 0, 1) := by decide +kernel
theorem dX7_takeNumber_16 : decode cX7_takeNumber 16 = .ok (.getfield 50, 3) := by decide +kernel
theorem dX7_takeNumber_19 : decode cX7_takeNumber 19 = .ok (.iload_n 1, 1) := by decide +kernel
theorem dX7_takeNumber_20 : decode cX7_takeNumber 20 = .ok (.if_icmp .lt 11, 3) := by decide +kernel
theorem dX7_takeNumber_23 : decode cX7_takeNumber 23 = .ok (.aload_n 0, 1) := by decide +kernel
theorem dX7_takeNumber_24 : decode cX7_takeNumber 24 = .ok (.getfield 50, 3) := by decide +kernel
theorem dX7_takeNumber_27 : decode cX7_takeNumber 27 = .ok (.iload_n 2, 1) := by decide +kernel
theorem dX7_takeNumber_28 : decode cX7_takeNumber 28 = .ok (.if_icmp .le 9, 3) := by decide +kernel
theorem dX7_takeNumber_31 : decode cX7_takeNumber 31 = .ok (.aload_n 0, 1) := by decide +kernel
theorem dX7_takeNumber_32 : decode cX7_takeNumber 32 = .ok (.iconst 4, 1) := by decide +kernel
theorem dX7_takeNumber_33 : decode cX7_takeNumber 33 = .ok (.invokevirtual 46, 3) := by decide +kernel
theorem dX7_takeNumber_36 : decode cX7_takeNumber 36 = .ok (.ireturn, 1) := by decide +kernel
theorem dX7_takeNumber_37 : decode cX7_takeNumber 37 = .ok (.aload_n 0, 1) := by decide +kernel
theorem dX7_takeNumber_38 : decode cX7_takeNumber 38 = .ok (.aload_n 0, 1) := by decide +kernel
theorem dX7_takeNumber_39 : decode cX7_takeNumber 39 = .ok (.getfield 50, 3) := by decide +kernel
theorem dX7_takeNumber_42 : decode cX7_takeNumber 42 = .ok (.putfield 53, 3) := by decide +kernel
theorem dX7_takeNumber_45 : decode cX7_takeNumber 45 = .ok (.aload_n 0, 1) := by decide +kernel
theorem dX7_takeNumber_46 : decode cX7_takeNumber 46 = .ok (.invokevirtual 37, 3) := by decide +kernel
theorem dX7_takeNumber_49 : decode cX7_takeNumber 49 = .ok (.iconst 1, 1) := by decide +kernel
theorem dX7_takeNumber_50 : decode cX7_takeNumber 50 = .ok (.ireturn, 1) := by decide +kernel
theorem dX7_namedGuest_0 : decode cX7_namedGuest 0 = .ok (.aload_n 0, 1) := by decide +kernel
theorem dX7_namedGuest_1 : decode cX7_namedGuest 1 = .ok (.getfield 40, 3) := by decide +kernel
theorem dX7_namedGuest_4 : decode cX7_namedGuest 4 = .ok (.bipush 24, 2) := by decide +kernel
theorem dX7_namedGuest_6 : decode cX7_namedGuest 6 = .ok (.if_icmp .eq 11, 3) := by decide +kernel
theorem dX7_namedGuest_9 : decode cX7_namedGuest 9 = .ok (.aload_n 0, 1) := by decide +kernel
theorem dX7_namedGuest_10 : decode cX7_namedGuest 10 = .ok (.iconst 2, 1) := by decide +kernel
theorem dX7_namedGuest_11 : decode cX7_namedGuest 11 = .ok (.invokevirtual 46, 3) := by decide +kernel
theorem dX7_namedGuest_14 : decode cX7_namedGuest 14 = .ok (.pop, 1) := by decide +kernel
theorem dX7_namedGuest_15 : decode cX7_namedGuest 15 = .ok (.iconst (-1), 1) := by decide +kernel
theorem dX7_namedGuest_16 : decode cX7_namedGuest 16 = .ok (.ireturn, 1) := by decide +kernel
theorem dX7_namedGuest_17 : decode cX7_namedGuest 17 = .ok (.aload_n 1, 1) := by decide +kernel
theorem dX7_namedGuest_18 : decode cX7_namedGuest 18 = .ok (.aload_n 0, 1) := by decide +kernel
theorem dX7_namedGuest_19 : decode cX7_namedGuest 19 = .ok (.getfield 56, 3) := by decide +kernel
theorem dX7_namedGuest_22 : decode cX7_namedGuest 22 = .ok (.invokevirtual 60, 3) := by decide +kernel
theorem dX7_namedGuest_25 : decode cX7_namedGuest 25 = .ok (.istore_n 2, 1) := by decide +kernel
theorem dX7_namedGuest_26 : decode cX7_namedGuest 26 = .ok (.iload_n 2, 1) := by decide +kernel
theorem dX7_namedGuest_27 : decode cX7_namedGuest 27 = .ok (.iconst (-1), 1) := by decide +kernel
theorem dX7_namedGuest_28 : decode cX7_namedGuest 28 = .ok (.if_icmp .ne 9, 3) := by decide +kernel
theorem dX7_namedGuest_31 : decode cX7_namedGuest 31 = .ok (.aload_n 0, 1) := by decide +kernel
theorem dX7_namedGuest_32 : decode cX7_namedGuest 32 = .ok (.iconst 3, 1) := by decide +kernel
theorem dX7_namedGuest_33 : decode cX7_namedGuest 33 = .ok (.invokevirtual 46, 3) := by decide +kernel
theorem dX7_namedGuest_36 : decode cX7_namedGuest 36 = .ok (.pop, 1) := by decide +kernel
theorem dX7_namedGuest_37 : decode cX7_namedGuest 37 = .ok (.iload_n 2, 1) := by decide +kernel
theorem dX7_namedGuest_38 : decode cX7_namedGuest 38 = .ok (.ireturn, 1) := by decide +kernel
theorem dX7_advance_0 : decode cX7_advance 0 = .ok (.aload_n 0, 1) := by decide +kernel
theorem dX7_advance_1 : decode cX7_advance 1 = .ok (.getfield 34, 3) := by decide +kernel
theorem dX7_advance_4 : decode cX7_advance 4 = .ok (.aload_n 0, 1) := by decide +kernel
theorem dX7_advance_5 : decode cX7_advance 5 = .ok (.getfield 31, 3) := by decide +kernel
theorem dX7_advance_8 : decode cX7_advance 8 = .ok (.if_icmp .ge 44, 3) := by decide +kernel
theorem dX7_advance_11 : decode cX7_advance 11 = .ok (.aload_n 0, 1) := by decide +kernel
theorem dX7_advance_12 : decode cX7_advance 12 = .ok (.getfield 9, 3) := by decide +kernel
theorem dX7_advance_15 : decode cX7_advance 15 = .ok (.aload_n 0, 1) := by decide +kernel
theorem dX7_advance_16 : decode cX7_advance 16 = .ok (.getfield 34, 3) := by decide +kernel
theorem dX7_advance_19 : decode cX7_advance 19 = .ok (.baload, 1) := by decide +kernel
theorem dX7_advance_20 : decode cX7_advance 20 = .ok (.bipush 10, 2) := by decide +kernel
theorem dX7_advance_22 : decode cX7_advance 22 = .ok (.if_icmp .eq 17, 3) := by decide +kernel
theorem dX7_advance_25 : decode cX7_advance 25 = .ok (.aload_n 0, 1) := by decide +kernel
theorem dX7_advance_26 : decode cX7_advance 26 = .ok (.getfield 9, 3) := by decide +kernel
theorem dX7_advance_29 : decode cX7_advance 29 = .ok (.aload_n 0, 1) := by decide +kernel
theorem dX7_advance_30 : decode cX7_advance 30 = .ok (.getfield 34, 3) := by decide +kernel
theorem dX7_advance_33 : decode cX7_advance 33 = .ok (.baload, 1) := by decide +kernel
theorem dX7_advance_34 : decode cX7_advance 34 = .ok (.bipush 32, 2) := by decide +kernel
theorem dX7_advance_36 : decode cX7_advance 36 = .ok (.if_icmp .ne 16, 3) := by decide +kernel
theorem dX7_advance_39 : decode cX7_advance 39 = .ok (.aload_n 0, 1) := by decide +kernel
theorem dX7_advance_40 : decode cX7_advance 40 = .ok (.dup, 1) := by decide +kernel
theorem dX7_advance_41 : decode cX7_advance 41 = .ok (.getfield 34, 3) := by decide +kernel
theorem dX7_advance_44 : decode cX7_advance 44 = .ok (.iconst 1, 1) := by decide +kernel
theorem dX7_advance_45 : decode cX7_advance 45 = .ok (.iadd, 1) := by decide +kernel
theorem dX7_advance_46 : decode cX7_advance 46 = .ok (.putfield 34, 3) := by decide +kernel
theorem dX7_advance_49 : decode cX7_advance 49 = .ok (.goto (-49), 3) := by decide +kernel
theorem dX7_advance_52 : decode cX7_advance 52 = .ok (.aload_n 0, 1) := by decide +kernel
theorem dX7_advance_53 : decode cX7_advance 53 = .ok (.aload_n 0, 1) := by decide +kernel
theorem dX7_advance_54 : decode cX7_advance 54 = .ok (.getfield 34, 3) := by decide +kernel
theorem dX7_advance_57 : decode cX7_advance 57 = .ok (.putfield 43, 3) := by decide +kernel
theorem dX7_advance_60 : decode cX7_advance 60 = .ok (.aload_n 0, 1) := by decide +kernel
theorem dX7_advance_61 : decode cX7_advance 61 = .ok (.lconst 0, 1) := by decide +kernel
theorem dX7_advance_62 : decode cX7_advance 62 = .ok (.putfield 56, 3) := by decide +kernel
theorem dX7_advance_65 : decode cX7_advance 65 = .ok (.aload_n 0, 1) := by decide +kernel
theorem dX7_advance_66 : decode cX7_advance 66 = .ok (.iconst 0, 1) := by decide +kernel
theorem dX7_advance_67 : decode cX7_advance 67 = .ok (.putfield 50, 3) := by decide +kernel
theorem dX7_advance_70 : decode cX7_advance 70 = .ok (.aload_n 0, 1) := by decide +kernel
theorem dX7_advance_71 : decode cX7_advance 71 = .ok (.getfield 34, 3) := by decide +kernel
theorem dX7_advance_74 : decode cX7_advance 74 = .ok (.aload_n 0, 1) := by decide +kernel
theorem dX7_advance_75 : decode cX7_advance 75 = .ok (.getfield 31, 3) := by decide +kernel
theorem dX7_advance_78 : decode cX7_advance 78 = .ok (.if_icmp .lt 9, 3) := by decide +kernel
theorem dX7_advance_81 : decode cX7_advance 81 = .ok (.aload_n 0, 1) := by decide +kernel
theorem dX7_advance_82 : decode cX7_advance 82 = .ok (.iconst 0, 1) := by decide +kernel
theorem dX7_advance_83 : decode cX7_advance 83 = .ok (.putfield 40, 3) := by decide +kernel
theorem dX7_advance_86 : decode cX7_advance 86 = .ok (.return_, 1) := by decide +kernel
theorem dX7_advance_87 : decode cX7_advance 87 = .ok (.aload_n 0, 1) := by decide +kernel
theorem dX7_advance_88 : decode cX7_advance 88 = .ok (.getfield 9, 3) := by decide +kernel
theorem dX7_advance_91 : decode cX7_advance 91 = .ok (.aload_n 0, 1) := by decide +kernel
theorem dX7_advance_92 : decode cX7_advance 92 = .ok (.getfield 34, 3) := by decide +kernel
theorem dX7_advance_95 : decode cX7_advance 95 = .ok (.baload, 1) := by decide +kernel
theorem dX7_advance_96 : decode cX7_advance 96 = .ok (.istore_n 1, 1) := by decide +kernel
theorem dX7_advance_97 : decode cX7_advance 97 = .ok (.iload_n 1, 1) := by decide +kernel
theorem dX7_advance_98 : decode cX7_advance 98 = .ok (.bipush 97, 2) := by decide +kernel
theorem dX7_advance_100 : decode cX7_advance 100 = .ok (.if_icmp .lt 46, 3) := by decide +kernel
theorem dX7_advance_103 : decode cX7_advance 103 = .ok (.iload_n 1, 1) := by decide +kernel
theorem dX7_advance_104 : decode cX7_advance 104 = .ok (.bipush 122, 2) := by decide +kernel
theorem dX7_advance_106 : decode cX7_advance 106 = .ok (.if_icmp .gt 40, 3) := by decide +kernel
theorem dX7_advance_109 : decode cX7_advance 109 = .ok (.aload_n 0, 1) := by decide +kernel
theorem dX7_advance_110 : decode cX7_advance 110 = .ok (.invokevirtual 66, 3) := by decide +kernel
theorem dX7_advance_113 : decode cX7_advance 113 = .ok (.aload_n 0, 1) := by decide +kernel
theorem dX7_advance_114 : decode cX7_advance 114 = .ok (.aload_n 0, 1) := by decide +kernel
theorem dX7_advance_115 : decode cX7_advance 115 = .ok (.getfield 34, 3) := by decide +kernel
theorem dX7_advance_118 : decode cX7_advance 118 = .ok (.aload_n 0, 1) := by decide +kernel
theorem dX7_advance_119 : decode cX7_advance 119 = .ok (.getfield 43, 3) := by decide +kernel
theorem dX7_advance_122 : decode cX7_advance 122 = .ok (.isub, 1) := by decide +kernel
theorem dX7_advance_123 : decode cX7_advance 123 = .ok (.bipush 8, 2) := by decide +kernel
theorem dX7_advance_125 : decode cX7_advance 125 = .ok (.if_icmp .le 8, 3) := by decide +kernel
theorem dX7_advance_128 : decode cX7_advance 128 = .ok (.bipush 25, 2) := by decide +kernel
theorem dX7_advance_130 : decode cX7_advance 130 = .ok (.goto 10, 3) := by decide +kernel
theorem dX7_advance_133 : decode cX7_advance 133 = .ok (.aload_n 0, 1) := by decide +kernel
theorem dX7_advance_134 : decode cX7_advance 134 = .ok (.getfield 56, 3) := by decide +kernel
theorem dX7_advance_137 : decode cX7_advance 137 = .ok (.invokestatic 69, 3) := by decide +kernel
theorem dX7_advance_140 : decode cX7_advance 140 = .ok (.putfield 40, 3) := by decide +kernel
theorem dX7_advance_143 : decode cX7_advance 143 = .ok (.goto 92, 3) := by decide +kernel
theorem dX7_advance_146 : decode cX7_advance 146 = .ok (.iload_n 1, 1) := by decide +kernel
theorem dX7_advance_147 : decode cX7_advance 147 = .ok (.bipush 48, 2) := by decide +kernel
theorem dX7_advance_149 : decode cX7_advance 149 = .ok (.if_icmp .lt 39, 3) := by decide +kernel
theorem dX7_advance_152 : decode cX7_advance 152 = .ok (.iload_n 1, 1) := by decide +kernel
theorem dX7_advance_153 : decode cX7_advance 153 = .ok (.bipush 57, 2) := by decide +kernel
theorem dX7_advance_155 : decode cX7_advance 155 = .ok (.if_icmp .gt 33, 3) := by decide +kernel
theorem dX7_advance_158 : decode cX7_advance 158 = .ok (.aload_n 0, 1) := by decide +kernel
theorem dX7_advance_159 : decode cX7_advance 159 = .ok (.invokevirtual 72, 3) := by decide +kernel
theorem dX7_advance_162 : decode cX7_advance 162 = .ok (.aload_n 0, 1) := by decide +kernel
theorem dX7_advance_163 : decode cX7_advance 163 = .ok (.aload_n 0, 1) := by decide +kernel
theorem dX7_advance_164 : decode cX7_advance 164 = .ok (.getfield 34, 3) := by decide +kernel
theorem dX7_advance_167 : decode cX7_advance 167 = .ok (.aload_n 0, 1) := by decide +kernel
theorem dX7_advance_168 : decode cX7_advance 168 = .ok (.getfield 43, 3) := by decide +kernel
theorem dX7_advance_171 : decode cX7_advance 171 = .ok (.isub, 1) := by decide +kernel
theorem dX7_advance_172 : decode cX7_advance 172 = .ok (.iconst 4, 1) := by decide +kernel
theorem dX7_advance_173 : decode cX7_advance 173 = .ok (.if_icmp .le 7, 3) := by decide +kernel
theorem dX7_advance_176 : decode cX7_advance 176 = .ok (.iconst (-1), 1) := by decide +kernel
theorem dX7_advance_177 : decode cX7_advance 177 = .ok (.goto 5, 3) := by decide +kernel
theorem dX7_advance_180 : decode cX7_advance 180 = .ok (.bipush 26, 2) := by decide +kernel
theorem dX7_advance_182 : decode cX7_advance 182 = .ok (.putfield 40, 3) := by decide +kernel
theorem dX7_advance_185 : decode cX7_advance 185 = .ok (.goto 50, 3) := by decide +kernel
theorem dX7_advance_188 : decode cX7_advance 188 = .ok (.iload_n 1, 1) := by decide +kernel
theorem dX7_advance_189 : decode cX7_advance 189 = .ok (.bipush 59, 2) := by decide +kernel
theorem dX7_advance_191 : decode cX7_advance 191 = .ok (.if_icmp .eq 21, 3) := by decide +kernel
theorem dX7_advance_194 : decode cX7_advance 194 = .ok (.iload_n 1, 1) := by decide +kernel
theorem dX7_advance_195 : decode cX7_advance 195 = .ok (.bipush 60, 2) := by decide +kernel
theorem dX7_advance_197 : decode cX7_advance 197 = .ok (.if_icmp .eq 15, 3) := by decide +kernel
theorem dX7_advance_200 : decode cX7_advance 200 = .ok (.iload_n 1, 1) := by decide +kernel
theorem dX7_advance_201 : decode cX7_advance 201 = .ok (.bipush 62, 2) := by decide +kernel
theorem dX7_advance_203 : decode cX7_advance 203 = .ok (.if_icmp .eq 9, 3) := by decide +kernel
theorem dX7_advance_206 : decode cX7_advance 206 = .ok (.iload_n 1, 1) := by decide +kernel
theorem dX7_advance_207 : decode cX7_advance 207 = .ok (.bipush 61, 2) := by decide +kernel
theorem dX7_advance_209 : decode cX7_advance 209 = .ok (.if_icmp .ne 21, 3) := by decide +kernel
theorem dX7_advance_212 : decode cX7_advance 212 = .ok (.aload_n 0, 1) := by decide +kernel
theorem dX7_advance_213 : decode cX7_advance 213 = .ok (.iload_n 1, 1) := by decide +kernel
theorem dX7_advance_214 : decode cX7_advance 214 = .ok (.putfield 40, 3) := by decide +kernel
theorem dX7_advance_217 : decode cX7_advance 217 = .ok (.aload_n 0, 1) := by decide +kernel
theorem dX7_advance_218 : decode cX7_advance 218 = .ok (.dup, 1) := by decide +kernel
theorem dX7_advance_219 : decode cX7_advance 219 = .ok (.getfield 34, 3) := by decide +kernel
theorem dX7_advance_222 : decode cX7_advance 222 = .ok (.iconst 1, 1) := by decide +kernel
theorem dX7_advance_223 : decode cX7_advance 223 = .ok (.iadd, 1) := by decide +kernel
theorem dX7_advance_224 : decode cX7_advance 224 = .ok (.putfield 34, 3) := by decide +kernel
theorem dX7_advance_227 : decode cX7_advance 227 = .ok (.goto 8, 3) := by decide +kernel
theorem dX7_advance_230 : decode cX7_advance 230 = .ok (.aload_n 0, 1) := by decide +kernel
theorem dX7_advance_231 : decode cX7_advance 231 = .ok (.iconst (-1), 1) := by decide +kernel
theorem dX7_advance_232 : decode cX7_advance 232 = .ok (.putfield 40, 3) := by decide +kernel
theorem dX7_advance_235 : decode cX7_advance 235 = .ok (.return_, 1) := by decide +kernel
theorem dX7_readLetters_0 : decode cX7_readLetters 0 = .ok (.aload_n 0, 1) := by decide +kernel
theorem dX7_readLetters_1 : decode cX7_readLetters 1 = .ok (.getfield 34, 3) := by decide +kernel
theorem dX7_readLetters_4 : decode cX7_readLetters 4 = .ok (.aload_n 0, 1) := by decide +kernel
theorem dX7_readLetters_5 : decode cX7_readLetters 5 = .ok (.getfield 31, 3) := by decide +kernel
theorem dX7_readLetters_8 : decode cX7_readLetters 8 = .ok (.if_icmp .ge 72, 3) := by decide +kernel
theorem dX7_readLetters_11 : decode cX7_readLetters 11 = .ok (.aload_n 0, 1) := by decide +kernel
theorem dX7_readLetters_12 : decode cX7_readLetters 12 = .ok (.getfield 9, 3) := by decide +kernel
theorem dX7_readLetters_15 : decode cX7_readLetters 15 = .ok (.aload_n 0, 1) := by decide +kernel
theorem dX7_readLetters_16 : decode cX7_readLetters 16 = .ok (.getfield 34, 3) := by decide +kernel
theorem dX7_readLetters_19 : decode cX7_readLetters 19 = .ok (.baload, 1) := by decide +kernel
theorem dX7_readLetters_20 : decode cX7_readLetters 20 = .ok (.bipush 97, 2) := by decide +kernel
theorem dX7_readLetters_22 : decode cX7_readLetters 22 = .ok (.if_icmp .lt 58, 3) := by decide +kernel
theorem dX7_readLetters_25 : decode cX7_readLetters 25 = .ok (.aload_n 0, 1) := by decide +kernel
theorem dX7_readLetters_26 : decode cX7_readLetters 26 = .ok (.getfield 9, 3) := by decide +kernel
theorem dX7_readLetters_29 : decode cX7_readLetters 29 = .ok (.aload_n 0, 1) := by decide +kernel
theorem dX7_readLetters_30 : decode cX7_readLetters 30 = .ok (.getfield 34, 3) := by decide +kernel
theorem dX7_readLetters_33 : decode cX7_readLetters 33 = .ok (.baload, 1) := by decide +kernel
theorem dX7_readLetters_34 : decode cX7_readLetters 34 = .ok (.bipush 122, 2) := by decide +kernel
theorem dX7_readLetters_36 : decode cX7_readLetters 36 = .ok (.if_icmp .gt 44, 3) := by decide +kernel
theorem dX7_readLetters_39 : decode cX7_readLetters 39 = .ok (.aload_n 0, 1) := by decide +kernel
theorem dX7_readLetters_40 : decode cX7_readLetters 40 = .ok (.aload_n 0, 1) := by decide +kernel
theorem dX7_readLetters_41 : decode cX7_readLetters 41 = .ok (.getfield 56, 3) := by decide +kernel
theorem dX7_readLetters_44 : decode cX7_readLetters 44 = .ok (.ldc2_w 75, 3) := by decide +kernel
theorem dX7_readLetters_47 : decode cX7_readLetters 47 = .ok (.lmul, 1) := by decide +kernel
theorem dX7_readLetters_48 : decode cX7_readLetters 48 = .ok (.aload_n 0, 1) := by decide +kernel
theorem dX7_readLetters_49 : decode cX7_readLetters 49 = .ok (.getfield 9, 3) := by decide +kernel
theorem dX7_readLetters_52 : decode cX7_readLetters 52 = .ok (.aload_n 0, 1) := by decide +kernel
theorem dX7_readLetters_53 : decode cX7_readLetters 53 = .ok (.getfield 34, 3) := by decide +kernel
theorem dX7_readLetters_56 : decode cX7_readLetters 56 = .ok (.baload, 1) := by decide +kernel
theorem dX7_readLetters_57 : decode cX7_readLetters 57 = .ok (.bipush 97, 2) := by decide +kernel
theorem dX7_readLetters_59 : decode cX7_readLetters 59 = .ok (.isub, 1) := by decide +kernel
theorem dX7_readLetters_60 : decode cX7_readLetters 60 = .ok (.iconst 1, 1) := by decide +kernel
theorem dX7_readLetters_61 : decode cX7_readLetters 61 = .ok (.iadd, 1) := by decide +kernel
theorem dX7_readLetters_62 : decode cX7_readLetters 62 = .ok (.i2l, 1) := by decide +kernel
theorem dX7_readLetters_63 : decode cX7_readLetters 63 = .ok (.ladd, 1) := by decide +kernel
theorem dX7_readLetters_64 : decode cX7_readLetters 64 = .ok (.putfield 56, 3) := by decide +kernel
theorem dX7_readLetters_67 : decode cX7_readLetters 67 = .ok (.aload_n 0, 1) := by decide +kernel
theorem dX7_readLetters_68 : decode cX7_readLetters 68 = .ok (.dup, 1) := by decide +kernel
theorem dX7_readLetters_69 : decode cX7_readLetters 69 = .ok (.getfield 34, 3) := by decide +kernel
theorem dX7_readLetters_72 : decode cX7_readLetters 72 = .ok (.iconst 1, 1) := by decide +kernel
theorem dX7_readLetters_73 : decode cX7_readLetters 73 = .ok (.iadd, 1) := by decide +kernel
theorem dX7_readLetters_74 : decode cX7_readLetters 74 = .ok (.putfield 34, 3) := by decide +kernel
theorem dX7_readLetters_77 : decode cX7_readLetters 77 = .ok (.goto (-77), 3) := by decide +kernel
theorem dX7_readLetters_80 : decode cX7_readLetters 80 = .ok (.return_, 1) := by decide +kernel
theorem dX7_readDigits_0 : decode cX7_readDigits 0 = .ok (.aload_n 0, 1) := by decide +kernel
theorem dX7_readDigits_1 : decode cX7_readDigits 1 = .ok (.getfield 34, 3) := by decide +kernel
theorem dX7_readDigits_4 : decode cX7_readDigits 4 = .ok (.aload_n 0, 1) := by decide +kernel
theorem dX7_readDigits_5 : decode cX7_readDigits 5 = .ok (.getfield 31, 3) := by decide +kernel
theorem dX7_readDigits_8 : decode cX7_readDigits 8 = .ok (.if_icmp .ge 68, 3) := by decide +kernel
theorem dX7_readDigits_11 : decode cX7_readDigits 11 = .ok (.aload_n 0, 1) := by decide +kernel
theorem dX7_readDigits_12 : decode cX7_readDigits 12 = .ok (.getfield 9, 3) := by decide +kernel
theorem dX7_readDigits_15 : decode cX7_readDigits 15 = .ok (.aload_n 0, 1) := by decide +kernel
theorem dX7_readDigits_16 : decode cX7_readDigits 16 = .ok (.getfield 34, 3) := by decide +kernel
theorem dX7_readDigits_19 : decode cX7_readDigits 19 = .ok (.baload, 1) := by decide +kernel
theorem dX7_readDigits_20 : decode cX7_readDigits 20 = .ok (.bipush 48, 2) := by decide +kernel
theorem dX7_readDigits_22 : decode cX7_readDigits 22 = .ok (.if_icmp .lt 54, 3) := by decide +kernel
theorem dX7_readDigits_25 : decode cX7_readDigits 25 = .ok (.aload_n 0, 1) := by decide +kernel
theorem dX7_readDigits_26 : decode cX7_readDigits 26 = .ok (.getfield 9, 3) := by decide +kernel
theorem dX7_readDigits_29 : decode cX7_readDigits 29 = .ok (.aload_n 0, 1) := by decide +kernel
theorem dX7_readDigits_30 : decode cX7_readDigits 30 = .ok (.getfield 34, 3) := by decide +kernel
theorem dX7_readDigits_33 : decode cX7_readDigits 33 = .ok (.baload, 1) := by decide +kernel
theorem dX7_readDigits_34 : decode cX7_readDigits 34 = .ok (.bipush 57, 2) := by decide +kernel
theorem dX7_readDigits_36 : decode cX7_readDigits 36 = .ok (.if_icmp .gt 40, 3) := by decide +kernel
theorem dX7_readDigits_39 : decode cX7_readDigits 39 = .ok (.aload_n 0, 1) := by decide +kernel
theorem dX7_readDigits_40 : decode cX7_readDigits 40 = .ok (.aload_n 0, 1) := by decide +kernel
theorem dX7_readDigits_41 : decode cX7_readDigits 41 = .ok (.getfield 50, 3) := by decide +kernel
theorem dX7_readDigits_44 : decode cX7_readDigits 44 = .ok (.bipush 10, 2) := by decide +kernel
theorem dX7_readDigits_46 : decode cX7_readDigits 46 = .ok (.imul, 1) := by decide +kernel
theorem dX7_readDigits_47 : decode cX7_readDigits 47 = .ok (.aload_n 0, 1) := by decide +kernel
theorem dX7_readDigits_48 : decode cX7_readDigits 48 = .ok (.getfield 9, 3) := by decide +kernel
theorem dX7_readDigits_51 : decode cX7_readDigits 51 = .ok (.aload_n 0, 1) := by decide +kernel
theorem dX7_readDigits_52 : decode cX7_readDigits 52 = .ok (.getfield 34, 3) := by decide +kernel
theorem dX7_readDigits_55 : decode cX7_readDigits 55 = .ok (.baload, 1) := by decide +kernel
theorem dX7_readDigits_56 : decode cX7_readDigits 56 = .ok (.bipush 48, 2) := by decide +kernel
theorem dX7_readDigits_58 : decode cX7_readDigits 58 = .ok (.isub, 1) := by decide +kernel
theorem dX7_readDigits_59 : decode cX7_readDigits 59 = .ok (.iadd, 1) := by decide +kernel
theorem dX7_readDigits_60 : decode cX7_readDigits 60 = .ok (.putfield 50, 3) := by decide +kernel
theorem dX7_readDigits_63 : decode cX7_readDigits 63 = .ok (.aload_n 0, 1) := by decide +kernel
theorem dX7_readDigits_64 : decode cX7_readDigits 64 = .ok (.dup, 1) := by decide +kernel
theorem dX7_readDigits_65 : decode cX7_readDigits 65 = .ok (.getfield 34, 3) := by decide +kernel
theorem dX7_readDigits_68 : decode cX7_readDigits 68 = .ok (.iconst 1, 1) := by decide +kernel
theorem dX7_readDigits_69 : decode cX7_readDigits 69 = .ok (.iadd, 1) := by decide +kernel
theorem dX7_readDigits_70 : decode cX7_readDigits 70 = .ok (.putfield 34, 3) := by decide +kernel
theorem dX7_readDigits_73 : decode cX7_readDigits 73 = .ok (.goto (-73), 3) := by decide +kernel
theorem dX7_readDigits_76 : decode cX7_readDigits 76 = .ok (.return_, 1) := by decide +kernel
theorem dX7_kindOfWord_0 : decode cX7_kindOfWord 0 = .ok (.iconst 1, 1) := by decide +kernel
theorem dX7_kindOfWord_1 : decode cX7_kindOfWord 1 = .ok (.istore_n 2, 1) := by decide +kernel
theorem dX7_kindOfWord_2 : decode cX7_kindOfWord 2 = .ok (.lconst 0, 1) := by decide +kernel
theorem dX7_kindOfWord_3 : decode cX7_kindOfWord 3 = .ok (.lstore_n 3, 1) := by decide +kernel
theorem dX7_kindOfWord_4 : decode cX7_kindOfWord 4 = .ok (.iconst 0, 1) := by decide +kernel
theorem dX7_kindOfWord_5 : decode cX7_kindOfWord 5 = .ok (.istore 5, 2) := by decide +kernel
theorem dX7_kindOfWord_7 : decode cX7_kindOfWord 7 = .ok (.iload 5, 2) := by decide +kernel
theorem dX7_kindOfWord_9 : decode cX7_kindOfWord 9 = .ok (.ldc 77, 2) := by decide +kernel
theorem dX7_kindOfWord_11 : decode cX7_kindOfWord 11 = .ok (.invokevirtual 79, 3) := by decide +kernel
theorem dX7_kindOfWord_14 : decode cX7_kindOfWord 14 = .ok (.if_icmp .ge 56, 3) := by decide +kernel
theorem dX7_kindOfWord_17 : decode cX7_kindOfWord 17 = .ok (.ldc 77, 2) := by decide +kernel
theorem dX7_kindOfWord_19 : decode cX7_kindOfWord 19 = .ok (.iload 5, 2) := by decide +kernel
theorem dX7_kindOfWord_21 : decode cX7_kindOfWord 21 = .ok (.invokevirtual 84, 3) := by decide +kernel
theorem dX7_kindOfWord_24 : decode cX7_kindOfWord 24 = .ok (.istore 6, 2) := by decide +kernel
theorem dX7_kindOfWord_26 : decode cX7_kindOfWord 26 = .ok (.iload 6, 2) := by decide +kernel
theorem dX7_kindOfWord_28 : decode cX7_kindOfWord 28 = .ok (.bipush 32, 2) := by decide +kernel
theorem dX7_kindOfWord_30 : decode cX7_kindOfWord 30 = .ok (.if_icmp .eq 21, 3) := by decide +kernel
theorem dX7_kindOfWord_33 : decode cX7_kindOfWord 33 = .ok (.lload_n 3, 1) := by decide +kernel
theorem dX7_kindOfWord_34 : decode cX7_kindOfWord 34 = .ok (.ldc2_w 75, 3) := by decide +kernel
theorem dX7_kindOfWord_37 : decode cX7_kindOfWord 37 = .ok (.lmul, 1) := by decide +kernel
theorem dX7_kindOfWord_38 : decode cX7_kindOfWord 38 = .ok (.iload 6, 2) := by decide +kernel
theorem dX7_kindOfWord_40 : decode cX7_kindOfWord 40 = .ok (.bipush 97, 2) := by decide +kernel
theorem dX7_kindOfWord_42 : decode cX7_kindOfWord 42 = .ok (.isub, 1) := by decide +kernel
theorem dX7_kindOfWord_43 : decode cX7_kindOfWord 43 = .ok (.iconst 1, 1) := by decide +kernel
theorem dX7_kindOfWord_44 : decode cX7_kindOfWord 44 = .ok (.iadd, 1) := by decide +kernel
theorem dX7_kindOfWord_45 : decode cX7_kindOfWord 45 = .ok (.i2l, 1) := by decide +kernel
theorem dX7_kindOfWord_46 : decode cX7_kindOfWord 46 = .ok (.ladd, 1) := by decide +kernel
theorem dX7_kindOfWord_47 : decode cX7_kindOfWord 47 = .ok (.lstore_n 3, 1) := by decide +kernel
theorem dX7_kindOfWord_48 : decode cX7_kindOfWord 48 = .ok (.goto 16, 3) := by decide +kernel
theorem dX7_kindOfWord_51 : decode cX7_kindOfWord 51 = .ok (.lload_n 3, 1) := by decide +kernel
theorem dX7_kindOfWord_52 : decode cX7_kindOfWord 52 = .ok (.lload_n 0, 1) := by decide +kernel
theorem dX7_kindOfWord_53 : decode cX7_kindOfWord 53 = .ok (.lcmp, 1) := by decide +kernel
theorem dX7_kindOfWord_54 : decode cX7_kindOfWord 54 = .ok (.ifCond .ne 5, 3) := by decide +kernel
theorem dX7_kindOfWord_57 : decode cX7_kindOfWord 57 = .ok (.iload_n 2, 1) := by decide +kernel
theorem dX7_kindOfWord_58 : decode cX7_kindOfWord 58 = .ok (.ireturn, 1) := by decide +kernel
theorem dX7_kindOfWord_59 : decode cX7_kindOfWord 59 = .ok (.lconst 0, 1) := by decide +kernel
theorem dX7_kindOfWord_60 : decode cX7_kindOfWord 60 = .ok (.lstore_n 3, 1) := by decide +kernel
theorem dX7_kindOfWord_61 : decode cX7_kindOfWord 61 = .ok (.iinc 2 1, 3) := by decide +kernel
theorem dX7_kindOfWord_64 : decode cX7_kindOfWord 64 = .ok (.iinc 5 1, 3) := by decide +kernel
theorem dX7_kindOfWord_67 : decode cX7_kindOfWord 67 = .ok (.goto (-60), 3) := by decide +kernel
theorem dX7_kindOfWord_70 : decode cX7_kindOfWord 70 = .ok (.bipush 24, 2) := by decide +kernel
theorem dX7_kindOfWord_72 : decode cX7_kindOfWord 72 = .ok (.ireturn, 1) := by decide +kernel
theorem dX8_init_0 : decode cX8_init 0 = .ok (.aload_n 0, 1) := by decide +kernel
theorem dX8_init_1 : decode cX8_init 1 = .ok (.invokespecial 3, 3) := by decide +kernel
theorem dX8_init_4 : decode cX8_init 4 = .ok (.aload_n 0, 1) := by decide +kernel
theorem dX8_init_5 : decode cX8_init 5 = .ok (.bipush 60, 2) := by decide +kernel
theorem dX8_init_7 : decode cX8_init 7 = .ok (.newarray .long, 2) := by decide +kernel
theorem dX8_init_9 : decode cX8_init 9 = .ok (.putfield 9, 3) := by decide +kernel
theorem dX8_init_12 : decode cX8_init 12 = .ok (.return_, 1) := by decide +kernel
theorem dX8_become_0 : decode cX8_become 0 = .ok (.aload_n 0, 1) := by decide +kernel
theorem dX8_become_1 : decode cX8_become 1 = .ok (.iconst 1, 1) := by decide +kernel
theorem dX8_become_2 : decode cX8_become 2 = .ok (.putfield 15, 3) := by decide +kernel
theorem dX8_become_5 : decode cX8_become 5 = .ok (.aload_n 0, 1) := by decide +kernel
theorem dX8_become_6 : decode cX8_become 6 = .ok (.iload_n 1, 1) := by decide +kernel
theorem dX8_become_7 : decode cX8_become 7 = .ok (.putfield 19, 3) := by decide +kernel
theorem dX8_become_10 : decode cX8_become 10 = .ok (.aload_n 0, 1) := by decide +kernel
theorem dX8_become_11 : decode cX8_become 11 = .ok (.iload_n 2, 1) := by decide +kernel
theorem dX8_become_12 : decode cX8_become 12 = .ok (.putfield 23, 3) := by decide +kernel
theorem dX8_become_15 : decode cX8_become 15 = .ok (.iconst 0, 1) := by decide +kernel
theorem dX8_become_16 : decode cX8_become 16 = .ok (.istore_n 3, 1) := by decide +kernel
theorem dX8_become_17 : decode cX8_become 17 = .ok (.iload_n 3, 1) := by decide +kernel
theorem dX8_become_18 : decode cX8_become 18 = .ok (.bipush 60, 2) := by decide +kernel
theorem dX8_become_20 : decode cX8_become 20 = .ok (.if_icmp .ge 16, 3) := by decide +kernel
theorem dX8_become_23 : decode cX8_become 23 = .ok (.aload_n 0, 1) := by decide +kernel
theorem dX8_become_24 : decode cX8_become 24 = .ok (.getfield 9, 3) := by decide +kernel
theorem dX8_become_27 : decode cX8_become 27 = .ok (.iload_n 3, 1) := by decide +kernel
theorem dX8_become_28 : decode cX8_become 28 = .ok (.lconst 0, 1) := by decide +kernel
theorem dX8_become_29 : decode cX8_become 29 = .ok (.lastore, 1) := by decide +kernel
theorem dX8_become_30 : decode cX8_become 30 = .ok (.iinc 3 1, 3) := by decide +kernel
theorem dX8_become_33 : decode cX8_become 33 = .ok (.goto (-16), 3) := by decide +kernel
theorem dX8_become_36 : decode cX8_become 36 = .ok (.return_, 1) := by decide +kernel
theorem dX8_has_0 : decode cX8_has 0 = .ok (.iload_n 1, 1) := by decide +kernel
theorem dX8_has_1 : decode cX8_has 1 = .ok (.ifCond .lt 25, 3) := by decide +kernel
theorem dX8_has_4 : decode cX8_has 4 = .ok (.iload_n 2, 1) := by decide +kernel
theorem dX8_has_5 : decode cX8_has 5 = .ok (.ifCond .lt 21, 3) := by decide +kernel
theorem dX8_has_8 : decode cX8_has 8 = .ok (.iload_n 1, 1) := by decide +kernel
theorem dX8_has_9 : decode cX8_has 9 = .ok (.i2l, 1) := by decide +kernel
theorem dX8_has_10 : decode cX8_has 10 = .ok (.iload_n 2, 1) := by decide +kernel
theorem dX8_has_11 : decode cX8_has 11 = .ok (.i2l, 1) := by decide +kernel
theorem dX8_has_12 : decode cX8_has 12 = .ok (.ladd, 1) := by decide +kernel
theorem dX8_has_13 : decode cX8_has 13 = .ok (.aload_n 0, 1) := by decide +kernel
theorem dX8_has_14 : decode cX8_has 14 = .ok (.getfield 23, 3) := by decide +kernel
theorem dX8_has_17 : decode cX8_has 17 = .ok (.i2l, 1) := by decide +kernel
theorem dX8_has_18 : decode cX8_has 18 = .ok (.lcmp, 1) := by decide +kernel
theorem dX8_has_19 : decode cX8_has 19 = .ok (.ifCond .gt 7, 3) := by decide +kernel
theorem dX8_has_22 : decode cX8_has 22 = .ok (.iconst 1, 1) := by decide +kernel
theorem dX8_has_23 : decode cX8_has 23 = .ok (.goto 4, 3) := by decide +kernel
theorem dX8_has_26 : decode cX8_has 26 = .ok (.iconst 0, 1) := by decide +kernel
theorem dX8_has_27 : decode cX8_has 27 = .ok (.ireturn, 1) := by decide +kernel
theorem dX8_put_0 : decode cX8_put 0 = .ok (.aload_n 0, 1) := by decide +kernel
theorem dX8_put_1 : decode cX8_put 1 = .ok (.iload_n 1, 1) := by decide +kernel
theorem dX8_put_2 : decode cX8_put 2 = .ok (.iconst 1, 1) := by decide +kernel
theorem dX8_put_3 : decode cX8_put 3 = .ok (.invokevirtual 26, 3) := by decide +kernel
theorem dX8_put_6 : decode cX8_put 6 = .ok (.ifCond .ne 4, 3) := by decide +kernel
theorem dX8_put_9 : decode cX8_put 9 = .ok (.return_, 1) := by decide +kernel
theorem dX8_put_10 : decode cX8_put 10 = .ok (.aload_n 0, 1) := by decide +kernel
theorem dX8_put_11 : decode cX8_put 11 = .ok (.getfield 19, 3) := by decide +kernel
theorem dX8_put_14 : decode cX8_put 14 = .ok (.tableswitch 64 0 2 #[26, 39, 52], 26) := by decide +kernel
theorem dX8_put_40 : decode cX8_put 40 = .ok (.aload_n 0, 1) := by decide +kernel
theorem dX8_put_41 : decode cX8_put 41 = .ok (.getfield 9, 3) := by decide +kernel
theorem dX8_put_44 : decode cX8_put 44 = .ok (.iload_n 1, 1) := by decide +kernel
theorem dX8_put_45 : decode cX8_put 45 = .ok (.lload_n 2, 1) := by decide +kernel
theorem dX8_put_46 : decode cX8_put 46 = .ok (.l2i, 1) := by decide +kernel
theorem dX8_put_47 : decode cX8_put 47 = .ok (.i2b, 1) := by decide +kernel
theorem dX8_put_48 : decode cX8_put 48 = .ok (.i2l, 1) := by decide +kernel
theorem dX8_put_49 : decode cX8_put 49 = .ok (.lastore, 1) := by decide +kernel
theorem dX8_put_50 : decode cX8_put 50 = .ok (.goto 35, 3) := by decide +kernel
theorem dX8_put_53 : decode cX8_put 53 = .ok (.aload_n 0, 1) := by decide +kernel
theorem dX8_put_54 : decode cX8_put 54 = .ok (.getfield 9, 3) := by decide +kernel
theorem dX8_put_57 : decode cX8_put 57 = .ok (.iload_n 1, 1) := by decide +kernel
theorem dX8_put_58 : decode cX8_put 58 = .ok (.lload_n 2, 1) := by decide +kernel
theorem dX8_put_59 : decode cX8_put 59 = .ok (.l2i, 1) := by decide +kernel
theorem dX8_put_60 : decode cX8_put 60 = .ok (.i2s, 1) := by decide +kernel
theorem dX8_put_61 : decode cX8_put 61 = .ok (.i2l, 1) := by decide +kernel
theorem dX8_put_62 : decode cX8_put 62 = .ok (.lastore, 1) := by decide +kernel
theorem dX8_put_63 : decode cX8_put 63 = .ok (.goto 22, 3) := by decide +kernel
theorem dX8_put_66 : decode cX8_put 66 = .ok (.aload_n 0, 1) := by decide +kernel
theorem dX8_put_67 : decode cX8_put 67 = .ok (.getfield 9, 3) := by decide +kernel
theorem dX8_put_70 : decode cX8_put 70 = .ok (.iload_n 1, 1) := by decide +kernel
theorem dX8_put_71 : decode cX8_put 71 = .ok (.lload_n 2, 1) := by decide +kernel
theorem dX8_put_72 : decode cX8_put 72 = .ok (.l2i, 1) := by decide +kernel
theorem dX8_put_73 : decode cX8_put 73 = .ok (.i2l, 1) := by decide +kernel
theorem dX8_put_74 : decode cX8_put 74 = .ok (.lastore, 1) := by decide +kernel
theorem dX8_put_75 : decode cX8_put 75 = .ok (.goto 10, 3) := by decide +kernel
theorem dX8_put_78 : decode cX8_put 78 = .ok (.aload_n 0, 1) := by decide +kernel
theorem dX8_put_79 : decode cX8_put 79 = .ok (.getfield 9, 3) := by decide +kernel
theorem dX8_put_82 : decode cX8_put 82 = .ok (.iload_n 1, 1) := by decide +kernel
theorem dX8_put_83 : decode cX8_put 83 = .ok (.lload_n 2, 1) := by decide +kernel
theorem dX8_put_84 : decode cX8_put 84 = .ok (.lastore, 1) := by decide +kernel
theorem dX8_put_85 : decode cX8_put 85 = .ok (.return_, 1) := by decide +kernel
theorem dX9_init_0 : decode cX9_init 0 = .ok (.aload_n 0, 1) := by decide +kernel
theorem dX9_init_1 : decode cX9_init 1 = .ok (.invokespecial 3, 3) := by decide +kernel
theorem dX9_init_4 : decode cX9_init 4 = .ok (.aload_n 0, 1) := by decide +kernel
theorem dX9_init_5 : decode cX9_init 5 = .ok (.bipush 30, 2) := by decide +kernel
theorem dX9_init_7 : decode cX9_init 7 = .ok (.newarray .int, 2) := by decide +kernel
theorem dX9_init_9 : decode cX9_init 9 = .ok (.putfield 9, 3) := by decide +kernel
theorem dX9_init_12 : decode cX9_init 12 = .ok (.aload_n 0, 1) := by decide +kernel
theorem dX9_init_13 : decode cX9_init 13 = .ok (.bipush 30, 2) := by decide +kernel
theorem dX9_init_15 : decode cX9_init 15 = .ok (.newarray .int, 2) := by decide +kernel
theorem dX9_init_17 : decode cX9_init 17 = .ok (.putfield 15, 3) := by decide +kernel
theorem dX9_init_20 : decode cX9_init 20 = .ok (.aload_n 0, 1) := by decide +kernel
theorem dX9_init_21 : decode cX9_init 21 = .ok (.bipush 30, 2) := by decide +kernel
theorem dX9_init_23 : decode cX9_init 23 = .ok (.newarray .int, 2) := by decide +kernel
theorem dX9_init_25 : decode cX9_init 25 = .ok (.putfield 18, 3) := by decide +kernel
theorem dX9_init_28 : decode cX9_init 28 = .ok (.aload_n 0, 1) := by decide +kernel
theorem dX9_init_29 : decode cX9_init 29 = .ok (.bipush 30, 2) := by decide +kernel
theorem dX9_init_31 : decode cX9_init 31 = .ok (.newarray .int, 2) := by decide +kernel
theorem dX9_init_33 : decode cX9_init 33 = .ok (.putfield 21, 3) := by decide +kernel
theorem dX9_init_36 : decode cX9_init 36 = .ok (.aload_n 0, 1) := by decide +kernel
theorem dX9_init_37 : decode cX9_init 37 = .ok (.bipush 30, 2) := by decide +kernel
theorem dX9_init_39 : decode cX9_init 39 = .ok (.newarray .int, 2) := by decide +kernel
theorem dX9_init_41 : decode cX9_init 41 = .ok (.putfield 24, 3) := by decide +kernel
theorem dX9_init_44 : decode cX9_init 44 = .ok (.aload_n 0, 1) := by decide +kernel
theorem dX9_init_45 : decode cX9_init 45 = .ok (.bipush 30, 2) := by decide +kernel
theorem dX9_init_47 : decode cX9_init 47 = .ok (.newarray .int, 2) := by decide +kernel
theorem dX9_init_49 : decode cX9_init 49 = .ok (.putfield 27, 3) := by decide +kernel
theorem dX9_init_52 : decode cX9_init 52 = .ok (.aload_n 0, 1) := by decide +kernel
theorem dX9_init_53 : decode cX9_init 53 = .ok (.bipush 30, 2) := by decide +kernel
theorem dX9_init_55 : decode cX9_init 55 = .ok (.newarray .int, 2) := by decide +kernel
theorem dX9_init_57 : decode cX9_init 57 = .ok (.putfield 30, 3) := by decide +kernel
theorem dX9_init_60 : decode cX9_init 60 = .ok (.return_, 1) := by decide +kernel
theorem dX9_forget_0 : decode cX9_forget 0 = .ok (.aload_n 0, 1) := by decide +kernel
theorem dX9_forget_1 : decode cX9_forget 1 = .ok (.iconst 0, 1) := by decide +kernel
theorem dX9_forget_2 : decode cX9_forget 2 = .ok (.putfield 33, 3) := by decide +kernel
theorem dX9_forget_5 : decode cX9_forget 5 = .ok (.aload_n 0, 1) := by decide +kernel
theorem dX9_forget_6 : decode cX9_forget 6 = .ok (.iconst 0, 1) := by decide +kernel
theorem dX9_forget_7 : decode cX9_forget 7 = .ok (.putfield 37, 3) := by decide +kernel
theorem dX9_forget_10 : decode cX9_forget 10 = .ok (.return_, 1) := by decide +kernel
theorem dX9_copyFrom_0 : decode cX9_copyFrom 0 = .ok (.aload_n 0, 1) := by decide +kernel
theorem dX9_copyFrom_1 : decode cX9_copyFrom 1 = .ok (.aload_n 1, 1) := by decide +kernel
theorem dX9_copyFrom_2 : decode cX9_copyFrom 2 = .ok (.getfield 33, 3) := by decide +kernel
theorem dX9_copyFrom_5 : decode cX9_copyFrom 5 = .ok (.putfield 33, 3) := by decide +kernel
theorem dX9_copyFrom_8 : decode cX9_copyFrom 8 = .ok (.aload_n 0, 1) := by decide +kernel
theorem dX9_copyFrom_9 : decode cX9_copyFrom 9 = .ok (.aload_n 1, 1) := by decide +kernel
theorem dX9_copyFrom_10 : decode cX9_copyFrom 10 = .ok (.getfield 37, 3) := by decide +kernel
theorem dX9_copyFrom_13 : decode cX9_copyFrom 13 = .ok (.putfield 37, 3) := by decide +kernel
theorem dX9_copyFrom_16 : decode cX9_copyFrom 16 = .ok (.aload_n 1, 1) := by decide +kernel
theorem dX9_copyFrom_17 : decode cX9_copyFrom 17 = .ok (.getfield 9, 3) := by decide +kernel
theorem dX9_copyFrom_20 : decode cX9_copyFrom 20 = .ok (.iconst 0, 1) := by decide +kernel
theorem dX9_copyFrom_21 : decode cX9_copyFrom 21 = .ok (.aload_n 0, 1) := by decide +kernel
theorem dX9_copyFrom_22 : decode cX9_copyFrom 22 = .ok (.getfield 9, 3) := by decide +kernel
theorem dX9_copyFrom_25 : decode cX9_copyFrom 25 = .ok (.iconst 0, 1) := by decide +kernel
theorem dX9_copyFrom_26 : decode cX9_copyFrom 26 = .ok (.bipush 30, 2) := by decide +kernel
theorem dX9_copyFrom_28 : decode cX9_copyFrom 28 = .ok (.invokestatic 41, 3) := by decide +kernel
theorem dX9_copyFrom_31 : decode cX9_copyFrom 31 = .ok (.aload_n 1, 1) := by decide +kernel
theorem dX9_copyFrom_32 : decode cX9_copyFrom 32 = .ok (.getfield 15, 3) := by decide +kernel
theorem dX9_copyFrom_35 : decode cX9_copyFrom 35 = .ok (.iconst 0, 1) := by decide +kernel
theorem dX9_copyFrom_36 : decode cX9_copyFrom 36 = .ok (.aload_n 0, 1) := by decide +kernel
theorem dX9_copyFrom_37 : decode cX9_copyFrom 37 = .ok (.getfield 15, 3) := by decide +kernel
theorem dX9_copyFrom_40 : decode cX9_copyFrom 40 = .ok (.iconst 0, 1) := by decide +kernel
theorem dX9_copyFrom_41 : decode cX9_copyFrom 41 = .ok (.bipush 30, 2) := by decide +kernel
theorem dX9_copyFrom_43 : decode cX9_copyFrom 43 = .ok (.invokestatic 41, 3) := by decide +kernel
theorem dX9_copyFrom_46 : decode cX9_copyFrom 46 = .ok (.aload_n 1, 1) := by decide +kernel
theorem dX9_copyFrom_47 : decode cX9_copyFrom 47 = .ok (.getfield 18, 3) := by decide +kernel
theorem dX9_copyFrom_50 : decode cX9_copyFrom 50 = .ok (.iconst 0, 1) := by decide +kernel
theorem dX9_copyFrom_51 : decode cX9_copyFrom 51 = .ok (.aload_n 0, 1) := by decide +kernel
theorem dX9_copyFrom_52 : decode cX9_copyFrom 52 = .ok (.getfield 18, 3) := by decide +kernel
theorem dX9_copyFrom_55 : decode cX9_copyFrom 55 = .ok (.iconst 0, 1) := by decide +kernel
theorem dX9_copyFrom_56 : decode cX9_copyFrom 56 = .ok (.bipush 30, 2) := by decide +kernel
theorem dX9_copyFrom_58 : decode cX9_copyFrom 58 = .ok (.invokestatic 41, 3) := by decide +kernel
theorem dX9_copyFrom_61 : decode cX9_copyFrom 61 = .ok (.aload_n 1, 1) := by decide +kernel
theorem dX9_copyFrom_62 : decode cX9_copyFrom 62 = .ok (.getfield 21, 3) := by decide +kernel
theorem dX9_copyFrom_65 : decode cX9_copyFrom 65 = .ok (.iconst 0, 1) := by decide +kernel
theorem dX9_copyFrom_66 : decode cX9_copyFrom 66 = .ok (.aload_n 0, 1) := by decide +kernel
theorem dX9_copyFrom_67 : decode cX9_copyFrom 67 = .ok (.getfield 21, 3) := by decide +kernel
theorem dX9_copyFrom_70 : decode cX9_copyFrom 70 = .ok (.iconst 0, 1) := by decide +kernel
theorem dX9_copyFrom_71 : decode cX9_copyFrom 71 = .ok (.bipush 30, 2) := by decide +kernel
theorem dX9_copyFrom_73 : decode cX9_copyFrom 73 = .ok (.invokestatic 41, 3) := by decide +kernel
theorem dX9_copyFrom_76 : decode cX9_copyFrom 76 = .ok (.aload_n 1, 1) := by decide +kernel
theorem dX9_copyFrom_77 : decode cX9_copyFrom 77 = .ok (.getfield 24, 3) := by decide +kernel
theorem dX9_copyFrom_80 : decode cX9_copyFrom 80 = .ok (.iconst 0, 1) := by decide +kernel
theorem dX9_copyFrom_81 : decode cX9_copyFrom 81 = .ok (.aload_n 0, 1) := by decide +kernel
theorem dX9_copyFrom_82 : decode cX9_copyFrom 82 = .ok (.getfield 24, 3) := by decide +kernel
theorem dX9_copyFrom_85 : decode cX9_copyFrom 85 = .ok (.iconst 0, 1) := by decide +kernel
theorem dX9_copyFrom_86 : decode cX9_copyFrom 86 = .ok (.bipush 30, 2) := by decide +kernel
theorem dX9_copyFrom_88 : decode cX9_copyFrom 88 = .ok (.invokestatic 41, 3) := by decide +kernel
theorem dX9_copyFrom_91 : decode cX9_copyFrom 91 = .ok (.aload_n 1, 1) := by decide +kernel
theorem dX9_copyFrom_92 : decode cX9_copyFrom 92 = .ok (.getfield 27, 3) := by decide +kernel
theorem dX9_copyFrom_95 : decode cX9_copyFrom 95 = .ok (.iconst 0, 1) := by decide +kernel
theorem dX9_copyFrom_96 : decode cX9_copyFrom 96 = .ok (.aload_n 0, 1) := by decide +kernel
theorem dX9_copyFrom_97 : decode cX9_copyFrom 97 = .ok (.getfield 27, 3) := by decide +kernel
theorem dX9_copyFrom_100 : decode cX9_copyFrom 100 = .ok (.iconst 0, 1) := by decide +kernel
theorem dX9_copyFrom_101 : decode cX9_copyFrom 101 = .ok (.bipush 30, 2) := by decide +kernel
theorem dX9_copyFrom_103 : decode cX9_copyFrom 103 = .ok (.invokestatic 41, 3) := by decide +kernel
theorem dX9_copyFrom_106 : decode cX9_copyFrom 106 = .ok (.aload_n 1, 1) := by decide +kernel
theorem dX9_copyFrom_107 : decode cX9_copyFrom 107 = .ok (.getfield 30, 3) := by decide +kernel
theorem dX9_copyFrom_110 : decode cX9_copyFrom 110 = .ok (.iconst 0, 1) := by decide +kernel
theorem dX9_copyFrom_111 : decode cX9_copyFrom 111 = .ok (.aload_n 0, 1) := by decide +kernel
theorem dX9_copyFrom_112 : decode cX9_copyFrom 112 = .ok (.getfield 30, 3) := by decide +kernel
theorem dX9_copyFrom_115 : decode cX9_copyFrom 115 = .ok (.iconst 0, 1) := by decide +kernel
theorem dX9_copyFrom_116 : decode cX9_copyFrom 116 = .ok (.bipush 30, 2) := by decide +kernel
theorem dX9_copyFrom_118 : decode cX9_copyFrom 118 = .ok (.invokestatic 41, 3) := by decide +kernel
theorem dX9_copyFrom_121 : decode cX9_copyFrom 121 = .ok (.return_, 1) := by decide +kernel
theorem dX10_init_0 : decode cX10_init 0 = .ok (.aload_n 0, 1) := by decide +kernel
theorem dX10_init_1 : decode cX10_init 1 = .ok (.invokespecial 3, 3) := by decide +kernel
theorem dX10_init_4 : decode cX10_init 4 = .ok (.aload_n 0, 1) := by decide +kernel
theorem dX10_init_5 : decode cX10_init 5 = .ok (.new 9, 3) := by decide +kernel
theorem dX10_init_8 : decode cX10_init 8 = .ok (.dup, 1) := by decide +kernel
theorem dX10_init_9 : decode cX10_init 9 = .ok (.invokespecial 11, 3) := by decide +kernel
theorem dX10_init_12 : decode cX10_init 12 = .ok (.putfield 12, 3) := by decide +kernel
theorem dX10_init_15 : decode cX10_init 15 = .ok (.aload_n 0, 1) := by decide +kernel
theorem dX10_init_16 : decode cX10_init 16 = .ok (.iconst 3, 1) := by decide +kernel
theorem dX10_init_17 : decode cX10_init 17 = .ok (.newarray .int, 2) := by decide +kernel
theorem dX10_init_19 : decode cX10_init 19 = .ok (.putfield 18, 3) := by decide +kernel
theorem dX10_init_22 : decode cX10_init 22 = .ok (.aload_n 0, 1) := by decide +kernel
theorem dX10_init_23 : decode cX10_init 23 = .ok (.aload_n 1, 1) := by decide +kernel
theorem dX10_init_24 : decode cX10_init 24 = .ok (.putfield 22, 3) := by decide +kernel
theorem dX10_init_27 : decode cX10_init 27 = .ok (.aload_n 0, 1) := by decide +kernel
theorem dX10_init_28 : decode cX10_init 28 = .ok (.aload_n 2, 1) := by decide +kernel
theorem dX10_init_29 : decode cX10_init 29 = .ok (.putfield 26, 3) := by decide +kernel
theorem dX10_init_32 : decode cX10_init 32 = .ok (.return_, 1) := by decide +kernel
theorem dX10_isWeeks_0 : decode cX10_isWeeks 0 = .ok (.aload_n 0, 1) := by decide +kernel
theorem dX10_isWeeks_1 : decode cX10_isWeeks 1 = .ok (.getfield 12, 3) := by decide +kernel
theorem dX10_isWeeks_4 : decode cX10_isWeeks 4 = .ok (.invokevirtual 30, 3) := by decide +kernel
theorem dX10_isWeeks_7 : decode cX10_isWeeks 7 = .ok (.aload_n 0, 1) := by decide +kernel
theorem dX10_isWeeks_8 : decode cX10_isWeeks 8 = .ok (.iconst 0, 1) := by decide +kernel
theorem dX10_isWeeks_9 : decode cX10_isWeeks 9 = .ok (.putfield 33, 3) := by decide +kernel
theorem dX10_isWeeks_12 : decode cX10_isWeeks 12 = .ok (.iconst 1, 1) := by decide +kernel
theorem dX10_isWeeks_13 : decode cX10_isWeeks 13 = .ok (.istore_n 1, 1) := by decide +kernel
theorem dX10_isWeeks_14 : decode cX10_isWeeks 14 = .ok (.iconst 0, 1) := by decide +kernel
theorem dX10_isWeeks_15 : decode cX10_isWeeks 15 = .ok (.istore_n 2, 1) := by decide +kernel
theorem dX10_isWeeks_16 : decode cX10_isWeeks 16 = .ok (.iload_n 2, 1) := by decide +kernel
theorem dX10_isWeeks_17 : decode cX10_isWeeks 17 = .ok (.sipush 300, 3) := by decide +kernel
theorem dX10_isWeeks_20 : decode cX10_isWeeks 20 = .ok (.if_icmp .gt 91, 3) := by decide +kernel
theorem dX10_isWeeks_23 : decode cX10_isWeeks 23 = .ok (.iload_n 1, 1) := by decide +kernel
theorem dX10_isWeeks_24 : decode cX10_isWeeks 24 = .ok (.ifCond .eq 87, 3) := by decide +kernel
theorem dX10_isWeeks_27 : decode cX10_isWeeks 27 = .ok (.aload_n 0, 1) := by decide +kernel
theorem dX10_isWeeks_28 : decode cX10_isWeeks 28 = .ok (.getfield 22, 3) := by decide +kernel
theorem dX10_isWeeks_31 : decode cX10_isWeeks 31 = .ok (.getfield 37, 3) := by decide +kernel
theorem dX10_isWeeks_34 : decode cX10_isWeeks 34 = .ok (.ifCond .eq 77, 3) := by decide +kernel
theorem dX10_isWeeks_37 : decode cX10_isWeeks 37 = .ok (.aload_n 0, 1) := by decide +kernel
theorem dX10_isWeeks_38 : decode cX10_isWeeks 38 = .ok (.getfield 12, 3) := by decide +kernel
theorem dX10_isWeeks_41 : decode cX10_isWeeks 41 = .ok (.getfield 42, 3) := by decide +kernel
theorem dX10_isWeeks_44 : decode cX10_isWeeks 44 = .ok (.istore_n 3, 1) := by decide +kernel
theorem dX10_isWeeks_45 : decode cX10_isWeeks 45 = .ok (.aload_n 0, 1) := by decide +kernel
theorem dX10_isWeeks_46 : decode cX10_isWeeks 46 = .ok (.getfield 22, 3) := by decide +kernel
theorem dX10_isWeeks_49 : decode cX10_isWeeks 49 = .ok (.getfield 37, 3) := by decide +kernel
theorem dX10_isWeeks_52 : decode cX10_isWeeks 52 = .ok (.bipush 11, 2) := by decide +kernel
theorem dX10_isWeeks_54 : decode cX10_isWeeks 54 = .ok (.if_icmp .ne 11, 3) := by decide +kernel
theorem dX10_isWeeks_57 : decode cX10_isWeeks 57 = .ok (.aload_n 0, 1) := by decide +kernel
theorem dX10_isWeeks_58 : decode cX10_isWeeks 58 = .ok (.invokevirtual 45, 3) := by decide +kernel
theorem dX10_isWeeks_61 : decode cX10_isWeeks 61 = .ok (.istore_n 1, 1) := by decide +kernel
theorem dX10_isWeeks_62 : decode cX10_isWeeks 62 = .ok (.goto 43, 3) := by decide +kernel
theorem dX10_isWeeks_65 : decode cX10_isWeeks 65 = .ok (.aload_n 0, 1) := by decide +kernel
theorem dX10_isWeeks_66 : decode cX10_isWeeks 66 = .ok (.aload_n 0, 1) := by decide +kernel
theorem dX10_isWeeks_67 : decode cX10_isWeeks 67 = .ok (.getfield 22, 3) := by decide +kernel
theorem dX10_isWeeks_70 : decode cX10_isWeeks 70 = .ok (.getfield 37, 3) := by decide +kernel
theorem dX10_isWeeks_73 : decode cX10_isWeeks 73 = .ok (.invokevirtual 49, 3) := by decide +kernel
theorem dX10_isWeeks_76 : decode cX10_isWeeks 76 = .ok (.ifCond .eq 27, 3) := by decide +kernel
theorem dX10_isWeeks_79 : decode cX10_isWeeks 79 = .ok (.aload_n 0, 1) := by decide +kernel
theorem dX10_isWeeks_80 : decode cX10_isWeeks 80 = .ok (.iload_n 3, 1) := by decide +kernel
theorem dX10_isWeeks_81 : decode cX10_isWeeks 81 = .ok (.invokevirtual 53, 3) := by decide +kernel
theorem dX10_isWeeks_84 : decode cX10_isWeeks 84 = .ok (.ifCond .eq 19, 3) := by decide +kernel
theorem dX10_isWeeks_87 : decode cX10_isWeeks 87 = .ok (.aload_n 0, 1) := by decide +kernel
theorem dX10_isWeeks_88 : decode cX10_isWeeks 88 = .ok (.getfield 22, 3) := by decide +kernel
theorem dX10_isWeeks_91 : decode cX10_isWeeks 91 = .ok (.bipush 59, 2) := by decide +kernel
theorem dX10_isWeeks_93 : decode cX10_isWeeks 93 = .ok (.invokevirtual 56, 3) := by decide +kernel
theorem dX10_isWeeks_96 : decode cX10_isWeeks 96 = .ok (.ifCond .eq 7, 3) := by decide +kernel
theorem dX10_isWeeks_99 : decode cX10_isWeeks 99 = .ok (.iconst 1, 1) := by decide +kernel
theorem dX10_isWeeks_100 : decode cX10_isWeeks 100 = .ok (.goto 4, 3) := by decide +kernel
theorem dX10_isWeeks_103 : decode cX10_isWeeks 103 = .ok (.iconst 0, 1) := by decide +kernel
theorem dX10_isWeeks_104 : decode cX10_isWeeks 104 = .ok (.istore_n 1, 1) := by decide +kernel
theorem dX10_isWeeks_105 : decode cX10_isWeeks 105 = .ok (.iinc 2 1, 3) := by decide +kernel
theorem dX10_isWeeks_108 : decode cX10_isWeeks 108 = .ok (.goto (-92), 3) := by decide +kernel
theorem dX10_isWeeks_111 : decode cX10_isWeeks 111 = .ok (.iload_n 1, 1) := by decide +kernel
theorem dX10_isWeeks_112 : decode cX10_isWeeks 112 = .ok (.ifCond .eq 19, 3) := by decide +kernel
theorem dX10_isWeeks_115 : decode cX10_isWeeks 115 = .ok (.aload_n 0, 1) := by decide +kernel
theorem dX10_isWeeks_116 : decode cX10_isWeeks 116 = .ok (.getfield 33, 3) := by decide +kernel
theorem dX10_isWeeks_119 : decode cX10_isWeeks 119 = .ok (.ifCond .le 12, 3) := by decide +kernel
theorem dX10_isWeeks_122 : decode cX10_isWeeks 122 = .ok (.aload_n 0, 1) := by decide +kernel
theorem dX10_isWeeks_123 : decode cX10_isWeeks 123 = .ok (.getfield 22, 3) := by decide +kernel
theorem dX10_isWeeks_126 : decode cX10_isWeeks 126 = .ok (.iconst 2, 1) := by decide +kernel
theorem dX10_isWeeks_127 : decode cX10_isWeeks 127 = .ok (.invokevirtual 59, 3) := by decide +kernel
theorem dX10_isWeeks_130 : decode cX10_isWeeks 130 = .ok (.istore_n 1, 1) := by decide +kernel
theorem dX10_isWeeks_131 : decode cX10_isWeeks 131 = .ok (.aload_n 0, 1) := by decide +kernel
theorem dX10_isWeeks_132 : decode cX10_isWeeks 132 = .ok (.getfield 12, 3) := by decide +kernel
theorem dX10_isWeeks_135 : decode cX10_isWeeks 135 = .ok (.iload_n 1, 1) := by decide +kernel
theorem dX10_isWeeks_136 : decode cX10_isWeeks 136 = .ok (.putfield 62, 3) := by decide +kernel
theorem dX10_isWeeks_139 : decode cX10_isWeeks 139 = .ok (.iload_n 1, 1) := by decide +kernel
theorem dX10_isWeeks_140 : decode cX10_isWeeks 140 = .ok (.ireturn, 1) := by decide +kernel
theorem dX10_takeEnd_0 : decode cX10_takeEnd 0 = .ok (.aload_n 0, 1) := by decide +kernel
theorem dX10_takeEnd_1 : decode cX10_takeEnd 1 = .ok (.getfield 33, 3) := by decide +kernel
theorem dX10_takeEnd_4 : decode cX10_takeEnd 4 = .ok (.ifCond .gt 12, 3) := by decide +kernel
theorem dX10_takeEnd_7 : decode cX10_takeEnd 7 = .ok (.aload_n 0, 1) := by decide +kernel
theorem dX10_takeEnd_8 : decode cX10_takeEnd 8 = .ok (.getfield 22, 3) := by decide +kernel
theorem dX10_takeEnd_11 : decode cX10_takeEnd 11 = .ok (.iconst 2, 1) := by decide +kernel
theorem dX10_takeEnd_12 : decode cX10_takeEnd 12 = .ok (.invokevirtual 59, 3) := by decide +kernel
theorem dX10_takeEnd_15 : decode cX10_takeEnd 15 = .ok (.ireturn, 1) := by decide +kernel
theorem dX10_takeEnd_16 : decode cX10_takeEnd 16 = .ok (.aload_n 0, 1) := by decide +kernel
theorem dX10_takeEnd_17 : decode cX10_takeEnd 17 = .ok (.dup, 1) := by decide +kernel
theorem dX10_takeEnd_18 : decode cX10_takeEnd 18 = .ok (.getfield 33, 3) := by decide +kernel
theorem dX10_takeEnd_21 : decode cX10_takeEnd 21 = .ok (.iconst 1, 1) := by decide +kernel
theorem dX10_takeEnd_22 : decode cX10_takeEnd 22 = .ok (.isub, 1) := by decide +kernel
theorem dX10_takeEnd_23 : decode cX10_takeEnd 23 = .ok (.putfield 33, 3) := by decide +kernel
theorem dX10_takeEnd_26 : decode cX10_takeEnd 26 = .ok (.aload_n 0, 1) := by decide +kernel
theorem dX10_takeEnd_27 : decode cX10_takeEnd 27 = .ok (.getfield 12, 3) := by decide +kernel
theorem dX10_takeEnd_30 : decode cX10_takeEnd 30 = .ok (.getfield 66, 3) := by decide +kernel
theorem dX10_takeEnd_33 : decode cX10_takeEnd 33 = .ok (.aload_n 0, 1) := by decide +kernel
theorem dX10_takeEnd_34 : decode cX10_takeEnd 34 = .ok (.getfield 18, 3) := by decide +kernel
theorem dX10_takeEnd_37 : decode cX10_takeEnd 37 = .ok (.aload_n 0, 1) := by decide +kernel
theorem dX10_takeEnd_38 : decode cX10_takeEnd 38 = .ok (.getfield 33, 3) := by decide +kernel
theorem dX10_takeEnd_41 : decode cX10_takeEnd 41 = .ok (.iaload, 1) := by decide +kernel
theorem dX10_takeEnd_42 : decode cX10_takeEnd 42 = .ok (.aload_n 0, 1) := by decide +kernel
theorem dX10_takeEnd_43 : decode cX10_takeEnd 43 = .ok (.getfield 12, 3) := by decide +kernel
theorem dX10_takeEnd_46 : decode cX10_takeEnd 46 = .ok (.getfield 42, 3) := by decide +kernel
theorem dX10_takeEnd_49 : decode cX10_takeEnd 49 = .ok (.iastore, 1) := by decide +kernel
theorem dX10_takeEnd_50 : decode cX10_takeEnd 50 = .ok (.aload_n 0, 1) := by decide +kernel
theorem dX10_takeEnd_51 : decode cX10_takeEnd 51 = .ok (.getfield 22, 3) := by decide +kernel
theorem dX10_takeEnd_54 : decode cX10_takeEnd 54 = .ok (.invokevirtual 69, 3) := by decide +kernel
theorem dX10_takeEnd_57 : decode cX10_takeEnd 57 = .ok (.aload_n 0, 1) := by decide +kernel
theorem dX10_takeEnd_58 : decode cX10_takeEnd 58 = .ok (.getfield 22, 3) := by decide +kernel
theorem dX10_takeEnd_61 : decode cX10_takeEnd 61 = .ok (.bipush 59, 2) := by decide +kernel
theorem dX10_takeEnd_63 : decode cX10_takeEnd 63 = .ok (.invokevirtual 56, 3) := by decide +kernel
theorem dX10_takeEnd_66 : decode cX10_takeEnd 66 = .ok (.ireturn, 1) := by decide +kernel
theorem dX10_beginStep_0 : decode cX10_beginStep 0 = .ok (.iload_n 1, 1) := by decide +kernel
theorem dX10_beginStep_1 : decode cX10_beginStep 1 = .ok (.bipush 18, 2) := by decide +kernel
theorem dX10_beginStep_3 : decode cX10_beginStep 3 = .ok (.if_icmp .eq 9, 3) := by decide +kernel
theorem dX10_beginStep_6 : decode cX10_beginStep 6 = .ok (.iload_n 1, 1) := by decide +kernel
theorem dX10_beginStep_7 : decode cX10_beginStep 7 = .ok (.bipush 22, 2) := by decide +kernel
theorem dX10_beginStep_9 : decode cX10_beginStep 9 = .ok (.if_icmp .ne 7, 3) := by decide +kernel
theorem dX10_beginStep_12 : decode cX10_beginStep 12 = .ok (.iconst 1, 1) := by decide +kernel
theorem dX10_beginStep_13 : decode cX10_beginStep 13 = .ok (.goto 4, 3) := by decide +kernel
theorem dX10_beginStep_16 : decode cX10_beginStep 16 = .ok (.iconst 0, 1) := by decide +kernel
