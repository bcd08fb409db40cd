theorem dX12_fails_21 : decode cX12_fails 21 = .ok (.putfield 167, 3) := by decide +kernel
theorem dX12_fails_24 : decode cX12_fails 24 = .ok (.aload_n 0, 1) := by decide +kernel
theorem dX12_fails_25 : decode cX12_fails 25 = .ok (.aload_n 0, 1) := by decide +kernel
theorem dX12_fails_26 : decode cX12_fails 26 = .ok (.getfield 136, 3) := by decide +kernel
theorem dX12_fails_29 : decode cX12_fails 29 = .ok (.putfield 41, 3) := by decide +kernel
theorem dX12_fails_32 : decode cX12_fails 32 = .ok (.iconst 0, 1) := by decide +kernel
theorem dX12_fails_33 : decode cX12_fails 33 = .ok (.ireturn, 1) := by decide +kernel
theorem dX12_begins_0 : decode cX12_begins 0 = .ok (.iload_n 1, 1) := by decide +kernel
theorem dX12_begins_1 : decode cX12_begins 1 = .ok (.ifCond .lt 16, 3) := by decide +kernel
theorem dX12_begins_4 : decode cX12_begins 4 = .ok (.iload_n 1, 1) := by decide +kernel
theorem dX12_begins_5 : decode cX12_begins 5 = .ok (.aload_n 0, 1) := by decide +kernel
theorem dX12_begins_6 : decode cX12_begins 6 = .ok (.getfield 121, 3) := by decide +kernel
theorem dX12_begins_9 : decode cX12_begins 9 = .ok (.if_icmp .gt 8, 3) := by decide +kernel
theorem dX12_begins_12 : decode cX12_begins 12 = .ok (.iload_n 1, 1) := by decide +kernel
theorem dX12_begins_13 : decode cX12_begins 13 = .ok (.iload_n 2, 1) := by decide +kernel
theorem dX12_begins_14 : decode cX12_begins 14 = .ok (.if_icmp .le 5, 3) := by decide +kernel
theorem dX12_begins_17 : decode cX12_begins 17 = .ok (.iconst 0, 1) := by decide +kernel
theorem dX12_begins_18 : decode cX12_begins 18 = .ok (.ireturn, 1) := by decide +kernel
theorem dX12_begins_19 : decode cX12_begins 19 = .ok (.aload_n 0, 1) := by decide +kernel
theorem dX12_begins_20 : decode cX12_begins 20 = .ok (.iload_n 1, 1) := by decide +kernel
theorem dX12_begins_21 : decode cX12_begins 21 = .ok (.putfield 127, 3) := by decide +kernel
theorem dX12_begins_24 : decode cX12_begins 24 = .ok (.iconst 0, 1) := by decide +kernel
theorem dX12_begins_25 : decode cX12_begins 25 = .ok (.istore_n 3, 1) := by decide +kernel
theorem dX12_begins_26 : decode cX12_begins 26 = .ok (.iload_n 3, 1) := by decide +kernel
theorem dX12_begins_27 : decode cX12_begins 27 = .ok (.iload_n 1, 1) := by decide +kernel
theorem dX12_begins_28 : decode cX12_begins 28 = .ok (.if_icmp .ge 21, 3) := by decide +kernel
theorem dX12_begins_31 : decode cX12_begins 31 = .ok (.aload_n 0, 1) := by decide +kernel
theorem dX12_begins_32 : decode cX12_begins 32 = .ok (.getfield 34, 3) := by decide +kernel
theorem dX12_begins_35 : decode cX12_begins 35 = .ok (.iload_n 3, 1) := by decide +kernel
theorem dX12_begins_36 : decode cX12_begins 36 = .ok (.aload_n 0, 1) := by decide +kernel
theorem dX12_begins_37 : decode cX12_begins 37 = .ok (.getfield 30, 3) := by decide +kernel
theorem dX12_begins_40 : decode cX12_begins 40 = .ok (.iload_n 3, 1) := by decide +kernel
theorem dX12_begins_41 : decode cX12_begins 41 = .ok (.baload, 1) := by decide +kernel
theorem dX12_begins_42 : decode cX12_begins 42 = .ok (.bastore, 1) := by decide +kernel
theorem dX12_begins_43 : decode cX12_begins 43 = .ok (.iinc 3 1, 3) := by decide +kernel
theorem dX12_begins_46 : decode cX12_begins 46 = .ok (.goto (-20), 3) := by decide +kernel
theorem dX12_begins_49 : decode cX12_begins 49 = .ok (.aload_n 0, 1) := by decide +kernel
theorem dX12_begins_50 : decode cX12_begins 50 = .ok (.iconst 0, 1) := by decide +kernel
theorem dX12_begins_51 : decode cX12_begins 51 = .ok (.putfield 121, 3) := by decide +kernel
theorem dX12_begins_54 : decode cX12_begins 54 = .ok (.aload_n 0, 1) := by decide +kernel
theorem dX12_begins_55 : decode cX12_begins 55 = .ok (.iconst 0, 1) := by decide +kernel
theorem dX12_begins_56 : decode cX12_begins 56 = .ok (.putfield 167, 3) := by decide +kernel
theorem dX12_begins_59 : decode cX12_begins 59 = .ok (.aload_n 0, 1) := by decide +kernel
theorem dX12_begins_60 : decode cX12_begins 60 = .ok (.iconst (-1), 1) := by decide +kernel
theorem dX12_begins_61 : decode cX12_begins 61 = .ok (.putfield 41, 3) := by decide +kernel
theorem dX12_begins_64 : decode cX12_begins 64 = .ok (.aload_n 0, 1) := by decide +kernel
theorem dX12_begins_65 : decode cX12_begins 65 = .ok (.iconst 0, 1) := by decide +kernel
theorem dX12_begins_66 : decode cX12_begins 66 = .ok (.putfield 130, 3) := by decide +kernel
theorem dX12_begins_69 : decode cX12_begins 69 = .ok (.aload_n 0, 1) := by decide +kernel
theorem dX12_begins_70 : decode cX12_begins 70 = .ok (.iconst 0, 1) := by decide +kernel
theorem dX12_begins_71 : decode cX12_begins 71 = .ok (.putfield 170, 3) := by decide +kernel
theorem dX12_begins_74 : decode cX12_begins 74 = .ok (.aload_n 0, 1) := by decide +kernel
theorem dX12_begins_75 : decode cX12_begins 75 = .ok (.invokevirtual 173, 3) := by decide +kernel
theorem dX12_begins_78 : decode cX12_begins 78 = .ok (.iconst 1, 1) := by decide +kernel
theorem dX12_begins_79 : decode cX12_begins 79 = .ok (.ireturn, 1) := by decide +kernel
theorem dX12_wantSign_0 : decode cX12_wantSign 0 = .ok (.aload_n 0, 1) := by decide +kernel
theorem dX12_wantSign_1 : decode cX12_wantSign 1 = .ok (.iload_n 1, 1) := by decide +kernel
theorem dX12_wantSign_2 : decode cX12_wantSign 2 = .ok (.invokevirtual 176, 3) := by decide +kernel
theorem dX12_wantSign_5 : decode cX12_wantSign 5 = .ok (.ifCond .ne 9, 3) := by decide +kernel
theorem dX12_wantSign_8 : decode cX12_wantSign 8 = .ok (.aload_n 0, 1) := by decide +kernel
theorem dX12_wantSign_9 : decode cX12_wantSign 9 = .ok (.iconst 2, 1) := by decide +kernel
theorem dX12_wantSign_10 : decode cX12_wantSign 10 = .ok (.invokevirtual 179, 3) := by decide +kernel
theorem dX12_wantSign_13 : decode cX12_wantSign 13 = .ok (.ireturn, 1) := by decide +kernel
theorem dX12_wantSign_14 : decode cX12_wantSign 14 = .ok (.aload_n 0, 1) := by decide +kernel
theorem dX12_wantSign_15 : decode cX12_wantSign 15 = .ok (.invokevirtual 173, 3) := by decide +kernel
theorem dX12_wantSign_18 : decode cX12_wantSign 18 = .ok (.iconst 1, 1) := by decide +kernel
theorem dX12_wantSign_19 : decode cX12_wantSign 19 = .ok (.ireturn, 1) := by decide +kernel
theorem dX12_wantWord_0 : decode cX12_wantWord 0 = .ok (.aload_n 0, 1) := by decide +kernel
theorem dX12_wantWord_1 : decode cX12_wantWord 1 = .ok (.aload_n 1, 1) := by decide +kernel
theorem dX12_wantWord_2 : decode cX12_wantWord 2 = .ok (.invokevirtual 182, 3) := by decide +kernel
theorem dX12_wantWord_5 : decode cX12_wantWord 5 = .ok (.iload_n 2, 1) := by decide +kernel
theorem dX12_wantWord_6 : decode cX12_wantWord 6 = .ok (.if_icmp .eq 9, 3) := by decide +kernel
theorem dX12_wantWord_9 : decode cX12_wantWord 9 = .ok (.aload_n 0, 1) := by decide +kernel
theorem dX12_wantWord_10 : decode cX12_wantWord 10 = .ok (.iconst 2, 1) := by decide +kernel
theorem dX12_wantWord_11 : decode cX12_wantWord 11 = .ok (.invokevirtual 179, 3) := by decide +kernel
theorem dX12_wantWord_14 : decode cX12_wantWord 14 = .ok (.ireturn, 1) := by decide +kernel
theorem dX12_wantWord_15 : decode cX12_wantWord 15 = .ok (.aload_n 0, 1) := by decide +kernel
theorem dX12_wantWord_16 : decode cX12_wantWord 16 = .ok (.invokevirtual 173, 3) := by decide +kernel
theorem dX12_wantWord_19 : decode cX12_wantWord 19 = .ok (.iconst 1, 1) := by decide +kernel
theorem dX12_wantWord_20 : decode cX12_wantWord 20 = .ok (.ireturn, 1) := by decide +kernel
theorem dX12_number_0 : decode cX12_number 0 = .ok (.aload_n 0, 1) := by decide +kernel
theorem dX12_number_1 : decode cX12_number 1 = .ok (.getfield 142, 3) := by decide +kernel
theorem dX12_number_4 : decode cX12_number 4 = .ok (.iconst 3, 1) := by decide +kernel
theorem dX12_number_5 : decode cX12_number 5 = .ok (.if_icmp .eq 9, 3) := by decide +kernel
theorem dX12_number_8 : decode cX12_number 8 = .ok (.aload_n 0, 1) := by decide +kernel
theorem dX12_number_9 : decode cX12_number 9 = .ok (.iconst 2, 1) := by decide +kernel
theorem dX12_number_10 : decode cX12_number 10 = .ok (.invokevirtual 179, 3) := by decide +kernel
theorem dX12_number_13 : decode cX12_number 13 = .ok (.ireturn, 1) := by decide +kernel
theorem dX12_number_14 : decode cX12_number 14 = .ok (.aload_n 0, 1) := by decide +kernel
theorem dX12_number_15 : decode cX12_number 15 = .ok (.getfield 139, 3) := by decide +kernel
theorem dX12_number_18 : decode cX12_number 18 = .ok (.iload_n 2, 1) := by decide +kernel
theorem dX12_number_19 : decode cX12_number 19 = .ok (.if_icmp .lt 11, 3) := by decide +kernel
theorem dX12_number_22 : decode cX12_number 22 = .ok (.aload_n 0, 1) := by decide +kernel
theorem dX12_number_23 : decode cX12_number 23 = .ok (.getfield 139, 3) := by decide +kernel
theorem dX12_number_26 : decode cX12_number 26 = .ok (.iload_n 3, 1) := by decide +kernel
theorem dX12_number_27 : decode cX12_number 27 = .ok (.if_icmp .le 9, 3) := by decide +kernel
theorem dX12_number_30 : decode cX12_number 30 = .ok (.aload_n 0, 1) := by decide +kernel
theorem dX12_number_31 : decode cX12_number 31 = .ok (.iconst 4, 1) := by decide +kernel
theorem dX12_number_32 : decode cX12_number 32 = .ok (.invokevirtual 179, 3) := by decide +kernel
theorem dX12_number_35 : decode cX12_number 35 = .ok (.ireturn, 1) := by decide +kernel
theorem dX12_number_36 : decode cX12_number 36 = .ok (.aload_n 0, 1) := by decide +kernel
theorem dX12_number_37 : decode cX12_number 37 = .ok (.getfield 7, 3) := by decide +kernel
theorem dX12_number_40 : decode cX12_number 40 = .ok (.iload_n 1, 1) := by decide +kernel
theorem dX12_number_41 : decode cX12_number 41 = .ok (.aload_n 0, 1) := by decide +kernel
theorem dX12_number_42 : decode cX12_number 42 = .ok (.getfield 139, 3) := by decide +kernel
theorem dX12_number_45 : decode cX12_number 45 = .ok (.iastore, 1) := by decide +kernel
theorem dX12_number_46 : decode cX12_number 46 = .ok (.aload_n 0, 1) := by decide +kernel
theorem dX12_number_47 : decode cX12_number 47 = .ok (.invokevirtual 173, 3) := by decide +kernel
theorem dX12_number_50 : decode cX12_number 50 = .ok (.iconst 1, 1) := by decide +kernel
theorem dX12_number_51 : decode cX12_number 51 = .ok (.ireturn, 1) := by decide +kernel
theorem dX12_isName_0 : decode cX12_isName 0 = .ok (.aload_n 0, 1) := by decide +kernel
theorem dX12_isName_1 : decode cX12_isName 1 = .ok (.getfield 142, 3) := by decide +kernel
theorem dX12_isName_4 : decode cX12_isName 4 = .ok (.iconst 2, 1) := by decide +kernel
theorem dX12_isName_5 : decode cX12_isName 5 = .ok (.if_icmp .ne 30, 3) := by decide +kernel
theorem dX12_isName_8 : decode cX12_isName 8 = .ok (.aload_n 0, 1) := by decide +kernel
theorem dX12_isName_9 : decode cX12_isName 9 = .ok (.getfield 130, 3) := by decide +kernel
theorem dX12_isName_12 : decode cX12_isName 12 = .ok (.aload_n 0, 1) := by decide +kernel
theorem dX12_isName_13 : decode cX12_isName 13 = .ok (.getfield 136, 3) := by decide +kernel
theorem dX12_isName_16 : decode cX12_isName 16 = .ok (.isub, 1) := by decide +kernel
theorem dX12_isName_17 : decode cX12_isName 17 = .ok (.bipush 8, 2) := by decide +kernel
theorem dX12_isName_19 : decode cX12_isName 19 = .ok (.if_icmp .gt 16, 3) := by decide +kernel
theorem dX12_isName_22 : decode cX12_isName 22 = .ok (.aload_n 0, 1) := by decide +kernel
theorem dX12_isName_23 : decode cX12_isName 23 = .ok (.aload_n 1, 1) := by decide +kernel
theorem dX12_isName_24 : decode cX12_isName 24 = .ok (.invokevirtual 182, 3) := by decide +kernel
theorem dX12_isName_27 : decode cX12_isName 27 = .ok (.iconst (-1), 1) := by decide +kernel
theorem dX12_isName_28 : decode cX12_isName 28 = .ok (.if_icmp .ne 7, 3) := by decide +kernel
theorem dX12_isName_31 : decode cX12_isName 31 = .ok (.iconst 1, 1) := by decide +kernel
theorem dX12_isName_32 : decode cX12_isName 32 = .ok (.goto 4, 3) := by decide +kernel
theorem dX12_isName_35 : decode cX12_isName 35 = .ok (.iconst 0, 1) := by decide +kernel
theorem dX12_isName_36 : decode cX12_isName 36 = .ok (.ireturn, 1) := by decide +kernel
theorem dX12_nameHere_0 : decode cX12_nameHere 0 = .ok (.lconst 0, 1) := by decide +kernel
theorem dX12_nameHere_1 : decode cX12_nameHere 1 = .ok (.lstore_n 1, 1) := by decide +kernel
theorem dX12_nameHere_2 : decode cX12_nameHere 2 = .ok (.aload_n 0, 1) := by decide +kernel
theorem dX12_nameHere_3 : decode cX12_nameHere 3 = .ok (.getfield 136, 3) := by decide +kernel
theorem dX12_nameHere_6 : decode cX12_nameHere 6 = .ok (.istore_n 3, 1) := by decide +kernel
theorem dX12_nameHere_7 : decode cX12_nameHere 7 = .ok (.iload_n 3, 1) := by decide +kernel
theorem dX12_nameHere_8 : decode cX12_nameHere 8 = .ok (.aload_n 0, 1) := by decide +kernel
theorem dX12_nameHere_9 : decode cX12_nameHere 9 = .ok (.getfield 130, 3) := by decide +kernel
theorem dX12_nameHere_12 : decode cX12_nameHere 12 = .ok (.if_icmp .ge 21, 3) := by decide +kernel
theorem dX12_nameHere_15 : decode cX12_nameHere 15 = .ok (.lload_n 1, 1) := by decide +kernel
theorem dX12_nameHere_16 : decode cX12_nameHere 16 = .ok (.bipush 8, 2) := by decide +kernel
theorem dX12_nameHere_18 : decode cX12_nameHere 18 = .ok (.lshl, 1) := by decide +kernel
theorem dX12_nameHere_19 : decode cX12_nameHere 19 = .ok (.aload_n 0, 1) := by decide +kernel
theorem dX12_nameHere_20 : decode cX12_nameHere 20 = .ok (.iload_n 3, 1) := by decide +kernel
theorem dX12_nameHere_21 : decode cX12_nameHere 21 = .ok (.invokevirtual 133, 3) := by decide +kernel
theorem dX12_nameHere_24 : decode cX12_nameHere 24 = .ok (.i2l, 1) := by decide +kernel
theorem dX12_nameHere_25 : decode cX12_nameHere 25 = .ok (.lor, 1) := by decide +kernel
theorem dX12_nameHere_26 : decode cX12_nameHere 26 = .ok (.lstore_n 1, 1) := by decide +kernel
theorem dX12_nameHere_27 : decode cX12_nameHere 27 = .ok (.iinc 3 1, 3) := by decide +kernel
theorem dX12_nameHere_30 : decode cX12_nameHere 30 = .ok (.goto (-23), 3) := by decide +kernel
theorem dX12_nameHere_33 : decode cX12_nameHere 33 = .ok (.lload_n 1, 1) := by decide +kernel
theorem dX12_nameHere_34 : decode cX12_nameHere 34 = .ok (.lreturn, 1) := by decide +kernel
theorem dX12_findHere_0 : decode cX12_findHere 0 = .ok (.iconst 0, 1) := by decide +kernel
theorem dX12_findHere_1 : decode cX12_findHere 1 = .ok (.istore_n 3, 1) := by decide +kernel
theorem dX12_findHere_2 : decode cX12_findHere 2 = .ok (.iload_n 3, 1) := by decide +kernel
theorem dX12_findHere_3 : decode cX12_findHere 3 = .ok (.iload_n 2, 1) := by decide +kernel
theorem dX12_findHere_4 : decode cX12_findHere 4 = .ok (.if_icmp .ge 27, 3) := by decide +kernel
theorem dX12_findHere_7 : decode cX12_findHere 7 = .ok (.aload_n 0, 1) := by decide +kernel
theorem dX12_findHere_8 : decode cX12_findHere 8 = .ok (.getfield 13, 3) := by decide +kernel
theorem dX12_findHere_11 : decode cX12_findHere 11 = .ok (.iload_n 1, 1) := by decide +kernel
theorem dX12_findHere_12 : decode cX12_findHere 12 = .ok (.iload_n 3, 1) := by decide +kernel
theorem dX12_findHere_13 : decode cX12_findHere 13 = .ok (.iadd, 1) := by decide +kernel
theorem dX12_findHere_14 : decode cX12_findHere 14 = .ok (.laload, 1) := by decide +kernel
theorem dX12_findHere_15 : decode cX12_findHere 15 = .ok (.aload_n 0, 1) := by decide +kernel
theorem dX12_findHere_16 : decode cX12_findHere 16 = .ok (.invokevirtual 186, 3) := by decide +kernel
theorem dX12_findHere_19 : decode cX12_findHere 19 = .ok (.lcmp, 1) := by decide +kernel
theorem dX12_findHere_20 : decode cX12_findHere 20 = .ok (.ifCond .ne 5, 3) := by decide +kernel
theorem dX12_findHere_23 : decode cX12_findHere 23 = .ok (.iload_n 3, 1) := by decide +kernel
theorem dX12_findHere_24 : decode cX12_findHere 24 = .ok (.ireturn, 1) := by decide +kernel
theorem dX12_findHere_25 : decode cX12_findHere 25 = .ok (.iinc 3 1, 3) := by decide +kernel
theorem dX12_findHere_28 : decode cX12_findHere 28 = .ok (.goto (-26), 3) := by decide +kernel
theorem dX12_findHere_31 : decode cX12_findHere 31 = .ok (.iconst (-1), 1) := by decide +kernel
theorem dX12_findHere_32 : decode cX12_findHere 32 = .ok (.ireturn, 1) := by decide +kernel
theorem dX12_fault_0 : decode cX12_fault 0 = .ok (.iload_n 1, 1) := by decide +kernel
theorem dX12_fault_1 : decode cX12_fault 1 = .ok (.ifCond .ne 10, 3) := by decide +kernel
theorem dX12_fault_4 : decode cX12_fault 4 = .ok (.aload_n 0, 1) := by decide +kernel
theorem dX12_fault_5 : decode cX12_fault 5 = .ok (.getfield 37, 3) := by decide +kernel
theorem dX12_fault_8 : decode cX12_fault 8 = .ok (.goto 16, 3) := by decide +kernel
theorem dX12_fault_11 : decode cX12_fault 11 = .ok (.iload_n 1, 1) := by decide +kernel
theorem dX12_fault_12 : decode cX12_fault 12 = .ok (.iconst 1, 1) := by decide +kernel
theorem dX12_fault_13 : decode cX12_fault 13 = .ok (.if_icmp .ne 10, 3) := by decide +kernel
theorem dX12_fault_16 : decode cX12_fault 16 = .ok (.aload_n 0, 1) := by decide +kernel
theorem dX12_fault_17 : decode cX12_fault 17 = .ok (.getfield 41, 3) := by decide +kernel
theorem dX12_fault_20 : decode cX12_fault 20 = .ok (.goto 4, 3) := by decide +kernel
theorem dX12_fault_23 : decode cX12_fault 23 = .ok (.iconst (-1), 1) := by decide +kernel
theorem dX12_fault_24 : decode cX12_fault 24 = .ok (.ireturn, 1) := by decide +kernel
theorem dX12_taken_0 : decode cX12_taken 0 = .ok (.aload_n 0, 1) := by decide +kernel
theorem dX12_taken_1 : decode cX12_taken 1 = .ok (.aload_n 0, 1) := by decide +kernel
theorem dX12_taken_2 : decode cX12_taken 2 = .ok (.getfield 167, 3) := by decide +kernel
theorem dX12_taken_5 : decode cX12_taken 5 = .ok (.putfield 37, 3) := by decide +kernel
theorem dX12_taken_8 : decode cX12_taken 8 = .ok (.aload_n 0, 1) := by decide +kernel
theorem dX12_taken_9 : decode cX12_taken 9 = .ok (.getfield 167, 3) := by decide +kernel
theorem dX12_taken_12 : decode cX12_taken 12 = .ok (.ifCond .le 12, 3) := by decide +kernel
theorem dX12_taken_15 : decode cX12_taken 15 = .ok (.aload_n 0, 1) := by decide +kernel
theorem dX12_taken_16 : decode cX12_taken 16 = .ok (.bipush 9, 2) := by decide +kernel
theorem dX12_taken_18 : decode cX12_taken 18 = .ok (.invokevirtual 97, 3) := by decide +kernel
theorem dX12_taken_21 : decode cX12_taken 21 = .ok (.goto 8, 3) := by decide +kernel
theorem dX12_taken_24 : decode cX12_taken 24 = .ok (.aload_n 0, 1) := by decide +kernel
theorem dX12_taken_25 : decode cX12_taken 25 = .ok (.iload_n 1, 1) := by decide +kernel
theorem dX12_taken_26 : decode cX12_taken 26 = .ok (.invokevirtual 101, 3) := by decide +kernel
theorem dX12_taken_29 : decode cX12_taken 29 = .ok (.ireturn, 1) := by decide +kernel
theorem dX12_guestRow_0 : decode cX12_guestRow 0 = .ok (.bipush 10, 2) := by decide +kernel
theorem dX12_guestRow_2 : decode cX12_guestRow 2 = .ok (.bipush 7, 2) := by decide +kernel
theorem dX12_guestRow_4 : decode cX12_guestRow 4 = .ok (.iload_n 0, 1) := by decide +kernel
theorem dX12_guestRow_5 : decode cX12_guestRow 5 = .ok (.imul, 1) := by decide +kernel
theorem dX12_guestRow_6 : decode cX12_guestRow 6 = .ok (.iadd, 1) := by decide +kernel
theorem dX12_guestRow_7 : decode cX12_guestRow 7 = .ok (.ireturn, 1) := by decide +kernel
theorem dX12_isIn_0 : decode cX12_isIn 0 = .ok (.iload_n 1, 1) := by decide +kernel
theorem dX12_isIn_1 : decode cX12_isIn 1 = .ok (.iload_n 2, 1) := by decide +kernel
theorem dX12_isIn_2 : decode cX12_isIn 2 = .ok (.ishr, 1) := by decide +kernel
theorem dX12_isIn_3 : decode cX12_isIn 3 = .ok (.iconst 1, 1) := by decide +kernel
theorem dX12_isIn_4 : decode cX12_isIn 4 = .ok (.iand, 1) := by decide +kernel
theorem dX12_isIn_5 : decode cX12_isIn 5 = .ok (.iconst 1, 1) := by decide +kernel
theorem dX12_isIn_6 : decode cX12_isIn 6 = .ok (.if_icmp .ne 7, 3) := by decide +kernel
theorem dX12_isIn_9 : decode cX12_isIn 9 = .ok (.iconst 1, 1) := by decide +kernel
theorem dX12_isIn_10 : decode cX12_isIn 10 = .ok (.goto 4, 3) := by decide +kernel
theorem dX12_isIn_13 : decode cX12_isIn 13 = .ok (.iconst 0, 1) := by decide +kernel
theorem dX12_isIn_14 : decode cX12_isIn 14 = .ok (.ireturn, 1) := by decide +kernel
theorem dX12_isThere_0 : decode cX12_isThere 0 = .ok (.aload_n 0, 1) := by decide +kernel
theorem dX12_isThere_1 : decode cX12_isThere 1 = .ok (.ldc 190, 2) := by decide +kernel
theorem dX12_isThere_3 : decode cX12_isThere 3 = .ok (.invokevirtual 182, 3) := by decide +kernel
theorem dX12_isThere_6 : decode cX12_isThere 6 = .ok (.iload_n 1, 1) := by decide +kernel
theorem dX12_isThere_7 : decode cX12_isThere 7 = .ok (.if_icmp .eq 5, 3) := by decide +kernel
theorem dX12_isThere_10 : decode cX12_isThere 10 = .ok (.iconst 0, 1) := by decide +kernel
theorem dX12_isThere_11 : decode cX12_isThere 11 = .ok (.ireturn, 1) := by decide +kernel
theorem dX12_isThere_12 : decode cX12_isThere 12 = .ok (.aload_n 0, 1) := by decide +kernel
theorem dX12_isThere_13 : decode cX12_isThere 13 = .ok (.invokevirtual 173, 3) := by decide +kernel
theorem dX12_isThere_16 : decode cX12_isThere 16 = .ok (.iconst 1, 1) := by decide +kernel
theorem dX12_isThere_17 : decode cX12_isThere 17 = .ok (.ireturn, 1) := by decide +kernel
theorem dX12_leastOf_0 : decode cX12_leastOf 0 = .ok (.iload_n 0, 1) := by decide +kernel
theorem dX12_leastOf_1 : decode cX12_leastOf 1 = .ok (.iconst 1, 1) := by decide +kernel
theorem dX12_leastOf_2 : decode cX12_leastOf 2 = .ok (.if_icmp .eq 8, 3) := by decide +kernel
theorem dX12_leastOf_5 : decode cX12_leastOf 5 = .ok (.iload_n 0, 1) := by decide +kernel
theorem dX12_leastOf_6 : decode cX12_leastOf 6 = .ok (.iconst 5, 1) := by decide +kernel
theorem dX12_leastOf_7 : decode cX12_leastOf 7 = .ok (.if_icmp .ne 7, 3) := by decide +kernel
theorem dX12_leastOf_10 : decode cX12_leastOf 10 = .ok (.iconst 0, 1) := by decide +kernel
theorem dX12_leastOf_11 : decode cX12_leastOf 11 = .ok (.goto 4, 3) := by decide +kernel
theorem dX12_leastOf_14 : decode cX12_leastOf 14 = .ok (.iconst 1, 1) := by decide +kernel
theorem dX12_leastOf_15 : decode cX12_leastOf 15 = .ok (.ireturn, 1) := by decide +kernel
theorem dX12_mostOf_0 : decode cX12_mostOf 0 = .ok (.iload_n 0, 1) := by decide +kernel
theorem dX12_mostOf_1 : decode cX12_mostOf 1 = .ok (.tableswitch 36 1 3 #[27, 30, 33], 27) := by decide +kernel
theorem dX12_mostOf_28 : decode cX12_mostOf 28 = .ok (.bipush 16, 2) := by decide +kernel
theorem dX12_mostOf_30 : decode cX12_mostOf 30 = .ok (.ireturn, 1) := by decide +kernel
theorem dX12_mostOf_31 : decode cX12_mostOf 31 = .ok (.bipush 20, 2) := by decide +kernel
theorem dX12_mostOf_33 : decode cX12_mostOf 33 = .ok (.ireturn, 1) := by decide +kernel
theorem dX12_mostOf_34 : decode cX12_mostOf 34 = .ok (.bipush 6, 2) := by decide +kernel
theorem dX12_mostOf_36 : decode cX12_mostOf 36 = .ok (.ireturn, 1) := by decide +kernel
theorem dX12_mostOf_37 : decode cX12_mostOf 37 = .ok (.bipush 60, 2) := by decide +kernel
theorem dX12_mostOf_39 : decode cX12_mostOf 39 = .ok (.ireturn, 1) := by decide +kernel
theorem dX12_aGuest_0 : decode cX12_aGuest 0 = .ok (.aload_n 0, 1) := by decide +kernel
theorem dX12_aGuest_1 : decode cX12_aGuest 1 = .ok (.getfield 7, 3) := by decide +kernel
theorem dX12_aGuest_4 : decode cX12_aGuest 4 = .ok (.sipush 1712, 3) := by decide +kernel
theorem dX12_aGuest_7 : decode cX12_aGuest 7 = .ok (.iaload, 1) := by decide +kernel
theorem dX12_aGuest_8 : decode cX12_aGuest 8 = .ok (.istore_n 1, 1) := by decide +kernel
theorem dX12_aGuest_9 : decode cX12_aGuest 9 = .ok (.sipush 1712, 3) := by decide +kernel
theorem dX12_aGuest_12 : decode cX12_aGuest 12 = .ok (.iload_n 1, 1) := by decide +kernel
theorem dX12_aGuest_13 : decode cX12_aGuest 13 = .ok (.invokestatic 192, 3) := by decide +kernel
theorem dX12_aGuest_16 : decode cX12_aGuest 16 = .ok (.iadd, 1) := by decide +kernel
theorem dX12_aGuest_17 : decode cX12_aGuest 17 = .ok (.istore_n 2, 1) := by decide +kernel
theorem dX12_aGuest_18 : decode cX12_aGuest 18 = .ok (.iload_n 1, 1) := by decide +kernel
theorem dX12_aGuest_19 : decode cX12_aGuest 19 = .ok (.bipush 7, 2) := by decide +kernel
theorem dX12_aGuest_21 : decode cX12_aGuest 21 = .ok (.if_icmp .ne 10, 3) := by decide +kernel
theorem dX12_aGuest_24 : decode cX12_aGuest 24 = .ok (.aload_n 0, 1) := by decide +kernel
theorem dX12_aGuest_25 : decode cX12_aGuest 25 = .ok (.bipush 6, 2) := by decide +kernel
theorem dX12_aGuest_27 : decode cX12_aGuest 27 = .ok (.invokevirtual 179, 3) := by decide +kernel
theorem dX12_aGuest_30 : decode cX12_aGuest 30 = .ok (.ireturn, 1) := by decide +kernel
theorem dX12_aGuest_31 : decode cX12_aGuest 31 = .ok (.aload_n 0, 1) := by decide +kernel
theorem dX12_aGuest_32 : decode cX12_aGuest 32 = .ok (.invokevirtual 173, 3) := by decide +kernel
theorem dX12_aGuest_35 : decode cX12_aGuest 35 = .ok (.aload_n 0, 1) := by decide +kernel
theorem dX12_aGuest_36 : decode cX12_aGuest 36 = .ok (.ldc 190, 2) := by decide +kernel
theorem dX12_aGuest_38 : decode cX12_aGuest 38 = .ok (.invokevirtual 195, 3) := by decide +kernel
theorem dX12_aGuest_41 : decode cX12_aGuest 41 = .ok (.ifCond .ne 9, 3) := by decide +kernel
theorem dX12_aGuest_44 : decode cX12_aGuest 44 = .ok (.aload_n 0, 1) := by decide +kernel
theorem dX12_aGuest_45 : decode cX12_aGuest 45 = .ok (.iconst 2, 1) := by decide +kernel
theorem dX12_aGuest_46 : decode cX12_aGuest 46 = .ok (.invokevirtual 179, 3) := by decide +kernel
theorem dX12_aGuest_49 : decode cX12_aGuest 49 = .ok (.ireturn, 1) := by decide +kernel
theorem dX12_aGuest_50 : decode cX12_aGuest 50 = .ok (.aload_n 0, 1) := by decide +kernel
theorem dX12_aGuest_51 : decode cX12_aGuest 51 = .ok (.bipush 28, 2) := by decide +kernel
theorem dX12_aGuest_53 : decode cX12_aGuest 53 = .ok (.iload_n 1, 1) := by decide +kernel
theorem dX12_aGuest_54 : decode cX12_aGuest 54 = .ok (.invokevirtual 199, 3) := by decide +kernel
theorem dX12_aGuest_57 : decode cX12_aGuest 57 = .ok (.iconst (-1), 1) := by decide +kernel
theorem dX12_aGuest_58 : decode cX12_aGuest 58 = .ok (.if_icmp .eq 9, 3) := by decide +kernel
theorem dX12_aGuest_61 : decode cX12_aGuest 61 = .ok (.aload_n 0, 1) := by decide +kernel
theorem dX12_aGuest_62 : decode cX12_aGuest 62 = .ok (.iconst 3, 1) := by decide +kernel
theorem dX12_aGuest_63 : decode cX12_aGuest 63 = .ok (.invokevirtual 179, 3) := by decide +kernel
theorem dX12_aGuest_66 : decode cX12_aGuest 66 = .ok (.ireturn, 1) := by decide +kernel
theorem dX12_aGuest_67 : decode cX12_aGuest 67 = .ok (.aload_n 0, 1) := by decide +kernel
theorem dX12_aGuest_68 : decode cX12_aGuest 68 = .ok (.getfield 13, 3) := by decide +kernel
theorem dX12_aGuest_71 : decode cX12_aGuest 71 = .ok (.bipush 28, 2) := by decide +kernel
theorem dX12_aGuest_73 : decode cX12_aGuest 73 = .ok (.iload_n 1, 1) := by decide +kernel
theorem dX12_aGuest_74 : decode cX12_aGuest 74 = .ok (.iadd, 1) := by decide +kernel
theorem dX12_aGuest_75 : decode cX12_aGuest 75 = .ok (.aload_n 0, 1) := by decide +kernel
theorem dX12_aGuest_76 : decode cX12_aGuest 76 = .ok (.invokevirtual 186, 3) := by decide +kernel
theorem dX12_aGuest_79 : decode cX12_aGuest 79 = .ok (.lastore, 1) := by decide +kernel
theorem dX12_aGuest_80 : decode cX12_aGuest 80 = .ok (.aload_n 0, 1) := by decide +kernel
theorem dX12_aGuest_81 : decode cX12_aGuest 81 = .ok (.invokevirtual 173, 3) := by decide +kernel
theorem dX12_aGuest_84 : decode cX12_aGuest 84 = .ok (.aload_n 0, 1) := by decide +kernel
theorem dX12_aGuest_85 : decode cX12_aGuest 85 = .ok (.ldc 190, 2) := by decide +kernel
theorem dX12_aGuest_87 : decode cX12_aGuest 87 = .ok (.bipush 7, 2) := by decide +kernel
theorem dX12_aGuest_89 : decode cX12_aGuest 89 = .ok (.invokevirtual 202, 3) := by decide +kernel
theorem dX12_aGuest_92 : decode cX12_aGuest 92 = .ok (.ifCond .eq 38, 3) := by decide +kernel
theorem dX12_aGuest_95 : decode cX12_aGuest 95 = .ok (.aload_n 0, 1) := by decide +kernel
theorem dX12_aGuest_96 : decode cX12_aGuest 96 = .ok (.iload_n 2, 1) := by decide +kernel
theorem dX12_aGuest_97 : decode cX12_aGuest 97 = .ok (.iconst 0, 1) := by decide +kernel
theorem dX12_aGuest_98 : decode cX12_aGuest 98 = .ok (.bipush 20, 2) := by decide +kernel
theorem dX12_aGuest_100 : decode cX12_aGuest 100 = .ok (.invokevirtual 206, 3) := by decide +kernel
theorem dX12_aGuest_103 : decode cX12_aGuest 103 = .ok (.ifCond .eq 27, 3) := by decide +kernel
theorem dX12_aGuest_106 : decode cX12_aGuest 106 = .ok (.aload_n 0, 1) := by decide +kernel
theorem dX12_aGuest_107 : decode cX12_aGuest 107 = .ok (.ldc 190, 2) := by decide +kernel
theorem dX12_aGuest_109 : decode cX12_aGuest 109 = .ok (.bipush 8, 2) := by decide +kernel
theorem dX12_aGuest_111 : decode cX12_aGuest 111 = .ok (.invokevirtual 202, 3) := by decide +kernel
theorem dX12_aGuest_114 : decode cX12_aGuest 114 = .ok (.ifCond .eq 16, 3) := by decide +kernel
theorem dX12_aGuest_117 : decode cX12_aGuest 117 = .ok (.aload_n 0, 1) := by decide +kernel
theorem dX12_aGuest_118 : decode cX12_aGuest 118 = .ok (.iload_n 2, 1) := by decide +kernel
theorem dX12_aGuest_119 : decode cX12_aGuest 119 = .ok (.iconst 1, 1) := by decide +kernel
theorem dX12_aGuest_120 : decode cX12_aGuest 120 = .ok (.iadd, 1) := by decide +kernel
theorem dX12_aGuest_121 : decode cX12_aGuest 121 = .ok (.iconst 0, 1) := by decide +kernel
theorem dX12_aGuest_122 : decode cX12_aGuest 122 = .ok (.bipush 20, 2) := by decide +kernel
theorem dX12_aGuest_124 : decode cX12_aGuest 124 = .ok (.invokevirtual 206, 3) := by decide +kernel
theorem dX12_aGuest_127 : decode cX12_aGuest 127 = .ok (.ifCond .ne 5, 3) := by decide +kernel
theorem dX12_aGuest_130 : decode cX12_aGuest 130 = .ok (.iconst 0, 1) := by decide +kernel
theorem dX12_aGuest_131 : decode cX12_aGuest 131 = .ok (.ireturn, 1) := by decide +kernel
theorem dX12_aGuest_132 : decode cX12_aGuest 132 = .ok (.aload_n 0, 1) := by decide +kernel
theorem dX12_aGuest_133 : decode cX12_aGuest 133 = .ok (.ldc 190, 2) := by decide +kernel
theorem dX12_aGuest_135 : decode cX12_aGuest 135 = .ok (.bipush 9, 2) := by decide +kernel
theorem dX12_aGuest_137 : decode cX12_aGuest 137 = .ok (.invokevirtual 202, 3) := by decide +kernel
theorem dX12_aGuest_140 : decode cX12_aGuest 140 = .ok (.ifCond .eq 16, 3) := by decide +kernel
theorem dX12_aGuest_143 : decode cX12_aGuest 143 = .ok (.aload_n 0, 1) := by decide +kernel
theorem dX12_aGuest_144 : decode cX12_aGuest 144 = .ok (.iload_n 2, 1) := by decide +kernel
theorem dX12_aGuest_145 : decode cX12_aGuest 145 = .ok (.iconst 2, 1) := by decide +kernel
theorem dX12_aGuest_146 : decode cX12_aGuest 146 = .ok (.iadd, 1) := by decide +kernel
theorem dX12_aGuest_147 : decode cX12_aGuest 147 = .ok (.iconst 0, 1) := by decide +kernel
theorem dX12_aGuest_148 : decode cX12_aGuest 148 = .ok (.bipush 20, 2) := by decide +kernel
theorem dX12_aGuest_150 : decode cX12_aGuest 150 = .ok (.invokevirtual 206, 3) := by decide +kernel
theorem dX12_aGuest_153 : decode cX12_aGuest 153 = .ok (.ifCond .ne 5, 3) := by decide +kernel
theorem dX12_aGuest_156 : decode cX12_aGuest 156 = .ok (.iconst 0, 1) := by decide +kernel
theorem dX12_aGuest_157 : decode cX12_aGuest 157 = .ok (.ireturn, 1) := by decide +kernel
theorem dX12_aGuest_158 : decode cX12_aGuest 158 = .ok (.aload_n 0, 1) := by decide +kernel
theorem dX12_aGuest_159 : decode cX12_aGuest 159 = .ok (.getfield 7, 3) := by decide +kernel
theorem dX12_aGuest_162 : decode cX12_aGuest 162 = .ok (.iload_n 2, 1) := by decide +kernel
theorem dX12_aGuest_163 : decode cX12_aGuest 163 = .ok (.iconst 3, 1) := by decide +kernel
theorem dX12_aGuest_164 : decode cX12_aGuest 164 = .ok (.iadd, 1) := by decide +kernel
theorem dX12_aGuest_165 : decode cX12_aGuest 165 = .ok (.aload_n 0, 1) := by decide +kernel
theorem dX12_aGuest_166 : decode cX12_aGuest 166 = .ok (.bipush 10, 2) := by decide +kernel
theorem dX12_aGuest_168 : decode cX12_aGuest 168 = .ok (.invokevirtual 210, 3) := by decide +kernel
theorem dX12_aGuest_171 : decode cX12_aGuest 171 = .ok (.ifCond .eq 7, 3) := by decide +kernel
theorem dX12_aGuest_174 : decode cX12_aGuest 174 = .ok (.iconst 1, 1) := by decide +kernel
theorem dX12_aGuest_175 : decode cX12_aGuest 175 = .ok (.goto 17, 3) := by decide +kernel
theorem dX12_aGuest_178 : decode cX12_aGuest 178 = .ok (.aload_n 0, 1) := by decide +kernel
theorem dX12_aGuest_179 : decode cX12_aGuest 179 = .ok (.bipush 18, 2) := by decide +kernel
theorem dX12_aGuest_181 : decode cX12_aGuest 181 = .ok (.invokevirtual 210, 3) := by decide +kernel
theorem dX12_aGuest_184 : decode cX12_aGuest 184 = .ok (.ifCond .eq 7, 3) := by decide +kernel
theorem dX12_aGuest_187 : decode cX12_aGuest 187 = .ok (.iconst 2, 1) := by decide +kernel
theorem dX12_aGuest_188 : decode cX12_aGuest 188 = .ok (.goto 4, 3) := by decide +kernel
theorem dX12_aGuest_191 : decode cX12_aGuest 191 = .ok (.iconst 0, 1) := by decide +kernel
theorem dX12_aGuest_192 : decode cX12_aGuest 192 = .ok (.iastore, 1) := by decide +kernel
theorem dX12_aGuest_193 : decode cX12_aGuest 193 = .ok (.aload_n 0, 1) := by decide +kernel
theorem dX12_aGuest_194 : decode cX12_aGuest 194 = .ok (.getfield 7, 3) := by decide +kernel
theorem dX12_aGuest_197 : decode cX12_aGuest 197 = .ok (.iload_n 2, 1) := by decide +kernel
theorem dX12_aGuest_198 : decode cX12_aGuest 198 = .ok (.iconst 4, 1) := by decide +kernel
theorem dX12_aGuest_199 : decode cX12_aGuest 199 = .ok (.iadd, 1) := by decide +kernel
theorem dX12_aGuest_200 : decode cX12_aGuest 200 = .ok (.iconst 0, 1) := by decide +kernel
theorem dX12_aGuest_201 : decode cX12_aGuest 201 = .ok (.iastore, 1) := by decide +kernel
theorem dX12_aGuest_202 : decode cX12_aGuest 202 = .ok (.aload_n 0, 1) := by decide +kernel
theorem dX12_aGuest_203 : decode cX12_aGuest 203 = .ok (.getfield 7, 3) := by decide +kernel
theorem dX12_aGuest_206 : decode cX12_aGuest 206 = .ok (.iload_n 2, 1) := by decide +kernel
theorem dX12_aGuest_207 : decode cX12_aGuest 207 = .ok (.iconst 5, 1) := by decide +kernel
theorem dX12_aGuest_208 : decode cX12_aGuest 208 = .ok (.iadd, 1) := by decide +kernel
theorem dX12_aGuest_209 : decode cX12_aGuest 209 = .ok (.iconst 1, 1) := by decide +kernel
theorem dX12_aGuest_210 : decode cX12_aGuest 210 = .ok (.iastore, 1) := by decide +kernel
theorem dX12_aGuest_211 : decode cX12_aGuest 211 = .ok (.aload_n 0, 1) := by decide +kernel
theorem dX12_aGuest_212 : decode cX12_aGuest 212 = .ok (.getfield 7, 3) := by decide +kernel
theorem dX12_aGuest_215 : decode cX12_aGuest 215 = .ok (.iload_n 2, 1) := by decide +kernel
theorem dX12_aGuest_216 : decode cX12_aGuest 216 = .ok (.bipush 6, 2) := by decide +kernel
theorem dX12_aGuest_218 : decode cX12_aGuest 218 = .ok (.iadd, 1) := by decide +kernel
theorem dX12_aGuest_219 : decode cX12_aGuest 219 = .ok (.iconst (-1), 1) := by decide +kernel
theorem dX12_aGuest_220 : decode cX12_aGuest 220 = .ok (.iastore, 1) := by decide +kernel
theorem dX12_aGuest_221 : decode cX12_aGuest 221 = .ok (.aload_n 0, 1) := by decide +kernel
theorem dX12_aGuest_222 : decode cX12_aGuest 222 = .ok (.getfield 7, 3) := by decide +kernel
theorem dX12_aGuest_225 : decode cX12_aGuest 225 = .ok (.sipush 1712, 3) := by decide +kernel
theorem dX12_aGuest_228 : decode cX12_aGuest 228 = .ok (.dup2, 1) := by decide +kernel
theorem dX12_aGuest_229 : decode cX12_aGuest 229 = .ok (.iaload, 1) := by decide +kernel
theorem dX12_aGuest_230 : decode cX12_aGuest 230 = .ok (.iconst 1, 1) := by decide +kernel
theorem dX12_aGuest_231 : decode cX12_aGuest 231 = .ok (.iadd, 1) := by decide +kernel
theorem dX12_aGuest_232 : decode cX12_aGuest 232 = .ok (.iastore, 1) := by decide +kernel
theorem dX12_aGuest_233 : decode cX12_aGuest 233 = .ok (.iconst 1, 1) := by decide +kernel
theorem dX12_aGuest_234 : decode cX12_aGuest 234 = .ok (.ireturn, 1) := by decide +kernel
theorem dX12_guestTo_0 : decode cX12_guestTo 0 = .ok (.aload_n 0, 1) := by decide +kernel
theorem dX12_guestTo_1 : decode cX12_guestTo 1 = .ok (.ldc 190, 2) := by decide +kernel
theorem dX12_guestTo_3 : decode cX12_guestTo 3 = .ok (.invokevirtual 195, 3) := by decide +kernel
theorem dX12_guestTo_6 : decode cX12_guestTo 6 = .ok (.ifCond .ne 9, 3) := by decide +kernel
theorem dX12_guestTo_9 : decode cX12_guestTo 9 = .ok (.aload_n 0, 1) := by decide +kernel
theorem dX12_guestTo_10 : decode cX12_guestTo 10 = .ok (.iconst 2, 1) := by decide +kernel
theorem dX12_guestTo_11 : decode cX12_guestTo 11 = .ok (.invokevirtual 179, 3) := by decide +kernel
theorem dX12_guestTo_14 : decode cX12_guestTo 14 = .ok (.ireturn, 1) := by decide +kernel
theorem dX12_guestTo_15 : decode cX12_guestTo 15 = .ok (.aload_n 0, 1) := by decide +kernel
theorem dX12_guestTo_16 : decode cX12_guestTo 16 = .ok (.getfield 7, 3) := by decide +kernel
theorem dX12_guestTo_19 : decode cX12_guestTo 19 = .ok (.iload_n 2, 1) := by decide +kernel
theorem dX12_guestTo_20 : decode cX12_guestTo 20 = .ok (.aload_n 0, 1) := by decide +kernel
theorem dX12_guestTo_21 : decode cX12_guestTo 21 = .ok (.iload_n 1, 1) := by decide +kernel
theorem dX12_guestTo_22 : decode cX12_guestTo 22 = .ok (.sipush 1712, 3) := by decide +kernel
theorem dX12_guestTo_25 : decode cX12_guestTo 25 = .ok (.if_icmp .ne 8, 3) := by decide +kernel
theorem dX12_guestTo_28 : decode cX12_guestTo 28 = .ok (.bipush 28, 2) := by decide +kernel
theorem dX12_guestTo_30 : decode cX12_guestTo 30 = .ok (.goto 4, 3) := by decide +kernel
theorem dX12_guestTo_33 : decode cX12_guestTo 33 = .ok (.iconst 0, 1) := by decide +kernel
theorem dX12_guestTo_34 : decode cX12_guestTo 34 = .ok (.aload_n 0, 1) := by decide +kernel
theorem dX12_guestTo_35 : decode cX12_guestTo 35 = .ok (.getfield 7, 3) := by decide +kernel
theorem dX12_guestTo_38 : decode cX12_guestTo 38 = .ok (.iload_n 1, 1) := by decide +kernel
theorem dX12_guestTo_39 : decode cX12_guestTo 39 = .ok (.iconst 0, 1) := by decide +kernel
theorem dX12_guestTo_40 : decode cX12_guestTo 40 = .ok (.iadd, 1) := by decide +kernel
theorem dX12_guestTo_41 : decode cX12_guestTo 41 = .ok (.iaload, 1) := by decide +kernel
theorem dX12_guestTo_42 : decode cX12_guestTo 42 = .ok (.invokevirtual 199, 3) := by decide +kernel
theorem dX12_guestTo_45 : decode cX12_guestTo 45 = .ok (.iastore, 1) := by decide +kernel
theorem dX12_guestTo_46 : decode cX12_guestTo 46 = .ok (.aload_n 0, 1) := by decide +kernel
theorem dX12_guestTo_47 : decode cX12_guestTo 47 = .ok (.getfield 7, 3) := by decide +kernel
theorem dX12_guestTo_50 : decode cX12_guestTo 50 = .ok (.iload_n 2, 1) := by decide +kernel
theorem dX12_guestTo_51 : decode cX12_guestTo 51 = .ok (.iaload, 1) := by decide +kernel
theorem dX12_guestTo_52 : decode cX12_guestTo 52 = .ok (.iconst (-1), 1) := by decide +kernel
theorem dX12_guestTo_53 : decode cX12_guestTo 53 = .ok (.if_icmp .ne 9, 3) := by decide +kernel
theorem dX12_guestTo_56 : decode cX12_guestTo 56 = .ok (.aload_n 0, 1) := by decide +kernel
theorem dX12_guestTo_57 : decode cX12_guestTo 57 = .ok (.iconst 3, 1) := by decide +kernel
theorem dX12_guestTo_58 : decode cX12_guestTo 58 = .ok (.invokevirtual 179, 3) := by decide +kernel
theorem dX12_guestTo_61 : decode cX12_guestTo 61 = .ok (.ireturn, 1) := by decide +kernel
theorem dX12_guestTo_62 : decode cX12_guestTo 62 = .ok (.aload_n 0, 1) := by decide +kernel
theorem dX12_guestTo_63 : decode cX12_guestTo 63 = .ok (.invokevirtual 173, 3) := by decide +kernel
theorem dX12_guestTo_66 : decode cX12_guestTo 66 = .ok (.iconst 1, 1) := by decide +kernel
theorem dX12_guestTo_67 : decode cX12_guestTo 67 = .ok (.ireturn, 1) := by decide +kernel
theorem dX12_aButter_0 : decode cX12_aButter 0 = .ok (.sipush 2132, 3) := by decide +kernel
theorem dX12_aButter_3 : decode cX12_aButter 3 = .ok (.istore_n 1, 1) := by decide +kernel
theorem dX12_aButter_4 : decode cX12_aButter 4 = .ok (.aload_n 0, 1) := by decide +kernel
theorem dX12_aButter_5 : decode cX12_aButter 5 = .ok (.invokevirtual 173, 3) := by decide +kernel
theorem dX12_aButter_8 : decode cX12_aButter 8 = .ok (.aload_n 0, 1) := by decide +kernel
theorem dX12_aButter_9 : decode cX12_aButter 9 = .ok (.ldc 190, 2) := by decide +kernel
theorem dX12_aButter_11 : decode cX12_aButter 11 = .ok (.invokevirtual 195, 3) := by decide +kernel
theorem dX12_aButter_14 : decode cX12_aButter 14 = .ok (.ifCond .ne 9, 3) := by decide +kernel
theorem dX12_aButter_17 : decode cX12_aButter 17 = .ok (.aload_n 0, 1) := by decide +kernel
theorem dX12_aButter_18 : decode cX12_aButter 18 = .ok (.iconst 2, 1) := by decide +kernel
theorem dX12_aButter_19 : decode cX12_aButter 19 = .ok (.invokevirtual 179, 3) := by decide +kernel
theorem dX12_aButter_22 : decode cX12_aButter 22 = .ok (.ireturn, 1) := by decide +kernel
theorem dX12_aButter_23 : decode cX12_aButter 23 = .ok (.aload_n 0, 1) := by decide +kernel
theorem dX12_aButter_24 : decode cX12_aButter 24 = .ok (.bipush 28, 2) := by decide +kernel
theorem dX12_aButter_26 : decode cX12_aButter 26 = .ok (.aload_n 0, 1) := by decide +kernel
theorem dX12_aButter_27 : decode cX12_aButter 27 = .ok (.getfield 7, 3) := by decide +kernel
theorem dX12_aButter_30 : decode cX12_aButter 30 = .ok (.sipush 1712, 3) := by decide +kernel
theorem dX12_aButter_33 : decode cX12_aButter 33 = .ok (.iaload, 1) := by decide +kernel
theorem dX12_aButter_34 : decode cX12_aButter 34 = .ok (.invokevirtual 199, 3) := by decide +kernel
theorem dX12_aButter_37 : decode cX12_aButter 37 = .ok (.istore_n 2, 1) := by decide +kernel
theorem dX12_aButter_38 : decode cX12_aButter 38 = .ok (.iload_n 2, 1) := by decide +kernel
theorem dX12_aButter_39 : decode cX12_aButter 39 = .ok (.iconst (-1), 1) := by decide +kernel
theorem dX12_aButter_40 : decode cX12_aButter 40 = .ok (.if_icmp .eq 29, 3) := by decide +kernel
theorem dX12_aButter_43 : decode cX12_aButter 43 = .ok (.aload_n 0, 1) := by decide +kernel
theorem dX12_aButter_44 : decode cX12_aButter 44 = .ok (.getfield 7, 3) := by decide +kernel
theorem dX12_aButter_47 : decode cX12_aButter 47 = .ok (.sipush 1712, 3) := by decide +kernel
theorem dX12_aButter_50 : decode cX12_aButter 50 = .ok (.iload_n 2, 1) := by decide +kernel
theorem dX12_aButter_51 : decode cX12_aButter 51 = .ok (.invokestatic 192, 3) := by decide +kernel
theorem dX12_aButter_54 : decode cX12_aButter 54 = .ok (.iadd, 1) := by decide +kernel
theorem dX12_aButter_55 : decode cX12_aButter 55 = .ok (.bipush 6, 2) := by decide +kernel
theorem dX12_aButter_57 : decode cX12_aButter 57 = .ok (.iadd, 1) := by decide +kernel
theorem dX12_aButter_58 : decode cX12_aButter 58 = .ok (.iaload, 1) := by decide +kernel
theorem dX12_aButter_59 : decode cX12_aButter 59 = .ok (.iconst (-1), 1) := by decide +kernel
theorem dX12_aButter_60 : decode cX12_aButter 60 = .ok (.if_icmp .eq 9, 3) := by decide +kernel
theorem dX12_aButter_63 : decode cX12_aButter 63 = .ok (.aload_n 0, 1) := by decide +kernel
theorem dX12_aButter_64 : decode cX12_aButter 64 = .ok (.iconst 5, 1) := by decide +kernel
theorem dX12_aButter_65 : decode cX12_aButter 65 = .ok (.invokevirtual 179, 3) := by decide +kernel
theorem dX12_aButter_68 : decode cX12_aButter 68 = .ok (.ireturn, 1) := by decide +kernel
theorem dX12_aButter_69 : decode cX12_aButter 69 = .ok (.aload_n 0, 1) := by decide +kernel
theorem dX12_aButter_70 : decode cX12_aButter 70 = .ok (.sipush 1712, 3) := by decide +kernel
theorem dX12_aButter_73 : decode cX12_aButter 73 = .ok (.iload_n 1, 1) := by decide +kernel
theorem dX12_aButter_74 : decode cX12_aButter 74 = .ok (.invokevirtual 213, 3) := by decide +kernel
theorem dX12_aButter_77 : decode cX12_aButter 77 = .ok (.ifCond .ne 5, 3) := by decide +kernel
theorem dX12_aButter_80 : decode cX12_aButter 80 = .ok (.iconst 0, 1) := by decide +kernel
theorem dX12_aButter_81 : decode cX12_aButter 81 = .ok (.ireturn, 1) := by decide +kernel
theorem dX12_aButter_82 : decode cX12_aButter 82 = .ok (.aload_n 0, 1) := by decide +kernel
theorem dX12_aButter_83 : decode cX12_aButter 83 = .ok (.sipush 1712, 3) := by decide +kernel
theorem dX12_aButter_86 : decode cX12_aButter 86 = .ok (.iload_n 1, 1) := by decide +kernel
theorem dX12_aButter_87 : decode cX12_aButter 87 = .ok (.invokevirtual 217, 3) := by decide +kernel
theorem dX12_aButter_90 : decode cX12_aButter 90 = .ok (.ifCond .ne 5, 3) := by decide +kernel
theorem dX12_aButter_93 : decode cX12_aButter 93 = .ok (.iconst 0, 1) := by decide +kernel
theorem dX12_aButter_94 : decode cX12_aButter 94 = .ok (.ireturn, 1) := by decide +kernel
theorem dX12_aButter_95 : decode cX12_aButter 95 = .ok (.aload_n 0, 1) := by decide +kernel
theorem dX12_aButter_96 : decode cX12_aButter 96 = .ok (.getfield 7, 3) := by decide +kernel
theorem dX12_aButter_99 : decode cX12_aButter 99 = .ok (.sipush 1712, 3) := by decide +kernel
theorem dX12_aButter_102 : decode cX12_aButter 102 = .ok (.aload_n 0, 1) := by decide +kernel
theorem dX12_aButter_103 : decode cX12_aButter 103 = .ok (.getfield 7, 3) := by decide +kernel
theorem dX12_aButter_106 : decode cX12_aButter 106 = .ok (.iload_n 1, 1) := by decide +kernel
theorem dX12_aButter_107 : decode cX12_aButter 107 = .ok (.iaload, 1) := by decide +kernel
theorem dX12_aButter_108 : decode cX12_aButter 108 = .ok (.invokestatic 192, 3) := by decide +kernel
theorem dX12_aButter_111 : decode cX12_aButter 111 = .ok (.iadd, 1) := by decide +kernel
theorem dX12_aButter_112 : decode cX12_aButter 112 = .ok (.bipush 6, 2) := by decide +kernel
theorem dX12_aButter_114 : decode cX12_aButter 114 = .ok (.iadd, 1) := by decide +kernel
theorem dX12_aButter_115 : decode cX12_aButter 115 = .ok (.aload_n 0, 1) := by decide +kernel
theorem dX12_aButter_116 : decode cX12_aButter 116 = .ok (.getfield 7, 3) := by decide +kernel
theorem dX12_aButter_119 : decode cX12_aButter 119 = .ok (.iload_n 1, 1) := by decide +kernel
theorem dX12_aButter_120 : decode cX12_aButter 120 = .ok (.iconst 1, 1) := by decide +kernel
theorem dX12_aButter_121 : decode cX12_aButter 121 = .ok (.iadd, 1) := by decide +kernel
theorem dX12_aButter_122 : decode cX12_aButter 122 = .ok (.iaload, 1) := by decide +kernel
theorem dX12_aButter_123 : decode cX12_aButter 123 = .ok (.iastore, 1) := by decide +kernel
theorem dX12_aButter_124 : decode cX12_aButter 124 = .ok (.iconst 1, 1) := by decide +kernel
theorem dX12_aButter_125 : decode cX12_aButter 125 = .ok (.ireturn, 1) := by decide +kernel
theorem dX12_otherTo_0 : decode cX12_otherTo 0 = .ok (.aload_n 0, 1) := by decide +kernel
theorem dX12_otherTo_1 : decode cX12_otherTo 1 = .ok (.ldc 190, 2) := by decide +kernel
theorem dX12_otherTo_3 : decode cX12_otherTo 3 = .ok (.invokevirtual 195, 3) := by decide +kernel
theorem dX12_otherTo_6 : decode cX12_otherTo 6 = .ok (.ifCond .eq 43, 3) := by decide +kernel
theorem dX12_otherTo_9 : decode cX12_otherTo 9 = .ok (.aload_n 0, 1) := by decide +kernel
theorem dX12_otherTo_10 : decode cX12_otherTo 10 = .ok (.iload_n 1, 1) := by decide +kernel
theorem dX12_otherTo_11 : decode cX12_otherTo 11 = .ok (.sipush 1712, 3) := by decide +kernel
theorem dX12_otherTo_14 : decode cX12_otherTo 14 = .ok (.if_icmp .ne 8, 3) := by decide +kernel
theorem dX12_otherTo_17 : decode cX12_otherTo 17 = .ok (.bipush 28, 2) := by decide +kernel
theorem dX12_otherTo_19 : decode cX12_otherTo 19 = .ok (.goto 4, 3) := by decide +kernel
theorem dX12_otherTo_22 : decode cX12_otherTo 22 = .ok (.iconst 0, 1) := by decide +kernel
theorem dX12_otherTo_23 : decode cX12_otherTo 23 = .ok (.aload_n 0, 1) := by decide +kernel
theorem dX12_otherTo_24 : decode cX12_otherTo 24 = .ok (.getfield 7, 3) := by decide +kernel
theorem dX12_otherTo_27 : decode cX12_otherTo 27 = .ok (.iload_n 1, 1) := by decide +kernel
theorem dX12_otherTo_28 : decode cX12_otherTo 28 = .ok (.iconst 0, 1) := by decide +kernel
theorem dX12_otherTo_29 : decode cX12_otherTo 29 = .ok (.iadd, 1) := by decide +kernel
theorem dX12_otherTo_30 : decode cX12_otherTo 30 = .ok (.iaload, 1) := by decide +kernel
theorem dX12_otherTo_31 : decode cX12_otherTo 31 = .ok (.invokevirtual 199, 3) := by decide +kernel
theorem dX12_otherTo_34 : decode cX12_otherTo 34 = .ok (.aload_n 0, 1) := by decide +kernel
theorem dX12_otherTo_35 : decode cX12_otherTo 35 = .ok (.getfield 7, 3) := by decide +kernel
theorem dX12_otherTo_38 : decode cX12_otherTo 38 = .ok (.iload_n 2, 1) := by decide +kernel
theorem dX12_otherTo_39 : decode cX12_otherTo 39 = .ok (.iaload, 1) := by decide +kernel
theorem dX12_otherTo_40 : decode cX12_otherTo 40 = .ok (.if_icmp .ne 9, 3) := by decide +kernel
theorem dX12_otherTo_43 : decode cX12_otherTo 43 = .ok (.aload_n 0, 1) := by decide +kernel
theorem dX12_otherTo_44 : decode cX12_otherTo 44 = .ok (.iconst 5, 1) := by decide +kernel
theorem dX12_otherTo_45 : decode cX12_otherTo 45 = .ok (.invokevirtual 179, 3) := by decide +kernel
theorem dX12_otherTo_48 : decode cX12_otherTo 48 = .ok (.ireturn, 1) := by decide +kernel
theorem dX12_otherTo_49 : decode cX12_otherTo 49 = .ok (.aload_n 0, 1) := by decide +kernel
theorem dX12_otherTo_50 : decode cX12_otherTo 50 = .ok (.iload_n 1, 1) := by decide +kernel
theorem dX12_otherTo_51 : decode cX12_otherTo 51 = .ok (.iload_n 2, 1) := by decide +kernel
theorem dX12_otherTo_52 : decode cX12_otherTo 52 = .ok (.iconst 1, 1) := by decide +kernel
theorem dX12_otherTo_53 : decode cX12_otherTo 53 = .ok (.iadd, 1) := by decide +kernel
theorem dX12_otherTo_54 : decode cX12_otherTo 54 = .ok (.invokevirtual 213, 3) := by decide +kernel
theorem dX12_otherTo_57 : decode cX12_otherTo 57 = .ok (.ireturn, 1) := by decide +kernel
theorem dX12_tablePart_0 : decode cX12_tablePart 0 = .ok (.aload_n 0, 1) := by decide +kernel
theorem dX12_tablePart_1 : decode cX12_tablePart 1 = .ok (.ldc 190, 2) := by decide +kernel
theorem dX12_tablePart_3 : decode cX12_tablePart 3 = .ok (.invokevirtual 182, 3) := by decide +kernel
theorem dX12_tablePart_6 : decode cX12_tablePart 6 = .ok (.istore_n 1, 1) := by decide +kernel
theorem dX12_tablePart_7 : decode cX12_tablePart 7 = .ok (.iload_n 1, 1) := by decide +kernel
theorem dX12_tablePart_8 : decode cX12_tablePart 8 = .ok (.ifCond .lt 9, 3) := by decide +kernel
theorem dX12_tablePart_11 : decode cX12_tablePart 11 = .ok (.iload_n 1, 1) := by decide +kernel
theorem dX12_tablePart_12 : decode cX12_tablePart 12 = .ok (.bipush 6, 2) := by decide +kernel
theorem dX12_tablePart_14 : decode cX12_tablePart 14 = .ok (.if_icmp .le 9, 3) := by decide +kernel
theorem dX12_tablePart_17 : decode cX12_tablePart 17 = .ok (.aload_n 0, 1) := by decide +kernel
theorem dX12_tablePart_18 : decode cX12_tablePart 18 = .ok (.iconst 2, 1) := by decide +kernel
theorem dX12_tablePart_19 : decode cX12_tablePart 19 = .ok (.invokevirtual 179, 3) := by decide +kernel
theorem dX12_tablePart_22 : decode cX12_tablePart 22 = .ok (.ireturn, 1) := by decide +kernel
theorem dX12_tablePart_23 : decode cX12_tablePart 23 = .ok (.iload_n 1, 1) := by decide +kernel
theorem dX12_tablePart_24 : decode cX12_tablePart 24 = .ok (.iconst 5, 1) := by decide +kernel
theorem dX12_tablePart_25 : decode cX12_tablePart 25 = .ok (.if_icmp .ne 25, 3) := by decide +kernel
theorem dX12_tablePart_28 : decode cX12_tablePart 28 = .ok (.aload_n 0, 1) := by decide +kernel
theorem dX12_tablePart_29 : decode cX12_tablePart 29 = .ok (.invokevirtual 220, 3) := by decide +kernel
theorem dX12_tablePart_32 : decode cX12_tablePart 32 = .ok (.ifCond .eq 16, 3) := by decide +kernel
theorem dX12_tablePart_35 : decode cX12_tablePart 35 = .ok (.aload_n 0, 1) := by decide +kernel
theorem dX12_tablePart_36 : decode cX12_tablePart 36 = .ok (.bipush 59, 2) := by decide +kernel
theorem dX12_tablePart_38 : decode cX12_tablePart 38 = .ok (.invokevirtual 224, 3) := by decide +kernel
theorem dX12_tablePart_41 : decode cX12_tablePart 41 = .ok (.ifCond .eq 7, 3) := by decide +kernel
theorem dX12_tablePart_44 : decode cX12_tablePart 44 = .ok (.iconst 1, 1) := by decide +kernel
theorem dX12_tablePart_45 : decode cX12_tablePart 45 = .ok (.goto 4, 3) := by decide +kernel
theorem dX12_tablePart_48 : decode cX12_tablePart 48 = .ok (.iconst 0, 1) := by decide +kernel
theorem dX12_tablePart_49 : decode cX12_tablePart 49 = .ok (.ireturn, 1) := by decide +kernel
theorem dX12_tablePart_50 : decode cX12_tablePart 50 = .ok (.iload_n 1, 1) := by decide +kernel
theorem dX12_tablePart_51 : decode cX12_tablePart 51 = .ok (.bipush 6, 2) := by decide +kernel
theorem dX12_tablePart_53 : decode cX12_tablePart 53 = .ok (.if_icmp .ne 25, 3) := by decide +kernel
theorem dX12_tablePart_56 : decode cX12_tablePart 56 = .ok (.aload_n 0, 1) := by decide +kernel
theorem dX12_tablePart_57 : decode cX12_tablePart 57 = .ok (.invokevirtual 227, 3) := by decide +kernel
theorem dX12_tablePart_60 : decode cX12_tablePart 60 = .ok (.ifCond .eq 16, 3) := by decide +kernel
theorem dX12_tablePart_63 : decode cX12_tablePart 63 = .ok (.aload_n 0, 1) := by decide +kernel
theorem dX12_tablePart_64 : decode cX12_tablePart 64 = .ok (.bipush 59, 2) := by decide +kernel
theorem dX12_tablePart_66 : decode cX12_tablePart 66 = .ok (.invokevirtual 224, 3) := by decide +kernel
theorem dX12_tablePart_69 : decode cX12_tablePart 69 = .ok (.ifCond .eq 7, 3) := by decide +kernel
theorem dX12_tablePart_72 : decode cX12_tablePart 72 = .ok (.iconst 1, 1) := by decide +kernel
theorem dX12_tablePart_73 : decode cX12_tablePart 73 = .ok (.goto 4, 3) := by decide +kernel
theorem dX12_tablePart_76 : decode cX12_tablePart 76 = .ok (.iconst 0, 1) := by decide +kernel
theorem dX12_tablePart_77 : decode cX12_tablePart 77 = .ok (.ireturn, 1) := by decide +kernel
theorem dX12_tablePart_78 : decode cX12_tablePart 78 = .ok (.aload_n 0, 1) := by decide +kernel
theorem dX12_tablePart_79 : decode cX12_tablePart 79 = .ok (.aload_n 0, 1) := by decide +kernel
theorem dX12_tablePart_80 : decode cX12_tablePart 80 = .ok (.getfield 230, 3) := by decide +kernel
theorem dX12_tablePart_83 : decode cX12_tablePart 83 = .ok (.iload_n 1, 1) := by decide +kernel
theorem dX12_tablePart_84 : decode cX12_tablePart 84 = .ok (.invokevirtual 233, 3) := by decide +kernel
theorem dX12_tablePart_87 : decode cX12_tablePart 87 = .ok (.ifCond .eq 9, 3) := by decide +kernel
theorem dX12_tablePart_90 : decode cX12_tablePart 90 = .ok (.aload_n 0, 1) := by decide +kernel
theorem dX12_tablePart_91 : decode cX12_tablePart 91 = .ok (.iconst 5, 1) := by decide +kernel
theorem dX12_tablePart_92 : decode cX12_tablePart 92 = .ok (.invokevirtual 179, 3) := by decide +kernel
theorem dX12_tablePart_95 : decode cX12_tablePart 95 = .ok (.ireturn, 1) := by decide +kernel
theorem dX12_tablePart_96 : decode cX12_tablePart 96 = .ok (.aload_n 0, 1) := by decide +kernel
theorem dX12_tablePart_97 : decode cX12_tablePart 97 = .ok (.dup, 1) := by decide +kernel
theorem dX12_tablePart_98 : decode cX12_tablePart 98 = .ok (.getfield 230, 3) := by decide +kernel
theorem dX12_tablePart_101 : decode cX12_tablePart 101 = .ok (.iconst 1, 1) := by decide +kernel
theorem dX12_tablePart_102 : decode cX12_tablePart 102 = .ok (.iload_n 1, 1) := by decide +kernel
theorem dX12_tablePart_103 : decode cX12_tablePart 103 = .ok (.ishl, 1) := by decide +kernel
theorem dX12_tablePart_104 : decode cX12_tablePart 104 = .ok (.ior, 1) := by decide +kernel
theorem dX12_tablePart_105 : decode cX12_tablePart 105 = .ok (.putfield 230, 3) := by decide +kernel
theorem dX12_tablePart_108 : decode cX12_tablePart 108 = .ok (.aload_n 0, 1) := by decide +kernel
theorem dX12_tablePart_109 : decode cX12_tablePart 109 = .ok (.invokevirtual 173, 3) := by decide +kernel
theorem dX12_tablePart_112 : decode cX12_tablePart 112 = .ok (.aload_n 0, 1) := by decide +kernel
theorem dX12_tablePart_113 : decode cX12_tablePart 113 = .ok (.sipush 1712, 3) := by decide +kernel
theorem dX12_tablePart_116 : decode cX12_tablePart 116 = .ok (.iload_n 1, 1) := by decide +kernel
theorem dX12_tablePart_117 : decode cX12_tablePart 117 = .ok (.iadd, 1) := by decide +kernel
theorem dX12_tablePart_118 : decode cX12_tablePart 118 = .ok (.iconst 1, 1) := by decide +kernel
theorem dX12_tablePart_119 : decode cX12_tablePart 119 = .ok (.iadd, 1) := by decide +kernel
theorem dX12_tablePart_120 : decode cX12_tablePart 120 = .ok (.iload_n 1, 1) := by decide +kernel
theorem dX12_tablePart_121 : decode cX12_tablePart 121 = .ok (.iconst 1, 1) := by decide +kernel
theorem dX12_tablePart_122 : decode cX12_tablePart 122 = .ok (.iadd, 1) := by decide +kernel
theorem dX12_tablePart_123 : decode cX12_tablePart 123 = .ok (.invokestatic 236, 3) := by decide +kernel
theorem dX12_tablePart_126 : decode cX12_tablePart 126 = .ok (.iload_n 1, 1) := by decide +kernel
theorem dX12_tablePart_127 : decode cX12_tablePart 127 = .ok (.iconst 1, 1) := by decide +kernel
theorem dX12_tablePart_128 : decode cX12_tablePart 128 = .ok (.iadd, 1) := by decide +kernel
theorem dX12_tablePart_129 : decode cX12_tablePart 129 = .ok (.invokestatic 239, 3) := by decide +kernel
theorem dX12_tablePart_132 : decode cX12_tablePart 132 = .ok (.invokevirtual 206, 3) := by decide +kernel
theorem dX12_tablePart_135 : decode cX12_tablePart 135 = .ok (.ifCond .eq 16, 3) := by decide +kernel
theorem dX12_tablePart_138 : decode cX12_tablePart 138 = .ok (.aload_n 0, 1) := by decide +kernel
theorem dX12_tablePart_139 : decode cX12_tablePart 139 = .ok (.bipush 59, 2) := by decide +kernel
theorem dX12_tablePart_141 : decode cX12_tablePart 141 = .ok (.invokevirtual 224, 3) := by decide +kernel
theorem dX12_tablePart_144 : decode cX12_tablePart 144 = .ok (.ifCond .eq 7, 3) := by decide +kernel
theorem dX12_tablePart_147 : decode cX12_tablePart 147 = .ok (.iconst 1, 1) := by decide +kernel
theorem dX12_tablePart_148 : decode cX12_tablePart 148 = .ok (.goto 4, 3) := by decide +kernel
theorem dX12_tablePart_151 : decode cX12_tablePart 151 = .ok (.iconst 0, 1) := by decide +kernel
theorem dX12_tablePart_152 : decode cX12_tablePart 152 = .ok (.ireturn, 1) := by decide +kernel
theorem dX12_table_0 : decode cX12_table 0 = .ok (.aload_n 0, 1) := by decide +kernel
theorem dX12_table_1 : decode cX12_table 1 = .ok (.iload_n 1, 1) := by decide +kernel
theorem dX12_table_2 : decode cX12_table 2 = .ok (.sipush 900, 3) := by decide +kernel
theorem dX12_table_5 : decode cX12_table 5 = .ok (.invokevirtual 242, 3) := by decide +kernel
theorem dX12_table_8 : decode cX12_table 8 = .ok (.ifCond .ne 9, 3) := by decide +kernel
theorem dX12_table_11 : decode cX12_table 11 = .ok (.aload_n 0, 1) := by decide +kernel
theorem dX12_table_12 : decode cX12_table 12 = .ok (.iconst 1, 1) := by decide +kernel
theorem dX12_table_13 : decode cX12_table 13 = .ok (.invokevirtual 97, 3) := by decide +kernel
theorem dX12_table_16 : decode cX12_table 16 = .ok (.ireturn, 1) := by decide +kernel
theorem dX12_table_17 : decode cX12_table 17 = .ok (.aload_n 0, 1) := by decide +kernel
theorem dX12_table_18 : decode cX12_table 18 = .ok (.sipush 1712, 3) := by decide +kernel
theorem dX12_table_21 : decode cX12_table 21 = .ok (.invokevirtual 87, 3) := by decide +kernel
theorem dX12_table_24 : decode cX12_table 24 = .ok (.aload_n 0, 1) := by decide +kernel
theorem dX12_table_25 : decode cX12_table 25 = .ok (.iconst 0, 1) := by decide +kernel
theorem dX12_table_26 : decode cX12_table 26 = .ok (.putfield 230, 3) := by decide +kernel
theorem dX12_table_29 : decode cX12_table 29 = .ok (.iconst 1, 1) := by decide +kernel
theorem dX12_table_30 : decode cX12_table 30 = .ok (.istore_n 2, 1) := by decide +kernel
theorem dX12_table_31 : decode cX12_table 31 = .ok (.iload_n 2, 1) := by decide +kernel
theorem dX12_table_32 : decode cX12_table 32 = .ok (.ifCond .eq 18, 3) := by decide +kernel
theorem dX12_table_35 : decode cX12_table 35 = .ok (.aload_n 0, 1) := by decide +kernel
theorem dX12_table_36 : decode cX12_table 36 = .ok (.getfield 142, 3) := by decide +kernel
theorem dX12_table_39 : decode cX12_table 39 = .ok (.ifCond .eq 11, 3) := by decide +kernel
theorem dX12_table_42 : decode cX12_table 42 = .ok (.aload_n 0, 1) := by decide +kernel
theorem dX12_table_43 : decode cX12_table 43 = .ok (.invokevirtual 245, 3) := by decide +kernel
theorem dX12_table_46 : decode cX12_table 46 = .ok (.istore_n 2, 1) := by decide +kernel
theorem dX12_table_47 : decode cX12_table 47 = .ok (.goto (-16), 3) := by decide +kernel
theorem dX12_table_50 : decode cX12_table 50 = .ok (.aload_n 0, 1) := by decide +kernel
theorem dX12_table_51 : decode cX12_table 51 = .ok (.getfield 167, 3) := by decide +kernel
theorem dX12_table_54 : decode cX12_table 54 = .ok (.ifCond .ne 63, 3) := by decide +kernel
theorem dX12_table_57 : decode cX12_table 57 = .ok (.iconst 0, 1) := by decide +kernel
theorem dX12_table_58 : decode cX12_table 58 = .ok (.istore_n 3, 1) := by decide +kernel
theorem dX12_table_59 : decode cX12_table 59 = .ok (.iload_n 3, 1) := by decide +kernel
theorem dX12_table_60 : decode cX12_table 60 = .ok (.sipush 428, 3) := by decide +kernel
theorem dX12_table_63 : decode cX12_table 63 = .ok (.if_icmp .ge 25, 3) := by decide +kernel
theorem dX12_table_66 : decode cX12_table 66 = .ok (.aload_n 0, 1) := by decide +kernel
theorem dX12_table_67 : decode cX12_table 67 = .ok (.getfield 7, 3) := by decide +kernel
theorem dX12_table_70 : decode cX12_table 70 = .ok (.iload_n 3, 1) := by decide +kernel
theorem dX12_table_71 : decode cX12_table 71 = .ok (.aload_n 0, 1) := by decide +kernel
theorem dX12_table_72 : decode cX12_table 72 = .ok (.getfield 7, 3) := by decide +kernel
theorem dX12_table_75 : decode cX12_table 75 = .ok (.sipush 1712, 3) := by decide +kernel
theorem dX12_table_78 : decode cX12_table 78 = .ok (.iload_n 3, 1) := by decide +kernel
theorem dX12_table_79 : decode cX12_table 79 = .ok (.iadd, 1) := by decide +kernel
theorem dX12_table_80 : decode cX12_table 80 = .ok (.iaload, 1) := by decide +kernel
theorem dX12_table_81 : decode cX12_table 81 = .ok (.iastore, 1) := by decide +kernel
theorem dX12_table_82 : decode cX12_table 82 = .ok (.iinc 3 1, 3) := by decide +kernel
theorem dX12_table_85 : decode cX12_table 85 = .ok (.goto (-26), 3) := by decide +kernel
theorem dX12_table_88 : decode cX12_table 88 = .ok (.iconst 0, 1) := by decide +kernel
theorem dX12_table_89 : decode cX12_table 89 = .ok (.istore_n 3, 1) := by decide +kernel
theorem dX12_table_90 : decode cX12_table 90 = .ok (.iload_n 3, 1) := by decide +kernel
theorem dX12_table_91 : decode cX12_table 91 = .ok (.bipush 7, 2) := by decide +kernel
theorem dX12_table_93 : decode cX12_table 93 = .ok (.if_icmp .ge 24, 3) := by decide +kernel
theorem dX12_table_96 : decode cX12_table 96 = .ok (.aload_n 0, 1) := by decide +kernel
theorem dX12_table_97 : decode cX12_table 97 = .ok (.getfield 13, 3) := by decide +kernel
theorem dX12_table_100 : decode cX12_table 100 = .ok (.iload_n 3, 1) := by decide +kernel
theorem dX12_table_101 : decode cX12_table 101 = .ok (.aload_n 0, 1) := by decide +kernel
theorem dX12_table_102 : decode cX12_table 102 = .ok (.getfield 13, 3) := by decide +kernel
theorem dX12_table_105 : decode cX12_table 105 = .ok (.bipush 28, 2) := by decide +kernel
theorem dX12_table_107 : decode cX12_table 107 = .ok (.iload_n 3, 1) := by decide +kernel
theorem dX12_table_108 : decode cX12_table 108 = .ok (.iadd, 1) := by decide +kernel
theorem dX12_table_109 : decode cX12_table 109 = .ok (.laload, 1) := by decide +kernel
theorem dX12_table_110 : decode cX12_table 110 = .ok (.lastore, 1) := by decide +kernel
theorem dX12_table_111 : decode cX12_table 111 = .ok (.iinc 3 1, 3) := by decide +kernel
theorem dX12_table_114 : decode cX12_table 114 = .ok (.goto (-24), 3) := by decide +kernel
theorem dX12_table_117 : decode cX12_table 117 = .ok (.aload_n 0, 1) := by decide +kernel
theorem dX12_table_118 : decode cX12_table 118 = .ok (.aload_n 0, 1) := by decide +kernel
theorem dX12_table_119 : decode cX12_table 119 = .ok (.getfield 7, 3) := by decide +kernel
theorem dX12_table_122 : decode cX12_table 122 = .ok (.iconst 0, 1) := by decide +kernel
theorem dX12_table_123 : decode cX12_table 123 = .ok (.iaload, 1) := by decide +kernel
theorem dX12_table_124 : decode cX12_table 124 = .ok (.invokevirtual 248, 3) := by decide +kernel
theorem dX12_table_127 : decode cX12_table 127 = .ok (.ireturn, 1) := by decide +kernel
theorem dX12_test_0 : decode cX12_test 0 = .ok (.aload_n 0, 1) := by decide +kernel
theorem dX12_test_1 : decode cX12_test 1 = .ok (.ldc 190, 2) := by decide +kernel
theorem dX12_test_3 : decode cX12_test 3 = .ok (.invokevirtual 182, 3) := by decide +kernel
theorem dX12_test_6 : decode cX12_test 6 = .ok (.istore_n 2, 1) := by decide +kernel
theorem dX12_test_7 : decode cX12_test 7 = .ok (.iload_n 2, 1) := by decide +kernel
theorem dX12_test_8 : decode cX12_test 8 = .ok (.bipush 7, 2) := by decide +kernel
theorem dX12_test_10 : decode cX12_test 10 = .ok (.if_icmp .eq 15, 3) := by decide +kernel
theorem dX12_test_13 : decode cX12_test 13 = .ok (.iload_n 2, 1) := by decide +kernel
theorem dX12_test_14 : decode cX12_test 14 = .ok (.bipush 20, 2) := by decide +kernel
theorem dX12_test_16 : decode cX12_test 16 = .ok (.if_icmp .ge 9, 3) := by decide +kernel
theorem dX12_test_19 : decode cX12_test 19 = .ok (.aload_n 0, 1) := by decide +kernel
theorem dX12_test_20 : decode cX12_test 20 = .ok (.iconst 2, 1) := by decide +kernel
theorem dX12_test_21 : decode cX12_test 21 = .ok (.invokevirtual 179, 3) := by decide +kernel
theorem dX12_test_24 : decode cX12_test 24 = .ok (.ireturn, 1) := by decide +kernel
theorem dX12_test_25 : decode cX12_test 25 = .ok (.aload_n 0, 1) := by decide +kernel
theorem dX12_test_26 : decode cX12_test 26 = .ok (.getfield 7, 3) := by decide +kernel
theorem dX12_test_29 : decode cX12_test 29 = .ok (.iload_n 1, 1) := by decide +kernel
theorem dX12_test_30 : decode cX12_test 30 = .ok (.sipush 1600, 3) := by decide +kernel
theorem dX12_test_33 : decode cX12_test 33 = .ok (.iload_n 2, 1) := by decide +kernel
theorem dX12_test_34 : decode cX12_test 34 = .ok (.iadd, 1) := by decide +kernel
theorem dX12_test_35 : decode cX12_test 35 = .ok (.iastore, 1) := by decide +kernel
theorem dX12_test_36 : decode cX12_test 36 = .ok (.aload_n 0, 1) := by decide +kernel
theorem dX12_test_37 : decode cX12_test 37 = .ok (.invokevirtual 173, 3) := by decide +kernel
theorem dX12_test_40 : decode cX12_test 40 = .ok (.iload_n 2, 1) := by decide +kernel
theorem dX12_test_41 : decode cX12_test 41 = .ok (.bipush 22, 2) := by decide +kernel
theorem dX12_test_43 : decode cX12_test 43 = .ok (.if_icmp .eq 16, 3) := by decide +kernel
theorem dX12_test_46 : decode cX12_test 46 = .ok (.aload_n 0, 1) := by decide +kernel
theorem dX12_test_47 : decode cX12_test 47 = .ok (.iconst 0, 1) := by decide +kernel
theorem dX12_test_48 : decode cX12_test 48 = .ok (.iload_n 1, 1) := by decide +kernel
theorem dX12_test_49 : decode cX12_test 49 = .ok (.iconst 1, 1) := by decide +kernel
theorem dX12_test_50 : decode cX12_test 50 = .ok (.iadd, 1) := by decide +kernel
theorem dX12_test_51 : decode cX12_test 51 = .ok (.invokevirtual 213, 3) := by decide +kernel
theorem dX12_test_54 : decode cX12_test 54 = .ok (.ifCond .ne 5, 3) := by decide +kernel
theorem dX12_test_57 : decode cX12_test 57 = .ok (.iconst 0, 1) := by decide +kernel
theorem dX12_test_58 : decode cX12_test 58 = .ok (.ireturn, 1) := by decide +kernel
theorem dX12_test_59 : decode cX12_test 59 = .ok (.iload_n 2, 1) := by decide +kernel
theorem dX12_test_60 : decode cX12_test 60 = .ok (.bipush 20, 2) := by decide +kernel
theorem dX12_test_62 : decode cX12_test 62 = .ok (.if_icmp .eq 9, 3) := by decide +kernel
theorem dX12_test_65 : decode cX12_test 65 = .ok (.iload_n 2, 1) := by decide +kernel
theorem dX12_test_66 : decode cX12_test 66 = .ok (.bipush 21, 2) := by decide +kernel
theorem dX12_test_68 : decode cX12_test 68 = .ok (.if_icmp .ne 5, 3) := by decide +kernel
theorem dX12_test_71 : decode cX12_test 71 = .ok (.iconst 1, 1) := by decide +kernel
theorem dX12_test_72 : decode cX12_test 72 = .ok (.ireturn, 1) := by decide +kernel
theorem dX12_test_73 : decode cX12_test 73 = .ok (.aload_n 0, 1) := by decide +kernel
theorem dX12_test_74 : decode cX12_test 74 = .ok (.bipush 60, 2) := by decide +kernel
theorem dX12_test_76 : decode cX12_test 76 = .ok (.invokevirtual 176, 3) := by decide +kernel
theorem dX12_test_79 : decode cX12_test 79 = .ok (.ifCond .ne 27, 3) := by decide +kernel
theorem dX12_test_82 : decode cX12_test 82 = .ok (.aload_n 0, 1) := by decide +kernel
theorem dX12_test_83 : decode cX12_test 83 = .ok (.bipush 62, 2) := by decide +kernel
theorem dX12_test_85 : decode cX12_test 85 = .ok (.invokevirtual 176, 3) := by decide +kernel
theorem dX12_test_88 : decode cX12_test 88 = .ok (.ifCond .ne 18, 3) := by decide +kernel
theorem dX12_test_91 : decode cX12_test 91 = .ok (.aload_n 0, 1) := by decide +kernel
theorem dX12_test_92 : decode cX12_test 92 = .ok (.bipush 61, 2) := by decide +kernel
theorem dX12_test_94 : decode cX12_test 94 = .ok (.invokevirtual 176, 3) := by decide +kernel
theorem dX12_test_97 : decode cX12_test 97 = .ok (.ifCond .ne 9, 3) := by decide +kernel
theorem dX12_test_100 : decode cX12_test 100 = .ok (.aload_n 0, 1) := by decide +kernel
theorem dX12_test_101 : decode cX12_test 101 = .ok (.iconst 2, 1) := by decide +kernel
theorem dX12_test_102 : decode cX12_test 102 = .ok (.invokevirtual 179, 3) := by decide +kernel
theorem dX12_test_105 : decode cX12_test 105 = .ok (.ireturn, 1) := by decide +kernel
theorem dX12_test_106 : decode cX12_test 106 = .ok (.aload_n 0, 1) := by decide +kernel
theorem dX12_test_107 : decode cX12_test 107 = .ok (.getfield 7, 3) := by decide +kernel
theorem dX12_test_110 : decode cX12_test 110 = .ok (.iload_n 1, 1) := by decide +kernel
theorem dX12_test_111 : decode cX12_test 111 = .ok (.iconst 5, 1) := by decide +kernel
theorem dX12_test_112 : decode cX12_test 112 = .ok (.iadd, 1) := by decide +kernel
theorem dX12_test_113 : decode cX12_test 113 = .ok (.aload_n 0, 1) := by decide +kernel
theorem dX12_test_114 : decode cX12_test 114 = .ok (.getfield 139, 3) := by decide +kernel
theorem dX12_test_117 : decode cX12_test 117 = .ok (.iastore, 1) := by decide +kernel
theorem dX12_test_118 : decode cX12_test 118 = .ok (.aload_n 0, 1) := by decide +kernel
theorem dX12_test_119 : decode cX12_test 119 = .ok (.invokevirtual 173, 3) := by decide +kernel
theorem dX12_test_122 : decode cX12_test 122 = .ok (.aload_n 0, 1) := by decide +kernel
theorem dX12_test_123 : decode cX12_test 123 = .ok (.iload_n 1, 1) := by decide +kernel
theorem dX12_test_124 : decode cX12_test 124 = .ok (.iconst 2, 1) := by decide +kernel
theorem dX12_test_125 : decode cX12_test 125 = .ok (.iadd, 1) := by decide +kernel
theorem dX12_test_126 : decode cX12_test 126 = .ok (.iconst 0, 1) := by decide +kernel
theorem dX12_test_127 : decode cX12_test 127 = .ok (.iload_n 2, 1) := by decide +kernel
theorem dX12_test_128 : decode cX12_test 128 = .ok (.bipush 22, 2) := by decide +kernel
theorem dX12_test_130 : decode cX12_test 130 = .ok (.if_icmp .ne 8, 3) := by decide +kernel
theorem dX12_test_133 : decode cX12_test 133 = .ok (.bipush 60, 2) := by decide +kernel
theorem dX12_test_135 : decode cX12_test 135 = .ok (.goto 5, 3) := by decide +kernel
theorem dX12_test_138 : decode cX12_test 138 = .ok (.bipush 20, 2) := by decide +kernel
theorem dX12_test_140 : decode cX12_test 140 = .ok (.invokevirtual 206, 3) := by decide +kernel
theorem dX12_test_143 : decode cX12_test 143 = .ok (.ireturn, 1) := by decide +kernel
theorem dX12_weekOrder_0 : decode cX12_weekOrder 0 = .ok (.iload_n 1, 1) := by decide +kernel
theorem dX12_weekOrder_1 : decode cX12_weekOrder 1 = .ok (.tableswitch 139 6 17 #[83, 139, 139, 139, 139, 63, 74, 74, 111, 139, 133, 122], 63) := by decide +kernel
theorem dX12_weekOrder_64 : decode cX12_weekOrder 64 = .ok (.aload_n 0, 1) := by decide +kernel
theorem dX12_weekOrder_65 : decode cX12_weekOrder 65 = .ok (.iload_n 2, 1) := by decide +kernel
theorem dX12_weekOrder_66 : decode cX12_weekOrder 66 = .ok (.iconst 1, 1) := by decide +kernel
theorem dX12_weekOrder_67 : decode cX12_weekOrder 67 = .ok (.iadd, 1) := by decide +kernel
theorem dX12_weekOrder_68 : decode cX12_weekOrder 68 = .ok (.iconst 1, 1) := by decide +kernel
theorem dX12_weekOrder_69 : decode cX12_weekOrder 69 = .ok (.bipush 20, 2) := by decide +kernel
theorem dX12_weekOrder_71 : decode cX12_weekOrder 71 = .ok (.invokevirtual 206, 3) := by decide +kernel
theorem dX12_weekOrder_74 : decode cX12_weekOrder 74 = .ok (.ireturn, 1) := by decide +kernel
theorem dX12_weekOrder_75 : decode cX12_weekOrder 75 = .ok (.aload_n 0, 1) := by decide +kernel
theorem dX12_weekOrder_76 : decode cX12_weekOrder 76 = .ok (.iconst 0, 1) := by decide +kernel
theorem dX12_weekOrder_77 : decode cX12_weekOrder 77 = .ok (.iload_n 2, 1) := by decide +kernel
theorem dX12_weekOrder_78 : decode cX12_weekOrder 78 = .ok (.iconst 1, 1) := by decide +kernel
theorem dX12_weekOrder_79 : decode cX12_weekOrder 79 = .ok (.iadd, 1) := by decide +kernel
theorem dX12_weekOrder_80 : decode cX12_weekOrder 80 = .ok (.invokevirtual 213, 3) := by decide +kernel
theorem dX12_weekOrder_83 : decode cX12_weekOrder 83 = .ok (.ireturn, 1) := by decide +kernel
theorem dX12_weekOrder_84 : decode cX12_weekOrder 84 = .ok (.aload_n 0, 1) := by decide +kernel
theorem dX12_weekOrder_85 : decode cX12_weekOrder 85 = .ok (.iconst 0, 1) := by decide +kernel
theorem dX12_weekOrder_86 : decode cX12_weekOrder 86 = .ok (.iload_n 2, 1) := by decide +kernel
theorem dX12_weekOrder_87 : decode cX12_weekOrder 87 = .ok (.iconst 1, 1) := by decide +kernel
theorem dX12_weekOrder_88 : decode cX12_weekOrder 88 = .ok (.iadd, 1) := by decide +kernel
theorem dX12_weekOrder_89 : decode cX12_weekOrder 89 = .ok (.invokevirtual 213, 3) := by decide +kernel
theorem dX12_weekOrder_92 : decode cX12_weekOrder 92 = .ok (.ifCond .eq 18, 3) := by decide +kernel
theorem dX12_weekOrder_95 : decode cX12_weekOrder 95 = .ok (.aload_n 0, 1) := by decide +kernel
theorem dX12_weekOrder_96 : decode cX12_weekOrder 96 = .ok (.iconst 0, 1) := by decide +kernel
theorem dX12_weekOrder_97 : decode cX12_weekOrder 97 = .ok (.iload_n 2, 1) := by decide +kernel
theorem dX12_weekOrder_98 : decode cX12_weekOrder 98 = .ok (.iconst 1, 1) := by decide +kernel
theorem dX12_weekOrder_99 : decode cX12_weekOrder 99 = .ok (.iadd, 1) := by decide +kernel
theorem dX12_weekOrder_100 : decode cX12_weekOrder 100 = .ok (.invokevirtual 217, 3) := by decide +kernel
theorem dX12_weekOrder_103 : decode cX12_weekOrder 103 = .ok (.ifCond .eq 7, 3) := by decide +kernel
theorem dX12_weekOrder_106 : decode cX12_weekOrder 106 = .ok (.iconst 1, 1) := by decide +kernel
theorem dX12_weekOrder_107 : decode cX12_weekOrder 107 = .ok (.goto 4, 3) := by decide +kernel
theorem dX12_weekOrder_110 : decode cX12_weekOrder 110 = .ok (.iconst 0, 1) := by decide +kernel
theorem dX12_weekOrder_111 : decode cX12_weekOrder 111 = .ok (.ireturn, 1) := by decide +kernel
theorem dX12_weekOrder_112 : decode cX12_weekOrder 112 = .ok (.aload_n 0, 1) := by decide +kernel
theorem dX12_weekOrder_113 : decode cX12_weekOrder 113 = .ok (.iload_n 2, 1) := by decide +kernel
theorem dX12_weekOrder_114 : decode cX12_weekOrder 114 = .ok (.iconst 1, 1) := by decide +kernel
theorem dX12_weekOrder_115 : decode cX12_weekOrder 115 = .ok (.iadd, 1) := by decide +kernel
theorem dX12_weekOrder_116 : decode cX12_weekOrder 116 = .ok (.iconst 1, 1) := by decide +kernel
theorem dX12_weekOrder_117 : decode cX12_weekOrder 117 = .ok (.bipush 60, 2) := by decide +kernel
theorem dX12_weekOrder_119 : decode cX12_weekOrder 119 = .ok (.invokevirtual 206, 3) := by decide +kernel
theorem dX12_weekOrder_122 : decode cX12_weekOrder 122 = .ok (.ireturn, 1) := by decide +kernel
theorem dX12_weekOrder_123 : decode cX12_weekOrder 123 = .ok (.aload_n 0, 1) := by decide +kernel
theorem dX12_weekOrder_124 : decode cX12_weekOrder 124 = .ok (.iload_n 2, 1) := by decide +kernel
theorem dX12_weekOrder_125 : decode cX12_weekOrder 125 = .ok (.iconst 1, 1) := by decide +kernel
theorem dX12_weekOrder_126 : decode cX12_weekOrder 126 = .ok (.iadd, 1) := by decide +kernel
theorem dX12_weekOrder_127 : decode cX12_weekOrder 127 = .ok (.iconst 1, 1) := by decide +kernel
theorem dX12_weekOrder_128 : decode cX12_weekOrder 128 = .ok (.bipush 99, 2) := by decide +kernel
theorem dX12_weekOrder_130 : decode cX12_weekOrder 130 = .ok (.invokevirtual 206, 3) := by decide +kernel
theorem dX12_weekOrder_133 : decode cX12_weekOrder 133 = .ok (.ireturn, 1) := by decide +kernel
theorem dX12_weekOrder_134 : decode cX12_weekOrder 134 = .ok (.aload_n 0, 1) := by decide +kernel
theorem dX12_weekOrder_135 : decode cX12_weekOrder 135 = .ok (.iload_n 2, 1) := by decide +kernel
theorem dX12_weekOrder_136 : decode cX12_weekOrder 136 = .ok (.invokevirtual 251, 3) := by decide +kernel
theorem dX12_weekOrder_139 : decode cX12_weekOrder 139 = .ok (.ireturn, 1) := by decide +kernel
theorem dX12_weekOrder_140 : decode cX12_weekOrder 140 = .ok (.iconst 1, 1) := by decide +kernel
theorem dX12_weekOrder_141 : decode cX12_weekOrder 141 = .ok (.ireturn, 1) := by decide +kernel
theorem dX12_weekStep_0 : decode cX12_weekStep 0 = .ok (.aload_n 0, 1) := by decide +kernel
theorem dX12_weekStep_1 : decode cX12_weekStep 1 = .ok (.ldc 190, 2) := by decide +kernel
theorem dX12_weekStep_3 : decode cX12_weekStep 3 = .ok (.invokevirtual 182, 3) := by decide +kernel
theorem dX12_weekStep_6 : decode cX12_weekStep 6 = .ok (.istore_n 1, 1) := by decide +kernel
theorem dX12_weekStep_7 : decode cX12_weekStep 7 = .ok (.aload_n 0, 1) := by decide +kernel
theorem dX12_weekStep_8 : decode cX12_weekStep 8 = .ok (.getfield 7, 3) := by decide +kernel
theorem dX12_weekStep_11 : decode cX12_weekStep 11 = .ok (.sipush 1720, 3) := by decide +kernel
theorem dX12_weekStep_14 : decode cX12_weekStep 14 = .ok (.iaload, 1) := by decide +kernel
theorem dX12_weekStep_15 : decode cX12_weekStep 15 = .ok (.istore_n 2, 1) := by decide +kernel
theorem dX12_weekStep_16 : decode cX12_weekStep 16 = .ok (.sipush 1772, 3) := by decide +kernel
theorem dX12_weekStep_19 : decode cX12_weekStep 19 = .ok (.bipush 6, 2) := by decide +kernel
theorem dX12_weekStep_21 : decode cX12_weekStep 21 = .ok (.iload_n 2, 1) := by decide +kernel
theorem dX12_weekStep_22 : decode cX12_weekStep 22 = .ok (.imul, 1) := by decide +kernel
theorem dX12_weekStep_23 : decode cX12_weekStep 23 = .ok (.iadd, 1) := by decide +kernel
theorem dX12_weekStep_24 : decode cX12_weekStep 24 = .ok (.istore_n 3, 1) := by decide +kernel
theorem dX12_weekStep_25 : decode cX12_weekStep 25 = .ok (.iload_n 1, 1) := by decide +kernel
theorem dX12_weekStep_26 : decode cX12_weekStep 26 = .ok (.bipush 16, 2) := by decide +kernel
theorem dX12_weekStep_28 : decode cX12_weekStep 28 = .ok (.if_icmp .eq 9, 3) := by decide +kernel
theorem dX12_weekStep_31 : decode cX12_weekStep 31 = .ok (.iload_n 1, 1) := by decide +kernel
theorem dX12_weekStep_32 : decode cX12_weekStep 32 = .ok (.bipush 17, 2) := by decide +kernel
theorem dX12_weekStep_34 : decode cX12_weekStep 34 = .ok (.if_icmp .ne 7, 3) := by decide +kernel
theorem dX12_weekStep_37 : decode cX12_weekStep 37 = .ok (.iconst 1, 1) := by decide +kernel
theorem dX12_weekStep_38 : decode cX12_weekStep 38 = .ok (.goto 4, 3) := by decide +kernel
theorem dX12_weekStep_41 : decode cX12_weekStep 41 = .ok (.iconst 0, 1) := by decide +kernel
theorem dX12_weekStep_42 : decode cX12_weekStep 42 = .ok (.istore 4, 2) := by decide +kernel
theorem dX12_weekStep_44 : decode cX12_weekStep 44 = .ok (.iload_n 1, 1) := by decide +kernel
theorem dX12_weekStep_45 : decode cX12_weekStep 45 = .ok (.bipush 6, 2) := by decide +kernel
theorem dX12_weekStep_47 : decode cX12_weekStep 47 = .ok (.if_icmp .eq 15, 3) := by decide +kernel
theorem dX12_weekStep_50 : decode cX12_weekStep 50 = .ok (.iload_n 1, 1) := by decide +kernel
theorem dX12_weekStep_51 : decode cX12_weekStep 51 = .ok (.bipush 11, 2) := by decide +kernel
theorem dX12_weekStep_53 : decode cX12_weekStep 53 = .ok (.if_icmp .lt 13, 3) := by decide +kernel
theorem dX12_weekStep_56 : decode cX12_weekStep 56 = .ok (.iload_n 1, 1) := by decide +kernel
theorem dX12_weekStep_57 : decode cX12_weekStep 57 = .ok (.bipush 19, 2) := by decide +kernel
theorem dX12_weekStep_59 : decode cX12_weekStep 59 = .ok (.if_icmp .gt 7, 3) := by decide +kernel
theorem dX12_weekStep_62 : decode cX12_weekStep 62 = .ok (.iconst 1, 1) := by decide +kernel
theorem dX12_weekStep_63 : decode cX12_weekStep 63 = .ok (.goto 4, 3) := by decide +kernel
theorem dX12_weekStep_66 : decode cX12_weekStep 66 = .ok (.iconst 0, 1) := by decide +kernel
theorem dX12_weekStep_67 : decode cX12_weekStep 67 = .ok (.istore 5, 2) := by decide +kernel
theorem dX12_weekStep_69 : decode cX12_weekStep 69 = .ok (.iload 5, 2) := by decide +kernel
theorem dX12_weekStep_71 : decode cX12_weekStep 71 = .ok (.ifCond .eq 16, 3) := by decide +kernel
theorem dX12_weekStep_74 : decode cX12_weekStep 74 = .ok (.iload_n 1, 1) := by decide +kernel
theorem dX12_weekStep_75 : decode cX12_weekStep 75 = .ok (.bipush 18, 2) := by decide +kernel
theorem dX12_weekStep_77 : decode cX12_weekStep 77 = .ok (.if_icmp .ne 16, 3) := by decide +kernel
theorem dX12_weekStep_80 : decode cX12_weekStep 80 = .ok (.aload_n 0, 1) := by decide +kernel
theorem dX12_weekStep_81 : decode cX12_weekStep 81 = .ok (.getfield 254, 3) := by decide +kernel
theorem dX12_weekStep_84 : decode cX12_weekStep 84 = .ok (.ifCond .ne 9, 3) := by decide +kernel
theorem dX12_weekStep_87 : decode cX12_weekStep 87 = .ok (.aload_n 0, 1) := by decide +kernel
theorem dX12_weekStep_88 : decode cX12_weekStep 88 = .ok (.iconst 2, 1) := by decide +kernel
theorem dX12_weekStep_89 : decode cX12_weekStep 89 = .ok (.invokevirtual 179, 3) := by decide +kernel
theorem dX12_weekStep_92 : decode cX12_weekStep 92 = .ok (.ireturn, 1) := by decide +kernel
theorem dX12_weekStep_93 : decode cX12_weekStep 93 = .ok (.iload_n 1, 1) := by decide +kernel
theorem dX12_weekStep_94 : decode cX12_weekStep 94 = .ok (.bipush 18, 2) := by decide +kernel
theorem dX12_weekStep_96 : decode cX12_weekStep 96 = .ok (.if_icmp .eq 19, 3) := by decide +kernel
theorem dX12_weekStep_99 : decode cX12_weekStep 99 = .ok (.aload_n 0, 1) := by decide +kernel
theorem dX12_weekStep_100 : decode cX12_weekStep 100 = .ok (.getfield 257, 3) := by decide +kernel
theorem dX12_weekStep_103 : decode cX12_weekStep 103 = .ok (.bipush 30, 2) := by decide +kernel
theorem dX12_weekStep_105 : decode cX12_weekStep 105 = .ok (.if_icmp .ne 10, 3) := by decide +kernel
theorem dX12_weekStep_108 : decode cX12_weekStep 108 = .ok (.aload_n 0, 1) := by decide +kernel
theorem dX12_weekStep_109 : decode cX12_weekStep 109 = .ok (.bipush 6, 2) := by decide +kernel
theorem dX12_weekStep_111 : decode cX12_weekStep 111 = .ok (.invokevirtual 179, 3) := by decide +kernel
theorem dX12_weekStep_114 : decode cX12_weekStep 114 = .ok (.ireturn, 1) := by decide +kernel
theorem dX12_weekStep_115 : decode cX12_weekStep 115 = .ok (.iload 4, 2) := by decide +kernel
theorem dX12_weekStep_117 : decode cX12_weekStep 117 = .ok (.ifCond .eq 18, 3) := by decide +kernel
theorem dX12_weekStep_120 : decode cX12_weekStep 120 = .ok (.aload_n 0, 1) := by decide +kernel
theorem dX12_weekStep_121 : decode cX12_weekStep 121 = .ok (.getfield 254, 3) := by decide +kernel
theorem dX12_weekStep_124 : decode cX12_weekStep 124 = .ok (.iconst 3, 1) := by decide +kernel
theorem dX12_weekStep_125 : decode cX12_weekStep 125 = .ok (.if_icmp .ne 10, 3) := by decide +kernel
theorem dX12_weekStep_128 : decode cX12_weekStep 128 = .ok (.aload_n 0, 1) := by decide +kernel
theorem dX12_weekStep_129 : decode cX12_weekStep 129 = .ok (.bipush 7, 2) := by decide +kernel
theorem dX12_weekStep_131 : decode cX12_weekStep 131 = .ok (.invokevirtual 179, 3) := by decide +kernel
theorem dX12_weekStep_134 : decode cX12_weekStep 134 = .ok (.ireturn, 1) := by decide +kernel
theorem dX12_weekStep_135 : decode cX12_weekStep 135 = .ok (.aload_n 0, 1) := by decide +kernel
theorem dX12_weekStep_136 : decode cX12_weekStep 136 = .ok (.dup, 1) := by decide +kernel
theorem dX12_weekStep_137 : decode cX12_weekStep 137 = .ok (.getfield 257, 3) := by decide +kernel
theorem dX12_weekStep_140 : decode cX12_weekStep 140 = .ok (.iload_n 1, 1) := by decide +kernel
theorem dX12_weekStep_141 : decode cX12_weekStep 141 = .ok (.bipush 18, 2) := by decide +kernel
theorem dX12_weekStep_143 : decode cX12_weekStep 143 = .ok (.if_icmp .ne 7, 3) := by decide +kernel
theorem dX12_weekStep_146 : decode cX12_weekStep 146 = .ok (.iconst 0, 1) := by decide +kernel
theorem dX12_weekStep_147 : decode cX12_weekStep 147 = .ok (.goto 4, 3) := by decide +kernel
theorem dX12_weekStep_150 : decode cX12_weekStep 150 = .ok (.iconst 1, 1) := by decide +kernel
theorem dX12_weekStep_151 : decode cX12_weekStep 151 = .ok (.iadd, 1) := by decide +kernel
theorem dX12_weekStep_152 : decode cX12_weekStep 152 = .ok (.putfield 257, 3) := by decide +kernel
theorem dX12_weekStep_155 : decode cX12_weekStep 155 = .ok (.aload_n 0, 1) := by decide +kernel
theorem dX12_weekStep_156 : decode cX12_weekStep 156 = .ok (.getfield 7, 3) := by decide +kernel
theorem dX12_weekStep_159 : decode cX12_weekStep 159 = .ok (.iload_n 3, 1) := by decide +kernel
theorem dX12_weekStep_160 : decode cX12_weekStep 160 = .ok (.iload_n 1, 1) := by decide +kernel
theorem dX12_weekStep_161 : decode cX12_weekStep 161 = .ok (.iastore, 1) := by decide +kernel
theorem dX12_weekStep_162 : decode cX12_weekStep 162 = .ok (.iconst 1, 1) := by decide +kernel
theorem dX12_weekStep_163 : decode cX12_weekStep 163 = .ok (.istore 6, 2) := by decide +kernel
theorem dX12_weekStep_165 : decode cX12_weekStep 165 = .ok (.iload 6, 2) := by decide +kernel
theorem dX12_weekStep_167 : decode cX12_weekStep 167 = .ok (.bipush 6, 2) := by decide +kernel
theorem dX12_weekStep_169 : decode cX12_weekStep 169 = .ok (.if_icmp .ge 19, 3) := by decide +kernel
theorem dX12_weekStep_172 : decode cX12_weekStep 172 = .ok (.aload_n 0, 1) := by decide +kernel
theorem dX12_weekStep_173 : decode cX12_weekStep 173 = .ok (.getfield 7, 3) := by decide +kernel
theorem dX12_weekStep_176 : decode cX12_weekStep 176 = .ok (.iload_n 3, 1) := by decide +kernel
theorem dX12_weekStep_177 : decode cX12_weekStep 177 = .ok (.iload 6, 2) := by decide +kernel
theorem dX12_weekStep_179 : decode cX12_weekStep 179 = .ok (.iadd, 1) := by decide +kernel
theorem dX12_weekStep_180 : decode cX12_weekStep 180 = .ok (.iconst 0, 1) := by decide +kernel
theorem dX12_weekStep_181 : decode cX12_weekStep 181 = .ok (.iastore, 1) := by decide +kernel
theorem dX12_weekStep_182 : decode cX12_weekStep 182 = .ok (.iinc 6 1, 3) := by decide +kernel
theorem dX12_weekStep_185 : decode cX12_weekStep 185 = .ok (.goto (-20), 3) := by decide +kernel
theorem dX12_weekStep_188 : decode cX12_weekStep 188 = .ok (.aload_n 0, 1) := by decide +kernel
theorem dX12_weekStep_189 : decode cX12_weekStep 189 = .ok (.getfield 7, 3) := by decide +kernel
theorem dX12_weekStep_192 : decode cX12_weekStep 192 = .ok (.sipush 1720, 3) := by decide +kernel
theorem dX12_weekStep_195 : decode cX12_weekStep 195 = .ok (.dup2, 1) := by decide +kernel
theorem dX12_weekStep_196 : decode cX12_weekStep 196 = .ok (.iaload, 1) := by decide +kernel
theorem dX12_weekStep_197 : decode cX12_weekStep 197 = .ok (.iconst 1, 1) := by decide +kernel
theorem dX12_weekStep_198 : decode cX12_weekStep 198 = .ok (.iadd, 1) := by decide +kernel
theorem dX12_weekStep_199 : decode cX12_weekStep 199 = .ok (.iastore, 1) := by decide +kernel
theorem dX12_weekStep_200 : decode cX12_weekStep 200 = .ok (.aload_n 0, 1) := by decide +kernel
theorem dX12_weekStep_201 : decode cX12_weekStep 201 = .ok (.invokevirtual 173, 3) := by decide +kernel
theorem dX12_weekStep_204 : decode cX12_weekStep 204 = .ok (.aload_n 0, 1) := by decide +kernel
theorem dX12_weekStep_205 : decode cX12_weekStep 205 = .ok (.iload_n 1, 1) := by decide +kernel
theorem dX12_weekStep_206 : decode cX12_weekStep 206 = .ok (.iload_n 3, 1) := by decide +kernel
theorem dX12_weekStep_207 : decode cX12_weekStep 207 = .ok (.invokevirtual 260, 3) := by decide +kernel
theorem dX12_weekStep_210 : decode cX12_weekStep 210 = .ok (.ifCond .ne 5, 3) := by decide +kernel
theorem dX12_weekStep_213 : decode cX12_weekStep 213 = .ok (.iconst 0, 1) := by decide +kernel
theorem dX12_weekStep_214 : decode cX12_weekStep 214 = .ok (.ireturn, 1) := by decide +kernel
theorem dX12_weekStep_215 : decode cX12_weekStep 215 = .ok (.iload 4, 2) := by decide +kernel
theorem dX12_weekStep_217 : decode cX12_weekStep 217 = .ok (.ifCond .eq 23, 3) := by decide +kernel
theorem dX12_weekStep_220 : decode cX12_weekStep 220 = .ok (.aload_n 0, 1) := by decide +kernel
theorem dX12_weekStep_221 : decode cX12_weekStep 221 = .ok (.getfield 44, 3) := by decide +kernel
theorem dX12_weekStep_224 : decode cX12_weekStep 224 = .ok (.aload_n 0, 1) := by decide +kernel
theorem dX12_weekStep_225 : decode cX12_weekStep 225 = .ok (.getfield 254, 3) := by decide +kernel
theorem dX12_weekStep_228 : decode cX12_weekStep 228 = .ok (.iload_n 2, 1) := by decide +kernel
theorem dX12_weekStep_229 : decode cX12_weekStep 229 = .ok (.iastore, 1) := by decide +kernel
theorem dX12_weekStep_230 : decode cX12_weekStep 230 = .ok (.aload_n 0, 1) := by decide +kernel
theorem dX12_weekStep_231 : decode cX12_weekStep 231 = .ok (.dup, 1) := by decide +kernel
theorem dX12_weekStep_232 : decode cX12_weekStep 232 = .ok (.getfield 254, 3) := by decide +kernel
theorem dX12_weekStep_235 : decode cX12_weekStep 235 = .ok (.iconst 1, 1) := by decide +kernel
theorem dX12_weekStep_236 : decode cX12_weekStep 236 = .ok (.iadd, 1) := by decide +kernel
theorem dX12_weekStep_237 : decode cX12_weekStep 237 = .ok (.putfield 254, 3) := by decide +kernel
theorem dX12_weekStep_240 : decode cX12_weekStep 240 = .ok (.iload_n 1, 1) := by decide +kernel
theorem dX12_weekStep_241 : decode cX12_weekStep 241 = .ok (.bipush 18, 2) := by decide +kernel
theorem dX12_weekStep_243 : decode cX12_weekStep 243 = .ok (.if_icmp .ne 54, 3) := by decide +kernel
theorem dX12_weekStep_246 : decode cX12_weekStep 246 = .ok (.aload_n 0, 1) := by decide +kernel
theorem dX12_weekStep_247 : decode cX12_weekStep 247 = .ok (.dup, 1) := by decide +kernel
theorem dX12_weekStep_248 : decode cX12_weekStep 248 = .ok (.getfield 254, 3) := by decide +kernel
theorem dX12_weekStep_251 : decode cX12_weekStep 251 = .ok (.iconst 1, 1) := by decide +kernel
theorem dX12_weekStep_252 : decode cX12_weekStep 252 = .ok (.isub, 1) := by decide +kernel
theorem dX12_weekStep_253 : decode cX12_weekStep 253 = .ok (.putfield 254, 3) := by decide +kernel
theorem dX12_weekStep_256 : decode cX12_weekStep 256 = .ok (.aload_n 0, 1) := by decide +kernel
theorem dX12_weekStep_257 : decode cX12_weekStep 257 = .ok (.getfield 7, 3) := by decide +kernel
theorem dX12_weekStep_260 : decode cX12_weekStep 260 = .ok (.iload_n 3, 1) := by decide +kernel
theorem dX12_weekStep_261 : decode cX12_weekStep 261 = .ok (.iconst 4, 1) := by decide +kernel
theorem dX12_weekStep_262 : decode cX12_weekStep 262 = .ok (.iadd, 1) := by decide +kernel
theorem dX12_weekStep_263 : decode cX12_weekStep 263 = .ok (.aload_n 0, 1) := by decide +kernel
theorem dX12_weekStep_264 : decode cX12_weekStep 264 = .ok (.getfield 44, 3) := by decide +kernel
theorem dX12_weekStep_267 : decode cX12_weekStep 267 = .ok (.aload_n 0, 1) := by decide +kernel
theorem dX12_weekStep_268 : decode cX12_weekStep 268 = .ok (.getfield 254, 3) := by decide +kernel
theorem dX12_weekStep_271 : decode cX12_weekStep 271 = .ok (.iaload, 1) := by decide +kernel
theorem dX12_weekStep_272 : decode cX12_weekStep 272 = .ok (.iastore, 1) := by decide +kernel
theorem dX12_weekStep_273 : decode cX12_weekStep 273 = .ok (.aload_n 0, 1) := by decide +kernel
theorem dX12_weekStep_274 : decode cX12_weekStep 274 = .ok (.getfield 7, 3) := by decide +kernel
theorem dX12_weekStep_277 : decode cX12_weekStep 277 = .ok (.sipush 1772, 3) := by decide +kernel
theorem dX12_weekStep_280 : decode cX12_weekStep 280 = .ok (.bipush 6, 2) := by decide +kernel
theorem dX12_weekStep_282 : decode cX12_weekStep 282 = .ok (.aload_n 0, 1) := by decide +kernel
theorem dX12_weekStep_283 : decode cX12_weekStep 283 = .ok (.getfield 44, 3) := by decide +kernel
theorem dX12_weekStep_286 : decode cX12_weekStep 286 = .ok (.aload_n 0, 1) := by decide +kernel
theorem dX12_weekStep_287 : decode cX12_weekStep 287 = .ok (.getfield 254, 3) := by decide +kernel
theorem dX12_weekStep_290 : decode cX12_weekStep 290 = .ok (.iaload, 1) := by decide +kernel
theorem dX12_weekStep_291 : decode cX12_weekStep 291 = .ok (.imul, 1) := by decide +kernel
theorem dX12_weekStep_292 : decode cX12_weekStep 292 = .ok (.iadd, 1) := by decide +kernel
theorem dX12_weekStep_293 : decode cX12_weekStep 293 = .ok (.iconst 4, 1) := by decide +kernel
theorem dX12_weekStep_294 : decode cX12_weekStep 294 = .ok (.iadd, 1) := by decide +kernel
theorem dX12_weekStep_295 : decode cX12_weekStep 295 = .ok (.iload_n 2, 1) := by decide +kernel
theorem dX12_weekStep_296 : decode cX12_weekStep 296 = .ok (.iastore, 1) := by decide +kernel
theorem dX12_weekStep_297 : decode cX12_weekStep 297 = .ok (.aload_n 0, 1) := by decide +kernel
theorem dX12_weekStep_298 : decode cX12_weekStep 298 = .ok (.bipush 59, 2) := by decide +kernel
theorem dX12_weekStep_300 : decode cX12_weekStep 300 = .ok (.invokevirtual 224, 3) := by decide +kernel
theorem dX12_weekStep_303 : decode cX12_weekStep 303 = .ok (.ireturn, 1) := by decide +kernel
theorem dX12_weeks_0 : decode cX12_weeks 0 = .ok (.aload_n 0, 1) := by decide +kernel
theorem dX12_weeks_1 : decode cX12_weeks 1 = .ok (.iload_n 1, 1) := by decide +kernel
theorem dX12_weeks_2 : decode cX12_weeks 2 = .ok (.sipush 300, 3) := by decide +kernel
theorem dX12_weeks_5 : decode cX12_weeks 5 = .ok (.invokevirtual 242, 3) := by decide +kernel
theorem dX12_weeks_8 : decode cX12_weeks 8 = .ok (.ifCond .ne 9, 3) := by decide +kernel
theorem dX12_weeks_11 : decode cX12_weeks 11 = .ok (.aload_n 0, 1) := by decide +kernel
theorem dX12_weeks_12 : decode cX12_weeks 12 = .ok (.iconst 1, 1) := by decide +kernel
theorem dX12_weeks_13 : decode cX12_weeks 13 = .ok (.invokevirtual 97, 3) := by decide +kernel
theorem dX12_weeks_16 : decode cX12_weeks 16 = .ok (.ireturn, 1) := by decide +kernel
theorem dX12_weeks_17 : decode cX12_weeks 17 = .ok (.aload_n 0, 1) := by decide +kernel
theorem dX12_weeks_18 : decode cX12_weeks 18 = .ok (.getfield 7, 3) := by decide +kernel
theorem dX12_weeks_21 : decode cX12_weeks 21 = .ok (.sipush 1720, 3) := by decide +kernel
theorem dX12_weeks_24 : decode cX12_weeks 24 = .ok (.iconst 0, 1) := by decide +kernel
theorem dX12_weeks_25 : decode cX12_weeks 25 = .ok (.iastore, 1) := by decide +kernel
theorem dX12_weeks_26 : decode cX12_weeks 26 = .ok (.aload_n 0, 1) := by decide +kernel
theorem dX12_weeks_27 : decode cX12_weeks 27 = .ok (.iconst 0, 1) := by decide +kernel
theorem dX12_weeks_28 : decode cX12_weeks 28 = .ok (.putfield 254, 3) := by decide +kernel
theorem dX12_weeks_31 : decode cX12_weeks 31 = .ok (.aload_n 0, 1) := by decide +kernel
theorem dX12_weeks_32 : decode cX12_weeks 32 = .ok (.iconst 0, 1) := by decide +kernel
theorem dX12_weeks_33 : decode cX12_weeks 33 = .ok (.putfield 257, 3) := by decide +kernel
theorem dX12_weeks_36 : decode cX12_weeks 36 = .ok (.iconst 1, 1) := by decide +kernel
theorem dX12_weeks_37 : decode cX12_weeks 37 = .ok (.istore_n 2, 1) := by decide +kernel
theorem dX12_weeks_38 : decode cX12_weeks 38 = .ok (.iload_n 2, 1) := by decide +kernel
theorem dX12_weeks_39 : decode cX12_weeks 39 = .ok (.ifCond .eq 18, 3) := by decide +kernel
theorem dX12_weeks_42 : decode cX12_weeks 42 = .ok (.aload_n 0, 1) := by decide +kernel
theorem dX12_weeks_43 : decode cX12_weeks 43 = .ok (.getfield 142, 3) := by decide +kernel
theorem dX12_weeks_46 : decode cX12_weeks 46 = .ok (.ifCond .eq 11, 3) := by decide +kernel
theorem dX12_weeks_49 : decode cX12_weeks 49 = .ok (.aload_n 0, 1) := by decide +kernel
theorem dX12_weeks_50 : decode cX12_weeks 50 = .ok (.invokevirtual 263, 3) := by decide +kernel
theorem dX12_weeks_53 : decode cX12_weeks 53 = .ok (.istore_n 2, 1) := by decide +kernel
theorem dX12_weeks_54 : decode cX12_weeks 54 = .ok (.goto (-16), 3) := by decide +kernel
theorem dX12_weeks_57 : decode cX12_weeks 57 = .ok (.aload_n 0, 1) := by decide +kernel
theorem dX12_weeks_58 : decode cX12_weeks 58 = .ok (.getfield 167, 3) := by decide +kernel
theorem dX12_weeks_61 : decode cX12_weeks 61 = .ok (.ifCond .ne 16, 3) := by decide +kernel
theorem dX12_weeks_64 : decode cX12_weeks 64 = .ok (.aload_n 0, 1) := by decide +kernel
theorem dX12_weeks_65 : decode cX12_weeks 65 = .ok (.getfield 254, 3) := by decide +kernel
theorem dX12_weeks_68 : decode cX12_weeks 68 = .ok (.ifCond .le 9, 3) := by decide +kernel
theorem dX12_weeks_71 : decode cX12_weeks 71 = .ok (.aload_n 0, 1) := by decide +kernel
theorem dX12_weeks_72 : decode cX12_weeks 72 = .ok (.iconst 2, 1) := by decide +kernel
theorem dX12_weeks_73 : decode cX12_weeks 73 = .ok (.invokevirtual 179, 3) := by decide +kernel
theorem dX12_weeks_76 : decode cX12_weeks 76 = .ok (.pop, 1) := by decide +kernel
theorem dX12_weeks_77 : decode cX12_weeks 77 = .ok (.aload_n 0, 1) := by decide +kernel
theorem dX12_weeks_78 : decode cX12_weeks 78 = .ok (.getfield 167, 3) := by decide +kernel
theorem dX12_weeks_81 : decode cX12_weeks 81 = .ok (.ifCond .ne 50, 3) := by decide +kernel
theorem dX12_weeks_84 : decode cX12_weeks 84 = .ok (.aload_n 0, 1) := by decide +kernel
theorem dX12_weeks_85 : decode cX12_weeks 85 = .ok (.getfield 7, 3) := by decide +kernel
theorem dX12_weeks_88 : decode cX12_weeks 88 = .ok (.bipush 8, 2) := by decide +kernel
theorem dX12_weeks_90 : decode cX12_weeks 90 = .ok (.aload_n 0, 1) := by decide +kernel
theorem dX12_weeks_91 : decode cX12_weeks 91 = .ok (.getfield 7, 3) := by decide +kernel
theorem dX12_weeks_94 : decode cX12_weeks 94 = .ok (.sipush 1720, 3) := by decide +kernel
theorem dX12_weeks_97 : decode cX12_weeks 97 = .ok (.iaload, 1) := by decide +kernel
theorem dX12_weeks_98 : decode cX12_weeks 98 = .ok (.iastore, 1) := by decide +kernel
theorem dX12_weeks_99 : decode cX12_weeks 99 = .ok (.bipush 60, 2) := by decide +kernel
theorem dX12_weeks_101 : decode cX12_weeks 101 = .ok (.istore_n 3, 1) := by decide +kernel
theorem dX12_weeks_102 : decode cX12_weeks 102 = .ok (.iload_n 3, 1) := by decide +kernel
theorem dX12_weeks_103 : decode cX12_weeks 103 = .ok (.sipush 420, 3) := by decide +kernel
theorem dX12_weeks_106 : decode cX12_weeks 106 = .ok (.if_icmp .ge 25, 3) := by decide +kernel
theorem dX12_weeks_109 : decode cX12_weeks 109 = .ok (.aload_n 0, 1) := by decide +kernel
theorem dX12_weeks_110 : decode cX12_weeks 110 = .ok (.getfield 7, 3) := by decide +kernel
theorem dX12_weeks_113 : decode cX12_weeks 113 = .ok (.iload_n 3, 1) := by decide +kernel
theorem dX12_weeks_114 : decode cX12_weeks 114 = .ok (.aload_n 0, 1) := by decide +kernel
theorem dX12_weeks_115 : decode cX12_weeks 115 = .ok (.getfield 7, 3) := by decide +kernel
theorem dX12_weeks_118 : decode cX12_weeks 118 = .ok (.sipush 1712, 3) := by decide +kernel
theorem dX12_weeks_121 : decode cX12_weeks 121 = .ok (.iload_n 3, 1) := by decide +kernel
theorem dX12_weeks_122 : decode cX12_weeks 122 = .ok (.iadd, 1) := by decide +kernel
theorem dX12_weeks_123 : decode cX12_weeks 123 = .ok (.iaload, 1) := by decide +kernel
theorem dX12_weeks_124 : decode cX12_weeks 124 = .ok (.iastore, 1) := by decide +kernel
theorem dX12_weeks_125 : decode cX12_weeks 125 = .ok (.iinc 3 1, 3) := by decide +kernel
theorem dX12_weeks_128 : decode cX12_weeks 128 = .ok (.goto (-26), 3) := by decide +kernel
theorem dX12_weeks_131 : decode cX12_weeks 131 = .ok (.aload_n 0, 1) := by decide +kernel
theorem dX12_weeks_132 : decode cX12_weeks 132 = .ok (.aload_n 0, 1) := by decide +kernel
theorem dX12_weeks_133 : decode cX12_weeks 133 = .ok (.getfield 257, 3) := by decide +kernel
theorem dX12_weeks_136 : decode cX12_weeks 136 = .ok (.invokevirtual 248, 3) := by decide +kernel
theorem dX12_weeks_139 : decode cX12_weeks 139 = .ok (.ireturn, 1) := by decide +kernel
theorem dX12_isGuest_0 : decode cX12_isGuest 0 = .ok (.iload_n 1, 1) := by decide +kernel
theorem dX12_isGuest_1 : decode cX12_isGuest 1 = .ok (.ifCond .lt 17, 3) := by decide +kernel
theorem dX12_isGuest_4 : decode cX12_isGuest 4 = .ok (.iload_n 1, 1) := by decide +kernel
theorem dX12_isGuest_5 : decode cX12_isGuest 5 = .ok (.aload_n 0, 1) := by decide +kernel
theorem dX12_isGuest_6 : decode cX12_isGuest 6 = .ok (.getfield 7, 3) := by decide +kernel
theorem dX12_isGuest_9 : decode cX12_isGuest 9 = .ok (.iconst 0, 1) := by decide +kernel
theorem dX12_isGuest_10 : decode cX12_isGuest 10 = .ok (.iaload, 1) := by decide +kernel
theorem dX12_isGuest_11 : decode cX12_isGuest 11 = .ok (.if_icmp .ge 7, 3) := by decide +kernel
theorem dX12_isGuest_14 : decode cX12_isGuest 14 = .ok (.iconst 1, 1) := by decide +kernel
theorem dX12_isGuest_15 : decode cX12_isGuest 15 = .ok (.goto 4, 3) := by decide +kernel
theorem dX12_isGuest_18 : decode cX12_isGuest 18 = .ok (.iconst 0, 1) := by decide +kernel
theorem dX12_isGuest_19 : decode cX12_isGuest 19 = .ok (.ireturn, 1) := by decide +kernel
theorem dX12_areTwo_0 : decode cX12_areTwo 0 = .ok (.aload_n 0, 1) := by decide +kernel
theorem dX12_areTwo_1 : decode cX12_areTwo 1 = .ok (.iload_n 1, 1) := by decide +kernel
theorem dX12_areTwo_2 : decode cX12_areTwo 2 = .ok (.invokevirtual 266, 3) := by decide +kernel
theorem dX12_areTwo_5 : decode cX12_areTwo 5 = .ok (.ifCond .eq 20, 3) := by decide +kernel
theorem dX12_areTwo_8 : decode cX12_areTwo 8 = .ok (.aload_n 0, 1) := by decide +kernel
theorem dX12_areTwo_9 : decode cX12_areTwo 9 = .ok (.iload_n 2, 1) := by decide +kernel
theorem dX12_areTwo_10 : decode cX12_areTwo 10 = .ok (.invokevirtual 266, 3) := by decide +kernel
theorem dX12_areTwo_13 : decode cX12_areTwo 13 = .ok (.ifCond .eq 12, 3) := by decide +kernel
theorem dX12_areTwo_16 : decode cX12_areTwo 16 = .ok (.iload_n 1, 1) := by decide +kernel
theorem dX12_areTwo_17 : decode cX12_areTwo 17 = .ok (.iload_n 2, 1) := by decide +kernel
theorem dX12_areTwo_18 : decode cX12_areTwo 18 = .ok (.if_icmp .eq 7, 3) := by decide +kernel
theorem dX12_areTwo_21 : decode cX12_areTwo 21 = .ok (.iconst 1, 1) := by decide +kernel
theorem dX12_areTwo_22 : decode cX12_areTwo 22 = .ok (.goto 4, 3) := by decide +kernel
theorem dX12_areTwo_25 : decode cX12_areTwo 25 = .ok (.iconst 0, 1) := by decide +kernel
theorem dX12_areTwo_26 : decode cX12_areTwo 26 = .ok (.ireturn, 1) := by decide +kernel
theorem dX12_bits_0 : decode cX12_bits 0 = .ok (.iconst 0, 1) := by decide +kernel
theorem dX12_bits_1 : decode cX12_bits 1 = .ok (.istore_n 1, 1) := by decide +kernel
theorem dX12_bits_2 : decode cX12_bits 2 = .ok (.iload_n 0, 1) := by decide +kernel
theorem dX12_bits_3 : decode cX12_bits 3 = .ok (.istore_n 2, 1) := by decide +kernel
theorem dX12_bits_4 : decode cX12_bits 4 = .ok (.iload_n 2, 1) := by decide +kernel
theorem dX12_bits_5 : decode cX12_bits 5 = .ok (.ifCond .eq 15, 3) := by decide +kernel
theorem dX12_bits_8 : decode cX12_bits 8 = .ok (.iinc 1 1, 3) := by decide +kernel
theorem dX12_bits_11 : decode cX12_bits 11 = .ok (.iload_n 2, 1) := by decide +kernel
theorem dX12_bits_12 : decode cX12_bits 12 = .ok (.iload_n 2, 1) := by decide +kernel
theorem dX12_bits_13 : decode cX12_bits 13 = .ok (.iconst 1, 1) := by decide +kernel
theorem dX12_bits_14 : decode cX12_bits 14 = .ok (.isub, 1) := by decide +kernel
theorem dX12_bits_15 : decode cX12_bits 15 = .ok (.iand, 1) := by decide +kernel
theorem dX12_bits_16 : decode cX12_bits 16 = .ok (.istore_n 2, 1) := by decide +kernel
theorem dX12_bits_17 : decode cX12_bits 17 = .ok (.goto (-13), 3) := by decide +kernel
theorem dX12_bits_20 : decode cX12_bits 20 = .ok (.iload_n 1, 1) := by decide +kernel
theorem dX12_bits_21 : decode cX12_bits 21 = .ok (.ireturn, 1) := by decide +kernel
theorem dX12_guestOf_0 : decode cX12_guestOf 0 = .ok (.aload_n 0, 1) := by decide +kernel
theorem dX12_guestOf_1 : decode cX12_guestOf 1 = .ok (.getfield 7, 3) := by decide +kernel
theorem dX12_guestOf_4 : decode cX12_guestOf 4 = .ok (.iload_n 1, 1) := by decide +kernel
theorem dX12_guestOf_5 : decode cX12_guestOf 5 = .ok (.invokestatic 192, 3) := by decide +kernel
theorem dX12_guestOf_8 : decode cX12_guestOf 8 = .ok (.iload_n 2, 1) := by decide +kernel
theorem dX12_guestOf_9 : decode cX12_guestOf 9 = .ok (.iadd, 1) := by decide +kernel
theorem dX12_guestOf_10 : decode cX12_guestOf 10 = .ok (.iaload, 1) := by decide +kernel
theorem dX12_guestOf_11 : decode cX12_guestOf 11 = .ok (.ireturn, 1) := by decide +kernel
theorem dX12_isHere_0 : decode cX12_isHere 0 = .ok (.aload_n 0, 1) := by decide +kernel
theorem dX12_isHere_1 : decode cX12_isHere 1 = .ok (.iload_n 1, 1) := by decide +kernel
theorem dX12_isHere_2 : decode cX12_isHere 2 = .ok (.iconst 5, 1) := by decide +kernel
theorem dX12_isHere_3 : decode cX12_isHere 3 = .ok (.invokevirtual 269, 3) := by decide +kernel
theorem dX12_isHere_6 : decode cX12_isHere 6 = .ok (.iconst 1, 1) := by decide +kernel
theorem dX12_isHere_7 : decode cX12_isHere 7 = .ok (.if_icmp .ne 7, 3) := by decide +kernel
theorem dX12_isHere_10 : decode cX12_isHere 10 = .ok (.iconst 1, 1) := by decide +kernel
theorem dX12_isHere_11 : decode cX12_isHere 11 = .ok (.goto 4, 3) := by decide +kernel
theorem dX12_isHere_14 : decode cX12_isHere 14 = .ok (.iconst 0, 1) := by decide +kernel
theorem dX12_isHere_15 : decode cX12_isHere 15 = .ok (.ireturn, 1) := by decide +kernel
theorem dX12_areHere_0 : decode cX12_areHere 0 = .ok (.iconst 0, 1) := by decide +kernel
theorem dX12_areHere_1 : decode cX12_areHere 1 = .ok (.istore_n 1, 1) := by decide +kernel
theorem dX12_areHere_2 : decode cX12_areHere 2 = .ok (.iconst 0, 1) := by decide +kernel
theorem dX12_areHere_3 : decode cX12_areHere 3 = .ok (.istore_n 2, 1) := by decide +kernel
theorem dX12_areHere_4 : decode cX12_areHere 4 = .ok (.iload_n 2, 1) := by decide +kernel
theorem dX12_areHere_5 : decode cX12_areHere 5 = .ok (.aload_n 0, 1) := by decide +kernel
theorem dX12_areHere_6 : decode cX12_areHere 6 = .ok (.getfield 7, 3) := by decide +kernel
theorem dX12_areHere_9 : decode cX12_areHere 9 = .ok (.iconst 0, 1) := by decide +kernel
theorem dX12_areHere_10 : decode cX12_areHere 10 = .ok (.iaload, 1) := by decide +kernel
theorem dX12_areHere_11 : decode cX12_areHere 11 = .ok (.if_icmp .ge 27, 3) := by decide +kernel
theorem dX12_areHere_14 : decode cX12_areHere 14 = .ok (.iload_n 1, 1) := by decide +kernel
theorem dX12_areHere_15 : decode cX12_areHere 15 = .ok (.aload_n 0, 1) := by decide +kernel
theorem dX12_areHere_16 : decode cX12_areHere 16 = .ok (.iload_n 2, 1) := by decide +kernel
theorem dX12_areHere_17 : decode cX12_areHere 17 = .ok (.invokevirtual 272, 3) := by decide +kernel
theorem dX12_areHere_20 : decode cX12_areHere 20 = .ok (.ifCond .eq 9, 3) := by decide +kernel
theorem dX12_areHere_23 : decode cX12_areHere 23 = .ok (.iconst 1, 1) := by decide +kernel
theorem dX12_areHere_24 : decode cX12_areHere 24 = .ok (.iload_n 2, 1) := by decide +kernel
theorem dX12_areHere_25 : decode cX12_areHere 25 = .ok (.ishl, 1) := by decide +kernel
theorem dX12_areHere_26 : decode cX12_areHere 26 = .ok (.goto 4, 3) := by decide +kernel
theorem dX12_areHere_29 : decode cX12_areHere 29 = .ok (.iconst 0, 1) := by decide +kernel
theorem dX12_areHere_30 : decode cX12_areHere 30 = .ok (.ior, 1) := by decide +kernel
theorem dX12_areHere_31 : decode cX12_areHere 31 = .ok (.istore_n 1, 1) := by decide +kernel
theorem dX12_areHere_32 : decode cX12_areHere 32 = .ok (.iinc 2 1, 3) := by decide +kernel
theorem dX12_areHere_35 : decode cX12_areHere 35 = .ok (.goto (-31), 3) := by decide +kernel
theorem dX12_areHere_38 : decode cX12_areHere 38 = .ok (.iload_n 1, 1) := by decide +kernel
theorem dX12_areHere_39 : decode cX12_areHere 39 = .ok (.ireturn, 1) := by decide +kernel
theorem dX12_areHungry_0 : decode cX12_areHungry 0 = .ok (.iconst 0, 1) := by decide +kernel
theorem dX12_areHungry_1 : decode cX12_areHungry 1 = .ok (.istore_n 1, 1) := by decide +kernel
theorem dX12_areHungry_2 : decode cX12_areHungry 2 = .ok (.iconst 0, 1) := by decide +kernel
theorem dX12_areHungry_3 : decode cX12_areHungry 3 = .ok (.istore_n 2, 1) := by decide +kernel
theorem dX12_areHungry_4 : decode cX12_areHungry 4 = .ok (.iload_n 2, 1) := by decide +kernel
theorem dX12_areHungry_5 : decode cX12_areHungry 5 = .ok (.aload_n 0, 1) := by decide +kernel
theorem dX12_areHungry_6 : decode cX12_areHungry 6 = .ok (.getfield 7, 3) := by decide +kernel
theorem dX12_areHungry_9 : decode cX12_areHungry 9 = .ok (.iconst 0, 1) := by decide +kernel
theorem dX12_areHungry_10 : decode cX12_areHungry 10 = .ok (.iaload, 1) := by decide +kernel
theorem dX12_areHungry_11 : decode cX12_areHungry 11 = .ok (.if_icmp .ge 36, 3) := by decide +kernel
theorem dX12_areHungry_14 : decode cX12_areHungry 14 = .ok (.iload_n 1, 1) := by decide +kernel
theorem dX12_areHungry_15 : decode cX12_areHungry 15 = .ok (.aload_n 0, 1) := by decide +kernel
theorem dX12_areHungry_16 : decode cX12_areHungry 16 = .ok (.iload_n 2, 1) := by decide +kernel
theorem dX12_areHungry_17 : decode cX12_areHungry 17 = .ok (.invokevirtual 272, 3) := by decide +kernel
theorem dX12_areHungry_20 : decode cX12_areHungry 20 = .ok (.ifCond .eq 18, 3) := by decide +kernel
theorem dX12_areHungry_23 : decode cX12_areHungry 23 = .ok (.aload_n 0, 1) := by decide +kernel
theorem dX12_areHungry_24 : decode cX12_areHungry 24 = .ok (.iload_n 2, 1) := by decide +kernel
theorem dX12_areHungry_25 : decode cX12_areHungry 25 = .ok (.iconst 4, 1) := by decide +kernel
theorem dX12_areHungry_26 : decode cX12_areHungry 26 = .ok (.invokevirtual 269, 3) := by decide +kernel
theorem dX12_areHungry_29 : decode cX12_areHungry 29 = .ok (.ifCond .le 9, 3) := by decide +kernel
theorem dX12_areHungry_32 : decode cX12_areHungry 32 = .ok (.iconst 1, 1) := by decide +kernel
theorem dX12_areHungry_33 : decode cX12_areHungry 33 = .ok (.iload_n 2, 1) := by decide +kernel
theorem dX12_areHungry_34 : decode cX12_areHungry 34 = .ok (.ishl, 1) := by decide +kernel
theorem dX12_areHungry_35 : decode cX12_areHungry 35 = .ok (.goto 4, 3) := by decide +kernel
theorem dX12_areHungry_38 : decode cX12_areHungry 38 = .ok (.iconst 0, 1) := by decide +kernel
theorem dX12_areHungry_39 : decode cX12_areHungry 39 = .ok (.ior, 1) := by decide +kernel
theorem dX12_areHungry_40 : decode cX12_areHungry 40 = .ok (.istore_n 1, 1) := by decide +kernel
theorem dX12_areHungry_41 : decode cX12_areHungry 41 = .ok (.iinc 2 1, 3) := by decide +kernel
theorem dX12_areHungry_44 : decode cX12_areHungry 44 = .ok (.goto (-40), 3) := by decide +kernel
theorem dX12_areHungry_47 : decode cX12_areHungry 47 = .ok (.iload_n 1, 1) := by decide +kernel
theorem dX12_areHungry_48 : decode cX12_areHungry 48 = .ok (.ireturn, 1) := by decide +kernel
theorem dX12_areStarved_0 : decode cX12_areStarved 0 = .ok (.iconst 0, 1) := by decide +kernel
theorem dX12_areStarved_1 : decode cX12_areStarved 1 = .ok (.istore_n 1, 1) := by decide +kernel
theorem dX12_areStarved_2 : decode cX12_areStarved 2 = .ok (.iconst 0, 1) := by decide +kernel
theorem dX12_areStarved_3 : decode cX12_areStarved 3 = .ok (.istore_n 2, 1) := by decide +kernel
theorem dX12_areStarved_4 : decode cX12_areStarved 4 = .ok (.iload_n 2, 1) := by decide +kernel
theorem dX12_areStarved_5 : decode cX12_areStarved 5 = .ok (.aload_n 0, 1) := by decide +kernel
theorem dX12_areStarved_6 : decode cX12_areStarved 6 = .ok (.getfield 7, 3) := by decide +kernel
theorem dX12_areStarved_9 : decode cX12_areStarved 9 = .ok (.iconst 0, 1) := by decide +kernel
theorem dX12_areStarved_10 : decode cX12_areStarved 10 = .ok (.iaload, 1) := by decide +kernel
theorem dX12_areStarved_11 : decode cX12_areStarved 11 = .ok (.if_icmp .ge 42, 3) := by decide +kernel
theorem dX12_areStarved_14 : decode cX12_areStarved 14 = .ok (.iload_n 1, 1) := by decide +kernel
theorem dX12_areStarved_15 : decode cX12_areStarved 15 = .ok (.aload_n 0, 1) := by decide +kernel
theorem dX12_areStarved_16 : decode cX12_areStarved 16 = .ok (.iload_n 2, 1) := by decide +kernel
theorem dX12_areStarved_17 : decode cX12_areStarved 17 = .ok (.invokevirtual 272, 3) := by decide +kernel
theorem dX12_areStarved_20 : decode cX12_areStarved 20 = .ok (.ifCond .eq 24, 3) := by decide +kernel
theorem dX12_areStarved_23 : decode cX12_areStarved 23 = .ok (.aload_n 0, 1) := by decide +kernel
theorem dX12_areStarved_24 : decode cX12_areStarved 24 = .ok (.iload_n 2, 1) := by decide +kernel
theorem dX12_areStarved_25 : decode cX12_areStarved 25 = .ok (.iconst 4, 1) := by decide +kernel
theorem dX12_areStarved_26 : decode cX12_areStarved 26 = .ok (.invokevirtual 269, 3) := by decide +kernel
theorem dX12_areStarved_29 : decode cX12_areStarved 29 = .ok (.aload_n 0, 1) := by decide +kernel
theorem dX12_areStarved_30 : decode cX12_areStarved 30 = .ok (.iload_n 2, 1) := by decide +kernel
theorem dX12_areStarved_31 : decode cX12_areStarved 31 = .ok (.iconst 1, 1) := by decide +kernel
theorem dX12_areStarved_32 : decode cX12_areStarved 32 = .ok (.invokevirtual 269, 3) := by decide +kernel
theorem dX12_areStarved_35 : decode cX12_areStarved 35 = .ok (.if_icmp .le 9, 3) := by decide +kernel
theorem dX12_areStarved_38 : decode cX12_areStarved 38 = .ok (.iconst 1, 1) := by decide +kernel
theorem dX12_areStarved_39 : decode cX12_areStarved 39 = .ok (.iload_n 2, 1) := by decide +kernel
theorem dX12_areStarved_40 : decode cX12_areStarved 40 = .ok (.ishl, 1) := by decide +kernel
theorem dX12_areStarved_41 : decode cX12_areStarved 41 = .ok (.goto 4, 3) := by decide +kernel
theorem dX12_areStarved_44 : decode cX12_areStarved 44 = .ok (.iconst 0, 1) := by decide +kernel
theorem dX12_areStarved_45 : decode cX12_areStarved 45 = .ok (.ior, 1) := by decide +kernel
theorem dX12_areStarved_46 : decode cX12_areStarved 46 = .ok (.istore_n 1, 1) := by decide +kernel
theorem dX12_areStarved_47 : decode cX12_areStarved 47 = .ok (.iinc 2 1, 3) := by decide +kernel
theorem dX12_areStarved_50 : decode cX12_areStarved 50 = .ok (.goto (-46), 3) := by decide +kernel
theorem dX12_areStarved_53 : decode cX12_areStarved 53 = .ok (.iload_n 1, 1) := by decide +kernel
theorem dX12_areStarved_54 : decode cX12_areStarved 54 = .ok (.ireturn, 1) := by decide +kernel
theorem dX12_passTo_0 : decode cX12_passTo 0 = .ok (.iconst 0, 1) := by decide +kernel
theorem dX12_passTo_1 : decode cX12_passTo 1 = .ok (.istore_n 2, 1) := by decide +kernel
theorem dX12_passTo_2 : decode cX12_passTo 2 = .ok (.iconst 0, 1) := by decide +kernel
theorem dX12_passTo_3 : decode cX12_passTo 3 = .ok (.istore_n 3, 1) := by decide +kernel
theorem dX12_passTo_4 : decode cX12_passTo 4 = .ok (.iload_n 3, 1) := by decide +kernel
theorem dX12_passTo_5 : decode cX12_passTo 5 = .ok (.aload_n 0, 1) := by decide +kernel
theorem dX12_passTo_6 : decode cX12_passTo 6 = .ok (.getfield 7, 3) := by decide +kernel
theorem dX12_passTo_9 : decode cX12_passTo 9 = .ok (.iconst 0, 1) := by decide +kernel
theorem dX12_passTo_10 : decode cX12_passTo 10 = .ok (.iaload, 1) := by decide +kernel
theorem dX12_passTo_11 : decode cX12_passTo 11 = .ok (.if_icmp .ge 38, 3) := by decide +kernel
theorem dX12_passTo_14 : decode cX12_passTo 14 = .ok (.iload_n 2, 1) := by decide +kernel
theorem dX12_passTo_15 : decode cX12_passTo 15 = .ok (.aload_n 0, 1) := by decide +kernel
theorem dX12_passTo_16 : decode cX12_passTo 16 = .ok (.iload_n 3, 1) := by decide +kernel
theorem dX12_passTo_17 : decode cX12_passTo 17 = .ok (.invokevirtual 272, 3) := by decide +kernel
theorem dX12_passTo_20 : decode cX12_passTo 20 = .ok (.ifCond .eq 20, 3) := by decide +kernel
theorem dX12_passTo_23 : decode cX12_passTo 23 = .ok (.aload_n 0, 1) := by decide +kernel
theorem dX12_passTo_24 : decode cX12_passTo 24 = .ok (.iload_n 3, 1) := by decide +kernel
theorem dX12_passTo_25 : decode cX12_passTo 25 = .ok (.bipush 6, 2) := by decide +kernel
theorem dX12_passTo_27 : decode cX12_passTo 27 = .ok (.invokevirtual 269, 3) := by decide +kernel
theorem dX12_passTo_30 : decode cX12_passTo 30 = .ok (.iload_n 1, 1) := by decide +kernel
theorem dX12_passTo_31 : decode cX12_passTo 31 = .ok (.if_icmp .ne 9, 3) := by decide +kernel
theorem dX12_passTo_34 : decode cX12_passTo 34 = .ok (.iconst 1, 1) := by decide +kernel
theorem dX12_passTo_35 : decode cX12_passTo 35 = .ok (.iload_n 3, 1) := by decide +kernel
theorem dX12_passTo_36 : decode cX12_passTo 36 = .ok (.ishl, 1) := by decide +kernel
theorem dX12_passTo_37 : decode cX12_passTo 37 = .ok (.goto 4, 3) := by decide +kernel
theorem dX12_passTo_40 : decode cX12_passTo 40 = .ok (.iconst 0, 1) := by decide +kernel
theorem dX12_passTo_41 : decode cX12_passTo 41 = .ok (.ior, 1) := by decide +kernel
theorem dX12_passTo_42 : decode cX12_passTo 42 = .ok (.istore_n 2, 1) := by decide +kernel
theorem dX12_passTo_43 : decode cX12_passTo 43 = .ok (.iinc 3 1, 3) := by decide +kernel
theorem dX12_passTo_46 : decode cX12_passTo 46 = .ok (.goto (-42), 3) := by decide +kernel
theorem dX12_passTo_49 : decode cX12_passTo 49 = .ok (.iload_n 2, 1) := by decide +kernel
theorem dX12_passTo_50 : decode cX12_passTo 50 = .ok (.ireturn, 1) := by decide +kernel
theorem dX12_told_0 : decode cX12_told 0 = .ok (.iload_n 1, 1) := by decide +kernel
theorem dX12_told_1 : decode cX12_told 1 = .ok (.ifCond .lt 20, 3) := by decide +kernel
theorem dX12_told_4 : decode cX12_told 4 = .ok (.iload_n 1, 1) := by decide +kernel
theorem dX12_told_5 : decode cX12_told 5 = .ok (.bipush 8, 2) := by decide +kernel
theorem dX12_told_7 : decode cX12_told 7 = .ok (.if_icmp .ge 14, 3) := by decide +kernel
theorem dX12_told_10 : decode cX12_told 10 = .ok (.aload_n 0, 1) := by decide +kernel
theorem dX12_told_11 : decode cX12_told 11 = .ok (.aload_n 0, 1) := by decide +kernel
theorem dX12_told_12 : decode cX12_told 12 = .ok (.getfield 7, 3) := by decide +kernel
theorem dX12_told_15 : decode cX12_told 15 = .ok (.iload_n 1, 1) := by decide +kernel
theorem dX12_told_16 : decode cX12_told 16 = .ok (.iaload, 1) := by decide +kernel
theorem dX12_told_17 : decode cX12_told 17 = .ok (.invokevirtual 101, 3) := by decide +kernel
theorem dX12_told_20 : decode cX12_told 20 = .ok (.ireturn, 1) := by decide +kernel
theorem dX12_told_21 : decode cX12_told 21 = .ok (.iload_n 1, 1) := by decide +kernel
theorem dX12_told_22 : decode cX12_told 22 = .ok (.tableswitch 53 8 10 #[26, 35, 44], 26) := by decide +kernel
theorem dX12_told_48 : decode cX12_told 48 = .ok (.aload_n 0, 1) := by decide +kernel
theorem dX12_told_49 : decode cX12_told 49 = .ok (.aload_n 0, 1) := by decide +kernel
theorem dX12_told_50 : decode cX12_told 50 = .ok (.invokevirtual 275, 3) := by decide +kernel
theorem dX12_told_53 : decode cX12_told 53 = .ok (.invokevirtual 101, 3) := by decide +kernel
theorem dX12_told_56 : decode cX12_told 56 = .ok (.ireturn, 1) := by decide +kernel
theorem dX12_told_57 : decode cX12_told 57 = .ok (.aload_n 0, 1) := by decide +kernel
theorem dX12_told_58 : decode cX12_told 58 = .ok (.aload_n 0, 1) := by decide +kernel
theorem dX12_told_59 : decode cX12_told 59 = .ok (.invokevirtual 278, 3) := by decide +kernel
theorem dX12_told_62 : decode cX12_told 62 = .ok (.invokevirtual 101, 3) := by decide +kernel
theorem dX12_told_65 : decode cX12_told 65 = .ok (.ireturn, 1) := by decide +kernel
theorem dX12_told_66 : decode cX12_told 66 = .ok (.aload_n 0, 1) := by decide +kernel
theorem dX12_told_67 : decode cX12_told 67 = .ok (.aload_n 0, 1) := by decide +kernel
theorem dX12_told_68 : decode cX12_told 68 = .ok (.invokevirtual 281, 3) := by decide +kernel
theorem dX12_told_71 : decode cX12_told 71 = .ok (.invokevirtual 101, 3) := by decide +kernel
theorem dX12_told_74 : decode cX12_told 74 = .ok (.ireturn, 1) := by decide +kernel
theorem dX12_told_75 : decode cX12_told 75 = .ok (.aload_n 0, 1) := by decide +kernel
theorem dX12_told_76 : decode cX12_told 76 = .ok (.iconst 1, 1) := by decide +kernel
theorem dX12_told_77 : decode cX12_told 77 = .ok (.invokevirtual 97, 3) := by decide +kernel
theorem dX12_told_80 : decode cX12_told 80 = .ok (.ireturn, 1) := by decide +kernel
theorem dX12_guest_0 : decode cX12_guest 0 = .ok (.aload_n 0, 1) := by decide +kernel
theorem dX12_guest_1 : decode cX12_guest 1 = .ok (.iload_n 1, 1) := by decide +kernel
theorem dX12_guest_2 : decode cX12_guest 2 = .ok (.invokevirtual 266, 3) := by decide +kernel
theorem dX12_guest_5 : decode cX12_guest 5 = .ok (.ifCond .eq 13, 3) := by decide +kernel
theorem dX12_guest_8 : decode cX12_guest 8 = .ok (.iload_n 2, 1) := by decide +kernel
theorem dX12_guest_9 : decode cX12_guest 9 = .ok (.ifCond .lt 9, 3) := by decide +kernel
theorem dX12_guest_12 : decode cX12_guest 12 = .ok (.iload_n 2, 1) := by decide +kernel
theorem dX12_guest_13 : decode cX12_guest 13 = .ok (.bipush 7, 2) := by decide +kernel
theorem dX12_guest_15 : decode cX12_guest 15 = .ok (.if_icmp .le 9, 3) := by decide +kernel
theorem dX12_guest_18 : decode cX12_guest 18 = .ok (.aload_n 0, 1) := by decide +kernel
theorem dX12_guest_19 : decode cX12_guest 19 = .ok (.iconst 1, 1) := by decide +kernel
theorem dX12_guest_20 : decode cX12_guest 20 = .ok (.invokevirtual 97, 3) := by decide +kernel
theorem dX12_guest_23 : decode cX12_guest 23 = .ok (.ireturn, 1) := by decide +kernel
theorem dX12_guest_24 : decode cX12_guest 24 = .ok (.iload_n 2, 1) := by decide +kernel
theorem dX12_guest_25 : decode cX12_guest 25 = .ok (.bipush 6, 2) := by decide +kernel
theorem dX12_guest_27 : decode cX12_guest 27 = .ok (.if_icmp .ne 15, 3) := by decide +kernel
theorem dX12_guest_30 : decode cX12_guest 30 = .ok (.aload_n 0, 1) := by decide +kernel
theorem dX12_guest_31 : decode cX12_guest 31 = .ok (.aload_n 0, 1) := by decide +kernel
theorem dX12_guest_32 : decode cX12_guest 32 = .ok (.iload_n 1, 1) := by decide +kernel
theorem dX12_guest_33 : decode cX12_guest 33 = .ok (.bipush 6, 2) := by decide +kernel
theorem dX12_guest_35 : decode cX12_guest 35 = .ok (.invokevirtual 269, 3) := by decide +kernel
theorem dX12_guest_38 : decode cX12_guest 38 = .ok (.invokevirtual 284, 3) := by decide +kernel
theorem dX12_guest_41 : decode cX12_guest 41 = .ok (.ireturn, 1) := by decide +kernel
theorem dX12_guest_42 : decode cX12_guest 42 = .ok (.aload_n 0, 1) := by decide +kernel
theorem dX12_guest_43 : decode cX12_guest 43 = .ok (.iload_n 2, 1) := by decide +kernel
theorem dX12_guest_44 : decode cX12_guest 44 = .ok (.bipush 7, 2) := by decide +kernel
theorem dX12_guest_46 : decode cX12_guest 46 = .ok (.if_icmp .ne 11, 3) := by decide +kernel
theorem dX12_guest_49 : decode cX12_guest 49 = .ok (.aload_n 0, 1) := by decide +kernel
theorem dX12_guest_50 : decode cX12_guest 50 = .ok (.iload_n 1, 1) := by decide +kernel
theorem dX12_guest_51 : decode cX12_guest 51 = .ok (.invokevirtual 287, 3) := by decide +kernel
theorem dX12_guest_54 : decode cX12_guest 54 = .ok (.goto 9, 3) := by decide +kernel
theorem dX12_guest_57 : decode cX12_guest 57 = .ok (.aload_n 0, 1) := by decide +kernel
theorem dX12_guest_58 : decode cX12_guest 58 = .ok (.iload_n 1, 1) := by decide +kernel
theorem dX12_guest_59 : decode cX12_guest 59 = .ok (.iload_n 2, 1) := by decide +kernel
theorem dX12_guest_60 : decode cX12_guest 60 = .ok (.invokevirtual 269, 3) := by decide +kernel
theorem dX12_guest_63 : decode cX12_guest 63 = .ok (.invokevirtual 101, 3) := by decide +kernel
theorem dX12_guest_66 : decode cX12_guest 66 = .ok (.ireturn, 1) := by decide +kernel
theorem dX12_firstCutter_0 : decode cX12_firstCutter 0 = .ok (.iconst (-1), 1) := by decide +kernel
theorem dX12_firstCutter_1 : decode cX12_firstCutter 1 = .ok (.istore_n 1, 1) := by decide +kernel
theorem dX12_firstCutter_2 : decode cX12_firstCutter 2 = .ok (.iconst 0, 1) := by decide +kernel
theorem dX12_firstCutter_3 : decode cX12_firstCutter 3 = .ok (.istore_n 2, 1) := by decide +kernel
theorem dX12_firstCutter_4 : decode cX12_firstCutter 4 = .ok (.iload_n 2, 1) := by decide +kernel
theorem dX12_firstCutter_5 : decode cX12_firstCutter 5 = .ok (.aload_n 0, 1) := by decide +kernel
theorem dX12_firstCutter_6 : decode cX12_firstCutter 6 = .ok (.getfield 7, 3) := by decide +kernel
theorem dX12_firstCutter_9 : decode cX12_firstCutter 9 = .ok (.iconst 0, 1) := by decide +kernel
theorem dX12_firstCutter_10 : decode cX12_firstCutter 10 = .ok (.iaload, 1) := by decide +kernel
theorem dX12_firstCutter_11 : decode cX12_firstCutter 11 = .ok (.if_icmp .ge 66, 3) := by decide +kernel
theorem dX12_firstCutter_14 : decode cX12_firstCutter 14 = .ok (.aload_n 0, 1) := by decide +kernel
theorem dX12_firstCutter_15 : decode cX12_firstCutter 15 = .ok (.getfield 7, 3) := by decide +kernel
theorem dX12_firstCutter_18 : decode cX12_firstCutter 18 = .ok (.iconst 5, 1) := by decide +kernel
theorem dX12_firstCutter_19 : decode cX12_firstCutter 19 = .ok (.iaload, 1) := by decide +kernel
theorem dX12_firstCutter_20 : decode cX12_firstCutter 20 = .ok (.ifCond .ne 57, 3) := by decide +kernel
theorem dX12_firstCutter_23 : decode cX12_firstCutter 23 = .ok (.aload_n 0, 1) := by decide +kernel
theorem dX12_firstCutter_24 : decode cX12_firstCutter 24 = .ok (.iload_n 2, 1) := by decide +kernel
theorem dX12_firstCutter_25 : decode cX12_firstCutter 25 = .ok (.invokevirtual 272, 3) := by decide +kernel
theorem dX12_firstCutter_28 : decode cX12_firstCutter 28 = .ok (.ifCond .eq 43, 3) := by decide +kernel
theorem dX12_firstCutter_31 : decode cX12_firstCutter 31 = .ok (.aload_n 0, 1) := by decide +kernel
theorem dX12_firstCutter_32 : decode cX12_firstCutter 32 = .ok (.iload_n 2, 1) := by decide +kernel
theorem dX12_firstCutter_33 : decode cX12_firstCutter 33 = .ok (.iconst 0, 1) := by decide +kernel
theorem dX12_firstCutter_34 : decode cX12_firstCutter 34 = .ok (.invokevirtual 269, 3) := by decide +kernel
theorem dX12_firstCutter_37 : decode cX12_firstCutter 37 = .ok (.aload_n 0, 1) := by decide +kernel
theorem dX12_firstCutter_38 : decode cX12_firstCutter 38 = .ok (.getfield 7, 3) := by decide +kernel
theorem dX12_firstCutter_41 : decode cX12_firstCutter 41 = .ok (.iconst 2, 1) := by decide +kernel
theorem dX12_firstCutter_42 : decode cX12_firstCutter 42 = .ok (.iaload, 1) := by decide +kernel
theorem dX12_firstCutter_43 : decode cX12_firstCutter 43 = .ok (.if_icmp .ge 6, 3) := by decide +kernel
theorem dX12_firstCutter_46 : decode cX12_firstCutter 46 = .ok (.goto 25, 3) := by decide +kernel
theorem dX12_firstCutter_49 : decode cX12_firstCutter 49 = .ok (.iload_n 1, 1) := by decide +kernel
theorem dX12_firstCutter_50 : decode cX12_firstCutter 50 = .ok (.iconst (-1), 1) := by decide +kernel
theorem dX12_firstCutter_51 : decode cX12_firstCutter 51 = .ok (.if_icmp .eq 18, 3) := by decide +kernel
theorem dX12_firstCutter_54 : decode cX12_firstCutter 54 = .ok (.aload_n 0, 1) := by decide +kernel
theorem dX12_firstCutter_55 : decode cX12_firstCutter 55 = .ok (.iload_n 2, 1) := by decide +kernel
theorem dX12_firstCutter_56 : decode cX12_firstCutter 56 = .ok (.iconst 0, 1) := by decide +kernel
theorem dX12_firstCutter_57 : decode cX12_firstCutter 57 = .ok (.invokevirtual 269, 3) := by decide +kernel
theorem dX12_firstCutter_60 : decode cX12_firstCutter 60 = .ok (.aload_n 0, 1) := by decide +kernel
theorem dX12_firstCutter_61 : decode cX12_firstCutter 61 = .ok (.iload_n 1, 1) := by decide +kernel
theorem dX12_firstCutter_62 : decode cX12_firstCutter 62 = .ok (.iconst 0, 1) := by decide +kernel
theorem dX12_firstCutter_63 : decode cX12_firstCutter 63 = .ok (.invokevirtual 269, 3) := by decide +kernel
theorem dX12_firstCutter_66 : decode cX12_firstCutter 66 = .ok (.if_icmp .le 5, 3) := by decide +kernel
theorem dX12_firstCutter_69 : decode cX12_firstCutter 69 = .ok (.iload_n 2, 1) := by decide +kernel
theorem dX12_firstCutter_70 : decode cX12_firstCutter 70 = .ok (.istore_n 1, 1) := by decide +kernel
theorem dX12_firstCutter_71 : decode cX12_firstCutter 71 = .ok (.iinc 2 1, 3) := by decide +kernel
theorem dX12_firstCutter_74 : decode cX12_firstCutter 74 = .ok (.goto (-70), 3) := by decide +kernel
theorem dX12_firstCutter_77 : decode cX12_firstCutter 77 = .ok (.iload_n 1, 1) := by decide +kernel
theorem dX12_firstCutter_78 : decode cX12_firstCutter 78 = .ok (.ireturn, 1) := by decide +kernel
theorem dX12_cutter_0 : decode cX12_cutter 0 = .ok (.aload_n 0, 1) := by decide +kernel
theorem dX12_cutter_1 : decode cX12_cutter 1 = .ok (.aload_n 0, 1) := by decide +kernel
theorem dX12_cutter_2 : decode cX12_cutter 2 = .ok (.invokevirtual 290, 3) := by decide +kernel
theorem dX12_cutter_5 : decode cX12_cutter 5 = .ok (.invokevirtual 284, 3) := by decide +kernel
theorem dX12_cutter_8 : decode cX12_cutter 8 = .ok (.ireturn, 1) := by decide +kernel
theorem dX12_wanted_0 : decode cX12_wanted 0 = .ok (.iconst (-1), 1) := by decide +kernel
theorem dX12_wanted_1 : decode cX12_wanted 1 = .ok (.istore_n 1, 1) := by decide +kernel
theorem dX12_wanted_2 : decode cX12_wanted 2 = .ok (.iconst 0, 1) := by decide +kernel
theorem dX12_wanted_3 : decode cX12_wanted 3 = .ok (.istore_n 2, 1) := by decide +kernel
theorem dX12_wanted_4 : decode cX12_wanted 4 = .ok (.iconst 0, 1) := by decide +kernel
theorem dX12_wanted_5 : decode cX12_wanted 5 = .ok (.istore_n 3, 1) := by decide +kernel
theorem dX12_wanted_6 : decode cX12_wanted 6 = .ok (.iload_n 3, 1) := by decide +kernel
theorem dX12_wanted_7 : decode cX12_wanted 7 = .ok (.aload_n 0, 1) := by decide +kernel
theorem dX12_wanted_8 : decode cX12_wanted 8 = .ok (.getfield 7, 3) := by decide +kernel
theorem dX12_wanted_11 : decode cX12_wanted 11 = .ok (.iconst 0, 1) := by decide +kernel
theorem dX12_wanted_12 : decode cX12_wanted 12 = .ok (.iaload, 1) := by decide +kernel
theorem dX12_wanted_13 : decode cX12_wanted 13 = .ok (.if_icmp .ge 45, 3) := by decide +kernel
theorem dX12_wanted_16 : decode cX12_wanted 16 = .ok (.aload_n 0, 1) := by decide +kernel
theorem dX12_wanted_17 : decode cX12_wanted 17 = .ok (.iload_n 3, 1) := by decide +kernel
theorem dX12_wanted_18 : decode cX12_wanted 18 = .ok (.invokevirtual 272, 3) := by decide +kernel
theorem dX12_wanted_21 : decode cX12_wanted 21 = .ok (.ifCond .eq 14, 3) := by decide +kernel
theorem dX12_wanted_24 : decode cX12_wanted 24 = .ok (.aload_n 0, 1) := by decide +kernel
theorem dX12_wanted_25 : decode cX12_wanted 25 = .ok (.iload_n 3, 1) := by decide +kernel
theorem dX12_wanted_26 : decode cX12_wanted 26 = .ok (.invokevirtual 287, 3) := by decide +kernel
theorem dX12_wanted_29 : decode cX12_wanted 29 = .ok (.invokestatic 293, 3) := by decide +kernel
theorem dX12_wanted_32 : decode cX12_wanted 32 = .ok (.goto 4, 3) := by decide +kernel
theorem dX12_wanted_35 : decode cX12_wanted 35 = .ok (.iconst 0, 1) := by decide +kernel
theorem dX12_wanted_36 : decode cX12_wanted 36 = .ok (.istore 4, 2) := by decide +kernel
theorem dX12_wanted_38 : decode cX12_wanted 38 = .ok (.iload 4, 2) := by decide +kernel
theorem dX12_wanted_40 : decode cX12_wanted 40 = .ok (.iload_n 2, 1) := by decide +kernel
theorem dX12_wanted_41 : decode cX12_wanted 41 = .ok (.if_icmp .gt 6, 3) := by decide +kernel
theorem dX12_wanted_44 : decode cX12_wanted 44 = .ok (.goto 8, 3) := by decide +kernel
theorem dX12_wanted_47 : decode cX12_wanted 47 = .ok (.iload_n 3, 1) := by decide +kernel
theorem dX12_wanted_48 : decode cX12_wanted 48 = .ok (.istore_n 1, 1) := by decide +kernel
theorem dX12_wanted_49 : decode cX12_wanted 49 = .ok (.iload 4, 2) := by decide +kernel
theorem dX12_wanted_51 : decode cX12_wanted 51 = .ok (.istore_n 2, 1) := by decide +kernel
theorem dX12_wanted_52 : decode cX12_wanted 52 = .ok (.iinc 3 1, 3) := by decide +kernel
theorem dX12_wanted_55 : decode cX12_wanted 55 = .ok (.goto (-49), 3) := by decide +kernel
theorem dX12_wanted_58 : decode cX12_wanted 58 = .ok (.aload_n 0, 1) := by decide +kernel
theorem dX12_wanted_59 : decode cX12_wanted 59 = .ok (.iload_n 1, 1) := by decide +kernel
theorem dX12_wanted_60 : decode cX12_wanted 60 = .ok (.invokevirtual 284, 3) := by decide +kernel
theorem dX12_wanted_63 : decode cX12_wanted 63 = .ok (.ireturn, 1) := by decide +kernel
theorem dX12_cuts1_0 : decode cX12_cuts1 0 = .ok (.iload_n 1, 1) := by decide +kernel
theorem dX12_cuts1_1 : decode cX12_cuts1 1 = .ok (.invokestatic 192, 3) := by decide +kernel
theorem dX12_cuts1_4 : decode cX12_cuts1 4 = .ok (.istore_n 2, 1) := by decide +kernel
theorem dX12_cuts1_5 : decode cX12_cuts1 5 = .ok (.aload_n 0, 1) := by decide +kernel
theorem dX12_cuts1_6 : decode cX12_cuts1 6 = .ok (.getfield 7, 3) := by decide +kernel
theorem dX12_cuts1_9 : decode cX12_cuts1 9 = .ok (.iload_n 2, 1) := by decide +kernel
theorem dX12_cuts1_10 : decode cX12_cuts1 10 = .ok (.iconst 3, 1) := by decide +kernel
theorem dX12_cuts1_11 : decode cX12_cuts1 11 = .ok (.iadd, 1) := by decide +kernel
theorem dX12_cuts1_12 : decode cX12_cuts1 12 = .ok (.iaload, 1) := by decide +kernel
theorem dX12_cuts1_13 : decode cX12_cuts1 13 = .ok (.istore_n 3, 1) := by decide +kernel
theorem dX12_cuts1_14 : decode cX12_cuts1 14 = .ok (.aload_n 0, 1) := by decide +kernel
theorem dX12_cuts1_15 : decode cX12_cuts1 15 = .ok (.getfield 7, 3) := by decide +kernel
theorem dX12_cuts1_18 : decode cX12_cuts1 18 = .ok (.iconst 5, 1) := by decide +kernel
theorem dX12_cuts1_19 : decode cX12_cuts1 19 = .ok (.iload_n 3, 1) := by decide +kernel
theorem dX12_cuts1_20 : decode cX12_cuts1 20 = .ok (.iconst 2, 1) := by decide +kernel
theorem dX12_cuts1_21 : decode cX12_cuts1 21 = .ok (.if_icmp .ne 16, 3) := by decide +kernel
theorem dX12_cuts1_24 : decode cX12_cuts1 24 = .ok (.aload_n 0, 1) := by decide +kernel
theorem dX12_cuts1_25 : decode cX12_cuts1 25 = .ok (.getfield 7, 3) := by decide +kernel
theorem dX12_cuts1_28 : decode cX12_cuts1 28 = .ok (.iconst 4, 1) := by decide +kernel
theorem dX12_cuts1_29 : decode cX12_cuts1 29 = .ok (.iaload, 1) := by decide +kernel
theorem dX12_cuts1_30 : decode cX12_cuts1 30 = .ok (.iconst 1, 1) := by decide +kernel
theorem dX12_cuts1_31 : decode cX12_cuts1 31 = .ok (.iadd, 1) := by decide +kernel
theorem dX12_cuts1_32 : decode cX12_cuts1 32 = .ok (.iconst 2, 1) := by decide +kernel
theorem dX12_cuts1_33 : decode cX12_cuts1 33 = .ok (.idiv, 1) := by decide +kernel
theorem dX12_cuts1_34 : decode cX12_cuts1 34 = .ok (.goto 9, 3) := by decide +kernel
theorem dX12_cuts1_37 : decode cX12_cuts1 37 = .ok (.aload_n 0, 1) := by decide +kernel
theorem dX12_cuts1_38 : decode cX12_cuts1 38 = .ok (.getfield 7, 3) := by decide +kernel
theorem dX12_cuts1_41 : decode cX12_cuts1 41 = .ok (.iconst 4, 1) := by decide +kernel
theorem dX12_cuts1_42 : decode cX12_cuts1 42 = .ok (.iaload, 1) := by decide +kernel
theorem dX12_cuts1_43 : decode cX12_cuts1 43 = .ok (.iastore, 1) := by decide +kernel
theorem dX12_cuts1_44 : decode cX12_cuts1 44 = .ok (.aload_n 0, 1) := by decide +kernel
theorem dX12_cuts1_45 : decode cX12_cuts1 45 = .ok (.getfield 7, 3) := by decide +kernel
theorem dX12_cuts1_48 : decode cX12_cuts1 48 = .ok (.bipush 7, 2) := by decide +kernel
theorem dX12_cuts1_50 : decode cX12_cuts1 50 = .ok (.dup2, 1) := by decide +kernel
theorem dX12_cuts1_51 : decode cX12_cuts1 51 = .ok (.iaload, 1) := by decide +kernel
theorem dX12_cuts1_52 : decode cX12_cuts1 52 = .ok (.iconst 1, 1) := by decide +kernel
theorem dX12_cuts1_53 : decode cX12_cuts1 53 = .ok (.iadd, 1) := by decide +kernel
theorem dX12_cuts1_54 : decode cX12_cuts1 54 = .ok (.iastore, 1) := by decide +kernel
theorem dX12_cuts1_55 : decode cX12_cuts1 55 = .ok (.iload_n 3, 1) := by decide +kernel
theorem dX12_cuts1_56 : decode cX12_cuts1 56 = .ok (.iconst 1, 1) := by decide +kernel
theorem dX12_cuts1_57 : decode cX12_cuts1 57 = .ok (.if_icmp .ne 12, 3) := by decide +kernel
theorem dX12_cuts1_60 : decode cX12_cuts1 60 = .ok (.aload_n 0, 1) := by decide +kernel
theorem dX12_cuts1_61 : decode cX12_cuts1 61 = .ok (.getfield 7, 3) := by decide +kernel
theorem dX12_cuts1_64 : decode cX12_cuts1 64 = .ok (.iload_n 2, 1) := by decide +kernel
theorem dX12_cuts1_65 : decode cX12_cuts1 65 = .ok (.iconst 0, 1) := by decide +kernel
theorem dX12_cuts1_66 : decode cX12_cuts1 66 = .ok (.iastore, 1) := by decide +kernel
theorem dX12_cuts1_67 : decode cX12_cuts1 67 = .ok (.iconst 0, 1) := by decide +kernel
theorem dX12_cuts1_68 : decode cX12_cuts1 68 = .ok (.ireturn, 1) := by decide +kernel
theorem dX12_cuts1_69 : decode cX12_cuts1 69 = .ok (.aload_n 0, 1) := by decide +kernel
theorem dX12_cuts1_70 : decode cX12_cuts1 70 = .ok (.getfield 7, 3) := by decide +kernel
theorem dX12_cuts1_73 : decode cX12_cuts1 73 = .ok (.iload_n 2, 1) := by decide +kernel
theorem dX12_cuts1_74 : decode cX12_cuts1 74 = .ok (.iconst 5, 1) := by decide +kernel
theorem dX12_cuts1_75 : decode cX12_cuts1 75 = .ok (.iadd, 1) := by decide +kernel
theorem dX12_cuts1_76 : decode cX12_cuts1 76 = .ok (.iconst 0, 1) := by decide +kernel
theorem dX12_cuts1_77 : decode cX12_cuts1 77 = .ok (.iastore, 1) := by decide +kernel
theorem dX12_cuts1_78 : decode cX12_cuts1 78 = .ok (.iconst 1, 1) := by decide +kernel
theorem dX12_cuts1_79 : decode cX12_cuts1 79 = .ok (.ireturn, 1) := by decide +kernel
theorem dX12_canCut_0 : decode cX12_canCut 0 = .ok (.aload_n 0, 1) := by decide +kernel
theorem dX12_canCut_1 : decode cX12_canCut 1 = .ok (.iload_n 1, 1) := by decide +kernel
theorem dX12_canCut_2 : decode cX12_canCut 2 = .ok (.invokevirtual 272, 3) := by decide +kernel
theorem dX12_canCut_5 : decode cX12_canCut 5 = .ok (.ifCond .eq 16, 3) := by decide +kernel
theorem dX12_canCut_8 : decode cX12_canCut 8 = .ok (.aload_n 0, 1) := by decide +kernel
theorem dX12_canCut_9 : decode cX12_canCut 9 = .ok (.getfield 7, 3) := by decide +kernel
theorem dX12_canCut_12 : decode cX12_canCut 12 = .ok (.iconst 5, 1) := by decide +kernel
theorem dX12_canCut_13 : decode cX12_canCut 13 = .ok (.iaload, 1) := by decide +kernel
theorem dX12_canCut_14 : decode cX12_canCut 14 = .ok (.ifCond .ne 7, 3) := by decide +kernel
theorem dX12_canCut_17 : decode cX12_canCut 17 = .ok (.iconst 1, 1) := by decide +kernel
theorem dX12_canCut_18 : decode cX12_canCut 18 = .ok (.goto 4, 3) := by decide +kernel
theorem dX12_canCut_21 : decode cX12_canCut 21 = .ok (.iconst 0, 1) := by decide +kernel
theorem dX12_canCut_22 : decode cX12_canCut 22 = .ok (.ireturn, 1) := by decide +kernel
theorem dX12_eats_0 : decode cX12_eats 0 = .ok (.iconst 0, 1) := by decide +kernel
theorem dX12_eats_1 : decode cX12_eats 1 = .ok (.istore_n 1, 1) := by decide +kernel
theorem dX12_eats_2 : decode cX12_eats 2 = .ok (.iload_n 1, 1) := by decide +kernel
theorem dX12_eats_3 : decode cX12_eats 3 = .ok (.aload_n 0, 1) := by decide +kernel
theorem dX12_eats_4 : decode cX12_eats 4 = .ok (.getfield 7, 3) := by decide +kernel
theorem dX12_eats_7 : decode cX12_eats 7 = .ok (.iconst 0, 1) := by decide +kernel
theorem dX12_eats_8 : decode cX12_eats 8 = .ok (.iaload, 1) := by decide +kernel
theorem dX12_eats_9 : decode cX12_eats 9 = .ok (.if_icmp .ge 89, 3) := by decide +kernel
theorem dX12_eats_12 : decode cX12_eats 12 = .ok (.aload_n 0, 1) := by decide +kernel
theorem dX12_eats_13 : decode cX12_eats 13 = .ok (.iload_n 1, 1) := by decide +kernel
theorem dX12_eats_14 : decode cX12_eats 14 = .ok (.invokevirtual 272, 3) := by decide +kernel
theorem dX12_eats_17 : decode cX12_eats 17 = .ok (.ifCond .ne 6, 3) := by decide +kernel
theorem dX12_eats_20 : decode cX12_eats 20 = .ok (.goto 72, 3) := by decide +kernel
theorem dX12_eats_23 : decode cX12_eats 23 = .ok (.iload_n 1, 1) := by decide +kernel
