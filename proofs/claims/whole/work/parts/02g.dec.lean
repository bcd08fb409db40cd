theorem dX12_chance_54 : decode cX12_chance 54 = .ok (.goto 4, 3) := by decide +kernel
theorem dX12_chance_57 : decode cX12_chance 57 = .ok (.lconst 0, 1) := by decide +kernel
theorem dX12_chance_58 : decode cX12_chance 58 = .ok (.lastore, 1) := by decide +kernel
theorem dX12_chance_59 : decode cX12_chance 59 = .ok (.iinc 5 1, 3) := by decide +kernel
theorem dX12_chance_62 : decode cX12_chance 62 = .ok (.goto (-27), 3) := by decide +kernel
theorem dX12_chance_65 : decode cX12_chance 65 = .ok (.iconst 0, 1) := by decide +kernel
theorem dX12_chance_66 : decode cX12_chance 66 = .ok (.istore 5, 2) := by decide +kernel
theorem dX12_chance_68 : decode cX12_chance 68 = .ok (.iload 5, 2) := by decide +kernel
theorem dX12_chance_70 : decode cX12_chance 70 = .ok (.iload_n 1, 1) := by decide +kernel
theorem dX12_chance_71 : decode cX12_chance 71 = .ok (.if_icmp .ge 67, 3) := by decide +kernel
theorem dX12_chance_74 : decode cX12_chance 74 = .ok (.bipush 6, 2) := by decide +kernel
theorem dX12_chance_76 : decode cX12_chance 76 = .ok (.istore 6, 2) := by decide +kernel
theorem dX12_chance_78 : decode cX12_chance 78 = .ok (.iload 6, 2) := by decide +kernel
theorem dX12_chance_80 : decode cX12_chance 80 = .ok (.ifCond .lt 46, 3) := by decide +kernel
theorem dX12_chance_83 : decode cX12_chance 83 = .ok (.aload_n 0, 1) := by decide +kernel
theorem dX12_chance_84 : decode cX12_chance 84 = .ok (.getfield 69, 3) := by decide +kernel
theorem dX12_chance_87 : decode cX12_chance 87 = .ok (.iload 6, 2) := by decide +kernel
theorem dX12_chance_89 : decode cX12_chance 89 = .ok (.ldc2_w 346, 3) := by decide +kernel
theorem dX12_chance_92 : decode cX12_chance 92 = .ok (.aload_n 0, 1) := by decide +kernel
theorem dX12_chance_93 : decode cX12_chance 93 = .ok (.getfield 69, 3) := by decide +kernel
theorem dX12_chance_96 : decode cX12_chance 96 = .ok (.iload 6, 2) := by decide +kernel
theorem dX12_chance_98 : decode cX12_chance 98 = .ok (.laload, 1) := by decide +kernel
theorem dX12_chance_99 : decode cX12_chance 99 = .ok (.lmul, 1) := by decide +kernel
theorem dX12_chance_100 : decode cX12_chance 100 = .ok (.iload 6, 2) := by decide +kernel
theorem dX12_chance_102 : decode cX12_chance 102 = .ok (.ifCond .ne 7, 3) := by decide +kernel
theorem dX12_chance_105 : decode cX12_chance 105 = .ok (.lconst 0, 1) := by decide +kernel
theorem dX12_chance_106 : decode cX12_chance 106 = .ok (.goto 12, 3) := by decide +kernel
theorem dX12_chance_109 : decode cX12_chance 109 = .ok (.aload_n 0, 1) := by decide +kernel
theorem dX12_chance_110 : decode cX12_chance 110 = .ok (.getfield 69, 3) := by decide +kernel
theorem dX12_chance_113 : decode cX12_chance 113 = .ok (.iload 6, 2) := by decide +kernel
theorem dX12_chance_115 : decode cX12_chance 115 = .ok (.iconst 1, 1) := by decide +kernel
theorem dX12_chance_116 : decode cX12_chance 116 = .ok (.isub, 1) := by decide +kernel
theorem dX12_chance_117 : decode cX12_chance 117 = .ok (.laload, 1) := by decide +kernel
theorem dX12_chance_118 : decode cX12_chance 118 = .ok (.ladd, 1) := by decide +kernel
theorem dX12_chance_119 : decode cX12_chance 119 = .ok (.lastore, 1) := by decide +kernel
theorem dX12_chance_120 : decode cX12_chance 120 = .ok (.iinc 6 (-1), 3) := by decide +kernel
theorem dX12_chance_123 : decode cX12_chance 123 = .ok (.goto (-45), 3) := by decide +kernel
theorem dX12_chance_126 : decode cX12_chance 126 = .ok (.lload_n 3, 1) := by decide +kernel
theorem dX12_chance_127 : decode cX12_chance 127 = .ok (.ldc2_w 377, 3) := by decide +kernel
theorem dX12_chance_130 : decode cX12_chance 130 = .ok (.lmul, 1) := by decide +kernel
theorem dX12_chance_131 : decode cX12_chance 131 = .ok (.lstore_n 3, 1) := by decide +kernel
theorem dX12_chance_132 : decode cX12_chance 132 = .ok (.iinc 5 1, 3) := by decide +kernel
theorem dX12_chance_135 : decode cX12_chance 135 = .ok (.goto (-67), 3) := by decide +kernel
theorem dX12_chance_138 : decode cX12_chance 138 = .ok (.lconst 0, 1) := by decide +kernel
theorem dX12_chance_139 : decode cX12_chance 139 = .ok (.lstore 5, 2) := by decide +kernel
theorem dX12_chance_141 : decode cX12_chance 141 = .ok (.iload_n 2, 1) := by decide +kernel
theorem dX12_chance_142 : decode cX12_chance 142 = .ok (.istore 7, 2) := by decide +kernel
theorem dX12_chance_144 : decode cX12_chance 144 = .ok (.iload 7, 2) := by decide +kernel
theorem dX12_chance_146 : decode cX12_chance 146 = .ok (.bipush 7, 2) := by decide +kernel
theorem dX12_chance_148 : decode cX12_chance 148 = .ok (.if_icmp .ge 21, 3) := by decide +kernel
theorem dX12_chance_151 : decode cX12_chance 151 = .ok (.lload 5, 2) := by decide +kernel
theorem dX12_chance_153 : decode cX12_chance 153 = .ok (.aload_n 0, 1) := by decide +kernel
theorem dX12_chance_154 : decode cX12_chance 154 = .ok (.getfield 69, 3) := by decide +kernel
theorem dX12_chance_157 : decode cX12_chance 157 = .ok (.iload 7, 2) := by decide +kernel
theorem dX12_chance_159 : decode cX12_chance 159 = .ok (.laload, 1) := by decide +kernel
theorem dX12_chance_160 : decode cX12_chance 160 = .ok (.ladd, 1) := by decide +kernel
theorem dX12_chance_161 : decode cX12_chance 161 = .ok (.lstore 5, 2) := by decide +kernel
theorem dX12_chance_163 : decode cX12_chance 163 = .ok (.iinc 7 1, 3) := by decide +kernel
theorem dX12_chance_166 : decode cX12_chance 166 = .ok (.goto (-22), 3) := by decide +kernel
theorem dX12_chance_169 : decode cX12_chance 169 = .ok (.aload_n 0, 1) := by decide +kernel
theorem dX12_chance_170 : decode cX12_chance 170 = .ok (.lload 5, 2) := by decide +kernel
theorem dX12_chance_172 : decode cX12_chance 172 = .ok (.lload_n 3, 1) := by decide +kernel
theorem dX12_chance_173 : decode cX12_chance 173 = .ok (.invokevirtual 373, 3) := by decide +kernel
theorem dX12_chance_176 : decode cX12_chance 176 = .ok (.ireturn, 1) := by decide +kernel
theorem dX12_stale_0 : decode cX12_stale 0 = .ok (.iload_n 1, 1) := by decide +kernel
theorem dX12_stale_1 : decode cX12_stale 1 = .ok (.i2l, 1) := by decide +kernel
theorem dX12_stale_2 : decode cX12_stale 2 = .ok (.lconst 0, 1) := by decide +kernel
theorem dX12_stale_3 : decode cX12_stale 3 = .ok (.ldc2_w 379, 3) := by decide +kernel
theorem dX12_stale_6 : decode cX12_stale 6 = .ok (.invokestatic 307, 3) := by decide +kernel
theorem dX12_stale_9 : decode cX12_stale 9 = .ok (.ifCond .ne 9, 3) := by decide +kernel
theorem dX12_stale_12 : decode cX12_stale 12 = .ok (.aload_n 0, 1) := by decide +kernel
theorem dX12_stale_13 : decode cX12_stale 13 = .ok (.iconst 1, 1) := by decide +kernel
theorem dX12_stale_14 : decode cX12_stale 14 = .ok (.invokevirtual 104, 3) := by decide +kernel
theorem dX12_stale_17 : decode cX12_stale 17 = .ok (.ireturn, 1) := by decide +kernel
theorem dX12_stale_18 : decode cX12_stale 18 = .ok (.lconst 1, 1) := by decide +kernel
theorem dX12_stale_19 : decode cX12_stale 19 = .ok (.lstore_n 2, 1) := by decide +kernel
theorem dX12_stale_20 : decode cX12_stale 20 = .ok (.lconst 1, 1) := by decide +kernel
theorem dX12_stale_21 : decode cX12_stale 21 = .ok (.lstore 4, 2) := by decide +kernel
theorem dX12_stale_23 : decode cX12_stale 23 = .ok (.iconst 0, 1) := by decide +kernel
theorem dX12_stale_24 : decode cX12_stale 24 = .ok (.istore 6, 2) := by decide +kernel
theorem dX12_stale_26 : decode cX12_stale 26 = .ok (.iload 6, 2) := by decide +kernel
theorem dX12_stale_28 : decode cX12_stale 28 = .ok (.iload_n 1, 1) := by decide +kernel
theorem dX12_stale_29 : decode cX12_stale 29 = .ok (.if_icmp .ge 30, 3) := by decide +kernel
theorem dX12_stale_32 : decode cX12_stale 32 = .ok (.lload_n 2, 1) := by decide +kernel
theorem dX12_stale_33 : decode cX12_stale 33 = .ok (.bipush 16, 2) := by decide +kernel
theorem dX12_stale_35 : decode cX12_stale 35 = .ok (.aload_n 0, 1) := by decide +kernel
theorem dX12_stale_36 : decode cX12_stale 36 = .ok (.getfield 7, 3) := by decide +kernel
theorem dX12_stale_39 : decode cX12_stale 39 = .ok (.iconst 1, 1) := by decide +kernel
theorem dX12_stale_40 : decode cX12_stale 40 = .ok (.iaload, 1) := by decide +kernel
theorem dX12_stale_41 : decode cX12_stale 41 = .ok (.isub, 1) := by decide +kernel
theorem dX12_stale_42 : decode cX12_stale 42 = .ok (.i2l, 1) := by decide +kernel
theorem dX12_stale_43 : decode cX12_stale 43 = .ok (.lmul, 1) := by decide +kernel
theorem dX12_stale_44 : decode cX12_stale 44 = .ok (.lstore_n 2, 1) := by decide +kernel
theorem dX12_stale_45 : decode cX12_stale 45 = .ok (.lload 4, 2) := by decide +kernel
theorem dX12_stale_47 : decode cX12_stale 47 = .ok (.ldc2_w 381, 3) := by decide +kernel
theorem dX12_stale_50 : decode cX12_stale 50 = .ok (.lmul, 1) := by decide +kernel
theorem dX12_stale_51 : decode cX12_stale 51 = .ok (.lstore 4, 2) := by decide +kernel
theorem dX12_stale_53 : decode cX12_stale 53 = .ok (.iinc 6 1, 3) := by decide +kernel
theorem dX12_stale_56 : decode cX12_stale 56 = .ok (.goto (-30), 3) := by decide +kernel
theorem dX12_stale_59 : decode cX12_stale 59 = .ok (.aload_n 0, 1) := by decide +kernel
theorem dX12_stale_60 : decode cX12_stale 60 = .ok (.lload_n 2, 1) := by decide +kernel
theorem dX12_stale_61 : decode cX12_stale 61 = .ok (.lload 4, 2) := by decide +kernel
theorem dX12_stale_63 : decode cX12_stale 63 = .ok (.invokevirtual 373, 3) := by decide +kernel
theorem dX12_stale_66 : decode cX12_stale 66 = .ok (.ireturn, 1) := by decide +kernel
theorem dX12_share_0 : decode cX12_share 0 = .ok (.aload_n 0, 1) := by decide +kernel
theorem dX12_share_1 : decode cX12_share 1 = .ok (.iload_n 1, 1) := by decide +kernel
theorem dX12_share_2 : decode cX12_share 2 = .ok (.invokevirtual 266, 3) := by decide +kernel
theorem dX12_share_5 : decode cX12_share 5 = .ok (.ifCond .ne 9, 3) := by decide +kernel
theorem dX12_share_8 : decode cX12_share 8 = .ok (.aload_n 0, 1) := by decide +kernel
theorem dX12_share_9 : decode cX12_share 9 = .ok (.iconst 1, 1) := by decide +kernel
theorem dX12_share_10 : decode cX12_share 10 = .ok (.invokevirtual 104, 3) := by decide +kernel
theorem dX12_share_13 : decode cX12_share 13 = .ok (.ireturn, 1) := by decide +kernel
theorem dX12_share_14 : decode cX12_share 14 = .ok (.iconst 0, 1) := by decide +kernel
theorem dX12_share_15 : decode cX12_share 15 = .ok (.istore_n 2, 1) := by decide +kernel
theorem dX12_share_16 : decode cX12_share 16 = .ok (.iconst 0, 1) := by decide +kernel
theorem dX12_share_17 : decode cX12_share 17 = .ok (.istore_n 3, 1) := by decide +kernel
theorem dX12_share_18 : decode cX12_share 18 = .ok (.iload_n 3, 1) := by decide +kernel
theorem dX12_share_19 : decode cX12_share 19 = .ok (.aload_n 0, 1) := by decide +kernel
theorem dX12_share_20 : decode cX12_share 20 = .ok (.getfield 7, 3) := by decide +kernel
theorem dX12_share_23 : decode cX12_share 23 = .ok (.iconst 0, 1) := by decide +kernel
theorem dX12_share_24 : decode cX12_share 24 = .ok (.iaload, 1) := by decide +kernel
theorem dX12_share_25 : decode cX12_share 25 = .ok (.if_icmp .ge 30, 3) := by decide +kernel
theorem dX12_share_28 : decode cX12_share 28 = .ok (.iload_n 2, 1) := by decide +kernel
theorem dX12_share_29 : decode cX12_share 29 = .ok (.aload_n 0, 1) := by decide +kernel
theorem dX12_share_30 : decode cX12_share 30 = .ok (.iload_n 3, 1) := by decide +kernel
theorem dX12_share_31 : decode cX12_share 31 = .ok (.invokevirtual 272, 3) := by decide +kernel
theorem dX12_share_34 : decode cX12_share 34 = .ok (.ifCond .eq 12, 3) := by decide +kernel
theorem dX12_share_37 : decode cX12_share 37 = .ok (.aload_n 0, 1) := by decide +kernel
theorem dX12_share_38 : decode cX12_share 38 = .ok (.iload_n 3, 1) := by decide +kernel
theorem dX12_share_39 : decode cX12_share 39 = .ok (.iconst 2, 1) := by decide +kernel
theorem dX12_share_40 : decode cX12_share 40 = .ok (.invokevirtual 269, 3) := by decide +kernel
theorem dX12_share_43 : decode cX12_share 43 = .ok (.goto 4, 3) := by decide +kernel
theorem dX12_share_46 : decode cX12_share 46 = .ok (.iconst 0, 1) := by decide +kernel
theorem dX12_share_47 : decode cX12_share 47 = .ok (.iadd, 1) := by decide +kernel
theorem dX12_share_48 : decode cX12_share 48 = .ok (.istore_n 2, 1) := by decide +kernel
theorem dX12_share_49 : decode cX12_share 49 = .ok (.iinc 3 1, 3) := by decide +kernel
theorem dX12_share_52 : decode cX12_share 52 = .ok (.goto (-34), 3) := by decide +kernel
theorem dX12_share_55 : decode cX12_share 55 = .ok (.iload_n 2, 1) := by decide +kernel
theorem dX12_share_56 : decode cX12_share 56 = .ok (.ifCond .ne 10, 3) := by decide +kernel
theorem dX12_share_59 : decode cX12_share 59 = .ok (.aload_n 0, 1) := by decide +kernel
theorem dX12_share_60 : decode cX12_share 60 = .ok (.bipush 6, 2) := by decide +kernel
theorem dX12_share_62 : decode cX12_share 62 = .ok (.invokevirtual 104, 3) := by decide +kernel
theorem dX12_share_65 : decode cX12_share 65 = .ok (.ireturn, 1) := by decide +kernel
theorem dX12_share_66 : decode cX12_share 66 = .ok (.aload_n 0, 1) := by decide +kernel
theorem dX12_share_67 : decode cX12_share 67 = .ok (.iload_n 1, 1) := by decide +kernel
theorem dX12_share_68 : decode cX12_share 68 = .ok (.invokevirtual 272, 3) := by decide +kernel
theorem dX12_share_71 : decode cX12_share 71 = .ok (.ifCond .eq 19, 3) := by decide +kernel
theorem dX12_share_74 : decode cX12_share 74 = .ok (.aload_n 0, 1) := by decide +kernel
theorem dX12_share_75 : decode cX12_share 75 = .ok (.aload_n 0, 1) := by decide +kernel
theorem dX12_share_76 : decode cX12_share 76 = .ok (.iload_n 1, 1) := by decide +kernel
theorem dX12_share_77 : decode cX12_share 77 = .ok (.iconst 2, 1) := by decide +kernel
theorem dX12_share_78 : decode cX12_share 78 = .ok (.invokevirtual 269, 3) := by decide +kernel
theorem dX12_share_81 : decode cX12_share 81 = .ok (.i2l, 1) := by decide +kernel
theorem dX12_share_82 : decode cX12_share 82 = .ok (.iload_n 2, 1) := by decide +kernel
theorem dX12_share_83 : decode cX12_share 83 = .ok (.i2l, 1) := by decide +kernel
theorem dX12_share_84 : decode cX12_share 84 = .ok (.invokevirtual 373, 3) := by decide +kernel
theorem dX12_share_87 : decode cX12_share 87 = .ok (.goto 9, 3) := by decide +kernel
theorem dX12_share_90 : decode cX12_share 90 = .ok (.aload_n 0, 1) := by decide +kernel
theorem dX12_share_91 : decode cX12_share 91 = .ok (.bipush 7, 2) := by decide +kernel
theorem dX12_share_93 : decode cX12_share 93 = .ok (.invokevirtual 104, 3) := by decide +kernel
theorem dX12_share_96 : decode cX12_share 96 = .ok (.ireturn, 1) := by decide +kernel
theorem dX12_settles_0 : decode cX12_settles 0 = .ok (.aload_n 0, 1) := by decide +kernel
theorem dX12_settles_1 : decode cX12_settles 1 = .ok (.getfield 75, 3) := by decide +kernel
theorem dX12_settles_4 : decode cX12_settles 4 = .ok (.iload_n 1, 1) := by decide +kernel
theorem dX12_settles_5 : decode cX12_settles 5 = .ok (.iaload, 1) := by decide +kernel
theorem dX12_settles_6 : decode cX12_settles 6 = .ok (.iconst (-1), 1) := by decide +kernel
theorem dX12_settles_7 : decode cX12_settles 7 = .ok (.if_icmp .ne 7, 3) := by decide +kernel
theorem dX12_settles_10 : decode cX12_settles 10 = .ok (.iconst 1, 1) := by decide +kernel
theorem dX12_settles_11 : decode cX12_settles 11 = .ok (.goto 4, 3) := by decide +kernel
theorem dX12_settles_14 : decode cX12_settles 14 = .ok (.iconst 0, 1) := by decide +kernel
theorem dX12_settles_15 : decode cX12_settles 15 = .ok (.istore_n 3, 1) := by decide +kernel
theorem dX12_settles_16 : decode cX12_settles 16 = .ok (.iload_n 3, 1) := by decide +kernel
theorem dX12_settles_17 : decode cX12_settles 17 = .ok (.ifCond .ne 33, 3) := by decide +kernel
theorem dX12_settles_20 : decode cX12_settles 20 = .ok (.iload_n 1, 1) := by decide +kernel
theorem dX12_settles_21 : decode cX12_settles 21 = .ok (.iconst 2, 1) := by decide +kernel
theorem dX12_settles_22 : decode cX12_settles 22 = .ok (.irem, 1) := by decide +kernel
theorem dX12_settles_23 : decode cX12_settles 23 = .ok (.ifCond .ne 16, 3) := by decide +kernel
theorem dX12_settles_26 : decode cX12_settles 26 = .ok (.iload_n 2, 1) := by decide +kernel
theorem dX12_settles_27 : decode cX12_settles 27 = .ok (.aload_n 0, 1) := by decide +kernel
theorem dX12_settles_28 : decode cX12_settles 28 = .ok (.getfield 72, 3) := by decide +kernel
theorem dX12_settles_31 : decode cX12_settles 31 = .ok (.iload_n 1, 1) := by decide +kernel
theorem dX12_settles_32 : decode cX12_settles 32 = .ok (.iaload, 1) := by decide +kernel
theorem dX12_settles_33 : decode cX12_settles 33 = .ok (.if_icmp .gt 17, 3) := by decide +kernel
theorem dX12_settles_36 : decode cX12_settles 36 = .ok (.goto 13, 3) := by decide +kernel
theorem dX12_settles_39 : decode cX12_settles 39 = .ok (.iload_n 2, 1) := by decide +kernel
theorem dX12_settles_40 : decode cX12_settles 40 = .ok (.aload_n 0, 1) := by decide +kernel
theorem dX12_settles_41 : decode cX12_settles 41 = .ok (.getfield 72, 3) := by decide +kernel
theorem dX12_settles_44 : decode cX12_settles 44 = .ok (.iload_n 1, 1) := by decide +kernel
theorem dX12_settles_45 : decode cX12_settles 45 = .ok (.iaload, 1) := by decide +kernel
theorem dX12_settles_46 : decode cX12_settles 46 = .ok (.if_icmp .lt 4, 3) := by decide +kernel
theorem dX12_settles_49 : decode cX12_settles 49 = .ok (.return_, 1) := by decide +kernel
theorem dX12_settles_50 : decode cX12_settles 50 = .ok (.aload_n 0, 1) := by decide +kernel
theorem dX12_settles_51 : decode cX12_settles 51 = .ok (.getfield 72, 3) := by decide +kernel
theorem dX12_settles_54 : decode cX12_settles 54 = .ok (.iload_n 1, 1) := by decide +kernel
theorem dX12_settles_55 : decode cX12_settles 55 = .ok (.iload_n 2, 1) := by decide +kernel
theorem dX12_settles_56 : decode cX12_settles 56 = .ok (.iastore, 1) := by decide +kernel
theorem dX12_settles_57 : decode cX12_settles 57 = .ok (.aload_n 0, 1) := by decide +kernel
theorem dX12_settles_58 : decode cX12_settles 58 = .ok (.getfield 75, 3) := by decide +kernel
theorem dX12_settles_61 : decode cX12_settles 61 = .ok (.iload_n 1, 1) := by decide +kernel
theorem dX12_settles_62 : decode cX12_settles 62 = .ok (.aload_n 0, 1) := by decide +kernel
theorem dX12_settles_63 : decode cX12_settles 63 = .ok (.getfield 47, 3) := by decide +kernel
theorem dX12_settles_66 : decode cX12_settles 66 = .ok (.iload_n 1, 1) := by decide +kernel
theorem dX12_settles_67 : decode cX12_settles 67 = .ok (.iaload, 1) := by decide +kernel
theorem dX12_settles_68 : decode cX12_settles 68 = .ok (.iastore, 1) := by decide +kernel
theorem dX12_settles_69 : decode cX12_settles 69 = .ok (.return_, 1) := by decide +kernel
theorem dX12_beginsAt_0 : decode cX12_beginsAt 0 = .ok (.aload_n 0, 1) := by decide +kernel
theorem dX12_beginsAt_1 : decode cX12_beginsAt 1 = .ok (.iload_n 1, 1) := by decide +kernel
theorem dX12_beginsAt_2 : decode cX12_beginsAt 2 = .ok (.invokestatic 343, 3) := by decide +kernel
theorem dX12_beginsAt_5 : decode cX12_beginsAt 5 = .ok (.invokevirtual 334, 3) := by decide +kernel
theorem dX12_beginsAt_8 : decode cX12_beginsAt 8 = .ok (.aload_n 0, 1) := by decide +kernel
theorem dX12_beginsAt_9 : decode cX12_beginsAt 9 = .ok (.getfield 47, 3) := by decide +kernel
theorem dX12_beginsAt_12 : decode cX12_beginsAt 12 = .ok (.iload_n 1, 1) := by decide +kernel
theorem dX12_beginsAt_13 : decode cX12_beginsAt 13 = .ok (.iconst (-1), 1) := by decide +kernel
theorem dX12_beginsAt_14 : decode cX12_beginsAt 14 = .ok (.iastore, 1) := by decide +kernel
theorem dX12_beginsAt_15 : decode cX12_beginsAt 15 = .ok (.aload_n 0, 1) := by decide +kernel
theorem dX12_beginsAt_16 : decode cX12_beginsAt 16 = .ok (.getfield 75, 3) := by decide +kernel
theorem dX12_beginsAt_19 : decode cX12_beginsAt 19 = .ok (.iload_n 1, 1) := by decide +kernel
theorem dX12_beginsAt_20 : decode cX12_beginsAt 20 = .ok (.iconst (-1), 1) := by decide +kernel
theorem dX12_beginsAt_21 : decode cX12_beginsAt 21 = .ok (.iastore, 1) := by decide +kernel
theorem dX12_beginsAt_22 : decode cX12_beginsAt 22 = .ok (.return_, 1) := by decide +kernel
theorem dX12_comesTo_0 : decode cX12_comesTo 0 = .ok (.aload_n 0, 1) := by decide +kernel
theorem dX12_comesTo_1 : decode cX12_comesTo 1 = .ok (.bipush 10, 2) := by decide +kernel
theorem dX12_comesTo_3 : decode cX12_comesTo 3 = .ok (.invokevirtual 311, 3) := by decide +kernel
theorem dX12_comesTo_6 : decode cX12_comesTo 6 = .ok (.aload_n 0, 1) := by decide +kernel
theorem dX12_comesTo_7 : decode cX12_comesTo 7 = .ok (.iload_n 1, 1) := by decide +kernel
theorem dX12_comesTo_8 : decode cX12_comesTo 8 = .ok (.invokevirtual 272, 3) := by decide +kernel
theorem dX12_comesTo_11 : decode cX12_comesTo 11 = .ok (.ifCond .eq 7, 3) := by decide +kernel
theorem dX12_comesTo_14 : decode cX12_comesTo 14 = .ok (.iconst 0, 1) := by decide +kernel
theorem dX12_comesTo_15 : decode cX12_comesTo 15 = .ok (.goto 4, 3) := by decide +kernel
theorem dX12_comesTo_18 : decode cX12_comesTo 18 = .ok (.iconst 1, 1) := by decide +kernel
theorem dX12_comesTo_19 : decode cX12_comesTo 19 = .ok (.aload_n 0, 1) := by decide +kernel
theorem dX12_comesTo_20 : decode cX12_comesTo 20 = .ok (.iload_n 2, 1) := by decide +kernel
theorem dX12_comesTo_21 : decode cX12_comesTo 21 = .ok (.invokevirtual 272, 3) := by decide +kernel
theorem dX12_comesTo_24 : decode cX12_comesTo 24 = .ok (.ifCond .eq 7, 3) := by decide +kernel
theorem dX12_comesTo_27 : decode cX12_comesTo 27 = .ok (.iconst 0, 1) := by decide +kernel
theorem dX12_comesTo_28 : decode cX12_comesTo 28 = .ok (.goto 4, 3) := by decide +kernel
theorem dX12_comesTo_31 : decode cX12_comesTo 31 = .ok (.iconst 1, 1) := by decide +kernel
theorem dX12_comesTo_32 : decode cX12_comesTo 32 = .ok (.isub, 1) := by decide +kernel
theorem dX12_comesTo_33 : decode cX12_comesTo 33 = .ok (.ireturn, 1) := by decide +kernel
theorem dX12_playing_0 : decode cX12_playing 0 = .ok (.iconst 0, 1) := by decide +kernel
theorem dX12_playing_1 : decode cX12_playing 1 = .ok (.istore 4, 2) := by decide +kernel
theorem dX12_playing_3 : decode cX12_playing 3 = .ok (.aload_n 0, 1) := by decide +kernel
theorem dX12_playing_4 : decode cX12_playing 4 = .ok (.iconst 0, 1) := by decide +kernel
theorem dX12_playing_5 : decode cX12_playing 5 = .ok (.invokevirtual 383, 3) := by decide +kernel
theorem dX12_playing_8 : decode cX12_playing 8 = .ok (.iload_n 3, 1) := by decide +kernel
theorem dX12_playing_9 : decode cX12_playing 9 = .ok (.ifCond .le 160, 3) := by decide +kernel
theorem dX12_playing_12 : decode cX12_playing 12 = .ok (.aload_n 0, 1) := by decide +kernel
theorem dX12_playing_13 : decode cX12_playing 13 = .ok (.iload 4, 2) := by decide +kernel
theorem dX12_playing_15 : decode cX12_playing 15 = .ok (.invokestatic 343, 3) := by decide +kernel
theorem dX12_playing_18 : decode cX12_playing 18 = .ok (.invokevirtual 337, 3) := by decide +kernel
theorem dX12_playing_21 : decode cX12_playing 21 = .ok (.aload_n 0, 1) := by decide +kernel
theorem dX12_playing_22 : decode cX12_playing 22 = .ok (.getfield 47, 3) := by decide +kernel
theorem dX12_playing_25 : decode cX12_playing 25 = .ok (.iload 4, 2) := by decide +kernel
theorem dX12_playing_27 : decode cX12_playing 27 = .ok (.dup2, 1) := by decide +kernel
theorem dX12_playing_28 : decode cX12_playing 28 = .ok (.iaload, 1) := by decide +kernel
theorem dX12_playing_29 : decode cX12_playing 29 = .ok (.iconst 1, 1) := by decide +kernel
theorem dX12_playing_30 : decode cX12_playing 30 = .ok (.iadd, 1) := by decide +kernel
theorem dX12_playing_31 : decode cX12_playing 31 = .ok (.iastore, 1) := by decide +kernel
theorem dX12_playing_32 : decode cX12_playing 32 = .ok (.aload_n 0, 1) := by decide +kernel
theorem dX12_playing_33 : decode cX12_playing 33 = .ok (.getfield 47, 3) := by decide +kernel
theorem dX12_playing_36 : decode cX12_playing 36 = .ok (.iload 4, 2) := by decide +kernel
theorem dX12_playing_38 : decode cX12_playing 38 = .ok (.iaload, 1) := by decide +kernel
theorem dX12_playing_39 : decode cX12_playing 39 = .ok (.istore 5, 2) := by decide +kernel
theorem dX12_playing_41 : decode cX12_playing 41 = .ok (.iload 4, 2) := by decide +kernel
theorem dX12_playing_43 : decode cX12_playing 43 = .ok (.iconst 2, 1) := by decide +kernel
theorem dX12_playing_44 : decode cX12_playing 44 = .ok (.irem, 1) := by decide +kernel
theorem dX12_playing_45 : decode cX12_playing 45 = .ok (.ifCond .ne 7, 3) := by decide +kernel
theorem dX12_playing_48 : decode cX12_playing 48 = .ok (.iload_n 1, 1) := by decide +kernel
theorem dX12_playing_49 : decode cX12_playing 49 = .ok (.goto 4, 3) := by decide +kernel
theorem dX12_playing_52 : decode cX12_playing 52 = .ok (.iload_n 2, 1) := by decide +kernel
theorem dX12_playing_53 : decode cX12_playing 53 = .ok (.istore 6, 2) := by decide +kernel
theorem dX12_playing_55 : decode cX12_playing 55 = .ok (.iload 5, 2) := by decide +kernel
theorem dX12_playing_57 : decode cX12_playing 57 = .ok (.aload_n 0, 1) := by decide +kernel
theorem dX12_playing_58 : decode cX12_playing 58 = .ok (.getfield 7, 3) := by decide +kernel
theorem dX12_playing_61 : decode cX12_playing 61 = .ok (.iconst 0, 1) := by decide +kernel
theorem dX12_playing_62 : decode cX12_playing 62 = .ok (.iaload, 1) := by decide +kernel
theorem dX12_playing_63 : decode cX12_playing 63 = .ok (.if_icmp .le 32, 3) := by decide +kernel
theorem dX12_playing_66 : decode cX12_playing 66 = .ok (.iload 4, 2) := by decide +kernel
theorem dX12_playing_68 : decode cX12_playing 68 = .ok (.ifCond .ne 6, 3) := by decide +kernel
theorem dX12_playing_71 : decode cX12_playing 71 = .ok (.goto 98, 3) := by decide +kernel
theorem dX12_playing_74 : decode cX12_playing 74 = .ok (.iinc 4 (-1), 3) := by decide +kernel
theorem dX12_playing_77 : decode cX12_playing 77 = .ok (.aload_n 0, 1) := by decide +kernel
theorem dX12_playing_78 : decode cX12_playing 78 = .ok (.iload 4, 2) := by decide +kernel
theorem dX12_playing_80 : decode cX12_playing 80 = .ok (.aload_n 0, 1) := by decide +kernel
theorem dX12_playing_81 : decode cX12_playing 81 = .ok (.getfield 72, 3) := by decide +kernel
theorem dX12_playing_84 : decode cX12_playing 84 = .ok (.iload 4, 2) := by decide +kernel
theorem dX12_playing_86 : decode cX12_playing 86 = .ok (.iconst 1, 1) := by decide +kernel
theorem dX12_playing_87 : decode cX12_playing 87 = .ok (.iadd, 1) := by decide +kernel
theorem dX12_playing_88 : decode cX12_playing 88 = .ok (.iaload, 1) := by decide +kernel
theorem dX12_playing_89 : decode cX12_playing 89 = .ok (.invokevirtual 386, 3) := by decide +kernel
theorem dX12_playing_92 : decode cX12_playing 92 = .ok (.goto (-84), 3) := by decide +kernel
theorem dX12_playing_95 : decode cX12_playing 95 = .ok (.iload 5, 2) := by decide +kernel
theorem dX12_playing_97 : decode cX12_playing 97 = .ok (.aload_n 0, 1) := by decide +kernel
theorem dX12_playing_98 : decode cX12_playing 98 = .ok (.getfield 7, 3) := by decide +kernel
theorem dX12_playing_101 : decode cX12_playing 101 = .ok (.iconst 0, 1) := by decide +kernel
theorem dX12_playing_102 : decode cX12_playing 102 = .ok (.iaload, 1) := by decide +kernel
theorem dX12_playing_103 : decode cX12_playing 103 = .ok (.if_icmp .ge 31, 3) := by decide +kernel
theorem dX12_playing_106 : decode cX12_playing 106 = .ok (.aload_n 0, 1) := by decide +kernel
theorem dX12_playing_107 : decode cX12_playing 107 = .ok (.iload 5, 2) := by decide +kernel
theorem dX12_playing_109 : decode cX12_playing 109 = .ok (.invokevirtual 272, 3) := by decide +kernel
theorem dX12_playing_112 : decode cX12_playing 112 = .ok (.ifCond .eq (-104), 3) := by decide +kernel
theorem dX12_playing_115 : decode cX12_playing 115 = .ok (.iload 5, 2) := by decide +kernel
theorem dX12_playing_117 : decode cX12_playing 117 = .ok (.iload 6, 2) := by decide +kernel
theorem dX12_playing_119 : decode cX12_playing 119 = .ok (.if_icmp .ne 6, 3) := by decide +kernel
theorem dX12_playing_122 : decode cX12_playing 122 = .ok (.goto (-114), 3) := by decide +kernel
theorem dX12_playing_125 : decode cX12_playing 125 = .ok (.aload_n 0, 1) := by decide +kernel
theorem dX12_playing_126 : decode cX12_playing 126 = .ok (.iload 5, 2) := by decide +kernel
theorem dX12_playing_128 : decode cX12_playing 128 = .ok (.iload 6, 2) := by decide +kernel
theorem dX12_playing_130 : decode cX12_playing 130 = .ok (.invokevirtual 320, 3) := by decide +kernel
theorem dX12_playing_133 : decode cX12_playing 133 = .ok (.pop, 1) := by decide +kernel
theorem dX12_playing_134 : decode cX12_playing 134 = .ok (.iload 4, 2) := by decide +kernel
theorem dX12_playing_136 : decode cX12_playing 136 = .ok (.iconst 1, 1) := by decide +kernel
theorem dX12_playing_137 : decode cX12_playing 137 = .ok (.iadd, 1) := by decide +kernel
theorem dX12_playing_138 : decode cX12_playing 138 = .ok (.iload_n 3, 1) := by decide +kernel
theorem dX12_playing_139 : decode cX12_playing 139 = .ok (.if_icmp .ne 18, 3) := by decide +kernel
theorem dX12_playing_142 : decode cX12_playing 142 = .ok (.aload_n 0, 1) := by decide +kernel
theorem dX12_playing_143 : decode cX12_playing 143 = .ok (.iload 4, 2) := by decide +kernel
theorem dX12_playing_145 : decode cX12_playing 145 = .ok (.aload_n 0, 1) := by decide +kernel
theorem dX12_playing_146 : decode cX12_playing 146 = .ok (.iload_n 1, 1) := by decide +kernel
theorem dX12_playing_147 : decode cX12_playing 147 = .ok (.iload_n 2, 1) := by decide +kernel
theorem dX12_playing_148 : decode cX12_playing 148 = .ok (.invokevirtual 389, 3) := by decide +kernel
theorem dX12_playing_151 : decode cX12_playing 151 = .ok (.invokevirtual 386, 3) := by decide +kernel
theorem dX12_playing_154 : decode cX12_playing 154 = .ok (.goto 12, 3) := by decide +kernel
theorem dX12_playing_157 : decode cX12_playing 157 = .ok (.iinc 4 1, 3) := by decide +kernel
theorem dX12_playing_160 : decode cX12_playing 160 = .ok (.aload_n 0, 1) := by decide +kernel
theorem dX12_playing_161 : decode cX12_playing 161 = .ok (.iload 4, 2) := by decide +kernel
theorem dX12_playing_163 : decode cX12_playing 163 = .ok (.invokevirtual 383, 3) := by decide +kernel
theorem dX12_playing_166 : decode cX12_playing 166 = .ok (.goto (-158), 3) := by decide +kernel
theorem dX12_playing_169 : decode cX12_playing 169 = .ok (.iload_n 3, 1) := by decide +kernel
theorem dX12_playing_170 : decode cX12_playing 170 = .ok (.ifCond .ne 15, 3) := by decide +kernel
theorem dX12_playing_173 : decode cX12_playing 173 = .ok (.aload_n 0, 1) := by decide +kernel
theorem dX12_playing_174 : decode cX12_playing 174 = .ok (.getfield 72, 3) := by decide +kernel
theorem dX12_playing_177 : decode cX12_playing 177 = .ok (.iconst 0, 1) := by decide +kernel
theorem dX12_playing_178 : decode cX12_playing 178 = .ok (.aload_n 0, 1) := by decide +kernel
theorem dX12_playing_179 : decode cX12_playing 179 = .ok (.iload_n 1, 1) := by decide +kernel
theorem dX12_playing_180 : decode cX12_playing 180 = .ok (.iload_n 2, 1) := by decide +kernel
theorem dX12_playing_181 : decode cX12_playing 181 = .ok (.invokevirtual 389, 3) := by decide +kernel
theorem dX12_playing_184 : decode cX12_playing 184 = .ok (.iastore, 1) := by decide +kernel
theorem dX12_playing_185 : decode cX12_playing 185 = .ok (.aload_n 0, 1) := by decide +kernel
theorem dX12_playing_186 : decode cX12_playing 186 = .ok (.iconst 0, 1) := by decide +kernel
theorem dX12_playing_187 : decode cX12_playing 187 = .ok (.invokestatic 343, 3) := by decide +kernel
theorem dX12_playing_190 : decode cX12_playing 190 = .ok (.invokevirtual 337, 3) := by decide +kernel
theorem dX12_playing_193 : decode cX12_playing 193 = .ok (.aload_n 0, 1) := by decide +kernel
theorem dX12_playing_194 : decode cX12_playing 194 = .ok (.getfield 72, 3) := by decide +kernel
theorem dX12_playing_197 : decode cX12_playing 197 = .ok (.iconst 0, 1) := by decide +kernel
theorem dX12_playing_198 : decode cX12_playing 198 = .ok (.iaload, 1) := by decide +kernel
theorem dX12_playing_199 : decode cX12_playing 199 = .ok (.ireturn, 1) := by decide +kernel
theorem dX12_game_0 : decode cX12_game 0 = .ok (.aload_n 0, 1) := by decide +kernel
theorem dX12_game_1 : decode cX12_game 1 = .ok (.iload_n 1, 1) := by decide +kernel
theorem dX12_game_2 : decode cX12_game 2 = .ok (.iload_n 2, 1) := by decide +kernel
theorem dX12_game_3 : decode cX12_game 3 = .ok (.invokevirtual 317, 3) := by decide +kernel
theorem dX12_game_6 : decode cX12_game 6 = .ok (.ifCond .eq 15, 3) := by decide +kernel
theorem dX12_game_9 : decode cX12_game 9 = .ok (.iload_n 3, 1) := by decide +kernel
theorem dX12_game_10 : decode cX12_game 10 = .ok (.i2l, 1) := by decide +kernel
theorem dX12_game_11 : decode cX12_game 11 = .ok (.lconst 0, 1) := by decide +kernel
theorem dX12_game_12 : decode cX12_game 12 = .ok (.ldc2_w 392, 3) := by decide +kernel
theorem dX12_game_15 : decode cX12_game 15 = .ok (.invokestatic 307, 3) := by decide +kernel
theorem dX12_game_18 : decode cX12_game 18 = .ok (.ifCond .ne 9, 3) := by decide +kernel
theorem dX12_game_21 : decode cX12_game 21 = .ok (.aload_n 0, 1) := by decide +kernel
theorem dX12_game_22 : decode cX12_game 22 = .ok (.iconst 1, 1) := by decide +kernel
theorem dX12_game_23 : decode cX12_game 23 = .ok (.invokevirtual 97, 3) := by decide +kernel
theorem dX12_game_26 : decode cX12_game 26 = .ok (.ireturn, 1) := by decide +kernel
theorem dX12_game_27 : decode cX12_game 27 = .ok (.aload_n 0, 1) := by decide +kernel
theorem dX12_game_28 : decode cX12_game 28 = .ok (.aload_n 0, 1) := by decide +kernel
theorem dX12_game_29 : decode cX12_game 29 = .ok (.iload_n 1, 1) := by decide +kernel
theorem dX12_game_30 : decode cX12_game 30 = .ok (.iload_n 2, 1) := by decide +kernel
theorem dX12_game_31 : decode cX12_game 31 = .ok (.iload_n 3, 1) := by decide +kernel
theorem dX12_game_32 : decode cX12_game 32 = .ok (.invokevirtual 394, 3) := by decide +kernel
theorem dX12_game_35 : decode cX12_game 35 = .ok (.invokevirtual 101, 3) := by decide +kernel
theorem dX12_game_38 : decode cX12_game 38 = .ok (.ireturn, 1) := by decide +kernel
theorem dX12_moveOf_0 : decode cX12_moveOf 0 = .ok (.aload_n 0, 1) := by decide +kernel
theorem dX12_moveOf_1 : decode cX12_moveOf 1 = .ok (.iload_n 1, 1) := by decide +kernel
theorem dX12_moveOf_2 : decode cX12_moveOf 2 = .ok (.iload_n 2, 1) := by decide +kernel
theorem dX12_moveOf_3 : decode cX12_moveOf 3 = .ok (.invokevirtual 317, 3) := by decide +kernel
theorem dX12_moveOf_6 : decode cX12_moveOf 6 = .ok (.ifCond .eq 15, 3) := by decide +kernel
theorem dX12_moveOf_9 : decode cX12_moveOf 9 = .ok (.iload_n 3, 1) := by decide +kernel
theorem dX12_moveOf_10 : decode cX12_moveOf 10 = .ok (.i2l, 1) := by decide +kernel
theorem dX12_moveOf_11 : decode cX12_moveOf 11 = .ok (.lconst 1, 1) := by decide +kernel
theorem dX12_moveOf_12 : decode cX12_moveOf 12 = .ok (.ldc2_w 392, 3) := by decide +kernel
theorem dX12_moveOf_15 : decode cX12_moveOf 15 = .ok (.invokestatic 307, 3) := by decide +kernel
theorem dX12_moveOf_18 : decode cX12_moveOf 18 = .ok (.ifCond .ne 9, 3) := by decide +kernel
theorem dX12_moveOf_21 : decode cX12_moveOf 21 = .ok (.aload_n 0, 1) := by decide +kernel
theorem dX12_moveOf_22 : decode cX12_moveOf 22 = .ok (.iconst 1, 1) := by decide +kernel
theorem dX12_moveOf_23 : decode cX12_moveOf 23 = .ok (.invokevirtual 97, 3) := by decide +kernel
theorem dX12_moveOf_26 : decode cX12_moveOf 26 = .ok (.ireturn, 1) := by decide +kernel
theorem dX12_moveOf_27 : decode cX12_moveOf 27 = .ok (.aload_n 0, 1) := by decide +kernel
theorem dX12_moveOf_28 : decode cX12_moveOf 28 = .ok (.iload_n 1, 1) := by decide +kernel
theorem dX12_moveOf_29 : decode cX12_moveOf 29 = .ok (.iload_n 2, 1) := by decide +kernel
theorem dX12_moveOf_30 : decode cX12_moveOf 30 = .ok (.iload_n 3, 1) := by decide +kernel
theorem dX12_moveOf_31 : decode cX12_moveOf 31 = .ok (.invokevirtual 394, 3) := by decide +kernel
theorem dX12_moveOf_34 : decode cX12_moveOf 34 = .ok (.pop, 1) := by decide +kernel
theorem dX12_moveOf_35 : decode cX12_moveOf 35 = .ok (.aload_n 0, 1) := by decide +kernel
theorem dX12_moveOf_36 : decode cX12_moveOf 36 = .ok (.getfield 75, 3) := by decide +kernel
theorem dX12_moveOf_39 : decode cX12_moveOf 39 = .ok (.iconst 0, 1) := by decide +kernel
theorem dX12_moveOf_40 : decode cX12_moveOf 40 = .ok (.iaload, 1) := by decide +kernel
theorem dX12_moveOf_41 : decode cX12_moveOf 41 = .ok (.aload_n 0, 1) := by decide +kernel
theorem dX12_moveOf_42 : decode cX12_moveOf 42 = .ok (.getfield 7, 3) := by decide +kernel
theorem dX12_moveOf_45 : decode cX12_moveOf 45 = .ok (.iconst 0, 1) := by decide +kernel
theorem dX12_moveOf_46 : decode cX12_moveOf 46 = .ok (.iaload, 1) := by decide +kernel
theorem dX12_moveOf_47 : decode cX12_moveOf 47 = .ok (.if_icmp .ne 12, 3) := by decide +kernel
theorem dX12_moveOf_50 : decode cX12_moveOf 50 = .ok (.aload_n 0, 1) := by decide +kernel
theorem dX12_moveOf_51 : decode cX12_moveOf 51 = .ok (.bipush 6, 2) := by decide +kernel
theorem dX12_moveOf_53 : decode cX12_moveOf 53 = .ok (.invokevirtual 97, 3) := by decide +kernel
theorem dX12_moveOf_56 : decode cX12_moveOf 56 = .ok (.goto 13, 3) := by decide +kernel
theorem dX12_moveOf_59 : decode cX12_moveOf 59 = .ok (.aload_n 0, 1) := by decide +kernel
theorem dX12_moveOf_60 : decode cX12_moveOf 60 = .ok (.aload_n 0, 1) := by decide +kernel
theorem dX12_moveOf_61 : decode cX12_moveOf 61 = .ok (.getfield 75, 3) := by decide +kernel
theorem dX12_moveOf_64 : decode cX12_moveOf 64 = .ok (.iconst 0, 1) := by decide +kernel
theorem dX12_moveOf_65 : decode cX12_moveOf 65 = .ok (.iaload, 1) := by decide +kernel
theorem dX12_moveOf_66 : decode cX12_moveOf 66 = .ok (.invokevirtual 101, 3) := by decide +kernel
theorem dX12_moveOf_69 : decode cX12_moveOf 69 = .ok (.ireturn, 1) := by decide +kernel
theorem dX12_copyWishes_0 : decode cX12_copyWishes 0 = .ok (.iload_n 1, 1) := by decide +kernel
theorem dX12_copyWishes_1 : decode cX12_copyWishes 1 = .ok (.invokestatic 108, 3) := by decide +kernel
theorem dX12_copyWishes_4 : decode cX12_copyWishes 4 = .ok (.ifCond .ne 9, 3) := by decide +kernel
theorem dX12_copyWishes_7 : decode cX12_copyWishes 7 = .ok (.aload_n 0, 1) := by decide +kernel
theorem dX12_copyWishes_8 : decode cX12_copyWishes 8 = .ok (.iconst 1, 1) := by decide +kernel
theorem dX12_copyWishes_9 : decode cX12_copyWishes 9 = .ok (.invokevirtual 97, 3) := by decide +kernel
theorem dX12_copyWishes_12 : decode cX12_copyWishes 12 = .ok (.ireturn, 1) := by decide +kernel
theorem dX12_copyWishes_13 : decode cX12_copyWishes 13 = .ok (.aload_n 0, 1) := by decide +kernel
theorem dX12_copyWishes_14 : decode cX12_copyWishes 14 = .ok (.getfield 24, 3) := by decide +kernel
theorem dX12_copyWishes_17 : decode cX12_copyWishes 17 = .ok (.iload_n 1, 1) := by decide +kernel
theorem dX12_copyWishes_18 : decode cX12_copyWishes 18 = .ok (.iaload, 1) := by decide +kernel
theorem dX12_copyWishes_19 : decode cX12_copyWishes 19 = .ok (.iconst (-1), 1) := by decide +kernel
theorem dX12_copyWishes_20 : decode cX12_copyWishes 20 = .ok (.if_icmp .ne 9, 3) := by decide +kernel
theorem dX12_copyWishes_23 : decode cX12_copyWishes 23 = .ok (.aload_n 0, 1) := by decide +kernel
theorem dX12_copyWishes_24 : decode cX12_copyWishes 24 = .ok (.iconst 2, 1) := by decide +kernel
theorem dX12_copyWishes_25 : decode cX12_copyWishes 25 = .ok (.invokevirtual 97, 3) := by decide +kernel
theorem dX12_copyWishes_28 : decode cX12_copyWishes 28 = .ok (.ireturn, 1) := by decide +kernel
theorem dX12_copyWishes_29 : decode cX12_copyWishes 29 = .ok (.aload_n 0, 1) := by decide +kernel
theorem dX12_copyWishes_30 : decode cX12_copyWishes 30 = .ok (.getfield 24, 3) := by decide +kernel
theorem dX12_copyWishes_33 : decode cX12_copyWishes 33 = .ok (.iload_n 1, 1) := by decide +kernel
theorem dX12_copyWishes_34 : decode cX12_copyWishes 34 = .ok (.iaload, 1) := by decide +kernel
theorem dX12_copyWishes_35 : decode cX12_copyWishes 35 = .ok (.aload_n 0, 1) := by decide +kernel
theorem dX12_copyWishes_36 : decode cX12_copyWishes 36 = .ok (.getfield 7, 3) := by decide +kernel
theorem dX12_copyWishes_39 : decode cX12_copyWishes 39 = .ok (.iconst 0, 1) := by decide +kernel
theorem dX12_copyWishes_40 : decode cX12_copyWishes 40 = .ok (.iaload, 1) := by decide +kernel
theorem dX12_copyWishes_41 : decode cX12_copyWishes 41 = .ok (.if_icmp .ge 9, 3) := by decide +kernel
theorem dX12_copyWishes_44 : decode cX12_copyWishes 44 = .ok (.aload_n 0, 1) := by decide +kernel
theorem dX12_copyWishes_45 : decode cX12_copyWishes 45 = .ok (.iconst 3, 1) := by decide +kernel
theorem dX12_copyWishes_46 : decode cX12_copyWishes 46 = .ok (.invokevirtual 97, 3) := by decide +kernel
theorem dX12_copyWishes_49 : decode cX12_copyWishes 49 = .ok (.ireturn, 1) := by decide +kernel
theorem dX12_copyWishes_50 : decode cX12_copyWishes 50 = .ok (.iconst 0, 1) := by decide +kernel
theorem dX12_copyWishes_51 : decode cX12_copyWishes 51 = .ok (.istore_n 2, 1) := by decide +kernel
theorem dX12_copyWishes_52 : decode cX12_copyWishes 52 = .ok (.iload_n 2, 1) := by decide +kernel
theorem dX12_copyWishes_53 : decode cX12_copyWishes 53 = .ok (.aload_n 0, 1) := by decide +kernel
theorem dX12_copyWishes_54 : decode cX12_copyWishes 54 = .ok (.getfield 7, 3) := by decide +kernel
theorem dX12_copyWishes_57 : decode cX12_copyWishes 57 = .ok (.iconst 0, 1) := by decide +kernel
theorem dX12_copyWishes_58 : decode cX12_copyWishes 58 = .ok (.iaload, 1) := by decide +kernel
theorem dX12_copyWishes_59 : decode cX12_copyWishes 59 = .ok (.if_icmp .ge 36, 3) := by decide +kernel
theorem dX12_copyWishes_62 : decode cX12_copyWishes 62 = .ok (.aload_n 0, 1) := by decide +kernel
theorem dX12_copyWishes_63 : decode cX12_copyWishes 63 = .ok (.getfield 27, 3) := by decide +kernel
theorem dX12_copyWishes_66 : decode cX12_copyWishes 66 = .ok (.bipush 60, 2) := by decide +kernel
theorem dX12_copyWishes_68 : decode cX12_copyWishes 68 = .ok (.iload_n 1, 1) := by decide +kernel
theorem dX12_copyWishes_69 : decode cX12_copyWishes 69 = .ok (.imul, 1) := by decide +kernel
theorem dX12_copyWishes_70 : decode cX12_copyWishes 70 = .ok (.iload_n 2, 1) := by decide +kernel
theorem dX12_copyWishes_71 : decode cX12_copyWishes 71 = .ok (.iadd, 1) := by decide +kernel
theorem dX12_copyWishes_72 : decode cX12_copyWishes 72 = .ok (.aload_n 0, 1) := by decide +kernel
theorem dX12_copyWishes_73 : decode cX12_copyWishes 73 = .ok (.iload_n 2, 1) := by decide +kernel
theorem dX12_copyWishes_74 : decode cX12_copyWishes 74 = .ok (.iconst 0, 1) := by decide +kernel
theorem dX12_copyWishes_75 : decode cX12_copyWishes 75 = .ok (.invokevirtual 269, 3) := by decide +kernel
theorem dX12_copyWishes_78 : decode cX12_copyWishes 78 = .ok (.i2l, 1) := by decide +kernel
theorem dX12_copyWishes_79 : decode cX12_copyWishes 79 = .ok (.aload_n 0, 1) := by decide +kernel
theorem dX12_copyWishes_80 : decode cX12_copyWishes 80 = .ok (.getfield 21, 3) := by decide +kernel
theorem dX12_copyWishes_83 : decode cX12_copyWishes 83 = .ok (.iload_n 1, 1) := by decide +kernel
theorem dX12_copyWishes_84 : decode cX12_copyWishes 84 = .ok (.iaload, 1) := by decide +kernel
theorem dX12_copyWishes_85 : decode cX12_copyWishes 85 = .ok (.invokestatic 115, 3) := by decide +kernel
theorem dX12_copyWishes_88 : decode cX12_copyWishes 88 = .ok (.lastore, 1) := by decide +kernel
theorem dX12_copyWishes_89 : decode cX12_copyWishes 89 = .ok (.iinc 2 1, 3) := by decide +kernel
theorem dX12_copyWishes_92 : decode cX12_copyWishes 92 = .ok (.goto (-40), 3) := by decide +kernel
theorem dX12_copyWishes_95 : decode cX12_copyWishes 95 = .ok (.aload_n 0, 1) := by decide +kernel
theorem dX12_copyWishes_96 : decode cX12_copyWishes 96 = .ok (.aload_n 0, 1) := by decide +kernel
theorem dX12_copyWishes_97 : decode cX12_copyWishes 97 = .ok (.getfield 7, 3) := by decide +kernel
theorem dX12_copyWishes_100 : decode cX12_copyWishes 100 = .ok (.iconst 0, 1) := by decide +kernel
theorem dX12_copyWishes_101 : decode cX12_copyWishes 101 = .ok (.iaload, 1) := by decide +kernel
theorem dX12_copyWishes_102 : decode cX12_copyWishes 102 = .ok (.invokevirtual 101, 3) := by decide +kernel
theorem dX12_copyWishes_105 : decode cX12_copyWishes 105 = .ok (.ireturn, 1) := by decide +kernel
theorem dX12_draw_0 : decode cX12_draw 0 = .ok (.aload_n 0, 1) := by decide +kernel
theorem dX12_draw_1 : decode cX12_draw 1 = .ok (.aload_n 0, 1) := by decide +kernel
theorem dX12_draw_2 : decode cX12_draw 2 = .ok (.getfield 397, 3) := by decide +kernel
theorem dX12_draw_5 : decode cX12_draw 5 = .ok (.sipush 3283, 3) := by decide +kernel
theorem dX12_draw_8 : decode cX12_draw 8 = .ok (.imul, 1) := by decide +kernel
theorem dX12_draw_9 : decode cX12_draw 9 = .ok (.sipush 11511, 3) := by decide +kernel
theorem dX12_draw_12 : decode cX12_draw 12 = .ok (.iadd, 1) := by decide +kernel
theorem dX12_draw_13 : decode cX12_draw 13 = .ok (.ldc_w 400, 3) := by decide +kernel
theorem dX12_draw_16 : decode cX12_draw 16 = .ok (.irem, 1) := by decide +kernel
theorem dX12_draw_17 : decode cX12_draw 17 = .ok (.putfield 397, 3) := by decide +kernel
theorem dX12_draw_20 : decode cX12_draw 20 = .ok (.aload_n 0, 1) := by decide +kernel
theorem dX12_draw_21 : decode cX12_draw 21 = .ok (.getfield 397, 3) := by decide +kernel
theorem dX12_draw_24 : decode cX12_draw 24 = .ok (.bipush 8, 2) := by decide +kernel
theorem dX12_draw_26 : decode cX12_draw 26 = .ok (.idiv, 1) := by decide +kernel
theorem dX12_draw_27 : decode cX12_draw 27 = .ok (.iload_n 1, 1) := by decide +kernel
theorem dX12_draw_28 : decode cX12_draw 28 = .ok (.irem, 1) := by decide +kernel
theorem dX12_draw_29 : decode cX12_draw 29 = .ok (.ireturn, 1) := by decide +kernel
theorem dX12_daysBy_0 : decode cX12_daysBy 0 = .ok (.aload_n 0, 1) := by decide +kernel
theorem dX12_daysBy_1 : decode cX12_daysBy 1 = .ok (.getfield 7, 3) := by decide +kernel
theorem dX12_daysBy_4 : decode cX12_daysBy 4 = .ok (.bipush 6, 2) := by decide +kernel
theorem dX12_daysBy_6 : decode cX12_daysBy 6 = .ok (.iaload, 1) := by decide +kernel
theorem dX12_daysBy_7 : decode cX12_daysBy 7 = .ok (.iload_n 1, 1) := by decide +kernel
theorem dX12_daysBy_8 : decode cX12_daysBy 8 = .ok (.iadd, 1) := by decide +kernel
theorem dX12_daysBy_9 : decode cX12_daysBy 9 = .ok (.sipush 9999, 3) := by decide +kernel
theorem dX12_daysBy_12 : decode cX12_daysBy 12 = .ok (.if_icmp .le 5, 3) := by decide +kernel
theorem dX12_daysBy_15 : decode cX12_daysBy 15 = .ok (.iconst 0, 1) := by decide +kernel
theorem dX12_daysBy_16 : decode cX12_daysBy 16 = .ok (.ireturn, 1) := by decide +kernel
theorem dX12_daysBy_17 : decode cX12_daysBy 17 = .ok (.iconst 0, 1) := by decide +kernel
theorem dX12_daysBy_18 : decode cX12_daysBy 18 = .ok (.istore_n 2, 1) := by decide +kernel
theorem dX12_daysBy_19 : decode cX12_daysBy 19 = .ok (.iload_n 2, 1) := by decide +kernel
theorem dX12_daysBy_20 : decode cX12_daysBy 20 = .ok (.iload_n 1, 1) := by decide +kernel
theorem dX12_daysBy_21 : decode cX12_daysBy 21 = .ok (.if_icmp .ge 60, 3) := by decide +kernel
theorem dX12_daysBy_24 : decode cX12_daysBy 24 = .ok (.aload_n 0, 1) := by decide +kernel
theorem dX12_daysBy_25 : decode cX12_daysBy 25 = .ok (.invokevirtual 302, 3) := by decide +kernel
theorem dX12_daysBy_28 : decode cX12_daysBy 28 = .ok (.istore_n 3, 1) := by decide +kernel
theorem dX12_daysBy_29 : decode cX12_daysBy 29 = .ok (.aload_n 0, 1) := by decide +kernel
theorem dX12_daysBy_30 : decode cX12_daysBy 30 = .ok (.getfield 81, 3) := by decide +kernel
theorem dX12_daysBy_33 : decode cX12_daysBy 33 = .ok (.iconst 2, 1) := by decide +kernel
theorem dX12_daysBy_34 : decode cX12_daysBy 34 = .ok (.dup2, 1) := by decide +kernel
theorem dX12_daysBy_35 : decode cX12_daysBy 35 = .ok (.iaload, 1) := by decide +kernel
theorem dX12_daysBy_36 : decode cX12_daysBy 36 = .ok (.iload_n 3, 1) := by decide +kernel
theorem dX12_daysBy_37 : decode cX12_daysBy 37 = .ok (.iconst (-1), 1) := by decide +kernel
theorem dX12_daysBy_38 : decode cX12_daysBy 38 = .ok (.if_icmp .ne 7, 3) := by decide +kernel
theorem dX12_daysBy_41 : decode cX12_daysBy 41 = .ok (.iconst 0, 1) := by decide +kernel
theorem dX12_daysBy_42 : decode cX12_daysBy 42 = .ok (.goto 4, 3) := by decide +kernel
theorem dX12_daysBy_45 : decode cX12_daysBy 45 = .ok (.iconst 1, 1) := by decide +kernel
theorem dX12_daysBy_46 : decode cX12_daysBy 46 = .ok (.iadd, 1) := by decide +kernel
theorem dX12_daysBy_47 : decode cX12_daysBy 47 = .ok (.iastore, 1) := by decide +kernel
theorem dX12_daysBy_48 : decode cX12_daysBy 48 = .ok (.aload_n 0, 1) := by decide +kernel
theorem dX12_daysBy_49 : decode cX12_daysBy 49 = .ok (.getfield 81, 3) := by decide +kernel
theorem dX12_daysBy_52 : decode cX12_daysBy 52 = .ok (.iconst 3, 1) := by decide +kernel
theorem dX12_daysBy_53 : decode cX12_daysBy 53 = .ok (.dup2, 1) := by decide +kernel
theorem dX12_daysBy_54 : decode cX12_daysBy 54 = .ok (.iaload, 1) := by decide +kernel
theorem dX12_daysBy_55 : decode cX12_daysBy 55 = .ok (.iload_n 3, 1) := by decide +kernel
theorem dX12_daysBy_56 : decode cX12_daysBy 56 = .ok (.iconst (-1), 1) := by decide +kernel
theorem dX12_daysBy_57 : decode cX12_daysBy 57 = .ok (.if_icmp .eq 15, 3) := by decide +kernel
theorem dX12_daysBy_60 : decode cX12_daysBy 60 = .ok (.aload_n 0, 1) := by decide +kernel
theorem dX12_daysBy_61 : decode cX12_daysBy 61 = .ok (.iload_n 3, 1) := by decide +kernel
theorem dX12_daysBy_62 : decode cX12_daysBy 62 = .ok (.invokevirtual 272, 3) := by decide +kernel
theorem dX12_daysBy_65 : decode cX12_daysBy 65 = .ok (.ifCond .ne 7, 3) := by decide +kernel
theorem dX12_daysBy_68 : decode cX12_daysBy 68 = .ok (.iconst 1, 1) := by decide +kernel
theorem dX12_daysBy_69 : decode cX12_daysBy 69 = .ok (.goto 4, 3) := by decide +kernel
theorem dX12_daysBy_72 : decode cX12_daysBy 72 = .ok (.iconst 0, 1) := by decide +kernel
theorem dX12_daysBy_73 : decode cX12_daysBy 73 = .ok (.iadd, 1) := by decide +kernel
theorem dX12_daysBy_74 : decode cX12_daysBy 74 = .ok (.iastore, 1) := by decide +kernel
theorem dX12_daysBy_75 : decode cX12_daysBy 75 = .ok (.iinc 2 1, 3) := by decide +kernel
theorem dX12_daysBy_78 : decode cX12_daysBy 78 = .ok (.goto (-59), 3) := by decide +kernel
theorem dX12_daysBy_81 : decode cX12_daysBy 81 = .ok (.aload_n 0, 1) := by decide +kernel
theorem dX12_daysBy_82 : decode cX12_daysBy 82 = .ok (.getfield 81, 3) := by decide +kernel
theorem dX12_daysBy_85 : decode cX12_daysBy 85 = .ok (.iconst 1, 1) := by decide +kernel
theorem dX12_daysBy_86 : decode cX12_daysBy 86 = .ok (.dup2, 1) := by decide +kernel
theorem dX12_daysBy_87 : decode cX12_daysBy 87 = .ok (.iaload, 1) := by decide +kernel
theorem dX12_daysBy_88 : decode cX12_daysBy 88 = .ok (.iload_n 1, 1) := by decide +kernel
theorem dX12_daysBy_89 : decode cX12_daysBy 89 = .ok (.iadd, 1) := by decide +kernel
theorem dX12_daysBy_90 : decode cX12_daysBy 90 = .ok (.iastore, 1) := by decide +kernel
theorem dX12_daysBy_91 : decode cX12_daysBy 91 = .ok (.iconst 1, 1) := by decide +kernel
theorem dX12_daysBy_92 : decode cX12_daysBy 92 = .ok (.ireturn, 1) := by decide +kernel
theorem dX12_cutsBy_0 : decode cX12_cutsBy 0 = .ok (.aload_n 0, 1) := by decide +kernel
theorem dX12_cutsBy_1 : decode cX12_cutsBy 1 = .ok (.iload_n 1, 1) := by decide +kernel
theorem dX12_cutsBy_2 : decode cX12_cutsBy 2 = .ok (.invokevirtual 314, 3) := by decide +kernel
theorem dX12_cutsBy_5 : decode cX12_cutsBy 5 = .ok (.ifCond .ne 5, 3) := by decide +kernel
theorem dX12_cutsBy_8 : decode cX12_cutsBy 8 = .ok (.iconst 0, 1) := by decide +kernel
theorem dX12_cutsBy_9 : decode cX12_cutsBy 9 = .ok (.ireturn, 1) := by decide +kernel
theorem dX12_cutsBy_10 : decode cX12_cutsBy 10 = .ok (.aload_n 0, 1) := by decide +kernel
theorem dX12_cutsBy_11 : decode cX12_cutsBy 11 = .ok (.getfield 81, 3) := by decide +kernel
theorem dX12_cutsBy_14 : decode cX12_cutsBy 14 = .ok (.iconst 2, 1) := by decide +kernel
theorem dX12_cutsBy_15 : decode cX12_cutsBy 15 = .ok (.dup2, 1) := by decide +kernel
theorem dX12_cutsBy_16 : decode cX12_cutsBy 16 = .ok (.iaload, 1) := by decide +kernel
theorem dX12_cutsBy_17 : decode cX12_cutsBy 17 = .ok (.iconst 1, 1) := by decide +kernel
theorem dX12_cutsBy_18 : decode cX12_cutsBy 18 = .ok (.iadd, 1) := by decide +kernel
theorem dX12_cutsBy_19 : decode cX12_cutsBy 19 = .ok (.iastore, 1) := by decide +kernel
theorem dX12_cutsBy_20 : decode cX12_cutsBy 20 = .ok (.aload_n 0, 1) := by decide +kernel
theorem dX12_cutsBy_21 : decode cX12_cutsBy 21 = .ok (.getfield 81, 3) := by decide +kernel
theorem dX12_cutsBy_24 : decode cX12_cutsBy 24 = .ok (.iconst 3, 1) := by decide +kernel
theorem dX12_cutsBy_25 : decode cX12_cutsBy 25 = .ok (.dup2, 1) := by decide +kernel
theorem dX12_cutsBy_26 : decode cX12_cutsBy 26 = .ok (.iaload, 1) := by decide +kernel
theorem dX12_cutsBy_27 : decode cX12_cutsBy 27 = .ok (.aload_n 0, 1) := by decide +kernel
theorem dX12_cutsBy_28 : decode cX12_cutsBy 28 = .ok (.iload_n 1, 1) := by decide +kernel
theorem dX12_cutsBy_29 : decode cX12_cutsBy 29 = .ok (.invokevirtual 296, 3) := by decide +kernel
theorem dX12_cutsBy_32 : decode cX12_cutsBy 32 = .ok (.iadd, 1) := by decide +kernel
theorem dX12_cutsBy_33 : decode cX12_cutsBy 33 = .ok (.iastore, 1) := by decide +kernel
theorem dX12_cutsBy_34 : decode cX12_cutsBy 34 = .ok (.iconst 1, 1) := by decide +kernel
theorem dX12_cutsBy_35 : decode cX12_cutsBy 35 = .ok (.ireturn, 1) := by decide +kernel
theorem dX12_bakes_0 : decode cX12_bakes 0 = .ok (.aload_n 0, 1) := by decide +kernel
theorem dX12_bakes_1 : decode cX12_bakes 1 = .ok (.getfield 7, 3) := by decide +kernel
theorem dX12_bakes_4 : decode cX12_bakes 4 = .ok (.iconst 4, 1) := by decide +kernel
theorem dX12_bakes_5 : decode cX12_bakes 5 = .ok (.iaload, 1) := by decide +kernel
theorem dX12_bakes_6 : decode cX12_bakes 6 = .ok (.iload_n 1, 1) := by decide +kernel
theorem dX12_bakes_7 : decode cX12_bakes 7 = .ok (.if_icmp .eq 7, 3) := by decide +kernel
theorem dX12_bakes_10 : decode cX12_bakes 10 = .ok (.iconst 1, 1) := by decide +kernel
theorem dX12_bakes_11 : decode cX12_bakes 11 = .ok (.goto 4, 3) := by decide +kernel
theorem dX12_bakes_14 : decode cX12_bakes 14 = .ok (.iconst 0, 1) := by decide +kernel
theorem dX12_bakes_15 : decode cX12_bakes 15 = .ok (.istore_n 2, 1) := by decide +kernel
theorem dX12_bakes_16 : decode cX12_bakes 16 = .ok (.aload_n 0, 1) := by decide +kernel
theorem dX12_bakes_17 : decode cX12_bakes 17 = .ok (.getfield 7, 3) := by decide +kernel
theorem dX12_bakes_20 : decode cX12_bakes 20 = .ok (.iconst 4, 1) := by decide +kernel
theorem dX12_bakes_21 : decode cX12_bakes 21 = .ok (.iload_n 1, 1) := by decide +kernel
theorem dX12_bakes_22 : decode cX12_bakes 22 = .ok (.iastore, 1) := by decide +kernel
theorem dX12_bakes_23 : decode cX12_bakes 23 = .ok (.iload_n 2, 1) := by decide +kernel
theorem dX12_bakes_24 : decode cX12_bakes 24 = .ok (.ireturn, 1) := by decide +kernel
theorem dX12_doesAny_0 : decode cX12_doesAny 0 = .ok (.aload_n 0, 1) := by decide +kernel
theorem dX12_doesAny_1 : decode cX12_doesAny 1 = .ok (.getfield 7, 3) := by decide +kernel
theorem dX12_doesAny_4 : decode cX12_doesAny 4 = .ok (.iconst 0, 1) := by decide +kernel
theorem dX12_doesAny_5 : decode cX12_doesAny 5 = .ok (.iaload, 1) := by decide +kernel
theorem dX12_doesAny_6 : decode cX12_doesAny 6 = .ok (.ifCond .ne 5, 3) := by decide +kernel
theorem dX12_doesAny_9 : decode cX12_doesAny 9 = .ok (.iconst 0, 1) := by decide +kernel
theorem dX12_doesAny_10 : decode cX12_doesAny 10 = .ok (.ireturn, 1) := by decide +kernel
theorem dX12_doesAny_11 : decode cX12_doesAny 11 = .ok (.aload_n 0, 1) := by decide +kernel
theorem dX12_doesAny_12 : decode cX12_doesAny 12 = .ok (.aload_n 0, 1) := by decide +kernel
theorem dX12_doesAny_13 : decode cX12_doesAny 13 = .ok (.getfield 7, 3) := by decide +kernel
theorem dX12_doesAny_16 : decode cX12_doesAny 16 = .ok (.iconst 0, 1) := by decide +kernel
theorem dX12_doesAny_17 : decode cX12_doesAny 17 = .ok (.iaload, 1) := by decide +kernel
theorem dX12_doesAny_18 : decode cX12_doesAny 18 = .ok (.invokevirtual 401, 3) := by decide +kernel
theorem dX12_doesAny_21 : decode cX12_doesAny 21 = .ok (.istore_n 1, 1) := by decide +kernel
theorem dX12_doesAny_22 : decode cX12_doesAny 22 = .ok (.aload_n 0, 1) := by decide +kernel
theorem dX12_doesAny_23 : decode cX12_doesAny 23 = .ok (.bipush 16, 2) := by decide +kernel
theorem dX12_doesAny_25 : decode cX12_doesAny 25 = .ok (.invokevirtual 401, 3) := by decide +kernel
theorem dX12_doesAny_28 : decode cX12_doesAny 28 = .ok (.aload_n 0, 1) := by decide +kernel
theorem dX12_doesAny_29 : decode cX12_doesAny 29 = .ok (.getfield 7, 3) := by decide +kernel
theorem dX12_doesAny_32 : decode cX12_doesAny 32 = .ok (.iconst 1, 1) := by decide +kernel
theorem dX12_doesAny_33 : decode cX12_doesAny 33 = .ok (.iaload, 1) := by decide +kernel
theorem dX12_doesAny_34 : decode cX12_doesAny 34 = .ok (.if_icmp .lt 9, 3) := by decide +kernel
theorem dX12_doesAny_37 : decode cX12_doesAny 37 = .ok (.aload_n 0, 1) := by decide +kernel
theorem dX12_doesAny_38 : decode cX12_doesAny 38 = .ok (.iconst 1, 1) := by decide +kernel
theorem dX12_doesAny_39 : decode cX12_doesAny 39 = .ok (.invokevirtual 404, 3) := by decide +kernel
theorem dX12_doesAny_42 : decode cX12_doesAny 42 = .ok (.ireturn, 1) := by decide +kernel
theorem dX12_doesAny_43 : decode cX12_doesAny 43 = .ok (.aload_n 0, 1) := by decide +kernel
theorem dX12_doesAny_44 : decode cX12_doesAny 44 = .ok (.iload_n 1, 1) := by decide +kernel
theorem dX12_doesAny_45 : decode cX12_doesAny 45 = .ok (.invokevirtual 272, 3) := by decide +kernel
theorem dX12_doesAny_48 : decode cX12_doesAny 48 = .ok (.ifCond .eq 14, 3) := by decide +kernel
theorem dX12_doesAny_51 : decode cX12_doesAny 51 = .ok (.aload_n 0, 1) := by decide +kernel
theorem dX12_doesAny_52 : decode cX12_doesAny 52 = .ok (.iload_n 1, 1) := by decide +kernel
theorem dX12_doesAny_53 : decode cX12_doesAny 53 = .ok (.iconst 0, 1) := by decide +kernel
theorem dX12_doesAny_54 : decode cX12_doesAny 54 = .ok (.invokevirtual 269, 3) := by decide +kernel
theorem dX12_doesAny_57 : decode cX12_doesAny 57 = .ok (.bipush 20, 2) := by decide +kernel
theorem dX12_doesAny_59 : decode cX12_doesAny 59 = .ok (.if_icmp .ne 5, 3) := by decide +kernel
theorem dX12_doesAny_62 : decode cX12_doesAny 62 = .ok (.iconst 0, 1) := by decide +kernel
theorem dX12_doesAny_63 : decode cX12_doesAny 63 = .ok (.ireturn, 1) := by decide +kernel
theorem dX12_doesAny_64 : decode cX12_doesAny 64 = .ok (.aload_n 0, 1) := by decide +kernel
theorem dX12_doesAny_65 : decode cX12_doesAny 65 = .ok (.getfield 7, 3) := by decide +kernel
theorem dX12_doesAny_68 : decode cX12_doesAny 68 = .ok (.iload_n 1, 1) := by decide +kernel
theorem dX12_doesAny_69 : decode cX12_doesAny 69 = .ok (.invokestatic 192, 3) := by decide +kernel
theorem dX12_doesAny_72 : decode cX12_doesAny 72 = .ok (.dup2, 1) := by decide +kernel
theorem dX12_doesAny_73 : decode cX12_doesAny 73 = .ok (.iaload, 1) := by decide +kernel
theorem dX12_doesAny_74 : decode cX12_doesAny 74 = .ok (.iconst 1, 1) := by decide +kernel
theorem dX12_doesAny_75 : decode cX12_doesAny 75 = .ok (.iadd, 1) := by decide +kernel
theorem dX12_doesAny_76 : decode cX12_doesAny 76 = .ok (.iastore, 1) := by decide +kernel
theorem dX12_doesAny_77 : decode cX12_doesAny 77 = .ok (.iconst 1, 1) := by decide +kernel
theorem dX12_doesAny_78 : decode cX12_doesAny 78 = .ok (.ireturn, 1) := by decide +kernel
theorem dX12_does_0 : decode cX12_does 0 = .ok (.aload_n 0, 1) := by decide +kernel
theorem dX12_does_1 : decode cX12_does 1 = .ok (.getfield 7, 3) := by decide +kernel
theorem dX12_does_4 : decode cX12_does 4 = .ok (.iload_n 1, 1) := by decide +kernel
theorem dX12_does_5 : decode cX12_does 5 = .ok (.iconst 1, 1) := by decide +kernel
theorem dX12_does_6 : decode cX12_does 6 = .ok (.iadd, 1) := by decide +kernel
theorem dX12_does_7 : decode cX12_does 7 = .ok (.iaload, 1) := by decide +kernel
theorem dX12_does_8 : decode cX12_does 8 = .ok (.istore_n 2, 1) := by decide +kernel
theorem dX12_does_9 : decode cX12_does 9 = .ok (.aload_n 0, 1) := by decide +kernel
theorem dX12_does_10 : decode cX12_does 10 = .ok (.getfield 7, 3) := by decide +kernel
theorem dX12_does_13 : decode cX12_does 13 = .ok (.iload_n 1, 1) := by decide +kernel
theorem dX12_does_14 : decode cX12_does 14 = .ok (.iaload, 1) := by decide +kernel
theorem dX12_does_15 : decode cX12_does 15 = .ok (.tableswitch 96 6 15 #[65, 96, 96, 96, 96, 53, 59, 79, 85, 91], 53) := by decide +kernel
theorem dX12_does_68 : decode cX12_does 68 = .ok (.aload_n 0, 1) := by decide +kernel
theorem dX12_does_69 : decode cX12_does 69 = .ok (.iload_n 2, 1) := by decide +kernel
theorem dX12_does_70 : decode cX12_does 70 = .ok (.invokevirtual 404, 3) := by decide +kernel
theorem dX12_does_73 : decode cX12_does 73 = .ok (.ireturn, 1) := by decide +kernel
theorem dX12_does_74 : decode cX12_does 74 = .ok (.aload_n 0, 1) := by decide +kernel
theorem dX12_does_75 : decode cX12_does 75 = .ok (.iload_n 2, 1) := by decide +kernel
theorem dX12_does_76 : decode cX12_does 76 = .ok (.invokevirtual 407, 3) := by decide +kernel
theorem dX12_does_79 : decode cX12_does 79 = .ok (.ireturn, 1) := by decide +kernel
theorem dX12_does_80 : decode cX12_does 80 = .ok (.aload_n 0, 1) := by decide +kernel
theorem dX12_does_81 : decode cX12_does 81 = .ok (.iload_n 2, 1) := by decide +kernel
theorem dX12_does_82 : decode cX12_does 82 = .ok (.aload_n 0, 1) := by decide +kernel
theorem dX12_does_83 : decode cX12_does 83 = .ok (.getfield 7, 3) := by decide +kernel
theorem dX12_does_86 : decode cX12_does 86 = .ok (.iload_n 1, 1) := by decide +kernel
theorem dX12_does_87 : decode cX12_does 87 = .ok (.iconst 2, 1) := by decide +kernel
theorem dX12_does_88 : decode cX12_does 88 = .ok (.iadd, 1) := by decide +kernel
theorem dX12_does_89 : decode cX12_does 89 = .ok (.iaload, 1) := by decide +kernel
theorem dX12_does_90 : decode cX12_does 90 = .ok (.invokevirtual 320, 3) := by decide +kernel
theorem dX12_does_93 : decode cX12_does 93 = .ok (.ireturn, 1) := by decide +kernel
theorem dX12_does_94 : decode cX12_does 94 = .ok (.aload_n 0, 1) := by decide +kernel
theorem dX12_does_95 : decode cX12_does 95 = .ok (.iload_n 2, 1) := by decide +kernel
theorem dX12_does_96 : decode cX12_does 96 = .ok (.invokevirtual 323, 3) := by decide +kernel
theorem dX12_does_99 : decode cX12_does 99 = .ok (.ireturn, 1) := by decide +kernel
theorem dX12_does_100 : decode cX12_does 100 = .ok (.aload_n 0, 1) := by decide +kernel
theorem dX12_does_101 : decode cX12_does 101 = .ok (.iload_n 2, 1) := by decide +kernel
theorem dX12_does_102 : decode cX12_does 102 = .ok (.invokevirtual 410, 3) := by decide +kernel
theorem dX12_does_105 : decode cX12_does 105 = .ok (.ireturn, 1) := by decide +kernel
theorem dX12_does_106 : decode cX12_does 106 = .ok (.aload_n 0, 1) := by decide +kernel
theorem dX12_does_107 : decode cX12_does 107 = .ok (.invokevirtual 413, 3) := by decide +kernel
theorem dX12_does_110 : decode cX12_does 110 = .ok (.ireturn, 1) := by decide +kernel
theorem dX12_does_111 : decode cX12_does 111 = .ok (.iconst 1, 1) := by decide +kernel
theorem dX12_does_112 : decode cX12_does 112 = .ok (.ireturn, 1) := by decide +kernel
theorem dX12_holds_0 : decode cX12_holds 0 = .ok (.aload_n 0, 1) := by decide +kernel
theorem dX12_holds_1 : decode cX12_holds 1 = .ok (.getfield 7, 3) := by decide +kernel
theorem dX12_holds_4 : decode cX12_holds 4 = .ok (.iload_n 1, 1) := by decide +kernel
theorem dX12_holds_5 : decode cX12_holds 5 = .ok (.iaload, 1) := by decide +kernel
theorem dX12_holds_6 : decode cX12_holds 6 = .ok (.sipush 1600, 3) := by decide +kernel
theorem dX12_holds_9 : decode cX12_holds 9 = .ok (.isub, 1) := by decide +kernel
theorem dX12_holds_10 : decode cX12_holds 10 = .ok (.istore_n 2, 1) := by decide +kernel
theorem dX12_holds_11 : decode cX12_holds 11 = .ok (.aload_n 0, 1) := by decide +kernel
theorem dX12_holds_12 : decode cX12_holds 12 = .ok (.getfield 7, 3) := by decide +kernel
theorem dX12_holds_15 : decode cX12_holds 15 = .ok (.iload_n 1, 1) := by decide +kernel
theorem dX12_holds_16 : decode cX12_holds 16 = .ok (.iconst 1, 1) := by decide +kernel
theorem dX12_holds_17 : decode cX12_holds 17 = .ok (.iadd, 1) := by decide +kernel
theorem dX12_holds_18 : decode cX12_holds 18 = .ok (.iaload, 1) := by decide +kernel
theorem dX12_holds_19 : decode cX12_holds 19 = .ok (.istore_n 3, 1) := by decide +kernel
theorem dX12_holds_20 : decode cX12_holds 20 = .ok (.iload_n 2, 1) := by decide +kernel
theorem dX12_holds_21 : decode cX12_holds 21 = .ok (.bipush 20, 2) := by decide +kernel
theorem dX12_holds_23 : decode cX12_holds 23 = .ok (.if_icmp .ne 9, 3) := by decide +kernel
theorem dX12_holds_26 : decode cX12_holds 26 = .ok (.aload_n 0, 1) := by decide +kernel
theorem dX12_holds_27 : decode cX12_holds 27 = .ok (.iload_n 3, 1) := by decide +kernel
theorem dX12_holds_28 : decode cX12_holds 28 = .ok (.invokevirtual 272, 3) := by decide +kernel
theorem dX12_holds_31 : decode cX12_holds 31 = .ok (.ireturn, 1) := by decide +kernel
theorem dX12_holds_32 : decode cX12_holds 32 = .ok (.iload_n 2, 1) := by decide +kernel
theorem dX12_holds_33 : decode cX12_holds 33 = .ok (.bipush 21, 2) := by decide +kernel
theorem dX12_holds_35 : decode cX12_holds 35 = .ok (.if_icmp .ne 13, 3) := by decide +kernel
theorem dX12_holds_38 : decode cX12_holds 38 = .ok (.aload_n 0, 1) := by decide +kernel
theorem dX12_holds_39 : decode cX12_holds 39 = .ok (.aload_n 0, 1) := by decide +kernel
theorem dX12_holds_40 : decode cX12_holds 40 = .ok (.invokevirtual 278, 3) := by decide +kernel
theorem dX12_holds_43 : decode cX12_holds 43 = .ok (.iload_n 3, 1) := by decide +kernel
theorem dX12_holds_44 : decode cX12_holds 44 = .ok (.invokevirtual 233, 3) := by decide +kernel
theorem dX12_holds_47 : decode cX12_holds 47 = .ok (.ireturn, 1) := by decide +kernel
theorem dX12_holds_48 : decode cX12_holds 48 = .ok (.iload_n 2, 1) := by decide +kernel
theorem dX12_holds_49 : decode cX12_holds 49 = .ok (.bipush 22, 2) := by decide +kernel
theorem dX12_holds_51 : decode cX12_holds 51 = .ok (.if_icmp .ne 12, 3) := by decide +kernel
theorem dX12_holds_54 : decode cX12_holds 54 = .ok (.aload_n 0, 1) := by decide +kernel
theorem dX12_holds_55 : decode cX12_holds 55 = .ok (.getfield 7, 3) := by decide +kernel
theorem dX12_holds_58 : decode cX12_holds 58 = .ok (.iconst 5, 1) := by decide +kernel
theorem dX12_holds_59 : decode cX12_holds 59 = .ok (.iaload, 1) := by decide +kernel
theorem dX12_holds_60 : decode cX12_holds 60 = .ok (.goto 9, 3) := by decide +kernel
theorem dX12_holds_63 : decode cX12_holds 63 = .ok (.aload_n 0, 1) := by decide +kernel
theorem dX12_holds_64 : decode cX12_holds 64 = .ok (.iload_n 3, 1) := by decide +kernel
theorem dX12_holds_65 : decode cX12_holds 65 = .ok (.iconst 0, 1) := by decide +kernel
theorem dX12_holds_66 : decode cX12_holds 66 = .ok (.invokevirtual 269, 3) := by decide +kernel
theorem dX12_holds_69 : decode cX12_holds 69 = .ok (.istore 4, 2) := by decide +kernel
theorem dX12_holds_71 : decode cX12_holds 71 = .ok (.aload_n 0, 1) := by decide +kernel
theorem dX12_holds_72 : decode cX12_holds 72 = .ok (.getfield 7, 3) := by decide +kernel
theorem dX12_holds_75 : decode cX12_holds 75 = .ok (.iload_n 1, 1) := by decide +kernel
theorem dX12_holds_76 : decode cX12_holds 76 = .ok (.iconst 5, 1) := by decide +kernel
theorem dX12_holds_77 : decode cX12_holds 77 = .ok (.iadd, 1) := by decide +kernel
theorem dX12_holds_78 : decode cX12_holds 78 = .ok (.iaload, 1) := by decide +kernel
theorem dX12_holds_79 : decode cX12_holds 79 = .ok (.bipush 60, 2) := by decide +kernel
theorem dX12_holds_81 : decode cX12_holds 81 = .ok (.if_icmp .ne 24, 3) := by decide +kernel
theorem dX12_holds_84 : decode cX12_holds 84 = .ok (.iload 4, 2) := by decide +kernel
theorem dX12_holds_86 : decode cX12_holds 86 = .ok (.aload_n 0, 1) := by decide +kernel
theorem dX12_holds_87 : decode cX12_holds 87 = .ok (.getfield 7, 3) := by decide +kernel
theorem dX12_holds_90 : decode cX12_holds 90 = .ok (.iload_n 1, 1) := by decide +kernel
theorem dX12_holds_91 : decode cX12_holds 91 = .ok (.iconst 2, 1) := by decide +kernel
theorem dX12_holds_92 : decode cX12_holds 92 = .ok (.iadd, 1) := by decide +kernel
theorem dX12_holds_93 : decode cX12_holds 93 = .ok (.iaload, 1) := by decide +kernel
theorem dX12_holds_94 : decode cX12_holds 94 = .ok (.if_icmp .ge 7, 3) := by decide +kernel
theorem dX12_holds_97 : decode cX12_holds 97 = .ok (.iconst 1, 1) := by decide +kernel
theorem dX12_holds_98 : decode cX12_holds 98 = .ok (.goto 59, 3) := by decide +kernel
theorem dX12_holds_101 : decode cX12_holds 101 = .ok (.iconst 0, 1) := by decide +kernel
theorem dX12_holds_102 : decode cX12_holds 102 = .ok (.goto 55, 3) := by decide +kernel
theorem dX12_holds_105 : decode cX12_holds 105 = .ok (.aload_n 0, 1) := by decide +kernel
theorem dX12_holds_106 : decode cX12_holds 106 = .ok (.getfield 7, 3) := by decide +kernel
theorem dX12_holds_109 : decode cX12_holds 109 = .ok (.iload_n 1, 1) := by decide +kernel
theorem dX12_holds_110 : decode cX12_holds 110 = .ok (.iconst 5, 1) := by decide +kernel
theorem dX12_holds_111 : decode cX12_holds 111 = .ok (.iadd, 1) := by decide +kernel
theorem dX12_holds_112 : decode cX12_holds 112 = .ok (.iaload, 1) := by decide +kernel
theorem dX12_holds_113 : decode cX12_holds 113 = .ok (.bipush 62, 2) := by decide +kernel
theorem dX12_holds_115 : decode cX12_holds 115 = .ok (.if_icmp .ne 24, 3) := by decide +kernel
theorem dX12_holds_118 : decode cX12_holds 118 = .ok (.iload 4, 2) := by decide +kernel
theorem dX12_holds_120 : decode cX12_holds 120 = .ok (.aload_n 0, 1) := by decide +kernel
theorem dX12_holds_121 : decode cX12_holds 121 = .ok (.getfield 7, 3) := by decide +kernel
theorem dX12_holds_124 : decode cX12_holds 124 = .ok (.iload_n 1, 1) := by decide +kernel
theorem dX12_holds_125 : decode cX12_holds 125 = .ok (.iconst 2, 1) := by decide +kernel
theorem dX12_holds_126 : decode cX12_holds 126 = .ok (.iadd, 1) := by decide +kernel
theorem dX12_holds_127 : decode cX12_holds 127 = .ok (.iaload, 1) := by decide +kernel
theorem dX12_holds_128 : decode cX12_holds 128 = .ok (.if_icmp .le 7, 3) := by decide +kernel
theorem dX12_holds_131 : decode cX12_holds 131 = .ok (.iconst 1, 1) := by decide +kernel
theorem dX12_holds_132 : decode cX12_holds 132 = .ok (.goto 25, 3) := by decide +kernel
theorem dX12_holds_135 : decode cX12_holds 135 = .ok (.iconst 0, 1) := by decide +kernel
theorem dX12_holds_136 : decode cX12_holds 136 = .ok (.goto 21, 3) := by decide +kernel
theorem dX12_holds_139 : decode cX12_holds 139 = .ok (.iload 4, 2) := by decide +kernel
theorem dX12_holds_141 : decode cX12_holds 141 = .ok (.aload_n 0, 1) := by decide +kernel
theorem dX12_holds_142 : decode cX12_holds 142 = .ok (.getfield 7, 3) := by decide +kernel
theorem dX12_holds_145 : decode cX12_holds 145 = .ok (.iload_n 1, 1) := by decide +kernel
theorem dX12_holds_146 : decode cX12_holds 146 = .ok (.iconst 2, 1) := by decide +kernel
theorem dX12_holds_147 : decode cX12_holds 147 = .ok (.iadd, 1) := by decide +kernel
theorem dX12_holds_148 : decode cX12_holds 148 = .ok (.iaload, 1) := by decide +kernel
theorem dX12_holds_149 : decode cX12_holds 149 = .ok (.if_icmp .ne 7, 3) := by decide +kernel
theorem dX12_holds_152 : decode cX12_holds 152 = .ok (.iconst 1, 1) := by decide +kernel
theorem dX12_holds_153 : decode cX12_holds 153 = .ok (.goto 4, 3) := by decide +kernel
theorem dX12_holds_156 : decode cX12_holds 156 = .ok (.iconst 0, 1) := by decide +kernel
theorem dX12_holds_157 : decode cX12_holds 157 = .ok (.ireturn, 1) := by decide +kernel
theorem dX12_behindEnds_0 : decode cX12_behindEnds 0 = .ok (.iload_n 1, 1) := by decide +kernel
theorem dX12_behindEnds_1 : decode cX12_behindEnds 1 = .ok (.istore_n 2, 1) := by decide +kernel
theorem dX12_behindEnds_2 : decode cX12_behindEnds 2 = .ok (.iload_n 2, 1) := by decide +kernel
theorem dX12_behindEnds_3 : decode cX12_behindEnds 3 = .ok (.aload_n 0, 1) := by decide +kernel
theorem dX12_behindEnds_4 : decode cX12_behindEnds 4 = .ok (.getfield 7, 3) := by decide +kernel
theorem dX12_behindEnds_7 : decode cX12_behindEnds 7 = .ok (.bipush 8, 2) := by decide +kernel
theorem dX12_behindEnds_9 : decode cX12_behindEnds 9 = .ok (.iaload, 1) := by decide +kernel
theorem dX12_behindEnds_10 : decode cX12_behindEnds 10 = .ok (.if_icmp .ge 105, 3) := by decide +kernel
theorem dX12_behindEnds_13 : decode cX12_behindEnds 13 = .ok (.aload_n 0, 1) := by decide +kernel
theorem dX12_behindEnds_14 : decode cX12_behindEnds 14 = .ok (.getfield 7, 3) := by decide +kernel
theorem dX12_behindEnds_17 : decode cX12_behindEnds 17 = .ok (.bipush 60, 2) := by decide +kernel
theorem dX12_behindEnds_19 : decode cX12_behindEnds 19 = .ok (.bipush 6, 2) := by decide +kernel
theorem dX12_behindEnds_21 : decode cX12_behindEnds 21 = .ok (.iload_n 2, 1) := by decide +kernel
theorem dX12_behindEnds_22 : decode cX12_behindEnds 22 = .ok (.imul, 1) := by decide +kernel
theorem dX12_behindEnds_23 : decode cX12_behindEnds 23 = .ok (.iadd, 1) := by decide +kernel
theorem dX12_behindEnds_24 : decode cX12_behindEnds 24 = .ok (.iaload, 1) := by decide +kernel
theorem dX12_behindEnds_25 : decode cX12_behindEnds 25 = .ok (.bipush 18, 2) := by decide +kernel
theorem dX12_behindEnds_27 : decode cX12_behindEnds 27 = .ok (.if_icmp .ne 88, 3) := by decide +kernel
theorem dX12_behindEnds_30 : decode cX12_behindEnds 30 = .ok (.aload_n 0, 1) := by decide +kernel
theorem dX12_behindEnds_31 : decode cX12_behindEnds 31 = .ok (.getfield 7, 3) := by decide +kernel
theorem dX12_behindEnds_34 : decode cX12_behindEnds 34 = .ok (.bipush 60, 2) := by decide +kernel
theorem dX12_behindEnds_36 : decode cX12_behindEnds 36 = .ok (.bipush 6, 2) := by decide +kernel
theorem dX12_behindEnds_38 : decode cX12_behindEnds 38 = .ok (.iload_n 2, 1) := by decide +kernel
theorem dX12_behindEnds_39 : decode cX12_behindEnds 39 = .ok (.imul, 1) := by decide +kernel
theorem dX12_behindEnds_40 : decode cX12_behindEnds 40 = .ok (.iadd, 1) := by decide +kernel
theorem dX12_behindEnds_41 : decode cX12_behindEnds 41 = .ok (.iconst 4, 1) := by decide +kernel
theorem dX12_behindEnds_42 : decode cX12_behindEnds 42 = .ok (.iadd, 1) := by decide +kernel
theorem dX12_behindEnds_43 : decode cX12_behindEnds 43 = .ok (.iaload, 1) := by decide +kernel
theorem dX12_behindEnds_44 : decode cX12_behindEnds 44 = .ok (.istore_n 3, 1) := by decide +kernel
theorem dX12_behindEnds_45 : decode cX12_behindEnds 45 = .ok (.aload_n 0, 1) := by decide +kernel
theorem dX12_behindEnds_46 : decode cX12_behindEnds 46 = .ok (.getfield 7, 3) := by decide +kernel
theorem dX12_behindEnds_49 : decode cX12_behindEnds 49 = .ok (.bipush 60, 2) := by decide +kernel
theorem dX12_behindEnds_51 : decode cX12_behindEnds 51 = .ok (.bipush 6, 2) := by decide +kernel
theorem dX12_behindEnds_53 : decode cX12_behindEnds 53 = .ok (.iload_n 3, 1) := by decide +kernel
theorem dX12_behindEnds_54 : decode cX12_behindEnds 54 = .ok (.imul, 1) := by decide +kernel
theorem dX12_behindEnds_55 : decode cX12_behindEnds 55 = .ok (.iadd, 1) := by decide +kernel
theorem dX12_behindEnds_56 : decode cX12_behindEnds 56 = .ok (.iaload, 1) := by decide +kernel
theorem dX12_behindEnds_57 : decode cX12_behindEnds 57 = .ok (.bipush 17, 2) := by decide +kernel
theorem dX12_behindEnds_59 : decode cX12_behindEnds 59 = .ok (.if_icmp .ne 16, 3) := by decide +kernel
theorem dX12_behindEnds_62 : decode cX12_behindEnds 62 = .ok (.aload_n 0, 1) := by decide +kernel
theorem dX12_behindEnds_63 : decode cX12_behindEnds 63 = .ok (.getfield 78, 3) := by decide +kernel
theorem dX12_behindEnds_66 : decode cX12_behindEnds 66 = .ok (.iload_n 3, 1) := by decide +kernel
theorem dX12_behindEnds_67 : decode cX12_behindEnds 67 = .ok (.iaload, 1) := by decide +kernel
theorem dX12_behindEnds_68 : decode cX12_behindEnds 68 = .ok (.ifCond .le 7, 3) := by decide +kernel
theorem dX12_behindEnds_71 : decode cX12_behindEnds 71 = .ok (.iconst 1, 1) := by decide +kernel
theorem dX12_behindEnds_72 : decode cX12_behindEnds 72 = .ok (.goto 4, 3) := by decide +kernel
theorem dX12_behindEnds_75 : decode cX12_behindEnds 75 = .ok (.iconst 0, 1) := by decide +kernel
theorem dX12_behindEnds_76 : decode cX12_behindEnds 76 = .ok (.istore 4, 2) := by decide +kernel
theorem dX12_behindEnds_78 : decode cX12_behindEnds 78 = .ok (.aload_n 0, 1) := by decide +kernel
theorem dX12_behindEnds_79 : decode cX12_behindEnds 79 = .ok (.getfield 78, 3) := by decide +kernel
theorem dX12_behindEnds_82 : decode cX12_behindEnds 82 = .ok (.iload_n 3, 1) := by decide +kernel
theorem dX12_behindEnds_83 : decode cX12_behindEnds 83 = .ok (.dup2, 1) := by decide +kernel
theorem dX12_behindEnds_84 : decode cX12_behindEnds 84 = .ok (.iaload, 1) := by decide +kernel
theorem dX12_behindEnds_85 : decode cX12_behindEnds 85 = .ok (.iload 4, 2) := by decide +kernel
theorem dX12_behindEnds_87 : decode cX12_behindEnds 87 = .ok (.ifCond .eq 7, 3) := by decide +kernel
theorem dX12_behindEnds_90 : decode cX12_behindEnds 90 = .ok (.iconst 1, 1) := by decide +kernel
theorem dX12_behindEnds_91 : decode cX12_behindEnds 91 = .ok (.goto 4, 3) := by decide +kernel
theorem dX12_behindEnds_94 : decode cX12_behindEnds 94 = .ok (.iconst 0, 1) := by decide +kernel
theorem dX12_behindEnds_95 : decode cX12_behindEnds 95 = .ok (.isub, 1) := by decide +kernel
theorem dX12_behindEnds_96 : decode cX12_behindEnds 96 = .ok (.iastore, 1) := by decide +kernel
theorem dX12_behindEnds_97 : decode cX12_behindEnds 97 = .ok (.iload 4, 2) := by decide +kernel
theorem dX12_behindEnds_99 : decode cX12_behindEnds 99 = .ok (.ifCond .eq 9, 3) := by decide +kernel
theorem dX12_behindEnds_102 : decode cX12_behindEnds 102 = .ok (.iload_n 3, 1) := by decide +kernel
theorem dX12_behindEnds_103 : decode cX12_behindEnds 103 = .ok (.iconst 1, 1) := by decide +kernel
theorem dX12_behindEnds_104 : decode cX12_behindEnds 104 = .ok (.iadd, 1) := by decide +kernel
theorem dX12_behindEnds_105 : decode cX12_behindEnds 105 = .ok (.goto 6, 3) := by decide +kernel
theorem dX12_behindEnds_108 : decode cX12_behindEnds 108 = .ok (.iload_n 2, 1) := by decide +kernel
theorem dX12_behindEnds_109 : decode cX12_behindEnds 109 = .ok (.iconst 1, 1) := by decide +kernel
theorem dX12_behindEnds_110 : decode cX12_behindEnds 110 = .ok (.iadd, 1) := by decide +kernel
theorem dX12_behindEnds_111 : decode cX12_behindEnds 111 = .ok (.istore_n 2, 1) := by decide +kernel
theorem dX12_behindEnds_112 : decode cX12_behindEnds 112 = .ok (.goto (-110), 3) := by decide +kernel
theorem dX12_behindEnds_115 : decode cX12_behindEnds 115 = .ok (.iload_n 2, 1) := by decide +kernel
theorem dX12_behindEnds_116 : decode cX12_behindEnds 116 = .ok (.ireturn, 1) := by decide +kernel
theorem dX12_lives_0 : decode cX12_lives 0 = .ok (.aload_n 0, 1) := by decide +kernel
theorem dX12_lives_1 : decode cX12_lives 1 = .ok (.iload_n 1, 1) := by decide +kernel
theorem dX12_lives_2 : decode cX12_lives 2 = .ok (.putfield 397, 3) := by decide +kernel
theorem dX12_lives_5 : decode cX12_lives 5 = .ok (.aload_n 0, 1) := by decide +kernel
theorem dX12_lives_6 : decode cX12_lives 6 = .ok (.iconst 0, 1) := by decide +kernel
theorem dX12_lives_7 : decode cX12_lives 7 = .ok (.putfield 416, 3) := by decide +kernel
theorem dX12_lives_10 : decode cX12_lives 10 = .ok (.iconst 0, 1) := by decide +kernel
theorem dX12_lives_11 : decode cX12_lives 11 = .ok (.istore_n 2, 1) := by decide +kernel
theorem dX12_lives_12 : decode cX12_lives 12 = .ok (.iload_n 2, 1) := by decide +kernel
theorem dX12_lives_13 : decode cX12_lives 13 = .ok (.iconst 5, 1) := by decide +kernel
theorem dX12_lives_14 : decode cX12_lives 14 = .ok (.if_icmp .ge 16, 3) := by decide +kernel
theorem dX12_lives_17 : decode cX12_lives 17 = .ok (.aload_n 0, 1) := by decide +kernel
theorem dX12_lives_18 : decode cX12_lives 18 = .ok (.getfield 81, 3) := by decide +kernel
theorem dX12_lives_21 : decode cX12_lives 21 = .ok (.iload_n 2, 1) := by decide +kernel
theorem dX12_lives_22 : decode cX12_lives 22 = .ok (.iconst 0, 1) := by decide +kernel
theorem dX12_lives_23 : decode cX12_lives 23 = .ok (.iastore, 1) := by decide +kernel
theorem dX12_lives_24 : decode cX12_lives 24 = .ok (.iinc 2 1, 3) := by decide +kernel
theorem dX12_lives_27 : decode cX12_lives 27 = .ok (.goto (-15), 3) := by decide +kernel
theorem dX12_lives_30 : decode cX12_lives 30 = .ok (.iconst 0, 1) := by decide +kernel
theorem dX12_lives_31 : decode cX12_lives 31 = .ok (.istore_n 2, 1) := by decide +kernel
theorem dX12_lives_32 : decode cX12_lives 32 = .ok (.iload_n 2, 1) := by decide +kernel
theorem dX12_lives_33 : decode cX12_lives 33 = .ok (.aload_n 0, 1) := by decide +kernel
theorem dX12_lives_34 : decode cX12_lives 34 = .ok (.getfield 7, 3) := by decide +kernel
theorem dX12_lives_37 : decode cX12_lives 37 = .ok (.bipush 8, 2) := by decide +kernel
theorem dX12_lives_39 : decode cX12_lives 39 = .ok (.iaload, 1) := by decide +kernel
theorem dX12_lives_40 : decode cX12_lives 40 = .ok (.if_icmp .ge 144, 3) := by decide +kernel
theorem dX12_lives_43 : decode cX12_lives 43 = .ok (.aload_n 0, 1) := by decide +kernel
theorem dX12_lives_44 : decode cX12_lives 44 = .ok (.getfield 416, 3) := by decide +kernel
theorem dX12_lives_47 : decode cX12_lives 47 = .ok (.sipush 300, 3) := by decide +kernel
theorem dX12_lives_50 : decode cX12_lives 50 = .ok (.if_icmp .ne 11, 3) := by decide +kernel
theorem dX12_lives_53 : decode cX12_lives 53 = .ok (.aload_n 0, 1) := by decide +kernel
theorem dX12_lives_54 : decode cX12_lives 54 = .ok (.getfield 81, 3) := by decide +kernel
theorem dX12_lives_57 : decode cX12_lives 57 = .ok (.iconst 4, 1) := by decide +kernel
theorem dX12_lives_58 : decode cX12_lives 58 = .ok (.iconst 1, 1) := by decide +kernel
theorem dX12_lives_59 : decode cX12_lives 59 = .ok (.iastore, 1) := by decide +kernel
theorem dX12_lives_60 : decode cX12_lives 60 = .ok (.return_, 1) := by decide +kernel
theorem dX12_lives_61 : decode cX12_lives 61 = .ok (.bipush 60, 2) := by decide +kernel
theorem dX12_lives_63 : decode cX12_lives 63 = .ok (.bipush 6, 2) := by decide +kernel
theorem dX12_lives_65 : decode cX12_lives 65 = .ok (.iload_n 2, 1) := by decide +kernel
theorem dX12_lives_66 : decode cX12_lives 66 = .ok (.imul, 1) := by decide +kernel
theorem dX12_lives_67 : decode cX12_lives 67 = .ok (.iadd, 1) := by decide +kernel
theorem dX12_lives_68 : decode cX12_lives 68 = .ok (.istore_n 3, 1) := by decide +kernel
theorem dX12_lives_69 : decode cX12_lives 69 = .ok (.aload_n 0, 1) := by decide +kernel
theorem dX12_lives_70 : decode cX12_lives 70 = .ok (.dup, 1) := by decide +kernel
theorem dX12_lives_71 : decode cX12_lives 71 = .ok (.getfield 416, 3) := by decide +kernel
theorem dX12_lives_74 : decode cX12_lives 74 = .ok (.iconst 1, 1) := by decide +kernel
theorem dX12_lives_75 : decode cX12_lives 75 = .ok (.iadd, 1) := by decide +kernel
theorem dX12_lives_76 : decode cX12_lives 76 = .ok (.putfield 416, 3) := by decide +kernel
theorem dX12_lives_79 : decode cX12_lives 79 = .ok (.aload_n 0, 1) := by decide +kernel
theorem dX12_lives_80 : decode cX12_lives 80 = .ok (.getfield 7, 3) := by decide +kernel
theorem dX12_lives_83 : decode cX12_lives 83 = .ok (.iload_n 3, 1) := by decide +kernel
theorem dX12_lives_84 : decode cX12_lives 84 = .ok (.iaload, 1) := by decide +kernel
theorem dX12_lives_85 : decode cX12_lives 85 = .ok (.bipush 19, 2) := by decide +kernel
theorem dX12_lives_87 : decode cX12_lives 87 = .ok (.if_icmp .ne 4, 3) := by decide +kernel
theorem dX12_lives_90 : decode cX12_lives 90 = .ok (.return_, 1) := by decide +kernel
theorem dX12_lives_91 : decode cX12_lives 91 = .ok (.aload_n 0, 1) := by decide +kernel
theorem dX12_lives_92 : decode cX12_lives 92 = .ok (.getfield 81, 3) := by decide +kernel
theorem dX12_lives_95 : decode cX12_lives 95 = .ok (.iconst 0, 1) := by decide +kernel
theorem dX12_lives_96 : decode cX12_lives 96 = .ok (.dup2, 1) := by decide +kernel
theorem dX12_lives_97 : decode cX12_lives 97 = .ok (.iaload, 1) := by decide +kernel
theorem dX12_lives_98 : decode cX12_lives 98 = .ok (.aload_n 0, 1) := by decide +kernel
theorem dX12_lives_99 : decode cX12_lives 99 = .ok (.iload_n 3, 1) := by decide +kernel
theorem dX12_lives_100 : decode cX12_lives 100 = .ok (.invokevirtual 419, 3) := by decide +kernel
theorem dX12_lives_103 : decode cX12_lives 103 = .ok (.ifCond .eq 7, 3) := by decide +kernel
theorem dX12_lives_106 : decode cX12_lives 106 = .ok (.iconst 0, 1) := by decide +kernel
theorem dX12_lives_107 : decode cX12_lives 107 = .ok (.goto 4, 3) := by decide +kernel
theorem dX12_lives_110 : decode cX12_lives 110 = .ok (.iconst 1, 1) := by decide +kernel
theorem dX12_lives_111 : decode cX12_lives 111 = .ok (.iadd, 1) := by decide +kernel
theorem dX12_lives_112 : decode cX12_lives 112 = .ok (.iastore, 1) := by decide +kernel
theorem dX12_lives_113 : decode cX12_lives 113 = .ok (.aload_n 0, 1) := by decide +kernel
theorem dX12_lives_114 : decode cX12_lives 114 = .ok (.getfield 7, 3) := by decide +kernel
theorem dX12_lives_117 : decode cX12_lives 117 = .ok (.iload_n 3, 1) := by decide +kernel
theorem dX12_lives_118 : decode cX12_lives 118 = .ok (.iaload, 1) := by decide +kernel
theorem dX12_lives_119 : decode cX12_lives 119 = .ok (.bipush 17, 2) := by decide +kernel
theorem dX12_lives_121 : decode cX12_lives 121 = .ok (.if_icmp .ne 19, 3) := by decide +kernel
theorem dX12_lives_124 : decode cX12_lives 124 = .ok (.aload_n 0, 1) := by decide +kernel
theorem dX12_lives_125 : decode cX12_lives 125 = .ok (.getfield 78, 3) := by decide +kernel
theorem dX12_lives_128 : decode cX12_lives 128 = .ok (.iload_n 2, 1) := by decide +kernel
theorem dX12_lives_129 : decode cX12_lives 129 = .ok (.aload_n 0, 1) := by decide +kernel
theorem dX12_lives_130 : decode cX12_lives 130 = .ok (.getfield 7, 3) := by decide +kernel
theorem dX12_lives_133 : decode cX12_lives 133 = .ok (.iload_n 3, 1) := by decide +kernel
theorem dX12_lives_134 : decode cX12_lives 134 = .ok (.iconst 1, 1) := by decide +kernel
theorem dX12_lives_135 : decode cX12_lives 135 = .ok (.iadd, 1) := by decide +kernel
theorem dX12_lives_136 : decode cX12_lives 136 = .ok (.iaload, 1) := by decide +kernel
theorem dX12_lives_137 : decode cX12_lives 137 = .ok (.iconst 1, 1) := by decide +kernel
theorem dX12_lives_138 : decode cX12_lives 138 = .ok (.isub, 1) := by decide +kernel
theorem dX12_lives_139 : decode cX12_lives 139 = .ok (.iastore, 1) := by decide +kernel
theorem dX12_lives_140 : decode cX12_lives 140 = .ok (.aload_n 0, 1) := by decide +kernel
theorem dX12_lives_141 : decode cX12_lives 141 = .ok (.aload_n 0, 1) := by decide +kernel
theorem dX12_lives_142 : decode cX12_lives 142 = .ok (.getfield 7, 3) := by decide +kernel
theorem dX12_lives_145 : decode cX12_lives 145 = .ok (.iload_n 3, 1) := by decide +kernel
theorem dX12_lives_146 : decode cX12_lives 146 = .ok (.iaload, 1) := by decide +kernel
theorem dX12_lives_147 : decode cX12_lives 147 = .ok (.sipush 1600, 3) := by decide +kernel
theorem dX12_lives_150 : decode cX12_lives 150 = .ok (.if_icmp .lt 24, 3) := by decide +kernel
theorem dX12_lives_153 : decode cX12_lives 153 = .ok (.aload_n 0, 1) := by decide +kernel
theorem dX12_lives_154 : decode cX12_lives 154 = .ok (.iload_n 3, 1) := by decide +kernel
theorem dX12_lives_155 : decode cX12_lives 155 = .ok (.invokevirtual 422, 3) := by decide +kernel
theorem dX12_lives_158 : decode cX12_lives 158 = .ok (.ifCond .ne 16, 3) := by decide +kernel
theorem dX12_lives_161 : decode cX12_lives 161 = .ok (.aload_n 0, 1) := by decide +kernel
theorem dX12_lives_162 : decode cX12_lives 162 = .ok (.getfield 7, 3) := by decide +kernel
theorem dX12_lives_165 : decode cX12_lives 165 = .ok (.iload_n 3, 1) := by decide +kernel
theorem dX12_lives_166 : decode cX12_lives 166 = .ok (.iconst 4, 1) := by decide +kernel
theorem dX12_lives_167 : decode cX12_lives 167 = .ok (.iadd, 1) := by decide +kernel
theorem dX12_lives_168 : decode cX12_lives 168 = .ok (.iaload, 1) := by decide +kernel
theorem dX12_lives_169 : decode cX12_lives 169 = .ok (.iconst 1, 1) := by decide +kernel
theorem dX12_lives_170 : decode cX12_lives 170 = .ok (.iadd, 1) := by decide +kernel
theorem dX12_lives_171 : decode cX12_lives 171 = .ok (.goto 6, 3) := by decide +kernel
theorem dX12_lives_174 : decode cX12_lives 174 = .ok (.iload_n 2, 1) := by decide +kernel
theorem dX12_lives_175 : decode cX12_lives 175 = .ok (.iconst 1, 1) := by decide +kernel
theorem dX12_lives_176 : decode cX12_lives 176 = .ok (.iadd, 1) := by decide +kernel
theorem dX12_lives_177 : decode cX12_lives 177 = .ok (.invokevirtual 425, 3) := by decide +kernel
theorem dX12_lives_180 : decode cX12_lives 180 = .ok (.istore_n 2, 1) := by decide +kernel
theorem dX12_lives_181 : decode cX12_lives 181 = .ok (.goto (-149), 3) := by decide +kernel
theorem dX12_lives_184 : decode cX12_lives 184 = .ok (.return_, 1) := by decide +kernel
theorem dX12_live_0 : decode cX12_live 0 = .ok (.iload_n 1, 1) := by decide +kernel
theorem dX12_live_1 : decode cX12_live 1 = .ok (.i2l, 1) := by decide +kernel
theorem dX12_live_2 : decode cX12_live 2 = .ok (.lconst 0, 1) := by decide +kernel
theorem dX12_live_3 : decode cX12_live 3 = .ok (.ldc2_w 428, 3) := by decide +kernel
theorem dX12_live_6 : decode cX12_live 6 = .ok (.invokestatic 307, 3) := by decide +kernel
theorem dX12_live_9 : decode cX12_live 9 = .ok (.ifCond .ne 9, 3) := by decide +kernel
theorem dX12_live_12 : decode cX12_live 12 = .ok (.aload_n 0, 1) := by decide +kernel
theorem dX12_live_13 : decode cX12_live 13 = .ok (.iconst 1, 1) := by decide +kernel
theorem dX12_live_14 : decode cX12_live 14 = .ok (.invokevirtual 97, 3) := by decide +kernel
theorem dX12_live_17 : decode cX12_live 17 = .ok (.ireturn, 1) := by decide +kernel
theorem dX12_live_18 : decode cX12_live 18 = .ok (.aload_n 0, 1) := by decide +kernel
theorem dX12_live_19 : decode cX12_live 19 = .ok (.getfield 7, 3) := by decide +kernel
theorem dX12_live_22 : decode cX12_live 22 = .ok (.bipush 8, 2) := by decide +kernel
theorem dX12_live_24 : decode cX12_live 24 = .ok (.iaload, 1) := by decide +kernel
theorem dX12_live_25 : decode cX12_live 25 = .ok (.iconst (-1), 1) := by decide +kernel
theorem dX12_live_26 : decode cX12_live 26 = .ok (.if_icmp .ne 10, 3) := by decide +kernel
theorem dX12_live_29 : decode cX12_live 29 = .ok (.aload_n 0, 1) := by decide +kernel
theorem dX12_live_30 : decode cX12_live 30 = .ok (.bipush 6, 2) := by decide +kernel
theorem dX12_live_32 : decode cX12_live 32 = .ok (.invokevirtual 97, 3) := by decide +kernel
theorem dX12_live_35 : decode cX12_live 35 = .ok (.ireturn, 1) := by decide +kernel
theorem dX12_live_36 : decode cX12_live 36 = .ok (.aload_n 0, 1) := by decide +kernel
theorem dX12_live_37 : decode cX12_live 37 = .ok (.iload_n 1, 1) := by decide +kernel
theorem dX12_live_38 : decode cX12_live 38 = .ok (.invokevirtual 430, 3) := by decide +kernel
theorem dX12_live_41 : decode cX12_live 41 = .ok (.iconst 0, 1) := by decide +kernel
theorem dX12_live_42 : decode cX12_live 42 = .ok (.istore_n 2, 1) := by decide +kernel
theorem dX12_live_43 : decode cX12_live 43 = .ok (.iload_n 2, 1) := by decide +kernel
theorem dX12_live_44 : decode cX12_live 44 = .ok (.iconst 5, 1) := by decide +kernel
theorem dX12_live_45 : decode cX12_live 45 = .ok (.if_icmp .ge 21, 3) := by decide +kernel
theorem dX12_live_48 : decode cX12_live 48 = .ok (.aload_n 0, 1) := by decide +kernel
theorem dX12_live_49 : decode cX12_live 49 = .ok (.getfield 84, 3) := by decide +kernel
theorem dX12_live_52 : decode cX12_live 52 = .ok (.iload_n 2, 1) := by decide +kernel
theorem dX12_live_53 : decode cX12_live 53 = .ok (.aload_n 0, 1) := by decide +kernel
theorem dX12_live_54 : decode cX12_live 54 = .ok (.getfield 81, 3) := by decide +kernel
theorem dX12_live_57 : decode cX12_live 57 = .ok (.iload_n 2, 1) := by decide +kernel
theorem dX12_live_58 : decode cX12_live 58 = .ok (.iaload, 1) := by decide +kernel
theorem dX12_live_59 : decode cX12_live 59 = .ok (.iastore, 1) := by decide +kernel
theorem dX12_live_60 : decode cX12_live 60 = .ok (.iinc 2 1, 3) := by decide +kernel
theorem dX12_live_63 : decode cX12_live 63 = .ok (.goto (-20), 3) := by decide +kernel
theorem dX12_live_66 : decode cX12_live 66 = .ok (.aload_n 0, 1) := by decide +kernel
theorem dX12_live_67 : decode cX12_live 67 = .ok (.iconst 1, 1) := by decide +kernel
theorem dX12_live_68 : decode cX12_live 68 = .ok (.putfield 433, 3) := by decide +kernel
theorem dX12_live_71 : decode cX12_live 71 = .ok (.aload_n 0, 1) := by decide +kernel
theorem dX12_live_72 : decode cX12_live 72 = .ok (.aload_n 0, 1) := by decide +kernel
theorem dX12_live_73 : decode cX12_live 73 = .ok (.getfield 416, 3) := by decide +kernel
theorem dX12_live_76 : decode cX12_live 76 = .ok (.invokevirtual 101, 3) := by decide +kernel
theorem dX12_live_79 : decode cX12_live 79 = .ok (.ireturn, 1) := by decide +kernel
theorem dX12_lived_0 : decode cX12_lived 0 = .ok (.iload_n 1, 1) := by decide +kernel
theorem dX12_lived_1 : decode cX12_lived 1 = .ok (.ifCond .lt 8, 3) := by decide +kernel
theorem dX12_lived_4 : decode cX12_lived 4 = .ok (.iload_n 1, 1) := by decide +kernel
theorem dX12_lived_5 : decode cX12_lived 5 = .ok (.iconst 4, 1) := by decide +kernel
theorem dX12_lived_6 : decode cX12_lived 6 = .ok (.if_icmp .le 11, 3) := by decide +kernel
theorem dX12_lived_9 : decode cX12_lived 9 = .ok (.aload_n 0, 1) := by decide +kernel
theorem dX12_lived_10 : decode cX12_lived 10 = .ok (.iconst 1, 1) := by decide +kernel
theorem dX12_lived_11 : decode cX12_lived 11 = .ok (.invokevirtual 97, 3) := by decide +kernel
theorem dX12_lived_14 : decode cX12_lived 14 = .ok (.goto 29, 3) := by decide +kernel
theorem dX12_lived_17 : decode cX12_lived 17 = .ok (.aload_n 0, 1) := by decide +kernel
theorem dX12_lived_18 : decode cX12_lived 18 = .ok (.getfield 433, 3) := by decide +kernel
theorem dX12_lived_21 : decode cX12_lived 21 = .ok (.ifCond .eq 16, 3) := by decide +kernel
theorem dX12_lived_24 : decode cX12_lived 24 = .ok (.aload_n 0, 1) := by decide +kernel
theorem dX12_lived_25 : decode cX12_lived 25 = .ok (.aload_n 0, 1) := by decide +kernel
theorem dX12_lived_26 : decode cX12_lived 26 = .ok (.getfield 84, 3) := by decide +kernel
theorem dX12_lived_29 : decode cX12_lived 29 = .ok (.iload_n 1, 1) := by decide +kernel
theorem dX12_lived_30 : decode cX12_lived 30 = .ok (.iaload, 1) := by decide +kernel
theorem dX12_lived_31 : decode cX12_lived 31 = .ok (.invokevirtual 101, 3) := by decide +kernel
theorem dX12_lived_34 : decode cX12_lived 34 = .ok (.goto 9, 3) := by decide +kernel
theorem dX12_lived_37 : decode cX12_lived 37 = .ok (.aload_n 0, 1) := by decide +kernel
theorem dX12_lived_38 : decode cX12_lived 38 = .ok (.bipush 6, 2) := by decide +kernel
theorem dX12_lived_40 : decode cX12_lived 40 = .ok (.invokevirtual 97, 3) := by decide +kernel
theorem dX12_lived_43 : decode cX12_lived 43 = .ok (.ireturn, 1) := by decide +kernel
theorem dX12_mean_0 : decode cX12_mean 0 = .ok (.iload_n 1, 1) := by decide +kernel
theorem dX12_mean_1 : decode cX12_mean 1 = .ok (.i2l, 1) := by decide +kernel
theorem dX12_mean_2 : decode cX12_mean 2 = .ok (.lconst 0, 1) := by decide +kernel
theorem dX12_mean_3 : decode cX12_mean 3 = .ok (.ldc2_w 428, 3) := by decide +kernel
theorem dX12_mean_6 : decode cX12_mean 6 = .ok (.invokestatic 307, 3) := by decide +kernel
theorem dX12_mean_9 : decode cX12_mean 9 = .ok (.ifCond .eq 26, 3) := by decide +kernel
theorem dX12_mean_12 : decode cX12_mean 12 = .ok (.iload_n 2, 1) := by decide +kernel
theorem dX12_mean_13 : decode cX12_mean 13 = .ok (.i2l, 1) := by decide +kernel
theorem dX12_mean_14 : decode cX12_mean 14 = .ok (.lconst 1, 1) := by decide +kernel
theorem dX12_mean_15 : decode cX12_mean 15 = .ok (.ldc2_w 328, 3) := by decide +kernel
theorem dX12_mean_18 : decode cX12_mean 18 = .ok (.invokestatic 307, 3) := by decide +kernel
theorem dX12_mean_21 : decode cX12_mean 21 = .ok (.ifCond .eq 14, 3) := by decide +kernel
theorem dX12_mean_24 : decode cX12_mean 24 = .ok (.iload_n 1, 1) := by decide +kernel
theorem dX12_mean_25 : decode cX12_mean 25 = .ok (.iload_n 2, 1) := by decide +kernel
theorem dX12_mean_26 : decode cX12_mean 26 = .ok (.iadd, 1) := by decide +kernel
theorem dX12_mean_27 : decode cX12_mean 27 = .ok (.iconst 1, 1) := by decide +kernel
theorem dX12_mean_28 : decode cX12_mean 28 = .ok (.isub, 1) := by decide +kernel
theorem dX12_mean_29 : decode cX12_mean 29 = .ok (.sipush 9999, 3) := by decide +kernel
theorem dX12_mean_32 : decode cX12_mean 32 = .ok (.if_icmp .le 9, 3) := by decide +kernel
theorem dX12_mean_35 : decode cX12_mean 35 = .ok (.aload_n 0, 1) := by decide +kernel
theorem dX12_mean_36 : decode cX12_mean 36 = .ok (.iconst 1, 1) := by decide +kernel
theorem dX12_mean_37 : decode cX12_mean 37 = .ok (.invokevirtual 104, 3) := by decide +kernel
theorem dX12_mean_40 : decode cX12_mean 40 = .ok (.ireturn, 1) := by decide +kernel
theorem dX12_mean_41 : decode cX12_mean 41 = .ok (.aload_n 0, 1) := by decide +kernel
theorem dX12_mean_42 : decode cX12_mean 42 = .ok (.getfield 7, 3) := by decide +kernel
theorem dX12_mean_45 : decode cX12_mean 45 = .ok (.bipush 8, 2) := by decide +kernel
theorem dX12_mean_47 : decode cX12_mean 47 = .ok (.iaload, 1) := by decide +kernel
theorem dX12_mean_48 : decode cX12_mean 48 = .ok (.iconst (-1), 1) := by decide +kernel
theorem dX12_mean_49 : decode cX12_mean 49 = .ok (.if_icmp .ne 10, 3) := by decide +kernel
theorem dX12_mean_52 : decode cX12_mean 52 = .ok (.aload_n 0, 1) := by decide +kernel
theorem dX12_mean_53 : decode cX12_mean 53 = .ok (.bipush 6, 2) := by decide +kernel
theorem dX12_mean_55 : decode cX12_mean 55 = .ok (.invokevirtual 104, 3) := by decide +kernel
theorem dX12_mean_58 : decode cX12_mean 58 = .ok (.ireturn, 1) := by decide +kernel
theorem dX12_mean_59 : decode cX12_mean 59 = .ok (.aload_n 0, 1) := by decide +kernel
theorem dX12_mean_60 : decode cX12_mean 60 = .ok (.sipush 2140, 3) := by decide +kernel
theorem dX12_mean_63 : decode cX12_mean 63 = .ok (.invokevirtual 334, 3) := by decide +kernel
theorem dX12_mean_66 : decode cX12_mean 66 = .ok (.lconst 0, 1) := by decide +kernel
theorem dX12_mean_67 : decode cX12_mean 67 = .ok (.lstore_n 3, 1) := by decide +kernel
theorem dX12_mean_68 : decode cX12_mean 68 = .ok (.iconst 0, 1) := by decide +kernel
theorem dX12_mean_69 : decode cX12_mean 69 = .ok (.istore 5, 2) := by decide +kernel
theorem dX12_mean_71 : decode cX12_mean 71 = .ok (.iload 5, 2) := by decide +kernel
theorem dX12_mean_73 : decode cX12_mean 73 = .ok (.iload_n 2, 1) := by decide +kernel
theorem dX12_mean_74 : decode cX12_mean 74 = .ok (.if_icmp .ge 35, 3) := by decide +kernel
theorem dX12_mean_77 : decode cX12_mean 77 = .ok (.aload_n 0, 1) := by decide +kernel
theorem dX12_mean_78 : decode cX12_mean 78 = .ok (.iload_n 1, 1) := by decide +kernel
theorem dX12_mean_79 : decode cX12_mean 79 = .ok (.iload 5, 2) := by decide +kernel
theorem dX12_mean_81 : decode cX12_mean 81 = .ok (.iadd, 1) := by decide +kernel
theorem dX12_mean_82 : decode cX12_mean 82 = .ok (.invokevirtual 430, 3) := by decide +kernel
theorem dX12_mean_85 : decode cX12_mean 85 = .ok (.lload_n 3, 1) := by decide +kernel
theorem dX12_mean_86 : decode cX12_mean 86 = .ok (.aload_n 0, 1) := by decide +kernel
theorem dX12_mean_87 : decode cX12_mean 87 = .ok (.invokevirtual 275, 3) := by decide +kernel
theorem dX12_mean_90 : decode cX12_mean 90 = .ok (.invokestatic 293, 3) := by decide +kernel
theorem dX12_mean_93 : decode cX12_mean 93 = .ok (.i2l, 1) := by decide +kernel
theorem dX12_mean_94 : decode cX12_mean 94 = .ok (.ladd, 1) := by decide +kernel
theorem dX12_mean_95 : decode cX12_mean 95 = .ok (.lstore_n 3, 1) := by decide +kernel
theorem dX12_mean_96 : decode cX12_mean 96 = .ok (.aload_n 0, 1) := by decide +kernel
theorem dX12_mean_97 : decode cX12_mean 97 = .ok (.sipush 2140, 3) := by decide +kernel
theorem dX12_mean_100 : decode cX12_mean 100 = .ok (.invokevirtual 337, 3) := by decide +kernel
theorem dX12_mean_103 : decode cX12_mean 103 = .ok (.iinc 5 1, 3) := by decide +kernel
theorem dX12_mean_106 : decode cX12_mean 106 = .ok (.goto (-35), 3) := by decide +kernel
theorem dX12_mean_109 : decode cX12_mean 109 = .ok (.aload_n 0, 1) := by decide +kernel
theorem dX12_mean_110 : decode cX12_mean 110 = .ok (.lload_n 3, 1) := by decide +kernel
theorem dX12_mean_111 : decode cX12_mean 111 = .ok (.iload_n 2, 1) := by decide +kernel
theorem dX12_mean_112 : decode cX12_mean 112 = .ok (.i2l, 1) := by decide +kernel
theorem dX12_mean_113 : decode cX12_mean 113 = .ok (.invokevirtual 373, 3) := by decide +kernel
theorem dX12_mean_116 : decode cX12_mean 116 = .ok (.ireturn, 1) := by decide +kernel
theorem dX12_copies_0 : decode cX12_copies 0 = .ok (.iconst 0, 1) := by decide +kernel
theorem dX12_copies_1 : decode cX12_copies 1 = .ok (.istore_n 3, 1) := by decide +kernel
theorem dX12_copies_2 : decode cX12_copies 2 = .ok (.iload_n 3, 1) := by decide +kernel
theorem dX12_copies_3 : decode cX12_copies 3 = .ok (.sipush 428, 3) := by decide +kernel
theorem dX12_copies_6 : decode cX12_copies 6 = .ok (.if_icmp .ge 33, 3) := by decide +kernel
theorem dX12_copies_9 : decode cX12_copies 9 = .ok (.aload_n 0, 1) := by decide +kernel
theorem dX12_copies_10 : decode cX12_copies 10 = .ok (.getfield 7, 3) := by decide +kernel
theorem dX12_copies_13 : decode cX12_copies 13 = .ok (.sipush 428, 3) := by decide +kernel
theorem dX12_copies_16 : decode cX12_copies 16 = .ok (.iload_n 2, 1) := by decide +kernel
theorem dX12_copies_17 : decode cX12_copies 17 = .ok (.imul, 1) := by decide +kernel
theorem dX12_copies_18 : decode cX12_copies 18 = .ok (.iload_n 3, 1) := by decide +kernel
theorem dX12_copies_19 : decode cX12_copies 19 = .ok (.iadd, 1) := by decide +kernel
theorem dX12_copies_20 : decode cX12_copies 20 = .ok (.aload_n 0, 1) := by decide +kernel
theorem dX12_copies_21 : decode cX12_copies 21 = .ok (.getfield 7, 3) := by decide +kernel
theorem dX12_copies_24 : decode cX12_copies 24 = .ok (.sipush 428, 3) := by decide +kernel
theorem dX12_copies_27 : decode cX12_copies 27 = .ok (.iload_n 1, 1) := by decide +kernel
theorem dX12_copies_28 : decode cX12_copies 28 = .ok (.imul, 1) := by decide +kernel
theorem dX12_copies_29 : decode cX12_copies 29 = .ok (.iload_n 3, 1) := by decide +kernel
theorem dX12_copies_30 : decode cX12_copies 30 = .ok (.iadd, 1) := by decide +kernel
theorem dX12_copies_31 : decode cX12_copies 31 = .ok (.iaload, 1) := by decide +kernel
theorem dX12_copies_32 : decode cX12_copies 32 = .ok (.iastore, 1) := by decide +kernel
theorem dX12_copies_33 : decode cX12_copies 33 = .ok (.iinc 3 1, 3) := by decide +kernel
theorem dX12_copies_36 : decode cX12_copies 36 = .ok (.goto (-34), 3) := by decide +kernel
theorem dX12_copies_39 : decode cX12_copies 39 = .ok (.iconst 0, 1) := by decide +kernel
theorem dX12_copies_40 : decode cX12_copies 40 = .ok (.istore_n 3, 1) := by decide +kernel
theorem dX12_copies_41 : decode cX12_copies 41 = .ok (.iload_n 3, 1) := by decide +kernel
theorem dX12_copies_42 : decode cX12_copies 42 = .ok (.bipush 7, 2) := by decide +kernel
theorem dX12_copies_44 : decode cX12_copies 44 = .ok (.if_icmp .ge 31, 3) := by decide +kernel
theorem dX12_copies_47 : decode cX12_copies 47 = .ok (.aload_n 0, 1) := by decide +kernel
theorem dX12_copies_48 : decode cX12_copies 48 = .ok (.getfield 13, 3) := by decide +kernel
theorem dX12_copies_51 : decode cX12_copies 51 = .ok (.bipush 7, 2) := by decide +kernel
theorem dX12_copies_53 : decode cX12_copies 53 = .ok (.iload_n 2, 1) := by decide +kernel
theorem dX12_copies_54 : decode cX12_copies 54 = .ok (.imul, 1) := by decide +kernel
theorem dX12_copies_55 : decode cX12_copies 55 = .ok (.iload_n 3, 1) := by decide +kernel
theorem dX12_copies_56 : decode cX12_copies 56 = .ok (.iadd, 1) := by decide +kernel
theorem dX12_copies_57 : decode cX12_copies 57 = .ok (.aload_n 0, 1) := by decide +kernel
theorem dX12_copies_58 : decode cX12_copies 58 = .ok (.getfield 13, 3) := by decide +kernel
theorem dX12_copies_61 : decode cX12_copies 61 = .ok (.bipush 7, 2) := by decide +kernel
theorem dX12_copies_63 : decode cX12_copies 63 = .ok (.iload_n 1, 1) := by decide +kernel
theorem dX12_copies_64 : decode cX12_copies 64 = .ok (.imul, 1) := by decide +kernel
theorem dX12_copies_65 : decode cX12_copies 65 = .ok (.iload_n 3, 1) := by decide +kernel
theorem dX12_copies_66 : decode cX12_copies 66 = .ok (.iadd, 1) := by decide +kernel
theorem dX12_copies_67 : decode cX12_copies 67 = .ok (.laload, 1) := by decide +kernel
theorem dX12_copies_68 : decode cX12_copies 68 = .ok (.lastore, 1) := by decide +kernel
theorem dX12_copies_69 : decode cX12_copies 69 = .ok (.iinc 3 1, 3) := by decide +kernel
theorem dX12_copies_72 : decode cX12_copies 72 = .ok (.goto (-31), 3) := by decide +kernel
theorem dX12_copies_75 : decode cX12_copies 75 = .ok (.return_, 1) := by decide +kernel
theorem dX12_mark_0 : decode cX12_mark 0 = .ok (.aload_n 0, 1) := by decide +kernel
theorem dX12_mark_1 : decode cX12_mark 1 = .ok (.getfield 437, 3) := by decide +kernel
theorem dX12_mark_4 : decode cX12_mark 4 = .ok (.iconst 3, 1) := by decide +kernel
theorem dX12_mark_5 : decode cX12_mark 5 = .ok (.if_icmp .ne 9, 3) := by decide +kernel
theorem dX12_mark_8 : decode cX12_mark 8 = .ok (.aload_n 0, 1) := by decide +kernel
theorem dX12_mark_9 : decode cX12_mark 9 = .ok (.iconst 4, 1) := by decide +kernel
theorem dX12_mark_10 : decode cX12_mark 10 = .ok (.invokevirtual 97, 3) := by decide +kernel
theorem dX12_mark_13 : decode cX12_mark 13 = .ok (.ireturn, 1) := by decide +kernel
theorem dX12_mark_14 : decode cX12_mark 14 = .ok (.aload_n 0, 1) := by decide +kernel
theorem dX12_mark_15 : decode cX12_mark 15 = .ok (.dup, 1) := by decide +kernel
theorem dX12_mark_16 : decode cX12_mark 16 = .ok (.getfield 437, 3) := by decide +kernel
theorem dX12_mark_19 : decode cX12_mark 19 = .ok (.iconst 1, 1) := by decide +kernel
theorem dX12_mark_20 : decode cX12_mark 20 = .ok (.iadd, 1) := by decide +kernel
theorem dX12_mark_21 : decode cX12_mark 21 = .ok (.putfield 437, 3) := by decide +kernel
theorem dX12_mark_24 : decode cX12_mark 24 = .ok (.aload_n 0, 1) := by decide +kernel
theorem dX12_mark_25 : decode cX12_mark 25 = .ok (.iconst 0, 1) := by decide +kernel
theorem dX12_mark_26 : decode cX12_mark 26 = .ok (.aload_n 0, 1) := by decide +kernel
theorem dX12_mark_27 : decode cX12_mark 27 = .ok (.getfield 437, 3) := by decide +kernel
theorem dX12_mark_30 : decode cX12_mark 30 = .ok (.invokevirtual 440, 3) := by decide +kernel
theorem dX12_mark_33 : decode cX12_mark 33 = .ok (.aload_n 0, 1) := by decide +kernel
theorem dX12_mark_34 : decode cX12_mark 34 = .ok (.aload_n 0, 1) := by decide +kernel
theorem dX12_mark_35 : decode cX12_mark 35 = .ok (.getfield 437, 3) := by decide +kernel
theorem dX12_mark_38 : decode cX12_mark 38 = .ok (.invokevirtual 101, 3) := by decide +kernel
theorem dX12_mark_41 : decode cX12_mark 41 = .ok (.ireturn, 1) := by decide +kernel
theorem dX12_undo_0 : decode cX12_undo 0 = .ok (.aload_n 0, 1) := by decide +kernel
theorem dX12_undo_1 : decode cX12_undo 1 = .ok (.getfield 437, 3) := by decide +kernel
theorem dX12_undo_4 : decode cX12_undo 4 = .ok (.ifCond .ne 10, 3) := by decide +kernel
theorem dX12_undo_7 : decode cX12_undo 7 = .ok (.aload_n 0, 1) := by decide +kernel
theorem dX12_undo_8 : decode cX12_undo 8 = .ok (.bipush 6, 2) := by decide +kernel
theorem dX12_undo_10 : decode cX12_undo 10 = .ok (.invokevirtual 97, 3) := by decide +kernel
theorem dX12_undo_13 : decode cX12_undo 13 = .ok (.ireturn, 1) := by decide +kernel
theorem dX12_undo_14 : decode cX12_undo 14 = .ok (.aload_n 0, 1) := by decide +kernel
theorem dX12_undo_15 : decode cX12_undo 15 = .ok (.aload_n 0, 1) := by decide +kernel
theorem dX12_undo_16 : decode cX12_undo 16 = .ok (.getfield 437, 3) := by decide +kernel
theorem dX12_undo_19 : decode cX12_undo 19 = .ok (.iconst 0, 1) := by decide +kernel
theorem dX12_undo_20 : decode cX12_undo 20 = .ok (.invokevirtual 440, 3) := by decide +kernel
theorem dX12_undo_23 : decode cX12_undo 23 = .ok (.aload_n 0, 1) := by decide +kernel
theorem dX12_undo_24 : decode cX12_undo 24 = .ok (.dup, 1) := by decide +kernel
theorem dX12_undo_25 : decode cX12_undo 25 = .ok (.getfield 437, 3) := by decide +kernel
theorem dX12_undo_28 : decode cX12_undo 28 = .ok (.iconst 1, 1) := by decide +kernel
theorem dX12_undo_29 : decode cX12_undo 29 = .ok (.isub, 1) := by decide +kernel
theorem dX12_undo_30 : decode cX12_undo 30 = .ok (.putfield 437, 3) := by decide +kernel
theorem dX12_undo_33 : decode cX12_undo 33 = .ok (.aload_n 0, 1) := by decide +kernel
theorem dX12_undo_34 : decode cX12_undo 34 = .ok (.aload_n 0, 1) := by decide +kernel
theorem dX12_undo_35 : decode cX12_undo 35 = .ok (.getfield 437, 3) := by decide +kernel
theorem dX12_undo_38 : decode cX12_undo 38 = .ok (.invokevirtual 101, 3) := by decide +kernel
theorem dX12_undo_41 : decode cX12_undo 41 = .ok (.ireturn, 1) := by decide +kernel
theorem dJ6_bitCount_0f7a4_0 : decode cJ6_bitCount_0f7a4 0 = .ok (.iload_n 0, 1) := by decide +kernel
theorem dJ6_bitCount_0f7a4_1 : decode cJ6_bitCount_0f7a4 1 = .ok (.iload_n 0, 1) := by decide +kernel
theorem dJ6_bitCount_0f7a4_2 : decode cJ6_bitCount_0f7a4 2 = .ok (.iconst 1, 1) := by decide +kernel
theorem dJ6_bitCount_0f7a4_3 : decode cJ6_bitCount_0f7a4 3 = .ok (.iushr, 1) := by decide +kernel
theorem dJ6_bitCount_0f7a4_4 : decode cJ6_bitCount_0f7a4 4 = .ok (.ldc_w 265, 3) := by decide +kernel
theorem dJ6_bitCount_0f7a4_7 : decode cJ6_bitCount_0f7a4 7 = .ok (.iand, 1) := by decide +kernel
theorem dJ6_bitCount_0f7a4_8 : decode cJ6_bitCount_0f7a4 8 = .ok (.isub, 1) := by decide +kernel
theorem dJ6_bitCount_0f7a4_9 : decode cJ6_bitCount_0f7a4 9 = .ok (.istore_n 0, 1) := by decide +kernel
theorem dJ6_bitCount_0f7a4_10 : decode cJ6_bitCount_0f7a4 10 = .ok (.iload_n 0, 1) := by decide +kernel
theorem dJ6_bitCount_0f7a4_11 : decode cJ6_bitCount_0f7a4 11 = .ok (.ldc_w 266, 3) := by decide +kernel
theorem dJ6_bitCount_0f7a4_14 : decode cJ6_bitCount_0f7a4 14 = .ok (.iand, 1) := by decide +kernel
theorem dJ6_bitCount_0f7a4_15 : decode cJ6_bitCount_0f7a4 15 = .ok (.iload_n 0, 1) := by decide +kernel
theorem dJ6_bitCount_0f7a4_16 : decode cJ6_bitCount_0f7a4 16 = .ok (.iconst 2, 1) := by decide +kernel
theorem dJ6_bitCount_0f7a4_17 : decode cJ6_bitCount_0f7a4 17 = .ok (.iushr, 1) := by decide +kernel
theorem dJ6_bitCount_0f7a4_18 : decode cJ6_bitCount_0f7a4 18 = .ok (.ldc_w 266, 3) := by decide +kernel
theorem dJ6_bitCount_0f7a4_21 : decode cJ6_bitCount_0f7a4 21 = .ok (.iand, 1) := by decide +kernel
theorem dJ6_bitCount_0f7a4_22 : decode cJ6_bitCount_0f7a4 22 = .ok (.iadd, 1) := by decide +kernel
theorem dJ6_bitCount_0f7a4_23 : decode cJ6_bitCount_0f7a4 23 = .ok (.istore_n 0, 1) := by decide +kernel
theorem dJ6_bitCount_0f7a4_24 : decode cJ6_bitCount_0f7a4 24 = .ok (.iload_n 0, 1) := by decide +kernel
theorem dJ6_bitCount_0f7a4_25 : decode cJ6_bitCount_0f7a4 25 = .ok (.iload_n 0, 1) := by decide +kernel
theorem dJ6_bitCount_0f7a4_26 : decode cJ6_bitCount_0f7a4 26 = .ok (.iconst 4, 1) := by decide +kernel
theorem dJ6_bitCount_0f7a4_27 : decode cJ6_bitCount_0f7a4 27 = .ok (.iushr, 1) := by decide +kernel
theorem dJ6_bitCount_0f7a4_28 : decode cJ6_bitCount_0f7a4 28 = .ok (.iadd, 1) := by decide +kernel
theorem dJ6_bitCount_0f7a4_29 : decode cJ6_bitCount_0f7a4 29 = .ok (.ldc_w 267, 3) := by decide +kernel
theorem dJ6_bitCount_0f7a4_32 : decode cJ6_bitCount_0f7a4 32 = .ok (.iand, 1) := by decide +kernel
theorem dJ6_bitCount_0f7a4_33 : decode cJ6_bitCount_0f7a4 33 = .ok (.istore_n 0, 1) := by decide +kernel
theorem dJ6_bitCount_0f7a4_34 : decode cJ6_bitCount_0f7a4 34 = .ok (.iload_n 0, 1) := by decide +kernel
theorem dJ6_bitCount_0f7a4_35 : decode cJ6_bitCount_0f7a4 35 = .ok (.iload_n 0, 1) := by decide +kernel
theorem dJ6_bitCount_0f7a4_36 : decode cJ6_bitCount_0f7a4 36 = .ok (.bipush 8, 2) := by decide +kernel
theorem dJ6_bitCount_0f7a4_38 : decode cJ6_bitCount_0f7a4 38 = .ok (.iushr, 1) := by decide +kernel
theorem dJ6_bitCount_0f7a4_39 : decode cJ6_bitCount_0f7a4 39 = .ok (.iadd, 1) := by decide +kernel
theorem dJ6_bitCount_0f7a4_40 : decode cJ6_bitCount_0f7a4 40 = .ok (.istore_n 0, 1) := by decide +kernel
theorem dJ6_bitCount_0f7a4_41 : decode cJ6_bitCount_0f7a4 41 = .ok (.iload_n 0, 1) := by decide +kernel
theorem dJ6_bitCount_0f7a4_42 : decode cJ6_bitCount_0f7a4 42 = .ok (.iload_n 0, 1) := by decide +kernel
theorem dJ6_bitCount_0f7a4_43 : decode cJ6_bitCount_0f7a4 43 = .ok (.bipush 16, 2) := by decide +kernel
theorem dJ6_bitCount_0f7a4_45 : decode cJ6_bitCount_0f7a4 45 = .ok (.iushr, 1) := by decide +kernel
theorem dJ6_bitCount_0f7a4_46 : decode cJ6_bitCount_0f7a4 46 = .ok (.iadd, 1) := by decide +kernel
theorem dJ6_bitCount_0f7a4_47 : decode cJ6_bitCount_0f7a4 47 = .ok (.istore_n 0, 1) := by decide +kernel
theorem dJ6_bitCount_0f7a4_48 : decode cJ6_bitCount_0f7a4 48 = .ok (.iload_n 0, 1) := by decide +kernel
theorem dJ6_bitCount_0f7a4_49 : decode cJ6_bitCount_0f7a4 49 = .ok (.bipush 63, 2) := by decide +kernel
theorem dJ6_bitCount_0f7a4_51 : decode cJ6_bitCount_0f7a4 51 = .ok (.iand, 1) := by decide +kernel
theorem dJ6_bitCount_0f7a4_52 : decode cJ6_bitCount_0f7a4 52 = .ok (.ireturn, 1) := by decide +kernel
theorem dJ9_max_7cf53_0 : decode cJ9_max_7cf53 0 = .ok (.iload_n 0, 1) := by decide +kernel
theorem dJ9_max_7cf53_1 : decode cJ9_max_7cf53 1 = .ok (.iload_n 1, 1) := by decide +kernel
theorem dJ9_max_7cf53_2 : decode cJ9_max_7cf53 2 = .ok (.if_icmp .lt 7, 3) := by decide +kernel
theorem dJ9_max_7cf53_5 : decode cJ9_max_7cf53 5 = .ok (.iload_n 0, 1) := by decide +kernel
theorem dJ9_max_7cf53_6 : decode cJ9_max_7cf53 6 = .ok (.goto 4, 3) := by decide +kernel
theorem dJ9_max_7cf53_9 : decode cJ9_max_7cf53 9 = .ok (.iload_n 1, 1) := by decide +kernel
theorem dJ9_max_7cf53_10 : decode cJ9_max_7cf53 10 = .ok (.ireturn, 1) := by decide +kernel
theorem dJ9_min_7cf53_0 : decode cJ9_min_7cf53 0 = .ok (.iload_n 0, 1) := by decide +kernel
theorem dJ9_min_7cf53_1 : decode cJ9_min_7cf53 1 = .ok (.iload_n 1, 1) := by decide +kernel
theorem dJ9_min_7cf53_2 : decode cJ9_min_7cf53 2 = .ok (.if_icmp .gt 7, 3) := by decide +kernel
theorem dJ9_min_7cf53_5 : decode cJ9_min_7cf53 5 = .ok (.iload_n 0, 1) := by decide +kernel
theorem dJ9_min_7cf53_6 : decode cJ9_min_7cf53 6 = .ok (.goto 4, 3) := by decide +kernel
theorem dJ9_min_7cf53_9 : decode cJ9_min_7cf53 9 = .ok (.iload_n 1, 1) := by decide +kernel
theorem dJ9_min_7cf53_10 : decode cJ9_min_7cf53 10 = .ok (.ireturn, 1) := by decide +kernel
theorem dJ0_length_8abf5_0 : decode cJ0_length_8abf5 0 = .ok (.aload_n 0, 1) := by decide +kernel
theorem dJ0_length_8abf5_1 : decode cJ0_length_8abf5 1 = .ok (.getfield 9, 3) := by decide +kernel
theorem dJ0_length_8abf5_4 : decode cJ0_length_8abf5 4 = .ok (.arraylength, 1) := by decide +kernel
theorem dJ0_length_8abf5_5 : decode cJ0_length_8abf5 5 = .ok (.aload_n 0, 1) := by decide +kernel
theorem dJ0_length_8abf5_6 : decode cJ0_length_8abf5 6 = .ok (.invokevirtual 335, 3) := by decide +kernel
theorem dJ0_length_8abf5_9 : decode cJ0_length_8abf5 9 = .ok (.ishr, 1) := by decide +kernel
theorem dJ0_length_8abf5_10 : decode cJ0_length_8abf5 10 = .ok (.ireturn, 1) := by decide +kernel
theorem dJ0_charAt_5068e_0 : decode cJ0_charAt_5068e 0 = .ok (.aload_n 0, 1) := by decide +kernel
theorem dJ0_charAt_5068e_1 : decode cJ0_charAt_5068e 1 = .ok (.invokevirtual 492, 3) := by decide +kernel
theorem dJ0_charAt_5068e_4 : decode cJ0_charAt_5068e 4 = .ok (.ifCond .eq 12, 3) := by decide +kernel
theorem dJ0_charAt_5068e_7 : decode cJ0_charAt_5068e 7 = .ok (.aload_n 0, 1) := by decide +kernel
theorem dJ0_charAt_5068e_8 : decode cJ0_charAt_5068e 8 = .ok (.getfield 9, 3) := by decide +kernel
theorem dJ0_charAt_5068e_11 : decode cJ0_charAt_5068e 11 = .ok (.iload_n 1, 1) := by decide +kernel
theorem dJ0_charAt_5068e_12 : decode cJ0_charAt_5068e 12 = .ok (.invokestatic 495, 3) := by decide +kernel
theorem dJ0_charAt_5068e_15 : decode cJ0_charAt_5068e 15 = .ok (.ireturn, 1) := by decide +kernel
theorem dJ0_charAt_5068e_16 : decode cJ0_charAt_5068e 16 = .ok (.aload_n 0, 1) := by decide +kernel
theorem dJ0_charAt_5068e_17 : decode cJ0_charAt_5068e 17 = .ok (.getfield 9, 3) := by decide +kernel
theorem dJ0_charAt_5068e_20 : decode cJ0_charAt_5068e 20 = .ok (.iload_n 1, 1) := by decide +kernel
theorem dJ0_charAt_5068e_21 : decode cJ0_charAt_5068e 21 = .ok (.invokestatic 498, 3) := by decide +kernel
theorem dJ0_charAt_5068e_24 : decode cJ0_charAt_5068e 24 = .ok (.ireturn, 1) := by decide +kernel
theorem dJ0_coder_7d493_0 : decode cJ0_coder_7d493 0 = .ok (.getstatic 38, 3) := by decide +kernel
theorem dJ0_coder_7d493_3 : decode cJ0_coder_7d493 3 = .ok (.ifCond .eq 10, 3) := by decide +kernel
theorem dJ0_coder_7d493_6 : decode cJ0_coder_7d493 6 = .ok (.aload_n 0, 1) := by decide +kernel
theorem dJ0_coder_7d493_7 : decode cJ0_coder_7d493 7 = .ok (.getfield 15, 3) := by decide +kernel
theorem dJ0_coder_7d493_10 : decode cJ0_coder_7d493 10 = .ok (.goto 4, 3) := by decide +kernel
theorem dJ0_coder_7d493_13 : decode cJ0_coder_7d493 13 = .ok (.iconst 1, 1) := by decide +kernel
theorem dJ0_coder_7d493_14 : decode cJ0_coder_7d493 14 = .ok (.ireturn, 1) := by decide +kernel
theorem dJ0_isLatin1_aae02_0 : decode cJ0_isLatin1_aae02 0 = .ok (.getstatic 38, 3) := by decide +kernel
theorem dJ0_isLatin1_aae02_3 : decode cJ0_isLatin1_aae02 3 = .ok (.ifCond .eq 14, 3) := by decide +kernel
theorem dJ0_isLatin1_aae02_6 : decode cJ0_isLatin1_aae02 6 = .ok (.aload_n 0, 1) := by decide +kernel
theorem dJ0_isLatin1_aae02_7 : decode cJ0_isLatin1_aae02 7 = .ok (.getfield 15, 3) := by decide +kernel
theorem dJ0_isLatin1_aae02_10 : decode cJ0_isLatin1_aae02 10 = .ok (.ifCond .ne 7, 3) := by decide +kernel
theorem dJ0_isLatin1_aae02_13 : decode cJ0_isLatin1_aae02 13 = .ok (.iconst 1, 1) := by decide +kernel
theorem dJ0_isLatin1_aae02_14 : decode cJ0_isLatin1_aae02 14 = .ok (.goto 4, 3) := by decide +kernel
theorem dJ0_isLatin1_aae02_17 : decode cJ0_isLatin1_aae02 17 = .ok (.iconst 0, 1) := by decide +kernel
theorem dJ0_isLatin1_aae02_18 : decode cJ0_isLatin1_aae02 18 = .ok (.ireturn, 1) := by decide +kernel
theorem dJ0_checkIndex_df160_0 : decode cJ0_checkIndex_df160 0 = .ok (.iload_n 0, 1) := by decide +kernel
theorem dJ0_checkIndex_df160_1 : decode cJ0_checkIndex_df160 1 = .ok (.iload_n 1, 1) := by decide +kernel
theorem dJ0_checkIndex_df160_2 : decode cJ0_checkIndex_df160 2 = .ok (.getstatic 1053, 3) := by decide +kernel
theorem dJ0_checkIndex_df160_5 : decode cJ0_checkIndex_df160 5 = .ok (.invokestatic 1059, 3) := by decide +kernel
theorem dJ0_checkIndex_df160_8 : decode cJ0_checkIndex_df160 8 = .ok (.pop, 1) := by decide +kernel
theorem dJ0_checkIndex_df160_9 : decode cJ0_checkIndex_df160 9 = .ok (.return_, 1) := by decide +kernel
theorem dJ1_charAt_3b067_0 : decode cJ1_charAt_3b067 0 = .ok (.iload_n 1, 1) := by decide +kernel
theorem dJ1_charAt_3b067_1 : decode cJ1_charAt_3b067 1 = .ok (.aload_n 0, 1) := by decide +kernel
theorem dJ1_charAt_3b067_2 : decode cJ1_charAt_3b067 2 = .ok (.arraylength, 1) := by decide +kernel
theorem dJ1_charAt_3b067_3 : decode cJ1_charAt_3b067 3 = .ok (.invokestatic 9, 3) := by decide +kernel
theorem dJ1_charAt_3b067_6 : decode cJ1_charAt_3b067 6 = .ok (.aload_n 0, 1) := by decide +kernel
theorem dJ1_charAt_3b067_7 : decode cJ1_charAt_3b067 7 = .ok (.iload_n 1, 1) := by decide +kernel
theorem dJ1_charAt_3b067_8 : decode cJ1_charAt_3b067 8 = .ok (.baload, 1) := by decide +kernel
theorem dJ1_charAt_3b067_9 : decode cJ1_charAt_3b067 9 = .ok (.sipush 255, 3) := by decide +kernel
theorem dJ1_charAt_3b067_12 : decode cJ1_charAt_3b067 12 = .ok (.iand, 1) := by decide +kernel
theorem dJ1_charAt_3b067_13 : decode cJ1_charAt_3b067 13 = .ok (.i2c, 1) := by decide +kernel
theorem dJ1_charAt_3b067_14 : decode cJ1_charAt_3b067 14 = .ok (.ireturn, 1) := by decide +kernel
theorem dJ2_getChar_3b067_0 : decode cJ2_getChar_3b067 0 = .ok (.getstatic 44, 3) := by decide +kernel
theorem dJ2_getChar_3b067_3 : decode cJ2_getChar_3b067 3 = .ok (.ifCond .ne 25, 3) := by decide +kernel
theorem dJ2_getChar_3b067_6 : decode cJ2_getChar_3b067 6 = .ok (.iload_n 1, 1) := by decide +kernel
theorem dJ2_getChar_3b067_7 : decode cJ2_getChar_3b067 7 = .ok (.ifCond .lt 11, 3) := by decide +kernel
theorem dJ2_getChar_3b067_10 : decode cJ2_getChar_3b067 10 = .ok (.iload_n 1, 1) := by decide +kernel
theorem dJ2_getChar_3b067_11 : decode cJ2_getChar_3b067 11 = .ok (.aload_n 0, 1) := by decide +kernel
theorem dJ2_getChar_3b067_12 : decode cJ2_getChar_3b067 12 = .ok (.invokestatic 48, 3) := by decide +kernel
theorem dJ2_getChar_3b067_15 : decode cJ2_getChar_3b067 15 = .ok (.if_icmp .lt 13, 3) := by decide +kernel
theorem dJ2_getChar_3b067_18 : decode cJ2_getChar_3b067 18 = .ok (.new 52, 3) := by decide +kernel
theorem dJ2_getChar_3b067_21 : decode cJ2_getChar_3b067 21 = .ok (.dup, 1) := by decide +kernel
theorem dJ2_getChar_3b067_22 : decode cJ2_getChar_3b067 22 = .ok (.ldc 54, 2) := by decide +kernel
theorem dJ2_getChar_3b067_24 : decode cJ2_getChar_3b067 24 = .ok (.invokespecial 56, 3) := by decide +kernel
theorem dJ2_getChar_3b067_27 : decode cJ2_getChar_3b067 27 = .ok (.athrow, 1) := by decide +kernel
theorem dJ2_getChar_3b067_28 : decode cJ2_getChar_3b067 28 = .ok (.iload_n 1, 1) := by decide +kernel
theorem dJ2_getChar_3b067_29 : decode cJ2_getChar_3b067 29 = .ok (.iconst 1, 1) := by decide +kernel
theorem dJ2_getChar_3b067_30 : decode cJ2_getChar_3b067 30 = .ok (.ishl, 1) := by decide +kernel
theorem dJ2_getChar_3b067_31 : decode cJ2_getChar_3b067 31 = .ok (.istore_n 1, 1) := by decide +kernel
theorem dJ2_getChar_3b067_32 : decode cJ2_getChar_3b067 32 = .ok (.aload_n 0, 1) := by decide +kernel
theorem dJ2_getChar_3b067_33 : decode cJ2_getChar_3b067 33 = .ok (.iload_n 1, 1) := by decide +kernel
theorem dJ2_getChar_3b067_34 : decode cJ2_getChar_3b067 34 = .ok (.iinc 1 1, 3) := by decide +kernel
theorem dJ2_getChar_3b067_37 : decode cJ2_getChar_3b067 37 = .ok (.baload, 1) := by decide +kernel
theorem dJ2_getChar_3b067_38 : decode cJ2_getChar_3b067 38 = .ok (.sipush 255, 3) := by decide +kernel
theorem dJ2_getChar_3b067_41 : decode cJ2_getChar_3b067 41 = .ok (.iand, 1) := by decide +kernel
theorem dJ2_getChar_3b067_42 : decode cJ2_getChar_3b067 42 = .ok (.getstatic 59, 3) := by decide +kernel
theorem dJ2_getChar_3b067_45 : decode cJ2_getChar_3b067 45 = .ok (.ishl, 1) := by decide +kernel
theorem dJ2_getChar_3b067_46 : decode cJ2_getChar_3b067 46 = .ok (.aload_n 0, 1) := by decide +kernel
theorem dJ2_getChar_3b067_47 : decode cJ2_getChar_3b067 47 = .ok (.iload_n 1, 1) := by decide +kernel
theorem dJ2_getChar_3b067_48 : decode cJ2_getChar_3b067 48 = .ok (.baload, 1) := by decide +kernel
theorem dJ2_getChar_3b067_49 : decode cJ2_getChar_3b067 49 = .ok (.sipush 255, 3) := by decide +kernel
theorem dJ2_getChar_3b067_52 : decode cJ2_getChar_3b067 52 = .ok (.iand, 1) := by decide +kernel
theorem dJ2_getChar_3b067_53 : decode cJ2_getChar_3b067 53 = .ok (.getstatic 63, 3) := by decide +kernel
theorem dJ2_getChar_3b067_56 : decode cJ2_getChar_3b067 56 = .ok (.ishl, 1) := by decide +kernel
theorem dJ2_getChar_3b067_57 : decode cJ2_getChar_3b067 57 = .ok (.ior, 1) := by decide +kernel
theorem dJ2_getChar_3b067_58 : decode cJ2_getChar_3b067 58 = .ok (.i2c, 1) := by decide +kernel
theorem dJ2_getChar_3b067_59 : decode cJ2_getChar_3b067 59 = .ok (.ireturn, 1) := by decide +kernel
theorem dJ2_length_9d52b_0 : decode cJ2_length_9d52b 0 = .ok (.aload_n 0, 1) := by decide +kernel
theorem dJ2_length_9d52b_1 : decode cJ2_length_9d52b 1 = .ok (.arraylength, 1) := by decide +kernel
theorem dJ2_length_9d52b_2 : decode cJ2_length_9d52b 2 = .ok (.iconst 1, 1) := by decide +kernel
theorem dJ2_length_9d52b_3 : decode cJ2_length_9d52b 3 = .ok (.ishr, 1) := by decide +kernel
theorem dJ2_length_9d52b_4 : decode cJ2_length_9d52b 4 = .ok (.ireturn, 1) := by decide +kernel
theorem dJ2_charAt_3b067_0 : decode cJ2_charAt_3b067 0 = .ok (.iload_n 1, 1) := by decide +kernel
theorem dJ2_charAt_3b067_1 : decode cJ2_charAt_3b067 1 = .ok (.aload_n 0, 1) := by decide +kernel
theorem dJ2_charAt_3b067_2 : decode cJ2_charAt_3b067 2 = .ok (.invokestatic 67, 3) := by decide +kernel
theorem dJ2_charAt_3b067_5 : decode cJ2_charAt_3b067 5 = .ok (.aload_n 0, 1) := by decide +kernel
theorem dJ2_charAt_3b067_6 : decode cJ2_charAt_3b067 6 = .ok (.iload_n 1, 1) := by decide +kernel
theorem dJ2_charAt_3b067_7 : decode cJ2_charAt_3b067 7 = .ok (.invokestatic 71, 3) := by decide +kernel
theorem dJ2_charAt_3b067_10 : decode cJ2_charAt_3b067 10 = .ok (.ireturn, 1) := by decide +kernel
theorem dJ2_checkIndex_2214a_0 : decode cJ2_checkIndex_2214a 0 = .ok (.iload_n 0, 1) := by decide +kernel
theorem dJ2_checkIndex_2214a_1 : decode cJ2_checkIndex_2214a 1 = .ok (.aload_n 1, 1) := by decide +kernel
theorem dJ2_checkIndex_2214a_2 : decode cJ2_checkIndex_2214a 2 = .ok (.invokestatic 48, 3) := by decide +kernel
theorem dJ2_checkIndex_2214a_5 : decode cJ2_checkIndex_2214a 5 = .ok (.invokestatic 414, 3) := by decide +kernel
theorem dJ2_checkIndex_2214a_8 : decode cJ2_checkIndex_2214a 8 = .ok (.return_, 1) := by decide +kernel
theorem dJ3_checkIndex_8e157_0 : decode cJ3_checkIndex_8e157 0 = .ok (.iload_n 0, 1) := by decide +kernel
theorem dJ3_checkIndex_8e157_1 : decode cJ3_checkIndex_8e157 1 = .ok (.ifCond .lt 8, 3) := by decide +kernel
theorem dJ3_checkIndex_8e157_4 : decode cJ3_checkIndex_8e157 4 = .ok (.iload_n 0, 1) := by decide +kernel
theorem dJ3_checkIndex_8e157_5 : decode cJ3_checkIndex_8e157 5 = .ok (.iload_n 1, 1) := by decide +kernel
theorem dJ3_checkIndex_8e157_6 : decode cJ3_checkIndex_8e157 6 = .ok (.if_icmp .lt 10, 3) := by decide +kernel
theorem dJ3_checkIndex_8e157_9 : decode cJ3_checkIndex_8e157 9 = .ok (.aload_n 2, 1) := by decide +kernel
theorem dJ3_checkIndex_8e157_10 : decode cJ3_checkIndex_8e157 10 = .ok (.iload_n 0, 1) := by decide +kernel
theorem dJ3_checkIndex_8e157_11 : decode cJ3_checkIndex_8e157 11 = .ok (.iload_n 1, 1) := by decide +kernel
theorem dJ3_checkIndex_8e157_12 : decode cJ3_checkIndex_8e157 12 = .ok (.invokestatic 95, 3) := by decide +kernel
theorem dJ3_checkIndex_8e157_15 : decode cJ3_checkIndex_8e157 15 = .ok (.athrow, 1) := by decide +kernel
theorem dJ3_checkIndex_8e157_16 : decode cJ3_checkIndex_8e157 16 = .ok (.iload_n 0, 1) := by decide +kernel
theorem dJ3_checkIndex_8e157_17 : decode cJ3_checkIndex_8e157 17 = .ok (.ireturn, 1) := by decide +kernel
theorem dL_law_0 : decode cL_law 0 = .ok (.new 7, 3) := by decide +kernel
theorem dL_law_3 : decode cL_law 3 = .ok (.dup, 1) := by decide +kernel
theorem dL_law_4 : decode cL_law 4 = .ok (.invokespecial 9, 3) := by decide +kernel
theorem dL_law_7 : decode cL_law 7 = .ok (.astore_n 1, 1) := by decide +kernel
theorem dL_law_8 : decode cL_law 8 = .ok (.new 10, 3) := by decide +kernel
theorem dL_law_11 : decode cL_law 11 = .ok (.dup, 1) := by decide +kernel
theorem dL_law_12 : decode cL_law 12 = .ok (.invokespecial 12, 3) := by decide +kernel
theorem dL_law_15 : decode cL_law 15 = .ok (.astore_n 2, 1) := by decide +kernel
theorem dL_law_16 : decode cL_law 16 = .ok (.iconst 0, 1) := by decide +kernel
theorem dL_law_17 : decode cL_law 17 = .ok (.istore_n 3, 1) := by decide +kernel
theorem dL_law_18 : decode cL_law 18 = .ok (.iload_n 3, 1) := by decide +kernel
theorem dL_law_19 : decode cL_law 19 = .ok (.aload_n 0, 1) := by decide +kernel
theorem dL_law_20 : decode cL_law 20 = .ok (.arraylength, 1) := by decide +kernel
theorem dL_law_21 : decode cL_law 21 = .ok (.bipush 6, 2) := by decide +kernel
theorem dL_law_23 : decode cL_law 23 = .ok (.isub, 1) := by decide +kernel
theorem dL_law_24 : decode cL_law 24 = .ok (.if_icmp .gt 1646, 3) := by decide +kernel
theorem dL_law_27 : decode cL_law 27 = .ok (.aload_n 0, 1) := by decide +kernel
theorem dL_law_28 : decode cL_law 28 = .ok (.iload_n 3, 1) := by decide +kernel
theorem dL_law_29 : decode cL_law 29 = .ok (.iaload, 1) := by decide +kernel
theorem dL_law_30 : decode cL_law 30 = .ok (.bipush 63, 2) := by decide +kernel
theorem dL_law_32 : decode cL_law 32 = .ok (.iand, 1) := by decide +kernel
theorem dL_law_33 : decode cL_law 33 = .ok (.tableswitch 1631 0 48 #[211, 224, 238, 252, 295, 368, 402, 465, 528, 551, 574, 597, 620, 653, 666, 679, 702, 725, 758, 781, 804, 837, 890, 913, 946, 969, 992, 1035, 1048, 1061, 1074, 1087, 1110, 1133, 1166, 1209, 1262, 1305, 1338, 1371, 1394, 1417, 1460, 1503, 1526, 1549, 1572, 1605, 1618], 211) := by decide +kernel
theorem dL_law_244 : decode cL_law 244 = .ok (.aload_n 1, 1) := by decide +kernel
theorem dL_law_245 : decode cL_law 245 = .ok (.invokevirtual 13, 3) := by decide +kernel
theorem dL_law_248 : decode cL_law 248 = .ok (.aload_n 2, 1) := by decide +kernel
theorem dL_law_249 : decode cL_law 249 = .ok (.invokevirtual 17, 3) := by decide +kernel
theorem dL_law_252 : decode cL_law 252 = .ok (.if_icmp .eq 1412, 3) := by decide +kernel
theorem dL_law_255 : decode cL_law 255 = .ok (.iconst 0, 1) := by decide +kernel
theorem dL_law_256 : decode cL_law 256 = .ok (.ireturn, 1) := by decide +kernel
theorem dL_law_257 : decode cL_law 257 = .ok (.aload_n 1, 1) := by decide +kernel
theorem dL_law_258 : decode cL_law 258 = .ok (.invokevirtual 18, 3) := by decide +kernel
theorem dL_law_261 : decode cL_law 261 = .ok (.aload_n 2, 1) := by decide +kernel
theorem dL_law_262 : decode cL_law 262 = .ok (.invokevirtual 22, 3) := by decide +kernel
theorem dL_law_265 : decode cL_law 265 = .ok (.lcmp, 1) := by decide +kernel
theorem dL_law_266 : decode cL_law 266 = .ok (.ifCond .eq 1398, 3) := by decide +kernel
theorem dL_law_269 : decode cL_law 269 = .ok (.iconst 0, 1) := by decide +kernel
theorem dL_law_270 : decode cL_law 270 = .ok (.ireturn, 1) := by decide +kernel
theorem dL_law_271 : decode cL_law 271 = .ok (.aload_n 1, 1) := by decide +kernel
theorem dL_law_272 : decode cL_law 272 = .ok (.invokevirtual 23, 3) := by decide +kernel
theorem dL_law_275 : decode cL_law 275 = .ok (.aload_n 2, 1) := by decide +kernel
theorem dL_law_276 : decode cL_law 276 = .ok (.invokevirtual 26, 3) := by decide +kernel
theorem dL_law_279 : decode cL_law 279 = .ok (.lcmp, 1) := by decide +kernel
theorem dL_law_280 : decode cL_law 280 = .ok (.ifCond .eq 1384, 3) := by decide +kernel
theorem dL_law_283 : decode cL_law 283 = .ok (.iconst 0, 1) := by decide +kernel
theorem dL_law_284 : decode cL_law 284 = .ok (.ireturn, 1) := by decide +kernel
theorem dL_law_285 : decode cL_law 285 = .ok (.aload_n 1, 1) := by decide +kernel
theorem dL_law_286 : decode cL_law 286 = .ok (.aload_n 0, 1) := by decide +kernel
theorem dL_law_287 : decode cL_law 287 = .ok (.iload_n 3, 1) := by decide +kernel
theorem dL_law_288 : decode cL_law 288 = .ok (.iconst 1, 1) := by decide +kernel
theorem dL_law_289 : decode cL_law 289 = .ok (.iadd, 1) := by decide +kernel
theorem dL_law_290 : decode cL_law 290 = .ok (.iaload, 1) := by decide +kernel
theorem dL_law_291 : decode cL_law 291 = .ok (.aload_n 0, 1) := by decide +kernel
theorem dL_law_292 : decode cL_law 292 = .ok (.iload_n 3, 1) := by decide +kernel
theorem dL_law_293 : decode cL_law 293 = .ok (.iconst 2, 1) := by decide +kernel
theorem dL_law_294 : decode cL_law 294 = .ok (.iadd, 1) := by decide +kernel
theorem dL_law_295 : decode cL_law 295 = .ok (.iaload, 1) := by decide +kernel
theorem dL_law_296 : decode cL_law 296 = .ok (.aload_n 0, 1) := by decide +kernel
theorem dL_law_297 : decode cL_law 297 = .ok (.iload_n 3, 1) := by decide +kernel
theorem dL_law_298 : decode cL_law 298 = .ok (.iconst 3, 1) := by decide +kernel
theorem dL_law_299 : decode cL_law 299 = .ok (.iadd, 1) := by decide +kernel
theorem dL_law_300 : decode cL_law 300 = .ok (.iaload, 1) := by decide +kernel
theorem dL_law_301 : decode cL_law 301 = .ok (.invokevirtual 27, 3) := by decide +kernel
theorem dL_law_304 : decode cL_law 304 = .ok (.aload_n 2, 1) := by decide +kernel
theorem dL_law_305 : decode cL_law 305 = .ok (.aload_n 0, 1) := by decide +kernel
theorem dL_law_306 : decode cL_law 306 = .ok (.iload_n 3, 1) := by decide +kernel
theorem dL_law_307 : decode cL_law 307 = .ok (.iconst 1, 1) := by decide +kernel
theorem dL_law_308 : decode cL_law 308 = .ok (.iadd, 1) := by decide +kernel
theorem dL_law_309 : decode cL_law 309 = .ok (.iaload, 1) := by decide +kernel
theorem dL_law_310 : decode cL_law 310 = .ok (.aload_n 0, 1) := by decide +kernel
theorem dL_law_311 : decode cL_law 311 = .ok (.iload_n 3, 1) := by decide +kernel
theorem dL_law_312 : decode cL_law 312 = .ok (.iconst 2, 1) := by decide +kernel
theorem dL_law_313 : decode cL_law 313 = .ok (.iadd, 1) := by decide +kernel
theorem dL_law_314 : decode cL_law 314 = .ok (.iaload, 1) := by decide +kernel
theorem dL_law_315 : decode cL_law 315 = .ok (.aload_n 0, 1) := by decide +kernel
theorem dL_law_316 : decode cL_law 316 = .ok (.iload_n 3, 1) := by decide +kernel
theorem dL_law_317 : decode cL_law 317 = .ok (.iconst 3, 1) := by decide +kernel
theorem dL_law_318 : decode cL_law 318 = .ok (.iadd, 1) := by decide +kernel
theorem dL_law_319 : decode cL_law 319 = .ok (.iaload, 1) := by decide +kernel
theorem dL_law_320 : decode cL_law 320 = .ok (.invokevirtual 31, 3) := by decide +kernel
theorem dL_law_323 : decode cL_law 323 = .ok (.if_icmp .eq 1341, 3) := by decide +kernel
theorem dL_law_326 : decode cL_law 326 = .ok (.iconst 0, 1) := by decide +kernel
theorem dL_law_327 : decode cL_law 327 = .ok (.ireturn, 1) := by decide +kernel
theorem dL_law_328 : decode cL_law 328 = .ok (.aload_n 1, 1) := by decide +kernel
theorem dL_law_329 : decode cL_law 329 = .ok (.aload_n 0, 1) := by decide +kernel
theorem dL_law_330 : decode cL_law 330 = .ok (.iload_n 3, 1) := by decide +kernel
theorem dL_law_331 : decode cL_law 331 = .ok (.iconst 1, 1) := by decide +kernel
theorem dL_law_332 : decode cL_law 332 = .ok (.iadd, 1) := by decide +kernel
theorem dL_law_333 : decode cL_law 333 = .ok (.iaload, 1) := by decide +kernel
theorem dL_law_334 : decode cL_law 334 = .ok (.aload_n 0, 1) := by decide +kernel
theorem dL_law_335 : decode cL_law 335 = .ok (.iload_n 3, 1) := by decide +kernel
theorem dL_law_336 : decode cL_law 336 = .ok (.iconst 2, 1) := by decide +kernel
theorem dL_law_337 : decode cL_law 337 = .ok (.iadd, 1) := by decide +kernel
theorem dL_law_338 : decode cL_law 338 = .ok (.iaload, 1) := by decide +kernel
theorem dL_law_339 : decode cL_law 339 = .ok (.aload_n 0, 1) := by decide +kernel
theorem dL_law_340 : decode cL_law 340 = .ok (.iload_n 3, 1) := by decide +kernel
theorem dL_law_341 : decode cL_law 341 = .ok (.iconst 3, 1) := by decide +kernel
theorem dL_law_342 : decode cL_law 342 = .ok (.iadd, 1) := by decide +kernel
theorem dL_law_343 : decode cL_law 343 = .ok (.iaload, 1) := by decide +kernel
theorem dL_law_344 : decode cL_law 344 = .ok (.i2l, 1) := by decide +kernel
theorem dL_law_345 : decode cL_law 345 = .ok (.bipush 32, 2) := by decide +kernel
theorem dL_law_347 : decode cL_law 347 = .ok (.lshl, 1) := by decide +kernel
theorem dL_law_348 : decode cL_law 348 = .ok (.aload_n 0, 1) := by decide +kernel
theorem dL_law_349 : decode cL_law 349 = .ok (.iload_n 3, 1) := by decide +kernel
theorem dL_law_350 : decode cL_law 350 = .ok (.iconst 4, 1) := by decide +kernel
theorem dL_law_351 : decode cL_law 351 = .ok (.iadd, 1) := by decide +kernel
theorem dL_law_352 : decode cL_law 352 = .ok (.iaload, 1) := by decide +kernel
theorem dL_law_353 : decode cL_law 353 = .ok (.i2l, 1) := by decide +kernel
theorem dL_law_354 : decode cL_law 354 = .ok (.ldc2_w 32, 3) := by decide +kernel
theorem dL_law_357 : decode cL_law 357 = .ok (.land, 1) := by decide +kernel
theorem dL_law_358 : decode cL_law 358 = .ok (.lor, 1) := by decide +kernel
theorem dL_law_359 : decode cL_law 359 = .ok (.invokevirtual 34, 3) := by decide +kernel
theorem dL_law_362 : decode cL_law 362 = .ok (.aload_n 2, 1) := by decide +kernel
theorem dL_law_363 : decode cL_law 363 = .ok (.aload_n 0, 1) := by decide +kernel
theorem dL_law_364 : decode cL_law 364 = .ok (.iload_n 3, 1) := by decide +kernel
theorem dL_law_365 : decode cL_law 365 = .ok (.iconst 1, 1) := by decide +kernel
theorem dL_law_366 : decode cL_law 366 = .ok (.iadd, 1) := by decide +kernel
theorem dL_law_367 : decode cL_law 367 = .ok (.iaload, 1) := by decide +kernel
theorem dL_law_368 : decode cL_law 368 = .ok (.aload_n 0, 1) := by decide +kernel
theorem dL_law_369 : decode cL_law 369 = .ok (.iload_n 3, 1) := by decide +kernel
theorem dL_law_370 : decode cL_law 370 = .ok (.iconst 2, 1) := by decide +kernel
theorem dL_law_371 : decode cL_law 371 = .ok (.iadd, 1) := by decide +kernel
theorem dL_law_372 : decode cL_law 372 = .ok (.iaload, 1) := by decide +kernel
theorem dL_law_373 : decode cL_law 373 = .ok (.aload_n 0, 1) := by decide +kernel
theorem dL_law_374 : decode cL_law 374 = .ok (.iload_n 3, 1) := by decide +kernel
theorem dL_law_375 : decode cL_law 375 = .ok (.iconst 3, 1) := by decide +kernel
theorem dL_law_376 : decode cL_law 376 = .ok (.iadd, 1) := by decide +kernel
theorem dL_law_377 : decode cL_law 377 = .ok (.iaload, 1) := by decide +kernel
theorem dL_law_378 : decode cL_law 378 = .ok (.i2l, 1) := by decide +kernel
