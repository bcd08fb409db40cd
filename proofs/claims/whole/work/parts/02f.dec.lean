theorem dX12_eats_24 : decode cX12_eats 24 = .ok (.invokestatic 192, 3) := by decide +kernel
theorem dX12_eats_27 : decode cX12_eats 27 = .ok (.istore_n 2, 1) := by decide +kernel
theorem dX12_eats_28 : decode cX12_eats 28 = .ok (.aload_n 0, 1) := by decide +kernel
theorem dX12_eats_29 : decode cX12_eats 29 = .ok (.getfield 7, 3) := by decide +kernel
theorem dX12_eats_32 : decode cX12_eats 32 = .ok (.iconst 5, 1) := by decide +kernel
theorem dX12_eats_33 : decode cX12_eats 33 = .ok (.iaload, 1) := by decide +kernel
theorem dX12_eats_34 : decode cX12_eats 34 = .ok (.ifCond .le 7, 3) := by decide +kernel
theorem dX12_eats_37 : decode cX12_eats 37 = .ok (.iconst 1, 1) := by decide +kernel
theorem dX12_eats_38 : decode cX12_eats 38 = .ok (.goto 4, 3) := by decide +kernel
theorem dX12_eats_41 : decode cX12_eats 41 = .ok (.iconst 0, 1) := by decide +kernel
theorem dX12_eats_42 : decode cX12_eats 42 = .ok (.istore_n 3, 1) := by decide +kernel
theorem dX12_eats_43 : decode cX12_eats 43 = .ok (.aload_n 0, 1) := by decide +kernel
theorem dX12_eats_44 : decode cX12_eats 44 = .ok (.getfield 7, 3) := by decide +kernel
theorem dX12_eats_47 : decode cX12_eats 47 = .ok (.iconst 5, 1) := by decide +kernel
theorem dX12_eats_48 : decode cX12_eats 48 = .ok (.dup2, 1) := by decide +kernel
theorem dX12_eats_49 : decode cX12_eats 49 = .ok (.iaload, 1) := by decide +kernel
theorem dX12_eats_50 : decode cX12_eats 50 = .ok (.iload_n 3, 1) := by decide +kernel
theorem dX12_eats_51 : decode cX12_eats 51 = .ok (.ifCond .eq 7, 3) := by decide +kernel
theorem dX12_eats_54 : decode cX12_eats 54 = .ok (.iconst 1, 1) := by decide +kernel
theorem dX12_eats_55 : decode cX12_eats 55 = .ok (.goto 4, 3) := by decide +kernel
theorem dX12_eats_58 : decode cX12_eats 58 = .ok (.iconst 0, 1) := by decide +kernel
theorem dX12_eats_59 : decode cX12_eats 59 = .ok (.isub, 1) := by decide +kernel
theorem dX12_eats_60 : decode cX12_eats 60 = .ok (.iastore, 1) := by decide +kernel
theorem dX12_eats_61 : decode cX12_eats 61 = .ok (.aload_n 0, 1) := by decide +kernel
theorem dX12_eats_62 : decode cX12_eats 62 = .ok (.getfield 7, 3) := by decide +kernel
theorem dX12_eats_65 : decode cX12_eats 65 = .ok (.iload_n 2, 1) := by decide +kernel
theorem dX12_eats_66 : decode cX12_eats 66 = .ok (.iconst 4, 1) := by decide +kernel
theorem dX12_eats_67 : decode cX12_eats 67 = .ok (.iadd, 1) := by decide +kernel
theorem dX12_eats_68 : decode cX12_eats 68 = .ok (.iload_n 3, 1) := by decide +kernel
theorem dX12_eats_69 : decode cX12_eats 69 = .ok (.ifCond .eq 7, 3) := by decide +kernel
theorem dX12_eats_72 : decode cX12_eats 72 = .ok (.iconst 0, 1) := by decide +kernel
theorem dX12_eats_73 : decode cX12_eats 73 = .ok (.goto 18, 3) := by decide +kernel
theorem dX12_eats_76 : decode cX12_eats 76 = .ok (.bipush 99, 2) := by decide +kernel
theorem dX12_eats_78 : decode cX12_eats 78 = .ok (.aload_n 0, 1) := by decide +kernel
theorem dX12_eats_79 : decode cX12_eats 79 = .ok (.getfield 7, 3) := by decide +kernel
theorem dX12_eats_82 : decode cX12_eats 82 = .ok (.iload_n 2, 1) := by decide +kernel
theorem dX12_eats_83 : decode cX12_eats 83 = .ok (.iconst 4, 1) := by decide +kernel
theorem dX12_eats_84 : decode cX12_eats 84 = .ok (.iadd, 1) := by decide +kernel
theorem dX12_eats_85 : decode cX12_eats 85 = .ok (.iaload, 1) := by decide +kernel
theorem dX12_eats_86 : decode cX12_eats 86 = .ok (.iconst 1, 1) := by decide +kernel
theorem dX12_eats_87 : decode cX12_eats 87 = .ok (.iadd, 1) := by decide +kernel
theorem dX12_eats_88 : decode cX12_eats 88 = .ok (.invokestatic 152, 3) := by decide +kernel
theorem dX12_eats_91 : decode cX12_eats 91 = .ok (.iastore, 1) := by decide +kernel
theorem dX12_eats_92 : decode cX12_eats 92 = .ok (.iinc 1 1, 3) := by decide +kernel
theorem dX12_eats_95 : decode cX12_eats 95 = .ok (.goto (-93), 3) := by decide +kernel
theorem dX12_eats_98 : decode cX12_eats 98 = .ok (.iconst 0, 1) := by decide +kernel
theorem dX12_eats_99 : decode cX12_eats 99 = .ok (.istore_n 1, 1) := by decide +kernel
theorem dX12_eats_100 : decode cX12_eats 100 = .ok (.iload_n 1, 1) := by decide +kernel
theorem dX12_eats_101 : decode cX12_eats 101 = .ok (.aload_n 0, 1) := by decide +kernel
theorem dX12_eats_102 : decode cX12_eats 102 = .ok (.getfield 7, 3) := by decide +kernel
theorem dX12_eats_105 : decode cX12_eats 105 = .ok (.iconst 0, 1) := by decide +kernel
theorem dX12_eats_106 : decode cX12_eats 106 = .ok (.iaload, 1) := by decide +kernel
theorem dX12_eats_107 : decode cX12_eats 107 = .ok (.if_icmp .ge 92, 3) := by decide +kernel
theorem dX12_eats_110 : decode cX12_eats 110 = .ok (.aload_n 0, 1) := by decide +kernel
theorem dX12_eats_111 : decode cX12_eats 111 = .ok (.iload_n 1, 1) := by decide +kernel
theorem dX12_eats_112 : decode cX12_eats 112 = .ok (.invokevirtual 272, 3) := by decide +kernel
theorem dX12_eats_115 : decode cX12_eats 115 = .ok (.ifCond .ne 6, 3) := by decide +kernel
theorem dX12_eats_118 : decode cX12_eats 118 = .ok (.goto 75, 3) := by decide +kernel
theorem dX12_eats_121 : decode cX12_eats 121 = .ok (.iload_n 1, 1) := by decide +kernel
theorem dX12_eats_122 : decode cX12_eats 122 = .ok (.invokestatic 192, 3) := by decide +kernel
theorem dX12_eats_125 : decode cX12_eats 125 = .ok (.istore_n 2, 1) := by decide +kernel
theorem dX12_eats_126 : decode cX12_eats 126 = .ok (.aload_n 0, 1) := by decide +kernel
theorem dX12_eats_127 : decode cX12_eats 127 = .ok (.getfield 7, 3) := by decide +kernel
theorem dX12_eats_130 : decode cX12_eats 130 = .ok (.iload_n 2, 1) := by decide +kernel
theorem dX12_eats_131 : decode cX12_eats 131 = .ok (.iconst 4, 1) := by decide +kernel
theorem dX12_eats_132 : decode cX12_eats 132 = .ok (.iadd, 1) := by decide +kernel
theorem dX12_eats_133 : decode cX12_eats 133 = .ok (.iaload, 1) := by decide +kernel
theorem dX12_eats_134 : decode cX12_eats 134 = .ok (.ifCond .le 7, 3) := by decide +kernel
theorem dX12_eats_137 : decode cX12_eats 137 = .ok (.iconst 1, 1) := by decide +kernel
theorem dX12_eats_138 : decode cX12_eats 138 = .ok (.goto 4, 3) := by decide +kernel
theorem dX12_eats_141 : decode cX12_eats 141 = .ok (.iconst 0, 1) := by decide +kernel
theorem dX12_eats_142 : decode cX12_eats 142 = .ok (.istore_n 3, 1) := by decide +kernel
theorem dX12_eats_143 : decode cX12_eats 143 = .ok (.iload_n 3, 1) := by decide +kernel
theorem dX12_eats_144 : decode cX12_eats 144 = .ok (.aload_n 0, 1) := by decide +kernel
theorem dX12_eats_145 : decode cX12_eats 145 = .ok (.iload_n 1, 1) := by decide +kernel
theorem dX12_eats_146 : decode cX12_eats 146 = .ok (.invokevirtual 287, 3) := by decide +kernel
theorem dX12_eats_149 : decode cX12_eats 149 = .ok (.iconst 1, 1) := by decide +kernel
theorem dX12_eats_150 : decode cX12_eats 150 = .ok (.iload_n 1, 1) := by decide +kernel
theorem dX12_eats_151 : decode cX12_eats 151 = .ok (.ishl, 1) := by decide +kernel
theorem dX12_eats_152 : decode cX12_eats 152 = .ok (.iconst (-1), 1) := by decide +kernel
theorem dX12_eats_153 : decode cX12_eats 153 = .ok (.ixor, 1) := by decide +kernel
theorem dX12_eats_154 : decode cX12_eats 154 = .ok (.iand, 1) := by decide +kernel
theorem dX12_eats_155 : decode cX12_eats 155 = .ok (.invokestatic 293, 3) := by decide +kernel
theorem dX12_eats_158 : decode cX12_eats 158 = .ok (.aload_n 0, 1) := by decide +kernel
theorem dX12_eats_159 : decode cX12_eats 159 = .ok (.getfield 7, 3) := by decide +kernel
theorem dX12_eats_162 : decode cX12_eats 162 = .ok (.iconst 3, 1) := by decide +kernel
theorem dX12_eats_163 : decode cX12_eats 163 = .ok (.iaload, 1) := by decide +kernel
theorem dX12_eats_164 : decode cX12_eats 164 = .ok (.if_icmp .lt 7, 3) := by decide +kernel
theorem dX12_eats_167 : decode cX12_eats 167 = .ok (.iconst 1, 1) := by decide +kernel
theorem dX12_eats_168 : decode cX12_eats 168 = .ok (.goto 4, 3) := by decide +kernel
theorem dX12_eats_171 : decode cX12_eats 171 = .ok (.iconst 0, 1) := by decide +kernel
theorem dX12_eats_172 : decode cX12_eats 172 = .ok (.iadd, 1) := by decide +kernel
theorem dX12_eats_173 : decode cX12_eats 173 = .ok (.istore_n 3, 1) := by decide +kernel
theorem dX12_eats_174 : decode cX12_eats 174 = .ok (.aload_n 0, 1) := by decide +kernel
theorem dX12_eats_175 : decode cX12_eats 175 = .ok (.getfield 7, 3) := by decide +kernel
theorem dX12_eats_178 : decode cX12_eats 178 = .ok (.iload_n 2, 1) := by decide +kernel
theorem dX12_eats_179 : decode cX12_eats 179 = .ok (.bipush 20, 2) := by decide +kernel
theorem dX12_eats_181 : decode cX12_eats 181 = .ok (.aload_n 0, 1) := by decide +kernel
theorem dX12_eats_182 : decode cX12_eats 182 = .ok (.getfield 7, 3) := by decide +kernel
theorem dX12_eats_185 : decode cX12_eats 185 = .ok (.iload_n 2, 1) := by decide +kernel
theorem dX12_eats_186 : decode cX12_eats 186 = .ok (.iaload, 1) := by decide +kernel
theorem dX12_eats_187 : decode cX12_eats 187 = .ok (.iload_n 3, 1) := by decide +kernel
theorem dX12_eats_188 : decode cX12_eats 188 = .ok (.iadd, 1) := by decide +kernel
theorem dX12_eats_189 : decode cX12_eats 189 = .ok (.invokestatic 152, 3) := by decide +kernel
theorem dX12_eats_192 : decode cX12_eats 192 = .ok (.iastore, 1) := by decide +kernel
theorem dX12_eats_193 : decode cX12_eats 193 = .ok (.iinc 1 1, 3) := by decide +kernel
theorem dX12_eats_196 : decode cX12_eats 196 = .ok (.goto (-96), 3) := by decide +kernel
theorem dX12_eats_199 : decode cX12_eats 199 = .ok (.aload_n 0, 1) := by decide +kernel
theorem dX12_eats_200 : decode cX12_eats 200 = .ok (.getfield 7, 3) := by decide +kernel
theorem dX12_eats_203 : decode cX12_eats 203 = .ok (.bipush 6, 2) := by decide +kernel
theorem dX12_eats_205 : decode cX12_eats 205 = .ok (.dup2, 1) := by decide +kernel
theorem dX12_eats_206 : decode cX12_eats 206 = .ok (.iaload, 1) := by decide +kernel
theorem dX12_eats_207 : decode cX12_eats 207 = .ok (.iconst 1, 1) := by decide +kernel
theorem dX12_eats_208 : decode cX12_eats 208 = .ok (.iadd, 1) := by decide +kernel
theorem dX12_eats_209 : decode cX12_eats 209 = .ok (.iastore, 1) := by decide +kernel
theorem dX12_eats_210 : decode cX12_eats 210 = .ok (.return_, 1) := by decide +kernel
theorem dX12_dayGoes_0 : decode cX12_dayGoes 0 = .ok (.aload_n 0, 1) := by decide +kernel
theorem dX12_dayGoes_1 : decode cX12_dayGoes 1 = .ok (.invokevirtual 290, 3) := by decide +kernel
theorem dX12_dayGoes_4 : decode cX12_dayGoes 4 = .ok (.istore_n 1, 1) := by decide +kernel
theorem dX12_dayGoes_5 : decode cX12_dayGoes 5 = .ok (.iload_n 1, 1) := by decide +kernel
theorem dX12_dayGoes_6 : decode cX12_dayGoes 6 = .ok (.iconst (-1), 1) := by decide +kernel
theorem dX12_dayGoes_7 : decode cX12_dayGoes 7 = .ok (.if_icmp .eq 9, 3) := by decide +kernel
theorem dX12_dayGoes_10 : decode cX12_dayGoes 10 = .ok (.aload_n 0, 1) := by decide +kernel
theorem dX12_dayGoes_11 : decode cX12_dayGoes 11 = .ok (.iload_n 1, 1) := by decide +kernel
theorem dX12_dayGoes_12 : decode cX12_dayGoes 12 = .ok (.invokevirtual 296, 3) := by decide +kernel
theorem dX12_dayGoes_15 : decode cX12_dayGoes 15 = .ok (.pop, 1) := by decide +kernel
theorem dX12_dayGoes_16 : decode cX12_dayGoes 16 = .ok (.aload_n 0, 1) := by decide +kernel
theorem dX12_dayGoes_17 : decode cX12_dayGoes 17 = .ok (.invokevirtual 299, 3) := by decide +kernel
theorem dX12_dayGoes_20 : decode cX12_dayGoes 20 = .ok (.iload_n 1, 1) := by decide +kernel
theorem dX12_dayGoes_21 : decode cX12_dayGoes 21 = .ok (.ireturn, 1) := by decide +kernel
theorem dX12_daysGo_0 : decode cX12_daysGo 0 = .ok (.iconst 0, 1) := by decide +kernel
theorem dX12_daysGo_1 : decode cX12_daysGo 1 = .ok (.istore_n 2, 1) := by decide +kernel
theorem dX12_daysGo_2 : decode cX12_daysGo 2 = .ok (.iload_n 2, 1) := by decide +kernel
theorem dX12_daysGo_3 : decode cX12_daysGo 3 = .ok (.iload_n 1, 1) := by decide +kernel
theorem dX12_daysGo_4 : decode cX12_daysGo 4 = .ok (.if_icmp .ge 14, 3) := by decide +kernel
theorem dX12_daysGo_7 : decode cX12_daysGo 7 = .ok (.aload_n 0, 1) := by decide +kernel
theorem dX12_daysGo_8 : decode cX12_daysGo 8 = .ok (.invokevirtual 302, 3) := by decide +kernel
theorem dX12_daysGo_11 : decode cX12_daysGo 11 = .ok (.pop, 1) := by decide +kernel
theorem dX12_daysGo_12 : decode cX12_daysGo 12 = .ok (.iinc 2 1, 3) := by decide +kernel
theorem dX12_daysGo_15 : decode cX12_daysGo 15 = .ok (.goto (-13), 3) := by decide +kernel
theorem dX12_daysGo_18 : decode cX12_daysGo 18 = .ok (.return_, 1) := by decide +kernel
theorem dX12_day_0 : decode cX12_day 0 = .ok (.iload_n 1, 1) := by decide +kernel
theorem dX12_day_1 : decode cX12_day 1 = .ok (.i2l, 1) := by decide +kernel
theorem dX12_day_2 : decode cX12_day 2 = .ok (.lconst 1, 1) := by decide +kernel
theorem dX12_day_3 : decode cX12_day 3 = .ok (.ldc2_w 305, 3) := by decide +kernel
theorem dX12_day_6 : decode cX12_day 6 = .ok (.invokestatic 307, 3) := by decide +kernel
theorem dX12_day_9 : decode cX12_day 9 = .ok (.ifCond .ne 9, 3) := by decide +kernel
theorem dX12_day_12 : decode cX12_day 12 = .ok (.aload_n 0, 1) := by decide +kernel
theorem dX12_day_13 : decode cX12_day 13 = .ok (.iconst 1, 1) := by decide +kernel
theorem dX12_day_14 : decode cX12_day 14 = .ok (.invokevirtual 97, 3) := by decide +kernel
theorem dX12_day_17 : decode cX12_day 17 = .ok (.ireturn, 1) := by decide +kernel
theorem dX12_day_18 : decode cX12_day 18 = .ok (.aload_n 0, 1) := by decide +kernel
theorem dX12_day_19 : decode cX12_day 19 = .ok (.getfield 7, 3) := by decide +kernel
theorem dX12_day_22 : decode cX12_day 22 = .ok (.bipush 6, 2) := by decide +kernel
theorem dX12_day_24 : decode cX12_day 24 = .ok (.iaload, 1) := by decide +kernel
theorem dX12_day_25 : decode cX12_day 25 = .ok (.iload_n 1, 1) := by decide +kernel
theorem dX12_day_26 : decode cX12_day 26 = .ok (.iadd, 1) := by decide +kernel
theorem dX12_day_27 : decode cX12_day 27 = .ok (.sipush 9999, 3) := by decide +kernel
theorem dX12_day_30 : decode cX12_day 30 = .ok (.if_icmp .le 10, 3) := by decide +kernel
theorem dX12_day_33 : decode cX12_day 33 = .ok (.aload_n 0, 1) := by decide +kernel
theorem dX12_day_34 : decode cX12_day 34 = .ok (.bipush 7, 2) := by decide +kernel
theorem dX12_day_36 : decode cX12_day 36 = .ok (.invokevirtual 97, 3) := by decide +kernel
theorem dX12_day_39 : decode cX12_day 39 = .ok (.ireturn, 1) := by decide +kernel
theorem dX12_day_40 : decode cX12_day 40 = .ok (.aload_n 0, 1) := by decide +kernel
theorem dX12_day_41 : decode cX12_day 41 = .ok (.iload_n 1, 1) := by decide +kernel
theorem dX12_day_42 : decode cX12_day 42 = .ok (.invokevirtual 311, 3) := by decide +kernel
theorem dX12_day_45 : decode cX12_day 45 = .ok (.aload_n 0, 1) := by decide +kernel
theorem dX12_day_46 : decode cX12_day 46 = .ok (.aload_n 0, 1) := by decide +kernel
theorem dX12_day_47 : decode cX12_day 47 = .ok (.invokevirtual 275, 3) := by decide +kernel
theorem dX12_day_50 : decode cX12_day 50 = .ok (.invokestatic 293, 3) := by decide +kernel
theorem dX12_day_53 : decode cX12_day 53 = .ok (.invokevirtual 101, 3) := by decide +kernel
theorem dX12_day_56 : decode cX12_day 56 = .ok (.ireturn, 1) := by decide +kernel
theorem dX12_cut_0 : decode cX12_cut 0 = .ok (.aload_n 0, 1) := by decide +kernel
theorem dX12_cut_1 : decode cX12_cut 1 = .ok (.iload_n 1, 1) := by decide +kernel
theorem dX12_cut_2 : decode cX12_cut 2 = .ok (.invokevirtual 266, 3) := by decide +kernel
theorem dX12_cut_5 : decode cX12_cut 5 = .ok (.ifCond .ne 9, 3) := by decide +kernel
theorem dX12_cut_8 : decode cX12_cut 8 = .ok (.aload_n 0, 1) := by decide +kernel
theorem dX12_cut_9 : decode cX12_cut 9 = .ok (.iconst 1, 1) := by decide +kernel
theorem dX12_cut_10 : decode cX12_cut 10 = .ok (.invokevirtual 97, 3) := by decide +kernel
theorem dX12_cut_13 : decode cX12_cut 13 = .ok (.ireturn, 1) := by decide +kernel
theorem dX12_cut_14 : decode cX12_cut 14 = .ok (.aload_n 0, 1) := by decide +kernel
theorem dX12_cut_15 : decode cX12_cut 15 = .ok (.iload_n 1, 1) := by decide +kernel
theorem dX12_cut_16 : decode cX12_cut 16 = .ok (.invokevirtual 314, 3) := by decide +kernel
theorem dX12_cut_19 : decode cX12_cut 19 = .ok (.ifCond .ne 10, 3) := by decide +kernel
theorem dX12_cut_22 : decode cX12_cut 22 = .ok (.aload_n 0, 1) := by decide +kernel
theorem dX12_cut_23 : decode cX12_cut 23 = .ok (.bipush 7, 2) := by decide +kernel
theorem dX12_cut_25 : decode cX12_cut 25 = .ok (.invokevirtual 97, 3) := by decide +kernel
theorem dX12_cut_28 : decode cX12_cut 28 = .ok (.ireturn, 1) := by decide +kernel
theorem dX12_cut_29 : decode cX12_cut 29 = .ok (.aload_n 0, 1) := by decide +kernel
theorem dX12_cut_30 : decode cX12_cut 30 = .ok (.iload_n 1, 1) := by decide +kernel
theorem dX12_cut_31 : decode cX12_cut 31 = .ok (.invokevirtual 296, 3) := by decide +kernel
theorem dX12_cut_34 : decode cX12_cut 34 = .ok (.pop, 1) := by decide +kernel
theorem dX12_cut_35 : decode cX12_cut 35 = .ok (.aload_n 0, 1) := by decide +kernel
theorem dX12_cut_36 : decode cX12_cut 36 = .ok (.aload_n 0, 1) := by decide +kernel
theorem dX12_cut_37 : decode cX12_cut 37 = .ok (.getfield 7, 3) := by decide +kernel
theorem dX12_cut_40 : decode cX12_cut 40 = .ok (.iconst 5, 1) := by decide +kernel
theorem dX12_cut_41 : decode cX12_cut 41 = .ok (.iaload, 1) := by decide +kernel
theorem dX12_cut_42 : decode cX12_cut 42 = .ok (.invokevirtual 101, 3) := by decide +kernel
theorem dX12_cut_45 : decode cX12_cut 45 = .ok (.ireturn, 1) := by decide +kernel
theorem dX12_passes_0 : decode cX12_passes 0 = .ok (.aload_n 0, 1) := by decide +kernel
theorem dX12_passes_1 : decode cX12_passes 1 = .ok (.iload_n 1, 1) := by decide +kernel
theorem dX12_passes_2 : decode cX12_passes 2 = .ok (.bipush 6, 2) := by decide +kernel
theorem dX12_passes_4 : decode cX12_passes 4 = .ok (.invokevirtual 269, 3) := by decide +kernel
theorem dX12_passes_7 : decode cX12_passes 7 = .ok (.iload_n 2, 1) := by decide +kernel
theorem dX12_passes_8 : decode cX12_passes 8 = .ok (.if_icmp .eq 7, 3) := by decide +kernel
theorem dX12_passes_11 : decode cX12_passes 11 = .ok (.iconst 1, 1) := by decide +kernel
theorem dX12_passes_12 : decode cX12_passes 12 = .ok (.goto 4, 3) := by decide +kernel
theorem dX12_passes_15 : decode cX12_passes 15 = .ok (.iconst 0, 1) := by decide +kernel
theorem dX12_passes_16 : decode cX12_passes 16 = .ok (.istore_n 3, 1) := by decide +kernel
theorem dX12_passes_17 : decode cX12_passes 17 = .ok (.aload_n 0, 1) := by decide +kernel
theorem dX12_passes_18 : decode cX12_passes 18 = .ok (.getfield 7, 3) := by decide +kernel
theorem dX12_passes_21 : decode cX12_passes 21 = .ok (.iload_n 1, 1) := by decide +kernel
theorem dX12_passes_22 : decode cX12_passes 22 = .ok (.invokestatic 192, 3) := by decide +kernel
theorem dX12_passes_25 : decode cX12_passes 25 = .ok (.bipush 6, 2) := by decide +kernel
theorem dX12_passes_27 : decode cX12_passes 27 = .ok (.iadd, 1) := by decide +kernel
theorem dX12_passes_28 : decode cX12_passes 28 = .ok (.iload_n 2, 1) := by decide +kernel
theorem dX12_passes_29 : decode cX12_passes 29 = .ok (.iastore, 1) := by decide +kernel
theorem dX12_passes_30 : decode cX12_passes 30 = .ok (.iload_n 3, 1) := by decide +kernel
theorem dX12_passes_31 : decode cX12_passes 31 = .ok (.ireturn, 1) := by decide +kernel
theorem dX12_butter_0 : decode cX12_butter 0 = .ok (.aload_n 0, 1) := by decide +kernel
theorem dX12_butter_1 : decode cX12_butter 1 = .ok (.iload_n 1, 1) := by decide +kernel
theorem dX12_butter_2 : decode cX12_butter 2 = .ok (.iload_n 2, 1) := by decide +kernel
theorem dX12_butter_3 : decode cX12_butter 3 = .ok (.invokevirtual 317, 3) := by decide +kernel
theorem dX12_butter_6 : decode cX12_butter 6 = .ok (.ifCond .ne 9, 3) := by decide +kernel
theorem dX12_butter_9 : decode cX12_butter 9 = .ok (.aload_n 0, 1) := by decide +kernel
theorem dX12_butter_10 : decode cX12_butter 10 = .ok (.iconst 1, 1) := by decide +kernel
theorem dX12_butter_11 : decode cX12_butter 11 = .ok (.invokevirtual 97, 3) := by decide +kernel
theorem dX12_butter_14 : decode cX12_butter 14 = .ok (.ireturn, 1) := by decide +kernel
theorem dX12_butter_15 : decode cX12_butter 15 = .ok (.aload_n 0, 1) := by decide +kernel
theorem dX12_butter_16 : decode cX12_butter 16 = .ok (.iload_n 1, 1) := by decide +kernel
theorem dX12_butter_17 : decode cX12_butter 17 = .ok (.bipush 6, 2) := by decide +kernel
theorem dX12_butter_19 : decode cX12_butter 19 = .ok (.invokevirtual 269, 3) := by decide +kernel
theorem dX12_butter_22 : decode cX12_butter 22 = .ok (.istore_n 3, 1) := by decide +kernel
theorem dX12_butter_23 : decode cX12_butter 23 = .ok (.aload_n 0, 1) := by decide +kernel
theorem dX12_butter_24 : decode cX12_butter 24 = .ok (.iload_n 1, 1) := by decide +kernel
theorem dX12_butter_25 : decode cX12_butter 25 = .ok (.iload_n 2, 1) := by decide +kernel
theorem dX12_butter_26 : decode cX12_butter 26 = .ok (.invokevirtual 320, 3) := by decide +kernel
theorem dX12_butter_29 : decode cX12_butter 29 = .ok (.ifCond .ne 10, 3) := by decide +kernel
theorem dX12_butter_32 : decode cX12_butter 32 = .ok (.aload_n 0, 1) := by decide +kernel
theorem dX12_butter_33 : decode cX12_butter 33 = .ok (.bipush 7, 2) := by decide +kernel
theorem dX12_butter_35 : decode cX12_butter 35 = .ok (.invokevirtual 97, 3) := by decide +kernel
theorem dX12_butter_38 : decode cX12_butter 38 = .ok (.ireturn, 1) := by decide +kernel
theorem dX12_butter_39 : decode cX12_butter 39 = .ok (.aload_n 0, 1) := by decide +kernel
theorem dX12_butter_40 : decode cX12_butter 40 = .ok (.iload_n 3, 1) := by decide +kernel
theorem dX12_butter_41 : decode cX12_butter 41 = .ok (.iconst (-1), 1) := by decide +kernel
theorem dX12_butter_42 : decode cX12_butter 42 = .ok (.if_icmp .ne 12, 3) := by decide +kernel
theorem dX12_butter_45 : decode cX12_butter 45 = .ok (.aload_n 0, 1) := by decide +kernel
theorem dX12_butter_46 : decode cX12_butter 46 = .ok (.getfield 7, 3) := by decide +kernel
theorem dX12_butter_49 : decode cX12_butter 49 = .ok (.iconst 0, 1) := by decide +kernel
theorem dX12_butter_50 : decode cX12_butter 50 = .ok (.iaload, 1) := by decide +kernel
theorem dX12_butter_51 : decode cX12_butter 51 = .ok (.goto 4, 3) := by decide +kernel
theorem dX12_butter_54 : decode cX12_butter 54 = .ok (.iload_n 3, 1) := by decide +kernel
theorem dX12_butter_55 : decode cX12_butter 55 = .ok (.invokevirtual 101, 3) := by decide +kernel
theorem dX12_butter_58 : decode cX12_butter 58 = .ok (.ireturn, 1) := by decide +kernel
theorem dX12_fedBy_0 : decode cX12_fedBy 0 = .ok (.aload_n 0, 1) := by decide +kernel
theorem dX12_fedBy_1 : decode cX12_fedBy 1 = .ok (.iload_n 1, 1) := by decide +kernel
theorem dX12_fedBy_2 : decode cX12_fedBy 2 = .ok (.invokevirtual 272, 3) := by decide +kernel
theorem dX12_fedBy_5 : decode cX12_fedBy 5 = .ok (.ifCond .eq 12, 3) := by decide +kernel
theorem dX12_fedBy_8 : decode cX12_fedBy 8 = .ok (.aload_n 0, 1) := by decide +kernel
theorem dX12_fedBy_9 : decode cX12_fedBy 9 = .ok (.iload_n 1, 1) := by decide +kernel
theorem dX12_fedBy_10 : decode cX12_fedBy 10 = .ok (.iconst 4, 1) := by decide +kernel
theorem dX12_fedBy_11 : decode cX12_fedBy 11 = .ok (.invokevirtual 269, 3) := by decide +kernel
theorem dX12_fedBy_14 : decode cX12_fedBy 14 = .ok (.ifCond .ne 5, 3) := by decide +kernel
theorem dX12_fedBy_17 : decode cX12_fedBy 17 = .ok (.iconst 0, 1) := by decide +kernel
theorem dX12_fedBy_18 : decode cX12_fedBy 18 = .ok (.ireturn, 1) := by decide +kernel
theorem dX12_fedBy_19 : decode cX12_fedBy 19 = .ok (.aload_n 0, 1) := by decide +kernel
theorem dX12_fedBy_20 : decode cX12_fedBy 20 = .ok (.getfield 7, 3) := by decide +kernel
theorem dX12_fedBy_23 : decode cX12_fedBy 23 = .ok (.iload_n 1, 1) := by decide +kernel
theorem dX12_fedBy_24 : decode cX12_fedBy 24 = .ok (.invokestatic 192, 3) := by decide +kernel
theorem dX12_fedBy_27 : decode cX12_fedBy 27 = .ok (.iconst 4, 1) := by decide +kernel
theorem dX12_fedBy_28 : decode cX12_fedBy 28 = .ok (.iadd, 1) := by decide +kernel
theorem dX12_fedBy_29 : decode cX12_fedBy 29 = .ok (.iconst 0, 1) := by decide +kernel
theorem dX12_fedBy_30 : decode cX12_fedBy 30 = .ok (.iastore, 1) := by decide +kernel
theorem dX12_fedBy_31 : decode cX12_fedBy 31 = .ok (.iconst 1, 1) := by decide +kernel
theorem dX12_fedBy_32 : decode cX12_fedBy 32 = .ok (.ireturn, 1) := by decide +kernel
theorem dX12_soup_0 : decode cX12_soup 0 = .ok (.aload_n 0, 1) := by decide +kernel
theorem dX12_soup_1 : decode cX12_soup 1 = .ok (.iload_n 1, 1) := by decide +kernel
theorem dX12_soup_2 : decode cX12_soup 2 = .ok (.invokevirtual 266, 3) := by decide +kernel
theorem dX12_soup_5 : decode cX12_soup 5 = .ok (.ifCond .ne 9, 3) := by decide +kernel
theorem dX12_soup_8 : decode cX12_soup 8 = .ok (.aload_n 0, 1) := by decide +kernel
theorem dX12_soup_9 : decode cX12_soup 9 = .ok (.iconst 1, 1) := by decide +kernel
theorem dX12_soup_10 : decode cX12_soup 10 = .ok (.invokevirtual 97, 3) := by decide +kernel
theorem dX12_soup_13 : decode cX12_soup 13 = .ok (.ireturn, 1) := by decide +kernel
theorem dX12_soup_14 : decode cX12_soup 14 = .ok (.aload_n 0, 1) := by decide +kernel
theorem dX12_soup_15 : decode cX12_soup 15 = .ok (.iload_n 1, 1) := by decide +kernel
theorem dX12_soup_16 : decode cX12_soup 16 = .ok (.iconst 4, 1) := by decide +kernel
theorem dX12_soup_17 : decode cX12_soup 17 = .ok (.invokevirtual 269, 3) := by decide +kernel
theorem dX12_soup_20 : decode cX12_soup 20 = .ok (.istore_n 2, 1) := by decide +kernel
theorem dX12_soup_21 : decode cX12_soup 21 = .ok (.aload_n 0, 1) := by decide +kernel
theorem dX12_soup_22 : decode cX12_soup 22 = .ok (.iload_n 1, 1) := by decide +kernel
theorem dX12_soup_23 : decode cX12_soup 23 = .ok (.invokevirtual 323, 3) := by decide +kernel
theorem dX12_soup_26 : decode cX12_soup 26 = .ok (.ifCond .eq 11, 3) := by decide +kernel
theorem dX12_soup_29 : decode cX12_soup 29 = .ok (.aload_n 0, 1) := by decide +kernel
theorem dX12_soup_30 : decode cX12_soup 30 = .ok (.iload_n 2, 1) := by decide +kernel
theorem dX12_soup_31 : decode cX12_soup 31 = .ok (.invokevirtual 101, 3) := by decide +kernel
theorem dX12_soup_34 : decode cX12_soup 34 = .ok (.goto 9, 3) := by decide +kernel
theorem dX12_soup_37 : decode cX12_soup 37 = .ok (.aload_n 0, 1) := by decide +kernel
theorem dX12_soup_38 : decode cX12_soup 38 = .ok (.bipush 7, 2) := by decide +kernel
theorem dX12_soup_40 : decode cX12_soup 40 = .ok (.invokevirtual 97, 3) := by decide +kernel
theorem dX12_soup_43 : decode cX12_soup 43 = .ok (.ireturn, 1) := by decide +kernel
theorem dX12_bake_0 : decode cX12_bake 0 = .ok (.iload_n 1, 1) := by decide +kernel
theorem dX12_bake_1 : decode cX12_bake 1 = .ok (.i2l, 1) := by decide +kernel
theorem dX12_bake_2 : decode cX12_bake 2 = .ok (.lconst 1, 1) := by decide +kernel
theorem dX12_bake_3 : decode cX12_bake 3 = .ok (.ldc2_w 326, 3) := by decide +kernel
theorem dX12_bake_6 : decode cX12_bake 6 = .ok (.invokestatic 307, 3) := by decide +kernel
theorem dX12_bake_9 : decode cX12_bake 9 = .ok (.ifCond .ne 9, 3) := by decide +kernel
theorem dX12_bake_12 : decode cX12_bake 12 = .ok (.aload_n 0, 1) := by decide +kernel
theorem dX12_bake_13 : decode cX12_bake 13 = .ok (.iconst 1, 1) := by decide +kernel
theorem dX12_bake_14 : decode cX12_bake 14 = .ok (.invokevirtual 97, 3) := by decide +kernel
theorem dX12_bake_17 : decode cX12_bake 17 = .ok (.ireturn, 1) := by decide +kernel
theorem dX12_bake_18 : decode cX12_bake 18 = .ok (.aload_n 0, 1) := by decide +kernel
theorem dX12_bake_19 : decode cX12_bake 19 = .ok (.getfield 7, 3) := by decide +kernel
theorem dX12_bake_22 : decode cX12_bake 22 = .ok (.iconst 4, 1) := by decide +kernel
theorem dX12_bake_23 : decode cX12_bake 23 = .ok (.iaload, 1) := by decide +kernel
theorem dX12_bake_24 : decode cX12_bake 24 = .ok (.istore_n 2, 1) := by decide +kernel
theorem dX12_bake_25 : decode cX12_bake 25 = .ok (.aload_n 0, 1) := by decide +kernel
theorem dX12_bake_26 : decode cX12_bake 26 = .ok (.getfield 7, 3) := by decide +kernel
theorem dX12_bake_29 : decode cX12_bake 29 = .ok (.iconst 4, 1) := by decide +kernel
theorem dX12_bake_30 : decode cX12_bake 30 = .ok (.iload_n 1, 1) := by decide +kernel
theorem dX12_bake_31 : decode cX12_bake 31 = .ok (.iastore, 1) := by decide +kernel
theorem dX12_bake_32 : decode cX12_bake 32 = .ok (.aload_n 0, 1) := by decide +kernel
theorem dX12_bake_33 : decode cX12_bake 33 = .ok (.iload_n 2, 1) := by decide +kernel
theorem dX12_bake_34 : decode cX12_bake 34 = .ok (.invokevirtual 101, 3) := by decide +kernel
theorem dX12_bake_37 : decode cX12_bake 37 = .ok (.ireturn, 1) := by decide +kernel
theorem dX12_sway_0 : decode cX12_sway 0 = .ok (.aload_n 0, 1) := by decide +kernel
theorem dX12_sway_1 : decode cX12_sway 1 = .ok (.iload_n 1, 1) := by decide +kernel
theorem dX12_sway_2 : decode cX12_sway 2 = .ok (.invokevirtual 266, 3) := by decide +kernel
theorem dX12_sway_5 : decode cX12_sway 5 = .ok (.ifCond .eq 15, 3) := by decide +kernel
theorem dX12_sway_8 : decode cX12_sway 8 = .ok (.iload_n 2, 1) := by decide +kernel
theorem dX12_sway_9 : decode cX12_sway 9 = .ok (.i2l, 1) := by decide +kernel
theorem dX12_sway_10 : decode cX12_sway 10 = .ok (.lconst 0, 1) := by decide +kernel
theorem dX12_sway_11 : decode cX12_sway 11 = .ok (.ldc2_w 328, 3) := by decide +kernel
theorem dX12_sway_14 : decode cX12_sway 14 = .ok (.invokestatic 307, 3) := by decide +kernel
theorem dX12_sway_17 : decode cX12_sway 17 = .ok (.ifCond .ne 9, 3) := by decide +kernel
theorem dX12_sway_20 : decode cX12_sway 20 = .ok (.aload_n 0, 1) := by decide +kernel
theorem dX12_sway_21 : decode cX12_sway 21 = .ok (.iconst 1, 1) := by decide +kernel
theorem dX12_sway_22 : decode cX12_sway 22 = .ok (.invokevirtual 97, 3) := by decide +kernel
theorem dX12_sway_25 : decode cX12_sway 25 = .ok (.ireturn, 1) := by decide +kernel
theorem dX12_sway_26 : decode cX12_sway 26 = .ok (.aload_n 0, 1) := by decide +kernel
theorem dX12_sway_27 : decode cX12_sway 27 = .ok (.iload_n 1, 1) := by decide +kernel
theorem dX12_sway_28 : decode cX12_sway 28 = .ok (.invokevirtual 272, 3) := by decide +kernel
theorem dX12_sway_31 : decode cX12_sway 31 = .ok (.ifCond .ne 10, 3) := by decide +kernel
theorem dX12_sway_34 : decode cX12_sway 34 = .ok (.aload_n 0, 1) := by decide +kernel
theorem dX12_sway_35 : decode cX12_sway 35 = .ok (.bipush 7, 2) := by decide +kernel
theorem dX12_sway_37 : decode cX12_sway 37 = .ok (.invokevirtual 97, 3) := by decide +kernel
theorem dX12_sway_40 : decode cX12_sway 40 = .ok (.ireturn, 1) := by decide +kernel
theorem dX12_sway_41 : decode cX12_sway 41 = .ok (.aload_n 0, 1) := by decide +kernel
theorem dX12_sway_42 : decode cX12_sway 42 = .ok (.iload_n 1, 1) := by decide +kernel
theorem dX12_sway_43 : decode cX12_sway 43 = .ok (.iconst 0, 1) := by decide +kernel
theorem dX12_sway_44 : decode cX12_sway 44 = .ok (.invokevirtual 269, 3) := by decide +kernel
theorem dX12_sway_47 : decode cX12_sway 47 = .ok (.istore_n 3, 1) := by decide +kernel
theorem dX12_sway_48 : decode cX12_sway 48 = .ok (.aload_n 0, 1) := by decide +kernel
theorem dX12_sway_49 : decode cX12_sway 49 = .ok (.getfield 7, 3) := by decide +kernel
theorem dX12_sway_52 : decode cX12_sway 52 = .ok (.iload_n 1, 1) := by decide +kernel
theorem dX12_sway_53 : decode cX12_sway 53 = .ok (.invokestatic 192, 3) := by decide +kernel
theorem dX12_sway_56 : decode cX12_sway 56 = .ok (.iload_n 2, 1) := by decide +kernel
theorem dX12_sway_57 : decode cX12_sway 57 = .ok (.iastore, 1) := by decide +kernel
theorem dX12_sway_58 : decode cX12_sway 58 = .ok (.aload_n 0, 1) := by decide +kernel
theorem dX12_sway_59 : decode cX12_sway 59 = .ok (.iload_n 3, 1) := by decide +kernel
theorem dX12_sway_60 : decode cX12_sway 60 = .ok (.invokevirtual 101, 3) := by decide +kernel
theorem dX12_sway_63 : decode cX12_sway 63 = .ok (.ireturn, 1) := by decide +kernel
theorem dX12_sit_0 : decode cX12_sit 0 = .ok (.iload_n 1, 1) := by decide +kernel
theorem dX12_sit_1 : decode cX12_sit 1 = .ok (.i2l, 1) := by decide +kernel
theorem dX12_sit_2 : decode cX12_sit 2 = .ok (.lconst 0, 1) := by decide +kernel
theorem dX12_sit_3 : decode cX12_sit 3 = .ok (.ldc2_w 328, 3) := by decide +kernel
theorem dX12_sit_6 : decode cX12_sit 6 = .ok (.invokestatic 307, 3) := by decide +kernel
theorem dX12_sit_9 : decode cX12_sit 9 = .ok (.ifCond .eq 40, 3) := by decide +kernel
theorem dX12_sit_12 : decode cX12_sit 12 = .ok (.iload_n 2, 1) := by decide +kernel
theorem dX12_sit_13 : decode cX12_sit 13 = .ok (.i2l, 1) := by decide +kernel
theorem dX12_sit_14 : decode cX12_sit 14 = .ok (.lconst 0, 1) := by decide +kernel
theorem dX12_sit_15 : decode cX12_sit 15 = .ok (.ldc2_w 328, 3) := by decide +kernel
theorem dX12_sit_18 : decode cX12_sit 18 = .ok (.invokestatic 307, 3) := by decide +kernel
theorem dX12_sit_21 : decode cX12_sit 21 = .ok (.ifCond .eq 28, 3) := by decide +kernel
theorem dX12_sit_24 : decode cX12_sit 24 = .ok (.iload_n 3, 1) := by decide +kernel
theorem dX12_sit_25 : decode cX12_sit 25 = .ok (.i2l, 1) := by decide +kernel
theorem dX12_sit_26 : decode cX12_sit 26 = .ok (.lconst 0, 1) := by decide +kernel
theorem dX12_sit_27 : decode cX12_sit 27 = .ok (.ldc2_w 328, 3) := by decide +kernel
theorem dX12_sit_30 : decode cX12_sit 30 = .ok (.invokestatic 307, 3) := by decide +kernel
theorem dX12_sit_33 : decode cX12_sit 33 = .ok (.ifCond .eq 16, 3) := by decide +kernel
theorem dX12_sit_36 : decode cX12_sit 36 = .ok (.iload 4, 2) := by decide +kernel
theorem dX12_sit_38 : decode cX12_sit 38 = .ok (.i2l, 1) := by decide +kernel
theorem dX12_sit_39 : decode cX12_sit 39 = .ok (.lconst 0, 1) := by decide +kernel
theorem dX12_sit_40 : decode cX12_sit 40 = .ok (.ldc2_w 330, 3) := by decide +kernel
theorem dX12_sit_43 : decode cX12_sit 43 = .ok (.invokestatic 307, 3) := by decide +kernel
theorem dX12_sit_46 : decode cX12_sit 46 = .ok (.ifCond .ne 9, 3) := by decide +kernel
theorem dX12_sit_49 : decode cX12_sit 49 = .ok (.aload_n 0, 1) := by decide +kernel
theorem dX12_sit_50 : decode cX12_sit 50 = .ok (.iconst 1, 1) := by decide +kernel
theorem dX12_sit_51 : decode cX12_sit 51 = .ok (.invokevirtual 97, 3) := by decide +kernel
theorem dX12_sit_54 : decode cX12_sit 54 = .ok (.ireturn, 1) := by decide +kernel
theorem dX12_sit_55 : decode cX12_sit 55 = .ok (.aload_n 0, 1) := by decide +kernel
theorem dX12_sit_56 : decode cX12_sit 56 = .ok (.getfield 7, 3) := by decide +kernel
theorem dX12_sit_59 : decode cX12_sit 59 = .ok (.iconst 0, 1) := by decide +kernel
theorem dX12_sit_60 : decode cX12_sit 60 = .ok (.iaload, 1) := by decide +kernel
theorem dX12_sit_61 : decode cX12_sit 61 = .ok (.istore 5, 2) := by decide +kernel
theorem dX12_sit_63 : decode cX12_sit 63 = .ok (.iload 5, 2) := by decide +kernel
theorem dX12_sit_65 : decode cX12_sit 65 = .ok (.bipush 7, 2) := by decide +kernel
theorem dX12_sit_67 : decode cX12_sit 67 = .ok (.if_icmp .ne 9, 3) := by decide +kernel
theorem dX12_sit_70 : decode cX12_sit 70 = .ok (.aload_n 0, 1) := by decide +kernel
theorem dX12_sit_71 : decode cX12_sit 71 = .ok (.iconst 4, 1) := by decide +kernel
theorem dX12_sit_72 : decode cX12_sit 72 = .ok (.invokevirtual 97, 3) := by decide +kernel
theorem dX12_sit_75 : decode cX12_sit 75 = .ok (.ireturn, 1) := by decide +kernel
theorem dX12_sit_76 : decode cX12_sit 76 = .ok (.iload 5, 2) := by decide +kernel
theorem dX12_sit_78 : decode cX12_sit 78 = .ok (.invokestatic 192, 3) := by decide +kernel
theorem dX12_sit_81 : decode cX12_sit 81 = .ok (.istore 6, 2) := by decide +kernel
theorem dX12_sit_83 : decode cX12_sit 83 = .ok (.aload_n 0, 1) := by decide +kernel
theorem dX12_sit_84 : decode cX12_sit 84 = .ok (.getfield 7, 3) := by decide +kernel
theorem dX12_sit_87 : decode cX12_sit 87 = .ok (.iconst 0, 1) := by decide +kernel
theorem dX12_sit_88 : decode cX12_sit 88 = .ok (.dup2, 1) := by decide +kernel
theorem dX12_sit_89 : decode cX12_sit 89 = .ok (.iaload, 1) := by decide +kernel
theorem dX12_sit_90 : decode cX12_sit 90 = .ok (.iconst 1, 1) := by decide +kernel
theorem dX12_sit_91 : decode cX12_sit 91 = .ok (.iadd, 1) := by decide +kernel
theorem dX12_sit_92 : decode cX12_sit 92 = .ok (.iastore, 1) := by decide +kernel
theorem dX12_sit_93 : decode cX12_sit 93 = .ok (.aload_n 0, 1) := by decide +kernel
theorem dX12_sit_94 : decode cX12_sit 94 = .ok (.getfield 7, 3) := by decide +kernel
theorem dX12_sit_97 : decode cX12_sit 97 = .ok (.iload 6, 2) := by decide +kernel
theorem dX12_sit_99 : decode cX12_sit 99 = .ok (.iload_n 1, 1) := by decide +kernel
theorem dX12_sit_100 : decode cX12_sit 100 = .ok (.iastore, 1) := by decide +kernel
theorem dX12_sit_101 : decode cX12_sit 101 = .ok (.aload_n 0, 1) := by decide +kernel
theorem dX12_sit_102 : decode cX12_sit 102 = .ok (.getfield 7, 3) := by decide +kernel
theorem dX12_sit_105 : decode cX12_sit 105 = .ok (.iload 6, 2) := by decide +kernel
theorem dX12_sit_107 : decode cX12_sit 107 = .ok (.iconst 1, 1) := by decide +kernel
theorem dX12_sit_108 : decode cX12_sit 108 = .ok (.iadd, 1) := by decide +kernel
theorem dX12_sit_109 : decode cX12_sit 109 = .ok (.iload_n 2, 1) := by decide +kernel
theorem dX12_sit_110 : decode cX12_sit 110 = .ok (.iastore, 1) := by decide +kernel
theorem dX12_sit_111 : decode cX12_sit 111 = .ok (.aload_n 0, 1) := by decide +kernel
theorem dX12_sit_112 : decode cX12_sit 112 = .ok (.getfield 7, 3) := by decide +kernel
theorem dX12_sit_115 : decode cX12_sit 115 = .ok (.iload 6, 2) := by decide +kernel
theorem dX12_sit_117 : decode cX12_sit 117 = .ok (.iconst 2, 1) := by decide +kernel
theorem dX12_sit_118 : decode cX12_sit 118 = .ok (.iadd, 1) := by decide +kernel
theorem dX12_sit_119 : decode cX12_sit 119 = .ok (.iload_n 3, 1) := by decide +kernel
theorem dX12_sit_120 : decode cX12_sit 120 = .ok (.iastore, 1) := by decide +kernel
theorem dX12_sit_121 : decode cX12_sit 121 = .ok (.aload_n 0, 1) := by decide +kernel
theorem dX12_sit_122 : decode cX12_sit 122 = .ok (.getfield 7, 3) := by decide +kernel
theorem dX12_sit_125 : decode cX12_sit 125 = .ok (.iload 6, 2) := by decide +kernel
theorem dX12_sit_127 : decode cX12_sit 127 = .ok (.iconst 3, 1) := by decide +kernel
theorem dX12_sit_128 : decode cX12_sit 128 = .ok (.iadd, 1) := by decide +kernel
theorem dX12_sit_129 : decode cX12_sit 129 = .ok (.iload 4, 2) := by decide +kernel
theorem dX12_sit_131 : decode cX12_sit 131 = .ok (.iastore, 1) := by decide +kernel
theorem dX12_sit_132 : decode cX12_sit 132 = .ok (.aload_n 0, 1) := by decide +kernel
theorem dX12_sit_133 : decode cX12_sit 133 = .ok (.getfield 7, 3) := by decide +kernel
theorem dX12_sit_136 : decode cX12_sit 136 = .ok (.iload 6, 2) := by decide +kernel
theorem dX12_sit_138 : decode cX12_sit 138 = .ok (.iconst 4, 1) := by decide +kernel
theorem dX12_sit_139 : decode cX12_sit 139 = .ok (.iadd, 1) := by decide +kernel
theorem dX12_sit_140 : decode cX12_sit 140 = .ok (.iconst 0, 1) := by decide +kernel
theorem dX12_sit_141 : decode cX12_sit 141 = .ok (.iastore, 1) := by decide +kernel
theorem dX12_sit_142 : decode cX12_sit 142 = .ok (.aload_n 0, 1) := by decide +kernel
theorem dX12_sit_143 : decode cX12_sit 143 = .ok (.getfield 7, 3) := by decide +kernel
theorem dX12_sit_146 : decode cX12_sit 146 = .ok (.iload 6, 2) := by decide +kernel
theorem dX12_sit_148 : decode cX12_sit 148 = .ok (.iconst 5, 1) := by decide +kernel
theorem dX12_sit_149 : decode cX12_sit 149 = .ok (.iadd, 1) := by decide +kernel
theorem dX12_sit_150 : decode cX12_sit 150 = .ok (.iconst 1, 1) := by decide +kernel
theorem dX12_sit_151 : decode cX12_sit 151 = .ok (.iastore, 1) := by decide +kernel
theorem dX12_sit_152 : decode cX12_sit 152 = .ok (.aload_n 0, 1) := by decide +kernel
theorem dX12_sit_153 : decode cX12_sit 153 = .ok (.getfield 7, 3) := by decide +kernel
theorem dX12_sit_156 : decode cX12_sit 156 = .ok (.iload 6, 2) := by decide +kernel
theorem dX12_sit_158 : decode cX12_sit 158 = .ok (.bipush 6, 2) := by decide +kernel
theorem dX12_sit_160 : decode cX12_sit 160 = .ok (.iadd, 1) := by decide +kernel
theorem dX12_sit_161 : decode cX12_sit 161 = .ok (.iconst (-1), 1) := by decide +kernel
theorem dX12_sit_162 : decode cX12_sit 162 = .ok (.iastore, 1) := by decide +kernel
theorem dX12_sit_163 : decode cX12_sit 163 = .ok (.aload_n 0, 1) := by decide +kernel
theorem dX12_sit_164 : decode cX12_sit 164 = .ok (.getfield 13, 3) := by decide +kernel
theorem dX12_sit_167 : decode cX12_sit 167 = .ok (.iload 5, 2) := by decide +kernel
theorem dX12_sit_169 : decode cX12_sit 169 = .ok (.lconst 0, 1) := by decide +kernel
theorem dX12_sit_170 : decode cX12_sit 170 = .ok (.lastore, 1) := by decide +kernel
theorem dX12_sit_171 : decode cX12_sit 171 = .ok (.aload_n 0, 1) := by decide +kernel
theorem dX12_sit_172 : decode cX12_sit 172 = .ok (.iload 5, 2) := by decide +kernel
theorem dX12_sit_174 : decode cX12_sit 174 = .ok (.invokevirtual 101, 3) := by decide +kernel
theorem dX12_sit_177 : decode cX12_sit 177 = .ok (.ireturn, 1) := by decide +kernel
theorem dX12_come_0 : decode cX12_come 0 = .ok (.aload_n 0, 1) := by decide +kernel
theorem dX12_come_1 : decode cX12_come 1 = .ok (.iload_n 1, 1) := by decide +kernel
theorem dX12_come_2 : decode cX12_come 2 = .ok (.invokevirtual 266, 3) := by decide +kernel
theorem dX12_come_5 : decode cX12_come 5 = .ok (.ifCond .ne 9, 3) := by decide +kernel
theorem dX12_come_8 : decode cX12_come 8 = .ok (.aload_n 0, 1) := by decide +kernel
theorem dX12_come_9 : decode cX12_come 9 = .ok (.iconst 1, 1) := by decide +kernel
theorem dX12_come_10 : decode cX12_come 10 = .ok (.invokevirtual 97, 3) := by decide +kernel
theorem dX12_come_13 : decode cX12_come 13 = .ok (.ireturn, 1) := by decide +kernel
theorem dX12_come_14 : decode cX12_come 14 = .ok (.aload_n 0, 1) := by decide +kernel
theorem dX12_come_15 : decode cX12_come 15 = .ok (.iload_n 1, 1) := by decide +kernel
theorem dX12_come_16 : decode cX12_come 16 = .ok (.invokevirtual 272, 3) := by decide +kernel
theorem dX12_come_19 : decode cX12_come 19 = .ok (.ifCond .eq 10, 3) := by decide +kernel
theorem dX12_come_22 : decode cX12_come 22 = .ok (.aload_n 0, 1) := by decide +kernel
theorem dX12_come_23 : decode cX12_come 23 = .ok (.bipush 7, 2) := by decide +kernel
theorem dX12_come_25 : decode cX12_come 25 = .ok (.invokevirtual 97, 3) := by decide +kernel
theorem dX12_come_28 : decode cX12_come 28 = .ok (.ireturn, 1) := by decide +kernel
theorem dX12_come_29 : decode cX12_come 29 = .ok (.iload_n 1, 1) := by decide +kernel
theorem dX12_come_30 : decode cX12_come 30 = .ok (.invokestatic 192, 3) := by decide +kernel
theorem dX12_come_33 : decode cX12_come 33 = .ok (.istore_n 2, 1) := by decide +kernel
theorem dX12_come_34 : decode cX12_come 34 = .ok (.aload_n 0, 1) := by decide +kernel
theorem dX12_come_35 : decode cX12_come 35 = .ok (.getfield 7, 3) := by decide +kernel
theorem dX12_come_38 : decode cX12_come 38 = .ok (.iload_n 2, 1) := by decide +kernel
theorem dX12_come_39 : decode cX12_come 39 = .ok (.iconst 0, 1) := by decide +kernel
theorem dX12_come_40 : decode cX12_come 40 = .ok (.iastore, 1) := by decide +kernel
theorem dX12_come_41 : decode cX12_come 41 = .ok (.aload_n 0, 1) := by decide +kernel
theorem dX12_come_42 : decode cX12_come 42 = .ok (.getfield 7, 3) := by decide +kernel
theorem dX12_come_45 : decode cX12_come 45 = .ok (.iload_n 2, 1) := by decide +kernel
theorem dX12_come_46 : decode cX12_come 46 = .ok (.iconst 4, 1) := by decide +kernel
theorem dX12_come_47 : decode cX12_come 47 = .ok (.iadd, 1) := by decide +kernel
theorem dX12_come_48 : decode cX12_come 48 = .ok (.iconst 0, 1) := by decide +kernel
theorem dX12_come_49 : decode cX12_come 49 = .ok (.iastore, 1) := by decide +kernel
theorem dX12_come_50 : decode cX12_come 50 = .ok (.aload_n 0, 1) := by decide +kernel
theorem dX12_come_51 : decode cX12_come 51 = .ok (.getfield 7, 3) := by decide +kernel
theorem dX12_come_54 : decode cX12_come 54 = .ok (.iload_n 2, 1) := by decide +kernel
theorem dX12_come_55 : decode cX12_come 55 = .ok (.iconst 5, 1) := by decide +kernel
theorem dX12_come_56 : decode cX12_come 56 = .ok (.iadd, 1) := by decide +kernel
theorem dX12_come_57 : decode cX12_come 57 = .ok (.iconst 1, 1) := by decide +kernel
theorem dX12_come_58 : decode cX12_come 58 = .ok (.iastore, 1) := by decide +kernel
theorem dX12_come_59 : decode cX12_come 59 = .ok (.aload_n 0, 1) := by decide +kernel
theorem dX12_come_60 : decode cX12_come 60 = .ok (.aload_n 0, 1) := by decide +kernel
theorem dX12_come_61 : decode cX12_come 61 = .ok (.invokevirtual 275, 3) := by decide +kernel
theorem dX12_come_64 : decode cX12_come 64 = .ok (.invokestatic 293, 3) := by decide +kernel
theorem dX12_come_67 : decode cX12_come 67 = .ok (.invokevirtual 101, 3) := by decide +kernel
theorem dX12_come_70 : decode cX12_come 70 = .ok (.ireturn, 1) := by decide +kernel
theorem dX12_rule_0 : decode cX12_rule 0 = .ok (.iload_n 1, 1) := by decide +kernel
theorem dX12_rule_1 : decode cX12_rule 1 = .ok (.iconst 1, 1) := by decide +kernel
theorem dX12_rule_2 : decode cX12_rule 2 = .ok (.if_icmp .lt 26, 3) := by decide +kernel
theorem dX12_rule_5 : decode cX12_rule 5 = .ok (.iload_n 1, 1) := by decide +kernel
theorem dX12_rule_6 : decode cX12_rule 6 = .ok (.iconst 3, 1) := by decide +kernel
theorem dX12_rule_7 : decode cX12_rule 7 = .ok (.if_icmp .gt 21, 3) := by decide +kernel
theorem dX12_rule_10 : decode cX12_rule 10 = .ok (.iload_n 2, 1) := by decide +kernel
theorem dX12_rule_11 : decode cX12_rule 11 = .ok (.i2l, 1) := by decide +kernel
theorem dX12_rule_12 : decode cX12_rule 12 = .ok (.iload_n 1, 1) := by decide +kernel
theorem dX12_rule_13 : decode cX12_rule 13 = .ok (.invokestatic 236, 3) := by decide +kernel
theorem dX12_rule_16 : decode cX12_rule 16 = .ok (.i2l, 1) := by decide +kernel
theorem dX12_rule_17 : decode cX12_rule 17 = .ok (.iload_n 1, 1) := by decide +kernel
theorem dX12_rule_18 : decode cX12_rule 18 = .ok (.invokestatic 239, 3) := by decide +kernel
theorem dX12_rule_21 : decode cX12_rule 21 = .ok (.i2l, 1) := by decide +kernel
theorem dX12_rule_22 : decode cX12_rule 22 = .ok (.invokestatic 307, 3) := by decide +kernel
theorem dX12_rule_25 : decode cX12_rule 25 = .ok (.ifCond .ne 9, 3) := by decide +kernel
theorem dX12_rule_28 : decode cX12_rule 28 = .ok (.aload_n 0, 1) := by decide +kernel
theorem dX12_rule_29 : decode cX12_rule 29 = .ok (.iconst 1, 1) := by decide +kernel
theorem dX12_rule_30 : decode cX12_rule 30 = .ok (.invokevirtual 104, 3) := by decide +kernel
theorem dX12_rule_33 : decode cX12_rule 33 = .ok (.ireturn, 1) := by decide +kernel
theorem dX12_rule_34 : decode cX12_rule 34 = .ok (.aload_n 0, 1) := by decide +kernel
theorem dX12_rule_35 : decode cX12_rule 35 = .ok (.getfield 7, 3) := by decide +kernel
theorem dX12_rule_38 : decode cX12_rule 38 = .ok (.iload_n 1, 1) := by decide +kernel
theorem dX12_rule_39 : decode cX12_rule 39 = .ok (.iload_n 2, 1) := by decide +kernel
theorem dX12_rule_40 : decode cX12_rule 40 = .ok (.iastore, 1) := by decide +kernel
theorem dX12_rule_41 : decode cX12_rule 41 = .ok (.aload_n 0, 1) := by decide +kernel
theorem dX12_rule_42 : decode cX12_rule 42 = .ok (.iconst 0, 1) := by decide +kernel
theorem dX12_rule_43 : decode cX12_rule 43 = .ok (.invokevirtual 104, 3) := by decide +kernel
theorem dX12_rule_46 : decode cX12_rule 46 = .ok (.ireturn, 1) := by decide +kernel
theorem dX12_levelAt_0 : decode cX12_levelAt 0 = .ok (.sipush 2200, 3) := by decide +kernel
theorem dX12_levelAt_3 : decode cX12_levelAt 3 = .ok (.bipush 60, 2) := by decide +kernel
theorem dX12_levelAt_5 : decode cX12_levelAt 5 = .ok (.iload_n 0, 1) := by decide +kernel
theorem dX12_levelAt_6 : decode cX12_levelAt 6 = .ok (.imul, 1) := by decide +kernel
theorem dX12_levelAt_7 : decode cX12_levelAt 7 = .ok (.iadd, 1) := by decide +kernel
theorem dX12_levelAt_8 : decode cX12_levelAt 8 = .ok (.ireturn, 1) := by decide +kernel
theorem dX12_keeps_0 : decode cX12_keeps 0 = .ok (.iconst 0, 1) := by decide +kernel
theorem dX12_keeps_1 : decode cX12_keeps 1 = .ok (.istore_n 2, 1) := by decide +kernel
theorem dX12_keeps_2 : decode cX12_keeps 2 = .ok (.iload_n 2, 1) := by decide +kernel
theorem dX12_keeps_3 : decode cX12_keeps 3 = .ok (.bipush 60, 2) := by decide +kernel
theorem dX12_keeps_5 : decode cX12_keeps 5 = .ok (.if_icmp .ge 23, 3) := by decide +kernel
theorem dX12_keeps_8 : decode cX12_keeps 8 = .ok (.aload_n 0, 1) := by decide +kernel
theorem dX12_keeps_9 : decode cX12_keeps 9 = .ok (.getfield 7, 3) := by decide +kernel
theorem dX12_keeps_12 : decode cX12_keeps 12 = .ok (.iload_n 1, 1) := by decide +kernel
theorem dX12_keeps_13 : decode cX12_keeps 13 = .ok (.iload_n 2, 1) := by decide +kernel
theorem dX12_keeps_14 : decode cX12_keeps 14 = .ok (.iadd, 1) := by decide +kernel
theorem dX12_keeps_15 : decode cX12_keeps 15 = .ok (.aload_n 0, 1) := by decide +kernel
theorem dX12_keeps_16 : decode cX12_keeps 16 = .ok (.getfield 7, 3) := by decide +kernel
theorem dX12_keeps_19 : decode cX12_keeps 19 = .ok (.iload_n 2, 1) := by decide +kernel
theorem dX12_keeps_20 : decode cX12_keeps 20 = .ok (.iaload, 1) := by decide +kernel
theorem dX12_keeps_21 : decode cX12_keeps 21 = .ok (.iastore, 1) := by decide +kernel
theorem dX12_keeps_22 : decode cX12_keeps 22 = .ok (.iinc 2 1, 3) := by decide +kernel
theorem dX12_keeps_25 : decode cX12_keeps 25 = .ok (.goto (-23), 3) := by decide +kernel
theorem dX12_keeps_28 : decode cX12_keeps 28 = .ok (.return_, 1) := by decide +kernel
theorem dX12_brings_0 : decode cX12_brings 0 = .ok (.iconst 0, 1) := by decide +kernel
theorem dX12_brings_1 : decode cX12_brings 1 = .ok (.istore_n 2, 1) := by decide +kernel
theorem dX12_brings_2 : decode cX12_brings 2 = .ok (.iload_n 2, 1) := by decide +kernel
theorem dX12_brings_3 : decode cX12_brings 3 = .ok (.bipush 60, 2) := by decide +kernel
theorem dX12_brings_5 : decode cX12_brings 5 = .ok (.if_icmp .ge 23, 3) := by decide +kernel
theorem dX12_brings_8 : decode cX12_brings 8 = .ok (.aload_n 0, 1) := by decide +kernel
theorem dX12_brings_9 : decode cX12_brings 9 = .ok (.getfield 7, 3) := by decide +kernel
theorem dX12_brings_12 : decode cX12_brings 12 = .ok (.iload_n 2, 1) := by decide +kernel
theorem dX12_brings_13 : decode cX12_brings 13 = .ok (.aload_n 0, 1) := by decide +kernel
theorem dX12_brings_14 : decode cX12_brings 14 = .ok (.getfield 7, 3) := by decide +kernel
theorem dX12_brings_17 : decode cX12_brings 17 = .ok (.iload_n 1, 1) := by decide +kernel
theorem dX12_brings_18 : decode cX12_brings 18 = .ok (.iload_n 2, 1) := by decide +kernel
theorem dX12_brings_19 : decode cX12_brings 19 = .ok (.iadd, 1) := by decide +kernel
theorem dX12_brings_20 : decode cX12_brings 20 = .ok (.iaload, 1) := by decide +kernel
theorem dX12_brings_21 : decode cX12_brings 21 = .ok (.iastore, 1) := by decide +kernel
theorem dX12_brings_22 : decode cX12_brings 22 = .ok (.iinc 2 1, 3) := by decide +kernel
theorem dX12_brings_25 : decode cX12_brings 25 = .ok (.goto (-23), 3) := by decide +kernel
theorem dX12_brings_28 : decode cX12_brings 28 = .ok (.return_, 1) := by decide +kernel
theorem dX12_thereIn_0 : decode cX12_thereIn 0 = .ok (.iload_n 1, 1) := by decide +kernel
theorem dX12_thereIn_1 : decode cX12_thereIn 1 = .ok (.i2l, 1) := by decide +kernel
theorem dX12_thereIn_2 : decode cX12_thereIn 2 = .ok (.lconst 0, 1) := by decide +kernel
theorem dX12_thereIn_3 : decode cX12_thereIn 3 = .ok (.ldc2_w 332, 3) := by decide +kernel
theorem dX12_thereIn_6 : decode cX12_thereIn 6 = .ok (.invokestatic 307, 3) := by decide +kernel
theorem dX12_thereIn_9 : decode cX12_thereIn 9 = .ok (.ifCond .ne 9, 3) := by decide +kernel
theorem dX12_thereIn_12 : decode cX12_thereIn 12 = .ok (.aload_n 0, 1) := by decide +kernel
theorem dX12_thereIn_13 : decode cX12_thereIn 13 = .ok (.iconst 1, 1) := by decide +kernel
theorem dX12_thereIn_14 : decode cX12_thereIn 14 = .ok (.invokevirtual 97, 3) := by decide +kernel
theorem dX12_thereIn_17 : decode cX12_thereIn 17 = .ok (.ireturn, 1) := by decide +kernel
theorem dX12_thereIn_18 : decode cX12_thereIn 18 = .ok (.aload_n 0, 1) := by decide +kernel
theorem dX12_thereIn_19 : decode cX12_thereIn 19 = .ok (.sipush 2140, 3) := by decide +kernel
theorem dX12_thereIn_22 : decode cX12_thereIn 22 = .ok (.invokevirtual 334, 3) := by decide +kernel
theorem dX12_thereIn_25 : decode cX12_thereIn 25 = .ok (.aload_n 0, 1) := by decide +kernel
theorem dX12_thereIn_26 : decode cX12_thereIn 26 = .ok (.iload_n 1, 1) := by decide +kernel
theorem dX12_thereIn_27 : decode cX12_thereIn 27 = .ok (.invokevirtual 311, 3) := by decide +kernel
theorem dX12_thereIn_30 : decode cX12_thereIn 30 = .ok (.aload_n 0, 1) := by decide +kernel
theorem dX12_thereIn_31 : decode cX12_thereIn 31 = .ok (.invokevirtual 275, 3) := by decide +kernel
theorem dX12_thereIn_34 : decode cX12_thereIn 34 = .ok (.istore_n 2, 1) := by decide +kernel
theorem dX12_thereIn_35 : decode cX12_thereIn 35 = .ok (.aload_n 0, 1) := by decide +kernel
theorem dX12_thereIn_36 : decode cX12_thereIn 36 = .ok (.sipush 2140, 3) := by decide +kernel
theorem dX12_thereIn_39 : decode cX12_thereIn 39 = .ok (.invokevirtual 337, 3) := by decide +kernel
theorem dX12_thereIn_42 : decode cX12_thereIn 42 = .ok (.aload_n 0, 1) := by decide +kernel
theorem dX12_thereIn_43 : decode cX12_thereIn 43 = .ok (.iload_n 2, 1) := by decide +kernel
theorem dX12_thereIn_44 : decode cX12_thereIn 44 = .ok (.invokevirtual 101, 3) := by decide +kernel
theorem dX12_thereIn_47 : decode cX12_thereIn 47 = .ok (.ireturn, 1) := by decide +kernel
theorem dX12_slicesIn_0 : decode cX12_slicesIn 0 = .ok (.iload_n 1, 1) := by decide +kernel
theorem dX12_slicesIn_1 : decode cX12_slicesIn 1 = .ok (.i2l, 1) := by decide +kernel
theorem dX12_slicesIn_2 : decode cX12_slicesIn 2 = .ok (.lconst 0, 1) := by decide +kernel
theorem dX12_slicesIn_3 : decode cX12_slicesIn 3 = .ok (.ldc2_w 332, 3) := by decide +kernel
theorem dX12_slicesIn_6 : decode cX12_slicesIn 6 = .ok (.invokestatic 307, 3) := by decide +kernel
theorem dX12_slicesIn_9 : decode cX12_slicesIn 9 = .ok (.ifCond .ne 9, 3) := by decide +kernel
theorem dX12_slicesIn_12 : decode cX12_slicesIn 12 = .ok (.aload_n 0, 1) := by decide +kernel
theorem dX12_slicesIn_13 : decode cX12_slicesIn 13 = .ok (.iconst 1, 1) := by decide +kernel
theorem dX12_slicesIn_14 : decode cX12_slicesIn 14 = .ok (.invokevirtual 97, 3) := by decide +kernel
theorem dX12_slicesIn_17 : decode cX12_slicesIn 17 = .ok (.ireturn, 1) := by decide +kernel
theorem dX12_slicesIn_18 : decode cX12_slicesIn 18 = .ok (.aload_n 0, 1) := by decide +kernel
theorem dX12_slicesIn_19 : decode cX12_slicesIn 19 = .ok (.sipush 2140, 3) := by decide +kernel
theorem dX12_slicesIn_22 : decode cX12_slicesIn 22 = .ok (.invokevirtual 334, 3) := by decide +kernel
theorem dX12_slicesIn_25 : decode cX12_slicesIn 25 = .ok (.aload_n 0, 1) := by decide +kernel
theorem dX12_slicesIn_26 : decode cX12_slicesIn 26 = .ok (.iload_n 1, 1) := by decide +kernel
theorem dX12_slicesIn_27 : decode cX12_slicesIn 27 = .ok (.invokevirtual 311, 3) := by decide +kernel
theorem dX12_slicesIn_30 : decode cX12_slicesIn 30 = .ok (.aload_n 0, 1) := by decide +kernel
theorem dX12_slicesIn_31 : decode cX12_slicesIn 31 = .ok (.getfield 7, 3) := by decide +kernel
theorem dX12_slicesIn_34 : decode cX12_slicesIn 34 = .ok (.iconst 5, 1) := by decide +kernel
theorem dX12_slicesIn_35 : decode cX12_slicesIn 35 = .ok (.iaload, 1) := by decide +kernel
theorem dX12_slicesIn_36 : decode cX12_slicesIn 36 = .ok (.istore_n 2, 1) := by decide +kernel
theorem dX12_slicesIn_37 : decode cX12_slicesIn 37 = .ok (.aload_n 0, 1) := by decide +kernel
theorem dX12_slicesIn_38 : decode cX12_slicesIn 38 = .ok (.sipush 2140, 3) := by decide +kernel
theorem dX12_slicesIn_41 : decode cX12_slicesIn 41 = .ok (.invokevirtual 337, 3) := by decide +kernel
theorem dX12_slicesIn_44 : decode cX12_slicesIn 44 = .ok (.aload_n 0, 1) := by decide +kernel
theorem dX12_slicesIn_45 : decode cX12_slicesIn 45 = .ok (.iload_n 2, 1) := by decide +kernel
theorem dX12_slicesIn_46 : decode cX12_slicesIn 46 = .ok (.invokevirtual 101, 3) := by decide +kernel
theorem dX12_slicesIn_49 : decode cX12_slicesIn 49 = .ok (.ireturn, 1) := by decide +kernel
theorem dX12_guestIn_0 : decode cX12_guestIn 0 = .ok (.aload_n 0, 1) := by decide +kernel
theorem dX12_guestIn_1 : decode cX12_guestIn 1 = .ok (.iload_n 1, 1) := by decide +kernel
theorem dX12_guestIn_2 : decode cX12_guestIn 2 = .ok (.invokevirtual 266, 3) := by decide +kernel
theorem dX12_guestIn_5 : decode cX12_guestIn 5 = .ok (.ifCond .eq 24, 3) := by decide +kernel
theorem dX12_guestIn_8 : decode cX12_guestIn 8 = .ok (.iload_n 2, 1) := by decide +kernel
theorem dX12_guestIn_9 : decode cX12_guestIn 9 = .ok (.i2l, 1) := by decide +kernel
theorem dX12_guestIn_10 : decode cX12_guestIn 10 = .ok (.lconst 0, 1) := by decide +kernel
theorem dX12_guestIn_11 : decode cX12_guestIn 11 = .ok (.ldc2_w 332, 3) := by decide +kernel
theorem dX12_guestIn_14 : decode cX12_guestIn 14 = .ok (.invokestatic 307, 3) := by decide +kernel
theorem dX12_guestIn_17 : decode cX12_guestIn 17 = .ok (.ifCond .eq 12, 3) := by decide +kernel
theorem dX12_guestIn_20 : decode cX12_guestIn 20 = .ok (.iload_n 3, 1) := by decide +kernel
theorem dX12_guestIn_21 : decode cX12_guestIn 21 = .ok (.ifCond .lt 8, 3) := by decide +kernel
theorem dX12_guestIn_24 : decode cX12_guestIn 24 = .ok (.iload_n 3, 1) := by decide +kernel
theorem dX12_guestIn_25 : decode cX12_guestIn 25 = .ok (.iconst 1, 1) := by decide +kernel
theorem dX12_guestIn_26 : decode cX12_guestIn 26 = .ok (.if_icmp .le 9, 3) := by decide +kernel
theorem dX12_guestIn_29 : decode cX12_guestIn 29 = .ok (.aload_n 0, 1) := by decide +kernel
theorem dX12_guestIn_30 : decode cX12_guestIn 30 = .ok (.iconst 1, 1) := by decide +kernel
theorem dX12_guestIn_31 : decode cX12_guestIn 31 = .ok (.invokevirtual 97, 3) := by decide +kernel
theorem dX12_guestIn_34 : decode cX12_guestIn 34 = .ok (.ireturn, 1) := by decide +kernel
theorem dX12_guestIn_35 : decode cX12_guestIn 35 = .ok (.aload_n 0, 1) := by decide +kernel
theorem dX12_guestIn_36 : decode cX12_guestIn 36 = .ok (.sipush 2140, 3) := by decide +kernel
theorem dX12_guestIn_39 : decode cX12_guestIn 39 = .ok (.invokevirtual 334, 3) := by decide +kernel
theorem dX12_guestIn_42 : decode cX12_guestIn 42 = .ok (.aload_n 0, 1) := by decide +kernel
theorem dX12_guestIn_43 : decode cX12_guestIn 43 = .ok (.iload_n 2, 1) := by decide +kernel
theorem dX12_guestIn_44 : decode cX12_guestIn 44 = .ok (.invokevirtual 311, 3) := by decide +kernel
theorem dX12_guestIn_47 : decode cX12_guestIn 47 = .ok (.aload_n 0, 1) := by decide +kernel
theorem dX12_guestIn_48 : decode cX12_guestIn 48 = .ok (.iload_n 1, 1) := by decide +kernel
theorem dX12_guestIn_49 : decode cX12_guestIn 49 = .ok (.iload_n 3, 1) := by decide +kernel
theorem dX12_guestIn_50 : decode cX12_guestIn 50 = .ok (.ifCond .ne 7, 3) := by decide +kernel
theorem dX12_guestIn_53 : decode cX12_guestIn 53 = .ok (.iconst 0, 1) := by decide +kernel
theorem dX12_guestIn_54 : decode cX12_guestIn 54 = .ok (.goto 4, 3) := by decide +kernel
theorem dX12_guestIn_57 : decode cX12_guestIn 57 = .ok (.iconst 4, 1) := by decide +kernel
theorem dX12_guestIn_58 : decode cX12_guestIn 58 = .ok (.invokevirtual 269, 3) := by decide +kernel
theorem dX12_guestIn_61 : decode cX12_guestIn 61 = .ok (.istore 4, 2) := by decide +kernel
theorem dX12_guestIn_63 : decode cX12_guestIn 63 = .ok (.aload_n 0, 1) := by decide +kernel
theorem dX12_guestIn_64 : decode cX12_guestIn 64 = .ok (.sipush 2140, 3) := by decide +kernel
theorem dX12_guestIn_67 : decode cX12_guestIn 67 = .ok (.invokevirtual 337, 3) := by decide +kernel
theorem dX12_guestIn_70 : decode cX12_guestIn 70 = .ok (.aload_n 0, 1) := by decide +kernel
theorem dX12_guestIn_71 : decode cX12_guestIn 71 = .ok (.iload 4, 2) := by decide +kernel
theorem dX12_guestIn_73 : decode cX12_guestIn 73 = .ok (.invokevirtual 101, 3) := by decide +kernel
theorem dX12_guestIn_76 : decode cX12_guestIn 76 = .ok (.ireturn, 1) := by decide +kernel
theorem dX12_nextCut_0 : decode cX12_nextCut 0 = .ok (.iconst (-1), 1) := by decide +kernel
theorem dX12_nextCut_1 : decode cX12_nextCut 1 = .ok (.istore_n 1, 1) := by decide +kernel
theorem dX12_nextCut_2 : decode cX12_nextCut 2 = .ok (.aload_n 0, 1) := by decide +kernel
theorem dX12_nextCut_3 : decode cX12_nextCut 3 = .ok (.sipush 2140, 3) := by decide +kernel
theorem dX12_nextCut_6 : decode cX12_nextCut 6 = .ok (.invokevirtual 334, 3) := by decide +kernel
theorem dX12_nextCut_9 : decode cX12_nextCut 9 = .ok (.iconst 1, 1) := by decide +kernel
theorem dX12_nextCut_10 : decode cX12_nextCut 10 = .ok (.istore_n 2, 1) := by decide +kernel
theorem dX12_nextCut_11 : decode cX12_nextCut 11 = .ok (.iload_n 2, 1) := by decide +kernel
theorem dX12_nextCut_12 : decode cX12_nextCut 12 = .ok (.bipush 99, 2) := by decide +kernel
theorem dX12_nextCut_14 : decode cX12_nextCut 14 = .ok (.if_icmp .gt 31, 3) := by decide +kernel
theorem dX12_nextCut_17 : decode cX12_nextCut 17 = .ok (.iload_n 1, 1) := by decide +kernel
theorem dX12_nextCut_18 : decode cX12_nextCut 18 = .ok (.iconst (-1), 1) := by decide +kernel
theorem dX12_nextCut_19 : decode cX12_nextCut 19 = .ok (.if_icmp .ne 26, 3) := by decide +kernel
theorem dX12_nextCut_22 : decode cX12_nextCut 22 = .ok (.aload_n 0, 1) := by decide +kernel
theorem dX12_nextCut_23 : decode cX12_nextCut 23 = .ok (.invokevirtual 302, 3) := by decide +kernel
theorem dX12_nextCut_26 : decode cX12_nextCut 26 = .ok (.istore_n 3, 1) := by decide +kernel
theorem dX12_nextCut_27 : decode cX12_nextCut 27 = .ok (.iload_n 3, 1) := by decide +kernel
theorem dX12_nextCut_28 : decode cX12_nextCut 28 = .ok (.iconst (-1), 1) := by decide +kernel
theorem dX12_nextCut_29 : decode cX12_nextCut 29 = .ok (.if_icmp .eq 10, 3) := by decide +kernel
theorem dX12_nextCut_32 : decode cX12_nextCut 32 = .ok (.bipush 10, 2) := by decide +kernel
theorem dX12_nextCut_34 : decode cX12_nextCut 34 = .ok (.iload_n 2, 1) := by decide +kernel
theorem dX12_nextCut_35 : decode cX12_nextCut 35 = .ok (.imul, 1) := by decide +kernel
theorem dX12_nextCut_36 : decode cX12_nextCut 36 = .ok (.iload_n 3, 1) := by decide +kernel
theorem dX12_nextCut_37 : decode cX12_nextCut 37 = .ok (.iadd, 1) := by decide +kernel
theorem dX12_nextCut_38 : decode cX12_nextCut 38 = .ok (.istore_n 1, 1) := by decide +kernel
theorem dX12_nextCut_39 : decode cX12_nextCut 39 = .ok (.iinc 2 1, 3) := by decide +kernel
theorem dX12_nextCut_42 : decode cX12_nextCut 42 = .ok (.goto (-31), 3) := by decide +kernel
theorem dX12_nextCut_45 : decode cX12_nextCut 45 = .ok (.aload_n 0, 1) := by decide +kernel
theorem dX12_nextCut_46 : decode cX12_nextCut 46 = .ok (.sipush 2140, 3) := by decide +kernel
theorem dX12_nextCut_49 : decode cX12_nextCut 49 = .ok (.invokevirtual 337, 3) := by decide +kernel
theorem dX12_nextCut_52 : decode cX12_nextCut 52 = .ok (.iload_n 1, 1) := by decide +kernel
theorem dX12_nextCut_53 : decode cX12_nextCut 53 = .ok (.ireturn, 1) := by decide +kernel
theorem dX12_next_0 : decode cX12_next 0 = .ok (.aload_n 0, 1) := by decide +kernel
theorem dX12_next_1 : decode cX12_next 1 = .ok (.invokevirtual 340, 3) := by decide +kernel
theorem dX12_next_4 : decode cX12_next 4 = .ok (.istore_n 1, 1) := by decide +kernel
theorem dX12_next_5 : decode cX12_next 5 = .ok (.iload_n 1, 1) := by decide +kernel
theorem dX12_next_6 : decode cX12_next 6 = .ok (.iconst (-1), 1) := by decide +kernel
theorem dX12_next_7 : decode cX12_next 7 = .ok (.if_icmp .ne 12, 3) := by decide +kernel
theorem dX12_next_10 : decode cX12_next 10 = .ok (.aload_n 0, 1) := by decide +kernel
theorem dX12_next_11 : decode cX12_next 11 = .ok (.bipush 6, 2) := by decide +kernel
theorem dX12_next_13 : decode cX12_next 13 = .ok (.invokevirtual 97, 3) := by decide +kernel
theorem dX12_next_16 : decode cX12_next 16 = .ok (.goto 11, 3) := by decide +kernel
theorem dX12_next_19 : decode cX12_next 19 = .ok (.aload_n 0, 1) := by decide +kernel
theorem dX12_next_20 : decode cX12_next 20 = .ok (.iload_n 1, 1) := by decide +kernel
theorem dX12_next_21 : decode cX12_next 21 = .ok (.bipush 10, 2) := by decide +kernel
theorem dX12_next_23 : decode cX12_next 23 = .ok (.idiv, 1) := by decide +kernel
theorem dX12_next_24 : decode cX12_next 24 = .ok (.invokevirtual 101, 3) := by decide +kernel
theorem dX12_next_27 : decode cX12_next 27 = .ok (.ireturn, 1) := by decide +kernel
theorem dX12_nextBy_0 : decode cX12_nextBy 0 = .ok (.aload_n 0, 1) := by decide +kernel
theorem dX12_nextBy_1 : decode cX12_nextBy 1 = .ok (.invokevirtual 340, 3) := by decide +kernel
theorem dX12_nextBy_4 : decode cX12_nextBy 4 = .ok (.istore_n 1, 1) := by decide +kernel
theorem dX12_nextBy_5 : decode cX12_nextBy 5 = .ok (.iload_n 1, 1) := by decide +kernel
theorem dX12_nextBy_6 : decode cX12_nextBy 6 = .ok (.iconst (-1), 1) := by decide +kernel
theorem dX12_nextBy_7 : decode cX12_nextBy 7 = .ok (.if_icmp .ne 12, 3) := by decide +kernel
theorem dX12_nextBy_10 : decode cX12_nextBy 10 = .ok (.aload_n 0, 1) := by decide +kernel
theorem dX12_nextBy_11 : decode cX12_nextBy 11 = .ok (.bipush 6, 2) := by decide +kernel
theorem dX12_nextBy_13 : decode cX12_nextBy 13 = .ok (.invokevirtual 97, 3) := by decide +kernel
theorem dX12_nextBy_16 : decode cX12_nextBy 16 = .ok (.goto 11, 3) := by decide +kernel
theorem dX12_nextBy_19 : decode cX12_nextBy 19 = .ok (.aload_n 0, 1) := by decide +kernel
theorem dX12_nextBy_20 : decode cX12_nextBy 20 = .ok (.iload_n 1, 1) := by decide +kernel
theorem dX12_nextBy_21 : decode cX12_nextBy 21 = .ok (.bipush 10, 2) := by decide +kernel
theorem dX12_nextBy_23 : decode cX12_nextBy 23 = .ok (.irem, 1) := by decide +kernel
theorem dX12_nextBy_24 : decode cX12_nextBy 24 = .ok (.invokevirtual 101, 3) := by decide +kernel
theorem dX12_nextBy_27 : decode cX12_nextBy 27 = .ok (.ireturn, 1) := by decide +kernel
theorem dX12_hangs_0 : decode cX12_hangs 0 = .ok (.aload_n 0, 1) := by decide +kernel
theorem dX12_hangs_1 : decode cX12_hangs 1 = .ok (.invokevirtual 340, 3) := by decide +kernel
theorem dX12_hangs_4 : decode cX12_hangs 4 = .ok (.istore_n 1, 1) := by decide +kernel
theorem dX12_hangs_5 : decode cX12_hangs 5 = .ok (.iconst 0, 1) := by decide +kernel
theorem dX12_hangs_6 : decode cX12_hangs 6 = .ok (.istore_n 2, 1) := by decide +kernel
theorem dX12_hangs_7 : decode cX12_hangs 7 = .ok (.iconst 0, 1) := by decide +kernel
theorem dX12_hangs_8 : decode cX12_hangs 8 = .ok (.istore_n 3, 1) := by decide +kernel
theorem dX12_hangs_9 : decode cX12_hangs 9 = .ok (.iload_n 3, 1) := by decide +kernel
theorem dX12_hangs_10 : decode cX12_hangs 10 = .ok (.aload_n 0, 1) := by decide +kernel
theorem dX12_hangs_11 : decode cX12_hangs 11 = .ok (.getfield 7, 3) := by decide +kernel
theorem dX12_hangs_14 : decode cX12_hangs 14 = .ok (.iconst 0, 1) := by decide +kernel
theorem dX12_hangs_15 : decode cX12_hangs 15 = .ok (.iaload, 1) := by decide +kernel
theorem dX12_hangs_16 : decode cX12_hangs 16 = .ok (.if_icmp .ge 62, 3) := by decide +kernel
theorem dX12_hangs_19 : decode cX12_hangs 19 = .ok (.aload_n 0, 1) := by decide +kernel
theorem dX12_hangs_20 : decode cX12_hangs 20 = .ok (.iload_n 3, 1) := by decide +kernel
theorem dX12_hangs_21 : decode cX12_hangs 21 = .ok (.invokevirtual 272, 3) := by decide +kernel
theorem dX12_hangs_24 : decode cX12_hangs 24 = .ok (.ifCond .ne 6, 3) := by decide +kernel
theorem dX12_hangs_27 : decode cX12_hangs 27 = .ok (.goto 45, 3) := by decide +kernel
theorem dX12_hangs_30 : decode cX12_hangs 30 = .ok (.aload_n 0, 1) := by decide +kernel
theorem dX12_hangs_31 : decode cX12_hangs 31 = .ok (.getfield 7, 3) := by decide +kernel
theorem dX12_hangs_34 : decode cX12_hangs 34 = .ok (.iload_n 3, 1) := by decide +kernel
theorem dX12_hangs_35 : decode cX12_hangs 35 = .ok (.invokestatic 192, 3) := by decide +kernel
theorem dX12_hangs_38 : decode cX12_hangs 38 = .ok (.iconst 5, 1) := by decide +kernel
theorem dX12_hangs_39 : decode cX12_hangs 39 = .ok (.iadd, 1) := by decide +kernel
theorem dX12_hangs_40 : decode cX12_hangs 40 = .ok (.iconst 0, 1) := by decide +kernel
theorem dX12_hangs_41 : decode cX12_hangs 41 = .ok (.iastore, 1) := by decide +kernel
theorem dX12_hangs_42 : decode cX12_hangs 42 = .ok (.iload_n 2, 1) := by decide +kernel
theorem dX12_hangs_43 : decode cX12_hangs 43 = .ok (.aload_n 0, 1) := by decide +kernel
theorem dX12_hangs_44 : decode cX12_hangs 44 = .ok (.invokevirtual 340, 3) := by decide +kernel
theorem dX12_hangs_47 : decode cX12_hangs 47 = .ok (.iload_n 1, 1) := by decide +kernel
theorem dX12_hangs_48 : decode cX12_hangs 48 = .ok (.if_icmp .eq 9, 3) := by decide +kernel
theorem dX12_hangs_51 : decode cX12_hangs 51 = .ok (.iconst 1, 1) := by decide +kernel
theorem dX12_hangs_52 : decode cX12_hangs 52 = .ok (.iload_n 3, 1) := by decide +kernel
theorem dX12_hangs_53 : decode cX12_hangs 53 = .ok (.ishl, 1) := by decide +kernel
theorem dX12_hangs_54 : decode cX12_hangs 54 = .ok (.goto 4, 3) := by decide +kernel
theorem dX12_hangs_57 : decode cX12_hangs 57 = .ok (.iconst 0, 1) := by decide +kernel
theorem dX12_hangs_58 : decode cX12_hangs 58 = .ok (.ior, 1) := by decide +kernel
theorem dX12_hangs_59 : decode cX12_hangs 59 = .ok (.istore_n 2, 1) := by decide +kernel
theorem dX12_hangs_60 : decode cX12_hangs 60 = .ok (.aload_n 0, 1) := by decide +kernel
theorem dX12_hangs_61 : decode cX12_hangs 61 = .ok (.getfield 7, 3) := by decide +kernel
theorem dX12_hangs_64 : decode cX12_hangs 64 = .ok (.iload_n 3, 1) := by decide +kernel
theorem dX12_hangs_65 : decode cX12_hangs 65 = .ok (.invokestatic 192, 3) := by decide +kernel
theorem dX12_hangs_68 : decode cX12_hangs 68 = .ok (.iconst 5, 1) := by decide +kernel
theorem dX12_hangs_69 : decode cX12_hangs 69 = .ok (.iadd, 1) := by decide +kernel
theorem dX12_hangs_70 : decode cX12_hangs 70 = .ok (.iconst 1, 1) := by decide +kernel
theorem dX12_hangs_71 : decode cX12_hangs 71 = .ok (.iastore, 1) := by decide +kernel
theorem dX12_hangs_72 : decode cX12_hangs 72 = .ok (.iinc 3 1, 3) := by decide +kernel
theorem dX12_hangs_75 : decode cX12_hangs 75 = .ok (.goto (-66), 3) := by decide +kernel
theorem dX12_hangs_78 : decode cX12_hangs 78 = .ok (.aload_n 0, 1) := by decide +kernel
theorem dX12_hangs_79 : decode cX12_hangs 79 = .ok (.iload_n 2, 1) := by decide +kernel
theorem dX12_hangs_80 : decode cX12_hangs 80 = .ok (.invokevirtual 101, 3) := by decide +kernel
theorem dX12_hangs_83 : decode cX12_hangs 83 = .ok (.ireturn, 1) := by decide +kernel
theorem dX12_starving_0 : decode cX12_starving 0 = .ok (.iconst (-1), 1) := by decide +kernel
theorem dX12_starving_1 : decode cX12_starving 1 = .ok (.istore_n 1, 1) := by decide +kernel
theorem dX12_starving_2 : decode cX12_starving 2 = .ok (.aload_n 0, 1) := by decide +kernel
theorem dX12_starving_3 : decode cX12_starving 3 = .ok (.sipush 2140, 3) := by decide +kernel
theorem dX12_starving_6 : decode cX12_starving 6 = .ok (.invokevirtual 334, 3) := by decide +kernel
theorem dX12_starving_9 : decode cX12_starving 9 = .ok (.iconst 0, 1) := by decide +kernel
theorem dX12_starving_10 : decode cX12_starving 10 = .ok (.istore_n 2, 1) := by decide +kernel
theorem dX12_starving_11 : decode cX12_starving 11 = .ok (.iload_n 2, 1) := by decide +kernel
theorem dX12_starving_12 : decode cX12_starving 12 = .ok (.bipush 99, 2) := by decide +kernel
theorem dX12_starving_14 : decode cX12_starving 14 = .ok (.if_icmp .gt 28, 3) := by decide +kernel
theorem dX12_starving_17 : decode cX12_starving 17 = .ok (.iload_n 1, 1) := by decide +kernel
theorem dX12_starving_18 : decode cX12_starving 18 = .ok (.iconst (-1), 1) := by decide +kernel
theorem dX12_starving_19 : decode cX12_starving 19 = .ok (.if_icmp .ne 23, 3) := by decide +kernel
theorem dX12_starving_22 : decode cX12_starving 22 = .ok (.aload_n 0, 1) := by decide +kernel
theorem dX12_starving_23 : decode cX12_starving 23 = .ok (.invokevirtual 281, 3) := by decide +kernel
theorem dX12_starving_26 : decode cX12_starving 26 = .ok (.ifCond .eq 5, 3) := by decide +kernel
theorem dX12_starving_29 : decode cX12_starving 29 = .ok (.iload_n 2, 1) := by decide +kernel
theorem dX12_starving_30 : decode cX12_starving 30 = .ok (.istore_n 1, 1) := by decide +kernel
theorem dX12_starving_31 : decode cX12_starving 31 = .ok (.aload_n 0, 1) := by decide +kernel
theorem dX12_starving_32 : decode cX12_starving 32 = .ok (.invokevirtual 302, 3) := by decide +kernel
theorem dX12_starving_35 : decode cX12_starving 35 = .ok (.pop, 1) := by decide +kernel
theorem dX12_starving_36 : decode cX12_starving 36 = .ok (.iinc 2 1, 3) := by decide +kernel
theorem dX12_starving_39 : decode cX12_starving 39 = .ok (.goto (-28), 3) := by decide +kernel
theorem dX12_starving_42 : decode cX12_starving 42 = .ok (.aload_n 0, 1) := by decide +kernel
theorem dX12_starving_43 : decode cX12_starving 43 = .ok (.sipush 2140, 3) := by decide +kernel
theorem dX12_starving_46 : decode cX12_starving 46 = .ok (.invokevirtual 337, 3) := by decide +kernel
theorem dX12_starving_49 : decode cX12_starving 49 = .ok (.aload_n 0, 1) := by decide +kernel
theorem dX12_starving_50 : decode cX12_starving 50 = .ok (.iload_n 1, 1) := by decide +kernel
theorem dX12_starving_51 : decode cX12_starving 51 = .ok (.invokevirtual 284, 3) := by decide +kernel
theorem dX12_starving_54 : decode cX12_starving 54 = .ok (.ireturn, 1) := by decide +kernel
theorem dX12_least_0 : decode cX12_least 0 = .ok (.iload_n 1, 1) := by decide +kernel
theorem dX12_least_1 : decode cX12_least 1 = .ok (.i2l, 1) := by decide +kernel
theorem dX12_least_2 : decode cX12_least 2 = .ok (.lconst 1, 1) := by decide +kernel
theorem dX12_least_3 : decode cX12_least 3 = .ok (.ldc2_w 328, 3) := by decide +kernel
theorem dX12_least_6 : decode cX12_least 6 = .ok (.invokestatic 307, 3) := by decide +kernel
theorem dX12_least_9 : decode cX12_least 9 = .ok (.ifCond .ne 9, 3) := by decide +kernel
theorem dX12_least_12 : decode cX12_least 12 = .ok (.aload_n 0, 1) := by decide +kernel
theorem dX12_least_13 : decode cX12_least 13 = .ok (.iconst 1, 1) := by decide +kernel
theorem dX12_least_14 : decode cX12_least 14 = .ok (.invokevirtual 97, 3) := by decide +kernel
theorem dX12_least_17 : decode cX12_least 17 = .ok (.ireturn, 1) := by decide +kernel
theorem dX12_least_18 : decode cX12_least 18 = .ok (.iconst (-1), 1) := by decide +kernel
theorem dX12_least_19 : decode cX12_least 19 = .ok (.istore_n 2, 1) := by decide +kernel
theorem dX12_least_20 : decode cX12_least 20 = .ok (.aload_n 0, 1) := by decide +kernel
theorem dX12_least_21 : decode cX12_least 21 = .ok (.sipush 2140, 3) := by decide +kernel
theorem dX12_least_24 : decode cX12_least 24 = .ok (.invokevirtual 334, 3) := by decide +kernel
theorem dX12_least_27 : decode cX12_least 27 = .ok (.iconst 1, 1) := by decide +kernel
theorem dX12_least_28 : decode cX12_least 28 = .ok (.istore_n 3, 1) := by decide +kernel
theorem dX12_least_29 : decode cX12_least 29 = .ok (.iload_n 3, 1) := by decide +kernel
theorem dX12_least_30 : decode cX12_least 30 = .ok (.bipush 60, 2) := by decide +kernel
theorem dX12_least_32 : decode cX12_least 32 = .ok (.if_icmp .gt 77, 3) := by decide +kernel
theorem dX12_least_35 : decode cX12_least 35 = .ok (.iload_n 2, 1) := by decide +kernel
theorem dX12_least_36 : decode cX12_least 36 = .ok (.iconst (-1), 1) := by decide +kernel
theorem dX12_least_37 : decode cX12_least 37 = .ok (.if_icmp .ne 72, 3) := by decide +kernel
theorem dX12_least_40 : decode cX12_least 40 = .ok (.iconst 1, 1) := by decide +kernel
theorem dX12_least_41 : decode cX12_least 41 = .ok (.istore 4, 2) := by decide +kernel
theorem dX12_least_43 : decode cX12_least 43 = .ok (.aload_n 0, 1) := by decide +kernel
theorem dX12_least_44 : decode cX12_least 44 = .ok (.getfield 7, 3) := by decide +kernel
theorem dX12_least_47 : decode cX12_least 47 = .ok (.iconst 4, 1) := by decide +kernel
theorem dX12_least_48 : decode cX12_least 48 = .ok (.iload_n 3, 1) := by decide +kernel
theorem dX12_least_49 : decode cX12_least 49 = .ok (.iastore, 1) := by decide +kernel
theorem dX12_least_50 : decode cX12_least 50 = .ok (.iconst 0, 1) := by decide +kernel
theorem dX12_least_51 : decode cX12_least 51 = .ok (.istore 5, 2) := by decide +kernel
theorem dX12_least_53 : decode cX12_least 53 = .ok (.iload 5, 2) := by decide +kernel
theorem dX12_least_55 : decode cX12_least 55 = .ok (.iload_n 1, 1) := by decide +kernel
theorem dX12_least_56 : decode cX12_least 56 = .ok (.if_icmp .ge 33, 3) := by decide +kernel
theorem dX12_least_59 : decode cX12_least 59 = .ok (.iload 4, 2) := by decide +kernel
theorem dX12_least_61 : decode cX12_least 61 = .ok (.ifCond .eq 28, 3) := by decide +kernel
theorem dX12_least_64 : decode cX12_least 64 = .ok (.aload_n 0, 1) := by decide +kernel
theorem dX12_least_65 : decode cX12_least 65 = .ok (.invokevirtual 302, 3) := by decide +kernel
theorem dX12_least_68 : decode cX12_least 68 = .ok (.pop, 1) := by decide +kernel
theorem dX12_least_69 : decode cX12_least 69 = .ok (.aload_n 0, 1) := by decide +kernel
theorem dX12_least_70 : decode cX12_least 70 = .ok (.invokevirtual 281, 3) := by decide +kernel
theorem dX12_least_73 : decode cX12_least 73 = .ok (.ifCond .ne 7, 3) := by decide +kernel
theorem dX12_least_76 : decode cX12_least 76 = .ok (.iconst 1, 1) := by decide +kernel
theorem dX12_least_77 : decode cX12_least 77 = .ok (.goto 4, 3) := by decide +kernel
theorem dX12_least_80 : decode cX12_least 80 = .ok (.iconst 0, 1) := by decide +kernel
theorem dX12_least_81 : decode cX12_least 81 = .ok (.istore 4, 2) := by decide +kernel
theorem dX12_least_83 : decode cX12_least 83 = .ok (.iinc 5 1, 3) := by decide +kernel
theorem dX12_least_86 : decode cX12_least 86 = .ok (.goto (-33), 3) := by decide +kernel
theorem dX12_least_89 : decode cX12_least 89 = .ok (.iload 4, 2) := by decide +kernel
theorem dX12_least_91 : decode cX12_least 91 = .ok (.ifCond .eq 5, 3) := by decide +kernel
theorem dX12_least_94 : decode cX12_least 94 = .ok (.iload_n 3, 1) := by decide +kernel
theorem dX12_least_95 : decode cX12_least 95 = .ok (.istore_n 2, 1) := by decide +kernel
theorem dX12_least_96 : decode cX12_least 96 = .ok (.aload_n 0, 1) := by decide +kernel
theorem dX12_least_97 : decode cX12_least 97 = .ok (.sipush 2140, 3) := by decide +kernel
theorem dX12_least_100 : decode cX12_least 100 = .ok (.invokevirtual 337, 3) := by decide +kernel
theorem dX12_least_103 : decode cX12_least 103 = .ok (.iinc 3 1, 3) := by decide +kernel
theorem dX12_least_106 : decode cX12_least 106 = .ok (.goto (-77), 3) := by decide +kernel
theorem dX12_least_109 : decode cX12_least 109 = .ok (.aload_n 0, 1) := by decide +kernel
theorem dX12_least_110 : decode cX12_least 110 = .ok (.iload_n 2, 1) := by decide +kernel
theorem dX12_least_111 : decode cX12_least 111 = .ok (.invokevirtual 284, 3) := by decide +kernel
theorem dX12_least_114 : decode cX12_least 114 = .ok (.ireturn, 1) := by decide +kernel
theorem dX12_laysPlan_0 : decode cX12_laysPlan 0 = .ok (.iconst (-1), 1) := by decide +kernel
theorem dX12_laysPlan_1 : decode cX12_laysPlan 1 = .ok (.istore_n 2, 1) := by decide +kernel
theorem dX12_laysPlan_2 : decode cX12_laysPlan 2 = .ok (.iconst 0, 1) := by decide +kernel
theorem dX12_laysPlan_3 : decode cX12_laysPlan 3 = .ok (.istore_n 3, 1) := by decide +kernel
theorem dX12_laysPlan_4 : decode cX12_laysPlan 4 = .ok (.aload_n 0, 1) := by decide +kernel
theorem dX12_laysPlan_5 : decode cX12_laysPlan 5 = .ok (.getfield 47, 3) := by decide +kernel
theorem dX12_laysPlan_8 : decode cX12_laysPlan 8 = .ok (.iconst 0, 1) := by decide +kernel
theorem dX12_laysPlan_9 : decode cX12_laysPlan 9 = .ok (.iconst (-1), 1) := by decide +kernel
theorem dX12_laysPlan_10 : decode cX12_laysPlan 10 = .ok (.iastore, 1) := by decide +kernel
theorem dX12_laysPlan_11 : decode cX12_laysPlan 11 = .ok (.aload_n 0, 1) := by decide +kernel
theorem dX12_laysPlan_12 : decode cX12_laysPlan 12 = .ok (.getfield 50, 3) := by decide +kernel
theorem dX12_laysPlan_15 : decode cX12_laysPlan 15 = .ok (.iconst 0, 1) := by decide +kernel
theorem dX12_laysPlan_16 : decode cX12_laysPlan 16 = .ok (.iconst 0, 1) := by decide +kernel
theorem dX12_laysPlan_17 : decode cX12_laysPlan 17 = .ok (.iastore, 1) := by decide +kernel
theorem dX12_laysPlan_18 : decode cX12_laysPlan 18 = .ok (.aload_n 0, 1) := by decide +kernel
theorem dX12_laysPlan_19 : decode cX12_laysPlan 19 = .ok (.iconst 0, 1) := by decide +kernel
theorem dX12_laysPlan_20 : decode cX12_laysPlan 20 = .ok (.invokestatic 343, 3) := by decide +kernel
theorem dX12_laysPlan_23 : decode cX12_laysPlan 23 = .ok (.invokevirtual 334, 3) := by decide +kernel
theorem dX12_laysPlan_26 : decode cX12_laysPlan 26 = .ok (.iload_n 3, 1) := by decide +kernel
theorem dX12_laysPlan_27 : decode cX12_laysPlan 27 = .ok (.ifCond .lt 194, 3) := by decide +kernel
theorem dX12_laysPlan_30 : decode cX12_laysPlan 30 = .ok (.aload_n 0, 1) := by decide +kernel
theorem dX12_laysPlan_31 : decode cX12_laysPlan 31 = .ok (.iload_n 3, 1) := by decide +kernel
theorem dX12_laysPlan_32 : decode cX12_laysPlan 32 = .ok (.invokestatic 343, 3) := by decide +kernel
theorem dX12_laysPlan_35 : decode cX12_laysPlan 35 = .ok (.invokevirtual 337, 3) := by decide +kernel
theorem dX12_laysPlan_38 : decode cX12_laysPlan 38 = .ok (.aload_n 0, 1) := by decide +kernel
theorem dX12_laysPlan_39 : decode cX12_laysPlan 39 = .ok (.getfield 47, 3) := by decide +kernel
theorem dX12_laysPlan_42 : decode cX12_laysPlan 42 = .ok (.iload_n 3, 1) := by decide +kernel
theorem dX12_laysPlan_43 : decode cX12_laysPlan 43 = .ok (.dup2, 1) := by decide +kernel
theorem dX12_laysPlan_44 : decode cX12_laysPlan 44 = .ok (.iaload, 1) := by decide +kernel
theorem dX12_laysPlan_45 : decode cX12_laysPlan 45 = .ok (.iconst 1, 1) := by decide +kernel
theorem dX12_laysPlan_46 : decode cX12_laysPlan 46 = .ok (.iadd, 1) := by decide +kernel
theorem dX12_laysPlan_47 : decode cX12_laysPlan 47 = .ok (.iastore, 1) := by decide +kernel
theorem dX12_laysPlan_48 : decode cX12_laysPlan 48 = .ok (.aload_n 0, 1) := by decide +kernel
theorem dX12_laysPlan_49 : decode cX12_laysPlan 49 = .ok (.getfield 47, 3) := by decide +kernel
theorem dX12_laysPlan_52 : decode cX12_laysPlan 52 = .ok (.iload_n 3, 1) := by decide +kernel
theorem dX12_laysPlan_53 : decode cX12_laysPlan 53 = .ok (.iaload, 1) := by decide +kernel
theorem dX12_laysPlan_54 : decode cX12_laysPlan 54 = .ok (.iconst 1, 1) := by decide +kernel
theorem dX12_laysPlan_55 : decode cX12_laysPlan 55 = .ok (.isub, 1) := by decide +kernel
theorem dX12_laysPlan_56 : decode cX12_laysPlan 56 = .ok (.istore 4, 2) := by decide +kernel
theorem dX12_laysPlan_58 : decode cX12_laysPlan 58 = .ok (.iload 4, 2) := by decide +kernel
theorem dX12_laysPlan_60 : decode cX12_laysPlan 60 = .ok (.aload_n 0, 1) := by decide +kernel
theorem dX12_laysPlan_61 : decode cX12_laysPlan 61 = .ok (.getfield 7, 3) := by decide +kernel
theorem dX12_laysPlan_64 : decode cX12_laysPlan 64 = .ok (.iconst 0, 1) := by decide +kernel
theorem dX12_laysPlan_65 : decode cX12_laysPlan 65 = .ok (.iaload, 1) := by decide +kernel
theorem dX12_laysPlan_66 : decode cX12_laysPlan 66 = .ok (.if_icmp .ne 9, 3) := by decide +kernel
theorem dX12_laysPlan_69 : decode cX12_laysPlan 69 = .ok (.iinc 3 (-1), 3) := by decide +kernel
theorem dX12_laysPlan_72 : decode cX12_laysPlan 72 = .ok (.goto (-46), 3) := by decide +kernel
theorem dX12_laysPlan_75 : decode cX12_laysPlan 75 = .ok (.aload_n 0, 1) := by decide +kernel
theorem dX12_laysPlan_76 : decode cX12_laysPlan 76 = .ok (.getfield 50, 3) := by decide +kernel
theorem dX12_laysPlan_79 : decode cX12_laysPlan 79 = .ok (.iload_n 3, 1) := by decide +kernel
theorem dX12_laysPlan_80 : decode cX12_laysPlan 80 = .ok (.iaload, 1) := by decide +kernel
theorem dX12_laysPlan_81 : decode cX12_laysPlan 81 = .ok (.istore 5, 2) := by decide +kernel
theorem dX12_laysPlan_83 : decode cX12_laysPlan 83 = .ok (.iload 4, 2) := by decide +kernel
theorem dX12_laysPlan_85 : decode cX12_laysPlan 85 = .ok (.iconst (-1), 1) := by decide +kernel
theorem dX12_laysPlan_86 : decode cX12_laysPlan 86 = .ok (.if_icmp .eq 37, 3) := by decide +kernel
theorem dX12_laysPlan_89 : decode cX12_laysPlan 89 = .ok (.aload_n 0, 1) := by decide +kernel
theorem dX12_laysPlan_90 : decode cX12_laysPlan 90 = .ok (.iload 4, 2) := by decide +kernel
theorem dX12_laysPlan_92 : decode cX12_laysPlan 92 = .ok (.invokevirtual 314, 3) := by decide +kernel
theorem dX12_laysPlan_95 : decode cX12_laysPlan 95 = .ok (.ifCond .ne 6, 3) := by decide +kernel
theorem dX12_laysPlan_98 : decode cX12_laysPlan 98 = .ok (.goto (-72), 3) := by decide +kernel
theorem dX12_laysPlan_101 : decode cX12_laysPlan 101 = .ok (.aload_n 0, 1) := by decide +kernel
theorem dX12_laysPlan_102 : decode cX12_laysPlan 102 = .ok (.iload 4, 2) := by decide +kernel
theorem dX12_laysPlan_104 : decode cX12_laysPlan 104 = .ok (.invokevirtual 296, 3) := by decide +kernel
theorem dX12_laysPlan_107 : decode cX12_laysPlan 107 = .ok (.iconst 1, 1) := by decide +kernel
theorem dX12_laysPlan_108 : decode cX12_laysPlan 108 = .ok (.if_icmp .ne 15, 3) := by decide +kernel
theorem dX12_laysPlan_111 : decode cX12_laysPlan 111 = .ok (.iload 5, 2) := by decide +kernel
theorem dX12_laysPlan_113 : decode cX12_laysPlan 113 = .ok (.aload_n 0, 1) := by decide +kernel
theorem dX12_laysPlan_114 : decode cX12_laysPlan 114 = .ok (.iload 4, 2) := by decide +kernel
theorem dX12_laysPlan_116 : decode cX12_laysPlan 116 = .ok (.iconst 2, 1) := by decide +kernel
theorem dX12_laysPlan_117 : decode cX12_laysPlan 117 = .ok (.invokevirtual 269, 3) := by decide +kernel
theorem dX12_laysPlan_120 : decode cX12_laysPlan 120 = .ok (.iadd, 1) := by decide +kernel
theorem dX12_laysPlan_121 : decode cX12_laysPlan 121 = .ok (.istore 5, 2) := by decide +kernel
theorem dX12_laysPlan_123 : decode cX12_laysPlan 123 = .ok (.aload_n 0, 1) := by decide +kernel
theorem dX12_laysPlan_124 : decode cX12_laysPlan 124 = .ok (.invokevirtual 299, 3) := by decide +kernel
theorem dX12_laysPlan_127 : decode cX12_laysPlan 127 = .ok (.aload_n 0, 1) := by decide +kernel
theorem dX12_laysPlan_128 : decode cX12_laysPlan 128 = .ok (.invokevirtual 281, 3) := by decide +kernel
theorem dX12_laysPlan_131 : decode cX12_laysPlan 131 = .ok (.ifCond .ne (-105), 3) := by decide +kernel
theorem dX12_laysPlan_134 : decode cX12_laysPlan 134 = .ok (.iload_n 2, 1) := by decide +kernel
theorem dX12_laysPlan_135 : decode cX12_laysPlan 135 = .ok (.iconst (-1), 1) := by decide +kernel
theorem dX12_laysPlan_136 : decode cX12_laysPlan 136 = .ok (.if_icmp .eq 12, 3) := by decide +kernel
theorem dX12_laysPlan_139 : decode cX12_laysPlan 139 = .ok (.iload 5, 2) := by decide +kernel
theorem dX12_laysPlan_141 : decode cX12_laysPlan 141 = .ok (.iload_n 2, 1) := by decide +kernel
theorem dX12_laysPlan_142 : decode cX12_laysPlan 142 = .ok (.if_icmp .lt 6, 3) := by decide +kernel
theorem dX12_laysPlan_145 : decode cX12_laysPlan 145 = .ok (.goto (-119), 3) := by decide +kernel
theorem dX12_laysPlan_148 : decode cX12_laysPlan 148 = .ok (.iload_n 3, 1) := by decide +kernel
theorem dX12_laysPlan_149 : decode cX12_laysPlan 149 = .ok (.iconst 1, 1) := by decide +kernel
theorem dX12_laysPlan_150 : decode cX12_laysPlan 150 = .ok (.iadd, 1) := by decide +kernel
theorem dX12_laysPlan_151 : decode cX12_laysPlan 151 = .ok (.iload_n 1, 1) := by decide +kernel
theorem dX12_laysPlan_152 : decode cX12_laysPlan 152 = .ok (.if_icmp .ne 40, 3) := by decide +kernel
theorem dX12_laysPlan_155 : decode cX12_laysPlan 155 = .ok (.iload 5, 2) := by decide +kernel
theorem dX12_laysPlan_157 : decode cX12_laysPlan 157 = .ok (.istore_n 2, 1) := by decide +kernel
theorem dX12_laysPlan_158 : decode cX12_laysPlan 158 = .ok (.iconst 0, 1) := by decide +kernel
theorem dX12_laysPlan_159 : decode cX12_laysPlan 159 = .ok (.istore 6, 2) := by decide +kernel
theorem dX12_laysPlan_161 : decode cX12_laysPlan 161 = .ok (.iload 6, 2) := by decide +kernel
theorem dX12_laysPlan_163 : decode cX12_laysPlan 163 = .ok (.iload_n 1, 1) := by decide +kernel
theorem dX12_laysPlan_164 : decode cX12_laysPlan 164 = .ok (.if_icmp .ge 25, 3) := by decide +kernel
theorem dX12_laysPlan_167 : decode cX12_laysPlan 167 = .ok (.aload_n 0, 1) := by decide +kernel
theorem dX12_laysPlan_168 : decode cX12_laysPlan 168 = .ok (.getfield 53, 3) := by decide +kernel
theorem dX12_laysPlan_171 : decode cX12_laysPlan 171 = .ok (.iload 6, 2) := by decide +kernel
theorem dX12_laysPlan_173 : decode cX12_laysPlan 173 = .ok (.aload_n 0, 1) := by decide +kernel
theorem dX12_laysPlan_174 : decode cX12_laysPlan 174 = .ok (.getfield 47, 3) := by decide +kernel
theorem dX12_laysPlan_177 : decode cX12_laysPlan 177 = .ok (.iload 6, 2) := by decide +kernel
theorem dX12_laysPlan_179 : decode cX12_laysPlan 179 = .ok (.iaload, 1) := by decide +kernel
theorem dX12_laysPlan_180 : decode cX12_laysPlan 180 = .ok (.iconst 1, 1) := by decide +kernel
theorem dX12_laysPlan_181 : decode cX12_laysPlan 181 = .ok (.isub, 1) := by decide +kernel
theorem dX12_laysPlan_182 : decode cX12_laysPlan 182 = .ok (.iastore, 1) := by decide +kernel
theorem dX12_laysPlan_183 : decode cX12_laysPlan 183 = .ok (.iinc 6 1, 3) := by decide +kernel
theorem dX12_laysPlan_186 : decode cX12_laysPlan 186 = .ok (.goto (-25), 3) := by decide +kernel
theorem dX12_laysPlan_189 : decode cX12_laysPlan 189 = .ok (.goto 29, 3) := by decide +kernel
theorem dX12_laysPlan_192 : decode cX12_laysPlan 192 = .ok (.iinc 3 1, 3) := by decide +kernel
theorem dX12_laysPlan_195 : decode cX12_laysPlan 195 = .ok (.aload_n 0, 1) := by decide +kernel
theorem dX12_laysPlan_196 : decode cX12_laysPlan 196 = .ok (.getfield 47, 3) := by decide +kernel
theorem dX12_laysPlan_199 : decode cX12_laysPlan 199 = .ok (.iload_n 3, 1) := by decide +kernel
theorem dX12_laysPlan_200 : decode cX12_laysPlan 200 = .ok (.iconst (-1), 1) := by decide +kernel
theorem dX12_laysPlan_201 : decode cX12_laysPlan 201 = .ok (.iastore, 1) := by decide +kernel
theorem dX12_laysPlan_202 : decode cX12_laysPlan 202 = .ok (.aload_n 0, 1) := by decide +kernel
theorem dX12_laysPlan_203 : decode cX12_laysPlan 203 = .ok (.getfield 50, 3) := by decide +kernel
theorem dX12_laysPlan_206 : decode cX12_laysPlan 206 = .ok (.iload_n 3, 1) := by decide +kernel
theorem dX12_laysPlan_207 : decode cX12_laysPlan 207 = .ok (.iload 5, 2) := by decide +kernel
theorem dX12_laysPlan_209 : decode cX12_laysPlan 209 = .ok (.iastore, 1) := by decide +kernel
theorem dX12_laysPlan_210 : decode cX12_laysPlan 210 = .ok (.aload_n 0, 1) := by decide +kernel
theorem dX12_laysPlan_211 : decode cX12_laysPlan 211 = .ok (.iload_n 3, 1) := by decide +kernel
theorem dX12_laysPlan_212 : decode cX12_laysPlan 212 = .ok (.invokestatic 343, 3) := by decide +kernel
theorem dX12_laysPlan_215 : decode cX12_laysPlan 215 = .ok (.invokevirtual 334, 3) := by decide +kernel
theorem dX12_laysPlan_218 : decode cX12_laysPlan 218 = .ok (.goto (-192), 3) := by decide +kernel
theorem dX12_laysPlan_221 : decode cX12_laysPlan 221 = .ok (.aload_n 0, 1) := by decide +kernel
theorem dX12_laysPlan_222 : decode cX12_laysPlan 222 = .ok (.iconst 0, 1) := by decide +kernel
theorem dX12_laysPlan_223 : decode cX12_laysPlan 223 = .ok (.invokestatic 343, 3) := by decide +kernel
theorem dX12_laysPlan_226 : decode cX12_laysPlan 226 = .ok (.invokevirtual 337, 3) := by decide +kernel
theorem dX12_laysPlan_229 : decode cX12_laysPlan 229 = .ok (.iload_n 2, 1) := by decide +kernel
theorem dX12_laysPlan_230 : decode cX12_laysPlan 230 = .ok (.ireturn, 1) := by decide +kernel
theorem dX12_plan_0 : decode cX12_plan 0 = .ok (.iload_n 1, 1) := by decide +kernel
theorem dX12_plan_1 : decode cX12_plan 1 = .ok (.i2l, 1) := by decide +kernel
theorem dX12_plan_2 : decode cX12_plan 2 = .ok (.lconst 1, 1) := by decide +kernel
theorem dX12_plan_3 : decode cX12_plan 3 = .ok (.ldc2_w 346, 3) := by decide +kernel
theorem dX12_plan_6 : decode cX12_plan 6 = .ok (.invokestatic 307, 3) := by decide +kernel
theorem dX12_plan_9 : decode cX12_plan 9 = .ok (.ifCond .ne 9, 3) := by decide +kernel
theorem dX12_plan_12 : decode cX12_plan 12 = .ok (.aload_n 0, 1) := by decide +kernel
theorem dX12_plan_13 : decode cX12_plan 13 = .ok (.iconst 1, 1) := by decide +kernel
theorem dX12_plan_14 : decode cX12_plan 14 = .ok (.invokevirtual 97, 3) := by decide +kernel
theorem dX12_plan_17 : decode cX12_plan 17 = .ok (.ireturn, 1) := by decide +kernel
theorem dX12_plan_18 : decode cX12_plan 18 = .ok (.aload_n 0, 1) := by decide +kernel
theorem dX12_plan_19 : decode cX12_plan 19 = .ok (.aload_n 0, 1) := by decide +kernel
theorem dX12_plan_20 : decode cX12_plan 20 = .ok (.iload_n 1, 1) := by decide +kernel
theorem dX12_plan_21 : decode cX12_plan 21 = .ok (.invokevirtual 348, 3) := by decide +kernel
theorem dX12_plan_24 : decode cX12_plan 24 = .ok (.invokevirtual 284, 3) := by decide +kernel
theorem dX12_plan_27 : decode cX12_plan 27 = .ok (.ireturn, 1) := by decide +kernel
theorem dX12_planAt_0 : decode cX12_planAt 0 = .ok (.iload_n 1, 1) := by decide +kernel
theorem dX12_planAt_1 : decode cX12_planAt 1 = .ok (.i2l, 1) := by decide +kernel
theorem dX12_planAt_2 : decode cX12_planAt 2 = .ok (.lconst 1, 1) := by decide +kernel
theorem dX12_planAt_3 : decode cX12_planAt 3 = .ok (.ldc2_w 346, 3) := by decide +kernel
theorem dX12_planAt_6 : decode cX12_planAt 6 = .ok (.invokestatic 307, 3) := by decide +kernel
theorem dX12_planAt_9 : decode cX12_planAt 9 = .ok (.ifCond .eq 12, 3) := by decide +kernel
theorem dX12_planAt_12 : decode cX12_planAt 12 = .ok (.iload_n 2, 1) := by decide +kernel
theorem dX12_planAt_13 : decode cX12_planAt 13 = .ok (.ifCond .lt 8, 3) := by decide +kernel
theorem dX12_planAt_16 : decode cX12_planAt 16 = .ok (.iload_n 2, 1) := by decide +kernel
theorem dX12_planAt_17 : decode cX12_planAt 17 = .ok (.iload_n 1, 1) := by decide +kernel
theorem dX12_planAt_18 : decode cX12_planAt 18 = .ok (.if_icmp .lt 9, 3) := by decide +kernel
theorem dX12_planAt_21 : decode cX12_planAt 21 = .ok (.aload_n 0, 1) := by decide +kernel
theorem dX12_planAt_22 : decode cX12_planAt 22 = .ok (.iconst 1, 1) := by decide +kernel
theorem dX12_planAt_23 : decode cX12_planAt 23 = .ok (.invokevirtual 97, 3) := by decide +kernel
theorem dX12_planAt_26 : decode cX12_planAt 26 = .ok (.ireturn, 1) := by decide +kernel
theorem dX12_planAt_27 : decode cX12_planAt 27 = .ok (.aload_n 0, 1) := by decide +kernel
theorem dX12_planAt_28 : decode cX12_planAt 28 = .ok (.iload_n 1, 1) := by decide +kernel
theorem dX12_planAt_29 : decode cX12_planAt 29 = .ok (.invokevirtual 348, 3) := by decide +kernel
theorem dX12_planAt_32 : decode cX12_planAt 32 = .ok (.iconst (-1), 1) := by decide +kernel
theorem dX12_planAt_33 : decode cX12_planAt 33 = .ok (.if_icmp .ne 10, 3) := by decide +kernel
theorem dX12_planAt_36 : decode cX12_planAt 36 = .ok (.aload_n 0, 1) := by decide +kernel
theorem dX12_planAt_37 : decode cX12_planAt 37 = .ok (.bipush 6, 2) := by decide +kernel
theorem dX12_planAt_39 : decode cX12_planAt 39 = .ok (.invokevirtual 97, 3) := by decide +kernel
theorem dX12_planAt_42 : decode cX12_planAt 42 = .ok (.ireturn, 1) := by decide +kernel
theorem dX12_planAt_43 : decode cX12_planAt 43 = .ok (.aload_n 0, 1) := by decide +kernel
theorem dX12_planAt_44 : decode cX12_planAt 44 = .ok (.aload_n 0, 1) := by decide +kernel
theorem dX12_planAt_45 : decode cX12_planAt 45 = .ok (.getfield 53, 3) := by decide +kernel
theorem dX12_planAt_48 : decode cX12_planAt 48 = .ok (.iload_n 2, 1) := by decide +kernel
theorem dX12_planAt_49 : decode cX12_planAt 49 = .ok (.iaload, 1) := by decide +kernel
theorem dX12_planAt_50 : decode cX12_planAt 50 = .ok (.iconst (-1), 1) := by decide +kernel
theorem dX12_planAt_51 : decode cX12_planAt 51 = .ok (.if_icmp .ne 12, 3) := by decide +kernel
theorem dX12_planAt_54 : decode cX12_planAt 54 = .ok (.aload_n 0, 1) := by decide +kernel
theorem dX12_planAt_55 : decode cX12_planAt 55 = .ok (.getfield 7, 3) := by decide +kernel
theorem dX12_planAt_58 : decode cX12_planAt 58 = .ok (.iconst 0, 1) := by decide +kernel
theorem dX12_planAt_59 : decode cX12_planAt 59 = .ok (.iaload, 1) := by decide +kernel
theorem dX12_planAt_60 : decode cX12_planAt 60 = .ok (.goto 9, 3) := by decide +kernel
theorem dX12_planAt_63 : decode cX12_planAt 63 = .ok (.aload_n 0, 1) := by decide +kernel
theorem dX12_planAt_64 : decode cX12_planAt 64 = .ok (.getfield 53, 3) := by decide +kernel
theorem dX12_planAt_67 : decode cX12_planAt 67 = .ok (.iload_n 2, 1) := by decide +kernel
theorem dX12_planAt_68 : decode cX12_planAt 68 = .ok (.iaload, 1) := by decide +kernel
theorem dX12_planAt_69 : decode cX12_planAt 69 = .ok (.invokevirtual 101, 3) := by decide +kernel
theorem dX12_planAt_72 : decode cX12_planAt 72 = .ok (.ireturn, 1) := by decide +kernel
theorem dX12_wrongSeen_0 : decode cX12_wrongSeen 0 = .ok (.aload_n 0, 1) := by decide +kernel
theorem dX12_wrongSeen_1 : decode cX12_wrongSeen 1 = .ok (.getfield 24, 3) := by decide +kernel
theorem dX12_wrongSeen_4 : decode cX12_wrongSeen 4 = .ok (.iload_n 1, 1) := by decide +kernel
theorem dX12_wrongSeen_5 : decode cX12_wrongSeen 5 = .ok (.iaload, 1) := by decide +kernel
theorem dX12_wrongSeen_6 : decode cX12_wrongSeen 6 = .ok (.iconst (-1), 1) := by decide +kernel
theorem dX12_wrongSeen_7 : decode cX12_wrongSeen 7 = .ok (.if_icmp .ne 5, 3) := by decide +kernel
theorem dX12_wrongSeen_10 : decode cX12_wrongSeen 10 = .ok (.iconst 2, 1) := by decide +kernel
theorem dX12_wrongSeen_11 : decode cX12_wrongSeen 11 = .ok (.ireturn, 1) := by decide +kernel
theorem dX12_wrongSeen_12 : decode cX12_wrongSeen 12 = .ok (.aload_n 0, 1) := by decide +kernel
theorem dX12_wrongSeen_13 : decode cX12_wrongSeen 13 = .ok (.getfield 24, 3) := by decide +kernel
theorem dX12_wrongSeen_16 : decode cX12_wrongSeen 16 = .ok (.iload_n 1, 1) := by decide +kernel
theorem dX12_wrongSeen_17 : decode cX12_wrongSeen 17 = .ok (.iaload, 1) := by decide +kernel
theorem dX12_wrongSeen_18 : decode cX12_wrongSeen 18 = .ok (.iconst 2, 1) := by decide +kernel
theorem dX12_wrongSeen_19 : decode cX12_wrongSeen 19 = .ok (.iload_n 2, 1) := by decide +kernel
theorem dX12_wrongSeen_20 : decode cX12_wrongSeen 20 = .ok (.imul, 1) := by decide +kernel
theorem dX12_wrongSeen_21 : decode cX12_wrongSeen 21 = .ok (.if_icmp .ge 5, 3) := by decide +kernel
theorem dX12_wrongSeen_24 : decode cX12_wrongSeen 24 = .ok (.iconst 3, 1) := by decide +kernel
theorem dX12_wrongSeen_25 : decode cX12_wrongSeen 25 = .ok (.ireturn, 1) := by decide +kernel
theorem dX12_wrongSeen_26 : decode cX12_wrongSeen 26 = .ok (.iconst 0, 1) := by decide +kernel
theorem dX12_wrongSeen_27 : decode cX12_wrongSeen 27 = .ok (.istore_n 3, 1) := by decide +kernel
theorem dX12_wrongSeen_28 : decode cX12_wrongSeen 28 = .ok (.iload_n 3, 1) := by decide +kernel
theorem dX12_wrongSeen_29 : decode cX12_wrongSeen 29 = .ok (.iload_n 2, 1) := by decide +kernel
theorem dX12_wrongSeen_30 : decode cX12_wrongSeen 30 = .ok (.if_icmp .ge 57, 3) := by decide +kernel
theorem dX12_wrongSeen_33 : decode cX12_wrongSeen 33 = .ok (.bipush 60, 2) := by decide +kernel
theorem dX12_wrongSeen_35 : decode cX12_wrongSeen 35 = .ok (.iload_n 1, 1) := by decide +kernel
theorem dX12_wrongSeen_36 : decode cX12_wrongSeen 36 = .ok (.imul, 1) := by decide +kernel
theorem dX12_wrongSeen_37 : decode cX12_wrongSeen 37 = .ok (.iconst 2, 1) := by decide +kernel
theorem dX12_wrongSeen_38 : decode cX12_wrongSeen 38 = .ok (.iload_n 3, 1) := by decide +kernel
theorem dX12_wrongSeen_39 : decode cX12_wrongSeen 39 = .ok (.imul, 1) := by decide +kernel
theorem dX12_wrongSeen_40 : decode cX12_wrongSeen 40 = .ok (.iadd, 1) := by decide +kernel
theorem dX12_wrongSeen_41 : decode cX12_wrongSeen 41 = .ok (.istore 4, 2) := by decide +kernel
theorem dX12_wrongSeen_43 : decode cX12_wrongSeen 43 = .ok (.aload_n 0, 1) := by decide +kernel
theorem dX12_wrongSeen_44 : decode cX12_wrongSeen 44 = .ok (.getfield 27, 3) := by decide +kernel
theorem dX12_wrongSeen_47 : decode cX12_wrongSeen 47 = .ok (.iload 4, 2) := by decide +kernel
theorem dX12_wrongSeen_49 : decode cX12_wrongSeen 49 = .ok (.laload, 1) := by decide +kernel
theorem dX12_wrongSeen_50 : decode cX12_wrongSeen 50 = .ok (.lconst 0, 1) := by decide +kernel
theorem dX12_wrongSeen_51 : decode cX12_wrongSeen 51 = .ok (.ldc2_w 328, 3) := by decide +kernel
theorem dX12_wrongSeen_54 : decode cX12_wrongSeen 54 = .ok (.invokestatic 307, 3) := by decide +kernel
theorem dX12_wrongSeen_57 : decode cX12_wrongSeen 57 = .ok (.ifCond .eq 22, 3) := by decide +kernel
theorem dX12_wrongSeen_60 : decode cX12_wrongSeen 60 = .ok (.aload_n 0, 1) := by decide +kernel
theorem dX12_wrongSeen_61 : decode cX12_wrongSeen 61 = .ok (.getfield 27, 3) := by decide +kernel
theorem dX12_wrongSeen_64 : decode cX12_wrongSeen 64 = .ok (.iload 4, 2) := by decide +kernel
theorem dX12_wrongSeen_66 : decode cX12_wrongSeen 66 = .ok (.iconst 1, 1) := by decide +kernel
theorem dX12_wrongSeen_67 : decode cX12_wrongSeen 67 = .ok (.iadd, 1) := by decide +kernel
theorem dX12_wrongSeen_68 : decode cX12_wrongSeen 68 = .ok (.laload, 1) := by decide +kernel
theorem dX12_wrongSeen_69 : decode cX12_wrongSeen 69 = .ok (.lconst 0, 1) := by decide +kernel
theorem dX12_wrongSeen_70 : decode cX12_wrongSeen 70 = .ok (.ldc2_w 351, 3) := by decide +kernel
theorem dX12_wrongSeen_73 : decode cX12_wrongSeen 73 = .ok (.invokestatic 307, 3) := by decide +kernel
theorem dX12_wrongSeen_76 : decode cX12_wrongSeen 76 = .ok (.ifCond .ne 5, 3) := by decide +kernel
theorem dX12_wrongSeen_79 : decode cX12_wrongSeen 79 = .ok (.iconst 5, 1) := by decide +kernel
theorem dX12_wrongSeen_80 : decode cX12_wrongSeen 80 = .ok (.ireturn, 1) := by decide +kernel
theorem dX12_wrongSeen_81 : decode cX12_wrongSeen 81 = .ok (.iinc 3 1, 3) := by decide +kernel
theorem dX12_wrongSeen_84 : decode cX12_wrongSeen 84 = .ok (.goto (-56), 3) := by decide +kernel
theorem dX12_wrongSeen_87 : decode cX12_wrongSeen 87 = .ok (.iconst 0, 1) := by decide +kernel
theorem dX12_wrongSeen_88 : decode cX12_wrongSeen 88 = .ok (.ireturn, 1) := by decide +kernel
theorem dX12_laysHere_0 : decode cX12_laysHere 0 = .ok (.aload_n 0, 1) := by decide +kernel
theorem dX12_laysHere_1 : decode cX12_laysHere 1 = .ok (.sipush 2140, 3) := by decide +kernel
theorem dX12_laysHere_4 : decode cX12_laysHere 4 = .ok (.invokevirtual 334, 3) := by decide +kernel
theorem dX12_laysHere_7 : decode cX12_laysHere 7 = .ok (.aload_n 0, 1) := by decide +kernel
theorem dX12_laysHere_8 : decode cX12_laysHere 8 = .ok (.getfield 7, 3) := by decide +kernel
theorem dX12_laysHere_11 : decode cX12_laysHere 11 = .ok (.iconst 2, 1) := by decide +kernel
theorem dX12_laysHere_12 : decode cX12_laysHere 12 = .ok (.iload_n 2, 1) := by decide +kernel
theorem dX12_laysHere_13 : decode cX12_laysHere 13 = .ok (.bipush 10, 2) := by decide +kernel
theorem dX12_laysHere_15 : decode cX12_laysHere 15 = .ok (.idiv, 1) := by decide +kernel
theorem dX12_laysHere_16 : decode cX12_laysHere 16 = .ok (.iastore, 1) := by decide +kernel
theorem dX12_laysHere_17 : decode cX12_laysHere 17 = .ok (.aload_n 0, 1) := by decide +kernel
theorem dX12_laysHere_18 : decode cX12_laysHere 18 = .ok (.getfield 7, 3) := by decide +kernel
theorem dX12_laysHere_21 : decode cX12_laysHere 21 = .ok (.iload_n 1, 1) := by decide +kernel
theorem dX12_laysHere_22 : decode cX12_laysHere 22 = .ok (.invokestatic 192, 3) := by decide +kernel
theorem dX12_laysHere_25 : decode cX12_laysHere 25 = .ok (.iload_n 2, 1) := by decide +kernel
theorem dX12_laysHere_26 : decode cX12_laysHere 26 = .ok (.bipush 10, 2) := by decide +kernel
theorem dX12_laysHere_28 : decode cX12_laysHere 28 = .ok (.irem, 1) := by decide +kernel
theorem dX12_laysHere_29 : decode cX12_laysHere 29 = .ok (.iastore, 1) := by decide +kernel
theorem dX12_laysHere_30 : decode cX12_laysHere 30 = .ok (.iconst 0, 1) := by decide +kernel
theorem dX12_laysHere_31 : decode cX12_laysHere 31 = .ok (.istore_n 3, 1) := by decide +kernel
theorem dX12_laysHere_32 : decode cX12_laysHere 32 = .ok (.iload_n 3, 1) := by decide +kernel
theorem dX12_laysHere_33 : decode cX12_laysHere 33 = .ok (.bipush 20, 2) := by decide +kernel
theorem dX12_laysHere_35 : decode cX12_laysHere 35 = .ok (.if_icmp .gt 27, 3) := by decide +kernel
theorem dX12_laysHere_38 : decode cX12_laysHere 38 = .ok (.aload_n 0, 1) := by decide +kernel
theorem dX12_laysHere_39 : decode cX12_laysHere 39 = .ok (.getfield 56, 3) := by decide +kernel
theorem dX12_laysHere_42 : decode cX12_laysHere 42 = .ok (.iload_n 3, 1) := by decide +kernel
theorem dX12_laysHere_43 : decode cX12_laysHere 43 = .ok (.aload_n 0, 1) := by decide +kernel
theorem dX12_laysHere_44 : decode cX12_laysHere 44 = .ok (.invokevirtual 275, 3) := by decide +kernel
theorem dX12_laysHere_47 : decode cX12_laysHere 47 = .ok (.invokestatic 293, 3) := by decide +kernel
theorem dX12_laysHere_50 : decode cX12_laysHere 50 = .ok (.iastore, 1) := by decide +kernel
theorem dX12_laysHere_51 : decode cX12_laysHere 51 = .ok (.aload_n 0, 1) := by decide +kernel
theorem dX12_laysHere_52 : decode cX12_laysHere 52 = .ok (.invokevirtual 302, 3) := by decide +kernel
theorem dX12_laysHere_55 : decode cX12_laysHere 55 = .ok (.pop, 1) := by decide +kernel
theorem dX12_laysHere_56 : decode cX12_laysHere 56 = .ok (.iinc 3 1, 3) := by decide +kernel
theorem dX12_laysHere_59 : decode cX12_laysHere 59 = .ok (.goto (-27), 3) := by decide +kernel
theorem dX12_laysHere_62 : decode cX12_laysHere 62 = .ok (.aload_n 0, 1) := by decide +kernel
theorem dX12_laysHere_63 : decode cX12_laysHere 63 = .ok (.sipush 2140, 3) := by decide +kernel
theorem dX12_laysHere_66 : decode cX12_laysHere 66 = .ok (.invokevirtual 337, 3) := by decide +kernel
theorem dX12_laysHere_69 : decode cX12_laysHere 69 = .ok (.return_, 1) := by decide +kernel
theorem dX12_laysSeen_0 : decode cX12_laysSeen 0 = .ok (.iconst 0, 1) := by decide +kernel
theorem dX12_laysSeen_1 : decode cX12_laysSeen 1 = .ok (.istore 4, 2) := by decide +kernel
theorem dX12_laysSeen_3 : decode cX12_laysSeen 3 = .ok (.bipush 10, 2) := by decide +kernel
theorem dX12_laysSeen_5 : decode cX12_laysSeen 5 = .ok (.istore 5, 2) := by decide +kernel
theorem dX12_laysSeen_7 : decode cX12_laysSeen 7 = .ok (.iload 5, 2) := by decide +kernel
theorem dX12_laysSeen_9 : decode cX12_laysSeen 9 = .ok (.bipush 100, 2) := by decide +kernel
theorem dX12_laysSeen_11 : decode cX12_laysSeen 11 = .ok (.if_icmp .ge 144, 3) := by decide +kernel
theorem dX12_laysSeen_14 : decode cX12_laysSeen 14 = .ok (.iconst 1, 1) := by decide +kernel
theorem dX12_laysSeen_15 : decode cX12_laysSeen 15 = .ok (.istore 6, 2) := by decide +kernel
theorem dX12_laysSeen_17 : decode cX12_laysSeen 17 = .ok (.aload_n 0, 1) := by decide +kernel
theorem dX12_laysSeen_18 : decode cX12_laysSeen 18 = .ok (.iload_n 1, 1) := by decide +kernel
theorem dX12_laysSeen_19 : decode cX12_laysSeen 19 = .ok (.iload 5, 2) := by decide +kernel
theorem dX12_laysSeen_21 : decode cX12_laysSeen 21 = .ok (.invokevirtual 353, 3) := by decide +kernel
theorem dX12_laysSeen_24 : decode cX12_laysSeen 24 = .ok (.iconst 0, 1) := by decide +kernel
theorem dX12_laysSeen_25 : decode cX12_laysSeen 25 = .ok (.istore 7, 2) := by decide +kernel
theorem dX12_laysSeen_27 : decode cX12_laysSeen 27 = .ok (.iload 7, 2) := by decide +kernel
theorem dX12_laysSeen_29 : decode cX12_laysSeen 29 = .ok (.iload_n 3, 1) := by decide +kernel
theorem dX12_laysSeen_30 : decode cX12_laysSeen 30 = .ok (.if_icmp .ge 59, 3) := by decide +kernel
theorem dX12_laysSeen_33 : decode cX12_laysSeen 33 = .ok (.bipush 60, 2) := by decide +kernel
theorem dX12_laysSeen_35 : decode cX12_laysSeen 35 = .ok (.iload_n 2, 1) := by decide +kernel
theorem dX12_laysSeen_36 : decode cX12_laysSeen 36 = .ok (.imul, 1) := by decide +kernel
theorem dX12_laysSeen_37 : decode cX12_laysSeen 37 = .ok (.iconst 2, 1) := by decide +kernel
theorem dX12_laysSeen_38 : decode cX12_laysSeen 38 = .ok (.iload 7, 2) := by decide +kernel
theorem dX12_laysSeen_40 : decode cX12_laysSeen 40 = .ok (.imul, 1) := by decide +kernel
theorem dX12_laysSeen_41 : decode cX12_laysSeen 41 = .ok (.iadd, 1) := by decide +kernel
theorem dX12_laysSeen_42 : decode cX12_laysSeen 42 = .ok (.istore 8, 2) := by decide +kernel
theorem dX12_laysSeen_44 : decode cX12_laysSeen 44 = .ok (.iload 6, 2) := by decide +kernel
theorem dX12_laysSeen_46 : decode cX12_laysSeen 46 = .ok (.ifCond .eq 34, 3) := by decide +kernel
theorem dX12_laysSeen_49 : decode cX12_laysSeen 49 = .ok (.aload_n 0, 1) := by decide +kernel
theorem dX12_laysSeen_50 : decode cX12_laysSeen 50 = .ok (.getfield 56, 3) := by decide +kernel
theorem dX12_laysSeen_53 : decode cX12_laysSeen 53 = .ok (.aload_n 0, 1) := by decide +kernel
theorem dX12_laysSeen_54 : decode cX12_laysSeen 54 = .ok (.getfield 27, 3) := by decide +kernel
theorem dX12_laysSeen_57 : decode cX12_laysSeen 57 = .ok (.iload 8, 2) := by decide +kernel
theorem dX12_laysSeen_59 : decode cX12_laysSeen 59 = .ok (.laload, 1) := by decide +kernel
theorem dX12_laysSeen_60 : decode cX12_laysSeen 60 = .ok (.l2i, 1) := by decide +kernel
theorem dX12_laysSeen_61 : decode cX12_laysSeen 61 = .ok (.iaload, 1) := by decide +kernel
theorem dX12_laysSeen_62 : decode cX12_laysSeen 62 = .ok (.i2l, 1) := by decide +kernel
theorem dX12_laysSeen_63 : decode cX12_laysSeen 63 = .ok (.aload_n 0, 1) := by decide +kernel
theorem dX12_laysSeen_64 : decode cX12_laysSeen 64 = .ok (.getfield 27, 3) := by decide +kernel
theorem dX12_laysSeen_67 : decode cX12_laysSeen 67 = .ok (.iload 8, 2) := by decide +kernel
theorem dX12_laysSeen_69 : decode cX12_laysSeen 69 = .ok (.iconst 1, 1) := by decide +kernel
theorem dX12_laysSeen_70 : decode cX12_laysSeen 70 = .ok (.iadd, 1) := by decide +kernel
theorem dX12_laysSeen_71 : decode cX12_laysSeen 71 = .ok (.laload, 1) := by decide +kernel
theorem dX12_laysSeen_72 : decode cX12_laysSeen 72 = .ok (.lcmp, 1) := by decide +kernel
theorem dX12_laysSeen_73 : decode cX12_laysSeen 73 = .ok (.ifCond .ne 7, 3) := by decide +kernel
theorem dX12_laysSeen_76 : decode cX12_laysSeen 76 = .ok (.iconst 1, 1) := by decide +kernel
theorem dX12_laysSeen_77 : decode cX12_laysSeen 77 = .ok (.goto 4, 3) := by decide +kernel
theorem dX12_laysSeen_80 : decode cX12_laysSeen 80 = .ok (.iconst 0, 1) := by decide +kernel
theorem dX12_laysSeen_81 : decode cX12_laysSeen 81 = .ok (.istore 6, 2) := by decide +kernel
theorem dX12_laysSeen_83 : decode cX12_laysSeen 83 = .ok (.iinc 7 1, 3) := by decide +kernel
theorem dX12_laysSeen_86 : decode cX12_laysSeen 86 = .ok (.goto (-59), 3) := by decide +kernel
theorem dX12_laysSeen_89 : decode cX12_laysSeen 89 = .ok (.iconst 0, 1) := by decide +kernel
theorem dX12_laysSeen_90 : decode cX12_laysSeen 90 = .ok (.istore 7, 2) := by decide +kernel
theorem dX12_laysSeen_92 : decode cX12_laysSeen 92 = .ok (.iload 7, 2) := by decide +kernel
theorem dX12_laysSeen_94 : decode cX12_laysSeen 94 = .ok (.bipush 20, 2) := by decide +kernel
theorem dX12_laysSeen_96 : decode cX12_laysSeen 96 = .ok (.if_icmp .gt 29, 3) := by decide +kernel
theorem dX12_laysSeen_99 : decode cX12_laysSeen 99 = .ok (.aload_n 0, 1) := by decide +kernel
theorem dX12_laysSeen_100 : decode cX12_laysSeen 100 = .ok (.getfield 66, 3) := by decide +kernel
theorem dX12_laysSeen_103 : decode cX12_laysSeen 103 = .ok (.bipush 21, 2) := by decide +kernel
theorem dX12_laysSeen_105 : decode cX12_laysSeen 105 = .ok (.iload 5, 2) := by decide +kernel
theorem dX12_laysSeen_107 : decode cX12_laysSeen 107 = .ok (.imul, 1) := by decide +kernel
theorem dX12_laysSeen_108 : decode cX12_laysSeen 108 = .ok (.iload 7, 2) := by decide +kernel
theorem dX12_laysSeen_110 : decode cX12_laysSeen 110 = .ok (.iadd, 1) := by decide +kernel
theorem dX12_laysSeen_111 : decode cX12_laysSeen 111 = .ok (.aload_n 0, 1) := by decide +kernel
theorem dX12_laysSeen_112 : decode cX12_laysSeen 112 = .ok (.getfield 56, 3) := by decide +kernel
theorem dX12_laysSeen_115 : decode cX12_laysSeen 115 = .ok (.iload 7, 2) := by decide +kernel
theorem dX12_laysSeen_117 : decode cX12_laysSeen 117 = .ok (.iaload, 1) := by decide +kernel
theorem dX12_laysSeen_118 : decode cX12_laysSeen 118 = .ok (.iastore, 1) := by decide +kernel
theorem dX12_laysSeen_119 : decode cX12_laysSeen 119 = .ok (.iinc 7 1, 3) := by decide +kernel
theorem dX12_laysSeen_122 : decode cX12_laysSeen 122 = .ok (.goto (-30), 3) := by decide +kernel
theorem dX12_laysSeen_125 : decode cX12_laysSeen 125 = .ok (.aload_n 0, 1) := by decide +kernel
theorem dX12_laysSeen_126 : decode cX12_laysSeen 126 = .ok (.getfield 62, 3) := by decide +kernel
theorem dX12_laysSeen_129 : decode cX12_laysSeen 129 = .ok (.iload 5, 2) := by decide +kernel
theorem dX12_laysSeen_131 : decode cX12_laysSeen 131 = .ok (.iload 6, 2) := by decide +kernel
theorem dX12_laysSeen_133 : decode cX12_laysSeen 133 = .ok (.bastore, 1) := by decide +kernel
theorem dX12_laysSeen_134 : decode cX12_laysSeen 134 = .ok (.iload 4, 2) := by decide +kernel
theorem dX12_laysSeen_136 : decode cX12_laysSeen 136 = .ok (.iload 6, 2) := by decide +kernel
theorem dX12_laysSeen_138 : decode cX12_laysSeen 138 = .ok (.ifCond .eq 7, 3) := by decide +kernel
theorem dX12_laysSeen_141 : decode cX12_laysSeen 141 = .ok (.iconst 1, 1) := by decide +kernel
theorem dX12_laysSeen_142 : decode cX12_laysSeen 142 = .ok (.goto 4, 3) := by decide +kernel
theorem dX12_laysSeen_145 : decode cX12_laysSeen 145 = .ok (.iconst 0, 1) := by decide +kernel
theorem dX12_laysSeen_146 : decode cX12_laysSeen 146 = .ok (.iadd, 1) := by decide +kernel
theorem dX12_laysSeen_147 : decode cX12_laysSeen 147 = .ok (.istore 4, 2) := by decide +kernel
theorem dX12_laysSeen_149 : decode cX12_laysSeen 149 = .ok (.iinc 5 1, 3) := by decide +kernel
theorem dX12_laysSeen_152 : decode cX12_laysSeen 152 = .ok (.goto (-145), 3) := by decide +kernel
theorem dX12_laysSeen_155 : decode cX12_laysSeen 155 = .ok (.iload 4, 2) := by decide +kernel
theorem dX12_laysSeen_157 : decode cX12_laysSeen 157 = .ok (.ireturn, 1) := by decide +kernel
theorem dX12_wrongCall_0 : decode cX12_wrongCall 0 = .ok (.aload_n 0, 1) := by decide +kernel
theorem dX12_wrongCall_1 : decode cX12_wrongCall 1 = .ok (.iload_n 1, 1) := by decide +kernel
theorem dX12_wrongCall_2 : decode cX12_wrongCall 2 = .ok (.invokevirtual 266, 3) := by decide +kernel
theorem dX12_wrongCall_5 : decode cX12_wrongCall 5 = .ok (.ifCond .eq 22, 3) := by decide +kernel
theorem dX12_wrongCall_8 : decode cX12_wrongCall 8 = .ok (.iload_n 2, 1) := by decide +kernel
theorem dX12_wrongCall_9 : decode cX12_wrongCall 9 = .ok (.invokestatic 108, 3) := by decide +kernel
theorem dX12_wrongCall_12 : decode cX12_wrongCall 12 = .ok (.ifCond .eq 15, 3) := by decide +kernel
theorem dX12_wrongCall_15 : decode cX12_wrongCall 15 = .ok (.iload_n 3, 1) := by decide +kernel
theorem dX12_wrongCall_16 : decode cX12_wrongCall 16 = .ok (.i2l, 1) := by decide +kernel
theorem dX12_wrongCall_17 : decode cX12_wrongCall 17 = .ok (.lconst 0, 1) := by decide +kernel
theorem dX12_wrongCall_18 : decode cX12_wrongCall 18 = .ok (.ldc2_w 328, 3) := by decide +kernel
theorem dX12_wrongCall_21 : decode cX12_wrongCall 21 = .ok (.invokestatic 307, 3) := by decide +kernel
theorem dX12_wrongCall_24 : decode cX12_wrongCall 24 = .ok (.ifCond .ne 5, 3) := by decide +kernel
theorem dX12_wrongCall_27 : decode cX12_wrongCall 27 = .ok (.iconst 1, 1) := by decide +kernel
theorem dX12_wrongCall_28 : decode cX12_wrongCall 28 = .ok (.ireturn, 1) := by decide +kernel
theorem dX12_wrongCall_29 : decode cX12_wrongCall 29 = .ok (.aload_n 0, 1) := by decide +kernel
theorem dX12_wrongCall_30 : decode cX12_wrongCall 30 = .ok (.iload_n 2, 1) := by decide +kernel
theorem dX12_wrongCall_31 : decode cX12_wrongCall 31 = .ok (.iload_n 3, 1) := by decide +kernel
theorem dX12_wrongCall_32 : decode cX12_wrongCall 32 = .ok (.invokevirtual 357, 3) := by decide +kernel
theorem dX12_wrongCall_35 : decode cX12_wrongCall 35 = .ok (.ireturn, 1) := by decide +kernel
theorem dX12_seen_0 : decode cX12_seen 0 = .ok (.aload_n 0, 1) := by decide +kernel
theorem dX12_seen_1 : decode cX12_seen 1 = .ok (.iload_n 1, 1) := by decide +kernel
theorem dX12_seen_2 : decode cX12_seen 2 = .ok (.iload_n 2, 1) := by decide +kernel
theorem dX12_seen_3 : decode cX12_seen 3 = .ok (.iload_n 3, 1) := by decide +kernel
theorem dX12_seen_4 : decode cX12_seen 4 = .ok (.invokevirtual 360, 3) := by decide +kernel
theorem dX12_seen_7 : decode cX12_seen 7 = .ok (.istore 4, 2) := by decide +kernel
theorem dX12_seen_9 : decode cX12_seen 9 = .ok (.iload 4, 2) := by decide +kernel
theorem dX12_seen_11 : decode cX12_seen 11 = .ok (.ifCond .le 12, 3) := by decide +kernel
theorem dX12_seen_14 : decode cX12_seen 14 = .ok (.aload_n 0, 1) := by decide +kernel
theorem dX12_seen_15 : decode cX12_seen 15 = .ok (.iload 4, 2) := by decide +kernel
theorem dX12_seen_17 : decode cX12_seen 17 = .ok (.invokevirtual 97, 3) := by decide +kernel
theorem dX12_seen_20 : decode cX12_seen 20 = .ok (.goto 14, 3) := by decide +kernel
theorem dX12_seen_23 : decode cX12_seen 23 = .ok (.aload_n 0, 1) := by decide +kernel
theorem dX12_seen_24 : decode cX12_seen 24 = .ok (.aload_n 0, 1) := by decide +kernel
theorem dX12_seen_25 : decode cX12_seen 25 = .ok (.iload_n 1, 1) := by decide +kernel
theorem dX12_seen_26 : decode cX12_seen 26 = .ok (.iload_n 2, 1) := by decide +kernel
theorem dX12_seen_27 : decode cX12_seen 27 = .ok (.iload_n 3, 1) := by decide +kernel
theorem dX12_seen_28 : decode cX12_seen 28 = .ok (.invokevirtual 364, 3) := by decide +kernel
theorem dX12_seen_31 : decode cX12_seen 31 = .ok (.invokevirtual 101, 3) := by decide +kernel
theorem dX12_seen_34 : decode cX12_seen 34 = .ok (.ireturn, 1) := by decide +kernel
theorem dX12_seenAs_0 : decode cX12_seenAs 0 = .ok (.iload 4, 2) := by decide +kernel
theorem dX12_seenAs_2 : decode cX12_seenAs 2 = .ok (.ifCond .lt 9, 3) := by decide +kernel
theorem dX12_seenAs_5 : decode cX12_seenAs 5 = .ok (.iload 4, 2) := by decide +kernel
theorem dX12_seenAs_7 : decode cX12_seenAs 7 = .ok (.iconst 1, 1) := by decide +kernel
theorem dX12_seenAs_8 : decode cX12_seenAs 8 = .ok (.if_icmp .le 7, 3) := by decide +kernel
theorem dX12_seenAs_11 : decode cX12_seenAs 11 = .ok (.iconst 1, 1) := by decide +kernel
theorem dX12_seenAs_12 : decode cX12_seenAs 12 = .ok (.goto 10, 3) := by decide +kernel
theorem dX12_seenAs_15 : decode cX12_seenAs 15 = .ok (.aload_n 0, 1) := by decide +kernel
theorem dX12_seenAs_16 : decode cX12_seenAs 16 = .ok (.iload_n 1, 1) := by decide +kernel
theorem dX12_seenAs_17 : decode cX12_seenAs 17 = .ok (.iload_n 2, 1) := by decide +kernel
theorem dX12_seenAs_18 : decode cX12_seenAs 18 = .ok (.iload_n 3, 1) := by decide +kernel
theorem dX12_seenAs_19 : decode cX12_seenAs 19 = .ok (.invokevirtual 360, 3) := by decide +kernel
theorem dX12_seenAs_22 : decode cX12_seenAs 22 = .ok (.istore 5, 2) := by decide +kernel
theorem dX12_seenAs_24 : decode cX12_seenAs 24 = .ok (.iload 5, 2) := by decide +kernel
theorem dX12_seenAs_26 : decode cX12_seenAs 26 = .ok (.ifCond .le 10, 3) := by decide +kernel
theorem dX12_seenAs_29 : decode cX12_seenAs 29 = .ok (.aload_n 0, 1) := by decide +kernel
theorem dX12_seenAs_30 : decode cX12_seenAs 30 = .ok (.iload 5, 2) := by decide +kernel
theorem dX12_seenAs_32 : decode cX12_seenAs 32 = .ok (.invokevirtual 97, 3) := by decide +kernel
theorem dX12_seenAs_35 : decode cX12_seenAs 35 = .ok (.ireturn, 1) := by decide +kernel
theorem dX12_seenAs_36 : decode cX12_seenAs 36 = .ok (.aload_n 0, 1) := by decide +kernel
theorem dX12_seenAs_37 : decode cX12_seenAs 37 = .ok (.iload_n 1, 1) := by decide +kernel
theorem dX12_seenAs_38 : decode cX12_seenAs 38 = .ok (.iload_n 2, 1) := by decide +kernel
theorem dX12_seenAs_39 : decode cX12_seenAs 39 = .ok (.iload_n 3, 1) := by decide +kernel
theorem dX12_seenAs_40 : decode cX12_seenAs 40 = .ok (.invokevirtual 364, 3) := by decide +kernel
theorem dX12_seenAs_43 : decode cX12_seenAs 43 = .ok (.pop, 1) := by decide +kernel
theorem dX12_seenAs_44 : decode cX12_seenAs 44 = .ok (.bipush 10, 2) := by decide +kernel
theorem dX12_seenAs_46 : decode cX12_seenAs 46 = .ok (.istore 6, 2) := by decide +kernel
theorem dX12_seenAs_48 : decode cX12_seenAs 48 = .ok (.iload 6, 2) := by decide +kernel
theorem dX12_seenAs_50 : decode cX12_seenAs 50 = .ok (.bipush 100, 2) := by decide +kernel
theorem dX12_seenAs_52 : decode cX12_seenAs 52 = .ok (.if_icmp .ge 42, 3) := by decide +kernel
theorem dX12_seenAs_55 : decode cX12_seenAs 55 = .ok (.aload_n 0, 1) := by decide +kernel
theorem dX12_seenAs_56 : decode cX12_seenAs 56 = .ok (.getfield 62, 3) := by decide +kernel
theorem dX12_seenAs_59 : decode cX12_seenAs 59 = .ok (.iload 6, 2) := by decide +kernel
theorem dX12_seenAs_61 : decode cX12_seenAs 61 = .ok (.baload, 1) := by decide +kernel
theorem dX12_seenAs_62 : decode cX12_seenAs 62 = .ok (.ifCond .eq 26, 3) := by decide +kernel
theorem dX12_seenAs_65 : decode cX12_seenAs 65 = .ok (.aload_n 0, 1) := by decide +kernel
theorem dX12_seenAs_66 : decode cX12_seenAs 66 = .ok (.iload 4, 2) := by decide +kernel
theorem dX12_seenAs_68 : decode cX12_seenAs 68 = .ok (.ifCond .ne 11, 3) := by decide +kernel
theorem dX12_seenAs_71 : decode cX12_seenAs 71 = .ok (.iload 6, 2) := by decide +kernel
theorem dX12_seenAs_73 : decode cX12_seenAs 73 = .ok (.bipush 10, 2) := by decide +kernel
theorem dX12_seenAs_75 : decode cX12_seenAs 75 = .ok (.idiv, 1) := by decide +kernel
theorem dX12_seenAs_76 : decode cX12_seenAs 76 = .ok (.goto 8, 3) := by decide +kernel
theorem dX12_seenAs_79 : decode cX12_seenAs 79 = .ok (.iload 6, 2) := by decide +kernel
theorem dX12_seenAs_81 : decode cX12_seenAs 81 = .ok (.bipush 10, 2) := by decide +kernel
theorem dX12_seenAs_83 : decode cX12_seenAs 83 = .ok (.irem, 1) := by decide +kernel
theorem dX12_seenAs_84 : decode cX12_seenAs 84 = .ok (.invokevirtual 101, 3) := by decide +kernel
theorem dX12_seenAs_87 : decode cX12_seenAs 87 = .ok (.ireturn, 1) := by decide +kernel
theorem dX12_seenAs_88 : decode cX12_seenAs 88 = .ok (.iinc 6 1, 3) := by decide +kernel
theorem dX12_seenAs_91 : decode cX12_seenAs 91 = .ok (.goto (-43), 3) := by decide +kernel
theorem dX12_seenAs_94 : decode cX12_seenAs 94 = .ok (.aload_n 0, 1) := by decide +kernel
theorem dX12_seenAs_95 : decode cX12_seenAs 95 = .ok (.bipush 6, 2) := by decide +kernel
theorem dX12_seenAs_97 : decode cX12_seenAs 97 = .ok (.invokevirtual 97, 3) := by decide +kernel
theorem dX12_seenAs_100 : decode cX12_seenAs 100 = .ok (.ireturn, 1) := by decide +kernel
theorem dX12_mostAlike_0 : decode cX12_mostAlike 0 = .ok (.iconst 0, 1) := by decide +kernel
theorem dX12_mostAlike_1 : decode cX12_mostAlike 1 = .ok (.istore_n 2, 1) := by decide +kernel
theorem dX12_mostAlike_2 : decode cX12_mostAlike 2 = .ok (.iconst 0, 1) := by decide +kernel
theorem dX12_mostAlike_3 : decode cX12_mostAlike 3 = .ok (.istore_n 3, 1) := by decide +kernel
theorem dX12_mostAlike_4 : decode cX12_mostAlike 4 = .ok (.iload_n 3, 1) := by decide +kernel
theorem dX12_mostAlike_5 : decode cX12_mostAlike 5 = .ok (.bipush 8, 2) := by decide +kernel
theorem dX12_mostAlike_7 : decode cX12_mostAlike 7 = .ok (.if_icmp .ge 16, 3) := by decide +kernel
theorem dX12_mostAlike_10 : decode cX12_mostAlike 10 = .ok (.aload_n 0, 1) := by decide +kernel
theorem dX12_mostAlike_11 : decode cX12_mostAlike 11 = .ok (.getfield 59, 3) := by decide +kernel
theorem dX12_mostAlike_14 : decode cX12_mostAlike 14 = .ok (.iload_n 3, 1) := by decide +kernel
theorem dX12_mostAlike_15 : decode cX12_mostAlike 15 = .ok (.iconst 0, 1) := by decide +kernel
theorem dX12_mostAlike_16 : decode cX12_mostAlike 16 = .ok (.iastore, 1) := by decide +kernel
theorem dX12_mostAlike_17 : decode cX12_mostAlike 17 = .ok (.iinc 3 1, 3) := by decide +kernel
theorem dX12_mostAlike_20 : decode cX12_mostAlike 20 = .ok (.goto (-16), 3) := by decide +kernel
theorem dX12_mostAlike_23 : decode cX12_mostAlike 23 = .ok (.bipush 10, 2) := by decide +kernel
theorem dX12_mostAlike_25 : decode cX12_mostAlike 25 = .ok (.istore_n 3, 1) := by decide +kernel
theorem dX12_mostAlike_26 : decode cX12_mostAlike 26 = .ok (.iload_n 3, 1) := by decide +kernel
theorem dX12_mostAlike_27 : decode cX12_mostAlike 27 = .ok (.bipush 100, 2) := by decide +kernel
theorem dX12_mostAlike_29 : decode cX12_mostAlike 29 = .ok (.if_icmp .ge 38, 3) := by decide +kernel
theorem dX12_mostAlike_32 : decode cX12_mostAlike 32 = .ok (.aload_n 0, 1) := by decide +kernel
theorem dX12_mostAlike_33 : decode cX12_mostAlike 33 = .ok (.getfield 62, 3) := by decide +kernel
theorem dX12_mostAlike_36 : decode cX12_mostAlike 36 = .ok (.iload_n 3, 1) := by decide +kernel
theorem dX12_mostAlike_37 : decode cX12_mostAlike 37 = .ok (.baload, 1) := by decide +kernel
theorem dX12_mostAlike_38 : decode cX12_mostAlike 38 = .ok (.ifCond .eq 23, 3) := by decide +kernel
theorem dX12_mostAlike_41 : decode cX12_mostAlike 41 = .ok (.aload_n 0, 1) := by decide +kernel
theorem dX12_mostAlike_42 : decode cX12_mostAlike 42 = .ok (.getfield 59, 3) := by decide +kernel
theorem dX12_mostAlike_45 : decode cX12_mostAlike 45 = .ok (.aload_n 0, 1) := by decide +kernel
theorem dX12_mostAlike_46 : decode cX12_mostAlike 46 = .ok (.getfield 66, 3) := by decide +kernel
theorem dX12_mostAlike_49 : decode cX12_mostAlike 49 = .ok (.bipush 21, 2) := by decide +kernel
theorem dX12_mostAlike_51 : decode cX12_mostAlike 51 = .ok (.iload_n 3, 1) := by decide +kernel
theorem dX12_mostAlike_52 : decode cX12_mostAlike 52 = .ok (.imul, 1) := by decide +kernel
theorem dX12_mostAlike_53 : decode cX12_mostAlike 53 = .ok (.iload_n 1, 1) := by decide +kernel
theorem dX12_mostAlike_54 : decode cX12_mostAlike 54 = .ok (.iadd, 1) := by decide +kernel
theorem dX12_mostAlike_55 : decode cX12_mostAlike 55 = .ok (.iaload, 1) := by decide +kernel
theorem dX12_mostAlike_56 : decode cX12_mostAlike 56 = .ok (.dup2, 1) := by decide +kernel
theorem dX12_mostAlike_57 : decode cX12_mostAlike 57 = .ok (.iaload, 1) := by decide +kernel
theorem dX12_mostAlike_58 : decode cX12_mostAlike 58 = .ok (.iconst 1, 1) := by decide +kernel
theorem dX12_mostAlike_59 : decode cX12_mostAlike 59 = .ok (.iadd, 1) := by decide +kernel
theorem dX12_mostAlike_60 : decode cX12_mostAlike 60 = .ok (.iastore, 1) := by decide +kernel
theorem dX12_mostAlike_61 : decode cX12_mostAlike 61 = .ok (.iinc 3 1, 3) := by decide +kernel
theorem dX12_mostAlike_64 : decode cX12_mostAlike 64 = .ok (.goto (-38), 3) := by decide +kernel
theorem dX12_mostAlike_67 : decode cX12_mostAlike 67 = .ok (.iconst 0, 1) := by decide +kernel
theorem dX12_mostAlike_68 : decode cX12_mostAlike 68 = .ok (.istore_n 3, 1) := by decide +kernel
theorem dX12_mostAlike_69 : decode cX12_mostAlike 69 = .ok (.iload_n 3, 1) := by decide +kernel
theorem dX12_mostAlike_70 : decode cX12_mostAlike 70 = .ok (.bipush 8, 2) := by decide +kernel
theorem dX12_mostAlike_72 : decode cX12_mostAlike 72 = .ok (.if_icmp .ge 20, 3) := by decide +kernel
theorem dX12_mostAlike_75 : decode cX12_mostAlike 75 = .ok (.iload_n 2, 1) := by decide +kernel
theorem dX12_mostAlike_76 : decode cX12_mostAlike 76 = .ok (.aload_n 0, 1) := by decide +kernel
theorem dX12_mostAlike_77 : decode cX12_mostAlike 77 = .ok (.getfield 59, 3) := by decide +kernel
theorem dX12_mostAlike_80 : decode cX12_mostAlike 80 = .ok (.iload_n 3, 1) := by decide +kernel
theorem dX12_mostAlike_81 : decode cX12_mostAlike 81 = .ok (.iaload, 1) := by decide +kernel
theorem dX12_mostAlike_82 : decode cX12_mostAlike 82 = .ok (.invokestatic 367, 3) := by decide +kernel
theorem dX12_mostAlike_85 : decode cX12_mostAlike 85 = .ok (.istore_n 2, 1) := by decide +kernel
theorem dX12_mostAlike_86 : decode cX12_mostAlike 86 = .ok (.iinc 3 1, 3) := by decide +kernel
theorem dX12_mostAlike_89 : decode cX12_mostAlike 89 = .ok (.goto (-20), 3) := by decide +kernel
theorem dX12_mostAlike_92 : decode cX12_mostAlike 92 = .ok (.iload_n 2, 1) := by decide +kernel
theorem dX12_mostAlike_93 : decode cX12_mostAlike 93 = .ok (.ireturn, 1) := by decide +kernel
theorem dX12_ask_0 : decode cX12_ask 0 = .ok (.aload_n 0, 1) := by decide +kernel
theorem dX12_ask_1 : decode cX12_ask 1 = .ok (.iload_n 1, 1) := by decide +kernel
theorem dX12_ask_2 : decode cX12_ask 2 = .ok (.iload_n 2, 1) := by decide +kernel
theorem dX12_ask_3 : decode cX12_ask 3 = .ok (.iload_n 3, 1) := by decide +kernel
theorem dX12_ask_4 : decode cX12_ask 4 = .ok (.invokevirtual 360, 3) := by decide +kernel
theorem dX12_ask_7 : decode cX12_ask 7 = .ok (.istore 4, 2) := by decide +kernel
theorem dX12_ask_9 : decode cX12_ask 9 = .ok (.iload 4, 2) := by decide +kernel
theorem dX12_ask_11 : decode cX12_ask 11 = .ok (.ifCond .le 10, 3) := by decide +kernel
theorem dX12_ask_14 : decode cX12_ask 14 = .ok (.aload_n 0, 1) := by decide +kernel
theorem dX12_ask_15 : decode cX12_ask 15 = .ok (.iload 4, 2) := by decide +kernel
theorem dX12_ask_17 : decode cX12_ask 17 = .ok (.invokevirtual 97, 3) := by decide +kernel
theorem dX12_ask_20 : decode cX12_ask 20 = .ok (.ireturn, 1) := by decide +kernel
theorem dX12_ask_21 : decode cX12_ask 21 = .ok (.aload_n 0, 1) := by decide +kernel
theorem dX12_ask_22 : decode cX12_ask 22 = .ok (.iload_n 1, 1) := by decide +kernel
theorem dX12_ask_23 : decode cX12_ask 23 = .ok (.iload_n 2, 1) := by decide +kernel
theorem dX12_ask_24 : decode cX12_ask 24 = .ok (.iload_n 3, 1) := by decide +kernel
theorem dX12_ask_25 : decode cX12_ask 25 = .ok (.invokevirtual 364, 3) := by decide +kernel
theorem dX12_ask_28 : decode cX12_ask 28 = .ok (.iconst 2, 1) := by decide +kernel
theorem dX12_ask_29 : decode cX12_ask 29 = .ok (.if_icmp .ge 10, 3) := by decide +kernel
theorem dX12_ask_32 : decode cX12_ask 32 = .ok (.aload_n 0, 1) := by decide +kernel
theorem dX12_ask_33 : decode cX12_ask 33 = .ok (.bipush 6, 2) := by decide +kernel
theorem dX12_ask_35 : decode cX12_ask 35 = .ok (.invokevirtual 97, 3) := by decide +kernel
theorem dX12_ask_38 : decode cX12_ask 38 = .ok (.ireturn, 1) := by decide +kernel
theorem dX12_ask_39 : decode cX12_ask 39 = .ok (.iconst 0, 1) := by decide +kernel
theorem dX12_ask_40 : decode cX12_ask 40 = .ok (.istore 5, 2) := by decide +kernel
theorem dX12_ask_42 : decode cX12_ask 42 = .ok (.iconst 1, 1) := by decide +kernel
theorem dX12_ask_43 : decode cX12_ask 43 = .ok (.istore 6, 2) := by decide +kernel
theorem dX12_ask_45 : decode cX12_ask 45 = .ok (.iload 6, 2) := by decide +kernel
theorem dX12_ask_47 : decode cX12_ask 47 = .ok (.bipush 20, 2) := by decide +kernel
theorem dX12_ask_49 : decode cX12_ask 49 = .ok (.if_icmp .gt 28, 3) := by decide +kernel
theorem dX12_ask_52 : decode cX12_ask 52 = .ok (.aload_n 0, 1) := by decide +kernel
theorem dX12_ask_53 : decode cX12_ask 53 = .ok (.iload 6, 2) := by decide +kernel
theorem dX12_ask_55 : decode cX12_ask 55 = .ok (.invokevirtual 370, 3) := by decide +kernel
theorem dX12_ask_58 : decode cX12_ask 58 = .ok (.aload_n 0, 1) := by decide +kernel
theorem dX12_ask_59 : decode cX12_ask 59 = .ok (.iload 5, 2) := by decide +kernel
theorem dX12_ask_61 : decode cX12_ask 61 = .ok (.invokevirtual 370, 3) := by decide +kernel
theorem dX12_ask_64 : decode cX12_ask 64 = .ok (.if_icmp .ge 7, 3) := by decide +kernel
theorem dX12_ask_67 : decode cX12_ask 67 = .ok (.iload 6, 2) := by decide +kernel
theorem dX12_ask_69 : decode cX12_ask 69 = .ok (.istore 5, 2) := by decide +kernel
theorem dX12_ask_71 : decode cX12_ask 71 = .ok (.iinc 6 1, 3) := by decide +kernel
theorem dX12_ask_74 : decode cX12_ask 74 = .ok (.goto (-29), 3) := by decide +kernel
theorem dX12_ask_77 : decode cX12_ask 77 = .ok (.aload_n 0, 1) := by decide +kernel
theorem dX12_ask_78 : decode cX12_ask 78 = .ok (.iload 5, 2) := by decide +kernel
theorem dX12_ask_80 : decode cX12_ask 80 = .ok (.invokevirtual 101, 3) := by decide +kernel
theorem dX12_ask_83 : decode cX12_ask 83 = .ok (.ireturn, 1) := by decide +kernel
theorem dX12_waits_0 : decode cX12_waits 0 = .ok (.aload_n 0, 1) := by decide +kernel
theorem dX12_waits_1 : decode cX12_waits 1 = .ok (.iload_n 1, 1) := by decide +kernel
theorem dX12_waits_2 : decode cX12_waits 2 = .ok (.iload_n 2, 1) := by decide +kernel
theorem dX12_waits_3 : decode cX12_waits 3 = .ok (.invokevirtual 317, 3) := by decide +kernel
theorem dX12_waits_6 : decode cX12_waits 6 = .ok (.ifCond .ne 9, 3) := by decide +kernel
theorem dX12_waits_9 : decode cX12_waits 9 = .ok (.aload_n 0, 1) := by decide +kernel
theorem dX12_waits_10 : decode cX12_waits 10 = .ok (.iconst 1, 1) := by decide +kernel
theorem dX12_waits_11 : decode cX12_waits 11 = .ok (.invokevirtual 104, 3) := by decide +kernel
theorem dX12_waits_14 : decode cX12_waits 14 = .ok (.ireturn, 1) := by decide +kernel
theorem dX12_waits_15 : decode cX12_waits 15 = .ok (.aload_n 0, 1) := by decide +kernel
theorem dX12_waits_16 : decode cX12_waits 16 = .ok (.lconst 1, 1) := by decide +kernel
theorem dX12_waits_17 : decode cX12_waits 17 = .ok (.lconst 1, 1) := by decide +kernel
theorem dX12_waits_18 : decode cX12_waits 18 = .ok (.aload_n 0, 1) := by decide +kernel
theorem dX12_waits_19 : decode cX12_waits 19 = .ok (.iload_n 2, 1) := by decide +kernel
theorem dX12_waits_20 : decode cX12_waits 20 = .ok (.iconst 2, 1) := by decide +kernel
theorem dX12_waits_21 : decode cX12_waits 21 = .ok (.invokevirtual 269, 3) := by decide +kernel
theorem dX12_waits_24 : decode cX12_waits 24 = .ok (.i2l, 1) := by decide +kernel
theorem dX12_waits_25 : decode cX12_waits 25 = .ok (.ladd, 1) := by decide +kernel
theorem dX12_waits_26 : decode cX12_waits 26 = .ok (.invokevirtual 373, 3) := by decide +kernel
theorem dX12_waits_29 : decode cX12_waits 29 = .ok (.ireturn, 1) := by decide +kernel
theorem dX12_chance_0 : decode cX12_chance 0 = .ok (.iload_n 1, 1) := by decide +kernel
theorem dX12_chance_1 : decode cX12_chance 1 = .ok (.i2l, 1) := by decide +kernel
theorem dX12_chance_2 : decode cX12_chance 2 = .ok (.lconst 0, 1) := by decide +kernel
theorem dX12_chance_3 : decode cX12_chance 3 = .ok (.ldc2_w 377, 3) := by decide +kernel
theorem dX12_chance_6 : decode cX12_chance 6 = .ok (.invokestatic 307, 3) := by decide +kernel
theorem dX12_chance_9 : decode cX12_chance 9 = .ok (.ifCond .eq 15, 3) := by decide +kernel
theorem dX12_chance_12 : decode cX12_chance 12 = .ok (.iload_n 2, 1) := by decide +kernel
theorem dX12_chance_13 : decode cX12_chance 13 = .ok (.i2l, 1) := by decide +kernel
theorem dX12_chance_14 : decode cX12_chance 14 = .ok (.lconst 0, 1) := by decide +kernel
theorem dX12_chance_15 : decode cX12_chance 15 = .ok (.ldc2_w 377, 3) := by decide +kernel
theorem dX12_chance_18 : decode cX12_chance 18 = .ok (.invokestatic 307, 3) := by decide +kernel
theorem dX12_chance_21 : decode cX12_chance 21 = .ok (.ifCond .ne 9, 3) := by decide +kernel
theorem dX12_chance_24 : decode cX12_chance 24 = .ok (.aload_n 0, 1) := by decide +kernel
theorem dX12_chance_25 : decode cX12_chance 25 = .ok (.iconst 1, 1) := by decide +kernel
theorem dX12_chance_26 : decode cX12_chance 26 = .ok (.invokevirtual 104, 3) := by decide +kernel
theorem dX12_chance_29 : decode cX12_chance 29 = .ok (.ireturn, 1) := by decide +kernel
theorem dX12_chance_30 : decode cX12_chance 30 = .ok (.lconst 1, 1) := by decide +kernel
theorem dX12_chance_31 : decode cX12_chance 31 = .ok (.lstore_n 3, 1) := by decide +kernel
theorem dX12_chance_32 : decode cX12_chance 32 = .ok (.iconst 0, 1) := by decide +kernel
theorem dX12_chance_33 : decode cX12_chance 33 = .ok (.istore 5, 2) := by decide +kernel
theorem dX12_chance_35 : decode cX12_chance 35 = .ok (.iload 5, 2) := by decide +kernel
theorem dX12_chance_37 : decode cX12_chance 37 = .ok (.bipush 7, 2) := by decide +kernel
theorem dX12_chance_39 : decode cX12_chance 39 = .ok (.if_icmp .ge 26, 3) := by decide +kernel
theorem dX12_chance_42 : decode cX12_chance 42 = .ok (.aload_n 0, 1) := by decide +kernel
theorem dX12_chance_43 : decode cX12_chance 43 = .ok (.getfield 69, 3) := by decide +kernel
theorem dX12_chance_46 : decode cX12_chance 46 = .ok (.iload 5, 2) := by decide +kernel
theorem dX12_chance_48 : decode cX12_chance 48 = .ok (.iload 5, 2) := by decide +kernel
theorem dX12_chance_50 : decode cX12_chance 50 = .ok (.ifCond .ne 7, 3) := by decide +kernel
theorem dX12_chance_53 : decode cX12_chance 53 = .ok (.lconst 1, 1) := by decide +kernel
