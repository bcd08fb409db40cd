theorem dX10_beginStep_17 : decode cX10_beginStep 17 = .ok (.istore_n 2, 1) := by decide +kernel
theorem dX10_beginStep_18 : decode cX10_beginStep 18 = .ok (.iload_n 2, 1) := by decide +kernel
theorem dX10_beginStep_19 : decode cX10_beginStep 19 = .ok (.ifCond .ne 35, 3) := by decide +kernel
theorem dX10_beginStep_22 : decode cX10_beginStep 22 = .ok (.iload_n 1, 1) := by decide +kernel
theorem dX10_beginStep_23 : decode cX10_beginStep 23 = .ok (.bipush 23, 2) := by decide +kernel
theorem dX10_beginStep_25 : decode cX10_beginStep 25 = .ok (.if_icmp .eq 29, 3) := by decide +kernel
theorem dX10_beginStep_28 : decode cX10_beginStep 28 = .ok (.iload_n 1, 1) := by decide +kernel
theorem dX10_beginStep_29 : decode cX10_beginStep 29 = .ok (.bipush 12, 2) := by decide +kernel
theorem dX10_beginStep_31 : decode cX10_beginStep 31 = .ok (.if_icmp .eq 23, 3) := by decide +kernel
theorem dX10_beginStep_34 : decode cX10_beginStep 34 = .ok (.iload_n 1, 1) := by decide +kernel
theorem dX10_beginStep_35 : decode cX10_beginStep 35 = .ok (.bipush 13, 2) := by decide +kernel
theorem dX10_beginStep_37 : decode cX10_beginStep 37 = .ok (.bipush 17, 2) := by decide +kernel
theorem dX10_beginStep_39 : decode cX10_beginStep 39 = .ok (.invokestatic 72, 3) := by decide +kernel
theorem dX10_beginStep_42 : decode cX10_beginStep 42 = .ok (.ifCond .ne 12, 3) := by decide +kernel
theorem dX10_beginStep_45 : decode cX10_beginStep 45 = .ok (.aload_n 0, 1) := by decide +kernel
theorem dX10_beginStep_46 : decode cX10_beginStep 46 = .ok (.getfield 22, 3) := by decide +kernel
theorem dX10_beginStep_49 : decode cX10_beginStep 49 = .ok (.iconst 2, 1) := by decide +kernel
theorem dX10_beginStep_50 : decode cX10_beginStep 50 = .ok (.invokevirtual 59, 3) := by decide +kernel
theorem dX10_beginStep_53 : decode cX10_beginStep 53 = .ok (.ireturn, 1) := by decide +kernel
theorem dX10_beginStep_54 : decode cX10_beginStep 54 = .ok (.aload_n 0, 1) := by decide +kernel
theorem dX10_beginStep_55 : decode cX10_beginStep 55 = .ok (.getfield 12, 3) := by decide +kernel
theorem dX10_beginStep_58 : decode cX10_beginStep 58 = .ok (.getfield 42, 3) := by decide +kernel
theorem dX10_beginStep_61 : decode cX10_beginStep 61 = .ok (.bipush 30, 2) := by decide +kernel
theorem dX10_beginStep_63 : decode cX10_beginStep 63 = .ok (.if_icmp .lt 13, 3) := by decide +kernel
theorem dX10_beginStep_66 : decode cX10_beginStep 66 = .ok (.aload_n 0, 1) := by decide +kernel
theorem dX10_beginStep_67 : decode cX10_beginStep 67 = .ok (.getfield 22, 3) := by decide +kernel
theorem dX10_beginStep_70 : decode cX10_beginStep 70 = .ok (.bipush 6, 2) := by decide +kernel
theorem dX10_beginStep_72 : decode cX10_beginStep 72 = .ok (.invokevirtual 59, 3) := by decide +kernel
theorem dX10_beginStep_75 : decode cX10_beginStep 75 = .ok (.ireturn, 1) := by decide +kernel
theorem dX10_beginStep_76 : decode cX10_beginStep 76 = .ok (.iload_n 2, 1) := by decide +kernel
theorem dX10_beginStep_77 : decode cX10_beginStep 77 = .ok (.ifCond .eq 21, 3) := by decide +kernel
theorem dX10_beginStep_80 : decode cX10_beginStep 80 = .ok (.aload_n 0, 1) := by decide +kernel
theorem dX10_beginStep_81 : decode cX10_beginStep 81 = .ok (.getfield 33, 3) := by decide +kernel
theorem dX10_beginStep_84 : decode cX10_beginStep 84 = .ok (.iconst 3, 1) := by decide +kernel
theorem dX10_beginStep_85 : decode cX10_beginStep 85 = .ok (.if_icmp .lt 13, 3) := by decide +kernel
theorem dX10_beginStep_88 : decode cX10_beginStep 88 = .ok (.aload_n 0, 1) := by decide +kernel
theorem dX10_beginStep_89 : decode cX10_beginStep 89 = .ok (.getfield 22, 3) := by decide +kernel
theorem dX10_beginStep_92 : decode cX10_beginStep 92 = .ok (.bipush 7, 2) := by decide +kernel
theorem dX10_beginStep_94 : decode cX10_beginStep 94 = .ok (.invokevirtual 59, 3) := by decide +kernel
theorem dX10_beginStep_97 : decode cX10_beginStep 97 = .ok (.ireturn, 1) := by decide +kernel
theorem dX10_beginStep_98 : decode cX10_beginStep 98 = .ok (.iload_n 2, 1) := by decide +kernel
theorem dX10_beginStep_99 : decode cX10_beginStep 99 = .ok (.ifCond .eq 29, 3) := by decide +kernel
theorem dX10_beginStep_102 : decode cX10_beginStep 102 = .ok (.aload_n 0, 1) := by decide +kernel
theorem dX10_beginStep_103 : decode cX10_beginStep 103 = .ok (.getfield 18, 3) := by decide +kernel
theorem dX10_beginStep_106 : decode cX10_beginStep 106 = .ok (.aload_n 0, 1) := by decide +kernel
theorem dX10_beginStep_107 : decode cX10_beginStep 107 = .ok (.getfield 33, 3) := by decide +kernel
theorem dX10_beginStep_110 : decode cX10_beginStep 110 = .ok (.aload_n 0, 1) := by decide +kernel
theorem dX10_beginStep_111 : decode cX10_beginStep 111 = .ok (.getfield 12, 3) := by decide +kernel
theorem dX10_beginStep_114 : decode cX10_beginStep 114 = .ok (.getfield 42, 3) := by decide +kernel
theorem dX10_beginStep_117 : decode cX10_beginStep 117 = .ok (.iastore, 1) := by decide +kernel
theorem dX10_beginStep_118 : decode cX10_beginStep 118 = .ok (.aload_n 0, 1) := by decide +kernel
theorem dX10_beginStep_119 : decode cX10_beginStep 119 = .ok (.dup, 1) := by decide +kernel
theorem dX10_beginStep_120 : decode cX10_beginStep 120 = .ok (.getfield 33, 3) := by decide +kernel
theorem dX10_beginStep_123 : decode cX10_beginStep 123 = .ok (.iconst 1, 1) := by decide +kernel
theorem dX10_beginStep_124 : decode cX10_beginStep 124 = .ok (.iadd, 1) := by decide +kernel
theorem dX10_beginStep_125 : decode cX10_beginStep 125 = .ok (.putfield 33, 3) := by decide +kernel
theorem dX10_beginStep_128 : decode cX10_beginStep 128 = .ok (.aload_n 0, 1) := by decide +kernel
theorem dX10_beginStep_129 : decode cX10_beginStep 129 = .ok (.getfield 12, 3) := by decide +kernel
theorem dX10_beginStep_132 : decode cX10_beginStep 132 = .ok (.getfield 76, 3) := by decide +kernel
theorem dX10_beginStep_135 : decode cX10_beginStep 135 = .ok (.aload_n 0, 1) := by decide +kernel
theorem dX10_beginStep_136 : decode cX10_beginStep 136 = .ok (.getfield 12, 3) := by decide +kernel
theorem dX10_beginStep_139 : decode cX10_beginStep 139 = .ok (.getfield 42, 3) := by decide +kernel
theorem dX10_beginStep_142 : decode cX10_beginStep 142 = .ok (.iload_n 1, 1) := by decide +kernel
theorem dX10_beginStep_143 : decode cX10_beginStep 143 = .ok (.iastore, 1) := by decide +kernel
theorem dX10_beginStep_144 : decode cX10_beginStep 144 = .ok (.aload_n 0, 1) := by decide +kernel
theorem dX10_beginStep_145 : decode cX10_beginStep 145 = .ok (.getfield 12, 3) := by decide +kernel
theorem dX10_beginStep_148 : decode cX10_beginStep 148 = .ok (.dup, 1) := by decide +kernel
theorem dX10_beginStep_149 : decode cX10_beginStep 149 = .ok (.getfield 42, 3) := by decide +kernel
theorem dX10_beginStep_152 : decode cX10_beginStep 152 = .ok (.iconst 1, 1) := by decide +kernel
theorem dX10_beginStep_153 : decode cX10_beginStep 153 = .ok (.iadd, 1) := by decide +kernel
theorem dX10_beginStep_154 : decode cX10_beginStep 154 = .ok (.putfield 42, 3) := by decide +kernel
theorem dX10_beginStep_157 : decode cX10_beginStep 157 = .ok (.aload_n 0, 1) := by decide +kernel
theorem dX10_beginStep_158 : decode cX10_beginStep 158 = .ok (.getfield 22, 3) := by decide +kernel
theorem dX10_beginStep_161 : decode cX10_beginStep 161 = .ok (.invokevirtual 69, 3) := by decide +kernel
theorem dX10_beginStep_164 : decode cX10_beginStep 164 = .ok (.iconst 1, 1) := by decide +kernel
theorem dX10_beginStep_165 : decode cX10_beginStep 165 = .ok (.ireturn, 1) := by decide +kernel
theorem dX10_takeRest_0 : decode cX10_takeRest 0 = .ok (.aload_n 0, 1) := by decide +kernel
theorem dX10_takeRest_1 : decode cX10_takeRest 1 = .ok (.getfield 12, 3) := by decide +kernel
theorem dX10_takeRest_4 : decode cX10_takeRest 4 = .ok (.getfield 76, 3) := by decide +kernel
theorem dX10_takeRest_7 : decode cX10_takeRest 7 = .ok (.iload_n 1, 1) := by decide +kernel
theorem dX10_takeRest_8 : decode cX10_takeRest 8 = .ok (.iaload, 1) := by decide +kernel
theorem dX10_takeRest_9 : decode cX10_takeRest 9 = .ok (.tableswitch 152 12 22 #[82, 59, 68, 68, 128, 152, 137, 152, 152, 152, 143], 59) := by decide +kernel
theorem dX10_takeRest_68 : decode cX10_takeRest 68 = .ok (.aload_n 0, 1) := by decide +kernel
theorem dX10_takeRest_69 : decode cX10_takeRest 69 = .ok (.iload_n 1, 1) := by decide +kernel
theorem dX10_takeRest_70 : decode cX10_takeRest 70 = .ok (.iconst 1, 1) := by decide +kernel
theorem dX10_takeRest_71 : decode cX10_takeRest 71 = .ok (.bipush 20, 2) := by decide +kernel
theorem dX10_takeRest_73 : decode cX10_takeRest 73 = .ok (.invokevirtual 79, 3) := by decide +kernel
theorem dX10_takeRest_76 : decode cX10_takeRest 76 = .ok (.ireturn, 1) := by decide +kernel
theorem dX10_takeRest_77 : decode cX10_takeRest 77 = .ok (.aload_n 0, 1) := by decide +kernel
theorem dX10_takeRest_78 : decode cX10_takeRest 78 = .ok (.aload_n 0, 1) := by decide +kernel
theorem dX10_takeRest_79 : decode cX10_takeRest 79 = .ok (.getfield 12, 3) := by decide +kernel
theorem dX10_takeRest_82 : decode cX10_takeRest 82 = .ok (.getfield 82, 3) := by decide +kernel
theorem dX10_takeRest_85 : decode cX10_takeRest 85 = .ok (.iload_n 1, 1) := by decide +kernel
theorem dX10_takeRest_86 : decode cX10_takeRest 86 = .ok (.iconst (-1), 1) := by decide +kernel
theorem dX10_takeRest_87 : decode cX10_takeRest 87 = .ok (.invokevirtual 85, 3) := by decide +kernel
theorem dX10_takeRest_90 : decode cX10_takeRest 90 = .ok (.ireturn, 1) := by decide +kernel
theorem dX10_takeRest_91 : decode cX10_takeRest 91 = .ok (.aload_n 0, 1) := by decide +kernel
theorem dX10_takeRest_92 : decode cX10_takeRest 92 = .ok (.aload_n 0, 1) := by decide +kernel
theorem dX10_takeRest_93 : decode cX10_takeRest 93 = .ok (.getfield 12, 3) := by decide +kernel
theorem dX10_takeRest_96 : decode cX10_takeRest 96 = .ok (.getfield 82, 3) := by decide +kernel
theorem dX10_takeRest_99 : decode cX10_takeRest 99 = .ok (.iload_n 1, 1) := by decide +kernel
theorem dX10_takeRest_100 : decode cX10_takeRest 100 = .ok (.iconst (-1), 1) := by decide +kernel
theorem dX10_takeRest_101 : decode cX10_takeRest 101 = .ok (.invokevirtual 85, 3) := by decide +kernel
theorem dX10_takeRest_104 : decode cX10_takeRest 104 = .ok (.ifCond .eq 31, 3) := by decide +kernel
theorem dX10_takeRest_107 : decode cX10_takeRest 107 = .ok (.aload_n 0, 1) := by decide +kernel
theorem dX10_takeRest_108 : decode cX10_takeRest 108 = .ok (.aload_n 0, 1) := by decide +kernel
theorem dX10_takeRest_109 : decode cX10_takeRest 109 = .ok (.getfield 12, 3) := by decide +kernel
theorem dX10_takeRest_112 : decode cX10_takeRest 112 = .ok (.getfield 89, 3) := by decide +kernel
theorem dX10_takeRest_115 : decode cX10_takeRest 115 = .ok (.iload_n 1, 1) := by decide +kernel
theorem dX10_takeRest_116 : decode cX10_takeRest 116 = .ok (.aload_n 0, 1) := by decide +kernel
theorem dX10_takeRest_117 : decode cX10_takeRest 117 = .ok (.getfield 12, 3) := by decide +kernel
theorem dX10_takeRest_120 : decode cX10_takeRest 120 = .ok (.getfield 82, 3) := by decide +kernel
theorem dX10_takeRest_123 : decode cX10_takeRest 123 = .ok (.iload_n 1, 1) := by decide +kernel
theorem dX10_takeRest_124 : decode cX10_takeRest 124 = .ok (.iaload, 1) := by decide +kernel
theorem dX10_takeRest_125 : decode cX10_takeRest 125 = .ok (.invokevirtual 85, 3) := by decide +kernel
theorem dX10_takeRest_128 : decode cX10_takeRest 128 = .ok (.ifCond .eq 7, 3) := by decide +kernel
theorem dX10_takeRest_131 : decode cX10_takeRest 131 = .ok (.iconst 1, 1) := by decide +kernel
theorem dX10_takeRest_132 : decode cX10_takeRest 132 = .ok (.goto 4, 3) := by decide +kernel
theorem dX10_takeRest_135 : decode cX10_takeRest 135 = .ok (.iconst 0, 1) := by decide +kernel
theorem dX10_takeRest_136 : decode cX10_takeRest 136 = .ok (.ireturn, 1) := by decide +kernel
theorem dX10_takeRest_137 : decode cX10_takeRest 137 = .ok (.aload_n 0, 1) := by decide +kernel
theorem dX10_takeRest_138 : decode cX10_takeRest 138 = .ok (.iload_n 1, 1) := by decide +kernel
theorem dX10_takeRest_139 : decode cX10_takeRest 139 = .ok (.iconst 1, 1) := by decide +kernel
theorem dX10_takeRest_140 : decode cX10_takeRest 140 = .ok (.bipush 60, 2) := by decide +kernel
theorem dX10_takeRest_142 : decode cX10_takeRest 142 = .ok (.invokevirtual 79, 3) := by decide +kernel
theorem dX10_takeRest_145 : decode cX10_takeRest 145 = .ok (.ireturn, 1) := by decide +kernel
theorem dX10_takeRest_146 : decode cX10_takeRest 146 = .ok (.aload_n 0, 1) := by decide +kernel
theorem dX10_takeRest_147 : decode cX10_takeRest 147 = .ok (.iload_n 1, 1) := by decide +kernel
theorem dX10_takeRest_148 : decode cX10_takeRest 148 = .ok (.invokevirtual 92, 3) := by decide +kernel
theorem dX10_takeRest_151 : decode cX10_takeRest 151 = .ok (.ireturn, 1) := by decide +kernel
theorem dX10_takeRest_152 : decode cX10_takeRest 152 = .ok (.aload_n 0, 1) := by decide +kernel
theorem dX10_takeRest_153 : decode cX10_takeRest 153 = .ok (.iload_n 1, 1) := by decide +kernel
theorem dX10_takeRest_154 : decode cX10_takeRest 154 = .ok (.iconst 1, 1) := by decide +kernel
theorem dX10_takeRest_155 : decode cX10_takeRest 155 = .ok (.bipush 99, 2) := by decide +kernel
theorem dX10_takeRest_157 : decode cX10_takeRest 157 = .ok (.invokevirtual 79, 3) := by decide +kernel
theorem dX10_takeRest_160 : decode cX10_takeRest 160 = .ok (.ireturn, 1) := by decide +kernel
theorem dX10_takeRest_161 : decode cX10_takeRest 161 = .ok (.iconst 1, 1) := by decide +kernel
theorem dX10_takeRest_162 : decode cX10_takeRest 162 = .ok (.ireturn, 1) := by decide +kernel
theorem dX10_takeTest_0 : decode cX10_takeTest 0 = .ok (.aload_n 0, 1) := by decide +kernel
theorem dX10_takeTest_1 : decode cX10_takeTest 1 = .ok (.getfield 22, 3) := by decide +kernel
theorem dX10_takeTest_4 : decode cX10_takeTest 4 = .ok (.getfield 37, 3) := by decide +kernel
theorem dX10_takeTest_7 : decode cX10_takeTest 7 = .ok (.istore_n 2, 1) := by decide +kernel
theorem dX10_takeTest_8 : decode cX10_takeTest 8 = .ok (.iload_n 2, 1) := by decide +kernel
theorem dX10_takeTest_9 : decode cX10_takeTest 9 = .ok (.bipush 19, 2) := by decide +kernel
theorem dX10_takeTest_11 : decode cX10_takeTest 11 = .ok (.if_icmp .eq 30, 3) := by decide +kernel
theorem dX10_takeTest_14 : decode cX10_takeTest 14 = .ok (.iload_n 2, 1) := by decide +kernel
theorem dX10_takeTest_15 : decode cX10_takeTest 15 = .ok (.bipush 20, 2) := by decide +kernel
theorem dX10_takeTest_17 : decode cX10_takeTest 17 = .ok (.if_icmp .eq 24, 3) := by decide +kernel
theorem dX10_takeTest_20 : decode cX10_takeTest 20 = .ok (.iload_n 2, 1) := by decide +kernel
theorem dX10_takeTest_21 : decode cX10_takeTest 21 = .ok (.bipush 21, 2) := by decide +kernel
theorem dX10_takeTest_23 : decode cX10_takeTest 23 = .ok (.if_icmp .eq 18, 3) := by decide +kernel
theorem dX10_takeTest_26 : decode cX10_takeTest 26 = .ok (.iload_n 2, 1) := by decide +kernel
theorem dX10_takeTest_27 : decode cX10_takeTest 27 = .ok (.bipush 7, 2) := by decide +kernel
theorem dX10_takeTest_29 : decode cX10_takeTest 29 = .ok (.if_icmp .eq 12, 3) := by decide +kernel
theorem dX10_takeTest_32 : decode cX10_takeTest 32 = .ok (.aload_n 0, 1) := by decide +kernel
theorem dX10_takeTest_33 : decode cX10_takeTest 33 = .ok (.getfield 22, 3) := by decide +kernel
theorem dX10_takeTest_36 : decode cX10_takeTest 36 = .ok (.iconst 2, 1) := by decide +kernel
theorem dX10_takeTest_37 : decode cX10_takeTest 37 = .ok (.invokevirtual 59, 3) := by decide +kernel
theorem dX10_takeTest_40 : decode cX10_takeTest 40 = .ok (.ireturn, 1) := by decide +kernel
theorem dX10_takeTest_41 : decode cX10_takeTest 41 = .ok (.aload_n 0, 1) := by decide +kernel
theorem dX10_takeTest_42 : decode cX10_takeTest 42 = .ok (.getfield 12, 3) := by decide +kernel
theorem dX10_takeTest_45 : decode cX10_takeTest 45 = .ok (.getfield 95, 3) := by decide +kernel
theorem dX10_takeTest_48 : decode cX10_takeTest 48 = .ok (.iload_n 1, 1) := by decide +kernel
theorem dX10_takeTest_49 : decode cX10_takeTest 49 = .ok (.iload_n 2, 1) := by decide +kernel
theorem dX10_takeTest_50 : decode cX10_takeTest 50 = .ok (.iastore, 1) := by decide +kernel
theorem dX10_takeTest_51 : decode cX10_takeTest 51 = .ok (.aload_n 0, 1) := by decide +kernel
theorem dX10_takeTest_52 : decode cX10_takeTest 52 = .ok (.getfield 22, 3) := by decide +kernel
theorem dX10_takeTest_55 : decode cX10_takeTest 55 = .ok (.invokevirtual 69, 3) := by decide +kernel
theorem dX10_takeTest_58 : decode cX10_takeTest 58 = .ok (.iload_n 2, 1) := by decide +kernel
theorem dX10_takeTest_59 : decode cX10_takeTest 59 = .ok (.bipush 21, 2) := by decide +kernel
theorem dX10_takeTest_61 : decode cX10_takeTest 61 = .ok (.if_icmp .eq 21, 3) := by decide +kernel
theorem dX10_takeTest_64 : decode cX10_takeTest 64 = .ok (.aload_n 0, 1) := by decide +kernel
theorem dX10_takeTest_65 : decode cX10_takeTest 65 = .ok (.aload_n 0, 1) := by decide +kernel
theorem dX10_takeTest_66 : decode cX10_takeTest 66 = .ok (.getfield 12, 3) := by decide +kernel
theorem dX10_takeTest_69 : decode cX10_takeTest 69 = .ok (.getfield 82, 3) := by decide +kernel
theorem dX10_takeTest_72 : decode cX10_takeTest 72 = .ok (.iload_n 1, 1) := by decide +kernel
theorem dX10_takeTest_73 : decode cX10_takeTest 73 = .ok (.iconst (-1), 1) := by decide +kernel
theorem dX10_takeTest_74 : decode cX10_takeTest 74 = .ok (.invokevirtual 85, 3) := by decide +kernel
theorem dX10_takeTest_77 : decode cX10_takeTest 77 = .ok (.ifCond .ne 5, 3) := by decide +kernel
theorem dX10_takeTest_80 : decode cX10_takeTest 80 = .ok (.iconst 0, 1) := by decide +kernel
theorem dX10_takeTest_81 : decode cX10_takeTest 81 = .ok (.ireturn, 1) := by decide +kernel
theorem dX10_takeTest_82 : decode cX10_takeTest 82 = .ok (.iload_n 2, 1) := by decide +kernel
theorem dX10_takeTest_83 : decode cX10_takeTest 83 = .ok (.bipush 19, 2) := by decide +kernel
theorem dX10_takeTest_85 : decode cX10_takeTest 85 = .ok (.if_icmp .eq 9, 3) := by decide +kernel
theorem dX10_takeTest_88 : decode cX10_takeTest 88 = .ok (.iload_n 2, 1) := by decide +kernel
theorem dX10_takeTest_89 : decode cX10_takeTest 89 = .ok (.bipush 20, 2) := by decide +kernel
theorem dX10_takeTest_91 : decode cX10_takeTest 91 = .ok (.if_icmp .ne 5, 3) := by decide +kernel
theorem dX10_takeTest_94 : decode cX10_takeTest 94 = .ok (.iconst 1, 1) := by decide +kernel
theorem dX10_takeTest_95 : decode cX10_takeTest 95 = .ok (.ireturn, 1) := by decide +kernel
theorem dX10_takeTest_96 : decode cX10_takeTest 96 = .ok (.aload_n 0, 1) := by decide +kernel
theorem dX10_takeTest_97 : decode cX10_takeTest 97 = .ok (.iload_n 1, 1) := by decide +kernel
theorem dX10_takeTest_98 : decode cX10_takeTest 98 = .ok (.invokevirtual 98, 3) := by decide +kernel
theorem dX10_takeTest_101 : decode cX10_takeTest 101 = .ok (.ifCond .eq 27, 3) := by decide +kernel
theorem dX10_takeTest_104 : decode cX10_takeTest 104 = .ok (.aload_n 0, 1) := by decide +kernel
theorem dX10_takeTest_105 : decode cX10_takeTest 105 = .ok (.getfield 22, 3) := by decide +kernel
theorem dX10_takeTest_108 : decode cX10_takeTest 108 = .ok (.iconst 0, 1) := by decide +kernel
theorem dX10_takeTest_109 : decode cX10_takeTest 109 = .ok (.iload_n 2, 1) := by decide +kernel
theorem dX10_takeTest_110 : decode cX10_takeTest 110 = .ok (.bipush 21, 2) := by decide +kernel
theorem dX10_takeTest_112 : decode cX10_takeTest 112 = .ok (.if_icmp .ne 8, 3) := by decide +kernel
theorem dX10_takeTest_115 : decode cX10_takeTest 115 = .ok (.bipush 60, 2) := by decide +kernel
theorem dX10_takeTest_117 : decode cX10_takeTest 117 = .ok (.goto 5, 3) := by decide +kernel
theorem dX10_takeTest_120 : decode cX10_takeTest 120 = .ok (.bipush 20, 2) := by decide +kernel
theorem dX10_takeTest_122 : decode cX10_takeTest 122 = .ok (.invokevirtual 101, 3) := by decide +kernel
theorem dX10_takeTest_125 : decode cX10_takeTest 125 = .ok (.ifCond .ne 5, 3) := by decide +kernel
theorem dX10_takeTest_128 : decode cX10_takeTest 128 = .ok (.iconst 0, 1) := by decide +kernel
theorem dX10_takeTest_129 : decode cX10_takeTest 129 = .ok (.ireturn, 1) := by decide +kernel
theorem dX10_takeTest_130 : decode cX10_takeTest 130 = .ok (.aload_n 0, 1) := by decide +kernel
theorem dX10_takeTest_131 : decode cX10_takeTest 131 = .ok (.getfield 12, 3) := by decide +kernel
theorem dX10_takeTest_134 : decode cX10_takeTest 134 = .ok (.getfield 105, 3) := by decide +kernel
theorem dX10_takeTest_137 : decode cX10_takeTest 137 = .ok (.iload_n 1, 1) := by decide +kernel
theorem dX10_takeTest_138 : decode cX10_takeTest 138 = .ok (.aload_n 0, 1) := by decide +kernel
theorem dX10_takeTest_139 : decode cX10_takeTest 139 = .ok (.getfield 22, 3) := by decide +kernel
theorem dX10_takeTest_142 : decode cX10_takeTest 142 = .ok (.getfield 108, 3) := by decide +kernel
theorem dX10_takeTest_145 : decode cX10_takeTest 145 = .ok (.iastore, 1) := by decide +kernel
theorem dX10_takeTest_146 : decode cX10_takeTest 146 = .ok (.iconst 1, 1) := by decide +kernel
theorem dX10_takeTest_147 : decode cX10_takeTest 147 = .ok (.ireturn, 1) := by decide +kernel
theorem dX10_takeCompares_0 : decode cX10_takeCompares 0 = .ok (.aload_n 0, 1) := by decide +kernel
theorem dX10_takeCompares_1 : decode cX10_takeCompares 1 = .ok (.getfield 22, 3) := by decide +kernel
theorem dX10_takeCompares_4 : decode cX10_takeCompares 4 = .ok (.getfield 37, 3) := by decide +kernel
theorem dX10_takeCompares_7 : decode cX10_takeCompares 7 = .ok (.bipush 60, 2) := by decide +kernel
theorem dX10_takeCompares_9 : decode cX10_takeCompares 9 = .ok (.if_icmp .eq 36, 3) := by decide +kernel
theorem dX10_takeCompares_12 : decode cX10_takeCompares 12 = .ok (.aload_n 0, 1) := by decide +kernel
theorem dX10_takeCompares_13 : decode cX10_takeCompares 13 = .ok (.getfield 22, 3) := by decide +kernel
theorem dX10_takeCompares_16 : decode cX10_takeCompares 16 = .ok (.getfield 37, 3) := by decide +kernel
theorem dX10_takeCompares_19 : decode cX10_takeCompares 19 = .ok (.bipush 62, 2) := by decide +kernel
theorem dX10_takeCompares_21 : decode cX10_takeCompares 21 = .ok (.if_icmp .eq 24, 3) := by decide +kernel
theorem dX10_takeCompares_24 : decode cX10_takeCompares 24 = .ok (.aload_n 0, 1) := by decide +kernel
theorem dX10_takeCompares_25 : decode cX10_takeCompares 25 = .ok (.getfield 22, 3) := by decide +kernel
theorem dX10_takeCompares_28 : decode cX10_takeCompares 28 = .ok (.getfield 37, 3) := by decide +kernel
theorem dX10_takeCompares_31 : decode cX10_takeCompares 31 = .ok (.bipush 61, 2) := by decide +kernel
theorem dX10_takeCompares_33 : decode cX10_takeCompares 33 = .ok (.if_icmp .eq 12, 3) := by decide +kernel
theorem dX10_takeCompares_36 : decode cX10_takeCompares 36 = .ok (.aload_n 0, 1) := by decide +kernel
theorem dX10_takeCompares_37 : decode cX10_takeCompares 37 = .ok (.getfield 22, 3) := by decide +kernel
theorem dX10_takeCompares_40 : decode cX10_takeCompares 40 = .ok (.iconst 2, 1) := by decide +kernel
theorem dX10_takeCompares_41 : decode cX10_takeCompares 41 = .ok (.invokevirtual 59, 3) := by decide +kernel
theorem dX10_takeCompares_44 : decode cX10_takeCompares 44 = .ok (.ireturn, 1) := by decide +kernel
theorem dX10_takeCompares_45 : decode cX10_takeCompares 45 = .ok (.aload_n 0, 1) := by decide +kernel
theorem dX10_takeCompares_46 : decode cX10_takeCompares 46 = .ok (.getfield 12, 3) := by decide +kernel
theorem dX10_takeCompares_49 : decode cX10_takeCompares 49 = .ok (.getfield 111, 3) := by decide +kernel
theorem dX10_takeCompares_52 : decode cX10_takeCompares 52 = .ok (.iload_n 1, 1) := by decide +kernel
theorem dX10_takeCompares_53 : decode cX10_takeCompares 53 = .ok (.aload_n 0, 1) := by decide +kernel
theorem dX10_takeCompares_54 : decode cX10_takeCompares 54 = .ok (.getfield 22, 3) := by decide +kernel
theorem dX10_takeCompares_57 : decode cX10_takeCompares 57 = .ok (.getfield 37, 3) := by decide +kernel
theorem dX10_takeCompares_60 : decode cX10_takeCompares 60 = .ok (.iastore, 1) := by decide +kernel
theorem dX10_takeCompares_61 : decode cX10_takeCompares 61 = .ok (.aload_n 0, 1) := by decide +kernel
theorem dX10_takeCompares_62 : decode cX10_takeCompares 62 = .ok (.getfield 22, 3) := by decide +kernel
theorem dX10_takeCompares_65 : decode cX10_takeCompares 65 = .ok (.invokevirtual 69, 3) := by decide +kernel
theorem dX10_takeCompares_68 : decode cX10_takeCompares 68 = .ok (.iconst 1, 1) := by decide +kernel
theorem dX10_takeCompares_69 : decode cX10_takeCompares 69 = .ok (.ireturn, 1) := by decide +kernel
theorem dX10_takeMuch_0 : decode cX10_takeMuch 0 = .ok (.aload_n 0, 1) := by decide +kernel
theorem dX10_takeMuch_1 : decode cX10_takeMuch 1 = .ok (.getfield 22, 3) := by decide +kernel
theorem dX10_takeMuch_4 : decode cX10_takeMuch 4 = .ok (.iload_n 2, 1) := by decide +kernel
theorem dX10_takeMuch_5 : decode cX10_takeMuch 5 = .ok (.iload_n 3, 1) := by decide +kernel
theorem dX10_takeMuch_6 : decode cX10_takeMuch 6 = .ok (.invokevirtual 101, 3) := by decide +kernel
theorem dX10_takeMuch_9 : decode cX10_takeMuch 9 = .ok (.ifCond .ne 5, 3) := by decide +kernel
theorem dX10_takeMuch_12 : decode cX10_takeMuch 12 = .ok (.iconst 0, 1) := by decide +kernel
theorem dX10_takeMuch_13 : decode cX10_takeMuch 13 = .ok (.ireturn, 1) := by decide +kernel
theorem dX10_takeMuch_14 : decode cX10_takeMuch 14 = .ok (.aload_n 0, 1) := by decide +kernel
theorem dX10_takeMuch_15 : decode cX10_takeMuch 15 = .ok (.getfield 12, 3) := by decide +kernel
theorem dX10_takeMuch_18 : decode cX10_takeMuch 18 = .ok (.getfield 105, 3) := by decide +kernel
theorem dX10_takeMuch_21 : decode cX10_takeMuch 21 = .ok (.iload_n 1, 1) := by decide +kernel
theorem dX10_takeMuch_22 : decode cX10_takeMuch 22 = .ok (.aload_n 0, 1) := by decide +kernel
theorem dX10_takeMuch_23 : decode cX10_takeMuch 23 = .ok (.getfield 22, 3) := by decide +kernel
theorem dX10_takeMuch_26 : decode cX10_takeMuch 26 = .ok (.getfield 108, 3) := by decide +kernel
theorem dX10_takeMuch_29 : decode cX10_takeMuch 29 = .ok (.iastore, 1) := by decide +kernel
theorem dX10_takeMuch_30 : decode cX10_takeMuch 30 = .ok (.iconst 1, 1) := by decide +kernel
theorem dX10_takeMuch_31 : decode cX10_takeMuch 31 = .ok (.ireturn, 1) := by decide +kernel
theorem dX10_takeGuest_0 : decode cX10_takeGuest 0 = .ok (.aload_n 0, 1) := by decide +kernel
theorem dX10_takeGuest_1 : decode cX10_takeGuest 1 = .ok (.getfield 22, 3) := by decide +kernel
theorem dX10_takeGuest_4 : decode cX10_takeGuest 4 = .ok (.aload_n 0, 1) := by decide +kernel
theorem dX10_takeGuest_5 : decode cX10_takeGuest 5 = .ok (.getfield 26, 3) := by decide +kernel
theorem dX10_takeGuest_8 : decode cX10_takeGuest 8 = .ok (.invokevirtual 114, 3) := by decide +kernel
theorem dX10_takeGuest_11 : decode cX10_takeGuest 11 = .ok (.istore 4, 2) := by decide +kernel
theorem dX10_takeGuest_13 : decode cX10_takeGuest 13 = .ok (.iload 4, 2) := by decide +kernel
theorem dX10_takeGuest_15 : decode cX10_takeGuest 15 = .ok (.iconst (-1), 1) := by decide +kernel
theorem dX10_takeGuest_16 : decode cX10_takeGuest 16 = .ok (.if_icmp .ne 5, 3) := by decide +kernel
theorem dX10_takeGuest_19 : decode cX10_takeGuest 19 = .ok (.iconst 0, 1) := by decide +kernel
theorem dX10_takeGuest_20 : decode cX10_takeGuest 20 = .ok (.ireturn, 1) := by decide +kernel
theorem dX10_takeGuest_21 : decode cX10_takeGuest 21 = .ok (.iload 4, 2) := by decide +kernel
theorem dX10_takeGuest_23 : decode cX10_takeGuest 23 = .ok (.iload_n 3, 1) := by decide +kernel
theorem dX10_takeGuest_24 : decode cX10_takeGuest 24 = .ok (.if_icmp .ne 12, 3) := by decide +kernel
theorem dX10_takeGuest_27 : decode cX10_takeGuest 27 = .ok (.aload_n 0, 1) := by decide +kernel
theorem dX10_takeGuest_28 : decode cX10_takeGuest 28 = .ok (.getfield 22, 3) := by decide +kernel
theorem dX10_takeGuest_31 : decode cX10_takeGuest 31 = .ok (.iconst 5, 1) := by decide +kernel
theorem dX10_takeGuest_32 : decode cX10_takeGuest 32 = .ok (.invokevirtual 59, 3) := by decide +kernel
theorem dX10_takeGuest_35 : decode cX10_takeGuest 35 = .ok (.ireturn, 1) := by decide +kernel
theorem dX10_takeGuest_36 : decode cX10_takeGuest 36 = .ok (.aload_n 1, 1) := by decide +kernel
theorem dX10_takeGuest_37 : decode cX10_takeGuest 37 = .ok (.iload_n 2, 1) := by decide +kernel
theorem dX10_takeGuest_38 : decode cX10_takeGuest 38 = .ok (.iload 4, 2) := by decide +kernel
theorem dX10_takeGuest_40 : decode cX10_takeGuest 40 = .ok (.iastore, 1) := by decide +kernel
theorem dX10_takeGuest_41 : decode cX10_takeGuest 41 = .ok (.aload_n 0, 1) := by decide +kernel
theorem dX10_takeGuest_42 : decode cX10_takeGuest 42 = .ok (.getfield 22, 3) := by decide +kernel
theorem dX10_takeGuest_45 : decode cX10_takeGuest 45 = .ok (.invokevirtual 69, 3) := by decide +kernel
theorem dX10_takeGuest_48 : decode cX10_takeGuest 48 = .ok (.iconst 1, 1) := by decide +kernel
theorem dX10_takeGuest_49 : decode cX10_takeGuest 49 = .ok (.ireturn, 1) := by decide +kernel
theorem dX11_init_0 : decode cX11_init 0 = .ok (.aload_n 0, 1) := by decide +kernel
theorem dX11_init_1 : decode cX11_init 1 = .ok (.invokespecial 1, 3) := by decide +kernel
theorem dX11_init_4 : decode cX11_init 4 = .ok (.aload_n 0, 1) := by decide +kernel
theorem dX11_init_5 : decode cX11_init 5 = .ok (.lconst 1, 1) := by decide +kernel
theorem dX11_init_6 : decode cX11_init 6 = .ok (.putfield 7, 3) := by decide +kernel
theorem dX11_init_9 : decode cX11_init 9 = .ok (.aload_n 0, 1) := by decide +kernel
theorem dX11_init_10 : decode cX11_init 10 = .ok (.iconst 4, 1) := by decide +kernel
theorem dX11_init_11 : decode cX11_init 11 = .ok (.anewarray 13, 3) := by decide +kernel
theorem dX11_init_14 : decode cX11_init 14 = .ok (.putfield 15, 3) := by decide +kernel
theorem dX11_init_17 : decode cX11_init 17 = .ok (.iconst 0, 1) := by decide +kernel
theorem dX11_init_18 : decode cX11_init 18 = .ok (.istore_n 1, 1) := by decide +kernel
theorem dX11_init_19 : decode cX11_init 19 = .ok (.iload_n 1, 1) := by decide +kernel
theorem dX11_init_20 : decode cX11_init 20 = .ok (.iconst 4, 1) := by decide +kernel
theorem dX11_init_21 : decode cX11_init 21 = .ok (.if_icmp .ge 22, 3) := by decide +kernel
theorem dX11_init_24 : decode cX11_init 24 = .ok (.aload_n 0, 1) := by decide +kernel
theorem dX11_init_25 : decode cX11_init 25 = .ok (.getfield 15, 3) := by decide +kernel
theorem dX11_init_28 : decode cX11_init 28 = .ok (.iload_n 1, 1) := by decide +kernel
theorem dX11_init_29 : decode cX11_init 29 = .ok (.new 13, 3) := by decide +kernel
theorem dX11_init_32 : decode cX11_init 32 = .ok (.dup, 1) := by decide +kernel
theorem dX11_init_33 : decode cX11_init 33 = .ok (.invokespecial 19, 3) := by decide +kernel
theorem dX11_init_36 : decode cX11_init 36 = .ok (.aastore, 1) := by decide +kernel
theorem dX11_init_37 : decode cX11_init 37 = .ok (.iinc 1 1, 3) := by decide +kernel
theorem dX11_init_40 : decode cX11_init 40 = .ok (.goto (-21), 3) := by decide +kernel
theorem dX11_init_43 : decode cX11_init 43 = .ok (.aload_n 0, 1) := by decide +kernel
theorem dX11_init_44 : decode cX11_init 44 = .ok (.new 20, 3) := by decide +kernel
theorem dX11_init_47 : decode cX11_init 47 = .ok (.dup, 1) := by decide +kernel
theorem dX11_init_48 : decode cX11_init 48 = .ok (.invokespecial 22, 3) := by decide +kernel
theorem dX11_init_51 : decode cX11_init 51 = .ok (.putfield 23, 3) := by decide +kernel
theorem dX11_init_54 : decode cX11_init 54 = .ok (.aload_n 0, 1) := by decide +kernel
theorem dX11_init_55 : decode cX11_init 55 = .ok (.new 27, 3) := by decide +kernel
theorem dX11_init_58 : decode cX11_init 58 = .ok (.dup, 1) := by decide +kernel
theorem dX11_init_59 : decode cX11_init 59 = .ok (.invokespecial 29, 3) := by decide +kernel
theorem dX11_init_62 : decode cX11_init 62 = .ok (.putfield 30, 3) := by decide +kernel
theorem dX11_init_65 : decode cX11_init 65 = .ok (.aload_n 0, 1) := by decide +kernel
theorem dX11_init_66 : decode cX11_init 66 = .ok (.new 34, 3) := by decide +kernel
theorem dX11_init_69 : decode cX11_init 69 = .ok (.dup, 1) := by decide +kernel
theorem dX11_init_70 : decode cX11_init 70 = .ok (.invokespecial 36, 3) := by decide +kernel
theorem dX11_init_73 : decode cX11_init 73 = .ok (.putfield 37, 3) := by decide +kernel
theorem dX11_init_76 : decode cX11_init 76 = .ok (.aload_n 0, 1) := by decide +kernel
theorem dX11_init_77 : decode cX11_init 77 = .ok (.new 41, 3) := by decide +kernel
theorem dX11_init_80 : decode cX11_init 80 = .ok (.dup, 1) := by decide +kernel
theorem dX11_init_81 : decode cX11_init 81 = .ok (.aload_n 0, 1) := by decide +kernel
theorem dX11_init_82 : decode cX11_init 82 = .ok (.getfield 23, 3) := by decide +kernel
theorem dX11_init_85 : decode cX11_init 85 = .ok (.invokespecial 43, 3) := by decide +kernel
theorem dX11_init_88 : decode cX11_init 88 = .ok (.putfield 46, 3) := by decide +kernel
theorem dX11_init_91 : decode cX11_init 91 = .ok (.aload_n 0, 1) := by decide +kernel
theorem dX11_init_92 : decode cX11_init 92 = .ok (.new 50, 3) := by decide +kernel
theorem dX11_init_95 : decode cX11_init 95 = .ok (.dup, 1) := by decide +kernel
theorem dX11_init_96 : decode cX11_init 96 = .ok (.aload_n 0, 1) := by decide +kernel
theorem dX11_init_97 : decode cX11_init 97 = .ok (.getfield 23, 3) := by decide +kernel
theorem dX11_init_100 : decode cX11_init 100 = .ok (.aload_n 0, 1) := by decide +kernel
theorem dX11_init_101 : decode cX11_init 101 = .ok (.getfield 30, 3) := by decide +kernel
theorem dX11_init_104 : decode cX11_init 104 = .ok (.invokespecial 52, 3) := by decide +kernel
theorem dX11_init_107 : decode cX11_init 107 = .ok (.putfield 55, 3) := by decide +kernel
theorem dX11_init_110 : decode cX11_init 110 = .ok (.aload_n 0, 1) := by decide +kernel
theorem dX11_init_111 : decode cX11_init 111 = .ok (.new 59, 3) := by decide +kernel
theorem dX11_init_114 : decode cX11_init 114 = .ok (.dup, 1) := by decide +kernel
theorem dX11_init_115 : decode cX11_init 115 = .ok (.aload_n 0, 1) := by decide +kernel
theorem dX11_init_116 : decode cX11_init 116 = .ok (.getfield 30, 3) := by decide +kernel
theorem dX11_init_119 : decode cX11_init 119 = .ok (.invokespecial 61, 3) := by decide +kernel
theorem dX11_init_122 : decode cX11_init 122 = .ok (.putfield 64, 3) := by decide +kernel
theorem dX11_init_125 : decode cX11_init 125 = .ok (.aload_n 0, 1) := by decide +kernel
theorem dX11_init_126 : decode cX11_init 126 = .ok (.new 68, 3) := by decide +kernel
theorem dX11_init_129 : decode cX11_init 129 = .ok (.dup, 1) := by decide +kernel
theorem dX11_init_130 : decode cX11_init 130 = .ok (.aload_n 0, 1) := by decide +kernel
theorem dX11_init_131 : decode cX11_init 131 = .ok (.getfield 30, 3) := by decide +kernel
theorem dX11_init_134 : decode cX11_init 134 = .ok (.invokespecial 70, 3) := by decide +kernel
theorem dX11_init_137 : decode cX11_init 137 = .ok (.putfield 71, 3) := by decide +kernel
theorem dX11_init_140 : decode cX11_init 140 = .ok (.aload_n 0, 1) := by decide +kernel
theorem dX11_init_141 : decode cX11_init 141 = .ok (.new 75, 3) := by decide +kernel
theorem dX11_init_144 : decode cX11_init 144 = .ok (.dup, 1) := by decide +kernel
theorem dX11_init_145 : decode cX11_init 145 = .ok (.aload_n 0, 1) := by decide +kernel
theorem dX11_init_146 : decode cX11_init 146 = .ok (.getfield 30, 3) := by decide +kernel
theorem dX11_init_149 : decode cX11_init 149 = .ok (.invokespecial 77, 3) := by decide +kernel
theorem dX11_init_152 : decode cX11_init 152 = .ok (.putfield 78, 3) := by decide +kernel
theorem dX11_init_155 : decode cX11_init 155 = .ok (.aload_n 0, 1) := by decide +kernel
theorem dX11_init_156 : decode cX11_init 156 = .ok (.new 82, 3) := by decide +kernel
theorem dX11_init_159 : decode cX11_init 159 = .ok (.dup, 1) := by decide +kernel
theorem dX11_init_160 : decode cX11_init 160 = .ok (.aload_n 0, 1) := by decide +kernel
theorem dX11_init_161 : decode cX11_init 161 = .ok (.getfield 30, 3) := by decide +kernel
theorem dX11_init_164 : decode cX11_init 164 = .ok (.invokespecial 84, 3) := by decide +kernel
theorem dX11_init_167 : decode cX11_init 167 = .ok (.putfield 85, 3) := by decide +kernel
theorem dX11_init_170 : decode cX11_init 170 = .ok (.aload_n 0, 1) := by decide +kernel
theorem dX11_init_171 : decode cX11_init 171 = .ok (.new 89, 3) := by decide +kernel
theorem dX11_init_174 : decode cX11_init 174 = .ok (.dup, 1) := by decide +kernel
theorem dX11_init_175 : decode cX11_init 175 = .ok (.aload_n 0, 1) := by decide +kernel
theorem dX11_init_176 : decode cX11_init 176 = .ok (.getfield 30, 3) := by decide +kernel
theorem dX11_init_179 : decode cX11_init 179 = .ok (.aload_n 0, 1) := by decide +kernel
theorem dX11_init_180 : decode cX11_init 180 = .ok (.getfield 37, 3) := by decide +kernel
theorem dX11_init_183 : decode cX11_init 183 = .ok (.invokespecial 91, 3) := by decide +kernel
theorem dX11_init_186 : decode cX11_init 186 = .ok (.putfield 94, 3) := by decide +kernel
theorem dX11_init_189 : decode cX11_init 189 = .ok (.aload_n 0, 1) := by decide +kernel
theorem dX11_init_190 : decode cX11_init 190 = .ok (.iconst 5, 1) := by decide +kernel
theorem dX11_init_191 : decode cX11_init 191 = .ok (.newarray .int, 2) := by decide +kernel
theorem dX11_init_193 : decode cX11_init 193 = .ok (.putfield 98, 3) := by decide +kernel
theorem dX11_init_196 : decode cX11_init 196 = .ok (.aload_n 0, 1) := by decide +kernel
theorem dX11_init_197 : decode cX11_init 197 = .ok (.iconst 3, 1) := by decide +kernel
theorem dX11_init_198 : decode cX11_init 198 = .ok (.anewarray 27, 3) := by decide +kernel
theorem dX11_init_201 : decode cX11_init 201 = .ok (.putfield 102, 3) := by decide +kernel
theorem dX11_init_204 : decode cX11_init 204 = .ok (.aload_n 0, 1) := by decide +kernel
theorem dX11_init_205 : decode cX11_init 205 = .ok (.iconst 3, 1) := by decide +kernel
theorem dX11_init_206 : decode cX11_init 206 = .ok (.anewarray 34, 3) := by decide +kernel
theorem dX11_init_209 : decode cX11_init 209 = .ok (.putfield 106, 3) := by decide +kernel
theorem dX11_init_212 : decode cX11_init 212 = .ok (.iconst 0, 1) := by decide +kernel
theorem dX11_init_213 : decode cX11_init 213 = .ok (.istore_n 1, 1) := by decide +kernel
theorem dX11_init_214 : decode cX11_init 214 = .ok (.iload_n 1, 1) := by decide +kernel
theorem dX11_init_215 : decode cX11_init 215 = .ok (.iconst 3, 1) := by decide +kernel
theorem dX11_init_216 : decode cX11_init 216 = .ok (.if_icmp .ge 35, 3) := by decide +kernel
theorem dX11_init_219 : decode cX11_init 219 = .ok (.aload_n 0, 1) := by decide +kernel
theorem dX11_init_220 : decode cX11_init 220 = .ok (.getfield 102, 3) := by decide +kernel
theorem dX11_init_223 : decode cX11_init 223 = .ok (.iload_n 1, 1) := by decide +kernel
theorem dX11_init_224 : decode cX11_init 224 = .ok (.new 27, 3) := by decide +kernel
theorem dX11_init_227 : decode cX11_init 227 = .ok (.dup, 1) := by decide +kernel
theorem dX11_init_228 : decode cX11_init 228 = .ok (.invokespecial 29, 3) := by decide +kernel
theorem dX11_init_231 : decode cX11_init 231 = .ok (.aastore, 1) := by decide +kernel
theorem dX11_init_232 : decode cX11_init 232 = .ok (.aload_n 0, 1) := by decide +kernel
theorem dX11_init_233 : decode cX11_init 233 = .ok (.getfield 106, 3) := by decide +kernel
theorem dX11_init_236 : decode cX11_init 236 = .ok (.iload_n 1, 1) := by decide +kernel
theorem dX11_init_237 : decode cX11_init 237 = .ok (.new 34, 3) := by decide +kernel
theorem dX11_init_240 : decode cX11_init 240 = .ok (.dup, 1) := by decide +kernel
theorem dX11_init_241 : decode cX11_init 241 = .ok (.invokespecial 36, 3) := by decide +kernel
theorem dX11_init_244 : decode cX11_init 244 = .ok (.aastore, 1) := by decide +kernel
theorem dX11_init_245 : decode cX11_init 245 = .ok (.iinc 1 1, 3) := by decide +kernel
theorem dX11_init_248 : decode cX11_init 248 = .ok (.goto (-34), 3) := by decide +kernel
theorem dX11_init_251 : decode cX11_init 251 = .ok (.return_, 1) := by decide +kernel
theorem dX11_status_0 : decode cX11_status 0 = .ok (.aload_n 0, 1) := by decide +kernel
theorem dX11_status_1 : decode cX11_status 1 = .ok (.getfield 110, 3) := by decide +kernel
theorem dX11_status_4 : decode cX11_status 4 = .ok (.ireturn, 1) := by decide +kernel
theorem dX11_top_0 : decode cX11_top 0 = .ok (.aload_n 0, 1) := by decide +kernel
theorem dX11_top_1 : decode cX11_top 1 = .ok (.getfield 114, 3) := by decide +kernel
theorem dX11_top_4 : decode cX11_top 4 = .ok (.lreturn, 1) := by decide +kernel
theorem dX11_bottom_0 : decode cX11_bottom 0 = .ok (.aload_n 0, 1) := by decide +kernel
theorem dX11_bottom_1 : decode cX11_bottom 1 = .ok (.getfield 7, 3) := by decide +kernel
theorem dX11_bottom_4 : decode cX11_bottom 4 = .ok (.lreturn, 1) := by decide +kernel
theorem dX11_tray_0 : decode cX11_tray 0 = .ok (.iload_n 1, 1) := by decide +kernel
theorem dX11_tray_1 : decode cX11_tray 1 = .ok (.invokestatic 117, 3) := by decide +kernel
theorem dX11_tray_4 : decode cX11_tray 4 = .ok (.ifCond .eq 22, 3) := by decide +kernel
theorem dX11_tray_7 : decode cX11_tray 7 = .ok (.iload_n 2, 1) := by decide +kernel
theorem dX11_tray_8 : decode cX11_tray 8 = .ok (.iconst 0, 1) := by decide +kernel
theorem dX11_tray_9 : decode cX11_tray 9 = .ok (.iconst 3, 1) := by decide +kernel
theorem dX11_tray_10 : decode cX11_tray 10 = .ok (.invokestatic 121, 3) := by decide +kernel
theorem dX11_tray_13 : decode cX11_tray 13 = .ok (.ifCond .eq 13, 3) := by decide +kernel
theorem dX11_tray_16 : decode cX11_tray 16 = .ok (.iload_n 3, 1) := by decide +kernel
theorem dX11_tray_17 : decode cX11_tray 17 = .ok (.iconst 0, 1) := by decide +kernel
theorem dX11_tray_18 : decode cX11_tray 18 = .ok (.bipush 60, 2) := by decide +kernel
theorem dX11_tray_20 : decode cX11_tray 20 = .ok (.invokestatic 121, 3) := by decide +kernel
theorem dX11_tray_23 : decode cX11_tray 23 = .ok (.ifCond .ne 9, 3) := by decide +kernel
theorem dX11_tray_26 : decode cX11_tray 26 = .ok (.aload_n 0, 1) := by decide +kernel
theorem dX11_tray_27 : decode cX11_tray 27 = .ok (.iconst 1, 1) := by decide +kernel
theorem dX11_tray_28 : decode cX11_tray 28 = .ok (.invokevirtual 125, 3) := by decide +kernel
theorem dX11_tray_31 : decode cX11_tray 31 = .ok (.ireturn, 1) := by decide +kernel
theorem dX11_tray_32 : decode cX11_tray 32 = .ok (.aload_n 0, 1) := by decide +kernel
theorem dX11_tray_33 : decode cX11_tray 33 = .ok (.getfield 15, 3) := by decide +kernel
theorem dX11_tray_36 : decode cX11_tray 36 = .ok (.iload_n 1, 1) := by decide +kernel
theorem dX11_tray_37 : decode cX11_tray 37 = .ok (.aaload, 1) := by decide +kernel
theorem dX11_tray_38 : decode cX11_tray 38 = .ok (.iload_n 2, 1) := by decide +kernel
theorem dX11_tray_39 : decode cX11_tray 39 = .ok (.iload_n 3, 1) := by decide +kernel
theorem dX11_tray_40 : decode cX11_tray 40 = .ok (.invokevirtual 128, 3) := by decide +kernel
theorem dX11_tray_43 : decode cX11_tray 43 = .ok (.aload_n 0, 1) := by decide +kernel
theorem dX11_tray_44 : decode cX11_tray 44 = .ok (.invokevirtual 132, 3) := by decide +kernel
theorem dX11_tray_47 : decode cX11_tray 47 = .ok (.ireturn, 1) := by decide +kernel
theorem dX11_write_0 : decode cX11_write 0 = .ok (.aload_n 0, 1) := by decide +kernel
theorem dX11_write_1 : decode cX11_write 1 = .ok (.iload_n 1, 1) := by decide +kernel
theorem dX11_write_2 : decode cX11_write 2 = .ok (.iload_n 2, 1) := by decide +kernel
theorem dX11_write_3 : decode cX11_write 3 = .ok (.iconst 1, 1) := by decide +kernel
theorem dX11_write_4 : decode cX11_write 4 = .ok (.invokevirtual 136, 3) := by decide +kernel
theorem dX11_write_7 : decode cX11_write 7 = .ok (.istore 5, 2) := by decide +kernel
theorem dX11_write_9 : decode cX11_write 9 = .ok (.iload 5, 2) := by decide +kernel
theorem dX11_write_11 : decode cX11_write 11 = .ok (.ifCond .eq 10, 3) := by decide +kernel
theorem dX11_write_14 : decode cX11_write 14 = .ok (.aload_n 0, 1) := by decide +kernel
theorem dX11_write_15 : decode cX11_write 15 = .ok (.iload 5, 2) := by decide +kernel
theorem dX11_write_17 : decode cX11_write 17 = .ok (.invokevirtual 125, 3) := by decide +kernel
theorem dX11_write_20 : decode cX11_write 20 = .ok (.ireturn, 1) := by decide +kernel
theorem dX11_write_21 : decode cX11_write 21 = .ok (.aload_n 0, 1) := by decide +kernel
theorem dX11_write_22 : decode cX11_write 22 = .ok (.getfield 15, 3) := by decide +kernel
theorem dX11_write_25 : decode cX11_write 25 = .ok (.iload_n 1, 1) := by decide +kernel
theorem dX11_write_26 : decode cX11_write 26 = .ok (.aaload, 1) := by decide +kernel
theorem dX11_write_27 : decode cX11_write 27 = .ok (.iload_n 2, 1) := by decide +kernel
theorem dX11_write_28 : decode cX11_write 28 = .ok (.lload_n 3, 1) := by decide +kernel
theorem dX11_write_29 : decode cX11_write 29 = .ok (.invokevirtual 140, 3) := by decide +kernel
theorem dX11_write_32 : decode cX11_write 32 = .ok (.aload_n 0, 1) := by decide +kernel
theorem dX11_write_33 : decode cX11_write 33 = .ok (.invokevirtual 132, 3) := by decide +kernel
theorem dX11_write_36 : decode cX11_write 36 = .ok (.ireturn, 1) := by decide +kernel
theorem dX11_read_0 : decode cX11_read 0 = .ok (.aload_n 0, 1) := by decide +kernel
theorem dX11_read_1 : decode cX11_read 1 = .ok (.iload_n 1, 1) := by decide +kernel
theorem dX11_read_2 : decode cX11_read 2 = .ok (.iload_n 2, 1) := by decide +kernel
theorem dX11_read_3 : decode cX11_read 3 = .ok (.iconst 1, 1) := by decide +kernel
theorem dX11_read_4 : decode cX11_read 4 = .ok (.invokevirtual 136, 3) := by decide +kernel
theorem dX11_read_7 : decode cX11_read 7 = .ok (.istore_n 3, 1) := by decide +kernel
theorem dX11_read_8 : decode cX11_read 8 = .ok (.iload_n 3, 1) := by decide +kernel
theorem dX11_read_9 : decode cX11_read 9 = .ok (.ifCond .eq 10, 3) := by decide +kernel
theorem dX11_read_12 : decode cX11_read 12 = .ok (.aload_n 0, 1) := by decide +kernel
theorem dX11_read_13 : decode cX11_read 13 = .ok (.iload_n 3, 1) := by decide +kernel
theorem dX11_read_14 : decode cX11_read 14 = .ok (.invokevirtual 144, 3) := by decide +kernel
theorem dX11_read_17 : decode cX11_read 17 = .ok (.i2l, 1) := by decide +kernel
theorem dX11_read_18 : decode cX11_read 18 = .ok (.lreturn, 1) := by decide +kernel
theorem dX11_read_19 : decode cX11_read 19 = .ok (.aload_n 0, 1) := by decide +kernel
theorem dX11_read_20 : decode cX11_read 20 = .ok (.iconst 0, 1) := by decide +kernel
theorem dX11_read_21 : decode cX11_read 21 = .ok (.putfield 110, 3) := by decide +kernel
theorem dX11_read_24 : decode cX11_read 24 = .ok (.aload_n 0, 1) := by decide +kernel
theorem dX11_read_25 : decode cX11_read 25 = .ok (.getfield 15, 3) := by decide +kernel
theorem dX11_read_28 : decode cX11_read 28 = .ok (.iload_n 1, 1) := by decide +kernel
theorem dX11_read_29 : decode cX11_read 29 = .ok (.aaload, 1) := by decide +kernel
theorem dX11_read_30 : decode cX11_read 30 = .ok (.getfield 148, 3) := by decide +kernel
theorem dX11_read_33 : decode cX11_read 33 = .ok (.iload_n 2, 1) := by decide +kernel
theorem dX11_read_34 : decode cX11_read 34 = .ok (.laload, 1) := by decide +kernel
theorem dX11_read_35 : decode cX11_read 35 = .ok (.lreturn, 1) := by decide +kernel
theorem dX11_pour_0 : decode cX11_pour 0 = .ok (.iload_n 1, 1) := by decide +kernel
theorem dX11_pour_1 : decode cX11_pour 1 = .ok (.invokestatic 117, 3) := by decide +kernel
theorem dX11_pour_4 : decode cX11_pour 4 = .ok (.ifCond .eq 24, 3) := by decide +kernel
theorem dX11_pour_7 : decode cX11_pour 7 = .ok (.iload_n 3, 1) := by decide +kernel
theorem dX11_pour_8 : decode cX11_pour 8 = .ok (.invokestatic 117, 3) := by decide +kernel
theorem dX11_pour_11 : decode cX11_pour 11 = .ok (.ifCond .eq 17, 3) := by decide +kernel
theorem dX11_pour_14 : decode cX11_pour 14 = .ok (.iload_n 2, 1) := by decide +kernel
theorem dX11_pour_15 : decode cX11_pour 15 = .ok (.ifCond .lt 13, 3) := by decide +kernel
theorem dX11_pour_18 : decode cX11_pour 18 = .ok (.iload 4, 2) := by decide +kernel
theorem dX11_pour_20 : decode cX11_pour 20 = .ok (.ifCond .lt 8, 3) := by decide +kernel
theorem dX11_pour_23 : decode cX11_pour 23 = .ok (.iload 5, 2) := by decide +kernel
theorem dX11_pour_25 : decode cX11_pour 25 = .ok (.ifCond .ge 9, 3) := by decide +kernel
theorem dX11_pour_28 : decode cX11_pour 28 = .ok (.aload_n 0, 1) := by decide +kernel
theorem dX11_pour_29 : decode cX11_pour 29 = .ok (.iconst 1, 1) := by decide +kernel
theorem dX11_pour_30 : decode cX11_pour 30 = .ok (.invokevirtual 125, 3) := by decide +kernel
theorem dX11_pour_33 : decode cX11_pour 33 = .ok (.ireturn, 1) := by decide +kernel
theorem dX11_pour_34 : decode cX11_pour 34 = .ok (.aload_n 0, 1) := by decide +kernel
theorem dX11_pour_35 : decode cX11_pour 35 = .ok (.getfield 15, 3) := by decide +kernel
theorem dX11_pour_38 : decode cX11_pour 38 = .ok (.iload_n 1, 1) := by decide +kernel
theorem dX11_pour_39 : decode cX11_pour 39 = .ok (.aaload, 1) := by decide +kernel
theorem dX11_pour_40 : decode cX11_pour 40 = .ok (.astore 6, 2) := by decide +kernel
theorem dX11_pour_42 : decode cX11_pour 42 = .ok (.aload_n 0, 1) := by decide +kernel
theorem dX11_pour_43 : decode cX11_pour 43 = .ok (.getfield 15, 3) := by decide +kernel
theorem dX11_pour_46 : decode cX11_pour 46 = .ok (.iload_n 3, 1) := by decide +kernel
theorem dX11_pour_47 : decode cX11_pour 47 = .ok (.aaload, 1) := by decide +kernel
theorem dX11_pour_48 : decode cX11_pour 48 = .ok (.astore 7, 2) := by decide +kernel
theorem dX11_pour_50 : decode cX11_pour 50 = .ok (.aload 6, 2) := by decide +kernel
theorem dX11_pour_52 : decode cX11_pour 52 = .ok (.getfield 152, 3) := by decide +kernel
theorem dX11_pour_55 : decode cX11_pour 55 = .ok (.ifCond .eq 11, 3) := by decide +kernel
theorem dX11_pour_58 : decode cX11_pour 58 = .ok (.aload 7, 2) := by decide +kernel
theorem dX11_pour_60 : decode cX11_pour 60 = .ok (.getfield 152, 3) := by decide +kernel
theorem dX11_pour_63 : decode cX11_pour 63 = .ok (.ifCond .ne 9, 3) := by decide +kernel
theorem dX11_pour_66 : decode cX11_pour 66 = .ok (.aload_n 0, 1) := by decide +kernel
theorem dX11_pour_67 : decode cX11_pour 67 = .ok (.iconst 2, 1) := by decide +kernel
theorem dX11_pour_68 : decode cX11_pour 68 = .ok (.invokevirtual 125, 3) := by decide +kernel
theorem dX11_pour_71 : decode cX11_pour 71 = .ok (.ireturn, 1) := by decide +kernel
theorem dX11_pour_72 : decode cX11_pour 72 = .ok (.aload 6, 2) := by decide +kernel
theorem dX11_pour_74 : decode cX11_pour 74 = .ok (.getfield 156, 3) := by decide +kernel
theorem dX11_pour_77 : decode cX11_pour 77 = .ok (.aload 7, 2) := by decide +kernel
theorem dX11_pour_79 : decode cX11_pour 79 = .ok (.getfield 156, 3) := by decide +kernel
theorem dX11_pour_82 : decode cX11_pour 82 = .ok (.if_icmp .eq 10, 3) := by decide +kernel
theorem dX11_pour_85 : decode cX11_pour 85 = .ok (.aload_n 0, 1) := by decide +kernel
theorem dX11_pour_86 : decode cX11_pour 86 = .ok (.bipush 8, 2) := by decide +kernel
theorem dX11_pour_88 : decode cX11_pour 88 = .ok (.invokevirtual 125, 3) := by decide +kernel
theorem dX11_pour_91 : decode cX11_pour 91 = .ok (.ireturn, 1) := by decide +kernel
theorem dX11_pour_92 : decode cX11_pour 92 = .ok (.aload 6, 2) := by decide +kernel
theorem dX11_pour_94 : decode cX11_pour 94 = .ok (.iload_n 2, 1) := by decide +kernel
theorem dX11_pour_95 : decode cX11_pour 95 = .ok (.iload 5, 2) := by decide +kernel
theorem dX11_pour_97 : decode cX11_pour 97 = .ok (.invokevirtual 159, 3) := by decide +kernel
theorem dX11_pour_100 : decode cX11_pour 100 = .ok (.ifCond .eq 15, 3) := by decide +kernel
theorem dX11_pour_103 : decode cX11_pour 103 = .ok (.aload 7, 2) := by decide +kernel
theorem dX11_pour_105 : decode cX11_pour 105 = .ok (.iload 4, 2) := by decide +kernel
theorem dX11_pour_107 : decode cX11_pour 107 = .ok (.iload 5, 2) := by decide +kernel
theorem dX11_pour_109 : decode cX11_pour 109 = .ok (.invokevirtual 159, 3) := by decide +kernel
theorem dX11_pour_112 : decode cX11_pour 112 = .ok (.ifCond .ne 9, 3) := by decide +kernel
theorem dX11_pour_115 : decode cX11_pour 115 = .ok (.aload_n 0, 1) := by decide +kernel
theorem dX11_pour_116 : decode cX11_pour 116 = .ok (.iconst 3, 1) := by decide +kernel
theorem dX11_pour_117 : decode cX11_pour 117 = .ok (.invokevirtual 125, 3) := by decide +kernel
theorem dX11_pour_120 : decode cX11_pour 120 = .ok (.ireturn, 1) := by decide +kernel
theorem dX11_pour_121 : decode cX11_pour 121 = .ok (.aload 6, 2) := by decide +kernel
theorem dX11_pour_123 : decode cX11_pour 123 = .ok (.getfield 148, 3) := by decide +kernel
theorem dX11_pour_126 : decode cX11_pour 126 = .ok (.iload_n 2, 1) := by decide +kernel
theorem dX11_pour_127 : decode cX11_pour 127 = .ok (.aload 7, 2) := by decide +kernel
theorem dX11_pour_129 : decode cX11_pour 129 = .ok (.getfield 148, 3) := by decide +kernel
theorem dX11_pour_132 : decode cX11_pour 132 = .ok (.iload 4, 2) := by decide +kernel
theorem dX11_pour_134 : decode cX11_pour 134 = .ok (.iload 5, 2) := by decide +kernel
theorem dX11_pour_136 : decode cX11_pour 136 = .ok (.invokestatic 163, 3) := by decide +kernel
theorem dX11_pour_139 : decode cX11_pour 139 = .ok (.aload_n 0, 1) := by decide +kernel
theorem dX11_pour_140 : decode cX11_pour 140 = .ok (.invokevirtual 132, 3) := by decide +kernel
theorem dX11_pour_143 : decode cX11_pour 143 = .ok (.ireturn, 1) := by decide +kernel
theorem dX11_feed_0 : decode cX11_feed 0 = .ok (.aload_n 0, 1) := by decide +kernel
theorem dX11_feed_1 : decode cX11_feed 1 = .ok (.getfield 23, 3) := by decide +kernel
theorem dX11_feed_4 : decode cX11_feed 4 = .ok (.getfield 169, 3) := by decide +kernel
theorem dX11_feed_7 : decode cX11_feed 7 = .ok (.bipush 20, 2) := by decide +kernel
theorem dX11_feed_9 : decode cX11_feed 9 = .ok (.iadd, 1) := by decide +kernel
theorem dX11_feed_10 : decode cX11_feed 10 = .ok (.sipush 900, 3) := by decide +kernel
theorem dX11_feed_13 : decode cX11_feed 13 = .ok (.if_icmp .le 5, 3) := by decide +kernel
theorem dX11_feed_16 : decode cX11_feed 16 = .ok (.iconst (-1), 1) := by decide +kernel
theorem dX11_feed_17 : decode cX11_feed 17 = .ok (.ireturn, 1) := by decide +kernel
theorem dX11_feed_18 : decode cX11_feed 18 = .ok (.aload_n 0, 1) := by decide +kernel
theorem dX11_feed_19 : decode cX11_feed 19 = .ok (.getfield 23, 3) := by decide +kernel
theorem dX11_feed_22 : decode cX11_feed 22 = .ok (.iload_n 1, 1) := by decide +kernel
theorem dX11_feed_23 : decode cX11_feed 23 = .ok (.invokevirtual 172, 3) := by decide +kernel
theorem dX11_feed_26 : decode cX11_feed 26 = .ok (.aload_n 0, 1) := by decide +kernel
theorem dX11_feed_27 : decode cX11_feed 27 = .ok (.getfield 23, 3) := by decide +kernel
theorem dX11_feed_30 : decode cX11_feed 30 = .ok (.iload_n 2, 1) := by decide +kernel
theorem dX11_feed_31 : decode cX11_feed 31 = .ok (.invokevirtual 172, 3) := by decide +kernel
theorem dX11_feed_34 : decode cX11_feed 34 = .ok (.aload_n 0, 1) := by decide +kernel
theorem dX11_feed_35 : decode cX11_feed 35 = .ok (.getfield 23, 3) := by decide +kernel
theorem dX11_feed_38 : decode cX11_feed 38 = .ok (.iload_n 3, 1) := by decide +kernel
theorem dX11_feed_39 : decode cX11_feed 39 = .ok (.invokevirtual 172, 3) := by decide +kernel
theorem dX11_feed_42 : decode cX11_feed 42 = .ok (.aload_n 0, 1) := by decide +kernel
theorem dX11_feed_43 : decode cX11_feed 43 = .ok (.getfield 23, 3) := by decide +kernel
theorem dX11_feed_46 : decode cX11_feed 46 = .ok (.iload 4, 2) := by decide +kernel
theorem dX11_feed_48 : decode cX11_feed 48 = .ok (.invokevirtual 172, 3) := by decide +kernel
theorem dX11_feed_51 : decode cX11_feed 51 = .ok (.aload_n 0, 1) := by decide +kernel
theorem dX11_feed_52 : decode cX11_feed 52 = .ok (.getfield 23, 3) := by decide +kernel
theorem dX11_feed_55 : decode cX11_feed 55 = .ok (.iload 5, 2) := by decide +kernel
theorem dX11_feed_57 : decode cX11_feed 57 = .ok (.invokevirtual 172, 3) := by decide +kernel
theorem dX11_feed_60 : decode cX11_feed 60 = .ok (.aload_n 0, 1) := by decide +kernel
theorem dX11_feed_61 : decode cX11_feed 61 = .ok (.getfield 23, 3) := by decide +kernel
theorem dX11_feed_64 : decode cX11_feed 64 = .ok (.getfield 169, 3) := by decide +kernel
theorem dX11_feed_67 : decode cX11_feed 67 = .ok (.ireturn, 1) := by decide +kernel
theorem dX11_table_0 : decode cX11_table 0 = .ok (.iload_n 1, 1) := by decide +kernel
theorem dX11_table_1 : decode cX11_table 1 = .ok (.iconst 0, 1) := by decide +kernel
theorem dX11_table_2 : decode cX11_table 2 = .ok (.aload_n 0, 1) := by decide +kernel
theorem dX11_table_3 : decode cX11_table 3 = .ok (.getfield 23, 3) := by decide +kernel
theorem dX11_table_6 : decode cX11_table 6 = .ok (.getfield 169, 3) := by decide +kernel
theorem dX11_table_9 : decode cX11_table 9 = .ok (.invokestatic 121, 3) := by decide +kernel
theorem dX11_table_12 : decode cX11_table 12 = .ok (.ifCond .ne 9, 3) := by decide +kernel
theorem dX11_table_15 : decode cX11_table 15 = .ok (.aload_n 0, 1) := by decide +kernel
theorem dX11_table_16 : decode cX11_table 16 = .ok (.iconst 1, 1) := by decide +kernel
theorem dX11_table_17 : decode cX11_table 17 = .ok (.invokevirtual 144, 3) := by decide +kernel
theorem dX11_table_20 : decode cX11_table 20 = .ok (.ireturn, 1) := by decide +kernel
theorem dX11_table_21 : decode cX11_table 21 = .ok (.aload_n 0, 1) := by decide +kernel
theorem dX11_table_22 : decode cX11_table 22 = .ok (.getfield 23, 3) := by decide +kernel
theorem dX11_table_25 : decode cX11_table 25 = .ok (.iload_n 1, 1) := by decide +kernel
theorem dX11_table_26 : decode cX11_table 26 = .ok (.invokevirtual 176, 3) := by decide +kernel
theorem dX11_table_29 : decode cX11_table 29 = .ok (.aload_n 0, 1) := by decide +kernel
theorem dX11_table_30 : decode cX11_table 30 = .ok (.getfield 46, 3) := by decide +kernel
theorem dX11_table_33 : decode cX11_table 33 = .ok (.invokevirtual 179, 3) := by decide +kernel
theorem dX11_table_36 : decode cX11_table 36 = .ok (.ifCond .ne 10, 3) := by decide +kernel
theorem dX11_table_39 : decode cX11_table 39 = .ok (.aload_n 0, 1) := by decide +kernel
theorem dX11_table_40 : decode cX11_table 40 = .ok (.bipush 9, 2) := by decide +kernel
theorem dX11_table_42 : decode cX11_table 42 = .ok (.invokevirtual 144, 3) := by decide +kernel
theorem dX11_table_45 : decode cX11_table 45 = .ok (.ireturn, 1) := by decide +kernel
theorem dX11_table_46 : decode cX11_table 46 = .ok (.aload_n 0, 1) := by decide +kernel
theorem dX11_table_47 : decode cX11_table 47 = .ok (.getfield 30, 3) := by decide +kernel
theorem dX11_table_50 : decode cX11_table 50 = .ok (.aload_n 0, 1) := by decide +kernel
theorem dX11_table_51 : decode cX11_table 51 = .ok (.getfield 46, 3) := by decide +kernel
theorem dX11_table_54 : decode cX11_table 54 = .ok (.getfield 182, 3) := by decide +kernel
theorem dX11_table_57 : decode cX11_table 57 = .ok (.invokevirtual 185, 3) := by decide +kernel
theorem dX11_table_60 : decode cX11_table 60 = .ok (.aload_n 0, 1) := by decide +kernel
theorem dX11_table_61 : decode cX11_table 61 = .ok (.getfield 37, 3) := by decide +kernel
theorem dX11_table_64 : decode cX11_table 64 = .ok (.invokevirtual 188, 3) := by decide +kernel
theorem dX11_table_67 : decode cX11_table 67 = .ok (.aload_n 0, 1) := by decide +kernel
theorem dX11_table_68 : decode cX11_table 68 = .ok (.aload_n 0, 1) := by decide +kernel
theorem dX11_table_69 : decode cX11_table 69 = .ok (.getfield 30, 3) := by decide +kernel
theorem dX11_table_72 : decode cX11_table 72 = .ok (.getfield 191, 3) := by decide +kernel
theorem dX11_table_75 : decode cX11_table 75 = .ok (.invokevirtual 194, 3) := by decide +kernel
theorem dX11_table_78 : decode cX11_table 78 = .ok (.ireturn, 1) := by decide +kernel
theorem dX11_weeks_0 : decode cX11_weeks 0 = .ok (.iload_n 1, 1) := by decide +kernel
theorem dX11_weeks_1 : decode cX11_weeks 1 = .ok (.iconst 0, 1) := by decide +kernel
theorem dX11_weeks_2 : decode cX11_weeks 2 = .ok (.aload_n 0, 1) := by decide +kernel
theorem dX11_weeks_3 : decode cX11_weeks 3 = .ok (.getfield 23, 3) := by decide +kernel
theorem dX11_weeks_6 : decode cX11_weeks 6 = .ok (.getfield 169, 3) := by decide +kernel
theorem dX11_weeks_9 : decode cX11_weeks 9 = .ok (.sipush 300, 3) := by decide +kernel
theorem dX11_weeks_12 : decode cX11_weeks 12 = .ok (.invokestatic 197, 3) := by decide +kernel
theorem dX11_weeks_15 : decode cX11_weeks 15 = .ok (.invokestatic 121, 3) := by decide +kernel
theorem dX11_weeks_18 : decode cX11_weeks 18 = .ok (.ifCond .ne 9, 3) := by decide +kernel
theorem dX11_weeks_21 : decode cX11_weeks 21 = .ok (.aload_n 0, 1) := by decide +kernel
theorem dX11_weeks_22 : decode cX11_weeks 22 = .ok (.iconst 1, 1) := by decide +kernel
theorem dX11_weeks_23 : decode cX11_weeks 23 = .ok (.invokevirtual 144, 3) := by decide +kernel
theorem dX11_weeks_26 : decode cX11_weeks 26 = .ok (.ireturn, 1) := by decide +kernel
theorem dX11_weeks_27 : decode cX11_weeks 27 = .ok (.aload_n 0, 1) := by decide +kernel
theorem dX11_weeks_28 : decode cX11_weeks 28 = .ok (.getfield 23, 3) := by decide +kernel
theorem dX11_weeks_31 : decode cX11_weeks 31 = .ok (.iload_n 1, 1) := by decide +kernel
theorem dX11_weeks_32 : decode cX11_weeks 32 = .ok (.invokevirtual 176, 3) := by decide +kernel
theorem dX11_weeks_35 : decode cX11_weeks 35 = .ok (.aload_n 0, 1) := by decide +kernel
theorem dX11_weeks_36 : decode cX11_weeks 36 = .ok (.getfield 55, 3) := by decide +kernel
theorem dX11_weeks_39 : decode cX11_weeks 39 = .ok (.invokevirtual 203, 3) := by decide +kernel
theorem dX11_weeks_42 : decode cX11_weeks 42 = .ok (.ifCond .ne 10, 3) := by decide +kernel
theorem dX11_weeks_45 : decode cX11_weeks 45 = .ok (.aload_n 0, 1) := by decide +kernel
theorem dX11_weeks_46 : decode cX11_weeks 46 = .ok (.bipush 9, 2) := by decide +kernel
theorem dX11_weeks_48 : decode cX11_weeks 48 = .ok (.invokevirtual 144, 3) := by decide +kernel
theorem dX11_weeks_51 : decode cX11_weeks 51 = .ok (.ireturn, 1) := by decide +kernel
theorem dX11_weeks_52 : decode cX11_weeks 52 = .ok (.aload_n 0, 1) := by decide +kernel
theorem dX11_weeks_53 : decode cX11_weeks 53 = .ok (.getfield 37, 3) := by decide +kernel
theorem dX11_weeks_56 : decode cX11_weeks 56 = .ok (.aload_n 0, 1) := by decide +kernel
theorem dX11_weeks_57 : decode cX11_weeks 57 = .ok (.getfield 55, 3) := by decide +kernel
theorem dX11_weeks_60 : decode cX11_weeks 60 = .ok (.getfield 206, 3) := by decide +kernel
theorem dX11_weeks_63 : decode cX11_weeks 63 = .ok (.invokevirtual 208, 3) := by decide +kernel
theorem dX11_weeks_66 : decode cX11_weeks 66 = .ok (.aload_n 0, 1) := by decide +kernel
theorem dX11_weeks_67 : decode cX11_weeks 67 = .ok (.aload_n 0, 1) := by decide +kernel
theorem dX11_weeks_68 : decode cX11_weeks 68 = .ok (.getfield 37, 3) := by decide +kernel
theorem dX11_weeks_71 : decode cX11_weeks 71 = .ok (.getfield 211, 3) := by decide +kernel
theorem dX11_weeks_74 : decode cX11_weeks 74 = .ok (.invokevirtual 194, 3) := by decide +kernel
theorem dX11_weeks_77 : decode cX11_weeks 77 = .ok (.ireturn, 1) := by decide +kernel
theorem dX11_fault_0 : decode cX11_fault 0 = .ok (.iload_n 1, 1) := by decide +kernel
theorem dX11_fault_1 : decode cX11_fault 1 = .ok (.ifCond .ne 11, 3) := by decide +kernel
theorem dX11_fault_4 : decode cX11_fault 4 = .ok (.aload_n 0, 1) := by decide +kernel
theorem dX11_fault_5 : decode cX11_fault 5 = .ok (.getfield 23, 3) := by decide +kernel
theorem dX11_fault_8 : decode cX11_fault 8 = .ok (.getfield 214, 3) := by decide +kernel
theorem dX11_fault_11 : decode cX11_fault 11 = .ok (.ireturn, 1) := by decide +kernel
theorem dX11_fault_12 : decode cX11_fault 12 = .ok (.iload_n 1, 1) := by decide +kernel
theorem dX11_fault_13 : decode cX11_fault 13 = .ok (.iconst 1, 1) := by decide +kernel
theorem dX11_fault_14 : decode cX11_fault 14 = .ok (.if_icmp .ne 13, 3) := by decide +kernel
theorem dX11_fault_17 : decode cX11_fault 17 = .ok (.aload_n 0, 1) := by decide +kernel
theorem dX11_fault_18 : decode cX11_fault 18 = .ok (.getfield 23, 3) := by decide +kernel
theorem dX11_fault_21 : decode cX11_fault 21 = .ok (.getfield 217, 3) := by decide +kernel
theorem dX11_fault_24 : decode cX11_fault 24 = .ok (.goto 4, 3) := by decide +kernel
theorem dX11_fault_27 : decode cX11_fault 27 = .ok (.iconst (-1), 1) := by decide +kernel
theorem dX11_fault_28 : decode cX11_fault 28 = .ok (.ireturn, 1) := by decide +kernel
theorem dX11_told_0 : decode cX11_told 0 = .ok (.iload_n 1, 1) := by decide +kernel
theorem dX11_told_1 : decode cX11_told 1 = .ok (.tableswitch 191 0 10 #[59, 71, 83, 95, 107, 119, 131, 143, 155, 167, 179], 59) := by decide +kernel
theorem dX11_told_60 : decode cX11_told 60 = .ok (.aload_n 0, 1) := by decide +kernel
theorem dX11_told_61 : decode cX11_told 61 = .ok (.aload_n 0, 1) := by decide +kernel
theorem dX11_told_62 : decode cX11_told 62 = .ok (.getfield 30, 3) := by decide +kernel
theorem dX11_told_65 : decode cX11_told 65 = .ok (.getfield 191, 3) := by decide +kernel
theorem dX11_told_68 : decode cX11_told 68 = .ok (.invokevirtual 194, 3) := by decide +kernel
theorem dX11_told_71 : decode cX11_told 71 = .ok (.ireturn, 1) := by decide +kernel
theorem dX11_told_72 : decode cX11_told 72 = .ok (.aload_n 0, 1) := by decide +kernel
theorem dX11_told_73 : decode cX11_told 73 = .ok (.aload_n 0, 1) := by decide +kernel
theorem dX11_told_74 : decode cX11_told 74 = .ok (.getfield 30, 3) := by decide +kernel
theorem dX11_told_77 : decode cX11_told 77 = .ok (.getfield 220, 3) := by decide +kernel
theorem dX11_told_80 : decode cX11_told 80 = .ok (.invokevirtual 194, 3) := by decide +kernel
theorem dX11_told_83 : decode cX11_told 83 = .ok (.ireturn, 1) := by decide +kernel
theorem dX11_told_84 : decode cX11_told 84 = .ok (.aload_n 0, 1) := by decide +kernel
theorem dX11_told_85 : decode cX11_told 85 = .ok (.aload_n 0, 1) := by decide +kernel
theorem dX11_told_86 : decode cX11_told 86 = .ok (.getfield 30, 3) := by decide +kernel
theorem dX11_told_89 : decode cX11_told 89 = .ok (.getfield 223, 3) := by decide +kernel
theorem dX11_told_92 : decode cX11_told 92 = .ok (.invokevirtual 194, 3) := by decide +kernel
theorem dX11_told_95 : decode cX11_told 95 = .ok (.ireturn, 1) := by decide +kernel
theorem dX11_told_96 : decode cX11_told 96 = .ok (.aload_n 0, 1) := by decide +kernel
theorem dX11_told_97 : decode cX11_told 97 = .ok (.aload_n 0, 1) := by decide +kernel
theorem dX11_told_98 : decode cX11_told 98 = .ok (.getfield 30, 3) := by decide +kernel
theorem dX11_told_101 : decode cX11_told 101 = .ok (.getfield 226, 3) := by decide +kernel
theorem dX11_told_104 : decode cX11_told 104 = .ok (.invokevirtual 194, 3) := by decide +kernel
theorem dX11_told_107 : decode cX11_told 107 = .ok (.ireturn, 1) := by decide +kernel
theorem dX11_told_108 : decode cX11_told 108 = .ok (.aload_n 0, 1) := by decide +kernel
theorem dX11_told_109 : decode cX11_told 109 = .ok (.aload_n 0, 1) := by decide +kernel
theorem dX11_told_110 : decode cX11_told 110 = .ok (.getfield 30, 3) := by decide +kernel
theorem dX11_told_113 : decode cX11_told 113 = .ok (.getfield 229, 3) := by decide +kernel
theorem dX11_told_116 : decode cX11_told 116 = .ok (.invokevirtual 194, 3) := by decide +kernel
theorem dX11_told_119 : decode cX11_told 119 = .ok (.ireturn, 1) := by decide +kernel
theorem dX11_told_120 : decode cX11_told 120 = .ok (.aload_n 0, 1) := by decide +kernel
theorem dX11_told_121 : decode cX11_told 121 = .ok (.aload_n 0, 1) := by decide +kernel
theorem dX11_told_122 : decode cX11_told 122 = .ok (.getfield 30, 3) := by decide +kernel
theorem dX11_told_125 : decode cX11_told 125 = .ok (.getfield 232, 3) := by decide +kernel
theorem dX11_told_128 : decode cX11_told 128 = .ok (.invokevirtual 194, 3) := by decide +kernel
theorem dX11_told_131 : decode cX11_told 131 = .ok (.ireturn, 1) := by decide +kernel
theorem dX11_told_132 : decode cX11_told 132 = .ok (.aload_n 0, 1) := by decide +kernel
theorem dX11_told_133 : decode cX11_told 133 = .ok (.aload_n 0, 1) := by decide +kernel
theorem dX11_told_134 : decode cX11_told 134 = .ok (.getfield 30, 3) := by decide +kernel
theorem dX11_told_137 : decode cX11_told 137 = .ok (.getfield 235, 3) := by decide +kernel
theorem dX11_told_140 : decode cX11_told 140 = .ok (.invokevirtual 194, 3) := by decide +kernel
theorem dX11_told_143 : decode cX11_told 143 = .ok (.ireturn, 1) := by decide +kernel
theorem dX11_told_144 : decode cX11_told 144 = .ok (.aload_n 0, 1) := by decide +kernel
theorem dX11_told_145 : decode cX11_told 145 = .ok (.aload_n 0, 1) := by decide +kernel
theorem dX11_told_146 : decode cX11_told 146 = .ok (.getfield 30, 3) := by decide +kernel
theorem dX11_told_149 : decode cX11_told 149 = .ok (.getfield 238, 3) := by decide +kernel
theorem dX11_told_152 : decode cX11_told 152 = .ok (.invokevirtual 194, 3) := by decide +kernel
theorem dX11_told_155 : decode cX11_told 155 = .ok (.ireturn, 1) := by decide +kernel
theorem dX11_told_156 : decode cX11_told 156 = .ok (.aload_n 0, 1) := by decide +kernel
theorem dX11_told_157 : decode cX11_told 157 = .ok (.aload_n 0, 1) := by decide +kernel
theorem dX11_told_158 : decode cX11_told 158 = .ok (.getfield 30, 3) := by decide +kernel
theorem dX11_told_161 : decode cX11_told 161 = .ok (.getfield 241, 3) := by decide +kernel
theorem dX11_told_164 : decode cX11_told 164 = .ok (.invokevirtual 194, 3) := by decide +kernel
theorem dX11_told_167 : decode cX11_told 167 = .ok (.ireturn, 1) := by decide +kernel
theorem dX11_told_168 : decode cX11_told 168 = .ok (.aload_n 0, 1) := by decide +kernel
theorem dX11_told_169 : decode cX11_told 169 = .ok (.aload_n 0, 1) := by decide +kernel
theorem dX11_told_170 : decode cX11_told 170 = .ok (.getfield 30, 3) := by decide +kernel
theorem dX11_told_173 : decode cX11_told 173 = .ok (.invokevirtual 244, 3) := by decide +kernel
theorem dX11_told_176 : decode cX11_told 176 = .ok (.invokevirtual 194, 3) := by decide +kernel
theorem dX11_told_179 : decode cX11_told 179 = .ok (.ireturn, 1) := by decide +kernel
theorem dX11_told_180 : decode cX11_told 180 = .ok (.aload_n 0, 1) := by decide +kernel
theorem dX11_told_181 : decode cX11_told 181 = .ok (.aload_n 0, 1) := by decide +kernel
theorem dX11_told_182 : decode cX11_told 182 = .ok (.getfield 30, 3) := by decide +kernel
theorem dX11_told_185 : decode cX11_told 185 = .ok (.invokevirtual 248, 3) := by decide +kernel
theorem dX11_told_188 : decode cX11_told 188 = .ok (.invokevirtual 194, 3) := by decide +kernel
theorem dX11_told_191 : decode cX11_told 191 = .ok (.ireturn, 1) := by decide +kernel
theorem dX11_told_192 : decode cX11_told 192 = .ok (.aload_n 0, 1) := by decide +kernel
theorem dX11_told_193 : decode cX11_told 193 = .ok (.iconst 1, 1) := by decide +kernel
theorem dX11_told_194 : decode cX11_told 194 = .ok (.invokevirtual 144, 3) := by decide +kernel
theorem dX11_told_197 : decode cX11_told 197 = .ok (.ireturn, 1) := by decide +kernel
theorem dX11_guest_0 : decode cX11_guest 0 = .ok (.aload_n 0, 1) := by decide +kernel
theorem dX11_guest_1 : decode cX11_guest 1 = .ok (.getfield 30, 3) := by decide +kernel
theorem dX11_guest_4 : decode cX11_guest 4 = .ok (.iload_n 1, 1) := by decide +kernel
theorem dX11_guest_5 : decode cX11_guest 5 = .ok (.invokevirtual 251, 3) := by decide +kernel
theorem dX11_guest_8 : decode cX11_guest 8 = .ok (.ifCond .ne 9, 3) := by decide +kernel
theorem dX11_guest_11 : decode cX11_guest 11 = .ok (.aload_n 0, 1) := by decide +kernel
theorem dX11_guest_12 : decode cX11_guest 12 = .ok (.iconst 1, 1) := by decide +kernel
theorem dX11_guest_13 : decode cX11_guest 13 = .ok (.invokevirtual 144, 3) := by decide +kernel
theorem dX11_guest_16 : decode cX11_guest 16 = .ok (.ireturn, 1) := by decide +kernel
theorem dX11_guest_17 : decode cX11_guest 17 = .ok (.iload_n 2, 1) := by decide +kernel
theorem dX11_guest_18 : decode cX11_guest 18 = .ok (.tableswitch 164 0 7 #[46, 60, 74, 88, 102, 116, 137, 151], 46) := by decide +kernel
theorem dX11_guest_64 : decode cX11_guest 64 = .ok (.aload_n 0, 1) := by decide +kernel
theorem dX11_guest_65 : decode cX11_guest 65 = .ok (.aload_n 0, 1) := by decide +kernel
theorem dX11_guest_66 : decode cX11_guest 66 = .ok (.getfield 30, 3) := by decide +kernel
theorem dX11_guest_69 : decode cX11_guest 69 = .ok (.getfield 254, 3) := by decide +kernel
theorem dX11_guest_72 : decode cX11_guest 72 = .ok (.iload_n 1, 1) := by decide +kernel
theorem dX11_guest_73 : decode cX11_guest 73 = .ok (.iaload, 1) := by decide +kernel
theorem dX11_guest_74 : decode cX11_guest 74 = .ok (.invokevirtual 194, 3) := by decide +kernel
theorem dX11_guest_77 : decode cX11_guest 77 = .ok (.ireturn, 1) := by decide +kernel
theorem dX11_guest_78 : decode cX11_guest 78 = .ok (.aload_n 0, 1) := by decide +kernel
theorem dX11_guest_79 : decode cX11_guest 79 = .ok (.aload_n 0, 1) := by decide +kernel
theorem dX11_guest_80 : decode cX11_guest 80 = .ok (.getfield 30, 3) := by decide +kernel
theorem dX11_guest_83 : decode cX11_guest 83 = .ok (.getfield 257, 3) := by decide +kernel
theorem dX11_guest_86 : decode cX11_guest 86 = .ok (.iload_n 1, 1) := by decide +kernel
theorem dX11_guest_87 : decode cX11_guest 87 = .ok (.iaload, 1) := by decide +kernel
theorem dX11_guest_88 : decode cX11_guest 88 = .ok (.invokevirtual 194, 3) := by decide +kernel
theorem dX11_guest_91 : decode cX11_guest 91 = .ok (.ireturn, 1) := by decide +kernel
theorem dX11_guest_92 : decode cX11_guest 92 = .ok (.aload_n 0, 1) := by decide +kernel
theorem dX11_guest_93 : decode cX11_guest 93 = .ok (.aload_n 0, 1) := by decide +kernel
theorem dX11_guest_94 : decode cX11_guest 94 = .ok (.getfield 30, 3) := by decide +kernel
theorem dX11_guest_97 : decode cX11_guest 97 = .ok (.getfield 260, 3) := by decide +kernel
theorem dX11_guest_100 : decode cX11_guest 100 = .ok (.iload_n 1, 1) := by decide +kernel
theorem dX11_guest_101 : decode cX11_guest 101 = .ok (.iaload, 1) := by decide +kernel
theorem dX11_guest_102 : decode cX11_guest 102 = .ok (.invokevirtual 194, 3) := by decide +kernel
theorem dX11_guest_105 : decode cX11_guest 105 = .ok (.ireturn, 1) := by decide +kernel
theorem dX11_guest_106 : decode cX11_guest 106 = .ok (.aload_n 0, 1) := by decide +kernel
theorem dX11_guest_107 : decode cX11_guest 107 = .ok (.aload_n 0, 1) := by decide +kernel
theorem dX11_guest_108 : decode cX11_guest 108 = .ok (.getfield 30, 3) := by decide +kernel
theorem dX11_guest_111 : decode cX11_guest 111 = .ok (.getfield 263, 3) := by decide +kernel
theorem dX11_guest_114 : decode cX11_guest 114 = .ok (.iload_n 1, 1) := by decide +kernel
theorem dX11_guest_115 : decode cX11_guest 115 = .ok (.iaload, 1) := by decide +kernel
theorem dX11_guest_116 : decode cX11_guest 116 = .ok (.invokevirtual 194, 3) := by decide +kernel
theorem dX11_guest_119 : decode cX11_guest 119 = .ok (.ireturn, 1) := by decide +kernel
theorem dX11_guest_120 : decode cX11_guest 120 = .ok (.aload_n 0, 1) := by decide +kernel
theorem dX11_guest_121 : decode cX11_guest 121 = .ok (.aload_n 0, 1) := by decide +kernel
theorem dX11_guest_122 : decode cX11_guest 122 = .ok (.getfield 30, 3) := by decide +kernel
theorem dX11_guest_125 : decode cX11_guest 125 = .ok (.getfield 266, 3) := by decide +kernel
theorem dX11_guest_128 : decode cX11_guest 128 = .ok (.iload_n 1, 1) := by decide +kernel
theorem dX11_guest_129 : decode cX11_guest 129 = .ok (.iaload, 1) := by decide +kernel
theorem dX11_guest_130 : decode cX11_guest 130 = .ok (.invokevirtual 194, 3) := by decide +kernel
theorem dX11_guest_133 : decode cX11_guest 133 = .ok (.ireturn, 1) := by decide +kernel
theorem dX11_guest_134 : decode cX11_guest 134 = .ok (.aload_n 0, 1) := by decide +kernel
theorem dX11_guest_135 : decode cX11_guest 135 = .ok (.aload_n 0, 1) := by decide +kernel
theorem dX11_guest_136 : decode cX11_guest 136 = .ok (.getfield 30, 3) := by decide +kernel
theorem dX11_guest_139 : decode cX11_guest 139 = .ok (.iload_n 1, 1) := by decide +kernel
theorem dX11_guest_140 : decode cX11_guest 140 = .ok (.invokevirtual 269, 3) := by decide +kernel
theorem dX11_guest_143 : decode cX11_guest 143 = .ok (.ifCond .eq 7, 3) := by decide +kernel
theorem dX11_guest_146 : decode cX11_guest 146 = .ok (.iconst 1, 1) := by decide +kernel
theorem dX11_guest_147 : decode cX11_guest 147 = .ok (.goto 4, 3) := by decide +kernel
theorem dX11_guest_150 : decode cX11_guest 150 = .ok (.iconst 0, 1) := by decide +kernel
theorem dX11_guest_151 : decode cX11_guest 151 = .ok (.invokevirtual 194, 3) := by decide +kernel
theorem dX11_guest_154 : decode cX11_guest 154 = .ok (.ireturn, 1) := by decide +kernel
theorem dX11_guest_155 : decode cX11_guest 155 = .ok (.aload_n 0, 1) := by decide +kernel
theorem dX11_guest_156 : decode cX11_guest 156 = .ok (.aload_n 0, 1) := by decide +kernel
theorem dX11_guest_157 : decode cX11_guest 157 = .ok (.getfield 30, 3) := by decide +kernel
theorem dX11_guest_160 : decode cX11_guest 160 = .ok (.getfield 272, 3) := by decide +kernel
theorem dX11_guest_163 : decode cX11_guest 163 = .ok (.iload_n 1, 1) := by decide +kernel
theorem dX11_guest_164 : decode cX11_guest 164 = .ok (.iaload, 1) := by decide +kernel
theorem dX11_guest_165 : decode cX11_guest 165 = .ok (.invokevirtual 275, 3) := by decide +kernel
theorem dX11_guest_168 : decode cX11_guest 168 = .ok (.ireturn, 1) := by decide +kernel
theorem dX11_guest_169 : decode cX11_guest 169 = .ok (.aload_n 0, 1) := by decide +kernel
theorem dX11_guest_170 : decode cX11_guest 170 = .ok (.aload_n 0, 1) := by decide +kernel
theorem dX11_guest_171 : decode cX11_guest 171 = .ok (.getfield 30, 3) := by decide +kernel
theorem dX11_guest_174 : decode cX11_guest 174 = .ok (.iload_n 1, 1) := by decide +kernel
theorem dX11_guest_175 : decode cX11_guest 175 = .ok (.invokevirtual 278, 3) := by decide +kernel
theorem dX11_guest_178 : decode cX11_guest 178 = .ok (.invokevirtual 194, 3) := by decide +kernel
theorem dX11_guest_181 : decode cX11_guest 181 = .ok (.ireturn, 1) := by decide +kernel
theorem dX11_guest_182 : decode cX11_guest 182 = .ok (.aload_n 0, 1) := by decide +kernel
theorem dX11_guest_183 : decode cX11_guest 183 = .ok (.iconst 1, 1) := by decide +kernel
theorem dX11_guest_184 : decode cX11_guest 184 = .ok (.invokevirtual 144, 3) := by decide +kernel
theorem dX11_guest_187 : decode cX11_guest 187 = .ok (.ireturn, 1) := by decide +kernel
theorem dX11_cutter_0 : decode cX11_cutter 0 = .ok (.aload_n 0, 1) := by decide +kernel
theorem dX11_cutter_1 : decode cX11_cutter 1 = .ok (.aload_n 0, 1) := by decide +kernel
theorem dX11_cutter_2 : decode cX11_cutter 2 = .ok (.getfield 30, 3) := by decide +kernel
theorem dX11_cutter_5 : decode cX11_cutter 5 = .ok (.invokevirtual 281, 3) := by decide +kernel
theorem dX11_cutter_8 : decode cX11_cutter 8 = .ok (.invokevirtual 275, 3) := by decide +kernel
theorem dX11_cutter_11 : decode cX11_cutter 11 = .ok (.ireturn, 1) := by decide +kernel
theorem dX11_wanted_0 : decode cX11_wanted 0 = .ok (.aload_n 0, 1) := by decide +kernel
theorem dX11_wanted_1 : decode cX11_wanted 1 = .ok (.aload_n 0, 1) := by decide +kernel
theorem dX11_wanted_2 : decode cX11_wanted 2 = .ok (.getfield 30, 3) := by decide +kernel
theorem dX11_wanted_5 : decode cX11_wanted 5 = .ok (.invokevirtual 284, 3) := by decide +kernel
theorem dX11_wanted_8 : decode cX11_wanted 8 = .ok (.invokevirtual 275, 3) := by decide +kernel
theorem dX11_wanted_11 : decode cX11_wanted 11 = .ok (.ireturn, 1) := by decide +kernel
theorem dX11_day_0 : decode cX11_day 0 = .ok (.iload_n 1, 1) := by decide +kernel
theorem dX11_day_1 : decode cX11_day 1 = .ok (.iconst 1, 1) := by decide +kernel
theorem dX11_day_2 : decode cX11_day 2 = .ok (.sipush 999, 3) := by decide +kernel
theorem dX11_day_5 : decode cX11_day 5 = .ok (.invokestatic 121, 3) := by decide +kernel
theorem dX11_day_8 : decode cX11_day 8 = .ok (.ifCond .ne 9, 3) := by decide +kernel
theorem dX11_day_11 : decode cX11_day 11 = .ok (.aload_n 0, 1) := by decide +kernel
theorem dX11_day_12 : decode cX11_day 12 = .ok (.iconst 1, 1) := by decide +kernel
theorem dX11_day_13 : decode cX11_day 13 = .ok (.invokevirtual 144, 3) := by decide +kernel
theorem dX11_day_16 : decode cX11_day 16 = .ok (.ireturn, 1) := by decide +kernel
theorem dX11_day_17 : decode cX11_day 17 = .ok (.aload_n 0, 1) := by decide +kernel
theorem dX11_day_18 : decode cX11_day 18 = .ok (.getfield 30, 3) := by decide +kernel
theorem dX11_day_21 : decode cX11_day 21 = .ok (.iload_n 1, 1) := by decide +kernel
theorem dX11_day_22 : decode cX11_day 22 = .ok (.invokevirtual 287, 3) := by decide +kernel
theorem dX11_day_25 : decode cX11_day 25 = .ok (.ifCond .ne 10, 3) := by decide +kernel
theorem dX11_day_28 : decode cX11_day 28 = .ok (.aload_n 0, 1) := by decide +kernel
theorem dX11_day_29 : decode cX11_day 29 = .ok (.bipush 7, 2) := by decide +kernel
theorem dX11_day_31 : decode cX11_day 31 = .ok (.invokevirtual 144, 3) := by decide +kernel
theorem dX11_day_34 : decode cX11_day 34 = .ok (.ireturn, 1) := by decide +kernel
theorem dX11_day_35 : decode cX11_day 35 = .ok (.aload_n 0, 1) := by decide +kernel
theorem dX11_day_36 : decode cX11_day 36 = .ok (.getfield 30, 3) := by decide +kernel
theorem dX11_day_39 : decode cX11_day 39 = .ok (.iload_n 1, 1) := by decide +kernel
theorem dX11_day_40 : decode cX11_day 40 = .ok (.invokevirtual 290, 3) := by decide +kernel
theorem dX11_day_43 : decode cX11_day 43 = .ok (.aload_n 0, 1) := by decide +kernel
theorem dX11_day_44 : decode cX11_day 44 = .ok (.aload_n 0, 1) := by decide +kernel
theorem dX11_day_45 : decode cX11_day 45 = .ok (.getfield 30, 3) := by decide +kernel
theorem dX11_day_48 : decode cX11_day 48 = .ok (.invokevirtual 293, 3) := by decide +kernel
theorem dX11_day_51 : decode cX11_day 51 = .ok (.invokevirtual 194, 3) := by decide +kernel
theorem dX11_day_54 : decode cX11_day 54 = .ok (.ireturn, 1) := by decide +kernel
theorem dX11_cut_0 : decode cX11_cut 0 = .ok (.aload_n 0, 1) := by decide +kernel
theorem dX11_cut_1 : decode cX11_cut 1 = .ok (.getfield 30, 3) := by decide +kernel
theorem dX11_cut_4 : decode cX11_cut 4 = .ok (.iload_n 1, 1) := by decide +kernel
theorem dX11_cut_5 : decode cX11_cut 5 = .ok (.invokevirtual 251, 3) := by decide +kernel
theorem dX11_cut_8 : decode cX11_cut 8 = .ok (.ifCond .ne 9, 3) := by decide +kernel
theorem dX11_cut_11 : decode cX11_cut 11 = .ok (.aload_n 0, 1) := by decide +kernel
theorem dX11_cut_12 : decode cX11_cut 12 = .ok (.iconst 1, 1) := by decide +kernel
theorem dX11_cut_13 : decode cX11_cut 13 = .ok (.invokevirtual 144, 3) := by decide +kernel
theorem dX11_cut_16 : decode cX11_cut 16 = .ok (.ireturn, 1) := by decide +kernel
theorem dX11_cut_17 : decode cX11_cut 17 = .ok (.aload_n 0, 1) := by decide +kernel
theorem dX11_cut_18 : decode cX11_cut 18 = .ok (.getfield 30, 3) := by decide +kernel
theorem dX11_cut_21 : decode cX11_cut 21 = .ok (.iload_n 1, 1) := by decide +kernel
theorem dX11_cut_22 : decode cX11_cut 22 = .ok (.invokevirtual 296, 3) := by decide +kernel
theorem dX11_cut_25 : decode cX11_cut 25 = .ok (.ifCond .eq 17, 3) := by decide +kernel
theorem dX11_cut_28 : decode cX11_cut 28 = .ok (.aload_n 0, 1) := by decide +kernel
theorem dX11_cut_29 : decode cX11_cut 29 = .ok (.aload_n 0, 1) := by decide +kernel
theorem dX11_cut_30 : decode cX11_cut 30 = .ok (.getfield 30, 3) := by decide +kernel
theorem dX11_cut_33 : decode cX11_cut 33 = .ok (.getfield 232, 3) := by decide +kernel
theorem dX11_cut_36 : decode cX11_cut 36 = .ok (.invokevirtual 194, 3) := by decide +kernel
theorem dX11_cut_39 : decode cX11_cut 39 = .ok (.goto 9, 3) := by decide +kernel
theorem dX11_cut_42 : decode cX11_cut 42 = .ok (.aload_n 0, 1) := by decide +kernel
theorem dX11_cut_43 : decode cX11_cut 43 = .ok (.bipush 7, 2) := by decide +kernel
theorem dX11_cut_45 : decode cX11_cut 45 = .ok (.invokevirtual 144, 3) := by decide +kernel
theorem dX11_cut_48 : decode cX11_cut 48 = .ok (.ireturn, 1) := by decide +kernel
theorem dX11_butter_0 : decode cX11_butter 0 = .ok (.aload_n 0, 1) := by decide +kernel
theorem dX11_butter_1 : decode cX11_butter 1 = .ok (.iload_n 1, 1) := by decide +kernel
theorem dX11_butter_2 : decode cX11_butter 2 = .ok (.iload_n 2, 1) := by decide +kernel
theorem dX11_butter_3 : decode cX11_butter 3 = .ok (.invokevirtual 299, 3) := by decide +kernel
theorem dX11_butter_6 : decode cX11_butter 6 = .ok (.ifCond .ne 9, 3) := by decide +kernel
theorem dX11_butter_9 : decode cX11_butter 9 = .ok (.aload_n 0, 1) := by decide +kernel
theorem dX11_butter_10 : decode cX11_butter 10 = .ok (.iconst 1, 1) := by decide +kernel
theorem dX11_butter_11 : decode cX11_butter 11 = .ok (.invokevirtual 144, 3) := by decide +kernel
theorem dX11_butter_14 : decode cX11_butter 14 = .ok (.ireturn, 1) := by decide +kernel
theorem dX11_butter_15 : decode cX11_butter 15 = .ok (.aload_n 0, 1) := by decide +kernel
theorem dX11_butter_16 : decode cX11_butter 16 = .ok (.getfield 30, 3) := by decide +kernel
theorem dX11_butter_19 : decode cX11_butter 19 = .ok (.getfield 272, 3) := by decide +kernel
theorem dX11_butter_22 : decode cX11_butter 22 = .ok (.iload_n 1, 1) := by decide +kernel
theorem dX11_butter_23 : decode cX11_butter 23 = .ok (.iaload, 1) := by decide +kernel
theorem dX11_butter_24 : decode cX11_butter 24 = .ok (.istore_n 3, 1) := by decide +kernel
theorem dX11_butter_25 : decode cX11_butter 25 = .ok (.iload_n 3, 1) := by decide +kernel
theorem dX11_butter_26 : decode cX11_butter 26 = .ok (.iload_n 2, 1) := by decide +kernel
theorem dX11_butter_27 : decode cX11_butter 27 = .ok (.if_icmp .ne 10, 3) := by decide +kernel
theorem dX11_butter_30 : decode cX11_butter 30 = .ok (.aload_n 0, 1) := by decide +kernel
theorem dX11_butter_31 : decode cX11_butter 31 = .ok (.bipush 7, 2) := by decide +kernel
theorem dX11_butter_33 : decode cX11_butter 33 = .ok (.invokevirtual 144, 3) := by decide +kernel
theorem dX11_butter_36 : decode cX11_butter 36 = .ok (.ireturn, 1) := by decide +kernel
theorem dX11_butter_37 : decode cX11_butter 37 = .ok (.aload_n 0, 1) := by decide +kernel
theorem dX11_butter_38 : decode cX11_butter 38 = .ok (.getfield 30, 3) := by decide +kernel
theorem dX11_butter_41 : decode cX11_butter 41 = .ok (.getfield 272, 3) := by decide +kernel
theorem dX11_butter_44 : decode cX11_butter 44 = .ok (.iload_n 1, 1) := by decide +kernel
theorem dX11_butter_45 : decode cX11_butter 45 = .ok (.iload_n 2, 1) := by decide +kernel
theorem dX11_butter_46 : decode cX11_butter 46 = .ok (.iastore, 1) := by decide +kernel
theorem dX11_butter_47 : decode cX11_butter 47 = .ok (.aload_n 0, 1) := by decide +kernel
theorem dX11_butter_48 : decode cX11_butter 48 = .ok (.iload_n 3, 1) := by decide +kernel
theorem dX11_butter_49 : decode cX11_butter 49 = .ok (.iconst (-1), 1) := by decide +kernel
theorem dX11_butter_50 : decode cX11_butter 50 = .ok (.if_icmp .ne 13, 3) := by decide +kernel
theorem dX11_butter_53 : decode cX11_butter 53 = .ok (.aload_n 0, 1) := by decide +kernel
theorem dX11_butter_54 : decode cX11_butter 54 = .ok (.getfield 30, 3) := by decide +kernel
theorem dX11_butter_57 : decode cX11_butter 57 = .ok (.getfield 191, 3) := by decide +kernel
theorem dX11_butter_60 : decode cX11_butter 60 = .ok (.goto 4, 3) := by decide +kernel
theorem dX11_butter_63 : decode cX11_butter 63 = .ok (.iload_n 3, 1) := by decide +kernel
theorem dX11_butter_64 : decode cX11_butter 64 = .ok (.invokevirtual 194, 3) := by decide +kernel
theorem dX11_butter_67 : decode cX11_butter 67 = .ok (.ireturn, 1) := by decide +kernel
theorem dX11_soup_0 : decode cX11_soup 0 = .ok (.aload_n 0, 1) := by decide +kernel
theorem dX11_soup_1 : decode cX11_soup 1 = .ok (.getfield 30, 3) := by decide +kernel
theorem dX11_soup_4 : decode cX11_soup 4 = .ok (.iload_n 1, 1) := by decide +kernel
theorem dX11_soup_5 : decode cX11_soup 5 = .ok (.invokevirtual 251, 3) := by decide +kernel
theorem dX11_soup_8 : decode cX11_soup 8 = .ok (.ifCond .ne 9, 3) := by decide +kernel
theorem dX11_soup_11 : decode cX11_soup 11 = .ok (.aload_n 0, 1) := by decide +kernel
theorem dX11_soup_12 : decode cX11_soup 12 = .ok (.iconst 1, 1) := by decide +kernel
theorem dX11_soup_13 : decode cX11_soup 13 = .ok (.invokevirtual 144, 3) := by decide +kernel
theorem dX11_soup_16 : decode cX11_soup 16 = .ok (.ireturn, 1) := by decide +kernel
theorem dX11_soup_17 : decode cX11_soup 17 = .ok (.aload_n 0, 1) := by decide +kernel
theorem dX11_soup_18 : decode cX11_soup 18 = .ok (.getfield 30, 3) := by decide +kernel
theorem dX11_soup_21 : decode cX11_soup 21 = .ok (.iload_n 1, 1) := by decide +kernel
theorem dX11_soup_22 : decode cX11_soup 22 = .ok (.invokevirtual 302, 3) := by decide +kernel
theorem dX11_soup_25 : decode cX11_soup 25 = .ok (.ifCond .ne 10, 3) := by decide +kernel
theorem dX11_soup_28 : decode cX11_soup 28 = .ok (.aload_n 0, 1) := by decide +kernel
theorem dX11_soup_29 : decode cX11_soup 29 = .ok (.bipush 7, 2) := by decide +kernel
theorem dX11_soup_31 : decode cX11_soup 31 = .ok (.invokevirtual 144, 3) := by decide +kernel
theorem dX11_soup_34 : decode cX11_soup 34 = .ok (.ireturn, 1) := by decide +kernel
theorem dX11_soup_35 : decode cX11_soup 35 = .ok (.aload_n 0, 1) := by decide +kernel
theorem dX11_soup_36 : decode cX11_soup 36 = .ok (.getfield 30, 3) := by decide +kernel
theorem dX11_soup_39 : decode cX11_soup 39 = .ok (.getfield 266, 3) := by decide +kernel
theorem dX11_soup_42 : decode cX11_soup 42 = .ok (.iload_n 1, 1) := by decide +kernel
theorem dX11_soup_43 : decode cX11_soup 43 = .ok (.iaload, 1) := by decide +kernel
theorem dX11_soup_44 : decode cX11_soup 44 = .ok (.istore_n 2, 1) := by decide +kernel
theorem dX11_soup_45 : decode cX11_soup 45 = .ok (.aload_n 0, 1) := by decide +kernel
theorem dX11_soup_46 : decode cX11_soup 46 = .ok (.getfield 30, 3) := by decide +kernel
theorem dX11_soup_49 : decode cX11_soup 49 = .ok (.getfield 266, 3) := by decide +kernel
theorem dX11_soup_52 : decode cX11_soup 52 = .ok (.iload_n 1, 1) := by decide +kernel
theorem dX11_soup_53 : decode cX11_soup 53 = .ok (.iconst 0, 1) := by decide +kernel
theorem dX11_soup_54 : decode cX11_soup 54 = .ok (.iastore, 1) := by decide +kernel
theorem dX11_soup_55 : decode cX11_soup 55 = .ok (.aload_n 0, 1) := by decide +kernel
theorem dX11_soup_56 : decode cX11_soup 56 = .ok (.iload_n 2, 1) := by decide +kernel
theorem dX11_soup_57 : decode cX11_soup 57 = .ok (.invokevirtual 194, 3) := by decide +kernel
theorem dX11_soup_60 : decode cX11_soup 60 = .ok (.ireturn, 1) := by decide +kernel
theorem dX11_bake_0 : decode cX11_bake 0 = .ok (.iload_n 1, 1) := by decide +kernel
theorem dX11_bake_1 : decode cX11_bake 1 = .ok (.iconst 1, 1) := by decide +kernel
theorem dX11_bake_2 : decode cX11_bake 2 = .ok (.bipush 60, 2) := by decide +kernel
theorem dX11_bake_4 : decode cX11_bake 4 = .ok (.invokestatic 121, 3) := by decide +kernel
theorem dX11_bake_7 : decode cX11_bake 7 = .ok (.ifCond .ne 9, 3) := by decide +kernel
theorem dX11_bake_10 : decode cX11_bake 10 = .ok (.aload_n 0, 1) := by decide +kernel
theorem dX11_bake_11 : decode cX11_bake 11 = .ok (.iconst 1, 1) := by decide +kernel
theorem dX11_bake_12 : decode cX11_bake 12 = .ok (.invokevirtual 144, 3) := by decide +kernel
theorem dX11_bake_15 : decode cX11_bake 15 = .ok (.ireturn, 1) := by decide +kernel
theorem dX11_bake_16 : decode cX11_bake 16 = .ok (.aload_n 0, 1) := by decide +kernel
theorem dX11_bake_17 : decode cX11_bake 17 = .ok (.getfield 30, 3) := by decide +kernel
theorem dX11_bake_20 : decode cX11_bake 20 = .ok (.getfield 229, 3) := by decide +kernel
theorem dX11_bake_23 : decode cX11_bake 23 = .ok (.istore_n 2, 1) := by decide +kernel
theorem dX11_bake_24 : decode cX11_bake 24 = .ok (.aload_n 0, 1) := by decide +kernel
theorem dX11_bake_25 : decode cX11_bake 25 = .ok (.getfield 30, 3) := by decide +kernel
theorem dX11_bake_28 : decode cX11_bake 28 = .ok (.iload_n 1, 1) := by decide +kernel
theorem dX11_bake_29 : decode cX11_bake 29 = .ok (.putfield 229, 3) := by decide +kernel
theorem dX11_bake_32 : decode cX11_bake 32 = .ok (.aload_n 0, 1) := by decide +kernel
theorem dX11_bake_33 : decode cX11_bake 33 = .ok (.iload_n 2, 1) := by decide +kernel
theorem dX11_bake_34 : decode cX11_bake 34 = .ok (.invokevirtual 194, 3) := by decide +kernel
theorem dX11_bake_37 : decode cX11_bake 37 = .ok (.ireturn, 1) := by decide +kernel
theorem dX11_sway_0 : decode cX11_sway 0 = .ok (.aload_n 0, 1) := by decide +kernel
theorem dX11_sway_1 : decode cX11_sway 1 = .ok (.getfield 30, 3) := by decide +kernel
theorem dX11_sway_4 : decode cX11_sway 4 = .ok (.iload_n 1, 1) := by decide +kernel
theorem dX11_sway_5 : decode cX11_sway 5 = .ok (.invokevirtual 251, 3) := by decide +kernel
theorem dX11_sway_8 : decode cX11_sway 8 = .ok (.ifCond .eq 13, 3) := by decide +kernel
theorem dX11_sway_11 : decode cX11_sway 11 = .ok (.iload_n 2, 1) := by decide +kernel
theorem dX11_sway_12 : decode cX11_sway 12 = .ok (.iconst 0, 1) := by decide +kernel
theorem dX11_sway_13 : decode cX11_sway 13 = .ok (.bipush 20, 2) := by decide +kernel
theorem dX11_sway_15 : decode cX11_sway 15 = .ok (.invokestatic 121, 3) := by decide +kernel
theorem dX11_sway_18 : decode cX11_sway 18 = .ok (.ifCond .ne 9, 3) := by decide +kernel
theorem dX11_sway_21 : decode cX11_sway 21 = .ok (.aload_n 0, 1) := by decide +kernel
theorem dX11_sway_22 : decode cX11_sway 22 = .ok (.iconst 1, 1) := by decide +kernel
theorem dX11_sway_23 : decode cX11_sway 23 = .ok (.invokevirtual 144, 3) := by decide +kernel
theorem dX11_sway_26 : decode cX11_sway 26 = .ok (.ireturn, 1) := by decide +kernel
theorem dX11_sway_27 : decode cX11_sway 27 = .ok (.aload_n 0, 1) := by decide +kernel
theorem dX11_sway_28 : decode cX11_sway 28 = .ok (.getfield 30, 3) := by decide +kernel
theorem dX11_sway_31 : decode cX11_sway 31 = .ok (.iload_n 1, 1) := by decide +kernel
theorem dX11_sway_32 : decode cX11_sway 32 = .ok (.invokevirtual 269, 3) := by decide +kernel
theorem dX11_sway_35 : decode cX11_sway 35 = .ok (.ifCond .ne 10, 3) := by decide +kernel
theorem dX11_sway_38 : decode cX11_sway 38 = .ok (.aload_n 0, 1) := by decide +kernel
theorem dX11_sway_39 : decode cX11_sway 39 = .ok (.bipush 7, 2) := by decide +kernel
theorem dX11_sway_41 : decode cX11_sway 41 = .ok (.invokevirtual 144, 3) := by decide +kernel
theorem dX11_sway_44 : decode cX11_sway 44 = .ok (.ireturn, 1) := by decide +kernel
theorem dX11_sway_45 : decode cX11_sway 45 = .ok (.aload_n 0, 1) := by decide +kernel
theorem dX11_sway_46 : decode cX11_sway 46 = .ok (.getfield 30, 3) := by decide +kernel
theorem dX11_sway_49 : decode cX11_sway 49 = .ok (.getfield 254, 3) := by decide +kernel
theorem dX11_sway_52 : decode cX11_sway 52 = .ok (.iload_n 1, 1) := by decide +kernel
theorem dX11_sway_53 : decode cX11_sway 53 = .ok (.iaload, 1) := by decide +kernel
theorem dX11_sway_54 : decode cX11_sway 54 = .ok (.istore_n 3, 1) := by decide +kernel
theorem dX11_sway_55 : decode cX11_sway 55 = .ok (.aload_n 0, 1) := by decide +kernel
theorem dX11_sway_56 : decode cX11_sway 56 = .ok (.getfield 30, 3) := by decide +kernel
theorem dX11_sway_59 : decode cX11_sway 59 = .ok (.getfield 254, 3) := by decide +kernel
theorem dX11_sway_62 : decode cX11_sway 62 = .ok (.iload_n 1, 1) := by decide +kernel
theorem dX11_sway_63 : decode cX11_sway 63 = .ok (.iload_n 2, 1) := by decide +kernel
theorem dX11_sway_64 : decode cX11_sway 64 = .ok (.iastore, 1) := by decide +kernel
theorem dX11_sway_65 : decode cX11_sway 65 = .ok (.aload_n 0, 1) := by decide +kernel
theorem dX11_sway_66 : decode cX11_sway 66 = .ok (.iload_n 3, 1) := by decide +kernel
theorem dX11_sway_67 : decode cX11_sway 67 = .ok (.invokevirtual 194, 3) := by decide +kernel
theorem dX11_sway_70 : decode cX11_sway 70 = .ok (.ireturn, 1) := by decide +kernel
theorem dX11_sit_0 : decode cX11_sit 0 = .ok (.iload_n 1, 1) := by decide +kernel
theorem dX11_sit_1 : decode cX11_sit 1 = .ok (.iconst 0, 1) := by decide +kernel
theorem dX11_sit_2 : decode cX11_sit 2 = .ok (.bipush 20, 2) := by decide +kernel
theorem dX11_sit_4 : decode cX11_sit 4 = .ok (.invokestatic 121, 3) := by decide +kernel
theorem dX11_sit_7 : decode cX11_sit 7 = .ok (.ifCond .eq 33, 3) := by decide +kernel
theorem dX11_sit_10 : decode cX11_sit 10 = .ok (.iload_n 2, 1) := by decide +kernel
theorem dX11_sit_11 : decode cX11_sit 11 = .ok (.iconst 0, 1) := by decide +kernel
theorem dX11_sit_12 : decode cX11_sit 12 = .ok (.bipush 20, 2) := by decide +kernel
theorem dX11_sit_14 : decode cX11_sit 14 = .ok (.invokestatic 121, 3) := by decide +kernel
theorem dX11_sit_17 : decode cX11_sit 17 = .ok (.ifCond .eq 23, 3) := by decide +kernel
theorem dX11_sit_20 : decode cX11_sit 20 = .ok (.iload_n 3, 1) := by decide +kernel
theorem dX11_sit_21 : decode cX11_sit 21 = .ok (.iconst 0, 1) := by decide +kernel
theorem dX11_sit_22 : decode cX11_sit 22 = .ok (.bipush 20, 2) := by decide +kernel
theorem dX11_sit_24 : decode cX11_sit 24 = .ok (.invokestatic 121, 3) := by decide +kernel
theorem dX11_sit_27 : decode cX11_sit 27 = .ok (.ifCond .eq 13, 3) := by decide +kernel
theorem dX11_sit_30 : decode cX11_sit 30 = .ok (.iload 4, 2) := by decide +kernel
theorem dX11_sit_32 : decode cX11_sit 32 = .ok (.iconst 0, 1) := by decide +kernel
theorem dX11_sit_33 : decode cX11_sit 33 = .ok (.iconst 2, 1) := by decide +kernel
theorem dX11_sit_34 : decode cX11_sit 34 = .ok (.invokestatic 121, 3) := by decide +kernel
theorem dX11_sit_37 : decode cX11_sit 37 = .ok (.ifCond .ne 9, 3) := by decide +kernel
theorem dX11_sit_40 : decode cX11_sit 40 = .ok (.aload_n 0, 1) := by decide +kernel
theorem dX11_sit_41 : decode cX11_sit 41 = .ok (.iconst 1, 1) := by decide +kernel
theorem dX11_sit_42 : decode cX11_sit 42 = .ok (.invokevirtual 144, 3) := by decide +kernel
theorem dX11_sit_45 : decode cX11_sit 45 = .ok (.ireturn, 1) := by decide +kernel
theorem dX11_sit_46 : decode cX11_sit 46 = .ok (.aload_n 0, 1) := by decide +kernel
theorem dX11_sit_47 : decode cX11_sit 47 = .ok (.getfield 30, 3) := by decide +kernel
theorem dX11_sit_50 : decode cX11_sit 50 = .ok (.getfield 191, 3) := by decide +kernel
theorem dX11_sit_53 : decode cX11_sit 53 = .ok (.bipush 7, 2) := by decide +kernel
theorem dX11_sit_55 : decode cX11_sit 55 = .ok (.if_icmp .lt 9, 3) := by decide +kernel
theorem dX11_sit_58 : decode cX11_sit 58 = .ok (.aload_n 0, 1) := by decide +kernel
theorem dX11_sit_59 : decode cX11_sit 59 = .ok (.iconst 4, 1) := by decide +kernel
theorem dX11_sit_60 : decode cX11_sit 60 = .ok (.invokevirtual 144, 3) := by decide +kernel
theorem dX11_sit_63 : decode cX11_sit 63 = .ok (.ireturn, 1) := by decide +kernel
theorem dX11_sit_64 : decode cX11_sit 64 = .ok (.aload_n 0, 1) := by decide +kernel
theorem dX11_sit_65 : decode cX11_sit 65 = .ok (.getfield 30, 3) := by decide +kernel
theorem dX11_sit_68 : decode cX11_sit 68 = .ok (.getfield 191, 3) := by decide +kernel
theorem dX11_sit_71 : decode cX11_sit 71 = .ok (.istore 5, 2) := by decide +kernel
theorem dX11_sit_73 : decode cX11_sit 73 = .ok (.aload_n 0, 1) := by decide +kernel
theorem dX11_sit_74 : decode cX11_sit 74 = .ok (.getfield 30, 3) := by decide +kernel
theorem dX11_sit_77 : decode cX11_sit 77 = .ok (.lconst 0, 1) := by decide +kernel
theorem dX11_sit_78 : decode cX11_sit 78 = .ok (.invokevirtual 305, 3) := by decide +kernel
theorem dX11_sit_81 : decode cX11_sit 81 = .ok (.aload_n 0, 1) := by decide +kernel
theorem dX11_sit_82 : decode cX11_sit 82 = .ok (.getfield 30, 3) := by decide +kernel
theorem dX11_sit_85 : decode cX11_sit 85 = .ok (.getfield 254, 3) := by decide +kernel
theorem dX11_sit_88 : decode cX11_sit 88 = .ok (.iload 5, 2) := by decide +kernel
theorem dX11_sit_90 : decode cX11_sit 90 = .ok (.iload_n 1, 1) := by decide +kernel
theorem dX11_sit_91 : decode cX11_sit 91 = .ok (.iastore, 1) := by decide +kernel
theorem dX11_sit_92 : decode cX11_sit 92 = .ok (.aload_n 0, 1) := by decide +kernel
theorem dX11_sit_93 : decode cX11_sit 93 = .ok (.getfield 30, 3) := by decide +kernel
theorem dX11_sit_96 : decode cX11_sit 96 = .ok (.getfield 257, 3) := by decide +kernel
theorem dX11_sit_99 : decode cX11_sit 99 = .ok (.iload 5, 2) := by decide +kernel
theorem dX11_sit_101 : decode cX11_sit 101 = .ok (.iload_n 2, 1) := by decide +kernel
theorem dX11_sit_102 : decode cX11_sit 102 = .ok (.iastore, 1) := by decide +kernel
theorem dX11_sit_103 : decode cX11_sit 103 = .ok (.aload_n 0, 1) := by decide +kernel
theorem dX11_sit_104 : decode cX11_sit 104 = .ok (.getfield 30, 3) := by decide +kernel
theorem dX11_sit_107 : decode cX11_sit 107 = .ok (.getfield 260, 3) := by decide +kernel
theorem dX11_sit_110 : decode cX11_sit 110 = .ok (.iload 5, 2) := by decide +kernel
theorem dX11_sit_112 : decode cX11_sit 112 = .ok (.iload_n 3, 1) := by decide +kernel
theorem dX11_sit_113 : decode cX11_sit 113 = .ok (.iastore, 1) := by decide +kernel
theorem dX11_sit_114 : decode cX11_sit 114 = .ok (.aload_n 0, 1) := by decide +kernel
theorem dX11_sit_115 : decode cX11_sit 115 = .ok (.getfield 30, 3) := by decide +kernel
theorem dX11_sit_118 : decode cX11_sit 118 = .ok (.getfield 263, 3) := by decide +kernel
theorem dX11_sit_121 : decode cX11_sit 121 = .ok (.iload 5, 2) := by decide +kernel
theorem dX11_sit_123 : decode cX11_sit 123 = .ok (.iload 4, 2) := by decide +kernel
theorem dX11_sit_125 : decode cX11_sit 125 = .ok (.iastore, 1) := by decide +kernel
theorem dX11_sit_126 : decode cX11_sit 126 = .ok (.aload_n 0, 1) := by decide +kernel
theorem dX11_sit_127 : decode cX11_sit 127 = .ok (.iload 5, 2) := by decide +kernel
theorem dX11_sit_129 : decode cX11_sit 129 = .ok (.invokevirtual 194, 3) := by decide +kernel
theorem dX11_sit_132 : decode cX11_sit 132 = .ok (.ireturn, 1) := by decide +kernel
theorem dX11_come_0 : decode cX11_come 0 = .ok (.aload_n 0, 1) := by decide +kernel
theorem dX11_come_1 : decode cX11_come 1 = .ok (.getfield 30, 3) := by decide +kernel
theorem dX11_come_4 : decode cX11_come 4 = .ok (.iload_n 1, 1) := by decide +kernel
theorem dX11_come_5 : decode cX11_come 5 = .ok (.invokevirtual 251, 3) := by decide +kernel
theorem dX11_come_8 : decode cX11_come 8 = .ok (.ifCond .ne 9, 3) := by decide +kernel
theorem dX11_come_11 : decode cX11_come 11 = .ok (.aload_n 0, 1) := by decide +kernel
theorem dX11_come_12 : decode cX11_come 12 = .ok (.iconst 1, 1) := by decide +kernel
theorem dX11_come_13 : decode cX11_come 13 = .ok (.invokevirtual 144, 3) := by decide +kernel
theorem dX11_come_16 : decode cX11_come 16 = .ok (.ireturn, 1) := by decide +kernel
theorem dX11_come_17 : decode cX11_come 17 = .ok (.aload_n 0, 1) := by decide +kernel
theorem dX11_come_18 : decode cX11_come 18 = .ok (.getfield 30, 3) := by decide +kernel
theorem dX11_come_21 : decode cX11_come 21 = .ok (.iload_n 1, 1) := by decide +kernel
theorem dX11_come_22 : decode cX11_come 22 = .ok (.invokevirtual 269, 3) := by decide +kernel
theorem dX11_come_25 : decode cX11_come 25 = .ok (.ifCond .eq 10, 3) := by decide +kernel
theorem dX11_come_28 : decode cX11_come 28 = .ok (.aload_n 0, 1) := by decide +kernel
theorem dX11_come_29 : decode cX11_come 29 = .ok (.bipush 7, 2) := by decide +kernel
theorem dX11_come_31 : decode cX11_come 31 = .ok (.invokevirtual 144, 3) := by decide +kernel
theorem dX11_come_34 : decode cX11_come 34 = .ok (.ireturn, 1) := by decide +kernel
theorem dX11_come_35 : decode cX11_come 35 = .ok (.aload_n 0, 1) := by decide +kernel
theorem dX11_come_36 : decode cX11_come 36 = .ok (.getfield 30, 3) := by decide +kernel
theorem dX11_come_39 : decode cX11_come 39 = .ok (.dup, 1) := by decide +kernel
theorem dX11_come_40 : decode cX11_come 40 = .ok (.getfield 241, 3) := by decide +kernel
theorem dX11_come_43 : decode cX11_come 43 = .ok (.iconst 1, 1) := by decide +kernel
theorem dX11_come_44 : decode cX11_come 44 = .ok (.iload_n 1, 1) := by decide +kernel
theorem dX11_come_45 : decode cX11_come 45 = .ok (.ishl, 1) := by decide +kernel
theorem dX11_come_46 : decode cX11_come 46 = .ok (.ior, 1) := by decide +kernel
theorem dX11_come_47 : decode cX11_come 47 = .ok (.putfield 241, 3) := by decide +kernel
theorem dX11_come_50 : decode cX11_come 50 = .ok (.aload_n 0, 1) := by decide +kernel
theorem dX11_come_51 : decode cX11_come 51 = .ok (.getfield 30, 3) := by decide +kernel
theorem dX11_come_54 : decode cX11_come 54 = .ok (.getfield 254, 3) := by decide +kernel
theorem dX11_come_57 : decode cX11_come 57 = .ok (.iload_n 1, 1) := by decide +kernel
theorem dX11_come_58 : decode cX11_come 58 = .ok (.iconst 0, 1) := by decide +kernel
theorem dX11_come_59 : decode cX11_come 59 = .ok (.iastore, 1) := by decide +kernel
theorem dX11_come_60 : decode cX11_come 60 = .ok (.aload_n 0, 1) := by decide +kernel
theorem dX11_come_61 : decode cX11_come 61 = .ok (.getfield 30, 3) := by decide +kernel
theorem dX11_come_64 : decode cX11_come 64 = .ok (.getfield 266, 3) := by decide +kernel
theorem dX11_come_67 : decode cX11_come 67 = .ok (.iload_n 1, 1) := by decide +kernel
theorem dX11_come_68 : decode cX11_come 68 = .ok (.iconst 0, 1) := by decide +kernel
theorem dX11_come_69 : decode cX11_come 69 = .ok (.iastore, 1) := by decide +kernel
theorem dX11_come_70 : decode cX11_come 70 = .ok (.aload_n 0, 1) := by decide +kernel
theorem dX11_come_71 : decode cX11_come 71 = .ok (.aload_n 0, 1) := by decide +kernel
theorem dX11_come_72 : decode cX11_come 72 = .ok (.getfield 30, 3) := by decide +kernel
theorem dX11_come_75 : decode cX11_come 75 = .ok (.invokevirtual 293, 3) := by decide +kernel
theorem dX11_come_78 : decode cX11_come 78 = .ok (.invokevirtual 194, 3) := by decide +kernel
theorem dX11_come_81 : decode cX11_come 81 = .ok (.ireturn, 1) := by decide +kernel
theorem dX11_rule_0 : decode cX11_rule 0 = .ok (.iload_n 1, 1) := by decide +kernel
theorem dX11_rule_1 : decode cX11_rule 1 = .ok (.iconst 1, 1) := by decide +kernel
theorem dX11_rule_2 : decode cX11_rule 2 = .ok (.if_icmp .ne 24, 3) := by decide +kernel
theorem dX11_rule_5 : decode cX11_rule 5 = .ok (.iload_n 2, 1) := by decide +kernel
theorem dX11_rule_6 : decode cX11_rule 6 = .ok (.iconst 0, 1) := by decide +kernel
theorem dX11_rule_7 : decode cX11_rule 7 = .ok (.bipush 16, 2) := by decide +kernel
theorem dX11_rule_9 : decode cX11_rule 9 = .ok (.invokestatic 121, 3) := by decide +kernel
theorem dX11_rule_12 : decode cX11_rule 12 = .ok (.ifCond .eq 14, 3) := by decide +kernel
theorem dX11_rule_15 : decode cX11_rule 15 = .ok (.aload_n 0, 1) := by decide +kernel
theorem dX11_rule_16 : decode cX11_rule 16 = .ok (.getfield 30, 3) := by decide +kernel
theorem dX11_rule_19 : decode cX11_rule 19 = .ok (.iload_n 2, 1) := by decide +kernel
theorem dX11_rule_20 : decode cX11_rule 20 = .ok (.putfield 220, 3) := by decide +kernel
theorem dX11_rule_23 : decode cX11_rule 23 = .ok (.goto 61, 3) := by decide +kernel
theorem dX11_rule_26 : decode cX11_rule 26 = .ok (.iload_n 1, 1) := by decide +kernel
theorem dX11_rule_27 : decode cX11_rule 27 = .ok (.iconst 2, 1) := by decide +kernel
theorem dX11_rule_28 : decode cX11_rule 28 = .ok (.if_icmp .ne 24, 3) := by decide +kernel
theorem dX11_rule_31 : decode cX11_rule 31 = .ok (.iload_n 2, 1) := by decide +kernel
theorem dX11_rule_32 : decode cX11_rule 32 = .ok (.iconst 1, 1) := by decide +kernel
theorem dX11_rule_33 : decode cX11_rule 33 = .ok (.bipush 20, 2) := by decide +kernel
theorem dX11_rule_35 : decode cX11_rule 35 = .ok (.invokestatic 121, 3) := by decide +kernel
theorem dX11_rule_38 : decode cX11_rule 38 = .ok (.ifCond .eq 14, 3) := by decide +kernel
theorem dX11_rule_41 : decode cX11_rule 41 = .ok (.aload_n 0, 1) := by decide +kernel
theorem dX11_rule_42 : decode cX11_rule 42 = .ok (.getfield 30, 3) := by decide +kernel
theorem dX11_rule_45 : decode cX11_rule 45 = .ok (.iload_n 2, 1) := by decide +kernel
theorem dX11_rule_46 : decode cX11_rule 46 = .ok (.putfield 223, 3) := by decide +kernel
theorem dX11_rule_49 : decode cX11_rule 49 = .ok (.goto 35, 3) := by decide +kernel
theorem dX11_rule_52 : decode cX11_rule 52 = .ok (.iload_n 1, 1) := by decide +kernel
theorem dX11_rule_53 : decode cX11_rule 53 = .ok (.iconst 3, 1) := by decide +kernel
theorem dX11_rule_54 : decode cX11_rule 54 = .ok (.if_icmp .ne 24, 3) := by decide +kernel
theorem dX11_rule_57 : decode cX11_rule 57 = .ok (.iload_n 2, 1) := by decide +kernel
theorem dX11_rule_58 : decode cX11_rule 58 = .ok (.iconst 1, 1) := by decide +kernel
theorem dX11_rule_59 : decode cX11_rule 59 = .ok (.bipush 6, 2) := by decide +kernel
theorem dX11_rule_61 : decode cX11_rule 61 = .ok (.invokestatic 121, 3) := by decide +kernel
theorem dX11_rule_64 : decode cX11_rule 64 = .ok (.ifCond .eq 14, 3) := by decide +kernel
theorem dX11_rule_67 : decode cX11_rule 67 = .ok (.aload_n 0, 1) := by decide +kernel
theorem dX11_rule_68 : decode cX11_rule 68 = .ok (.getfield 30, 3) := by decide +kernel
theorem dX11_rule_71 : decode cX11_rule 71 = .ok (.iload_n 2, 1) := by decide +kernel
theorem dX11_rule_72 : decode cX11_rule 72 = .ok (.putfield 226, 3) := by decide +kernel
theorem dX11_rule_75 : decode cX11_rule 75 = .ok (.goto 9, 3) := by decide +kernel
theorem dX11_rule_78 : decode cX11_rule 78 = .ok (.aload_n 0, 1) := by decide +kernel
theorem dX11_rule_79 : decode cX11_rule 79 = .ok (.iconst 1, 1) := by decide +kernel
theorem dX11_rule_80 : decode cX11_rule 80 = .ok (.invokevirtual 125, 3) := by decide +kernel
theorem dX11_rule_83 : decode cX11_rule 83 = .ok (.ireturn, 1) := by decide +kernel
theorem dX11_rule_84 : decode cX11_rule 84 = .ok (.aload_n 0, 1) := by decide +kernel
theorem dX11_rule_85 : decode cX11_rule 85 = .ok (.invokevirtual 132, 3) := by decide +kernel
theorem dX11_rule_88 : decode cX11_rule 88 = .ok (.ireturn, 1) := by decide +kernel
theorem dX11_thereIn_0 : decode cX11_thereIn 0 = .ok (.iload_n 1, 1) := by decide +kernel
theorem dX11_thereIn_1 : decode cX11_thereIn 1 = .ok (.iconst 0, 1) := by decide +kernel
theorem dX11_thereIn_2 : decode cX11_thereIn 2 = .ok (.bipush 99, 2) := by decide +kernel
theorem dX11_thereIn_4 : decode cX11_thereIn 4 = .ok (.invokestatic 121, 3) := by decide +kernel
theorem dX11_thereIn_7 : decode cX11_thereIn 7 = .ok (.ifCond .ne 9, 3) := by decide +kernel
theorem dX11_thereIn_10 : decode cX11_thereIn 10 = .ok (.aload_n 0, 1) := by decide +kernel
theorem dX11_thereIn_11 : decode cX11_thereIn 11 = .ok (.iconst 1, 1) := by decide +kernel
theorem dX11_thereIn_12 : decode cX11_thereIn 12 = .ok (.invokevirtual 144, 3) := by decide +kernel
theorem dX11_thereIn_15 : decode cX11_thereIn 15 = .ok (.ireturn, 1) := by decide +kernel
theorem dX11_thereIn_16 : decode cX11_thereIn 16 = .ok (.aload_n 0, 1) := by decide +kernel
theorem dX11_thereIn_17 : decode cX11_thereIn 17 = .ok (.aload_n 0, 1) := by decide +kernel
theorem dX11_thereIn_18 : decode cX11_thereIn 18 = .ok (.getfield 64, 3) := by decide +kernel
theorem dX11_thereIn_21 : decode cX11_thereIn 21 = .ok (.iload_n 1, 1) := by decide +kernel
theorem dX11_thereIn_22 : decode cX11_thereIn 22 = .ok (.invokevirtual 309, 3) := by decide +kernel
theorem dX11_thereIn_25 : decode cX11_thereIn 25 = .ok (.getfield 241, 3) := by decide +kernel
theorem dX11_thereIn_28 : decode cX11_thereIn 28 = .ok (.invokevirtual 194, 3) := by decide +kernel
theorem dX11_thereIn_31 : decode cX11_thereIn 31 = .ok (.ireturn, 1) := by decide +kernel
theorem dX11_slicesIn_0 : decode cX11_slicesIn 0 = .ok (.iload_n 1, 1) := by decide +kernel
theorem dX11_slicesIn_1 : decode cX11_slicesIn 1 = .ok (.iconst 0, 1) := by decide +kernel
theorem dX11_slicesIn_2 : decode cX11_slicesIn 2 = .ok (.bipush 99, 2) := by decide +kernel
theorem dX11_slicesIn_4 : decode cX11_slicesIn 4 = .ok (.invokestatic 121, 3) := by decide +kernel
theorem dX11_slicesIn_7 : decode cX11_slicesIn 7 = .ok (.ifCond .ne 9, 3) := by decide +kernel
theorem dX11_slicesIn_10 : decode cX11_slicesIn 10 = .ok (.aload_n 0, 1) := by decide +kernel
theorem dX11_slicesIn_11 : decode cX11_slicesIn 11 = .ok (.iconst 1, 1) := by decide +kernel
theorem dX11_slicesIn_12 : decode cX11_slicesIn 12 = .ok (.invokevirtual 144, 3) := by decide +kernel
theorem dX11_slicesIn_15 : decode cX11_slicesIn 15 = .ok (.ireturn, 1) := by decide +kernel
theorem dX11_slicesIn_16 : decode cX11_slicesIn 16 = .ok (.aload_n 0, 1) := by decide +kernel
theorem dX11_slicesIn_17 : decode cX11_slicesIn 17 = .ok (.aload_n 0, 1) := by decide +kernel
theorem dX11_slicesIn_18 : decode cX11_slicesIn 18 = .ok (.getfield 64, 3) := by decide +kernel
theorem dX11_slicesIn_21 : decode cX11_slicesIn 21 = .ok (.iload_n 1, 1) := by decide +kernel
theorem dX11_slicesIn_22 : decode cX11_slicesIn 22 = .ok (.invokevirtual 309, 3) := by decide +kernel
theorem dX11_slicesIn_25 : decode cX11_slicesIn 25 = .ok (.getfield 232, 3) := by decide +kernel
theorem dX11_slicesIn_28 : decode cX11_slicesIn 28 = .ok (.invokevirtual 194, 3) := by decide +kernel
theorem dX11_slicesIn_31 : decode cX11_slicesIn 31 = .ok (.ireturn, 1) := by decide +kernel
theorem dX11_guestIn_0 : decode cX11_guestIn 0 = .ok (.aload_n 0, 1) := by decide +kernel
theorem dX11_guestIn_1 : decode cX11_guestIn 1 = .ok (.getfield 30, 3) := by decide +kernel
theorem dX11_guestIn_4 : decode cX11_guestIn 4 = .ok (.iload_n 1, 1) := by decide +kernel
theorem dX11_guestIn_5 : decode cX11_guestIn 5 = .ok (.invokevirtual 251, 3) := by decide +kernel
theorem dX11_guestIn_8 : decode cX11_guestIn 8 = .ok (.ifCond .eq 22, 3) := by decide +kernel
theorem dX11_guestIn_11 : decode cX11_guestIn 11 = .ok (.iload_n 2, 1) := by decide +kernel
theorem dX11_guestIn_12 : decode cX11_guestIn 12 = .ok (.iconst 0, 1) := by decide +kernel
theorem dX11_guestIn_13 : decode cX11_guestIn 13 = .ok (.bipush 99, 2) := by decide +kernel
theorem dX11_guestIn_15 : decode cX11_guestIn 15 = .ok (.invokestatic 121, 3) := by decide +kernel
theorem dX11_guestIn_18 : decode cX11_guestIn 18 = .ok (.ifCond .eq 12, 3) := by decide +kernel
theorem dX11_guestIn_21 : decode cX11_guestIn 21 = .ok (.iload_n 3, 1) := by decide +kernel
theorem dX11_guestIn_22 : decode cX11_guestIn 22 = .ok (.iconst 0, 1) := by decide +kernel
theorem dX11_guestIn_23 : decode cX11_guestIn 23 = .ok (.iconst 1, 1) := by decide +kernel
theorem dX11_guestIn_24 : decode cX11_guestIn 24 = .ok (.invokestatic 121, 3) := by decide +kernel
theorem dX11_guestIn_27 : decode cX11_guestIn 27 = .ok (.ifCond .ne 9, 3) := by decide +kernel
theorem dX11_guestIn_30 : decode cX11_guestIn 30 = .ok (.aload_n 0, 1) := by decide +kernel
theorem dX11_guestIn_31 : decode cX11_guestIn 31 = .ok (.iconst 1, 1) := by decide +kernel
theorem dX11_guestIn_32 : decode cX11_guestIn 32 = .ok (.invokevirtual 144, 3) := by decide +kernel
theorem dX11_guestIn_35 : decode cX11_guestIn 35 = .ok (.ireturn, 1) := by decide +kernel
theorem dX11_guestIn_36 : decode cX11_guestIn 36 = .ok (.aload_n 0, 1) := by decide +kernel
theorem dX11_guestIn_37 : decode cX11_guestIn 37 = .ok (.getfield 64, 3) := by decide +kernel
theorem dX11_guestIn_40 : decode cX11_guestIn 40 = .ok (.iload_n 2, 1) := by decide +kernel
theorem dX11_guestIn_41 : decode cX11_guestIn 41 = .ok (.invokevirtual 309, 3) := by decide +kernel
theorem dX11_guestIn_44 : decode cX11_guestIn 44 = .ok (.astore 4, 2) := by decide +kernel
theorem dX11_guestIn_46 : decode cX11_guestIn 46 = .ok (.aload_n 0, 1) := by decide +kernel
theorem dX11_guestIn_47 : decode cX11_guestIn 47 = .ok (.iload_n 3, 1) := by decide +kernel
theorem dX11_guestIn_48 : decode cX11_guestIn 48 = .ok (.ifCond .ne 13, 3) := by decide +kernel
theorem dX11_guestIn_51 : decode cX11_guestIn 51 = .ok (.aload 4, 2) := by decide +kernel
theorem dX11_guestIn_53 : decode cX11_guestIn 53 = .ok (.getfield 254, 3) := by decide +kernel
theorem dX11_guestIn_56 : decode cX11_guestIn 56 = .ok (.iload_n 1, 1) := by decide +kernel
theorem dX11_guestIn_57 : decode cX11_guestIn 57 = .ok (.iaload, 1) := by decide +kernel
theorem dX11_guestIn_58 : decode cX11_guestIn 58 = .ok (.goto 10, 3) := by decide +kernel
theorem dX11_guestIn_61 : decode cX11_guestIn 61 = .ok (.aload 4, 2) := by decide +kernel
theorem dX11_guestIn_63 : decode cX11_guestIn 63 = .ok (.getfield 266, 3) := by decide +kernel
theorem dX11_guestIn_66 : decode cX11_guestIn 66 = .ok (.iload_n 1, 1) := by decide +kernel
theorem dX11_guestIn_67 : decode cX11_guestIn 67 = .ok (.iaload, 1) := by decide +kernel
theorem dX11_guestIn_68 : decode cX11_guestIn 68 = .ok (.invokevirtual 194, 3) := by decide +kernel
theorem dX11_guestIn_71 : decode cX11_guestIn 71 = .ok (.ireturn, 1) := by decide +kernel
theorem dX11_next_0 : decode cX11_next 0 = .ok (.aload_n 0, 1) := by decide +kernel
theorem dX11_next_1 : decode cX11_next 1 = .ok (.getfield 64, 3) := by decide +kernel
theorem dX11_next_4 : decode cX11_next 4 = .ok (.invokevirtual 313, 3) := by decide +kernel
theorem dX11_next_7 : decode cX11_next 7 = .ok (.aload_n 0, 1) := by decide +kernel
theorem dX11_next_8 : decode cX11_next 8 = .ok (.aload_n 0, 1) := by decide +kernel
theorem dX11_next_9 : decode cX11_next 9 = .ok (.getfield 64, 3) := by decide +kernel
theorem dX11_next_12 : decode cX11_next 12 = .ok (.getfield 316, 3) := by decide +kernel
theorem dX11_next_15 : decode cX11_next 15 = .ok (.invokevirtual 275, 3) := by decide +kernel
theorem dX11_next_18 : decode cX11_next 18 = .ok (.ireturn, 1) := by decide +kernel
theorem dX11_nextBy_0 : decode cX11_nextBy 0 = .ok (.aload_n 0, 1) := by decide +kernel
theorem dX11_nextBy_1 : decode cX11_nextBy 1 = .ok (.getfield 64, 3) := by decide +kernel
theorem dX11_nextBy_4 : decode cX11_nextBy 4 = .ok (.invokevirtual 313, 3) := by decide +kernel
theorem dX11_nextBy_7 : decode cX11_nextBy 7 = .ok (.aload_n 0, 1) := by decide +kernel
theorem dX11_nextBy_8 : decode cX11_nextBy 8 = .ok (.aload_n 0, 1) := by decide +kernel
theorem dX11_nextBy_9 : decode cX11_nextBy 9 = .ok (.getfield 64, 3) := by decide +kernel
theorem dX11_nextBy_12 : decode cX11_nextBy 12 = .ok (.getfield 319, 3) := by decide +kernel
theorem dX11_nextBy_15 : decode cX11_nextBy 15 = .ok (.invokevirtual 275, 3) := by decide +kernel
theorem dX11_nextBy_18 : decode cX11_nextBy 18 = .ok (.ireturn, 1) := by decide +kernel
theorem dX11_hangs_0 : decode cX11_hangs 0 = .ok (.aload_n 0, 1) := by decide +kernel
theorem dX11_hangs_1 : decode cX11_hangs 1 = .ok (.aload_n 0, 1) := by decide +kernel
theorem dX11_hangs_2 : decode cX11_hangs 2 = .ok (.getfield 64, 3) := by decide +kernel
theorem dX11_hangs_5 : decode cX11_hangs 5 = .ok (.invokevirtual 322, 3) := by decide +kernel
theorem dX11_hangs_8 : decode cX11_hangs 8 = .ok (.invokevirtual 194, 3) := by decide +kernel
theorem dX11_hangs_11 : decode cX11_hangs 11 = .ok (.ireturn, 1) := by decide +kernel
theorem dX11_starving_0 : decode cX11_starving 0 = .ok (.aload_n 0, 1) := by decide +kernel
theorem dX11_starving_1 : decode cX11_starving 1 = .ok (.aload_n 0, 1) := by decide +kernel
theorem dX11_starving_2 : decode cX11_starving 2 = .ok (.getfield 64, 3) := by decide +kernel
theorem dX11_starving_5 : decode cX11_starving 5 = .ok (.invokevirtual 325, 3) := by decide +kernel
theorem dX11_starving_8 : decode cX11_starving 8 = .ok (.invokevirtual 275, 3) := by decide +kernel
theorem dX11_starving_11 : decode cX11_starving 11 = .ok (.ireturn, 1) := by decide +kernel
theorem dX11_least_0 : decode cX11_least 0 = .ok (.iload_n 1, 1) := by decide +kernel
theorem dX11_least_1 : decode cX11_least 1 = .ok (.iconst 1, 1) := by decide +kernel
theorem dX11_least_2 : decode cX11_least 2 = .ok (.bipush 20, 2) := by decide +kernel
theorem dX11_least_4 : decode cX11_least 4 = .ok (.invokestatic 121, 3) := by decide +kernel
theorem dX11_least_7 : decode cX11_least 7 = .ok (.ifCond .ne 9, 3) := by decide +kernel
theorem dX11_least_10 : decode cX11_least 10 = .ok (.aload_n 0, 1) := by decide +kernel
theorem dX11_least_11 : decode cX11_least 11 = .ok (.iconst 1, 1) := by decide +kernel
theorem dX11_least_12 : decode cX11_least 12 = .ok (.invokevirtual 144, 3) := by decide +kernel
theorem dX11_least_15 : decode cX11_least 15 = .ok (.ireturn, 1) := by decide +kernel
theorem dX11_least_16 : decode cX11_least 16 = .ok (.aload_n 0, 1) := by decide +kernel
theorem dX11_least_17 : decode cX11_least 17 = .ok (.aload_n 0, 1) := by decide +kernel
theorem dX11_least_18 : decode cX11_least 18 = .ok (.getfield 64, 3) := by decide +kernel
theorem dX11_least_21 : decode cX11_least 21 = .ok (.iload_n 1, 1) := by decide +kernel
theorem dX11_least_22 : decode cX11_least 22 = .ok (.invokevirtual 328, 3) := by decide +kernel
theorem dX11_least_25 : decode cX11_least 25 = .ok (.invokevirtual 275, 3) := by decide +kernel
theorem dX11_least_28 : decode cX11_least 28 = .ok (.ireturn, 1) := by decide +kernel
theorem dX11_plan_0 : decode cX11_plan 0 = .ok (.iload_n 1, 1) := by decide +kernel
theorem dX11_plan_1 : decode cX11_plan 1 = .ok (.iconst 1, 1) := by decide +kernel
theorem dX11_plan_2 : decode cX11_plan 2 = .ok (.iconst 5, 1) := by decide +kernel
theorem dX11_plan_3 : decode cX11_plan 3 = .ok (.invokestatic 121, 3) := by decide +kernel
theorem dX11_plan_6 : decode cX11_plan 6 = .ok (.ifCond .ne 9, 3) := by decide +kernel
theorem dX11_plan_9 : decode cX11_plan 9 = .ok (.aload_n 0, 1) := by decide +kernel
theorem dX11_plan_10 : decode cX11_plan 10 = .ok (.iconst 1, 1) := by decide +kernel
theorem dX11_plan_11 : decode cX11_plan 11 = .ok (.invokevirtual 144, 3) := by decide +kernel
theorem dX11_plan_14 : decode cX11_plan 14 = .ok (.ireturn, 1) := by decide +kernel
theorem dX11_plan_15 : decode cX11_plan 15 = .ok (.aload_n 0, 1) := by decide +kernel
theorem dX11_plan_16 : decode cX11_plan 16 = .ok (.aload_n 0, 1) := by decide +kernel
theorem dX11_plan_17 : decode cX11_plan 17 = .ok (.getfield 71, 3) := by decide +kernel
theorem dX11_plan_20 : decode cX11_plan 20 = .ok (.iload_n 1, 1) := by decide +kernel
theorem dX11_plan_21 : decode cX11_plan 21 = .ok (.invokevirtual 331, 3) := by decide +kernel
theorem dX11_plan_24 : decode cX11_plan 24 = .ok (.invokevirtual 275, 3) := by decide +kernel
theorem dX11_plan_27 : decode cX11_plan 27 = .ok (.ireturn, 1) := by decide +kernel
theorem dX11_planAt_0 : decode cX11_planAt 0 = .ok (.iload_n 1, 1) := by decide +kernel
theorem dX11_planAt_1 : decode cX11_planAt 1 = .ok (.iconst 1, 1) := by decide +kernel
theorem dX11_planAt_2 : decode cX11_planAt 2 = .ok (.iconst 5, 1) := by decide +kernel
theorem dX11_planAt_3 : decode cX11_planAt 3 = .ok (.invokestatic 121, 3) := by decide +kernel
theorem dX11_planAt_6 : decode cX11_planAt 6 = .ok (.ifCond .eq 14, 3) := by decide +kernel
theorem dX11_planAt_9 : decode cX11_planAt 9 = .ok (.iload_n 2, 1) := by decide +kernel
theorem dX11_planAt_10 : decode cX11_planAt 10 = .ok (.iconst 0, 1) := by decide +kernel
theorem dX11_planAt_11 : decode cX11_planAt 11 = .ok (.iload_n 1, 1) := by decide +kernel
theorem dX11_planAt_12 : decode cX11_planAt 12 = .ok (.iconst 1, 1) := by decide +kernel
theorem dX11_planAt_13 : decode cX11_planAt 13 = .ok (.isub, 1) := by decide +kernel
theorem dX11_planAt_14 : decode cX11_planAt 14 = .ok (.invokestatic 121, 3) := by decide +kernel
theorem dX11_planAt_17 : decode cX11_planAt 17 = .ok (.ifCond .ne 9, 3) := by decide +kernel
theorem dX11_planAt_20 : decode cX11_planAt 20 = .ok (.aload_n 0, 1) := by decide +kernel
theorem dX11_planAt_21 : decode cX11_planAt 21 = .ok (.iconst 1, 1) := by decide +kernel
theorem dX11_planAt_22 : decode cX11_planAt 22 = .ok (.invokevirtual 144, 3) := by decide +kernel
theorem dX11_planAt_25 : decode cX11_planAt 25 = .ok (.ireturn, 1) := by decide +kernel
theorem dX11_planAt_26 : decode cX11_planAt 26 = .ok (.aload_n 0, 1) := by decide +kernel
theorem dX11_planAt_27 : decode cX11_planAt 27 = .ok (.getfield 71, 3) := by decide +kernel
theorem dX11_planAt_30 : decode cX11_planAt 30 = .ok (.iload_n 1, 1) := by decide +kernel
theorem dX11_planAt_31 : decode cX11_planAt 31 = .ok (.invokevirtual 331, 3) := by decide +kernel
theorem dX11_planAt_34 : decode cX11_planAt 34 = .ok (.iconst (-1), 1) := by decide +kernel
theorem dX11_planAt_35 : decode cX11_planAt 35 = .ok (.if_icmp .ne 10, 3) := by decide +kernel
theorem dX11_planAt_38 : decode cX11_planAt 38 = .ok (.aload_n 0, 1) := by decide +kernel
theorem dX11_planAt_39 : decode cX11_planAt 39 = .ok (.bipush 6, 2) := by decide +kernel
theorem dX11_planAt_41 : decode cX11_planAt 41 = .ok (.invokevirtual 144, 3) := by decide +kernel
theorem dX11_planAt_44 : decode cX11_planAt 44 = .ok (.ireturn, 1) := by decide +kernel
theorem dX11_planAt_45 : decode cX11_planAt 45 = .ok (.aload_n 0, 1) := by decide +kernel
theorem dX11_planAt_46 : decode cX11_planAt 46 = .ok (.getfield 71, 3) := by decide +kernel
theorem dX11_planAt_49 : decode cX11_planAt 49 = .ok (.getfield 334, 3) := by decide +kernel
theorem dX11_planAt_52 : decode cX11_planAt 52 = .ok (.iload_n 2, 1) := by decide +kernel
theorem dX11_planAt_53 : decode cX11_planAt 53 = .ok (.iaload, 1) := by decide +kernel
theorem dX11_planAt_54 : decode cX11_planAt 54 = .ok (.istore_n 3, 1) := by decide +kernel
theorem dX11_planAt_55 : decode cX11_planAt 55 = .ok (.aload_n 0, 1) := by decide +kernel
theorem dX11_planAt_56 : decode cX11_planAt 56 = .ok (.iload_n 3, 1) := by decide +kernel
theorem dX11_planAt_57 : decode cX11_planAt 57 = .ok (.iconst (-1), 1) := by decide +kernel
theorem dX11_planAt_58 : decode cX11_planAt 58 = .ok (.if_icmp .ne 13, 3) := by decide +kernel
theorem dX11_planAt_61 : decode cX11_planAt 61 = .ok (.aload_n 0, 1) := by decide +kernel
theorem dX11_planAt_62 : decode cX11_planAt 62 = .ok (.getfield 30, 3) := by decide +kernel
theorem dX11_planAt_65 : decode cX11_planAt 65 = .ok (.getfield 191, 3) := by decide +kernel
theorem dX11_planAt_68 : decode cX11_planAt 68 = .ok (.goto 4, 3) := by decide +kernel
theorem dX11_planAt_71 : decode cX11_planAt 71 = .ok (.iload_n 3, 1) := by decide +kernel
theorem dX11_planAt_72 : decode cX11_planAt 72 = .ok (.invokevirtual 194, 3) := by decide +kernel
theorem dX11_planAt_75 : decode cX11_planAt 75 = .ok (.ireturn, 1) := by decide +kernel
theorem dX11_seen_0 : decode cX11_seen 0 = .ok (.aload_n 0, 1) := by decide +kernel
theorem dX11_seen_1 : decode cX11_seen 1 = .ok (.iload_n 1, 1) := by decide +kernel
theorem dX11_seen_2 : decode cX11_seen 2 = .ok (.iload_n 2, 1) := by decide +kernel
theorem dX11_seen_3 : decode cX11_seen 3 = .ok (.iload_n 3, 1) := by decide +kernel
theorem dX11_seen_4 : decode cX11_seen 4 = .ok (.invokevirtual 337, 3) := by decide +kernel
theorem dX11_seen_7 : decode cX11_seen 7 = .ok (.istore 4, 2) := by decide +kernel
theorem dX11_seen_9 : decode cX11_seen 9 = .ok (.iload 4, 2) := by decide +kernel
theorem dX11_seen_11 : decode cX11_seen 11 = .ok (.ifCond .eq 10, 3) := by decide +kernel
theorem dX11_seen_14 : decode cX11_seen 14 = .ok (.aload_n 0, 1) := by decide +kernel
theorem dX11_seen_15 : decode cX11_seen 15 = .ok (.iload 4, 2) := by decide +kernel
theorem dX11_seen_17 : decode cX11_seen 17 = .ok (.invokevirtual 144, 3) := by decide +kernel
theorem dX11_seen_20 : decode cX11_seen 20 = .ok (.ireturn, 1) := by decide +kernel
theorem dX11_seen_21 : decode cX11_seen 21 = .ok (.aload_n 0, 1) := by decide +kernel
theorem dX11_seen_22 : decode cX11_seen 22 = .ok (.getfield 78, 3) := by decide +kernel
theorem dX11_seen_25 : decode cX11_seen 25 = .ok (.iload_n 1, 1) := by decide +kernel
theorem dX11_seen_26 : decode cX11_seen 26 = .ok (.aload_n 0, 1) := by decide +kernel
theorem dX11_seen_27 : decode cX11_seen 27 = .ok (.getfield 15, 3) := by decide +kernel
theorem dX11_seen_30 : decode cX11_seen 30 = .ok (.iload_n 2, 1) := by decide +kernel
theorem dX11_seen_31 : decode cX11_seen 31 = .ok (.aaload, 1) := by decide +kernel
theorem dX11_seen_32 : decode cX11_seen 32 = .ok (.iload_n 3, 1) := by decide +kernel
theorem dX11_seen_33 : decode cX11_seen 33 = .ok (.invokevirtual 340, 3) := by decide +kernel
theorem dX11_seen_36 : decode cX11_seen 36 = .ok (.aload_n 0, 1) := by decide +kernel
theorem dX11_seen_37 : decode cX11_seen 37 = .ok (.aload_n 0, 1) := by decide +kernel
theorem dX11_seen_38 : decode cX11_seen 38 = .ok (.getfield 78, 3) := by decide +kernel
theorem dX11_seen_41 : decode cX11_seen 41 = .ok (.getfield 344, 3) := by decide +kernel
theorem dX11_seen_44 : decode cX11_seen 44 = .ok (.invokevirtual 194, 3) := by decide +kernel
theorem dX11_seen_47 : decode cX11_seen 47 = .ok (.ireturn, 1) := by decide +kernel
theorem dX11_seenAs_0 : decode cX11_seenAs 0 = .ok (.iload 4, 2) := by decide +kernel
theorem dX11_seenAs_2 : decode cX11_seenAs 2 = .ok (.iconst 0, 1) := by decide +kernel
theorem dX11_seenAs_3 : decode cX11_seenAs 3 = .ok (.iconst 1, 1) := by decide +kernel
theorem dX11_seenAs_4 : decode cX11_seenAs 4 = .ok (.invokestatic 121, 3) := by decide +kernel
theorem dX11_seenAs_7 : decode cX11_seenAs 7 = .ok (.ifCond .eq 13, 3) := by decide +kernel
theorem dX11_seenAs_10 : decode cX11_seenAs 10 = .ok (.aload_n 0, 1) := by decide +kernel
theorem dX11_seenAs_11 : decode cX11_seenAs 11 = .ok (.iload_n 1, 1) := by decide +kernel
theorem dX11_seenAs_12 : decode cX11_seenAs 12 = .ok (.iload_n 2, 1) := by decide +kernel
theorem dX11_seenAs_13 : decode cX11_seenAs 13 = .ok (.iload_n 3, 1) := by decide +kernel
theorem dX11_seenAs_14 : decode cX11_seenAs 14 = .ok (.invokevirtual 337, 3) := by decide +kernel
theorem dX11_seenAs_17 : decode cX11_seenAs 17 = .ok (.goto 4, 3) := by decide +kernel
theorem dX11_seenAs_20 : decode cX11_seenAs 20 = .ok (.iconst 1, 1) := by decide +kernel
theorem dX11_seenAs_21 : decode cX11_seenAs 21 = .ok (.istore 5, 2) := by decide +kernel
theorem dX11_seenAs_23 : decode cX11_seenAs 23 = .ok (.iload 5, 2) := by decide +kernel
theorem dX11_seenAs_25 : decode cX11_seenAs 25 = .ok (.ifCond .eq 10, 3) := by decide +kernel
theorem dX11_seenAs_28 : decode cX11_seenAs 28 = .ok (.aload_n 0, 1) := by decide +kernel
theorem dX11_seenAs_29 : decode cX11_seenAs 29 = .ok (.iload 5, 2) := by decide +kernel
theorem dX11_seenAs_31 : decode cX11_seenAs 31 = .ok (.invokevirtual 144, 3) := by decide +kernel
theorem dX11_seenAs_34 : decode cX11_seenAs 34 = .ok (.ireturn, 1) := by decide +kernel
theorem dX11_seenAs_35 : decode cX11_seenAs 35 = .ok (.aload_n 0, 1) := by decide +kernel
theorem dX11_seenAs_36 : decode cX11_seenAs 36 = .ok (.getfield 78, 3) := by decide +kernel
theorem dX11_seenAs_39 : decode cX11_seenAs 39 = .ok (.iload_n 1, 1) := by decide +kernel
theorem dX11_seenAs_40 : decode cX11_seenAs 40 = .ok (.aload_n 0, 1) := by decide +kernel
theorem dX11_seenAs_41 : decode cX11_seenAs 41 = .ok (.getfield 15, 3) := by decide +kernel
theorem dX11_seenAs_44 : decode cX11_seenAs 44 = .ok (.iload_n 2, 1) := by decide +kernel
theorem dX11_seenAs_45 : decode cX11_seenAs 45 = .ok (.aaload, 1) := by decide +kernel
theorem dX11_seenAs_46 : decode cX11_seenAs 46 = .ok (.iload_n 3, 1) := by decide +kernel
theorem dX11_seenAs_47 : decode cX11_seenAs 47 = .ok (.invokevirtual 340, 3) := by decide +kernel
theorem dX11_seenAs_50 : decode cX11_seenAs 50 = .ok (.aload_n 0, 1) := by decide +kernel
theorem dX11_seenAs_51 : decode cX11_seenAs 51 = .ok (.getfield 78, 3) := by decide +kernel
theorem dX11_seenAs_54 : decode cX11_seenAs 54 = .ok (.getfield 344, 3) := by decide +kernel
theorem dX11_seenAs_57 : decode cX11_seenAs 57 = .ok (.ifCond .ne 10, 3) := by decide +kernel
theorem dX11_seenAs_60 : decode cX11_seenAs 60 = .ok (.aload_n 0, 1) := by decide +kernel
theorem dX11_seenAs_61 : decode cX11_seenAs 61 = .ok (.bipush 6, 2) := by decide +kernel
theorem dX11_seenAs_63 : decode cX11_seenAs 63 = .ok (.invokevirtual 144, 3) := by decide +kernel
theorem dX11_seenAs_66 : decode cX11_seenAs 66 = .ok (.ireturn, 1) := by decide +kernel
theorem dX11_seenAs_67 : decode cX11_seenAs 67 = .ok (.aload_n 0, 1) := by decide +kernel
theorem dX11_seenAs_68 : decode cX11_seenAs 68 = .ok (.iload 4, 2) := by decide +kernel
theorem dX11_seenAs_70 : decode cX11_seenAs 70 = .ok (.ifCond .ne 13, 3) := by decide +kernel
theorem dX11_seenAs_73 : decode cX11_seenAs 73 = .ok (.aload_n 0, 1) := by decide +kernel
theorem dX11_seenAs_74 : decode cX11_seenAs 74 = .ok (.getfield 78, 3) := by decide +kernel
theorem dX11_seenAs_77 : decode cX11_seenAs 77 = .ok (.getfield 347, 3) := by decide +kernel
theorem dX11_seenAs_80 : decode cX11_seenAs 80 = .ok (.goto 10, 3) := by decide +kernel
theorem dX11_seenAs_83 : decode cX11_seenAs 83 = .ok (.aload_n 0, 1) := by decide +kernel
theorem dX11_seenAs_84 : decode cX11_seenAs 84 = .ok (.getfield 78, 3) := by decide +kernel
theorem dX11_seenAs_87 : decode cX11_seenAs 87 = .ok (.getfield 350, 3) := by decide +kernel
theorem dX11_seenAs_90 : decode cX11_seenAs 90 = .ok (.invokevirtual 194, 3) := by decide +kernel
theorem dX11_seenAs_93 : decode cX11_seenAs 93 = .ok (.ireturn, 1) := by decide +kernel
theorem dX11_ask_0 : decode cX11_ask 0 = .ok (.aload_n 0, 1) := by decide +kernel
theorem dX11_ask_1 : decode cX11_ask 1 = .ok (.iload_n 1, 1) := by decide +kernel
theorem dX11_ask_2 : decode cX11_ask 2 = .ok (.iload_n 2, 1) := by decide +kernel
theorem dX11_ask_3 : decode cX11_ask 3 = .ok (.iload_n 3, 1) := by decide +kernel
theorem dX11_ask_4 : decode cX11_ask 4 = .ok (.invokevirtual 337, 3) := by decide +kernel
theorem dX11_ask_7 : decode cX11_ask 7 = .ok (.istore 4, 2) := by decide +kernel
theorem dX11_ask_9 : decode cX11_ask 9 = .ok (.iload 4, 2) := by decide +kernel
theorem dX11_ask_11 : decode cX11_ask 11 = .ok (.ifCond .eq 10, 3) := by decide +kernel
theorem dX11_ask_14 : decode cX11_ask 14 = .ok (.aload_n 0, 1) := by decide +kernel
theorem dX11_ask_15 : decode cX11_ask 15 = .ok (.iload 4, 2) := by decide +kernel
theorem dX11_ask_17 : decode cX11_ask 17 = .ok (.invokevirtual 144, 3) := by decide +kernel
theorem dX11_ask_20 : decode cX11_ask 20 = .ok (.ireturn, 1) := by decide +kernel
theorem dX11_ask_21 : decode cX11_ask 21 = .ok (.aload_n 0, 1) := by decide +kernel
theorem dX11_ask_22 : decode cX11_ask 22 = .ok (.getfield 78, 3) := by decide +kernel
theorem dX11_ask_25 : decode cX11_ask 25 = .ok (.iload_n 1, 1) := by decide +kernel
theorem dX11_ask_26 : decode cX11_ask 26 = .ok (.aload_n 0, 1) := by decide +kernel
theorem dX11_ask_27 : decode cX11_ask 27 = .ok (.getfield 15, 3) := by decide +kernel
theorem dX11_ask_30 : decode cX11_ask 30 = .ok (.iload_n 2, 1) := by decide +kernel
theorem dX11_ask_31 : decode cX11_ask 31 = .ok (.aaload, 1) := by decide +kernel
theorem dX11_ask_32 : decode cX11_ask 32 = .ok (.iload_n 3, 1) := by decide +kernel
theorem dX11_ask_33 : decode cX11_ask 33 = .ok (.invokevirtual 340, 3) := by decide +kernel
theorem dX11_ask_36 : decode cX11_ask 36 = .ok (.aload_n 0, 1) := by decide +kernel
theorem dX11_ask_37 : decode cX11_ask 37 = .ok (.getfield 78, 3) := by decide +kernel
theorem dX11_ask_40 : decode cX11_ask 40 = .ok (.getfield 344, 3) := by decide +kernel
theorem dX11_ask_43 : decode cX11_ask 43 = .ok (.iconst 2, 1) := by decide +kernel
theorem dX11_ask_44 : decode cX11_ask 44 = .ok (.if_icmp .ge 10, 3) := by decide +kernel
theorem dX11_ask_47 : decode cX11_ask 47 = .ok (.aload_n 0, 1) := by decide +kernel
theorem dX11_ask_48 : decode cX11_ask 48 = .ok (.bipush 6, 2) := by decide +kernel
theorem dX11_ask_50 : decode cX11_ask 50 = .ok (.invokevirtual 144, 3) := by decide +kernel
theorem dX11_ask_53 : decode cX11_ask 53 = .ok (.ireturn, 1) := by decide +kernel
theorem dX11_ask_54 : decode cX11_ask 54 = .ok (.aload_n 0, 1) := by decide +kernel
theorem dX11_ask_55 : decode cX11_ask 55 = .ok (.aload_n 0, 1) := by decide +kernel
theorem dX11_ask_56 : decode cX11_ask 56 = .ok (.getfield 78, 3) := by decide +kernel
theorem dX11_ask_59 : decode cX11_ask 59 = .ok (.invokevirtual 353, 3) := by decide +kernel
theorem dX11_ask_62 : decode cX11_ask 62 = .ok (.invokevirtual 194, 3) := by decide +kernel
theorem dX11_ask_65 : decode cX11_ask 65 = .ok (.ireturn, 1) := by decide +kernel
theorem dX11_waits_0 : decode cX11_waits 0 = .ok (.aload_n 0, 1) := by decide +kernel
theorem dX11_waits_1 : decode cX11_waits 1 = .ok (.iload_n 1, 1) := by decide +kernel
theorem dX11_waits_2 : decode cX11_waits 2 = .ok (.iload_n 2, 1) := by decide +kernel
theorem dX11_waits_3 : decode cX11_waits 3 = .ok (.invokevirtual 299, 3) := by decide +kernel
theorem dX11_waits_6 : decode cX11_waits 6 = .ok (.ifCond .ne 9, 3) := by decide +kernel
theorem dX11_waits_9 : decode cX11_waits 9 = .ok (.aload_n 0, 1) := by decide +kernel
theorem dX11_waits_10 : decode cX11_waits 10 = .ok (.iconst 1, 1) := by decide +kernel
