/-! CONSTRUCTORS, one by one, with the cells they make -/
theorem lyp_0 : ly_p[0]? = some (0, 3) := by decide +kernel
theorem lyp_1 : ly_p[1]? = some (2, 3) := by decide +kernel
theorem lyp_2 : ly_p[2]? = some (1, 0) := by decide +kernel
theorem lyp_3 : ly_p[3]? = some (4, 3) := by decide +kernel
theorem lyp_4 : ly_p[4]? = some (1, 1) := by decide +kernel
theorem lyp_5 : ly_p[5]? = some (6, 3) := by decide +kernel
theorem lyp_6 : ly_p[6]? = some (1, 2) := by decide +kernel
theorem lyp_7 : ly_p[7]? = some (8, 3) := by decide +kernel
theorem lyp_8 : ly_p[8]? = some (1, 3) := by decide +kernel
theorem lyp_9 : ly_p[9]? = some (10, 0) := by decide +kernel
theorem lyp_10 : ly_p[10]? = some (0, 4) := by decide +kernel
theorem lyp_11 : ly_p[11]? = some (12, 9) := by decide +kernel
theorem lyp_12 : ly_p[12]? = some (12, 10) := by decide +kernel
theorem lyp_13 : ly_p[13]? = some (12, 11) := by decide +kernel
theorem lyp_14 : ly_p[14]? = some (12, 12) := by decide +kernel
theorem lyp_15 : ly_p[15]? = some (12, 13) := by decide +kernel
theorem lyp_16 : ly_p[16]? = some (12, 14) := by decide +kernel
theorem lyp_17 : ly_p[17]? = some (12, 15) := by decide +kernel
theorem lyp_18 : ly_p[18]? = some (12, 16) := by decide +kernel
theorem lyp_19 : ly_p[19]? = some (0, 5) := by decide +kernel
theorem lyp_20 : ly_p[20]? = some (21, 2) := by decide +kernel
theorem lyp_21 : ly_p[21]? = some (21, 3) := by decide +kernel
theorem lyp_22 : ly_p[22]? = some (21, 4) := by decide +kernel
theorem lyp_23 : ly_p[23]? = some (21, 5) := by decide +kernel
theorem lyp_24 : ly_p[24]? = some (21, 6) := by decide +kernel
theorem lyp_25 : ly_p[25]? = some (21, 7) := by decide +kernel
theorem lyp_26 : ly_p[26]? = some (21, 8) := by decide +kernel
theorem lyp_27 : ly_p[27]? = some (0, 6) := by decide +kernel
theorem lyp_28 : ly_p[28]? = some (30, 9) := by decide +kernel
theorem lyp_29 : ly_p[29]? = some (30, 10) := by decide +kernel
theorem lyp_30 : ly_p[30]? = some (30, 11) := by decide +kernel
theorem lyp_31 : ly_p[31]? = some (30, 12) := by decide +kernel
theorem lyp_32 : ly_p[32]? = some (30, 13) := by decide +kernel
theorem lyp_33 : ly_p[33]? = some (30, 14) := by decide +kernel
theorem lyp_34 : ly_p[34]? = some (30, 15) := by decide +kernel
theorem lyp_35 : ly_p[35]? = some (30, 16) := by decide +kernel
theorem lyp_36 : ly_p[36]? = some (29, 1) := by decide +kernel
theorem lyp_37 : ly_p[37]? = some (29, 0) := by decide +kernel
theorem lyp_38 : ly_p[38]? = some (0, 7) := by decide +kernel
theorem lyp_39 : ly_p[39]? = some (40, 2) := by decide +kernel
theorem lyp_40 : ly_p[40]? = some (40, 3) := by decide +kernel
theorem lyp_41 : ly_p[41]? = some (40, 4) := by decide +kernel
theorem lyp_42 : ly_p[42]? = some (40, 5) := by decide +kernel
theorem lyp_43 : ly_p[43]? = some (40, 6) := by decide +kernel
theorem lyp_44 : ly_p[44]? = some (40, 7) := by decide +kernel
theorem lyp_45 : ly_p[45]? = some (40, 8) := by decide +kernel
theorem lyp_46 : ly_p[46]? = some (39, 2) := by decide +kernel
theorem lyp_47 : ly_p[47]? = some (39, 3) := by decide +kernel
theorem lyp_48 : ly_p[48]? = some (39, 0) := by decide +kernel
theorem lyp_49 : ly_p[49]? = some (39, 1) := by decide +kernel
theorem lyp_50 : ly_p[50]? = some (0, 8) := by decide +kernel
theorem lyp_51 : ly_p[51]? = some (50, 9) := by decide +kernel
theorem lyp_52 : ly_p[52]? = some (50, 10) := by decide +kernel
theorem lyp_53 : ly_p[53]? = some (50, 11) := by decide +kernel
theorem lyp_54 : ly_p[54]? = some (50, 12) := by decide +kernel
theorem lyp_55 : ly_p[55]? = some (50, 13) := by decide +kernel
theorem lyp_56 : ly_p[56]? = some (50, 14) := by decide +kernel
theorem lyp_57 : ly_p[57]? = some (50, 15) := by decide +kernel
theorem lyp_58 : ly_p[58]? = some (50, 16) := by decide +kernel
theorem lyp_59 : ly_p[59]? = some (49, 1) := by decide +kernel
theorem lyp_60 : ly_p[60]? = some (49, 0) := by decide +kernel
theorem lyp_61 : ly_p[61]? = some (0, 9) := by decide +kernel
theorem lyp_62 : ly_p[62]? = some (59, 1) := by decide +kernel
theorem lyp_63 : ly_p[63]? = some (59, 2) := by decide +kernel
theorem lyp_64 : ly_p[64]? = some (59, 3) := by decide +kernel
theorem lyp_65 : ly_p[65]? = some (59, 0) := by decide +kernel
theorem lyp_66 : ly_p[66]? = some (63, 9) := by decide +kernel
theorem lyp_67 : ly_p[67]? = some (63, 10) := by decide +kernel
theorem lyp_68 : ly_p[68]? = some (63, 11) := by decide +kernel
theorem lyp_69 : ly_p[69]? = some (63, 12) := by decide +kernel
theorem lyp_70 : ly_p[70]? = some (63, 13) := by decide +kernel
theorem lyp_71 : ly_p[71]? = some (63, 14) := by decide +kernel
theorem lyp_72 : ly_p[72]? = some (63, 15) := by decide +kernel
theorem lyp_73 : ly_p[73]? = some (63, 16) := by decide +kernel
theorem lyp_74 : ly_p[74]? = some (60, 0) := by decide +kernel
theorem lyp_75 : ly_p[75]? = some (72, 9) := by decide +kernel
theorem lyp_76 : ly_p[76]? = some (72, 10) := by decide +kernel
theorem lyp_77 : ly_p[77]? = some (72, 11) := by decide +kernel
theorem lyp_78 : ly_p[78]? = some (72, 12) := by decide +kernel
theorem lyp_79 : ly_p[79]? = some (72, 13) := by decide +kernel
theorem lyp_80 : ly_p[80]? = some (72, 14) := by decide +kernel
theorem lyp_81 : ly_p[81]? = some (72, 15) := by decide +kernel
theorem lyp_82 : ly_p[82]? = some (72, 16) := by decide +kernel
theorem lyp_83 : ly_p[83]? = some (60, 1) := by decide +kernel
theorem lyp_84 : ly_p[84]? = some (81, 9) := by decide +kernel
theorem lyp_85 : ly_p[85]? = some (81, 10) := by decide +kernel
theorem lyp_86 : ly_p[86]? = some (81, 11) := by decide +kernel
theorem lyp_87 : ly_p[87]? = some (81, 12) := by decide +kernel
theorem lyp_88 : ly_p[88]? = some (81, 13) := by decide +kernel
theorem lyp_89 : ly_p[89]? = some (81, 14) := by decide +kernel
theorem lyp_90 : ly_p[90]? = some (81, 15) := by decide +kernel
theorem lyp_91 : ly_p[91]? = some (81, 16) := by decide +kernel
theorem lyp_92 : ly_p[92]? = some (60, 2) := by decide +kernel
theorem lyp_93 : ly_p[93]? = some (90, 9) := by decide +kernel
theorem lyp_94 : ly_p[94]? = some (90, 10) := by decide +kernel
theorem lyp_95 : ly_p[95]? = some (90, 11) := by decide +kernel
theorem lyp_96 : ly_p[96]? = some (90, 12) := by decide +kernel
theorem lyp_97 : ly_p[97]? = some (90, 13) := by decide +kernel
theorem lyp_98 : ly_p[98]? = some (90, 14) := by decide +kernel
theorem lyp_99 : ly_p[99]? = some (90, 15) := by decide +kernel
theorem lyp_100 : ly_p[100]? = some (90, 16) := by decide +kernel
theorem lyp_101 : ly_p[101]? = some (60, 3) := by decide +kernel
theorem lyp_102 : ly_p[102]? = some (99, 9) := by decide +kernel
theorem lyp_103 : ly_p[103]? = some (99, 10) := by decide +kernel
theorem lyp_104 : ly_p[104]? = some (99, 11) := by decide +kernel
theorem lyp_105 : ly_p[105]? = some (99, 12) := by decide +kernel
theorem lyp_106 : ly_p[106]? = some (99, 13) := by decide +kernel
theorem lyp_107 : ly_p[107]? = some (99, 14) := by decide +kernel
theorem lyp_108 : ly_p[108]? = some (99, 15) := by decide +kernel
theorem lyp_109 : ly_p[109]? = some (99, 16) := by decide +kernel
theorem lyp_110 : ly_p[110]? = some (60, 4) := by decide +kernel
theorem lyp_111 : ly_p[111]? = some (108, 9) := by decide +kernel
theorem lyp_112 : ly_p[112]? = some (108, 10) := by decide +kernel
theorem lyp_113 : ly_p[113]? = some (108, 11) := by decide +kernel
theorem lyp_114 : ly_p[114]? = some (108, 12) := by decide +kernel
theorem lyp_115 : ly_p[115]? = some (108, 13) := by decide +kernel
theorem lyp_116 : ly_p[116]? = some (108, 14) := by decide +kernel
theorem lyp_117 : ly_p[117]? = some (108, 15) := by decide +kernel
theorem lyp_118 : ly_p[118]? = some (108, 16) := by decide +kernel
theorem lyp_119 : ly_p[119]? = some (60, 5) := by decide +kernel
theorem lyp_120 : ly_p[120]? = some (0, 10) := by decide +kernel
theorem lyp_121 : ly_p[121]? = some (118, 9) := by decide +kernel
theorem lyp_122 : ly_p[122]? = some (118, 10) := by decide +kernel
theorem lyp_123 : ly_p[123]? = some (118, 11) := by decide +kernel
theorem lyp_124 : ly_p[124]? = some (118, 12) := by decide +kernel
theorem lyp_125 : ly_p[125]? = some (118, 13) := by decide +kernel
theorem lyp_126 : ly_p[126]? = some (118, 14) := by decide +kernel
theorem lyp_127 : ly_p[127]? = some (118, 15) := by decide +kernel
theorem lyp_128 : ly_p[128]? = some (118, 16) := by decide +kernel
theorem lyp_129 : ly_p[129]? = some (117, 1) := by decide +kernel
theorem lyp_130 : ly_p[130]? = some (117, 2) := by decide +kernel
theorem lyp_131 : ly_p[131]? = some (117, 3) := by decide +kernel
theorem lyp_132 : ly_p[132]? = some (117, 0) := by decide +kernel
theorem lyp_133 : ly_p[133]? = some (0, 11) := by decide +kernel
theorem lyp_134 : ly_p[134]? = some (151, 9) := by decide +kernel
theorem lyp_135 : ly_p[135]? = some (151, 10) := by decide +kernel
theorem lyp_136 : ly_p[136]? = some (151, 11) := by decide +kernel
theorem lyp_137 : ly_p[137]? = some (151, 12) := by decide +kernel
theorem lyp_138 : ly_p[138]? = some (151, 13) := by decide +kernel
theorem lyp_139 : ly_p[139]? = some (151, 14) := by decide +kernel
theorem lyp_140 : ly_p[140]? = some (151, 15) := by decide +kernel
theorem lyp_141 : ly_p[141]? = some (151, 16) := by decide +kernel
theorem lyp_142 : ly_p[142]? = some (150, 1) := by decide +kernel
theorem lyp_143 : ly_p[143]? = some (160, 9) := by decide +kernel
theorem lyp_144 : ly_p[144]? = some (160, 10) := by decide +kernel
theorem lyp_145 : ly_p[145]? = some (160, 11) := by decide +kernel
theorem lyp_146 : ly_p[146]? = some (160, 12) := by decide +kernel
theorem lyp_147 : ly_p[147]? = some (160, 13) := by decide +kernel
theorem lyp_148 : ly_p[148]? = some (160, 14) := by decide +kernel
theorem lyp_149 : ly_p[149]? = some (160, 15) := by decide +kernel
theorem lyp_150 : ly_p[150]? = some (160, 16) := by decide +kernel
theorem lyp_151 : ly_p[151]? = some (150, 2) := by decide +kernel
theorem lyp_152 : ly_p[152]? = some (150, 0) := by decide +kernel
theorem lyp_153 : ly_p[153]? = some (0, 12) := by decide +kernel
theorem lyp_154 : ly_p[154]? = some (170, 9) := by decide +kernel
theorem lyp_155 : ly_p[155]? = some (170, 10) := by decide +kernel
theorem lyp_156 : ly_p[156]? = some (170, 11) := by decide +kernel
theorem lyp_157 : ly_p[157]? = some (170, 12) := by decide +kernel
theorem lyp_158 : ly_p[158]? = some (170, 13) := by decide +kernel
theorem lyp_159 : ly_p[159]? = some (170, 14) := by decide +kernel
theorem lyp_160 : ly_p[160]? = some (170, 15) := by decide +kernel
theorem lyp_161 : ly_p[161]? = some (170, 16) := by decide +kernel
theorem lyp_162 : ly_p[162]? = some (169, 2) := by decide +kernel
theorem lyp_163 : ly_p[163]? = some (169, 0) := by decide +kernel
theorem lyp_164 : ly_p[164]? = some (169, 1) := by decide +kernel
theorem lyp_165 : ly_p[165]? = some (0, 13) := by decide +kernel
theorem lyp_166 : ly_p[166]? = some (0, 14) := by decide +kernel
theorem lyp_167 : ly_p[167]? = some (0, 16) := by decide +kernel
theorem lyp_168 : ly_p[168]? = some (0, 17) := by decide +kernel
theorem lyp_169 : ly_p[169]? = some (182, 9) := by decide +kernel
theorem lyp_170 : ly_p[170]? = some (182, 10) := by decide +kernel
theorem lyp_171 : ly_p[171]? = some (182, 11) := by decide +kernel
theorem lyp_172 : ly_p[172]? = some (182, 12) := by decide +kernel
theorem lyp_173 : ly_p[173]? = some (182, 13) := by decide +kernel
theorem lyp_174 : ly_p[174]? = some (182, 14) := by decide +kernel
theorem lyp_175 : ly_p[175]? = some (182, 15) := by decide +kernel
theorem lyp_176 : ly_p[176]? = some (182, 16) := by decide +kernel
theorem lyp_177 : ly_p[177]? = some (180, 0) := by decide +kernel
theorem lyp_178 : ly_p[178]? = some (191, 2) := by decide +kernel
theorem lyp_179 : ly_p[179]? = some (191, 3) := by decide +kernel
theorem lyp_180 : ly_p[180]? = some (191, 4) := by decide +kernel
theorem lyp_181 : ly_p[181]? = some (191, 5) := by decide +kernel
theorem lyp_182 : ly_p[182]? = some (191, 6) := by decide +kernel
theorem lyp_183 : ly_p[183]? = some (191, 7) := by decide +kernel
theorem lyp_184 : ly_p[184]? = some (191, 8) := by decide +kernel
theorem lyp_185 : ly_p[185]? = some (181, 0) := by decide +kernel
theorem lyp_186 : ly_p[186]? = some (199, 9) := by decide +kernel
theorem lyp_187 : ly_p[187]? = some (199, 10) := by decide +kernel
theorem lyp_188 : ly_p[188]? = some (199, 11) := by decide +kernel
theorem lyp_189 : ly_p[189]? = some (199, 12) := by decide +kernel
theorem lyp_190 : ly_p[190]? = some (199, 13) := by decide +kernel
theorem lyp_191 : ly_p[191]? = some (199, 14) := by decide +kernel
theorem lyp_192 : ly_p[192]? = some (199, 15) := by decide +kernel
theorem lyp_193 : ly_p[193]? = some (199, 16) := by decide +kernel
theorem lyp_194 : ly_p[194]? = some (180, 1) := by decide +kernel
theorem lyp_195 : ly_p[195]? = some (208, 2) := by decide +kernel
theorem lyp_196 : ly_p[196]? = some (208, 3) := by decide +kernel
theorem lyp_197 : ly_p[197]? = some (208, 4) := by decide +kernel
theorem lyp_198 : ly_p[198]? = some (208, 5) := by decide +kernel
theorem lyp_199 : ly_p[199]? = some (208, 6) := by decide +kernel
theorem lyp_200 : ly_p[200]? = some (208, 7) := by decide +kernel
theorem lyp_201 : ly_p[201]? = some (208, 8) := by decide +kernel
theorem lyp_202 : ly_p[202]? = some (181, 1) := by decide +kernel
theorem lyp_203 : ly_p[203]? = some (216, 9) := by decide +kernel
theorem lyp_204 : ly_p[204]? = some (216, 10) := by decide +kernel
theorem lyp_205 : ly_p[205]? = some (216, 11) := by decide +kernel
theorem lyp_206 : ly_p[206]? = some (216, 12) := by decide +kernel
theorem lyp_207 : ly_p[207]? = some (216, 13) := by decide +kernel
theorem lyp_208 : ly_p[208]? = some (216, 14) := by decide +kernel
theorem lyp_209 : ly_p[209]? = some (216, 15) := by decide +kernel
theorem lyp_210 : ly_p[210]? = some (216, 16) := by decide +kernel
theorem lyp_211 : ly_p[211]? = some (180, 2) := by decide +kernel
theorem lyp_212 : ly_p[212]? = some (225, 2) := by decide +kernel
theorem lyp_213 : ly_p[213]? = some (225, 3) := by decide +kernel
theorem lyp_214 : ly_p[214]? = some (225, 4) := by decide +kernel
theorem lyp_215 : ly_p[215]? = some (225, 5) := by decide +kernel
theorem lyp_216 : ly_p[216]? = some (225, 6) := by decide +kernel
theorem lyp_217 : ly_p[217]? = some (225, 7) := by decide +kernel
theorem lyp_218 : ly_p[218]? = some (225, 8) := by decide +kernel
theorem lyp_219 : ly_p[219]? = some (181, 2) := by decide +kernel
theorem lyp_220 : ly_p[220]? = some (233, 0) := by decide +kernel
theorem lyp_221 : ly_p[221]? = some (233, 1) := by decide +kernel
theorem lyp_222 : ly_p[222]? = some (233, 5) := by decide +kernel
theorem lyp_223 : ly_p[223]? = some (233, 6) := by decide +kernel
theorem lyp_224 : ly_p[224]? = some (233, 7) := by decide +kernel
theorem lyp_225 : ly_p[225]? = some (233, 8) := by decide +kernel
theorem lyp_226 : ly_p[226]? = some (233, 9) := by decide +kernel
theorem lyp_227 : ly_p[227]? = some (233, 21) := by decide +kernel
theorem lyp_228 : ly_p[228]? = some (233, 24) := by decide +kernel
theorem lyp_229 : ly_p[229]? = some (233, 25) := by decide +kernel
theorem lyp_230 : ly_p[230]? = some (233, 26) := by decide +kernel
theorem lyp_231 : ly_p[231]? = some (233, 27) := by decide +kernel
theorem lyp_232 : ly_p[232]? = some (233, 28) := by decide +kernel
theorem lyp_233 : ly_p[233]? = some (233, 29) := by decide +kernel
theorem lyp_234 : ly_p[234]? = some (233, 30) := by decide +kernel
theorem lyp_235 : ly_p[235]? = some (233, 31) := by decide +kernel
theorem lyp_236 : ly_p[236]? = some (233, 32) := by decide +kernel
theorem lyp_237 : ly_p[237]? = some (233, 33) := by decide +kernel
theorem lyp_238 : ly_p[238]? = some (233, 36) := by decide +kernel
theorem lyp_239 : ly_p[239]? = some (233, 37) := by decide +kernel
theorem lyp_240 : ly_p[240]? = some (233, 38) := by decide +kernel
theorem dvX0 : ∀ k, k < 4 → defaultValue (tyX0 k) = ly_dk (lt_k 0 k) := fun k hk => by
  rcases (by omega : k = 0 ∨ k = 1 ∨ k = 2 ∨ k = 3) with rfl | rfl | rfl | rfl <;> rfl
theorem dvX1 : ∀ k, k < 7 → defaultValue (tyX1 k) = ly_dk (lt_k 1 k) := fun k hk => by
  rcases (by omega : k = 0 ∨ k = 1 ∨ k = 2 ∨ k = 3 ∨ k = 4 ∨ k = 5 ∨ k = 6) with rfl | rfl | rfl | rfl | rfl | rfl | rfl <;> rfl
theorem dvX2 : ∀ k, k < 8 → defaultValue (tyX2 k) = ly_dk (lt_k 2 k) := fun k hk => by
  rcases (by omega : k = 0 ∨ k = 1 ∨ k = 2 ∨ k = 3 ∨ k = 4 ∨ k = 5 ∨ k = 6 ∨ k = 7) with rfl | rfl | rfl | rfl | rfl | rfl | rfl | rfl <;> rfl
theorem dvX3 : ∀ k, k < 5 → defaultValue (tyX3 k) = ly_dk (lt_k 3 k) := fun k hk => by
  rcases (by omega : k = 0 ∨ k = 1 ∨ k = 2 ∨ k = 3 ∨ k = 4) with rfl | rfl | rfl | rfl | rfl <;> rfl
theorem dvX4 : ∀ k, k < 7 → defaultValue (tyX4 k) = ly_dk (lt_k 4 k) := fun k hk => by
  rcases (by omega : k = 0 ∨ k = 1 ∨ k = 2 ∨ k = 3 ∨ k = 4 ∨ k = 5 ∨ k = 6) with rfl | rfl | rfl | rfl | rfl | rfl | rfl <;> rfl
theorem dvX5 : ∀ k, k < 17 → defaultValue (tyX5 k) = ly_dk (lt_k 5 k) := fun k hk => by
  rcases (by omega : k = 0 ∨ k = 1 ∨ k = 2 ∨ k = 3 ∨ k = 4 ∨ k = 5 ∨ k = 6 ∨ k = 7 ∨ k = 8 ∨ k = 9 ∨ k = 10 ∨ k = 11 ∨ k = 12 ∨ k = 13 ∨ k = 14 ∨ k = 15 ∨ k = 16) with rfl | rfl | rfl | rfl | rfl | rfl | rfl | rfl | rfl | rfl | rfl | rfl | rfl | rfl | rfl | rfl | rfl <;> rfl
theorem dvX6 : ∀ k, k < 3 → defaultValue (tyX6 k) = ly_dk (lt_k 6 k) := fun k hk => by
  rcases (by omega : k = 0 ∨ k = 1 ∨ k = 2) with rfl | rfl | rfl <;> rfl
theorem dvX7 : ∀ k, k < 11 → defaultValue (tyX7 k) = ly_dk (lt_k 7 k) := fun k hk => by
  rcases (by omega : k = 0 ∨ k = 1 ∨ k = 2 ∨ k = 3 ∨ k = 4 ∨ k = 5 ∨ k = 6 ∨ k = 7 ∨ k = 8 ∨ k = 9 ∨ k = 10) with rfl | rfl | rfl | rfl | rfl | rfl | rfl | rfl | rfl | rfl | rfl <;> rfl
theorem dvX8 : ∀ k, k < 4 → defaultValue (tyX8 k) = ly_dk (lt_k 8 k) := fun k hk => by
  rcases (by omega : k = 0 ∨ k = 1 ∨ k = 2 ∨ k = 3) with rfl | rfl | rfl | rfl <;> rfl
theorem dvX9 : ∀ k, k < 9 → defaultValue (tyX9 k) = ly_dk (lt_k 9 k) := fun k hk => by
  rcases (by omega : k = 0 ∨ k = 1 ∨ k = 2 ∨ k = 3 ∨ k = 4 ∨ k = 5 ∨ k = 6 ∨ k = 7 ∨ k = 8) with rfl | rfl | rfl | rfl | rfl | rfl | rfl | rfl | rfl <;> rfl
theorem dvX10 : ∀ k, k < 5 → defaultValue (tyX10 k) = ly_dk (lt_k 10 k) := fun k hk => by
  rcases (by omega : k = 0 ∨ k = 1 ∨ k = 2 ∨ k = 3 ∨ k = 4) with rfl | rfl | rfl | rfl | rfl <;> rfl
theorem dvX11 : ∀ k, k < 19 → defaultValue (tyX11 k) = ly_dk (lt_k 11 k) := fun k hk => by
  rcases (by omega : k = 0 ∨ k = 1 ∨ k = 2 ∨ k = 3 ∨ k = 4 ∨ k = 5 ∨ k = 6 ∨ k = 7 ∨ k = 8 ∨ k = 9 ∨ k = 10 ∨ k = 11 ∨ k = 12 ∨ k = 13 ∨ k = 14 ∨ k = 15 ∨ k = 16 ∨ k = 17 ∨ k = 18) with rfl | rfl | rfl | rfl | rfl | rfl | rfl | rfl | rfl | rfl | rfl | rfl | rfl | rfl | rfl | rfl | rfl | rfl | rfl <;> rfl
theorem dvX12 : ∀ k, k < 41 → defaultValue (tyX12 k) = ly_dk (lt_k 12 k) := fun k hk => by
  rcases (by omega : k = 0 ∨ k = 1 ∨ k = 2 ∨ k = 3 ∨ k = 4 ∨ k = 5 ∨ k = 6 ∨ k = 7 ∨ k = 8 ∨ k = 9 ∨ k = 10 ∨ k = 11 ∨ k = 12 ∨ k = 13 ∨ k = 14 ∨ k = 15 ∨ k = 16 ∨ k = 17 ∨ k = 18 ∨ k = 19 ∨ k = 20 ∨ k = 21 ∨ k = 22 ∨ k = 23 ∨ k = 24 ∨ k = 25 ∨ k = 26 ∨ k = 27 ∨ k = 28 ∨ k = 29 ∨ k = 30 ∨ k = 31 ∨ k = 32 ∨ k = 33 ∨ k = 34 ∨ k = 35 ∨ k = 36 ∨ k = 37 ∨ k = 38 ∨ k = 39 ∨ k = 40) with rfl | rfl | rfl | rfl | rfl | rfl | rfl | rfl | rfl | rfl | rfl | rfl | rfl | rfl | rfl | rfl | rfl | rfl | rfl | rfl | rfl | rfl | rfl | rfl | rfl | rfl | rfl | rfl | rfl | rfl | rfl | rfl | rfl | rfl | rfl | rfl | rfl | rfl | rfl | rfl | rfl <;> rfl
def lyw_5 (o : Nat) (w : lt_W) : lt_W := lt_si (lt_si (lt_si (lt_si (lt_si (lt_si (lt_si (lt_si (lt_si w o 0 0) o 1 4) o 2 5) o 3 2) o 4 8) o 5 0) o 6 0) o 7 0) o 8 0
theorem lyw_5_z {w : lt_W} {o N : Nat} (h : ly_z w N) (ho : o + 1 ≤ N) : ly_z (lyw_5 o w) N := ((((((((h.si ho).si ho).si ho).si ho).si ho).si ho).si ho).si ho).si ho
theorem lyq_0 : Cond.methodLink RX8 3 Lib.objectInit ∈ lt_tb := (lt_m1 35 rfl rfl)
theorem lyq_1 : Cond.instanceMethod Lib.objectInit ∈ lt_tb := (lt_m1 27 rfl rfl)
theorem lyq_2 : Cond.code Lib.objectInit ⟨#[0xb1]⟩ 1 none ∈ lt_tb := (lt_m1 28 rfl rfl)
theorem lyq_3 : Cond.arrayClass FieldType.long ∈ lt_tb := (lt_m1 54 rfl rfl)
theorem lyf_X8_9 : Cond.fieldLink RX8 9 (TX8 3).1 (TX8 3).2.1 (TX8 3).2.2.1 ∈ lt_tb := (lt_m1 42 rfl rfl)
theorem lyq_5 : Cond.methodLink RX7 3 Lib.objectInit ∈ lt_tb := (lt_m1 60 rfl rfl)
theorem lyq_6 : Cond.arrayClass FieldType.byte ∈ lt_tb := (lt_m1 103 rfl rfl)
theorem lyf_X7_9 : Cond.fieldLink RX7 9 (TX7 0).1 (TX7 0).2.1 (TX7 0).2.2.1 ∈ lt_tb := (lt_m1 61 rfl rfl)
theorem lyq_8 : Cond.methodLink RX5 3 Lib.objectInit ∈ lt_tb := (lt_m1 109 rfl rfl)
theorem lyf_X5_9 : Cond.fieldLink RX5 9 (TX5 9).1 (TX5 9).2.1 (TX5 9).2.2.1 ∈ lt_tb := (lt_m1 149 rfl rfl)
theorem lyq_10 : Cond.arrayClass FieldType.int ∈ lt_tb := (lt_m1 209 rfl rfl)
theorem lyf_X5_15 : Cond.fieldLink RX5 15 (TX5 10).1 (TX5 10).2.1 (TX5 10).2.2.1 ∈ lt_tb := (lt_m1 150 rfl rfl)
theorem lyf_X5_19 : Cond.fieldLink RX5 19 (TX5 11).1 (TX5 11).2.1 (TX5 11).2.2.1 ∈ lt_tb := (lt_m1 155 rfl rfl)
theorem lyf_X5_22 : Cond.fieldLink RX5 22 (TX5 12).1 (TX5 12).2.1 (TX5 12).2.2.1 ∈ lt_tb := (lt_m1 158 rfl rfl)
theorem lyf_X5_25 : Cond.fieldLink RX5 25 (TX5 13).1 (TX5 13).2.1 (TX5 13).2.2.1 ∈ lt_tb := (lt_m1 162 rfl rfl)
theorem lyf_X5_28 : Cond.fieldLink RX5 28 (TX5 14).1 (TX5 14).2.1 (TX5 14).2.2.1 ∈ lt_tb := (lt_m1 165 rfl rfl)
theorem lyf_X5_31 : Cond.fieldLink RX5 31 (TX5 15).1 (TX5 15).2.1 (TX5 15).2.2.1 ∈ lt_tb := (lt_m1 168 rfl rfl)
theorem lyf_X5_34 : Cond.fieldLink RX5 34 (TX5 16).1 (TX5 16).2.1 (TX5 16).2.2.1 ∈ lt_tb := (lt_m1 173 rfl rfl)
theorem lyq_18 : Cond.methodLink RX9 3 Lib.objectInit ∈ lt_tb := (lt_m1 215 rfl rfl)
theorem lyf_X9_9 : Cond.fieldLink RX9 9 (TX9 2).1 (TX9 2).2.1 (TX9 2).2.2.1 ∈ lt_tb := (lt_m1 223 rfl rfl)
theorem lyf_X9_15 : Cond.fieldLink RX9 15 (TX9 3).1 (TX9 3).2.1 (TX9 3).2.2.1 ∈ lt_tb := (lt_m1 226 rfl rfl)
theorem lyf_X9_18 : Cond.fieldLink RX9 18 (TX9 4).1 (TX9 4).2.1 (TX9 4).2.2.1 ∈ lt_tb := (lt_m1 229 rfl rfl)
theorem lyf_X9_21 : Cond.fieldLink RX9 21 (TX9 5).1 (TX9 5).2.1 (TX9 5).2.2.1 ∈ lt_tb := (lt_m1 232 rfl rfl)
theorem lyf_X9_24 : Cond.fieldLink RX9 24 (TX9 6).1 (TX9 6).2.1 (TX9 6).2.2.1 ∈ lt_tb := (lt_m1 235 rfl rfl)
theorem lyf_X9_27 : Cond.fieldLink RX9 27 (TX9 7).1 (TX9 7).2.1 (TX9 7).2.2.1 ∈ lt_tb := (lt_m1 238 rfl rfl)
theorem lyf_X9_30 : Cond.fieldLink RX9 30 (TX9 8).1 (TX9 8).2.1 (TX9 8).2.2.1 ∈ lt_tb := (lt_m2 1 rfl rfl)
set_option maxRecDepth 100000 in
set_option maxHeartbeats 4000000 in
theorem cI_X8_2 {l : Launch} {D : va_G} {gA : Nat → ClassId} {s0 : State} {w : lt_W} (hz : ly_z w 3) : lt_C l D gA s0 yX8_init cX8_init 1 none (lt_rmI 1 1 60) [.ref (s0.heap.size + 2)] (ly_S 3 1) w (ly_S 4 2) none w := by
  refine lt_enterI rfl rfl (Nat.le_of_ble_eq_true rfl) (fun X e1 e2 e3 e4 hF hI hE => ?_)
  subst e1 e2 e3 e4
  have hF : lt_F X cX8_init RX8 1 (lt_rmI 1 1 60) := hF
  show lt_J X 0 0 (ly_S 3 1) w 0 [(0, .ref (lt_z X + 2))] []
  refine jr_aload_n hF dX8_init_0 0 rfl rfl ?_
  show lt_J X 0 0 (ly_S 3 1) _ 1 [(0, .ref (lt_z X + 2))] [.ref (lt_z X + 2)]
  refine jr_objI hF lyq_0 lyq_1 lyq_2 ⟨Nat.le_of_ble_eq_true rfl, Nat.le_of_ble_eq_true rfl⟩ dX8_init_1 ?_
  show lt_J X 0 0 (ly_S 3 1) _ 4 [(0, .ref (lt_z X + 2))] []
  refine jr_aload_n hF dX8_init_4 0 rfl rfl ?_
  show lt_J X 0 0 (ly_S 3 1) _ 5 [(0, .ref (lt_z X + 2))] [.ref (lt_z X + 2)]
  refine jr_bipush (v := 60) hF dX8_init_5 rfl ?_
  show lt_J X 0 0 (ly_S 3 1) _ 7 [(0, .ref (lt_z X + 2))] [.int 60, .ref (lt_z X + 2)]
  refine jr_newa_long (len := 60) (n := 60) hF lyq_3 rfl rfl (by decide) (by decide) rfl hz ⟨Nat.le_of_ble_eq_true rfl, Nat.le_of_ble_eq_true rfl⟩ dX8_init_7 ?_
  show lt_J X 1 60 (ly_S 4 1) _ 9 [(0, .ref (lt_z X + 2))] [.ref (lt_z X + 3), .ref (lt_z X + 2)]
  refine jr_putR (a := 2) (b := 3) hF hI clX8 (Nat.le_of_ble_eq_true rfl) lyf_X8_9 rfl rfl rfl (fun x => ⟨rfl, rfl⟩) (Nat.le_of_ble_eq_true rfl) rfl lyp_1 rfl dX8_init_9 ?_
  show lt_J X 1 60 (ly_S 4 2) _ 12 [(0, .ref (lt_z X + 2))] []
  exact jr_return hF hE dX8_init_12
def wI_X7_10 (w : lt_W) : lt_W := lt_si (lt_si (w) 10 9 (-1)) 10 10 (-1)
theorem zI_X7_10 {w : lt_W} (hz : ly_z w 11) : ly_z (wI_X7_10 w) 12 := by
  have hz1 := (hz.up (Nat.le_of_ble_eq_true rfl : 11 ≤ 12)).si (b := 10) (j := 9) (v := (-1)) (Nat.le_of_ble_eq_true rfl)
  have hz2 := hz1.si (b := 10) (j := 10) (v := (-1)) (Nat.le_of_ble_eq_true rfl)
  exact hz2.up (Nat.le_of_ble_eq_true rfl)
set_option maxRecDepth 100000 in
set_option maxHeartbeats 4000000 in
theorem cI_X7_10 {l : Launch} {D : va_G} {gA : Nat → ClassId} {s0 : State} {w : lt_W} (hz : ly_z w 11) : lt_C l D gA s0 yX7_init cX7_init 1 none (lt_rmI 1 1 900) [.ref (s0.heap.size + 10)] (ly_S 11 9) w (ly_S 12 10) none (wI_X7_10 w) := by
  refine lt_enterI rfl rfl (Nat.le_of_ble_eq_true rfl) (fun X e1 e2 e3 e4 hF hI hE => ?_)
  subst e1 e2 e3 e4
  have hF : lt_F X cX7_init RX7 1 (lt_rmI 1 1 900) := hF
  show lt_J X 0 0 (ly_S 11 9) w 0 [(0, .ref (lt_z X + 10))] []
  refine jr_aload_n hF dX7_init_0 0 rfl rfl ?_
  show lt_J X 0 0 (ly_S 11 9) _ 1 [(0, .ref (lt_z X + 10))] [.ref (lt_z X + 10)]
  refine jr_objI hF lyq_5 lyq_1 lyq_2 ⟨Nat.le_of_ble_eq_true rfl, Nat.le_of_ble_eq_true rfl⟩ dX7_init_1 ?_
  show lt_J X 0 0 (ly_S 11 9) _ 4 [(0, .ref (lt_z X + 10))] []
  refine jr_aload_n hF dX7_init_4 0 rfl rfl ?_
  show lt_J X 0 0 (ly_S 11 9) _ 5 [(0, .ref (lt_z X + 10))] [.ref (lt_z X + 10)]
  refine jr_sipush (v := 900) hF dX7_init_5 rfl ?_
  show lt_J X 0 0 (ly_S 11 9) _ 8 [(0, .ref (lt_z X + 10))] [.int 900, .ref (lt_z X + 10)]
  refine jr_newa_byte (len := 900) (n := 900) hF lyq_6 rfl rfl (by decide) (by decide) rfl hz ⟨Nat.le_of_ble_eq_true rfl, Nat.le_of_ble_eq_true rfl⟩ dX7_init_8 ?_
  show lt_J X 1 900 (ly_S 12 9) _ 10 [(0, .ref (lt_z X + 10))] [.ref (lt_z X + 11), .ref (lt_z X + 10)]
  refine jr_putR (a := 10) (b := 11) hF hI clX7 (Nat.le_of_ble_eq_true rfl) lyf_X7_9 rfl rfl rfl (fun x => ⟨rfl, rfl⟩) (Nat.le_of_ble_eq_true rfl) rfl lyp_9 rfl dX7_init_10 ?_
  show lt_J X 1 900 (ly_S 12 10) _ 13 [(0, .ref (lt_z X + 10))] []
  refine jr_aload_n hF dX7_init_13 0 rfl rfl ?_
  show lt_J X 1 900 (ly_S 12 10) _ 14 [(0, .ref (lt_z X + 10))] [.ref (lt_z X + 10)]
  refine jr_iconst (v := -1) hF dX7_init_14 rfl ?_
  show lt_J X 1 900 (ly_S 12 10) _ 15 [(0, .ref (lt_z X + 10))] [.int (-1), .ref (lt_z X + 10)]
  refine jr_putI hF pf_X7_15 (ly_c (Nat.le_of_ble_eq_true rfl)) dX7_init_15 ?_
  have hz1 := (hz.up (Nat.le_of_ble_eq_true rfl : 11 ≤ 12)).si (b := 10) (j := 9) (v := (-1)) (Nat.le_of_ble_eq_true rfl)
  show lt_J X 1 900 (ly_S 12 10) _ 18 [(0, .ref (lt_z X + 10))] []
  refine jr_aload_n hF dX7_init_18 0 rfl rfl ?_
  show lt_J X 1 900 (ly_S 12 10) _ 19 [(0, .ref (lt_z X + 10))] [.ref (lt_z X + 10)]
  refine jr_iconst (v := -1) hF dX7_init_19 rfl ?_
  show lt_J X 1 900 (ly_S 12 10) _ 20 [(0, .ref (lt_z X + 10))] [.int (-1), .ref (lt_z X + 10)]
  refine jr_putI hF pf_X7_19 (ly_c (Nat.le_of_ble_eq_true rfl)) dX7_init_20 ?_
  have hz2 := hz1.si (b := 10) (j := 10) (v := (-1)) (Nat.le_of_ble_eq_true rfl)
  show lt_J X 1 900 (ly_S 12 10) _ 23 [(0, .ref (lt_z X + 10))] []
  exact jr_return hF hE dX7_init_23
def wI_X5_12 (w : lt_W) : lt_W := lyw_5 12 (w)
theorem zI_X5_12 {w : lt_W} (hz : ly_z w 13) : ly_z (wI_X5_12 w) 21 := by
  have hz1 := lyw_5_z (hz.up (Nat.le_of_ble_eq_true rfl : 13 ≤ 21)) (Nat.le_of_ble_eq_true rfl : 12 + 1 ≤ 21)
  exact hz1.up (Nat.le_of_ble_eq_true rfl)
set_option maxRecDepth 100000 in
set_option maxHeartbeats 4000000 in
theorem cI_X5_12 {l : Launch} {D : va_G} {gA : Nat → ClassId} {s0 : State} {w : lt_W} (hz : ly_z w 13) : lt_C l D gA s0 yX5_init cX5_init 1 none (lt_rmI 2 8 56) [.ref (s0.heap.size + 12)] (ly_S 13 11) w (ly_S 21 19) none (wI_X5_12 w) := by
  refine lt_enterI rfl rfl (Nat.le_of_ble_eq_true rfl) (fun X e1 e2 e3 e4 hF hI hE => ?_)
  subst e1 e2 e3 e4
  have hF : lt_F X cX5_init RX5 1 (lt_rmI 2 8 56) := hF
  show lt_J X 0 0 (ly_S 13 11) w 0 [(0, .ref (lt_z X + 12))] []
  refine jr_aload_n hF dX5_init_0 0 rfl rfl ?_
  show lt_J X 0 0 (ly_S 13 11) _ 1 [(0, .ref (lt_z X + 12))] [.ref (lt_z X + 12)]
  refine jr_objI hF lyq_8 lyq_1 lyq_2 ⟨Nat.le_of_ble_eq_true rfl, Nat.le_of_ble_eq_true rfl⟩ dX5_init_1 ?_
  show lt_J X 0 0 (ly_S 13 11) _ 4 [(0, .ref (lt_z X + 12))] []
  refine jr_aload_n hF dX5_init_4 0 rfl rfl ?_
  show lt_J X 0 0 (ly_S 13 11) _ 5 [(0, .ref (lt_z X + 12))] [.ref (lt_z X + 12)]
  refine jr_bipush (v := 7) hF dX5_init_5 rfl ?_
  show lt_J X 0 0 (ly_S 13 11) _ 7 [(0, .ref (lt_z X + 12))] [.int 7, .ref (lt_z X + 12)]
  refine jr_newa_long (len := 7) (n := 7) hF lyq_3 rfl rfl (by decide) (by decide) rfl hz ⟨Nat.le_of_ble_eq_true rfl, Nat.le_of_ble_eq_true rfl⟩ dX5_init_7 ?_
  show lt_J X 1 7 (ly_S 14 11) _ 9 [(0, .ref (lt_z X + 12))] [.ref (lt_z X + 13), .ref (lt_z X + 12)]
  refine jr_putR (a := 12) (b := 13) hF hI clX5 (Nat.le_of_ble_eq_true rfl) lyf_X5_9 rfl rfl rfl (fun x => ⟨rfl, rfl⟩) (Nat.le_of_ble_eq_true rfl) rfl lyp_11 rfl dX5_init_9 ?_
  show lt_J X 1 7 (ly_S 14 12) _ 12 [(0, .ref (lt_z X + 12))] []
  refine jr_aload_n hF dX5_init_12 0 rfl rfl ?_
  show lt_J X 1 7 (ly_S 14 12) _ 13 [(0, .ref (lt_z X + 12))] [.ref (lt_z X + 12)]
  refine jr_bipush (v := 7) hF dX5_init_13 rfl ?_
  show lt_J X 1 7 (ly_S 14 12) _ 15 [(0, .ref (lt_z X + 12))] [.int 7, .ref (lt_z X + 12)]
  refine jr_newa_int (len := 7) (n := 7) hF lyq_10 rfl rfl (by decide) (by decide) rfl (hz.up (Nat.le_of_ble_eq_true rfl : 13 ≤ 14)) ⟨Nat.le_of_ble_eq_true rfl, Nat.le_of_ble_eq_true rfl⟩ dX5_init_15 ?_
  show lt_J X 2 14 (ly_S 15 12) _ 17 [(0, .ref (lt_z X + 12))] [.ref (lt_z X + 14), .ref (lt_z X + 12)]
  refine jr_putR (a := 12) (b := 14) hF hI clX5 (Nat.le_of_ble_eq_true rfl) lyf_X5_15 rfl rfl rfl (fun x => ⟨rfl, rfl⟩) (Nat.le_of_ble_eq_true rfl) rfl lyp_12 rfl dX5_init_17 ?_
  show lt_J X 2 14 (ly_S 15 13) _ 20 [(0, .ref (lt_z X + 12))] []
  refine jr_aload_n hF dX5_init_20 0 rfl rfl ?_
  show lt_J X 2 14 (ly_S 15 13) _ 21 [(0, .ref (lt_z X + 12))] [.ref (lt_z X + 12)]
  refine jr_bipush (v := 7) hF dX5_init_21 rfl ?_
  show lt_J X 2 14 (ly_S 15 13) _ 23 [(0, .ref (lt_z X + 12))] [.int 7, .ref (lt_z X + 12)]
  refine jr_newa_int (len := 7) (n := 7) hF lyq_10 rfl rfl (by decide) (by decide) rfl (hz.up (Nat.le_of_ble_eq_true rfl : 13 ≤ 15)) ⟨Nat.le_of_ble_eq_true rfl, Nat.le_of_ble_eq_true rfl⟩ dX5_init_23 ?_
  show lt_J X 3 21 (ly_S 16 13) _ 25 [(0, .ref (lt_z X + 12))] [.ref (lt_z X + 15), .ref (lt_z X + 12)]
  refine jr_putR (a := 12) (b := 15) hF hI clX5 (Nat.le_of_ble_eq_true rfl) lyf_X5_19 rfl rfl rfl (fun x => ⟨rfl, rfl⟩) (Nat.le_of_ble_eq_true rfl) rfl lyp_13 rfl dX5_init_25 ?_
  show lt_J X 3 21 (ly_S 16 14) _ 28 [(0, .ref (lt_z X + 12))] []
  refine jr_aload_n hF dX5_init_28 0 rfl rfl ?_
  show lt_J X 3 21 (ly_S 16 14) _ 29 [(0, .ref (lt_z X + 12))] [.ref (lt_z X + 12)]
  refine jr_bipush (v := 7) hF dX5_init_29 rfl ?_
  show lt_J X 3 21 (ly_S 16 14) _ 31 [(0, .ref (lt_z X + 12))] [.int 7, .ref (lt_z X + 12)]
  refine jr_newa_int (len := 7) (n := 7) hF lyq_10 rfl rfl (by decide) (by decide) rfl (hz.up (Nat.le_of_ble_eq_true rfl : 13 ≤ 16)) ⟨Nat.le_of_ble_eq_true rfl, Nat.le_of_ble_eq_true rfl⟩ dX5_init_31 ?_
  show lt_J X 4 28 (ly_S 17 14) _ 33 [(0, .ref (lt_z X + 12))] [.ref (lt_z X + 16), .ref (lt_z X + 12)]
  refine jr_putR (a := 12) (b := 16) hF hI clX5 (Nat.le_of_ble_eq_true rfl) lyf_X5_22 rfl rfl rfl (fun x => ⟨rfl, rfl⟩) (Nat.le_of_ble_eq_true rfl) rfl lyp_14 rfl dX5_init_33 ?_
  show lt_J X 4 28 (ly_S 17 15) _ 36 [(0, .ref (lt_z X + 12))] []
  refine jr_aload_n hF dX5_init_36 0 rfl rfl ?_
  show lt_J X 4 28 (ly_S 17 15) _ 37 [(0, .ref (lt_z X + 12))] [.ref (lt_z X + 12)]
  refine jr_bipush (v := 7) hF dX5_init_37 rfl ?_
  show lt_J X 4 28 (ly_S 17 15) _ 39 [(0, .ref (lt_z X + 12))] [.int 7, .ref (lt_z X + 12)]
  refine jr_newa_int (len := 7) (n := 7) hF lyq_10 rfl rfl (by decide) (by decide) rfl (hz.up (Nat.le_of_ble_eq_true rfl : 13 ≤ 17)) ⟨Nat.le_of_ble_eq_true rfl, Nat.le_of_ble_eq_true rfl⟩ dX5_init_39 ?_
  show lt_J X 5 35 (ly_S 18 15) _ 41 [(0, .ref (lt_z X + 12))] [.ref (lt_z X + 17), .ref (lt_z X + 12)]
  refine jr_putR (a := 12) (b := 17) hF hI clX5 (Nat.le_of_ble_eq_true rfl) lyf_X5_25 rfl rfl rfl (fun x => ⟨rfl, rfl⟩) (Nat.le_of_ble_eq_true rfl) rfl lyp_15 rfl dX5_init_41 ?_
  show lt_J X 5 35 (ly_S 18 16) _ 44 [(0, .ref (lt_z X + 12))] []
  refine jr_aload_n hF dX5_init_44 0 rfl rfl ?_
  show lt_J X 5 35 (ly_S 18 16) _ 45 [(0, .ref (lt_z X + 12))] [.ref (lt_z X + 12)]
  refine jr_bipush (v := 7) hF dX5_init_45 rfl ?_
  show lt_J X 5 35 (ly_S 18 16) _ 47 [(0, .ref (lt_z X + 12))] [.int 7, .ref (lt_z X + 12)]
  refine jr_newa_int (len := 7) (n := 7) hF lyq_10 rfl rfl (by decide) (by decide) rfl (hz.up (Nat.le_of_ble_eq_true rfl : 13 ≤ 18)) ⟨Nat.le_of_ble_eq_true rfl, Nat.le_of_ble_eq_true rfl⟩ dX5_init_47 ?_
  show lt_J X 6 42 (ly_S 19 16) _ 49 [(0, .ref (lt_z X + 12))] [.ref (lt_z X + 18), .ref (lt_z X + 12)]
  refine jr_putR (a := 12) (b := 18) hF hI clX5 (Nat.le_of_ble_eq_true rfl) lyf_X5_28 rfl rfl rfl (fun x => ⟨rfl, rfl⟩) (Nat.le_of_ble_eq_true rfl) rfl lyp_16 rfl dX5_init_49 ?_
  show lt_J X 6 42 (ly_S 19 17) _ 52 [(0, .ref (lt_z X + 12))] []
  refine jr_aload_n hF dX5_init_52 0 rfl rfl ?_
  show lt_J X 6 42 (ly_S 19 17) _ 53 [(0, .ref (lt_z X + 12))] [.ref (lt_z X + 12)]
  refine jr_bipush (v := 7) hF dX5_init_53 rfl ?_
  show lt_J X 6 42 (ly_S 19 17) _ 55 [(0, .ref (lt_z X + 12))] [.int 7, .ref (lt_z X + 12)]
  refine jr_newa_int (len := 7) (n := 7) hF lyq_10 rfl rfl (by decide) (by decide) rfl (hz.up (Nat.le_of_ble_eq_true rfl : 13 ≤ 19)) ⟨Nat.le_of_ble_eq_true rfl, Nat.le_of_ble_eq_true rfl⟩ dX5_init_55 ?_
  show lt_J X 7 49 (ly_S 20 17) _ 57 [(0, .ref (lt_z X + 12))] [.ref (lt_z X + 19), .ref (lt_z X + 12)]
  refine jr_putR (a := 12) (b := 19) hF hI clX5 (Nat.le_of_ble_eq_true rfl) lyf_X5_31 rfl rfl rfl (fun x => ⟨rfl, rfl⟩) (Nat.le_of_ble_eq_true rfl) rfl lyp_17 rfl dX5_init_57 ?_
  show lt_J X 7 49 (ly_S 20 18) _ 60 [(0, .ref (lt_z X + 12))] []
  refine jr_aload_n hF dX5_init_60 0 rfl rfl ?_
  show lt_J X 7 49 (ly_S 20 18) _ 61 [(0, .ref (lt_z X + 12))] [.ref (lt_z X + 12)]
  refine jr_bipush (v := 7) hF dX5_init_61 rfl ?_
  show lt_J X 7 49 (ly_S 20 18) _ 63 [(0, .ref (lt_z X + 12))] [.int 7, .ref (lt_z X + 12)]
  refine jr_newa_int (len := 7) (n := 7) hF lyq_10 rfl rfl (by decide) (by decide) rfl (hz.up (Nat.le_of_ble_eq_true rfl : 13 ≤ 20)) ⟨Nat.le_of_ble_eq_true rfl, Nat.le_of_ble_eq_true rfl⟩ dX5_init_63 ?_
  show lt_J X 8 56 (ly_S 21 18) _ 65 [(0, .ref (lt_z X + 12))] [.ref (lt_z X + 20), .ref (lt_z X + 12)]
  refine jr_putR (a := 12) (b := 20) hF hI clX5 (Nat.le_of_ble_eq_true rfl) lyf_X5_34 rfl rfl rfl (fun x => ⟨rfl, rfl⟩) (Nat.le_of_ble_eq_true rfl) rfl lyp_18 rfl dX5_init_65 ?_
  show lt_J X 8 56 (ly_S 21 19) _ 68 [(0, .ref (lt_z X + 12))] []
  refine jr_aload_n hF dX5_init_68 0 rfl rfl ?_
  show lt_J X 8 56 (ly_S 21 19) _ 69 [(0, .ref (lt_z X + 12))] [.ref (lt_z X + 12)]
  refine jr_callV (As := []) (st := []) hF ml_X5_37 (c_X5_clear (w := _) (r := lyw_5 12 _) (ly_c (Nat.le_of_ble_eq_true rfl)) rfl) (ly_c (Nat.le_of_ble_eq_true rfl)) rfl ⟨Nat.le_of_ble_eq_true rfl, Nat.le_of_ble_eq_true rfl⟩ ⟨Nat.le_of_ble_eq_true rfl, Nat.le_of_ble_eq_true rfl⟩ (Nat.le_of_ble_eq_true rfl) dX5_init_69 ?_
  have hz1 := lyw_5_z (hz.up (Nat.le_of_ble_eq_true rfl : 13 ≤ 21)) (Nat.le_of_ble_eq_true rfl : 12 + 1 ≤ 21)
  show lt_J X 8 56 (ly_S 21 19) _ 72 [(0, .ref (lt_z X + 12))] []
  exact jr_return hF hE dX5_init_72
set_option maxRecDepth 100000 in
set_option maxHeartbeats 4000000 in
theorem cI_X9_21 {l : Launch} {D : va_G} {gA : Nat → ClassId} {s0 : State} {w : lt_W} (hz : ly_z w 22) : lt_C l D gA s0 yX9_init cX9_init 1 none (lt_rmI 1 7 210) [.ref (s0.heap.size + 21)] (ly_S 22 20) w (ly_S 29 27) none w := by
  refine lt_enterI rfl rfl (Nat.le_of_ble_eq_true rfl) (fun X e1 e2 e3 e4 hF hI hE => ?_)
  subst e1 e2 e3 e4
  have hF : lt_F X cX9_init RX9 1 (lt_rmI 1 7 210) := hF
  show lt_J X 0 0 (ly_S 22 20) w 0 [(0, .ref (lt_z X + 21))] []
  refine jr_aload_n hF dX9_init_0 0 rfl rfl ?_
  show lt_J X 0 0 (ly_S 22 20) _ 1 [(0, .ref (lt_z X + 21))] [.ref (lt_z X + 21)]
  refine jr_objI hF lyq_18 lyq_1 lyq_2 ⟨Nat.le_of_ble_eq_true rfl, Nat.le_of_ble_eq_true rfl⟩ dX9_init_1 ?_
  show lt_J X 0 0 (ly_S 22 20) _ 4 [(0, .ref (lt_z X + 21))] []
  refine jr_aload_n hF dX9_init_4 0 rfl rfl ?_
  show lt_J X 0 0 (ly_S 22 20) _ 5 [(0, .ref (lt_z X + 21))] [.ref (lt_z X + 21)]
  refine jr_bipush (v := 30) hF dX9_init_5 rfl ?_
  show lt_J X 0 0 (ly_S 22 20) _ 7 [(0, .ref (lt_z X + 21))] [.int 30, .ref (lt_z X + 21)]
  refine jr_newa_int (len := 30) (n := 30) hF lyq_10 rfl rfl (by decide) (by decide) rfl hz ⟨Nat.le_of_ble_eq_true rfl, Nat.le_of_ble_eq_true rfl⟩ dX9_init_7 ?_
  show lt_J X 1 30 (ly_S 23 20) _ 9 [(0, .ref (lt_z X + 21))] [.ref (lt_z X + 22), .ref (lt_z X + 21)]
  refine jr_putR (a := 21) (b := 22) hF hI clX9 (Nat.le_of_ble_eq_true rfl) lyf_X9_9 rfl rfl rfl (fun x => ⟨rfl, rfl⟩) (Nat.le_of_ble_eq_true rfl) rfl lyp_20 rfl dX9_init_9 ?_
  show lt_J X 1 30 (ly_S 23 21) _ 12 [(0, .ref (lt_z X + 21))] []
  refine jr_aload_n hF dX9_init_12 0 rfl rfl ?_
  show lt_J X 1 30 (ly_S 23 21) _ 13 [(0, .ref (lt_z X + 21))] [.ref (lt_z X + 21)]
  refine jr_bipush (v := 30) hF dX9_init_13 rfl ?_
  show lt_J X 1 30 (ly_S 23 21) _ 15 [(0, .ref (lt_z X + 21))] [.int 30, .ref (lt_z X + 21)]
  refine jr_newa_int (len := 30) (n := 30) hF lyq_10 rfl rfl (by decide) (by decide) rfl (hz.up (Nat.le_of_ble_eq_true rfl : 22 ≤ 23)) ⟨Nat.le_of_ble_eq_true rfl, Nat.le_of_ble_eq_true rfl⟩ dX9_init_15 ?_
  show lt_J X 2 60 (ly_S 24 21) _ 17 [(0, .ref (lt_z X + 21))] [.ref (lt_z X + 23), .ref (lt_z X + 21)]
  refine jr_putR (a := 21) (b := 23) hF hI clX9 (Nat.le_of_ble_eq_true rfl) lyf_X9_15 rfl rfl rfl (fun x => ⟨rfl, rfl⟩) (Nat.le_of_ble_eq_true rfl) rfl lyp_21 rfl dX9_init_17 ?_
  show lt_J X 2 60 (ly_S 24 22) _ 20 [(0, .ref (lt_z X + 21))] []
  refine jr_aload_n hF dX9_init_20 0 rfl rfl ?_
  show lt_J X 2 60 (ly_S 24 22) _ 21 [(0, .ref (lt_z X + 21))] [.ref (lt_z X + 21)]
  refine jr_bipush (v := 30) hF dX9_init_21 rfl ?_
  show lt_J X 2 60 (ly_S 24 22) _ 23 [(0, .ref (lt_z X + 21))] [.int 30, .ref (lt_z X + 21)]
  refine jr_newa_int (len := 30) (n := 30) hF lyq_10 rfl rfl (by decide) (by decide) rfl (hz.up (Nat.le_of_ble_eq_true rfl : 22 ≤ 24)) ⟨Nat.le_of_ble_eq_true rfl, Nat.le_of_ble_eq_true rfl⟩ dX9_init_23 ?_
  show lt_J X 3 90 (ly_S 25 22) _ 25 [(0, .ref (lt_z X + 21))] [.ref (lt_z X + 24), .ref (lt_z X + 21)]
  refine jr_putR (a := 21) (b := 24) hF hI clX9 (Nat.le_of_ble_eq_true rfl) lyf_X9_18 rfl rfl rfl (fun x => ⟨rfl, rfl⟩) (Nat.le_of_ble_eq_true rfl) rfl lyp_22 rfl dX9_init_25 ?_
  show lt_J X 3 90 (ly_S 25 23) _ 28 [(0, .ref (lt_z X + 21))] []
  refine jr_aload_n hF dX9_init_28 0 rfl rfl ?_
  show lt_J X 3 90 (ly_S 25 23) _ 29 [(0, .ref (lt_z X + 21))] [.ref (lt_z X + 21)]
  refine jr_bipush (v := 30) hF dX9_init_29 rfl ?_
  show lt_J X 3 90 (ly_S 25 23) _ 31 [(0, .ref (lt_z X + 21))] [.int 30, .ref (lt_z X + 21)]
  refine jr_newa_int (len := 30) (n := 30) hF lyq_10 rfl rfl (by decide) (by decide) rfl (hz.up (Nat.le_of_ble_eq_true rfl : 22 ≤ 25)) ⟨Nat.le_of_ble_eq_true rfl, Nat.le_of_ble_eq_true rfl⟩ dX9_init_31 ?_
  show lt_J X 4 120 (ly_S 26 23) _ 33 [(0, .ref (lt_z X + 21))] [.ref (lt_z X + 25), .ref (lt_z X + 21)]
  refine jr_putR (a := 21) (b := 25) hF hI clX9 (Nat.le_of_ble_eq_true rfl) lyf_X9_21 rfl rfl rfl (fun x => ⟨rfl, rfl⟩) (Nat.le_of_ble_eq_true rfl) rfl lyp_23 rfl dX9_init_33 ?_
  show lt_J X 4 120 (ly_S 26 24) _ 36 [(0, .ref (lt_z X + 21))] []
  refine jr_aload_n hF dX9_init_36 0 rfl rfl ?_
  show lt_J X 4 120 (ly_S 26 24) _ 37 [(0, .ref (lt_z X + 21))] [.ref (lt_z X + 21)]
  refine jr_bipush (v := 30) hF dX9_init_37 rfl ?_
  show lt_J X 4 120 (ly_S 26 24) _ 39 [(0, .ref (lt_z X + 21))] [.int 30, .ref (lt_z X + 21)]
  refine jr_newa_int (len := 30) (n := 30) hF lyq_10 rfl rfl (by decide) (by decide) rfl (hz.up (Nat.le_of_ble_eq_true rfl : 22 ≤ 26)) ⟨Nat.le_of_ble_eq_true rfl, Nat.le_of_ble_eq_true rfl⟩ dX9_init_39 ?_
  show lt_J X 5 150 (ly_S 27 24) _ 41 [(0, .ref (lt_z X + 21))] [.ref (lt_z X + 26), .ref (lt_z X + 21)]
  refine jr_putR (a := 21) (b := 26) hF hI clX9 (Nat.le_of_ble_eq_true rfl) lyf_X9_24 rfl rfl rfl (fun x => ⟨rfl, rfl⟩) (Nat.le_of_ble_eq_true rfl) rfl lyp_24 rfl dX9_init_41 ?_
  show lt_J X 5 150 (ly_S 27 25) _ 44 [(0, .ref (lt_z X + 21))] []
  refine jr_aload_n hF dX9_init_44 0 rfl rfl ?_
  show lt_J X 5 150 (ly_S 27 25) _ 45 [(0, .ref (lt_z X + 21))] [.ref (lt_z X + 21)]
  refine jr_bipush (v := 30) hF dX9_init_45 rfl ?_
  show lt_J X 5 150 (ly_S 27 25) _ 47 [(0, .ref (lt_z X + 21))] [.int 30, .ref (lt_z X + 21)]
  refine jr_newa_int (len := 30) (n := 30) hF lyq_10 rfl rfl (by decide) (by decide) rfl (hz.up (Nat.le_of_ble_eq_true rfl : 22 ≤ 27)) ⟨Nat.le_of_ble_eq_true rfl, Nat.le_of_ble_eq_true rfl⟩ dX9_init_47 ?_
  show lt_J X 6 180 (ly_S 28 25) _ 49 [(0, .ref (lt_z X + 21))] [.ref (lt_z X + 27), .ref (lt_z X + 21)]
  refine jr_putR (a := 21) (b := 27) hF hI clX9 (Nat.le_of_ble_eq_true rfl) lyf_X9_27 rfl rfl rfl (fun x => ⟨rfl, rfl⟩) (Nat.le_of_ble_eq_true rfl) rfl lyp_25 rfl dX9_init_49 ?_
  show lt_J X 6 180 (ly_S 28 26) _ 52 [(0, .ref (lt_z X + 21))] []
  refine jr_aload_n hF dX9_init_52 0 rfl rfl ?_
  show lt_J X 6 180 (ly_S 28 26) _ 53 [(0, .ref (lt_z X + 21))] [.ref (lt_z X + 21)]
  refine jr_bipush (v := 30) hF dX9_init_53 rfl ?_
  show lt_J X 6 180 (ly_S 28 26) _ 55 [(0, .ref (lt_z X + 21))] [.int 30, .ref (lt_z X + 21)]
  refine jr_newa_int (len := 30) (n := 30) hF lyq_10 rfl rfl (by decide) (by decide) rfl (hz.up (Nat.le_of_ble_eq_true rfl : 22 ≤ 28)) ⟨Nat.le_of_ble_eq_true rfl, Nat.le_of_ble_eq_true rfl⟩ dX9_init_55 ?_
  show lt_J X 7 210 (ly_S 29 26) _ 57 [(0, .ref (lt_z X + 21))] [.ref (lt_z X + 28), .ref (lt_z X + 21)]
  refine jr_putR (a := 21) (b := 28) hF hI clX9 (Nat.le_of_ble_eq_true rfl) lyf_X9_30 rfl rfl rfl (fun x => ⟨rfl, rfl⟩) (Nat.le_of_ble_eq_true rfl) rfl lyp_26 rfl dX9_init_57 ?_
  show lt_J X 7 210 (ly_S 29 27) _ 60 [(0, .ref (lt_z X + 21))] []
  exact jr_return hF hE dX9_init_60
