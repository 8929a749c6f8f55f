def SH : List fx_S := [.inr (.inr (11, [3, 42, 81, 125, 132, 133, 134, 138, 153, 0, 0, 0])), .inr (.inr (10, [4, 10, 17, 18, 25, 32])), .inr (.inr (1, [0, 0, 5, 6, 7, 8, 9])), .inl 16, .inl 16, .inl 16, .inl 8, .inl 8, .inr (.inr (6, [11, 12, 13, 14, 15, 16, 0, 0, 0, 0, 0, 0, 0])), .inl 16, .inl 16, .inl 16, .inl 8, .inl 8, .inl 64, .inl 600, .inr (.inr (2, [19, 20, 21, 22, 23, 24, 0, 0])), .inl 400, .inl 16, .inl 16, .inl 16, .inl 12, .inl 32, .inr (.inr (5, [26, 27, 28, 29, 30, 31, 0, 0, 0])), .inl 8, .inl 64, .inl 16, .inl 16, .inl 16, .inl 16, .inr (.inr (9, [33, 34, 35, 36, 37, 38, 39, 40, 41, 0, 0, 0, 0, 0])), .inl 8, .inl 9, .inl 6, .inl 64, .inl 7, .inl 7, .inl 8, .inl 8, .inl 20, .inr (.inr (10, [43, 49, 56, 57, 64, 71])), .inr (.inr (1, [0, 0, 44, 45, 46, 47, 48])), .inl 16, .inl 16, .inl 16, .inl 8, .inl 8, .inr (.inr (6, [50, 51, 52, 53, 54, 55, 0, 0, 0, 0, 0, 0, 0])), .inl 16, .inl 16, .inl 16, .inl 8, .inl 8, .inl 64, .inl 600, .inr (.inr (2, [58, 59, 60, 61, 62, 63, 0, 0])), .inl 400, .inl 16, .inl 16, .inl 16, .inl 12, .inl 32, .inr (.inr (5, [65, 66, 67, 68, 69, 70, 0, 0, 0])), .inl 8, .inl 64, .inl 16, .inl 16, .inl 16, .inl 16, .inr (.inr (9, [72, 73, 74, 75, 76, 77, 78, 79, 80, 0, 0, 0, 0, 0])), .inl 8, .inl 9, .inl 6, .inl 64, .inl 7, .inl 7, .inl 8, .inl 8, .inl 20, .inr (.inr (4, [82, 0, 0])), .inr (.inl [82, 89, 96, 103, 110, 117]), .inr (.inr (6, [84, 85, 86, 87, 88, 89, 0, 0, 0, 0, 0, 0, 0])), .inl 16, .inl 16, .inl 16, .inl 8, .inl 8, .inl 64, .inr (.inr (6, [91, 92, 93, 94, 95, 96, 0, 0, 0, 0, 0, 0, 0])), .inl 16, .inl 16, .inl 16, .inl 8, .inl 8, .inl 64, .inr (.inr (6, [98, 99, 100, 101, 102, 103, 0, 0, 0, 0, 0, 0, 0])), .inl 16, .inl 16, .inl 16, .inl 8, .inl 8, .inl 64, .inr (.inr (6, [105, 106, 107, 108, 109, 110, 0, 0, 0, 0, 0, 0, 0])), .inl 16, .inl 16, .inl 16, .inl 8, .inl 8, .inl 64, .inr (.inr (6, [112, 113, 114, 115, 116, 117, 0, 0, 0, 0, 0, 0, 0])), .inl 16, .inl 16, .inl 16, .inl 8, .inl 8, .inl 64, .inr (.inr (6, [119, 120, 121, 122, 123, 124, 0, 0, 0, 0, 0, 0, 0])), .inl 16, .inl 16, .inl 16, .inl 8, .inl 8, .inl 64, .inr (.inr (6, [126, 127, 128, 129, 130, 131, 0, 0, 0, 0, 0, 0, 0])), .inl 16, .inl 16, .inl 16, .inl 8, .inl 8, .inl 64, .inr (.inr (0, [4, 18, 25, 17, 10, 0, 0, 0, 0])), .inr (.inr (0, [4, 18, 25, 17, 125, 0, 0, 0, 0])), .inr (.inr (7, [135, 0, 136, 137, 0, 0, 0, 0, 0])), .inl 400, .inl 401, .inl 401, .inr (.inr (3, [139, 146, 134, 0, 0])), .inr (.inr (2, [140, 141, 142, 143, 144, 145, 0, 0])), .inl 400, .inl 16, .inl 16, .inl 16, .inl 12, .inl 32, .inr (.inr (5, [147, 148, 149, 150, 151, 152, 0, 0, 0])), .inl 8, .inl 64, .inl 16, .inl 16, .inl 16, .inl 16, .inr (.inr (8, [154, 155, 156, 157, 158, 159, 160])), .inl 1000, .inl 1000, .inl 8, .inl 512, .inl 1152, .inl 16, .inl 8, .inr (.inr (12, [0, 162, 163, 0, 164, 0, 0, 0, 165, 166, 167, 168, 169, 170, 171, 0, 0, 0, 0, 0, 172, 173, 174, 175, 176, 177, 178, 179, 0, 0, 0, 180, 0, 0, 0, 0, 0, 0, 181, 0, 182, 0, 183, 184, 185, 0, 0, 0, 186, 187, 188, 0, 189, 0, 190, 191, 192, 193, 194, 0, 195, 196, 0, 197, 198, 0, 199, 200, 0, 0, 0, 201])), .inl 135, .inl 810, .inl 135, .inl 16, .inl 16, .inl 16, .inl 8, .inl 8, .inl 600, .inl 400, .inl 148, .inl 2, .inl 48, .inl 48, .inl 48, .inl 48, .inl 1200, .inl 1200, .inl 40, .inl 16, .inl 128, .inl 128, .inl 12, .inl 420, .inl 8, .inl 1000, .inl 1000, .inl 6, .inl 9, .inl 512, .inl 64, .inl 8, .inl 1152, .inl 7, .inl 7, .inl 8, .inl 8, .inl 20, .inl 10, .inl 2300]
theorem sh_0 : SH[0]? = some (.inr (.inr (11, [3, 42, 81, 125, 132, 133, 134, 138, 153, 0, 0, 0]))) := rfl
theorem sh_1 : SH[1]? = some (.inr (.inr (10, [4, 10, 17, 18, 25, 32]))) := rfl
theorem sh_2 : SH[2]? = some (.inr (.inr (1, [0, 0, 5, 6, 7, 8, 9]))) := rfl
theorem sh_3 : SH[3]? = some (.inl 16) := rfl
theorem sh_4 : SH[4]? = some (.inl 16) := rfl
theorem sh_5 : SH[5]? = some (.inl 16) := rfl
theorem sh_6 : SH[6]? = some (.inl 8) := rfl
theorem sh_7 : SH[7]? = some (.inl 8) := rfl
theorem sh_8 : SH[8]? = some (.inr (.inr (6, [11, 12, 13, 14, 15, 16, 0, 0, 0, 0, 0, 0, 0]))) := rfl
theorem sh_9 : SH[9]? = some (.inl 16) := rfl
theorem sh_10 : SH[10]? = some (.inl 16) := rfl
theorem sh_11 : SH[11]? = some (.inl 16) := rfl
theorem sh_12 : SH[12]? = some (.inl 8) := rfl
theorem sh_13 : SH[13]? = some (.inl 8) := rfl
theorem sh_14 : SH[14]? = some (.inl 64) := rfl
theorem sh_15 : SH[15]? = some (.inl 600) := rfl
theorem sh_16 : SH[16]? = some (.inr (.inr (2, [19, 20, 21, 22, 23, 24, 0, 0]))) := rfl
theorem sh_17 : SH[17]? = some (.inl 400) := rfl
theorem sh_18 : SH[18]? = some (.inl 16) := rfl
theorem sh_19 : SH[19]? = some (.inl 16) := rfl
theorem sh_20 : SH[20]? = some (.inl 16) := rfl
theorem sh_21 : SH[21]? = some (.inl 12) := rfl
theorem sh_22 : SH[22]? = some (.inl 32) := rfl
theorem sh_23 : SH[23]? = some (.inr (.inr (5, [26, 27, 28, 29, 30, 31, 0, 0, 0]))) := rfl
theorem sh_24 : SH[24]? = some (.inl 8) := rfl
theorem sh_25 : SH[25]? = some (.inl 64) := rfl
theorem sh_26 : SH[26]? = some (.inl 16) := rfl
theorem sh_27 : SH[27]? = some (.inl 16) := rfl
theorem sh_28 : SH[28]? = some (.inl 16) := rfl
theorem sh_29 : SH[29]? = some (.inl 16) := rfl
theorem sh_30 : SH[30]? = some (.inr (.inr (9, [33, 34, 35, 36, 37, 38, 39, 40, 41, 0, 0, 0, 0, 0]))) := rfl
theorem sh_31 : SH[31]? = some (.inl 8) := rfl
theorem sh_32 : SH[32]? = some (.inl 9) := rfl
theorem sh_33 : SH[33]? = some (.inl 6) := rfl
theorem sh_34 : SH[34]? = some (.inl 64) := rfl
theorem sh_35 : SH[35]? = some (.inl 7) := rfl
theorem sh_36 : SH[36]? = some (.inl 7) := rfl
theorem sh_37 : SH[37]? = some (.inl 8) := rfl
theorem sh_38 : SH[38]? = some (.inl 8) := rfl
theorem sh_39 : SH[39]? = some (.inl 20) := rfl
theorem sh_40 : SH[40]? = some (.inr (.inr (10, [43, 49, 56, 57, 64, 71]))) := rfl
theorem sh_41 : SH[41]? = some (.inr (.inr (1, [0, 0, 44, 45, 46, 47, 48]))) := rfl
theorem sh_42 : SH[42]? = some (.inl 16) := rfl
theorem sh_43 : SH[43]? = some (.inl 16) := rfl
theorem sh_44 : SH[44]? = some (.inl 16) := rfl
theorem sh_45 : SH[45]? = some (.inl 8) := rfl
theorem sh_46 : SH[46]? = some (.inl 8) := rfl
theorem sh_47 : SH[47]? = some (.inr (.inr (6, [50, 51, 52, 53, 54, 55, 0, 0, 0, 0, 0, 0, 0]))) := rfl
theorem sh_48 : SH[48]? = some (.inl 16) := rfl
theorem sh_49 : SH[49]? = some (.inl 16) := rfl
theorem sh_50 : SH[50]? = some (.inl 16) := rfl
theorem sh_51 : SH[51]? = some (.inl 8) := rfl
theorem sh_52 : SH[52]? = some (.inl 8) := rfl
theorem sh_53 : SH[53]? = some (.inl 64) := rfl
theorem sh_54 : SH[54]? = some (.inl 600) := rfl
theorem sh_55 : SH[55]? = some (.inr (.inr (2, [58, 59, 60, 61, 62, 63, 0, 0]))) := rfl
theorem sh_56 : SH[56]? = some (.inl 400) := rfl
theorem sh_57 : SH[57]? = some (.inl 16) := rfl
theorem sh_58 : SH[58]? = some (.inl 16) := rfl
theorem sh_59 : SH[59]? = some (.inl 16) := rfl
theorem sh_60 : SH[60]? = some (.inl 12) := rfl
theorem sh_61 : SH[61]? = some (.inl 32) := rfl
theorem sh_62 : SH[62]? = some (.inr (.inr (5, [65, 66, 67, 68, 69, 70, 0, 0, 0]))) := rfl
theorem sh_63 : SH[63]? = some (.inl 8) := rfl
theorem sh_64 : SH[64]? = some (.inl 64) := rfl
theorem sh_65 : SH[65]? = some (.inl 16) := rfl
theorem sh_66 : SH[66]? = some (.inl 16) := rfl
theorem sh_67 : SH[67]? = some (.inl 16) := rfl
theorem sh_68 : SH[68]? = some (.inl 16) := rfl
theorem sh_69 : SH[69]? = some (.inr (.inr (9, [72, 73, 74, 75, 76, 77, 78, 79, 80, 0, 0, 0, 0, 0]))) := rfl
theorem sh_70 : SH[70]? = some (.inl 8) := rfl
theorem sh_71 : SH[71]? = some (.inl 9) := rfl
theorem sh_72 : SH[72]? = some (.inl 6) := rfl
theorem sh_73 : SH[73]? = some (.inl 64) := rfl
theorem sh_74 : SH[74]? = some (.inl 7) := rfl
theorem sh_75 : SH[75]? = some (.inl 7) := rfl
theorem sh_76 : SH[76]? = some (.inl 8) := rfl
theorem sh_77 : SH[77]? = some (.inl 8) := rfl
theorem sh_78 : SH[78]? = some (.inl 20) := rfl
theorem sh_79 : SH[79]? = some (.inr (.inr (4, [82, 0, 0]))) := rfl
theorem sh_80 : SH[80]? = some (.inr (.inl [82, 89, 96, 103, 110, 117])) := rfl
theorem sh_81 : SH[81]? = some (.inr (.inr (6, [84, 85, 86, 87, 88, 89, 0, 0, 0, 0, 0, 0, 0]))) := rfl
theorem sh_82 : SH[82]? = some (.inl 16) := rfl
theorem sh_83 : SH[83]? = some (.inl 16) := rfl
theorem sh_84 : SH[84]? = some (.inl 16) := rfl
theorem sh_85 : SH[85]? = some (.inl 8) := rfl
theorem sh_86 : SH[86]? = some (.inl 8) := rfl
theorem sh_87 : SH[87]? = some (.inl 64) := rfl
theorem sh_88 : SH[88]? = some (.inr (.inr (6, [91, 92, 93, 94, 95, 96, 0, 0, 0, 0, 0, 0, 0]))) := rfl
theorem sh_89 : SH[89]? = some (.inl 16) := rfl
theorem sh_90 : SH[90]? = some (.inl 16) := rfl
theorem sh_91 : SH[91]? = some (.inl 16) := rfl
theorem sh_92 : SH[92]? = some (.inl 8) := rfl
theorem sh_93 : SH[93]? = some (.inl 8) := rfl
theorem sh_94 : SH[94]? = some (.inl 64) := rfl
theorem sh_95 : SH[95]? = some (.inr (.inr (6, [98, 99, 100, 101, 102, 103, 0, 0, 0, 0, 0, 0, 0]))) := rfl
theorem sh_96 : SH[96]? = some (.inl 16) := rfl
theorem sh_97 : SH[97]? = some (.inl 16) := rfl
theorem sh_98 : SH[98]? = some (.inl 16) := rfl
theorem sh_99 : SH[99]? = some (.inl 8) := rfl
theorem sh_100 : SH[100]? = some (.inl 8) := rfl
theorem sh_101 : SH[101]? = some (.inl 64) := rfl
theorem sh_102 : SH[102]? = some (.inr (.inr (6, [105, 106, 107, 108, 109, 110, 0, 0, 0, 0, 0, 0, 0]))) := rfl
theorem sh_103 : SH[103]? = some (.inl 16) := rfl
theorem sh_104 : SH[104]? = some (.inl 16) := rfl
theorem sh_105 : SH[105]? = some (.inl 16) := rfl
theorem sh_106 : SH[106]? = some (.inl 8) := rfl
theorem sh_107 : SH[107]? = some (.inl 8) := rfl
theorem sh_108 : SH[108]? = some (.inl 64) := rfl
theorem sh_109 : SH[109]? = some (.inr (.inr (6, [112, 113, 114, 115, 116, 117, 0, 0, 0, 0, 0, 0, 0]))) := rfl
theorem sh_110 : SH[110]? = some (.inl 16) := rfl
theorem sh_111 : SH[111]? = some (.inl 16) := rfl
theorem sh_112 : SH[112]? = some (.inl 16) := rfl
theorem sh_113 : SH[113]? = some (.inl 8) := rfl
theorem sh_114 : SH[114]? = some (.inl 8) := rfl
theorem sh_115 : SH[115]? = some (.inl 64) := rfl
theorem sh_116 : SH[116]? = some (.inr (.inr (6, [119, 120, 121, 122, 123, 124, 0, 0, 0, 0, 0, 0, 0]))) := rfl
theorem sh_117 : SH[117]? = some (.inl 16) := rfl
theorem sh_118 : SH[118]? = some (.inl 16) := rfl
theorem sh_119 : SH[119]? = some (.inl 16) := rfl
theorem sh_120 : SH[120]? = some (.inl 8) := rfl
theorem sh_121 : SH[121]? = some (.inl 8) := rfl
theorem sh_122 : SH[122]? = some (.inl 64) := rfl
theorem sh_123 : SH[123]? = some (.inr (.inr (6, [126, 127, 128, 129, 130, 131, 0, 0, 0, 0, 0, 0, 0]))) := rfl
theorem sh_124 : SH[124]? = some (.inl 16) := rfl
theorem sh_125 : SH[125]? = some (.inl 16) := rfl
theorem sh_126 : SH[126]? = some (.inl 16) := rfl
theorem sh_127 : SH[127]? = some (.inl 8) := rfl
theorem sh_128 : SH[128]? = some (.inl 8) := rfl
theorem sh_129 : SH[129]? = some (.inl 64) := rfl
theorem sh_130 : SH[130]? = some (.inr (.inr (0, [4, 18, 25, 17, 10, 0, 0, 0, 0]))) := rfl
theorem sh_131 : SH[131]? = some (.inr (.inr (0, [4, 18, 25, 17, 125, 0, 0, 0, 0]))) := rfl
theorem sh_132 : SH[132]? = some (.inr (.inr (7, [135, 0, 136, 137, 0, 0, 0, 0, 0]))) := rfl
theorem sh_133 : SH[133]? = some (.inl 400) := rfl
theorem sh_134 : SH[134]? = some (.inl 401) := rfl
theorem sh_135 : SH[135]? = some (.inl 401) := rfl
theorem sh_136 : SH[136]? = some (.inr (.inr (3, [139, 146, 134, 0, 0]))) := rfl
theorem sh_137 : SH[137]? = some (.inr (.inr (2, [140, 141, 142, 143, 144, 145, 0, 0]))) := rfl
theorem sh_138 : SH[138]? = some (.inl 400) := rfl
theorem sh_139 : SH[139]? = some (.inl 16) := rfl
theorem sh_140 : SH[140]? = some (.inl 16) := rfl
theorem sh_141 : SH[141]? = some (.inl 16) := rfl
theorem sh_142 : SH[142]? = some (.inl 12) := rfl
theorem sh_143 : SH[143]? = some (.inl 32) := rfl
theorem sh_144 : SH[144]? = some (.inr (.inr (5, [147, 148, 149, 150, 151, 152, 0, 0, 0]))) := rfl
theorem sh_145 : SH[145]? = some (.inl 8) := rfl
theorem sh_146 : SH[146]? = some (.inl 64) := rfl
theorem sh_147 : SH[147]? = some (.inl 16) := rfl
theorem sh_148 : SH[148]? = some (.inl 16) := rfl
theorem sh_149 : SH[149]? = some (.inl 16) := rfl
theorem sh_150 : SH[150]? = some (.inl 16) := rfl
theorem sh_151 : SH[151]? = some (.inr (.inr (8, [154, 155, 156, 157, 158, 159, 160]))) := rfl
theorem sh_152 : SH[152]? = some (.inl 1000) := rfl
theorem sh_153 : SH[153]? = some (.inl 1000) := rfl
theorem sh_154 : SH[154]? = some (.inl 8) := rfl
theorem sh_155 : SH[155]? = some (.inl 512) := rfl
theorem sh_156 : SH[156]? = some (.inl 1152) := rfl
theorem sh_157 : SH[157]? = some (.inl 16) := rfl
theorem sh_158 : SH[158]? = some (.inl 8) := rfl
theorem sh_159 : SH[159]? = some (.inr (.inr (12, [0, 162, 163, 0, 164, 0, 0, 0, 165, 166, 167, 168, 169, 170, 171, 0, 0, 0, 0, 0, 172, 173, 174, 175, 176, 177, 178, 179, 0, 0, 0, 180, 0, 0, 0, 0, 0, 0, 181, 0, 182, 0, 183, 184, 185, 0, 0, 0, 186, 187, 188, 0, 189, 0, 190, 191, 192, 193, 194, 0, 195, 196, 0, 197, 198, 0, 199, 200, 0, 0, 0, 201]))) := rfl
theorem sh_160 : SH[160]? = some (.inl 135) := rfl
theorem sh_161 : SH[161]? = some (.inl 810) := rfl
theorem sh_162 : SH[162]? = some (.inl 135) := rfl
theorem sh_163 : SH[163]? = some (.inl 16) := rfl
theorem sh_164 : SH[164]? = some (.inl 16) := rfl
theorem sh_165 : SH[165]? = some (.inl 16) := rfl
theorem sh_166 : SH[166]? = some (.inl 8) := rfl
theorem sh_167 : SH[167]? = some (.inl 8) := rfl
theorem sh_168 : SH[168]? = some (.inl 600) := rfl
theorem sh_169 : SH[169]? = some (.inl 400) := rfl
theorem sh_170 : SH[170]? = some (.inl 148) := rfl
theorem sh_171 : SH[171]? = some (.inl 2) := rfl
theorem sh_172 : SH[172]? = some (.inl 48) := rfl
theorem sh_173 : SH[173]? = some (.inl 48) := rfl
theorem sh_174 : SH[174]? = some (.inl 48) := rfl
theorem sh_175 : SH[175]? = some (.inl 48) := rfl
theorem sh_176 : SH[176]? = some (.inl 1200) := rfl
theorem sh_177 : SH[177]? = some (.inl 1200) := rfl
theorem sh_178 : SH[178]? = some (.inl 40) := rfl
theorem sh_179 : SH[179]? = some (.inl 16) := rfl
theorem sh_180 : SH[180]? = some (.inl 128) := rfl
theorem sh_181 : SH[181]? = some (.inl 128) := rfl
theorem sh_182 : SH[182]? = some (.inl 12) := rfl
theorem sh_183 : SH[183]? = some (.inl 420) := rfl
theorem sh_184 : SH[184]? = some (.inl 8) := rfl
theorem sh_185 : SH[185]? = some (.inl 1000) := rfl
theorem sh_186 : SH[186]? = some (.inl 1000) := rfl
theorem sh_187 : SH[187]? = some (.inl 6) := rfl
theorem sh_188 : SH[188]? = some (.inl 9) := rfl
theorem sh_189 : SH[189]? = some (.inl 512) := rfl
theorem sh_190 : SH[190]? = some (.inl 64) := rfl
theorem sh_191 : SH[191]? = some (.inl 8) := rfl
theorem sh_192 : SH[192]? = some (.inl 1152) := rfl
theorem sh_193 : SH[193]? = some (.inl 7) := rfl
theorem sh_194 : SH[194]? = some (.inl 7) := rfl
theorem sh_195 : SH[195]? = some (.inl 8) := rfl
theorem sh_196 : SH[196]? = some (.inl 8) := rfl
theorem sh_197 : SH[197]? = some (.inl 20) := rfl
theorem sh_198 : SH[198]? = some (.inl 10) := rfl
theorem sh_199 : SH[199]? = some (.inl 2300) := rfl
def rf (o j : Nat) : Nat := match SH[o]? with
  | some (.inr (.inr (_, fs))) => fs.getD j 0 - 2
  | _ => 0
def ln (k : Nat) : Nat := match SH[k]? with
  | some (.inl n) => n
  | _ => 0
theorem ln_of {k n : Nat} (h : SH[k]? = some (.inl n)) : SH[k]? = some (.inl (ln k)) := by
  have e : ln k = n := by unfold ln; rw [h]
  rw [e]; exact h
def qr (j : Nat) : Nat := [81, 88, 95, 102, 109, 116].getD j 81
def id_Whole : List Nat := [1, 40]
def id_Cast : List Nat := [2, 41]
def id_Quay : List Nat := [8, 47, 81, 88, 95, 102, 109, 116, 123]
def id_Law : List Nat := [16, 55, 137]
def id_Plans : List Nat := [23, 62, 144]
def id_Told : List Nat := [30, 69]
def id_Auction : List Nat := [130, 131]
theorem sc_Whole : ∀ o ∈ id_Whole, SH[o]? = some (.inr (.inr (10, [rf o 0 + 2, rf o 1 + 2, rf o 2 + 2, rf o 3 + 2, rf o 4 + 2, rf o 5 + 2]))) := by decide +kernel
theorem sm_Whole_0 : ∀ o ∈ id_Whole, rf o 0 ∈ id_Cast := by decide +kernel
theorem sm_Whole_1 : ∀ o ∈ id_Whole, rf o 1 ∈ id_Quay := by decide +kernel
theorem sa_Whole_2 : ∀ o ∈ id_Whole, SH[rf o 2]? = some (.inl 600) := by decide +kernel
theorem sm_Whole_3 : ∀ o ∈ id_Whole, rf o 3 ∈ id_Law := by decide +kernel
theorem sm_Whole_4 : ∀ o ∈ id_Whole, rf o 4 ∈ id_Plans := by decide +kernel
theorem sm_Whole_5 : ∀ o ∈ id_Whole, rf o 5 ∈ id_Told := by decide +kernel
theorem sc_Cast : ∀ o ∈ id_Cast, SH[o]? = some (.inr (.inr (1, [0, 0, rf o 2 + 2, rf o 3 + 2, rf o 4 + 2, rf o 5 + 2, rf o 6 + 2]))) := by decide +kernel
theorem sa_Cast_2 : ∀ o ∈ id_Cast, SH[rf o 2]? = some (.inl 16) := by decide +kernel
theorem sa_Cast_3 : ∀ o ∈ id_Cast, SH[rf o 3]? = some (.inl 16) := by decide +kernel
theorem sa_Cast_4 : ∀ o ∈ id_Cast, SH[rf o 4]? = some (.inl 16) := by decide +kernel
theorem sa_Cast_5 : ∀ o ∈ id_Cast, SH[rf o 5]? = some (.inl 8) := by decide +kernel
theorem sa_Cast_6 : ∀ o ∈ id_Cast, SH[rf o 6]? = some (.inl 8) := by decide +kernel
theorem sc_Quay : ∀ o ∈ id_Quay, SH[o]? = some (.inr (.inr (6, [rf o 0 + 2, rf o 1 + 2, rf o 2 + 2, rf o 3 + 2, rf o 4 + 2, rf o 5 + 2, 0, 0, 0, 0, 0, 0, 0]))) := by decide +kernel
theorem sa_Quay_0 : ∀ o ∈ id_Quay, SH[rf o 0]? = some (.inl 16) := by decide +kernel
theorem sa_Quay_1 : ∀ o ∈ id_Quay, SH[rf o 1]? = some (.inl 16) := by decide +kernel
theorem sa_Quay_2 : ∀ o ∈ id_Quay, SH[rf o 2]? = some (.inl 16) := by decide +kernel
theorem sa_Quay_3 : ∀ o ∈ id_Quay, SH[rf o 3]? = some (.inl 8) := by decide +kernel
theorem sa_Quay_4 : ∀ o ∈ id_Quay, SH[rf o 4]? = some (.inl 8) := by decide +kernel
theorem sa_Quay_5 : ∀ o ∈ id_Quay, SH[rf o 5]? = some (.inl 64) := by decide +kernel
theorem sc_Law : ∀ o ∈ id_Law, SH[o]? = some (.inr (.inr (2, [rf o 0 + 2, rf o 1 + 2, rf o 2 + 2, rf o 3 + 2, rf o 4 + 2, rf o 5 + 2, 0, 0]))) := by decide +kernel
theorem sa_Law_0 : ∀ o ∈ id_Law, SH[rf o 0]? = some (.inl 400) := by decide +kernel
theorem sa_Law_1 : ∀ o ∈ id_Law, SH[rf o 1]? = some (.inl 16) := by decide +kernel
theorem sa_Law_2 : ∀ o ∈ id_Law, SH[rf o 2]? = some (.inl 16) := by decide +kernel
theorem sa_Law_3 : ∀ o ∈ id_Law, SH[rf o 3]? = some (.inl 16) := by decide +kernel
theorem sa_Law_4 : ∀ o ∈ id_Law, SH[rf o 4]? = some (.inl 12) := by decide +kernel
theorem sa_Law_5 : ∀ o ∈ id_Law, SH[rf o 5]? = some (.inl 32) := by decide +kernel
theorem sc_Plans : ∀ o ∈ id_Plans, SH[o]? = some (.inr (.inr (5, [rf o 0 + 2, rf o 1 + 2, rf o 2 + 2, rf o 3 + 2, rf o 4 + 2, rf o 5 + 2, 0, 0, 0]))) := by decide +kernel
theorem sa_Plans_0 : ∀ o ∈ id_Plans, SH[rf o 0]? = some (.inl 8) := by decide +kernel
theorem sa_Plans_1 : ∀ o ∈ id_Plans, SH[rf o 1]? = some (.inl 64) := by decide +kernel
theorem sa_Plans_2 : ∀ o ∈ id_Plans, SH[rf o 2]? = some (.inl 16) := by decide +kernel
theorem sa_Plans_3 : ∀ o ∈ id_Plans, SH[rf o 3]? = some (.inl 16) := by decide +kernel
theorem sa_Plans_4 : ∀ o ∈ id_Plans, SH[rf o 4]? = some (.inl 16) := by decide +kernel
theorem sa_Plans_5 : ∀ o ∈ id_Plans, SH[rf o 5]? = some (.inl 16) := by decide +kernel
theorem sc_Told : ∀ o ∈ id_Told, SH[o]? = some (.inr (.inr (9, [rf o 0 + 2, rf o 1 + 2, rf o 2 + 2, rf o 3 + 2, rf o 4 + 2, rf o 5 + 2, rf o 6 + 2, rf o 7 + 2, rf o 8 + 2, 0, 0, 0, 0, 0]))) := by decide +kernel
theorem sa_Told_0 : ∀ o ∈ id_Told, SH[rf o 0]? = some (.inl 8) := by decide +kernel
theorem sa_Told_1 : ∀ o ∈ id_Told, SH[rf o 1]? = some (.inl 9) := by decide +kernel
theorem sa_Told_2 : ∀ o ∈ id_Told, SH[rf o 2]? = some (.inl 6) := by decide +kernel
theorem sa_Told_3 : ∀ o ∈ id_Told, SH[rf o 3]? = some (.inl 64) := by decide +kernel
theorem sa_Told_4 : ∀ o ∈ id_Told, SH[rf o 4]? = some (.inl 7) := by decide +kernel
theorem sa_Told_5 : ∀ o ∈ id_Told, SH[rf o 5]? = some (.inl 7) := by decide +kernel
theorem sa_Told_6 : ∀ o ∈ id_Told, SH[rf o 6]? = some (.inl 8) := by decide +kernel
theorem sa_Told_7 : ∀ o ∈ id_Told, SH[rf o 7]? = some (.inl 8) := by decide +kernel
theorem sa_Told_8 : ∀ o ∈ id_Told, SH[rf o 8]? = some (.inl 20) := by decide +kernel
theorem sc_Auction : ∀ o ∈ id_Auction, SH[o]? = some (.inr (.inr (0, [rf o 0 + 2, rf o 1 + 2, rf o 2 + 2, rf o 3 + 2, rf o 4 + 2, 0, 0, 0, 0]))) := by decide +kernel
theorem sm_Auction_0 : ∀ o ∈ id_Auction, rf o 0 ∈ id_Cast := by decide +kernel
theorem sm_Auction_1 : ∀ o ∈ id_Auction, rf o 1 ∈ id_Law := by decide +kernel
theorem sm_Auction_2 : ∀ o ∈ id_Auction, rf o 2 ∈ id_Plans := by decide +kernel
theorem sa_Auction_3 : ∀ o ∈ id_Auction, SH[rf o 3]? = some (.inl 600) := by decide +kernel
theorem sm_Auction_4 : ∀ o ∈ id_Auction, rf o 4 ∈ id_Quay := by decide +kernel
theorem qr_in : ∀ j, qr j ∈ id_Quay := by
  intro j
  match j with
  | 0 => decide
  | 1 => decide
  | 2 => decide
  | 3 => decide
  | 4 => decide
  | 5 => decide
  | j + 6 => exact (by decide : (81 : Nat) ∈ id_Quay)
theorem qr_ok {i : Int32} (h : vp_in i 6) : [82, 89, 96, 103, 110, 117].getD i.toNatClampNeg 0 = qr i.toNatClampNeg + 1 := by
  have h2 : i.toNatClampNeg < 6 := Nat.not_le.mp fun q => h (Or.inr q)
  match i.toNatClampNeg, h2 with
  | 0, _ => rfl
  | 1, _ => rfl
  | 2, _ => rfl
  | 3, _ => rfl
  | 4, _ => rfl
  | 5, _ => rfl
  | j + 6, h => exact absurd h (by omega)
