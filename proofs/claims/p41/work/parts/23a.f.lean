/-! Where each instruction stands. -/
set_option maxRecDepth 100000 in
theorem m_0 : fx_mt[0]? = some mq_0 := rfl
set_option maxRecDepth 100000 in
theorem m_1 : fx_mt[1]? = some mq_1 := rfl
set_option maxRecDepth 100000 in
theorem m_2 : fx_mt[2]? = some mq_2 := rfl
set_option maxRecDepth 100000 in
theorem m_3 : fx_mt[3]? = some mq_3 := rfl
set_option maxRecDepth 100000 in
theorem m_4 : fx_mt[4]? = some mq_4 := rfl
set_option maxRecDepth 100000 in
theorem m_5 : fx_mt[5]? = some mq_5 := rfl
set_option maxRecDepth 100000 in
theorem m_6 : fx_mt[6]? = some mq_6 := rfl
set_option maxRecDepth 100000 in
theorem m_7 : fx_mt[7]? = some mq_7 := rfl
set_option maxRecDepth 100000 in
theorem m_8 : fx_mt[8]? = some mq_8 := rfl
set_option maxRecDepth 100000 in
theorem m_9 : fx_mt[9]? = some mq_9 := rfl
set_option maxRecDepth 100000 in
theorem m_10 : fx_mt[10]? = some mq_10 := rfl
set_option maxRecDepth 100000 in
theorem m_11 : fx_mt[11]? = some mq_11 := rfl
set_option maxRecDepth 100000 in
theorem m_12 : fx_mt[12]? = some mq_12 := rfl
set_option maxRecDepth 100000 in
theorem m_13 : fx_mt[13]? = some mq_13 := rfl
set_option maxRecDepth 100000 in
theorem m_14 : fx_mt[14]? = some mq_14 := rfl
set_option maxRecDepth 100000 in
theorem m_15 : fx_mt[15]? = some mq_15 := rfl
set_option maxRecDepth 100000 in
theorem m_16 : fx_mt[16]? = some mq_16 := rfl
set_option maxRecDepth 100000 in
theorem m_17 : fx_mt[17]? = some mq_17 := rfl
set_option maxRecDepth 100000 in
theorem m_18 : fx_mt[18]? = some mq_18 := rfl
set_option maxRecDepth 100000 in
theorem m_19 : fx_mt[19]? = some mq_19 := rfl
set_option maxRecDepth 100000 in
theorem m_20 : fx_mt[20]? = some mq_20 := rfl
set_option maxRecDepth 100000 in
theorem m_21 : fx_mt[21]? = some mq_21 := rfl
set_option maxRecDepth 100000 in
theorem m_22 : fx_mt[22]? = some mq_22 := rfl
set_option maxRecDepth 100000 in
theorem m_23 : fx_mt[23]? = some mq_23 := rfl
set_option maxRecDepth 100000 in
theorem m_24 : fx_mt[24]? = some mq_24 := rfl
set_option maxRecDepth 100000 in
theorem m_25 : fx_mt[25]? = some mq_25 := rfl
set_option maxRecDepth 100000 in
theorem m_26 : fx_mt[26]? = some mq_26 := rfl
set_option maxRecDepth 100000 in
theorem m_27 : fx_mt[27]? = some mq_27 := rfl
set_option maxRecDepth 100000 in
theorem m_28 : fx_mt[28]? = some mq_28 := rfl
set_option maxRecDepth 100000 in
theorem m_29 : fx_mt[29]? = some mq_29 := rfl
set_option maxRecDepth 100000 in
theorem m_30 : fx_mt[30]? = some mq_30 := rfl
set_option maxRecDepth 100000 in
theorem m_31 : fx_mt[31]? = some mq_31 := rfl
set_option maxRecDepth 100000 in
theorem m_32 : fx_mt[32]? = some mq_32 := rfl
set_option maxRecDepth 100000 in
theorem m_33 : fx_mt[33]? = some mq_33 := rfl
set_option maxRecDepth 100000 in
theorem m_34 : fx_mt[34]? = some mq_34 := rfl
set_option maxRecDepth 100000 in
theorem m_35 : fx_mt[35]? = some mq_35 := rfl
set_option maxRecDepth 100000 in
theorem m_36 : fx_mt[36]? = some mq_36 := rfl
set_option maxRecDepth 100000 in
theorem m_37 : fx_mt[37]? = some mq_37 := rfl
set_option maxRecDepth 100000 in
theorem m_38 : fx_mt[38]? = some mq_38 := rfl
set_option maxRecDepth 100000 in
theorem m_39 : fx_mt[39]? = some mq_39 := rfl
set_option maxRecDepth 100000 in
theorem m_40 : fx_mt[40]? = some mq_40 := rfl
set_option maxRecDepth 100000 in
theorem m_41 : fx_mt[41]? = some mq_41 := rfl
set_option maxRecDepth 100000 in
theorem m_42 : fx_mt[42]? = some mq_42 := rfl
set_option maxRecDepth 100000 in
theorem m_43 : fx_mt[43]? = some mq_43 := rfl
set_option maxRecDepth 100000 in
theorem m_44 : fx_mt[44]? = some mq_44 := rfl
set_option maxRecDepth 100000 in
theorem m_45 : fx_mt[45]? = some mq_45 := rfl
set_option maxRecDepth 100000 in
theorem m_46 : fx_mt[46]? = some mq_46 := rfl
set_option maxRecDepth 100000 in
theorem m_47 : fx_mt[47]? = some mq_47 := rfl
set_option maxRecDepth 100000 in
theorem m_48 : fx_mt[48]? = some mq_48 := rfl
set_option maxRecDepth 100000 in
theorem m_49 : fx_mt[49]? = some mq_49 := rfl
set_option maxRecDepth 100000 in
theorem m_50 : fx_mt[50]? = some mq_50 := rfl
set_option maxRecDepth 100000 in
theorem m_51 : fx_mt[51]? = some mq_51 := rfl
set_option maxRecDepth 100000 in
theorem m_52 : fx_mt[52]? = some mq_52 := rfl
set_option maxRecDepth 100000 in
theorem m_53 : fx_mt[53]? = some mq_53 := rfl
set_option maxRecDepth 100000 in
theorem m_54 : fx_mt[54]? = some mq_54 := rfl
set_option maxRecDepth 100000 in
theorem m_55 : fx_mt[55]? = some mq_55 := rfl
set_option maxRecDepth 100000 in
theorem m_56 : fx_mt[56]? = some mq_56 := rfl
set_option maxRecDepth 100000 in
theorem m_57 : fx_mt[57]? = some mq_57 := rfl
set_option maxRecDepth 100000 in
theorem m_58 : fx_mt[58]? = some mq_58 := rfl
set_option maxRecDepth 100000 in
theorem m_59 : fx_mt[59]? = some mq_59 := rfl
set_option maxRecDepth 100000 in
theorem m_60 : fx_mt[60]? = some mq_60 := rfl
set_option maxRecDepth 100000 in
theorem m_61 : fx_mt[61]? = some mq_61 := rfl
set_option maxRecDepth 100000 in
theorem m_62 : fx_mt[62]? = some mq_62 := rfl
set_option maxRecDepth 100000 in
theorem m_63 : fx_mt[63]? = some mq_63 := rfl
set_option maxRecDepth 100000 in
theorem m_64 : fx_mt[64]? = some mq_64 := rfl
set_option maxRecDepth 100000 in
theorem m_65 : fx_mt[65]? = some mq_65 := rfl
set_option maxRecDepth 100000 in
theorem m_66 : fx_mt[66]? = some mq_66 := rfl
set_option maxRecDepth 100000 in
theorem m_67 : fx_mt[67]? = some mq_67 := rfl
set_option maxRecDepth 100000 in
theorem m_68 : fx_mt[68]? = some mq_68 := rfl
set_option maxRecDepth 100000 in
theorem m_69 : fx_mt[69]? = some mq_69 := rfl
set_option maxRecDepth 100000 in
theorem m_70 : fx_mt[70]? = some mq_70 := rfl
set_option maxRecDepth 100000 in
theorem m_71 : fx_mt[71]? = some mq_71 := rfl
set_option maxRecDepth 100000 in
theorem m_72 : fx_mt[72]? = some mq_72 := rfl
set_option maxRecDepth 100000 in
theorem m_73 : fx_mt[73]? = some mq_73 := rfl
set_option maxRecDepth 100000 in
theorem m_74 : fx_mt[74]? = some mq_74 := rfl
set_option maxRecDepth 100000 in
theorem m_75 : fx_mt[75]? = some mq_75 := rfl
set_option maxRecDepth 100000 in
theorem m_76 : fx_mt[76]? = some mq_76 := rfl
set_option maxRecDepth 100000 in
theorem m_77 : fx_mt[77]? = some mq_77 := rfl
set_option maxRecDepth 100000 in
theorem m_78 : fx_mt[78]? = some mq_78 := rfl
set_option maxRecDepth 100000 in
theorem m_79 : fx_mt[79]? = some mq_79 := rfl
set_option maxRecDepth 100000 in
theorem m_80 : fx_mt[80]? = some mq_80 := rfl
set_option maxRecDepth 100000 in
theorem m_81 : fx_mt[81]? = some mq_81 := rfl
set_option maxRecDepth 100000 in
theorem m_82 : fx_mt[82]? = some mq_82 := rfl
set_option maxRecDepth 100000 in
theorem m_83 : fx_mt[83]? = some mq_83 := rfl
set_option maxRecDepth 100000 in
theorem m_84 : fx_mt[84]? = some mq_84 := rfl
set_option maxRecDepth 100000 in
theorem m_85 : fx_mt[85]? = some mq_85 := rfl
set_option maxRecDepth 100000 in
theorem m_86 : fx_mt[86]? = some mq_86 := rfl
set_option maxRecDepth 100000 in
theorem m_87 : fx_mt[87]? = some mq_87 := rfl
set_option maxRecDepth 100000 in
theorem m_88 : fx_mt[88]? = some mq_88 := rfl
set_option maxRecDepth 100000 in
theorem m_89 : fx_mt[89]? = some mq_89 := rfl
set_option maxRecDepth 100000 in
theorem m_90 : fx_mt[90]? = some mq_90 := rfl
set_option maxRecDepth 100000 in
theorem m_91 : fx_mt[91]? = some mq_91 := rfl
set_option maxRecDepth 100000 in
theorem m_92 : fx_mt[92]? = some mq_92 := rfl
set_option maxRecDepth 100000 in
theorem m_93 : fx_mt[93]? = some mq_93 := rfl
set_option maxRecDepth 100000 in
theorem m_94 : fx_mt[94]? = some mq_94 := rfl
set_option maxRecDepth 100000 in
theorem m_95 : fx_mt[95]? = some mq_95 := rfl
set_option maxRecDepth 100000 in
theorem m_96 : fx_mt[96]? = some mq_96 := rfl
set_option maxRecDepth 100000 in
theorem m_97 : fx_mt[97]? = some mq_97 := rfl
set_option maxRecDepth 100000 in
theorem m_98 : fx_mt[98]? = some mq_98 := rfl
set_option maxRecDepth 100000 in
theorem m_99 : fx_mt[99]? = some mq_99 := rfl
set_option maxRecDepth 100000 in
theorem m_100 : fx_mt[100]? = some mq_100 := rfl
set_option maxRecDepth 100000 in
theorem m_101 : fx_mt[101]? = some mq_101 := rfl
set_option maxRecDepth 100000 in
theorem m_102 : fx_mt[102]? = some mq_102 := rfl
set_option maxRecDepth 100000 in
theorem m_103 : fx_mt[103]? = some mq_103 := rfl
set_option maxRecDepth 100000 in
theorem m_104 : fx_mt[104]? = some mq_104 := rfl
set_option maxRecDepth 100000 in
theorem m_105 : fx_mt[105]? = some mq_105 := rfl
set_option maxRecDepth 100000 in
theorem m_106 : fx_mt[106]? = some mq_106 := rfl
set_option maxRecDepth 100000 in
theorem m_107 : fx_mt[107]? = some mq_107 := rfl
set_option maxRecDepth 100000 in
theorem m_108 : fx_mt[108]? = some mq_108 := rfl
set_option maxRecDepth 100000 in
theorem m_109 : fx_mt[109]? = some mq_109 := rfl
set_option maxRecDepth 100000 in
theorem m_110 : fx_mt[110]? = some mq_110 := rfl
set_option maxRecDepth 100000 in
theorem m_111 : fx_mt[111]? = some mq_111 := rfl
set_option maxRecDepth 100000 in
theorem m_112 : fx_mt[112]? = some mq_112 := rfl
set_option maxRecDepth 100000 in
theorem m_113 : fx_mt[113]? = some mq_113 := rfl
set_option maxRecDepth 100000 in
theorem m_114 : fx_mt[114]? = some mq_114 := rfl
set_option maxRecDepth 100000 in
theorem m_115 : fx_mt[115]? = some mq_115 := rfl
set_option maxRecDepth 100000 in
theorem m_116 : fx_mt[116]? = some mq_116 := rfl
set_option maxRecDepth 100000 in
theorem m_117 : fx_mt[117]? = some mq_117 := rfl
set_option maxRecDepth 100000 in
theorem m_118 : fx_mt[118]? = some mq_118 := rfl
set_option maxRecDepth 100000 in
theorem m_119 : fx_mt[119]? = some mq_119 := rfl
set_option maxRecDepth 100000 in
theorem m_120 : fx_mt[120]? = some mq_120 := rfl
set_option maxRecDepth 100000 in
theorem m_121 : fx_mt[121]? = some mq_121 := rfl
set_option maxRecDepth 100000 in
theorem m_122 : fx_mt[122]? = some mq_122 := rfl
set_option maxRecDepth 100000 in
theorem m_123 : fx_mt[123]? = some mq_123 := rfl
set_option maxRecDepth 100000 in
theorem m_124 : fx_mt[124]? = some mq_124 := rfl
set_option maxRecDepth 100000 in
theorem m_125 : fx_mt[125]? = some mq_125 := rfl
set_option maxRecDepth 100000 in
theorem m_126 : fx_mt[126]? = some mq_126 := rfl
set_option maxRecDepth 100000 in
theorem m_127 : fx_mt[127]? = some mq_127 := rfl
set_option maxRecDepth 100000 in
theorem m_128 : fx_mt[128]? = some mq_128 := rfl
set_option maxRecDepth 100000 in
theorem m_129 : fx_mt[129]? = some mq_129 := rfl
set_option maxRecDepth 100000 in
theorem m_130 : fx_mt[130]? = some mq_130 := rfl
set_option maxRecDepth 100000 in
theorem m_131 : fx_mt[131]? = some mq_131 := rfl
set_option maxRecDepth 100000 in
theorem m_132 : fx_mt[132]? = some mq_132 := rfl
set_option maxRecDepth 100000 in
theorem m_133 : fx_mt[133]? = some mq_133 := rfl
set_option maxRecDepth 100000 in
theorem m_134 : fx_mt[134]? = some mq_134 := rfl
set_option maxRecDepth 100000 in
theorem m_135 : fx_mt[135]? = some mq_135 := rfl
set_option maxRecDepth 100000 in
theorem m_136 : fx_mt[136]? = some mq_136 := rfl
set_option maxRecDepth 100000 in
theorem m_137 : fx_mt[137]? = some mq_137 := rfl
set_option maxRecDepth 100000 in
theorem m_138 : fx_mt[138]? = some mq_138 := rfl
set_option maxRecDepth 100000 in
theorem m_139 : fx_mt[139]? = some mq_139 := rfl
set_option maxRecDepth 100000 in
theorem m_140 : fx_mt[140]? = some mq_140 := rfl
set_option maxRecDepth 100000 in
theorem m_141 : fx_mt[141]? = some mq_141 := rfl
set_option maxRecDepth 100000 in
theorem m_142 : fx_mt[142]? = some mq_142 := rfl
set_option maxRecDepth 100000 in
theorem m_143 : fx_mt[143]? = some mq_143 := rfl
set_option maxRecDepth 100000 in
theorem m_144 : fx_mt[144]? = some mq_144 := rfl
set_option maxRecDepth 100000 in
theorem m_145 : fx_mt[145]? = some mq_145 := rfl
set_option maxRecDepth 100000 in
theorem m_146 : fx_mt[146]? = some mq_146 := rfl
set_option maxRecDepth 100000 in
theorem m_147 : fx_mt[147]? = some mq_147 := rfl
set_option maxRecDepth 100000 in
theorem m_148 : fx_mt[148]? = some mq_148 := rfl
set_option maxRecDepth 100000 in
theorem m_149 : fx_mt[149]? = some mq_149 := rfl
set_option maxRecDepth 100000 in
theorem m_150 : fx_mt[150]? = some mq_150 := rfl
set_option maxRecDepth 100000 in
theorem m_151 : fx_mt[151]? = some mq_151 := rfl
set_option maxRecDepth 100000 in
theorem m_152 : fx_mt[152]? = some mq_152 := rfl
set_option maxRecDepth 100000 in
theorem m_153 : fx_mt[153]? = some mq_153 := rfl
set_option maxRecDepth 100000 in
theorem m_154 : fx_mt[154]? = some mq_154 := rfl
set_option maxRecDepth 100000 in
theorem m_155 : fx_mt[155]? = some mq_155 := rfl
set_option maxRecDepth 100000 in
theorem m_156 : fx_mt[156]? = some mq_156 := rfl
set_option maxRecDepth 100000 in
theorem m_157 : fx_mt[157]? = some mq_157 := rfl
set_option maxRecDepth 100000 in
theorem m_158 : fx_mt[158]? = some mq_158 := rfl
set_option maxRecDepth 100000 in
theorem m_159 : fx_mt[159]? = some mq_159 := rfl
set_option maxRecDepth 100000 in
theorem m_160 : fx_mt[160]? = some mq_160 := rfl
set_option maxRecDepth 100000 in
theorem m_161 : fx_mt[161]? = some mq_161 := rfl
set_option maxRecDepth 100000 in
theorem m_162 : fx_mt[162]? = some mq_162 := rfl
set_option maxRecDepth 100000 in
theorem m_163 : fx_mt[163]? = some mq_163 := rfl
set_option maxRecDepth 100000 in
theorem m_164 : fx_mt[164]? = some mq_164 := rfl
set_option maxRecDepth 100000 in
theorem m_165 : fx_mt[165]? = some mq_165 := rfl
set_option maxRecDepth 100000 in
theorem m_166 : fx_mt[166]? = some mq_166 := rfl
set_option maxRecDepth 100000 in
theorem m_167 : fx_mt[167]? = some mq_167 := rfl
set_option maxRecDepth 100000 in
theorem m_168 : fx_mt[168]? = some mq_168 := rfl
set_option maxRecDepth 100000 in
theorem m_169 : fx_mt[169]? = some mq_169 := rfl
set_option maxRecDepth 100000 in
theorem m_170 : fx_mt[170]? = some mq_170 := rfl
set_option maxRecDepth 100000 in
theorem m_171 : fx_mt[171]? = some mq_171 := rfl
set_option maxRecDepth 100000 in
theorem m_172 : fx_mt[172]? = some mq_172 := rfl
set_option maxRecDepth 100000 in
theorem m_173 : fx_mt[173]? = some mq_173 := rfl
set_option maxRecDepth 100000 in
theorem m_174 : fx_mt[174]? = some mq_174 := rfl
set_option maxRecDepth 100000 in
theorem m_175 : fx_mt[175]? = some mq_175 := rfl
set_option maxRecDepth 100000 in
theorem m_176 : fx_mt[176]? = some mq_176 := rfl
set_option maxRecDepth 100000 in
theorem m_177 : fx_mt[177]? = some mq_177 := rfl
set_option maxRecDepth 100000 in
theorem m_178 : fx_mt[178]? = some mq_178 := rfl
set_option maxRecDepth 100000 in
theorem m_179 : fx_mt[179]? = some mq_179 := rfl
set_option maxRecDepth 100000 in
theorem m_180 : fx_mt[180]? = some mq_180 := rfl
set_option maxRecDepth 100000 in
theorem m_181 : fx_mt[181]? = some mq_181 := rfl
set_option maxRecDepth 100000 in
theorem m_182 : fx_mt[182]? = some mq_182 := rfl
set_option maxRecDepth 100000 in
theorem m_183 : fx_mt[183]? = some mq_183 := rfl
set_option maxRecDepth 100000 in
theorem m_184 : fx_mt[184]? = some mq_184 := rfl
set_option maxRecDepth 100000 in
theorem m_185 : fx_mt[185]? = some mq_185 := rfl
set_option maxRecDepth 100000 in
theorem m_186 : fx_mt[186]? = some mq_186 := rfl
set_option maxRecDepth 100000 in
theorem m_187 : fx_mt[187]? = some mq_187 := rfl
set_option maxRecDepth 100000 in
theorem m_188 : fx_mt[188]? = some mq_188 := rfl
set_option maxRecDepth 100000 in
theorem m_189 : fx_mt[189]? = some mq_189 := rfl
set_option maxRecDepth 100000 in
theorem m_190 : fx_mt[190]? = some mq_190 := rfl
set_option maxRecDepth 100000 in
theorem m_191 : fx_mt[191]? = some mq_191 := rfl
theorem f_0_0 : nF 0 mq_0 0 (.new 42, 3, 0, 0, 0) := ⟨m_0, by decide +kernel⟩
theorem f_0_3 : nF 0 mq_0 3 (.dup, 1, 0, 0, 0) := ⟨m_0, by decide +kernel⟩
theorem f_0_4 : nF 0 mq_0 4 (.invokespecial 211, 3, 1, 0, 1) := ⟨m_0, by decide +kernel⟩
theorem f_0_7 : nF 0 mq_0 7 (.astore_n 1, 1, 0, 0, 0) := ⟨m_0, by decide +kernel⟩
theorem f_0_8 : nF 0 mq_0 8 (.bipush (Int.ofNat 8), 2, 0, 0, 0) := ⟨m_0, by decide +kernel⟩
theorem f_0_10 : nF 0 mq_0 10 (.newarray .int, 2, 0, 0, 0) := ⟨m_0, by decide +kernel⟩
theorem f_0_12 : nF 0 mq_0 12 (.astore_n 2, 1, 0, 0, 0) := ⟨m_0, by decide +kernel⟩
theorem f_0_13 : nF 0 mq_0 13 (.bipush (Int.ofNat 30), 2, 0, 0, 0) := ⟨m_0, by decide +kernel⟩
theorem f_0_15 : nF 0 mq_0 15 (.newarray .int, 2, 0, 0, 0) := ⟨m_0, by decide +kernel⟩
theorem f_0_17 : nF 0 mq_0 17 (.astore_n 3, 1, 0, 0, 0) := ⟨m_0, by decide +kernel⟩
theorem f_0_18 : nF 0 mq_0 18 (.bipush (Int.ofNat 30), 2, 0, 0, 0) := ⟨m_0, by decide +kernel⟩
theorem f_0_20 : nF 0 mq_0 20 (.newarray .int, 2, 0, 0, 0) := ⟨m_0, by decide +kernel⟩
theorem f_0_22 : nF 0 mq_0 22 (.astore 4, 2, 0, 0, 0) := ⟨m_0, by decide +kernel⟩
theorem f_0_24 : nF 0 mq_0 24 (.bipush (Int.ofNat 30), 2, 0, 0, 0) := ⟨m_0, by decide +kernel⟩
theorem f_0_26 : nF 0 mq_0 26 (.newarray .int, 2, 0, 0, 0) := ⟨m_0, by decide +kernel⟩
theorem f_0_28 : nF 0 mq_0 28 (.astore 5, 2, 0, 0, 0) := ⟨m_0, by decide +kernel⟩
theorem f_0_30 : nF 0 mq_0 30 (.bipush (Int.ofNat 60), 2, 0, 0, 0) := ⟨m_0, by decide +kernel⟩
theorem f_0_32 : nF 0 mq_0 32 (.newarray .int, 2, 0, 0, 0) := ⟨m_0, by decide +kernel⟩
theorem f_0_34 : nF 0 mq_0 34 (.astore 6, 2, 0, 0, 0) := ⟨m_0, by decide +kernel⟩
theorem f_0_36 : nF 0 mq_0 36 (.bipush (Int.ofNat 60), 2, 0, 0, 0) := ⟨m_0, by decide +kernel⟩
theorem f_0_38 : nF 0 mq_0 38 (.newarray .int, 2, 0, 0, 0) := ⟨m_0, by decide +kernel⟩
theorem f_0_40 : nF 0 mq_0 40 (.astore 7, 2, 0, 0, 0) := ⟨m_0, by decide +kernel⟩
theorem f_0_42 : nF 0 mq_0 42 (.bipush (Int.ofNat 60), 2, 0, 0, 0) := ⟨m_0, by decide +kernel⟩
theorem f_0_44 : nF 0 mq_0 44 (.newarray .int, 2, 0, 0, 0) := ⟨m_0, by decide +kernel⟩
theorem f_0_46 : nF 0 mq_0 46 (.astore 8, 2, 0, 0, 0) := ⟨m_0, by decide +kernel⟩
theorem f_0_48 : nF 0 mq_0 48 (.bipush (Int.ofNat 10), 2, 0, 0, 0) := ⟨m_0, by decide +kernel⟩
theorem f_0_50 : nF 0 mq_0 50 (.newarray .int, 2, 0, 0, 0) := ⟨m_0, by decide +kernel⟩
theorem f_0_52 : nF 0 mq_0 52 (.astore 9, 2, 0, 0, 0) := ⟨m_0, by decide +kernel⟩
theorem f_0_54 : nF 0 mq_0 54 (.bipush (Int.ofNat 10), 2, 0, 0, 0) := ⟨m_0, by decide +kernel⟩
theorem f_0_56 : nF 0 mq_0 56 (.newarray .int, 2, 0, 0, 0) := ⟨m_0, by decide +kernel⟩
theorem f_0_58 : nF 0 mq_0 58 (.astore 10, 2, 0, 0, 0) := ⟨m_0, by decide +kernel⟩
theorem f_0_60 : nF 0 mq_0 60 (.bipush (Int.ofNat 6), 2, 0, 0, 0) := ⟨m_0, by decide +kernel⟩
theorem f_0_62 : nF 0 mq_0 62 (.newarray .int, 2, 0, 0, 0) := ⟨m_0, by decide +kernel⟩
theorem f_0_64 : nF 0 mq_0 64 (.astore 11, 2, 0, 0, 0) := ⟨m_0, by decide +kernel⟩
theorem f_0_66 : nF 0 mq_0 66 (.aload_n 2, 1, 0, 0, 0) := ⟨m_0, by decide +kernel⟩
theorem f_0_67 : nF 0 mq_0 67 (.iconst (Int.ofNat 0), 1, 0, 0, 0) := ⟨m_0, by decide +kernel⟩
theorem f_0_68 : nF 0 mq_0 68 (.iconst (Int.ofNat 1), 1, 0, 0, 0) := ⟨m_0, by decide +kernel⟩
theorem f_0_69 : nF 0 mq_0 69 (.iastore, 1, 0, 0, 0) := ⟨m_0, by decide +kernel⟩
theorem f_0_70 : nF 0 mq_0 70 (.aload_n 2, 1, 0, 0, 0) := ⟨m_0, by decide +kernel⟩
theorem f_0_71 : nF 0 mq_0 71 (.iconst (Int.ofNat 2), 1, 0, 0, 0) := ⟨m_0, by decide +kernel⟩
theorem f_0_72 : nF 0 mq_0 72 (.iconst (Int.ofNat 1), 1, 0, 0, 0) := ⟨m_0, by decide +kernel⟩
theorem f_0_73 : nF 0 mq_0 73 (.iastore, 1, 0, 0, 0) := ⟨m_0, by decide +kernel⟩
theorem f_0_74 : nF 0 mq_0 74 (.aload_n 2, 1, 0, 0, 0) := ⟨m_0, by decide +kernel⟩
theorem f_0_75 : nF 0 mq_0 75 (.iconst (Int.ofNat 3), 1, 0, 0, 0) := ⟨m_0, by decide +kernel⟩
theorem f_0_76 : nF 0 mq_0 76 (.iconst (Int.ofNat 1), 1, 0, 0, 0) := ⟨m_0, by decide +kernel⟩
theorem f_0_77 : nF 0 mq_0 77 (.iastore, 1, 0, 0, 0) := ⟨m_0, by decide +kernel⟩
theorem f_0_78 : nF 0 mq_0 78 (.aload_n 2, 1, 0, 0, 0) := ⟨m_0, by decide +kernel⟩
theorem f_0_79 : nF 0 mq_0 79 (.bipush (Int.ofNat 7), 2, 0, 0, 0) := ⟨m_0, by decide +kernel⟩
theorem f_0_81 : nF 0 mq_0 81 (.iconst (Int.ofNat 1), 1, 0, 0, 0) := ⟨m_0, by decide +kernel⟩
theorem f_0_82 : nF 0 mq_0 82 (.iastore, 1, 0, 0, 0) := ⟨m_0, by decide +kernel⟩
theorem f_0_83 : nF 0 mq_0 83 (.aload_n 3, 1, 0, 0, 0) := ⟨m_0, by decide +kernel⟩
theorem f_0_84 : nF 0 mq_0 84 (.iconst (Int.ofNat 0), 1, 0, 0, 0) := ⟨m_0, by decide +kernel⟩
theorem f_0_85 : nF 0 mq_0 85 (.iconst (Int.ofNat 1), 1, 0, 0, 0) := ⟨m_0, by decide +kernel⟩
theorem f_0_86 : nF 0 mq_0 86 (.iastore, 1, 0, 0, 0) := ⟨m_0, by decide +kernel⟩
theorem f_0_87 : nF 0 mq_0 87 (.aload 6, 2, 0, 0, 0) := ⟨m_0, by decide +kernel⟩
theorem f_0_89 : nF 0 mq_0 89 (.iconst (Int.ofNat 0), 1, 0, 0, 0) := ⟨m_0, by decide +kernel⟩
theorem f_0_90 : nF 0 mq_0 90 (.iconst (Int.ofNat 1), 1, 0, 0, 0) := ⟨m_0, by decide +kernel⟩
theorem f_0_91 : nF 0 mq_0 91 (.iastore, 1, 0, 0, 0) := ⟨m_0, by decide +kernel⟩
theorem f_0_92 : nF 0 mq_0 92 (.aload_n 1, 1, 0, 0, 0) := ⟨m_0, by decide +kernel⟩
theorem f_0_93 : nF 0 mq_0 93 (.aload_n 2, 1, 0, 0, 0) := ⟨m_0, by decide +kernel⟩
theorem f_0_94 : nF 0 mq_0 94 (.aload_n 3, 1, 0, 0, 0) := ⟨m_0, by decide +kernel⟩
theorem f_0_95 : nF 0 mq_0 95 (.aload 4, 2, 0, 0, 0) := ⟨m_0, by decide +kernel⟩
theorem f_0_97 : nF 0 mq_0 97 (.aload 5, 2, 0, 0, 0) := ⟨m_0, by decide +kernel⟩
theorem f_0_99 : nF 0 mq_0 99 (.aload 6, 2, 0, 0, 0) := ⟨m_0, by decide +kernel⟩
theorem f_0_101 : nF 0 mq_0 101 (.aload 7, 2, 0, 0, 0) := ⟨m_0, by decide +kernel⟩
theorem f_0_103 : nF 0 mq_0 103 (.aload 8, 2, 0, 0, 0) := ⟨m_0, by decide +kernel⟩
theorem f_0_105 : nF 0 mq_0 105 (.aload 9, 2, 0, 0, 0) := ⟨m_0, by decide +kernel⟩
theorem f_0_107 : nF 0 mq_0 107 (.aload 10, 2, 0, 0, 0) := ⟨m_0, by decide +kernel⟩
theorem f_0_109 : nF 0 mq_0 109 (.aload 11, 2, 0, 0, 0) := ⟨m_0, by decide +kernel⟩
theorem f_0_111 : nF 0 mq_0 111 (.iconst (Int.ofNat 0), 1, 0, 0, 0) := ⟨m_0, by decide +kernel⟩
theorem f_0_112 : nF 0 mq_0 112 (.invokestatic 212, 3, 2, 0, 12) := ⟨m_0, by decide +kernel⟩
theorem f_0_115 : nF 0 mq_0 115 (.istore 12, 2, 0, 0, 0) := ⟨m_0, by decide +kernel⟩
theorem f_0_117 : nF 0 mq_0 117 (.iconst (Int.ofNat 0), 1, 0, 0, 0) := ⟨m_0, by decide +kernel⟩
theorem f_0_118 : nF 0 mq_0 118 (.istore 13, 2, 0, 0, 0) := ⟨m_0, by decide +kernel⟩
theorem f_0_120 : nF 0 mq_0 120 (.iload 13, 2, 0, 0, 0) := ⟨m_0, by decide +kernel⟩
theorem f_0_122 : nF 0 mq_0 122 (.bipush (Int.ofNat 110), 2, 0, 0, 0) := ⟨m_0, by decide +kernel⟩
theorem f_0_124 : nF 0 mq_0 124 (.if_icmp .ge (Int.ofNat 2156), 3, 0, 0, 0) := ⟨m_0, by decide +kernel⟩
theorem f_0_127 : nF 0 mq_0 127 (.iload 12, 2, 0, 0, 0) := ⟨m_0, by decide +kernel⟩
theorem f_0_129 : nF 0 mq_0 129 (.ifCond .eq (Int.ofNat 2151), 3, 0, 0, 0) := ⟨m_0, by decide +kernel⟩
theorem f_0_132 : nF 0 mq_0 132 (.iload 13, 2, 0, 0, 0) := ⟨m_0, by decide +kernel⟩
theorem f_0_134 : nF 0 mq_0 134 (.aload_n 0, 1, 0, 0, 0) := ⟨m_0, by decide +kernel⟩
theorem f_0_135 : nF 0 mq_0 135 (.arraylength, 1, 0, 0, 0) := ⟨m_0, by decide +kernel⟩
theorem f_0_136 : nF 0 mq_0 136 (.if_icmp .ge (Int.ofNat 13), 3, 0, 0, 0) := ⟨m_0, by decide +kernel⟩
theorem f_0_139 : nF 0 mq_0 139 (.aload_n 0, 1, 0, 0, 0) := ⟨m_0, by decide +kernel⟩
theorem f_0_140 : nF 0 mq_0 140 (.iload 13, 2, 0, 0, 0) := ⟨m_0, by decide +kernel⟩
theorem f_0_142 : nF 0 mq_0 142 (.iaload, 1, 0, 0, 0) := ⟨m_0, by decide +kernel⟩
theorem f_0_143 : nF 0 mq_0 143 (.ldc 216, 2, 2147483647, 0, 0) := ⟨m_0, by decide +kernel⟩
theorem f_0_145 : nF 0 mq_0 145 (.iand, 1, 0, 0, 0) := ⟨m_0, by decide +kernel⟩
theorem f_0_146 : nF 0 mq_0 146 (.goto (Int.ofNat 24), 3, 0, 0, 0) := ⟨m_0, by decide +kernel⟩
theorem f_0_149 : nF 0 mq_0 149 (.ldc 217, 2, 44017, 0, 0) := ⟨m_0, by decide +kernel⟩
theorem f_0_151 : nF 0 mq_0 151 (.iload 13, 2, 0, 0, 0) := ⟨m_0, by decide +kernel⟩
theorem f_0_153 : nF 0 mq_0 153 (.imul, 1, 0, 0, 0) := ⟨m_0, by decide +kernel⟩
theorem f_0_154 : nF 0 mq_0 154 (.iload 13, 2, 0, 0, 0) := ⟨m_0, by decide +kernel⟩
theorem f_0_156 : nF 0 mq_0 156 (.imul, 1, 0, 0, 0) := ⟨m_0, by decide +kernel⟩
theorem f_0_157 : nF 0 mq_0 157 (.sipush (Int.ofNat 8009), 3, 0, 0, 0) := ⟨m_0, by decide +kernel⟩
theorem f_0_160 : nF 0 mq_0 160 (.iload 13, 2, 0, 0, 0) := ⟨m_0, by decide +kernel⟩
theorem f_0_162 : nF 0 mq_0 162 (.imul, 1, 0, 0, 0) := ⟨m_0, by decide +kernel⟩
theorem f_0_163 : nF 0 mq_0 163 (.iadd, 1, 0, 0, 0) := ⟨m_0, by decide +kernel⟩
theorem f_0_164 : nF 0 mq_0 164 (.bipush (Int.ofNat 47), 2, 0, 0, 0) := ⟨m_0, by decide +kernel⟩
theorem f_0_166 : nF 0 mq_0 166 (.iadd, 1, 0, 0, 0) := ⟨m_0, by decide +kernel⟩
theorem f_0_167 : nF 0 mq_0 167 (.ldc 216, 2, 2147483647, 0, 0) := ⟨m_0, by decide +kernel⟩
theorem f_0_169 : nF 0 mq_0 169 (.iand, 1, 0, 0, 0) := ⟨m_0, by decide +kernel⟩
theorem f_0_170 : nF 0 mq_0 170 (.istore 14, 2, 0, 0, 0) := ⟨m_0, by decide +kernel⟩
theorem f_0_172 : nF 0 mq_0 172 (.iload 13, 2, 0, 0, 0) := ⟨m_0, by decide +kernel⟩
theorem f_0_174 : nF 0 mq_0 174 (.iconst (Int.ofNat 2), 1, 0, 0, 0) := ⟨m_0, by decide +kernel⟩
theorem f_0_175 : nF 0 mq_0 175 (.if_icmp .ge (Int.ofNat 7), 3, 0, 0, 0) := ⟨m_0, by decide +kernel⟩
theorem f_0_178 : nF 0 mq_0 178 (.iconst (Int.ofNat 0), 1, 0, 0, 0) := ⟨m_0, by decide +kernel⟩
theorem f_0_179 : nF 0 mq_0 179 (.goto (Int.ofNat 8), 3, 0, 0, 0) := ⟨m_0, by decide +kernel⟩
theorem f_0_182 : nF 0 mq_0 182 (.iload 14, 2, 0, 0, 0) := ⟨m_0, by decide +kernel⟩
theorem f_0_184 : nF 0 mq_0 184 (.bipush (Int.ofNat 30), 2, 0, 0, 0) := ⟨m_0, by decide +kernel⟩
theorem f_0_186 : nF 0 mq_0 186 (.irem, 1, 0, 0, 0) := ⟨m_0, by decide +kernel⟩
theorem f_0_187 : nF 0 mq_0 187 (.istore 15, 2, 0, 0, 0) := ⟨m_0, by decide +kernel⟩
theorem f_0_189 : nF 0 mq_0 189 (.iload 14, 2, 0, 0, 0) := ⟨m_0, by decide +kernel⟩
theorem f_0_191 : nF 0 mq_0 191 (.bipush (Int.ofNat 30), 2, 0, 0, 0) := ⟨m_0, by decide +kernel⟩
theorem f_0_193 : nF 0 mq_0 193 (.idiv, 1, 0, 0, 0) := ⟨m_0, by decide +kernel⟩
theorem f_0_194 : nF 0 mq_0 194 (.istore 16, 2, 0, 0, 0) := ⟨m_0, by decide +kernel⟩
theorem f_0_196 : nF 0 mq_0 196 (.iload 16, 2, 0, 0, 0) := ⟨m_0, by decide +kernel⟩
theorem f_0_198 : nF 0 mq_0 198 (.aload_n 2, 1, 0, 0, 0) := ⟨m_0, by decide +kernel⟩
theorem f_0_199 : nF 0 mq_0 199 (.iconst (Int.ofNat 2), 1, 0, 0, 0) := ⟨m_0, by decide +kernel⟩
theorem f_0_200 : nF 0 mq_0 200 (.iaload, 1, 0, 0, 0) := ⟨m_0, by decide +kernel⟩
theorem f_0_201 : nF 0 mq_0 201 (.irem, 1, 0, 0, 0) := ⟨m_0, by decide +kernel⟩
theorem f_0_202 : nF 0 mq_0 202 (.istore 17, 2, 0, 0, 0) := ⟨m_0, by decide +kernel⟩
theorem f_0_204 : nF 0 mq_0 204 (.bipush (Int.ofNat 10), 2, 0, 0, 0) := ⟨m_0, by decide +kernel⟩
theorem f_0_206 : nF 0 mq_0 206 (.iload 17, 2, 0, 0, 0) := ⟨m_0, by decide +kernel⟩
theorem f_0_208 : nF 0 mq_0 208 (.imul, 1, 0, 0, 0) := ⟨m_0, by decide +kernel⟩
theorem f_0_209 : nF 0 mq_0 209 (.istore 18, 2, 0, 0, 0) := ⟨m_0, by decide +kernel⟩
theorem f_0_211 : nF 0 mq_0 211 (.iload 16, 2, 0, 0, 0) := ⟨m_0, by decide +kernel⟩
theorem f_0_213 : nF 0 mq_0 213 (.iconst (Int.ofNat 3), 1, 0, 0, 0) := ⟨m_0, by decide +kernel⟩
theorem f_0_214 : nF 0 mq_0 214 (.idiv, 1, 0, 0, 0) := ⟨m_0, by decide +kernel⟩
theorem f_0_215 : nF 0 mq_0 215 (.aload_n 2, 1, 0, 0, 0) := ⟨m_0, by decide +kernel⟩
theorem f_0_216 : nF 0 mq_0 216 (.iconst (Int.ofNat 0), 1, 0, 0, 0) := ⟨m_0, by decide +kernel⟩
theorem f_0_217 : nF 0 mq_0 217 (.iaload, 1, 0, 0, 0) := ⟨m_0, by decide +kernel⟩
theorem f_0_218 : nF 0 mq_0 218 (.irem, 1, 0, 0, 0) := ⟨m_0, by decide +kernel⟩
theorem f_0_219 : nF 0 mq_0 219 (.istore 19, 2, 0, 0, 0) := ⟨m_0, by decide +kernel⟩
theorem f_0_221 : nF 0 mq_0 221 (.iconst (Int.ofNat 0), 1, 0, 0, 0) := ⟨m_0, by decide +kernel⟩
theorem f_0_222 : nF 0 mq_0 222 (.istore 20, 2, 0, 0, 0) := ⟨m_0, by decide +kernel⟩
theorem f_0_224 : nF 0 mq_0 224 (.iload 20, 2, 0, 0, 0) := ⟨m_0, by decide +kernel⟩
theorem f_0_226 : nF 0 mq_0 226 (.aload_n 2, 1, 0, 0, 0) := ⟨m_0, by decide +kernel⟩
theorem f_0_227 : nF 0 mq_0 227 (.iconst (Int.ofNat 0), 1, 0, 0, 0) := ⟨m_0, by decide +kernel⟩
theorem f_0_228 : nF 0 mq_0 228 (.iaload, 1, 0, 0, 0) := ⟨m_0, by decide +kernel⟩
theorem f_0_229 : nF 0 mq_0 229 (.if_icmp .ge (Int.ofNat 38), 3, 0, 0, 0) := ⟨m_0, by decide +kernel⟩
theorem f_0_232 : nF 0 mq_0 232 (.iload 16, 2, 0, 0, 0) := ⟨m_0, by decide +kernel⟩
theorem f_0_234 : nF 0 mq_0 234 (.bipush (Int.ofNat 7), 2, 0, 0, 0) := ⟨m_0, by decide +kernel⟩
theorem f_0_236 : nF 0 mq_0 236 (.irem, 1, 0, 0, 0) := ⟨m_0, by decide +kernel⟩
theorem f_0_237 : nF 0 mq_0 237 (.ifCond .le (Int.ofNat 30), 3, 0, 0, 0) := ⟨m_0, by decide +kernel⟩
theorem f_0_240 : nF 0 mq_0 240 (.aload_n 3, 1, 0, 0, 0) := ⟨m_0, by decide +kernel⟩
theorem f_0_241 : nF 0 mq_0 241 (.iload 18, 2, 0, 0, 0) := ⟨m_0, by decide +kernel⟩
theorem f_0_243 : nF 0 mq_0 243 (.iload 19, 2, 0, 0, 0) := ⟨m_0, by decide +kernel⟩
theorem f_0_245 : nF 0 mq_0 245 (.invokestatic 7, 3, 3, 0, 3) := ⟨m_0, by decide +kernel⟩
theorem f_0_248 : nF 0 mq_0 248 (.ifCond .ne (Int.ofNat 19), 3, 0, 0, 0) := ⟨m_0, by decide +kernel⟩
theorem f_0_251 : nF 0 mq_0 251 (.iload 19, 2, 0, 0, 0) := ⟨m_0, by decide +kernel⟩
theorem f_0_253 : nF 0 mq_0 253 (.iconst (Int.ofNat 1), 1, 0, 0, 0) := ⟨m_0, by decide +kernel⟩
theorem f_0_254 : nF 0 mq_0 254 (.iadd, 1, 0, 0, 0) := ⟨m_0, by decide +kernel⟩
theorem f_0_255 : nF 0 mq_0 255 (.aload_n 2, 1, 0, 0, 0) := ⟨m_0, by decide +kernel⟩
theorem f_0_256 : nF 0 mq_0 256 (.iconst (Int.ofNat 0), 1, 0, 0, 0) := ⟨m_0, by decide +kernel⟩
theorem f_0_257 : nF 0 mq_0 257 (.iaload, 1, 0, 0, 0) := ⟨m_0, by decide +kernel⟩
theorem f_0_258 : nF 0 mq_0 258 (.irem, 1, 0, 0, 0) := ⟨m_0, by decide +kernel⟩
theorem f_0_259 : nF 0 mq_0 259 (.istore 19, 2, 0, 0, 0) := ⟨m_0, by decide +kernel⟩
theorem f_0_261 : nF 0 mq_0 261 (.iinc 20 (Int.ofNat 1), 3, 0, 0, 0) := ⟨m_0, by decide +kernel⟩
theorem f_0_264 : nF 0 mq_0 264 (.goto (Int.negSucc 39), 3, 0, 0, 0) := ⟨m_0, by decide +kernel⟩
theorem f_0_267 : nF 0 mq_0 267 (.aload_n 3, 1, 0, 0, 0) := ⟨m_0, by decide +kernel⟩
theorem f_0_268 : nF 0 mq_0 268 (.iload 18, 2, 0, 0, 0) := ⟨m_0, by decide +kernel⟩
theorem f_0_270 : nF 0 mq_0 270 (.iload 19, 2, 0, 0, 0) := ⟨m_0, by decide +kernel⟩
theorem f_0_272 : nF 0 mq_0 272 (.invokestatic 7, 3, 3, 0, 3) := ⟨m_0, by decide +kernel⟩
theorem f_0_275 : nF 0 mq_0 275 (.istore 20, 2, 0, 0, 0) := ⟨m_0, by decide +kernel⟩
theorem f_0_277 : nF 0 mq_0 277 (.iload 16, 2, 0, 0, 0) := ⟨m_0, by decide +kernel⟩
theorem f_0_279 : nF 0 mq_0 279 (.bipush (Int.ofNat 41), 2, 0, 0, 0) := ⟨m_0, by decide +kernel⟩
theorem f_0_281 : nF 0 mq_0 281 (.idiv, 1, 0, 0, 0) := ⟨m_0, by decide +kernel⟩
theorem f_0_282 : nF 0 mq_0 282 (.aload_n 2, 1, 0, 0, 0) := ⟨m_0, by decide +kernel⟩
theorem f_0_283 : nF 0 mq_0 283 (.iconst (Int.ofNat 0), 1, 0, 0, 0) := ⟨m_0, by decide +kernel⟩
theorem f_0_284 : nF 0 mq_0 284 (.iaload, 1, 0, 0, 0) := ⟨m_0, by decide +kernel⟩
theorem f_0_285 : nF 0 mq_0 285 (.irem, 1, 0, 0, 0) := ⟨m_0, by decide +kernel⟩
theorem f_0_286 : nF 0 mq_0 286 (.istore 21, 2, 0, 0, 0) := ⟨m_0, by decide +kernel⟩
theorem f_0_288 : nF 0 mq_0 288 (.iload 16, 2, 0, 0, 0) := ⟨m_0, by decide +kernel⟩
theorem f_0_290 : nF 0 mq_0 290 (.bipush (Int.ofNat 29), 2, 0, 0, 0) := ⟨m_0, by decide +kernel⟩
theorem f_0_292 : nF 0 mq_0 292 (.idiv, 1, 0, 0, 0) := ⟨m_0, by decide +kernel⟩
theorem f_0_293 : nF 0 mq_0 293 (.iconst (Int.ofNat 5), 1, 0, 0, 0) := ⟨m_0, by decide +kernel⟩
theorem f_0_294 : nF 0 mq_0 294 (.irem, 1, 0, 0, 0) := ⟨m_0, by decide +kernel⟩
theorem f_0_295 : nF 0 mq_0 295 (.istore 22, 2, 0, 0, 0) := ⟨m_0, by decide +kernel⟩
theorem f_0_297 : nF 0 mq_0 297 (.aload_n 2, 1, 0, 0, 0) := ⟨m_0, by decide +kernel⟩
theorem f_0_298 : nF 0 mq_0 298 (.aload_n 3, 1, 0, 0, 0) := ⟨m_0, by decide +kernel⟩
theorem f_0_299 : nF 0 mq_0 299 (.iload 18, 2, 0, 0, 0) := ⟨m_0, by decide +kernel⟩
theorem f_0_301 : nF 0 mq_0 301 (.iload 19, 2, 0, 0, 0) := ⟨m_0, by decide +kernel⟩
theorem f_0_303 : nF 0 mq_0 303 (.invokestatic 17, 3, 4, 0, 4) := ⟨m_0, by decide +kernel⟩
theorem f_0_306 : nF 0 mq_0 306 (.istore 23, 2, 0, 0, 0) := ⟨m_0, by decide +kernel⟩
theorem f_0_308 : nF 0 mq_0 308 (.iload 15, 2, 0, 0, 0) := ⟨m_0, by decide +kernel⟩
theorem f_0_310 : nF 0 mq_0 310 (.bipush (Int.ofNat 9), 2, 0, 0, 0) := ⟨m_0, by decide +kernel⟩
theorem f_0_312 : nF 0 mq_0 312 (.if_icmp .ge (Int.ofNat 198), 3, 0, 0, 0) := ⟨m_0, by decide +kernel⟩
theorem f_0_315 : nF 0 mq_0 315 (.aload_n 2, 1, 0, 0, 0) := ⟨m_0, by decide +kernel⟩
theorem f_0_316 : nF 0 mq_0 316 (.iconst (Int.ofNat 0), 1, 0, 0, 0) := ⟨m_0, by decide +kernel⟩
theorem f_0_317 : nF 0 mq_0 317 (.iaload, 1, 0, 0, 0) := ⟨m_0, by decide +kernel⟩
theorem f_0_318 : nF 0 mq_0 318 (.bipush (Int.ofNat 10), 2, 0, 0, 0) := ⟨m_0, by decide +kernel⟩
theorem f_0_320 : nF 0 mq_0 320 (.if_icmp .ge (Int.ofNat 190), 3, 0, 0, 0) := ⟨m_0, by decide +kernel⟩
theorem f_0_323 : nF 0 mq_0 323 (.iload 16, 2, 0, 0, 0) := ⟨m_0, by decide +kernel⟩
theorem f_0_325 : nF 0 mq_0 325 (.bipush (Int.ofNat 50), 2, 0, 0, 0) := ⟨m_0, by decide +kernel⟩
theorem f_0_327 : nF 0 mq_0 327 (.idiv, 1, 0, 0, 0) := ⟨m_0, by decide +kernel⟩
theorem f_0_328 : nF 0 mq_0 328 (.iload 23, 2, 0, 0, 0) := ⟨m_0, by decide +kernel⟩
theorem f_0_330 : nF 0 mq_0 330 (.iconst (Int.ofNat 1), 1, 0, 0, 0) := ⟨m_0, by decide +kernel⟩
theorem f_0_331 : nF 0 mq_0 331 (.iadd, 1, 0, 0, 0) := ⟨m_0, by decide +kernel⟩
theorem f_0_332 : nF 0 mq_0 332 (.iload 16, 2, 0, 0, 0) := ⟨m_0, by decide +kernel⟩
theorem f_0_334 : nF 0 mq_0 334 (.bipush (Int.ofNat 11), 2, 0, 0, 0) := ⟨m_0, by decide +kernel⟩
theorem f_0_336 : nF 0 mq_0 336 (.irem, 1, 0, 0, 0) := ⟨m_0, by decide +kernel⟩
theorem f_0_337 : nF 0 mq_0 337 (.ifCond .ne (Int.ofNat 7), 3, 0, 0, 0) := ⟨m_0, by decide +kernel⟩
theorem f_0_340 : nF 0 mq_0 340 (.iconst (Int.ofNat 1), 1, 0, 0, 0) := ⟨m_0, by decide +kernel⟩
theorem f_0_341 : nF 0 mq_0 341 (.goto (Int.ofNat 4), 3, 0, 0, 0) := ⟨m_0, by decide +kernel⟩
theorem f_0_344 : nF 0 mq_0 344 (.iconst (Int.ofNat 0), 1, 0, 0, 0) := ⟨m_0, by decide +kernel⟩
theorem f_0_345 : nF 0 mq_0 345 (.iadd, 1, 0, 0, 0) := ⟨m_0, by decide +kernel⟩
theorem f_0_346 : nF 0 mq_0 346 (.irem, 1, 0, 0, 0) := ⟨m_0, by decide +kernel⟩
theorem f_0_347 : nF 0 mq_0 347 (.istore 24, 2, 0, 0, 0) := ⟨m_0, by decide +kernel⟩
theorem f_0_349 : nF 0 mq_0 349 (.iload 13, 2, 0, 0, 0) := ⟨m_0, by decide +kernel⟩
theorem f_0_351 : nF 0 mq_0 351 (.ifCond .ne (Int.ofNat 7), 3, 0, 0, 0) := ⟨m_0, by decide +kernel⟩
theorem f_0_354 : nF 0 mq_0 354 (.iconst (Int.ofNat 1), 1, 0, 0, 0) := ⟨m_0, by decide +kernel⟩
theorem f_0_355 : nF 0 mq_0 355 (.goto (Int.ofNat 19), 3, 0, 0, 0) := ⟨m_0, by decide +kernel⟩
theorem f_0_358 : nF 0 mq_0 358 (.iload 13, 2, 0, 0, 0) := ⟨m_0, by decide +kernel⟩
theorem f_0_360 : nF 0 mq_0 360 (.iconst (Int.ofNat 1), 1, 0, 0, 0) := ⟨m_0, by decide +kernel⟩
theorem f_0_361 : nF 0 mq_0 361 (.if_icmp .ne (Int.ofNat 7), 3, 0, 0, 0) := ⟨m_0, by decide +kernel⟩
theorem f_0_364 : nF 0 mq_0 364 (.iconst (Int.ofNat 2), 1, 0, 0, 0) := ⟨m_0, by decide +kernel⟩
theorem f_0_365 : nF 0 mq_0 365 (.goto (Int.ofNat 9), 3, 0, 0, 0) := ⟨m_0, by decide +kernel⟩
theorem f_0_368 : nF 0 mq_0 368 (.iload 16, 2, 0, 0, 0) := ⟨m_0, by decide +kernel⟩
theorem f_0_370 : nF 0 mq_0 370 (.iconst (Int.ofNat 5), 1, 0, 0, 0) := ⟨m_0, by decide +kernel⟩
theorem f_0_371 : nF 0 mq_0 371 (.idiv, 1, 0, 0, 0) := ⟨m_0, by decide +kernel⟩
theorem f_0_372 : nF 0 mq_0 372 (.iconst (Int.ofNat 4), 1, 0, 0, 0) := ⟨m_0, by decide +kernel⟩
theorem f_0_373 : nF 0 mq_0 373 (.irem, 1, 0, 0, 0) := ⟨m_0, by decide +kernel⟩
theorem f_0_374 : nF 0 mq_0 374 (.istore 25, 2, 0, 0, 0) := ⟨m_0, by decide +kernel⟩
theorem f_0_376 : nF 0 mq_0 376 (.iload 13, 2, 0, 0, 0) := ⟨m_0, by decide +kernel⟩
theorem f_0_378 : nF 0 mq_0 378 (.iconst (Int.ofNat 2), 1, 0, 0, 0) := ⟨m_0, by decide +kernel⟩
theorem f_0_379 : nF 0 mq_0 379 (.if_icmp .ge (Int.ofNat 7), 3, 0, 0, 0) := ⟨m_0, by decide +kernel⟩
theorem f_0_382 : nF 0 mq_0 382 (.iconst (Int.ofNat 0), 1, 0, 0, 0) := ⟨m_0, by decide +kernel⟩
theorem f_0_383 : nF 0 mq_0 383 (.goto (Int.ofNat 5), 3, 0, 0, 0) := ⟨m_0, by decide +kernel⟩
theorem f_0_386 : nF 0 mq_0 386 (.iload 19, 2, 0, 0, 0) := ⟨m_0, by decide +kernel⟩
theorem f_0_388 : nF 0 mq_0 388 (.istore 26, 2, 0, 0, 0) := ⟨m_0, by decide +kernel⟩
theorem f_0_390 : nF 0 mq_0 390 (.iload 13, 2, 0, 0, 0) := ⟨m_0, by decide +kernel⟩
theorem f_0_392 : nF 0 mq_0 392 (.iconst (Int.ofNat 2), 1, 0, 0, 0) := ⟨m_0, by decide +kernel⟩
theorem f_0_393 : nF 0 mq_0 393 (.if_icmp .ge (Int.ofNat 7), 3, 0, 0, 0) := ⟨m_0, by decide +kernel⟩
theorem f_0_396 : nF 0 mq_0 396 (.iconst (Int.ofNat 0), 1, 0, 0, 0) := ⟨m_0, by decide +kernel⟩
theorem f_0_397 : nF 0 mq_0 397 (.goto (Int.ofNat 5), 3, 0, 0, 0) := ⟨m_0, by decide +kernel⟩
theorem f_0_400 : nF 0 mq_0 400 (.iload 24, 2, 0, 0, 0) := ⟨m_0, by decide +kernel⟩
theorem f_0_402 : nF 0 mq_0 402 (.istore 24, 2, 0, 0, 0) := ⟨m_0, by decide +kernel⟩
theorem f_0_404 : nF 0 mq_0 404 (.aload_n 3, 1, 0, 0, 0) := ⟨m_0, by decide +kernel⟩
theorem f_0_405 : nF 0 mq_0 405 (.iload 18, 2, 0, 0, 0) := ⟨m_0, by decide +kernel⟩
theorem f_0_407 : nF 0 mq_0 407 (.iload 26, 2, 0, 0, 0) := ⟨m_0, by decide +kernel⟩
theorem f_0_409 : nF 0 mq_0 409 (.invokestatic 7, 3, 3, 0, 3) := ⟨m_0, by decide +kernel⟩
theorem f_0_412 : nF 0 mq_0 412 (.ifCond .ne (Int.ofNat 8), 3, 0, 0, 0) := ⟨m_0, by decide +kernel⟩
theorem f_0_415 : nF 0 mq_0 415 (.bipush (Int.negSucc 10), 2, 0, 0, 0) := ⟨m_0, by decide +kernel⟩
theorem f_0_417 : nF 0 mq_0 417 (.goto (Int.ofNat 61), 3, 0, 0, 0) := ⟨m_0, by decide +kernel⟩
theorem f_0_420 : nF 0 mq_0 420 (.iload 24, 2, 0, 0, 0) := ⟨m_0, by decide +kernel⟩
theorem f_0_422 : nF 0 mq_0 422 (.aload_n 2, 1, 0, 0, 0) := ⟨m_0, by decide +kernel⟩
theorem f_0_423 : nF 0 mq_0 423 (.aload_n 3, 1, 0, 0, 0) := ⟨m_0, by decide +kernel⟩
theorem f_0_424 : nF 0 mq_0 424 (.iload 18, 2, 0, 0, 0) := ⟨m_0, by decide +kernel⟩
theorem f_0_426 : nF 0 mq_0 426 (.iload 26, 2, 0, 0, 0) := ⟨m_0, by decide +kernel⟩
theorem f_0_428 : nF 0 mq_0 428 (.invokestatic 17, 3, 4, 0, 4) := ⟨m_0, by decide +kernel⟩
theorem f_0_431 : nF 0 mq_0 431 (.if_icmp .le (Int.ofNat 8), 3, 0, 0, 0) := ⟨m_0, by decide +kernel⟩
theorem f_0_434 : nF 0 mq_0 434 (.bipush (Int.negSucc 11), 2, 0, 0, 0) := ⟨m_0, by decide +kernel⟩
theorem f_0_436 : nF 0 mq_0 436 (.goto (Int.ofNat 42), 3, 0, 0, 0) := ⟨m_0, by decide +kernel⟩
theorem f_0_439 : nF 0 mq_0 439 (.aload 9, 2, 0, 0, 0) := ⟨m_0, by decide +kernel⟩
theorem f_0_441 : nF 0 mq_0 441 (.iload 26, 2, 0, 0, 0) := ⟨m_0, by decide +kernel⟩
theorem f_0_443 : nF 0 mq_0 443 (.iaload, 1, 0, 0, 0) := ⟨m_0, by decide +kernel⟩
theorem f_0_444 : nF 0 mq_0 444 (.iconst (Int.ofNat 1), 1, 0, 0, 0) := ⟨m_0, by decide +kernel⟩
theorem f_0_445 : nF 0 mq_0 445 (.if_icmp .le (Int.ofNat 8), 3, 0, 0, 0) := ⟨m_0, by decide +kernel⟩
theorem f_0_448 : nF 0 mq_0 448 (.bipush (Int.negSucc 12), 2, 0, 0, 0) := ⟨m_0, by decide +kernel⟩
theorem f_0_450 : nF 0 mq_0 450 (.goto (Int.ofNat 28), 3, 0, 0, 0) := ⟨m_0, by decide +kernel⟩
theorem f_0_453 : nF 0 mq_0 453 (.aload_n 2, 1, 0, 0, 0) := ⟨m_0, by decide +kernel⟩
theorem f_0_454 : nF 0 mq_0 454 (.aload_n 3, 1, 0, 0, 0) := ⟨m_0, by decide +kernel⟩
theorem f_0_455 : nF 0 mq_0 455 (.aload 4, 2, 0, 0, 0) := ⟨m_0, by decide +kernel⟩
theorem f_0_457 : nF 0 mq_0 457 (.aload 5, 2, 0, 0, 0) := ⟨m_0, by decide +kernel⟩
theorem f_0_459 : nF 0 mq_0 459 (.iload 18, 2, 0, 0, 0) := ⟨m_0, by decide +kernel⟩
theorem f_0_461 : nF 0 mq_0 461 (.aload 9, 2, 0, 0, 0) := ⟨m_0, by decide +kernel⟩
theorem f_0_463 : nF 0 mq_0 463 (.aload 10, 2, 0, 0, 0) := ⟨m_0, by decide +kernel⟩
theorem f_0_465 : nF 0 mq_0 465 (.iconst (Int.ofNat 0), 1, 0, 0, 0) := ⟨m_0, by decide +kernel⟩
theorem f_0_466 : nF 0 mq_0 466 (.iconst (Int.ofNat 0), 1, 0, 0, 0) := ⟨m_0, by decide +kernel⟩
theorem f_0_467 : nF 0 mq_0 467 (.iload 26, 2, 0, 0, 0) := ⟨m_0, by decide +kernel⟩
theorem f_0_469 : nF 0 mq_0 469 (.iload 24, 2, 0, 0, 0) := ⟨m_0, by decide +kernel⟩
theorem f_0_471 : nF 0 mq_0 471 (.iload 25, 2, 0, 0, 0) := ⟨m_0, by decide +kernel⟩
theorem f_0_473 : nF 0 mq_0 473 (.iload 22, 2, 0, 0, 0) := ⟨m_0, by decide +kernel⟩
theorem f_0_475 : nF 0 mq_0 475 (.invokestatic 218, 3, 5, 0, 13) := ⟨m_0, by decide +kernel⟩
theorem f_0_478 : nF 0 mq_0 478 (.istore 27, 2, 0, 0, 0) := ⟨m_0, by decide +kernel⟩
theorem f_0_480 : nF 0 mq_0 480 (.aload_n 1, 1, 0, 0, 0) := ⟨m_0, by decide +kernel⟩
theorem f_0_481 : nF 0 mq_0 481 (.iconst (Int.ofNat 0), 1, 0, 0, 0) := ⟨m_0, by decide +kernel⟩
theorem f_0_482 : nF 0 mq_0 482 (.iload 17, 2, 0, 0, 0) := ⟨m_0, by decide +kernel⟩
theorem f_0_484 : nF 0 mq_0 484 (.iload 26, 2, 0, 0, 0) := ⟨m_0, by decide +kernel⟩
theorem f_0_486 : nF 0 mq_0 486 (.iload 24, 2, 0, 0, 0) := ⟨m_0, by decide +kernel⟩
theorem f_0_488 : nF 0 mq_0 488 (.iload 25, 2, 0, 0, 0) := ⟨m_0, by decide +kernel⟩
theorem f_0_490 : nF 0 mq_0 490 (.iload 22, 2, 0, 0, 0) := ⟨m_0, by decide +kernel⟩
theorem f_0_492 : nF 0 mq_0 492 (.invokestatic 119, 3, 6, 0, 7) := ⟨m_0, by decide +kernel⟩
theorem f_0_495 : nF 0 mq_0 495 (.iload 27, 2, 0, 0, 0) := ⟨m_0, by decide +kernel⟩
theorem f_0_497 : nF 0 mq_0 497 (.if_icmp .ne (Int.ofNat 7), 3, 0, 0, 0) := ⟨m_0, by decide +kernel⟩
theorem f_0_500 : nF 0 mq_0 500 (.iconst (Int.ofNat 1), 1, 0, 0, 0) := ⟨m_0, by decide +kernel⟩
theorem f_0_501 : nF 0 mq_0 501 (.goto (Int.ofNat 4), 3, 0, 0, 0) := ⟨m_0, by decide +kernel⟩
theorem f_0_504 : nF 0 mq_0 504 (.iconst (Int.ofNat 0), 1, 0, 0, 0) := ⟨m_0, by decide +kernel⟩
theorem f_0_505 : nF 0 mq_0 505 (.istore 12, 2, 0, 0, 0) := ⟨m_0, by decide +kernel⟩
theorem f_0_507 : nF 0 mq_0 507 (.goto (Int.ofNat 1720), 3, 0, 0, 0) := ⟨m_0, by decide +kernel⟩
theorem f_0_510 : nF 0 mq_0 510 (.iload 15, 2, 0, 0, 0) := ⟨m_0, by decide +kernel⟩
theorem f_0_512 : nF 0 mq_0 512 (.bipush (Int.ofNat 9), 2, 0, 0, 0) := ⟨m_0, by decide +kernel⟩
theorem f_0_514 : nF 0 mq_0 514 (.if_icmp .ne (Int.ofNat 74), 3, 0, 0, 0) := ⟨m_0, by decide +kernel⟩
theorem f_0_517 : nF 0 mq_0 517 (.iload 20, 2, 0, 0, 0) := ⟨m_0, by decide +kernel⟩
theorem f_0_519 : nF 0 mq_0 519 (.ifCond .ne (Int.ofNat 8), 3, 0, 0, 0) := ⟨m_0, by decide +kernel⟩
theorem f_0_522 : nF 0 mq_0 522 (.bipush (Int.negSucc 10), 2, 0, 0, 0) := ⟨m_0, by decide +kernel⟩
theorem f_0_524 : nF 0 mq_0 524 (.goto (Int.ofNat 35), 3, 0, 0, 0) := ⟨m_0, by decide +kernel⟩
theorem f_0_527 : nF 0 mq_0 527 (.iload 19, 2, 0, 0, 0) := ⟨m_0, by decide +kernel⟩
theorem f_0_529 : nF 0 mq_0 529 (.ifCond .ne (Int.ofNat 8), 3, 0, 0, 0) := ⟨m_0, by decide +kernel⟩
theorem f_0_532 : nF 0 mq_0 532 (.bipush (Int.negSucc 12), 2, 0, 0, 0) := ⟨m_0, by decide +kernel⟩
theorem f_0_534 : nF 0 mq_0 534 (.goto (Int.ofNat 25), 3, 0, 0, 0) := ⟨m_0, by decide +kernel⟩
theorem f_0_537 : nF 0 mq_0 537 (.aload_n 2, 1, 0, 0, 0) := ⟨m_0, by decide +kernel⟩
theorem f_0_538 : nF 0 mq_0 538 (.aload_n 3, 1, 0, 0, 0) := ⟨m_0, by decide +kernel⟩
theorem f_0_539 : nF 0 mq_0 539 (.aload 4, 2, 0, 0, 0) := ⟨m_0, by decide +kernel⟩
theorem f_0_541 : nF 0 mq_0 541 (.aload 5, 2, 0, 0, 0) := ⟨m_0, by decide +kernel⟩
theorem f_0_543 : nF 0 mq_0 543 (.iload 18, 2, 0, 0, 0) := ⟨m_0, by decide +kernel⟩
theorem f_0_545 : nF 0 mq_0 545 (.aload 9, 2, 0, 0, 0) := ⟨m_0, by decide +kernel⟩
theorem f_0_547 : nF 0 mq_0 547 (.aload 10, 2, 0, 0, 0) := ⟨m_0, by decide +kernel⟩
theorem f_0_549 : nF 0 mq_0 549 (.iconst (Int.ofNat 1), 1, 0, 0, 0) := ⟨m_0, by decide +kernel⟩
theorem f_0_550 : nF 0 mq_0 550 (.iload 19, 2, 0, 0, 0) := ⟨m_0, by decide +kernel⟩
theorem f_0_552 : nF 0 mq_0 552 (.iconst (Int.ofNat 0), 1, 0, 0, 0) := ⟨m_0, by decide +kernel⟩
theorem f_0_553 : nF 0 mq_0 553 (.iconst (Int.ofNat 0), 1, 0, 0, 0) := ⟨m_0, by decide +kernel⟩
theorem f_0_554 : nF 0 mq_0 554 (.iconst (Int.ofNat 0), 1, 0, 0, 0) := ⟨m_0, by decide +kernel⟩
theorem f_0_555 : nF 0 mq_0 555 (.iconst (Int.ofNat 0), 1, 0, 0, 0) := ⟨m_0, by decide +kernel⟩
theorem f_0_556 : nF 0 mq_0 556 (.invokestatic 218, 3, 5, 0, 13) := ⟨m_0, by decide +kernel⟩
theorem f_0_559 : nF 0 mq_0 559 (.istore 24, 2, 0, 0, 0) := ⟨m_0, by decide +kernel⟩
theorem f_0_561 : nF 0 mq_0 561 (.aload_n 1, 1, 0, 0, 0) := ⟨m_0, by decide +kernel⟩
theorem f_0_562 : nF 0 mq_0 562 (.iconst (Int.ofNat 1), 1, 0, 0, 0) := ⟨m_0, by decide +kernel⟩
theorem f_0_563 : nF 0 mq_0 563 (.iload 17, 2, 0, 0, 0) := ⟨m_0, by decide +kernel⟩
theorem f_0_565 : nF 0 mq_0 565 (.iload 19, 2, 0, 0, 0) := ⟨m_0, by decide +kernel⟩
theorem f_0_567 : nF 0 mq_0 567 (.iconst (Int.ofNat 0), 1, 0, 0, 0) := ⟨m_0, by decide +kernel⟩
theorem f_0_568 : nF 0 mq_0 568 (.iconst (Int.ofNat 0), 1, 0, 0, 0) := ⟨m_0, by decide +kernel⟩
theorem f_0_569 : nF 0 mq_0 569 (.iconst (Int.ofNat 0), 1, 0, 0, 0) := ⟨m_0, by decide +kernel⟩
theorem f_0_570 : nF 0 mq_0 570 (.invokestatic 119, 3, 6, 0, 7) := ⟨m_0, by decide +kernel⟩
theorem f_0_573 : nF 0 mq_0 573 (.iload 24, 2, 0, 0, 0) := ⟨m_0, by decide +kernel⟩
theorem f_0_575 : nF 0 mq_0 575 (.if_icmp .ne (Int.ofNat 7), 3, 0, 0, 0) := ⟨m_0, by decide +kernel⟩
theorem f_0_578 : nF 0 mq_0 578 (.iconst (Int.ofNat 1), 1, 0, 0, 0) := ⟨m_0, by decide +kernel⟩
theorem f_0_579 : nF 0 mq_0 579 (.goto (Int.ofNat 4), 3, 0, 0, 0) := ⟨m_0, by decide +kernel⟩
theorem f_0_582 : nF 0 mq_0 582 (.iconst (Int.ofNat 0), 1, 0, 0, 0) := ⟨m_0, by decide +kernel⟩
theorem f_0_583 : nF 0 mq_0 583 (.istore 12, 2, 0, 0, 0) := ⟨m_0, by decide +kernel⟩
theorem f_0_585 : nF 0 mq_0 585 (.goto (Int.ofNat 1642), 3, 0, 0, 0) := ⟨m_0, by decide +kernel⟩
theorem f_0_588 : nF 0 mq_0 588 (.iload 15, 2, 0, 0, 0) := ⟨m_0, by decide +kernel⟩
theorem f_0_590 : nF 0 mq_0 590 (.bipush (Int.ofNat 14), 2, 0, 0, 0) := ⟨m_0, by decide +kernel⟩
theorem f_0_592 : nF 0 mq_0 592 (.if_icmp .ge (Int.ofNat 207), 3, 0, 0, 0) := ⟨m_0, by decide +kernel⟩
theorem f_0_595 : nF 0 mq_0 595 (.iload 20, 2, 0, 0, 0) := ⟨m_0, by decide +kernel⟩
theorem f_0_597 : nF 0 mq_0 597 (.ifCond .eq (Int.ofNat 18), 3, 0, 0, 0) := ⟨m_0, by decide +kernel⟩
theorem f_0_600 : nF 0 mq_0 600 (.aload_n 3, 1, 0, 0, 0) := ⟨m_0, by decide +kernel⟩
theorem f_0_601 : nF 0 mq_0 601 (.iload 18, 2, 0, 0, 0) := ⟨m_0, by decide +kernel⟩
theorem f_0_603 : nF 0 mq_0 603 (.iload 21, 2, 0, 0, 0) := ⟨m_0, by decide +kernel⟩
theorem f_0_605 : nF 0 mq_0 605 (.invokestatic 7, 3, 3, 0, 3) := ⟨m_0, by decide +kernel⟩
theorem f_0_608 : nF 0 mq_0 608 (.ifCond .eq (Int.ofNat 7), 3, 0, 0, 0) := ⟨m_0, by decide +kernel⟩
theorem f_0_611 : nF 0 mq_0 611 (.iconst (Int.ofNat 1), 1, 0, 0, 0) := ⟨m_0, by decide +kernel⟩
theorem f_0_612 : nF 0 mq_0 612 (.goto (Int.ofNat 4), 3, 0, 0, 0) := ⟨m_0, by decide +kernel⟩
theorem f_0_615 : nF 0 mq_0 615 (.iconst (Int.ofNat 0), 1, 0, 0, 0) := ⟨m_0, by decide +kernel⟩
theorem f_0_616 : nF 0 mq_0 616 (.istore 24, 2, 0, 0, 0) := ⟨m_0, by decide +kernel⟩
theorem f_0_618 : nF 0 mq_0 618 (.iload 24, 2, 0, 0, 0) := ⟨m_0, by decide +kernel⟩
theorem f_0_620 : nF 0 mq_0 620 (.ifCond .eq (Int.ofNat 34), 3, 0, 0, 0) := ⟨m_0, by decide +kernel⟩
theorem f_0_623 : nF 0 mq_0 623 (.aload_n 2, 1, 0, 0, 0) := ⟨m_0, by decide +kernel⟩
theorem f_0_624 : nF 0 mq_0 624 (.aload_n 3, 1, 0, 0, 0) := ⟨m_0, by decide +kernel⟩
theorem f_0_625 : nF 0 mq_0 625 (.iload 18, 2, 0, 0, 0) := ⟨m_0, by decide +kernel⟩
theorem f_0_627 : nF 0 mq_0 627 (.iload 21, 2, 0, 0, 0) := ⟨m_0, by decide +kernel⟩
theorem f_0_629 : nF 0 mq_0 629 (.invokestatic 17, 3, 4, 0, 4) := ⟨m_0, by decide +kernel⟩
theorem f_0_632 : nF 0 mq_0 632 (.aload_n 3, 1, 0, 0, 0) := ⟨m_0, by decide +kernel⟩
theorem f_0_633 : nF 0 mq_0 633 (.iload 18, 2, 0, 0, 0) := ⟨m_0, by decide +kernel⟩
theorem f_0_635 : nF 0 mq_0 635 (.iload 19, 2, 0, 0, 0) := ⟨m_0, by decide +kernel⟩
theorem f_0_637 : nF 0 mq_0 637 (.invokestatic 13, 3, 7, 0, 3) := ⟨m_0, by decide +kernel⟩
theorem f_0_640 : nF 0 mq_0 640 (.iload 21, 2, 0, 0, 0) := ⟨m_0, by decide +kernel⟩
theorem f_0_642 : nF 0 mq_0 642 (.if_icmp .ne (Int.ofNat 7), 3, 0, 0, 0) := ⟨m_0, by decide +kernel⟩
theorem f_0_645 : nF 0 mq_0 645 (.iconst (Int.ofNat 1), 1, 0, 0, 0) := ⟨m_0, by decide +kernel⟩
theorem f_0_646 : nF 0 mq_0 646 (.goto (Int.ofNat 4), 3, 0, 0, 0) := ⟨m_0, by decide +kernel⟩
theorem f_0_649 : nF 0 mq_0 649 (.iconst (Int.ofNat 0), 1, 0, 0, 0) := ⟨m_0, by decide +kernel⟩
theorem f_0_650 : nF 0 mq_0 650 (.isub, 1, 0, 0, 0) := ⟨m_0, by decide +kernel⟩
theorem f_0_651 : nF 0 mq_0 651 (.goto (Int.ofNat 4), 3, 0, 0, 0) := ⟨m_0, by decide +kernel⟩
theorem f_0_654 : nF 0 mq_0 654 (.iconst (Int.ofNat 0), 1, 0, 0, 0) := ⟨m_0, by decide +kernel⟩
theorem f_0_655 : nF 0 mq_0 655 (.istore 25, 2, 0, 0, 0) := ⟨m_0, by decide +kernel⟩
theorem f_0_657 : nF 0 mq_0 657 (.iload 16, 2, 0, 0, 0) := ⟨m_0, by decide +kernel⟩
theorem f_0_659 : nF 0 mq_0 659 (.bipush (Int.ofNat 50), 2, 0, 0, 0) := ⟨m_0, by decide +kernel⟩
theorem f_0_661 : nF 0 mq_0 661 (.idiv, 1, 0, 0, 0) := ⟨m_0, by decide +kernel⟩
theorem f_0_662 : nF 0 mq_0 662 (.iload 25, 2, 0, 0, 0) := ⟨m_0, by decide +kernel⟩
theorem f_0_664 : nF 0 mq_0 664 (.iconst (Int.ofNat 1), 1, 0, 0, 0) := ⟨m_0, by decide +kernel⟩
theorem f_0_665 : nF 0 mq_0 665 (.iadd, 1, 0, 0, 0) := ⟨m_0, by decide +kernel⟩
theorem f_0_666 : nF 0 mq_0 666 (.iload 16, 2, 0, 0, 0) := ⟨m_0, by decide +kernel⟩
theorem f_0_668 : nF 0 mq_0 668 (.bipush (Int.ofNat 11), 2, 0, 0, 0) := ⟨m_0, by decide +kernel⟩
theorem f_0_670 : nF 0 mq_0 670 (.irem, 1, 0, 0, 0) := ⟨m_0, by decide +kernel⟩
theorem f_0_671 : nF 0 mq_0 671 (.ifCond .ne (Int.ofNat 7), 3, 0, 0, 0) := ⟨m_0, by decide +kernel⟩
theorem f_0_674 : nF 0 mq_0 674 (.iconst (Int.ofNat 1), 1, 0, 0, 0) := ⟨m_0, by decide +kernel⟩
theorem f_0_675 : nF 0 mq_0 675 (.goto (Int.ofNat 4), 3, 0, 0, 0) := ⟨m_0, by decide +kernel⟩
theorem f_0_678 : nF 0 mq_0 678 (.iconst (Int.ofNat 0), 1, 0, 0, 0) := ⟨m_0, by decide +kernel⟩
theorem f_0_679 : nF 0 mq_0 679 (.iadd, 1, 0, 0, 0) := ⟨m_0, by decide +kernel⟩
theorem f_0_680 : nF 0 mq_0 680 (.irem, 1, 0, 0, 0) := ⟨m_0, by decide +kernel⟩
theorem f_0_681 : nF 0 mq_0 681 (.istore 26, 2, 0, 0, 0) := ⟨m_0, by decide +kernel⟩
theorem f_0_683 : nF 0 mq_0 683 (.iload 24, 2, 0, 0, 0) := ⟨m_0, by decide +kernel⟩
theorem f_0_685 : nF 0 mq_0 685 (.ifCond .ne (Int.ofNat 8), 3, 0, 0, 0) := ⟨m_0, by decide +kernel⟩
theorem f_0_688 : nF 0 mq_0 688 (.bipush (Int.negSucc 10), 2, 0, 0, 0) := ⟨m_0, by decide +kernel⟩
theorem f_0_690 : nF 0 mq_0 690 (.goto (Int.ofNat 78), 3, 0, 0, 0) := ⟨m_0, by decide +kernel⟩
theorem f_0_693 : nF 0 mq_0 693 (.iload 26, 2, 0, 0, 0) := ⟨m_0, by decide +kernel⟩
theorem f_0_695 : nF 0 mq_0 695 (.iload 25, 2, 0, 0, 0) := ⟨m_0, by decide +kernel⟩
theorem f_0_697 : nF 0 mq_0 697 (.if_icmp .le (Int.ofNat 8), 3, 0, 0, 0) := ⟨m_0, by decide +kernel⟩
theorem f_0_700 : nF 0 mq_0 700 (.bipush (Int.negSucc 11), 2, 0, 0, 0) := ⟨m_0, by decide +kernel⟩
theorem f_0_702 : nF 0 mq_0 702 (.goto (Int.ofNat 66), 3, 0, 0, 0) := ⟨m_0, by decide +kernel⟩
theorem f_0_705 : nF 0 mq_0 705 (.iload 19, 2, 0, 0, 0) := ⟨m_0, by decide +kernel⟩
theorem f_0_707 : nF 0 mq_0 707 (.ifCond .eq (Int.ofNat 32), 3, 0, 0, 0) := ⟨m_0, by decide +kernel⟩
theorem f_0_710 : nF 0 mq_0 710 (.iload 19, 2, 0, 0, 0) := ⟨m_0, by decide +kernel⟩
theorem f_0_712 : nF 0 mq_0 712 (.iload 21, 2, 0, 0, 0) := ⟨m_0, by decide +kernel⟩
theorem f_0_714 : nF 0 mq_0 714 (.if_icmp .eq (Int.ofNat 25), 3, 0, 0, 0) := ⟨m_0, by decide +kernel⟩
theorem f_0_717 : nF 0 mq_0 717 (.aload_n 3, 1, 0, 0, 0) := ⟨m_0, by decide +kernel⟩
theorem f_0_718 : nF 0 mq_0 718 (.iload 18, 2, 0, 0, 0) := ⟨m_0, by decide +kernel⟩
theorem f_0_720 : nF 0 mq_0 720 (.iload 21, 2, 0, 0, 0) := ⟨m_0, by decide +kernel⟩
theorem f_0_722 : nF 0 mq_0 722 (.iload 19, 2, 0, 0, 0) := ⟨m_0, by decide +kernel⟩
theorem f_0_724 : nF 0 mq_0 724 (.invokestatic 199, 3, 8, 0, 4) := ⟨m_0, by decide +kernel⟩
theorem f_0_727 : nF 0 mq_0 727 (.ifCond .ne (Int.ofNat 12), 3, 0, 0, 0) := ⟨m_0, by decide +kernel⟩
theorem f_0_730 : nF 0 mq_0 730 (.aload 9, 2, 0, 0, 0) := ⟨m_0, by decide +kernel⟩
theorem f_0_732 : nF 0 mq_0 732 (.iload 21, 2, 0, 0, 0) := ⟨m_0, by decide +kernel⟩
theorem f_0_734 : nF 0 mq_0 734 (.iaload, 1, 0, 0, 0) := ⟨m_0, by decide +kernel⟩
theorem f_0_735 : nF 0 mq_0 735 (.iconst (Int.ofNat 1), 1, 0, 0, 0) := ⟨m_0, by decide +kernel⟩
theorem f_0_736 : nF 0 mq_0 736 (.if_icmp .le (Int.ofNat 8), 3, 0, 0, 0) := ⟨m_0, by decide +kernel⟩
theorem f_0_739 : nF 0 mq_0 739 (.bipush (Int.negSucc 12), 2, 0, 0, 0) := ⟨m_0, by decide +kernel⟩
theorem f_0_741 : nF 0 mq_0 741 (.goto (Int.ofNat 27), 3, 0, 0, 0) := ⟨m_0, by decide +kernel⟩
theorem f_0_744 : nF 0 mq_0 744 (.aload_n 2, 1, 0, 0, 0) := ⟨m_0, by decide +kernel⟩
theorem f_0_745 : nF 0 mq_0 745 (.aload_n 3, 1, 0, 0, 0) := ⟨m_0, by decide +kernel⟩
theorem f_0_746 : nF 0 mq_0 746 (.aload 4, 2, 0, 0, 0) := ⟨m_0, by decide +kernel⟩
theorem f_0_748 : nF 0 mq_0 748 (.aload 5, 2, 0, 0, 0) := ⟨m_0, by decide +kernel⟩
theorem f_0_750 : nF 0 mq_0 750 (.iload 18, 2, 0, 0, 0) := ⟨m_0, by decide +kernel⟩
theorem f_0_752 : nF 0 mq_0 752 (.aload 9, 2, 0, 0, 0) := ⟨m_0, by decide +kernel⟩
theorem f_0_754 : nF 0 mq_0 754 (.aload 10, 2, 0, 0, 0) := ⟨m_0, by decide +kernel⟩
theorem f_0_756 : nF 0 mq_0 756 (.iconst (Int.ofNat 2), 1, 0, 0, 0) := ⟨m_0, by decide +kernel⟩
theorem f_0_757 : nF 0 mq_0 757 (.iload 19, 2, 0, 0, 0) := ⟨m_0, by decide +kernel⟩
theorem f_0_759 : nF 0 mq_0 759 (.iload 21, 2, 0, 0, 0) := ⟨m_0, by decide +kernel⟩
theorem f_0_761 : nF 0 mq_0 761 (.iload 26, 2, 0, 0, 0) := ⟨m_0, by decide +kernel⟩
theorem f_0_763 : nF 0 mq_0 763 (.iconst (Int.ofNat 0), 1, 0, 0, 0) := ⟨m_0, by decide +kernel⟩
theorem f_0_764 : nF 0 mq_0 764 (.iconst (Int.ofNat 0), 1, 0, 0, 0) := ⟨m_0, by decide +kernel⟩
theorem f_0_765 : nF 0 mq_0 765 (.invokestatic 218, 3, 5, 0, 13) := ⟨m_0, by decide +kernel⟩
theorem f_0_768 : nF 0 mq_0 768 (.istore 27, 2, 0, 0, 0) := ⟨m_0, by decide +kernel⟩
theorem f_0_770 : nF 0 mq_0 770 (.aload_n 1, 1, 0, 0, 0) := ⟨m_0, by decide +kernel⟩
theorem f_0_771 : nF 0 mq_0 771 (.iconst (Int.ofNat 2), 1, 0, 0, 0) := ⟨m_0, by decide +kernel⟩
theorem f_0_772 : nF 0 mq_0 772 (.iload 17, 2, 0, 0, 0) := ⟨m_0, by decide +kernel⟩
theorem f_0_774 : nF 0 mq_0 774 (.iload 19, 2, 0, 0, 0) := ⟨m_0, by decide +kernel⟩
theorem f_0_776 : nF 0 mq_0 776 (.iload 21, 2, 0, 0, 0) := ⟨m_0, by decide +kernel⟩
theorem f_0_778 : nF 0 mq_0 778 (.iload 26, 2, 0, 0, 0) := ⟨m_0, by decide +kernel⟩
theorem f_0_780 : nF 0 mq_0 780 (.iconst (Int.ofNat 0), 1, 0, 0, 0) := ⟨m_0, by decide +kernel⟩
theorem f_0_781 : nF 0 mq_0 781 (.invokestatic 119, 3, 6, 0, 7) := ⟨m_0, by decide +kernel⟩
theorem f_0_784 : nF 0 mq_0 784 (.iload 27, 2, 0, 0, 0) := ⟨m_0, by decide +kernel⟩
theorem f_0_786 : nF 0 mq_0 786 (.if_icmp .ne (Int.ofNat 7), 3, 0, 0, 0) := ⟨m_0, by decide +kernel⟩
theorem f_0_789 : nF 0 mq_0 789 (.iconst (Int.ofNat 1), 1, 0, 0, 0) := ⟨m_0, by decide +kernel⟩
theorem f_0_790 : nF 0 mq_0 790 (.goto (Int.ofNat 4), 3, 0, 0, 0) := ⟨m_0, by decide +kernel⟩
theorem f_0_793 : nF 0 mq_0 793 (.iconst (Int.ofNat 0), 1, 0, 0, 0) := ⟨m_0, by decide +kernel⟩
theorem f_0_794 : nF 0 mq_0 794 (.istore 12, 2, 0, 0, 0) := ⟨m_0, by decide +kernel⟩
theorem f_0_796 : nF 0 mq_0 796 (.goto (Int.ofNat 1431), 3, 0, 0, 0) := ⟨m_0, by decide +kernel⟩
theorem f_0_799 : nF 0 mq_0 799 (.iload 15, 2, 0, 0, 0) := ⟨m_0, by decide +kernel⟩
theorem f_0_801 : nF 0 mq_0 801 (.bipush (Int.ofNat 16), 2, 0, 0, 0) := ⟨m_0, by decide +kernel⟩
theorem f_0_803 : nF 0 mq_0 803 (.if_icmp .ge (Int.ofNat 66), 3, 0, 0, 0) := ⟨m_0, by decide +kernel⟩
theorem f_0_806 : nF 0 mq_0 806 (.iload 20, 2, 0, 0, 0) := ⟨m_0, by decide +kernel⟩
theorem f_0_808 : nF 0 mq_0 808 (.ifCond .ne (Int.ofNat 8), 3, 0, 0, 0) := ⟨m_0, by decide +kernel⟩
theorem f_0_811 : nF 0 mq_0 811 (.bipush (Int.negSucc 10), 2, 0, 0, 0) := ⟨m_0, by decide +kernel⟩
theorem f_0_813 : nF 0 mq_0 813 (.goto (Int.ofNat 26), 3, 0, 0, 0) := ⟨m_0, by decide +kernel⟩
theorem f_0_816 : nF 0 mq_0 816 (.aload_n 2, 1, 0, 0, 0) := ⟨m_0, by decide +kernel⟩
theorem f_0_817 : nF 0 mq_0 817 (.aload_n 3, 1, 0, 0, 0) := ⟨m_0, by decide +kernel⟩
theorem f_0_818 : nF 0 mq_0 818 (.aload 4, 2, 0, 0, 0) := ⟨m_0, by decide +kernel⟩
theorem f_0_820 : nF 0 mq_0 820 (.aload 5, 2, 0, 0, 0) := ⟨m_0, by decide +kernel⟩
theorem f_0_822 : nF 0 mq_0 822 (.iload 18, 2, 0, 0, 0) := ⟨m_0, by decide +kernel⟩
theorem f_0_824 : nF 0 mq_0 824 (.aload 9, 2, 0, 0, 0) := ⟨m_0, by decide +kernel⟩
theorem f_0_826 : nF 0 mq_0 826 (.aload 10, 2, 0, 0, 0) := ⟨m_0, by decide +kernel⟩
theorem f_0_828 : nF 0 mq_0 828 (.iconst (Int.ofNat 3), 1, 0, 0, 0) := ⟨m_0, by decide +kernel⟩
theorem f_0_829 : nF 0 mq_0 829 (.iload 19, 2, 0, 0, 0) := ⟨m_0, by decide +kernel⟩
theorem f_0_831 : nF 0 mq_0 831 (.iconst (Int.ofNat 0), 1, 0, 0, 0) := ⟨m_0, by decide +kernel⟩
theorem f_0_832 : nF 0 mq_0 832 (.iconst (Int.ofNat 0), 1, 0, 0, 0) := ⟨m_0, by decide +kernel⟩
theorem f_0_833 : nF 0 mq_0 833 (.iconst (Int.ofNat 0), 1, 0, 0, 0) := ⟨m_0, by decide +kernel⟩
theorem f_0_834 : nF 0 mq_0 834 (.iload 22, 2, 0, 0, 0) := ⟨m_0, by decide +kernel⟩
theorem f_0_836 : nF 0 mq_0 836 (.invokestatic 218, 3, 5, 0, 13) := ⟨m_0, by decide +kernel⟩
theorem f_0_839 : nF 0 mq_0 839 (.istore 24, 2, 0, 0, 0) := ⟨m_0, by decide +kernel⟩
theorem f_0_841 : nF 0 mq_0 841 (.aload_n 1, 1, 0, 0, 0) := ⟨m_0, by decide +kernel⟩
theorem f_0_842 : nF 0 mq_0 842 (.iconst (Int.ofNat 3), 1, 0, 0, 0) := ⟨m_0, by decide +kernel⟩
theorem f_0_843 : nF 0 mq_0 843 (.iload 17, 2, 0, 0, 0) := ⟨m_0, by decide +kernel⟩
theorem f_0_845 : nF 0 mq_0 845 (.iload 19, 2, 0, 0, 0) := ⟨m_0, by decide +kernel⟩
theorem f_0_847 : nF 0 mq_0 847 (.iload 22, 2, 0, 0, 0) := ⟨m_0, by decide +kernel⟩
theorem f_0_849 : nF 0 mq_0 849 (.iconst (Int.ofNat 0), 1, 0, 0, 0) := ⟨m_0, by decide +kernel⟩
theorem f_0_850 : nF 0 mq_0 850 (.iconst (Int.ofNat 0), 1, 0, 0, 0) := ⟨m_0, by decide +kernel⟩
theorem f_0_851 : nF 0 mq_0 851 (.invokestatic 119, 3, 6, 0, 7) := ⟨m_0, by decide +kernel⟩
theorem f_0_854 : nF 0 mq_0 854 (.iload 24, 2, 0, 0, 0) := ⟨m_0, by decide +kernel⟩
theorem f_0_856 : nF 0 mq_0 856 (.if_icmp .ne (Int.ofNat 7), 3, 0, 0, 0) := ⟨m_0, by decide +kernel⟩
theorem f_0_859 : nF 0 mq_0 859 (.iconst (Int.ofNat 1), 1, 0, 0, 0) := ⟨m_0, by decide +kernel⟩
theorem f_0_860 : nF 0 mq_0 860 (.goto (Int.ofNat 4), 3, 0, 0, 0) := ⟨m_0, by decide +kernel⟩
theorem f_0_863 : nF 0 mq_0 863 (.iconst (Int.ofNat 0), 1, 0, 0, 0) := ⟨m_0, by decide +kernel⟩
theorem f_0_864 : nF 0 mq_0 864 (.istore 12, 2, 0, 0, 0) := ⟨m_0, by decide +kernel⟩
theorem f_0_866 : nF 0 mq_0 866 (.goto (Int.ofNat 1361), 3, 0, 0, 0) := ⟨m_0, by decide +kernel⟩
theorem f_0_869 : nF 0 mq_0 869 (.iload 15, 2, 0, 0, 0) := ⟨m_0, by decide +kernel⟩
theorem f_0_871 : nF 0 mq_0 871 (.bipush (Int.ofNat 18), 2, 0, 0, 0) := ⟨m_0, by decide +kernel⟩
theorem f_0_873 : nF 0 mq_0 873 (.if_icmp .ge (Int.ofNat 192), 3, 0, 0, 0) := ⟨m_0, by decide +kernel⟩
theorem f_0_876 : nF 0 mq_0 876 (.iload 16, 2, 0, 0, 0) := ⟨m_0, by decide +kernel⟩
theorem f_0_878 : nF 0 mq_0 878 (.iconst (Int.ofNat 4), 1, 0, 0, 0) := ⟨m_0, by decide +kernel⟩
theorem f_0_879 : nF 0 mq_0 879 (.irem, 1, 0, 0, 0) := ⟨m_0, by decide +kernel⟩
theorem f_0_880 : nF 0 mq_0 880 (.ifCond .ne (Int.ofNat 7), 3, 0, 0, 0) := ⟨m_0, by decide +kernel⟩
theorem f_0_883 : nF 0 mq_0 883 (.iconst (Int.negSucc 0), 1, 0, 0, 0) := ⟨m_0, by decide +kernel⟩
theorem f_0_884 : nF 0 mq_0 884 (.goto (Int.ofNat 5), 3, 0, 0, 0) := ⟨m_0, by decide +kernel⟩
theorem f_0_887 : nF 0 mq_0 887 (.iload 21, 2, 0, 0, 0) := ⟨m_0, by decide +kernel⟩
theorem f_0_889 : nF 0 mq_0 889 (.istore 24, 2, 0, 0, 0) := ⟨m_0, by decide +kernel⟩
theorem f_0_891 : nF 0 mq_0 891 (.iconst (Int.ofNat 0), 1, 0, 0, 0) := ⟨m_0, by decide +kernel⟩
theorem f_0_892 : nF 0 mq_0 892 (.istore 25, 2, 0, 0, 0) := ⟨m_0, by decide +kernel⟩
theorem f_0_894 : nF 0 mq_0 894 (.iload 25, 2, 0, 0, 0) := ⟨m_0, by decide +kernel⟩
theorem f_0_896 : nF 0 mq_0 896 (.aload_n 2, 1, 0, 0, 0) := ⟨m_0, by decide +kernel⟩
theorem f_0_897 : nF 0 mq_0 897 (.iconst (Int.ofNat 0), 1, 0, 0, 0) := ⟨m_0, by decide +kernel⟩
theorem f_0_898 : nF 0 mq_0 898 (.iaload, 1, 0, 0, 0) := ⟨m_0, by decide +kernel⟩
theorem f_0_899 : nF 0 mq_0 899 (.if_icmp .ge (Int.ofNat 35), 3, 0, 0, 0) := ⟨m_0, by decide +kernel⟩
theorem f_0_902 : nF 0 mq_0 902 (.iload 16, 2, 0, 0, 0) := ⟨m_0, by decide +kernel⟩
theorem f_0_904 : nF 0 mq_0 904 (.iconst (Int.ofNat 5), 1, 0, 0, 0) := ⟨m_0, by decide +kernel⟩
theorem f_0_905 : nF 0 mq_0 905 (.irem, 1, 0, 0, 0) := ⟨m_0, by decide +kernel⟩
theorem f_0_906 : nF 0 mq_0 906 (.ifCond .le (Int.ofNat 28), 3, 0, 0, 0) := ⟨m_0, by decide +kernel⟩
theorem f_0_909 : nF 0 mq_0 909 (.aload 9, 2, 0, 0, 0) := ⟨m_0, by decide +kernel⟩
theorem f_0_911 : nF 0 mq_0 911 (.iload 19, 2, 0, 0, 0) := ⟨m_0, by decide +kernel⟩
theorem f_0_913 : nF 0 mq_0 913 (.iaload, 1, 0, 0, 0) := ⟨m_0, by decide +kernel⟩
theorem f_0_914 : nF 0 mq_0 914 (.iconst (Int.ofNat 3), 1, 0, 0, 0) := ⟨m_0, by decide +kernel⟩
theorem f_0_915 : nF 0 mq_0 915 (.if_icmp .eq (Int.ofNat 19), 3, 0, 0, 0) := ⟨m_0, by decide +kernel⟩
theorem f_0_918 : nF 0 mq_0 918 (.iload 19, 2, 0, 0, 0) := ⟨m_0, by decide +kernel⟩
theorem f_0_920 : nF 0 mq_0 920 (.iconst (Int.ofNat 1), 1, 0, 0, 0) := ⟨m_0, by decide +kernel⟩
theorem f_0_921 : nF 0 mq_0 921 (.iadd, 1, 0, 0, 0) := ⟨m_0, by decide +kernel⟩
theorem f_0_922 : nF 0 mq_0 922 (.aload_n 2, 1, 0, 0, 0) := ⟨m_0, by decide +kernel⟩
theorem f_0_923 : nF 0 mq_0 923 (.iconst (Int.ofNat 0), 1, 0, 0, 0) := ⟨m_0, by decide +kernel⟩
theorem f_0_924 : nF 0 mq_0 924 (.iaload, 1, 0, 0, 0) := ⟨m_0, by decide +kernel⟩
theorem f_0_925 : nF 0 mq_0 925 (.irem, 1, 0, 0, 0) := ⟨m_0, by decide +kernel⟩
theorem f_0_926 : nF 0 mq_0 926 (.istore 19, 2, 0, 0, 0) := ⟨m_0, by decide +kernel⟩
theorem f_0_928 : nF 0 mq_0 928 (.iinc 25 (Int.ofNat 1), 3, 0, 0, 0) := ⟨m_0, by decide +kernel⟩
theorem f_0_931 : nF 0 mq_0 931 (.goto (Int.negSucc 36), 3, 0, 0, 0) := ⟨m_0, by decide +kernel⟩
theorem f_0_934 : nF 0 mq_0 934 (.aload_n 3, 1, 0, 0, 0) := ⟨m_0, by decide +kernel⟩
theorem f_0_935 : nF 0 mq_0 935 (.iload 18, 2, 0, 0, 0) := ⟨m_0, by decide +kernel⟩
theorem f_0_937 : nF 0 mq_0 937 (.iload 19, 2, 0, 0, 0) := ⟨m_0, by decide +kernel⟩
theorem f_0_939 : nF 0 mq_0 939 (.invokestatic 7, 3, 3, 0, 3) := ⟨m_0, by decide +kernel⟩
theorem f_0_942 : nF 0 mq_0 942 (.ifCond .eq (Int.ofNat 23), 3, 0, 0, 0) := ⟨m_0, by decide +kernel⟩
theorem f_0_945 : nF 0 mq_0 945 (.iload 24, 2, 0, 0, 0) := ⟨m_0, by decide +kernel⟩
theorem f_0_947 : nF 0 mq_0 947 (.ifCond .lt (Int.ofNat 14), 3, 0, 0, 0) := ⟨m_0, by decide +kernel⟩
theorem f_0_950 : nF 0 mq_0 950 (.aload_n 3, 1, 0, 0, 0) := ⟨m_0, by decide +kernel⟩
theorem f_0_951 : nF 0 mq_0 951 (.iload 18, 2, 0, 0, 0) := ⟨m_0, by decide +kernel⟩
theorem f_0_953 : nF 0 mq_0 953 (.iload 24, 2, 0, 0, 0) := ⟨m_0, by decide +kernel⟩
theorem f_0_955 : nF 0 mq_0 955 (.invokestatic 7, 3, 3, 0, 3) := ⟨m_0, by decide +kernel⟩
theorem f_0_958 : nF 0 mq_0 958 (.ifCond .eq (Int.ofNat 7), 3, 0, 0, 0) := ⟨m_0, by decide +kernel⟩
theorem f_0_961 : nF 0 mq_0 961 (.iconst (Int.ofNat 1), 1, 0, 0, 0) := ⟨m_0, by decide +kernel⟩
theorem f_0_962 : nF 0 mq_0 962 (.goto (Int.ofNat 4), 3, 0, 0, 0) := ⟨m_0, by decide +kernel⟩
theorem f_0_965 : nF 0 mq_0 965 (.iconst (Int.ofNat 0), 1, 0, 0, 0) := ⟨m_0, by decide +kernel⟩
theorem f_0_966 : nF 0 mq_0 966 (.istore 25, 2, 0, 0, 0) := ⟨m_0, by decide +kernel⟩
theorem f_0_968 : nF 0 mq_0 968 (.iload 25, 2, 0, 0, 0) := ⟨m_0, by decide +kernel⟩
theorem f_0_970 : nF 0 mq_0 970 (.ifCond .ne (Int.ofNat 8), 3, 0, 0, 0) := ⟨m_0, by decide +kernel⟩
theorem f_0_973 : nF 0 mq_0 973 (.bipush (Int.negSucc 10), 2, 0, 0, 0) := ⟨m_0, by decide +kernel⟩
theorem f_0_975 : nF 0 mq_0 975 (.goto (Int.ofNat 30), 3, 0, 0, 0) := ⟨m_0, by decide +kernel⟩
theorem f_0_978 : nF 0 mq_0 978 (.aload 9, 2, 0, 0, 0) := ⟨m_0, by decide +kernel⟩
theorem f_0_980 : nF 0 mq_0 980 (.iload 19, 2, 0, 0, 0) := ⟨m_0, by decide +kernel⟩
theorem f_0_982 : nF 0 mq_0 982 (.iaload, 1, 0, 0, 0) := ⟨m_0, by decide +kernel⟩
theorem f_0_983 : nF 0 mq_0 983 (.iconst (Int.ofNat 3), 1, 0, 0, 0) := ⟨m_0, by decide +kernel⟩
theorem f_0_984 : nF 0 mq_0 984 (.if_icmp .eq (Int.ofNat 8), 3, 0, 0, 0) := ⟨m_0, by decide +kernel⟩
theorem f_0_987 : nF 0 mq_0 987 (.bipush (Int.negSucc 12), 2, 0, 0, 0) := ⟨m_0, by decide +kernel⟩
theorem f_0_989 : nF 0 mq_0 989 (.goto (Int.ofNat 16), 3, 0, 0, 0) := ⟨m_0, by decide +kernel⟩
theorem f_0_992 : nF 0 mq_0 992 (.aload_n 3, 1, 0, 0, 0) := ⟨m_0, by decide +kernel⟩
theorem f_0_993 : nF 0 mq_0 993 (.iload 18, 2, 0, 0, 0) := ⟨m_0, by decide +kernel⟩
theorem f_0_995 : nF 0 mq_0 995 (.iload 19, 2, 0, 0, 0) := ⟨m_0, by decide +kernel⟩
theorem f_0_997 : nF 0 mq_0 997 (.iadd, 1, 0, 0, 0) := ⟨m_0, by decide +kernel⟩
theorem f_0_998 : nF 0 mq_0 998 (.iaload, 1, 0, 0, 0) := ⟨m_0, by decide +kernel⟩
theorem f_0_999 : nF 0 mq_0 999 (.sipush (Int.ofNat 4096), 3, 0, 0, 0) := ⟨m_0, by decide +kernel⟩
theorem f_0_1002 : nF 0 mq_0 1002 (.idiv, 1, 0, 0, 0) := ⟨m_0, by decide +kernel⟩
theorem f_0_1003 : nF 0 mq_0 1003 (.iconst (Int.ofNat 1), 1, 0, 0, 0) := ⟨m_0, by decide +kernel⟩
theorem f_0_1004 : nF 0 mq_0 1004 (.isub, 1, 0, 0, 0) := ⟨m_0, by decide +kernel⟩
theorem f_0_1005 : nF 0 mq_0 1005 (.istore 26, 2, 0, 0, 0) := ⟨m_0, by decide +kernel⟩
theorem f_0_1007 : nF 0 mq_0 1007 (.aload_n 3, 1, 0, 0, 0) := ⟨m_0, by decide +kernel⟩
theorem f_0_1008 : nF 0 mq_0 1008 (.iload 18, 2, 0, 0, 0) := ⟨m_0, by decide +kernel⟩
theorem f_0_1010 : nF 0 mq_0 1010 (.iload 19, 2, 0, 0, 0) := ⟨m_0, by decide +kernel⟩
theorem f_0_1012 : nF 0 mq_0 1012 (.iadd, 1, 0, 0, 0) := ⟨m_0, by decide +kernel⟩
theorem f_0_1013 : nF 0 mq_0 1013 (.dup2, 1, 0, 0, 0) := ⟨m_0, by decide +kernel⟩
theorem f_0_1014 : nF 0 mq_0 1014 (.iaload, 1, 0, 0, 0) := ⟨m_0, by decide +kernel⟩
theorem f_0_1015 : nF 0 mq_0 1015 (.iload 26, 2, 0, 0, 0) := ⟨m_0, by decide +kernel⟩
theorem f_0_1017 : nF 0 mq_0 1017 (.bipush (Int.negSucc 1), 2, 0, 0, 0) := ⟨m_0, by decide +kernel⟩
theorem f_0_1019 : nF 0 mq_0 1019 (.if_icmp .ge (Int.ofNat 7), 3, 0, 0, 0) := ⟨m_0, by decide +kernel⟩
theorem f_0_1022 : nF 0 mq_0 1022 (.iconst (Int.ofNat 0), 1, 0, 0, 0) := ⟨m_0, by decide +kernel⟩
theorem f_0_1023 : nF 0 mq_0 1023 (.goto (Int.ofNat 12), 3, 0, 0, 0) := ⟨m_0, by decide +kernel⟩
theorem f_0_1026 : nF 0 mq_0 1026 (.sipush (Int.ofNat 4096), 3, 0, 0, 0) := ⟨m_0, by decide +kernel⟩
theorem f_0_1029 : nF 0 mq_0 1029 (.iload 24, 2, 0, 0, 0) := ⟨m_0, by decide +kernel⟩
theorem f_0_1031 : nF 0 mq_0 1031 (.iload 26, 2, 0, 0, 0) := ⟨m_0, by decide +kernel⟩
theorem f_0_1033 : nF 0 mq_0 1033 (.isub, 1, 0, 0, 0) := ⟨m_0, by decide +kernel⟩
theorem f_0_1034 : nF 0 mq_0 1034 (.imul, 1, 0, 0, 0) := ⟨m_0, by decide +kernel⟩
theorem f_0_1035 : nF 0 mq_0 1035 (.iadd, 1, 0, 0, 0) := ⟨m_0, by decide +kernel⟩
theorem f_0_1036 : nF 0 mq_0 1036 (.iastore, 1, 0, 0, 0) := ⟨m_0, by decide +kernel⟩
theorem f_0_1037 : nF 0 mq_0 1037 (.aload_n 1, 1, 0, 0, 0) := ⟨m_0, by decide +kernel⟩
theorem f_0_1038 : nF 0 mq_0 1038 (.iconst (Int.ofNat 4), 1, 0, 0, 0) := ⟨m_0, by decide +kernel⟩
theorem f_0_1039 : nF 0 mq_0 1039 (.iload 17, 2, 0, 0, 0) := ⟨m_0, by decide +kernel⟩
theorem f_0_1041 : nF 0 mq_0 1041 (.iload 19, 2, 0, 0, 0) := ⟨m_0, by decide +kernel⟩
theorem f_0_1043 : nF 0 mq_0 1043 (.iload 24, 2, 0, 0, 0) := ⟨m_0, by decide +kernel⟩
theorem f_0_1045 : nF 0 mq_0 1045 (.iconst (Int.ofNat 0), 1, 0, 0, 0) := ⟨m_0, by decide +kernel⟩
theorem f_0_1046 : nF 0 mq_0 1046 (.iconst (Int.ofNat 0), 1, 0, 0, 0) := ⟨m_0, by decide +kernel⟩
theorem f_0_1047 : nF 0 mq_0 1047 (.invokestatic 119, 3, 6, 0, 7) := ⟨m_0, by decide +kernel⟩
theorem f_0_1050 : nF 0 mq_0 1050 (.iload 26, 2, 0, 0, 0) := ⟨m_0, by decide +kernel⟩
theorem f_0_1052 : nF 0 mq_0 1052 (.if_icmp .ne (Int.ofNat 7), 3, 0, 0, 0) := ⟨m_0, by decide +kernel⟩
theorem f_0_1055 : nF 0 mq_0 1055 (.iconst (Int.ofNat 1), 1, 0, 0, 0) := ⟨m_0, by decide +kernel⟩
theorem f_0_1056 : nF 0 mq_0 1056 (.goto (Int.ofNat 4), 3, 0, 0, 0) := ⟨m_0, by decide +kernel⟩
theorem f_0_1059 : nF 0 mq_0 1059 (.iconst (Int.ofNat 0), 1, 0, 0, 0) := ⟨m_0, by decide +kernel⟩
theorem f_0_1060 : nF 0 mq_0 1060 (.istore 12, 2, 0, 0, 0) := ⟨m_0, by decide +kernel⟩
theorem f_0_1062 : nF 0 mq_0 1062 (.goto (Int.ofNat 1165), 3, 0, 0, 0) := ⟨m_0, by decide +kernel⟩
theorem f_0_1065 : nF 0 mq_0 1065 (.iload 15, 2, 0, 0, 0) := ⟨m_0, by decide +kernel⟩
theorem f_0_1067 : nF 0 mq_0 1067 (.bipush (Int.ofNat 21), 2, 0, 0, 0) := ⟨m_0, by decide +kernel⟩
theorem f_0_1069 : nF 0 mq_0 1069 (.if_icmp .ge (Int.ofNat 291), 3, 0, 0, 0) := ⟨m_0, by decide +kernel⟩
theorem f_0_1072 : nF 0 mq_0 1072 (.aload_n 2, 1, 0, 0, 0) := ⟨m_0, by decide +kernel⟩
theorem f_0_1073 : nF 0 mq_0 1073 (.iconst (Int.ofNat 1), 1, 0, 0, 0) := ⟨m_0, by decide +kernel⟩
theorem f_0_1074 : nF 0 mq_0 1074 (.iaload, 1, 0, 0, 0) := ⟨m_0, by decide +kernel⟩
theorem f_0_1075 : nF 0 mq_0 1075 (.bipush (Int.ofNat 10), 2, 0, 0, 0) := ⟨m_0, by decide +kernel⟩
theorem f_0_1077 : nF 0 mq_0 1077 (.if_icmp .ge (Int.ofNat 283), 3, 0, 0, 0) := ⟨m_0, by decide +kernel⟩
theorem f_0_1080 : nF 0 mq_0 1080 (.iconst (Int.ofNat 0), 1, 0, 0, 0) := ⟨m_0, by decide +kernel⟩
theorem f_0_1081 : nF 0 mq_0 1081 (.istore 24, 2, 0, 0, 0) := ⟨m_0, by decide +kernel⟩
theorem f_0_1083 : nF 0 mq_0 1083 (.iload 24, 2, 0, 0, 0) := ⟨m_0, by decide +kernel⟩
theorem f_0_1085 : nF 0 mq_0 1085 (.aload_n 2, 1, 0, 0, 0) := ⟨m_0, by decide +kernel⟩
theorem f_0_1086 : nF 0 mq_0 1086 (.iconst (Int.ofNat 0), 1, 0, 0, 0) := ⟨m_0, by decide +kernel⟩
theorem f_0_1087 : nF 0 mq_0 1087 (.iaload, 1, 0, 0, 0) := ⟨m_0, by decide +kernel⟩
theorem f_0_1088 : nF 0 mq_0 1088 (.if_icmp .ge (Int.ofNat 35), 3, 0, 0, 0) := ⟨m_0, by decide +kernel⟩
theorem f_0_1091 : nF 0 mq_0 1091 (.iload 16, 2, 0, 0, 0) := ⟨m_0, by decide +kernel⟩
theorem f_0_1093 : nF 0 mq_0 1093 (.iconst (Int.ofNat 5), 1, 0, 0, 0) := ⟨m_0, by decide +kernel⟩
theorem f_0_1094 : nF 0 mq_0 1094 (.irem, 1, 0, 0, 0) := ⟨m_0, by decide +kernel⟩
theorem f_0_1095 : nF 0 mq_0 1095 (.ifCond .le (Int.ofNat 28), 3, 0, 0, 0) := ⟨m_0, by decide +kernel⟩
theorem f_0_1098 : nF 0 mq_0 1098 (.aload 9, 2, 0, 0, 0) := ⟨m_0, by decide +kernel⟩
theorem f_0_1100 : nF 0 mq_0 1100 (.iload 19, 2, 0, 0, 0) := ⟨m_0, by decide +kernel⟩
theorem f_0_1102 : nF 0 mq_0 1102 (.iaload, 1, 0, 0, 0) := ⟨m_0, by decide +kernel⟩
theorem f_0_1103 : nF 0 mq_0 1103 (.iconst (Int.ofNat 2), 1, 0, 0, 0) := ⟨m_0, by decide +kernel⟩
theorem f_0_1104 : nF 0 mq_0 1104 (.if_icmp .eq (Int.ofNat 19), 3, 0, 0, 0) := ⟨m_0, by decide +kernel⟩
theorem f_0_1107 : nF 0 mq_0 1107 (.iload 19, 2, 0, 0, 0) := ⟨m_0, by decide +kernel⟩
theorem f_0_1109 : nF 0 mq_0 1109 (.iconst (Int.ofNat 1), 1, 0, 0, 0) := ⟨m_0, by decide +kernel⟩
theorem f_0_1110 : nF 0 mq_0 1110 (.iadd, 1, 0, 0, 0) := ⟨m_0, by decide +kernel⟩
theorem f_0_1111 : nF 0 mq_0 1111 (.aload_n 2, 1, 0, 0, 0) := ⟨m_0, by decide +kernel⟩
theorem f_0_1112 : nF 0 mq_0 1112 (.iconst (Int.ofNat 0), 1, 0, 0, 0) := ⟨m_0, by decide +kernel⟩
theorem f_0_1113 : nF 0 mq_0 1113 (.iaload, 1, 0, 0, 0) := ⟨m_0, by decide +kernel⟩
theorem f_0_1114 : nF 0 mq_0 1114 (.irem, 1, 0, 0, 0) := ⟨m_0, by decide +kernel⟩
theorem f_0_1115 : nF 0 mq_0 1115 (.istore 19, 2, 0, 0, 0) := ⟨m_0, by decide +kernel⟩
theorem f_0_1117 : nF 0 mq_0 1117 (.iinc 24 (Int.ofNat 1), 3, 0, 0, 0) := ⟨m_0, by decide +kernel⟩
theorem f_0_1120 : nF 0 mq_0 1120 (.goto (Int.negSucc 36), 3, 0, 0, 0) := ⟨m_0, by decide +kernel⟩
theorem f_0_1123 : nF 0 mq_0 1123 (.aload_n 2, 1, 0, 0, 0) := ⟨m_0, by decide +kernel⟩
theorem f_0_1124 : nF 0 mq_0 1124 (.aload 4, 2, 0, 0, 0) := ⟨m_0, by decide +kernel⟩
theorem f_0_1126 : nF 0 mq_0 1126 (.iload 18, 2, 0, 0, 0) := ⟨m_0, by decide +kernel⟩
theorem f_0_1128 : nF 0 mq_0 1128 (.aload 10, 2, 0, 0, 0) := ⟨m_0, by decide +kernel⟩
theorem f_0_1130 : nF 0 mq_0 1130 (.iload 19, 2, 0, 0, 0) := ⟨m_0, by decide +kernel⟩
theorem f_0_1132 : nF 0 mq_0 1132 (.invokestatic 32, 3, 9, 0, 5) := ⟨m_0, by decide +kernel⟩
theorem f_0_1135 : nF 0 mq_0 1135 (.istore 24, 2, 0, 0, 0) := ⟨m_0, by decide +kernel⟩
theorem f_0_1137 : nF 0 mq_0 1137 (.iload 16, 2, 0, 0, 0) := ⟨m_0, by decide +kernel⟩
theorem f_0_1139 : nF 0 mq_0 1139 (.bipush (Int.ofNat 50), 2, 0, 0, 0) := ⟨m_0, by decide +kernel⟩
theorem f_0_1141 : nF 0 mq_0 1141 (.idiv, 1, 0, 0, 0) := ⟨m_0, by decide +kernel⟩
theorem f_0_1142 : nF 0 mq_0 1142 (.iload 24, 2, 0, 0, 0) := ⟨m_0, by decide +kernel⟩
theorem f_0_1144 : nF 0 mq_0 1144 (.iconst (Int.ofNat 1), 1, 0, 0, 0) := ⟨m_0, by decide +kernel⟩
theorem f_0_1145 : nF 0 mq_0 1145 (.iadd, 1, 0, 0, 0) := ⟨m_0, by decide +kernel⟩
theorem f_0_1146 : nF 0 mq_0 1146 (.iload 16, 2, 0, 0, 0) := ⟨m_0, by decide +kernel⟩
theorem f_0_1148 : nF 0 mq_0 1148 (.bipush (Int.ofNat 11), 2, 0, 0, 0) := ⟨m_0, by decide +kernel⟩
theorem f_0_1150 : nF 0 mq_0 1150 (.irem, 1, 0, 0, 0) := ⟨m_0, by decide +kernel⟩
theorem f_0_1151 : nF 0 mq_0 1151 (.ifCond .ne (Int.ofNat 7), 3, 0, 0, 0) := ⟨m_0, by decide +kernel⟩
theorem f_0_1154 : nF 0 mq_0 1154 (.iconst (Int.ofNat 1), 1, 0, 0, 0) := ⟨m_0, by decide +kernel⟩
theorem f_0_1155 : nF 0 mq_0 1155 (.goto (Int.ofNat 4), 3, 0, 0, 0) := ⟨m_0, by decide +kernel⟩
theorem f_0_1158 : nF 0 mq_0 1158 (.iconst (Int.ofNat 0), 1, 0, 0, 0) := ⟨m_0, by decide +kernel⟩
theorem f_0_1159 : nF 0 mq_0 1159 (.iadd, 1, 0, 0, 0) := ⟨m_0, by decide +kernel⟩
theorem f_0_1160 : nF 0 mq_0 1160 (.irem, 1, 0, 0, 0) := ⟨m_0, by decide +kernel⟩
theorem f_0_1161 : nF 0 mq_0 1161 (.istore 25, 2, 0, 0, 0) := ⟨m_0, by decide +kernel⟩
theorem f_0_1163 : nF 0 mq_0 1163 (.iload 16, 2, 0, 0, 0) := ⟨m_0, by decide +kernel⟩
theorem f_0_1165 : nF 0 mq_0 1165 (.bipush (Int.ofNat 9), 2, 0, 0, 0) := ⟨m_0, by decide +kernel⟩
theorem f_0_1167 : nF 0 mq_0 1167 (.idiv, 1, 0, 0, 0) := ⟨m_0, by decide +kernel⟩
theorem f_0_1168 : nF 0 mq_0 1168 (.bipush (Int.ofNat 100), 2, 0, 0, 0) := ⟨m_0, by decide +kernel⟩
theorem f_0_1170 : nF 0 mq_0 1170 (.irem, 1, 0, 0, 0) := ⟨m_0, by decide +kernel⟩
theorem f_0_1171 : nF 0 mq_0 1171 (.istore 26, 2, 0, 0, 0) := ⟨m_0, by decide +kernel⟩
theorem f_0_1173 : nF 0 mq_0 1173 (.aload_n 3, 1, 0, 0, 0) := ⟨m_0, by decide +kernel⟩
theorem f_0_1174 : nF 0 mq_0 1174 (.iload 18, 2, 0, 0, 0) := ⟨m_0, by decide +kernel⟩
theorem f_0_1176 : nF 0 mq_0 1176 (.iload 19, 2, 0, 0, 0) := ⟨m_0, by decide +kernel⟩
theorem f_0_1178 : nF 0 mq_0 1178 (.invokestatic 7, 3, 3, 0, 3) := ⟨m_0, by decide +kernel⟩
theorem f_0_1181 : nF 0 mq_0 1181 (.ifCond .ne (Int.ofNat 8), 3, 0, 0, 0) := ⟨m_0, by decide +kernel⟩
theorem f_0_1184 : nF 0 mq_0 1184 (.bipush (Int.negSucc 10), 2, 0, 0, 0) := ⟨m_0, by decide +kernel⟩
theorem f_0_1186 : nF 0 mq_0 1186 (.goto (Int.ofNat 33), 3, 0, 0, 0) := ⟨m_0, by decide +kernel⟩
theorem f_0_1189 : nF 0 mq_0 1189 (.iload 25, 2, 0, 0, 0) := ⟨m_0, by decide +kernel⟩
theorem f_0_1191 : nF 0 mq_0 1191 (.iload 24, 2, 0, 0, 0) := ⟨m_0, by decide +kernel⟩
theorem f_0_1193 : nF 0 mq_0 1193 (.if_icmp .le (Int.ofNat 8), 3, 0, 0, 0) := ⟨m_0, by decide +kernel⟩
theorem f_0_1196 : nF 0 mq_0 1196 (.bipush (Int.negSucc 11), 2, 0, 0, 0) := ⟨m_0, by decide +kernel⟩
theorem f_0_1198 : nF 0 mq_0 1198 (.goto (Int.ofNat 21), 3, 0, 0, 0) := ⟨m_0, by decide +kernel⟩
theorem f_0_1201 : nF 0 mq_0 1201 (.aload 9, 2, 0, 0, 0) := ⟨m_0, by decide +kernel⟩
theorem f_0_1203 : nF 0 mq_0 1203 (.iload 19, 2, 0, 0, 0) := ⟨m_0, by decide +kernel⟩
theorem f_0_1205 : nF 0 mq_0 1205 (.iaload, 1, 0, 0, 0) := ⟨m_0, by decide +kernel⟩
theorem f_0_1206 : nF 0 mq_0 1206 (.iconst (Int.ofNat 2), 1, 0, 0, 0) := ⟨m_0, by decide +kernel⟩
theorem f_0_1207 : nF 0 mq_0 1207 (.if_icmp .eq (Int.ofNat 8), 3, 0, 0, 0) := ⟨m_0, by decide +kernel⟩
theorem f_0_1210 : nF 0 mq_0 1210 (.bipush (Int.negSucc 12), 2, 0, 0, 0) := ⟨m_0, by decide +kernel⟩
theorem f_0_1212 : nF 0 mq_0 1212 (.goto (Int.ofNat 7), 3, 0, 0, 0) := ⟨m_0, by decide +kernel⟩
theorem f_0_1215 : nF 0 mq_0 1215 (.iload 24, 2, 0, 0, 0) := ⟨m_0, by decide +kernel⟩
theorem f_0_1217 : nF 0 mq_0 1217 (.iconst (Int.ofNat 1), 1, 0, 0, 0) := ⟨m_0, by decide +kernel⟩
theorem f_0_1218 : nF 0 mq_0 1218 (.iadd, 1, 0, 0, 0) := ⟨m_0, by decide +kernel⟩
theorem f_0_1219 : nF 0 mq_0 1219 (.istore 27, 2, 0, 0, 0) := ⟨m_0, by decide +kernel⟩
theorem f_0_1221 : nF 0 mq_0 1221 (.iconst (Int.ofNat 0), 1, 0, 0, 0) := ⟨m_0, by decide +kernel⟩
theorem f_0_1222 : nF 0 mq_0 1222 (.istore 28, 2, 0, 0, 0) := ⟨m_0, by decide +kernel⟩
theorem f_0_1224 : nF 0 mq_0 1224 (.iload 28, 2, 0, 0, 0) := ⟨m_0, by decide +kernel⟩
theorem f_0_1226 : nF 0 mq_0 1226 (.aload_n 2, 1, 0, 0, 0) := ⟨m_0, by decide +kernel⟩
theorem f_0_1227 : nF 0 mq_0 1227 (.iconst (Int.ofNat 1), 1, 0, 0, 0) := ⟨m_0, by decide +kernel⟩
theorem f_0_1228 : nF 0 mq_0 1228 (.iaload, 1, 0, 0, 0) := ⟨m_0, by decide +kernel⟩
theorem f_0_1229 : nF 0 mq_0 1229 (.if_icmp .ge (Int.ofNat 56), 3, 0, 0, 0) := ⟨m_0, by decide +kernel⟩
theorem f_0_1232 : nF 0 mq_0 1232 (.iload 27, 2, 0, 0, 0) := ⟨m_0, by decide +kernel⟩
theorem f_0_1234 : nF 0 mq_0 1234 (.ifCond .le (Int.ofNat 51), 3, 0, 0, 0) := ⟨m_0, by decide +kernel⟩
theorem f_0_1237 : nF 0 mq_0 1237 (.aload 4, 2, 0, 0, 0) := ⟨m_0, by decide +kernel⟩
theorem f_0_1239 : nF 0 mq_0 1239 (.iload 18, 2, 0, 0, 0) := ⟨m_0, by decide +kernel⟩
theorem f_0_1241 : nF 0 mq_0 1241 (.iload 28, 2, 0, 0, 0) := ⟨m_0, by decide +kernel⟩
theorem f_0_1243 : nF 0 mq_0 1243 (.iadd, 1, 0, 0, 0) := ⟨m_0, by decide +kernel⟩
theorem f_0_1244 : nF 0 mq_0 1244 (.dup2, 1, 0, 0, 0) := ⟨m_0, by decide +kernel⟩
theorem f_0_1245 : nF 0 mq_0 1245 (.iaload, 1, 0, 0, 0) := ⟨m_0, by decide +kernel⟩
theorem f_0_1246 : nF 0 mq_0 1246 (.aload 10, 2, 0, 0, 0) := ⟨m_0, by decide +kernel⟩
theorem f_0_1248 : nF 0 mq_0 1248 (.iload 28, 2, 0, 0, 0) := ⟨m_0, by decide +kernel⟩
theorem f_0_1250 : nF 0 mq_0 1250 (.iaload, 1, 0, 0, 0) := ⟨m_0, by decide +kernel⟩
theorem f_0_1251 : nF 0 mq_0 1251 (.bipush (Int.ofNat 16), 2, 0, 0, 0) := ⟨m_0, by decide +kernel⟩
theorem f_0_1253 : nF 0 mq_0 1253 (.irem, 1, 0, 0, 0) := ⟨m_0, by decide +kernel⟩
theorem f_0_1254 : nF 0 mq_0 1254 (.iload 19, 2, 0, 0, 0) := ⟨m_0, by decide +kernel⟩
theorem f_0_1256 : nF 0 mq_0 1256 (.if_icmp .ne (Int.ofNat 20), 3, 0, 0, 0) := ⟨m_0, by decide +kernel⟩
theorem f_0_1259 : nF 0 mq_0 1259 (.aload 4, 2, 0, 0, 0) := ⟨m_0, by decide +kernel⟩
theorem f_0_1261 : nF 0 mq_0 1261 (.iload 18, 2, 0, 0, 0) := ⟨m_0, by decide +kernel⟩
theorem f_0_1263 : nF 0 mq_0 1263 (.iload 28, 2, 0, 0, 0) := ⟨m_0, by decide +kernel⟩
theorem f_0_1265 : nF 0 mq_0 1265 (.iadd, 1, 0, 0, 0) := ⟨m_0, by decide +kernel⟩
theorem f_0_1266 : nF 0 mq_0 1266 (.iaload, 1, 0, 0, 0) := ⟨m_0, by decide +kernel⟩
theorem f_0_1267 : nF 0 mq_0 1267 (.iload 25, 2, 0, 0, 0) := ⟨m_0, by decide +kernel⟩
theorem f_0_1269 : nF 0 mq_0 1269 (.if_icmp .le (Int.ofNat 7), 3, 0, 0, 0) := ⟨m_0, by decide +kernel⟩
theorem f_0_1272 : nF 0 mq_0 1272 (.iconst (Int.ofNat 1), 1, 0, 0, 0) := ⟨m_0, by decide +kernel⟩
theorem f_0_1273 : nF 0 mq_0 1273 (.goto (Int.ofNat 4), 3, 0, 0, 0) := ⟨m_0, by decide +kernel⟩
theorem f_0_1276 : nF 0 mq_0 1276 (.iconst (Int.ofNat 0), 1, 0, 0, 0) := ⟨m_0, by decide +kernel⟩
theorem f_0_1277 : nF 0 mq_0 1277 (.iadd, 1, 0, 0, 0) := ⟨m_0, by decide +kernel⟩
theorem f_0_1278 : nF 0 mq_0 1278 (.iastore, 1, 0, 0, 0) := ⟨m_0, by decide +kernel⟩
theorem f_0_1279 : nF 0 mq_0 1279 (.iinc 28 (Int.ofNat 1), 3, 0, 0, 0) := ⟨m_0, by decide +kernel⟩
theorem f_0_1282 : nF 0 mq_0 1282 (.goto (Int.negSucc 57), 3, 0, 0, 0) := ⟨m_0, by decide +kernel⟩
theorem f_0_1285 : nF 0 mq_0 1285 (.iload 27, 2, 0, 0, 0) := ⟨m_0, by decide +kernel⟩
theorem f_0_1287 : nF 0 mq_0 1287 (.ifCond .le (Int.ofNat 44), 3, 0, 0, 0) := ⟨m_0, by decide +kernel⟩
theorem f_0_1290 : nF 0 mq_0 1290 (.aload 4, 2, 0, 0, 0) := ⟨m_0, by decide +kernel⟩
theorem f_0_1292 : nF 0 mq_0 1292 (.iload 18, 2, 0, 0, 0) := ⟨m_0, by decide +kernel⟩
theorem f_0_1294 : nF 0 mq_0 1294 (.aload_n 2, 1, 0, 0, 0) := ⟨m_0, by decide +kernel⟩
theorem f_0_1295 : nF 0 mq_0 1295 (.iconst (Int.ofNat 1), 1, 0, 0, 0) := ⟨m_0, by decide +kernel⟩
theorem f_0_1296 : nF 0 mq_0 1296 (.iaload, 1, 0, 0, 0) := ⟨m_0, by decide +kernel⟩
theorem f_0_1297 : nF 0 mq_0 1297 (.iadd, 1, 0, 0, 0) := ⟨m_0, by decide +kernel⟩
theorem f_0_1298 : nF 0 mq_0 1298 (.iload 25, 2, 0, 0, 0) := ⟨m_0, by decide +kernel⟩
theorem f_0_1300 : nF 0 mq_0 1300 (.iconst (Int.ofNat 1), 1, 0, 0, 0) := ⟨m_0, by decide +kernel⟩
theorem f_0_1301 : nF 0 mq_0 1301 (.iadd, 1, 0, 0, 0) := ⟨m_0, by decide +kernel⟩
theorem f_0_1302 : nF 0 mq_0 1302 (.iastore, 1, 0, 0, 0) := ⟨m_0, by decide +kernel⟩
theorem f_0_1303 : nF 0 mq_0 1303 (.aload 10, 2, 0, 0, 0) := ⟨m_0, by decide +kernel⟩
theorem f_0_1305 : nF 0 mq_0 1305 (.aload_n 2, 1, 0, 0, 0) := ⟨m_0, by decide +kernel⟩
theorem f_0_1306 : nF 0 mq_0 1306 (.iconst (Int.ofNat 1), 1, 0, 0, 0) := ⟨m_0, by decide +kernel⟩
theorem f_0_1307 : nF 0 mq_0 1307 (.iaload, 1, 0, 0, 0) := ⟨m_0, by decide +kernel⟩
theorem f_0_1308 : nF 0 mq_0 1308 (.iload 19, 2, 0, 0, 0) := ⟨m_0, by decide +kernel⟩
theorem f_0_1310 : nF 0 mq_0 1310 (.bipush (Int.ofNat 16), 2, 0, 0, 0) := ⟨m_0, by decide +kernel⟩
theorem f_0_1312 : nF 0 mq_0 1312 (.iload 26, 2, 0, 0, 0) := ⟨m_0, by decide +kernel⟩
theorem f_0_1314 : nF 0 mq_0 1314 (.imul, 1, 0, 0, 0) := ⟨m_0, by decide +kernel⟩
theorem f_0_1315 : nF 0 mq_0 1315 (.iadd, 1, 0, 0, 0) := ⟨m_0, by decide +kernel⟩
theorem f_0_1316 : nF 0 mq_0 1316 (.sipush (Int.ofNat 2048), 3, 0, 0, 0) := ⟨m_0, by decide +kernel⟩
theorem f_0_1319 : nF 0 mq_0 1319 (.iload 17, 2, 0, 0, 0) := ⟨m_0, by decide +kernel⟩
theorem f_0_1321 : nF 0 mq_0 1321 (.imul, 1, 0, 0, 0) := ⟨m_0, by decide +kernel⟩
theorem f_0_1322 : nF 0 mq_0 1322 (.iadd, 1, 0, 0, 0) := ⟨m_0, by decide +kernel⟩
theorem f_0_1323 : nF 0 mq_0 1323 (.iastore, 1, 0, 0, 0) := ⟨m_0, by decide +kernel⟩
theorem f_0_1324 : nF 0 mq_0 1324 (.aload_n 2, 1, 0, 0, 0) := ⟨m_0, by decide +kernel⟩
theorem f_0_1325 : nF 0 mq_0 1325 (.iconst (Int.ofNat 1), 1, 0, 0, 0) := ⟨m_0, by decide +kernel⟩
theorem f_0_1326 : nF 0 mq_0 1326 (.dup2, 1, 0, 0, 0) := ⟨m_0, by decide +kernel⟩
theorem f_0_1327 : nF 0 mq_0 1327 (.iaload, 1, 0, 0, 0) := ⟨m_0, by decide +kernel⟩
theorem f_0_1328 : nF 0 mq_0 1328 (.iconst (Int.ofNat 1), 1, 0, 0, 0) := ⟨m_0, by decide +kernel⟩
theorem f_0_1329 : nF 0 mq_0 1329 (.iadd, 1, 0, 0, 0) := ⟨m_0, by decide +kernel⟩
theorem f_0_1330 : nF 0 mq_0 1330 (.iastore, 1, 0, 0, 0) := ⟨m_0, by decide +kernel⟩
theorem f_0_1331 : nF 0 mq_0 1331 (.aload_n 1, 1, 0, 0, 0) := ⟨m_0, by decide +kernel⟩
theorem f_0_1332 : nF 0 mq_0 1332 (.iconst (Int.ofNat 5), 1, 0, 0, 0) := ⟨m_0, by decide +kernel⟩
theorem f_0_1333 : nF 0 mq_0 1333 (.iload 17, 2, 0, 0, 0) := ⟨m_0, by decide +kernel⟩
theorem f_0_1335 : nF 0 mq_0 1335 (.iload 19, 2, 0, 0, 0) := ⟨m_0, by decide +kernel⟩
theorem f_0_1337 : nF 0 mq_0 1337 (.iload 25, 2, 0, 0, 0) := ⟨m_0, by decide +kernel⟩
theorem f_0_1339 : nF 0 mq_0 1339 (.iload 26, 2, 0, 0, 0) := ⟨m_0, by decide +kernel⟩
theorem f_0_1341 : nF 0 mq_0 1341 (.iconst (Int.ofNat 0), 1, 0, 0, 0) := ⟨m_0, by decide +kernel⟩
theorem f_0_1342 : nF 0 mq_0 1342 (.invokestatic 119, 3, 6, 0, 7) := ⟨m_0, by decide +kernel⟩
theorem f_0_1345 : nF 0 mq_0 1345 (.iload 27, 2, 0, 0, 0) := ⟨m_0, by decide +kernel⟩
theorem f_0_1347 : nF 0 mq_0 1347 (.if_icmp .ne (Int.ofNat 7), 3, 0, 0, 0) := ⟨m_0, by decide +kernel⟩
theorem f_0_1350 : nF 0 mq_0 1350 (.iconst (Int.ofNat 1), 1, 0, 0, 0) := ⟨m_0, by decide +kernel⟩
theorem f_0_1351 : nF 0 mq_0 1351 (.goto (Int.ofNat 4), 3, 0, 0, 0) := ⟨m_0, by decide +kernel⟩
theorem f_0_1354 : nF 0 mq_0 1354 (.iconst (Int.ofNat 0), 1, 0, 0, 0) := ⟨m_0, by decide +kernel⟩
theorem f_0_1355 : nF 0 mq_0 1355 (.istore 12, 2, 0, 0, 0) := ⟨m_0, by decide +kernel⟩
theorem f_0_1357 : nF 0 mq_0 1357 (.goto (Int.ofNat 870), 3, 0, 0, 0) := ⟨m_0, by decide +kernel⟩
theorem f_0_1360 : nF 0 mq_0 1360 (.iload 15, 2, 0, 0, 0) := ⟨m_0, by decide +kernel⟩
theorem f_0_1362 : nF 0 mq_0 1362 (.bipush (Int.ofNat 21), 2, 0, 0, 0) := ⟨m_0, by decide +kernel⟩
theorem f_0_1364 : nF 0 mq_0 1364 (.if_icmp .ne (Int.ofNat 186), 3, 0, 0, 0) := ⟨m_0, by decide +kernel⟩
theorem f_0_1367 : nF 0 mq_0 1367 (.aload_n 2, 1, 0, 0, 0) := ⟨m_0, by decide +kernel⟩
theorem f_0_1368 : nF 0 mq_0 1368 (.aload 4, 2, 0, 0, 0) := ⟨m_0, by decide +kernel⟩
theorem f_0_1370 : nF 0 mq_0 1370 (.iload 18, 2, 0, 0, 0) := ⟨m_0, by decide +kernel⟩
theorem f_0_1372 : nF 0 mq_0 1372 (.aload 10, 2, 0, 0, 0) := ⟨m_0, by decide +kernel⟩
theorem f_0_1374 : nF 0 mq_0 1374 (.iload 19, 2, 0, 0, 0) := ⟨m_0, by decide +kernel⟩
theorem f_0_1376 : nF 0 mq_0 1376 (.invokestatic 32, 3, 9, 0, 5) := ⟨m_0, by decide +kernel⟩
theorem f_0_1379 : nF 0 mq_0 1379 (.istore 24, 2, 0, 0, 0) := ⟨m_0, by decide +kernel⟩
theorem f_0_1381 : nF 0 mq_0 1381 (.iload 16, 2, 0, 0, 0) := ⟨m_0, by decide +kernel⟩
theorem f_0_1383 : nF 0 mq_0 1383 (.bipush (Int.ofNat 50), 2, 0, 0, 0) := ⟨m_0, by decide +kernel⟩
theorem f_0_1385 : nF 0 mq_0 1385 (.idiv, 1, 0, 0, 0) := ⟨m_0, by decide +kernel⟩
theorem f_0_1386 : nF 0 mq_0 1386 (.iload 24, 2, 0, 0, 0) := ⟨m_0, by decide +kernel⟩
theorem f_0_1388 : nF 0 mq_0 1388 (.iconst (Int.ofNat 1), 1, 0, 0, 0) := ⟨m_0, by decide +kernel⟩
theorem f_0_1389 : nF 0 mq_0 1389 (.iadd, 1, 0, 0, 0) := ⟨m_0, by decide +kernel⟩
theorem f_0_1390 : nF 0 mq_0 1390 (.irem, 1, 0, 0, 0) := ⟨m_0, by decide +kernel⟩
theorem f_0_1391 : nF 0 mq_0 1391 (.istore 25, 2, 0, 0, 0) := ⟨m_0, by decide +kernel⟩
theorem f_0_1393 : nF 0 mq_0 1393 (.aload_n 2, 1, 0, 0, 0) := ⟨m_0, by decide +kernel⟩
theorem f_0_1394 : nF 0 mq_0 1394 (.aload 4, 2, 0, 0, 0) := ⟨m_0, by decide +kernel⟩
theorem f_0_1396 : nF 0 mq_0 1396 (.iload 18, 2, 0, 0, 0) := ⟨m_0, by decide +kernel⟩
theorem f_0_1398 : nF 0 mq_0 1398 (.aload 10, 2, 0, 0, 0) := ⟨m_0, by decide +kernel⟩
theorem f_0_1400 : nF 0 mq_0 1400 (.iload 19, 2, 0, 0, 0) := ⟨m_0, by decide +kernel⟩
theorem f_0_1402 : nF 0 mq_0 1402 (.iload 25, 2, 0, 0, 0) := ⟨m_0, by decide +kernel⟩
theorem f_0_1404 : nF 0 mq_0 1404 (.invokestatic 36, 3, 10, 0, 6) := ⟨m_0, by decide +kernel⟩
theorem f_0_1407 : nF 0 mq_0 1407 (.istore 26, 2, 0, 0, 0) := ⟨m_0, by decide +kernel⟩
theorem f_0_1409 : nF 0 mq_0 1409 (.iload 20, 2, 0, 0, 0) := ⟨m_0, by decide +kernel⟩
theorem f_0_1411 : nF 0 mq_0 1411 (.ifCond .eq (Int.ofNat 8), 3, 0, 0, 0) := ⟨m_0, by decide +kernel⟩
theorem f_0_1414 : nF 0 mq_0 1414 (.iload 26, 2, 0, 0, 0) := ⟨m_0, by decide +kernel⟩
theorem f_0_1416 : nF 0 mq_0 1416 (.ifCond .ge (Int.ofNat 8), 3, 0, 0, 0) := ⟨m_0, by decide +kernel⟩
theorem f_0_1419 : nF 0 mq_0 1419 (.bipush (Int.negSucc 10), 2, 0, 0, 0) := ⟨m_0, by decide +kernel⟩
theorem f_0_1421 : nF 0 mq_0 1421 (.goto (Int.ofNat 15), 3, 0, 0, 0) := ⟨m_0, by decide +kernel⟩
theorem f_0_1424 : nF 0 mq_0 1424 (.aload 10, 2, 0, 0, 0) := ⟨m_0, by decide +kernel⟩
theorem f_0_1426 : nF 0 mq_0 1426 (.iload 26, 2, 0, 0, 0) := ⟨m_0, by decide +kernel⟩
theorem f_0_1428 : nF 0 mq_0 1428 (.iaload, 1, 0, 0, 0) := ⟨m_0, by decide +kernel⟩
theorem f_0_1429 : nF 0 mq_0 1429 (.bipush (Int.ofNat 16), 2, 0, 0, 0) := ⟨m_0, by decide +kernel⟩
theorem f_0_1431 : nF 0 mq_0 1431 (.idiv, 1, 0, 0, 0) := ⟨m_0, by decide +kernel⟩
theorem f_0_1432 : nF 0 mq_0 1432 (.sipush (Int.ofNat 128), 3, 0, 0, 0) := ⟨m_0, by decide +kernel⟩
theorem f_0_1435 : nF 0 mq_0 1435 (.irem, 1, 0, 0, 0) := ⟨m_0, by decide +kernel⟩
theorem f_0_1436 : nF 0 mq_0 1436 (.istore 27, 2, 0, 0, 0) := ⟨m_0, by decide +kernel⟩
theorem f_0_1438 : nF 0 mq_0 1438 (.iconst (Int.ofNat 0), 1, 0, 0, 0) := ⟨m_0, by decide +kernel⟩
theorem f_0_1439 : nF 0 mq_0 1439 (.istore 28, 2, 0, 0, 0) := ⟨m_0, by decide +kernel⟩
theorem f_0_1441 : nF 0 mq_0 1441 (.iload 28, 2, 0, 0, 0) := ⟨m_0, by decide +kernel⟩
theorem f_0_1443 : nF 0 mq_0 1443 (.aload_n 2, 1, 0, 0, 0) := ⟨m_0, by decide +kernel⟩
theorem f_0_1444 : nF 0 mq_0 1444 (.iconst (Int.ofNat 1), 1, 0, 0, 0) := ⟨m_0, by decide +kernel⟩
theorem f_0_1445 : nF 0 mq_0 1445 (.iaload, 1, 0, 0, 0) := ⟨m_0, by decide +kernel⟩
theorem f_0_1446 : nF 0 mq_0 1446 (.if_icmp .ge (Int.ofNat 75), 3, 0, 0, 0) := ⟨m_0, by decide +kernel⟩
theorem f_0_1449 : nF 0 mq_0 1449 (.iload 27, 2, 0, 0, 0) := ⟨m_0, by decide +kernel⟩
theorem f_0_1451 : nF 0 mq_0 1451 (.ifCond .lt (Int.ofNat 70), 3, 0, 0, 0) := ⟨m_0, by decide +kernel⟩
theorem f_0_1454 : nF 0 mq_0 1454 (.aload 4, 2, 0, 0, 0) := ⟨m_0, by decide +kernel⟩
theorem f_0_1456 : nF 0 mq_0 1456 (.iload 18, 2, 0, 0, 0) := ⟨m_0, by decide +kernel⟩
theorem f_0_1458 : nF 0 mq_0 1458 (.iload 28, 2, 0, 0, 0) := ⟨m_0, by decide +kernel⟩
theorem f_0_1460 : nF 0 mq_0 1460 (.iadd, 1, 0, 0, 0) := ⟨m_0, by decide +kernel⟩
theorem f_0_1461 : nF 0 mq_0 1461 (.iload 28, 2, 0, 0, 0) := ⟨m_0, by decide +kernel⟩
theorem f_0_1463 : nF 0 mq_0 1463 (.iload 26, 2, 0, 0, 0) := ⟨m_0, by decide +kernel⟩
theorem f_0_1465 : nF 0 mq_0 1465 (.if_icmp .ne (Int.ofNat 7), 3, 0, 0, 0) := ⟨m_0, by decide +kernel⟩
theorem f_0_1468 : nF 0 mq_0 1468 (.iconst (Int.ofNat 0), 1, 0, 0, 0) := ⟨m_0, by decide +kernel⟩
theorem f_0_1469 : nF 0 mq_0 1469 (.goto (Int.ofNat 45), 3, 0, 0, 0) := ⟨m_0, by decide +kernel⟩
theorem f_0_1472 : nF 0 mq_0 1472 (.aload 4, 2, 0, 0, 0) := ⟨m_0, by decide +kernel⟩
theorem f_0_1474 : nF 0 mq_0 1474 (.iload 18, 2, 0, 0, 0) := ⟨m_0, by decide +kernel⟩
theorem f_0_1476 : nF 0 mq_0 1476 (.iload 28, 2, 0, 0, 0) := ⟨m_0, by decide +kernel⟩
theorem f_0_1478 : nF 0 mq_0 1478 (.iadd, 1, 0, 0, 0) := ⟨m_0, by decide +kernel⟩
theorem f_0_1479 : nF 0 mq_0 1479 (.iaload, 1, 0, 0, 0) := ⟨m_0, by decide +kernel⟩
theorem f_0_1480 : nF 0 mq_0 1480 (.aload 10, 2, 0, 0, 0) := ⟨m_0, by decide +kernel⟩
theorem f_0_1482 : nF 0 mq_0 1482 (.iload 28, 2, 0, 0, 0) := ⟨m_0, by decide +kernel⟩
theorem f_0_1484 : nF 0 mq_0 1484 (.iaload, 1, 0, 0, 0) := ⟨m_0, by decide +kernel⟩
theorem f_0_1485 : nF 0 mq_0 1485 (.bipush (Int.ofNat 16), 2, 0, 0, 0) := ⟨m_0, by decide +kernel⟩
theorem f_0_1487 : nF 0 mq_0 1487 (.irem, 1, 0, 0, 0) := ⟨m_0, by decide +kernel⟩
theorem f_0_1488 : nF 0 mq_0 1488 (.iload 19, 2, 0, 0, 0) := ⟨m_0, by decide +kernel⟩
theorem f_0_1490 : nF 0 mq_0 1490 (.if_icmp .ne (Int.ofNat 22), 3, 0, 0, 0) := ⟨m_0, by decide +kernel⟩
theorem f_0_1493 : nF 0 mq_0 1493 (.aload 4, 2, 0, 0, 0) := ⟨m_0, by decide +kernel⟩
theorem f_0_1495 : nF 0 mq_0 1495 (.iload 18, 2, 0, 0, 0) := ⟨m_0, by decide +kernel⟩
theorem f_0_1497 : nF 0 mq_0 1497 (.iload 28, 2, 0, 0, 0) := ⟨m_0, by decide +kernel⟩
theorem f_0_1499 : nF 0 mq_0 1499 (.iadd, 1, 0, 0, 0) := ⟨m_0, by decide +kernel⟩
theorem f_0_1500 : nF 0 mq_0 1500 (.iaload, 1, 0, 0, 0) := ⟨m_0, by decide +kernel⟩
theorem f_0_1501 : nF 0 mq_0 1501 (.iload 25, 2, 0, 0, 0) := ⟨m_0, by decide +kernel⟩
theorem f_0_1503 : nF 0 mq_0 1503 (.iconst (Int.ofNat 1), 1, 0, 0, 0) := ⟨m_0, by decide +kernel⟩
theorem f_0_1504 : nF 0 mq_0 1504 (.iadd, 1, 0, 0, 0) := ⟨m_0, by decide +kernel⟩
theorem f_0_1505 : nF 0 mq_0 1505 (.if_icmp .le (Int.ofNat 7), 3, 0, 0, 0) := ⟨m_0, by decide +kernel⟩
theorem f_0_1508 : nF 0 mq_0 1508 (.iconst (Int.ofNat 1), 1, 0, 0, 0) := ⟨m_0, by decide +kernel⟩
theorem f_0_1509 : nF 0 mq_0 1509 (.goto (Int.ofNat 4), 3, 0, 0, 0) := ⟨m_0, by decide +kernel⟩
theorem f_0_1512 : nF 0 mq_0 1512 (.iconst (Int.ofNat 0), 1, 0, 0, 0) := ⟨m_0, by decide +kernel⟩
theorem f_0_1513 : nF 0 mq_0 1513 (.isub, 1, 0, 0, 0) := ⟨m_0, by decide +kernel⟩
theorem f_0_1514 : nF 0 mq_0 1514 (.iastore, 1, 0, 0, 0) := ⟨m_0, by decide +kernel⟩
theorem f_0_1515 : nF 0 mq_0 1515 (.iinc 28 (Int.ofNat 1), 3, 0, 0, 0) := ⟨m_0, by decide +kernel⟩
theorem f_0_1518 : nF 0 mq_0 1518 (.goto (Int.negSucc 76), 3, 0, 0, 0) := ⟨m_0, by decide +kernel⟩
theorem f_0_1521 : nF 0 mq_0 1521 (.aload_n 1, 1, 0, 0, 0) := ⟨m_0, by decide +kernel⟩
theorem f_0_1522 : nF 0 mq_0 1522 (.bipush (Int.ofNat 6), 2, 0, 0, 0) := ⟨m_0, by decide +kernel⟩
theorem f_0_1524 : nF 0 mq_0 1524 (.iload 17, 2, 0, 0, 0) := ⟨m_0, by decide +kernel⟩
theorem f_0_1526 : nF 0 mq_0 1526 (.iload 19, 2, 0, 0, 0) := ⟨m_0, by decide +kernel⟩
theorem f_0_1528 : nF 0 mq_0 1528 (.iload 25, 2, 0, 0, 0) := ⟨m_0, by decide +kernel⟩
theorem f_0_1530 : nF 0 mq_0 1530 (.iconst (Int.ofNat 0), 1, 0, 0, 0) := ⟨m_0, by decide +kernel⟩
theorem f_0_1531 : nF 0 mq_0 1531 (.iconst (Int.ofNat 0), 1, 0, 0, 0) := ⟨m_0, by decide +kernel⟩
theorem f_0_1532 : nF 0 mq_0 1532 (.invokestatic 119, 3, 6, 0, 7) := ⟨m_0, by decide +kernel⟩
theorem f_0_1535 : nF 0 mq_0 1535 (.iload 27, 2, 0, 0, 0) := ⟨m_0, by decide +kernel⟩
theorem f_0_1537 : nF 0 mq_0 1537 (.if_icmp .ne (Int.ofNat 7), 3, 0, 0, 0) := ⟨m_0, by decide +kernel⟩
theorem f_0_1540 : nF 0 mq_0 1540 (.iconst (Int.ofNat 1), 1, 0, 0, 0) := ⟨m_0, by decide +kernel⟩
theorem f_0_1541 : nF 0 mq_0 1541 (.goto (Int.ofNat 4), 3, 0, 0, 0) := ⟨m_0, by decide +kernel⟩
theorem f_0_1544 : nF 0 mq_0 1544 (.iconst (Int.ofNat 0), 1, 0, 0, 0) := ⟨m_0, by decide +kernel⟩
theorem f_0_1545 : nF 0 mq_0 1545 (.istore 12, 2, 0, 0, 0) := ⟨m_0, by decide +kernel⟩
theorem f_0_1547 : nF 0 mq_0 1547 (.goto (Int.ofNat 680), 3, 0, 0, 0) := ⟨m_0, by decide +kernel⟩
theorem f_0_1550 : nF 0 mq_0 1550 (.iload 15, 2, 0, 0, 0) := ⟨m_0, by decide +kernel⟩
theorem f_0_1552 : nF 0 mq_0 1552 (.bipush (Int.ofNat 22), 2, 0, 0, 0) := ⟨m_0, by decide +kernel⟩
theorem f_0_1554 : nF 0 mq_0 1554 (.if_icmp .ne (Int.ofNat 49), 3, 0, 0, 0) := ⟨m_0, by decide +kernel⟩
theorem f_0_1557 : nF 0 mq_0 1557 (.aload_n 1, 1, 0, 0, 0) := ⟨m_0, by decide +kernel⟩
theorem f_0_1558 : nF 0 mq_0 1558 (.bipush (Int.ofNat 7), 2, 0, 0, 0) := ⟨m_0, by decide +kernel⟩
theorem f_0_1560 : nF 0 mq_0 1560 (.iload 17, 2, 0, 0, 0) := ⟨m_0, by decide +kernel⟩
theorem f_0_1562 : nF 0 mq_0 1562 (.iload 19, 2, 0, 0, 0) := ⟨m_0, by decide +kernel⟩
theorem f_0_1564 : nF 0 mq_0 1564 (.iload 16, 2, 0, 0, 0) := ⟨m_0, by decide +kernel⟩
theorem f_0_1566 : nF 0 mq_0 1566 (.iconst (Int.ofNat 5), 1, 0, 0, 0) := ⟨m_0, by decide +kernel⟩
theorem f_0_1567 : nF 0 mq_0 1567 (.irem, 1, 0, 0, 0) := ⟨m_0, by decide +kernel⟩
theorem f_0_1568 : nF 0 mq_0 1568 (.iload 16, 2, 0, 0, 0) := ⟨m_0, by decide +kernel⟩
theorem f_0_1570 : nF 0 mq_0 1570 (.iconst (Int.ofNat 5), 1, 0, 0, 0) := ⟨m_0, by decide +kernel⟩
theorem f_0_1571 : nF 0 mq_0 1571 (.idiv, 1, 0, 0, 0) := ⟨m_0, by decide +kernel⟩
theorem f_0_1572 : nF 0 mq_0 1572 (.iconst (Int.ofNat 2), 1, 0, 0, 0) := ⟨m_0, by decide +kernel⟩
theorem f_0_1573 : nF 0 mq_0 1573 (.irem, 1, 0, 0, 0) := ⟨m_0, by decide +kernel⟩
theorem f_0_1574 : nF 0 mq_0 1574 (.iconst (Int.ofNat 0), 1, 0, 0, 0) := ⟨m_0, by decide +kernel⟩
theorem f_0_1575 : nF 0 mq_0 1575 (.invokestatic 119, 3, 6, 0, 7) := ⟨m_0, by decide +kernel⟩
theorem f_0_1578 : nF 0 mq_0 1578 (.iload 20, 2, 0, 0, 0) := ⟨m_0, by decide +kernel⟩
theorem f_0_1580 : nF 0 mq_0 1580 (.ifCond .eq (Int.ofNat 8), 3, 0, 0, 0) := ⟨m_0, by decide +kernel⟩
theorem f_0_1583 : nF 0 mq_0 1583 (.bipush (Int.negSucc 13), 2, 0, 0, 0) := ⟨m_0, by decide +kernel⟩
theorem f_0_1585 : nF 0 mq_0 1585 (.goto (Int.ofNat 5), 3, 0, 0, 0) := ⟨m_0, by decide +kernel⟩
theorem f_0_1588 : nF 0 mq_0 1588 (.bipush (Int.negSucc 10), 2, 0, 0, 0) := ⟨m_0, by decide +kernel⟩
theorem f_0_1590 : nF 0 mq_0 1590 (.if_icmp .ne (Int.ofNat 7), 3, 0, 0, 0) := ⟨m_0, by decide +kernel⟩
theorem f_0_1593 : nF 0 mq_0 1593 (.iconst (Int.ofNat 1), 1, 0, 0, 0) := ⟨m_0, by decide +kernel⟩
theorem f_0_1594 : nF 0 mq_0 1594 (.goto (Int.ofNat 4), 3, 0, 0, 0) := ⟨m_0, by decide +kernel⟩
theorem f_0_1597 : nF 0 mq_0 1597 (.iconst (Int.ofNat 0), 1, 0, 0, 0) := ⟨m_0, by decide +kernel⟩
theorem f_0_1598 : nF 0 mq_0 1598 (.istore 12, 2, 0, 0, 0) := ⟨m_0, by decide +kernel⟩
theorem f_0_1600 : nF 0 mq_0 1600 (.goto (Int.ofNat 627), 3, 0, 0, 0) := ⟨m_0, by decide +kernel⟩
theorem f_0_1603 : nF 0 mq_0 1603 (.iload 15, 2, 0, 0, 0) := ⟨m_0, by decide +kernel⟩
theorem f_0_1605 : nF 0 mq_0 1605 (.bipush (Int.ofNat 25), 2, 0, 0, 0) := ⟨m_0, by decide +kernel⟩
theorem f_0_1607 : nF 0 mq_0 1607 (.if_icmp .ge (Int.ofNat 162), 3, 0, 0, 0) := ⟨m_0, by decide +kernel⟩
theorem f_0_1610 : nF 0 mq_0 1610 (.aload_n 2, 1, 0, 0, 0) := ⟨m_0, by decide +kernel⟩
theorem f_0_1611 : nF 0 mq_0 1611 (.iconst (Int.ofNat 3), 1, 0, 0, 0) := ⟨m_0, by decide +kernel⟩
theorem f_0_1612 : nF 0 mq_0 1612 (.iaload, 1, 0, 0, 0) := ⟨m_0, by decide +kernel⟩
theorem f_0_1613 : nF 0 mq_0 1613 (.bipush (Int.ofNat 6), 2, 0, 0, 0) := ⟨m_0, by decide +kernel⟩
theorem f_0_1615 : nF 0 mq_0 1615 (.if_icmp .ge (Int.ofNat 154), 3, 0, 0, 0) := ⟨m_0, by decide +kernel⟩
theorem f_0_1618 : nF 0 mq_0 1618 (.aload_n 2, 1, 0, 0, 0) := ⟨m_0, by decide +kernel⟩
theorem f_0_1619 : nF 0 mq_0 1619 (.aload_n 3, 1, 0, 0, 0) := ⟨m_0, by decide +kernel⟩
theorem f_0_1620 : nF 0 mq_0 1620 (.aload 4, 2, 0, 0, 0) := ⟨m_0, by decide +kernel⟩
theorem f_0_1622 : nF 0 mq_0 1622 (.aload 5, 2, 0, 0, 0) := ⟨m_0, by decide +kernel⟩
theorem f_0_1624 : nF 0 mq_0 1624 (.iload 18, 2, 0, 0, 0) := ⟨m_0, by decide +kernel⟩
theorem f_0_1626 : nF 0 mq_0 1626 (.aload 6, 2, 0, 0, 0) := ⟨m_0, by decide +kernel⟩
theorem f_0_1628 : nF 0 mq_0 1628 (.aload 7, 2, 0, 0, 0) := ⟨m_0, by decide +kernel⟩
theorem f_0_1630 : nF 0 mq_0 1630 (.aload 8, 2, 0, 0, 0) := ⟨m_0, by decide +kernel⟩
theorem f_0_1632 : nF 0 mq_0 1632 (.bipush (Int.ofNat 10), 2, 0, 0, 0) := ⟨m_0, by decide +kernel⟩
theorem f_0_1634 : nF 0 mq_0 1634 (.aload_n 2, 1, 0, 0, 0) := ⟨m_0, by decide +kernel⟩
theorem f_0_1635 : nF 0 mq_0 1635 (.iconst (Int.ofNat 4), 1, 0, 0, 0) := ⟨m_0, by decide +kernel⟩
theorem f_0_1636 : nF 0 mq_0 1636 (.iload 17, 2, 0, 0, 0) := ⟨m_0, by decide +kernel⟩
theorem f_0_1638 : nF 0 mq_0 1638 (.iadd, 1, 0, 0, 0) := ⟨m_0, by decide +kernel⟩
theorem f_0_1639 : nF 0 mq_0 1639 (.iaload, 1, 0, 0, 0) := ⟨m_0, by decide +kernel⟩
theorem f_0_1640 : nF 0 mq_0 1640 (.imul, 1, 0, 0, 0) := ⟨m_0, by decide +kernel⟩
theorem f_0_1641 : nF 0 mq_0 1641 (.invokestatic 157, 3, 11, 0, 9) := ⟨m_0, by decide +kernel⟩
theorem f_0_1644 : nF 0 mq_0 1644 (.ifCond .ne (Int.ofNat 7), 3, 0, 0, 0) := ⟨m_0, by decide +kernel⟩
theorem f_0_1647 : nF 0 mq_0 1647 (.iconst (Int.ofNat 1), 1, 0, 0, 0) := ⟨m_0, by decide +kernel⟩
theorem f_0_1648 : nF 0 mq_0 1648 (.goto (Int.ofNat 4), 3, 0, 0, 0) := ⟨m_0, by decide +kernel⟩
theorem f_0_1651 : nF 0 mq_0 1651 (.iconst (Int.ofNat 0), 1, 0, 0, 0) := ⟨m_0, by decide +kernel⟩
theorem f_0_1652 : nF 0 mq_0 1652 (.istore 24, 2, 0, 0, 0) := ⟨m_0, by decide +kernel⟩
theorem f_0_1654 : nF 0 mq_0 1654 (.aload_n 1, 1, 0, 0, 0) := ⟨m_0, by decide +kernel⟩
theorem f_0_1655 : nF 0 mq_0 1655 (.bipush (Int.ofNat 8), 2, 0, 0, 0) := ⟨m_0, by decide +kernel⟩
theorem f_0_1657 : nF 0 mq_0 1657 (.iload 17, 2, 0, 0, 0) := ⟨m_0, by decide +kernel⟩
theorem f_0_1659 : nF 0 mq_0 1659 (.iconst (Int.ofNat 0), 1, 0, 0, 0) := ⟨m_0, by decide +kernel⟩
theorem f_0_1660 : nF 0 mq_0 1660 (.iconst (Int.ofNat 0), 1, 0, 0, 0) := ⟨m_0, by decide +kernel⟩
theorem f_0_1661 : nF 0 mq_0 1661 (.iconst (Int.ofNat 0), 1, 0, 0, 0) := ⟨m_0, by decide +kernel⟩
theorem f_0_1662 : nF 0 mq_0 1662 (.iconst (Int.ofNat 0), 1, 0, 0, 0) := ⟨m_0, by decide +kernel⟩
theorem f_0_1663 : nF 0 mq_0 1663 (.invokestatic 119, 3, 6, 0, 7) := ⟨m_0, by decide +kernel⟩
theorem f_0_1666 : nF 0 mq_0 1666 (.iload 24, 2, 0, 0, 0) := ⟨m_0, by decide +kernel⟩
theorem f_0_1668 : nF 0 mq_0 1668 (.ifCond .eq (Int.ofNat 9), 3, 0, 0, 0) := ⟨m_0, by decide +kernel⟩
theorem f_0_1671 : nF 0 mq_0 1671 (.aload_n 2, 1, 0, 0, 0) := ⟨m_0, by decide +kernel⟩
theorem f_0_1672 : nF 0 mq_0 1672 (.iconst (Int.ofNat 3), 1, 0, 0, 0) := ⟨m_0, by decide +kernel⟩
theorem f_0_1673 : nF 0 mq_0 1673 (.iaload, 1, 0, 0, 0) := ⟨m_0, by decide +kernel⟩
theorem f_0_1674 : nF 0 mq_0 1674 (.goto (Int.ofNat 5), 3, 0, 0, 0) := ⟨m_0, by decide +kernel⟩
theorem f_0_1677 : nF 0 mq_0 1677 (.bipush (Int.negSucc 12), 2, 0, 0, 0) := ⟨m_0, by decide +kernel⟩
theorem f_0_1679 : nF 0 mq_0 1679 (.if_icmp .ne (Int.ofNat 7), 3, 0, 0, 0) := ⟨m_0, by decide +kernel⟩
theorem f_0_1682 : nF 0 mq_0 1682 (.iconst (Int.ofNat 1), 1, 0, 0, 0) := ⟨m_0, by decide +kernel⟩
theorem f_0_1683 : nF 0 mq_0 1683 (.goto (Int.ofNat 4), 3, 0, 0, 0) := ⟨m_0, by decide +kernel⟩
theorem f_0_1686 : nF 0 mq_0 1686 (.iconst (Int.ofNat 0), 1, 0, 0, 0) := ⟨m_0, by decide +kernel⟩
theorem f_0_1687 : nF 0 mq_0 1687 (.istore 12, 2, 0, 0, 0) := ⟨m_0, by decide +kernel⟩
theorem f_0_1689 : nF 0 mq_0 1689 (.iload 24, 2, 0, 0, 0) := ⟨m_0, by decide +kernel⟩
theorem f_0_1691 : nF 0 mq_0 1691 (.ifCond .eq (Int.ofNat 75), 3, 0, 0, 0) := ⟨m_0, by decide +kernel⟩
theorem f_0_1694 : nF 0 mq_0 1694 (.aload_n 3, 1, 0, 0, 0) := ⟨m_0, by decide +kernel⟩
theorem f_0_1695 : nF 0 mq_0 1695 (.iload 18, 2, 0, 0, 0) := ⟨m_0, by decide +kernel⟩
theorem f_0_1697 : nF 0 mq_0 1697 (.aload 6, 2, 0, 0, 0) := ⟨m_0, by decide +kernel⟩
theorem f_0_1699 : nF 0 mq_0 1699 (.bipush (Int.ofNat 10), 2, 0, 0, 0) := ⟨m_0, by decide +kernel⟩
theorem f_0_1701 : nF 0 mq_0 1701 (.aload_n 2, 1, 0, 0, 0) := ⟨m_0, by decide +kernel⟩
theorem f_0_1702 : nF 0 mq_0 1702 (.iconst (Int.ofNat 3), 1, 0, 0, 0) := ⟨m_0, by decide +kernel⟩
theorem f_0_1703 : nF 0 mq_0 1703 (.iaload, 1, 0, 0, 0) := ⟨m_0, by decide +kernel⟩
theorem f_0_1704 : nF 0 mq_0 1704 (.imul, 1, 0, 0, 0) := ⟨m_0, by decide +kernel⟩
theorem f_0_1705 : nF 0 mq_0 1705 (.invokestatic 188, 3, 12, 0, 4) := ⟨m_0, by decide +kernel⟩
theorem f_0_1708 : nF 0 mq_0 1708 (.aload 4, 2, 0, 0, 0) := ⟨m_0, by decide +kernel⟩
theorem f_0_1710 : nF 0 mq_0 1710 (.iload 18, 2, 0, 0, 0) := ⟨m_0, by decide +kernel⟩
theorem f_0_1712 : nF 0 mq_0 1712 (.aload 7, 2, 0, 0, 0) := ⟨m_0, by decide +kernel⟩
theorem f_0_1714 : nF 0 mq_0 1714 (.bipush (Int.ofNat 10), 2, 0, 0, 0) := ⟨m_0, by decide +kernel⟩
theorem f_0_1716 : nF 0 mq_0 1716 (.aload_n 2, 1, 0, 0, 0) := ⟨m_0, by decide +kernel⟩
theorem f_0_1717 : nF 0 mq_0 1717 (.iconst (Int.ofNat 3), 1, 0, 0, 0) := ⟨m_0, by decide +kernel⟩
theorem f_0_1718 : nF 0 mq_0 1718 (.iaload, 1, 0, 0, 0) := ⟨m_0, by decide +kernel⟩
theorem f_0_1719 : nF 0 mq_0 1719 (.imul, 1, 0, 0, 0) := ⟨m_0, by decide +kernel⟩
theorem f_0_1720 : nF 0 mq_0 1720 (.invokestatic 188, 3, 12, 0, 4) := ⟨m_0, by decide +kernel⟩
theorem f_0_1723 : nF 0 mq_0 1723 (.aload 5, 2, 0, 0, 0) := ⟨m_0, by decide +kernel⟩
theorem f_0_1725 : nF 0 mq_0 1725 (.iload 18, 2, 0, 0, 0) := ⟨m_0, by decide +kernel⟩
theorem f_0_1727 : nF 0 mq_0 1727 (.aload 8, 2, 0, 0, 0) := ⟨m_0, by decide +kernel⟩
theorem f_0_1729 : nF 0 mq_0 1729 (.bipush (Int.ofNat 10), 2, 0, 0, 0) := ⟨m_0, by decide +kernel⟩
theorem f_0_1731 : nF 0 mq_0 1731 (.aload_n 2, 1, 0, 0, 0) := ⟨m_0, by decide +kernel⟩
theorem f_0_1732 : nF 0 mq_0 1732 (.iconst (Int.ofNat 3), 1, 0, 0, 0) := ⟨m_0, by decide +kernel⟩
theorem f_0_1733 : nF 0 mq_0 1733 (.iaload, 1, 0, 0, 0) := ⟨m_0, by decide +kernel⟩
theorem f_0_1734 : nF 0 mq_0 1734 (.imul, 1, 0, 0, 0) := ⟨m_0, by decide +kernel⟩
theorem f_0_1735 : nF 0 mq_0 1735 (.invokestatic 188, 3, 12, 0, 4) := ⟨m_0, by decide +kernel⟩
theorem f_0_1738 : nF 0 mq_0 1738 (.aload 11, 2, 0, 0, 0) := ⟨m_0, by decide +kernel⟩
theorem f_0_1740 : nF 0 mq_0 1740 (.aload_n 2, 1, 0, 0, 0) := ⟨m_0, by decide +kernel⟩
theorem f_0_1741 : nF 0 mq_0 1741 (.iconst (Int.ofNat 3), 1, 0, 0, 0) := ⟨m_0, by decide +kernel⟩
theorem f_0_1742 : nF 0 mq_0 1742 (.iaload, 1, 0, 0, 0) := ⟨m_0, by decide +kernel⟩
theorem f_0_1743 : nF 0 mq_0 1743 (.aload_n 2, 1, 0, 0, 0) := ⟨m_0, by decide +kernel⟩
theorem f_0_1744 : nF 0 mq_0 1744 (.iconst (Int.ofNat 4), 1, 0, 0, 0) := ⟨m_0, by decide +kernel⟩
theorem f_0_1745 : nF 0 mq_0 1745 (.iload 17, 2, 0, 0, 0) := ⟨m_0, by decide +kernel⟩
theorem f_0_1747 : nF 0 mq_0 1747 (.iadd, 1, 0, 0, 0) := ⟨m_0, by decide +kernel⟩
theorem f_0_1748 : nF 0 mq_0 1748 (.iaload, 1, 0, 0, 0) := ⟨m_0, by decide +kernel⟩
theorem f_0_1749 : nF 0 mq_0 1749 (.iastore, 1, 0, 0, 0) := ⟨m_0, by decide +kernel⟩
theorem f_0_1750 : nF 0 mq_0 1750 (.aload_n 2, 1, 0, 0, 0) := ⟨m_0, by decide +kernel⟩
theorem f_0_1751 : nF 0 mq_0 1751 (.iconst (Int.ofNat 4), 1, 0, 0, 0) := ⟨m_0, by decide +kernel⟩
theorem f_0_1752 : nF 0 mq_0 1752 (.iload 17, 2, 0, 0, 0) := ⟨m_0, by decide +kernel⟩
theorem f_0_1754 : nF 0 mq_0 1754 (.iadd, 1, 0, 0, 0) := ⟨m_0, by decide +kernel⟩
theorem f_0_1755 : nF 0 mq_0 1755 (.aload_n 2, 1, 0, 0, 0) := ⟨m_0, by decide +kernel⟩
theorem f_0_1756 : nF 0 mq_0 1756 (.iconst (Int.ofNat 3), 1, 0, 0, 0) := ⟨m_0, by decide +kernel⟩
theorem f_0_1757 : nF 0 mq_0 1757 (.iaload, 1, 0, 0, 0) := ⟨m_0, by decide +kernel⟩
theorem f_0_1758 : nF 0 mq_0 1758 (.iastore, 1, 0, 0, 0) := ⟨m_0, by decide +kernel⟩
theorem f_0_1759 : nF 0 mq_0 1759 (.aload_n 2, 1, 0, 0, 0) := ⟨m_0, by decide +kernel⟩
theorem f_0_1760 : nF 0 mq_0 1760 (.iconst (Int.ofNat 3), 1, 0, 0, 0) := ⟨m_0, by decide +kernel⟩
theorem f_0_1761 : nF 0 mq_0 1761 (.dup2, 1, 0, 0, 0) := ⟨m_0, by decide +kernel⟩
theorem f_0_1762 : nF 0 mq_0 1762 (.iaload, 1, 0, 0, 0) := ⟨m_0, by decide +kernel⟩
theorem f_0_1763 : nF 0 mq_0 1763 (.iconst (Int.ofNat 1), 1, 0, 0, 0) := ⟨m_0, by decide +kernel⟩
theorem f_0_1764 : nF 0 mq_0 1764 (.iadd, 1, 0, 0, 0) := ⟨m_0, by decide +kernel⟩
theorem f_0_1765 : nF 0 mq_0 1765 (.iastore, 1, 0, 0, 0) := ⟨m_0, by decide +kernel⟩
theorem f_0_1766 : nF 0 mq_0 1766 (.goto (Int.ofNat 461), 3, 0, 0, 0) := ⟨m_0, by decide +kernel⟩
theorem f_0_1769 : nF 0 mq_0 1769 (.iload 15, 2, 0, 0, 0) := ⟨m_0, by decide +kernel⟩
theorem f_0_1771 : nF 0 mq_0 1771 (.bipush (Int.ofNat 25), 2, 0, 0, 0) := ⟨m_0, by decide +kernel⟩
theorem f_0_1773 : nF 0 mq_0 1773 (.if_icmp .ne (Int.ofNat 126), 3, 0, 0, 0) := ⟨m_0, by decide +kernel⟩
theorem f_0_1776 : nF 0 mq_0 1776 (.aload_n 2, 1, 0, 0, 0) := ⟨m_0, by decide +kernel⟩
theorem f_0_1777 : nF 0 mq_0 1777 (.iconst (Int.ofNat 4), 1, 0, 0, 0) := ⟨m_0, by decide +kernel⟩
theorem f_0_1778 : nF 0 mq_0 1778 (.iload 17, 2, 0, 0, 0) := ⟨m_0, by decide +kernel⟩
theorem f_0_1780 : nF 0 mq_0 1780 (.iadd, 1, 0, 0, 0) := ⟨m_0, by decide +kernel⟩
theorem f_0_1781 : nF 0 mq_0 1781 (.iaload, 1, 0, 0, 0) := ⟨m_0, by decide +kernel⟩
theorem f_0_1782 : nF 0 mq_0 1782 (.istore 24, 2, 0, 0, 0) := ⟨m_0, by decide +kernel⟩
theorem f_0_1784 : nF 0 mq_0 1784 (.aload_n 1, 1, 0, 0, 0) := ⟨m_0, by decide +kernel⟩
theorem f_0_1785 : nF 0 mq_0 1785 (.iconst (Int.negSucc 0), 1, 0, 0, 0) := ⟨m_0, by decide +kernel⟩
theorem f_0_1786 : nF 0 mq_0 1786 (.iload 17, 2, 0, 0, 0) := ⟨m_0, by decide +kernel⟩
theorem f_0_1788 : nF 0 mq_0 1788 (.isub, 1, 0, 0, 0) := ⟨m_0, by decide +kernel⟩
theorem f_0_1789 : nF 0 mq_0 1789 (.iload 24, 2, 0, 0, 0) := ⟨m_0, by decide +kernel⟩
theorem f_0_1791 : nF 0 mq_0 1791 (.invokevirtual 143, 3, 13, 1, 3) := ⟨m_0, by decide +kernel⟩
theorem f_0_1794 : nF 0 mq_0 1794 (.istore 25, 2, 0, 0, 0) := ⟨m_0, by decide +kernel⟩
theorem f_0_1796 : nF 0 mq_0 1796 (.aload_n 1, 1, 0, 0, 0) := ⟨m_0, by decide +kernel⟩
theorem f_0_1797 : nF 0 mq_0 1797 (.iconst (Int.negSucc 0), 1, 0, 0, 0) := ⟨m_0, by decide +kernel⟩
theorem f_0_1798 : nF 0 mq_0 1798 (.iload 17, 2, 0, 0, 0) := ⟨m_0, by decide +kernel⟩
theorem f_0_1800 : nF 0 mq_0 1800 (.isub, 1, 0, 0, 0) := ⟨m_0, by decide +kernel⟩
theorem f_0_1801 : nF 0 mq_0 1801 (.iload 24, 2, 0, 0, 0) := ⟨m_0, by decide +kernel⟩
theorem f_0_1803 : nF 0 mq_0 1803 (.aload_n 2, 1, 0, 0, 0) := ⟨m_0, by decide +kernel⟩
theorem f_0_1804 : nF 0 mq_0 1804 (.aload_n 3, 1, 0, 0, 0) := ⟨m_0, by decide +kernel⟩
theorem f_0_1805 : nF 0 mq_0 1805 (.aload 4, 2, 0, 0, 0) := ⟨m_0, by decide +kernel⟩
theorem f_0_1807 : nF 0 mq_0 1807 (.aload 5, 2, 0, 0, 0) := ⟨m_0, by decide +kernel⟩
theorem f_0_1809 : nF 0 mq_0 1809 (.iload 18, 2, 0, 0, 0) := ⟨m_0, by decide +kernel⟩
theorem f_0_1811 : nF 0 mq_0 1811 (.aload 6, 2, 0, 0, 0) := ⟨m_0, by decide +kernel⟩
theorem f_0_1813 : nF 0 mq_0 1813 (.aload 7, 2, 0, 0, 0) := ⟨m_0, by decide +kernel⟩
theorem f_0_1815 : nF 0 mq_0 1815 (.aload 8, 2, 0, 0, 0) := ⟨m_0, by decide +kernel⟩
theorem f_0_1817 : nF 0 mq_0 1817 (.bipush (Int.ofNat 10), 2, 0, 0, 0) := ⟨m_0, by decide +kernel⟩
theorem f_0_1819 : nF 0 mq_0 1819 (.iload 24, 2, 0, 0, 0) := ⟨m_0, by decide +kernel⟩
theorem f_0_1821 : nF 0 mq_0 1821 (.imul, 1, 0, 0, 0) := ⟨m_0, by decide +kernel⟩
theorem f_0_1822 : nF 0 mq_0 1822 (.invokestatic 165, 3, 14, 0, 12) := ⟨m_0, by decide +kernel⟩
theorem f_0_1825 : nF 0 mq_0 1825 (.ifCond .eq (Int.ofNat 27), 3, 0, 0, 0) := ⟨m_0, by decide +kernel⟩
theorem f_0_1828 : nF 0 mq_0 1828 (.aload_n 1, 1, 0, 0, 0) := ⟨m_0, by decide +kernel⟩
theorem f_0_1829 : nF 0 mq_0 1829 (.iload 17, 2, 0, 0, 0) := ⟨m_0, by decide +kernel⟩
theorem f_0_1831 : nF 0 mq_0 1831 (.invokevirtual 221, 3, 15, 1, 2) := ⟨m_0, by decide +kernel⟩
theorem f_0_1834 : nF 0 mq_0 1834 (.iload 25, 2, 0, 0, 0) := ⟨m_0, by decide +kernel⟩
theorem f_0_1836 : nF 0 mq_0 1836 (.if_icmp .ne (Int.ofNat 16), 3, 0, 0, 0) := ⟨m_0, by decide +kernel⟩
theorem f_0_1839 : nF 0 mq_0 1839 (.aload_n 1, 1, 0, 0, 0) := ⟨m_0, by decide +kernel⟩
theorem f_0_1840 : nF 0 mq_0 1840 (.iload 17, 2, 0, 0, 0) := ⟨m_0, by decide +kernel⟩
theorem f_0_1842 : nF 0 mq_0 1842 (.invokevirtual 153, 3, 16, 1, 2) := ⟨m_0, by decide +kernel⟩
theorem f_0_1845 : nF 0 mq_0 1845 (.ifCond .eq (Int.ofNat 7), 3, 0, 0, 0) := ⟨m_0, by decide +kernel⟩
theorem f_0_1848 : nF 0 mq_0 1848 (.iconst (Int.ofNat 1), 1, 0, 0, 0) := ⟨m_0, by decide +kernel⟩
theorem f_0_1849 : nF 0 mq_0 1849 (.goto (Int.ofNat 4), 3, 0, 0, 0) := ⟨m_0, by decide +kernel⟩
theorem f_0_1852 : nF 0 mq_0 1852 (.iconst (Int.ofNat 0), 1, 0, 0, 0) := ⟨m_0, by decide +kernel⟩
theorem f_0_1853 : nF 0 mq_0 1853 (.istore 12, 2, 0, 0, 0) := ⟨m_0, by decide +kernel⟩
theorem f_0_1855 : nF 0 mq_0 1855 (.aload 6, 2, 0, 0, 0) := ⟨m_0, by decide +kernel⟩
theorem f_0_1857 : nF 0 mq_0 1857 (.bipush (Int.ofNat 10), 2, 0, 0, 0) := ⟨m_0, by decide +kernel⟩
theorem f_0_1859 : nF 0 mq_0 1859 (.iload 24, 2, 0, 0, 0) := ⟨m_0, by decide +kernel⟩
theorem f_0_1861 : nF 0 mq_0 1861 (.imul, 1, 0, 0, 0) := ⟨m_0, by decide +kernel⟩
theorem f_0_1862 : nF 0 mq_0 1862 (.aload_n 3, 1, 0, 0, 0) := ⟨m_0, by decide +kernel⟩
theorem f_0_1863 : nF 0 mq_0 1863 (.iload 18, 2, 0, 0, 0) := ⟨m_0, by decide +kernel⟩
theorem f_0_1865 : nF 0 mq_0 1865 (.invokestatic 188, 3, 12, 0, 4) := ⟨m_0, by decide +kernel⟩
theorem f_0_1868 : nF 0 mq_0 1868 (.aload 7, 2, 0, 0, 0) := ⟨m_0, by decide +kernel⟩
theorem f_0_1870 : nF 0 mq_0 1870 (.bipush (Int.ofNat 10), 2, 0, 0, 0) := ⟨m_0, by decide +kernel⟩
theorem f_0_1872 : nF 0 mq_0 1872 (.iload 24, 2, 0, 0, 0) := ⟨m_0, by decide +kernel⟩
theorem f_0_1874 : nF 0 mq_0 1874 (.imul, 1, 0, 0, 0) := ⟨m_0, by decide +kernel⟩
theorem f_0_1875 : nF 0 mq_0 1875 (.aload 4, 2, 0, 0, 0) := ⟨m_0, by decide +kernel⟩
theorem f_0_1877 : nF 0 mq_0 1877 (.iload 18, 2, 0, 0, 0) := ⟨m_0, by decide +kernel⟩
theorem f_0_1879 : nF 0 mq_0 1879 (.invokestatic 188, 3, 12, 0, 4) := ⟨m_0, by decide +kernel⟩
theorem f_0_1882 : nF 0 mq_0 1882 (.aload 8, 2, 0, 0, 0) := ⟨m_0, by decide +kernel⟩
theorem f_0_1884 : nF 0 mq_0 1884 (.bipush (Int.ofNat 10), 2, 0, 0, 0) := ⟨m_0, by decide +kernel⟩
theorem f_0_1886 : nF 0 mq_0 1886 (.iload 24, 2, 0, 0, 0) := ⟨m_0, by decide +kernel⟩
theorem f_0_1888 : nF 0 mq_0 1888 (.imul, 1, 0, 0, 0) := ⟨m_0, by decide +kernel⟩
theorem f_0_1889 : nF 0 mq_0 1889 (.aload 5, 2, 0, 0, 0) := ⟨m_0, by decide +kernel⟩
theorem f_0_1891 : nF 0 mq_0 1891 (.iload 18, 2, 0, 0, 0) := ⟨m_0, by decide +kernel⟩
theorem f_0_1893 : nF 0 mq_0 1893 (.invokestatic 188, 3, 12, 0, 4) := ⟨m_0, by decide +kernel⟩
theorem f_0_1896 : nF 0 mq_0 1896 (.goto (Int.ofNat 331), 3, 0, 0, 0) := ⟨m_0, by decide +kernel⟩
theorem f_0_1899 : nF 0 mq_0 1899 (.iload 15, 2, 0, 0, 0) := ⟨m_0, by decide +kernel⟩
theorem f_0_1901 : nF 0 mq_0 1901 (.bipush (Int.ofNat 26), 2, 0, 0, 0) := ⟨m_0, by decide +kernel⟩
theorem f_0_1903 : nF 0 mq_0 1903 (.if_icmp .ne (Int.ofNat 118), 3, 0, 0, 0) := ⟨m_0, by decide +kernel⟩
theorem f_0_1906 : nF 0 mq_0 1906 (.aload_n 2, 1, 0, 0, 0) := ⟨m_0, by decide +kernel⟩
theorem f_0_1907 : nF 0 mq_0 1907 (.iconst (Int.ofNat 2), 1, 0, 0, 0) := ⟨m_0, by decide +kernel⟩
theorem f_0_1908 : nF 0 mq_0 1908 (.iaload, 1, 0, 0, 0) := ⟨m_0, by decide +kernel⟩
theorem f_0_1909 : nF 0 mq_0 1909 (.iconst (Int.ofNat 3), 1, 0, 0, 0) := ⟨m_0, by decide +kernel⟩
theorem f_0_1910 : nF 0 mq_0 1910 (.if_icmp .ge (Int.ofNat 111), 3, 0, 0, 0) := ⟨m_0, by decide +kernel⟩
theorem f_0_1913 : nF 0 mq_0 1913 (.iload 16, 2, 0, 0, 0) := ⟨m_0, by decide +kernel⟩
theorem f_0_1915 : nF 0 mq_0 1915 (.bipush (Int.ofNat 7), 2, 0, 0, 0) := ⟨m_0, by decide +kernel⟩
theorem f_0_1917 : nF 0 mq_0 1917 (.idiv, 1, 0, 0, 0) := ⟨m_0, by decide +kernel⟩
theorem f_0_1918 : nF 0 mq_0 1918 (.aload_n 2, 1, 0, 0, 0) := ⟨m_0, by decide +kernel⟩
theorem f_0_1919 : nF 0 mq_0 1919 (.iconst (Int.ofNat 3), 1, 0, 0, 0) := ⟨m_0, by decide +kernel⟩
theorem f_0_1920 : nF 0 mq_0 1920 (.iaload, 1, 0, 0, 0) := ⟨m_0, by decide +kernel⟩
theorem f_0_1921 : nF 0 mq_0 1921 (.irem, 1, 0, 0, 0) := ⟨m_0, by decide +kernel⟩
theorem f_0_1922 : nF 0 mq_0 1922 (.istore 24, 2, 0, 0, 0) := ⟨m_0, by decide +kernel⟩
theorem f_0_1924 : nF 0 mq_0 1924 (.aload_n 1, 1, 0, 0, 0) := ⟨m_0, by decide +kernel⟩
theorem f_0_1925 : nF 0 mq_0 1925 (.bipush (Int.ofNat 9), 2, 0, 0, 0) := ⟨m_0, by decide +kernel⟩
theorem f_0_1927 : nF 0 mq_0 1927 (.iload 24, 2, 0, 0, 0) := ⟨m_0, by decide +kernel⟩
theorem f_0_1929 : nF 0 mq_0 1929 (.iconst (Int.ofNat 0), 1, 0, 0, 0) := ⟨m_0, by decide +kernel⟩
theorem f_0_1930 : nF 0 mq_0 1930 (.iconst (Int.ofNat 0), 1, 0, 0, 0) := ⟨m_0, by decide +kernel⟩
theorem f_0_1931 : nF 0 mq_0 1931 (.iconst (Int.ofNat 0), 1, 0, 0, 0) := ⟨m_0, by decide +kernel⟩
theorem f_0_1932 : nF 0 mq_0 1932 (.iconst (Int.ofNat 0), 1, 0, 0, 0) := ⟨m_0, by decide +kernel⟩
theorem f_0_1933 : nF 0 mq_0 1933 (.invokestatic 119, 3, 6, 0, 7) := ⟨m_0, by decide +kernel⟩
theorem f_0_1936 : nF 0 mq_0 1936 (.aload_n 2, 1, 0, 0, 0) := ⟨m_0, by decide +kernel⟩
theorem f_0_1937 : nF 0 mq_0 1937 (.iconst (Int.ofNat 2), 1, 0, 0, 0) := ⟨m_0, by decide +kernel⟩
theorem f_0_1938 : nF 0 mq_0 1938 (.iaload, 1, 0, 0, 0) := ⟨m_0, by decide +kernel⟩
theorem f_0_1939 : nF 0 mq_0 1939 (.if_icmp .ne (Int.ofNat 7), 3, 0, 0, 0) := ⟨m_0, by decide +kernel⟩
theorem f_0_1942 : nF 0 mq_0 1942 (.iconst (Int.ofNat 1), 1, 0, 0, 0) := ⟨m_0, by decide +kernel⟩
theorem f_0_1943 : nF 0 mq_0 1943 (.goto (Int.ofNat 4), 3, 0, 0, 0) := ⟨m_0, by decide +kernel⟩
theorem f_0_1946 : nF 0 mq_0 1946 (.iconst (Int.ofNat 0), 1, 0, 0, 0) := ⟨m_0, by decide +kernel⟩
theorem f_0_1947 : nF 0 mq_0 1947 (.istore 12, 2, 0, 0, 0) := ⟨m_0, by decide +kernel⟩
theorem f_0_1949 : nF 0 mq_0 1949 (.aload_n 2, 1, 0, 0, 0) := ⟨m_0, by decide +kernel⟩
theorem f_0_1950 : nF 0 mq_0 1950 (.iconst (Int.ofNat 4), 1, 0, 0, 0) := ⟨m_0, by decide +kernel⟩
theorem f_0_1951 : nF 0 mq_0 1951 (.aload_n 2, 1, 0, 0, 0) := ⟨m_0, by decide +kernel⟩
theorem f_0_1952 : nF 0 mq_0 1952 (.iconst (Int.ofNat 2), 1, 0, 0, 0) := ⟨m_0, by decide +kernel⟩
theorem f_0_1953 : nF 0 mq_0 1953 (.iaload, 1, 0, 0, 0) := ⟨m_0, by decide +kernel⟩
theorem f_0_1954 : nF 0 mq_0 1954 (.iadd, 1, 0, 0, 0) := ⟨m_0, by decide +kernel⟩
theorem f_0_1955 : nF 0 mq_0 1955 (.iload 24, 2, 0, 0, 0) := ⟨m_0, by decide +kernel⟩
theorem f_0_1957 : nF 0 mq_0 1957 (.iastore, 1, 0, 0, 0) := ⟨m_0, by decide +kernel⟩
theorem f_0_1958 : nF 0 mq_0 1958 (.aload 6, 2, 0, 0, 0) := ⟨m_0, by decide +kernel⟩
theorem f_0_1960 : nF 0 mq_0 1960 (.bipush (Int.ofNat 10), 2, 0, 0, 0) := ⟨m_0, by decide +kernel⟩
theorem f_0_1962 : nF 0 mq_0 1962 (.iload 24, 2, 0, 0, 0) := ⟨m_0, by decide +kernel⟩
theorem f_0_1964 : nF 0 mq_0 1964 (.imul, 1, 0, 0, 0) := ⟨m_0, by decide +kernel⟩
theorem f_0_1965 : nF 0 mq_0 1965 (.aload_n 3, 1, 0, 0, 0) := ⟨m_0, by decide +kernel⟩
theorem f_0_1966 : nF 0 mq_0 1966 (.bipush (Int.ofNat 10), 2, 0, 0, 0) := ⟨m_0, by decide +kernel⟩
theorem f_0_1968 : nF 0 mq_0 1968 (.aload_n 2, 1, 0, 0, 0) := ⟨m_0, by decide +kernel⟩
theorem f_0_1969 : nF 0 mq_0 1969 (.iconst (Int.ofNat 2), 1, 0, 0, 0) := ⟨m_0, by decide +kernel⟩
theorem f_0_1970 : nF 0 mq_0 1970 (.iaload, 1, 0, 0, 0) := ⟨m_0, by decide +kernel⟩
theorem f_0_1971 : nF 0 mq_0 1971 (.imul, 1, 0, 0, 0) := ⟨m_0, by decide +kernel⟩
theorem f_0_1972 : nF 0 mq_0 1972 (.invokestatic 188, 3, 12, 0, 4) := ⟨m_0, by decide +kernel⟩
theorem f_0_1975 : nF 0 mq_0 1975 (.aload 7, 2, 0, 0, 0) := ⟨m_0, by decide +kernel⟩
theorem f_0_1977 : nF 0 mq_0 1977 (.bipush (Int.ofNat 10), 2, 0, 0, 0) := ⟨m_0, by decide +kernel⟩
theorem f_0_1979 : nF 0 mq_0 1979 (.iload 24, 2, 0, 0, 0) := ⟨m_0, by decide +kernel⟩
theorem f_0_1981 : nF 0 mq_0 1981 (.imul, 1, 0, 0, 0) := ⟨m_0, by decide +kernel⟩
theorem f_0_1982 : nF 0 mq_0 1982 (.aload 4, 2, 0, 0, 0) := ⟨m_0, by decide +kernel⟩
theorem f_0_1984 : nF 0 mq_0 1984 (.bipush (Int.ofNat 10), 2, 0, 0, 0) := ⟨m_0, by decide +kernel⟩
theorem f_0_1986 : nF 0 mq_0 1986 (.aload_n 2, 1, 0, 0, 0) := ⟨m_0, by decide +kernel⟩
theorem f_0_1987 : nF 0 mq_0 1987 (.iconst (Int.ofNat 2), 1, 0, 0, 0) := ⟨m_0, by decide +kernel⟩
theorem f_0_1988 : nF 0 mq_0 1988 (.iaload, 1, 0, 0, 0) := ⟨m_0, by decide +kernel⟩
theorem f_0_1989 : nF 0 mq_0 1989 (.imul, 1, 0, 0, 0) := ⟨m_0, by decide +kernel⟩
theorem f_0_1990 : nF 0 mq_0 1990 (.invokestatic 188, 3, 12, 0, 4) := ⟨m_0, by decide +kernel⟩
theorem f_0_1993 : nF 0 mq_0 1993 (.aload 8, 2, 0, 0, 0) := ⟨m_0, by decide +kernel⟩
theorem f_0_1995 : nF 0 mq_0 1995 (.bipush (Int.ofNat 10), 2, 0, 0, 0) := ⟨m_0, by decide +kernel⟩
theorem f_0_1997 : nF 0 mq_0 1997 (.iload 24, 2, 0, 0, 0) := ⟨m_0, by decide +kernel⟩
theorem f_0_1999 : nF 0 mq_0 1999 (.imul, 1, 0, 0, 0) := ⟨m_0, by decide +kernel⟩
theorem f_0_2000 : nF 0 mq_0 2000 (.aload 5, 2, 0, 0, 0) := ⟨m_0, by decide +kernel⟩
theorem f_0_2002 : nF 0 mq_0 2002 (.bipush (Int.ofNat 10), 2, 0, 0, 0) := ⟨m_0, by decide +kernel⟩
theorem f_0_2004 : nF 0 mq_0 2004 (.aload_n 2, 1, 0, 0, 0) := ⟨m_0, by decide +kernel⟩
theorem f_0_2005 : nF 0 mq_0 2005 (.iconst (Int.ofNat 2), 1, 0, 0, 0) := ⟨m_0, by decide +kernel⟩
theorem f_0_2006 : nF 0 mq_0 2006 (.iaload, 1, 0, 0, 0) := ⟨m_0, by decide +kernel⟩
theorem f_0_2007 : nF 0 mq_0 2007 (.imul, 1, 0, 0, 0) := ⟨m_0, by decide +kernel⟩
theorem f_0_2008 : nF 0 mq_0 2008 (.invokestatic 188, 3, 12, 0, 4) := ⟨m_0, by decide +kernel⟩
theorem f_0_2011 : nF 0 mq_0 2011 (.aload_n 2, 1, 0, 0, 0) := ⟨m_0, by decide +kernel⟩
theorem f_0_2012 : nF 0 mq_0 2012 (.iconst (Int.ofNat 2), 1, 0, 0, 0) := ⟨m_0, by decide +kernel⟩
theorem f_0_2013 : nF 0 mq_0 2013 (.dup2, 1, 0, 0, 0) := ⟨m_0, by decide +kernel⟩
theorem f_0_2014 : nF 0 mq_0 2014 (.iaload, 1, 0, 0, 0) := ⟨m_0, by decide +kernel⟩
theorem f_0_2015 : nF 0 mq_0 2015 (.iconst (Int.ofNat 1), 1, 0, 0, 0) := ⟨m_0, by decide +kernel⟩
theorem f_0_2016 : nF 0 mq_0 2016 (.iadd, 1, 0, 0, 0) := ⟨m_0, by decide +kernel⟩
theorem f_0_2017 : nF 0 mq_0 2017 (.iastore, 1, 0, 0, 0) := ⟨m_0, by decide +kernel⟩
theorem f_0_2018 : nF 0 mq_0 2018 (.goto (Int.ofNat 209), 3, 0, 0, 0) := ⟨m_0, by decide +kernel⟩
theorem f_0_2021 : nF 0 mq_0 2021 (.iload 16, 2, 0, 0, 0) := ⟨m_0, by decide +kernel⟩
theorem f_0_2023 : nF 0 mq_0 2023 (.bipush (Int.ofNat 7), 2, 0, 0, 0) := ⟨m_0, by decide +kernel⟩
theorem f_0_2025 : nF 0 mq_0 2025 (.idiv, 1, 0, 0, 0) := ⟨m_0, by decide +kernel⟩
theorem f_0_2026 : nF 0 mq_0 2026 (.aload_n 2, 1, 0, 0, 0) := ⟨m_0, by decide +kernel⟩
theorem f_0_2027 : nF 0 mq_0 2027 (.iconst (Int.ofNat 3), 1, 0, 0, 0) := ⟨m_0, by decide +kernel⟩
theorem f_0_2028 : nF 0 mq_0 2028 (.iaload, 1, 0, 0, 0) := ⟨m_0, by decide +kernel⟩
theorem f_0_2029 : nF 0 mq_0 2029 (.irem, 1, 0, 0, 0) := ⟨m_0, by decide +kernel⟩
theorem f_0_2030 : nF 0 mq_0 2030 (.istore 24, 2, 0, 0, 0) := ⟨m_0, by decide +kernel⟩
theorem f_0_2032 : nF 0 mq_0 2032 (.aload_n 2, 1, 0, 0, 0) := ⟨m_0, by decide +kernel⟩
theorem f_0_2033 : nF 0 mq_0 2033 (.iconst (Int.ofNat 4), 1, 0, 0, 0) := ⟨m_0, by decide +kernel⟩
theorem f_0_2034 : nF 0 mq_0 2034 (.iload 17, 2, 0, 0, 0) := ⟨m_0, by decide +kernel⟩
theorem f_0_2036 : nF 0 mq_0 2036 (.iadd, 1, 0, 0, 0) := ⟨m_0, by decide +kernel⟩
theorem f_0_2037 : nF 0 mq_0 2037 (.iaload, 1, 0, 0, 0) := ⟨m_0, by decide +kernel⟩
theorem f_0_2038 : nF 0 mq_0 2038 (.istore 25, 2, 0, 0, 0) := ⟨m_0, by decide +kernel⟩
theorem f_0_2040 : nF 0 mq_0 2040 (.aload_n 2, 1, 0, 0, 0) := ⟨m_0, by decide +kernel⟩
theorem f_0_2041 : nF 0 mq_0 2041 (.aload_n 3, 1, 0, 0, 0) := ⟨m_0, by decide +kernel⟩
theorem f_0_2042 : nF 0 mq_0 2042 (.aload 4, 2, 0, 0, 0) := ⟨m_0, by decide +kernel⟩
theorem f_0_2044 : nF 0 mq_0 2044 (.aload 5, 2, 0, 0, 0) := ⟨m_0, by decide +kernel⟩
theorem f_0_2046 : nF 0 mq_0 2046 (.iload 18, 2, 0, 0, 0) := ⟨m_0, by decide +kernel⟩
theorem f_0_2048 : nF 0 mq_0 2048 (.aload 6, 2, 0, 0, 0) := ⟨m_0, by decide +kernel⟩
theorem f_0_2050 : nF 0 mq_0 2050 (.aload 7, 2, 0, 0, 0) := ⟨m_0, by decide +kernel⟩
theorem f_0_2052 : nF 0 mq_0 2052 (.aload 8, 2, 0, 0, 0) := ⟨m_0, by decide +kernel⟩
theorem f_0_2054 : nF 0 mq_0 2054 (.bipush (Int.ofNat 10), 2, 0, 0, 0) := ⟨m_0, by decide +kernel⟩
theorem f_0_2056 : nF 0 mq_0 2056 (.iload 25, 2, 0, 0, 0) := ⟨m_0, by decide +kernel⟩
theorem f_0_2058 : nF 0 mq_0 2058 (.imul, 1, 0, 0, 0) := ⟨m_0, by decide +kernel⟩
theorem f_0_2059 : nF 0 mq_0 2059 (.invokestatic 157, 3, 11, 0, 9) := ⟨m_0, by decide +kernel⟩
theorem f_0_2062 : nF 0 mq_0 2062 (.istore 26, 2, 0, 0, 0) := ⟨m_0, by decide +kernel⟩
theorem f_0_2064 : nF 0 mq_0 2064 (.iload 24, 2, 0, 0, 0) := ⟨m_0, by decide +kernel⟩
theorem f_0_2066 : nF 0 mq_0 2066 (.iload 25, 2, 0, 0, 0) := ⟨m_0, by decide +kernel⟩
theorem f_0_2068 : nF 0 mq_0 2068 (.if_icmp .eq (Int.ofNat 32), 3, 0, 0, 0) := ⟨m_0, by decide +kernel⟩
theorem f_0_2071 : nF 0 mq_0 2071 (.aload 11, 2, 0, 0, 0) := ⟨m_0, by decide +kernel⟩
theorem f_0_2073 : nF 0 mq_0 2073 (.iload 24, 2, 0, 0, 0) := ⟨m_0, by decide +kernel⟩
theorem f_0_2075 : nF 0 mq_0 2075 (.iload 25, 2, 0, 0, 0) := ⟨m_0, by decide +kernel⟩
theorem f_0_2077 : nF 0 mq_0 2077 (.invokestatic 175, 3, 17, 0, 3) := ⟨m_0, by decide +kernel⟩
theorem f_0_2080 : nF 0 mq_0 2080 (.ifCond .ne (Int.ofNat 20), 3, 0, 0, 0) := ⟨m_0, by decide +kernel⟩
theorem f_0_2083 : nF 0 mq_0 2083 (.aload 11, 2, 0, 0, 0) := ⟨m_0, by decide +kernel⟩
theorem f_0_2085 : nF 0 mq_0 2085 (.iload 25, 2, 0, 0, 0) := ⟨m_0, by decide +kernel⟩
theorem f_0_2087 : nF 0 mq_0 2087 (.iload 24, 2, 0, 0, 0) := ⟨m_0, by decide +kernel⟩
theorem f_0_2089 : nF 0 mq_0 2089 (.invokestatic 175, 3, 17, 0, 3) := ⟨m_0, by decide +kernel⟩
theorem f_0_2092 : nF 0 mq_0 2092 (.ifCond .ne (Int.ofNat 8), 3, 0, 0, 0) := ⟨m_0, by decide +kernel⟩
theorem f_0_2095 : nF 0 mq_0 2095 (.iload 26, 2, 0, 0, 0) := ⟨m_0, by decide +kernel⟩
theorem f_0_2097 : nF 0 mq_0 2097 (.ifCond .ne (Int.ofNat 130), 3, 0, 0, 0) := ⟨m_0, by decide +kernel⟩
theorem f_0_2100 : nF 0 mq_0 2100 (.iload 26, 2, 0, 0, 0) := ⟨m_0, by decide +kernel⟩
theorem f_0_2102 : nF 0 mq_0 2102 (.ifCond .eq (Int.ofNat 19), 3, 0, 0, 0) := ⟨m_0, by decide +kernel⟩
theorem f_0_2105 : nF 0 mq_0 2105 (.aload 11, 2, 0, 0, 0) := ⟨m_0, by decide +kernel⟩
theorem f_0_2107 : nF 0 mq_0 2107 (.iload 25, 2, 0, 0, 0) := ⟨m_0, by decide +kernel⟩
theorem f_0_2109 : nF 0 mq_0 2109 (.iload 24, 2, 0, 0, 0) := ⟨m_0, by decide +kernel⟩
theorem f_0_2111 : nF 0 mq_0 2111 (.invokestatic 175, 3, 17, 0, 3) := ⟨m_0, by decide +kernel⟩
theorem f_0_2114 : nF 0 mq_0 2114 (.ifCond .eq (Int.ofNat 7), 3, 0, 0, 0) := ⟨m_0, by decide +kernel⟩
theorem f_0_2117 : nF 0 mq_0 2117 (.iconst (Int.ofNat 1), 1, 0, 0, 0) := ⟨m_0, by decide +kernel⟩
theorem f_0_2118 : nF 0 mq_0 2118 (.goto (Int.ofNat 4), 3, 0, 0, 0) := ⟨m_0, by decide +kernel⟩
theorem f_0_2121 : nF 0 mq_0 2121 (.iconst (Int.ofNat 0), 1, 0, 0, 0) := ⟨m_0, by decide +kernel⟩
theorem f_0_2122 : nF 0 mq_0 2122 (.istore 27, 2, 0, 0, 0) := ⟨m_0, by decide +kernel⟩
theorem f_0_2124 : nF 0 mq_0 2124 (.aload_n 2, 1, 0, 0, 0) := ⟨m_0, by decide +kernel⟩
theorem f_0_2125 : nF 0 mq_0 2125 (.iconst (Int.ofNat 4), 1, 0, 0, 0) := ⟨m_0, by decide +kernel⟩
theorem f_0_2126 : nF 0 mq_0 2126 (.iload 17, 2, 0, 0, 0) := ⟨m_0, by decide +kernel⟩
theorem f_0_2128 : nF 0 mq_0 2128 (.iadd, 1, 0, 0, 0) := ⟨m_0, by decide +kernel⟩
theorem f_0_2129 : nF 0 mq_0 2129 (.iload 27, 2, 0, 0, 0) := ⟨m_0, by decide +kernel⟩
theorem f_0_2131 : nF 0 mq_0 2131 (.ifCond .eq (Int.ofNat 8), 3, 0, 0, 0) := ⟨m_0, by decide +kernel⟩
theorem f_0_2134 : nF 0 mq_0 2134 (.iload 24, 2, 0, 0, 0) := ⟨m_0, by decide +kernel⟩
theorem f_0_2136 : nF 0 mq_0 2136 (.goto (Int.ofNat 5), 3, 0, 0, 0) := ⟨m_0, by decide +kernel⟩
theorem f_0_2139 : nF 0 mq_0 2139 (.iload 25, 2, 0, 0, 0) := ⟨m_0, by decide +kernel⟩
theorem f_0_2141 : nF 0 mq_0 2141 (.iastore, 1, 0, 0, 0) := ⟨m_0, by decide +kernel⟩
theorem f_0_2142 : nF 0 mq_0 2142 (.iload 27, 2, 0, 0, 0) := ⟨m_0, by decide +kernel⟩
theorem f_0_2144 : nF 0 mq_0 2144 (.ifCond .eq (Int.ofNat 44), 3, 0, 0, 0) := ⟨m_0, by decide +kernel⟩
theorem f_0_2147 : nF 0 mq_0 2147 (.aload 6, 2, 0, 0, 0) := ⟨m_0, by decide +kernel⟩
theorem f_0_2149 : nF 0 mq_0 2149 (.bipush (Int.ofNat 10), 2, 0, 0, 0) := ⟨m_0, by decide +kernel⟩
theorem f_0_2151 : nF 0 mq_0 2151 (.iload 24, 2, 0, 0, 0) := ⟨m_0, by decide +kernel⟩
theorem f_0_2153 : nF 0 mq_0 2153 (.imul, 1, 0, 0, 0) := ⟨m_0, by decide +kernel⟩
theorem f_0_2154 : nF 0 mq_0 2154 (.aload_n 3, 1, 0, 0, 0) := ⟨m_0, by decide +kernel⟩
theorem f_0_2155 : nF 0 mq_0 2155 (.iload 18, 2, 0, 0, 0) := ⟨m_0, by decide +kernel⟩
theorem f_0_2157 : nF 0 mq_0 2157 (.invokestatic 188, 3, 12, 0, 4) := ⟨m_0, by decide +kernel⟩
theorem f_0_2160 : nF 0 mq_0 2160 (.aload 7, 2, 0, 0, 0) := ⟨m_0, by decide +kernel⟩
theorem f_0_2162 : nF 0 mq_0 2162 (.bipush (Int.ofNat 10), 2, 0, 0, 0) := ⟨m_0, by decide +kernel⟩
theorem f_0_2164 : nF 0 mq_0 2164 (.iload 24, 2, 0, 0, 0) := ⟨m_0, by decide +kernel⟩
theorem f_0_2166 : nF 0 mq_0 2166 (.imul, 1, 0, 0, 0) := ⟨m_0, by decide +kernel⟩
theorem f_0_2167 : nF 0 mq_0 2167 (.aload 4, 2, 0, 0, 0) := ⟨m_0, by decide +kernel⟩
theorem f_0_2169 : nF 0 mq_0 2169 (.iload 18, 2, 0, 0, 0) := ⟨m_0, by decide +kernel⟩
theorem f_0_2171 : nF 0 mq_0 2171 (.invokestatic 188, 3, 12, 0, 4) := ⟨m_0, by decide +kernel⟩
theorem f_0_2174 : nF 0 mq_0 2174 (.aload 8, 2, 0, 0, 0) := ⟨m_0, by decide +kernel⟩
theorem f_0_2176 : nF 0 mq_0 2176 (.bipush (Int.ofNat 10), 2, 0, 0, 0) := ⟨m_0, by decide +kernel⟩
theorem f_0_2178 : nF 0 mq_0 2178 (.iload 24, 2, 0, 0, 0) := ⟨m_0, by decide +kernel⟩
theorem f_0_2180 : nF 0 mq_0 2180 (.imul, 1, 0, 0, 0) := ⟨m_0, by decide +kernel⟩
theorem f_0_2181 : nF 0 mq_0 2181 (.aload 5, 2, 0, 0, 0) := ⟨m_0, by decide +kernel⟩
theorem f_0_2183 : nF 0 mq_0 2183 (.iload 18, 2, 0, 0, 0) := ⟨m_0, by decide +kernel⟩
theorem f_0_2185 : nF 0 mq_0 2185 (.invokestatic 188, 3, 12, 0, 4) := ⟨m_0, by decide +kernel⟩
theorem f_0_2188 : nF 0 mq_0 2188 (.aload_n 1, 1, 0, 0, 0) := ⟨m_0, by decide +kernel⟩
theorem f_0_2189 : nF 0 mq_0 2189 (.bipush (Int.ofNat 10), 2, 0, 0, 0) := ⟨m_0, by decide +kernel⟩
theorem f_0_2191 : nF 0 mq_0 2191 (.iload 17, 2, 0, 0, 0) := ⟨m_0, by decide +kernel⟩
theorem f_0_2193 : nF 0 mq_0 2193 (.iload 24, 2, 0, 0, 0) := ⟨m_0, by decide +kernel⟩
theorem f_0_2195 : nF 0 mq_0 2195 (.iconst (Int.ofNat 0), 1, 0, 0, 0) := ⟨m_0, by decide +kernel⟩
theorem f_0_2196 : nF 0 mq_0 2196 (.iconst (Int.ofNat 0), 1, 0, 0, 0) := ⟨m_0, by decide +kernel⟩
theorem f_0_2197 : nF 0 mq_0 2197 (.iconst (Int.ofNat 0), 1, 0, 0, 0) := ⟨m_0, by decide +kernel⟩
theorem f_0_2198 : nF 0 mq_0 2198 (.invokestatic 119, 3, 6, 0, 7) := ⟨m_0, by decide +kernel⟩
theorem f_0_2201 : nF 0 mq_0 2201 (.iload 26, 2, 0, 0, 0) := ⟨m_0, by decide +kernel⟩
theorem f_0_2203 : nF 0 mq_0 2203 (.ifCond .eq (Int.ofNat 12), 3, 0, 0, 0) := ⟨m_0, by decide +kernel⟩
theorem f_0_2206 : nF 0 mq_0 2206 (.aload_n 2, 1, 0, 0, 0) := ⟨m_0, by decide +kernel⟩
theorem f_0_2207 : nF 0 mq_0 2207 (.iconst (Int.ofNat 4), 1, 0, 0, 0) := ⟨m_0, by decide +kernel⟩
theorem f_0_2208 : nF 0 mq_0 2208 (.iload 17, 2, 0, 0, 0) := ⟨m_0, by decide +kernel⟩
theorem f_0_2210 : nF 0 mq_0 2210 (.iadd, 1, 0, 0, 0) := ⟨m_0, by decide +kernel⟩
theorem f_0_2211 : nF 0 mq_0 2211 (.iaload, 1, 0, 0, 0) := ⟨m_0, by decide +kernel⟩
theorem f_0_2212 : nF 0 mq_0 2212 (.goto (Int.ofNat 5), 3, 0, 0, 0) := ⟨m_0, by decide +kernel⟩
theorem f_0_2215 : nF 0 mq_0 2215 (.bipush (Int.negSucc 12), 2, 0, 0, 0) := ⟨m_0, by decide +kernel⟩
theorem f_0_2217 : nF 0 mq_0 2217 (.if_icmp .ne (Int.ofNat 7), 3, 0, 0, 0) := ⟨m_0, by decide +kernel⟩
theorem f_0_2220 : nF 0 mq_0 2220 (.iconst (Int.ofNat 1), 1, 0, 0, 0) := ⟨m_0, by decide +kernel⟩
theorem f_0_2221 : nF 0 mq_0 2221 (.goto (Int.ofNat 4), 3, 0, 0, 0) := ⟨m_0, by decide +kernel⟩
theorem f_0_2224 : nF 0 mq_0 2224 (.iconst (Int.ofNat 0), 1, 0, 0, 0) := ⟨m_0, by decide +kernel⟩
theorem f_0_2225 : nF 0 mq_0 2225 (.istore 12, 2, 0, 0, 0) := ⟨m_0, by decide +kernel⟩
theorem f_0_2227 : nF 0 mq_0 2227 (.iload 12, 2, 0, 0, 0) := ⟨m_0, by decide +kernel⟩
theorem f_0_2229 : nF 0 mq_0 2229 (.ifCond .eq (Int.ofNat 42), 3, 0, 0, 0) := ⟨m_0, by decide +kernel⟩
theorem f_0_2232 : nF 0 mq_0 2232 (.iload 13, 2, 0, 0, 0) := ⟨m_0, by decide +kernel⟩
theorem f_0_2234 : nF 0 mq_0 2234 (.iconst (Int.ofNat 4), 1, 0, 0, 0) := ⟨m_0, by decide +kernel⟩
theorem f_0_2235 : nF 0 mq_0 2235 (.irem, 1, 0, 0, 0) := ⟨m_0, by decide +kernel⟩
theorem f_0_2236 : nF 0 mq_0 2236 (.iconst (Int.ofNat 3), 1, 0, 0, 0) := ⟨m_0, by decide +kernel⟩
theorem f_0_2237 : nF 0 mq_0 2237 (.if_icmp .lt (Int.ofNat 30), 3, 0, 0, 0) := ⟨m_0, by decide +kernel⟩
theorem f_0_2240 : nF 0 mq_0 2240 (.aload_n 1, 1, 0, 0, 0) := ⟨m_0, by decide +kernel⟩
theorem f_0_2241 : nF 0 mq_0 2241 (.aload_n 2, 1, 0, 0, 0) := ⟨m_0, by decide +kernel⟩
theorem f_0_2242 : nF 0 mq_0 2242 (.aload_n 3, 1, 0, 0, 0) := ⟨m_0, by decide +kernel⟩
theorem f_0_2243 : nF 0 mq_0 2243 (.aload 4, 2, 0, 0, 0) := ⟨m_0, by decide +kernel⟩
theorem f_0_2245 : nF 0 mq_0 2245 (.aload 5, 2, 0, 0, 0) := ⟨m_0, by decide +kernel⟩
theorem f_0_2247 : nF 0 mq_0 2247 (.aload 6, 2, 0, 0, 0) := ⟨m_0, by decide +kernel⟩
theorem f_0_2249 : nF 0 mq_0 2249 (.aload 7, 2, 0, 0, 0) := ⟨m_0, by decide +kernel⟩
theorem f_0_2251 : nF 0 mq_0 2251 (.aload 8, 2, 0, 0, 0) := ⟨m_0, by decide +kernel⟩
theorem f_0_2253 : nF 0 mq_0 2253 (.aload 9, 2, 0, 0, 0) := ⟨m_0, by decide +kernel⟩
theorem f_0_2255 : nF 0 mq_0 2255 (.aload 10, 2, 0, 0, 0) := ⟨m_0, by decide +kernel⟩
theorem f_0_2257 : nF 0 mq_0 2257 (.aload 11, 2, 0, 0, 0) := ⟨m_0, by decide +kernel⟩
theorem f_0_2259 : nF 0 mq_0 2259 (.iload 16, 2, 0, 0, 0) := ⟨m_0, by decide +kernel⟩
theorem f_0_2261 : nF 0 mq_0 2261 (.invokestatic 212, 3, 2, 0, 12) := ⟨m_0, by decide +kernel⟩
theorem f_0_2264 : nF 0 mq_0 2264 (.ifCond .eq (Int.ofNat 7), 3, 0, 0, 0) := ⟨m_0, by decide +kernel⟩
theorem f_0_2267 : nF 0 mq_0 2267 (.iconst (Int.ofNat 1), 1, 0, 0, 0) := ⟨m_0, by decide +kernel⟩
theorem f_0_2268 : nF 0 mq_0 2268 (.goto (Int.ofNat 4), 3, 0, 0, 0) := ⟨m_0, by decide +kernel⟩
theorem f_0_2271 : nF 0 mq_0 2271 (.iconst (Int.ofNat 0), 1, 0, 0, 0) := ⟨m_0, by decide +kernel⟩
theorem f_0_2272 : nF 0 mq_0 2272 (.istore 12, 2, 0, 0, 0) := ⟨m_0, by decide +kernel⟩
theorem f_0_2274 : nF 0 mq_0 2274 (.iinc 13 (Int.ofNat 1), 3, 0, 0, 0) := ⟨m_0, by decide +kernel⟩
theorem f_0_2277 : nF 0 mq_0 2277 (.goto (Int.negSucc 2156), 3, 0, 0, 0) := ⟨m_0, by decide +kernel⟩
theorem f_0_2280 : nF 0 mq_0 2280 (.iload 12, 2, 0, 0, 0) := ⟨m_0, by decide +kernel⟩
theorem f_0_2282 : nF 0 mq_0 2282 (.ifCond .eq (Int.ofNat 34), 3, 0, 0, 0) := ⟨m_0, by decide +kernel⟩
theorem f_0_2285 : nF 0 mq_0 2285 (.aload_n 1, 1, 0, 0, 0) := ⟨m_0, by decide +kernel⟩
theorem f_0_2286 : nF 0 mq_0 2286 (.aload_n 2, 1, 0, 0, 0) := ⟨m_0, by decide +kernel⟩
theorem f_0_2287 : nF 0 mq_0 2287 (.aload_n 3, 1, 0, 0, 0) := ⟨m_0, by decide +kernel⟩
theorem f_0_2288 : nF 0 mq_0 2288 (.aload 4, 2, 0, 0, 0) := ⟨m_0, by decide +kernel⟩
theorem f_0_2290 : nF 0 mq_0 2290 (.aload 5, 2, 0, 0, 0) := ⟨m_0, by decide +kernel⟩
theorem f_0_2292 : nF 0 mq_0 2292 (.aload 6, 2, 0, 0, 0) := ⟨m_0, by decide +kernel⟩
theorem f_0_2294 : nF 0 mq_0 2294 (.aload 7, 2, 0, 0, 0) := ⟨m_0, by decide +kernel⟩
theorem f_0_2296 : nF 0 mq_0 2296 (.aload 8, 2, 0, 0, 0) := ⟨m_0, by decide +kernel⟩
theorem f_0_2298 : nF 0 mq_0 2298 (.aload 9, 2, 0, 0, 0) := ⟨m_0, by decide +kernel⟩
theorem f_0_2300 : nF 0 mq_0 2300 (.aload 10, 2, 0, 0, 0) := ⟨m_0, by decide +kernel⟩
theorem f_0_2302 : nF 0 mq_0 2302 (.aload 11, 2, 0, 0, 0) := ⟨m_0, by decide +kernel⟩
theorem f_0_2304 : nF 0 mq_0 2304 (.bipush (Int.ofNat 19), 2, 0, 0, 0) := ⟨m_0, by decide +kernel⟩
theorem f_0_2306 : nF 0 mq_0 2306 (.invokestatic 212, 3, 2, 0, 12) := ⟨m_0, by decide +kernel⟩
theorem f_0_2309 : nF 0 mq_0 2309 (.ifCond .eq (Int.ofNat 7), 3, 0, 0, 0) := ⟨m_0, by decide +kernel⟩
theorem f_0_2312 : nF 0 mq_0 2312 (.iconst (Int.ofNat 1), 1, 0, 0, 0) := ⟨m_0, by decide +kernel⟩
theorem f_0_2313 : nF 0 mq_0 2313 (.goto (Int.ofNat 4), 3, 0, 0, 0) := ⟨m_0, by decide +kernel⟩
theorem f_0_2316 : nF 0 mq_0 2316 (.iconst (Int.ofNat 0), 1, 0, 0, 0) := ⟨m_0, by decide +kernel⟩
theorem f_0_2317 : nF 0 mq_0 2317 (.ireturn, 1, 0, 0, 0) := ⟨m_0, by decide +kernel⟩
theorem f_1_0 : nF 1 mq_1 0 (.aload_n 0, 1, 0, 0, 0) := ⟨m_1, by decide +kernel⟩
theorem f_1_1 : nF 1 mq_1 1 (.invokespecial 1, 3, 0, 9, 0) := ⟨m_1, by decide +kernel⟩
theorem f_1_4 : nF 1 mq_1 4 (.aload_n 0, 1, 0, 0, 0) := ⟨m_1, by decide +kernel⟩
theorem f_1_5 : nF 1 mq_1 5 (.new 7, 3, 1, 0, 0) := ⟨m_1, by decide +kernel⟩
theorem f_1_8 : nF 1 mq_1 8 (.dup, 1, 0, 0, 0) := ⟨m_1, by decide +kernel⟩
theorem f_1_9 : nF 1 mq_1 9 (.invokespecial 9, 3, 18, 0, 1) := ⟨m_1, by decide +kernel⟩
theorem f_1_12 : nF 1 mq_1 12 (.putfield 10, 3, 0, 0, 2) := ⟨m_1, by decide +kernel⟩
theorem f_1_15 : nF 1 mq_1 15 (.aload_n 0, 1, 0, 0, 0) := ⟨m_1, by decide +kernel⟩
theorem f_1_16 : nF 1 mq_1 16 (.new 16, 3, 2, 0, 0) := ⟨m_1, by decide +kernel⟩
theorem f_1_19 : nF 1 mq_1 19 (.dup, 1, 0, 0, 0) := ⟨m_1, by decide +kernel⟩
theorem f_1_20 : nF 1 mq_1 20 (.aload_n 0, 1, 0, 0, 0) := ⟨m_1, by decide +kernel⟩
theorem f_1_21 : nF 1 mq_1 21 (.getfield 10, 3, 0, 0, 2) := ⟨m_1, by decide +kernel⟩
theorem f_1_24 : nF 1 mq_1 24 (.invokespecial 18, 3, 19, 0, 2) := ⟨m_1, by decide +kernel⟩
theorem f_1_27 : nF 1 mq_1 27 (.putfield 21, 3, 0, 1, 2) := ⟨m_1, by decide +kernel⟩
theorem f_1_30 : nF 1 mq_1 30 (.aload_n 0, 1, 0, 0, 0) := ⟨m_1, by decide +kernel⟩
theorem f_1_31 : nF 1 mq_1 31 (.new 25, 3, 3, 0, 0) := ⟨m_1, by decide +kernel⟩
theorem f_1_34 : nF 1 mq_1 34 (.dup, 1, 0, 0, 0) := ⟨m_1, by decide +kernel⟩
theorem f_1_35 : nF 1 mq_1 35 (.invokespecial 27, 3, 20, 0, 1) := ⟨m_1, by decide +kernel⟩
theorem f_1_38 : nF 1 mq_1 38 (.putfield 28, 3, 0, 2, 2) := ⟨m_1, by decide +kernel⟩
theorem f_1_41 : nF 1 mq_1 41 (.aload_n 0, 1, 0, 0, 0) := ⟨m_1, by decide +kernel⟩
theorem f_1_42 : nF 1 mq_1 42 (.new 32, 3, 6, 0, 0) := ⟨m_1, by decide +kernel⟩
theorem f_1_45 : nF 1 mq_1 45 (.dup, 1, 0, 0, 0) := ⟨m_1, by decide +kernel⟩
theorem f_1_46 : nF 1 mq_1 46 (.aload_n 0, 1, 0, 0, 0) := ⟨m_1, by decide +kernel⟩
theorem f_1_47 : nF 1 mq_1 47 (.getfield 21, 3, 0, 1, 2) := ⟨m_1, by decide +kernel⟩
theorem f_1_50 : nF 1 mq_1 50 (.aload_n 0, 1, 0, 0, 0) := ⟨m_1, by decide +kernel⟩
theorem f_1_51 : nF 1 mq_1 51 (.getfield 28, 3, 0, 2, 2) := ⟨m_1, by decide +kernel⟩
theorem f_1_54 : nF 1 mq_1 54 (.invokespecial 34, 3, 21, 0, 3) := ⟨m_1, by decide +kernel⟩
theorem f_1_57 : nF 1 mq_1 57 (.putfield 37, 3, 0, 3, 2) := ⟨m_1, by decide +kernel⟩
theorem f_1_60 : nF 1 mq_1 60 (.aload_n 0, 1, 0, 0, 0) := ⟨m_1, by decide +kernel⟩
theorem f_1_61 : nF 1 mq_1 61 (.new 41, 3, 7, 0, 0) := ⟨m_1, by decide +kernel⟩
theorem f_1_64 : nF 1 mq_1 64 (.dup, 1, 0, 0, 0) := ⟨m_1, by decide +kernel⟩
theorem f_1_65 : nF 1 mq_1 65 (.invokespecial 43, 3, 22, 0, 1) := ⟨m_1, by decide +kernel⟩
theorem f_1_68 : nF 1 mq_1 68 (.putfield 44, 3, 0, 4, 2) := ⟨m_1, by decide +kernel⟩
theorem f_1_71 : nF 1 mq_1 71 (.aload_n 0, 1, 0, 0, 0) := ⟨m_1, by decide +kernel⟩
theorem f_1_72 : nF 1 mq_1 72 (.new 48, 3, 8, 0, 0) := ⟨m_1, by decide +kernel⟩
theorem f_1_75 : nF 1 mq_1 75 (.dup, 1, 0, 0, 0) := ⟨m_1, by decide +kernel⟩
theorem f_1_76 : nF 1 mq_1 76 (.aload_n 0, 1, 0, 0, 0) := ⟨m_1, by decide +kernel⟩
theorem f_1_77 : nF 1 mq_1 77 (.getfield 10, 3, 0, 0, 2) := ⟨m_1, by decide +kernel⟩
theorem f_1_80 : nF 1 mq_1 80 (.aload_n 0, 1, 0, 0, 0) := ⟨m_1, by decide +kernel⟩
theorem f_1_81 : nF 1 mq_1 81 (.getfield 21, 3, 0, 1, 2) := ⟨m_1, by decide +kernel⟩
theorem f_1_84 : nF 1 mq_1 84 (.invokespecial 50, 3, 23, 0, 3) := ⟨m_1, by decide +kernel⟩
theorem f_1_87 : nF 1 mq_1 87 (.putfield 53, 3, 0, 5, 2) := ⟨m_1, by decide +kernel⟩
theorem f_1_90 : nF 1 mq_1 90 (.aload_n 0, 1, 0, 0, 0) := ⟨m_1, by decide +kernel⟩
theorem f_1_91 : nF 1 mq_1 91 (.new 57, 3, 9, 0, 0) := ⟨m_1, by decide +kernel⟩
theorem f_1_94 : nF 1 mq_1 94 (.dup, 1, 0, 0, 0) := ⟨m_1, by decide +kernel⟩
theorem f_1_95 : nF 1 mq_1 95 (.aload_n 0, 1, 0, 0, 0) := ⟨m_1, by decide +kernel⟩
theorem f_1_96 : nF 1 mq_1 96 (.getfield 10, 3, 0, 0, 2) := ⟨m_1, by decide +kernel⟩
theorem f_1_99 : nF 1 mq_1 99 (.aload_n 0, 1, 0, 0, 0) := ⟨m_1, by decide +kernel⟩
theorem f_1_100 : nF 1 mq_1 100 (.getfield 21, 3, 0, 1, 2) := ⟨m_1, by decide +kernel⟩
theorem f_1_103 : nF 1 mq_1 103 (.aload_n 0, 1, 0, 0, 0) := ⟨m_1, by decide +kernel⟩
theorem f_1_104 : nF 1 mq_1 104 (.getfield 53, 3, 0, 5, 2) := ⟨m_1, by decide +kernel⟩
theorem f_1_107 : nF 1 mq_1 107 (.invokespecial 59, 3, 24, 0, 4) := ⟨m_1, by decide +kernel⟩
theorem f_1_110 : nF 1 mq_1 110 (.putfield 62, 3, 0, 6, 2) := ⟨m_1, by decide +kernel⟩
theorem f_1_113 : nF 1 mq_1 113 (.aload_n 0, 1, 0, 0, 0) := ⟨m_1, by decide +kernel⟩
theorem f_1_114 : nF 1 mq_1 114 (.iconst (Int.ofNat 5), 1, 0, 0, 0) := ⟨m_1, by decide +kernel⟩
theorem f_1_115 : nF 1 mq_1 115 (.anewarray 66, 3, 3, 0, 0) := ⟨m_1, by decide +kernel⟩
theorem f_1_118 : nF 1 mq_1 118 (.putfield 68, 3, 0, 7, 2) := ⟨m_1, by decide +kernel⟩
theorem f_1_121 : nF 1 mq_1 121 (.aload_n 0, 1, 0, 0, 0) := ⟨m_1, by decide +kernel⟩
theorem f_1_122 : nF 1 mq_1 122 (.iconst (Int.ofNat 5), 1, 0, 0, 0) := ⟨m_1, by decide +kernel⟩
theorem f_1_123 : nF 1 mq_1 123 (.newarray .int, 2, 0, 0, 0) := ⟨m_1, by decide +kernel⟩
theorem f_1_125 : nF 1 mq_1 125 (.putfield 72, 3, 0, 8, 2) := ⟨m_1, by decide +kernel⟩
theorem f_1_128 : nF 1 mq_1 128 (.aload_n 0, 1, 0, 0, 0) := ⟨m_1, by decide +kernel⟩
theorem f_1_129 : nF 1 mq_1 129 (.iconst (Int.ofNat 1), 1, 0, 0, 0) := ⟨m_1, by decide +kernel⟩
theorem f_1_130 : nF 1 mq_1 130 (.putfield 76, 3, 0, 9, 0) := ⟨m_1, by decide +kernel⟩
theorem f_1_133 : nF 1 mq_1 133 (.aload_n 0, 1, 0, 0, 0) := ⟨m_1, by decide +kernel⟩
theorem f_1_134 : nF 1 mq_1 134 (.new 66, 3, 5, 0, 0) := ⟨m_1, by decide +kernel⟩
theorem f_1_137 : nF 1 mq_1 137 (.dup, 1, 0, 0, 0) := ⟨m_1, by decide +kernel⟩
theorem f_1_138 : nF 1 mq_1 138 (.invokespecial 80, 3, 25, 0, 1) := ⟨m_1, by decide +kernel⟩
theorem f_1_141 : nF 1 mq_1 141 (.putfield 81, 3, 0, 10, 2) := ⟨m_1, by decide +kernel⟩
theorem f_1_144 : nF 1 mq_1 144 (.aload_n 0, 1, 0, 0, 0) := ⟨m_1, by decide +kernel⟩
theorem f_1_145 : nF 1 mq_1 145 (.bipush (Int.ofNat 40), 2, 0, 0, 0) := ⟨m_1, by decide +kernel⟩
theorem f_1_147 : nF 1 mq_1 147 (.newarray .long, 2, 0, 0, 0) := ⟨m_1, by decide +kernel⟩
theorem f_1_149 : nF 1 mq_1 149 (.putfield 85, 3, 0, 11, 2) := ⟨m_1, by decide +kernel⟩
theorem f_1_152 : nF 1 mq_1 152 (.iconst (Int.ofNat 0), 1, 0, 0, 0) := ⟨m_1, by decide +kernel⟩
theorem f_1_153 : nF 1 mq_1 153 (.istore_n 1, 1, 0, 0, 0) := ⟨m_1, by decide +kernel⟩
theorem f_1_154 : nF 1 mq_1 154 (.iload_n 1, 1, 0, 0, 0) := ⟨m_1, by decide +kernel⟩
theorem f_1_155 : nF 1 mq_1 155 (.iconst (Int.ofNat 5), 1, 0, 0, 0) := ⟨m_1, by decide +kernel⟩
theorem f_1_156 : nF 1 mq_1 156 (.if_icmp .ge (Int.ofNat 22), 3, 0, 0, 0) := ⟨m_1, by decide +kernel⟩
theorem f_1_159 : nF 1 mq_1 159 (.aload_n 0, 1, 0, 0, 0) := ⟨m_1, by decide +kernel⟩
theorem f_1_160 : nF 1 mq_1 160 (.getfield 68, 3, 0, 7, 2) := ⟨m_1, by decide +kernel⟩
theorem f_1_163 : nF 1 mq_1 163 (.iload_n 1, 1, 0, 0, 0) := ⟨m_1, by decide +kernel⟩
theorem f_1_164 : nF 1 mq_1 164 (.new 66, 3, 5, 0, 0) := ⟨m_1, by decide +kernel⟩
theorem f_1_167 : nF 1 mq_1 167 (.dup, 1, 0, 0, 0) := ⟨m_1, by decide +kernel⟩
theorem f_1_168 : nF 1 mq_1 168 (.invokespecial 80, 3, 25, 0, 1) := ⟨m_1, by decide +kernel⟩
theorem f_1_171 : nF 1 mq_1 171 (.aastore, 1, 3, 5, 0) := ⟨m_1, by decide +kernel⟩
theorem f_1_172 : nF 1 mq_1 172 (.iinc 1 (Int.ofNat 1), 3, 0, 0, 0) := ⟨m_1, by decide +kernel⟩
theorem f_1_175 : nF 1 mq_1 175 (.goto (Int.negSucc 20), 3, 0, 0, 0) := ⟨m_1, by decide +kernel⟩
theorem f_1_178 : nF 1 mq_1 178 (.new 66, 3, 5, 0, 0) := ⟨m_1, by decide +kernel⟩
theorem f_1_181 : nF 1 mq_1 181 (.dup, 1, 0, 0, 0) := ⟨m_1, by decide +kernel⟩
theorem f_1_182 : nF 1 mq_1 182 (.invokespecial 80, 3, 25, 0, 1) := ⟨m_1, by decide +kernel⟩
theorem f_1_185 : nF 1 mq_1 185 (.astore_n 1, 1, 0, 0, 0) := ⟨m_1, by decide +kernel⟩
theorem f_1_186 : nF 1 mq_1 186 (.aload_n 1, 1, 0, 0, 0) := ⟨m_1, by decide +kernel⟩
theorem f_1_187 : nF 1 mq_1 187 (.iconst (Int.ofNat 0), 1, 0, 0, 0) := ⟨m_1, by decide +kernel⟩
theorem f_1_188 : nF 1 mq_1 188 (.iconst (Int.negSucc 0), 1, 0, 0, 0) := ⟨m_1, by decide +kernel⟩
theorem f_1_189 : nF 1 mq_1 189 (.iconst (Int.ofNat 0), 1, 0, 0, 0) := ⟨m_1, by decide +kernel⟩
theorem f_1_190 : nF 1 mq_1 190 (.invokevirtual 89, 3, 26, 81, 4) := ⟨m_1, by decide +kernel⟩
theorem f_1_193 : nF 1 mq_1 193 (.aload_n 0, 1, 0, 0, 0) := ⟨m_1, by decide +kernel⟩
theorem f_1_194 : nF 1 mq_1 194 (.getfield 28, 3, 0, 2, 2) := ⟨m_1, by decide +kernel⟩
theorem f_1_197 : nF 1 mq_1 197 (.aload_n 1, 1, 0, 0, 0) := ⟨m_1, by decide +kernel⟩
theorem f_1_198 : nF 1 mq_1 198 (.iconst (Int.negSucc 0), 1, 0, 0, 0) := ⟨m_1, by decide +kernel⟩
theorem f_1_199 : nF 1 mq_1 199 (.iconst (Int.negSucc 0), 1, 0, 0, 0) := ⟨m_1, by decide +kernel⟩
theorem f_1_200 : nF 1 mq_1 200 (.invokevirtual 93, 3, 27, 49, 4) := ⟨m_1, by decide +kernel⟩
theorem f_1_203 : nF 1 mq_1 203 (.pop, 1, 0, 0, 0) := ⟨m_1, by decide +kernel⟩
theorem f_1_204 : nF 1 mq_1 204 (.aload_n 0, 1, 0, 0, 0) := ⟨m_1, by decide +kernel⟩
theorem f_1_205 : nF 1 mq_1 205 (.getfield 68, 3, 0, 7, 2) := ⟨m_1, by decide +kernel⟩
theorem f_1_208 : nF 1 mq_1 208 (.iconst (Int.ofNat 0), 1, 0, 0, 0) := ⟨m_1, by decide +kernel⟩
theorem f_1_209 : nF 1 mq_1 209 (.aaload, 1, 3, 0, 0) := ⟨m_1, by decide +kernel⟩
theorem f_1_210 : nF 1 mq_1 210 (.aload_n 1, 1, 0, 0, 0) := ⟨m_1, by decide +kernel⟩
theorem f_1_211 : nF 1 mq_1 211 (.invokevirtual 97, 3, 28, 81, 2) := ⟨m_1, by decide +kernel⟩
theorem f_1_214 : nF 1 mq_1 214 (.return_, 1, 0, 0, 0) := ⟨m_1, by decide +kernel⟩
theorem f_2_0 : nF 2 mq_2 0 (.aload_n 0, 1, 0, 0, 0) := ⟨m_2, by decide +kernel⟩
theorem f_2_1 : nF 2 mq_2 1 (.invokevirtual 146, 3, 29, 1, 1) := ⟨m_2, by decide +kernel⟩
theorem f_2_4 : nF 2 mq_2 4 (.aload_n 1, 1, 0, 0, 0) := ⟨m_2, by decide +kernel⟩
theorem f_2_5 : nF 2 mq_2 5 (.iconst (Int.ofNat 3), 1, 0, 0, 0) := ⟨m_2, by decide +kernel⟩
theorem f_2_6 : nF 2 mq_2 6 (.iaload, 1, 0, 0, 0) := ⟨m_2, by decide +kernel⟩
theorem f_2_7 : nF 2 mq_2 7 (.if_icmp .ne (Int.ofNat 7), 3, 0, 0, 0) := ⟨m_2, by decide +kernel⟩
theorem f_2_10 : nF 2 mq_2 10 (.iconst (Int.ofNat 1), 1, 0, 0, 0) := ⟨m_2, by decide +kernel⟩
theorem f_2_11 : nF 2 mq_2 11 (.goto (Int.ofNat 4), 3, 0, 0, 0) := ⟨m_2, by decide +kernel⟩
theorem f_2_14 : nF 2 mq_2 14 (.iconst (Int.ofNat 0), 1, 0, 0, 0) := ⟨m_2, by decide +kernel⟩
theorem f_2_15 : nF 2 mq_2 15 (.istore 12, 2, 0, 0, 0) := ⟨m_2, by decide +kernel⟩
theorem f_2_17 : nF 2 mq_2 17 (.iconst (Int.ofNat 0), 1, 0, 0, 0) := ⟨m_2, by decide +kernel⟩
theorem f_2_18 : nF 2 mq_2 18 (.istore 13, 2, 0, 0, 0) := ⟨m_2, by decide +kernel⟩
theorem f_2_20 : nF 2 mq_2 20 (.iload 13, 2, 0, 0, 0) := ⟨m_2, by decide +kernel⟩
theorem f_2_22 : nF 2 mq_2 22 (.aload_n 1, 1, 0, 0, 0) := ⟨m_2, by decide +kernel⟩
theorem f_2_23 : nF 2 mq_2 23 (.iconst (Int.ofNat 2), 1, 0, 0, 0) := ⟨m_2, by decide +kernel⟩
theorem f_2_24 : nF 2 mq_2 24 (.iaload, 1, 0, 0, 0) := ⟨m_2, by decide +kernel⟩
theorem f_2_25 : nF 2 mq_2 25 (.if_icmp .ge (Int.ofNat 73), 3, 0, 0, 0) := ⟨m_2, by decide +kernel⟩
theorem f_2_28 : nF 2 mq_2 28 (.iload 12, 2, 0, 0, 0) := ⟨m_2, by decide +kernel⟩
theorem f_2_30 : nF 2 mq_2 30 (.ifCond .eq (Int.ofNat 68), 3, 0, 0, 0) := ⟨m_2, by decide +kernel⟩
theorem f_2_33 : nF 2 mq_2 33 (.aload_n 0, 1, 0, 0, 0) := ⟨m_2, by decide +kernel⟩
theorem f_2_34 : nF 2 mq_2 34 (.iload 13, 2, 0, 0, 0) := ⟨m_2, by decide +kernel⟩
theorem f_2_36 : nF 2 mq_2 36 (.invokevirtual 150, 3, 30, 1, 2) := ⟨m_2, by decide +kernel⟩
theorem f_2_39 : nF 2 mq_2 39 (.aload_n 1, 1, 0, 0, 0) := ⟨m_2, by decide +kernel⟩
theorem f_2_40 : nF 2 mq_2 40 (.iconst (Int.ofNat 4), 1, 0, 0, 0) := ⟨m_2, by decide +kernel⟩
theorem f_2_41 : nF 2 mq_2 41 (.iload 13, 2, 0, 0, 0) := ⟨m_2, by decide +kernel⟩
theorem f_2_43 : nF 2 mq_2 43 (.iadd, 1, 0, 0, 0) := ⟨m_2, by decide +kernel⟩
theorem f_2_44 : nF 2 mq_2 44 (.iaload, 1, 0, 0, 0) := ⟨m_2, by decide +kernel⟩
theorem f_2_45 : nF 2 mq_2 45 (.if_icmp .ne (Int.ofNat 44), 3, 0, 0, 0) := ⟨m_2, by decide +kernel⟩
theorem f_2_48 : nF 2 mq_2 48 (.aload_n 0, 1, 0, 0, 0) := ⟨m_2, by decide +kernel⟩
theorem f_2_49 : nF 2 mq_2 49 (.iload 13, 2, 0, 0, 0) := ⟨m_2, by decide +kernel⟩
theorem f_2_51 : nF 2 mq_2 51 (.invokevirtual 153, 3, 16, 1, 2) := ⟨m_2, by decide +kernel⟩
theorem f_2_54 : nF 2 mq_2 54 (.aload_n 1, 1, 0, 0, 0) := ⟨m_2, by decide +kernel⟩
theorem f_2_55 : nF 2 mq_2 55 (.aload_n 2, 1, 0, 0, 0) := ⟨m_2, by decide +kernel⟩
theorem f_2_56 : nF 2 mq_2 56 (.aload_n 3, 1, 0, 0, 0) := ⟨m_2, by decide +kernel⟩
theorem f_2_57 : nF 2 mq_2 57 (.aload 4, 2, 0, 0, 0) := ⟨m_2, by decide +kernel⟩
theorem f_2_59 : nF 2 mq_2 59 (.bipush (Int.ofNat 10), 2, 0, 0, 0) := ⟨m_2, by decide +kernel⟩
theorem f_2_61 : nF 2 mq_2 61 (.iload 13, 2, 0, 0, 0) := ⟨m_2, by decide +kernel⟩
theorem f_2_63 : nF 2 mq_2 63 (.imul, 1, 0, 0, 0) := ⟨m_2, by decide +kernel⟩
theorem f_2_64 : nF 2 mq_2 64 (.aload 5, 2, 0, 0, 0) := ⟨m_2, by decide +kernel⟩
theorem f_2_66 : nF 2 mq_2 66 (.aload 6, 2, 0, 0, 0) := ⟨m_2, by decide +kernel⟩
theorem f_2_68 : nF 2 mq_2 68 (.aload 7, 2, 0, 0, 0) := ⟨m_2, by decide +kernel⟩
theorem f_2_70 : nF 2 mq_2 70 (.bipush (Int.ofNat 10), 2, 0, 0, 0) := ⟨m_2, by decide +kernel⟩
theorem f_2_72 : nF 2 mq_2 72 (.aload_n 1, 1, 0, 0, 0) := ⟨m_2, by decide +kernel⟩
theorem f_2_73 : nF 2 mq_2 73 (.iconst (Int.ofNat 4), 1, 0, 0, 0) := ⟨m_2, by decide +kernel⟩
theorem f_2_74 : nF 2 mq_2 74 (.iload 13, 2, 0, 0, 0) := ⟨m_2, by decide +kernel⟩
theorem f_2_76 : nF 2 mq_2 76 (.iadd, 1, 0, 0, 0) := ⟨m_2, by decide +kernel⟩
theorem f_2_77 : nF 2 mq_2 77 (.iaload, 1, 0, 0, 0) := ⟨m_2, by decide +kernel⟩
theorem f_2_78 : nF 2 mq_2 78 (.imul, 1, 0, 0, 0) := ⟨m_2, by decide +kernel⟩
theorem f_2_79 : nF 2 mq_2 79 (.invokestatic 157, 3, 11, 0, 9) := ⟨m_2, by decide +kernel⟩
theorem f_2_82 : nF 2 mq_2 82 (.if_icmp .ne (Int.ofNat 7), 3, 0, 0, 0) := ⟨m_2, by decide +kernel⟩
theorem f_2_85 : nF 2 mq_2 85 (.iconst (Int.ofNat 1), 1, 0, 0, 0) := ⟨m_2, by decide +kernel⟩
theorem f_2_86 : nF 2 mq_2 86 (.goto (Int.ofNat 4), 3, 0, 0, 0) := ⟨m_2, by decide +kernel⟩
theorem f_2_89 : nF 2 mq_2 89 (.iconst (Int.ofNat 0), 1, 0, 0, 0) := ⟨m_2, by decide +kernel⟩
theorem f_2_90 : nF 2 mq_2 90 (.istore 12, 2, 0, 0, 0) := ⟨m_2, by decide +kernel⟩
theorem f_2_92 : nF 2 mq_2 92 (.iinc 13 (Int.ofNat 1), 3, 0, 0, 0) := ⟨m_2, by decide +kernel⟩
theorem f_2_95 : nF 2 mq_2 95 (.goto (Int.negSucc 74), 3, 0, 0, 0) := ⟨m_2, by decide +kernel⟩
theorem f_2_98 : nF 2 mq_2 98 (.iload 11, 2, 0, 0, 0) := ⟨m_2, by decide +kernel⟩
theorem f_2_100 : nF 2 mq_2 100 (.aload_n 1, 1, 0, 0, 0) := ⟨m_2, by decide +kernel⟩
theorem f_2_101 : nF 2 mq_2 101 (.iconst (Int.ofNat 2), 1, 0, 0, 0) := ⟨m_2, by decide +kernel⟩
theorem f_2_102 : nF 2 mq_2 102 (.iaload, 1, 0, 0, 0) := ⟨m_2, by decide +kernel⟩
theorem f_2_103 : nF 2 mq_2 103 (.irem, 1, 0, 0, 0) := ⟨m_2, by decide +kernel⟩
theorem f_2_104 : nF 2 mq_2 104 (.istore 13, 2, 0, 0, 0) := ⟨m_2, by decide +kernel⟩
theorem f_2_106 : nF 2 mq_2 106 (.iload 11, 2, 0, 0, 0) := ⟨m_2, by decide +kernel⟩
theorem f_2_108 : nF 2 mq_2 108 (.iconst (Int.ofNat 3), 1, 0, 0, 0) := ⟨m_2, by decide +kernel⟩
theorem f_2_109 : nF 2 mq_2 109 (.idiv, 1, 0, 0, 0) := ⟨m_2, by decide +kernel⟩
theorem f_2_110 : nF 2 mq_2 110 (.aload_n 1, 1, 0, 0, 0) := ⟨m_2, by decide +kernel⟩
theorem f_2_111 : nF 2 mq_2 111 (.iconst (Int.ofNat 3), 1, 0, 0, 0) := ⟨m_2, by decide +kernel⟩
theorem f_2_112 : nF 2 mq_2 112 (.iaload, 1, 0, 0, 0) := ⟨m_2, by decide +kernel⟩
theorem f_2_113 : nF 2 mq_2 113 (.irem, 1, 0, 0, 0) := ⟨m_2, by decide +kernel⟩
theorem f_2_114 : nF 2 mq_2 114 (.istore 14, 2, 0, 0, 0) := ⟨m_2, by decide +kernel⟩
theorem f_2_116 : nF 2 mq_2 116 (.iload 11, 2, 0, 0, 0) := ⟨m_2, by decide +kernel⟩
theorem f_2_118 : nF 2 mq_2 118 (.bipush (Int.ofNat 18), 2, 0, 0, 0) := ⟨m_2, by decide +kernel⟩
theorem f_2_120 : nF 2 mq_2 120 (.idiv, 1, 0, 0, 0) := ⟨m_2, by decide +kernel⟩
theorem f_2_121 : nF 2 mq_2 121 (.aload_n 1, 1, 0, 0, 0) := ⟨m_2, by decide +kernel⟩
theorem f_2_122 : nF 2 mq_2 122 (.iconst (Int.ofNat 3), 1, 0, 0, 0) := ⟨m_2, by decide +kernel⟩
theorem f_2_123 : nF 2 mq_2 123 (.iaload, 1, 0, 0, 0) := ⟨m_2, by decide +kernel⟩
theorem f_2_124 : nF 2 mq_2 124 (.irem, 1, 0, 0, 0) := ⟨m_2, by decide +kernel⟩
theorem f_2_125 : nF 2 mq_2 125 (.istore 15, 2, 0, 0, 0) := ⟨m_2, by decide +kernel⟩
theorem f_2_127 : nF 2 mq_2 127 (.iload 12, 2, 0, 0, 0) := ⟨m_2, by decide +kernel⟩
theorem f_2_129 : nF 2 mq_2 129 (.ifCond .eq (Int.ofNat 184), 3, 0, 0, 0) := ⟨m_2, by decide +kernel⟩
theorem f_2_132 : nF 2 mq_2 132 (.aload_n 0, 1, 0, 0, 0) := ⟨m_2, by decide +kernel⟩
theorem f_2_133 : nF 2 mq_2 133 (.iconst (Int.negSucc 0), 1, 0, 0, 0) := ⟨m_2, by decide +kernel⟩
theorem f_2_134 : nF 2 mq_2 134 (.iload 13, 2, 0, 0, 0) := ⟨m_2, by decide +kernel⟩
theorem f_2_136 : nF 2 mq_2 136 (.isub, 1, 0, 0, 0) := ⟨m_2, by decide +kernel⟩
theorem f_2_137 : nF 2 mq_2 137 (.aload_n 1, 1, 0, 0, 0) := ⟨m_2, by decide +kernel⟩
theorem f_2_138 : nF 2 mq_2 138 (.aload_n 2, 1, 0, 0, 0) := ⟨m_2, by decide +kernel⟩
theorem f_2_139 : nF 2 mq_2 139 (.aload_n 3, 1, 0, 0, 0) := ⟨m_2, by decide +kernel⟩
theorem f_2_140 : nF 2 mq_2 140 (.bipush (Int.ofNat 10), 2, 0, 0, 0) := ⟨m_2, by decide +kernel⟩
theorem f_2_142 : nF 2 mq_2 142 (.iload 13, 2, 0, 0, 0) := ⟨m_2, by decide +kernel⟩
theorem f_2_144 : nF 2 mq_2 144 (.imul, 1, 0, 0, 0) := ⟨m_2, by decide +kernel⟩
theorem f_2_145 : nF 2 mq_2 145 (.aload 8, 2, 0, 0, 0) := ⟨m_2, by decide +kernel⟩
theorem f_2_147 : nF 2 mq_2 147 (.aload 9, 2, 0, 0, 0) := ⟨m_2, by decide +kernel⟩
theorem f_2_149 : nF 2 mq_2 149 (.iload 11, 2, 0, 0, 0) := ⟨m_2, by decide +kernel⟩
theorem f_2_151 : nF 2 mq_2 151 (.invokestatic 161, 3, 31, 0, 9) := ⟨m_2, by decide +kernel⟩
theorem f_2_154 : nF 2 mq_2 154 (.ifCond .eq (Int.ofNat 159), 3, 0, 0, 0) := ⟨m_2, by decide +kernel⟩
theorem f_2_157 : nF 2 mq_2 157 (.aload_n 0, 1, 0, 0, 0) := ⟨m_2, by decide +kernel⟩
theorem f_2_158 : nF 2 mq_2 158 (.iload 14, 2, 0, 0, 0) := ⟨m_2, by decide +kernel⟩
theorem f_2_160 : nF 2 mq_2 160 (.aload_n 1, 1, 0, 0, 0) := ⟨m_2, by decide +kernel⟩
theorem f_2_161 : nF 2 mq_2 161 (.aload 5, 2, 0, 0, 0) := ⟨m_2, by decide +kernel⟩
theorem f_2_163 : nF 2 mq_2 163 (.aload 6, 2, 0, 0, 0) := ⟨m_2, by decide +kernel⟩
theorem f_2_165 : nF 2 mq_2 165 (.bipush (Int.ofNat 10), 2, 0, 0, 0) := ⟨m_2, by decide +kernel⟩
theorem f_2_167 : nF 2 mq_2 167 (.iload 14, 2, 0, 0, 0) := ⟨m_2, by decide +kernel⟩
theorem f_2_169 : nF 2 mq_2 169 (.imul, 1, 0, 0, 0) := ⟨m_2, by decide +kernel⟩
theorem f_2_170 : nF 2 mq_2 170 (.aload 8, 2, 0, 0, 0) := ⟨m_2, by decide +kernel⟩
theorem f_2_172 : nF 2 mq_2 172 (.aload 9, 2, 0, 0, 0) := ⟨m_2, by decide +kernel⟩
theorem f_2_174 : nF 2 mq_2 174 (.iload 11, 2, 0, 0, 0) := ⟨m_2, by decide +kernel⟩
theorem f_2_176 : nF 2 mq_2 176 (.iconst (Int.ofNat 5), 1, 0, 0, 0) := ⟨m_2, by decide +kernel⟩
theorem f_2_177 : nF 2 mq_2 177 (.idiv, 1, 0, 0, 0) := ⟨m_2, by decide +kernel⟩
theorem f_2_178 : nF 2 mq_2 178 (.invokestatic 161, 3, 31, 0, 9) := ⟨m_2, by decide +kernel⟩
theorem f_2_181 : nF 2 mq_2 181 (.ifCond .eq (Int.ofNat 132), 3, 0, 0, 0) := ⟨m_2, by decide +kernel⟩
theorem f_2_184 : nF 2 mq_2 184 (.iload 11, 2, 0, 0, 0) := ⟨m_2, by decide +kernel⟩
theorem f_2_186 : nF 2 mq_2 186 (.iconst (Int.ofNat 2), 1, 0, 0, 0) := ⟨m_2, by decide +kernel⟩
theorem f_2_187 : nF 2 mq_2 187 (.irem, 1, 0, 0, 0) := ⟨m_2, by decide +kernel⟩
theorem f_2_188 : nF 2 mq_2 188 (.ifCond .ne (Int.ofNat 40), 3, 0, 0, 0) := ⟨m_2, by decide +kernel⟩
theorem f_2_191 : nF 2 mq_2 191 (.aload_n 0, 1, 0, 0, 0) := ⟨m_2, by decide +kernel⟩
theorem f_2_192 : nF 2 mq_2 192 (.iconst (Int.negSucc 0), 1, 0, 0, 0) := ⟨m_2, by decide +kernel⟩
theorem f_2_193 : nF 2 mq_2 193 (.iload 13, 2, 0, 0, 0) := ⟨m_2, by decide +kernel⟩
theorem f_2_195 : nF 2 mq_2 195 (.isub, 1, 0, 0, 0) := ⟨m_2, by decide +kernel⟩
theorem f_2_196 : nF 2 mq_2 196 (.iload 14, 2, 0, 0, 0) := ⟨m_2, by decide +kernel⟩
theorem f_2_198 : nF 2 mq_2 198 (.aload_n 1, 1, 0, 0, 0) := ⟨m_2, by decide +kernel⟩
theorem f_2_199 : nF 2 mq_2 199 (.aload_n 2, 1, 0, 0, 0) := ⟨m_2, by decide +kernel⟩
theorem f_2_200 : nF 2 mq_2 200 (.aload_n 3, 1, 0, 0, 0) := ⟨m_2, by decide +kernel⟩
theorem f_2_201 : nF 2 mq_2 201 (.aload 4, 2, 0, 0, 0) := ⟨m_2, by decide +kernel⟩
theorem f_2_203 : nF 2 mq_2 203 (.bipush (Int.ofNat 10), 2, 0, 0, 0) := ⟨m_2, by decide +kernel⟩
theorem f_2_205 : nF 2 mq_2 205 (.iload 13, 2, 0, 0, 0) := ⟨m_2, by decide +kernel⟩
theorem f_2_207 : nF 2 mq_2 207 (.imul, 1, 0, 0, 0) := ⟨m_2, by decide +kernel⟩
theorem f_2_208 : nF 2 mq_2 208 (.aload 5, 2, 0, 0, 0) := ⟨m_2, by decide +kernel⟩
theorem f_2_210 : nF 2 mq_2 210 (.aload 6, 2, 0, 0, 0) := ⟨m_2, by decide +kernel⟩
theorem f_2_212 : nF 2 mq_2 212 (.aload 7, 2, 0, 0, 0) := ⟨m_2, by decide +kernel⟩
theorem f_2_214 : nF 2 mq_2 214 (.bipush (Int.ofNat 10), 2, 0, 0, 0) := ⟨m_2, by decide +kernel⟩
theorem f_2_216 : nF 2 mq_2 216 (.iload 14, 2, 0, 0, 0) := ⟨m_2, by decide +kernel⟩
theorem f_2_218 : nF 2 mq_2 218 (.imul, 1, 0, 0, 0) := ⟨m_2, by decide +kernel⟩
theorem f_2_219 : nF 2 mq_2 219 (.invokestatic 165, 3, 14, 0, 12) := ⟨m_2, by decide +kernel⟩
theorem f_2_222 : nF 2 mq_2 222 (.ifCond .eq (Int.ofNat 91), 3, 0, 0, 0) := ⟨m_2, by decide +kernel⟩
theorem f_2_225 : nF 2 mq_2 225 (.goto (Int.ofNat 37), 3, 0, 0, 0) := ⟨m_2, by decide +kernel⟩
theorem f_2_228 : nF 2 mq_2 228 (.aload_n 0, 1, 0, 0, 0) := ⟨m_2, by decide +kernel⟩
theorem f_2_229 : nF 2 mq_2 229 (.iload 15, 2, 0, 0, 0) := ⟨m_2, by decide +kernel⟩
theorem f_2_231 : nF 2 mq_2 231 (.iload 14, 2, 0, 0, 0) := ⟨m_2, by decide +kernel⟩
theorem f_2_233 : nF 2 mq_2 233 (.aload_n 1, 1, 0, 0, 0) := ⟨m_2, by decide +kernel⟩
theorem f_2_234 : nF 2 mq_2 234 (.aload 5, 2, 0, 0, 0) := ⟨m_2, by decide +kernel⟩
theorem f_2_236 : nF 2 mq_2 236 (.aload 6, 2, 0, 0, 0) := ⟨m_2, by decide +kernel⟩
theorem f_2_238 : nF 2 mq_2 238 (.aload 7, 2, 0, 0, 0) := ⟨m_2, by decide +kernel⟩
theorem f_2_240 : nF 2 mq_2 240 (.bipush (Int.ofNat 10), 2, 0, 0, 0) := ⟨m_2, by decide +kernel⟩
theorem f_2_242 : nF 2 mq_2 242 (.iload 15, 2, 0, 0, 0) := ⟨m_2, by decide +kernel⟩
theorem f_2_244 : nF 2 mq_2 244 (.imul, 1, 0, 0, 0) := ⟨m_2, by decide +kernel⟩
theorem f_2_245 : nF 2 mq_2 245 (.aload 5, 2, 0, 0, 0) := ⟨m_2, by decide +kernel⟩
theorem f_2_247 : nF 2 mq_2 247 (.aload 6, 2, 0, 0, 0) := ⟨m_2, by decide +kernel⟩
theorem f_2_249 : nF 2 mq_2 249 (.aload 7, 2, 0, 0, 0) := ⟨m_2, by decide +kernel⟩
theorem f_2_251 : nF 2 mq_2 251 (.bipush (Int.ofNat 10), 2, 0, 0, 0) := ⟨m_2, by decide +kernel⟩
theorem f_2_253 : nF 2 mq_2 253 (.iload 14, 2, 0, 0, 0) := ⟨m_2, by decide +kernel⟩
theorem f_2_255 : nF 2 mq_2 255 (.imul, 1, 0, 0, 0) := ⟨m_2, by decide +kernel⟩
theorem f_2_256 : nF 2 mq_2 256 (.invokestatic 165, 3, 14, 0, 12) := ⟨m_2, by decide +kernel⟩
theorem f_2_259 : nF 2 mq_2 259 (.ifCond .eq (Int.ofNat 54), 3, 0, 0, 0) := ⟨m_2, by decide +kernel⟩
theorem f_2_262 : nF 2 mq_2 262 (.aload_n 0, 1, 0, 0, 0) := ⟨m_2, by decide +kernel⟩
theorem f_2_263 : nF 2 mq_2 263 (.iload 14, 2, 0, 0, 0) := ⟨m_2, by decide +kernel⟩
theorem f_2_265 : nF 2 mq_2 265 (.iconst (Int.ofNat 0), 1, 0, 0, 0) := ⟨m_2, by decide +kernel⟩
theorem f_2_266 : nF 2 mq_2 266 (.invokevirtual 169, 3, 32, 1, 3) := ⟨m_2, by decide +kernel⟩
theorem f_2_269 : nF 2 mq_2 269 (.iload 14, 2, 0, 0, 0) := ⟨m_2, by decide +kernel⟩
theorem f_2_271 : nF 2 mq_2 271 (.ifCond .ne (Int.ofNat 7), 3, 0, 0, 0) := ⟨m_2, by decide +kernel⟩
theorem f_2_274 : nF 2 mq_2 274 (.iconst (Int.negSucc 0), 1, 0, 0, 0) := ⟨m_2, by decide +kernel⟩
theorem f_2_275 : nF 2 mq_2 275 (.goto (Int.ofNat 8), 3, 0, 0, 0) := ⟨m_2, by decide +kernel⟩
theorem f_2_278 : nF 2 mq_2 278 (.aload 10, 2, 0, 0, 0) := ⟨m_2, by decide +kernel⟩
theorem f_2_280 : nF 2 mq_2 280 (.iload 14, 2, 0, 0, 0) := ⟨m_2, by decide +kernel⟩
theorem f_2_282 : nF 2 mq_2 282 (.iaload, 1, 0, 0, 0) := ⟨m_2, by decide +kernel⟩
theorem f_2_283 : nF 2 mq_2 283 (.if_icmp .ne (Int.ofNat 30), 3, 0, 0, 0) := ⟨m_2, by decide +kernel⟩
theorem f_2_286 : nF 2 mq_2 286 (.aload_n 0, 1, 0, 0, 0) := ⟨m_2, by decide +kernel⟩
theorem f_2_287 : nF 2 mq_2 287 (.iload 14, 2, 0, 0, 0) := ⟨m_2, by decide +kernel⟩
theorem f_2_289 : nF 2 mq_2 289 (.iconst (Int.ofNat 1), 1, 0, 0, 0) := ⟨m_2, by decide +kernel⟩
theorem f_2_290 : nF 2 mq_2 290 (.invokevirtual 169, 3, 32, 1, 3) := ⟨m_2, by decide +kernel⟩
theorem f_2_293 : nF 2 mq_2 293 (.iconst (Int.negSucc 0), 1, 0, 0, 0) := ⟨m_2, by decide +kernel⟩
theorem f_2_294 : nF 2 mq_2 294 (.if_icmp .ne (Int.ofNat 19), 3, 0, 0, 0) := ⟨m_2, by decide +kernel⟩
theorem f_2_297 : nF 2 mq_2 297 (.aload_n 0, 1, 0, 0, 0) := ⟨m_2, by decide +kernel⟩
theorem f_2_298 : nF 2 mq_2 298 (.iload 14, 2, 0, 0, 0) := ⟨m_2, by decide +kernel⟩
theorem f_2_300 : nF 2 mq_2 300 (.iload 15, 2, 0, 0, 0) := ⟨m_2, by decide +kernel⟩
theorem f_2_302 : nF 2 mq_2 302 (.invokevirtual 172, 3, 33, 1, 3) := ⟨m_2, by decide +kernel⟩
theorem f_2_305 : nF 2 mq_2 305 (.iconst (Int.ofNat 1), 1, 0, 0, 0) := ⟨m_2, by decide +kernel⟩
theorem f_2_306 : nF 2 mq_2 306 (.if_icmp .ne (Int.ofNat 7), 3, 0, 0, 0) := ⟨m_2, by decide +kernel⟩
theorem f_2_309 : nF 2 mq_2 309 (.iconst (Int.ofNat 1), 1, 0, 0, 0) := ⟨m_2, by decide +kernel⟩
theorem f_2_310 : nF 2 mq_2 310 (.goto (Int.ofNat 4), 3, 0, 0, 0) := ⟨m_2, by decide +kernel⟩
theorem f_2_313 : nF 2 mq_2 313 (.iconst (Int.ofNat 0), 1, 0, 0, 0) := ⟨m_2, by decide +kernel⟩
theorem f_2_314 : nF 2 mq_2 314 (.istore 12, 2, 0, 0, 0) := ⟨m_2, by decide +kernel⟩
theorem f_2_316 : nF 2 mq_2 316 (.iload 12, 2, 0, 0, 0) := ⟨m_2, by decide +kernel⟩
theorem f_2_318 : nF 2 mq_2 318 (.ifCond .eq (Int.ofNat 87), 3, 0, 0, 0) := ⟨m_2, by decide +kernel⟩
theorem f_2_321 : nF 2 mq_2 321 (.iload 14, 2, 0, 0, 0) := ⟨m_2, by decide +kernel⟩
theorem f_2_323 : nF 2 mq_2 323 (.iload 15, 2, 0, 0, 0) := ⟨m_2, by decide +kernel⟩
theorem f_2_325 : nF 2 mq_2 325 (.if_icmp .eq (Int.ofNat 15), 3, 0, 0, 0) := ⟨m_2, by decide +kernel⟩
theorem f_2_328 : nF 2 mq_2 328 (.aload 10, 2, 0, 0, 0) := ⟨m_2, by decide +kernel⟩
theorem f_2_330 : nF 2 mq_2 330 (.iload 14, 2, 0, 0, 0) := ⟨m_2, by decide +kernel⟩
theorem f_2_332 : nF 2 mq_2 332 (.iload 15, 2, 0, 0, 0) := ⟨m_2, by decide +kernel⟩
theorem f_2_334 : nF 2 mq_2 334 (.invokestatic 175, 3, 17, 0, 3) := ⟨m_2, by decide +kernel⟩
theorem f_2_337 : nF 2 mq_2 337 (.ifCond .eq (Int.ofNat 68), 3, 0, 0, 0) := ⟨m_2, by decide +kernel⟩
theorem f_2_340 : nF 2 mq_2 340 (.aload_n 1, 1, 0, 0, 0) := ⟨m_2, by decide +kernel⟩
theorem f_2_341 : nF 2 mq_2 341 (.aload 5, 2, 0, 0, 0) := ⟨m_2, by decide +kernel⟩
theorem f_2_343 : nF 2 mq_2 343 (.aload 6, 2, 0, 0, 0) := ⟨m_2, by decide +kernel⟩
theorem f_2_345 : nF 2 mq_2 345 (.bipush (Int.ofNat 10), 2, 0, 0, 0) := ⟨m_2, by decide +kernel⟩
theorem f_2_347 : nF 2 mq_2 347 (.iload 15, 2, 0, 0, 0) := ⟨m_2, by decide +kernel⟩
theorem f_2_349 : nF 2 mq_2 349 (.imul, 1, 0, 0, 0) := ⟨m_2, by decide +kernel⟩
theorem f_2_350 : nF 2 mq_2 350 (.aload 8, 2, 0, 0, 0) := ⟨m_2, by decide +kernel⟩
theorem f_2_352 : nF 2 mq_2 352 (.aload 9, 2, 0, 0, 0) := ⟨m_2, by decide +kernel⟩
theorem f_2_354 : nF 2 mq_2 354 (.invokestatic 110, 3, 34, 0, 6) := ⟨m_2, by decide +kernel⟩
theorem f_2_357 : nF 2 mq_2 357 (.lstore 16, 2, 0, 0, 0) := ⟨m_2, by decide +kernel⟩
theorem f_2_359 : nF 2 mq_2 359 (.aload_n 0, 1, 0, 0, 0) := ⟨m_2, by decide +kernel⟩
theorem f_2_360 : nF 2 mq_2 360 (.iload 14, 2, 0, 0, 0) := ⟨m_2, by decide +kernel⟩
theorem f_2_362 : nF 2 mq_2 362 (.iload 15, 2, 0, 0, 0) := ⟨m_2, by decide +kernel⟩
theorem f_2_364 : nF 2 mq_2 364 (.invokevirtual 178, 3, 35, 1, 3) := ⟨m_2, by decide +kernel⟩
theorem f_2_367 : nF 2 mq_2 367 (.lload 16, 2, 0, 0, 0) := ⟨m_2, by decide +kernel⟩
theorem f_2_369 : nF 2 mq_2 369 (.lcmp, 1, 0, 0, 0) := ⟨m_2, by decide +kernel⟩
theorem f_2_370 : nF 2 mq_2 370 (.ifCond .ne (Int.ofNat 32), 3, 0, 0, 0) := ⟨m_2, by decide +kernel⟩
theorem f_2_373 : nF 2 mq_2 373 (.aload_n 0, 1, 0, 0, 0) := ⟨m_2, by decide +kernel⟩
theorem f_2_374 : nF 2 mq_2 374 (.iload 15, 2, 0, 0, 0) := ⟨m_2, by decide +kernel⟩
theorem f_2_376 : nF 2 mq_2 376 (.iload 14, 2, 0, 0, 0) := ⟨m_2, by decide +kernel⟩
theorem f_2_378 : nF 2 mq_2 378 (.invokevirtual 182, 3, 36, 1, 3) := ⟨m_2, by decide +kernel⟩
theorem f_2_381 : nF 2 mq_2 381 (.lload 16, 2, 0, 0, 0) := ⟨m_2, by decide +kernel⟩
theorem f_2_383 : nF 2 mq_2 383 (.lcmp, 1, 0, 0, 0) := ⟨m_2, by decide +kernel⟩
theorem f_2_384 : nF 2 mq_2 384 (.ifCond .ne (Int.ofNat 18), 3, 0, 0, 0) := ⟨m_2, by decide +kernel⟩
theorem f_2_387 : nF 2 mq_2 387 (.aload_n 0, 1, 0, 0, 0) := ⟨m_2, by decide +kernel⟩
theorem f_2_388 : nF 2 mq_2 388 (.iload 14, 2, 0, 0, 0) := ⟨m_2, by decide +kernel⟩
theorem f_2_390 : nF 2 mq_2 390 (.iload 15, 2, 0, 0, 0) := ⟨m_2, by decide +kernel⟩
theorem f_2_392 : nF 2 mq_2 392 (.invokevirtual 185, 3, 37, 1, 3) := ⟨m_2, by decide +kernel⟩
theorem f_2_395 : nF 2 mq_2 395 (.ifCond .ne (Int.ofNat 7), 3, 0, 0, 0) := ⟨m_2, by decide +kernel⟩
theorem f_2_398 : nF 2 mq_2 398 (.iconst (Int.ofNat 1), 1, 0, 0, 0) := ⟨m_2, by decide +kernel⟩
theorem f_2_399 : nF 2 mq_2 399 (.goto (Int.ofNat 4), 3, 0, 0, 0) := ⟨m_2, by decide +kernel⟩
theorem f_2_402 : nF 2 mq_2 402 (.iconst (Int.ofNat 0), 1, 0, 0, 0) := ⟨m_2, by decide +kernel⟩
theorem f_2_403 : nF 2 mq_2 403 (.istore 12, 2, 0, 0, 0) := ⟨m_2, by decide +kernel⟩
theorem f_2_405 : nF 2 mq_2 405 (.iload 12, 2, 0, 0, 0) := ⟨m_2, by decide +kernel⟩
theorem f_2_407 : nF 2 mq_2 407 (.ireturn, 1, 0, 0, 0) := ⟨m_2, by decide +kernel⟩
theorem f_3_0 : nF 3 mq_3 0 (.aload_n 0, 1, 0, 0, 0) := ⟨m_3, by decide +kernel⟩
theorem f_3_1 : nF 3 mq_3 1 (.iload_n 1, 1, 0, 0, 0) := ⟨m_3, by decide +kernel⟩
theorem f_3_2 : nF 3 mq_3 2 (.iload_n 2, 1, 0, 0, 0) := ⟨m_3, by decide +kernel⟩
theorem f_3_3 : nF 3 mq_3 3 (.iadd, 1, 0, 0, 0) := ⟨m_3, by decide +kernel⟩
theorem f_3_4 : nF 3 mq_3 4 (.iaload, 1, 0, 0, 0) := ⟨m_3, by decide +kernel⟩
theorem f_3_5 : nF 3 mq_3 5 (.bipush (Int.ofNat 16), 2, 0, 0, 0) := ⟨m_3, by decide +kernel⟩
theorem f_3_7 : nF 3 mq_3 7 (.irem, 1, 0, 0, 0) := ⟨m_3, by decide +kernel⟩
theorem f_3_8 : nF 3 mq_3 8 (.ifCond .le (Int.ofNat 7), 3, 0, 0, 0) := ⟨m_3, by decide +kernel⟩
theorem f_3_11 : nF 3 mq_3 11 (.iconst (Int.ofNat 1), 1, 0, 0, 0) := ⟨m_3, by decide +kernel⟩
theorem f_3_12 : nF 3 mq_3 12 (.goto (Int.ofNat 4), 3, 0, 0, 0) := ⟨m_3, by decide +kernel⟩
theorem f_3_15 : nF 3 mq_3 15 (.iconst (Int.ofNat 0), 1, 0, 0, 0) := ⟨m_3, by decide +kernel⟩
theorem f_3_16 : nF 3 mq_3 16 (.ireturn, 1, 0, 0, 0) := ⟨m_3, by decide +kernel⟩
theorem f_4_0 : nF 4 mq_4 0 (.iconst (Int.ofNat 0), 1, 0, 0, 0) := ⟨m_4, by decide +kernel⟩
theorem f_4_1 : nF 4 mq_4 1 (.istore 4, 2, 0, 0, 0) := ⟨m_4, by decide +kernel⟩
theorem f_4_3 : nF 4 mq_4 3 (.iconst (Int.ofNat 1), 1, 0, 0, 0) := ⟨m_4, by decide +kernel⟩
theorem f_4_4 : nF 4 mq_4 4 (.istore 5, 2, 0, 0, 0) := ⟨m_4, by decide +kernel⟩
theorem f_4_6 : nF 4 mq_4 6 (.iload 5, 2, 0, 0, 0) := ⟨m_4, by decide +kernel⟩
theorem f_4_8 : nF 4 mq_4 8 (.aload_n 0, 1, 0, 0, 0) := ⟨m_4, by decide +kernel⟩
theorem f_4_9 : nF 4 mq_4 9 (.iconst (Int.ofNat 0), 1, 0, 0, 0) := ⟨m_4, by decide +kernel⟩
theorem f_4_10 : nF 4 mq_4 10 (.iaload, 1, 0, 0, 0) := ⟨m_4, by decide +kernel⟩
theorem f_4_11 : nF 4 mq_4 11 (.if_icmp .ge (Int.ofNat 40), 3, 0, 0, 0) := ⟨m_4, by decide +kernel⟩
theorem f_4_14 : nF 4 mq_4 14 (.iload 4, 2, 0, 0, 0) := ⟨m_4, by decide +kernel⟩
theorem f_4_16 : nF 4 mq_4 16 (.aload_n 1, 1, 0, 0, 0) := ⟨m_4, by decide +kernel⟩
theorem f_4_17 : nF 4 mq_4 17 (.iload_n 2, 1, 0, 0, 0) := ⟨m_4, by decide +kernel⟩
theorem f_4_18 : nF 4 mq_4 18 (.iload 5, 2, 0, 0, 0) := ⟨m_4, by decide +kernel⟩
theorem f_4_20 : nF 4 mq_4 20 (.invokestatic 7, 3, 3, 0, 3) := ⟨m_4, by decide +kernel⟩
theorem f_4_23 : nF 4 mq_4 23 (.ifCond .eq (Int.ofNat 18), 3, 0, 0, 0) := ⟨m_4, by decide +kernel⟩
theorem f_4_26 : nF 4 mq_4 26 (.aload_n 1, 1, 0, 0, 0) := ⟨m_4, by decide +kernel⟩
theorem f_4_27 : nF 4 mq_4 27 (.iload_n 2, 1, 0, 0, 0) := ⟨m_4, by decide +kernel⟩
theorem f_4_28 : nF 4 mq_4 28 (.iload 5, 2, 0, 0, 0) := ⟨m_4, by decide +kernel⟩
theorem f_4_30 : nF 4 mq_4 30 (.invokestatic 13, 3, 7, 0, 3) := ⟨m_4, by decide +kernel⟩
theorem f_4_33 : nF 4 mq_4 33 (.iload_n 3, 1, 0, 0, 0) := ⟨m_4, by decide +kernel⟩
theorem f_4_34 : nF 4 mq_4 34 (.if_icmp .ne (Int.ofNat 7), 3, 0, 0, 0) := ⟨m_4, by decide +kernel⟩
theorem f_4_37 : nF 4 mq_4 37 (.iconst (Int.ofNat 1), 1, 0, 0, 0) := ⟨m_4, by decide +kernel⟩
theorem f_4_38 : nF 4 mq_4 38 (.goto (Int.ofNat 4), 3, 0, 0, 0) := ⟨m_4, by decide +kernel⟩
theorem f_4_41 : nF 4 mq_4 41 (.iconst (Int.ofNat 0), 1, 0, 0, 0) := ⟨m_4, by decide +kernel⟩
theorem f_4_42 : nF 4 mq_4 42 (.iadd, 1, 0, 0, 0) := ⟨m_4, by decide +kernel⟩
theorem f_4_43 : nF 4 mq_4 43 (.istore 4, 2, 0, 0, 0) := ⟨m_4, by decide +kernel⟩
theorem f_4_45 : nF 4 mq_4 45 (.iinc 5 (Int.ofNat 1), 3, 0, 0, 0) := ⟨m_4, by decide +kernel⟩
theorem f_4_48 : nF 4 mq_4 48 (.goto (Int.negSucc 41), 3, 0, 0, 0) := ⟨m_4, by decide +kernel⟩
theorem f_4_51 : nF 4 mq_4 51 (.iload 4, 2, 0, 0, 0) := ⟨m_4, by decide +kernel⟩
theorem f_4_53 : nF 4 mq_4 53 (.ireturn, 1, 0, 0, 0) := ⟨m_4, by decide +kernel⟩
theorem f_5_0 : nF 5 mq_5 0 (.bipush (Int.ofNat 10), 2, 0, 0, 0) := ⟨m_5, by decide +kernel⟩
theorem f_5_2 : nF 5 mq_5 2 (.newarray .int, 2, 0, 0, 0) := ⟨m_5, by decide +kernel⟩
theorem f_5_4 : nF 5 mq_5 4 (.astore 13, 2, 0, 0, 0) := ⟨m_5, by decide +kernel⟩
theorem f_5_6 : nF 5 mq_5 6 (.bipush (Int.ofNat 10), 2, 0, 0, 0) := ⟨m_5, by decide +kernel⟩
theorem f_5_8 : nF 5 mq_5 8 (.newarray .int, 2, 0, 0, 0) := ⟨m_5, by decide +kernel⟩
theorem f_5_10 : nF 5 mq_5 10 (.astore 14, 2, 0, 0, 0) := ⟨m_5, by decide +kernel⟩
theorem f_5_12 : nF 5 mq_5 12 (.bipush (Int.ofNat 10), 2, 0, 0, 0) := ⟨m_5, by decide +kernel⟩
theorem f_5_14 : nF 5 mq_5 14 (.newarray .int, 2, 0, 0, 0) := ⟨m_5, by decide +kernel⟩
theorem f_5_16 : nF 5 mq_5 16 (.astore 15, 2, 0, 0, 0) := ⟨m_5, by decide +kernel⟩
theorem f_5_18 : nF 5 mq_5 18 (.aload_n 1, 1, 0, 0, 0) := ⟨m_5, by decide +kernel⟩
theorem f_5_19 : nF 5 mq_5 19 (.iload 4, 2, 0, 0, 0) := ⟨m_5, by decide +kernel⟩
theorem f_5_21 : nF 5 mq_5 21 (.aload 13, 2, 0, 0, 0) := ⟨m_5, by decide +kernel⟩
theorem f_5_23 : nF 5 mq_5 23 (.iconst (Int.ofNat 0), 1, 0, 0, 0) := ⟨m_5, by decide +kernel⟩
theorem f_5_24 : nF 5 mq_5 24 (.invokestatic 188, 3, 12, 0, 4) := ⟨m_5, by decide +kernel⟩
theorem f_5_27 : nF 5 mq_5 27 (.aload_n 2, 1, 0, 0, 0) := ⟨m_5, by decide +kernel⟩
theorem f_5_28 : nF 5 mq_5 28 (.iload 4, 2, 0, 0, 0) := ⟨m_5, by decide +kernel⟩
theorem f_5_30 : nF 5 mq_5 30 (.aload 14, 2, 0, 0, 0) := ⟨m_5, by decide +kernel⟩
theorem f_5_32 : nF 5 mq_5 32 (.iconst (Int.ofNat 0), 1, 0, 0, 0) := ⟨m_5, by decide +kernel⟩
theorem f_5_33 : nF 5 mq_5 33 (.invokestatic 188, 3, 12, 0, 4) := ⟨m_5, by decide +kernel⟩
theorem f_5_36 : nF 5 mq_5 36 (.aload_n 3, 1, 0, 0, 0) := ⟨m_5, by decide +kernel⟩
theorem f_5_37 : nF 5 mq_5 37 (.iload 4, 2, 0, 0, 0) := ⟨m_5, by decide +kernel⟩
theorem f_5_39 : nF 5 mq_5 39 (.aload 15, 2, 0, 0, 0) := ⟨m_5, by decide +kernel⟩
theorem f_5_41 : nF 5 mq_5 41 (.iconst (Int.ofNat 0), 1, 0, 0, 0) := ⟨m_5, by decide +kernel⟩
theorem f_5_42 : nF 5 mq_5 42 (.invokestatic 188, 3, 12, 0, 4) := ⟨m_5, by decide +kernel⟩
theorem f_5_45 : nF 5 mq_5 45 (.aload_n 0, 1, 0, 0, 0) := ⟨m_5, by decide +kernel⟩
theorem f_5_46 : nF 5 mq_5 46 (.iconst (Int.ofNat 0), 1, 0, 0, 0) := ⟨m_5, by decide +kernel⟩
theorem f_5_47 : nF 5 mq_5 47 (.iaload, 1, 0, 0, 0) := ⟨m_5, by decide +kernel⟩
theorem f_5_48 : nF 5 mq_5 48 (.istore 16, 2, 0, 0, 0) := ⟨m_5, by decide +kernel⟩
theorem f_5_50 : nF 5 mq_5 50 (.aload_n 0, 1, 0, 0, 0) := ⟨m_5, by decide +kernel⟩
theorem f_5_51 : nF 5 mq_5 51 (.bipush (Int.ofNat 7), 2, 0, 0, 0) := ⟨m_5, by decide +kernel⟩
theorem f_5_53 : nF 5 mq_5 53 (.iaload, 1, 0, 0, 0) := ⟨m_5, by decide +kernel⟩
theorem f_5_54 : nF 5 mq_5 54 (.istore 17, 2, 0, 0, 0) := ⟨m_5, by decide +kernel⟩
theorem f_5_56 : nF 5 mq_5 56 (.iconst (Int.ofNat 0), 1, 0, 0, 0) := ⟨m_5, by decide +kernel⟩
theorem f_5_57 : nF 5 mq_5 57 (.istore 18, 2, 0, 0, 0) := ⟨m_5, by decide +kernel⟩
theorem f_5_59 : nF 5 mq_5 59 (.iload 7, 2, 0, 0, 0) := ⟨m_5, by decide +kernel⟩
theorem f_5_61 : nF 5 mq_5 61 (.ifCond .ne (Int.ofNat 95), 3, 0, 0, 0) := ⟨m_5, by decide +kernel⟩
theorem f_5_64 : nF 5 mq_5 64 (.aload_n 0, 1, 0, 0, 0) := ⟨m_5, by decide +kernel⟩
theorem f_5_65 : nF 5 mq_5 65 (.aload_n 1, 1, 0, 0, 0) := ⟨m_5, by decide +kernel⟩
theorem f_5_66 : nF 5 mq_5 66 (.iload 4, 2, 0, 0, 0) := ⟨m_5, by decide +kernel⟩
theorem f_5_68 : nF 5 mq_5 68 (.aload 5, 2, 0, 0, 0) := ⟨m_5, by decide +kernel⟩
theorem f_5_70 : nF 5 mq_5 70 (.iload 9, 2, 0, 0, 0) := ⟨m_5, by decide +kernel⟩
theorem f_5_72 : nF 5 mq_5 72 (.iload 10, 2, 0, 0, 0) := ⟨m_5, by decide +kernel⟩
theorem f_5_74 : nF 5 mq_5 74 (.invokestatic 192, 3, 38, 0, 6) := ⟨m_5, by decide +kernel⟩
theorem f_5_77 : nF 5 mq_5 77 (.istore 19, 2, 0, 0, 0) := ⟨m_5, by decide +kernel⟩
theorem f_5_79 : nF 5 mq_5 79 (.aload_n 0, 1, 0, 0, 0) := ⟨m_5, by decide +kernel⟩
theorem f_5_80 : nF 5 mq_5 80 (.aload_n 1, 1, 0, 0, 0) := ⟨m_5, by decide +kernel⟩
theorem f_5_81 : nF 5 mq_5 81 (.iload 4, 2, 0, 0, 0) := ⟨m_5, by decide +kernel⟩
theorem f_5_83 : nF 5 mq_5 83 (.iload 9, 2, 0, 0, 0) := ⟨m_5, by decide +kernel⟩
theorem f_5_85 : nF 5 mq_5 85 (.iload 19, 2, 0, 0, 0) := ⟨m_5, by decide +kernel⟩
theorem f_5_87 : nF 5 mq_5 87 (.iconst (Int.ofNat 1), 1, 0, 0, 0) := ⟨m_5, by decide +kernel⟩
theorem f_5_88 : nF 5 mq_5 88 (.invokestatic 195, 3, 39, 0, 6) := ⟨m_5, by decide +kernel⟩
theorem f_5_91 : nF 5 mq_5 91 (.aload_n 0, 1, 0, 0, 0) := ⟨m_5, by decide +kernel⟩
theorem f_5_92 : nF 5 mq_5 92 (.iconst (Int.ofNat 0), 1, 0, 0, 0) := ⟨m_5, by decide +kernel⟩
theorem f_5_93 : nF 5 mq_5 93 (.iaload, 1, 0, 0, 0) := ⟨m_5, by decide +kernel⟩
theorem f_5_94 : nF 5 mq_5 94 (.istore 18, 2, 0, 0, 0) := ⟨m_5, by decide +kernel⟩
theorem f_5_96 : nF 5 mq_5 96 (.aload_n 1, 1, 0, 0, 0) := ⟨m_5, by decide +kernel⟩
theorem f_5_97 : nF 5 mq_5 97 (.iload 4, 2, 0, 0, 0) := ⟨m_5, by decide +kernel⟩
theorem f_5_99 : nF 5 mq_5 99 (.iload 18, 2, 0, 0, 0) := ⟨m_5, by decide +kernel⟩
theorem f_5_101 : nF 5 mq_5 101 (.iadd, 1, 0, 0, 0) := ⟨m_5, by decide +kernel⟩
theorem f_5_102 : nF 5 mq_5 102 (.iload 9, 2, 0, 0, 0) := ⟨m_5, by decide +kernel⟩
theorem f_5_104 : nF 5 mq_5 104 (.iconst (Int.ofNat 2), 1, 0, 0, 0) := ⟨m_5, by decide +kernel⟩
theorem f_5_105 : nF 5 mq_5 105 (.iadd, 1, 0, 0, 0) := ⟨m_5, by decide +kernel⟩
theorem f_5_106 : nF 5 mq_5 106 (.bipush (Int.ofNat 16), 2, 0, 0, 0) := ⟨m_5, by decide +kernel⟩
theorem f_5_108 : nF 5 mq_5 108 (.iload 19, 2, 0, 0, 0) := ⟨m_5, by decide +kernel⟩
theorem f_5_110 : nF 5 mq_5 110 (.imul, 1, 0, 0, 0) := ⟨m_5, by decide +kernel⟩
theorem f_5_111 : nF 5 mq_5 111 (.iadd, 1, 0, 0, 0) := ⟨m_5, by decide +kernel⟩
theorem f_5_112 : nF 5 mq_5 112 (.sipush (Int.ofNat 256), 3, 0, 0, 0) := ⟨m_5, by decide +kernel⟩
theorem f_5_115 : nF 5 mq_5 115 (.iload 12, 2, 0, 0, 0) := ⟨m_5, by decide +kernel⟩
theorem f_5_117 : nF 5 mq_5 117 (.imul, 1, 0, 0, 0) := ⟨m_5, by decide +kernel⟩
theorem f_5_118 : nF 5 mq_5 118 (.iadd, 1, 0, 0, 0) := ⟨m_5, by decide +kernel⟩
theorem f_5_119 : nF 5 mq_5 119 (.iastore, 1, 0, 0, 0) := ⟨m_5, by decide +kernel⟩
theorem f_5_120 : nF 5 mq_5 120 (.aload 5, 2, 0, 0, 0) := ⟨m_5, by decide +kernel⟩
theorem f_5_122 : nF 5 mq_5 122 (.iload 18, 2, 0, 0, 0) := ⟨m_5, by decide +kernel⟩
theorem f_5_124 : nF 5 mq_5 124 (.iload 11, 2, 0, 0, 0) := ⟨m_5, by decide +kernel⟩
theorem f_5_126 : nF 5 mq_5 126 (.iastore, 1, 0, 0, 0) := ⟨m_5, by decide +kernel⟩
theorem f_5_127 : nF 5 mq_5 127 (.aload_n 3, 1, 0, 0, 0) := ⟨m_5, by decide +kernel⟩
theorem f_5_128 : nF 5 mq_5 128 (.iload 4, 2, 0, 0, 0) := ⟨m_5, by decide +kernel⟩
theorem f_5_130 : nF 5 mq_5 130 (.iload 18, 2, 0, 0, 0) := ⟨m_5, by decide +kernel⟩
theorem f_5_132 : nF 5 mq_5 132 (.iadd, 1, 0, 0, 0) := ⟨m_5, by decide +kernel⟩
theorem f_5_133 : nF 5 mq_5 133 (.aload_n 0, 1, 0, 0, 0) := ⟨m_5, by decide +kernel⟩
theorem f_5_134 : nF 5 mq_5 134 (.bipush (Int.ofNat 7), 2, 0, 0, 0) := ⟨m_5, by decide +kernel⟩
theorem f_5_136 : nF 5 mq_5 136 (.iaload, 1, 0, 0, 0) := ⟨m_5, by decide +kernel⟩
theorem f_5_137 : nF 5 mq_5 137 (.iastore, 1, 0, 0, 0) := ⟨m_5, by decide +kernel⟩
theorem f_5_138 : nF 5 mq_5 138 (.aload_n 0, 1, 0, 0, 0) := ⟨m_5, by decide +kernel⟩
theorem f_5_139 : nF 5 mq_5 139 (.iconst (Int.ofNat 0), 1, 0, 0, 0) := ⟨m_5, by decide +kernel⟩
theorem f_5_140 : nF 5 mq_5 140 (.dup2, 1, 0, 0, 0) := ⟨m_5, by decide +kernel⟩
theorem f_5_141 : nF 5 mq_5 141 (.iaload, 1, 0, 0, 0) := ⟨m_5, by decide +kernel⟩
theorem f_5_142 : nF 5 mq_5 142 (.iconst (Int.ofNat 1), 1, 0, 0, 0) := ⟨m_5, by decide +kernel⟩
theorem f_5_143 : nF 5 mq_5 143 (.iadd, 1, 0, 0, 0) := ⟨m_5, by decide +kernel⟩
theorem f_5_144 : nF 5 mq_5 144 (.iastore, 1, 0, 0, 0) := ⟨m_5, by decide +kernel⟩
theorem f_5_145 : nF 5 mq_5 145 (.aload_n 0, 1, 0, 0, 0) := ⟨m_5, by decide +kernel⟩
theorem f_5_146 : nF 5 mq_5 146 (.bipush (Int.ofNat 7), 2, 0, 0, 0) := ⟨m_5, by decide +kernel⟩
theorem f_5_148 : nF 5 mq_5 148 (.dup2, 1, 0, 0, 0) := ⟨m_5, by decide +kernel⟩
theorem f_5_149 : nF 5 mq_5 149 (.iaload, 1, 0, 0, 0) := ⟨m_5, by decide +kernel⟩
theorem f_5_150 : nF 5 mq_5 150 (.iconst (Int.ofNat 1), 1, 0, 0, 0) := ⟨m_5, by decide +kernel⟩
theorem f_5_151 : nF 5 mq_5 151 (.iadd, 1, 0, 0, 0) := ⟨m_5, by decide +kernel⟩
theorem f_5_152 : nF 5 mq_5 152 (.iastore, 1, 0, 0, 0) := ⟨m_5, by decide +kernel⟩
theorem f_5_153 : nF 5 mq_5 153 (.goto (Int.ofNat 336), 3, 0, 0, 0) := ⟨m_5, by decide +kernel⟩
theorem f_5_156 : nF 5 mq_5 156 (.iload 7, 2, 0, 0, 0) := ⟨m_5, by decide +kernel⟩
theorem f_5_158 : nF 5 mq_5 158 (.iconst (Int.ofNat 1), 1, 0, 0, 0) := ⟨m_5, by decide +kernel⟩
theorem f_5_159 : nF 5 mq_5 159 (.if_icmp .ne (Int.ofNat 158), 3, 0, 0, 0) := ⟨m_5, by decide +kernel⟩
theorem f_5_162 : nF 5 mq_5 162 (.iconst (Int.ofNat 0), 1, 0, 0, 0) := ⟨m_5, by decide +kernel⟩
theorem f_5_163 : nF 5 mq_5 163 (.istore 19, 2, 0, 0, 0) := ⟨m_5, by decide +kernel⟩
theorem f_5_165 : nF 5 mq_5 165 (.iconst (Int.ofNat 1), 1, 0, 0, 0) := ⟨m_5, by decide +kernel⟩
theorem f_5_166 : nF 5 mq_5 166 (.istore 20, 2, 0, 0, 0) := ⟨m_5, by decide +kernel⟩
theorem f_5_168 : nF 5 mq_5 168 (.iload 20, 2, 0, 0, 0) := ⟨m_5, by decide +kernel⟩
theorem f_5_170 : nF 5 mq_5 170 (.aload_n 0, 1, 0, 0, 0) := ⟨m_5, by decide +kernel⟩
theorem f_5_171 : nF 5 mq_5 171 (.iconst (Int.ofNat 0), 1, 0, 0, 0) := ⟨m_5, by decide +kernel⟩
theorem f_5_172 : nF 5 mq_5 172 (.iaload, 1, 0, 0, 0) := ⟨m_5, by decide +kernel⟩
theorem f_5_173 : nF 5 mq_5 173 (.if_icmp .ge (Int.ofNat 53), 3, 0, 0, 0) := ⟨m_5, by decide +kernel⟩
theorem f_5_176 : nF 5 mq_5 176 (.iload 19, 2, 0, 0, 0) := ⟨m_5, by decide +kernel⟩
theorem f_5_178 : nF 5 mq_5 178 (.aload_n 1, 1, 0, 0, 0) := ⟨m_5, by decide +kernel⟩
theorem f_5_179 : nF 5 mq_5 179 (.iload 4, 2, 0, 0, 0) := ⟨m_5, by decide +kernel⟩
theorem f_5_181 : nF 5 mq_5 181 (.iload 20, 2, 0, 0, 0) := ⟨m_5, by decide +kernel⟩
theorem f_5_183 : nF 5 mq_5 183 (.invokestatic 7, 3, 3, 0, 3) := ⟨m_5, by decide +kernel⟩
theorem f_5_186 : nF 5 mq_5 186 (.ifCond .eq (Int.ofNat 30), 3, 0, 0, 0) := ⟨m_5, by decide +kernel⟩
theorem f_5_189 : nF 5 mq_5 189 (.iload 20, 2, 0, 0, 0) := ⟨m_5, by decide +kernel⟩
theorem f_5_191 : nF 5 mq_5 191 (.iload 8, 2, 0, 0, 0) := ⟨m_5, by decide +kernel⟩
theorem f_5_193 : nF 5 mq_5 193 (.if_icmp .eq (Int.ofNat 16), 3, 0, 0, 0) := ⟨m_5, by decide +kernel⟩
theorem f_5_196 : nF 5 mq_5 196 (.aload_n 1, 1, 0, 0, 0) := ⟨m_5, by decide +kernel⟩
theorem f_5_197 : nF 5 mq_5 197 (.iload 4, 2, 0, 0, 0) := ⟨m_5, by decide +kernel⟩
theorem f_5_199 : nF 5 mq_5 199 (.iload 20, 2, 0, 0, 0) := ⟨m_5, by decide +kernel⟩
theorem f_5_201 : nF 5 mq_5 201 (.iload 8, 2, 0, 0, 0) := ⟨m_5, by decide +kernel⟩
theorem f_5_203 : nF 5 mq_5 203 (.invokestatic 199, 3, 8, 0, 4) := ⟨m_5, by decide +kernel⟩
theorem f_5_206 : nF 5 mq_5 206 (.ifCond .eq (Int.ofNat 10), 3, 0, 0, 0) := ⟨m_5, by decide +kernel⟩
theorem f_5_209 : nF 5 mq_5 209 (.iconst (Int.ofNat 1), 1, 0, 0, 0) := ⟨m_5, by decide +kernel⟩
theorem f_5_210 : nF 5 mq_5 210 (.iload 20, 2, 0, 0, 0) := ⟨m_5, by decide +kernel⟩
theorem f_5_212 : nF 5 mq_5 212 (.ishl, 1, 0, 0, 0) := ⟨m_5, by decide +kernel⟩
theorem f_5_213 : nF 5 mq_5 213 (.goto (Int.ofNat 4), 3, 0, 0, 0) := ⟨m_5, by decide +kernel⟩
theorem f_5_216 : nF 5 mq_5 216 (.iconst (Int.ofNat 0), 1, 0, 0, 0) := ⟨m_5, by decide +kernel⟩
theorem f_5_217 : nF 5 mq_5 217 (.ior, 1, 0, 0, 0) := ⟨m_5, by decide +kernel⟩
theorem f_5_218 : nF 5 mq_5 218 (.istore 19, 2, 0, 0, 0) := ⟨m_5, by decide +kernel⟩
theorem f_5_220 : nF 5 mq_5 220 (.iinc 20 (Int.ofNat 1), 3, 0, 0, 0) := ⟨m_5, by decide +kernel⟩
theorem f_5_223 : nF 5 mq_5 223 (.goto (Int.negSucc 54), 3, 0, 0, 0) := ⟨m_5, by decide +kernel⟩
theorem f_5_226 : nF 5 mq_5 226 (.aload_n 1, 1, 0, 0, 0) := ⟨m_5, by decide +kernel⟩
theorem f_5_227 : nF 5 mq_5 227 (.iload 4, 2, 0, 0, 0) := ⟨m_5, by decide +kernel⟩
theorem f_5_229 : nF 5 mq_5 229 (.iload 8, 2, 0, 0, 0) := ⟨m_5, by decide +kernel⟩
theorem f_5_231 : nF 5 mq_5 231 (.invokestatic 13, 3, 7, 0, 3) := ⟨m_5, by decide +kernel⟩
theorem f_5_234 : nF 5 mq_5 234 (.istore 20, 2, 0, 0, 0) := ⟨m_5, by decide +kernel⟩
theorem f_5_236 : nF 5 mq_5 236 (.aload_n 1, 1, 0, 0, 0) := ⟨m_5, by decide +kernel⟩
theorem f_5_237 : nF 5 mq_5 237 (.iload 4, 2, 0, 0, 0) := ⟨m_5, by decide +kernel⟩
theorem f_5_239 : nF 5 mq_5 239 (.iload 8, 2, 0, 0, 0) := ⟨m_5, by decide +kernel⟩
theorem f_5_241 : nF 5 mq_5 241 (.iadd, 1, 0, 0, 0) := ⟨m_5, by decide +kernel⟩
theorem f_5_242 : nF 5 mq_5 242 (.iaload, 1, 0, 0, 0) := ⟨m_5, by decide +kernel⟩
theorem f_5_243 : nF 5 mq_5 243 (.bipush (Int.ofNat 16), 2, 0, 0, 0) := ⟨m_5, by decide +kernel⟩
theorem f_5_245 : nF 5 mq_5 245 (.idiv, 1, 0, 0, 0) := ⟨m_5, by decide +kernel⟩
theorem f_5_246 : nF 5 mq_5 246 (.bipush (Int.ofNat 16), 2, 0, 0, 0) := ⟨m_5, by decide +kernel⟩
theorem f_5_248 : nF 5 mq_5 248 (.irem, 1, 0, 0, 0) := ⟨m_5, by decide +kernel⟩
theorem f_5_249 : nF 5 mq_5 249 (.istore 21, 2, 0, 0, 0) := ⟨m_5, by decide +kernel⟩
theorem f_5_251 : nF 5 mq_5 251 (.iconst (Int.ofNat 1), 1, 0, 0, 0) := ⟨m_5, by decide +kernel⟩
theorem f_5_252 : nF 5 mq_5 252 (.istore 22, 2, 0, 0, 0) := ⟨m_5, by decide +kernel⟩
theorem f_5_254 : nF 5 mq_5 254 (.iload 22, 2, 0, 0, 0) := ⟨m_5, by decide +kernel⟩
theorem f_5_256 : nF 5 mq_5 256 (.aload_n 0, 1, 0, 0, 0) := ⟨m_5, by decide +kernel⟩
theorem f_5_257 : nF 5 mq_5 257 (.iconst (Int.ofNat 0), 1, 0, 0, 0) := ⟨m_5, by decide +kernel⟩
theorem f_5_258 : nF 5 mq_5 258 (.iaload, 1, 0, 0, 0) := ⟨m_5, by decide +kernel⟩
theorem f_5_259 : nF 5 mq_5 259 (.if_icmp .ge (Int.ofNat 43), 3, 0, 0, 0) := ⟨m_5, by decide +kernel⟩
theorem f_5_262 : nF 5 mq_5 262 (.iload 19, 2, 0, 0, 0) := ⟨m_5, by decide +kernel⟩
theorem f_5_264 : nF 5 mq_5 264 (.iload 22, 2, 0, 0, 0) := ⟨m_5, by decide +kernel⟩
theorem f_5_266 : nF 5 mq_5 266 (.ishr, 1, 0, 0, 0) := ⟨m_5, by decide +kernel⟩
theorem f_5_267 : nF 5 mq_5 267 (.iconst (Int.ofNat 1), 1, 0, 0, 0) := ⟨m_5, by decide +kernel⟩
theorem f_5_268 : nF 5 mq_5 268 (.iand, 1, 0, 0, 0) := ⟨m_5, by decide +kernel⟩
theorem f_5_269 : nF 5 mq_5 269 (.iconst (Int.ofNat 1), 1, 0, 0, 0) := ⟨m_5, by decide +kernel⟩
theorem f_5_270 : nF 5 mq_5 270 (.if_icmp .ne (Int.ofNat 26), 3, 0, 0, 0) := ⟨m_5, by decide +kernel⟩
theorem f_5_273 : nF 5 mq_5 273 (.aload_n 0, 1, 0, 0, 0) := ⟨m_5, by decide +kernel⟩
theorem f_5_274 : nF 5 mq_5 274 (.aload_n 1, 1, 0, 0, 0) := ⟨m_5, by decide +kernel⟩
theorem f_5_275 : nF 5 mq_5 275 (.aload_n 2, 1, 0, 0, 0) := ⟨m_5, by decide +kernel⟩
theorem f_5_276 : nF 5 mq_5 276 (.iload 4, 2, 0, 0, 0) := ⟨m_5, by decide +kernel⟩
theorem f_5_278 : nF 5 mq_5 278 (.aload 6, 2, 0, 0, 0) := ⟨m_5, by decide +kernel⟩
theorem f_5_280 : nF 5 mq_5 280 (.iload 22, 2, 0, 0, 0) := ⟨m_5, by decide +kernel⟩
theorem f_5_282 : nF 5 mq_5 282 (.invokestatic 203, 3, 40, 0, 6) := ⟨m_5, by decide +kernel⟩
theorem f_5_285 : nF 5 mq_5 285 (.aload_n 3, 1, 0, 0, 0) := ⟨m_5, by decide +kernel⟩
theorem f_5_286 : nF 5 mq_5 286 (.iload 4, 2, 0, 0, 0) := ⟨m_5, by decide +kernel⟩
theorem f_5_288 : nF 5 mq_5 288 (.iload 22, 2, 0, 0, 0) := ⟨m_5, by decide +kernel⟩
theorem f_5_290 : nF 5 mq_5 290 (.iadd, 1, 0, 0, 0) := ⟨m_5, by decide +kernel⟩
theorem f_5_291 : nF 5 mq_5 291 (.iconst (Int.ofNat 0), 1, 0, 0, 0) := ⟨m_5, by decide +kernel⟩
theorem f_5_292 : nF 5 mq_5 292 (.iastore, 1, 0, 0, 0) := ⟨m_5, by decide +kernel⟩
theorem f_5_293 : nF 5 mq_5 293 (.iinc 18 (Int.ofNat 1), 3, 0, 0, 0) := ⟨m_5, by decide +kernel⟩
theorem f_5_296 : nF 5 mq_5 296 (.iinc 22 (Int.ofNat 1), 3, 0, 0, 0) := ⟨m_5, by decide +kernel⟩
theorem f_5_299 : nF 5 mq_5 299 (.goto (Int.negSucc 44), 3, 0, 0, 0) := ⟨m_5, by decide +kernel⟩
theorem f_5_302 : nF 5 mq_5 302 (.aload_n 0, 1, 0, 0, 0) := ⟨m_5, by decide +kernel⟩
theorem f_5_303 : nF 5 mq_5 303 (.aload_n 1, 1, 0, 0, 0) := ⟨m_5, by decide +kernel⟩
theorem f_5_304 : nF 5 mq_5 304 (.iload 4, 2, 0, 0, 0) := ⟨m_5, by decide +kernel⟩
theorem f_5_306 : nF 5 mq_5 306 (.iload 20, 2, 0, 0, 0) := ⟨m_5, by decide +kernel⟩
theorem f_5_308 : nF 5 mq_5 308 (.iload 21, 2, 0, 0, 0) := ⟨m_5, by decide +kernel⟩
theorem f_5_310 : nF 5 mq_5 310 (.iconst (Int.negSucc 0), 1, 0, 0, 0) := ⟨m_5, by decide +kernel⟩
theorem f_5_311 : nF 5 mq_5 311 (.invokestatic 195, 3, 39, 0, 6) := ⟨m_5, by decide +kernel⟩
theorem f_5_314 : nF 5 mq_5 314 (.goto (Int.ofNat 175), 3, 0, 0, 0) := ⟨m_5, by decide +kernel⟩
theorem f_5_317 : nF 5 mq_5 317 (.iload 7, 2, 0, 0, 0) := ⟨m_5, by decide +kernel⟩
theorem f_5_319 : nF 5 mq_5 319 (.iconst (Int.ofNat 2), 1, 0, 0, 0) := ⟨m_5, by decide +kernel⟩
theorem f_5_320 : nF 5 mq_5 320 (.if_icmp .ne (Int.ofNat 134), 3, 0, 0, 0) := ⟨m_5, by decide +kernel⟩
theorem f_5_323 : nF 5 mq_5 323 (.aload_n 1, 1, 0, 0, 0) := ⟨m_5, by decide +kernel⟩
theorem f_5_324 : nF 5 mq_5 324 (.iload 4, 2, 0, 0, 0) := ⟨m_5, by decide +kernel⟩
theorem f_5_326 : nF 5 mq_5 326 (.iload 8, 2, 0, 0, 0) := ⟨m_5, by decide +kernel⟩
theorem f_5_328 : nF 5 mq_5 328 (.iadd, 1, 0, 0, 0) := ⟨m_5, by decide +kernel⟩
theorem f_5_329 : nF 5 mq_5 329 (.iaload, 1, 0, 0, 0) := ⟨m_5, by decide +kernel⟩
theorem f_5_330 : nF 5 mq_5 330 (.sipush (Int.ofNat 256), 3, 0, 0, 0) := ⟨m_5, by decide +kernel⟩
theorem f_5_333 : nF 5 mq_5 333 (.idiv, 1, 0, 0, 0) := ⟨m_5, by decide +kernel⟩
theorem f_5_334 : nF 5 mq_5 334 (.sipush (Int.ofNat 256), 3, 0, 0, 0) := ⟨m_5, by decide +kernel⟩
theorem f_5_337 : nF 5 mq_5 337 (.imul, 1, 0, 0, 0) := ⟨m_5, by decide +kernel⟩
theorem f_5_338 : nF 5 mq_5 338 (.istore 19, 2, 0, 0, 0) := ⟨m_5, by decide +kernel⟩
theorem f_5_340 : nF 5 mq_5 340 (.aload_n 1, 1, 0, 0, 0) := ⟨m_5, by decide +kernel⟩
theorem f_5_341 : nF 5 mq_5 341 (.iload 4, 2, 0, 0, 0) := ⟨m_5, by decide +kernel⟩
theorem f_5_343 : nF 5 mq_5 343 (.iload 8, 2, 0, 0, 0) := ⟨m_5, by decide +kernel⟩
theorem f_5_345 : nF 5 mq_5 345 (.invokestatic 13, 3, 7, 0, 3) := ⟨m_5, by decide +kernel⟩
theorem f_5_348 : nF 5 mq_5 348 (.istore 20, 2, 0, 0, 0) := ⟨m_5, by decide +kernel⟩
theorem f_5_350 : nF 5 mq_5 350 (.aload_n 1, 1, 0, 0, 0) := ⟨m_5, by decide +kernel⟩
theorem f_5_351 : nF 5 mq_5 351 (.iload 4, 2, 0, 0, 0) := ⟨m_5, by decide +kernel⟩
theorem f_5_353 : nF 5 mq_5 353 (.iload 8, 2, 0, 0, 0) := ⟨m_5, by decide +kernel⟩
theorem f_5_355 : nF 5 mq_5 355 (.iadd, 1, 0, 0, 0) := ⟨m_5, by decide +kernel⟩
theorem f_5_356 : nF 5 mq_5 356 (.iaload, 1, 0, 0, 0) := ⟨m_5, by decide +kernel⟩
theorem f_5_357 : nF 5 mq_5 357 (.bipush (Int.ofNat 16), 2, 0, 0, 0) := ⟨m_5, by decide +kernel⟩
theorem f_5_359 : nF 5 mq_5 359 (.idiv, 1, 0, 0, 0) := ⟨m_5, by decide +kernel⟩
theorem f_5_360 : nF 5 mq_5 360 (.bipush (Int.ofNat 16), 2, 0, 0, 0) := ⟨m_5, by decide +kernel⟩
theorem f_5_362 : nF 5 mq_5 362 (.irem, 1, 0, 0, 0) := ⟨m_5, by decide +kernel⟩
theorem f_5_363 : nF 5 mq_5 363 (.istore 21, 2, 0, 0, 0) := ⟨m_5, by decide +kernel⟩
theorem f_5_365 : nF 5 mq_5 365 (.aload_n 1, 1, 0, 0, 0) := ⟨m_5, by decide +kernel⟩
theorem f_5_366 : nF 5 mq_5 366 (.iload 4, 2, 0, 0, 0) := ⟨m_5, by decide +kernel⟩
theorem f_5_368 : nF 5 mq_5 368 (.iload 8, 2, 0, 0, 0) := ⟨m_5, by decide +kernel⟩
theorem f_5_370 : nF 5 mq_5 370 (.iadd, 1, 0, 0, 0) := ⟨m_5, by decide +kernel⟩
theorem f_5_371 : nF 5 mq_5 371 (.iconst (Int.ofNat 0), 1, 0, 0, 0) := ⟨m_5, by decide +kernel⟩
theorem f_5_372 : nF 5 mq_5 372 (.iastore, 1, 0, 0, 0) := ⟨m_5, by decide +kernel⟩
theorem f_5_373 : nF 5 mq_5 373 (.aload_n 0, 1, 0, 0, 0) := ⟨m_5, by decide +kernel⟩
theorem f_5_374 : nF 5 mq_5 374 (.aload_n 1, 1, 0, 0, 0) := ⟨m_5, by decide +kernel⟩
theorem f_5_375 : nF 5 mq_5 375 (.iload 4, 2, 0, 0, 0) := ⟨m_5, by decide +kernel⟩
theorem f_5_377 : nF 5 mq_5 377 (.iload 20, 2, 0, 0, 0) := ⟨m_5, by decide +kernel⟩
theorem f_5_379 : nF 5 mq_5 379 (.iload 21, 2, 0, 0, 0) := ⟨m_5, by decide +kernel⟩
theorem f_5_381 : nF 5 mq_5 381 (.iconst (Int.negSucc 0), 1, 0, 0, 0) := ⟨m_5, by decide +kernel⟩
theorem f_5_382 : nF 5 mq_5 382 (.invokestatic 195, 3, 39, 0, 6) := ⟨m_5, by decide +kernel⟩
theorem f_5_385 : nF 5 mq_5 385 (.aload_n 0, 1, 0, 0, 0) := ⟨m_5, by decide +kernel⟩
theorem f_5_386 : nF 5 mq_5 386 (.aload_n 1, 1, 0, 0, 0) := ⟨m_5, by decide +kernel⟩
theorem f_5_387 : nF 5 mq_5 387 (.iload 4, 2, 0, 0, 0) := ⟨m_5, by decide +kernel⟩
theorem f_5_389 : nF 5 mq_5 389 (.aload 5, 2, 0, 0, 0) := ⟨m_5, by decide +kernel⟩
theorem f_5_391 : nF 5 mq_5 391 (.iload 9, 2, 0, 0, 0) := ⟨m_5, by decide +kernel⟩
theorem f_5_393 : nF 5 mq_5 393 (.iload 10, 2, 0, 0, 0) := ⟨m_5, by decide +kernel⟩
theorem f_5_395 : nF 5 mq_5 395 (.invokestatic 192, 3, 38, 0, 6) := ⟨m_5, by decide +kernel⟩
theorem f_5_398 : nF 5 mq_5 398 (.istore 21, 2, 0, 0, 0) := ⟨m_5, by decide +kernel⟩
theorem f_5_400 : nF 5 mq_5 400 (.aload_n 0, 1, 0, 0, 0) := ⟨m_5, by decide +kernel⟩
theorem f_5_401 : nF 5 mq_5 401 (.aload_n 1, 1, 0, 0, 0) := ⟨m_5, by decide +kernel⟩
theorem f_5_402 : nF 5 mq_5 402 (.iload 4, 2, 0, 0, 0) := ⟨m_5, by decide +kernel⟩
theorem f_5_404 : nF 5 mq_5 404 (.iload 9, 2, 0, 0, 0) := ⟨m_5, by decide +kernel⟩
theorem f_5_406 : nF 5 mq_5 406 (.iload 21, 2, 0, 0, 0) := ⟨m_5, by decide +kernel⟩
theorem f_5_408 : nF 5 mq_5 408 (.iconst (Int.ofNat 1), 1, 0, 0, 0) := ⟨m_5, by decide +kernel⟩
theorem f_5_409 : nF 5 mq_5 409 (.invokestatic 195, 3, 39, 0, 6) := ⟨m_5, by decide +kernel⟩
theorem f_5_412 : nF 5 mq_5 412 (.aload_n 1, 1, 0, 0, 0) := ⟨m_5, by decide +kernel⟩
theorem f_5_413 : nF 5 mq_5 413 (.iload 4, 2, 0, 0, 0) := ⟨m_5, by decide +kernel⟩
theorem f_5_415 : nF 5 mq_5 415 (.iload 8, 2, 0, 0, 0) := ⟨m_5, by decide +kernel⟩
theorem f_5_417 : nF 5 mq_5 417 (.iadd, 1, 0, 0, 0) := ⟨m_5, by decide +kernel⟩
theorem f_5_418 : nF 5 mq_5 418 (.iload 19, 2, 0, 0, 0) := ⟨m_5, by decide +kernel⟩
theorem f_5_420 : nF 5 mq_5 420 (.iload 9, 2, 0, 0, 0) := ⟨m_5, by decide +kernel⟩
theorem f_5_422 : nF 5 mq_5 422 (.iadd, 1, 0, 0, 0) := ⟨m_5, by decide +kernel⟩
theorem f_5_423 : nF 5 mq_5 423 (.iconst (Int.ofNat 2), 1, 0, 0, 0) := ⟨m_5, by decide +kernel⟩
theorem f_5_424 : nF 5 mq_5 424 (.iadd, 1, 0, 0, 0) := ⟨m_5, by decide +kernel⟩
theorem f_5_425 : nF 5 mq_5 425 (.bipush (Int.ofNat 16), 2, 0, 0, 0) := ⟨m_5, by decide +kernel⟩
theorem f_5_427 : nF 5 mq_5 427 (.iload 21, 2, 0, 0, 0) := ⟨m_5, by decide +kernel⟩
theorem f_5_429 : nF 5 mq_5 429 (.imul, 1, 0, 0, 0) := ⟨m_5, by decide +kernel⟩
theorem f_5_430 : nF 5 mq_5 430 (.iadd, 1, 0, 0, 0) := ⟨m_5, by decide +kernel⟩
theorem f_5_431 : nF 5 mq_5 431 (.iastore, 1, 0, 0, 0) := ⟨m_5, by decide +kernel⟩
theorem f_5_432 : nF 5 mq_5 432 (.aload_n 3, 1, 0, 0, 0) := ⟨m_5, by decide +kernel⟩
theorem f_5_433 : nF 5 mq_5 433 (.iload 4, 2, 0, 0, 0) := ⟨m_5, by decide +kernel⟩
theorem f_5_435 : nF 5 mq_5 435 (.iload 8, 2, 0, 0, 0) := ⟨m_5, by decide +kernel⟩
theorem f_5_437 : nF 5 mq_5 437 (.iadd, 1, 0, 0, 0) := ⟨m_5, by decide +kernel⟩
theorem f_5_438 : nF 5 mq_5 438 (.aload_n 0, 1, 0, 0, 0) := ⟨m_5, by decide +kernel⟩
theorem f_5_439 : nF 5 mq_5 439 (.bipush (Int.ofNat 7), 2, 0, 0, 0) := ⟨m_5, by decide +kernel⟩
theorem f_5_441 : nF 5 mq_5 441 (.iaload, 1, 0, 0, 0) := ⟨m_5, by decide +kernel⟩
theorem f_5_442 : nF 5 mq_5 442 (.iastore, 1, 0, 0, 0) := ⟨m_5, by decide +kernel⟩
theorem f_5_443 : nF 5 mq_5 443 (.aload_n 0, 1, 0, 0, 0) := ⟨m_5, by decide +kernel⟩
theorem f_5_444 : nF 5 mq_5 444 (.bipush (Int.ofNat 7), 2, 0, 0, 0) := ⟨m_5, by decide +kernel⟩
theorem f_5_446 : nF 5 mq_5 446 (.dup2, 1, 0, 0, 0) := ⟨m_5, by decide +kernel⟩
theorem f_5_447 : nF 5 mq_5 447 (.iaload, 1, 0, 0, 0) := ⟨m_5, by decide +kernel⟩
theorem f_5_448 : nF 5 mq_5 448 (.iconst (Int.ofNat 1), 1, 0, 0, 0) := ⟨m_5, by decide +kernel⟩
theorem f_5_449 : nF 5 mq_5 449 (.iadd, 1, 0, 0, 0) := ⟨m_5, by decide +kernel⟩
theorem f_5_450 : nF 5 mq_5 450 (.iastore, 1, 0, 0, 0) := ⟨m_5, by decide +kernel⟩
theorem f_5_451 : nF 5 mq_5 451 (.goto (Int.ofNat 38), 3, 0, 0, 0) := ⟨m_5, by decide +kernel⟩
theorem f_5_454 : nF 5 mq_5 454 (.aload_n 1, 1, 0, 0, 0) := ⟨m_5, by decide +kernel⟩
theorem f_5_455 : nF 5 mq_5 455 (.iload 4, 2, 0, 0, 0) := ⟨m_5, by decide +kernel⟩
theorem f_5_457 : nF 5 mq_5 457 (.iload 8, 2, 0, 0, 0) := ⟨m_5, by decide +kernel⟩
theorem f_5_459 : nF 5 mq_5 459 (.iadd, 1, 0, 0, 0) := ⟨m_5, by decide +kernel⟩
theorem f_5_460 : nF 5 mq_5 460 (.iaload, 1, 0, 0, 0) := ⟨m_5, by decide +kernel⟩
theorem f_5_461 : nF 5 mq_5 461 (.sipush (Int.ofNat 256), 3, 0, 0, 0) := ⟨m_5, by decide +kernel⟩
theorem f_5_464 : nF 5 mq_5 464 (.idiv, 1, 0, 0, 0) := ⟨m_5, by decide +kernel⟩
theorem f_5_465 : nF 5 mq_5 465 (.bipush (Int.ofNat 16), 2, 0, 0, 0) := ⟨m_5, by decide +kernel⟩
theorem f_5_467 : nF 5 mq_5 467 (.irem, 1, 0, 0, 0) := ⟨m_5, by decide +kernel⟩
theorem f_5_468 : nF 5 mq_5 468 (.istore 18, 2, 0, 0, 0) := ⟨m_5, by decide +kernel⟩
theorem f_5_470 : nF 5 mq_5 470 (.aload_n 1, 1, 0, 0, 0) := ⟨m_5, by decide +kernel⟩
theorem f_5_471 : nF 5 mq_5 471 (.iload 4, 2, 0, 0, 0) := ⟨m_5, by decide +kernel⟩
theorem f_5_473 : nF 5 mq_5 473 (.iload 8, 2, 0, 0, 0) := ⟨m_5, by decide +kernel⟩
theorem f_5_475 : nF 5 mq_5 475 (.iadd, 1, 0, 0, 0) := ⟨m_5, by decide +kernel⟩
theorem f_5_476 : nF 5 mq_5 476 (.dup2, 1, 0, 0, 0) := ⟨m_5, by decide +kernel⟩
theorem f_5_477 : nF 5 mq_5 477 (.iaload, 1, 0, 0, 0) := ⟨m_5, by decide +kernel⟩
theorem f_5_478 : nF 5 mq_5 478 (.sipush (Int.ofNat 256), 3, 0, 0, 0) := ⟨m_5, by decide +kernel⟩
theorem f_5_481 : nF 5 mq_5 481 (.iload 12, 2, 0, 0, 0) := ⟨m_5, by decide +kernel⟩
theorem f_5_483 : nF 5 mq_5 483 (.iload 18, 2, 0, 0, 0) := ⟨m_5, by decide +kernel⟩
theorem f_5_485 : nF 5 mq_5 485 (.isub, 1, 0, 0, 0) := ⟨m_5, by decide +kernel⟩
theorem f_5_486 : nF 5 mq_5 486 (.imul, 1, 0, 0, 0) := ⟨m_5, by decide +kernel⟩
theorem f_5_487 : nF 5 mq_5 487 (.iadd, 1, 0, 0, 0) := ⟨m_5, by decide +kernel⟩
theorem f_5_488 : nF 5 mq_5 488 (.iastore, 1, 0, 0, 0) := ⟨m_5, by decide +kernel⟩
theorem f_5_489 : nF 5 mq_5 489 (.aload_n 0, 1, 0, 0, 0) := ⟨m_5, by decide +kernel⟩
theorem f_5_490 : nF 5 mq_5 490 (.aload_n 1, 1, 0, 0, 0) := ⟨m_5, by decide +kernel⟩
theorem f_5_491 : nF 5 mq_5 491 (.iload 4, 2, 0, 0, 0) := ⟨m_5, by decide +kernel⟩
theorem f_5_493 : nF 5 mq_5 493 (.aload 5, 2, 0, 0, 0) := ⟨m_5, by decide +kernel⟩
theorem f_5_495 : nF 5 mq_5 495 (.invokestatic 207, 3, 41, 0, 4) := ⟨m_5, by decide +kernel⟩
theorem f_5_498 : nF 5 mq_5 498 (.ifCond .eq (Int.ofNat 45), 3, 0, 0, 0) := ⟨m_5, by decide +kernel⟩
theorem f_5_501 : nF 5 mq_5 501 (.aload 13, 2, 0, 0, 0) := ⟨m_5, by decide +kernel⟩
theorem f_5_503 : nF 5 mq_5 503 (.iconst (Int.ofNat 0), 1, 0, 0, 0) := ⟨m_5, by decide +kernel⟩
theorem f_5_504 : nF 5 mq_5 504 (.aload_n 1, 1, 0, 0, 0) := ⟨m_5, by decide +kernel⟩
theorem f_5_505 : nF 5 mq_5 505 (.iload 4, 2, 0, 0, 0) := ⟨m_5, by decide +kernel⟩
theorem f_5_507 : nF 5 mq_5 507 (.invokestatic 188, 3, 12, 0, 4) := ⟨m_5, by decide +kernel⟩
theorem f_5_510 : nF 5 mq_5 510 (.aload 14, 2, 0, 0, 0) := ⟨m_5, by decide +kernel⟩
theorem f_5_512 : nF 5 mq_5 512 (.iconst (Int.ofNat 0), 1, 0, 0, 0) := ⟨m_5, by decide +kernel⟩
theorem f_5_513 : nF 5 mq_5 513 (.aload_n 2, 1, 0, 0, 0) := ⟨m_5, by decide +kernel⟩
theorem f_5_514 : nF 5 mq_5 514 (.iload 4, 2, 0, 0, 0) := ⟨m_5, by decide +kernel⟩
theorem f_5_516 : nF 5 mq_5 516 (.invokestatic 188, 3, 12, 0, 4) := ⟨m_5, by decide +kernel⟩
theorem f_5_519 : nF 5 mq_5 519 (.aload 15, 2, 0, 0, 0) := ⟨m_5, by decide +kernel⟩
theorem f_5_521 : nF 5 mq_5 521 (.iconst (Int.ofNat 0), 1, 0, 0, 0) := ⟨m_5, by decide +kernel⟩
theorem f_5_522 : nF 5 mq_5 522 (.aload_n 3, 1, 0, 0, 0) := ⟨m_5, by decide +kernel⟩
theorem f_5_523 : nF 5 mq_5 523 (.iload 4, 2, 0, 0, 0) := ⟨m_5, by decide +kernel⟩
theorem f_5_525 : nF 5 mq_5 525 (.invokestatic 188, 3, 12, 0, 4) := ⟨m_5, by decide +kernel⟩
theorem f_5_528 : nF 5 mq_5 528 (.aload_n 0, 1, 0, 0, 0) := ⟨m_5, by decide +kernel⟩
theorem f_5_529 : nF 5 mq_5 529 (.iconst (Int.ofNat 0), 1, 0, 0, 0) := ⟨m_5, by decide +kernel⟩
theorem f_5_530 : nF 5 mq_5 530 (.iload 16, 2, 0, 0, 0) := ⟨m_5, by decide +kernel⟩
theorem f_5_532 : nF 5 mq_5 532 (.iastore, 1, 0, 0, 0) := ⟨m_5, by decide +kernel⟩
theorem f_5_533 : nF 5 mq_5 533 (.aload_n 0, 1, 0, 0, 0) := ⟨m_5, by decide +kernel⟩
theorem f_5_534 : nF 5 mq_5 534 (.bipush (Int.ofNat 7), 2, 0, 0, 0) := ⟨m_5, by decide +kernel⟩
theorem f_5_536 : nF 5 mq_5 536 (.iload 17, 2, 0, 0, 0) := ⟨m_5, by decide +kernel⟩
theorem f_5_538 : nF 5 mq_5 538 (.iastore, 1, 0, 0, 0) := ⟨m_5, by decide +kernel⟩
theorem f_5_539 : nF 5 mq_5 539 (.bipush (Int.negSucc 12), 2, 0, 0, 0) := ⟨m_5, by decide +kernel⟩
theorem f_5_541 : nF 5 mq_5 541 (.istore 18, 2, 0, 0, 0) := ⟨m_5, by decide +kernel⟩
theorem f_5_543 : nF 5 mq_5 543 (.iload 18, 2, 0, 0, 0) := ⟨m_5, by decide +kernel⟩
theorem f_5_545 : nF 5 mq_5 545 (.ireturn, 1, 0, 0, 0) := ⟨m_5, by decide +kernel⟩
