/-! The tables of the executor are in order. -/
theorem sx_0_0 : fx_sf mx_0 mc_0_0 := sf_self _
theorem sx_0_1 : fx_sf mx_0 mc_0_1 := sf_drop (l := mc_0_0) 8 sx_0_0
theorem sx_0_2 : fx_sf mx_0 mc_0_2 := sf_drop (l := mc_0_1) 11 sx_0_1
theorem sx_0_3 : fx_sf mx_0 mc_0_3 := sf_drop (l := mc_0_2) 6 sx_0_2
theorem sx_0_4 : fx_sf mx_0 mc_0_4 := sf_drop (l := mc_0_3) 0 sx_0_3
theorem sx_0_5 : fx_sf mx_0 mc_0_5 := sf_drop (l := mc_0_4) 0 sx_0_4
theorem sx_0_6 : fx_sf mx_0 mc_0_6 := sf_drop (l := mc_0_5) 0 sx_0_5
theorem sx_0_7 : fx_sf mx_0 mc_0_7 := sf_drop (l := mc_0_6) 0 sx_0_6
theorem sx_0_8 : fx_sf mx_0 mc_0_8 := sf_drop (l := mc_0_7) 0 sx_0_7
theorem sx_0_9 : fx_sf mx_0 mc_0_9 := sf_drop (l := mc_0_8) 0 sx_0_8
theorem sx_0_10 : fx_sf mx_0 mc_0_10 := sf_drop (l := mc_0_9) 0 sx_0_9
theorem sx_0_11 : fx_sf mx_0 mc_0_11 := sf_drop (l := mc_0_10) 0 sx_0_10
theorem sx_0_12 : fx_sf mx_0 mc_0_12 := sf_drop (l := mc_0_11) 0 sx_0_11
theorem sx_0_13 : fx_sf mx_0 mc_0_13 := sf_drop (l := mc_0_12) 0 sx_0_12
theorem sx_0_14 : fx_sf mx_0 mc_0_14 := sf_drop (l := mc_0_13) 13 sx_0_13
theorem sx_0_15 : fx_sf mx_0 mc_0_15 := sf_drop (l := mc_0_14) 14 sx_0_14
theorem sx_0_16 : fx_sf mx_0 mc_0_16 := sf_drop (l := mc_0_15) 11 sx_0_15
theorem sx_0_17 : fx_sf mx_0 mc_0_17 := sf_drop (l := mc_0_16) 14 sx_0_16
theorem sx_0_18 : fx_sf mx_0 mc_0_18 := sf_drop (l := mc_0_17) 9 sx_0_17
theorem sx_0_19 : fx_sf mx_0 mc_0_19 := sf_drop (l := mc_0_18) 8 sx_0_18
theorem sx_0_20 : fx_sf mx_0 mc_0_20 := sf_drop (l := mc_0_19) 9 sx_0_19
theorem sx_0_21 : fx_sf mx_0 mc_0_21 := sf_drop (l := mc_0_20) 11 sx_0_20
theorem sx_0_22 : fx_sf mx_0 mc_0_22 := sf_drop (l := mc_0_21) 11 sx_0_21
theorem sx_0_23 : fx_sf mx_0 mc_0_23 := sf_drop (l := mc_0_22) 4 sx_0_22
theorem sx_0_24 : fx_sf mx_0 mc_0_24 := sf_drop (l := mc_0_23) 4 sx_0_23
theorem sx_0_25 : fx_sf mx_0 mc_0_25 := sf_drop (l := mc_0_24) 14 sx_0_24
theorem sx_0_26 : fx_sf mx_0 mc_0_26 := sf_drop (l := mc_0_25) 11 sx_0_25
theorem sx_0_27 : fx_sf mx_0 mc_0_27 := sf_drop (l := mc_0_26) 13 sx_0_26
theorem sx_0_28 : fx_sf mx_0 mc_0_28 := sf_drop (l := mc_0_27) 8 sx_0_27
theorem sx_0_29 : fx_sf mx_0 mc_0_29 := sf_drop (l := mc_0_28) 11 sx_0_28
theorem sx_0_30 : fx_sf mx_0 mc_0_30 := sf_drop (l := mc_0_29) 12 sx_0_29
theorem sx_0_31 : fx_sf mx_0 mc_0_31 := sf_drop (l := mc_0_30) 13 sx_0_30
theorem sx_0_32 : fx_sf mx_0 mc_0_32 := sf_drop (l := mc_0_31) 6 sx_0_31
theorem sx_0_33 : fx_sf mx_0 mc_0_33 := sf_drop (l := mc_0_32) 9 sx_0_32
theorem sx_0_34 : fx_sf mx_0 mc_0_34 := sf_drop (l := mc_0_33) 11 sx_0_33
theorem sx_0_35 : fx_sf mx_0 mc_0_35 := sf_drop (l := mc_0_34) 12 sx_0_34
theorem sx_0_36 : fx_sf mx_0 mc_0_36 := sf_drop (l := mc_0_35) 13 sx_0_35
theorem sx_0_37 : fx_sf mx_0 mc_0_37 := sf_drop (l := mc_0_36) 6 sx_0_36
theorem sx_0_38 : fx_sf mx_0 mc_0_38 := sf_drop (l := mc_0_37) 2 sx_0_37
theorem sx_0_39 : fx_sf mx_0 mc_0_39 := sf_drop (l := mc_0_38) 11 sx_0_38
theorem sx_0_40 : fx_sf mx_0 mc_0_40 := sf_drop (l := mc_0_39) 13 sx_0_39
theorem sx_0_41 : fx_sf mx_0 mc_0_41 := sf_drop (l := mc_0_40) 12 sx_0_40
theorem sx_0_42 : fx_sf mx_0 mc_0_42 := sf_drop (l := mc_0_41) 12 sx_0_41
theorem sx_0_43 : fx_sf mx_0 mc_0_43 := sf_drop (l := mc_0_42) 6 sx_0_42
theorem sx_0_44 : fx_sf mx_0 mc_0_44 := sf_drop (l := mc_0_43) 1 sx_0_43
theorem sx_0_45 : fx_sf mx_0 mc_0_45 := sf_drop (l := mc_0_44) 13 sx_0_44
theorem sx_0_46 : fx_sf mx_0 mc_0_46 := sf_drop (l := mc_0_45) 12 sx_0_45
theorem sx_0_47 : fx_sf mx_0 mc_0_47 := sf_drop (l := mc_0_46) 12 sx_0_46
theorem sx_0_48 : fx_sf mx_0 mc_0_48 := sf_drop (l := mc_0_47) 6 sx_0_47
theorem sx_0_49 : fx_sf mx_0 mc_0_49 := sf_drop (l := mc_0_48) 1 sx_0_48
theorem sx_0_50 : fx_sf mx_0 mc_0_50 := sf_drop (l := mc_0_49) 13 sx_0_49
theorem sx_0_51 : fx_sf mx_0 mc_0_51 := sf_drop (l := mc_0_50) 12 sx_0_50
theorem sx_0_52 : fx_sf mx_0 mc_0_52 := sf_drop (l := mc_0_51) 13 sx_0_51
theorem sx_0_53 : fx_sf mx_0 mc_0_53 := sf_drop (l := mc_0_52) 10 sx_0_52
theorem sx_0_54 : fx_sf mx_0 mc_0_54 := sf_drop (l := mc_0_53) 9 sx_0_53
theorem sx_0_55 : fx_sf mx_0 mc_0_55 := sf_drop (l := mc_0_54) 10 sx_0_54
theorem sx_0_56 : fx_sf mx_0 mc_0_56 := sf_drop (l := mc_0_55) 6 sx_0_55
theorem sx_0_57 : fx_sf mx_0 mc_0_57 := sf_drop (l := mc_0_56) 1 sx_0_56
theorem sx_0_58 : fx_sf mx_0 mc_0_58 := sf_drop (l := mc_0_57) 12 sx_0_57
theorem sx_0_59 : fx_sf mx_0 mc_0_59 := sf_drop (l := mc_0_58) 9 sx_0_58
theorem sx_0_60 : fx_sf mx_0 mc_0_60 := sf_drop (l := mc_0_59) 8 sx_0_59
theorem sx_0_61 : fx_sf mx_0 mc_0_61 := sf_drop (l := mc_0_60) 9 sx_0_60
theorem sx_0_62 : fx_sf mx_0 mc_0_62 := sf_drop (l := mc_0_61) 10 sx_0_61
theorem sx_0_63 : fx_sf mx_0 mc_0_63 := sf_drop (l := mc_0_62) 6 sx_0_62
theorem sx_0_64 : fx_sf mx_0 mc_0_64 := sf_drop (l := mc_0_63) 8 sx_0_63
theorem sx_0_65 : fx_sf mx_0 mc_0_65 := sf_drop (l := mc_0_64) 13 sx_0_64
theorem sx_0_66 : fx_sf mx_0 mc_0_66 := sf_drop (l := mc_0_65) 12 sx_0_65
theorem sx_0_67 : fx_sf mx_0 mc_0_67 := sf_drop (l := mc_0_66) 6 sx_0_66
theorem sx_0_68 : fx_sf mx_0 mc_0_68 := sf_drop (l := mc_0_67) 9 sx_0_67
theorem sx_0_69 : fx_sf mx_0 mc_0_69 := sf_drop (l := mc_0_68) 11 sx_0_68
theorem sx_0_70 : fx_sf mx_0 mc_0_70 := sf_drop (l := mc_0_69) 12 sx_0_69
theorem sx_0_71 : fx_sf mx_0 mc_0_71 := sf_drop (l := mc_0_70) 9 sx_0_70
theorem sx_0_72 : fx_sf mx_0 mc_0_72 := sf_drop (l := mc_0_71) 2 sx_0_71
theorem sx_0_73 : fx_sf mx_0 mc_0_73 := sf_drop (l := mc_0_72) 8 sx_0_72
theorem sx_0_74 : fx_sf mx_0 mc_0_74 := sf_drop (l := mc_0_73) 11 sx_0_73
theorem sx_0_75 : fx_sf mx_0 mc_0_75 := sf_drop (l := mc_0_74) 11 sx_0_74
theorem sx_0_76 : fx_sf mx_0 mc_0_76 := sf_drop (l := mc_0_75) 4 sx_0_75
theorem sx_0_77 : fx_sf mx_0 mc_0_77 := sf_drop (l := mc_0_76) 4 sx_0_76
theorem sx_0_78 : fx_sf mx_0 mc_0_78 := sf_drop (l := mc_0_77) 12 sx_0_77
theorem sx_0_79 : fx_sf mx_0 mc_0_79 := sf_drop (l := mc_0_78) 12 sx_0_78
theorem sx_0_80 : fx_sf mx_0 mc_0_80 := sf_drop (l := mc_0_79) 6 sx_0_79
theorem sx_0_81 : fx_sf mx_0 mc_0_81 := sf_drop (l := mc_0_80) 8 sx_0_80
theorem sx_0_82 : fx_sf mx_0 mc_0_82 := sf_drop (l := mc_0_81) 8 sx_0_81
theorem sx_0_83 : fx_sf mx_0 mc_0_83 := sf_drop (l := mc_0_82) 11 sx_0_82
theorem sx_0_84 : fx_sf mx_0 mc_0_84 := sf_drop (l := mc_0_83) 7 sx_0_83
theorem sx_0_85 : fx_sf mx_0 mc_0_85 := sf_drop (l := mc_0_84) 9 sx_0_84
theorem sx_0_86 : fx_sf mx_0 mc_0_86 := sf_drop (l := mc_0_85) 9 sx_0_85
theorem sx_0_87 : fx_sf mx_0 mc_0_87 := sf_drop (l := mc_0_86) 11 sx_0_86
theorem sx_0_88 : fx_sf mx_0 mc_0_88 := sf_drop (l := mc_0_87) 6 sx_0_87
theorem sx_0_89 : fx_sf mx_0 mc_0_89 := sf_drop (l := mc_0_88) 7 sx_0_88
theorem sx_0_90 : fx_sf mx_0 mc_0_90 := sf_drop (l := mc_0_89) 11 sx_0_89
theorem sx_0_91 : fx_sf mx_0 mc_0_91 := sf_drop (l := mc_0_90) 12 sx_0_90
theorem sx_0_92 : fx_sf mx_0 mc_0_92 := sf_drop (l := mc_0_91) 9 sx_0_91
theorem sx_0_93 : fx_sf mx_0 mc_0_93 := sf_drop (l := mc_0_92) 8 sx_0_92
theorem sx_0_94 : fx_sf mx_0 mc_0_94 := sf_drop (l := mc_0_93) 9 sx_0_93
theorem sx_0_95 : fx_sf mx_0 mc_0_95 := sf_drop (l := mc_0_94) 11 sx_0_94
theorem sx_0_96 : fx_sf mx_0 mc_0_96 := sf_drop (l := mc_0_95) 11 sx_0_95
theorem sx_0_97 : fx_sf mx_0 mc_0_97 := sf_drop (l := mc_0_96) 7 sx_0_96
theorem sx_0_98 : fx_sf mx_0 mc_0_98 := sf_drop (l := mc_0_97) 8 sx_0_97
theorem sx_0_99 : fx_sf mx_0 mc_0_99 := sf_drop (l := mc_0_98) 12 sx_0_98
theorem sx_0_100 : fx_sf mx_0 mc_0_100 := sf_drop (l := mc_0_99) 12 sx_0_99
theorem sx_0_101 : fx_sf mx_0 mc_0_101 := sf_drop (l := mc_0_100) 6 sx_0_100
theorem sx_0_102 : fx_sf mx_0 mc_0_102 := sf_drop (l := mc_0_101) 9 sx_0_101
theorem sx_0_103 : fx_sf mx_0 mc_0_103 := sf_drop (l := mc_0_102) 9 sx_0_102
theorem sx_0_104 : fx_sf mx_0 mc_0_104 := sf_drop (l := mc_0_103) 9 sx_0_103
theorem sx_0_105 : fx_sf mx_0 mc_0_105 := sf_drop (l := mc_0_104) 6 sx_0_104
theorem sx_0_106 : fx_sf mx_0 mc_0_106 := sf_drop (l := mc_0_105) 9 sx_0_105
theorem sx_0_107 : fx_sf mx_0 mc_0_107 := sf_drop (l := mc_0_106) 12 sx_0_106
theorem sx_0_108 : fx_sf mx_0 mc_0_108 := sf_drop (l := mc_0_107) 13 sx_0_107
theorem sx_0_109 : fx_sf mx_0 mc_0_109 := sf_drop (l := mc_0_108) 6 sx_0_108
theorem sx_0_110 : fx_sf mx_0 mc_0_110 := sf_drop (l := mc_0_109) 8 sx_0_109
theorem sx_0_111 : fx_sf mx_0 mc_0_111 := sf_drop (l := mc_0_110) 12 sx_0_110
theorem sx_0_112 : fx_sf mx_0 mc_0_112 := sf_drop (l := mc_0_111) 11 sx_0_111
theorem sx_0_113 : fx_sf mx_0 mc_0_113 := sf_drop (l := mc_0_112) 9 sx_0_112
theorem sx_0_114 : fx_sf mx_0 mc_0_114 := sf_drop (l := mc_0_113) 9 sx_0_113
theorem sx_0_115 : fx_sf mx_0 mc_0_115 := sf_drop (l := mc_0_114) 9 sx_0_114
theorem sx_0_116 : fx_sf mx_0 mc_0_116 := sf_drop (l := mc_0_115) 11 sx_0_115
theorem sx_0_117 : fx_sf mx_0 mc_0_117 := sf_drop (l := mc_0_116) 13 sx_0_116
theorem sx_0_118 : fx_sf mx_0 mc_0_118 := sf_drop (l := mc_0_117) 9 sx_0_117
theorem sx_0_119 : fx_sf mx_0 mc_0_119 := sf_drop (l := mc_0_118) 9 sx_0_118
theorem sx_0_120 : fx_sf mx_0 mc_0_120 := sf_drop (l := mc_0_119) 9 sx_0_119
theorem sx_0_121 : fx_sf mx_0 mc_0_121 := sf_drop (l := mc_0_120) 11 sx_0_120
theorem sx_0_122 : fx_sf mx_0 mc_0_122 := sf_drop (l := mc_0_121) 10 sx_0_121
theorem sx_0_123 : fx_sf mx_0 mc_0_123 := sf_drop (l := mc_0_122) 8 sx_0_122
theorem sx_0_124 : fx_sf mx_0 mc_0_124 := sf_drop (l := mc_0_123) 8 sx_0_123
theorem sx_0_125 : fx_sf mx_0 mc_0_125 := sf_drop (l := mc_0_124) 12 sx_0_124
theorem sx_0_126 : fx_sf mx_0 mc_0_126 := sf_drop (l := mc_0_125) 11 sx_0_125
theorem sx_0_127 : fx_sf mx_0 mc_0_127 := sf_drop (l := mc_0_126) 6 sx_0_126
theorem sx_0_128 : fx_sf mx_0 mc_0_128 := sf_drop (l := mc_0_127) 9 sx_0_127
theorem sx_0_129 : fx_sf mx_0 mc_0_129 := sf_drop (l := mc_0_128) 12 sx_0_128
theorem sx_0_130 : fx_sf mx_0 mc_0_130 := sf_drop (l := mc_0_129) 13 sx_0_129
theorem sx_0_131 : fx_sf mx_0 mc_0_131 := sf_drop (l := mc_0_130) 6 sx_0_130
theorem sx_0_132 : fx_sf mx_0 mc_0_132 := sf_drop (l := mc_0_131) 8 sx_0_131
theorem sx_0_133 : fx_sf mx_0 mc_0_133 := sf_drop (l := mc_0_132) 12 sx_0_132
theorem sx_0_134 : fx_sf mx_0 mc_0_134 := sf_drop (l := mc_0_133) 11 sx_0_133
theorem sx_0_135 : fx_sf mx_0 mc_0_135 := sf_drop (l := mc_0_134) 14 sx_0_134
theorem sx_0_136 : fx_sf mx_0 mc_0_136 := sf_drop (l := mc_0_135) 6 sx_0_135
theorem sx_0_137 : fx_sf mx_0 mc_0_137 := sf_drop (l := mc_0_136) 1 sx_0_136
theorem sx_0_138 : fx_sf mx_0 mc_0_138 := sf_drop (l := mc_0_137) 10 sx_0_137
theorem sx_0_139 : fx_sf mx_0 mc_0_139 := sf_drop (l := mc_0_138) 10 sx_0_138
theorem sx_0_140 : fx_sf mx_0 mc_0_140 := sf_drop (l := mc_0_139) 8 sx_0_139
theorem sx_0_141 : fx_sf mx_0 mc_0_141 := sf_drop (l := mc_0_140) 8 sx_0_140
theorem sx_0_142 : fx_sf mx_0 mc_0_142 := sf_drop (l := mc_0_141) 14 sx_0_141
theorem sx_0_143 : fx_sf mx_0 mc_0_143 := sf_drop (l := mc_0_142) 11 sx_0_142
theorem sx_0_144 : fx_sf mx_0 mc_0_144 := sf_drop (l := mc_0_143) 13 sx_0_143
theorem sx_0_145 : fx_sf mx_0 mc_0_145 := sf_drop (l := mc_0_144) 9 sx_0_144
theorem sx_0_146 : fx_sf mx_0 mc_0_146 := sf_drop (l := mc_0_145) 2 sx_0_145
theorem sx_0_147 : fx_sf mx_0 mc_0_147 := sf_drop (l := mc_0_146) 9 sx_0_146
theorem sx_0_148 : fx_sf mx_0 mc_0_148 := sf_drop (l := mc_0_147) 9 sx_0_147
theorem sx_0_149 : fx_sf mx_0 mc_0_149 := sf_drop (l := mc_0_148) 6 sx_0_148
theorem sx_0_150 : fx_sf mx_0 mc_0_150 := sf_drop (l := mc_0_149) 9 sx_0_149
theorem sx_0_151 : fx_sf mx_0 mc_0_151 := sf_drop (l := mc_0_150) 12 sx_0_150
theorem sx_0_152 : fx_sf mx_0 mc_0_152 := sf_drop (l := mc_0_151) 12 sx_0_151
theorem sx_0_153 : fx_sf mx_0 mc_0_153 := sf_drop (l := mc_0_152) 6 sx_0_152
theorem sx_0_154 : fx_sf mx_0 mc_0_154 := sf_drop (l := mc_0_153) 8 sx_0_153
theorem sx_0_155 : fx_sf mx_0 mc_0_155 := sf_drop (l := mc_0_154) 13 sx_0_154
theorem sx_0_156 : fx_sf mx_0 mc_0_156 := sf_drop (l := mc_0_155) 11 sx_0_155
theorem sx_0_157 : fx_sf mx_0 mc_0_157 := sf_drop (l := mc_0_156) 7 sx_0_156
theorem sx_0_158 : fx_sf mx_0 mc_0_158 := sf_drop (l := mc_0_157) 8 sx_0_157
theorem sx_0_159 : fx_sf mx_0 mc_0_159 := sf_drop (l := mc_0_158) 11 sx_0_158
theorem sx_0_160 : fx_sf mx_0 mc_0_160 := sf_drop (l := mc_0_159) 12 sx_0_159
theorem sx_0_161 : fx_sf mx_0 mc_0_161 := sf_drop (l := mc_0_160) 9 sx_0_160
theorem sx_0_162 : fx_sf mx_0 mc_0_162 := sf_drop (l := mc_0_161) 8 sx_0_161
theorem sx_0_163 : fx_sf mx_0 mc_0_163 := sf_drop (l := mc_0_162) 9 sx_0_162
theorem sx_0_164 : fx_sf mx_0 mc_0_164 := sf_drop (l := mc_0_163) 12 sx_0_163
theorem sx_0_165 : fx_sf mx_0 mc_0_165 := sf_drop (l := mc_0_164) 13 sx_0_164
theorem sx_0_166 : fx_sf mx_0 mc_0_166 := sf_drop (l := mc_0_165) 9 sx_0_165
theorem sx_0_167 : fx_sf mx_0 mc_0_167 := sf_drop (l := mc_0_166) 2 sx_0_166
theorem sx_0_168 : fx_sf mx_0 mc_0_168 := sf_drop (l := mc_0_167) 8 sx_0_167
theorem sx_0_169 : fx_sf mx_0 mc_0_169 := sf_drop (l := mc_0_168) 12 sx_0_168
theorem sx_0_170 : fx_sf mx_0 mc_0_170 := sf_drop (l := mc_0_169) 13 sx_0_169
theorem sx_0_171 : fx_sf mx_0 mc_0_171 := sf_drop (l := mc_0_170) 9 sx_0_170
theorem sx_0_172 : fx_sf mx_0 mc_0_172 := sf_drop (l := mc_0_171) 8 sx_0_171
theorem sx_0_173 : fx_sf mx_0 mc_0_173 := sf_drop (l := mc_0_172) 9 sx_0_172
theorem sx_0_174 : fx_sf mx_0 mc_0_174 := sf_drop (l := mc_0_173) 11 sx_0_173
theorem sx_0_175 : fx_sf mx_0 mc_0_175 := sf_drop (l := mc_0_174) 11 sx_0_174
theorem sx_0_176 : fx_sf mx_0 mc_0_176 := sf_drop (l := mc_0_175) 7 sx_0_175
theorem sx_0_177 : fx_sf mx_0 mc_0_177 := sf_drop (l := mc_0_176) 7 sx_0_176
set_option maxRecDepth 100000 in
theorem sy_0 : ∀ r ∈ mx_0.2, fx_sf mx_0 r := (List.forall_mem_cons.mpr ⟨sx_0_0, (List.forall_mem_cons.mpr ⟨sx_0_1, (List.forall_mem_cons.mpr ⟨sx_0_2, (List.forall_mem_cons.mpr ⟨sx_0_3, (List.forall_mem_cons.mpr ⟨sx_0_4, (List.forall_mem_cons.mpr ⟨sx_0_5, (List.forall_mem_cons.mpr ⟨sx_0_6, (List.forall_mem_cons.mpr ⟨sx_0_7, (List.forall_mem_cons.mpr ⟨sx_0_8, (List.forall_mem_cons.mpr ⟨sx_0_9, (List.forall_mem_cons.mpr ⟨sx_0_10, (List.forall_mem_cons.mpr ⟨sx_0_11, (List.forall_mem_cons.mpr ⟨sx_0_12, (List.forall_mem_cons.mpr ⟨sx_0_13, (List.forall_mem_cons.mpr ⟨sx_0_14, (List.forall_mem_cons.mpr ⟨sx_0_15, (List.forall_mem_cons.mpr ⟨sx_0_16, (List.forall_mem_cons.mpr ⟨sx_0_17, (List.forall_mem_cons.mpr ⟨sx_0_18, (List.forall_mem_cons.mpr ⟨sx_0_19, (List.forall_mem_cons.mpr ⟨sx_0_20, (List.forall_mem_cons.mpr ⟨sx_0_21, (List.forall_mem_cons.mpr ⟨sx_0_22, (List.forall_mem_cons.mpr ⟨sx_0_23, (List.forall_mem_cons.mpr ⟨sx_0_24, (List.forall_mem_cons.mpr ⟨sx_0_25, (List.forall_mem_cons.mpr ⟨sx_0_26, (List.forall_mem_cons.mpr ⟨sx_0_27, (List.forall_mem_cons.mpr ⟨sx_0_28, (List.forall_mem_cons.mpr ⟨sx_0_29, (List.forall_mem_cons.mpr ⟨sx_0_30, (List.forall_mem_cons.mpr ⟨sx_0_31, (List.forall_mem_cons.mpr ⟨sx_0_32, (List.forall_mem_cons.mpr ⟨sx_0_33, (List.forall_mem_cons.mpr ⟨sx_0_34, (List.forall_mem_cons.mpr ⟨sx_0_35, (List.forall_mem_cons.mpr ⟨sx_0_36, (List.forall_mem_cons.mpr ⟨sx_0_37, (List.forall_mem_cons.mpr ⟨sx_0_38, (List.forall_mem_cons.mpr ⟨sx_0_39, (List.forall_mem_cons.mpr ⟨sx_0_40, (List.forall_mem_cons.mpr ⟨sx_0_41, (List.forall_mem_cons.mpr ⟨sx_0_42, (List.forall_mem_cons.mpr ⟨sx_0_43, (List.forall_mem_cons.mpr ⟨sx_0_44, (List.forall_mem_cons.mpr ⟨sx_0_45, (List.forall_mem_cons.mpr ⟨sx_0_46, (List.forall_mem_cons.mpr ⟨sx_0_47, (List.forall_mem_cons.mpr ⟨sx_0_48, (List.forall_mem_cons.mpr ⟨sx_0_49, (List.forall_mem_cons.mpr ⟨sx_0_50, (List.forall_mem_cons.mpr ⟨sx_0_51, (List.forall_mem_cons.mpr ⟨sx_0_52, (List.forall_mem_cons.mpr ⟨sx_0_53, (List.forall_mem_cons.mpr ⟨sx_0_54, (List.forall_mem_cons.mpr ⟨sx_0_55, (List.forall_mem_cons.mpr ⟨sx_0_56, (List.forall_mem_cons.mpr ⟨sx_0_57, (List.forall_mem_cons.mpr ⟨sx_0_58, (List.forall_mem_cons.mpr ⟨sx_0_59, (List.forall_mem_cons.mpr ⟨sx_0_60, (List.forall_mem_cons.mpr ⟨sx_0_61, (List.forall_mem_cons.mpr ⟨sx_0_62, (List.forall_mem_cons.mpr ⟨sx_0_63, (List.forall_mem_cons.mpr ⟨sx_0_64, (List.forall_mem_cons.mpr ⟨sx_0_65, (List.forall_mem_cons.mpr ⟨sx_0_66, (List.forall_mem_cons.mpr ⟨sx_0_67, (List.forall_mem_cons.mpr ⟨sx_0_68, (List.forall_mem_cons.mpr ⟨sx_0_69, (List.forall_mem_cons.mpr ⟨sx_0_70, (List.forall_mem_cons.mpr ⟨sx_0_71, (List.forall_mem_cons.mpr ⟨sx_0_72, (List.forall_mem_cons.mpr ⟨sx_0_73, (List.forall_mem_cons.mpr ⟨sx_0_74, (List.forall_mem_cons.mpr ⟨sx_0_75, (List.forall_mem_cons.mpr ⟨sx_0_76, (List.forall_mem_cons.mpr ⟨sx_0_77, (List.forall_mem_cons.mpr ⟨sx_0_78, (List.forall_mem_cons.mpr ⟨sx_0_79, (List.forall_mem_cons.mpr ⟨sx_0_80, (List.forall_mem_cons.mpr ⟨sx_0_81, (List.forall_mem_cons.mpr ⟨sx_0_82, (List.forall_mem_cons.mpr ⟨sx_0_83, (List.forall_mem_cons.mpr ⟨sx_0_84, (List.forall_mem_cons.mpr ⟨sx_0_85, (List.forall_mem_cons.mpr ⟨sx_0_86, (List.forall_mem_cons.mpr ⟨sx_0_87, (List.forall_mem_cons.mpr ⟨sx_0_88, (List.forall_mem_cons.mpr ⟨sx_0_89, (List.forall_mem_cons.mpr ⟨sx_0_90, (List.forall_mem_cons.mpr ⟨sx_0_91, (List.forall_mem_cons.mpr ⟨sx_0_92, (List.forall_mem_cons.mpr ⟨sx_0_93, (List.forall_mem_cons.mpr ⟨sx_0_94, (List.forall_mem_cons.mpr ⟨sx_0_95, (List.forall_mem_cons.mpr ⟨sx_0_96, (List.forall_mem_cons.mpr ⟨sx_0_97, (List.forall_mem_cons.mpr ⟨sx_0_98, (List.forall_mem_cons.mpr ⟨sx_0_99, (List.forall_mem_cons.mpr ⟨sx_0_100, (List.forall_mem_cons.mpr ⟨sx_0_101, (List.forall_mem_cons.mpr ⟨sx_0_102, (List.forall_mem_cons.mpr ⟨sx_0_103, (List.forall_mem_cons.mpr ⟨sx_0_104, (List.forall_mem_cons.mpr ⟨sx_0_105, (List.forall_mem_cons.mpr ⟨sx_0_106, (List.forall_mem_cons.mpr ⟨sx_0_107, (List.forall_mem_cons.mpr ⟨sx_0_108, (List.forall_mem_cons.mpr ⟨sx_0_109, (List.forall_mem_cons.mpr ⟨sx_0_110, (List.forall_mem_cons.mpr ⟨sx_0_111, (List.forall_mem_cons.mpr ⟨sx_0_112, (List.forall_mem_cons.mpr ⟨sx_0_113, (List.forall_mem_cons.mpr ⟨sx_0_114, (List.forall_mem_cons.mpr ⟨sx_0_115, (List.forall_mem_cons.mpr ⟨sx_0_116, (List.forall_mem_cons.mpr ⟨sx_0_117, (List.forall_mem_cons.mpr ⟨sx_0_118, (List.forall_mem_cons.mpr ⟨sx_0_119, (List.forall_mem_cons.mpr ⟨sx_0_120, (List.forall_mem_cons.mpr ⟨sx_0_121, (List.forall_mem_cons.mpr ⟨sx_0_122, (List.forall_mem_cons.mpr ⟨sx_0_123, (List.forall_mem_cons.mpr ⟨sx_0_124, (List.forall_mem_cons.mpr ⟨sx_0_125, (List.forall_mem_cons.mpr ⟨sx_0_126, (List.forall_mem_cons.mpr ⟨sx_0_127, (List.forall_mem_cons.mpr ⟨sx_0_128, (List.forall_mem_cons.mpr ⟨sx_0_129, (List.forall_mem_cons.mpr ⟨sx_0_130, (List.forall_mem_cons.mpr ⟨sx_0_131, (List.forall_mem_cons.mpr ⟨sx_0_132, (List.forall_mem_cons.mpr ⟨sx_0_133, (List.forall_mem_cons.mpr ⟨sx_0_134, (List.forall_mem_cons.mpr ⟨sx_0_135, (List.forall_mem_cons.mpr ⟨sx_0_136, (List.forall_mem_cons.mpr ⟨sx_0_137, (List.forall_mem_cons.mpr ⟨sx_0_138, (List.forall_mem_cons.mpr ⟨sx_0_139, (List.forall_mem_cons.mpr ⟨sx_0_140, (List.forall_mem_cons.mpr ⟨sx_0_141, (List.forall_mem_cons.mpr ⟨sx_0_142, (List.forall_mem_cons.mpr ⟨sx_0_143, (List.forall_mem_cons.mpr ⟨sx_0_144, (List.forall_mem_cons.mpr ⟨sx_0_145, (List.forall_mem_cons.mpr ⟨sx_0_146, (List.forall_mem_cons.mpr ⟨sx_0_147, (List.forall_mem_cons.mpr ⟨sx_0_148, (List.forall_mem_cons.mpr ⟨sx_0_149, (List.forall_mem_cons.mpr ⟨sx_0_150, (List.forall_mem_cons.mpr ⟨sx_0_151, (List.forall_mem_cons.mpr ⟨sx_0_152, (List.forall_mem_cons.mpr ⟨sx_0_153, (List.forall_mem_cons.mpr ⟨sx_0_154, (List.forall_mem_cons.mpr ⟨sx_0_155, (List.forall_mem_cons.mpr ⟨sx_0_156, (List.forall_mem_cons.mpr ⟨sx_0_157, (List.forall_mem_cons.mpr ⟨sx_0_158, (List.forall_mem_cons.mpr ⟨sx_0_159, (List.forall_mem_cons.mpr ⟨sx_0_160, (List.forall_mem_cons.mpr ⟨sx_0_161, (List.forall_mem_cons.mpr ⟨sx_0_162, (List.forall_mem_cons.mpr ⟨sx_0_163, (List.forall_mem_cons.mpr ⟨sx_0_164, (List.forall_mem_cons.mpr ⟨sx_0_165, (List.forall_mem_cons.mpr ⟨sx_0_166, (List.forall_mem_cons.mpr ⟨sx_0_167, (List.forall_mem_cons.mpr ⟨sx_0_168, (List.forall_mem_cons.mpr ⟨sx_0_169, (List.forall_mem_cons.mpr ⟨sx_0_170, (List.forall_mem_cons.mpr ⟨sx_0_171, (List.forall_mem_cons.mpr ⟨sx_0_172, (List.forall_mem_cons.mpr ⟨sx_0_173, (List.forall_mem_cons.mpr ⟨sx_0_174, (List.forall_mem_cons.mpr ⟨sx_0_175, (List.forall_mem_cons.mpr ⟨sx_0_176, (List.forall_mem_cons.mpr ⟨sx_0_177, (fun _ h => absurd h List.not_mem_nil)⟩)⟩)⟩)⟩)⟩)⟩)⟩)⟩)⟩)⟩)⟩)⟩)⟩)⟩)⟩)⟩)⟩)⟩)⟩)⟩)⟩)⟩)⟩)⟩)⟩)⟩)⟩)⟩)⟩)⟩)⟩)⟩)⟩)⟩)⟩)⟩)⟩)⟩)⟩)⟩)⟩)⟩)⟩)⟩)⟩)⟩)⟩)⟩)⟩)⟩)⟩)⟩)⟩)⟩)⟩)⟩)⟩)⟩)⟩)⟩)⟩)⟩)⟩)⟩)⟩)⟩)⟩)⟩)⟩)⟩)⟩)⟩)⟩)⟩)⟩)⟩)⟩)⟩)⟩)⟩)⟩)⟩)⟩)⟩)⟩)⟩)⟩)⟩)⟩)⟩)⟩)⟩)⟩)⟩)⟩)⟩)⟩)⟩)⟩)⟩)⟩)⟩)⟩)⟩)⟩)⟩)⟩)⟩)⟩)⟩)⟩)⟩)⟩)⟩)⟩)⟩)⟩)⟩)⟩)⟩)⟩)⟩)⟩)⟩)⟩)⟩)⟩)⟩)⟩)⟩)⟩)⟩)⟩)⟩)⟩)⟩)⟩)⟩)⟩)⟩)⟩)⟩)⟩)⟩)⟩)⟩)⟩)⟩)⟩)⟩)⟩)⟩)⟩)⟩)⟩)⟩)⟩)⟩)⟩)⟩)⟩)⟩)⟩)⟩)⟩)⟩)⟩)⟩)⟩)⟩)⟩)⟩)⟩)⟩)⟩)⟩)⟩)⟩)
theorem sx_1_0 : fx_sf mx_1 mc_1_0 := sf_self _
theorem sx_1_1 : fx_sf mx_1 mc_1_1 := sf_drop (l := mc_1_0) 13 sx_1_0
set_option maxRecDepth 100000 in
theorem sy_1 : ∀ r ∈ mx_1.2, fx_sf mx_1 r := (List.forall_mem_cons.mpr ⟨sx_1_0, (List.forall_mem_cons.mpr ⟨sx_1_1, (fun _ h => absurd h List.not_mem_nil)⟩)⟩)
theorem sx_2_0 : fx_sf mx_2 mc_2_0 := sf_self _
theorem sx_2_1 : fx_sf mx_2 mc_2_1 := sf_drop (l := mc_2_0) 10 sx_2_0
theorem sx_2_2 : fx_sf mx_2 mc_2_2 := sf_drop (l := mc_2_1) 8 sx_2_1
theorem sx_2_3 : fx_sf mx_2 mc_2_3 := sf_drop (l := mc_2_2) 7 sx_2_2
set_option maxRecDepth 100000 in
theorem sy_2 : ∀ r ∈ mx_2.2, fx_sf mx_2 r := (List.forall_mem_cons.mpr ⟨sx_2_0, (List.forall_mem_cons.mpr ⟨sx_2_1, (List.forall_mem_cons.mpr ⟨sx_2_2, (List.forall_mem_cons.mpr ⟨sx_2_3, (fun _ h => absurd h List.not_mem_nil)⟩)⟩)⟩)⟩)
theorem sx_3_0 : fx_sf mx_3 mc_3_0 := sf_self _
theorem sx_3_1 : fx_sf mx_3 mc_3_1 := sf_drop (l := mc_3_0) 10 sx_3_0
set_option maxRecDepth 100000 in
theorem sy_3 : ∀ r ∈ mx_3.2, fx_sf mx_3 r := (List.forall_mem_cons.mpr ⟨sx_3_0, (List.forall_mem_cons.mpr ⟨sx_3_1, (fun _ h => absurd h List.not_mem_nil)⟩)⟩)
theorem sx_4_0 : fx_sf mx_4 mc_4_0 := sf_self _
theorem sx_4_1 : fx_sf mx_4 mc_4_1 := sf_drop (l := mc_4_0) 9 sx_4_0
set_option maxRecDepth 100000 in
theorem sy_4 : ∀ r ∈ mx_4.2, fx_sf mx_4 r := (List.forall_mem_cons.mpr ⟨sx_4_0, (List.forall_mem_cons.mpr ⟨sx_4_1, (fun _ h => absurd h List.not_mem_nil)⟩)⟩)
theorem sx_5_0 : fx_sf mx_5 mc_5_0 := sf_self _
theorem sx_5_1 : fx_sf mx_5 mc_5_1 := sf_drop (l := mc_5_0) 10 sx_5_0
theorem sx_5_2 : fx_sf mx_5 mc_5_2 := sf_drop (l := mc_5_1) 8 sx_5_1
theorem sx_5_3 : fx_sf mx_5 mc_5_3 := sf_drop (l := mc_5_2) 10 sx_5_2
theorem sx_5_4 : fx_sf mx_5 mc_5_4 := sf_drop (l := mc_5_3) 9 sx_5_3
theorem sx_5_5 : fx_sf mx_5 mc_5_5 := sf_drop (l := mc_5_4) 8 sx_5_4
theorem sx_5_6 : fx_sf mx_5 mc_5_6 := sf_drop (l := mc_5_5) 4 sx_5_5
theorem sx_5_7 : fx_sf mx_5 mc_5_7 := sf_drop (l := mc_5_6) 0 sx_5_6
theorem sx_5_8 : fx_sf mx_5 mc_5_8 := sf_drop (l := mc_5_7) 0 sx_5_7
theorem sx_5_9 : fx_sf mx_5 mc_5_9 := sf_drop (l := mc_5_8) 0 sx_5_8
set_option maxRecDepth 100000 in
theorem sy_5 : ∀ r ∈ mx_5.2, fx_sf mx_5 r := (List.forall_mem_cons.mpr ⟨sx_5_0, (List.forall_mem_cons.mpr ⟨sx_5_1, (List.forall_mem_cons.mpr ⟨sx_5_2, (List.forall_mem_cons.mpr ⟨sx_5_3, (List.forall_mem_cons.mpr ⟨sx_5_4, (List.forall_mem_cons.mpr ⟨sx_5_5, (List.forall_mem_cons.mpr ⟨sx_5_6, (List.forall_mem_cons.mpr ⟨sx_5_7, (List.forall_mem_cons.mpr ⟨sx_5_8, (List.forall_mem_cons.mpr ⟨sx_5_9, (fun _ h => absurd h List.not_mem_nil)⟩)⟩)⟩)⟩)⟩)⟩)⟩)⟩)⟩)⟩)
theorem sx_6_0 : fx_sf mx_6 mc_6_0 := sf_self _
theorem sx_6_1 : fx_sf mx_6 mc_6_1 := sf_drop (l := mc_6_0) 10 sx_6_0
theorem sx_6_2 : fx_sf mx_6 mc_6_2 := sf_drop (l := mc_6_1) 9 sx_6_1
set_option maxRecDepth 100000 in
theorem sy_6 : ∀ r ∈ mx_6.2, fx_sf mx_6 r := (List.forall_mem_cons.mpr ⟨sx_6_0, (List.forall_mem_cons.mpr ⟨sx_6_1, (List.forall_mem_cons.mpr ⟨sx_6_2, (fun _ h => absurd h List.not_mem_nil)⟩)⟩)⟩)
theorem sx_7_0 : fx_sf mx_7 mc_7_0 := sf_self _
theorem sx_7_1 : fx_sf mx_7 mc_7_1 := sf_drop (l := mc_7_0) 8 sx_7_0
theorem sx_7_2 : fx_sf mx_7 mc_7_2 := sf_drop (l := mc_7_1) 6 sx_7_1
theorem sx_7_3 : fx_sf mx_7 mc_7_3 := sf_drop (l := mc_7_2) 0 sx_7_2
theorem sx_7_4 : fx_sf mx_7 mc_7_4 := sf_drop (l := mc_7_3) 0 sx_7_3
theorem sx_7_5 : fx_sf mx_7 mc_7_5 := sf_drop (l := mc_7_4) 7 sx_7_4
theorem sx_7_6 : fx_sf mx_7 mc_7_6 := sf_drop (l := mc_7_5) 6 sx_7_5
theorem sx_7_7 : fx_sf mx_7 mc_7_7 := sf_drop (l := mc_7_6) 6 sx_7_6
theorem sx_7_8 : fx_sf mx_7 mc_7_8 := sf_drop (l := mc_7_7) 10 sx_7_7
theorem sx_7_9 : fx_sf mx_7 mc_7_9 := sf_drop (l := mc_7_8) 6 sx_7_8
theorem sx_7_10 : fx_sf mx_7 mc_7_10 := sf_drop (l := mc_7_9) 8 sx_7_9
theorem sx_7_11 : fx_sf mx_7 mc_7_11 := sf_drop (l := mc_7_10) 9 sx_7_10
theorem sx_7_12 : fx_sf mx_7 mc_7_12 := sf_drop (l := mc_7_11) 6 sx_7_11
theorem sx_7_13 : fx_sf mx_7 mc_7_13 := sf_drop (l := mc_7_12) 8 sx_7_12
theorem sx_7_14 : fx_sf mx_7 mc_7_14 := sf_drop (l := mc_7_13) 2 sx_7_13
theorem sx_7_15 : fx_sf mx_7 mc_7_15 := sf_drop (l := mc_7_14) 9 sx_7_14
set_option maxRecDepth 100000 in
theorem sy_7 : ∀ r ∈ mx_7.2, fx_sf mx_7 r := (List.forall_mem_cons.mpr ⟨sx_7_0, (List.forall_mem_cons.mpr ⟨sx_7_1, (List.forall_mem_cons.mpr ⟨sx_7_2, (List.forall_mem_cons.mpr ⟨sx_7_3, (List.forall_mem_cons.mpr ⟨sx_7_4, (List.forall_mem_cons.mpr ⟨sx_7_5, (List.forall_mem_cons.mpr ⟨sx_7_6, (List.forall_mem_cons.mpr ⟨sx_7_7, (List.forall_mem_cons.mpr ⟨sx_7_8, (List.forall_mem_cons.mpr ⟨sx_7_9, (List.forall_mem_cons.mpr ⟨sx_7_10, (List.forall_mem_cons.mpr ⟨sx_7_11, (List.forall_mem_cons.mpr ⟨sx_7_12, (List.forall_mem_cons.mpr ⟨sx_7_13, (List.forall_mem_cons.mpr ⟨sx_7_14, (List.forall_mem_cons.mpr ⟨sx_7_15, (fun _ h => absurd h List.not_mem_nil)⟩)⟩)⟩)⟩)⟩)⟩)⟩)⟩)⟩)⟩)⟩)⟩)⟩)⟩)⟩)⟩)
theorem sx_8_0 : fx_sf mx_8 mc_8_0 := sf_self _
theorem sx_8_1 : fx_sf mx_8 mc_8_1 := sf_drop (l := mc_8_0) 11 sx_8_0
theorem sx_8_2 : fx_sf mx_8 mc_8_2 := sf_drop (l := mc_8_1) 7 sx_8_1
theorem sx_8_3 : fx_sf mx_8 mc_8_3 := sf_drop (l := mc_8_2) 9 sx_8_2
theorem sx_8_4 : fx_sf mx_8 mc_8_4 := sf_drop (l := mc_8_3) 2 sx_8_3
theorem sx_8_5 : fx_sf mx_8 mc_8_5 := sf_drop (l := mc_8_4) 0 sx_8_4
theorem sx_8_6 : fx_sf mx_8 mc_8_6 := sf_drop (l := mc_8_5) 1 sx_8_5
set_option maxRecDepth 100000 in
theorem sy_8 : ∀ r ∈ mx_8.2, fx_sf mx_8 r := (List.forall_mem_cons.mpr ⟨sx_8_0, (List.forall_mem_cons.mpr ⟨sx_8_1, (List.forall_mem_cons.mpr ⟨sx_8_2, (List.forall_mem_cons.mpr ⟨sx_8_3, (List.forall_mem_cons.mpr ⟨sx_8_4, (List.forall_mem_cons.mpr ⟨sx_8_5, (List.forall_mem_cons.mpr ⟨sx_8_6, (fun _ h => absurd h List.not_mem_nil)⟩)⟩)⟩)⟩)⟩)⟩)⟩)
theorem sx_9_0 : fx_sf mx_9 mc_9_0 := sf_self _
theorem sx_9_1 : fx_sf mx_9 mc_9_1 := sf_drop (l := mc_9_0) 9 sx_9_0
set_option maxRecDepth 100000 in
theorem sy_9 : ∀ r ∈ mx_9.2, fx_sf mx_9 r := (List.forall_mem_cons.mpr ⟨sx_9_0, (List.forall_mem_cons.mpr ⟨sx_9_1, (fun _ h => absurd h List.not_mem_nil)⟩)⟩)
theorem sx_10_0 : fx_sf mx_10 mc_10_0 := sf_self _
theorem sx_10_1 : fx_sf mx_10 mc_10_1 := sf_drop (l := mc_10_0) 9 sx_10_0
theorem sx_10_2 : fx_sf mx_10 mc_10_2 := sf_drop (l := mc_10_1) 10 sx_10_1
theorem sx_10_3 : fx_sf mx_10 mc_10_3 := sf_drop (l := mc_10_2) 8 sx_10_2
set_option maxRecDepth 100000 in
theorem sy_10 : ∀ r ∈ mx_10.2, fx_sf mx_10 r := (List.forall_mem_cons.mpr ⟨sx_10_0, (List.forall_mem_cons.mpr ⟨sx_10_1, (List.forall_mem_cons.mpr ⟨sx_10_2, (List.forall_mem_cons.mpr ⟨sx_10_3, (fun _ h => absurd h List.not_mem_nil)⟩)⟩)⟩)⟩)
theorem sx_11_0 : fx_sf mx_11 mc_11_0 := sf_self _
theorem sx_11_1 : fx_sf mx_11 mc_11_1 := sf_drop (l := mc_11_0) 9 sx_11_0
theorem sx_11_2 : fx_sf mx_11 mc_11_2 := sf_drop (l := mc_11_1) 8 sx_11_1
theorem sx_11_3 : fx_sf mx_11 mc_11_3 := sf_drop (l := mc_11_2) 8 sx_11_2
theorem sx_11_4 : fx_sf mx_11 mc_11_4 := sf_drop (l := mc_11_3) 7 sx_11_3
theorem sx_11_5 : fx_sf mx_11 mc_11_5 := sf_drop (l := mc_11_4) 8 sx_11_4
theorem sx_11_6 : fx_sf mx_11 mc_11_6 := sf_drop (l := mc_11_5) 10 sx_11_5
theorem sx_11_7 : fx_sf mx_11 mc_11_7 := sf_drop (l := mc_11_6) 7 sx_11_6
set_option maxRecDepth 100000 in
theorem sy_11 : ∀ r ∈ mx_11.2, fx_sf mx_11 r := (List.forall_mem_cons.mpr ⟨sx_11_0, (List.forall_mem_cons.mpr ⟨sx_11_1, (List.forall_mem_cons.mpr ⟨sx_11_2, (List.forall_mem_cons.mpr ⟨sx_11_3, (List.forall_mem_cons.mpr ⟨sx_11_4, (List.forall_mem_cons.mpr ⟨sx_11_5, (List.forall_mem_cons.mpr ⟨sx_11_6, (List.forall_mem_cons.mpr ⟨sx_11_7, (fun _ h => absurd h List.not_mem_nil)⟩)⟩)⟩)⟩)⟩)⟩)⟩)⟩)
theorem sx_12_0 : fx_sf mx_12 mc_12_0 := sf_self _
set_option maxRecDepth 100000 in
theorem sy_12 : ∀ r ∈ mx_12.2, fx_sf mx_12 r := (List.forall_mem_cons.mpr ⟨sx_12_0, (fun _ h => absurd h List.not_mem_nil)⟩)
theorem sx_13_0 : fx_sf mx_13 mc_13_0 := sf_self _
theorem sx_13_1 : fx_sf mx_13 mc_13_1 := sf_drop (l := mc_13_0) 10 sx_13_0
theorem sx_13_2 : fx_sf mx_13 mc_13_2 := sf_drop (l := mc_13_1) 9 sx_13_1
theorem sx_13_3 : fx_sf mx_13 mc_13_3 := sf_drop (l := mc_13_2) 7 sx_13_2
set_option maxRecDepth 100000 in
theorem sy_13 : ∀ r ∈ mx_13.2, fx_sf mx_13 r := (List.forall_mem_cons.mpr ⟨sx_13_0, (List.forall_mem_cons.mpr ⟨sx_13_1, (List.forall_mem_cons.mpr ⟨sx_13_2, (List.forall_mem_cons.mpr ⟨sx_13_3, (fun _ h => absurd h List.not_mem_nil)⟩)⟩)⟩)⟩)
theorem sx_14_0 : fx_sf mx_14 mc_14_0 := sf_self _
theorem sx_14_1 : fx_sf mx_14 mc_14_1 := sf_drop (l := mc_14_0) 9 sx_14_0
theorem sx_14_2 : fx_sf mx_14 mc_14_2 := sf_drop (l := mc_14_1) 7 sx_14_1
theorem sx_14_3 : fx_sf mx_14 mc_14_3 := sf_drop (l := mc_14_2) 8 sx_14_2
theorem sx_14_4 : fx_sf mx_14 mc_14_4 := sf_drop (l := mc_14_3) 7 sx_14_3
theorem sx_14_5 : fx_sf mx_14 mc_14_5 := sf_drop (l := mc_14_4) 7 sx_14_4
set_option maxRecDepth 100000 in
theorem sy_14 : ∀ r ∈ mx_14.2, fx_sf mx_14 r := (List.forall_mem_cons.mpr ⟨sx_14_0, (List.forall_mem_cons.mpr ⟨sx_14_1, (List.forall_mem_cons.mpr ⟨sx_14_2, (List.forall_mem_cons.mpr ⟨sx_14_3, (List.forall_mem_cons.mpr ⟨sx_14_4, (List.forall_mem_cons.mpr ⟨sx_14_5, (fun _ h => absurd h List.not_mem_nil)⟩)⟩)⟩)⟩)⟩)⟩)
theorem sx_15_0 : fx_sf mx_15 mc_15_0 := sf_self _
theorem sx_15_1 : fx_sf mx_15 mc_15_1 := sf_drop (l := mc_15_0) 9 sx_15_0
set_option maxRecDepth 100000 in
theorem sy_15 : ∀ r ∈ mx_15.2, fx_sf mx_15 r := (List.forall_mem_cons.mpr ⟨sx_15_0, (List.forall_mem_cons.mpr ⟨sx_15_1, (fun _ h => absurd h List.not_mem_nil)⟩)⟩)
theorem sx_16_0 : fx_sf mx_16 mc_16_0 := sf_self _
theorem sx_16_1 : fx_sf mx_16 mc_16_1 := sf_drop (l := mc_16_0) 9 sx_16_0
theorem sx_16_2 : fx_sf mx_16 mc_16_2 := sf_drop (l := mc_16_1) 6 sx_16_1
theorem sx_16_3 : fx_sf mx_16 mc_16_3 := sf_drop (l := mc_16_2) 7 sx_16_2
theorem sx_16_4 : fx_sf mx_16 mc_16_4 := sf_drop (l := mc_16_3) 3 sx_16_3
theorem sx_16_5 : fx_sf mx_16 mc_16_5 := sf_drop (l := mc_16_4) 0 sx_16_4
theorem sx_16_6 : fx_sf mx_16 mc_16_6 := sf_drop (l := mc_16_5) 7 sx_16_5
set_option maxRecDepth 100000 in
theorem sy_16 : ∀ r ∈ mx_16.2, fx_sf mx_16 r := (List.forall_mem_cons.mpr ⟨sx_16_0, (List.forall_mem_cons.mpr ⟨sx_16_1, (List.forall_mem_cons.mpr ⟨sx_16_2, (List.forall_mem_cons.mpr ⟨sx_16_3, (List.forall_mem_cons.mpr ⟨sx_16_4, (List.forall_mem_cons.mpr ⟨sx_16_5, (List.forall_mem_cons.mpr ⟨sx_16_6, (fun _ h => absurd h List.not_mem_nil)⟩)⟩)⟩)⟩)⟩)⟩)⟩)
theorem sx_17_0 : fx_sf mx_17 mc_17_0 := sf_self _
theorem sx_17_1 : fx_sf mx_17 mc_17_1 := sf_drop (l := mc_17_0) 10 sx_17_0
theorem sx_17_2 : fx_sf mx_17 mc_17_2 := sf_drop (l := mc_17_1) 8 sx_17_1
set_option maxRecDepth 100000 in
theorem sy_17 : ∀ r ∈ mx_17.2, fx_sf mx_17 r := (List.forall_mem_cons.mpr ⟨sx_17_0, (List.forall_mem_cons.mpr ⟨sx_17_1, (List.forall_mem_cons.mpr ⟨sx_17_2, (fun _ h => absurd h List.not_mem_nil)⟩)⟩)⟩)
theorem sx_18_0 : fx_sf mx_18 mc_18_0 := sf_self _
theorem sx_18_1 : fx_sf mx_18 mc_18_1 := sf_drop (l := mc_18_0) 9 sx_18_0
set_option maxRecDepth 100000 in
theorem sy_18 : ∀ r ∈ mx_18.2, fx_sf mx_18 r := (List.forall_mem_cons.mpr ⟨sx_18_0, (List.forall_mem_cons.mpr ⟨sx_18_1, (fun _ h => absurd h List.not_mem_nil)⟩)⟩)
theorem sx_19_0 : fx_sf mx_19 mc_19_0 := sf_self _
theorem sx_19_1 : fx_sf mx_19 mc_19_1 := sf_drop (l := mc_19_0) 11 sx_19_0
theorem sx_19_2 : fx_sf mx_19 mc_19_2 := sf_drop (l := mc_19_1) 10 sx_19_1
theorem sx_19_3 : fx_sf mx_19 mc_19_3 := sf_drop (l := mc_19_2) 5 sx_19_2
theorem sx_19_4 : fx_sf mx_19 mc_19_4 := sf_drop (l := mc_19_3) 0 sx_19_3
theorem sx_19_5 : fx_sf mx_19 mc_19_5 := sf_drop (l := mc_19_4) 0 sx_19_4
theorem sx_19_6 : fx_sf mx_19 mc_19_6 := sf_drop (l := mc_19_5) 0 sx_19_5
theorem sx_19_7 : fx_sf mx_19 mc_19_7 := sf_drop (l := mc_19_6) 0 sx_19_6
set_option maxRecDepth 100000 in
theorem sy_19 : ∀ r ∈ mx_19.2, fx_sf mx_19 r := (List.forall_mem_cons.mpr ⟨sx_19_0, (List.forall_mem_cons.mpr ⟨sx_19_1, (List.forall_mem_cons.mpr ⟨sx_19_2, (List.forall_mem_cons.mpr ⟨sx_19_3, (List.forall_mem_cons.mpr ⟨sx_19_4, (List.forall_mem_cons.mpr ⟨sx_19_5, (List.forall_mem_cons.mpr ⟨sx_19_6, (List.forall_mem_cons.mpr ⟨sx_19_7, (fun _ h => absurd h List.not_mem_nil)⟩)⟩)⟩)⟩)⟩)⟩)⟩)⟩)
theorem sx_20_0 : fx_sf mx_20 mc_20_0 := sf_self _
theorem sx_20_1 : fx_sf mx_20 mc_20_1 := sf_drop (l := mc_20_0) 9 sx_20_0
set_option maxRecDepth 100000 in
theorem sy_20 : ∀ r ∈ mx_20.2, fx_sf mx_20 r := (List.forall_mem_cons.mpr ⟨sx_20_0, (List.forall_mem_cons.mpr ⟨sx_20_1, (fun _ h => absurd h List.not_mem_nil)⟩)⟩)
theorem sx_21_0 : fx_sf mx_21 mc_21_0 := sf_self _
theorem sx_21_1 : fx_sf mx_21 mc_21_1 := sf_drop (l := mc_21_0) 9 sx_21_0
theorem sx_21_2 : fx_sf mx_21 mc_21_2 := sf_drop (l := mc_21_1) 8 sx_21_1
theorem sx_21_3 : fx_sf mx_21 mc_21_3 := sf_drop (l := mc_21_2) 8 sx_21_2
theorem sx_21_4 : fx_sf mx_21 mc_21_4 := sf_drop (l := mc_21_3) 8 sx_21_3
theorem sx_21_5 : fx_sf mx_21 mc_21_5 := sf_drop (l := mc_21_4) 8 sx_21_4
theorem sx_21_6 : fx_sf mx_21 mc_21_6 := sf_drop (l := mc_21_5) 8 sx_21_5
theorem sx_21_7 : fx_sf mx_21 mc_21_7 := sf_drop (l := mc_21_6) 8 sx_21_6
theorem sx_21_8 : fx_sf mx_21 mc_21_8 := sf_drop (l := mc_21_7) 8 sx_21_7
theorem sx_21_9 : fx_sf mx_21 mc_21_9 := sf_drop (l := mc_21_8) 8 sx_21_8
theorem sx_21_10 : fx_sf mx_21 mc_21_10 := sf_drop (l := mc_21_9) 8 sx_21_9
theorem sx_21_11 : fx_sf mx_21 mc_21_11 := sf_drop (l := mc_21_10) 8 sx_21_10
theorem sx_21_12 : fx_sf mx_21 mc_21_12 := sf_drop (l := mc_21_11) 7 sx_21_11
theorem sx_21_13 : fx_sf mx_21 mc_21_13 := sf_drop (l := mc_21_12) 8 sx_21_12
theorem sx_21_14 : fx_sf mx_21 mc_21_14 := sf_drop (l := mc_21_13) 9 sx_21_13
theorem sx_21_15 : fx_sf mx_21 mc_21_15 := sf_drop (l := mc_21_14) 10 sx_21_14
theorem sx_21_16 : fx_sf mx_21 mc_21_16 := sf_drop (l := mc_21_15) 10 sx_21_15
theorem sx_21_17 : fx_sf mx_21 mc_21_17 := sf_drop (l := mc_21_16) 11 sx_21_16
theorem sx_21_18 : fx_sf mx_21 mc_21_18 := sf_drop (l := mc_21_17) 10 sx_21_17
theorem sx_21_19 : fx_sf mx_21 mc_21_19 := sf_drop (l := mc_21_18) 11 sx_21_18
set_option maxRecDepth 100000 in
theorem sy_21 : ∀ r ∈ mx_21.2, fx_sf mx_21 r := (List.forall_mem_cons.mpr ⟨sx_21_0, (List.forall_mem_cons.mpr ⟨sx_21_1, (List.forall_mem_cons.mpr ⟨sx_21_2, (List.forall_mem_cons.mpr ⟨sx_21_3, (List.forall_mem_cons.mpr ⟨sx_21_4, (List.forall_mem_cons.mpr ⟨sx_21_5, (List.forall_mem_cons.mpr ⟨sx_21_6, (List.forall_mem_cons.mpr ⟨sx_21_7, (List.forall_mem_cons.mpr ⟨sx_21_8, (List.forall_mem_cons.mpr ⟨sx_21_9, (List.forall_mem_cons.mpr ⟨sx_21_10, (List.forall_mem_cons.mpr ⟨sx_21_11, (List.forall_mem_cons.mpr ⟨sx_21_12, (List.forall_mem_cons.mpr ⟨sx_21_13, (List.forall_mem_cons.mpr ⟨sx_21_14, (List.forall_mem_cons.mpr ⟨sx_21_15, (List.forall_mem_cons.mpr ⟨sx_21_16, (List.forall_mem_cons.mpr ⟨sx_21_17, (List.forall_mem_cons.mpr ⟨sx_21_18, (List.forall_mem_cons.mpr ⟨sx_21_19, (fun _ h => absurd h List.not_mem_nil)⟩)⟩)⟩)⟩)⟩)⟩)⟩)⟩)⟩)⟩)⟩)⟩)⟩)⟩)⟩)⟩)⟩)⟩)⟩)⟩)
theorem sx_22_0 : fx_sf mx_22 mc_22_0 := sf_self _
theorem sx_22_1 : fx_sf mx_22 mc_22_1 := sf_drop (l := mc_22_0) 7 sx_22_0
theorem sx_22_2 : fx_sf mx_22 mc_22_2 := sf_drop (l := mc_22_1) 0 sx_22_1
theorem sx_22_3 : fx_sf mx_22 mc_22_3 := sf_drop (l := mc_22_2) 6 sx_22_2
theorem sx_22_4 : fx_sf mx_22 mc_22_4 := sf_drop (l := mc_22_3) 8 sx_22_3
set_option maxRecDepth 100000 in
theorem sy_22 : ∀ r ∈ mx_22.2, fx_sf mx_22 r := (List.forall_mem_cons.mpr ⟨sx_22_0, (List.forall_mem_cons.mpr ⟨sx_22_1, (List.forall_mem_cons.mpr ⟨sx_22_2, (List.forall_mem_cons.mpr ⟨sx_22_3, (List.forall_mem_cons.mpr ⟨sx_22_4, (fun _ h => absurd h List.not_mem_nil)⟩)⟩)⟩)⟩)⟩)
theorem sx_23_0 : fx_sf mx_23 mc_23_0 := sf_self _
theorem sx_23_1 : fx_sf mx_23 mc_23_1 := sf_drop (l := mc_23_0) 11 sx_23_0
set_option maxRecDepth 100000 in
theorem sy_23 : ∀ r ∈ mx_23.2, fx_sf mx_23 r := (List.forall_mem_cons.mpr ⟨sx_23_0, (List.forall_mem_cons.mpr ⟨sx_23_1, (fun _ h => absurd h List.not_mem_nil)⟩)⟩)
theorem sx_24_0 : fx_sf mx_24 mc_24_0 := sf_self _
theorem sx_24_1 : fx_sf mx_24 mc_24_1 := sf_drop (l := mc_24_0) 8 sx_24_0
theorem sx_24_2 : fx_sf mx_24 mc_24_2 := sf_drop (l := mc_24_1) 8 sx_24_1
theorem sx_24_3 : fx_sf mx_24 mc_24_3 := sf_drop (l := mc_24_2) 8 sx_24_2
theorem sx_24_4 : fx_sf mx_24 mc_24_4 := sf_drop (l := mc_24_3) 6 sx_24_3
theorem sx_24_5 : fx_sf mx_24 mc_24_5 := sf_drop (l := mc_24_4) 8 sx_24_4
theorem sx_24_6 : fx_sf mx_24 mc_24_6 := sf_drop (l := mc_24_5) 8 sx_24_5
theorem sx_24_7 : fx_sf mx_24 mc_24_7 := sf_drop (l := mc_24_6) 7 sx_24_6
theorem sx_24_8 : fx_sf mx_24 mc_24_8 := sf_drop (l := mc_24_7) 8 sx_24_7
theorem sx_24_9 : fx_sf mx_24 mc_24_9 := sf_drop (l := mc_24_8) 8 sx_24_8
theorem sx_24_10 : fx_sf mx_24 mc_24_10 := sf_drop (l := mc_24_9) 10 sx_24_9
theorem sx_24_11 : fx_sf mx_24 mc_24_11 := sf_drop (l := mc_24_10) 8 sx_24_10
theorem sx_24_12 : fx_sf mx_24 mc_24_12 := sf_drop (l := mc_24_11) 9 sx_24_11
theorem sx_24_13 : fx_sf mx_24 mc_24_13 := sf_drop (l := mc_24_12) 9 sx_24_12
set_option maxRecDepth 100000 in
theorem sy_24 : ∀ r ∈ mx_24.2, fx_sf mx_24 r := (List.forall_mem_cons.mpr ⟨sx_24_0, (List.forall_mem_cons.mpr ⟨sx_24_1, (List.forall_mem_cons.mpr ⟨sx_24_2, (List.forall_mem_cons.mpr ⟨sx_24_3, (List.forall_mem_cons.mpr ⟨sx_24_4, (List.forall_mem_cons.mpr ⟨sx_24_5, (List.forall_mem_cons.mpr ⟨sx_24_6, (List.forall_mem_cons.mpr ⟨sx_24_7, (List.forall_mem_cons.mpr ⟨sx_24_8, (List.forall_mem_cons.mpr ⟨sx_24_9, (List.forall_mem_cons.mpr ⟨sx_24_10, (List.forall_mem_cons.mpr ⟨sx_24_11, (List.forall_mem_cons.mpr ⟨sx_24_12, (List.forall_mem_cons.mpr ⟨sx_24_13, (fun _ h => absurd h List.not_mem_nil)⟩)⟩)⟩)⟩)⟩)⟩)⟩)⟩)⟩)⟩)⟩)⟩)⟩)⟩)
theorem sx_25_0 : fx_sf mx_25 mc_25_0 := sf_self _
theorem sx_25_1 : fx_sf mx_25 mc_25_1 := sf_drop (l := mc_25_0) 11 sx_25_0
theorem sx_25_2 : fx_sf mx_25 mc_25_2 := sf_drop (l := mc_25_1) 6 sx_25_1
set_option maxRecDepth 100000 in
theorem sy_25 : ∀ r ∈ mx_25.2, fx_sf mx_25 r := (List.forall_mem_cons.mpr ⟨sx_25_0, (List.forall_mem_cons.mpr ⟨sx_25_1, (List.forall_mem_cons.mpr ⟨sx_25_2, (fun _ h => absurd h List.not_mem_nil)⟩)⟩)⟩)
theorem sx_26_0 : fx_sf mx_26 mc_26_0 := sf_self _
set_option maxRecDepth 100000 in
theorem sy_26 : ∀ r ∈ mx_26.2, fx_sf mx_26 r := (List.forall_mem_cons.mpr ⟨sx_26_0, (fun _ h => absurd h List.not_mem_nil)⟩)
theorem sx_27_0 : fx_sf mx_27 mc_27_0 := sf_self _
set_option maxRecDepth 100000 in
theorem sy_27 : ∀ r ∈ mx_27.2, fx_sf mx_27 r := (List.forall_mem_cons.mpr ⟨sx_27_0, (fun _ h => absurd h List.not_mem_nil)⟩)
theorem sx_28_0 : fx_sf mx_28 mc_28_0 := sf_self _
theorem sx_28_1 : fx_sf mx_28 mc_28_1 := sf_drop (l := mc_28_0) 9 sx_28_0
theorem sx_28_2 : fx_sf mx_28 mc_28_2 := sf_drop (l := mc_28_1) 8 sx_28_1
theorem sx_28_3 : fx_sf mx_28 mc_28_3 := sf_drop (l := mc_28_2) 8 sx_28_2
theorem sx_28_4 : fx_sf mx_28 mc_28_4 := sf_drop (l := mc_28_3) 3 sx_28_3
theorem sx_28_5 : fx_sf mx_28 mc_28_5 := sf_drop (l := mc_28_4) 5 sx_28_4
theorem sx_28_6 : fx_sf mx_28 mc_28_6 := sf_drop (l := mc_28_5) 3 sx_28_5
theorem sx_28_7 : fx_sf mx_28 mc_28_7 := sf_drop (l := mc_28_6) 10 sx_28_6
theorem sx_28_8 : fx_sf mx_28 mc_28_8 := sf_drop (l := mc_28_7) 7 sx_28_7
set_option maxRecDepth 100000 in
theorem sy_28 : ∀ r ∈ mx_28.2, fx_sf mx_28 r := (List.forall_mem_cons.mpr ⟨sx_28_0, (List.forall_mem_cons.mpr ⟨sx_28_1, (List.forall_mem_cons.mpr ⟨sx_28_2, (List.forall_mem_cons.mpr ⟨sx_28_3, (List.forall_mem_cons.mpr ⟨sx_28_4, (List.forall_mem_cons.mpr ⟨sx_28_5, (List.forall_mem_cons.mpr ⟨sx_28_6, (List.forall_mem_cons.mpr ⟨sx_28_7, (List.forall_mem_cons.mpr ⟨sx_28_8, (fun _ h => absurd h List.not_mem_nil)⟩)⟩)⟩)⟩)⟩)⟩)⟩)⟩)⟩)
theorem sx_29_0 : fx_sf mx_29 mc_29_0 := sf_self _
set_option maxRecDepth 100000 in
theorem sy_29 : ∀ r ∈ mx_29.2, fx_sf mx_29 r := (List.forall_mem_cons.mpr ⟨sx_29_0, (fun _ h => absurd h List.not_mem_nil)⟩)
theorem sx_30_0 : fx_sf mx_30 mc_30_0 := sf_self _
set_option maxRecDepth 100000 in
theorem sy_30 : ∀ r ∈ mx_30.2, fx_sf mx_30 r := (List.forall_mem_cons.mpr ⟨sx_30_0, (fun _ h => absurd h List.not_mem_nil)⟩)
theorem sx_31_0 : fx_sf mx_31 mc_31_0 := sf_self _
theorem sx_31_1 : fx_sf mx_31 mc_31_1 := sf_drop (l := mc_31_0) 12 sx_31_0
set_option maxRecDepth 100000 in
theorem sy_31 : ∀ r ∈ mx_31.2, fx_sf mx_31 r := (List.forall_mem_cons.mpr ⟨sx_31_0, (List.forall_mem_cons.mpr ⟨sx_31_1, (fun _ h => absurd h List.not_mem_nil)⟩)⟩)
theorem sx_32_0 : fx_sf mx_32 mc_32_0 := sf_self _
set_option maxRecDepth 100000 in
theorem sy_32 : ∀ r ∈ mx_32.2, fx_sf mx_32 r := (List.forall_mem_cons.mpr ⟨sx_32_0, (fun _ h => absurd h List.not_mem_nil)⟩)
theorem sx_33_0 : fx_sf mx_33 mc_33_0 := sf_self _
theorem sx_33_1 : fx_sf mx_33 mc_33_1 := sf_drop (l := mc_33_0) 9 sx_33_0
theorem sx_33_2 : fx_sf mx_33 mc_33_2 := sf_drop (l := mc_33_1) 9 sx_33_1
theorem sx_33_3 : fx_sf mx_33 mc_33_3 := sf_drop (l := mc_33_2) 8 sx_33_2
theorem sx_33_4 : fx_sf mx_33 mc_33_4 := sf_drop (l := mc_33_3) 10 sx_33_3
theorem sx_33_5 : fx_sf mx_33 mc_33_5 := sf_drop (l := mc_33_4) 8 sx_33_4
set_option maxRecDepth 100000 in
theorem sy_33 : ∀ r ∈ mx_33.2, fx_sf mx_33 r := (List.forall_mem_cons.mpr ⟨sx_33_0, (List.forall_mem_cons.mpr ⟨sx_33_1, (List.forall_mem_cons.mpr ⟨sx_33_2, (List.forall_mem_cons.mpr ⟨sx_33_3, (List.forall_mem_cons.mpr ⟨sx_33_4, (List.forall_mem_cons.mpr ⟨sx_33_5, (fun _ h => absurd h List.not_mem_nil)⟩)⟩)⟩)⟩)⟩)⟩)
theorem sx_34_0 : fx_sf mx_34 mc_34_0 := sf_self _
theorem sx_34_1 : fx_sf mx_34 mc_34_1 := sf_drop (l := mc_34_0) 12 sx_34_0
set_option maxRecDepth 100000 in
theorem sy_34 : ∀ r ∈ mx_34.2, fx_sf mx_34 r := (List.forall_mem_cons.mpr ⟨sx_34_0, (List.forall_mem_cons.mpr ⟨sx_34_1, (fun _ h => absurd h List.not_mem_nil)⟩)⟩)
theorem sx_35_0 : fx_sf mx_35 mc_35_0 := sf_self _
theorem sx_35_1 : fx_sf mx_35 mc_35_1 := sf_drop (l := mc_35_0) 10 sx_35_0
theorem sx_35_2 : fx_sf mx_35 mc_35_2 := sf_drop (l := mc_35_1) 7 sx_35_1
theorem sx_35_3 : fx_sf mx_35 mc_35_3 := sf_drop (l := mc_35_2) 8 sx_35_2
theorem sx_35_4 : fx_sf mx_35 mc_35_4 := sf_drop (l := mc_35_3) 12 sx_35_3
theorem sx_35_5 : fx_sf mx_35 mc_35_5 := sf_drop (l := mc_35_4) 9 sx_35_4
theorem sx_35_6 : fx_sf mx_35 mc_35_6 := sf_drop (l := mc_35_5) 8 sx_35_5
theorem sx_35_7 : fx_sf mx_35 mc_35_7 := sf_drop (l := mc_35_6) 10 sx_35_6
theorem sx_35_8 : fx_sf mx_35 mc_35_8 := sf_drop (l := mc_35_7) 5 sx_35_7
set_option maxRecDepth 100000 in
theorem sy_35 : ∀ r ∈ mx_35.2, fx_sf mx_35 r := (List.forall_mem_cons.mpr ⟨sx_35_0, (List.forall_mem_cons.mpr ⟨sx_35_1, (List.forall_mem_cons.mpr ⟨sx_35_2, (List.forall_mem_cons.mpr ⟨sx_35_3, (List.forall_mem_cons.mpr ⟨sx_35_4, (List.forall_mem_cons.mpr ⟨sx_35_5, (List.forall_mem_cons.mpr ⟨sx_35_6, (List.forall_mem_cons.mpr ⟨sx_35_7, (List.forall_mem_cons.mpr ⟨sx_35_8, (fun _ h => absurd h List.not_mem_nil)⟩)⟩)⟩)⟩)⟩)⟩)⟩)⟩)⟩)
theorem sx_36_0 : fx_sf mx_36 mc_36_0 := sf_self _
theorem sx_36_1 : fx_sf mx_36 mc_36_1 := sf_drop (l := mc_36_0) 10 sx_36_0
theorem sx_36_2 : fx_sf mx_36 mc_36_2 := sf_drop (l := mc_36_1) 11 sx_36_1
theorem sx_36_3 : fx_sf mx_36 mc_36_3 := sf_drop (l := mc_36_2) 8 sx_36_2
theorem sx_36_4 : fx_sf mx_36 mc_36_4 := sf_drop (l := mc_36_3) 14 sx_36_3
theorem sx_36_5 : fx_sf mx_36 mc_36_5 := sf_drop (l := mc_36_4) 7 sx_36_4
theorem sx_36_6 : fx_sf mx_36 mc_36_6 := sf_drop (l := mc_36_5) 0 sx_36_5
theorem sx_36_7 : fx_sf mx_36 mc_36_7 := sf_drop (l := mc_36_6) 3 sx_36_6
theorem sx_36_8 : fx_sf mx_36 mc_36_8 := sf_drop (l := mc_36_7) 7 sx_36_7
theorem sx_36_9 : fx_sf mx_36 mc_36_9 := sf_drop (l := mc_36_8) 0 sx_36_8
theorem sx_36_10 : fx_sf mx_36 mc_36_10 := sf_drop (l := mc_36_9) 4 sx_36_9
theorem sx_36_11 : fx_sf mx_36 mc_36_11 := sf_drop (l := mc_36_10) 9 sx_36_10
theorem sx_36_12 : fx_sf mx_36 mc_36_12 := sf_drop (l := mc_36_11) 5 sx_36_11
theorem sx_36_13 : fx_sf mx_36 mc_36_13 := sf_drop (l := mc_36_12) 0 sx_36_12
theorem sx_36_14 : fx_sf mx_36 mc_36_14 := sf_drop (l := mc_36_13) 2 sx_36_13
theorem sx_36_15 : fx_sf mx_36 mc_36_15 := sf_drop (l := mc_36_14) 8 sx_36_14
set_option maxRecDepth 100000 in
theorem sy_36 : ∀ r ∈ mx_36.2, fx_sf mx_36 r := (List.forall_mem_cons.mpr ⟨sx_36_0, (List.forall_mem_cons.mpr ⟨sx_36_1, (List.forall_mem_cons.mpr ⟨sx_36_2, (List.forall_mem_cons.mpr ⟨sx_36_3, (List.forall_mem_cons.mpr ⟨sx_36_4, (List.forall_mem_cons.mpr ⟨sx_36_5, (List.forall_mem_cons.mpr ⟨sx_36_6, (List.forall_mem_cons.mpr ⟨sx_36_7, (List.forall_mem_cons.mpr ⟨sx_36_8, (List.forall_mem_cons.mpr ⟨sx_36_9, (List.forall_mem_cons.mpr ⟨sx_36_10, (List.forall_mem_cons.mpr ⟨sx_36_11, (List.forall_mem_cons.mpr ⟨sx_36_12, (List.forall_mem_cons.mpr ⟨sx_36_13, (List.forall_mem_cons.mpr ⟨sx_36_14, (List.forall_mem_cons.mpr ⟨sx_36_15, (fun _ h => absurd h List.not_mem_nil)⟩)⟩)⟩)⟩)⟩)⟩)⟩)⟩)⟩)⟩)⟩)⟩)⟩)⟩)⟩)⟩)
theorem sx_37_0 : fx_sf mx_37 mc_37_0 := sf_self _
theorem sx_37_1 : fx_sf mx_37 mc_37_1 := sf_drop (l := mc_37_0) 11 sx_37_0
theorem sx_37_2 : fx_sf mx_37 mc_37_2 := sf_drop (l := mc_37_1) 6 sx_37_1
theorem sx_37_3 : fx_sf mx_37 mc_37_3 := sf_drop (l := mc_37_2) 0 sx_37_2
theorem sx_37_4 : fx_sf mx_37 mc_37_4 := sf_drop (l := mc_37_3) 6 sx_37_3
theorem sx_37_5 : fx_sf mx_37 mc_37_5 := sf_drop (l := mc_37_4) 9 sx_37_4
theorem sx_37_6 : fx_sf mx_37 mc_37_6 := sf_drop (l := mc_37_5) 0 sx_37_5
theorem sx_37_7 : fx_sf mx_37 mc_37_7 := sf_drop (l := mc_37_6) 0 sx_37_6
theorem sx_37_8 : fx_sf mx_37 mc_37_8 := sf_drop (l := mc_37_7) 0 sx_37_7
theorem sx_37_9 : fx_sf mx_37 mc_37_9 := sf_drop (l := mc_37_8) 0 sx_37_8
set_option maxRecDepth 100000 in
theorem sy_37 : ∀ r ∈ mx_37.2, fx_sf mx_37 r := (List.forall_mem_cons.mpr ⟨sx_37_0, (List.forall_mem_cons.mpr ⟨sx_37_1, (List.forall_mem_cons.mpr ⟨sx_37_2, (List.forall_mem_cons.mpr ⟨sx_37_3, (List.forall_mem_cons.mpr ⟨sx_37_4, (List.forall_mem_cons.mpr ⟨sx_37_5, (List.forall_mem_cons.mpr ⟨sx_37_6, (List.forall_mem_cons.mpr ⟨sx_37_7, (List.forall_mem_cons.mpr ⟨sx_37_8, (List.forall_mem_cons.mpr ⟨sx_37_9, (fun _ h => absurd h List.not_mem_nil)⟩)⟩)⟩)⟩)⟩)⟩)⟩)⟩)⟩)⟩)
theorem sx_38_0 : fx_sf mx_38 mc_38_0 := sf_self _
theorem sx_38_1 : fx_sf mx_38 mc_38_1 := sf_drop (l := mc_38_0) 8 sx_38_0
theorem sx_38_2 : fx_sf mx_38 mc_38_2 := sf_drop (l := mc_38_1) 10 sx_38_1
theorem sx_38_3 : fx_sf mx_38 mc_38_3 := sf_drop (l := mc_38_2) 8 sx_38_2
theorem sx_38_4 : fx_sf mx_38 mc_38_4 := sf_drop (l := mc_38_3) 11 sx_38_3
theorem sx_38_5 : fx_sf mx_38 mc_38_5 := sf_drop (l := mc_38_4) 10 sx_38_4
theorem sx_38_6 : fx_sf mx_38 mc_38_6 := sf_drop (l := mc_38_5) 6 sx_38_5
theorem sx_38_7 : fx_sf mx_38 mc_38_7 := sf_drop (l := mc_38_6) 0 sx_38_6
theorem sx_38_8 : fx_sf mx_38 mc_38_8 := sf_drop (l := mc_38_7) 0 sx_38_7
theorem sx_38_9 : fx_sf mx_38 mc_38_9 := sf_drop (l := mc_38_8) 3 sx_38_8
theorem sx_38_10 : fx_sf mx_38 mc_38_10 := sf_drop (l := mc_38_9) 8 sx_38_9
theorem sx_38_11 : fx_sf mx_38 mc_38_11 := sf_drop (l := mc_38_10) 8 sx_38_10
set_option maxRecDepth 100000 in
theorem sy_38 : ∀ r ∈ mx_38.2, fx_sf mx_38 r := (List.forall_mem_cons.mpr ⟨sx_38_0, (List.forall_mem_cons.mpr ⟨sx_38_1, (List.forall_mem_cons.mpr ⟨sx_38_2, (List.forall_mem_cons.mpr ⟨sx_38_3, (List.forall_mem_cons.mpr ⟨sx_38_4, (List.forall_mem_cons.mpr ⟨sx_38_5, (List.forall_mem_cons.mpr ⟨sx_38_6, (List.forall_mem_cons.mpr ⟨sx_38_7, (List.forall_mem_cons.mpr ⟨sx_38_8, (List.forall_mem_cons.mpr ⟨sx_38_9, (List.forall_mem_cons.mpr ⟨sx_38_10, (List.forall_mem_cons.mpr ⟨sx_38_11, (fun _ h => absurd h List.not_mem_nil)⟩)⟩)⟩)⟩)⟩)⟩)⟩)⟩)⟩)⟩)⟩)⟩)
theorem sx_39_0 : fx_sf mx_39 mc_39_0 := sf_self _
theorem sx_39_1 : fx_sf mx_39 mc_39_1 := sf_drop (l := mc_39_0) 9 sx_39_0
set_option maxRecDepth 100000 in
theorem sy_39 : ∀ r ∈ mx_39.2, fx_sf mx_39 r := (List.forall_mem_cons.mpr ⟨sx_39_0, (List.forall_mem_cons.mpr ⟨sx_39_1, (fun _ h => absurd h List.not_mem_nil)⟩)⟩)
theorem sx_40_0 : fx_sf mx_40 mc_40_0 := sf_self _
theorem sx_40_1 : fx_sf mx_40 mc_40_1 := sf_drop (l := mc_40_0) 9 sx_40_0
set_option maxRecDepth 100000 in
theorem sy_40 : ∀ r ∈ mx_40.2, fx_sf mx_40 r := (List.forall_mem_cons.mpr ⟨sx_40_0, (List.forall_mem_cons.mpr ⟨sx_40_1, (fun _ h => absurd h List.not_mem_nil)⟩)⟩)
theorem sx_41_0 : fx_sf mx_41 mc_41_0 := sf_self _
theorem sx_41_1 : fx_sf mx_41 mc_41_1 := sf_drop (l := mc_41_0) 5 sx_41_0
set_option maxRecDepth 100000 in
theorem sy_41 : ∀ r ∈ mx_41.2, fx_sf mx_41 r := (List.forall_mem_cons.mpr ⟨sx_41_0, (List.forall_mem_cons.mpr ⟨sx_41_1, (fun _ h => absurd h List.not_mem_nil)⟩)⟩)
theorem sx_42_0 : fx_sf mx_42 mc_42_0 := sf_self _
theorem sx_42_1 : fx_sf mx_42 mc_42_1 := sf_drop (l := mc_42_0) 9 sx_42_0
set_option maxRecDepth 100000 in
theorem sy_42 : ∀ r ∈ mx_42.2, fx_sf mx_42 r := (List.forall_mem_cons.mpr ⟨sx_42_0, (List.forall_mem_cons.mpr ⟨sx_42_1, (fun _ h => absurd h List.not_mem_nil)⟩)⟩)
theorem sx_43_0 : fx_sf mx_43 mc_43_0 := sf_self _
theorem sx_43_1 : fx_sf mx_43 mc_43_1 := sf_drop (l := mc_43_0) 7 sx_43_0
theorem sx_43_2 : fx_sf mx_43 mc_43_2 := sf_drop (l := mc_43_1) 0 sx_43_1
theorem sx_43_3 : fx_sf mx_43 mc_43_3 := sf_drop (l := mc_43_2) 6 sx_43_2
set_option maxRecDepth 100000 in
theorem sy_43 : ∀ r ∈ mx_43.2, fx_sf mx_43 r := (List.forall_mem_cons.mpr ⟨sx_43_0, (List.forall_mem_cons.mpr ⟨sx_43_1, (List.forall_mem_cons.mpr ⟨sx_43_2, (List.forall_mem_cons.mpr ⟨sx_43_3, (fun _ h => absurd h List.not_mem_nil)⟩)⟩)⟩)⟩)
theorem sx_44_0 : fx_sf mx_44 mc_44_0 := sf_self _
theorem sx_44_1 : fx_sf mx_44 mc_44_1 := sf_drop (l := mc_44_0) 9 sx_44_0
theorem sx_44_2 : fx_sf mx_44 mc_44_2 := sf_drop (l := mc_44_1) 7 sx_44_1
set_option maxRecDepth 100000 in
theorem sy_44 : ∀ r ∈ mx_44.2, fx_sf mx_44 r := (List.forall_mem_cons.mpr ⟨sx_44_0, (List.forall_mem_cons.mpr ⟨sx_44_1, (List.forall_mem_cons.mpr ⟨sx_44_2, (fun _ h => absurd h List.not_mem_nil)⟩)⟩)⟩)
theorem sx_45_0 : fx_sf mx_45 mc_45_0 := sf_self _
theorem sx_45_1 : fx_sf mx_45 mc_45_1 := sf_drop (l := mc_45_0) 13 sx_45_0
set_option maxRecDepth 100000 in
theorem sy_45 : ∀ r ∈ mx_45.2, fx_sf mx_45 r := (List.forall_mem_cons.mpr ⟨sx_45_0, (List.forall_mem_cons.mpr ⟨sx_45_1, (fun _ h => absurd h List.not_mem_nil)⟩)⟩)
theorem sx_46_0 : fx_sf mx_46 mc_46_0 := sf_self _
theorem sx_46_1 : fx_sf mx_46 mc_46_1 := sf_drop (l := mc_46_0) 11 sx_46_0
theorem sx_46_2 : fx_sf mx_46 mc_46_2 := sf_drop (l := mc_46_1) 10 sx_46_1
theorem sx_46_3 : fx_sf mx_46 mc_46_3 := sf_drop (l := mc_46_2) 8 sx_46_2
set_option maxRecDepth 100000 in
theorem sy_46 : ∀ r ∈ mx_46.2, fx_sf mx_46 r := (List.forall_mem_cons.mpr ⟨sx_46_0, (List.forall_mem_cons.mpr ⟨sx_46_1, (List.forall_mem_cons.mpr ⟨sx_46_2, (List.forall_mem_cons.mpr ⟨sx_46_3, (fun _ h => absurd h List.not_mem_nil)⟩)⟩)⟩)⟩)
theorem sx_47_0 : fx_sf mx_47 mc_47_0 := sf_self _
theorem sx_47_1 : fx_sf mx_47 mc_47_1 := sf_drop (l := mc_47_0) 10 sx_47_0
theorem sx_47_2 : fx_sf mx_47 mc_47_2 := sf_drop (l := mc_47_1) 4 sx_47_1
theorem sx_47_3 : fx_sf mx_47 mc_47_3 := sf_drop (l := mc_47_2) 4 sx_47_2
theorem sx_47_4 : fx_sf mx_47 mc_47_4 := sf_drop (l := mc_47_3) 9 sx_47_3
theorem sx_47_5 : fx_sf mx_47 mc_47_5 := sf_drop (l := mc_47_4) 7 sx_47_4
theorem sx_47_6 : fx_sf mx_47 mc_47_6 := sf_drop (l := mc_47_5) 0 sx_47_5
theorem sx_47_7 : fx_sf mx_47 mc_47_7 := sf_drop (l := mc_47_6) 0 sx_47_6
theorem sx_47_8 : fx_sf mx_47 mc_47_8 := sf_drop (l := mc_47_7) 6 sx_47_7
theorem sx_47_9 : fx_sf mx_47 mc_47_9 := sf_drop (l := mc_47_8) 4 sx_47_8
theorem sx_47_10 : fx_sf mx_47 mc_47_10 := sf_drop (l := mc_47_9) 0 sx_47_9
theorem sx_47_11 : fx_sf mx_47 mc_47_11 := sf_drop (l := mc_47_10) 0 sx_47_10
theorem sx_47_12 : fx_sf mx_47 mc_47_12 := sf_drop (l := mc_47_11) 6 sx_47_11
theorem sx_47_13 : fx_sf mx_47 mc_47_13 := sf_drop (l := mc_47_12) 0 sx_47_12
theorem sx_47_14 : fx_sf mx_47 mc_47_14 := sf_drop (l := mc_47_13) 0 sx_47_13
theorem sx_47_15 : fx_sf mx_47 mc_47_15 := sf_drop (l := mc_47_14) 10 sx_47_14
theorem sx_47_16 : fx_sf mx_47 mc_47_16 := sf_drop (l := mc_47_15) 6 sx_47_15
set_option maxRecDepth 100000 in
theorem sy_47 : ∀ r ∈ mx_47.2, fx_sf mx_47 r := (List.forall_mem_cons.mpr ⟨sx_47_0, (List.forall_mem_cons.mpr ⟨sx_47_1, (List.forall_mem_cons.mpr ⟨sx_47_2, (List.forall_mem_cons.mpr ⟨sx_47_3, (List.forall_mem_cons.mpr ⟨sx_47_4, (List.forall_mem_cons.mpr ⟨sx_47_5, (List.forall_mem_cons.mpr ⟨sx_47_6, (List.forall_mem_cons.mpr ⟨sx_47_7, (List.forall_mem_cons.mpr ⟨sx_47_8, (List.forall_mem_cons.mpr ⟨sx_47_9, (List.forall_mem_cons.mpr ⟨sx_47_10, (List.forall_mem_cons.mpr ⟨sx_47_11, (List.forall_mem_cons.mpr ⟨sx_47_12, (List.forall_mem_cons.mpr ⟨sx_47_13, (List.forall_mem_cons.mpr ⟨sx_47_14, (List.forall_mem_cons.mpr ⟨sx_47_15, (List.forall_mem_cons.mpr ⟨sx_47_16, (fun _ h => absurd h List.not_mem_nil)⟩)⟩)⟩)⟩)⟩)⟩)⟩)⟩)⟩)⟩)⟩)⟩)⟩)⟩)⟩)⟩)⟩)
theorem sx_48_0 : fx_sf mx_48 mc_48_0 := sf_self _
theorem sx_48_1 : fx_sf mx_48 mc_48_1 := sf_drop (l := mc_48_0) 9 sx_48_0
theorem sx_48_2 : fx_sf mx_48 mc_48_2 := sf_drop (l := mc_48_1) 9 sx_48_1
theorem sx_48_3 : fx_sf mx_48 mc_48_3 := sf_drop (l := mc_48_2) 8 sx_48_2
theorem sx_48_4 : fx_sf mx_48 mc_48_4 := sf_drop (l := mc_48_3) 8 sx_48_3
set_option maxRecDepth 100000 in
theorem sy_48 : ∀ r ∈ mx_48.2, fx_sf mx_48 r := (List.forall_mem_cons.mpr ⟨sx_48_0, (List.forall_mem_cons.mpr ⟨sx_48_1, (List.forall_mem_cons.mpr ⟨sx_48_2, (List.forall_mem_cons.mpr ⟨sx_48_3, (List.forall_mem_cons.mpr ⟨sx_48_4, (fun _ h => absurd h List.not_mem_nil)⟩)⟩)⟩)⟩)⟩)
theorem sx_49_0 : fx_sf mx_49 mc_49_0 := sf_self _
theorem sx_49_1 : fx_sf mx_49 mc_49_1 := sf_drop (l := mc_49_0) 11 sx_49_0
theorem sx_49_2 : fx_sf mx_49 mc_49_2 := sf_drop (l := mc_49_1) 9 sx_49_1
theorem sx_49_3 : fx_sf mx_49 mc_49_3 := sf_drop (l := mc_49_2) 6 sx_49_2
theorem sx_49_4 : fx_sf mx_49 mc_49_4 := sf_drop (l := mc_49_3) 0 sx_49_3
theorem sx_49_5 : fx_sf mx_49 mc_49_5 := sf_drop (l := mc_49_4) 0 sx_49_4
theorem sx_49_6 : fx_sf mx_49 mc_49_6 := sf_drop (l := mc_49_5) 0 sx_49_5
theorem sx_49_7 : fx_sf mx_49 mc_49_7 := sf_drop (l := mc_49_6) 2 sx_49_6
set_option maxRecDepth 100000 in
theorem sy_49 : ∀ r ∈ mx_49.2, fx_sf mx_49 r := (List.forall_mem_cons.mpr ⟨sx_49_0, (List.forall_mem_cons.mpr ⟨sx_49_1, (List.forall_mem_cons.mpr ⟨sx_49_2, (List.forall_mem_cons.mpr ⟨sx_49_3, (List.forall_mem_cons.mpr ⟨sx_49_4, (List.forall_mem_cons.mpr ⟨sx_49_5, (List.forall_mem_cons.mpr ⟨sx_49_6, (List.forall_mem_cons.mpr ⟨sx_49_7, (fun _ h => absurd h List.not_mem_nil)⟩)⟩)⟩)⟩)⟩)⟩)⟩)⟩)
theorem sx_50_0 : fx_sf mx_50 mc_50_0 := sf_self _
theorem sx_50_1 : fx_sf mx_50 mc_50_1 := sf_drop (l := mc_50_0) 9 sx_50_0
theorem sx_50_2 : fx_sf mx_50 mc_50_2 := sf_drop (l := mc_50_1) 8 sx_50_1
set_option maxRecDepth 100000 in
theorem sy_50 : ∀ r ∈ mx_50.2, fx_sf mx_50 r := (List.forall_mem_cons.mpr ⟨sx_50_0, (List.forall_mem_cons.mpr ⟨sx_50_1, (List.forall_mem_cons.mpr ⟨sx_50_2, (fun _ h => absurd h List.not_mem_nil)⟩)⟩)⟩)
theorem sx_51_0 : fx_sf mx_51 mc_51_0 := sf_self _
theorem sx_51_1 : fx_sf mx_51 mc_51_1 := sf_drop (l := mc_51_0) 11 sx_51_0
set_option maxRecDepth 100000 in
theorem sy_51 : ∀ r ∈ mx_51.2, fx_sf mx_51 r := (List.forall_mem_cons.mpr ⟨sx_51_0, (List.forall_mem_cons.mpr ⟨sx_51_1, (fun _ h => absurd h List.not_mem_nil)⟩)⟩)
theorem sx_52_0 : fx_sf mx_52 mc_52_0 := sf_self _
theorem sx_52_1 : fx_sf mx_52 mc_52_1 := sf_drop (l := mc_52_0) 10 sx_52_0
theorem sx_52_2 : fx_sf mx_52 mc_52_2 := sf_drop (l := mc_52_1) 7 sx_52_1
theorem sx_52_3 : fx_sf mx_52 mc_52_3 := sf_drop (l := mc_52_2) 9 sx_52_2
theorem sx_52_4 : fx_sf mx_52 mc_52_4 := sf_drop (l := mc_52_3) 9 sx_52_3
theorem sx_52_5 : fx_sf mx_52 mc_52_5 := sf_drop (l := mc_52_4) 8 sx_52_4
theorem sx_52_6 : fx_sf mx_52 mc_52_6 := sf_drop (l := mc_52_5) 9 sx_52_5
set_option maxRecDepth 100000 in
theorem sy_52 : ∀ r ∈ mx_52.2, fx_sf mx_52 r := (List.forall_mem_cons.mpr ⟨sx_52_0, (List.forall_mem_cons.mpr ⟨sx_52_1, (List.forall_mem_cons.mpr ⟨sx_52_2, (List.forall_mem_cons.mpr ⟨sx_52_3, (List.forall_mem_cons.mpr ⟨sx_52_4, (List.forall_mem_cons.mpr ⟨sx_52_5, (List.forall_mem_cons.mpr ⟨sx_52_6, (fun _ h => absurd h List.not_mem_nil)⟩)⟩)⟩)⟩)⟩)⟩)⟩)
theorem sx_53_0 : fx_sf mx_53 mc_53_0 := sf_self _
theorem sx_53_1 : fx_sf mx_53 mc_53_1 := sf_drop (l := mc_53_0) 11 sx_53_0
theorem sx_53_2 : fx_sf mx_53 mc_53_2 := sf_drop (l := mc_53_1) 9 sx_53_1
theorem sx_53_3 : fx_sf mx_53 mc_53_3 := sf_drop (l := mc_53_2) 8 sx_53_2
theorem sx_53_4 : fx_sf mx_53 mc_53_4 := sf_drop (l := mc_53_3) 9 sx_53_3
theorem sx_53_5 : fx_sf mx_53 mc_53_5 := sf_drop (l := mc_53_4) 7 sx_53_4
set_option maxRecDepth 100000 in
theorem sy_53 : ∀ r ∈ mx_53.2, fx_sf mx_53 r := (List.forall_mem_cons.mpr ⟨sx_53_0, (List.forall_mem_cons.mpr ⟨sx_53_1, (List.forall_mem_cons.mpr ⟨sx_53_2, (List.forall_mem_cons.mpr ⟨sx_53_3, (List.forall_mem_cons.mpr ⟨sx_53_4, (List.forall_mem_cons.mpr ⟨sx_53_5, (fun _ h => absurd h List.not_mem_nil)⟩)⟩)⟩)⟩)⟩)⟩)
theorem sx_54_0 : fx_sf mx_54 mc_54_0 := sf_self _
theorem sx_54_1 : fx_sf mx_54 mc_54_1 := sf_drop (l := mc_54_0) 10 sx_54_0
theorem sx_54_2 : fx_sf mx_54 mc_54_2 := sf_drop (l := mc_54_1) 8 sx_54_1
theorem sx_54_3 : fx_sf mx_54 mc_54_3 := sf_drop (l := mc_54_2) 9 sx_54_2
theorem sx_54_4 : fx_sf mx_54 mc_54_4 := sf_drop (l := mc_54_3) 3 sx_54_3
theorem sx_54_5 : fx_sf mx_54 mc_54_5 := sf_drop (l := mc_54_4) 0 sx_54_4
set_option maxRecDepth 100000 in
theorem sy_54 : ∀ r ∈ mx_54.2, fx_sf mx_54 r := (List.forall_mem_cons.mpr ⟨sx_54_0, (List.forall_mem_cons.mpr ⟨sx_54_1, (List.forall_mem_cons.mpr ⟨sx_54_2, (List.forall_mem_cons.mpr ⟨sx_54_3, (List.forall_mem_cons.mpr ⟨sx_54_4, (List.forall_mem_cons.mpr ⟨sx_54_5, (fun _ h => absurd h List.not_mem_nil)⟩)⟩)⟩)⟩)⟩)⟩)
theorem sx_55_0 : fx_sf mx_55 mc_55_0 := sf_self _
theorem sx_55_1 : fx_sf mx_55 mc_55_1 := sf_drop (l := mc_55_0) 9 sx_55_0
theorem sx_55_2 : fx_sf mx_55 mc_55_2 := sf_drop (l := mc_55_1) 8 sx_55_1
theorem sx_55_3 : fx_sf mx_55 mc_55_3 := sf_drop (l := mc_55_2) 8 sx_55_2
theorem sx_55_4 : fx_sf mx_55 mc_55_4 := sf_drop (l := mc_55_3) 8 sx_55_3
set_option maxRecDepth 100000 in
theorem sy_55 : ∀ r ∈ mx_55.2, fx_sf mx_55 r := (List.forall_mem_cons.mpr ⟨sx_55_0, (List.forall_mem_cons.mpr ⟨sx_55_1, (List.forall_mem_cons.mpr ⟨sx_55_2, (List.forall_mem_cons.mpr ⟨sx_55_3, (List.forall_mem_cons.mpr ⟨sx_55_4, (fun _ h => absurd h List.not_mem_nil)⟩)⟩)⟩)⟩)⟩)
theorem sx_56_0 : fx_sf mx_56 mc_56_0 := sf_self _
theorem sx_56_1 : fx_sf mx_56 mc_56_1 := sf_drop (l := mc_56_0) 9 sx_56_0
theorem sx_56_2 : fx_sf mx_56 mc_56_2 := sf_drop (l := mc_56_1) 10 sx_56_1
theorem sx_56_3 : fx_sf mx_56 mc_56_3 := sf_drop (l := mc_56_2) 11 sx_56_2
set_option maxRecDepth 100000 in
theorem sy_56 : ∀ r ∈ mx_56.2, fx_sf mx_56 r := (List.forall_mem_cons.mpr ⟨sx_56_0, (List.forall_mem_cons.mpr ⟨sx_56_1, (List.forall_mem_cons.mpr ⟨sx_56_2, (List.forall_mem_cons.mpr ⟨sx_56_3, (fun _ h => absurd h List.not_mem_nil)⟩)⟩)⟩)⟩)
theorem sx_57_0 : fx_sf mx_57 mc_57_0 := sf_self _
theorem sx_57_1 : fx_sf mx_57 mc_57_1 := sf_drop (l := mc_57_0) 9 sx_57_0
theorem sx_57_2 : fx_sf mx_57 mc_57_2 := sf_drop (l := mc_57_1) 10 sx_57_1
theorem sx_57_3 : fx_sf mx_57 mc_57_3 := sf_drop (l := mc_57_2) 6 sx_57_2
theorem sx_57_4 : fx_sf mx_57 mc_57_4 := sf_drop (l := mc_57_3) 0 sx_57_3
theorem sx_57_5 : fx_sf mx_57 mc_57_5 := sf_drop (l := mc_57_4) 1 sx_57_4
set_option maxRecDepth 100000 in
theorem sy_57 : ∀ r ∈ mx_57.2, fx_sf mx_57 r := (List.forall_mem_cons.mpr ⟨sx_57_0, (List.forall_mem_cons.mpr ⟨sx_57_1, (List.forall_mem_cons.mpr ⟨sx_57_2, (List.forall_mem_cons.mpr ⟨sx_57_3, (List.forall_mem_cons.mpr ⟨sx_57_4, (List.forall_mem_cons.mpr ⟨sx_57_5, (fun _ h => absurd h List.not_mem_nil)⟩)⟩)⟩)⟩)⟩)⟩)
theorem sx_58_0 : fx_sf mx_58 mc_58_0 := sf_self _
theorem sx_58_1 : fx_sf mx_58 mc_58_1 := sf_drop (l := mc_58_0) 9 sx_58_0
theorem sx_58_2 : fx_sf mx_58 mc_58_2 := sf_drop (l := mc_58_1) 10 sx_58_1
theorem sx_58_3 : fx_sf mx_58 mc_58_3 := sf_drop (l := mc_58_2) 7 sx_58_2
set_option maxRecDepth 100000 in
theorem sy_58 : ∀ r ∈ mx_58.2, fx_sf mx_58 r := (List.forall_mem_cons.mpr ⟨sx_58_0, (List.forall_mem_cons.mpr ⟨sx_58_1, (List.forall_mem_cons.mpr ⟨sx_58_2, (List.forall_mem_cons.mpr ⟨sx_58_3, (fun _ h => absurd h List.not_mem_nil)⟩)⟩)⟩)⟩)
theorem sx_59_0 : fx_sf mx_59 mc_59_0 := sf_self _
theorem sx_59_1 : fx_sf mx_59 mc_59_1 := sf_drop (l := mc_59_0) 11 sx_59_0
theorem sx_59_2 : fx_sf mx_59 mc_59_2 := sf_drop (l := mc_59_1) 2 sx_59_1
set_option maxRecDepth 100000 in
theorem sy_59 : ∀ r ∈ mx_59.2, fx_sf mx_59 r := (List.forall_mem_cons.mpr ⟨sx_59_0, (List.forall_mem_cons.mpr ⟨sx_59_1, (List.forall_mem_cons.mpr ⟨sx_59_2, (fun _ h => absurd h List.not_mem_nil)⟩)⟩)⟩)
theorem sx_60_0 : fx_sf mx_60 mc_60_0 := sf_self _
theorem sx_60_1 : fx_sf mx_60 mc_60_1 := sf_drop (l := mc_60_0) 7 sx_60_0
theorem sx_60_2 : fx_sf mx_60 mc_60_2 := sf_drop (l := mc_60_1) 8 sx_60_1
theorem sx_60_3 : fx_sf mx_60 mc_60_3 := sf_drop (l := mc_60_2) 11 sx_60_2
set_option maxRecDepth 100000 in
theorem sy_60 : ∀ r ∈ mx_60.2, fx_sf mx_60 r := (List.forall_mem_cons.mpr ⟨sx_60_0, (List.forall_mem_cons.mpr ⟨sx_60_1, (List.forall_mem_cons.mpr ⟨sx_60_2, (List.forall_mem_cons.mpr ⟨sx_60_3, (fun _ h => absurd h List.not_mem_nil)⟩)⟩)⟩)⟩)
theorem sx_61_0 : fx_sf mx_61 mc_61_0 := sf_self _
theorem sx_61_1 : fx_sf mx_61 mc_61_1 := sf_drop (l := mc_61_0) 10 sx_61_0
theorem sx_61_2 : fx_sf mx_61 mc_61_2 := sf_drop (l := mc_61_1) 8 sx_61_1
theorem sx_61_3 : fx_sf mx_61 mc_61_3 := sf_drop (l := mc_61_2) 9 sx_61_2
theorem sx_61_4 : fx_sf mx_61 mc_61_4 := sf_drop (l := mc_61_3) 6 sx_61_3
theorem sx_61_5 : fx_sf mx_61 mc_61_5 := sf_drop (l := mc_61_4) 2 sx_61_4
theorem sx_61_6 : fx_sf mx_61 mc_61_6 := sf_drop (l := mc_61_5) 0 sx_61_5
set_option maxRecDepth 100000 in
theorem sy_61 : ∀ r ∈ mx_61.2, fx_sf mx_61 r := (List.forall_mem_cons.mpr ⟨sx_61_0, (List.forall_mem_cons.mpr ⟨sx_61_1, (List.forall_mem_cons.mpr ⟨sx_61_2, (List.forall_mem_cons.mpr ⟨sx_61_3, (List.forall_mem_cons.mpr ⟨sx_61_4, (List.forall_mem_cons.mpr ⟨sx_61_5, (List.forall_mem_cons.mpr ⟨sx_61_6, (fun _ h => absurd h List.not_mem_nil)⟩)⟩)⟩)⟩)⟩)⟩)⟩)
theorem sx_62_0 : fx_sf mx_62 mc_62_0 := sf_self _
theorem sx_62_1 : fx_sf mx_62 mc_62_1 := sf_drop (l := mc_62_0) 10 sx_62_0
set_option maxRecDepth 100000 in
theorem sy_62 : ∀ r ∈ mx_62.2, fx_sf mx_62 r := (List.forall_mem_cons.mpr ⟨sx_62_0, (List.forall_mem_cons.mpr ⟨sx_62_1, (fun _ h => absurd h List.not_mem_nil)⟩)⟩)
theorem sx_63_0 : fx_sf mx_63 mc_63_0 := sf_self _
theorem sx_63_1 : fx_sf mx_63 mc_63_1 := sf_drop (l := mc_63_0) 10 sx_63_0
theorem sx_63_2 : fx_sf mx_63 mc_63_2 := sf_drop (l := mc_63_1) 8 sx_63_1
theorem sx_63_3 : fx_sf mx_63 mc_63_3 := sf_drop (l := mc_63_2) 8 sx_63_2
theorem sx_63_4 : fx_sf mx_63 mc_63_4 := sf_drop (l := mc_63_3) 9 sx_63_3
theorem sx_63_5 : fx_sf mx_63 mc_63_5 := sf_drop (l := mc_63_4) 5 sx_63_4
theorem sx_63_6 : fx_sf mx_63 mc_63_6 := sf_drop (l := mc_63_5) 0 sx_63_5
theorem sx_63_7 : fx_sf mx_63 mc_63_7 := sf_drop (l := mc_63_6) 2 sx_63_6
theorem sx_63_8 : fx_sf mx_63 mc_63_8 := sf_drop (l := mc_63_7) 5 sx_63_7
theorem sx_63_9 : fx_sf mx_63 mc_63_9 := sf_drop (l := mc_63_8) 0 sx_63_8
theorem sx_63_10 : fx_sf mx_63 mc_63_10 := sf_drop (l := mc_63_9) 0 sx_63_9
set_option maxRecDepth 100000 in
theorem sy_63 : ∀ r ∈ mx_63.2, fx_sf mx_63 r := (List.forall_mem_cons.mpr ⟨sx_63_0, (List.forall_mem_cons.mpr ⟨sx_63_1, (List.forall_mem_cons.mpr ⟨sx_63_2, (List.forall_mem_cons.mpr ⟨sx_63_3, (List.forall_mem_cons.mpr ⟨sx_63_4, (List.forall_mem_cons.mpr ⟨sx_63_5, (List.forall_mem_cons.mpr ⟨sx_63_6, (List.forall_mem_cons.mpr ⟨sx_63_7, (List.forall_mem_cons.mpr ⟨sx_63_8, (List.forall_mem_cons.mpr ⟨sx_63_9, (List.forall_mem_cons.mpr ⟨sx_63_10, (fun _ h => absurd h List.not_mem_nil)⟩)⟩)⟩)⟩)⟩)⟩)⟩)⟩)⟩)⟩)⟩)
theorem sx_64_0 : fx_sf mx_64 mc_64_0 := sf_self _
theorem sx_64_1 : fx_sf mx_64 mc_64_1 := sf_drop (l := mc_64_0) 9 sx_64_0
theorem sx_64_2 : fx_sf mx_64 mc_64_2 := sf_drop (l := mc_64_1) 8 sx_64_1
theorem sx_64_3 : fx_sf mx_64 mc_64_3 := sf_drop (l := mc_64_2) 8 sx_64_2
set_option maxRecDepth 100000 in
theorem sy_64 : ∀ r ∈ mx_64.2, fx_sf mx_64 r := (List.forall_mem_cons.mpr ⟨sx_64_0, (List.forall_mem_cons.mpr ⟨sx_64_1, (List.forall_mem_cons.mpr ⟨sx_64_2, (List.forall_mem_cons.mpr ⟨sx_64_3, (fun _ h => absurd h List.not_mem_nil)⟩)⟩)⟩)⟩)
theorem sx_65_0 : fx_sf mx_65 mc_65_0 := sf_self _
set_option maxRecDepth 100000 in
theorem sy_65 : ∀ r ∈ mx_65.2, fx_sf mx_65 r := (List.forall_mem_cons.mpr ⟨sx_65_0, (fun _ h => absurd h List.not_mem_nil)⟩)
theorem sx_66_0 : fx_sf mx_66 mc_66_0 := sf_self _
theorem sx_66_1 : fx_sf mx_66 mc_66_1 := sf_drop (l := mc_66_0) 12 sx_66_0
theorem sx_66_2 : fx_sf mx_66 mc_66_2 := sf_drop (l := mc_66_1) 9 sx_66_1
theorem sx_66_3 : fx_sf mx_66 mc_66_3 := sf_drop (l := mc_66_2) 9 sx_66_2
theorem sx_66_4 : fx_sf mx_66 mc_66_4 := sf_drop (l := mc_66_3) 10 sx_66_3
theorem sx_66_5 : fx_sf mx_66 mc_66_5 := sf_drop (l := mc_66_4) 7 sx_66_4
theorem sx_66_6 : fx_sf mx_66 mc_66_6 := sf_drop (l := mc_66_5) 9 sx_66_5
theorem sx_66_7 : fx_sf mx_66 mc_66_7 := sf_drop (l := mc_66_6) 10 sx_66_6
theorem sx_66_8 : fx_sf mx_66 mc_66_8 := sf_drop (l := mc_66_7) 10 sx_66_7
theorem sx_66_9 : fx_sf mx_66 mc_66_9 := sf_drop (l := mc_66_8) 1 sx_66_8
theorem sx_66_10 : fx_sf mx_66 mc_66_10 := sf_drop (l := mc_66_9) 3 sx_66_9
theorem sx_66_11 : fx_sf mx_66 mc_66_11 := sf_drop (l := mc_66_10) 8 sx_66_10
theorem sx_66_12 : fx_sf mx_66 mc_66_12 := sf_drop (l := mc_66_11) 8 sx_66_11
theorem sx_66_13 : fx_sf mx_66 mc_66_13 := sf_drop (l := mc_66_12) 7 sx_66_12
theorem sx_66_14 : fx_sf mx_66 mc_66_14 := sf_drop (l := mc_66_13) 5 sx_66_13
theorem sx_66_15 : fx_sf mx_66 mc_66_15 := sf_drop (l := mc_66_14) 0 sx_66_14
theorem sx_66_16 : fx_sf mx_66 mc_66_16 := sf_drop (l := mc_66_15) 0 sx_66_15
theorem sx_66_17 : fx_sf mx_66 mc_66_17 := sf_drop (l := mc_66_16) 0 sx_66_16
theorem sx_66_18 : fx_sf mx_66 mc_66_18 := sf_drop (l := mc_66_17) 0 sx_66_17
set_option maxRecDepth 100000 in
theorem sy_66 : ∀ r ∈ mx_66.2, fx_sf mx_66 r := (List.forall_mem_cons.mpr ⟨sx_66_0, (List.forall_mem_cons.mpr ⟨sx_66_1, (List.forall_mem_cons.mpr ⟨sx_66_2, (List.forall_mem_cons.mpr ⟨sx_66_3, (List.forall_mem_cons.mpr ⟨sx_66_4, (List.forall_mem_cons.mpr ⟨sx_66_5, (List.forall_mem_cons.mpr ⟨sx_66_6, (List.forall_mem_cons.mpr ⟨sx_66_7, (List.forall_mem_cons.mpr ⟨sx_66_8, (List.forall_mem_cons.mpr ⟨sx_66_9, (List.forall_mem_cons.mpr ⟨sx_66_10, (List.forall_mem_cons.mpr ⟨sx_66_11, (List.forall_mem_cons.mpr ⟨sx_66_12, (List.forall_mem_cons.mpr ⟨sx_66_13, (List.forall_mem_cons.mpr ⟨sx_66_14, (List.forall_mem_cons.mpr ⟨sx_66_15, (List.forall_mem_cons.mpr ⟨sx_66_16, (List.forall_mem_cons.mpr ⟨sx_66_17, (List.forall_mem_cons.mpr ⟨sx_66_18, (fun _ h => absurd h List.not_mem_nil)⟩)⟩)⟩)⟩)⟩)⟩)⟩)⟩)⟩)⟩)⟩)⟩)⟩)⟩)⟩)⟩)⟩)⟩)⟩)
theorem sx_67_0 : fx_sf mx_67 mc_67_0 := sf_self _
theorem sx_67_1 : fx_sf mx_67 mc_67_1 := sf_drop (l := mc_67_0) 10 sx_67_0
theorem sx_67_2 : fx_sf mx_67 mc_67_2 := sf_drop (l := mc_67_1) 5 sx_67_1
theorem sx_67_3 : fx_sf mx_67 mc_67_3 := sf_drop (l := mc_67_2) 5 sx_67_2
theorem sx_67_4 : fx_sf mx_67 mc_67_4 := sf_drop (l := mc_67_3) 9 sx_67_3
theorem sx_67_5 : fx_sf mx_67 mc_67_5 := sf_drop (l := mc_67_4) 1 sx_67_4
theorem sx_67_6 : fx_sf mx_67 mc_67_6 := sf_drop (l := mc_67_5) 0 sx_67_5
theorem sx_67_7 : fx_sf mx_67 mc_67_7 := sf_drop (l := mc_67_6) 0 sx_67_6
theorem sx_67_8 : fx_sf mx_67 mc_67_8 := sf_drop (l := mc_67_7) 0 sx_67_7
theorem sx_67_9 : fx_sf mx_67 mc_67_9 := sf_drop (l := mc_67_8) 0 sx_67_8
theorem sx_67_10 : fx_sf mx_67 mc_67_10 := sf_drop (l := mc_67_9) 0 sx_67_9
theorem sx_67_11 : fx_sf mx_67 mc_67_11 := sf_drop (l := mc_67_10) 0 sx_67_10
set_option maxRecDepth 100000 in
theorem sy_67 : ∀ r ∈ mx_67.2, fx_sf mx_67 r := (List.forall_mem_cons.mpr ⟨sx_67_0, (List.forall_mem_cons.mpr ⟨sx_67_1, (List.forall_mem_cons.mpr ⟨sx_67_2, (List.forall_mem_cons.mpr ⟨sx_67_3, (List.forall_mem_cons.mpr ⟨sx_67_4, (List.forall_mem_cons.mpr ⟨sx_67_5, (List.forall_mem_cons.mpr ⟨sx_67_6, (List.forall_mem_cons.mpr ⟨sx_67_7, (List.forall_mem_cons.mpr ⟨sx_67_8, (List.forall_mem_cons.mpr ⟨sx_67_9, (List.forall_mem_cons.mpr ⟨sx_67_10, (List.forall_mem_cons.mpr ⟨sx_67_11, (fun _ h => absurd h List.not_mem_nil)⟩)⟩)⟩)⟩)⟩)⟩)⟩)⟩)⟩)⟩)⟩)⟩)
theorem sx_68_0 : fx_sf mx_68 mc_68_0 := sf_self _
theorem sx_68_1 : fx_sf mx_68 mc_68_1 := sf_drop (l := mc_68_0) 9 sx_68_0
theorem sx_68_2 : fx_sf mx_68 mc_68_2 := sf_drop (l := mc_68_1) 9 sx_68_1
set_option maxRecDepth 100000 in
theorem sy_68 : ∀ r ∈ mx_68.2, fx_sf mx_68 r := (List.forall_mem_cons.mpr ⟨sx_68_0, (List.forall_mem_cons.mpr ⟨sx_68_1, (List.forall_mem_cons.mpr ⟨sx_68_2, (fun _ h => absurd h List.not_mem_nil)⟩)⟩)⟩)
theorem sx_69_0 : fx_sf mx_69 mc_69_0 := sf_self _
theorem sx_69_1 : fx_sf mx_69 mc_69_1 := sf_drop (l := mc_69_0) 8 sx_69_0
set_option maxRecDepth 100000 in
theorem sy_69 : ∀ r ∈ mx_69.2, fx_sf mx_69 r := (List.forall_mem_cons.mpr ⟨sx_69_0, (List.forall_mem_cons.mpr ⟨sx_69_1, (fun _ h => absurd h List.not_mem_nil)⟩)⟩)
theorem sx_70_0 : fx_sf mx_70 mc_70_0 := sf_self _
theorem sx_70_1 : fx_sf mx_70 mc_70_1 := sf_drop (l := mc_70_0) 8 sx_70_0
theorem sx_70_2 : fx_sf mx_70 mc_70_2 := sf_drop (l := mc_70_1) 8 sx_70_1
theorem sx_70_3 : fx_sf mx_70 mc_70_3 := sf_drop (l := mc_70_2) 8 sx_70_2
set_option maxRecDepth 100000 in
theorem sy_70 : ∀ r ∈ mx_70.2, fx_sf mx_70 r := (List.forall_mem_cons.mpr ⟨sx_70_0, (List.forall_mem_cons.mpr ⟨sx_70_1, (List.forall_mem_cons.mpr ⟨sx_70_2, (List.forall_mem_cons.mpr ⟨sx_70_3, (fun _ h => absurd h List.not_mem_nil)⟩)⟩)⟩)⟩)
theorem sx_71_0 : fx_sf mx_71 mc_71_0 := sf_self _
theorem sx_71_1 : fx_sf mx_71 mc_71_1 := sf_drop (l := mc_71_0) 10 sx_71_0
theorem sx_71_2 : fx_sf mx_71 mc_71_2 := sf_drop (l := mc_71_1) 8 sx_71_1
theorem sx_71_3 : fx_sf mx_71 mc_71_3 := sf_drop (l := mc_71_2) 9 sx_71_2
set_option maxRecDepth 100000 in
theorem sy_71 : ∀ r ∈ mx_71.2, fx_sf mx_71 r := (List.forall_mem_cons.mpr ⟨sx_71_0, (List.forall_mem_cons.mpr ⟨sx_71_1, (List.forall_mem_cons.mpr ⟨sx_71_2, (List.forall_mem_cons.mpr ⟨sx_71_3, (fun _ h => absurd h List.not_mem_nil)⟩)⟩)⟩)⟩)
theorem sx_72_0 : fx_sf mx_72 mc_72_0 := sf_self _
theorem sx_72_1 : fx_sf mx_72 mc_72_1 := sf_drop (l := mc_72_0) 10 sx_72_0
theorem sx_72_2 : fx_sf mx_72 mc_72_2 := sf_drop (l := mc_72_1) 10 sx_72_1
theorem sx_72_3 : fx_sf mx_72 mc_72_3 := sf_drop (l := mc_72_2) 5 sx_72_2
theorem sx_72_4 : fx_sf mx_72 mc_72_4 := sf_drop (l := mc_72_3) 0 sx_72_3
set_option maxRecDepth 100000 in
theorem sy_72 : ∀ r ∈ mx_72.2, fx_sf mx_72 r := (List.forall_mem_cons.mpr ⟨sx_72_0, (List.forall_mem_cons.mpr ⟨sx_72_1, (List.forall_mem_cons.mpr ⟨sx_72_2, (List.forall_mem_cons.mpr ⟨sx_72_3, (List.forall_mem_cons.mpr ⟨sx_72_4, (fun _ h => absurd h List.not_mem_nil)⟩)⟩)⟩)⟩)⟩)
theorem sx_73_0 : fx_sf mx_73 mc_73_0 := sf_self _
theorem sx_73_1 : fx_sf mx_73 mc_73_1 := sf_drop (l := mc_73_0) 10 sx_73_0
theorem sx_73_2 : fx_sf mx_73 mc_73_2 := sf_drop (l := mc_73_1) 8 sx_73_1
theorem sx_73_3 : fx_sf mx_73 mc_73_3 := sf_drop (l := mc_73_2) 9 sx_73_2
theorem sx_73_4 : fx_sf mx_73 mc_73_4 := sf_drop (l := mc_73_3) 8 sx_73_3
theorem sx_73_5 : fx_sf mx_73 mc_73_5 := sf_drop (l := mc_73_4) 8 sx_73_4
theorem sx_73_6 : fx_sf mx_73 mc_73_6 := sf_drop (l := mc_73_5) 7 sx_73_5
theorem sx_73_7 : fx_sf mx_73 mc_73_7 := sf_drop (l := mc_73_6) 5 sx_73_6
theorem sx_73_8 : fx_sf mx_73 mc_73_8 := sf_drop (l := mc_73_7) 9 sx_73_7
theorem sx_73_9 : fx_sf mx_73 mc_73_9 := sf_drop (l := mc_73_8) 9 sx_73_8
theorem sx_73_10 : fx_sf mx_73 mc_73_10 := sf_drop (l := mc_73_9) 9 sx_73_9
theorem sx_73_11 : fx_sf mx_73 mc_73_11 := sf_drop (l := mc_73_10) 10 sx_73_10
theorem sx_73_12 : fx_sf mx_73 mc_73_12 := sf_drop (l := mc_73_11) 10 sx_73_11
theorem sx_73_13 : fx_sf mx_73 mc_73_13 := sf_drop (l := mc_73_12) 10 sx_73_12
theorem sx_73_14 : fx_sf mx_73 mc_73_14 := sf_drop (l := mc_73_13) 9 sx_73_13
theorem sx_73_15 : fx_sf mx_73 mc_73_15 := sf_drop (l := mc_73_14) 0 sx_73_14
theorem sx_73_16 : fx_sf mx_73 mc_73_16 := sf_drop (l := mc_73_15) 4 sx_73_15
set_option maxRecDepth 100000 in
theorem sy_73 : ∀ r ∈ mx_73.2, fx_sf mx_73 r := (List.forall_mem_cons.mpr ⟨sx_73_0, (List.forall_mem_cons.mpr ⟨sx_73_1, (List.forall_mem_cons.mpr ⟨sx_73_2, (List.forall_mem_cons.mpr ⟨sx_73_3, (List.forall_mem_cons.mpr ⟨sx_73_4, (List.forall_mem_cons.mpr ⟨sx_73_5, (List.forall_mem_cons.mpr ⟨sx_73_6, (List.forall_mem_cons.mpr ⟨sx_73_7, (List.forall_mem_cons.mpr ⟨sx_73_8, (List.forall_mem_cons.mpr ⟨sx_73_9, (List.forall_mem_cons.mpr ⟨sx_73_10, (List.forall_mem_cons.mpr ⟨sx_73_11, (List.forall_mem_cons.mpr ⟨sx_73_12, (List.forall_mem_cons.mpr ⟨sx_73_13, (List.forall_mem_cons.mpr ⟨sx_73_14, (List.forall_mem_cons.mpr ⟨sx_73_15, (List.forall_mem_cons.mpr ⟨sx_73_16, (fun _ h => absurd h List.not_mem_nil)⟩)⟩)⟩)⟩)⟩)⟩)⟩)⟩)⟩)⟩)⟩)⟩)⟩)⟩)⟩)⟩)⟩)
theorem sx_74_0 : fx_sf mx_74 mc_74_0 := sf_self _
theorem sx_74_1 : fx_sf mx_74 mc_74_1 := sf_drop (l := mc_74_0) 10 sx_74_0
set_option maxRecDepth 100000 in
theorem sy_74 : ∀ r ∈ mx_74.2, fx_sf mx_74 r := (List.forall_mem_cons.mpr ⟨sx_74_0, (List.forall_mem_cons.mpr ⟨sx_74_1, (fun _ h => absurd h List.not_mem_nil)⟩)⟩)
theorem sx_75_0 : fx_sf mx_75 mc_75_0 := sf_self _
theorem sx_75_1 : fx_sf mx_75 mc_75_1 := sf_drop (l := mc_75_0) 10 sx_75_0
theorem sx_75_2 : fx_sf mx_75 mc_75_2 := sf_drop (l := mc_75_1) 8 sx_75_1
theorem sx_75_3 : fx_sf mx_75 mc_75_3 := sf_drop (l := mc_75_2) 9 sx_75_2
theorem sx_75_4 : fx_sf mx_75 mc_75_4 := sf_drop (l := mc_75_3) 7 sx_75_3
theorem sx_75_5 : fx_sf mx_75 mc_75_5 := sf_drop (l := mc_75_4) 1 sx_75_4
theorem sx_75_6 : fx_sf mx_75 mc_75_6 := sf_drop (l := mc_75_5) 0 sx_75_5
theorem sx_75_7 : fx_sf mx_75 mc_75_7 := sf_drop (l := mc_75_6) 0 sx_75_6
theorem sx_75_8 : fx_sf mx_75 mc_75_8 := sf_drop (l := mc_75_7) 0 sx_75_7
theorem sx_75_9 : fx_sf mx_75 mc_75_9 := sf_drop (l := mc_75_8) 0 sx_75_8
theorem sx_75_10 : fx_sf mx_75 mc_75_10 := sf_drop (l := mc_75_9) 0 sx_75_9
theorem sx_75_11 : fx_sf mx_75 mc_75_11 := sf_drop (l := mc_75_10) 0 sx_75_10
set_option maxRecDepth 100000 in
theorem sy_75 : ∀ r ∈ mx_75.2, fx_sf mx_75 r := (List.forall_mem_cons.mpr ⟨sx_75_0, (List.forall_mem_cons.mpr ⟨sx_75_1, (List.forall_mem_cons.mpr ⟨sx_75_2, (List.forall_mem_cons.mpr ⟨sx_75_3, (List.forall_mem_cons.mpr ⟨sx_75_4, (List.forall_mem_cons.mpr ⟨sx_75_5, (List.forall_mem_cons.mpr ⟨sx_75_6, (List.forall_mem_cons.mpr ⟨sx_75_7, (List.forall_mem_cons.mpr ⟨sx_75_8, (List.forall_mem_cons.mpr ⟨sx_75_9, (List.forall_mem_cons.mpr ⟨sx_75_10, (List.forall_mem_cons.mpr ⟨sx_75_11, (fun _ h => absurd h List.not_mem_nil)⟩)⟩)⟩)⟩)⟩)⟩)⟩)⟩)⟩)⟩)⟩)⟩)
theorem sx_76_0 : fx_sf mx_76 mc_76_0 := sf_self _
theorem sx_76_1 : fx_sf mx_76 mc_76_1 := sf_drop (l := mc_76_0) 9 sx_76_0
theorem sx_76_2 : fx_sf mx_76 mc_76_2 := sf_drop (l := mc_76_1) 0 sx_76_1
theorem sx_76_3 : fx_sf mx_76 mc_76_3 := sf_drop (l := mc_76_2) 0 sx_76_2
theorem sx_76_4 : fx_sf mx_76 mc_76_4 := sf_drop (l := mc_76_3) 4 sx_76_3
theorem sx_76_5 : fx_sf mx_76 mc_76_5 := sf_drop (l := mc_76_4) 10 sx_76_4
theorem sx_76_6 : fx_sf mx_76 mc_76_6 := sf_drop (l := mc_76_5) 0 sx_76_5
theorem sx_76_7 : fx_sf mx_76 mc_76_7 := sf_drop (l := mc_76_6) 0 sx_76_6
set_option maxRecDepth 100000 in
theorem sy_76 : ∀ r ∈ mx_76.2, fx_sf mx_76 r := (List.forall_mem_cons.mpr ⟨sx_76_0, (List.forall_mem_cons.mpr ⟨sx_76_1, (List.forall_mem_cons.mpr ⟨sx_76_2, (List.forall_mem_cons.mpr ⟨sx_76_3, (List.forall_mem_cons.mpr ⟨sx_76_4, (List.forall_mem_cons.mpr ⟨sx_76_5, (List.forall_mem_cons.mpr ⟨sx_76_6, (List.forall_mem_cons.mpr ⟨sx_76_7, (fun _ h => absurd h List.not_mem_nil)⟩)⟩)⟩)⟩)⟩)⟩)⟩)⟩)
theorem sx_77_0 : fx_sf mx_77 mc_77_0 := sf_self _
theorem sx_77_1 : fx_sf mx_77 mc_77_1 := sf_drop (l := mc_77_0) 9 sx_77_0
set_option maxRecDepth 100000 in
theorem sy_77 : ∀ r ∈ mx_77.2, fx_sf mx_77 r := (List.forall_mem_cons.mpr ⟨sx_77_0, (List.forall_mem_cons.mpr ⟨sx_77_1, (fun _ h => absurd h List.not_mem_nil)⟩)⟩)
theorem sx_78_0 : fx_sf mx_78 mc_78_0 := sf_self _
theorem sx_78_1 : fx_sf mx_78 mc_78_1 := sf_drop (l := mc_78_0) 10 sx_78_0
theorem sx_78_2 : fx_sf mx_78 mc_78_2 := sf_drop (l := mc_78_1) 8 sx_78_1
theorem sx_78_3 : fx_sf mx_78 mc_78_3 := sf_drop (l := mc_78_2) 9 sx_78_2
theorem sx_78_4 : fx_sf mx_78 mc_78_4 := sf_drop (l := mc_78_3) 7 sx_78_3
theorem sx_78_5 : fx_sf mx_78 mc_78_5 := sf_drop (l := mc_78_4) 6 sx_78_4
theorem sx_78_6 : fx_sf mx_78 mc_78_6 := sf_drop (l := mc_78_5) 6 sx_78_5
theorem sx_78_7 : fx_sf mx_78 mc_78_7 := sf_drop (l := mc_78_6) 2 sx_78_6
theorem sx_78_8 : fx_sf mx_78 mc_78_8 := sf_drop (l := mc_78_7) 0 sx_78_7
theorem sx_78_9 : fx_sf mx_78 mc_78_9 := sf_drop (l := mc_78_8) 0 sx_78_8
theorem sx_78_10 : fx_sf mx_78 mc_78_10 := sf_drop (l := mc_78_9) 0 sx_78_9
theorem sx_78_11 : fx_sf mx_78 mc_78_11 := sf_drop (l := mc_78_10) 0 sx_78_10
set_option maxRecDepth 100000 in
theorem sy_78 : ∀ r ∈ mx_78.2, fx_sf mx_78 r := (List.forall_mem_cons.mpr ⟨sx_78_0, (List.forall_mem_cons.mpr ⟨sx_78_1, (List.forall_mem_cons.mpr ⟨sx_78_2, (List.forall_mem_cons.mpr ⟨sx_78_3, (List.forall_mem_cons.mpr ⟨sx_78_4, (List.forall_mem_cons.mpr ⟨sx_78_5, (List.forall_mem_cons.mpr ⟨sx_78_6, (List.forall_mem_cons.mpr ⟨sx_78_7, (List.forall_mem_cons.mpr ⟨sx_78_8, (List.forall_mem_cons.mpr ⟨sx_78_9, (List.forall_mem_cons.mpr ⟨sx_78_10, (List.forall_mem_cons.mpr ⟨sx_78_11, (fun _ h => absurd h List.not_mem_nil)⟩)⟩)⟩)⟩)⟩)⟩)⟩)⟩)⟩)⟩)⟩)⟩)
theorem sx_79_0 : fx_sf mx_79 mc_79_0 := sf_self _
theorem sx_79_1 : fx_sf mx_79 mc_79_1 := sf_drop (l := mc_79_0) 10 sx_79_0
theorem sx_79_2 : fx_sf mx_79 mc_79_2 := sf_drop (l := mc_79_1) 8 sx_79_1
theorem sx_79_3 : fx_sf mx_79 mc_79_3 := sf_drop (l := mc_79_2) 9 sx_79_2
theorem sx_79_4 : fx_sf mx_79 mc_79_4 := sf_drop (l := mc_79_3) 5 sx_79_3
theorem sx_79_5 : fx_sf mx_79 mc_79_5 := sf_drop (l := mc_79_4) 2 sx_79_4
theorem sx_79_6 : fx_sf mx_79 mc_79_6 := sf_drop (l := mc_79_5) 0 sx_79_5
set_option maxRecDepth 100000 in
theorem sy_79 : ∀ r ∈ mx_79.2, fx_sf mx_79 r := (List.forall_mem_cons.mpr ⟨sx_79_0, (List.forall_mem_cons.mpr ⟨sx_79_1, (List.forall_mem_cons.mpr ⟨sx_79_2, (List.forall_mem_cons.mpr ⟨sx_79_3, (List.forall_mem_cons.mpr ⟨sx_79_4, (List.forall_mem_cons.mpr ⟨sx_79_5, (List.forall_mem_cons.mpr ⟨sx_79_6, (fun _ h => absurd h List.not_mem_nil)⟩)⟩)⟩)⟩)⟩)⟩)⟩)
theorem sx_80_0 : fx_sf mx_80 mc_80_0 := sf_self _
theorem sx_80_1 : fx_sf mx_80 mc_80_1 := sf_drop (l := mc_80_0) 9 sx_80_0
theorem sx_80_2 : fx_sf mx_80 mc_80_2 := sf_drop (l := mc_80_1) 1 sx_80_1
theorem sx_80_3 : fx_sf mx_80 mc_80_3 := sf_drop (l := mc_80_2) 2 sx_80_2
set_option maxRecDepth 100000 in
theorem sy_80 : ∀ r ∈ mx_80.2, fx_sf mx_80 r := (List.forall_mem_cons.mpr ⟨sx_80_0, (List.forall_mem_cons.mpr ⟨sx_80_1, (List.forall_mem_cons.mpr ⟨sx_80_2, (List.forall_mem_cons.mpr ⟨sx_80_3, (fun _ h => absurd h List.not_mem_nil)⟩)⟩)⟩)⟩)
theorem sx_81_0 : fx_sf mx_81 mc_81_0 := sf_self _
theorem sx_81_1 : fx_sf mx_81 mc_81_1 := sf_drop (l := mc_81_0) 10 sx_81_0
theorem sx_81_2 : fx_sf mx_81 mc_81_2 := sf_drop (l := mc_81_1) 7 sx_81_1
theorem sx_81_3 : fx_sf mx_81 mc_81_3 := sf_drop (l := mc_81_2) 10 sx_81_2
theorem sx_81_4 : fx_sf mx_81 mc_81_4 := sf_drop (l := mc_81_3) 8 sx_81_3
theorem sx_81_5 : fx_sf mx_81 mc_81_5 := sf_drop (l := mc_81_4) 11 sx_81_4
theorem sx_81_6 : fx_sf mx_81 mc_81_6 := sf_drop (l := mc_81_5) 6 sx_81_5
set_option maxRecDepth 100000 in
theorem sy_81 : ∀ r ∈ mx_81.2, fx_sf mx_81 r := (List.forall_mem_cons.mpr ⟨sx_81_0, (List.forall_mem_cons.mpr ⟨sx_81_1, (List.forall_mem_cons.mpr ⟨sx_81_2, (List.forall_mem_cons.mpr ⟨sx_81_3, (List.forall_mem_cons.mpr ⟨sx_81_4, (List.forall_mem_cons.mpr ⟨sx_81_5, (List.forall_mem_cons.mpr ⟨sx_81_6, (fun _ h => absurd h List.not_mem_nil)⟩)⟩)⟩)⟩)⟩)⟩)⟩)
theorem sx_82_0 : fx_sf mx_82 mc_82_0 := sf_self _
theorem sx_82_1 : fx_sf mx_82 mc_82_1 := sf_drop (l := mc_82_0) 12 sx_82_0
set_option maxRecDepth 100000 in
theorem sy_82 : ∀ r ∈ mx_82.2, fx_sf mx_82 r := (List.forall_mem_cons.mpr ⟨sx_82_0, (List.forall_mem_cons.mpr ⟨sx_82_1, (fun _ h => absurd h List.not_mem_nil)⟩)⟩)
theorem sx_83_0 : fx_sf mx_83 mc_83_0 := sf_self _
theorem sx_83_1 : fx_sf mx_83 mc_83_1 := sf_drop (l := mc_83_0) 12 sx_83_0
set_option maxRecDepth 100000 in
theorem sy_83 : ∀ r ∈ mx_83.2, fx_sf mx_83 r := (List.forall_mem_cons.mpr ⟨sx_83_0, (List.forall_mem_cons.mpr ⟨sx_83_1, (fun _ h => absurd h List.not_mem_nil)⟩)⟩)
theorem sx_84_0 : fx_sf mx_84 mc_84_0 := sf_self _
theorem sx_84_1 : fx_sf mx_84 mc_84_1 := sf_drop (l := mc_84_0) 10 sx_84_0
set_option maxRecDepth 100000 in
theorem sy_84 : ∀ r ∈ mx_84.2, fx_sf mx_84 r := (List.forall_mem_cons.mpr ⟨sx_84_0, (List.forall_mem_cons.mpr ⟨sx_84_1, (fun _ h => absurd h List.not_mem_nil)⟩)⟩)
theorem sx_85_0 : fx_sf mx_85 mc_85_0 := sf_self _
theorem sx_85_1 : fx_sf mx_85 mc_85_1 := sf_drop (l := mc_85_0) 10 sx_85_0
set_option maxRecDepth 100000 in
theorem sy_85 : ∀ r ∈ mx_85.2, fx_sf mx_85 r := (List.forall_mem_cons.mpr ⟨sx_85_0, (List.forall_mem_cons.mpr ⟨sx_85_1, (fun _ h => absurd h List.not_mem_nil)⟩)⟩)
theorem sx_86_0 : fx_sf mx_86 mc_86_0 := sf_self _
theorem sx_86_1 : fx_sf mx_86 mc_86_1 := sf_drop (l := mc_86_0) 10 sx_86_0
theorem sx_86_2 : fx_sf mx_86 mc_86_2 := sf_drop (l := mc_86_1) 6 sx_86_1
theorem sx_86_3 : fx_sf mx_86 mc_86_3 := sf_drop (l := mc_86_2) 2 sx_86_2
theorem sx_86_4 : fx_sf mx_86 mc_86_4 := sf_drop (l := mc_86_3) 0 sx_86_3
set_option maxRecDepth 100000 in
theorem sy_86 : ∀ r ∈ mx_86.2, fx_sf mx_86 r := (List.forall_mem_cons.mpr ⟨sx_86_0, (List.forall_mem_cons.mpr ⟨sx_86_1, (List.forall_mem_cons.mpr ⟨sx_86_2, (List.forall_mem_cons.mpr ⟨sx_86_3, (List.forall_mem_cons.mpr ⟨sx_86_4, (fun _ h => absurd h List.not_mem_nil)⟩)⟩)⟩)⟩)⟩)
theorem sx_87_0 : fx_sf mx_87 mc_87_0 := sf_self _
theorem sx_87_1 : fx_sf mx_87 mc_87_1 := sf_drop (l := mc_87_0) 11 sx_87_0
set_option maxRecDepth 100000 in
theorem sy_87 : ∀ r ∈ mx_87.2, fx_sf mx_87 r := (List.forall_mem_cons.mpr ⟨sx_87_0, (List.forall_mem_cons.mpr ⟨sx_87_1, (fun _ h => absurd h List.not_mem_nil)⟩)⟩)
theorem sx_88_0 : fx_sf mx_88 mc_88_0 := sf_self _
theorem sx_88_1 : fx_sf mx_88 mc_88_1 := sf_drop (l := mc_88_0) 10 sx_88_0
set_option maxRecDepth 100000 in
theorem sy_88 : ∀ r ∈ mx_88.2, fx_sf mx_88 r := (List.forall_mem_cons.mpr ⟨sx_88_0, (List.forall_mem_cons.mpr ⟨sx_88_1, (fun _ h => absurd h List.not_mem_nil)⟩)⟩)
theorem sx_89_0 : fx_sf mx_89 mc_89_0 := sf_self _
theorem sx_89_1 : fx_sf mx_89 mc_89_1 := sf_drop (l := mc_89_0) 10 sx_89_0
set_option maxRecDepth 100000 in
theorem sy_89 : ∀ r ∈ mx_89.2, fx_sf mx_89 r := (List.forall_mem_cons.mpr ⟨sx_89_0, (List.forall_mem_cons.mpr ⟨sx_89_1, (fun _ h => absurd h List.not_mem_nil)⟩)⟩)
theorem sx_90_0 : fx_sf mx_90 mc_90_0 := sf_self _
theorem sx_90_1 : fx_sf mx_90 mc_90_1 := sf_drop (l := mc_90_0) 10 sx_90_0
set_option maxRecDepth 100000 in
theorem sy_90 : ∀ r ∈ mx_90.2, fx_sf mx_90 r := (List.forall_mem_cons.mpr ⟨sx_90_0, (List.forall_mem_cons.mpr ⟨sx_90_1, (fun _ h => absurd h List.not_mem_nil)⟩)⟩)
theorem sx_91_0 : fx_sf mx_91 mc_91_0 := sf_self _
theorem sx_91_1 : fx_sf mx_91 mc_91_1 := sf_drop (l := mc_91_0) 10 sx_91_0
set_option maxRecDepth 100000 in
theorem sy_91 : ∀ r ∈ mx_91.2, fx_sf mx_91 r := (List.forall_mem_cons.mpr ⟨sx_91_0, (List.forall_mem_cons.mpr ⟨sx_91_1, (fun _ h => absurd h List.not_mem_nil)⟩)⟩)
theorem sx_92_0 : fx_sf mx_92 mc_92_0 := sf_self _
theorem sx_92_1 : fx_sf mx_92 mc_92_1 := sf_drop (l := mc_92_0) 9 sx_92_0
set_option maxRecDepth 100000 in
theorem sy_92 : ∀ r ∈ mx_92.2, fx_sf mx_92 r := (List.forall_mem_cons.mpr ⟨sx_92_0, (List.forall_mem_cons.mpr ⟨sx_92_1, (fun _ h => absurd h List.not_mem_nil)⟩)⟩)
theorem sx_93_0 : fx_sf mx_93 mc_93_0 := sf_self _
theorem sx_93_1 : fx_sf mx_93 mc_93_1 := sf_drop (l := mc_93_0) 11 sx_93_0
theorem sx_93_2 : fx_sf mx_93 mc_93_2 := sf_drop (l := mc_93_1) 1 sx_93_1
theorem sx_93_3 : fx_sf mx_93 mc_93_3 := sf_drop (l := mc_93_2) 1 sx_93_2
theorem sx_93_4 : fx_sf mx_93 mc_93_4 := sf_drop (l := mc_93_3) 5 sx_93_3
theorem sx_93_5 : fx_sf mx_93 mc_93_5 := sf_drop (l := mc_93_4) 0 sx_93_4
theorem sx_93_6 : fx_sf mx_93 mc_93_6 := sf_drop (l := mc_93_5) 0 sx_93_5
set_option maxRecDepth 100000 in
theorem sy_93 : ∀ r ∈ mx_93.2, fx_sf mx_93 r := (List.forall_mem_cons.mpr ⟨sx_93_0, (List.forall_mem_cons.mpr ⟨sx_93_1, (List.forall_mem_cons.mpr ⟨sx_93_2, (List.forall_mem_cons.mpr ⟨sx_93_3, (List.forall_mem_cons.mpr ⟨sx_93_4, (List.forall_mem_cons.mpr ⟨sx_93_5, (List.forall_mem_cons.mpr ⟨sx_93_6, (fun _ h => absurd h List.not_mem_nil)⟩)⟩)⟩)⟩)⟩)⟩)⟩)
theorem sx_94_0 : fx_sf mx_94 mc_94_0 := sf_self _
theorem sx_94_1 : fx_sf mx_94 mc_94_1 := sf_drop (l := mc_94_0) 8 sx_94_0
set_option maxRecDepth 100000 in
theorem sy_94 : ∀ r ∈ mx_94.2, fx_sf mx_94 r := (List.forall_mem_cons.mpr ⟨sx_94_0, (List.forall_mem_cons.mpr ⟨sx_94_1, (fun _ h => absurd h List.not_mem_nil)⟩)⟩)
theorem sx_95_0 : fx_sf mx_95 mc_95_0 := sf_self _
theorem sx_95_1 : fx_sf mx_95 mc_95_1 := sf_drop (l := mc_95_0) 9 sx_95_0
theorem sx_95_2 : fx_sf mx_95 mc_95_2 := sf_drop (l := mc_95_1) 7 sx_95_1
set_option maxRecDepth 100000 in
theorem sy_95 : ∀ r ∈ mx_95.2, fx_sf mx_95 r := (List.forall_mem_cons.mpr ⟨sx_95_0, (List.forall_mem_cons.mpr ⟨sx_95_1, (List.forall_mem_cons.mpr ⟨sx_95_2, (fun _ h => absurd h List.not_mem_nil)⟩)⟩)⟩)
theorem sx_96_0 : fx_sf mx_96 mc_96_0 := sf_self _
theorem sx_96_1 : fx_sf mx_96 mc_96_1 := sf_drop (l := mc_96_0) 11 sx_96_0
set_option maxRecDepth 100000 in
theorem sy_96 : ∀ r ∈ mx_96.2, fx_sf mx_96 r := (List.forall_mem_cons.mpr ⟨sx_96_0, (List.forall_mem_cons.mpr ⟨sx_96_1, (fun _ h => absurd h List.not_mem_nil)⟩)⟩)
theorem sx_97_0 : fx_sf mx_97 mc_97_0 := sf_self _
theorem sx_97_1 : fx_sf mx_97 mc_97_1 := sf_drop (l := mc_97_0) 9 sx_97_0
set_option maxRecDepth 100000 in
theorem sy_97 : ∀ r ∈ mx_97.2, fx_sf mx_97 r := (List.forall_mem_cons.mpr ⟨sx_97_0, (List.forall_mem_cons.mpr ⟨sx_97_1, (fun _ h => absurd h List.not_mem_nil)⟩)⟩)
theorem sx_98_0 : fx_sf mx_98 mc_98_0 := sf_self _
theorem sx_98_1 : fx_sf mx_98 mc_98_1 := sf_drop (l := mc_98_0) 7 sx_98_0
set_option maxRecDepth 100000 in
theorem sy_98 : ∀ r ∈ mx_98.2, fx_sf mx_98 r := (List.forall_mem_cons.mpr ⟨sx_98_0, (List.forall_mem_cons.mpr ⟨sx_98_1, (fun _ h => absurd h List.not_mem_nil)⟩)⟩)
theorem sx_99_0 : fx_sf mx_99 mc_99_0 := sf_self _
theorem sx_99_1 : fx_sf mx_99 mc_99_1 := sf_drop (l := mc_99_0) 8 sx_99_0
set_option maxRecDepth 100000 in
theorem sy_99 : ∀ r ∈ mx_99.2, fx_sf mx_99 r := (List.forall_mem_cons.mpr ⟨sx_99_0, (List.forall_mem_cons.mpr ⟨sx_99_1, (fun _ h => absurd h List.not_mem_nil)⟩)⟩)
theorem sx_100_0 : fx_sf mx_100 mc_100_0 := sf_self _
set_option maxRecDepth 100000 in
theorem sy_100 : ∀ r ∈ mx_100.2, fx_sf mx_100 r := (List.forall_mem_cons.mpr ⟨sx_100_0, (fun _ h => absurd h List.not_mem_nil)⟩)
theorem sx_101_0 : fx_sf mx_101 mc_101_0 := sf_self _
set_option maxRecDepth 100000 in
theorem sy_101 : ∀ r ∈ mx_101.2, fx_sf mx_101 r := (List.forall_mem_cons.mpr ⟨sx_101_0, (fun _ h => absurd h List.not_mem_nil)⟩)
theorem sx_102_0 : fx_sf mx_102 mc_102_0 := sf_self _
theorem sx_102_1 : fx_sf mx_102 mc_102_1 := sf_drop (l := mc_102_0) 8 sx_102_0
set_option maxRecDepth 100000 in
theorem sy_102 : ∀ r ∈ mx_102.2, fx_sf mx_102 r := (List.forall_mem_cons.mpr ⟨sx_102_0, (List.forall_mem_cons.mpr ⟨sx_102_1, (fun _ h => absurd h List.not_mem_nil)⟩)⟩)
theorem sx_103_0 : fx_sf mx_103 mc_103_0 := sf_self _
theorem sx_103_1 : fx_sf mx_103 mc_103_1 := sf_drop (l := mc_103_0) 8 sx_103_0
set_option maxRecDepth 100000 in
theorem sy_103 : ∀ r ∈ mx_103.2, fx_sf mx_103 r := (List.forall_mem_cons.mpr ⟨sx_103_0, (List.forall_mem_cons.mpr ⟨sx_103_1, (fun _ h => absurd h List.not_mem_nil)⟩)⟩)
theorem sx_104_0 : fx_sf mx_104 mc_104_0 := sf_self _
theorem sx_104_1 : fx_sf mx_104 mc_104_1 := sf_drop (l := mc_104_0) 11 sx_104_0
set_option maxRecDepth 100000 in
theorem sy_104 : ∀ r ∈ mx_104.2, fx_sf mx_104 r := (List.forall_mem_cons.mpr ⟨sx_104_0, (List.forall_mem_cons.mpr ⟨sx_104_1, (fun _ h => absurd h List.not_mem_nil)⟩)⟩)
theorem sx_105_0 : fx_sf mx_105 mc_105_0 := sf_self _
set_option maxRecDepth 100000 in
theorem sy_105 : ∀ r ∈ mx_105.2, fx_sf mx_105 r := (List.forall_mem_cons.mpr ⟨sx_105_0, (fun _ h => absurd h List.not_mem_nil)⟩)
theorem sx_106_0 : fx_sf mx_106 mc_106_0 := sf_self _
theorem sx_106_1 : fx_sf mx_106 mc_106_1 := sf_drop (l := mc_106_0) 9 sx_106_0
set_option maxRecDepth 100000 in
theorem sy_106 : ∀ r ∈ mx_106.2, fx_sf mx_106 r := (List.forall_mem_cons.mpr ⟨sx_106_0, (List.forall_mem_cons.mpr ⟨sx_106_1, (fun _ h => absurd h List.not_mem_nil)⟩)⟩)
theorem sx_107_0 : fx_sf mx_107 mc_107_0 := sf_self _
theorem sx_107_1 : fx_sf mx_107 mc_107_1 := sf_drop (l := mc_107_0) 10 sx_107_0
theorem sx_107_2 : fx_sf mx_107 mc_107_2 := sf_drop (l := mc_107_1) 10 sx_107_1
theorem sx_107_3 : fx_sf mx_107 mc_107_3 := sf_drop (l := mc_107_2) 10 sx_107_2
theorem sx_107_4 : fx_sf mx_107 mc_107_4 := sf_drop (l := mc_107_3) 12 sx_107_3
theorem sx_107_5 : fx_sf mx_107 mc_107_5 := sf_drop (l := mc_107_4) 3 sx_107_4
theorem sx_107_6 : fx_sf mx_107 mc_107_6 := sf_drop (l := mc_107_5) 0 sx_107_5
theorem sx_107_7 : fx_sf mx_107 mc_107_7 := sf_drop (l := mc_107_6) 0 sx_107_6
theorem sx_107_8 : fx_sf mx_107 mc_107_8 := sf_drop (l := mc_107_7) 0 sx_107_7
theorem sx_107_9 : fx_sf mx_107 mc_107_9 := sf_drop (l := mc_107_8) 0 sx_107_8
set_option maxRecDepth 100000 in
theorem sy_107 : ∀ r ∈ mx_107.2, fx_sf mx_107 r := (List.forall_mem_cons.mpr ⟨sx_107_0, (List.forall_mem_cons.mpr ⟨sx_107_1, (List.forall_mem_cons.mpr ⟨sx_107_2, (List.forall_mem_cons.mpr ⟨sx_107_3, (List.forall_mem_cons.mpr ⟨sx_107_4, (List.forall_mem_cons.mpr ⟨sx_107_5, (List.forall_mem_cons.mpr ⟨sx_107_6, (List.forall_mem_cons.mpr ⟨sx_107_7, (List.forall_mem_cons.mpr ⟨sx_107_8, (List.forall_mem_cons.mpr ⟨sx_107_9, (fun _ h => absurd h List.not_mem_nil)⟩)⟩)⟩)⟩)⟩)⟩)⟩)⟩)⟩)⟩)
theorem sx_108_0 : fx_sf mx_108 mc_108_0 := sf_self _
set_option maxRecDepth 100000 in
theorem sy_108 : ∀ r ∈ mx_108.2, fx_sf mx_108 r := (List.forall_mem_cons.mpr ⟨sx_108_0, (fun _ h => absurd h List.not_mem_nil)⟩)
theorem sx_109_0 : fx_sf mx_109 mc_109_0 := sf_self _
theorem sx_109_1 : fx_sf mx_109 mc_109_1 := sf_drop (l := mc_109_0) 11 sx_109_0
theorem sx_109_2 : fx_sf mx_109 mc_109_2 := sf_drop (l := mc_109_1) 9 sx_109_1
theorem sx_109_3 : fx_sf mx_109 mc_109_3 := sf_drop (l := mc_109_2) 4 sx_109_2
theorem sx_109_4 : fx_sf mx_109 mc_109_4 := sf_drop (l := mc_109_3) 0 sx_109_3
theorem sx_109_5 : fx_sf mx_109 mc_109_5 := sf_drop (l := mc_109_4) 0 sx_109_4
theorem sx_109_6 : fx_sf mx_109 mc_109_6 := sf_drop (l := mc_109_5) 0 sx_109_5
theorem sx_109_7 : fx_sf mx_109 mc_109_7 := sf_drop (l := mc_109_6) 0 sx_109_6
theorem sx_109_8 : fx_sf mx_109 mc_109_8 := sf_drop (l := mc_109_7) 0 sx_109_7
theorem sx_109_9 : fx_sf mx_109 mc_109_9 := sf_drop (l := mc_109_8) 7 sx_109_8
theorem sx_109_10 : fx_sf mx_109 mc_109_10 := sf_drop (l := mc_109_9) 6 sx_109_9
theorem sx_109_11 : fx_sf mx_109 mc_109_11 := sf_drop (l := mc_109_10) 2 sx_109_10
set_option maxRecDepth 100000 in
theorem sy_109 : ∀ r ∈ mx_109.2, fx_sf mx_109 r := (List.forall_mem_cons.mpr ⟨sx_109_0, (List.forall_mem_cons.mpr ⟨sx_109_1, (List.forall_mem_cons.mpr ⟨sx_109_2, (List.forall_mem_cons.mpr ⟨sx_109_3, (List.forall_mem_cons.mpr ⟨sx_109_4, (List.forall_mem_cons.mpr ⟨sx_109_5, (List.forall_mem_cons.mpr ⟨sx_109_6, (List.forall_mem_cons.mpr ⟨sx_109_7, (List.forall_mem_cons.mpr ⟨sx_109_8, (List.forall_mem_cons.mpr ⟨sx_109_9, (List.forall_mem_cons.mpr ⟨sx_109_10, (List.forall_mem_cons.mpr ⟨sx_109_11, (fun _ h => absurd h List.not_mem_nil)⟩)⟩)⟩)⟩)⟩)⟩)⟩)⟩)⟩)⟩)⟩)⟩)
theorem sx_110_0 : fx_sf mx_110 mc_110_0 := sf_self _
theorem sx_110_1 : fx_sf mx_110 mc_110_1 := sf_drop (l := mc_110_0) 9 sx_110_0
theorem sx_110_2 : fx_sf mx_110 mc_110_2 := sf_drop (l := mc_110_1) 0 sx_110_1
set_option maxRecDepth 100000 in
theorem sy_110 : ∀ r ∈ mx_110.2, fx_sf mx_110 r := (List.forall_mem_cons.mpr ⟨sx_110_0, (List.forall_mem_cons.mpr ⟨sx_110_1, (List.forall_mem_cons.mpr ⟨sx_110_2, (fun _ h => absurd h List.not_mem_nil)⟩)⟩)⟩)
theorem sx_111_0 : fx_sf mx_111 mc_111_0 := sf_self _
theorem sx_111_1 : fx_sf mx_111 mc_111_1 := sf_drop (l := mc_111_0) 8 sx_111_0
set_option maxRecDepth 100000 in
theorem sy_111 : ∀ r ∈ mx_111.2, fx_sf mx_111 r := (List.forall_mem_cons.mpr ⟨sx_111_0, (List.forall_mem_cons.mpr ⟨sx_111_1, (fun _ h => absurd h List.not_mem_nil)⟩)⟩)
theorem sx_112_0 : fx_sf mx_112 mc_112_0 := sf_self _
set_option maxRecDepth 100000 in
theorem sy_112 : ∀ r ∈ mx_112.2, fx_sf mx_112 r := (List.forall_mem_cons.mpr ⟨sx_112_0, (fun _ h => absurd h List.not_mem_nil)⟩)
theorem sx_113_0 : fx_sf mx_113 mc_113_0 := sf_self _
theorem sx_113_1 : fx_sf mx_113 mc_113_1 := sf_drop (l := mc_113_0) 5 sx_113_0
set_option maxRecDepth 100000 in
theorem sy_113 : ∀ r ∈ mx_113.2, fx_sf mx_113 r := (List.forall_mem_cons.mpr ⟨sx_113_0, (List.forall_mem_cons.mpr ⟨sx_113_1, (fun _ h => absurd h List.not_mem_nil)⟩)⟩)
theorem sx_114_0 : fx_sf mx_114 mc_114_0 := sf_self _
theorem sx_114_1 : fx_sf mx_114 mc_114_1 := sf_drop (l := mc_114_0) 9 sx_114_0
theorem sx_114_2 : fx_sf mx_114 mc_114_2 := sf_drop (l := mc_114_1) 7 sx_114_1
set_option maxRecDepth 100000 in
theorem sy_114 : ∀ r ∈ mx_114.2, fx_sf mx_114 r := (List.forall_mem_cons.mpr ⟨sx_114_0, (List.forall_mem_cons.mpr ⟨sx_114_1, (List.forall_mem_cons.mpr ⟨sx_114_2, (fun _ h => absurd h List.not_mem_nil)⟩)⟩)⟩)
theorem sx_115_0 : fx_sf mx_115 mc_115_0 := sf_self _
theorem sx_115_1 : fx_sf mx_115 mc_115_1 := sf_drop (l := mc_115_0) 10 sx_115_0
theorem sx_115_2 : fx_sf mx_115 mc_115_2 := sf_drop (l := mc_115_1) 8 sx_115_1
theorem sx_115_3 : fx_sf mx_115 mc_115_3 := sf_drop (l := mc_115_2) 4 sx_115_2
theorem sx_115_4 : fx_sf mx_115 mc_115_4 := sf_drop (l := mc_115_3) 2 sx_115_3
set_option maxRecDepth 100000 in
theorem sy_115 : ∀ r ∈ mx_115.2, fx_sf mx_115 r := (List.forall_mem_cons.mpr ⟨sx_115_0, (List.forall_mem_cons.mpr ⟨sx_115_1, (List.forall_mem_cons.mpr ⟨sx_115_2, (List.forall_mem_cons.mpr ⟨sx_115_3, (List.forall_mem_cons.mpr ⟨sx_115_4, (fun _ h => absurd h List.not_mem_nil)⟩)⟩)⟩)⟩)⟩)
theorem sx_116_0 : fx_sf mx_116 mc_116_0 := sf_self _
set_option maxRecDepth 100000 in
theorem sy_116 : ∀ r ∈ mx_116.2, fx_sf mx_116 r := (List.forall_mem_cons.mpr ⟨sx_116_0, (fun _ h => absurd h List.not_mem_nil)⟩)
theorem sx_117_0 : fx_sf mx_117 mc_117_0 := sf_self _
theorem sx_117_1 : fx_sf mx_117 mc_117_1 := sf_drop (l := mc_117_0) 11 sx_117_0
set_option maxRecDepth 100000 in
theorem sy_117 : ∀ r ∈ mx_117.2, fx_sf mx_117 r := (List.forall_mem_cons.mpr ⟨sx_117_0, (List.forall_mem_cons.mpr ⟨sx_117_1, (fun _ h => absurd h List.not_mem_nil)⟩)⟩)
theorem sx_118_0 : fx_sf mx_118 mc_118_0 := sf_self _
theorem sx_118_1 : fx_sf mx_118 mc_118_1 := sf_drop (l := mc_118_0) 11 sx_118_0
set_option maxRecDepth 100000 in
theorem sy_118 : ∀ r ∈ mx_118.2, fx_sf mx_118 r := (List.forall_mem_cons.mpr ⟨sx_118_0, (List.forall_mem_cons.mpr ⟨sx_118_1, (fun _ h => absurd h List.not_mem_nil)⟩)⟩)
theorem sx_119_0 : fx_sf mx_119 mc_119_0 := sf_self _
theorem sx_119_1 : fx_sf mx_119 mc_119_1 := sf_drop (l := mc_119_0) 11 sx_119_0
set_option maxRecDepth 100000 in
theorem sy_119 : ∀ r ∈ mx_119.2, fx_sf mx_119 r := (List.forall_mem_cons.mpr ⟨sx_119_0, (List.forall_mem_cons.mpr ⟨sx_119_1, (fun _ h => absurd h List.not_mem_nil)⟩)⟩)
theorem sx_120_0 : fx_sf mx_120 mc_120_0 := sf_self _
theorem sx_120_1 : fx_sf mx_120 mc_120_1 := sf_drop (l := mc_120_0) 11 sx_120_0
set_option maxRecDepth 100000 in
theorem sy_120 : ∀ r ∈ mx_120.2, fx_sf mx_120 r := (List.forall_mem_cons.mpr ⟨sx_120_0, (List.forall_mem_cons.mpr ⟨sx_120_1, (fun _ h => absurd h List.not_mem_nil)⟩)⟩)
theorem sx_121_0 : fx_sf mx_121 mc_121_0 := sf_self _
theorem sx_121_1 : fx_sf mx_121 mc_121_1 := sf_drop (l := mc_121_0) 11 sx_121_0
set_option maxRecDepth 100000 in
theorem sy_121 : ∀ r ∈ mx_121.2, fx_sf mx_121 r := (List.forall_mem_cons.mpr ⟨sx_121_0, (List.forall_mem_cons.mpr ⟨sx_121_1, (fun _ h => absurd h List.not_mem_nil)⟩)⟩)
theorem sx_122_0 : fx_sf mx_122 mc_122_0 := sf_self _
theorem sx_122_1 : fx_sf mx_122 mc_122_1 := sf_drop (l := mc_122_0) 11 sx_122_0
set_option maxRecDepth 100000 in
theorem sy_122 : ∀ r ∈ mx_122.2, fx_sf mx_122 r := (List.forall_mem_cons.mpr ⟨sx_122_0, (List.forall_mem_cons.mpr ⟨sx_122_1, (fun _ h => absurd h List.not_mem_nil)⟩)⟩)
theorem sx_123_0 : fx_sf mx_123 mc_123_0 := sf_self _
theorem sx_123_1 : fx_sf mx_123 mc_123_1 := sf_drop (l := mc_123_0) 11 sx_123_0
theorem sx_123_2 : fx_sf mx_123 mc_123_2 := sf_drop (l := mc_123_1) 9 sx_123_1
theorem sx_123_3 : fx_sf mx_123 mc_123_3 := sf_drop (l := mc_123_2) 9 sx_123_2
theorem sx_123_4 : fx_sf mx_123 mc_123_4 := sf_drop (l := mc_123_3) 6 sx_123_3
set_option maxRecDepth 100000 in
theorem sy_123 : ∀ r ∈ mx_123.2, fx_sf mx_123 r := (List.forall_mem_cons.mpr ⟨sx_123_0, (List.forall_mem_cons.mpr ⟨sx_123_1, (List.forall_mem_cons.mpr ⟨sx_123_2, (List.forall_mem_cons.mpr ⟨sx_123_3, (List.forall_mem_cons.mpr ⟨sx_123_4, (fun _ h => absurd h List.not_mem_nil)⟩)⟩)⟩)⟩)⟩)
theorem sx_124_0 : fx_sf mx_124 mc_124_0 := sf_self _
theorem sx_124_1 : fx_sf mx_124 mc_124_1 := sf_drop (l := mc_124_0) 9 sx_124_0
set_option maxRecDepth 100000 in
theorem sy_124 : ∀ r ∈ mx_124.2, fx_sf mx_124 r := (List.forall_mem_cons.mpr ⟨sx_124_0, (List.forall_mem_cons.mpr ⟨sx_124_1, (fun _ h => absurd h List.not_mem_nil)⟩)⟩)
theorem sx_125_0 : fx_sf mx_125 mc_125_0 := sf_self _
theorem sx_125_1 : fx_sf mx_125 mc_125_1 := sf_drop (l := mc_125_0) 8 sx_125_0
set_option maxRecDepth 100000 in
theorem sy_125 : ∀ r ∈ mx_125.2, fx_sf mx_125 r := (List.forall_mem_cons.mpr ⟨sx_125_0, (List.forall_mem_cons.mpr ⟨sx_125_1, (fun _ h => absurd h List.not_mem_nil)⟩)⟩)
theorem sx_126_0 : fx_sf mx_126 mc_126_0 := sf_self _
theorem sx_126_1 : fx_sf mx_126 mc_126_1 := sf_drop (l := mc_126_0) 8 sx_126_0
set_option maxRecDepth 100000 in
theorem sy_126 : ∀ r ∈ mx_126.2, fx_sf mx_126 r := (List.forall_mem_cons.mpr ⟨sx_126_0, (List.forall_mem_cons.mpr ⟨sx_126_1, (fun _ h => absurd h List.not_mem_nil)⟩)⟩)
theorem sx_127_0 : fx_sf mx_127 mc_127_0 := sf_self _
theorem sx_127_1 : fx_sf mx_127 mc_127_1 := sf_drop (l := mc_127_0) 5 sx_127_0
theorem sx_127_2 : fx_sf mx_127 mc_127_2 := sf_drop (l := mc_127_1) 0 sx_127_1
theorem sx_127_3 : fx_sf mx_127 mc_127_3 := sf_drop (l := mc_127_2) 3 sx_127_2
set_option maxRecDepth 100000 in
theorem sy_127 : ∀ r ∈ mx_127.2, fx_sf mx_127 r := (List.forall_mem_cons.mpr ⟨sx_127_0, (List.forall_mem_cons.mpr ⟨sx_127_1, (List.forall_mem_cons.mpr ⟨sx_127_2, (List.forall_mem_cons.mpr ⟨sx_127_3, (fun _ h => absurd h List.not_mem_nil)⟩)⟩)⟩)⟩)
theorem sx_128_0 : fx_sf mx_128 mc_128_0 := sf_self _
theorem sx_128_1 : fx_sf mx_128 mc_128_1 := sf_drop (l := mc_128_0) 7 sx_128_0
theorem sx_128_2 : fx_sf mx_128 mc_128_2 := sf_drop (l := mc_128_1) 10 sx_128_1
theorem sx_128_3 : fx_sf mx_128 mc_128_3 := sf_drop (l := mc_128_2) 10 sx_128_2
theorem sx_128_4 : fx_sf mx_128 mc_128_4 := sf_drop (l := mc_128_3) 9 sx_128_3
theorem sx_128_5 : fx_sf mx_128 mc_128_5 := sf_drop (l := mc_128_4) 3 sx_128_4
theorem sx_128_6 : fx_sf mx_128 mc_128_6 := sf_drop (l := mc_128_5) 6 sx_128_5
theorem sx_128_7 : fx_sf mx_128 mc_128_7 := sf_drop (l := mc_128_6) 3 sx_128_6
theorem sx_128_8 : fx_sf mx_128 mc_128_8 := sf_drop (l := mc_128_7) 6 sx_128_7
theorem sx_128_9 : fx_sf mx_128 mc_128_9 := sf_drop (l := mc_128_8) 7 sx_128_8
theorem sx_128_10 : fx_sf mx_128 mc_128_10 := sf_drop (l := mc_128_9) 6 sx_128_9
set_option maxRecDepth 100000 in
theorem sy_128 : ∀ r ∈ mx_128.2, fx_sf mx_128 r := (List.forall_mem_cons.mpr ⟨sx_128_0, (List.forall_mem_cons.mpr ⟨sx_128_1, (List.forall_mem_cons.mpr ⟨sx_128_2, (List.forall_mem_cons.mpr ⟨sx_128_3, (List.forall_mem_cons.mpr ⟨sx_128_4, (List.forall_mem_cons.mpr ⟨sx_128_5, (List.forall_mem_cons.mpr ⟨sx_128_6, (List.forall_mem_cons.mpr ⟨sx_128_7, (List.forall_mem_cons.mpr ⟨sx_128_8, (List.forall_mem_cons.mpr ⟨sx_128_9, (List.forall_mem_cons.mpr ⟨sx_128_10, (fun _ h => absurd h List.not_mem_nil)⟩)⟩)⟩)⟩)⟩)⟩)⟩)⟩)⟩)⟩)⟩)
theorem sx_129_0 : fx_sf mx_129 mc_129_0 := sf_self _
theorem sx_129_1 : fx_sf mx_129 mc_129_1 := sf_drop (l := mc_129_0) 10 sx_129_0
theorem sx_129_2 : fx_sf mx_129 mc_129_2 := sf_drop (l := mc_129_1) 8 sx_129_1
set_option maxRecDepth 100000 in
theorem sy_129 : ∀ r ∈ mx_129.2, fx_sf mx_129 r := (List.forall_mem_cons.mpr ⟨sx_129_0, (List.forall_mem_cons.mpr ⟨sx_129_1, (List.forall_mem_cons.mpr ⟨sx_129_2, (fun _ h => absurd h List.not_mem_nil)⟩)⟩)⟩)
theorem sx_130_0 : fx_sf mx_130 mc_130_0 := sf_self _
set_option maxRecDepth 100000 in
theorem sy_130 : ∀ r ∈ mx_130.2, fx_sf mx_130 r := (List.forall_mem_cons.mpr ⟨sx_130_0, (fun _ h => absurd h List.not_mem_nil)⟩)
theorem sx_131_0 : fx_sf mx_131 mc_131_0 := sf_self _
theorem sx_131_1 : fx_sf mx_131 mc_131_1 := sf_drop (l := mc_131_0) 10 sx_131_0
theorem sx_131_2 : fx_sf mx_131 mc_131_2 := sf_drop (l := mc_131_1) 8 sx_131_1
theorem sx_131_3 : fx_sf mx_131 mc_131_3 := sf_drop (l := mc_131_2) 3 sx_131_2
set_option maxRecDepth 100000 in
theorem sy_131 : ∀ r ∈ mx_131.2, fx_sf mx_131 r := (List.forall_mem_cons.mpr ⟨sx_131_0, (List.forall_mem_cons.mpr ⟨sx_131_1, (List.forall_mem_cons.mpr ⟨sx_131_2, (List.forall_mem_cons.mpr ⟨sx_131_3, (fun _ h => absurd h List.not_mem_nil)⟩)⟩)⟩)⟩)
theorem sx_132_0 : fx_sf mx_132 mc_132_0 := sf_self _
set_option maxRecDepth 100000 in
theorem sy_132 : ∀ r ∈ mx_132.2, fx_sf mx_132 r := (List.forall_mem_cons.mpr ⟨sx_132_0, (fun _ h => absurd h List.not_mem_nil)⟩)
theorem sx_133_0 : fx_sf mx_133 mc_133_0 := sf_self _
set_option maxRecDepth 100000 in
theorem sy_133 : ∀ r ∈ mx_133.2, fx_sf mx_133 r := (List.forall_mem_cons.mpr ⟨sx_133_0, (fun _ h => absurd h List.not_mem_nil)⟩)
theorem sx_134_0 : fx_sf mx_134 mc_134_0 := sf_self _
theorem sx_134_1 : fx_sf mx_134 mc_134_1 := sf_drop (l := mc_134_0) 3 sx_134_0
set_option maxRecDepth 100000 in
theorem sy_134 : ∀ r ∈ mx_134.2, fx_sf mx_134 r := (List.forall_mem_cons.mpr ⟨sx_134_0, (List.forall_mem_cons.mpr ⟨sx_134_1, (fun _ h => absurd h List.not_mem_nil)⟩)⟩)
theorem sx_135_0 : fx_sf mx_135 mc_135_0 := sf_self _
theorem sx_135_1 : fx_sf mx_135 mc_135_1 := sf_drop (l := mc_135_0) 12 sx_135_0
set_option maxRecDepth 100000 in
theorem sy_135 : ∀ r ∈ mx_135.2, fx_sf mx_135 r := (List.forall_mem_cons.mpr ⟨sx_135_0, (List.forall_mem_cons.mpr ⟨sx_135_1, (fun _ h => absurd h List.not_mem_nil)⟩)⟩)
theorem sx_136_0 : fx_sf mx_136 mc_136_0 := sf_self _
theorem sx_136_1 : fx_sf mx_136 mc_136_1 := sf_drop (l := mc_136_0) 8 sx_136_0
theorem sx_136_2 : fx_sf mx_136 mc_136_2 := sf_drop (l := mc_136_1) 2 sx_136_1
theorem sx_136_3 : fx_sf mx_136 mc_136_3 := sf_drop (l := mc_136_2) 0 sx_136_2
theorem sx_136_4 : fx_sf mx_136 mc_136_4 := sf_drop (l := mc_136_3) 0 sx_136_3
theorem sx_136_5 : fx_sf mx_136 mc_136_5 := sf_drop (l := mc_136_4) 0 sx_136_4
theorem sx_136_6 : fx_sf mx_136 mc_136_6 := sf_drop (l := mc_136_5) 0 sx_136_5
set_option maxRecDepth 100000 in
theorem sy_136 : ∀ r ∈ mx_136.2, fx_sf mx_136 r := (List.forall_mem_cons.mpr ⟨sx_136_0, (List.forall_mem_cons.mpr ⟨sx_136_1, (List.forall_mem_cons.mpr ⟨sx_136_2, (List.forall_mem_cons.mpr ⟨sx_136_3, (List.forall_mem_cons.mpr ⟨sx_136_4, (List.forall_mem_cons.mpr ⟨sx_136_5, (List.forall_mem_cons.mpr ⟨sx_136_6, (fun _ h => absurd h List.not_mem_nil)⟩)⟩)⟩)⟩)⟩)⟩)⟩)
theorem sx_137_0 : fx_sf mx_137 mc_137_0 := sf_self _
theorem sx_137_1 : fx_sf mx_137 mc_137_1 := sf_drop (l := mc_137_0) 8 sx_137_0
theorem sx_137_2 : fx_sf mx_137 mc_137_2 := sf_drop (l := mc_137_1) 0 sx_137_1
theorem sx_137_3 : fx_sf mx_137 mc_137_3 := sf_drop (l := mc_137_2) 0 sx_137_2
set_option maxRecDepth 100000 in
theorem sy_137 : ∀ r ∈ mx_137.2, fx_sf mx_137 r := (List.forall_mem_cons.mpr ⟨sx_137_0, (List.forall_mem_cons.mpr ⟨sx_137_1, (List.forall_mem_cons.mpr ⟨sx_137_2, (List.forall_mem_cons.mpr ⟨sx_137_3, (fun _ h => absurd h List.not_mem_nil)⟩)⟩)⟩)⟩)
theorem sx_138_0 : fx_sf mx_138 mc_138_0 := sf_self _
theorem sx_138_1 : fx_sf mx_138 mc_138_1 := sf_drop (l := mc_138_0) 5 sx_138_0
theorem sx_138_2 : fx_sf mx_138 mc_138_2 := sf_drop (l := mc_138_1) 0 sx_138_1
theorem sx_138_3 : fx_sf mx_138 mc_138_3 := sf_drop (l := mc_138_2) 4 sx_138_2
set_option maxRecDepth 100000 in
theorem sy_138 : ∀ r ∈ mx_138.2, fx_sf mx_138 r := (List.forall_mem_cons.mpr ⟨sx_138_0, (List.forall_mem_cons.mpr ⟨sx_138_1, (List.forall_mem_cons.mpr ⟨sx_138_2, (List.forall_mem_cons.mpr ⟨sx_138_3, (fun _ h => absurd h List.not_mem_nil)⟩)⟩)⟩)⟩)
theorem sx_139_0 : fx_sf mx_139 mc_139_0 := sf_self _
theorem sx_139_1 : fx_sf mx_139 mc_139_1 := sf_drop (l := mc_139_0) 11 sx_139_0
theorem sx_139_2 : fx_sf mx_139 mc_139_2 := sf_drop (l := mc_139_1) 9 sx_139_1
theorem sx_139_3 : fx_sf mx_139 mc_139_3 := sf_drop (l := mc_139_2) 9 sx_139_2
theorem sx_139_4 : fx_sf mx_139 mc_139_4 := sf_drop (l := mc_139_3) 6 sx_139_3
set_option maxRecDepth 100000 in
theorem sy_139 : ∀ r ∈ mx_139.2, fx_sf mx_139 r := (List.forall_mem_cons.mpr ⟨sx_139_0, (List.forall_mem_cons.mpr ⟨sx_139_1, (List.forall_mem_cons.mpr ⟨sx_139_2, (List.forall_mem_cons.mpr ⟨sx_139_3, (List.forall_mem_cons.mpr ⟨sx_139_4, (fun _ h => absurd h List.not_mem_nil)⟩)⟩)⟩)⟩)⟩)
theorem sx_140_0 : fx_sf mx_140 mc_140_0 := sf_self _
theorem sx_140_1 : fx_sf mx_140 mc_140_1 := sf_drop (l := mc_140_0) 9 sx_140_0
theorem sx_140_2 : fx_sf mx_140 mc_140_2 := sf_drop (l := mc_140_1) 7 sx_140_1
theorem sx_140_3 : fx_sf mx_140 mc_140_3 := sf_drop (l := mc_140_2) 8 sx_140_2
theorem sx_140_4 : fx_sf mx_140 mc_140_4 := sf_drop (l := mc_140_3) 9 sx_140_3
theorem sx_140_5 : fx_sf mx_140 mc_140_5 := sf_drop (l := mc_140_4) 2 sx_140_4
theorem sx_140_6 : fx_sf mx_140 mc_140_6 := sf_drop (l := mc_140_5) 0 sx_140_5
theorem sx_140_7 : fx_sf mx_140 mc_140_7 := sf_drop (l := mc_140_6) 0 sx_140_6
theorem sx_140_8 : fx_sf mx_140 mc_140_8 := sf_drop (l := mc_140_7) 0 sx_140_7
theorem sx_140_9 : fx_sf mx_140 mc_140_9 := sf_drop (l := mc_140_8) 8 sx_140_8
theorem sx_140_10 : fx_sf mx_140 mc_140_10 := sf_drop (l := mc_140_9) 8 sx_140_9
theorem sx_140_11 : fx_sf mx_140 mc_140_11 := sf_drop (l := mc_140_10) 4 sx_140_10
theorem sx_140_12 : fx_sf mx_140 mc_140_12 := sf_drop (l := mc_140_11) 0 sx_140_11
theorem sx_140_13 : fx_sf mx_140 mc_140_13 := sf_drop (l := mc_140_12) 0 sx_140_12
theorem sx_140_14 : fx_sf mx_140 mc_140_14 := sf_drop (l := mc_140_13) 0 sx_140_13
theorem sx_140_15 : fx_sf mx_140 mc_140_15 := sf_drop (l := mc_140_14) 0 sx_140_14
theorem sx_140_16 : fx_sf mx_140 mc_140_16 := sf_drop (l := mc_140_15) 0 sx_140_15
set_option maxRecDepth 100000 in
theorem sy_140 : ∀ r ∈ mx_140.2, fx_sf mx_140 r := (List.forall_mem_cons.mpr ⟨sx_140_0, (List.forall_mem_cons.mpr ⟨sx_140_1, (List.forall_mem_cons.mpr ⟨sx_140_2, (List.forall_mem_cons.mpr ⟨sx_140_3, (List.forall_mem_cons.mpr ⟨sx_140_4, (List.forall_mem_cons.mpr ⟨sx_140_5, (List.forall_mem_cons.mpr ⟨sx_140_6, (List.forall_mem_cons.mpr ⟨sx_140_7, (List.forall_mem_cons.mpr ⟨sx_140_8, (List.forall_mem_cons.mpr ⟨sx_140_9, (List.forall_mem_cons.mpr ⟨sx_140_10, (List.forall_mem_cons.mpr ⟨sx_140_11, (List.forall_mem_cons.mpr ⟨sx_140_12, (List.forall_mem_cons.mpr ⟨sx_140_13, (List.forall_mem_cons.mpr ⟨sx_140_14, (List.forall_mem_cons.mpr ⟨sx_140_15, (List.forall_mem_cons.mpr ⟨sx_140_16, (fun _ h => absurd h List.not_mem_nil)⟩)⟩)⟩)⟩)⟩)⟩)⟩)⟩)⟩)⟩)⟩)⟩)⟩)⟩)⟩)⟩)⟩)
theorem sx_141_0 : fx_sf mx_141 mc_141_0 := sf_self _
set_option maxRecDepth 100000 in
theorem sy_141 : ∀ r ∈ mx_141.2, fx_sf mx_141 r := (List.forall_mem_cons.mpr ⟨sx_141_0, (fun _ h => absurd h List.not_mem_nil)⟩)
theorem sx_142_0 : fx_sf mx_142 mc_142_0 := sf_self _
theorem sx_142_1 : fx_sf mx_142 mc_142_1 := sf_drop (l := mc_142_0) 9 sx_142_0
theorem sx_142_2 : fx_sf mx_142 mc_142_2 := sf_drop (l := mc_142_1) 10 sx_142_1
theorem sx_142_3 : fx_sf mx_142 mc_142_3 := sf_drop (l := mc_142_2) 3 sx_142_2
set_option maxRecDepth 100000 in
theorem sy_142 : ∀ r ∈ mx_142.2, fx_sf mx_142 r := (List.forall_mem_cons.mpr ⟨sx_142_0, (List.forall_mem_cons.mpr ⟨sx_142_1, (List.forall_mem_cons.mpr ⟨sx_142_2, (List.forall_mem_cons.mpr ⟨sx_142_3, (fun _ h => absurd h List.not_mem_nil)⟩)⟩)⟩)⟩)
theorem sx_143_0 : fx_sf mx_143 mc_143_0 := sf_self _
theorem sx_143_1 : fx_sf mx_143 mc_143_1 := sf_drop (l := mc_143_0) 6 sx_143_0
set_option maxRecDepth 100000 in
theorem sy_143 : ∀ r ∈ mx_143.2, fx_sf mx_143 r := (List.forall_mem_cons.mpr ⟨sx_143_0, (List.forall_mem_cons.mpr ⟨sx_143_1, (fun _ h => absurd h List.not_mem_nil)⟩)⟩)
theorem sx_144_0 : fx_sf mx_144 mc_144_0 := sf_self _
theorem sx_144_1 : fx_sf mx_144 mc_144_1 := sf_drop (l := mc_144_0) 12 sx_144_0
theorem sx_144_2 : fx_sf mx_144 mc_144_2 := sf_drop (l := mc_144_1) 8 sx_144_1
theorem sx_144_3 : fx_sf mx_144 mc_144_3 := sf_drop (l := mc_144_2) 10 sx_144_2
theorem sx_144_4 : fx_sf mx_144 mc_144_4 := sf_drop (l := mc_144_3) 8 sx_144_3
set_option maxRecDepth 100000 in
theorem sy_144 : ∀ r ∈ mx_144.2, fx_sf mx_144 r := (List.forall_mem_cons.mpr ⟨sx_144_0, (List.forall_mem_cons.mpr ⟨sx_144_1, (List.forall_mem_cons.mpr ⟨sx_144_2, (List.forall_mem_cons.mpr ⟨sx_144_3, (List.forall_mem_cons.mpr ⟨sx_144_4, (fun _ h => absurd h List.not_mem_nil)⟩)⟩)⟩)⟩)⟩)
theorem sx_145_0 : fx_sf mx_145 mc_145_0 := sf_self _
theorem sx_145_1 : fx_sf mx_145 mc_145_1 := sf_drop (l := mc_145_0) 9 sx_145_0
set_option maxRecDepth 100000 in
theorem sy_145 : ∀ r ∈ mx_145.2, fx_sf mx_145 r := (List.forall_mem_cons.mpr ⟨sx_145_0, (List.forall_mem_cons.mpr ⟨sx_145_1, (fun _ h => absurd h List.not_mem_nil)⟩)⟩)
theorem sx_146_0 : fx_sf mx_146 mc_146_0 := sf_self _
theorem sx_146_1 : fx_sf mx_146 mc_146_1 := sf_drop (l := mc_146_0) 10 sx_146_0
theorem sx_146_2 : fx_sf mx_146 mc_146_2 := sf_drop (l := mc_146_1) 8 sx_146_1
theorem sx_146_3 : fx_sf mx_146 mc_146_3 := sf_drop (l := mc_146_2) 8 sx_146_2
set_option maxRecDepth 100000 in
theorem sy_146 : ∀ r ∈ mx_146.2, fx_sf mx_146 r := (List.forall_mem_cons.mpr ⟨sx_146_0, (List.forall_mem_cons.mpr ⟨sx_146_1, (List.forall_mem_cons.mpr ⟨sx_146_2, (List.forall_mem_cons.mpr ⟨sx_146_3, (fun _ h => absurd h List.not_mem_nil)⟩)⟩)⟩)⟩)
theorem sx_147_0 : fx_sf mx_147 mc_147_0 := sf_self _
theorem sx_147_1 : fx_sf mx_147 mc_147_1 := sf_drop (l := mc_147_0) 11 sx_147_0
theorem sx_147_2 : fx_sf mx_147 mc_147_2 := sf_drop (l := mc_147_1) 8 sx_147_1
set_option maxRecDepth 100000 in
theorem sy_147 : ∀ r ∈ mx_147.2, fx_sf mx_147 r := (List.forall_mem_cons.mpr ⟨sx_147_0, (List.forall_mem_cons.mpr ⟨sx_147_1, (List.forall_mem_cons.mpr ⟨sx_147_2, (fun _ h => absurd h List.not_mem_nil)⟩)⟩)⟩)
theorem sx_148_0 : fx_sf mx_148 mc_148_0 := sf_self _
theorem sx_148_1 : fx_sf mx_148 mc_148_1 := sf_drop (l := mc_148_0) 12 sx_148_0
set_option maxRecDepth 100000 in
theorem sy_148 : ∀ r ∈ mx_148.2, fx_sf mx_148 r := (List.forall_mem_cons.mpr ⟨sx_148_0, (List.forall_mem_cons.mpr ⟨sx_148_1, (fun _ h => absurd h List.not_mem_nil)⟩)⟩)
theorem sx_149_0 : fx_sf mx_149 mc_149_0 := sf_self _
theorem sx_149_1 : fx_sf mx_149 mc_149_1 := sf_drop (l := mc_149_0) 8 sx_149_0
set_option maxRecDepth 100000 in
theorem sy_149 : ∀ r ∈ mx_149.2, fx_sf mx_149 r := (List.forall_mem_cons.mpr ⟨sx_149_0, (List.forall_mem_cons.mpr ⟨sx_149_1, (fun _ h => absurd h List.not_mem_nil)⟩)⟩)
theorem sx_150_0 : fx_sf mx_150 mc_150_0 := sf_self _
theorem sx_150_1 : fx_sf mx_150 mc_150_1 := sf_drop (l := mc_150_0) 11 sx_150_0
set_option maxRecDepth 100000 in
theorem sy_150 : ∀ r ∈ mx_150.2, fx_sf mx_150 r := (List.forall_mem_cons.mpr ⟨sx_150_0, (List.forall_mem_cons.mpr ⟨sx_150_1, (fun _ h => absurd h List.not_mem_nil)⟩)⟩)
theorem sx_151_0 : fx_sf mx_151 mc_151_0 := sf_self _
theorem sx_151_1 : fx_sf mx_151 mc_151_1 := sf_drop (l := mc_151_0) 9 sx_151_0
theorem sx_151_2 : fx_sf mx_151 mc_151_2 := sf_drop (l := mc_151_1) 9 sx_151_1
theorem sx_151_3 : fx_sf mx_151 mc_151_3 := sf_drop (l := mc_151_2) 8 sx_151_2
theorem sx_151_4 : fx_sf mx_151 mc_151_4 := sf_drop (l := mc_151_3) 8 sx_151_3
theorem sx_151_5 : fx_sf mx_151 mc_151_5 := sf_drop (l := mc_151_4) 6 sx_151_4
theorem sx_151_6 : fx_sf mx_151 mc_151_6 := sf_drop (l := mc_151_5) 0 sx_151_5
theorem sx_151_7 : fx_sf mx_151 mc_151_7 := sf_drop (l := mc_151_6) 0 sx_151_6
theorem sx_151_8 : fx_sf mx_151 mc_151_8 := sf_drop (l := mc_151_7) 0 sx_151_7
theorem sx_151_9 : fx_sf mx_151 mc_151_9 := sf_drop (l := mc_151_8) 0 sx_151_8
set_option maxRecDepth 100000 in
theorem sy_151 : ∀ r ∈ mx_151.2, fx_sf mx_151 r := (List.forall_mem_cons.mpr ⟨sx_151_0, (List.forall_mem_cons.mpr ⟨sx_151_1, (List.forall_mem_cons.mpr ⟨sx_151_2, (List.forall_mem_cons.mpr ⟨sx_151_3, (List.forall_mem_cons.mpr ⟨sx_151_4, (List.forall_mem_cons.mpr ⟨sx_151_5, (List.forall_mem_cons.mpr ⟨sx_151_6, (List.forall_mem_cons.mpr ⟨sx_151_7, (List.forall_mem_cons.mpr ⟨sx_151_8, (List.forall_mem_cons.mpr ⟨sx_151_9, (fun _ h => absurd h List.not_mem_nil)⟩)⟩)⟩)⟩)⟩)⟩)⟩)⟩)⟩)⟩)
theorem sx_152_0 : fx_sf mx_152 mc_152_0 := sf_self _
theorem sx_152_1 : fx_sf mx_152 mc_152_1 := sf_drop (l := mc_152_0) 12 sx_152_0
set_option maxRecDepth 100000 in
theorem sy_152 : ∀ r ∈ mx_152.2, fx_sf mx_152 r := (List.forall_mem_cons.mpr ⟨sx_152_0, (List.forall_mem_cons.mpr ⟨sx_152_1, (fun _ h => absurd h List.not_mem_nil)⟩)⟩)
theorem sx_153_0 : fx_sf mx_153 mc_153_0 := sf_self _
theorem sx_153_1 : fx_sf mx_153 mc_153_1 := sf_drop (l := mc_153_0) 8 sx_153_0
set_option maxRecDepth 100000 in
theorem sy_153 : ∀ r ∈ mx_153.2, fx_sf mx_153 r := (List.forall_mem_cons.mpr ⟨sx_153_0, (List.forall_mem_cons.mpr ⟨sx_153_1, (fun _ h => absurd h List.not_mem_nil)⟩)⟩)
theorem sx_154_0 : fx_sf mx_154 mc_154_0 := sf_self _
theorem sx_154_1 : fx_sf mx_154 mc_154_1 := sf_drop (l := mc_154_0) 8 sx_154_0
set_option maxRecDepth 100000 in
theorem sy_154 : ∀ r ∈ mx_154.2, fx_sf mx_154 r := (List.forall_mem_cons.mpr ⟨sx_154_0, (List.forall_mem_cons.mpr ⟨sx_154_1, (fun _ h => absurd h List.not_mem_nil)⟩)⟩)
theorem sx_155_0 : fx_sf mx_155 mc_155_0 := sf_self _
theorem sx_155_1 : fx_sf mx_155 mc_155_1 := sf_drop (l := mc_155_0) 11 sx_155_0
theorem sx_155_2 : fx_sf mx_155 mc_155_2 := sf_drop (l := mc_155_1) 9 sx_155_1
set_option maxRecDepth 100000 in
theorem sy_155 : ∀ r ∈ mx_155.2, fx_sf mx_155 r := (List.forall_mem_cons.mpr ⟨sx_155_0, (List.forall_mem_cons.mpr ⟨sx_155_1, (List.forall_mem_cons.mpr ⟨sx_155_2, (fun _ h => absurd h List.not_mem_nil)⟩)⟩)⟩)
theorem sx_156_0 : fx_sf mx_156 mc_156_0 := sf_self _
theorem sx_156_1 : fx_sf mx_156 mc_156_1 := sf_drop (l := mc_156_0) 10 sx_156_0
theorem sx_156_2 : fx_sf mx_156 mc_156_2 := sf_drop (l := mc_156_1) 8 sx_156_1
theorem sx_156_3 : fx_sf mx_156 mc_156_3 := sf_drop (l := mc_156_2) 10 sx_156_2
set_option maxRecDepth 100000 in
theorem sy_156 : ∀ r ∈ mx_156.2, fx_sf mx_156 r := (List.forall_mem_cons.mpr ⟨sx_156_0, (List.forall_mem_cons.mpr ⟨sx_156_1, (List.forall_mem_cons.mpr ⟨sx_156_2, (List.forall_mem_cons.mpr ⟨sx_156_3, (fun _ h => absurd h List.not_mem_nil)⟩)⟩)⟩)⟩)
theorem sx_157_0 : fx_sf mx_157 mc_157_0 := sf_self _
theorem sx_157_1 : fx_sf mx_157 mc_157_1 := sf_drop (l := mc_157_0) 10 sx_157_0
set_option maxRecDepth 100000 in
theorem sy_157 : ∀ r ∈ mx_157.2, fx_sf mx_157 r := (List.forall_mem_cons.mpr ⟨sx_157_0, (List.forall_mem_cons.mpr ⟨sx_157_1, (fun _ h => absurd h List.not_mem_nil)⟩)⟩)
theorem sx_158_0 : fx_sf mx_158 mc_158_0 := sf_self _
theorem sx_158_1 : fx_sf mx_158 mc_158_1 := sf_drop (l := mc_158_0) 11 sx_158_0
set_option maxRecDepth 100000 in
theorem sy_158 : ∀ r ∈ mx_158.2, fx_sf mx_158 r := (List.forall_mem_cons.mpr ⟨sx_158_0, (List.forall_mem_cons.mpr ⟨sx_158_1, (fun _ h => absurd h List.not_mem_nil)⟩)⟩)
theorem sx_159_0 : fx_sf mx_159 mc_159_0 := sf_self _
theorem sx_159_1 : fx_sf mx_159 mc_159_1 := sf_drop (l := mc_159_0) 9 sx_159_0
set_option maxRecDepth 100000 in
theorem sy_159 : ∀ r ∈ mx_159.2, fx_sf mx_159 r := (List.forall_mem_cons.mpr ⟨sx_159_0, (List.forall_mem_cons.mpr ⟨sx_159_1, (fun _ h => absurd h List.not_mem_nil)⟩)⟩)
theorem sx_160_0 : fx_sf mx_160 mc_160_0 := sf_self _
theorem sx_160_1 : fx_sf mx_160 mc_160_1 := sf_drop (l := mc_160_0) 10 sx_160_0
theorem sx_160_2 : fx_sf mx_160 mc_160_2 := sf_drop (l := mc_160_1) 8 sx_160_1
theorem sx_160_3 : fx_sf mx_160 mc_160_3 := sf_drop (l := mc_160_2) 9 sx_160_2
set_option maxRecDepth 100000 in
theorem sy_160 : ∀ r ∈ mx_160.2, fx_sf mx_160 r := (List.forall_mem_cons.mpr ⟨sx_160_0, (List.forall_mem_cons.mpr ⟨sx_160_1, (List.forall_mem_cons.mpr ⟨sx_160_2, (List.forall_mem_cons.mpr ⟨sx_160_3, (fun _ h => absurd h List.not_mem_nil)⟩)⟩)⟩)⟩)
theorem sx_161_0 : fx_sf mx_161 mc_161_0 := sf_self _
theorem sx_161_1 : fx_sf mx_161 mc_161_1 := sf_drop (l := mc_161_0) 5 sx_161_0
set_option maxRecDepth 100000 in
theorem sy_161 : ∀ r ∈ mx_161.2, fx_sf mx_161 r := (List.forall_mem_cons.mpr ⟨sx_161_0, (List.forall_mem_cons.mpr ⟨sx_161_1, (fun _ h => absurd h List.not_mem_nil)⟩)⟩)
theorem sx_162_0 : fx_sf mx_162 mc_162_0 := sf_self _
theorem sx_162_1 : fx_sf mx_162 mc_162_1 := sf_drop (l := mc_162_0) 5 sx_162_0
theorem sx_162_2 : fx_sf mx_162 mc_162_2 := sf_drop (l := mc_162_1) 0 sx_162_1
set_option maxRecDepth 100000 in
theorem sy_162 : ∀ r ∈ mx_162.2, fx_sf mx_162 r := (List.forall_mem_cons.mpr ⟨sx_162_0, (List.forall_mem_cons.mpr ⟨sx_162_1, (List.forall_mem_cons.mpr ⟨sx_162_2, (fun _ h => absurd h List.not_mem_nil)⟩)⟩)⟩)
theorem sx_163_0 : fx_sf mx_163 mc_163_0 := sf_self _
theorem sx_163_1 : fx_sf mx_163 mc_163_1 := sf_drop (l := mc_163_0) 11 sx_163_0
theorem sx_163_2 : fx_sf mx_163 mc_163_2 := sf_drop (l := mc_163_1) 6 sx_163_1
set_option maxRecDepth 100000 in
theorem sy_163 : ∀ r ∈ mx_163.2, fx_sf mx_163 r := (List.forall_mem_cons.mpr ⟨sx_163_0, (List.forall_mem_cons.mpr ⟨sx_163_1, (List.forall_mem_cons.mpr ⟨sx_163_2, (fun _ h => absurd h List.not_mem_nil)⟩)⟩)⟩)
theorem sx_164_0 : fx_sf mx_164 mc_164_0 := sf_self _
theorem sx_164_1 : fx_sf mx_164 mc_164_1 := sf_drop (l := mc_164_0) 5 sx_164_0
set_option maxRecDepth 100000 in
theorem sy_164 : ∀ r ∈ mx_164.2, fx_sf mx_164 r := (List.forall_mem_cons.mpr ⟨sx_164_0, (List.forall_mem_cons.mpr ⟨sx_164_1, (fun _ h => absurd h List.not_mem_nil)⟩)⟩)
theorem sx_165_0 : fx_sf mx_165 mc_165_0 := sf_self _
set_option maxRecDepth 100000 in
theorem sy_165 : ∀ r ∈ mx_165.2, fx_sf mx_165 r := (List.forall_mem_cons.mpr ⟨sx_165_0, (fun _ h => absurd h List.not_mem_nil)⟩)
theorem sx_166_0 : fx_sf mx_166 mc_166_0 := sf_self _
theorem sx_166_1 : fx_sf mx_166 mc_166_1 := sf_drop (l := mc_166_0) 9 sx_166_0
theorem sx_166_2 : fx_sf mx_166 mc_166_2 := sf_drop (l := mc_166_1) 6 sx_166_1
theorem sx_166_3 : fx_sf mx_166 mc_166_3 := sf_drop (l := mc_166_2) 9 sx_166_2
theorem sx_166_4 : fx_sf mx_166 mc_166_4 := sf_drop (l := mc_166_3) 6 sx_166_3
theorem sx_166_5 : fx_sf mx_166 mc_166_5 := sf_drop (l := mc_166_4) 2 sx_166_4
theorem sx_166_6 : fx_sf mx_166 mc_166_6 := sf_drop (l := mc_166_5) 0 sx_166_5
theorem sx_166_7 : fx_sf mx_166 mc_166_7 := sf_drop (l := mc_166_6) 0 sx_166_6
theorem sx_166_8 : fx_sf mx_166 mc_166_8 := sf_drop (l := mc_166_7) 0 sx_166_7
set_option maxRecDepth 100000 in
theorem sy_166 : ∀ r ∈ mx_166.2, fx_sf mx_166 r := (List.forall_mem_cons.mpr ⟨sx_166_0, (List.forall_mem_cons.mpr ⟨sx_166_1, (List.forall_mem_cons.mpr ⟨sx_166_2, (List.forall_mem_cons.mpr ⟨sx_166_3, (List.forall_mem_cons.mpr ⟨sx_166_4, (List.forall_mem_cons.mpr ⟨sx_166_5, (List.forall_mem_cons.mpr ⟨sx_166_6, (List.forall_mem_cons.mpr ⟨sx_166_7, (List.forall_mem_cons.mpr ⟨sx_166_8, (fun _ h => absurd h List.not_mem_nil)⟩)⟩)⟩)⟩)⟩)⟩)⟩)⟩)⟩)
theorem sx_167_0 : fx_sf mx_167 mc_167_0 := sf_self _
theorem sx_167_1 : fx_sf mx_167 mc_167_1 := sf_drop (l := mc_167_0) 12 sx_167_0
theorem sx_167_2 : fx_sf mx_167 mc_167_2 := sf_drop (l := mc_167_1) 5 sx_167_1
theorem sx_167_3 : fx_sf mx_167 mc_167_3 := sf_drop (l := mc_167_2) 5 sx_167_2
theorem sx_167_4 : fx_sf mx_167 mc_167_4 := sf_drop (l := mc_167_3) 0 sx_167_3
theorem sx_167_5 : fx_sf mx_167 mc_167_5 := sf_drop (l := mc_167_4) 0 sx_167_4
theorem sx_167_6 : fx_sf mx_167 mc_167_6 := sf_drop (l := mc_167_5) 0 sx_167_5
theorem sx_167_7 : fx_sf mx_167 mc_167_7 := sf_drop (l := mc_167_6) 5 sx_167_6
set_option maxRecDepth 100000 in
theorem sy_167 : ∀ r ∈ mx_167.2, fx_sf mx_167 r := (List.forall_mem_cons.mpr ⟨sx_167_0, (List.forall_mem_cons.mpr ⟨sx_167_1, (List.forall_mem_cons.mpr ⟨sx_167_2, (List.forall_mem_cons.mpr ⟨sx_167_3, (List.forall_mem_cons.mpr ⟨sx_167_4, (List.forall_mem_cons.mpr ⟨sx_167_5, (List.forall_mem_cons.mpr ⟨sx_167_6, (List.forall_mem_cons.mpr ⟨sx_167_7, (fun _ h => absurd h List.not_mem_nil)⟩)⟩)⟩)⟩)⟩)⟩)⟩)⟩)
theorem sx_168_0 : fx_sf mx_168 mc_168_0 := sf_self _
theorem sx_168_1 : fx_sf mx_168 mc_168_1 := sf_drop (l := mc_168_0) 9 sx_168_0
theorem sx_168_2 : fx_sf mx_168 mc_168_2 := sf_drop (l := mc_168_1) 6 sx_168_1
set_option maxRecDepth 100000 in
theorem sy_168 : ∀ r ∈ mx_168.2, fx_sf mx_168 r := (List.forall_mem_cons.mpr ⟨sx_168_0, (List.forall_mem_cons.mpr ⟨sx_168_1, (List.forall_mem_cons.mpr ⟨sx_168_2, (fun _ h => absurd h List.not_mem_nil)⟩)⟩)⟩)
theorem sx_169_0 : fx_sf mx_169 mc_169_0 := sf_self _
theorem sx_169_1 : fx_sf mx_169 mc_169_1 := sf_drop (l := mc_169_0) 10 sx_169_0
theorem sx_169_2 : fx_sf mx_169 mc_169_2 := sf_drop (l := mc_169_1) 7 sx_169_1
set_option maxRecDepth 100000 in
theorem sy_169 : ∀ r ∈ mx_169.2, fx_sf mx_169 r := (List.forall_mem_cons.mpr ⟨sx_169_0, (List.forall_mem_cons.mpr ⟨sx_169_1, (List.forall_mem_cons.mpr ⟨sx_169_2, (fun _ h => absurd h List.not_mem_nil)⟩)⟩)⟩)
theorem sx_170_0 : fx_sf mx_170 mc_170_0 := sf_self _
theorem sx_170_1 : fx_sf mx_170 mc_170_1 := sf_drop (l := mc_170_0) 10 sx_170_0
theorem sx_170_2 : fx_sf mx_170 mc_170_2 := sf_drop (l := mc_170_1) 9 sx_170_1
theorem sx_170_3 : fx_sf mx_170 mc_170_3 := sf_drop (l := mc_170_2) 9 sx_170_2
theorem sx_170_4 : fx_sf mx_170 mc_170_4 := sf_drop (l := mc_170_3) 4 sx_170_3
theorem sx_170_5 : fx_sf mx_170 mc_170_5 := sf_drop (l := mc_170_4) 7 sx_170_4
theorem sx_170_6 : fx_sf mx_170 mc_170_6 := sf_drop (l := mc_170_5) 7 sx_170_5
theorem sx_170_7 : fx_sf mx_170 mc_170_7 := sf_drop (l := mc_170_6) 9 sx_170_6
theorem sx_170_8 : fx_sf mx_170 mc_170_8 := sf_drop (l := mc_170_7) 7 sx_170_7
set_option maxRecDepth 100000 in
theorem sy_170 : ∀ r ∈ mx_170.2, fx_sf mx_170 r := (List.forall_mem_cons.mpr ⟨sx_170_0, (List.forall_mem_cons.mpr ⟨sx_170_1, (List.forall_mem_cons.mpr ⟨sx_170_2, (List.forall_mem_cons.mpr ⟨sx_170_3, (List.forall_mem_cons.mpr ⟨sx_170_4, (List.forall_mem_cons.mpr ⟨sx_170_5, (List.forall_mem_cons.mpr ⟨sx_170_6, (List.forall_mem_cons.mpr ⟨sx_170_7, (List.forall_mem_cons.mpr ⟨sx_170_8, (fun _ h => absurd h List.not_mem_nil)⟩)⟩)⟩)⟩)⟩)⟩)⟩)⟩)⟩)
theorem sx_171_0 : fx_sf mx_171 mc_171_0 := sf_self _
theorem sx_171_1 : fx_sf mx_171 mc_171_1 := sf_drop (l := mc_171_0) 9 sx_171_0
theorem sx_171_2 : fx_sf mx_171 mc_171_2 := sf_drop (l := mc_171_1) 9 sx_171_1
set_option maxRecDepth 100000 in
theorem sy_171 : ∀ r ∈ mx_171.2, fx_sf mx_171 r := (List.forall_mem_cons.mpr ⟨sx_171_0, (List.forall_mem_cons.mpr ⟨sx_171_1, (List.forall_mem_cons.mpr ⟨sx_171_2, (fun _ h => absurd h List.not_mem_nil)⟩)⟩)⟩)
theorem sx_172_0 : fx_sf mx_172 mc_172_0 := sf_self _
theorem sx_172_1 : fx_sf mx_172 mc_172_1 := sf_drop (l := mc_172_0) 8 sx_172_0
theorem sx_172_2 : fx_sf mx_172 mc_172_2 := sf_drop (l := mc_172_1) 6 sx_172_1
theorem sx_172_3 : fx_sf mx_172 mc_172_3 := sf_drop (l := mc_172_2) 6 sx_172_2
set_option maxRecDepth 100000 in
theorem sy_172 : ∀ r ∈ mx_172.2, fx_sf mx_172 r := (List.forall_mem_cons.mpr ⟨sx_172_0, (List.forall_mem_cons.mpr ⟨sx_172_1, (List.forall_mem_cons.mpr ⟨sx_172_2, (List.forall_mem_cons.mpr ⟨sx_172_3, (fun _ h => absurd h List.not_mem_nil)⟩)⟩)⟩)⟩)
theorem sx_173_0 : fx_sf mx_173 mc_173_0 := sf_self _
set_option maxRecDepth 100000 in
theorem sy_173 : ∀ r ∈ mx_173.2, fx_sf mx_173 r := (List.forall_mem_cons.mpr ⟨sx_173_0, (fun _ h => absurd h List.not_mem_nil)⟩)
theorem sx_174_0 : fx_sf mx_174 mc_174_0 := sf_self _
theorem sx_174_1 : fx_sf mx_174 mc_174_1 := sf_drop (l := mc_174_0) 9 sx_174_0
theorem sx_174_2 : fx_sf mx_174 mc_174_2 := sf_drop (l := mc_174_1) 6 sx_174_1
theorem sx_174_3 : fx_sf mx_174 mc_174_3 := sf_drop (l := mc_174_2) 9 sx_174_2
theorem sx_174_4 : fx_sf mx_174 mc_174_4 := sf_drop (l := mc_174_3) 8 sx_174_3
theorem sx_174_5 : fx_sf mx_174 mc_174_5 := sf_drop (l := mc_174_4) 10 sx_174_4
set_option maxRecDepth 100000 in
theorem sy_174 : ∀ r ∈ mx_174.2, fx_sf mx_174 r := (List.forall_mem_cons.mpr ⟨sx_174_0, (List.forall_mem_cons.mpr ⟨sx_174_1, (List.forall_mem_cons.mpr ⟨sx_174_2, (List.forall_mem_cons.mpr ⟨sx_174_3, (List.forall_mem_cons.mpr ⟨sx_174_4, (List.forall_mem_cons.mpr ⟨sx_174_5, (fun _ h => absurd h List.not_mem_nil)⟩)⟩)⟩)⟩)⟩)⟩)
theorem sx_175_0 : fx_sf mx_175 mc_175_0 := sf_self _
theorem sx_175_1 : fx_sf mx_175 mc_175_1 := sf_drop (l := mc_175_0) 8 sx_175_0
theorem sx_175_2 : fx_sf mx_175 mc_175_2 := sf_drop (l := mc_175_1) 2 sx_175_1
theorem sx_175_3 : fx_sf mx_175 mc_175_3 := sf_drop (l := mc_175_2) 0 sx_175_2
set_option maxRecDepth 100000 in
theorem sy_175 : ∀ r ∈ mx_175.2, fx_sf mx_175 r := (List.forall_mem_cons.mpr ⟨sx_175_0, (List.forall_mem_cons.mpr ⟨sx_175_1, (List.forall_mem_cons.mpr ⟨sx_175_2, (List.forall_mem_cons.mpr ⟨sx_175_3, (fun _ h => absurd h List.not_mem_nil)⟩)⟩)⟩)⟩)
theorem sx_176_0 : fx_sf mx_176 mc_176_0 := sf_self _
theorem sx_176_1 : fx_sf mx_176 mc_176_1 := sf_drop (l := mc_176_0) 9 sx_176_0
theorem sx_176_2 : fx_sf mx_176 mc_176_2 := sf_drop (l := mc_176_1) 7 sx_176_1
theorem sx_176_3 : fx_sf mx_176 mc_176_3 := sf_drop (l := mc_176_2) 1 sx_176_2
set_option maxRecDepth 100000 in
theorem sy_176 : ∀ r ∈ mx_176.2, fx_sf mx_176 r := (List.forall_mem_cons.mpr ⟨sx_176_0, (List.forall_mem_cons.mpr ⟨sx_176_1, (List.forall_mem_cons.mpr ⟨sx_176_2, (List.forall_mem_cons.mpr ⟨sx_176_3, (fun _ h => absurd h List.not_mem_nil)⟩)⟩)⟩)⟩)
theorem sx_177_0 : fx_sf mx_177 mc_177_0 := sf_self _
theorem sx_177_1 : fx_sf mx_177 mc_177_1 := sf_drop (l := mc_177_0) 9 sx_177_0
theorem sx_177_2 : fx_sf mx_177 mc_177_2 := sf_drop (l := mc_177_1) 9 sx_177_1
theorem sx_177_3 : fx_sf mx_177 mc_177_3 := sf_drop (l := mc_177_2) 8 sx_177_2
theorem sx_177_4 : fx_sf mx_177 mc_177_4 := sf_drop (l := mc_177_3) 10 sx_177_3
set_option maxRecDepth 100000 in
theorem sy_177 : ∀ r ∈ mx_177.2, fx_sf mx_177 r := (List.forall_mem_cons.mpr ⟨sx_177_0, (List.forall_mem_cons.mpr ⟨sx_177_1, (List.forall_mem_cons.mpr ⟨sx_177_2, (List.forall_mem_cons.mpr ⟨sx_177_3, (List.forall_mem_cons.mpr ⟨sx_177_4, (fun _ h => absurd h List.not_mem_nil)⟩)⟩)⟩)⟩)⟩)
theorem sx_178_0 : fx_sf mx_178 mc_178_0 := sf_self _
theorem sx_178_1 : fx_sf mx_178 mc_178_1 := sf_drop (l := mc_178_0) 10 sx_178_0
set_option maxRecDepth 100000 in
theorem sy_178 : ∀ r ∈ mx_178.2, fx_sf mx_178 r := (List.forall_mem_cons.mpr ⟨sx_178_0, (List.forall_mem_cons.mpr ⟨sx_178_1, (fun _ h => absurd h List.not_mem_nil)⟩)⟩)
theorem sx_179_0 : fx_sf mx_179 mc_179_0 := sf_self _
theorem sx_179_1 : fx_sf mx_179 mc_179_1 := sf_drop (l := mc_179_0) 10 sx_179_0
theorem sx_179_2 : fx_sf mx_179 mc_179_2 := sf_drop (l := mc_179_1) 8 sx_179_1
set_option maxRecDepth 100000 in
theorem sy_179 : ∀ r ∈ mx_179.2, fx_sf mx_179 r := (List.forall_mem_cons.mpr ⟨sx_179_0, (List.forall_mem_cons.mpr ⟨sx_179_1, (List.forall_mem_cons.mpr ⟨sx_179_2, (fun _ h => absurd h List.not_mem_nil)⟩)⟩)⟩)
theorem sx_180_0 : fx_sf mx_180 mc_180_0 := sf_self _
theorem sx_180_1 : fx_sf mx_180 mc_180_1 := sf_drop (l := mc_180_0) 10 sx_180_0
theorem sx_180_2 : fx_sf mx_180 mc_180_2 := sf_drop (l := mc_180_1) 10 sx_180_1
theorem sx_180_3 : fx_sf mx_180 mc_180_3 := sf_drop (l := mc_180_2) 7 sx_180_2
theorem sx_180_4 : fx_sf mx_180 mc_180_4 := sf_drop (l := mc_180_3) 9 sx_180_3
theorem sx_180_5 : fx_sf mx_180 mc_180_5 := sf_drop (l := mc_180_4) 6 sx_180_4
theorem sx_180_6 : fx_sf mx_180 mc_180_6 := sf_drop (l := mc_180_5) 6 sx_180_5
set_option maxRecDepth 100000 in
theorem sy_180 : ∀ r ∈ mx_180.2, fx_sf mx_180 r := (List.forall_mem_cons.mpr ⟨sx_180_0, (List.forall_mem_cons.mpr ⟨sx_180_1, (List.forall_mem_cons.mpr ⟨sx_180_2, (List.forall_mem_cons.mpr ⟨sx_180_3, (List.forall_mem_cons.mpr ⟨sx_180_4, (List.forall_mem_cons.mpr ⟨sx_180_5, (List.forall_mem_cons.mpr ⟨sx_180_6, (fun _ h => absurd h List.not_mem_nil)⟩)⟩)⟩)⟩)⟩)⟩)⟩)
theorem sx_181_0 : fx_sf mx_181 mc_181_0 := sf_self _
theorem sx_181_1 : fx_sf mx_181 mc_181_1 := sf_drop (l := mc_181_0) 10 sx_181_0
theorem sx_181_2 : fx_sf mx_181 mc_181_2 := sf_drop (l := mc_181_1) 8 sx_181_1
set_option maxRecDepth 100000 in
theorem sy_181 : ∀ r ∈ mx_181.2, fx_sf mx_181 r := (List.forall_mem_cons.mpr ⟨sx_181_0, (List.forall_mem_cons.mpr ⟨sx_181_1, (List.forall_mem_cons.mpr ⟨sx_181_2, (fun _ h => absurd h List.not_mem_nil)⟩)⟩)⟩)
theorem sx_182_0 : fx_sf mx_182 mc_182_0 := sf_self _
theorem sx_182_1 : fx_sf mx_182 mc_182_1 := sf_drop (l := mc_182_0) 8 sx_182_0
set_option maxRecDepth 100000 in
theorem sy_182 : ∀ r ∈ mx_182.2, fx_sf mx_182 r := (List.forall_mem_cons.mpr ⟨sx_182_0, (List.forall_mem_cons.mpr ⟨sx_182_1, (fun _ h => absurd h List.not_mem_nil)⟩)⟩)
theorem sx_183_0 : fx_sf mx_183 mc_183_0 := sf_self _
theorem sx_183_1 : fx_sf mx_183 mc_183_1 := sf_drop (l := mc_183_0) 12 sx_183_0
theorem sx_183_2 : fx_sf mx_183 mc_183_2 := sf_drop (l := mc_183_1) 12 sx_183_1
theorem sx_183_3 : fx_sf mx_183 mc_183_3 := sf_drop (l := mc_183_2) 14 sx_183_2
set_option maxRecDepth 100000 in
theorem sy_183 : ∀ r ∈ mx_183.2, fx_sf mx_183 r := (List.forall_mem_cons.mpr ⟨sx_183_0, (List.forall_mem_cons.mpr ⟨sx_183_1, (List.forall_mem_cons.mpr ⟨sx_183_2, (List.forall_mem_cons.mpr ⟨sx_183_3, (fun _ h => absurd h List.not_mem_nil)⟩)⟩)⟩)⟩)
theorem sx_184_0 : fx_sf mx_184 mc_184_0 := sf_self _
theorem sx_184_1 : fx_sf mx_184 mc_184_1 := sf_drop (l := mc_184_0) 9 sx_184_0
set_option maxRecDepth 100000 in
theorem sy_184 : ∀ r ∈ mx_184.2, fx_sf mx_184 r := (List.forall_mem_cons.mpr ⟨sx_184_0, (List.forall_mem_cons.mpr ⟨sx_184_1, (fun _ h => absurd h List.not_mem_nil)⟩)⟩)
theorem sx_185_0 : fx_sf mx_185 mc_185_0 := sf_self _
theorem sx_185_1 : fx_sf mx_185 mc_185_1 := sf_drop (l := mc_185_0) 10 sx_185_0
theorem sx_185_2 : fx_sf mx_185 mc_185_2 := sf_drop (l := mc_185_1) 5 sx_185_1
set_option maxRecDepth 100000 in
theorem sy_185 : ∀ r ∈ mx_185.2, fx_sf mx_185 r := (List.forall_mem_cons.mpr ⟨sx_185_0, (List.forall_mem_cons.mpr ⟨sx_185_1, (List.forall_mem_cons.mpr ⟨sx_185_2, (fun _ h => absurd h List.not_mem_nil)⟩)⟩)⟩)
theorem sx_186_0 : fx_sf mx_186 mc_186_0 := sf_self _
theorem sx_186_1 : fx_sf mx_186 mc_186_1 := sf_drop (l := mc_186_0) 9 sx_186_0
set_option maxRecDepth 100000 in
theorem sy_186 : ∀ r ∈ mx_186.2, fx_sf mx_186 r := (List.forall_mem_cons.mpr ⟨sx_186_0, (List.forall_mem_cons.mpr ⟨sx_186_1, (fun _ h => absurd h List.not_mem_nil)⟩)⟩)
theorem sx_187_0 : fx_sf mx_187 mc_187_0 := sf_self _
theorem sx_187_1 : fx_sf mx_187 mc_187_1 := sf_drop (l := mc_187_0) 11 sx_187_0
set_option maxRecDepth 100000 in
theorem sy_187 : ∀ r ∈ mx_187.2, fx_sf mx_187 r := (List.forall_mem_cons.mpr ⟨sx_187_0, (List.forall_mem_cons.mpr ⟨sx_187_1, (fun _ h => absurd h List.not_mem_nil)⟩)⟩)
theorem sx_188_0 : fx_sf mx_188 mc_188_0 := sf_self _
theorem sx_188_1 : fx_sf mx_188 mc_188_1 := sf_drop (l := mc_188_0) 11 sx_188_0
set_option maxRecDepth 100000 in
theorem sy_188 : ∀ r ∈ mx_188.2, fx_sf mx_188 r := (List.forall_mem_cons.mpr ⟨sx_188_0, (List.forall_mem_cons.mpr ⟨sx_188_1, (fun _ h => absurd h List.not_mem_nil)⟩)⟩)
theorem sx_189_0 : fx_sf mx_189 mc_189_0 := sf_self _
theorem sx_189_1 : fx_sf mx_189 mc_189_1 := sf_drop (l := mc_189_0) 12 sx_189_0
theorem sx_189_2 : fx_sf mx_189 mc_189_2 := sf_drop (l := mc_189_1) 4 sx_189_1
theorem sx_189_3 : fx_sf mx_189 mc_189_3 := sf_drop (l := mc_189_2) 0 sx_189_2
theorem sx_189_4 : fx_sf mx_189 mc_189_4 := sf_drop (l := mc_189_3) 0 sx_189_3
theorem sx_189_5 : fx_sf mx_189 mc_189_5 := sf_drop (l := mc_189_4) 0 sx_189_4
theorem sx_189_6 : fx_sf mx_189 mc_189_6 := sf_drop (l := mc_189_5) 0 sx_189_5
theorem sx_189_7 : fx_sf mx_189 mc_189_7 := sf_drop (l := mc_189_6) 0 sx_189_6
theorem sx_189_8 : fx_sf mx_189 mc_189_8 := sf_drop (l := mc_189_7) 0 sx_189_7
set_option maxRecDepth 100000 in
theorem sy_189 : ∀ r ∈ mx_189.2, fx_sf mx_189 r := (List.forall_mem_cons.mpr ⟨sx_189_0, (List.forall_mem_cons.mpr ⟨sx_189_1, (List.forall_mem_cons.mpr ⟨sx_189_2, (List.forall_mem_cons.mpr ⟨sx_189_3, (List.forall_mem_cons.mpr ⟨sx_189_4, (List.forall_mem_cons.mpr ⟨sx_189_5, (List.forall_mem_cons.mpr ⟨sx_189_6, (List.forall_mem_cons.mpr ⟨sx_189_7, (List.forall_mem_cons.mpr ⟨sx_189_8, (fun _ h => absurd h List.not_mem_nil)⟩)⟩)⟩)⟩)⟩)⟩)⟩)⟩)⟩)
theorem sx_190_0 : fx_sf mx_190 mc_190_0 := sf_self _
theorem sx_190_1 : fx_sf mx_190 mc_190_1 := sf_drop (l := mc_190_0) 8 sx_190_0
set_option maxRecDepth 100000 in
theorem sy_190 : ∀ r ∈ mx_190.2, fx_sf mx_190 r := (List.forall_mem_cons.mpr ⟨sx_190_0, (List.forall_mem_cons.mpr ⟨sx_190_1, (fun _ h => absurd h List.not_mem_nil)⟩)⟩)
theorem sx_191_0 : fx_sf mx_191 mc_191_0 := sf_self _
theorem sx_191_1 : fx_sf mx_191 mc_191_1 := sf_drop (l := mc_191_0) 10 sx_191_0
theorem sx_191_2 : fx_sf mx_191 mc_191_2 := sf_drop (l := mc_191_1) 3 sx_191_1
theorem sx_191_3 : fx_sf mx_191 mc_191_3 := sf_drop (l := mc_191_2) 6 sx_191_2
theorem sx_191_4 : fx_sf mx_191 mc_191_4 := sf_drop (l := mc_191_3) 0 sx_191_3
set_option maxRecDepth 100000 in
theorem sy_191 : ∀ r ∈ mx_191.2, fx_sf mx_191 r := (List.forall_mem_cons.mpr ⟨sx_191_0, (List.forall_mem_cons.mpr ⟨sx_191_1, (List.forall_mem_cons.mpr ⟨sx_191_2, (List.forall_mem_cons.mpr ⟨sx_191_3, (List.forall_mem_cons.mpr ⟨sx_191_4, (fun _ h => absurd h List.not_mem_nil)⟩)⟩)⟩)⟩)⟩)
theorem sx_192_0 : fx_sf mx_192 mc_192_0 := sf_self _
theorem sx_192_1 : fx_sf mx_192 mc_192_1 := sf_drop (l := mc_192_0) 8 sx_192_0
set_option maxRecDepth 100000 in
theorem sy_192 : ∀ r ∈ mx_192.2, fx_sf mx_192 r := (List.forall_mem_cons.mpr ⟨sx_192_0, (List.forall_mem_cons.mpr ⟨sx_192_1, (fun _ h => absurd h List.not_mem_nil)⟩)⟩)
theorem sx_193_0 : fx_sf mx_193 mc_193_0 := sf_self _
theorem sx_193_1 : fx_sf mx_193 mc_193_1 := sf_drop (l := mc_193_0) 9 sx_193_0
theorem sx_193_2 : fx_sf mx_193 mc_193_2 := sf_drop (l := mc_193_1) 7 sx_193_1
set_option maxRecDepth 100000 in
theorem sy_193 : ∀ r ∈ mx_193.2, fx_sf mx_193 r := (List.forall_mem_cons.mpr ⟨sx_193_0, (List.forall_mem_cons.mpr ⟨sx_193_1, (List.forall_mem_cons.mpr ⟨sx_193_2, (fun _ h => absurd h List.not_mem_nil)⟩)⟩)⟩)
theorem sx_194_0 : fx_sf mx_194 mc_194_0 := sf_self _
theorem sx_194_1 : fx_sf mx_194 mc_194_1 := sf_drop (l := mc_194_0) 10 sx_194_0
set_option maxRecDepth 100000 in
theorem sy_194 : ∀ r ∈ mx_194.2, fx_sf mx_194 r := (List.forall_mem_cons.mpr ⟨sx_194_0, (List.forall_mem_cons.mpr ⟨sx_194_1, (fun _ h => absurd h List.not_mem_nil)⟩)⟩)
theorem sx_195_0 : fx_sf mx_195 mc_195_0 := sf_self _
theorem sx_195_1 : fx_sf mx_195 mc_195_1 := sf_drop (l := mc_195_0) 10 sx_195_0
set_option maxRecDepth 100000 in
theorem sy_195 : ∀ r ∈ mx_195.2, fx_sf mx_195 r := (List.forall_mem_cons.mpr ⟨sx_195_0, (List.forall_mem_cons.mpr ⟨sx_195_1, (fun _ h => absurd h List.not_mem_nil)⟩)⟩)
theorem sx_196_0 : fx_sf mx_196 mc_196_0 := sf_self _
theorem sx_196_1 : fx_sf mx_196 mc_196_1 := sf_drop (l := mc_196_0) 11 sx_196_0
set_option maxRecDepth 100000 in
theorem sy_196 : ∀ r ∈ mx_196.2, fx_sf mx_196 r := (List.forall_mem_cons.mpr ⟨sx_196_0, (List.forall_mem_cons.mpr ⟨sx_196_1, (fun _ h => absurd h List.not_mem_nil)⟩)⟩)
theorem sx_197_0 : fx_sf mx_197 mc_197_0 := sf_self _
theorem sx_197_1 : fx_sf mx_197 mc_197_1 := sf_drop (l := mc_197_0) 9 sx_197_0
theorem sx_197_2 : fx_sf mx_197 mc_197_2 := sf_drop (l := mc_197_1) 8 sx_197_1
set_option maxRecDepth 100000 in
theorem sy_197 : ∀ r ∈ mx_197.2, fx_sf mx_197 r := (List.forall_mem_cons.mpr ⟨sx_197_0, (List.forall_mem_cons.mpr ⟨sx_197_1, (List.forall_mem_cons.mpr ⟨sx_197_2, (fun _ h => absurd h List.not_mem_nil)⟩)⟩)⟩)
theorem sx_198_0 : fx_sf mx_198 mc_198_0 := sf_self _
theorem sx_198_1 : fx_sf mx_198 mc_198_1 := sf_drop (l := mc_198_0) 8 sx_198_0
theorem sx_198_2 : fx_sf mx_198 mc_198_2 := sf_drop (l := mc_198_1) 0 sx_198_1
set_option maxRecDepth 100000 in
theorem sy_198 : ∀ r ∈ mx_198.2, fx_sf mx_198 r := (List.forall_mem_cons.mpr ⟨sx_198_0, (List.forall_mem_cons.mpr ⟨sx_198_1, (List.forall_mem_cons.mpr ⟨sx_198_2, (fun _ h => absurd h List.not_mem_nil)⟩)⟩)⟩)
theorem sx_199_0 : fx_sf mx_199 mc_199_0 := sf_self _
theorem sx_199_1 : fx_sf mx_199 mc_199_1 := sf_drop (l := mc_199_0) 10 sx_199_0
set_option maxRecDepth 100000 in
theorem sy_199 : ∀ r ∈ mx_199.2, fx_sf mx_199 r := (List.forall_mem_cons.mpr ⟨sx_199_0, (List.forall_mem_cons.mpr ⟨sx_199_1, (fun _ h => absurd h List.not_mem_nil)⟩)⟩)
theorem sx_200_0 : fx_sf mx_200 mc_200_0 := sf_self _
theorem sx_200_1 : fx_sf mx_200 mc_200_1 := sf_drop (l := mc_200_0) 10 sx_200_0
theorem sx_200_2 : fx_sf mx_200 mc_200_2 := sf_drop (l := mc_200_1) 3 sx_200_1
set_option maxRecDepth 100000 in
theorem sy_200 : ∀ r ∈ mx_200.2, fx_sf mx_200 r := (List.forall_mem_cons.mpr ⟨sx_200_0, (List.forall_mem_cons.mpr ⟨sx_200_1, (List.forall_mem_cons.mpr ⟨sx_200_2, (fun _ h => absurd h List.not_mem_nil)⟩)⟩)⟩)
theorem sx_201_0 : fx_sf mx_201 mc_201_0 := sf_self _
theorem sx_201_1 : fx_sf mx_201 mc_201_1 := sf_drop (l := mc_201_0) 6 sx_201_0
theorem sx_201_2 : fx_sf mx_201 mc_201_2 := sf_drop (l := mc_201_1) 0 sx_201_1
theorem sx_201_3 : fx_sf mx_201 mc_201_3 := sf_drop (l := mc_201_2) 0 sx_201_2
theorem sx_201_4 : fx_sf mx_201 mc_201_4 := sf_drop (l := mc_201_3) 6 sx_201_3
theorem sx_201_5 : fx_sf mx_201 mc_201_5 := sf_drop (l := mc_201_4) 0 sx_201_4
theorem sx_201_6 : fx_sf mx_201 mc_201_6 := sf_drop (l := mc_201_5) 0 sx_201_5
theorem sx_201_7 : fx_sf mx_201 mc_201_7 := sf_drop (l := mc_201_6) 0 sx_201_6
theorem sx_201_8 : fx_sf mx_201 mc_201_8 := sf_drop (l := mc_201_7) 0 sx_201_7
theorem sx_201_9 : fx_sf mx_201 mc_201_9 := sf_drop (l := mc_201_8) 0 sx_201_8
set_option maxRecDepth 100000 in
theorem sy_201 : ∀ r ∈ mx_201.2, fx_sf mx_201 r := (List.forall_mem_cons.mpr ⟨sx_201_0, (List.forall_mem_cons.mpr ⟨sx_201_1, (List.forall_mem_cons.mpr ⟨sx_201_2, (List.forall_mem_cons.mpr ⟨sx_201_3, (List.forall_mem_cons.mpr ⟨sx_201_4, (List.forall_mem_cons.mpr ⟨sx_201_5, (List.forall_mem_cons.mpr ⟨sx_201_6, (List.forall_mem_cons.mpr ⟨sx_201_7, (List.forall_mem_cons.mpr ⟨sx_201_8, (List.forall_mem_cons.mpr ⟨sx_201_9, (fun _ h => absurd h List.not_mem_nil)⟩)⟩)⟩)⟩)⟩)⟩)⟩)⟩)⟩)⟩)
theorem sx_202_0 : fx_sf mx_202 mc_202_0 := sf_self _
theorem sx_202_1 : fx_sf mx_202 mc_202_1 := sf_drop (l := mc_202_0) 9 sx_202_0
set_option maxRecDepth 100000 in
theorem sy_202 : ∀ r ∈ mx_202.2, fx_sf mx_202 r := (List.forall_mem_cons.mpr ⟨sx_202_0, (List.forall_mem_cons.mpr ⟨sx_202_1, (fun _ h => absurd h List.not_mem_nil)⟩)⟩)
theorem sx_203_0 : fx_sf mx_203 mc_203_0 := sf_self _
theorem sx_203_1 : fx_sf mx_203 mc_203_1 := sf_drop (l := mc_203_0) 10 sx_203_0
theorem sx_203_2 : fx_sf mx_203 mc_203_2 := sf_drop (l := mc_203_1) 9 sx_203_1
theorem sx_203_3 : fx_sf mx_203 mc_203_3 := sf_drop (l := mc_203_2) 3 sx_203_2
theorem sx_203_4 : fx_sf mx_203 mc_203_4 := sf_drop (l := mc_203_3) 0 sx_203_3
set_option maxRecDepth 100000 in
theorem sy_203 : ∀ r ∈ mx_203.2, fx_sf mx_203 r := (List.forall_mem_cons.mpr ⟨sx_203_0, (List.forall_mem_cons.mpr ⟨sx_203_1, (List.forall_mem_cons.mpr ⟨sx_203_2, (List.forall_mem_cons.mpr ⟨sx_203_3, (List.forall_mem_cons.mpr ⟨sx_203_4, (fun _ h => absurd h List.not_mem_nil)⟩)⟩)⟩)⟩)⟩)
theorem sx_204_0 : fx_sf mx_204 mc_204_0 := sf_self _
theorem sx_204_1 : fx_sf mx_204 mc_204_1 := sf_drop (l := mc_204_0) 8 sx_204_0
theorem sx_204_2 : fx_sf mx_204 mc_204_2 := sf_drop (l := mc_204_1) 0 sx_204_1
theorem sx_204_3 : fx_sf mx_204 mc_204_3 := sf_drop (l := mc_204_2) 0 sx_204_2
set_option maxRecDepth 100000 in
theorem sy_204 : ∀ r ∈ mx_204.2, fx_sf mx_204 r := (List.forall_mem_cons.mpr ⟨sx_204_0, (List.forall_mem_cons.mpr ⟨sx_204_1, (List.forall_mem_cons.mpr ⟨sx_204_2, (List.forall_mem_cons.mpr ⟨sx_204_3, (fun _ h => absurd h List.not_mem_nil)⟩)⟩)⟩)⟩)
theorem sx_205_0 : fx_sf mx_205 mc_205_0 := sf_self _
theorem sx_205_1 : fx_sf mx_205 mc_205_1 := sf_drop (l := mc_205_0) 7 sx_205_0
theorem sx_205_2 : fx_sf mx_205 mc_205_2 := sf_drop (l := mc_205_1) 0 sx_205_1
theorem sx_205_3 : fx_sf mx_205 mc_205_3 := sf_drop (l := mc_205_2) 0 sx_205_2
set_option maxRecDepth 100000 in
theorem sy_205 : ∀ r ∈ mx_205.2, fx_sf mx_205 r := (List.forall_mem_cons.mpr ⟨sx_205_0, (List.forall_mem_cons.mpr ⟨sx_205_1, (List.forall_mem_cons.mpr ⟨sx_205_2, (List.forall_mem_cons.mpr ⟨sx_205_3, (fun _ h => absurd h List.not_mem_nil)⟩)⟩)⟩)⟩)
theorem sx_206_0 : fx_sf mx_206 mc_206_0 := sf_self _
theorem sx_206_1 : fx_sf mx_206 mc_206_1 := sf_drop (l := mc_206_0) 7 sx_206_0
theorem sx_206_2 : fx_sf mx_206 mc_206_2 := sf_drop (l := mc_206_1) 0 sx_206_1
theorem sx_206_3 : fx_sf mx_206 mc_206_3 := sf_drop (l := mc_206_2) 0 sx_206_2
set_option maxRecDepth 100000 in
theorem sy_206 : ∀ r ∈ mx_206.2, fx_sf mx_206 r := (List.forall_mem_cons.mpr ⟨sx_206_0, (List.forall_mem_cons.mpr ⟨sx_206_1, (List.forall_mem_cons.mpr ⟨sx_206_2, (List.forall_mem_cons.mpr ⟨sx_206_3, (fun _ h => absurd h List.not_mem_nil)⟩)⟩)⟩)⟩)
theorem sx_207_0 : fx_sf mx_207 mc_207_0 := sf_self _
theorem sx_207_1 : fx_sf mx_207 mc_207_1 := sf_drop (l := mc_207_0) 9 sx_207_0
theorem sx_207_2 : fx_sf mx_207 mc_207_2 := sf_drop (l := mc_207_1) 0 sx_207_1
theorem sx_207_3 : fx_sf mx_207 mc_207_3 := sf_drop (l := mc_207_2) 0 sx_207_2
set_option maxRecDepth 100000 in
theorem sy_207 : ∀ r ∈ mx_207.2, fx_sf mx_207 r := (List.forall_mem_cons.mpr ⟨sx_207_0, (List.forall_mem_cons.mpr ⟨sx_207_1, (List.forall_mem_cons.mpr ⟨sx_207_2, (List.forall_mem_cons.mpr ⟨sx_207_3, (fun _ h => absurd h List.not_mem_nil)⟩)⟩)⟩)⟩)
theorem sx_208_0 : fx_sf mx_208 mc_208_0 := sf_self _
theorem sx_208_1 : fx_sf mx_208 mc_208_1 := sf_drop (l := mc_208_0) 9 sx_208_0
theorem sx_208_2 : fx_sf mx_208 mc_208_2 := sf_drop (l := mc_208_1) 0 sx_208_1
theorem sx_208_3 : fx_sf mx_208 mc_208_3 := sf_drop (l := mc_208_2) 0 sx_208_2
theorem sx_208_4 : fx_sf mx_208 mc_208_4 := sf_drop (l := mc_208_3) 0 sx_208_3
set_option maxRecDepth 100000 in
theorem sy_208 : ∀ r ∈ mx_208.2, fx_sf mx_208 r := (List.forall_mem_cons.mpr ⟨sx_208_0, (List.forall_mem_cons.mpr ⟨sx_208_1, (List.forall_mem_cons.mpr ⟨sx_208_2, (List.forall_mem_cons.mpr ⟨sx_208_3, (List.forall_mem_cons.mpr ⟨sx_208_4, (fun _ h => absurd h List.not_mem_nil)⟩)⟩)⟩)⟩)⟩)
theorem sx_209_0 : fx_sf mx_209 mc_209_0 := sf_self _
set_option maxRecDepth 100000 in
theorem sy_209 : ∀ r ∈ mx_209.2, fx_sf mx_209 r := (List.forall_mem_cons.mpr ⟨sx_209_0, (fun _ h => absurd h List.not_mem_nil)⟩)
theorem sx_210_0 : fx_sf mx_210 mc_210_0 := sf_self _
theorem sx_210_1 : fx_sf mx_210 mc_210_1 := sf_drop (l := mc_210_0) 10 sx_210_0
set_option maxRecDepth 100000 in
theorem sy_210 : ∀ r ∈ mx_210.2, fx_sf mx_210 r := (List.forall_mem_cons.mpr ⟨sx_210_0, (List.forall_mem_cons.mpr ⟨sx_210_1, (fun _ h => absurd h List.not_mem_nil)⟩)⟩)
theorem sx_211_0 : fx_sf mx_211 mc_211_0 := sf_self _
theorem sx_211_1 : fx_sf mx_211 mc_211_1 := sf_drop (l := mc_211_0) 9 sx_211_0
set_option maxRecDepth 100000 in
theorem sy_211 : ∀ r ∈ mx_211.2, fx_sf mx_211 r := (List.forall_mem_cons.mpr ⟨sx_211_0, (List.forall_mem_cons.mpr ⟨sx_211_1, (fun _ h => absurd h List.not_mem_nil)⟩)⟩)
theorem sx_212_0 : fx_sf mx_212 mc_212_0 := sf_self _
theorem sx_212_1 : fx_sf mx_212 mc_212_1 := sf_drop (l := mc_212_0) 9 sx_212_0
set_option maxRecDepth 100000 in
theorem sy_212 : ∀ r ∈ mx_212.2, fx_sf mx_212 r := (List.forall_mem_cons.mpr ⟨sx_212_0, (List.forall_mem_cons.mpr ⟨sx_212_1, (fun _ h => absurd h List.not_mem_nil)⟩)⟩)
theorem sx_213_0 : fx_sf mx_213 mc_213_0 := sf_self _
theorem sx_213_1 : fx_sf mx_213 mc_213_1 := sf_drop (l := mc_213_0) 10 sx_213_0
theorem sx_213_2 : fx_sf mx_213 mc_213_2 := sf_drop (l := mc_213_1) 8 sx_213_1
theorem sx_213_3 : fx_sf mx_213 mc_213_3 := sf_drop (l := mc_213_2) 8 sx_213_2
set_option maxRecDepth 100000 in
theorem sy_213 : ∀ r ∈ mx_213.2, fx_sf mx_213 r := (List.forall_mem_cons.mpr ⟨sx_213_0, (List.forall_mem_cons.mpr ⟨sx_213_1, (List.forall_mem_cons.mpr ⟨sx_213_2, (List.forall_mem_cons.mpr ⟨sx_213_3, (fun _ h => absurd h List.not_mem_nil)⟩)⟩)⟩)⟩)
theorem sx_214_0 : fx_sf mx_214 mc_214_0 := sf_self _
theorem sx_214_1 : fx_sf mx_214 mc_214_1 := sf_drop (l := mc_214_0) 10 sx_214_0
theorem sx_214_2 : fx_sf mx_214 mc_214_2 := sf_drop (l := mc_214_1) 8 sx_214_1
theorem sx_214_3 : fx_sf mx_214 mc_214_3 := sf_drop (l := mc_214_2) 8 sx_214_2
theorem sx_214_4 : fx_sf mx_214 mc_214_4 := sf_drop (l := mc_214_3) 3 sx_214_3
theorem sx_214_5 : fx_sf mx_214 mc_214_5 := sf_drop (l := mc_214_4) 0 sx_214_4
theorem sx_214_6 : fx_sf mx_214 mc_214_6 := sf_drop (l := mc_214_5) 0 sx_214_5
theorem sx_214_7 : fx_sf mx_214 mc_214_7 := sf_drop (l := mc_214_6) 0 sx_214_6
theorem sx_214_8 : fx_sf mx_214 mc_214_8 := sf_drop (l := mc_214_7) 0 sx_214_7
set_option maxRecDepth 100000 in
theorem sy_214 : ∀ r ∈ mx_214.2, fx_sf mx_214 r := (List.forall_mem_cons.mpr ⟨sx_214_0, (List.forall_mem_cons.mpr ⟨sx_214_1, (List.forall_mem_cons.mpr ⟨sx_214_2, (List.forall_mem_cons.mpr ⟨sx_214_3, (List.forall_mem_cons.mpr ⟨sx_214_4, (List.forall_mem_cons.mpr ⟨sx_214_5, (List.forall_mem_cons.mpr ⟨sx_214_6, (List.forall_mem_cons.mpr ⟨sx_214_7, (List.forall_mem_cons.mpr ⟨sx_214_8, (fun _ h => absurd h List.not_mem_nil)⟩)⟩)⟩)⟩)⟩)⟩)⟩)⟩)⟩)
theorem sx_215_0 : fx_sf mx_215 mc_215_0 := sf_self _
theorem sx_215_1 : fx_sf mx_215 mc_215_1 := sf_drop (l := mc_215_0) 10 sx_215_0
theorem sx_215_2 : fx_sf mx_215 mc_215_2 := sf_drop (l := mc_215_1) 8 sx_215_1
theorem sx_215_3 : fx_sf mx_215 mc_215_3 := sf_drop (l := mc_215_2) 8 sx_215_2
set_option maxRecDepth 100000 in
theorem sy_215 : ∀ r ∈ mx_215.2, fx_sf mx_215 r := (List.forall_mem_cons.mpr ⟨sx_215_0, (List.forall_mem_cons.mpr ⟨sx_215_1, (List.forall_mem_cons.mpr ⟨sx_215_2, (List.forall_mem_cons.mpr ⟨sx_215_3, (fun _ h => absurd h List.not_mem_nil)⟩)⟩)⟩)⟩)
theorem sx_216_0 : fx_sf mx_216 mc_216_0 := sf_self _
theorem sx_216_1 : fx_sf mx_216 mc_216_1 := sf_drop (l := mc_216_0) 11 sx_216_0
set_option maxRecDepth 100000 in
theorem sy_216 : ∀ r ∈ mx_216.2, fx_sf mx_216 r := (List.forall_mem_cons.mpr ⟨sx_216_0, (List.forall_mem_cons.mpr ⟨sx_216_1, (fun _ h => absurd h List.not_mem_nil)⟩)⟩)
theorem sx_217_0 : fx_sf mx_217 mc_217_0 := sf_self _
theorem sx_217_1 : fx_sf mx_217 mc_217_1 := sf_drop (l := mc_217_0) 10 sx_217_0
set_option maxRecDepth 100000 in
theorem sy_217 : ∀ r ∈ mx_217.2, fx_sf mx_217 r := (List.forall_mem_cons.mpr ⟨sx_217_0, (List.forall_mem_cons.mpr ⟨sx_217_1, (fun _ h => absurd h List.not_mem_nil)⟩)⟩)
theorem sx_218_0 : fx_sf mx_218 mc_218_0 := sf_self _
theorem sx_218_1 : fx_sf mx_218 mc_218_1 := sf_drop (l := mc_218_0) 10 sx_218_0
theorem sx_218_2 : fx_sf mx_218 mc_218_2 := sf_drop (l := mc_218_1) 1 sx_218_1
theorem sx_218_3 : fx_sf mx_218 mc_218_3 := sf_drop (l := mc_218_2) 0 sx_218_2
set_option maxRecDepth 100000 in
theorem sy_218 : ∀ r ∈ mx_218.2, fx_sf mx_218 r := (List.forall_mem_cons.mpr ⟨sx_218_0, (List.forall_mem_cons.mpr ⟨sx_218_1, (List.forall_mem_cons.mpr ⟨sx_218_2, (List.forall_mem_cons.mpr ⟨sx_218_3, (fun _ h => absurd h List.not_mem_nil)⟩)⟩)⟩)⟩)
theorem sx_219_0 : fx_sf mx_219 mc_219_0 := sf_self _
theorem sx_219_1 : fx_sf mx_219 mc_219_1 := sf_drop (l := mc_219_0) 10 sx_219_0
theorem sx_219_2 : fx_sf mx_219 mc_219_2 := sf_drop (l := mc_219_1) 4 sx_219_1
theorem sx_219_3 : fx_sf mx_219 mc_219_3 := sf_drop (l := mc_219_2) 7 sx_219_2
set_option maxRecDepth 100000 in
theorem sy_219 : ∀ r ∈ mx_219.2, fx_sf mx_219 r := (List.forall_mem_cons.mpr ⟨sx_219_0, (List.forall_mem_cons.mpr ⟨sx_219_1, (List.forall_mem_cons.mpr ⟨sx_219_2, (List.forall_mem_cons.mpr ⟨sx_219_3, (fun _ h => absurd h List.not_mem_nil)⟩)⟩)⟩)⟩)
theorem sx_220_0 : fx_sf mx_220 mc_220_0 := sf_self _
theorem sx_220_1 : fx_sf mx_220 mc_220_1 := sf_drop (l := mc_220_0) 10 sx_220_0
set_option maxRecDepth 100000 in
theorem sy_220 : ∀ r ∈ mx_220.2, fx_sf mx_220 r := (List.forall_mem_cons.mpr ⟨sx_220_0, (List.forall_mem_cons.mpr ⟨sx_220_1, (fun _ h => absurd h List.not_mem_nil)⟩)⟩)
theorem sx_221_0 : fx_sf mx_221 mc_221_0 := sf_self _
theorem sx_221_1 : fx_sf mx_221 mc_221_1 := sf_drop (l := mc_221_0) 10 sx_221_0
set_option maxRecDepth 100000 in
theorem sy_221 : ∀ r ∈ mx_221.2, fx_sf mx_221 r := (List.forall_mem_cons.mpr ⟨sx_221_0, (List.forall_mem_cons.mpr ⟨sx_221_1, (fun _ h => absurd h List.not_mem_nil)⟩)⟩)
theorem sx_222_0 : fx_sf mx_222 mc_222_0 := sf_self _
set_option maxRecDepth 100000 in
theorem sy_222 : ∀ r ∈ mx_222.2, fx_sf mx_222 r := (List.forall_mem_cons.mpr ⟨sx_222_0, (fun _ h => absurd h List.not_mem_nil)⟩)
theorem sx_223_0 : fx_sf mx_223 mc_223_0 := sf_self _
theorem sx_223_1 : fx_sf mx_223 mc_223_1 := sf_drop (l := mc_223_0) 10 sx_223_0
theorem sx_223_2 : fx_sf mx_223 mc_223_2 := sf_drop (l := mc_223_1) 9 sx_223_1
theorem sx_223_3 : fx_sf mx_223 mc_223_3 := sf_drop (l := mc_223_2) 5 sx_223_2
theorem sx_223_4 : fx_sf mx_223 mc_223_4 := sf_drop (l := mc_223_3) 0 sx_223_3
theorem sx_223_5 : fx_sf mx_223 mc_223_5 := sf_drop (l := mc_223_4) 0 sx_223_4
theorem sx_223_6 : fx_sf mx_223 mc_223_6 := sf_drop (l := mc_223_5) 0 sx_223_5
theorem sx_223_7 : fx_sf mx_223 mc_223_7 := sf_drop (l := mc_223_6) 0 sx_223_6
set_option maxRecDepth 100000 in
theorem sy_223 : ∀ r ∈ mx_223.2, fx_sf mx_223 r := (List.forall_mem_cons.mpr ⟨sx_223_0, (List.forall_mem_cons.mpr ⟨sx_223_1, (List.forall_mem_cons.mpr ⟨sx_223_2, (List.forall_mem_cons.mpr ⟨sx_223_3, (List.forall_mem_cons.mpr ⟨sx_223_4, (List.forall_mem_cons.mpr ⟨sx_223_5, (List.forall_mem_cons.mpr ⟨sx_223_6, (List.forall_mem_cons.mpr ⟨sx_223_7, (fun _ h => absurd h List.not_mem_nil)⟩)⟩)⟩)⟩)⟩)⟩)⟩)⟩)
theorem sx_224_0 : fx_sf mx_224 mc_224_0 := sf_self _
theorem sx_224_1 : fx_sf mx_224 mc_224_1 := sf_drop (l := mc_224_0) 12 sx_224_0
set_option maxRecDepth 100000 in
theorem sy_224 : ∀ r ∈ mx_224.2, fx_sf mx_224 r := (List.forall_mem_cons.mpr ⟨sx_224_0, (List.forall_mem_cons.mpr ⟨sx_224_1, (fun _ h => absurd h List.not_mem_nil)⟩)⟩)
theorem sx_225_0 : fx_sf mx_225 mc_225_0 := sf_self _
theorem sx_225_1 : fx_sf mx_225 mc_225_1 := sf_drop (l := mc_225_0) 7 sx_225_0
theorem sx_225_2 : fx_sf mx_225 mc_225_2 := sf_drop (l := mc_225_1) 6 sx_225_1
set_option maxRecDepth 100000 in
theorem sy_225 : ∀ r ∈ mx_225.2, fx_sf mx_225 r := (List.forall_mem_cons.mpr ⟨sx_225_0, (List.forall_mem_cons.mpr ⟨sx_225_1, (List.forall_mem_cons.mpr ⟨sx_225_2, (fun _ h => absurd h List.not_mem_nil)⟩)⟩)⟩)
theorem sx_226_0 : fx_sf mx_226 mc_226_0 := sf_self _
theorem sx_226_1 : fx_sf mx_226 mc_226_1 := sf_drop (l := mc_226_0) 11 sx_226_0
set_option maxRecDepth 100000 in
theorem sy_226 : ∀ r ∈ mx_226.2, fx_sf mx_226 r := (List.forall_mem_cons.mpr ⟨sx_226_0, (List.forall_mem_cons.mpr ⟨sx_226_1, (fun _ h => absurd h List.not_mem_nil)⟩)⟩)
theorem sx_227_0 : fx_sf mx_227 mc_227_0 := sf_self _
theorem sx_227_1 : fx_sf mx_227 mc_227_1 := sf_drop (l := mc_227_0) 11 sx_227_0
set_option maxRecDepth 100000 in
theorem sy_227 : ∀ r ∈ mx_227.2, fx_sf mx_227 r := (List.forall_mem_cons.mpr ⟨sx_227_0, (List.forall_mem_cons.mpr ⟨sx_227_1, (fun _ h => absurd h List.not_mem_nil)⟩)⟩)
theorem sx_228_0 : fx_sf mx_228 mc_228_0 := sf_self _
theorem sx_228_1 : fx_sf mx_228 mc_228_1 := sf_drop (l := mc_228_0) 11 sx_228_0
set_option maxRecDepth 100000 in
theorem sy_228 : ∀ r ∈ mx_228.2, fx_sf mx_228 r := (List.forall_mem_cons.mpr ⟨sx_228_0, (List.forall_mem_cons.mpr ⟨sx_228_1, (fun _ h => absurd h List.not_mem_nil)⟩)⟩)
theorem sx_229_0 : fx_sf mx_229 mc_229_0 := sf_self _
theorem sx_229_1 : fx_sf mx_229 mc_229_1 := sf_drop (l := mc_229_0) 6 sx_229_0
theorem sx_229_2 : fx_sf mx_229 mc_229_2 := sf_drop (l := mc_229_1) 4 sx_229_1
set_option maxRecDepth 100000 in
theorem sy_229 : ∀ r ∈ mx_229.2, fx_sf mx_229 r := (List.forall_mem_cons.mpr ⟨sx_229_0, (List.forall_mem_cons.mpr ⟨sx_229_1, (List.forall_mem_cons.mpr ⟨sx_229_2, (fun _ h => absurd h List.not_mem_nil)⟩)⟩)⟩)
theorem sx_230_0 : fx_sf mx_230 mc_230_0 := sf_self _
theorem sx_230_1 : fx_sf mx_230 mc_230_1 := sf_drop (l := mc_230_0) 11 sx_230_0
set_option maxRecDepth 100000 in
theorem sy_230 : ∀ r ∈ mx_230.2, fx_sf mx_230 r := (List.forall_mem_cons.mpr ⟨sx_230_0, (List.forall_mem_cons.mpr ⟨sx_230_1, (fun _ h => absurd h List.not_mem_nil)⟩)⟩)
theorem sx_231_0 : fx_sf mx_231 mc_231_0 := sf_self _
theorem sx_231_1 : fx_sf mx_231 mc_231_1 := sf_drop (l := mc_231_0) 11 sx_231_0
set_option maxRecDepth 100000 in
theorem sy_231 : ∀ r ∈ mx_231.2, fx_sf mx_231 r := (List.forall_mem_cons.mpr ⟨sx_231_0, (List.forall_mem_cons.mpr ⟨sx_231_1, (fun _ h => absurd h List.not_mem_nil)⟩)⟩)
theorem sx_232_0 : fx_sf mx_232 mc_232_0 := sf_self _
theorem sx_232_1 : fx_sf mx_232 mc_232_1 := sf_drop (l := mc_232_0) 10 sx_232_0
theorem sx_232_2 : fx_sf mx_232 mc_232_2 := sf_drop (l := mc_232_1) 6 sx_232_1
theorem sx_232_3 : fx_sf mx_232 mc_232_3 := sf_drop (l := mc_232_2) 0 sx_232_2
theorem sx_232_4 : fx_sf mx_232 mc_232_4 := sf_drop (l := mc_232_3) 3 sx_232_3
set_option maxRecDepth 100000 in
theorem sy_232 : ∀ r ∈ mx_232.2, fx_sf mx_232 r := (List.forall_mem_cons.mpr ⟨sx_232_0, (List.forall_mem_cons.mpr ⟨sx_232_1, (List.forall_mem_cons.mpr ⟨sx_232_2, (List.forall_mem_cons.mpr ⟨sx_232_3, (List.forall_mem_cons.mpr ⟨sx_232_4, (fun _ h => absurd h List.not_mem_nil)⟩)⟩)⟩)⟩)⟩)
theorem sx_233_0 : fx_sf mx_233 mc_233_0 := sf_self _
theorem sx_233_1 : fx_sf mx_233 mc_233_1 := sf_drop (l := mc_233_0) 6 sx_233_0
set_option maxRecDepth 100000 in
theorem sy_233 : ∀ r ∈ mx_233.2, fx_sf mx_233 r := (List.forall_mem_cons.mpr ⟨sx_233_0, (List.forall_mem_cons.mpr ⟨sx_233_1, (fun _ h => absurd h List.not_mem_nil)⟩)⟩)
theorem sx_234_0 : fx_sf mx_234 mc_234_0 := sf_self _
theorem sx_234_1 : fx_sf mx_234 mc_234_1 := sf_drop (l := mc_234_0) 10 sx_234_0
theorem sx_234_2 : fx_sf mx_234 mc_234_2 := sf_drop (l := mc_234_1) 6 sx_234_1
set_option maxRecDepth 100000 in
theorem sy_234 : ∀ r ∈ mx_234.2, fx_sf mx_234 r := (List.forall_mem_cons.mpr ⟨sx_234_0, (List.forall_mem_cons.mpr ⟨sx_234_1, (List.forall_mem_cons.mpr ⟨sx_234_2, (fun _ h => absurd h List.not_mem_nil)⟩)⟩)⟩)
theorem sx_235_0 : fx_sf mx_235 mc_235_0 := sf_self _
theorem sx_235_1 : fx_sf mx_235 mc_235_1 := sf_drop (l := mc_235_0) 11 sx_235_0
set_option maxRecDepth 100000 in
theorem sy_235 : ∀ r ∈ mx_235.2, fx_sf mx_235 r := (List.forall_mem_cons.mpr ⟨sx_235_0, (List.forall_mem_cons.mpr ⟨sx_235_1, (fun _ h => absurd h List.not_mem_nil)⟩)⟩)
theorem sx_236_0 : fx_sf mx_236 mc_236_0 := sf_self _
theorem sx_236_1 : fx_sf mx_236 mc_236_1 := sf_drop (l := mc_236_0) 12 sx_236_0
set_option maxRecDepth 100000 in
theorem sy_236 : ∀ r ∈ mx_236.2, fx_sf mx_236 r := (List.forall_mem_cons.mpr ⟨sx_236_0, (List.forall_mem_cons.mpr ⟨sx_236_1, (fun _ h => absurd h List.not_mem_nil)⟩)⟩)
theorem sx_237_0 : fx_sf mx_237 mc_237_0 := sf_self _
theorem sx_237_1 : fx_sf mx_237 mc_237_1 := sf_drop (l := mc_237_0) 8 sx_237_0
set_option maxRecDepth 100000 in
theorem sy_237 : ∀ r ∈ mx_237.2, fx_sf mx_237 r := (List.forall_mem_cons.mpr ⟨sx_237_0, (List.forall_mem_cons.mpr ⟨sx_237_1, (fun _ h => absurd h List.not_mem_nil)⟩)⟩)
theorem sx_238_0 : fx_sf mx_238 mc_238_0 := sf_self _
theorem sx_238_1 : fx_sf mx_238 mc_238_1 := sf_drop (l := mc_238_0) 8 sx_238_0
set_option maxRecDepth 100000 in
theorem sy_238 : ∀ r ∈ mx_238.2, fx_sf mx_238 r := (List.forall_mem_cons.mpr ⟨sx_238_0, (List.forall_mem_cons.mpr ⟨sx_238_1, (fun _ h => absurd h List.not_mem_nil)⟩)⟩)
theorem sx_239_0 : fx_sf mx_239 mc_239_0 := sf_self _
theorem sx_239_1 : fx_sf mx_239 mc_239_1 := sf_drop (l := mc_239_0) 10 sx_239_0
theorem sx_239_2 : fx_sf mx_239 mc_239_2 := sf_drop (l := mc_239_1) 0 sx_239_1
set_option maxRecDepth 100000 in
theorem sy_239 : ∀ r ∈ mx_239.2, fx_sf mx_239 r := (List.forall_mem_cons.mpr ⟨sx_239_0, (List.forall_mem_cons.mpr ⟨sx_239_1, (List.forall_mem_cons.mpr ⟨sx_239_2, (fun _ h => absurd h List.not_mem_nil)⟩)⟩)⟩)
theorem sx_240_0 : fx_sf mx_240 mc_240_0 := sf_self _
theorem sx_240_1 : fx_sf mx_240 mc_240_1 := sf_drop (l := mc_240_0) 8 sx_240_0
theorem sx_240_2 : fx_sf mx_240 mc_240_2 := sf_drop (l := mc_240_1) 0 sx_240_1
theorem sx_240_3 : fx_sf mx_240 mc_240_3 := sf_drop (l := mc_240_2) 1 sx_240_2
set_option maxRecDepth 100000 in
theorem sy_240 : ∀ r ∈ mx_240.2, fx_sf mx_240 r := (List.forall_mem_cons.mpr ⟨sx_240_0, (List.forall_mem_cons.mpr ⟨sx_240_1, (List.forall_mem_cons.mpr ⟨sx_240_2, (List.forall_mem_cons.mpr ⟨sx_240_3, (fun _ h => absurd h List.not_mem_nil)⟩)⟩)⟩)⟩)
theorem sx_241_0 : fx_sf mx_241 mc_241_0 := sf_self _
theorem sx_241_1 : fx_sf mx_241 mc_241_1 := sf_drop (l := mc_241_0) 10 sx_241_0
set_option maxRecDepth 100000 in
theorem sy_241 : ∀ r ∈ mx_241.2, fx_sf mx_241 r := (List.forall_mem_cons.mpr ⟨sx_241_0, (List.forall_mem_cons.mpr ⟨sx_241_1, (fun _ h => absurd h List.not_mem_nil)⟩)⟩)
theorem sx_242_0 : fx_sf mx_242 mc_242_0 := sf_self _
theorem sx_242_1 : fx_sf mx_242 mc_242_1 := sf_drop (l := mc_242_0) 10 sx_242_0
theorem sx_242_2 : fx_sf mx_242 mc_242_2 := sf_drop (l := mc_242_1) 7 sx_242_1
theorem sx_242_3 : fx_sf mx_242 mc_242_3 := sf_drop (l := mc_242_2) 2 sx_242_2
theorem sx_242_4 : fx_sf mx_242 mc_242_4 := sf_drop (l := mc_242_3) 0 sx_242_3
set_option maxRecDepth 100000 in
theorem sy_242 : ∀ r ∈ mx_242.2, fx_sf mx_242 r := (List.forall_mem_cons.mpr ⟨sx_242_0, (List.forall_mem_cons.mpr ⟨sx_242_1, (List.forall_mem_cons.mpr ⟨sx_242_2, (List.forall_mem_cons.mpr ⟨sx_242_3, (List.forall_mem_cons.mpr ⟨sx_242_4, (fun _ h => absurd h List.not_mem_nil)⟩)⟩)⟩)⟩)⟩)
theorem sx_243_0 : fx_sf mx_243 mc_243_0 := sf_self _
theorem sx_243_1 : fx_sf mx_243 mc_243_1 := sf_drop (l := mc_243_0) 7 sx_243_0
theorem sx_243_2 : fx_sf mx_243 mc_243_2 := sf_drop (l := mc_243_1) 10 sx_243_1
set_option maxRecDepth 100000 in
theorem sy_243 : ∀ r ∈ mx_243.2, fx_sf mx_243 r := (List.forall_mem_cons.mpr ⟨sx_243_0, (List.forall_mem_cons.mpr ⟨sx_243_1, (List.forall_mem_cons.mpr ⟨sx_243_2, (fun _ h => absurd h List.not_mem_nil)⟩)⟩)⟩)
theorem sx_244_0 : fx_sf mx_244 mc_244_0 := sf_self _
set_option maxRecDepth 100000 in
theorem sy_244 : ∀ r ∈ mx_244.2, fx_sf mx_244 r := (List.forall_mem_cons.mpr ⟨sx_244_0, (fun _ h => absurd h List.not_mem_nil)⟩)
theorem sx_245_0 : fx_sf mx_245 mc_245_0 := sf_self _
set_option maxRecDepth 100000 in
theorem sy_245 : ∀ r ∈ mx_245.2, fx_sf mx_245 r := (List.forall_mem_cons.mpr ⟨sx_245_0, (fun _ h => absurd h List.not_mem_nil)⟩)
theorem sx_246_0 : fx_sf mx_246 mc_246_0 := sf_self _
theorem sx_246_1 : fx_sf mx_246 mc_246_1 := sf_drop (l := mc_246_0) 9 sx_246_0
set_option maxRecDepth 100000 in
theorem sy_246 : ∀ r ∈ mx_246.2, fx_sf mx_246 r := (List.forall_mem_cons.mpr ⟨sx_246_0, (List.forall_mem_cons.mpr ⟨sx_246_1, (fun _ h => absurd h List.not_mem_nil)⟩)⟩)
theorem sx_247_0 : fx_sf mx_247 mc_247_0 := sf_self _
theorem sx_247_1 : fx_sf mx_247 mc_247_1 := sf_drop (l := mc_247_0) 12 sx_247_0
set_option maxRecDepth 100000 in
theorem sy_247 : ∀ r ∈ mx_247.2, fx_sf mx_247 r := (List.forall_mem_cons.mpr ⟨sx_247_0, (List.forall_mem_cons.mpr ⟨sx_247_1, (fun _ h => absurd h List.not_mem_nil)⟩)⟩)
theorem sx_248_0 : fx_sf mx_248 mc_248_0 := sf_self _
theorem sx_248_1 : fx_sf mx_248 mc_248_1 := sf_drop (l := mc_248_0) 8 sx_248_0
set_option maxRecDepth 100000 in
theorem sy_248 : ∀ r ∈ mx_248.2, fx_sf mx_248 r := (List.forall_mem_cons.mpr ⟨sx_248_0, (List.forall_mem_cons.mpr ⟨sx_248_1, (fun _ h => absurd h List.not_mem_nil)⟩)⟩)
theorem sx_249_0 : fx_sf mx_249 mc_249_0 := sf_self _
theorem sx_249_1 : fx_sf mx_249 mc_249_1 := sf_drop (l := mc_249_0) 10 sx_249_0
set_option maxRecDepth 100000 in
theorem sy_249 : ∀ r ∈ mx_249.2, fx_sf mx_249 r := (List.forall_mem_cons.mpr ⟨sx_249_0, (List.forall_mem_cons.mpr ⟨sx_249_1, (fun _ h => absurd h List.not_mem_nil)⟩)⟩)
theorem sx_250_0 : fx_sf mx_250 mc_250_0 := sf_self _
theorem sx_250_1 : fx_sf mx_250 mc_250_1 := sf_drop (l := mc_250_0) 10 sx_250_0
theorem sx_250_2 : fx_sf mx_250 mc_250_2 := sf_drop (l := mc_250_1) 1 sx_250_1
theorem sx_250_3 : fx_sf mx_250 mc_250_3 := sf_drop (l := mc_250_2) 0 sx_250_2
theorem sx_250_4 : fx_sf mx_250 mc_250_4 := sf_drop (l := mc_250_3) 0 sx_250_3
theorem sx_250_5 : fx_sf mx_250 mc_250_5 := sf_drop (l := mc_250_4) 0 sx_250_4
theorem sx_250_6 : fx_sf mx_250 mc_250_6 := sf_drop (l := mc_250_5) 0 sx_250_5
theorem sx_250_7 : fx_sf mx_250 mc_250_7 := sf_drop (l := mc_250_6) 0 sx_250_6
theorem sx_250_8 : fx_sf mx_250 mc_250_8 := sf_drop (l := mc_250_7) 0 sx_250_7
theorem sx_250_9 : fx_sf mx_250 mc_250_9 := sf_drop (l := mc_250_8) 0 sx_250_8
theorem sx_250_10 : fx_sf mx_250 mc_250_10 := sf_drop (l := mc_250_9) 0 sx_250_9
theorem sx_250_11 : fx_sf mx_250 mc_250_11 := sf_drop (l := mc_250_10) 3 sx_250_10
set_option maxRecDepth 100000 in
theorem sy_250 : ∀ r ∈ mx_250.2, fx_sf mx_250 r := (List.forall_mem_cons.mpr ⟨sx_250_0, (List.forall_mem_cons.mpr ⟨sx_250_1, (List.forall_mem_cons.mpr ⟨sx_250_2, (List.forall_mem_cons.mpr ⟨sx_250_3, (List.forall_mem_cons.mpr ⟨sx_250_4, (List.forall_mem_cons.mpr ⟨sx_250_5, (List.forall_mem_cons.mpr ⟨sx_250_6, (List.forall_mem_cons.mpr ⟨sx_250_7, (List.forall_mem_cons.mpr ⟨sx_250_8, (List.forall_mem_cons.mpr ⟨sx_250_9, (List.forall_mem_cons.mpr ⟨sx_250_10, (List.forall_mem_cons.mpr ⟨sx_250_11, (fun _ h => absurd h List.not_mem_nil)⟩)⟩)⟩)⟩)⟩)⟩)⟩)⟩)⟩)⟩)⟩)⟩)
theorem sx_251_0 : fx_sf mx_251 mc_251_0 := sf_self _
theorem sx_251_1 : fx_sf mx_251 mc_251_1 := sf_drop (l := mc_251_0) 11 sx_251_0
set_option maxRecDepth 100000 in
theorem sy_251 : ∀ r ∈ mx_251.2, fx_sf mx_251 r := (List.forall_mem_cons.mpr ⟨sx_251_0, (List.forall_mem_cons.mpr ⟨sx_251_1, (fun _ h => absurd h List.not_mem_nil)⟩)⟩)
theorem sx_252_0 : fx_sf mx_252 mc_252_0 := sf_self _
theorem sx_252_1 : fx_sf mx_252 mc_252_1 := sf_drop (l := mc_252_0) 12 sx_252_0
set_option maxRecDepth 100000 in
theorem sy_252 : ∀ r ∈ mx_252.2, fx_sf mx_252 r := (List.forall_mem_cons.mpr ⟨sx_252_0, (List.forall_mem_cons.mpr ⟨sx_252_1, (fun _ h => absurd h List.not_mem_nil)⟩)⟩)
theorem sx_253_0 : fx_sf mx_253 mc_253_0 := sf_self _
theorem sx_253_1 : fx_sf mx_253 mc_253_1 := sf_drop (l := mc_253_0) 12 sx_253_0
set_option maxRecDepth 100000 in
theorem sy_253 : ∀ r ∈ mx_253.2, fx_sf mx_253 r := (List.forall_mem_cons.mpr ⟨sx_253_0, (List.forall_mem_cons.mpr ⟨sx_253_1, (fun _ h => absurd h List.not_mem_nil)⟩)⟩)
theorem sx_254_0 : fx_sf mx_254 mc_254_0 := sf_self _
theorem sx_254_1 : fx_sf mx_254 mc_254_1 := sf_drop (l := mc_254_0) 12 sx_254_0
set_option maxRecDepth 100000 in
theorem sy_254 : ∀ r ∈ mx_254.2, fx_sf mx_254 r := (List.forall_mem_cons.mpr ⟨sx_254_0, (List.forall_mem_cons.mpr ⟨sx_254_1, (fun _ h => absurd h List.not_mem_nil)⟩)⟩)
theorem sx_255_0 : fx_sf mx_255 mc_255_0 := sf_self _
theorem sx_255_1 : fx_sf mx_255 mc_255_1 := sf_drop (l := mc_255_0) 4 sx_255_0
set_option maxRecDepth 100000 in
theorem sy_255 : ∀ r ∈ mx_255.2, fx_sf mx_255 r := (List.forall_mem_cons.mpr ⟨sx_255_0, (List.forall_mem_cons.mpr ⟨sx_255_1, (fun _ h => absurd h List.not_mem_nil)⟩)⟩)
theorem sx_256_0 : fx_sf mx_256 mc_256_0 := sf_self _
theorem sx_256_1 : fx_sf mx_256 mc_256_1 := sf_drop (l := mc_256_0) 10 sx_256_0
theorem sx_256_2 : fx_sf mx_256 mc_256_2 := sf_drop (l := mc_256_1) 0 sx_256_1
set_option maxRecDepth 100000 in
theorem sy_256 : ∀ r ∈ mx_256.2, fx_sf mx_256 r := (List.forall_mem_cons.mpr ⟨sx_256_0, (List.forall_mem_cons.mpr ⟨sx_256_1, (List.forall_mem_cons.mpr ⟨sx_256_2, (fun _ h => absurd h List.not_mem_nil)⟩)⟩)⟩)
theorem sx_257_0 : fx_sf mx_257 mc_257_0 := sf_self _
theorem sx_257_1 : fx_sf mx_257 mc_257_1 := sf_drop (l := mc_257_0) 10 sx_257_0
set_option maxRecDepth 100000 in
theorem sy_257 : ∀ r ∈ mx_257.2, fx_sf mx_257 r := (List.forall_mem_cons.mpr ⟨sx_257_0, (List.forall_mem_cons.mpr ⟨sx_257_1, (fun _ h => absurd h List.not_mem_nil)⟩)⟩)
theorem sx_258_0 : fx_sf mx_258 mc_258_0 := sf_self _
theorem sx_258_1 : fx_sf mx_258 mc_258_1 := sf_drop (l := mc_258_0) 9 sx_258_0
set_option maxRecDepth 100000 in
theorem sy_258 : ∀ r ∈ mx_258.2, fx_sf mx_258 r := (List.forall_mem_cons.mpr ⟨sx_258_0, (List.forall_mem_cons.mpr ⟨sx_258_1, (fun _ h => absurd h List.not_mem_nil)⟩)⟩)
theorem sx_259_0 : fx_sf mx_259 mc_259_0 := sf_self _
theorem sx_259_1 : fx_sf mx_259 mc_259_1 := sf_drop (l := mc_259_0) 10 sx_259_0
set_option maxRecDepth 100000 in
theorem sy_259 : ∀ r ∈ mx_259.2, fx_sf mx_259 r := (List.forall_mem_cons.mpr ⟨sx_259_0, (List.forall_mem_cons.mpr ⟨sx_259_1, (fun _ h => absurd h List.not_mem_nil)⟩)⟩)
theorem sx_260_0 : fx_sf mx_260 mc_260_0 := sf_self _
theorem sx_260_1 : fx_sf mx_260 mc_260_1 := sf_drop (l := mc_260_0) 7 sx_260_0
set_option maxRecDepth 100000 in
theorem sy_260 : ∀ r ∈ mx_260.2, fx_sf mx_260 r := (List.forall_mem_cons.mpr ⟨sx_260_0, (List.forall_mem_cons.mpr ⟨sx_260_1, (fun _ h => absurd h List.not_mem_nil)⟩)⟩)
theorem sx_261_0 : fx_sf mx_261 mc_261_0 := sf_self _
theorem sx_261_1 : fx_sf mx_261 mc_261_1 := sf_drop (l := mc_261_0) 8 sx_261_0
theorem sx_261_2 : fx_sf mx_261 mc_261_2 := sf_drop (l := mc_261_1) 0 sx_261_1
set_option maxRecDepth 100000 in
theorem sy_261 : ∀ r ∈ mx_261.2, fx_sf mx_261 r := (List.forall_mem_cons.mpr ⟨sx_261_0, (List.forall_mem_cons.mpr ⟨sx_261_1, (List.forall_mem_cons.mpr ⟨sx_261_2, (fun _ h => absurd h List.not_mem_nil)⟩)⟩)⟩)
theorem sx_262_0 : fx_sf mx_262 mc_262_0 := sf_self _
theorem sx_262_1 : fx_sf mx_262 mc_262_1 := sf_drop (l := mc_262_0) 10 sx_262_0
theorem sx_262_2 : fx_sf mx_262 mc_262_2 := sf_drop (l := mc_262_1) 2 sx_262_1
theorem sx_262_3 : fx_sf mx_262 mc_262_3 := sf_drop (l := mc_262_2) 0 sx_262_2
set_option maxRecDepth 100000 in
theorem sy_262 : ∀ r ∈ mx_262.2, fx_sf mx_262 r := (List.forall_mem_cons.mpr ⟨sx_262_0, (List.forall_mem_cons.mpr ⟨sx_262_1, (List.forall_mem_cons.mpr ⟨sx_262_2, (List.forall_mem_cons.mpr ⟨sx_262_3, (fun _ h => absurd h List.not_mem_nil)⟩)⟩)⟩)⟩)
theorem sx_263_0 : fx_sf mx_263 mc_263_0 := sf_self _
theorem sx_263_1 : fx_sf mx_263 mc_263_1 := sf_drop (l := mc_263_0) 10 sx_263_0
theorem sx_263_2 : fx_sf mx_263 mc_263_2 := sf_drop (l := mc_263_1) 2 sx_263_1
theorem sx_263_3 : fx_sf mx_263 mc_263_3 := sf_drop (l := mc_263_2) 0 sx_263_2
set_option maxRecDepth 100000 in
theorem sy_263 : ∀ r ∈ mx_263.2, fx_sf mx_263 r := (List.forall_mem_cons.mpr ⟨sx_263_0, (List.forall_mem_cons.mpr ⟨sx_263_1, (List.forall_mem_cons.mpr ⟨sx_263_2, (List.forall_mem_cons.mpr ⟨sx_263_3, (fun _ h => absurd h List.not_mem_nil)⟩)⟩)⟩)⟩)
theorem sx_264_0 : fx_sf mx_264 mc_264_0 := sf_self _
set_option maxRecDepth 100000 in
theorem sy_264 : ∀ r ∈ mx_264.2, fx_sf mx_264 r := (List.forall_mem_cons.mpr ⟨sx_264_0, (fun _ h => absurd h List.not_mem_nil)⟩)
theorem sx_265_0 : fx_sf mx_265 mc_265_0 := sf_self _
theorem sx_265_1 : fx_sf mx_265 mc_265_1 := sf_drop (l := mc_265_0) 11 sx_265_0
theorem sx_265_2 : fx_sf mx_265 mc_265_2 := sf_drop (l := mc_265_1) 0 sx_265_1
set_option maxRecDepth 100000 in
theorem sy_265 : ∀ r ∈ mx_265.2, fx_sf mx_265 r := (List.forall_mem_cons.mpr ⟨sx_265_0, (List.forall_mem_cons.mpr ⟨sx_265_1, (List.forall_mem_cons.mpr ⟨sx_265_2, (fun _ h => absurd h List.not_mem_nil)⟩)⟩)⟩)
theorem sx_266_0 : fx_sf mx_266 mc_266_0 := sf_self _
theorem sx_266_1 : fx_sf mx_266 mc_266_1 := sf_drop (l := mc_266_0) 9 sx_266_0
set_option maxRecDepth 100000 in
theorem sy_266 : ∀ r ∈ mx_266.2, fx_sf mx_266 r := (List.forall_mem_cons.mpr ⟨sx_266_0, (List.forall_mem_cons.mpr ⟨sx_266_1, (fun _ h => absurd h List.not_mem_nil)⟩)⟩)
theorem sx_267_0 : fx_sf mx_267 mc_267_0 := sf_self _
theorem sx_267_1 : fx_sf mx_267 mc_267_1 := sf_drop (l := mc_267_0) 4 sx_267_0
set_option maxRecDepth 100000 in
theorem sy_267 : ∀ r ∈ mx_267.2, fx_sf mx_267 r := (List.forall_mem_cons.mpr ⟨sx_267_0, (List.forall_mem_cons.mpr ⟨sx_267_1, (fun _ h => absurd h List.not_mem_nil)⟩)⟩)
theorem sx_268_0 : fx_sf mx_268 mc_268_0 := sf_self _
theorem sx_268_1 : fx_sf mx_268 mc_268_1 := sf_drop (l := mc_268_0) 10 sx_268_0
theorem sx_268_2 : fx_sf mx_268 mc_268_2 := sf_drop (l := mc_268_1) 0 sx_268_1
theorem sx_268_3 : fx_sf mx_268 mc_268_3 := sf_drop (l := mc_268_2) 0 sx_268_2
theorem sx_268_4 : fx_sf mx_268 mc_268_4 := sf_drop (l := mc_268_3) 0 sx_268_3
theorem sx_268_5 : fx_sf mx_268 mc_268_5 := sf_drop (l := mc_268_4) 0 sx_268_4
theorem sx_268_6 : fx_sf mx_268 mc_268_6 := sf_drop (l := mc_268_5) 0 sx_268_5
set_option maxRecDepth 100000 in
theorem sy_268 : ∀ r ∈ mx_268.2, fx_sf mx_268 r := (List.forall_mem_cons.mpr ⟨sx_268_0, (List.forall_mem_cons.mpr ⟨sx_268_1, (List.forall_mem_cons.mpr ⟨sx_268_2, (List.forall_mem_cons.mpr ⟨sx_268_3, (List.forall_mem_cons.mpr ⟨sx_268_4, (List.forall_mem_cons.mpr ⟨sx_268_5, (List.forall_mem_cons.mpr ⟨sx_268_6, (fun _ h => absurd h List.not_mem_nil)⟩)⟩)⟩)⟩)⟩)⟩)⟩)
theorem sx_269_0 : fx_sf mx_269 mc_269_0 := sf_self _
theorem sx_269_1 : fx_sf mx_269 mc_269_1 := sf_drop (l := mc_269_0) 7 sx_269_0
theorem sx_269_2 : fx_sf mx_269 mc_269_2 := sf_drop (l := mc_269_1) 0 sx_269_1
set_option maxRecDepth 100000 in
theorem sy_269 : ∀ r ∈ mx_269.2, fx_sf mx_269 r := (List.forall_mem_cons.mpr ⟨sx_269_0, (List.forall_mem_cons.mpr ⟨sx_269_1, (List.forall_mem_cons.mpr ⟨sx_269_2, (fun _ h => absurd h List.not_mem_nil)⟩)⟩)⟩)
theorem sx_270_0 : fx_sf mx_270 mc_270_0 := sf_self _
theorem sx_270_1 : fx_sf mx_270 mc_270_1 := sf_drop (l := mc_270_0) 9 sx_270_0
theorem sx_270_2 : fx_sf mx_270 mc_270_2 := sf_drop (l := mc_270_1) 0 sx_270_1
theorem sx_270_3 : fx_sf mx_270 mc_270_3 := sf_drop (l := mc_270_2) 0 sx_270_2
theorem sx_270_4 : fx_sf mx_270 mc_270_4 := sf_drop (l := mc_270_3) 0 sx_270_3
theorem sx_270_5 : fx_sf mx_270 mc_270_5 := sf_drop (l := mc_270_4) 0 sx_270_4
set_option maxRecDepth 100000 in
theorem sy_270 : ∀ r ∈ mx_270.2, fx_sf mx_270 r := (List.forall_mem_cons.mpr ⟨sx_270_0, (List.forall_mem_cons.mpr ⟨sx_270_1, (List.forall_mem_cons.mpr ⟨sx_270_2, (List.forall_mem_cons.mpr ⟨sx_270_3, (List.forall_mem_cons.mpr ⟨sx_270_4, (List.forall_mem_cons.mpr ⟨sx_270_5, (fun _ h => absurd h List.not_mem_nil)⟩)⟩)⟩)⟩)⟩)⟩)
theorem sx_271_0 : fx_sf mx_271 mc_271_0 := sf_self _
theorem sx_271_1 : fx_sf mx_271 mc_271_1 := sf_drop (l := mc_271_0) 9 sx_271_0
theorem sx_271_2 : fx_sf mx_271 mc_271_2 := sf_drop (l := mc_271_1) 0 sx_271_1
set_option maxRecDepth 100000 in
theorem sy_271 : ∀ r ∈ mx_271.2, fx_sf mx_271 r := (List.forall_mem_cons.mpr ⟨sx_271_0, (List.forall_mem_cons.mpr ⟨sx_271_1, (List.forall_mem_cons.mpr ⟨sx_271_2, (fun _ h => absurd h List.not_mem_nil)⟩)⟩)⟩)
theorem sx_272_0 : fx_sf mx_272 mc_272_0 := sf_self _
set_option maxRecDepth 100000 in
theorem sy_272 : ∀ r ∈ mx_272.2, fx_sf mx_272 r := (List.forall_mem_cons.mpr ⟨sx_272_0, (fun _ h => absurd h List.not_mem_nil)⟩)
theorem sx_273_0 : fx_sf mx_273 mc_273_0 := sf_self _
set_option maxRecDepth 100000 in
theorem sy_273 : ∀ r ∈ mx_273.2, fx_sf mx_273 r := (List.forall_mem_cons.mpr ⟨sx_273_0, (fun _ h => absurd h List.not_mem_nil)⟩)
theorem sx_274_0 : fx_sf mx_274 mc_274_0 := sf_self _
set_option maxRecDepth 100000 in
theorem sy_274 : ∀ r ∈ mx_274.2, fx_sf mx_274 r := (List.forall_mem_cons.mpr ⟨sx_274_0, (fun _ h => absurd h List.not_mem_nil)⟩)
theorem sx_275_0 : fx_sf mx_275 mc_275_0 := sf_self _
theorem sx_275_1 : fx_sf mx_275 mc_275_1 := sf_drop (l := mc_275_0) 7 sx_275_0
set_option maxRecDepth 100000 in
theorem sy_275 : ∀ r ∈ mx_275.2, fx_sf mx_275 r := (List.forall_mem_cons.mpr ⟨sx_275_0, (List.forall_mem_cons.mpr ⟨sx_275_1, (fun _ h => absurd h List.not_mem_nil)⟩)⟩)
theorem sx_276_0 : fx_sf mx_276 mc_276_0 := sf_self _
set_option maxRecDepth 100000 in
theorem sy_276 : ∀ r ∈ mx_276.2, fx_sf mx_276 r := (List.forall_mem_cons.mpr ⟨sx_276_0, (fun _ h => absurd h List.not_mem_nil)⟩)
theorem sx_277_0 : fx_sf mx_277 mc_277_0 := sf_self _
theorem sx_277_1 : fx_sf mx_277 mc_277_1 := sf_drop (l := mc_277_0) 5 sx_277_0
set_option maxRecDepth 100000 in
theorem sy_277 : ∀ r ∈ mx_277.2, fx_sf mx_277 r := (List.forall_mem_cons.mpr ⟨sx_277_0, (List.forall_mem_cons.mpr ⟨sx_277_1, (fun _ h => absurd h List.not_mem_nil)⟩)⟩)
theorem sx_278_0 : fx_sf mx_278 mc_278_0 := sf_self _
set_option maxRecDepth 100000 in
theorem sy_278 : ∀ r ∈ mx_278.2, fx_sf mx_278 r := (List.forall_mem_cons.mpr ⟨sx_278_0, (fun _ h => absurd h List.not_mem_nil)⟩)
theorem sx_279_0 : fx_sf mx_279 mc_279_0 := sf_self _
set_option maxRecDepth 100000 in
theorem sy_279 : ∀ r ∈ mx_279.2, fx_sf mx_279 r := (List.forall_mem_cons.mpr ⟨sx_279_0, (fun _ h => absurd h List.not_mem_nil)⟩)
theorem sx_280_0 : fx_sf mx_280 mc_280_0 := sf_self _
set_option maxRecDepth 100000 in
theorem sy_280 : ∀ r ∈ mx_280.2, fx_sf mx_280 r := (List.forall_mem_cons.mpr ⟨sx_280_0, (fun _ h => absurd h List.not_mem_nil)⟩)
theorem sx_281_0 : fx_sf mx_281 mc_281_0 := sf_self _
set_option maxRecDepth 100000 in
theorem sy_281 : ∀ r ∈ mx_281.2, fx_sf mx_281 r := (List.forall_mem_cons.mpr ⟨sx_281_0, (fun _ h => absurd h List.not_mem_nil)⟩)
theorem sx_282_0 : fx_sf mx_282 mc_282_0 := sf_self _
set_option maxRecDepth 100000 in
theorem sy_282 : ∀ r ∈ mx_282.2, fx_sf mx_282 r := (List.forall_mem_cons.mpr ⟨sx_282_0, (fun _ h => absurd h List.not_mem_nil)⟩)
theorem sx_283_0 : fx_sf mx_283 mc_283_0 := sf_self _
set_option maxRecDepth 100000 in
theorem sy_283 : ∀ r ∈ mx_283.2, fx_sf mx_283 r := (List.forall_mem_cons.mpr ⟨sx_283_0, (fun _ h => absurd h List.not_mem_nil)⟩)
theorem sx_284_0 : fx_sf mx_284 mc_284_0 := sf_self _
theorem sx_284_1 : fx_sf mx_284 mc_284_1 := sf_drop (l := mc_284_0) 4 sx_284_0
set_option maxRecDepth 100000 in
theorem sy_284 : ∀ r ∈ mx_284.2, fx_sf mx_284 r := (List.forall_mem_cons.mpr ⟨sx_284_0, (List.forall_mem_cons.mpr ⟨sx_284_1, (fun _ h => absurd h List.not_mem_nil)⟩)⟩)
theorem sx_285_0 : fx_sf mx_285 mc_285_0 := sf_self _
set_option maxRecDepth 100000 in
theorem sy_285 : ∀ r ∈ mx_285.2, fx_sf mx_285 r := (List.forall_mem_cons.mpr ⟨sx_285_0, (fun _ h => absurd h List.not_mem_nil)⟩)
set_option maxRecDepth 100000 in
theorem sy_all : ∀ Q ∈ fx_fm, ∀ r ∈ Q.2, fx_sf Q r := (List.forall_mem_cons.mpr ⟨sy_0, (List.forall_mem_cons.mpr ⟨sy_1, (List.forall_mem_cons.mpr ⟨sy_2, (List.forall_mem_cons.mpr ⟨sy_3, (List.forall_mem_cons.mpr ⟨sy_4, (List.forall_mem_cons.mpr ⟨sy_5, (List.forall_mem_cons.mpr ⟨sy_6, (List.forall_mem_cons.mpr ⟨sy_7, (List.forall_mem_cons.mpr ⟨sy_8, (List.forall_mem_cons.mpr ⟨sy_9, (List.forall_mem_cons.mpr ⟨sy_10, (List.forall_mem_cons.mpr ⟨sy_11, (List.forall_mem_cons.mpr ⟨sy_12, (List.forall_mem_cons.mpr ⟨sy_13, (List.forall_mem_cons.mpr ⟨sy_14, (List.forall_mem_cons.mpr ⟨sy_15, (List.forall_mem_cons.mpr ⟨sy_16, (List.forall_mem_cons.mpr ⟨sy_17, (List.forall_mem_cons.mpr ⟨sy_18, (List.forall_mem_cons.mpr ⟨sy_19, (List.forall_mem_cons.mpr ⟨sy_20, (List.forall_mem_cons.mpr ⟨sy_21, (List.forall_mem_cons.mpr ⟨sy_22, (List.forall_mem_cons.mpr ⟨sy_23, (List.forall_mem_cons.mpr ⟨sy_24, (List.forall_mem_cons.mpr ⟨sy_25, (List.forall_mem_cons.mpr ⟨sy_26, (List.forall_mem_cons.mpr ⟨sy_27, (List.forall_mem_cons.mpr ⟨sy_28, (List.forall_mem_cons.mpr ⟨sy_29, (List.forall_mem_cons.mpr ⟨sy_30, (List.forall_mem_cons.mpr ⟨sy_31, (List.forall_mem_cons.mpr ⟨sy_32, (List.forall_mem_cons.mpr ⟨sy_33, (List.forall_mem_cons.mpr ⟨sy_34, (List.forall_mem_cons.mpr ⟨sy_35, (List.forall_mem_cons.mpr ⟨sy_36, (List.forall_mem_cons.mpr ⟨sy_37, (List.forall_mem_cons.mpr ⟨sy_38, (List.forall_mem_cons.mpr ⟨sy_39, (List.forall_mem_cons.mpr ⟨sy_40, (List.forall_mem_cons.mpr ⟨sy_41, (List.forall_mem_cons.mpr ⟨sy_42, (List.forall_mem_cons.mpr ⟨sy_43, (List.forall_mem_cons.mpr ⟨sy_44, (List.forall_mem_cons.mpr ⟨sy_45, (List.forall_mem_cons.mpr ⟨sy_46, (List.forall_mem_cons.mpr ⟨sy_47, (List.forall_mem_cons.mpr ⟨sy_48, (List.forall_mem_cons.mpr ⟨sy_49, (List.forall_mem_cons.mpr ⟨sy_50, (List.forall_mem_cons.mpr ⟨sy_51, (List.forall_mem_cons.mpr ⟨sy_52, (List.forall_mem_cons.mpr ⟨sy_53, (List.forall_mem_cons.mpr ⟨sy_54, (List.forall_mem_cons.mpr ⟨sy_55, (List.forall_mem_cons.mpr ⟨sy_56, (List.forall_mem_cons.mpr ⟨sy_57, (List.forall_mem_cons.mpr ⟨sy_58, (List.forall_mem_cons.mpr ⟨sy_59, (List.forall_mem_cons.mpr ⟨sy_60, (List.forall_mem_cons.mpr ⟨sy_61, (List.forall_mem_cons.mpr ⟨sy_62, (List.forall_mem_cons.mpr ⟨sy_63, (List.forall_mem_cons.mpr ⟨sy_64, (List.forall_mem_cons.mpr ⟨sy_65, (List.forall_mem_cons.mpr ⟨sy_66, (List.forall_mem_cons.mpr ⟨sy_67, (List.forall_mem_cons.mpr ⟨sy_68, (List.forall_mem_cons.mpr ⟨sy_69, (List.forall_mem_cons.mpr ⟨sy_70, (List.forall_mem_cons.mpr ⟨sy_71, (List.forall_mem_cons.mpr ⟨sy_72, (List.forall_mem_cons.mpr ⟨sy_73, (List.forall_mem_cons.mpr ⟨sy_74, (List.forall_mem_cons.mpr ⟨sy_75, (List.forall_mem_cons.mpr ⟨sy_76, (List.forall_mem_cons.mpr ⟨sy_77, (List.forall_mem_cons.mpr ⟨sy_78, (List.forall_mem_cons.mpr ⟨sy_79, (List.forall_mem_cons.mpr ⟨sy_80, (List.forall_mem_cons.mpr ⟨sy_81, (List.forall_mem_cons.mpr ⟨sy_82, (List.forall_mem_cons.mpr ⟨sy_83, (List.forall_mem_cons.mpr ⟨sy_84, (List.forall_mem_cons.mpr ⟨sy_85, (List.forall_mem_cons.mpr ⟨sy_86, (List.forall_mem_cons.mpr ⟨sy_87, (List.forall_mem_cons.mpr ⟨sy_88, (List.forall_mem_cons.mpr ⟨sy_89, (List.forall_mem_cons.mpr ⟨sy_90, (List.forall_mem_cons.mpr ⟨sy_91, (List.forall_mem_cons.mpr ⟨sy_92, (List.forall_mem_cons.mpr ⟨sy_93, (List.forall_mem_cons.mpr ⟨sy_94, (List.forall_mem_cons.mpr ⟨sy_95, (List.forall_mem_cons.mpr ⟨sy_96, (List.forall_mem_cons.mpr ⟨sy_97, (List.forall_mem_cons.mpr ⟨sy_98, (List.forall_mem_cons.mpr ⟨sy_99, (List.forall_mem_cons.mpr ⟨sy_100, (List.forall_mem_cons.mpr ⟨sy_101, (List.forall_mem_cons.mpr ⟨sy_102, (List.forall_mem_cons.mpr ⟨sy_103, (List.forall_mem_cons.mpr ⟨sy_104, (List.forall_mem_cons.mpr ⟨sy_105, (List.forall_mem_cons.mpr ⟨sy_106, (List.forall_mem_cons.mpr ⟨sy_107, (List.forall_mem_cons.mpr ⟨sy_108, (List.forall_mem_cons.mpr ⟨sy_109, (List.forall_mem_cons.mpr ⟨sy_110, (List.forall_mem_cons.mpr ⟨sy_111, (List.forall_mem_cons.mpr ⟨sy_112, (List.forall_mem_cons.mpr ⟨sy_113, (List.forall_mem_cons.mpr ⟨sy_114, (List.forall_mem_cons.mpr ⟨sy_115, (List.forall_mem_cons.mpr ⟨sy_116, (List.forall_mem_cons.mpr ⟨sy_117, (List.forall_mem_cons.mpr ⟨sy_118, (List.forall_mem_cons.mpr ⟨sy_119, (List.forall_mem_cons.mpr ⟨sy_120, (List.forall_mem_cons.mpr ⟨sy_121, (List.forall_mem_cons.mpr ⟨sy_122, (List.forall_mem_cons.mpr ⟨sy_123, (List.forall_mem_cons.mpr ⟨sy_124, (List.forall_mem_cons.mpr ⟨sy_125, (List.forall_mem_cons.mpr ⟨sy_126, (List.forall_mem_cons.mpr ⟨sy_127, (List.forall_mem_cons.mpr ⟨sy_128, (List.forall_mem_cons.mpr ⟨sy_129, (List.forall_mem_cons.mpr ⟨sy_130, (List.forall_mem_cons.mpr ⟨sy_131, (List.forall_mem_cons.mpr ⟨sy_132, (List.forall_mem_cons.mpr ⟨sy_133, (List.forall_mem_cons.mpr ⟨sy_134, (List.forall_mem_cons.mpr ⟨sy_135, (List.forall_mem_cons.mpr ⟨sy_136, (List.forall_mem_cons.mpr ⟨sy_137, (List.forall_mem_cons.mpr ⟨sy_138, (List.forall_mem_cons.mpr ⟨sy_139, (List.forall_mem_cons.mpr ⟨sy_140, (List.forall_mem_cons.mpr ⟨sy_141, (List.forall_mem_cons.mpr ⟨sy_142, (List.forall_mem_cons.mpr ⟨sy_143, (List.forall_mem_cons.mpr ⟨sy_144, (List.forall_mem_cons.mpr ⟨sy_145, (List.forall_mem_cons.mpr ⟨sy_146, (List.forall_mem_cons.mpr ⟨sy_147, (List.forall_mem_cons.mpr ⟨sy_148, (List.forall_mem_cons.mpr ⟨sy_149, (List.forall_mem_cons.mpr ⟨sy_150, (List.forall_mem_cons.mpr ⟨sy_151, (List.forall_mem_cons.mpr ⟨sy_152, (List.forall_mem_cons.mpr ⟨sy_153, (List.forall_mem_cons.mpr ⟨sy_154, (List.forall_mem_cons.mpr ⟨sy_155, (List.forall_mem_cons.mpr ⟨sy_156, (List.forall_mem_cons.mpr ⟨sy_157, (List.forall_mem_cons.mpr ⟨sy_158, (List.forall_mem_cons.mpr ⟨sy_159, (List.forall_mem_cons.mpr ⟨sy_160, (List.forall_mem_cons.mpr ⟨sy_161, (List.forall_mem_cons.mpr ⟨sy_162, (List.forall_mem_cons.mpr ⟨sy_163, (List.forall_mem_cons.mpr ⟨sy_164, (List.forall_mem_cons.mpr ⟨sy_165, (List.forall_mem_cons.mpr ⟨sy_166, (List.forall_mem_cons.mpr ⟨sy_167, (List.forall_mem_cons.mpr ⟨sy_168, (List.forall_mem_cons.mpr ⟨sy_169, (List.forall_mem_cons.mpr ⟨sy_170, (List.forall_mem_cons.mpr ⟨sy_171, (List.forall_mem_cons.mpr ⟨sy_172, (List.forall_mem_cons.mpr ⟨sy_173, (List.forall_mem_cons.mpr ⟨sy_174, (List.forall_mem_cons.mpr ⟨sy_175, (List.forall_mem_cons.mpr ⟨sy_176, (List.forall_mem_cons.mpr ⟨sy_177, (List.forall_mem_cons.mpr ⟨sy_178, (List.forall_mem_cons.mpr ⟨sy_179, (List.forall_mem_cons.mpr ⟨sy_180, (List.forall_mem_cons.mpr ⟨sy_181, (List.forall_mem_cons.mpr ⟨sy_182, (List.forall_mem_cons.mpr ⟨sy_183, (List.forall_mem_cons.mpr ⟨sy_184, (List.forall_mem_cons.mpr ⟨sy_185, (List.forall_mem_cons.mpr ⟨sy_186, (List.forall_mem_cons.mpr ⟨sy_187, (List.forall_mem_cons.mpr ⟨sy_188, (List.forall_mem_cons.mpr ⟨sy_189, (List.forall_mem_cons.mpr ⟨sy_190, (List.forall_mem_cons.mpr ⟨sy_191, (List.forall_mem_cons.mpr ⟨sy_192, (List.forall_mem_cons.mpr ⟨sy_193, (List.forall_mem_cons.mpr ⟨sy_194, (List.forall_mem_cons.mpr ⟨sy_195, (List.forall_mem_cons.mpr ⟨sy_196, (List.forall_mem_cons.mpr ⟨sy_197, (List.forall_mem_cons.mpr ⟨sy_198, (List.forall_mem_cons.mpr ⟨sy_199, (List.forall_mem_cons.mpr ⟨sy_200, (List.forall_mem_cons.mpr ⟨sy_201, (List.forall_mem_cons.mpr ⟨sy_202, (List.forall_mem_cons.mpr ⟨sy_203, (List.forall_mem_cons.mpr ⟨sy_204, (List.forall_mem_cons.mpr ⟨sy_205, (List.forall_mem_cons.mpr ⟨sy_206, (List.forall_mem_cons.mpr ⟨sy_207, (List.forall_mem_cons.mpr ⟨sy_208, (List.forall_mem_cons.mpr ⟨sy_209, (List.forall_mem_cons.mpr ⟨sy_210, (List.forall_mem_cons.mpr ⟨sy_211, (List.forall_mem_cons.mpr ⟨sy_212, (List.forall_mem_cons.mpr ⟨sy_213, (List.forall_mem_cons.mpr ⟨sy_214, (List.forall_mem_cons.mpr ⟨sy_215, (List.forall_mem_cons.mpr ⟨sy_216, (List.forall_mem_cons.mpr ⟨sy_217, (List.forall_mem_cons.mpr ⟨sy_218, (List.forall_mem_cons.mpr ⟨sy_219, (List.forall_mem_cons.mpr ⟨sy_220, (List.forall_mem_cons.mpr ⟨sy_221, (List.forall_mem_cons.mpr ⟨sy_222, (List.forall_mem_cons.mpr ⟨sy_223, (List.forall_mem_cons.mpr ⟨sy_224, (List.forall_mem_cons.mpr ⟨sy_225, (List.forall_mem_cons.mpr ⟨sy_226, (List.forall_mem_cons.mpr ⟨sy_227, (List.forall_mem_cons.mpr ⟨sy_228, (List.forall_mem_cons.mpr ⟨sy_229, (List.forall_mem_cons.mpr ⟨sy_230, (List.forall_mem_cons.mpr ⟨sy_231, (List.forall_mem_cons.mpr ⟨sy_232, (List.forall_mem_cons.mpr ⟨sy_233, (List.forall_mem_cons.mpr ⟨sy_234, (List.forall_mem_cons.mpr ⟨sy_235, (List.forall_mem_cons.mpr ⟨sy_236, (List.forall_mem_cons.mpr ⟨sy_237, (List.forall_mem_cons.mpr ⟨sy_238, (List.forall_mem_cons.mpr ⟨sy_239, (List.forall_mem_cons.mpr ⟨sy_240, (List.forall_mem_cons.mpr ⟨sy_241, (List.forall_mem_cons.mpr ⟨sy_242, (List.forall_mem_cons.mpr ⟨sy_243, (List.forall_mem_cons.mpr ⟨sy_244, (List.forall_mem_cons.mpr ⟨sy_245, (List.forall_mem_cons.mpr ⟨sy_246, (List.forall_mem_cons.mpr ⟨sy_247, (List.forall_mem_cons.mpr ⟨sy_248, (List.forall_mem_cons.mpr ⟨sy_249, (List.forall_mem_cons.mpr ⟨sy_250, (List.forall_mem_cons.mpr ⟨sy_251, (List.forall_mem_cons.mpr ⟨sy_252, (List.forall_mem_cons.mpr ⟨sy_253, (List.forall_mem_cons.mpr ⟨sy_254, (List.forall_mem_cons.mpr ⟨sy_255, (List.forall_mem_cons.mpr ⟨sy_256, (List.forall_mem_cons.mpr ⟨sy_257, (List.forall_mem_cons.mpr ⟨sy_258, (List.forall_mem_cons.mpr ⟨sy_259, (List.forall_mem_cons.mpr ⟨sy_260, (List.forall_mem_cons.mpr ⟨sy_261, (List.forall_mem_cons.mpr ⟨sy_262, (List.forall_mem_cons.mpr ⟨sy_263, (List.forall_mem_cons.mpr ⟨sy_264, (List.forall_mem_cons.mpr ⟨sy_265, (List.forall_mem_cons.mpr ⟨sy_266, (List.forall_mem_cons.mpr ⟨sy_267, (List.forall_mem_cons.mpr ⟨sy_268, (List.forall_mem_cons.mpr ⟨sy_269, (List.forall_mem_cons.mpr ⟨sy_270, (List.forall_mem_cons.mpr ⟨sy_271, (List.forall_mem_cons.mpr ⟨sy_272, (List.forall_mem_cons.mpr ⟨sy_273, (List.forall_mem_cons.mpr ⟨sy_274, (List.forall_mem_cons.mpr ⟨sy_275, (List.forall_mem_cons.mpr ⟨sy_276, (List.forall_mem_cons.mpr ⟨sy_277, (List.forall_mem_cons.mpr ⟨sy_278, (List.forall_mem_cons.mpr ⟨sy_279, (List.forall_mem_cons.mpr ⟨sy_280, (List.forall_mem_cons.mpr ⟨sy_281, (List.forall_mem_cons.mpr ⟨sy_282, (List.forall_mem_cons.mpr ⟨sy_283, (List.forall_mem_cons.mpr ⟨sy_284, (List.forall_mem_cons.mpr ⟨sy_285, (fun _ h => absurd h List.not_mem_nil)⟩)⟩)⟩)⟩)⟩)⟩)⟩)⟩)⟩)⟩)⟩)⟩)⟩)⟩)⟩)⟩)⟩)⟩)⟩)⟩)⟩)⟩)⟩)⟩)⟩)⟩)⟩)⟩)⟩)⟩)⟩)⟩)⟩)⟩)⟩)⟩)⟩)⟩)⟩)⟩)⟩)⟩)⟩)⟩)⟩)⟩)⟩)⟩)⟩)⟩)⟩)⟩)⟩)⟩)⟩)⟩)⟩)⟩)⟩)⟩)⟩)⟩)⟩)⟩)⟩)⟩)⟩)⟩)⟩)⟩)⟩)⟩)⟩)⟩)⟩)⟩)⟩)⟩)⟩)⟩)⟩)⟩)⟩)⟩)⟩)⟩)⟩)⟩)⟩)⟩)⟩)⟩)⟩)⟩)⟩)⟩)⟩)⟩)⟩)⟩)⟩)⟩)⟩)⟩)⟩)⟩)⟩)⟩)⟩)⟩)⟩)⟩)⟩)⟩)⟩)⟩)⟩)⟩)⟩)⟩)⟩)⟩)⟩)⟩)⟩)⟩)⟩)⟩)⟩)⟩)⟩)⟩)⟩)⟩)⟩)⟩)⟩)⟩)⟩)⟩)⟩)⟩)⟩)⟩)⟩)⟩)⟩)⟩)⟩)⟩)⟩)⟩)⟩)⟩)⟩)⟩)⟩)⟩)⟩)⟩)⟩)⟩)⟩)⟩)⟩)⟩)⟩)⟩)⟩)⟩)⟩)⟩)⟩)⟩)⟩)⟩)⟩)⟩)⟩)⟩)⟩)⟩)⟩)⟩)⟩)⟩)⟩)⟩)⟩)⟩)⟩)⟩)⟩)⟩)⟩)⟩)⟩)⟩)⟩)⟩)⟩)⟩)⟩)⟩)⟩)⟩)⟩)⟩)⟩)⟩)⟩)⟩)⟩)⟩)⟩)⟩)⟩)⟩)⟩)⟩)⟩)⟩)⟩)⟩)⟩)⟩)⟩)⟩)⟩)⟩)⟩)⟩)⟩)⟩)⟩)⟩)⟩)⟩)⟩)⟩)⟩)⟩)⟩)⟩)⟩)⟩)⟩)⟩)⟩)⟩)⟩)⟩)⟩)⟩)⟩)⟩)⟩)⟩)⟩)⟩)⟩)⟩)⟩)⟩)⟩)⟩)⟩)⟩)⟩)⟩)⟩)⟩)⟩)⟩)⟩)⟩)⟩)⟩)⟩)⟩)⟩)⟩)⟩)⟩)⟩)⟩)
theorem fm_chk : fx_fm.all (fun Q => fx_inc Q.1.2.2.2.2.2.2 && Q.1.2.2.2.2.2.2.all fx_jok) = true := by decide +kernel
theorem fm_ok : ∀ Q ∈ fx_fm, fx_ok Q := by
  intro Q hQ
  have h := List.all_eq_true.mp fm_chk Q hQ
  rw [Bool.and_eq_true] at h
  exact ⟨h.1, List.all_eq_true.mp h.2, sf_self Q, sy_all Q hQ⟩
