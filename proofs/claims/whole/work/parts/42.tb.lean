theorem tb_0 : ix_tabP[0]? = some mt_0 := rfl
theorem tb_1 : ix_tabP[1]? = some mt_1 := rfl
theorem tb_2 : ix_tabP[2]? = some mt_2 := rfl
theorem tb_3 : ix_tabP[3]? = some mt_3 := rfl
theorem tb_4 : ix_tabP[4]? = some mt_4 := rfl
theorem tb_5 : ix_tabP[5]? = some mt_5 := rfl
theorem tb_6 : ix_tabP[6]? = some mt_6 := rfl
theorem tb_7 : ix_tabP[7]? = some mt_7 := rfl
theorem tb_8 : ix_tabP[8]? = some mt_8 := rfl
theorem tb_9 : ix_tabP[9]? = some mt_9 := rfl
theorem tb_10 : ix_tabP[10]? = some mt_10 := rfl
theorem tb_11 : ix_tabP[11]? = some mt_11 := rfl
theorem tb_12 : ix_tabP[12]? = some mt_12 := rfl
theorem tb_13 : ix_tabP[13]? = some mt_13 := rfl
theorem tb_14 : ix_tabP[14]? = some mt_14 := rfl
theorem tb_15 : ix_tabP[15]? = some mt_15 := rfl
theorem tb_16 : ix_tabP[16]? = some mt_16 := rfl
theorem tb_17 : ix_tabP[17]? = some mt_17 := rfl
theorem tb_18 : ix_tabP[18]? = some mt_18 := rfl
theorem tb_19 : ix_tabP[19]? = some mt_19 := rfl
theorem tb_20 : ix_tabP[20]? = some mt_20 := rfl
theorem tb_21 : ix_tabP[21]? = some mt_21 := rfl
theorem tb_22 : ix_tabP[22]? = some mt_22 := rfl
theorem tb_23 : ix_tabP[23]? = some mt_23 := rfl
theorem tb_24 : ix_tabP[24]? = some mt_24 := rfl
theorem tb_25 : ix_tabP[25]? = some mt_25 := rfl
theorem tb_26 : ix_tabP[26]? = some mt_26 := rfl
theorem tb_27 : ix_tabP[27]? = some mt_27 := rfl
theorem tb_28 : ix_tabP[28]? = some mt_28 := rfl
theorem tb_29 : ix_tabP[29]? = some mt_29 := rfl
theorem tb_30 : ix_tabP[30]? = some mt_30 := rfl
theorem tb_31 : ix_tabP[31]? = some mt_31 := rfl
theorem tb_32 : ix_tabP[32]? = some mt_32 := rfl
theorem tb_33 : ix_tabP[33]? = some mt_33 := rfl
theorem tb_34 : ix_tabP[34]? = some mt_34 := rfl
theorem tb_35 : ix_tabP[35]? = some mt_35 := rfl
theorem tb_36 : ix_tabP[36]? = some mt_36 := rfl
theorem tb_37 : ix_tabP[37]? = some mt_37 := rfl
theorem tb_38 : ix_tabP[38]? = some mt_38 := rfl
theorem tb_39 : ix_tabP[39]? = some mt_39 := rfl
theorem tb_40 : ix_tabP[40]? = some mt_40 := rfl
theorem tb_41 : ix_tabP[41]? = some mt_41 := rfl
theorem tb_42 : ix_tabP[42]? = some mt_42 := rfl
theorem tb_43 : ix_tabP[43]? = some mt_43 := rfl
theorem tb_44 : ix_tabP[44]? = some mt_44 := rfl
theorem tb_45 : ix_tabP[45]? = some mt_45 := rfl
theorem tb_46 : ix_tabP[46]? = some mt_46 := rfl
theorem tb_47 : ix_tabP[47]? = some mt_47 := rfl
theorem tb_48 : ix_tabP[48]? = some mt_48 := rfl
theorem tb_49 : ix_tabP[49]? = some mt_49 := rfl
theorem tb_50 : ix_tabP[50]? = some mt_50 := rfl
theorem tb_51 : ix_tabP[51]? = some mt_51 := rfl
theorem tb_52 : ix_tabP[52]? = some mt_52 := rfl
theorem tb_53 : ix_tabP[53]? = some mt_53 := rfl
theorem tb_54 : ix_tabP[54]? = some mt_54 := rfl
theorem tb_55 : ix_tabP[55]? = some mt_55 := rfl
theorem tb_56 : ix_tabP[56]? = some mt_56 := rfl
theorem tb_57 : ix_tabP[57]? = some mt_57 := rfl
theorem tb_58 : ix_tabP[58]? = some mt_58 := rfl
theorem tb_59 : ix_tabP[59]? = some mt_59 := rfl
theorem tb_60 : ix_tabP[60]? = some mt_60 := rfl
theorem tb_61 : ix_tabP[61]? = some mt_61 := rfl
theorem tb_62 : ix_tabP[62]? = some mt_62 := rfl
theorem tb_63 : ix_tabP[63]? = some mt_63 := rfl
theorem tb_64 : ix_tabP[64]? = some mt_64 := rfl
theorem tb_65 : ix_tabP[65]? = some mt_65 := rfl
theorem tb_66 : ix_tabP[66]? = some mt_66 := rfl
theorem tb_67 : ix_tabP[67]? = some mt_67 := rfl
theorem tb_68 : ix_tabP[68]? = some mt_68 := rfl
theorem tb_69 : ix_tabP[69]? = some mt_69 := rfl
theorem tb_70 : ix_tabP[70]? = some mt_70 := rfl
theorem tb_71 : ix_tabP[71]? = some mt_71 := rfl
theorem tb_72 : ix_tabP[72]? = some mt_72 := rfl
theorem tb_73 : ix_tabP[73]? = some mt_73 := rfl
theorem tb_74 : ix_tabP[74]? = some mt_74 := rfl
theorem tb_75 : ix_tabP[75]? = some mt_75 := rfl
theorem tb_76 : ix_tabP[76]? = some mt_76 := rfl
theorem tb_77 : ix_tabP[77]? = some mt_77 := rfl
theorem tb_78 : ix_tabP[78]? = some mt_78 := rfl
theorem tb_79 : ix_tabP[79]? = some mt_79 := rfl
theorem tb_80 : ix_tabP[80]? = some mt_80 := rfl
theorem tb_81 : ix_tabP[81]? = some mt_81 := rfl
theorem tb_82 : ix_tabP[82]? = some mt_82 := rfl
theorem tb_83 : ix_tabP[83]? = some mt_83 := rfl
theorem tb_84 : ix_tabP[84]? = some mt_84 := rfl
theorem tb_85 : ix_tabP[85]? = some mt_85 := rfl
theorem tb_86 : ix_tabP[86]? = some mt_86 := rfl
theorem tb_87 : ix_tabP[87]? = some mt_87 := rfl
theorem tb_88 : ix_tabP[88]? = some mt_88 := rfl
theorem tb_89 : ix_tabP[89]? = some mt_89 := rfl
theorem tb_90 : ix_tabP[90]? = some mt_90 := rfl
theorem tb_91 : ix_tabP[91]? = some mt_91 := rfl
theorem tb_92 : ix_tabP[92]? = some mt_92 := rfl
theorem tb_93 : ix_tabP[93]? = some mt_93 := rfl
theorem tb_94 : ix_tabP[94]? = some mt_94 := rfl
theorem tb_95 : ix_tabP[95]? = some mt_95 := rfl
theorem tb_96 : ix_tabP[96]? = some mt_96 := rfl
theorem tb_97 : ix_tabP[97]? = some mt_97 := rfl
theorem tb_98 : ix_tabP[98]? = some mt_98 := rfl
theorem tb_99 : ix_tabP[99]? = some mt_99 := rfl
theorem tb_100 : ix_tabP[100]? = some mt_100 := rfl
theorem tb_101 : ix_tabP[101]? = some mt_101 := rfl
theorem tb_102 : ix_tabP[102]? = some mt_102 := rfl
theorem tb_103 : ix_tabP[103]? = some mt_103 := rfl
theorem tb_104 : ix_tabP[104]? = some mt_104 := rfl
theorem tb_105 : ix_tabP[105]? = some mt_105 := rfl
theorem tb_106 : ix_tabP[106]? = some mt_106 := rfl
theorem tb_107 : ix_tabP[107]? = some mt_107 := rfl
theorem tb_108 : ix_tabP[108]? = some mt_108 := rfl
theorem tb_109 : ix_tabP[109]? = some mt_109 := rfl
theorem tb_110 : ix_tabP[110]? = some mt_110 := rfl
theorem tb_111 : ix_tabP[111]? = some mt_111 := rfl
theorem tb_112 : ix_tabP[112]? = some mt_112 := rfl
theorem tb_113 : ix_tabP[113]? = some mt_113 := rfl
theorem tb_114 : ix_tabP[114]? = some mt_114 := rfl
theorem tb_115 : ix_tabP[115]? = some mt_115 := rfl
theorem tb_116 : ix_tabP[116]? = some mt_116 := rfl
theorem tb_117 : ix_tabP[117]? = some mt_117 := rfl
theorem tb_118 : ix_tabP[118]? = some mt_118 := rfl
theorem tb_119 : ix_tabP[119]? = some mt_119 := rfl
theorem tb_120 : ix_tabP[120]? = some mt_120 := rfl
theorem tb_121 : ix_tabP[121]? = some mt_121 := rfl
theorem tb_122 : ix_tabP[122]? = some mt_122 := rfl
theorem tb_123 : ix_tabP[123]? = some mt_123 := rfl
theorem tb_124 : ix_tabP[124]? = some mt_124 := rfl
theorem tb_125 : ix_tabP[125]? = some mt_125 := rfl
theorem tb_126 : ix_tabP[126]? = some mt_126 := rfl
theorem tb_127 : ix_tabP[127]? = some mt_127 := rfl
theorem tb_128 : ix_tabP[128]? = some mt_128 := rfl
theorem tb_129 : ix_tabP[129]? = some mt_129 := rfl
theorem tb_130 : ix_tabP[130]? = some mt_130 := rfl
theorem tb_131 : ix_tabP[131]? = some mt_131 := rfl
theorem tb_132 : ix_tabP[132]? = some mt_132 := rfl
theorem tb_133 : ix_tabP[133]? = some mt_133 := rfl
theorem tb_134 : ix_tabP[134]? = some mt_134 := rfl
theorem tb_135 : ix_tabP[135]? = some mt_135 := rfl
theorem tb_136 : ix_tabP[136]? = some mt_136 := rfl
theorem tb_137 : ix_tabP[137]? = some mt_137 := rfl
theorem tb_138 : ix_tabP[138]? = some mt_138 := rfl
theorem tb_139 : ix_tabP[139]? = some mt_139 := rfl
theorem tb_140 : ix_tabP[140]? = some mt_140 := rfl
theorem tb_141 : ix_tabP[141]? = some mt_141 := rfl
theorem tb_142 : ix_tabP[142]? = some mt_142 := rfl
theorem tb_143 : ix_tabP[143]? = some mt_143 := rfl
theorem tb_144 : ix_tabP[144]? = some mt_144 := rfl
theorem tb_145 : ix_tabP[145]? = some mt_145 := rfl
theorem tb_146 : ix_tabP[146]? = some mt_146 := rfl
theorem tb_147 : ix_tabP[147]? = some mt_147 := rfl
theorem tb_148 : ix_tabP[148]? = some mt_148 := rfl
theorem tb_149 : ix_tabP[149]? = some mt_149 := rfl
theorem tb_150 : ix_tabP[150]? = some mt_150 := rfl
theorem tb_151 : ix_tabP[151]? = some mt_151 := rfl
theorem tb_152 : ix_tabP[152]? = some mt_152 := rfl
theorem tb_153 : ix_tabP[153]? = some mt_153 := rfl
theorem tb_154 : ix_tabP[154]? = some mt_154 := rfl
theorem tb_155 : ix_tabP[155]? = some mt_155 := rfl
theorem tb_156 : ix_tabP[156]? = some mt_156 := rfl
theorem tb_157 : ix_tabP[157]? = some mt_157 := rfl
theorem tb_158 : ix_tabP[158]? = some mt_158 := rfl
theorem tb_159 : ix_tabP[159]? = some mt_159 := rfl
theorem tb_160 : ix_tabP[160]? = some mt_160 := rfl
theorem tb_161 : ix_tabP[161]? = some mt_161 := rfl
theorem tb_162 : ix_tabP[162]? = some mt_162 := rfl
theorem tb_163 : ix_tabP[163]? = some mt_163 := rfl
theorem tb_164 : ix_tabP[164]? = some mt_164 := rfl
theorem tb_165 : ix_tabP[165]? = some mt_165 := rfl
theorem tb_166 : ix_tabP[166]? = some mt_166 := rfl
theorem tb_167 : ix_tabP[167]? = some mt_167 := rfl
theorem tb_168 : ix_tabP[168]? = some mt_168 := rfl
theorem tb_169 : ix_tabP[169]? = some mt_169 := rfl
theorem tb_170 : ix_tabP[170]? = some mt_170 := rfl
theorem tb_171 : ix_tabP[171]? = some mt_171 := rfl
theorem tb_172 : ix_tabP[172]? = some mt_172 := rfl
theorem tb_173 : ix_tabP[173]? = some mt_173 := rfl
theorem tb_174 : ix_tabP[174]? = some mt_174 := rfl
theorem tb_175 : ix_tabP[175]? = some mt_175 := rfl
theorem tb_176 : ix_tabP[176]? = some mt_176 := rfl
theorem tb_177 : ix_tabP[177]? = some mt_177 := rfl
theorem tb_178 : ix_tabP[178]? = some mt_178 := rfl
theorem tb_179 : ix_tabP[179]? = some mt_179 := rfl
theorem tb_180 : ix_tabP[180]? = some mt_180 := rfl
theorem tb_181 : ix_tabP[181]? = some mt_181 := rfl
theorem tb_182 : ix_tabP[182]? = some mt_182 := rfl
theorem tb_183 : ix_tabP[183]? = some mt_183 := rfl
theorem tb_184 : ix_tabP[184]? = some mt_184 := rfl
theorem tb_185 : ix_tabP[185]? = some mt_185 := rfl
theorem tb_186 : ix_tabP[186]? = some mt_186 := rfl
theorem tb_187 : ix_tabP[187]? = some mt_187 := rfl
theorem tb_188 : ix_tabP[188]? = some mt_188 := rfl
theorem tb_189 : ix_tabP[189]? = some mt_189 := rfl
theorem tb_190 : ix_tabP[190]? = some mt_190 := rfl
theorem tb_191 : ix_tabP[191]? = some mt_191 := rfl
theorem tb_192 : ix_tabP[192]? = some mt_192 := rfl
theorem tb_193 : ix_tabP[193]? = some mt_193 := rfl
theorem tb_194 : ix_tabP[194]? = some mt_194 := rfl
theorem tb_195 : ix_tabP[195]? = some mt_195 := rfl
theorem tb_196 : ix_tabP[196]? = some mt_196 := rfl
theorem tb_197 : ix_tabP[197]? = some mt_197 := rfl
theorem tb_198 : ix_tabP[198]? = some mt_198 := rfl
theorem tb_199 : ix_tabP[199]? = some mt_199 := rfl
theorem tb_200 : ix_tabP[200]? = some mt_200 := rfl
theorem tb_201 : ix_tabP[201]? = some mt_201 := rfl
theorem tb_202 : ix_tabP[202]? = some mt_202 := rfl
theorem tb_203 : ix_tabP[203]? = some mt_203 := rfl
theorem tb_204 : ix_tabP[204]? = some mt_204 := rfl
theorem tb_205 : ix_tabP[205]? = some mt_205 := rfl
theorem tb_206 : ix_tabP[206]? = some mt_206 := rfl
theorem tb_207 : ix_tabP[207]? = some mt_207 := rfl
theorem tb_208 : ix_tabP[208]? = some mt_208 := rfl
theorem tb_209 : ix_tabP[209]? = some mt_209 := rfl
theorem tb_210 : ix_tabP[210]? = some mt_210 := rfl
theorem tb_211 : ix_tabP[211]? = some mt_211 := rfl
theorem tb_212 : ix_tabP[212]? = some mt_212 := rfl
theorem tb_213 : ix_tabP[213]? = some mt_213 := rfl
theorem tb_214 : ix_tabP[214]? = some mt_214 := rfl
theorem tb_215 : ix_tabP[215]? = some mt_215 := rfl
theorem tb_216 : ix_tabP[216]? = some mt_216 := rfl
theorem tb_217 : ix_tabP[217]? = some mt_217 := rfl
theorem tb_218 : ix_tabP[218]? = some mt_218 := rfl
theorem tb_219 : ix_tabP[219]? = some mt_219 := rfl
theorem tb_220 : ix_tabP[220]? = some mt_220 := rfl
theorem tb_221 : ix_tabP[221]? = some mt_221 := rfl
theorem tb_222 : ix_tabP[222]? = some mt_222 := rfl
theorem tb_223 : ix_tabP[223]? = some mt_223 := rfl
theorem tb_224 : ix_tabP[224]? = some mt_224 := rfl
theorem tb_225 : ix_tabP[225]? = some mt_225 := rfl
theorem tb_226 : ix_tabP[226]? = some mt_226 := rfl
theorem tb_227 : ix_tabP[227]? = some mt_227 := rfl
theorem tb_228 : ix_tabP[228]? = some mt_228 := rfl
theorem tb_229 : ix_tabP[229]? = some mt_229 := rfl
theorem tb_230 : ix_tabP[230]? = some mt_230 := rfl
set_option maxRecDepth 100000 in
theorem tb_231 : ix_tabP[231]? = some mt_231 := rfl
set_option maxRecDepth 100000 in
theorem tb_232 : ix_tabP[232]? = some mt_232 := rfl
set_option maxRecDepth 100000 in
theorem tb_233 : ix_tabP[233]? = some mt_233 := rfl
set_option maxRecDepth 100000 in
theorem tb_234 : ix_tabP[234]? = some mt_234 := rfl
set_option maxRecDepth 100000 in
theorem tb_235 : ix_tabP[235]? = some mt_235 := rfl
set_option maxRecDepth 100000 in
theorem tb_236 : ix_tabP[236]? = some mt_236 := rfl
set_option maxRecDepth 100000 in
theorem tb_237 : ix_tabP[237]? = some mt_237 := rfl
set_option maxRecDepth 100000 in
theorem tb_238 : ix_tabP[238]? = some mt_238 := rfl
set_option maxRecDepth 100000 in
theorem tb_239 : ix_tabP[239]? = some mt_239 := rfl
set_option maxRecDepth 100000 in
theorem tb_240 : ix_tabP[240]? = some mt_240 := rfl
set_option maxRecDepth 100000 in
theorem tb_241 : ix_tabP[241]? = some mt_241 := rfl
set_option maxRecDepth 100000 in
theorem tb_242 : ix_tabP[242]? = some mt_242 := rfl
set_option maxRecDepth 100000 in
theorem tb_243 : ix_tabP[243]? = some mt_243 := rfl
set_option maxRecDepth 100000 in
theorem tb_244 : ix_tabP[244]? = some mt_244 := rfl
set_option maxRecDepth 100000 in
theorem tb_245 : ix_tabP[245]? = some mt_245 := rfl
set_option maxRecDepth 100000 in
theorem tb_246 : ix_tabP[246]? = some mt_246 := rfl
set_option maxRecDepth 100000 in
theorem tb_247 : ix_tabP[247]? = some mt_247 := rfl
set_option maxRecDepth 100000 in
theorem tb_248 : ix_tabP[248]? = some mt_248 := rfl
set_option maxRecDepth 100000 in
theorem tb_249 : ix_tabP[249]? = some mt_249 := rfl
set_option maxRecDepth 100000 in
theorem tb_250 : ix_tabP[250]? = some mt_250 := rfl
set_option maxRecDepth 100000 in
theorem tb_251 : ix_tabP[251]? = some mt_251 := rfl
set_option maxRecDepth 100000 in
theorem tb_252 : ix_tabP[252]? = some mt_252 := rfl
set_option maxRecDepth 100000 in
theorem tb_253 : ix_tabP[253]? = some mt_253 := rfl
set_option maxRecDepth 100000 in
theorem tb_254 : ix_tabP[254]? = some mt_254 := rfl
set_option maxRecDepth 100000 in
theorem tb_255 : ix_tabP[255]? = some mt_255 := rfl
set_option maxRecDepth 100000 in
theorem tb_256 : ix_tabP[256]? = some mt_256 := rfl
set_option maxRecDepth 100000 in
theorem tb_257 : ix_tabP[257]? = some mt_257 := rfl
set_option maxRecDepth 100000 in
theorem tb_258 : ix_tabP[258]? = some mt_258 := rfl
set_option maxRecDepth 100000 in
theorem tb_259 : ix_tabP[259]? = some mt_259 := rfl
set_option maxRecDepth 100000 in
theorem tb_900 : ix_tabP[900]? = none := rfl
set_option maxRecDepth 100000 in
theorem tb_901 : ix_tabP[901]? = none := rfl
