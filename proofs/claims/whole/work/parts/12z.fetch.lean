theorem fx_0 : kc_157[0]? = some (.aload 0) := rfl
theorem fx_1 : kc_157[1]? = some (.monitorexit) := rfl
theorem fx_2 : kc_157[2]? = some (.aload 0) := rfl
theorem fx_3 : kc_157[3]? = some (.sipush 110) := rfl
theorem fx_4 : kc_157[4]? = some (.newarray .int) := rfl
theorem fx_5 : kc_157[5]? = some (.putstatic 2818) := rfl
theorem fx_6 : kc_157[6]? = some (.aload 0) := rfl
theorem fx_7 : kc_157[7]? = some (.sipush 660) := rfl
theorem fx_8 : kc_157[8]? = some (.newarray .int) := rfl
theorem fx_9 : kc_157[9]? = some (.putstatic 2820) := rfl
theorem fx_10 : kc_157[10]? = some (.aload 0) := rfl
theorem fx_11 : kc_157[11]? = some (.sipush 110) := rfl
theorem fx_12 : kc_157[12]? = some (.newarray .int) := rfl
theorem fx_13 : kc_157[13]? = some (.putstatic 2824) := rfl
theorem fx_14 : kc_157[14]? = some (.aload 0) := rfl
theorem fx_15 : kc_157[15]? = some (.sipush 14) := rfl
theorem fx_16 : kc_157[16]? = some (.newarray .int) := rfl
theorem fx_17 : kc_157[17]? = some (.putstatic 2834) := rfl
theorem fx_18 : kc_157[18]? = some (.aload 0) := rfl
theorem fx_19 : kc_157[19]? = some (.sipush 10) := rfl
theorem fx_20 : kc_157[20]? = some (.newarray .int) := rfl
theorem fx_21 : kc_157[21]? = some (.putstatic 2836) := rfl
theorem fx_22 : kc_157[22]? = some (.aload 0) := rfl
theorem fx_23 : kc_157[23]? = some (.sipush 12) := rfl
theorem fx_24 : kc_157[24]? = some (.newarray .int) := rfl
theorem fx_25 : kc_157[25]? = some (.putstatic 2838) := rfl
theorem fx_26 : kc_157[26]? = some (.aload 0) := rfl
theorem fx_27 : kc_157[27]? = some (.sipush 600) := rfl
theorem fx_28 : kc_157[28]? = some (.newarray .int) := rfl
theorem fx_29 : kc_157[29]? = some (.putstatic 2840) := rfl
theorem fx_30 : kc_157[30]? = some (.aload 0) := rfl
theorem fx_31 : kc_157[31]? = some (.sipush 400) := rfl
theorem fx_32 : kc_157[32]? = some (.newarray .int) := rfl
theorem fx_33 : kc_157[33]? = some (.putstatic 2842) := rfl
theorem fx_34 : kc_157[34]? = some (.aload 0) := rfl
theorem fx_35 : kc_157[35]? = some (.sipush 138) := rfl
theorem fx_36 : kc_157[36]? = some (.newarray .int) := rfl
theorem fx_37 : kc_157[37]? = some (.dup) := rfl
theorem fx_38 : kc_157[38]? = some (.sipush 0) := rfl
theorem fx_39 : kc_157[39]? = some (.sipush 32) := rfl
theorem fx_40 : kc_157[40]? = some (.iastore) := rfl
theorem fx_41 : kc_157[41]? = some (.dup) := rfl
theorem fx_42 : kc_157[42]? = some (.sipush 1) := rfl
theorem fx_43 : kc_157[43]? = some (.sipush 119) := rfl
theorem fx_44 : kc_157[44]? = some (.iastore) := rfl
theorem fx_45 : kc_157[45]? = some (.dup) := rfl
theorem fx_46 : kc_157[46]? = some (.sipush 2) := rfl
theorem fx_47 : kc_157[47]? = some (.sipush 114) := rfl
theorem fx_48 : kc_157[48]? = some (.iastore) := rfl
theorem fx_49 : kc_157[49]? = some (.dup) := rfl
theorem fx_50 : kc_157[50]? = some (.sipush 3) := rfl
theorem fx_51 : kc_157[51]? = some (.sipush 105) := rfl
theorem fx_52 : kc_157[52]? = some (.iastore) := rfl
theorem fx_53 : kc_157[53]? = some (.dup) := rfl
theorem fx_54 : kc_157[54]? = some (.sipush 4) := rfl
theorem fx_55 : kc_157[55]? = some (.sipush 116) := rfl
theorem fx_56 : kc_157[56]? = some (.iastore) := rfl
theorem fx_57 : kc_157[57]? = some (.dup) := rfl
theorem fx_58 : kc_157[58]? = some (.sipush 5) := rfl
theorem fx_59 : kc_157[59]? = some (.sipush 101) := rfl
theorem fx_60 : kc_157[60]? = some (.iastore) := rfl
theorem fx_61 : kc_157[61]? = some (.dup) := rfl
theorem fx_62 : kc_157[62]? = some (.sipush 6) := rfl
theorem fx_63 : kc_157[63]? = some (.sipush 115) := rfl
theorem fx_64 : kc_157[64]? = some (.iastore) := rfl
theorem fx_65 : kc_157[65]? = some (.dup) := rfl
theorem fx_66 : kc_157[66]? = some (.sipush 7) := rfl
theorem fx_67 : kc_157[67]? = some (.sipush 32) := rfl
theorem fx_68 : kc_157[68]? = some (.iastore) := rfl
theorem fx_69 : kc_157[69]? = some (.dup) := rfl
theorem fx_70 : kc_157[70]? = some (.sipush 8) := rfl
theorem fx_71 : kc_157[71]? = some (.sipush 98) := rfl
theorem fx_72 : kc_157[72]? = some (.iastore) := rfl
theorem fx_73 : kc_157[73]? = some (.dup) := rfl
theorem fx_74 : kc_157[74]? = some (.sipush 9) := rfl
theorem fx_75 : kc_157[75]? = some (.sipush 108) := rfl
theorem fx_76 : kc_157[76]? = some (.iastore) := rfl
theorem fx_77 : kc_157[77]? = some (.dup) := rfl
theorem fx_78 : kc_157[78]? = some (.sipush 10) := rfl
theorem fx_79 : kc_157[79]? = some (.sipush 111) := rfl
theorem fx_80 : kc_157[80]? = some (.iastore) := rfl
theorem fx_81 : kc_157[81]? = some (.dup) := rfl
theorem fx_82 : kc_157[82]? = some (.sipush 11) := rfl
theorem fx_83 : kc_157[83]? = some (.sipush 116) := rfl
theorem fx_84 : kc_157[84]? = some (.iastore) := rfl
theorem fx_85 : kc_157[85]? = some (.dup) := rfl
theorem fx_86 : kc_157[86]? = some (.sipush 12) := rfl
theorem fx_87 : kc_157[87]? = some (.sipush 115) := rfl
theorem fx_88 : kc_157[88]? = some (.iastore) := rfl
theorem fx_89 : kc_157[89]? = some (.dup) := rfl
theorem fx_90 : kc_157[90]? = some (.sipush 13) := rfl
theorem fx_91 : kc_157[91]? = some (.sipush 32) := rfl
theorem fx_92 : kc_157[92]? = some (.iastore) := rfl
theorem fx_93 : kc_157[93]? = some (.dup) := rfl
theorem fx_94 : kc_157[94]? = some (.sipush 14) := rfl
theorem fx_95 : kc_157[95]? = some (.sipush 108) := rfl
theorem fx_96 : kc_157[96]? = some (.iastore) := rfl
theorem fx_97 : kc_157[97]? = some (.dup) := rfl
theorem fx_98 : kc_157[98]? = some (.sipush 15) := rfl
theorem fx_99 : kc_157[99]? = some (.sipush 105) := rfl
theorem fx_100 : kc_157[100]? = some (.iastore) := rfl
theorem fx_101 : kc_157[101]? = some (.dup) := rfl
theorem fx_102 : kc_157[102]? = some (.sipush 16) := rfl
theorem fx_103 : kc_157[103]? = some (.sipush 102) := rfl
theorem fx_104 : kc_157[104]? = some (.iastore) := rfl
theorem fx_105 : kc_157[105]? = some (.dup) := rfl
theorem fx_106 : kc_157[106]? = some (.sipush 17) := rfl
theorem fx_107 : kc_157[107]? = some (.sipush 116) := rfl
theorem fx_108 : kc_157[108]? = some (.iastore) := rfl
theorem fx_109 : kc_157[109]? = some (.dup) := rfl
theorem fx_110 : kc_157[110]? = some (.sipush 18) := rfl
theorem fx_111 : kc_157[111]? = some (.sipush 115) := rfl
theorem fx_112 : kc_157[112]? = some (.iastore) := rfl
theorem fx_113 : kc_157[113]? = some (.dup) := rfl
theorem fx_114 : kc_157[114]? = some (.sipush 19) := rfl
theorem fx_115 : kc_157[115]? = some (.sipush 32) := rfl
theorem fx_116 : kc_157[116]? = some (.iastore) := rfl
theorem fx_117 : kc_157[117]? = some (.dup) := rfl
theorem fx_118 : kc_157[118]? = some (.sipush 20) := rfl
theorem fx_119 : kc_157[119]? = some (.sipush 119) := rfl
theorem fx_120 : kc_157[120]? = some (.iastore) := rfl
theorem fx_121 : kc_157[121]? = some (.dup) := rfl
theorem fx_122 : kc_157[122]? = some (.sipush 21) := rfl
theorem fx_123 : kc_157[123]? = some (.sipush 104) := rfl
theorem fx_124 : kc_157[124]? = some (.iastore) := rfl
theorem fx_125 : kc_157[125]? = some (.dup) := rfl
theorem fx_126 : kc_157[126]? = some (.sipush 22) := rfl
theorem fx_127 : kc_157[127]? = some (.sipush 101) := rfl
theorem fx_128 : kc_157[128]? = some (.iastore) := rfl
theorem fx_129 : kc_157[129]? = some (.dup) := rfl
theorem fx_130 : kc_157[130]? = some (.sipush 23) := rfl
theorem fx_131 : kc_157[131]? = some (.sipush 110) := rfl
theorem fx_132 : kc_157[132]? = some (.iastore) := rfl
theorem fx_133 : kc_157[133]? = some (.dup) := rfl
theorem fx_134 : kc_157[134]? = some (.sipush 24) := rfl
theorem fx_135 : kc_157[135]? = some (.sipush 32) := rfl
theorem fx_136 : kc_157[136]? = some (.iastore) := rfl
theorem fx_137 : kc_157[137]? = some (.dup) := rfl
theorem fx_138 : kc_157[138]? = some (.sipush 25) := rfl
theorem fx_139 : kc_157[139]? = some (.sipush 111) := rfl
theorem fx_140 : kc_157[140]? = some (.iastore) := rfl
theorem fx_141 : kc_157[141]? = some (.dup) := rfl
theorem fx_142 : kc_157[142]? = some (.sipush 26) := rfl
theorem fx_143 : kc_157[143]? = some (.sipush 114) := rfl
theorem fx_144 : kc_157[144]? = some (.iastore) := rfl
theorem fx_145 : kc_157[145]? = some (.dup) := rfl
theorem fx_146 : kc_157[146]? = some (.sipush 27) := rfl
theorem fx_147 : kc_157[147]? = some (.sipush 32) := rfl
theorem fx_148 : kc_157[148]? = some (.iastore) := rfl
theorem fx_149 : kc_157[149]? = some (.dup) := rfl
theorem fx_150 : kc_157[150]? = some (.sipush 28) := rfl
theorem fx_151 : kc_157[151]? = some (.sipush 97) := rfl
theorem fx_152 : kc_157[152]? = some (.iastore) := rfl
theorem fx_153 : kc_157[153]? = some (.dup) := rfl
theorem fx_154 : kc_157[154]? = some (.sipush 29) := rfl
theorem fx_155 : kc_157[155]? = some (.sipush 110) := rfl
theorem fx_156 : kc_157[156]? = some (.iastore) := rfl
theorem fx_157 : kc_157[157]? = some (.dup) := rfl
theorem fx_158 : kc_157[158]? = some (.sipush 30) := rfl
theorem fx_159 : kc_157[159]? = some (.sipush 100) := rfl
theorem fx_160 : kc_157[160]? = some (.iastore) := rfl
theorem fx_161 : kc_157[161]? = some (.dup) := rfl
theorem fx_162 : kc_157[162]? = some (.sipush 31) := rfl
theorem fx_163 : kc_157[163]? = some (.sipush 32) := rfl
theorem fx_164 : kc_157[164]? = some (.iastore) := rfl
theorem fx_165 : kc_157[165]? = some (.dup) := rfl
theorem fx_166 : kc_157[166]? = some (.sipush 32) := rfl
theorem fx_167 : kc_157[167]? = some (.sipush 110) := rfl
theorem fx_168 : kc_157[168]? = some (.iastore) := rfl
theorem fx_169 : kc_157[169]? = some (.dup) := rfl
theorem fx_170 : kc_157[170]? = some (.sipush 33) := rfl
theorem fx_171 : kc_157[171]? = some (.sipush 111) := rfl
theorem fx_172 : kc_157[172]? = some (.iastore) := rfl
theorem fx_173 : kc_157[173]? = some (.dup) := rfl
theorem fx_174 : kc_157[174]? = some (.sipush 34) := rfl
theorem fx_175 : kc_157[175]? = some (.sipush 116) := rfl
theorem fx_176 : kc_157[176]? = some (.iastore) := rfl
theorem fx_177 : kc_157[177]? = some (.dup) := rfl
theorem fx_178 : kc_157[178]? = some (.sipush 35) := rfl
theorem fx_179 : kc_157[179]? = some (.sipush 32) := rfl
theorem fx_180 : kc_157[180]? = some (.iastore) := rfl
theorem fx_181 : kc_157[181]? = some (.dup) := rfl
theorem fx_182 : kc_157[182]? = some (.sipush 36) := rfl
theorem fx_183 : kc_157[183]? = some (.sipush 104) := rfl
theorem fx_184 : kc_157[184]? = some (.iastore) := rfl
theorem fx_185 : kc_157[185]? = some (.dup) := rfl
theorem fx_186 : kc_157[186]? = some (.sipush 37) := rfl
theorem fx_187 : kc_157[187]? = some (.sipush 97) := rfl
theorem fx_188 : kc_157[188]? = some (.iastore) := rfl
theorem fx_189 : kc_157[189]? = some (.dup) := rfl
theorem fx_190 : kc_157[190]? = some (.sipush 38) := rfl
theorem fx_191 : kc_157[191]? = some (.sipush 110) := rfl
theorem fx_192 : kc_157[192]? = some (.iastore) := rfl
theorem fx_193 : kc_157[193]? = some (.dup) := rfl
theorem fx_194 : kc_157[194]? = some (.sipush 39) := rfl
theorem fx_195 : kc_157[195]? = some (.sipush 100) := rfl
theorem fx_196 : kc_157[196]? = some (.iastore) := rfl
theorem fx_197 : kc_157[197]? = some (.dup) := rfl
theorem fx_198 : kc_157[198]? = some (.sipush 40) := rfl
theorem fx_199 : kc_157[199]? = some (.sipush 32) := rfl
theorem fx_200 : kc_157[200]? = some (.iastore) := rfl
set_option maxRecDepth 20000 in
theorem fx_201 : kc_157[201]? = some (.dup) := rfl
set_option maxRecDepth 20000 in
theorem fx_202 : kc_157[202]? = some (.sipush 41) := rfl
set_option maxRecDepth 20000 in
theorem fx_203 : kc_157[203]? = some (.sipush 105) := rfl
set_option maxRecDepth 20000 in
theorem fx_204 : kc_157[204]? = some (.iastore) := rfl
set_option maxRecDepth 20000 in
theorem fx_205 : kc_157[205]? = some (.dup) := rfl
set_option maxRecDepth 20000 in
theorem fx_206 : kc_157[206]? = some (.sipush 42) := rfl
set_option maxRecDepth 20000 in
theorem fx_207 : kc_157[207]? = some (.sipush 110) := rfl
set_option maxRecDepth 20000 in
theorem fx_208 : kc_157[208]? = some (.iastore) := rfl
set_option maxRecDepth 20000 in
theorem fx_209 : kc_157[209]? = some (.dup) := rfl
set_option maxRecDepth 20000 in
theorem fx_210 : kc_157[210]? = some (.sipush 43) := rfl
set_option maxRecDepth 20000 in
theorem fx_211 : kc_157[211]? = some (.sipush 107) := rfl
set_option maxRecDepth 20000 in
theorem fx_212 : kc_157[212]? = some (.iastore) := rfl
set_option maxRecDepth 20000 in
theorem fx_213 : kc_157[213]? = some (.dup) := rfl
set_option maxRecDepth 20000 in
theorem fx_214 : kc_157[214]? = some (.sipush 44) := rfl
set_option maxRecDepth 20000 in
theorem fx_215 : kc_157[215]? = some (.sipush 32) := rfl
set_option maxRecDepth 20000 in
theorem fx_216 : kc_157[216]? = some (.iastore) := rfl
set_option maxRecDepth 20000 in
theorem fx_217 : kc_157[217]? = some (.dup) := rfl
set_option maxRecDepth 20000 in
theorem fx_218 : kc_157[218]? = some (.sipush 45) := rfl
set_option maxRecDepth 20000 in
theorem fx_219 : kc_157[219]? = some (.sipush 119) := rfl
set_option maxRecDepth 20000 in
theorem fx_220 : kc_157[220]? = some (.iastore) := rfl
set_option maxRecDepth 20000 in
theorem fx_221 : kc_157[221]? = some (.dup) := rfl
set_option maxRecDepth 20000 in
theorem fx_222 : kc_157[222]? = some (.sipush 46) := rfl
set_option maxRecDepth 20000 in
theorem fx_223 : kc_157[223]? = some (.sipush 111) := rfl
set_option maxRecDepth 20000 in
theorem fx_224 : kc_157[224]? = some (.iastore) := rfl
set_option maxRecDepth 20000 in
theorem fx_225 : kc_157[225]? = some (.dup) := rfl
set_option maxRecDepth 20000 in
theorem fx_226 : kc_157[226]? = some (.sipush 47) := rfl
set_option maxRecDepth 20000 in
theorem fx_227 : kc_157[227]? = some (.sipush 114) := rfl
set_option maxRecDepth 20000 in
theorem fx_228 : kc_157[228]? = some (.iastore) := rfl
set_option maxRecDepth 20000 in
theorem fx_229 : kc_157[229]? = some (.dup) := rfl
set_option maxRecDepth 20000 in
theorem fx_230 : kc_157[230]? = some (.sipush 48) := rfl
set_option maxRecDepth 20000 in
theorem fx_231 : kc_157[231]? = some (.sipush 110) := rfl
set_option maxRecDepth 20000 in
theorem fx_232 : kc_157[232]? = some (.iastore) := rfl
set_option maxRecDepth 20000 in
theorem fx_233 : kc_157[233]? = some (.dup) := rfl
set_option maxRecDepth 20000 in
theorem fx_234 : kc_157[234]? = some (.sipush 49) := rfl
set_option maxRecDepth 20000 in
theorem fx_235 : kc_157[235]? = some (.sipush 32) := rfl
set_option maxRecDepth 20000 in
theorem fx_236 : kc_157[236]? = some (.iastore) := rfl
set_option maxRecDepth 20000 in
theorem fx_237 : kc_157[237]? = some (.dup) := rfl
set_option maxRecDepth 20000 in
theorem fx_238 : kc_157[238]? = some (.sipush 50) := rfl
set_option maxRecDepth 20000 in
theorem fx_239 : kc_157[239]? = some (.sipush 119) := rfl
set_option maxRecDepth 20000 in
theorem fx_240 : kc_157[240]? = some (.iastore) := rfl
set_option maxRecDepth 20000 in
theorem fx_241 : kc_157[241]? = some (.dup) := rfl
set_option maxRecDepth 20000 in
theorem fx_242 : kc_157[242]? = some (.sipush 51) := rfl
set_option maxRecDepth 20000 in
theorem fx_243 : kc_157[243]? = some (.sipush 105) := rfl
set_option maxRecDepth 20000 in
theorem fx_244 : kc_157[244]? = some (.iastore) := rfl
set_option maxRecDepth 20000 in
theorem fx_245 : kc_157[245]? = some (.dup) := rfl
set_option maxRecDepth 20000 in
theorem fx_246 : kc_157[246]? = some (.sipush 52) := rfl
set_option maxRecDepth 20000 in
theorem fx_247 : kc_157[247]? = some (.sipush 108) := rfl
set_option maxRecDepth 20000 in
theorem fx_248 : kc_157[248]? = some (.iastore) := rfl
set_option maxRecDepth 20000 in
theorem fx_249 : kc_157[249]? = some (.dup) := rfl
set_option maxRecDepth 20000 in
theorem fx_250 : kc_157[250]? = some (.sipush 53) := rfl
set_option maxRecDepth 20000 in
theorem fx_251 : kc_157[251]? = some (.sipush 100) := rfl
set_option maxRecDepth 20000 in
theorem fx_252 : kc_157[252]? = some (.iastore) := rfl
set_option maxRecDepth 20000 in
theorem fx_253 : kc_157[253]? = some (.dup) := rfl
set_option maxRecDepth 20000 in
theorem fx_254 : kc_157[254]? = some (.sipush 54) := rfl
set_option maxRecDepth 20000 in
theorem fx_255 : kc_157[255]? = some (.sipush 32) := rfl
set_option maxRecDepth 20000 in
theorem fx_256 : kc_157[256]? = some (.iastore) := rfl
set_option maxRecDepth 20000 in
theorem fx_257 : kc_157[257]? = some (.dup) := rfl
set_option maxRecDepth 20000 in
theorem fx_258 : kc_157[258]? = some (.sipush 55) := rfl
set_option maxRecDepth 20000 in
theorem fx_259 : kc_157[259]? = some (.sipush 102) := rfl
set_option maxRecDepth 20000 in
theorem fx_260 : kc_157[260]? = some (.iastore) := rfl
set_option maxRecDepth 20000 in
theorem fx_261 : kc_157[261]? = some (.dup) := rfl
set_option maxRecDepth 20000 in
theorem fx_262 : kc_157[262]? = some (.sipush 56) := rfl
set_option maxRecDepth 20000 in
theorem fx_263 : kc_157[263]? = some (.sipush 105) := rfl
set_option maxRecDepth 20000 in
theorem fx_264 : kc_157[264]? = some (.iastore) := rfl
set_option maxRecDepth 20000 in
theorem fx_265 : kc_157[265]? = some (.dup) := rfl
set_option maxRecDepth 20000 in
theorem fx_266 : kc_157[266]? = some (.sipush 57) := rfl
set_option maxRecDepth 20000 in
theorem fx_267 : kc_157[267]? = some (.sipush 110) := rfl
set_option maxRecDepth 20000 in
theorem fx_268 : kc_157[268]? = some (.iastore) := rfl
set_option maxRecDepth 20000 in
theorem fx_269 : kc_157[269]? = some (.dup) := rfl
set_option maxRecDepth 20000 in
theorem fx_270 : kc_157[270]? = some (.sipush 58) := rfl
set_option maxRecDepth 20000 in
theorem fx_271 : kc_157[271]? = some (.sipush 101) := rfl
set_option maxRecDepth 20000 in
theorem fx_272 : kc_157[272]? = some (.iastore) := rfl
set_option maxRecDepth 20000 in
theorem fx_273 : kc_157[273]? = some (.dup) := rfl
set_option maxRecDepth 20000 in
theorem fx_274 : kc_157[274]? = some (.sipush 59) := rfl
set_option maxRecDepth 20000 in
theorem fx_275 : kc_157[275]? = some (.sipush 32) := rfl
set_option maxRecDepth 20000 in
theorem fx_276 : kc_157[276]? = some (.iastore) := rfl
set_option maxRecDepth 20000 in
theorem fx_277 : kc_157[277]? = some (.dup) := rfl
set_option maxRecDepth 20000 in
theorem fx_278 : kc_157[278]? = some (.sipush 60) := rfl
set_option maxRecDepth 20000 in
theorem fx_279 : kc_157[279]? = some (.sipush 108) := rfl
set_option maxRecDepth 20000 in
theorem fx_280 : kc_157[280]? = some (.iastore) := rfl
set_option maxRecDepth 20000 in
theorem fx_281 : kc_157[281]? = some (.dup) := rfl
set_option maxRecDepth 20000 in
theorem fx_282 : kc_157[282]? = some (.sipush 61) := rfl
set_option maxRecDepth 20000 in
theorem fx_283 : kc_157[283]? = some (.sipush 101) := rfl
set_option maxRecDepth 20000 in
theorem fx_284 : kc_157[284]? = some (.iastore) := rfl
set_option maxRecDepth 20000 in
theorem fx_285 : kc_157[285]? = some (.dup) := rfl
set_option maxRecDepth 20000 in
theorem fx_286 : kc_157[286]? = some (.sipush 62) := rfl
set_option maxRecDepth 20000 in
theorem fx_287 : kc_157[287]? = some (.sipush 102) := rfl
set_option maxRecDepth 20000 in
theorem fx_288 : kc_157[288]? = some (.iastore) := rfl
set_option maxRecDepth 20000 in
theorem fx_289 : kc_157[289]? = some (.dup) := rfl
set_option maxRecDepth 20000 in
theorem fx_290 : kc_157[290]? = some (.sipush 63) := rfl
set_option maxRecDepth 20000 in
theorem fx_291 : kc_157[291]? = some (.sipush 116) := rfl
set_option maxRecDepth 20000 in
theorem fx_292 : kc_157[292]? = some (.iastore) := rfl
set_option maxRecDepth 20000 in
theorem fx_293 : kc_157[293]? = some (.dup) := rfl
set_option maxRecDepth 20000 in
theorem fx_294 : kc_157[294]? = some (.sipush 64) := rfl
set_option maxRecDepth 20000 in
theorem fx_295 : kc_157[295]? = some (.sipush 32) := rfl
set_option maxRecDepth 20000 in
theorem fx_296 : kc_157[296]? = some (.iastore) := rfl
set_option maxRecDepth 20000 in
theorem fx_297 : kc_157[297]? = some (.dup) := rfl
set_option maxRecDepth 20000 in
theorem fx_298 : kc_157[298]? = some (.sipush 65) := rfl
set_option maxRecDepth 20000 in
theorem fx_299 : kc_157[299]? = some (.sipush 115) := rfl
set_option maxRecDepth 20000 in
theorem fx_300 : kc_157[300]? = some (.iastore) := rfl
set_option maxRecDepth 20000 in
theorem fx_301 : kc_157[301]? = some (.dup) := rfl
set_option maxRecDepth 20000 in
theorem fx_302 : kc_157[302]? = some (.sipush 66) := rfl
set_option maxRecDepth 20000 in
theorem fx_303 : kc_157[303]? = some (.sipush 105) := rfl
set_option maxRecDepth 20000 in
theorem fx_304 : kc_157[304]? = some (.iastore) := rfl
set_option maxRecDepth 20000 in
theorem fx_305 : kc_157[305]? = some (.dup) := rfl
set_option maxRecDepth 20000 in
theorem fx_306 : kc_157[306]? = some (.sipush 67) := rfl
set_option maxRecDepth 20000 in
theorem fx_307 : kc_157[307]? = some (.sipush 103) := rfl
set_option maxRecDepth 20000 in
theorem fx_308 : kc_157[308]? = some (.iastore) := rfl
set_option maxRecDepth 20000 in
theorem fx_309 : kc_157[309]? = some (.dup) := rfl
set_option maxRecDepth 20000 in
theorem fx_310 : kc_157[310]? = some (.sipush 68) := rfl
set_option maxRecDepth 20000 in
theorem fx_311 : kc_157[311]? = some (.sipush 110) := rfl
set_option maxRecDepth 20000 in
theorem fx_312 : kc_157[312]? = some (.iastore) := rfl
set_option maxRecDepth 20000 in
theorem fx_313 : kc_157[313]? = some (.dup) := rfl
set_option maxRecDepth 20000 in
theorem fx_314 : kc_157[314]? = some (.sipush 69) := rfl
set_option maxRecDepth 20000 in
theorem fx_315 : kc_157[315]? = some (.sipush 101) := rfl
set_option maxRecDepth 20000 in
theorem fx_316 : kc_157[316]? = some (.iastore) := rfl
set_option maxRecDepth 20000 in
theorem fx_317 : kc_157[317]? = some (.dup) := rfl
set_option maxRecDepth 20000 in
theorem fx_318 : kc_157[318]? = some (.sipush 70) := rfl
set_option maxRecDepth 20000 in
theorem fx_319 : kc_157[319]? = some (.sipush 100) := rfl
set_option maxRecDepth 20000 in
theorem fx_320 : kc_157[320]? = some (.iastore) := rfl
set_option maxRecDepth 20000 in
theorem fx_321 : kc_157[321]? = some (.dup) := rfl
set_option maxRecDepth 20000 in
theorem fx_322 : kc_157[322]? = some (.sipush 71) := rfl
set_option maxRecDepth 20000 in
theorem fx_323 : kc_157[323]? = some (.sipush 32) := rfl
set_option maxRecDepth 20000 in
theorem fx_324 : kc_157[324]? = some (.iastore) := rfl
set_option maxRecDepth 20000 in
theorem fx_325 : kc_157[325]? = some (.dup) := rfl
set_option maxRecDepth 20000 in
theorem fx_326 : kc_157[326]? = some (.sipush 72) := rfl
set_option maxRecDepth 20000 in
theorem fx_327 : kc_157[327]? = some (.sipush 108) := rfl
set_option maxRecDepth 20000 in
theorem fx_328 : kc_157[328]? = some (.iastore) := rfl
set_option maxRecDepth 20000 in
theorem fx_329 : kc_157[329]? = some (.dup) := rfl
set_option maxRecDepth 20000 in
theorem fx_330 : kc_157[330]? = some (.sipush 73) := rfl
set_option maxRecDepth 20000 in
theorem fx_331 : kc_157[331]? = some (.sipush 105) := rfl
set_option maxRecDepth 20000 in
theorem fx_332 : kc_157[332]? = some (.iastore) := rfl
set_option maxRecDepth 20000 in
theorem fx_333 : kc_157[333]? = some (.dup) := rfl
set_option maxRecDepth 20000 in
theorem fx_334 : kc_157[334]? = some (.sipush 74) := rfl
set_option maxRecDepth 20000 in
theorem fx_335 : kc_157[335]? = some (.sipush 102) := rfl
set_option maxRecDepth 20000 in
theorem fx_336 : kc_157[336]? = some (.iastore) := rfl
set_option maxRecDepth 20000 in
theorem fx_337 : kc_157[337]? = some (.dup) := rfl
set_option maxRecDepth 20000 in
theorem fx_338 : kc_157[338]? = some (.sipush 75) := rfl
set_option maxRecDepth 20000 in
theorem fx_339 : kc_157[339]? = some (.sipush 116) := rfl
set_option maxRecDepth 20000 in
theorem fx_340 : kc_157[340]? = some (.iastore) := rfl
set_option maxRecDepth 20000 in
theorem fx_341 : kc_157[341]? = some (.dup) := rfl
set_option maxRecDepth 20000 in
theorem fx_342 : kc_157[342]? = some (.sipush 76) := rfl
set_option maxRecDepth 20000 in
theorem fx_343 : kc_157[343]? = some (.sipush 101) := rfl
set_option maxRecDepth 20000 in
theorem fx_344 : kc_157[344]? = some (.iastore) := rfl
set_option maxRecDepth 20000 in
theorem fx_345 : kc_157[345]? = some (.dup) := rfl
set_option maxRecDepth 20000 in
theorem fx_346 : kc_157[346]? = some (.sipush 77) := rfl
set_option maxRecDepth 20000 in
theorem fx_347 : kc_157[347]? = some (.sipush 100) := rfl
set_option maxRecDepth 20000 in
theorem fx_348 : kc_157[348]? = some (.iastore) := rfl
set_option maxRecDepth 20000 in
theorem fx_349 : kc_157[349]? = some (.dup) := rfl
set_option maxRecDepth 20000 in
theorem fx_350 : kc_157[350]? = some (.sipush 78) := rfl
set_option maxRecDepth 20000 in
theorem fx_351 : kc_157[351]? = some (.sipush 32) := rfl
set_option maxRecDepth 20000 in
theorem fx_352 : kc_157[352]? = some (.iastore) := rfl
set_option maxRecDepth 20000 in
theorem fx_353 : kc_157[353]? = some (.dup) := rfl
set_option maxRecDepth 20000 in
theorem fx_354 : kc_157[354]? = some (.sipush 79) := rfl
set_option maxRecDepth 20000 in
theorem fx_355 : kc_157[355]? = some (.sipush 98) := rfl
set_option maxRecDepth 20000 in
theorem fx_356 : kc_157[356]? = some (.iastore) := rfl
set_option maxRecDepth 20000 in
theorem fx_357 : kc_157[357]? = some (.dup) := rfl
set_option maxRecDepth 20000 in
theorem fx_358 : kc_157[358]? = some (.sipush 80) := rfl
set_option maxRecDepth 20000 in
theorem fx_359 : kc_157[359]? = some (.sipush 105) := rfl
set_option maxRecDepth 20000 in
theorem fx_360 : kc_157[360]? = some (.iastore) := rfl
set_option maxRecDepth 20000 in
theorem fx_361 : kc_157[361]? = some (.dup) := rfl
set_option maxRecDepth 20000 in
theorem fx_362 : kc_157[362]? = some (.sipush 81) := rfl
set_option maxRecDepth 20000 in
theorem fx_363 : kc_157[363]? = some (.sipush 114) := rfl
set_option maxRecDepth 20000 in
theorem fx_364 : kc_157[364]? = some (.iastore) := rfl
set_option maxRecDepth 20000 in
theorem fx_365 : kc_157[365]? = some (.dup) := rfl
set_option maxRecDepth 20000 in
theorem fx_366 : kc_157[366]? = some (.sipush 82) := rfl
set_option maxRecDepth 20000 in
theorem fx_367 : kc_157[367]? = some (.sipush 100) := rfl
set_option maxRecDepth 20000 in
theorem fx_368 : kc_157[368]? = some (.iastore) := rfl
set_option maxRecDepth 20000 in
theorem fx_369 : kc_157[369]? = some (.dup) := rfl
set_option maxRecDepth 20000 in
theorem fx_370 : kc_157[370]? = some (.sipush 83) := rfl
set_option maxRecDepth 20000 in
theorem fx_371 : kc_157[371]? = some (.sipush 32) := rfl
set_option maxRecDepth 20000 in
theorem fx_372 : kc_157[372]? = some (.iastore) := rfl
set_option maxRecDepth 20000 in
theorem fx_373 : kc_157[373]? = some (.dup) := rfl
set_option maxRecDepth 20000 in
theorem fx_374 : kc_157[374]? = some (.sipush 84) := rfl
set_option maxRecDepth 20000 in
theorem fx_375 : kc_157[375]? = some (.sipush 100) := rfl
set_option maxRecDepth 20000 in
theorem fx_376 : kc_157[376]? = some (.iastore) := rfl
set_option maxRecDepth 20000 in
theorem fx_377 : kc_157[377]? = some (.dup) := rfl
set_option maxRecDepth 20000 in
theorem fx_378 : kc_157[378]? = some (.sipush 85) := rfl
set_option maxRecDepth 20000 in
theorem fx_379 : kc_157[379]? = some (.sipush 101) := rfl
set_option maxRecDepth 20000 in
theorem fx_380 : kc_157[380]? = some (.iastore) := rfl
set_option maxRecDepth 20000 in
theorem fx_381 : kc_157[381]? = some (.dup) := rfl
set_option maxRecDepth 20000 in
theorem fx_382 : kc_157[382]? = some (.sipush 86) := rfl
set_option maxRecDepth 20000 in
theorem fx_383 : kc_157[383]? = some (.sipush 101) := rfl
set_option maxRecDepth 20000 in
theorem fx_384 : kc_157[384]? = some (.iastore) := rfl
set_option maxRecDepth 20000 in
theorem fx_385 : kc_157[385]? = some (.dup) := rfl
set_option maxRecDepth 20000 in
theorem fx_386 : kc_157[386]? = some (.sipush 87) := rfl
set_option maxRecDepth 20000 in
theorem fx_387 : kc_157[387]? = some (.sipush 100) := rfl
set_option maxRecDepth 20000 in
theorem fx_388 : kc_157[388]? = some (.iastore) := rfl
set_option maxRecDepth 20000 in
theorem fx_389 : kc_157[389]? = some (.dup) := rfl
set_option maxRecDepth 20000 in
theorem fx_390 : kc_157[390]? = some (.sipush 88) := rfl
set_option maxRecDepth 20000 in
theorem fx_391 : kc_157[391]? = some (.sipush 32) := rfl
set_option maxRecDepth 20000 in
theorem fx_392 : kc_157[392]? = some (.iastore) := rfl
set_option maxRecDepth 20000 in
theorem fx_393 : kc_157[393]? = some (.dup) := rfl
set_option maxRecDepth 20000 in
theorem fx_394 : kc_157[394]? = some (.sipush 89) := rfl
set_option maxRecDepth 20000 in
theorem fx_395 : kc_157[395]? = some (.sipush 104) := rfl
set_option maxRecDepth 20000 in
theorem fx_396 : kc_157[396]? = some (.iastore) := rfl
set_option maxRecDepth 20000 in
theorem fx_397 : kc_157[397]? = some (.dup) := rfl
set_option maxRecDepth 20000 in
theorem fx_398 : kc_157[398]? = some (.sipush 90) := rfl
set_option maxRecDepth 20000 in
theorem fx_399 : kc_157[399]? = some (.sipush 111) := rfl
set_option maxRecDepth 20000 in
theorem fx_400 : kc_157[400]? = some (.iastore) := rfl
set_option maxRecDepth 20000 in
theorem fx_401 : kc_157[401]? = some (.dup) := rfl
set_option maxRecDepth 20000 in
theorem fx_402 : kc_157[402]? = some (.sipush 91) := rfl
set_option maxRecDepth 20000 in
theorem fx_403 : kc_157[403]? = some (.sipush 117) := rfl
set_option maxRecDepth 20000 in
theorem fx_404 : kc_157[404]? = some (.iastore) := rfl
set_option maxRecDepth 20000 in
theorem fx_405 : kc_157[405]? = some (.dup) := rfl
set_option maxRecDepth 20000 in
theorem fx_406 : kc_157[406]? = some (.sipush 92) := rfl
set_option maxRecDepth 20000 in
theorem fx_407 : kc_157[407]? = some (.sipush 114) := rfl
set_option maxRecDepth 20000 in
theorem fx_408 : kc_157[408]? = some (.iastore) := rfl
set_option maxRecDepth 20000 in
theorem fx_409 : kc_157[409]? = some (.dup) := rfl
set_option maxRecDepth 20000 in
theorem fx_410 : kc_157[410]? = some (.sipush 93) := rfl
set_option maxRecDepth 20000 in
theorem fx_411 : kc_157[411]? = some (.sipush 32) := rfl
set_option maxRecDepth 20000 in
theorem fx_412 : kc_157[412]? = some (.iastore) := rfl
set_option maxRecDepth 20000 in
theorem fx_413 : kc_157[413]? = some (.dup) := rfl
set_option maxRecDepth 20000 in
theorem fx_414 : kc_157[414]? = some (.sipush 94) := rfl
set_option maxRecDepth 20000 in
theorem fx_415 : kc_157[415]? = some (.sipush 97) := rfl
set_option maxRecDepth 20000 in
theorem fx_416 : kc_157[416]? = some (.iastore) := rfl
set_option maxRecDepth 20000 in
theorem fx_417 : kc_157[417]? = some (.dup) := rfl
set_option maxRecDepth 20000 in
theorem fx_418 : kc_157[418]? = some (.sipush 95) := rfl
set_option maxRecDepth 20000 in
theorem fx_419 : kc_157[419]? = some (.sipush 116) := rfl
set_option maxRecDepth 20000 in
theorem fx_420 : kc_157[420]? = some (.iastore) := rfl
set_option maxRecDepth 20000 in
theorem fx_421 : kc_157[421]? = some (.dup) := rfl
set_option maxRecDepth 20000 in
theorem fx_422 : kc_157[422]? = some (.sipush 96) := rfl
set_option maxRecDepth 20000 in
theorem fx_423 : kc_157[423]? = some (.sipush 32) := rfl
set_option maxRecDepth 20000 in
theorem fx_424 : kc_157[424]? = some (.iastore) := rfl
set_option maxRecDepth 20000 in
theorem fx_425 : kc_157[425]? = some (.dup) := rfl
set_option maxRecDepth 20000 in
theorem fx_426 : kc_157[426]? = some (.sipush 97) := rfl
set_option maxRecDepth 20000 in
theorem fx_427 : kc_157[427]? = some (.sipush 99) := rfl
set_option maxRecDepth 20000 in
theorem fx_428 : kc_157[428]? = some (.iastore) := rfl
set_option maxRecDepth 20000 in
theorem fx_429 : kc_157[429]? = some (.dup) := rfl
set_option maxRecDepth 20000 in
theorem fx_430 : kc_157[430]? = some (.sipush 98) := rfl
set_option maxRecDepth 20000 in
theorem fx_431 : kc_157[431]? = some (.sipush 108) := rfl
set_option maxRecDepth 20000 in
theorem fx_432 : kc_157[432]? = some (.iastore) := rfl
set_option maxRecDepth 20000 in
theorem fx_433 : kc_157[433]? = some (.dup) := rfl
set_option maxRecDepth 20000 in
theorem fx_434 : kc_157[434]? = some (.sipush 99) := rfl
set_option maxRecDepth 20000 in
theorem fx_435 : kc_157[435]? = some (.sipush 101) := rfl
set_option maxRecDepth 20000 in
theorem fx_436 : kc_157[436]? = some (.iastore) := rfl
set_option maxRecDepth 20000 in
theorem fx_437 : kc_157[437]? = some (.dup) := rfl
set_option maxRecDepth 20000 in
theorem fx_438 : kc_157[438]? = some (.sipush 100) := rfl
set_option maxRecDepth 20000 in
theorem fx_439 : kc_157[439]? = some (.sipush 114) := rfl
set_option maxRecDepth 20000 in
theorem fx_440 : kc_157[440]? = some (.iastore) := rfl
set_option maxRecDepth 20000 in
theorem fx_441 : kc_157[441]? = some (.dup) := rfl
set_option maxRecDepth 20000 in
theorem fx_442 : kc_157[442]? = some (.sipush 101) := rfl
set_option maxRecDepth 20000 in
theorem fx_443 : kc_157[443]? = some (.sipush 107) := rfl
set_option maxRecDepth 20000 in
theorem fx_444 : kc_157[444]? = some (.iastore) := rfl
set_option maxRecDepth 20000 in
theorem fx_445 : kc_157[445]? = some (.dup) := rfl
set_option maxRecDepth 20000 in
theorem fx_446 : kc_157[446]? = some (.sipush 102) := rfl
set_option maxRecDepth 20000 in
theorem fx_447 : kc_157[447]? = some (.sipush 32) := rfl
set_option maxRecDepth 20000 in
theorem fx_448 : kc_157[448]? = some (.iastore) := rfl
set_option maxRecDepth 20000 in
theorem fx_449 : kc_157[449]? = some (.dup) := rfl
set_option maxRecDepth 20000 in
theorem fx_450 : kc_157[450]? = some (.sipush 103) := rfl
set_option maxRecDepth 20000 in
theorem fx_451 : kc_157[451]? = some (.sipush 116) := rfl
set_option maxRecDepth 20000 in
theorem fx_452 : kc_157[452]? = some (.iastore) := rfl
set_option maxRecDepth 20000 in
theorem fx_453 : kc_157[453]? = some (.dup) := rfl
set_option maxRecDepth 20000 in
theorem fx_454 : kc_157[454]? = some (.sipush 104) := rfl
set_option maxRecDepth 20000 in
theorem fx_455 : kc_157[455]? = some (.sipush 97) := rfl
set_option maxRecDepth 20000 in
theorem fx_456 : kc_157[456]? = some (.iastore) := rfl
set_option maxRecDepth 20000 in
theorem fx_457 : kc_157[457]? = some (.dup) := rfl
set_option maxRecDepth 20000 in
theorem fx_458 : kc_157[458]? = some (.sipush 105) := rfl
set_option maxRecDepth 20000 in
theorem fx_459 : kc_157[459]? = some (.sipush 107) := rfl
set_option maxRecDepth 20000 in
theorem fx_460 : kc_157[460]? = some (.iastore) := rfl
set_option maxRecDepth 20000 in
theorem fx_461 : kc_157[461]? = some (.dup) := rfl
set_option maxRecDepth 20000 in
theorem fx_462 : kc_157[462]? = some (.sipush 106) := rfl
set_option maxRecDepth 20000 in
theorem fx_463 : kc_157[463]? = some (.sipush 101) := rfl
set_option maxRecDepth 20000 in
theorem fx_464 : kc_157[464]? = some (.iastore) := rfl
set_option maxRecDepth 20000 in
theorem fx_465 : kc_157[465]? = some (.dup) := rfl
set_option maxRecDepth 20000 in
theorem fx_466 : kc_157[466]? = some (.sipush 107) := rfl
set_option maxRecDepth 20000 in
theorem fx_467 : kc_157[467]? = some (.sipush 32) := rfl
set_option maxRecDepth 20000 in
theorem fx_468 : kc_157[468]? = some (.iastore) := rfl
set_option maxRecDepth 20000 in
theorem fx_469 : kc_157[469]? = some (.dup) := rfl
set_option maxRecDepth 20000 in
theorem fx_470 : kc_157[470]? = some (.sipush 108) := rfl
set_option maxRecDepth 20000 in
theorem fx_471 : kc_157[471]? = some (.sipush 100) := rfl
set_option maxRecDepth 20000 in
theorem fx_472 : kc_157[472]? = some (.iastore) := rfl
set_option maxRecDepth 20000 in
theorem fx_473 : kc_157[473]? = some (.dup) := rfl
set_option maxRecDepth 20000 in
theorem fx_474 : kc_157[474]? = some (.sipush 109) := rfl
set_option maxRecDepth 20000 in
theorem fx_475 : kc_157[475]? = some (.sipush 114) := rfl
set_option maxRecDepth 20000 in
theorem fx_476 : kc_157[476]? = some (.iastore) := rfl
set_option maxRecDepth 20000 in
theorem fx_477 : kc_157[477]? = some (.dup) := rfl
set_option maxRecDepth 20000 in
theorem fx_478 : kc_157[478]? = some (.sipush 110) := rfl
set_option maxRecDepth 20000 in
theorem fx_479 : kc_157[479]? = some (.sipush 111) := rfl
set_option maxRecDepth 20000 in
theorem fx_480 : kc_157[480]? = some (.iastore) := rfl
set_option maxRecDepth 20000 in
theorem fx_481 : kc_157[481]? = some (.dup) := rfl
set_option maxRecDepth 20000 in
theorem fx_482 : kc_157[482]? = some (.sipush 111) := rfl
set_option maxRecDepth 20000 in
theorem fx_483 : kc_157[483]? = some (.sipush 112) := rfl
set_option maxRecDepth 20000 in
theorem fx_484 : kc_157[484]? = some (.iastore) := rfl
set_option maxRecDepth 20000 in
theorem fx_485 : kc_157[485]? = some (.dup) := rfl
set_option maxRecDepth 20000 in
theorem fx_486 : kc_157[486]? = some (.sipush 112) := rfl
set_option maxRecDepth 20000 in
theorem fx_487 : kc_157[487]? = some (.sipush 32) := rfl
set_option maxRecDepth 20000 in
theorem fx_488 : kc_157[488]? = some (.iastore) := rfl
set_option maxRecDepth 20000 in
theorem fx_489 : kc_157[489]? = some (.dup) := rfl
set_option maxRecDepth 20000 in
theorem fx_490 : kc_157[490]? = some (.sipush 113) := rfl
set_option maxRecDepth 20000 in
theorem fx_491 : kc_157[491]? = some (.sipush 119) := rfl
set_option maxRecDepth 20000 in
theorem fx_492 : kc_157[492]? = some (.iastore) := rfl
set_option maxRecDepth 20000 in
theorem fx_493 : kc_157[493]? = some (.dup) := rfl
set_option maxRecDepth 20000 in
theorem fx_494 : kc_157[494]? = some (.sipush 114) := rfl
set_option maxRecDepth 20000 in
theorem fx_495 : kc_157[495]? = some (.sipush 114) := rfl
set_option maxRecDepth 20000 in
theorem fx_496 : kc_157[496]? = some (.iastore) := rfl
set_option maxRecDepth 20000 in
theorem fx_497 : kc_157[497]? = some (.dup) := rfl
set_option maxRecDepth 20000 in
theorem fx_498 : kc_157[498]? = some (.sipush 115) := rfl
set_option maxRecDepth 20000 in
theorem fx_499 : kc_157[499]? = some (.sipush 105) := rfl
set_option maxRecDepth 20000 in
theorem fx_500 : kc_157[500]? = some (.iastore) := rfl
set_option maxRecDepth 20000 in
theorem fx_501 : kc_157[501]? = some (.dup) := rfl
set_option maxRecDepth 20000 in
theorem fx_502 : kc_157[502]? = some (.sipush 116) := rfl
set_option maxRecDepth 20000 in
theorem fx_503 : kc_157[503]? = some (.sipush 116) := rfl
set_option maxRecDepth 20000 in
theorem fx_504 : kc_157[504]? = some (.iastore) := rfl
set_option maxRecDepth 20000 in
theorem fx_505 : kc_157[505]? = some (.dup) := rfl
set_option maxRecDepth 20000 in
theorem fx_506 : kc_157[506]? = some (.sipush 117) := rfl
set_option maxRecDepth 20000 in
theorem fx_507 : kc_157[507]? = some (.sipush 101) := rfl
set_option maxRecDepth 20000 in
theorem fx_508 : kc_157[508]? = some (.iastore) := rfl
set_option maxRecDepth 20000 in
theorem fx_509 : kc_157[509]? = some (.dup) := rfl
set_option maxRecDepth 20000 in
theorem fx_510 : kc_157[510]? = some (.sipush 118) := rfl
set_option maxRecDepth 20000 in
theorem fx_511 : kc_157[511]? = some (.sipush 32) := rfl
set_option maxRecDepth 20000 in
theorem fx_512 : kc_157[512]? = some (.iastore) := rfl
set_option maxRecDepth 20000 in
theorem fx_513 : kc_157[513]? = some (.dup) := rfl
set_option maxRecDepth 20000 in
theorem fx_514 : kc_157[514]? = some (.sipush 119) := rfl
set_option maxRecDepth 20000 in
theorem fx_515 : kc_157[515]? = some (.sipush 114) := rfl
set_option maxRecDepth 20000 in
theorem fx_516 : kc_157[516]? = some (.iastore) := rfl
set_option maxRecDepth 20000 in
theorem fx_517 : kc_157[517]? = some (.dup) := rfl
set_option maxRecDepth 20000 in
theorem fx_518 : kc_157[518]? = some (.sipush 120) := rfl
set_option maxRecDepth 20000 in
theorem fx_519 : kc_157[519]? = some (.sipush 101) := rfl
set_option maxRecDepth 20000 in
theorem fx_520 : kc_157[520]? = some (.iastore) := rfl
set_option maxRecDepth 20000 in
theorem fx_521 : kc_157[521]? = some (.dup) := rfl
set_option maxRecDepth 20000 in
theorem fx_522 : kc_157[522]? = some (.sipush 121) := rfl
set_option maxRecDepth 20000 in
theorem fx_523 : kc_157[523]? = some (.sipush 115) := rfl
set_option maxRecDepth 20000 in
theorem fx_524 : kc_157[524]? = some (.iastore) := rfl
set_option maxRecDepth 20000 in
theorem fx_525 : kc_157[525]? = some (.dup) := rfl
set_option maxRecDepth 20000 in
theorem fx_526 : kc_157[526]? = some (.sipush 122) := rfl
set_option maxRecDepth 20000 in
theorem fx_527 : kc_157[527]? = some (.sipush 116) := rfl
set_option maxRecDepth 20000 in
theorem fx_528 : kc_157[528]? = some (.iastore) := rfl
set_option maxRecDepth 20000 in
theorem fx_529 : kc_157[529]? = some (.dup) := rfl
set_option maxRecDepth 20000 in
theorem fx_530 : kc_157[530]? = some (.sipush 123) := rfl
set_option maxRecDepth 20000 in
theorem fx_531 : kc_157[531]? = some (.sipush 32) := rfl
set_option maxRecDepth 20000 in
theorem fx_532 : kc_157[532]? = some (.iastore) := rfl
set_option maxRecDepth 20000 in
theorem fx_533 : kc_157[533]? = some (.dup) := rfl
set_option maxRecDepth 20000 in
theorem fx_534 : kc_157[534]? = some (.sipush 124) := rfl
set_option maxRecDepth 20000 in
theorem fx_535 : kc_157[535]? = some (.sipush 100) := rfl
set_option maxRecDepth 20000 in
theorem fx_536 : kc_157[536]? = some (.iastore) := rfl
set_option maxRecDepth 20000 in
theorem fx_537 : kc_157[537]? = some (.dup) := rfl
set_option maxRecDepth 20000 in
theorem fx_538 : kc_157[538]? = some (.sipush 125) := rfl
set_option maxRecDepth 20000 in
theorem fx_539 : kc_157[539]? = some (.sipush 105) := rfl
set_option maxRecDepth 20000 in
theorem fx_540 : kc_157[540]? = some (.iastore) := rfl
set_option maxRecDepth 20000 in
theorem fx_541 : kc_157[541]? = some (.dup) := rfl
set_option maxRecDepth 20000 in
theorem fx_542 : kc_157[542]? = some (.sipush 126) := rfl
set_option maxRecDepth 20000 in
theorem fx_543 : kc_157[543]? = some (.sipush 112) := rfl
set_option maxRecDepth 20000 in
theorem fx_544 : kc_157[544]? = some (.iastore) := rfl
set_option maxRecDepth 20000 in
theorem fx_545 : kc_157[545]? = some (.dup) := rfl
set_option maxRecDepth 20000 in
theorem fx_546 : kc_157[546]? = some (.sipush 127) := rfl
set_option maxRecDepth 20000 in
theorem fx_547 : kc_157[547]? = some (.sipush 32) := rfl
set_option maxRecDepth 20000 in
theorem fx_548 : kc_157[548]? = some (.iastore) := rfl
set_option maxRecDepth 20000 in
theorem fx_549 : kc_157[549]? = some (.dup) := rfl
set_option maxRecDepth 20000 in
theorem fx_550 : kc_157[550]? = some (.sipush 128) := rfl
set_option maxRecDepth 20000 in
theorem fx_551 : kc_157[551]? = some (.sipush 99) := rfl
set_option maxRecDepth 20000 in
theorem fx_552 : kc_157[552]? = some (.iastore) := rfl
set_option maxRecDepth 20000 in
theorem fx_553 : kc_157[553]? = some (.dup) := rfl
set_option maxRecDepth 20000 in
theorem fx_554 : kc_157[554]? = some (.sipush 129) := rfl
set_option maxRecDepth 20000 in
theorem fx_555 : kc_157[555]? = some (.sipush 117) := rfl
set_option maxRecDepth 20000 in
theorem fx_556 : kc_157[556]? = some (.iastore) := rfl
set_option maxRecDepth 20000 in
theorem fx_557 : kc_157[557]? = some (.dup) := rfl
set_option maxRecDepth 20000 in
theorem fx_558 : kc_157[558]? = some (.sipush 130) := rfl
set_option maxRecDepth 20000 in
theorem fx_559 : kc_157[559]? = some (.sipush 116) := rfl
set_option maxRecDepth 20000 in
theorem fx_560 : kc_157[560]? = some (.iastore) := rfl
set_option maxRecDepth 20000 in
theorem fx_561 : kc_157[561]? = some (.dup) := rfl
set_option maxRecDepth 20000 in
theorem fx_562 : kc_157[562]? = some (.sipush 131) := rfl
set_option maxRecDepth 20000 in
theorem fx_563 : kc_157[563]? = some (.sipush 32) := rfl
set_option maxRecDepth 20000 in
theorem fx_564 : kc_157[564]? = some (.iastore) := rfl
set_option maxRecDepth 20000 in
theorem fx_565 : kc_157[565]? = some (.dup) := rfl
set_option maxRecDepth 20000 in
theorem fx_566 : kc_157[566]? = some (.sipush 132) := rfl
set_option maxRecDepth 20000 in
theorem fx_567 : kc_157[567]? = some (.sipush 97) := rfl
set_option maxRecDepth 20000 in
theorem fx_568 : kc_157[568]? = some (.iastore) := rfl
set_option maxRecDepth 20000 in
theorem fx_569 : kc_157[569]? = some (.dup) := rfl
set_option maxRecDepth 20000 in
theorem fx_570 : kc_157[570]? = some (.sipush 133) := rfl
set_option maxRecDepth 20000 in
theorem fx_571 : kc_157[571]? = some (.sipush 102) := rfl
set_option maxRecDepth 20000 in
theorem fx_572 : kc_157[572]? = some (.iastore) := rfl
set_option maxRecDepth 20000 in
theorem fx_573 : kc_157[573]? = some (.dup) := rfl
set_option maxRecDepth 20000 in
theorem fx_574 : kc_157[574]? = some (.sipush 134) := rfl
set_option maxRecDepth 20000 in
theorem fx_575 : kc_157[575]? = some (.sipush 116) := rfl
set_option maxRecDepth 20000 in
theorem fx_576 : kc_157[576]? = some (.iastore) := rfl
set_option maxRecDepth 20000 in
theorem fx_577 : kc_157[577]? = some (.dup) := rfl
set_option maxRecDepth 20000 in
theorem fx_578 : kc_157[578]? = some (.sipush 135) := rfl
set_option maxRecDepth 20000 in
theorem fx_579 : kc_157[579]? = some (.sipush 101) := rfl
set_option maxRecDepth 20000 in
theorem fx_580 : kc_157[580]? = some (.iastore) := rfl
set_option maxRecDepth 20000 in
theorem fx_581 : kc_157[581]? = some (.dup) := rfl
set_option maxRecDepth 20000 in
theorem fx_582 : kc_157[582]? = some (.sipush 136) := rfl
set_option maxRecDepth 20000 in
theorem fx_583 : kc_157[583]? = some (.sipush 114) := rfl
set_option maxRecDepth 20000 in
theorem fx_584 : kc_157[584]? = some (.iastore) := rfl
set_option maxRecDepth 20000 in
theorem fx_585 : kc_157[585]? = some (.dup) := rfl
set_option maxRecDepth 20000 in
theorem fx_586 : kc_157[586]? = some (.sipush 137) := rfl
set_option maxRecDepth 20000 in
theorem fx_587 : kc_157[587]? = some (.sipush 32) := rfl
set_option maxRecDepth 20000 in
theorem fx_588 : kc_157[588]? = some (.iastore) := rfl
set_option maxRecDepth 20000 in
theorem fx_589 : kc_157[589]? = some (.putstatic 2854) := rfl
set_option maxRecDepth 20000 in
theorem fx_590 : kc_157[590]? = some (.aload 0) := rfl
set_option maxRecDepth 20000 in
theorem fx_591 : kc_157[591]? = some (.sipush 2) := rfl
set_option maxRecDepth 20000 in
theorem fx_592 : kc_157[592]? = some (.newarray .int) := rfl
set_option maxRecDepth 20000 in
theorem fx_593 : kc_157[593]? = some (.putstatic 2856) := rfl
set_option maxRecDepth 20000 in
theorem fx_594 : kc_157[594]? = some (.aload 0) := rfl
set_option maxRecDepth 20000 in
theorem fx_595 : kc_157[595]? = some (.sipush 48) := rfl
set_option maxRecDepth 20000 in
theorem fx_596 : kc_157[596]? = some (.newarray .int) := rfl
set_option maxRecDepth 20000 in
theorem fx_597 : kc_157[597]? = some (.putstatic 2858) := rfl
set_option maxRecDepth 20000 in
theorem fx_598 : kc_157[598]? = some (.aload 0) := rfl
set_option maxRecDepth 20000 in
theorem fx_599 : kc_157[599]? = some (.sipush 48) := rfl
set_option maxRecDepth 20000 in
theorem fx_600 : kc_157[600]? = some (.newarray .int) := rfl
set_option maxRecDepth 20000 in
theorem fx_601 : kc_157[601]? = some (.putstatic 2860) := rfl
set_option maxRecDepth 20000 in
theorem fx_602 : kc_157[602]? = some (.aload 0) := rfl
set_option maxRecDepth 20000 in
theorem fx_603 : kc_157[603]? = some (.sipush 48) := rfl
set_option maxRecDepth 20000 in
theorem fx_604 : kc_157[604]? = some (.newarray .int) := rfl
set_option maxRecDepth 20000 in
theorem fx_605 : kc_157[605]? = some (.putstatic 2862) := rfl
set_option maxRecDepth 20000 in
theorem fx_606 : kc_157[606]? = some (.aload 0) := rfl
set_option maxRecDepth 20000 in
theorem fx_607 : kc_157[607]? = some (.sipush 48) := rfl
set_option maxRecDepth 20000 in
theorem fx_608 : kc_157[608]? = some (.newarray .int) := rfl
set_option maxRecDepth 20000 in
theorem fx_609 : kc_157[609]? = some (.putstatic 2864) := rfl
set_option maxRecDepth 20000 in
theorem fx_610 : kc_157[610]? = some (.aload 0) := rfl
set_option maxRecDepth 20000 in
theorem fx_611 : kc_157[611]? = some (.sipush 1200) := rfl
set_option maxRecDepth 20000 in
theorem fx_612 : kc_157[612]? = some (.newarray .int) := rfl
set_option maxRecDepth 20000 in
theorem fx_613 : kc_157[613]? = some (.putstatic 2866) := rfl
set_option maxRecDepth 20000 in
theorem fx_614 : kc_157[614]? = some (.aload 0) := rfl
set_option maxRecDepth 20000 in
theorem fx_615 : kc_157[615]? = some (.sipush 1200) := rfl
set_option maxRecDepth 20000 in
theorem fx_616 : kc_157[616]? = some (.newarray .int) := rfl
set_option maxRecDepth 20000 in
theorem fx_617 : kc_157[617]? = some (.putstatic 2868) := rfl
set_option maxRecDepth 20000 in
theorem fx_618 : kc_157[618]? = some (.aload 0) := rfl
set_option maxRecDepth 20000 in
theorem fx_619 : kc_157[619]? = some (.sipush 40) := rfl
set_option maxRecDepth 20000 in
theorem fx_620 : kc_157[620]? = some (.newarray .int) := rfl
set_option maxRecDepth 20000 in
theorem fx_621 : kc_157[621]? = some (.putstatic 2876) := rfl
set_option maxRecDepth 20000 in
theorem fx_622 : kc_157[622]? = some (.aload 0) := rfl
set_option maxRecDepth 20000 in
theorem fx_623 : kc_157[623]? = some (.sipush (-1)) := rfl
set_option maxRecDepth 20000 in
theorem fx_624 : kc_157[624]? = some (.putfield 2886) := rfl
set_option maxRecDepth 20000 in
theorem fx_625 : kc_157[625]? = some (.aload 0) := rfl
set_option maxRecDepth 20000 in
theorem fx_626 : kc_157[626]? = some (.sipush 128) := rfl
set_option maxRecDepth 20000 in
theorem fx_627 : kc_157[627]? = some (.newarray .int) := rfl
set_option maxRecDepth 20000 in
theorem fx_628 : kc_157[628]? = some (.putstatic 2890) := rfl
set_option maxRecDepth 20000 in
theorem fx_629 : kc_157[629]? = some (.aload 0) := rfl
set_option maxRecDepth 20000 in
theorem fx_630 : kc_157[630]? = some (.sipush 16) := rfl
set_option maxRecDepth 20000 in
theorem fx_631 : kc_157[631]? = some (.newarray .int) := rfl
set_option maxRecDepth 20000 in
theorem fx_632 : kc_157[632]? = some (.putstatic 2894) := rfl
set_option maxRecDepth 20000 in
theorem fx_633 : kc_157[633]? = some (.aload 0) := rfl
set_option maxRecDepth 20000 in
theorem fx_634 : kc_157[634]? = some (.sipush 16) := rfl
set_option maxRecDepth 20000 in
theorem fx_635 : kc_157[635]? = some (.newarray .int) := rfl
set_option maxRecDepth 20000 in
theorem fx_636 : kc_157[636]? = some (.putstatic 2896) := rfl
set_option maxRecDepth 20000 in
theorem fx_637 : kc_157[637]? = some (.aload 0) := rfl
set_option maxRecDepth 20000 in
theorem fx_638 : kc_157[638]? = some (.sipush 24) := rfl
set_option maxRecDepth 20000 in
theorem fx_639 : kc_157[639]? = some (.newarray .int) := rfl
set_option maxRecDepth 20000 in
theorem fx_640 : kc_157[640]? = some (.putstatic 2900) := rfl
set_option maxRecDepth 20000 in
theorem fx_641 : kc_157[641]? = some (.aload 0) := rfl
set_option maxRecDepth 20000 in
theorem fx_642 : kc_157[642]? = some (.sipush 11) := rfl
set_option maxRecDepth 20000 in
theorem fx_643 : kc_157[643]? = some (.newarray .int) := rfl
set_option maxRecDepth 20000 in
theorem fx_644 : kc_157[644]? = some (.putstatic 2902) := rfl
set_option maxRecDepth 20000 in
theorem fx_645 : kc_157[645]? = some (.aload 0) := rfl
set_option maxRecDepth 20000 in
theorem fx_646 : kc_157[646]? = some (.sipush 420) := rfl
set_option maxRecDepth 20000 in
theorem fx_647 : kc_157[647]? = some (.newarray .int) := rfl
set_option maxRecDepth 20000 in
theorem fx_648 : kc_157[648]? = some (.putstatic 2904) := rfl
set_option maxRecDepth 20000 in
theorem fx_649 : kc_157[649]? = some (.aload 0) := rfl
set_option maxRecDepth 20000 in
theorem fx_650 : kc_157[650]? = some (.sipush 12) := rfl
set_option maxRecDepth 20000 in
theorem fx_651 : kc_157[651]? = some (.newarray .int) := rfl
set_option maxRecDepth 20000 in
theorem fx_652 : kc_157[652]? = some (.putstatic 2906) := rfl
set_option maxRecDepth 20000 in
theorem fx_653 : kc_157[653]? = some (.aload 0) := rfl
set_option maxRecDepth 20000 in
theorem fx_654 : kc_157[654]? = some (.sipush 144) := rfl
set_option maxRecDepth 20000 in
theorem fx_655 : kc_157[655]? = some (.newarray .int) := rfl
set_option maxRecDepth 20000 in
theorem fx_656 : kc_157[656]? = some (.putstatic 2908) := rfl
set_option maxRecDepth 20000 in
theorem fx_657 : kc_157[657]? = some (.aload 0) := rfl
set_option maxRecDepth 20000 in
theorem fx_658 : kc_157[658]? = some (.sipush 10) := rfl
set_option maxRecDepth 20000 in
theorem fx_659 : kc_157[659]? = some (.newarray .int) := rfl
set_option maxRecDepth 20000 in
theorem fx_660 : kc_157[660]? = some (.putstatic 2912) := rfl
set_option maxRecDepth 20000 in
theorem fx_661 : kc_157[661]? = some (.aload 0) := rfl
set_option maxRecDepth 20000 in
theorem fx_662 : kc_157[662]? = some (.sipush 11) := rfl
set_option maxRecDepth 20000 in
theorem fx_663 : kc_157[663]? = some (.newarray .int) := rfl
set_option maxRecDepth 20000 in
theorem fx_664 : kc_157[664]? = some (.putstatic 2914) := rfl
set_option maxRecDepth 20000 in
theorem fx_665 : kc_157[665]? = some (.aload 0) := rfl
set_option maxRecDepth 20000 in
theorem fx_666 : kc_157[666]? = some (.sipush 11) := rfl
set_option maxRecDepth 20000 in
theorem fx_667 : kc_157[667]? = some (.newarray .int) := rfl
set_option maxRecDepth 20000 in
theorem fx_668 : kc_157[668]? = some (.putstatic 2916) := rfl
set_option maxRecDepth 20000 in
theorem fx_669 : kc_157[669]? = some (.aload 0) := rfl
set_option maxRecDepth 20000 in
theorem fx_670 : kc_157[670]? = some (.sipush 4) := rfl
set_option maxRecDepth 20000 in
theorem fx_671 : kc_157[671]? = some (.newarray .int) := rfl
set_option maxRecDepth 20000 in
theorem fx_672 : kc_157[672]? = some (.putstatic 2920) := rfl
set_option maxRecDepth 20000 in
theorem fx_673 : kc_157[673]? = some (.aload 0) := rfl
set_option maxRecDepth 20000 in
theorem fx_674 : kc_157[674]? = some (.sipush 2001) := rfl
set_option maxRecDepth 20000 in
theorem fx_675 : kc_157[675]? = some (.newarray .int) := rfl
set_option maxRecDepth 20000 in
theorem fx_676 : kc_157[676]? = some (.putstatic 2922) := rfl
set_option maxRecDepth 20000 in
theorem fx_677 : kc_157[677]? = some (.aload 0) := rfl
set_option maxRecDepth 20000 in
theorem fx_678 : kc_157[678]? = some (.sipush 12) := rfl
set_option maxRecDepth 20000 in
theorem fx_679 : kc_157[679]? = some (.newarray .int) := rfl
set_option maxRecDepth 20000 in
theorem fx_680 : kc_157[680]? = some (.putstatic 2924) := rfl
set_option maxRecDepth 20000 in
theorem fx_681 : kc_157[681]? = some (.aload 0) := rfl
set_option maxRecDepth 20000 in
theorem fx_682 : kc_157[682]? = some (.sipush 3) := rfl
set_option maxRecDepth 20000 in
theorem fx_683 : kc_157[683]? = some (.newarray .int) := rfl
set_option maxRecDepth 20000 in
theorem fx_684 : kc_157[684]? = some (.putstatic 2926) := rfl
set_option maxRecDepth 20000 in
theorem fx_685 : kc_157[685]? = some (.aload 0) := rfl
set_option maxRecDepth 20000 in
theorem fx_686 : kc_157[686]? = some (.sipush 3) := rfl
set_option maxRecDepth 20000 in
theorem fx_687 : kc_157[687]? = some (.newarray .int) := rfl
set_option maxRecDepth 20000 in
theorem fx_688 : kc_157[688]? = some (.putstatic 2928) := rfl
set_option maxRecDepth 20000 in
theorem fx_689 : kc_157[689]? = some (.aload 0) := rfl
set_option maxRecDepth 20000 in
theorem fx_690 : kc_157[690]? = some (.sipush 9) := rfl
set_option maxRecDepth 20000 in
theorem fx_691 : kc_157[691]? = some (.newarray .int) := rfl
set_option maxRecDepth 20000 in
theorem fx_692 : kc_157[692]? = some (.putstatic 2936) := rfl
set_option maxRecDepth 20000 in
theorem fx_693 : kc_157[693]? = some (.aload 0) := rfl
set_option maxRecDepth 20000 in
theorem fx_694 : kc_157[694]? = some (.sipush 81) := rfl
set_option maxRecDepth 20000 in
theorem fx_695 : kc_157[695]? = some (.newarray .int) := rfl
set_option maxRecDepth 20000 in
theorem fx_696 : kc_157[696]? = some (.putstatic 2938) := rfl
set_option maxRecDepth 20000 in
theorem fx_697 : kc_157[697]? = some (.aload 0) := rfl
set_option maxRecDepth 20000 in
theorem fx_698 : kc_157[698]? = some (.sipush 12) := rfl
set_option maxRecDepth 20000 in
theorem fx_699 : kc_157[699]? = some (.newarray .int) := rfl
set_option maxRecDepth 20000 in
theorem fx_700 : kc_157[700]? = some (.putstatic 2942) := rfl
set_option maxRecDepth 20000 in
theorem fx_701 : kc_157[701]? = some (.aload 0) := rfl
set_option maxRecDepth 20000 in
theorem fx_702 : kc_157[702]? = some (.sipush 10) := rfl
set_option maxRecDepth 20000 in
theorem fx_703 : kc_157[703]? = some (.newarray .int) := rfl
set_option maxRecDepth 20000 in
theorem fx_704 : kc_157[704]? = some (.putstatic 2946) := rfl
set_option maxRecDepth 20000 in
theorem fx_705 : kc_157[705]? = some (.aload 0) := rfl
set_option maxRecDepth 20000 in
theorem fx_706 : kc_157[706]? = some (.sipush 8) := rfl
set_option maxRecDepth 20000 in
theorem fx_707 : kc_157[707]? = some (.newarray .int) := rfl
set_option maxRecDepth 20000 in
theorem fx_708 : kc_157[708]? = some (.putstatic 2950) := rfl
set_option maxRecDepth 20000 in
theorem fx_709 : kc_157[709]? = some (.aload 0) := rfl
set_option maxRecDepth 20000 in
theorem fx_710 : kc_157[710]? = some (.sipush 40) := rfl
set_option maxRecDepth 20000 in
theorem fx_711 : kc_157[711]? = some (.newarray .int) := rfl
set_option maxRecDepth 20000 in
theorem fx_712 : kc_157[712]? = some (.putstatic 2952) := rfl
set_option maxRecDepth 20000 in
theorem fx_713 : kc_157[713]? = some (.aload 0) := rfl
set_option maxRecDepth 20000 in
theorem fx_714 : kc_157[714]? = some (.sipush 6) := rfl
set_option maxRecDepth 20000 in
theorem fx_715 : kc_157[715]? = some (.newarray .int) := rfl
set_option maxRecDepth 20000 in
theorem fx_716 : kc_157[716]? = some (.putstatic 2956) := rfl
set_option maxRecDepth 20000 in
theorem fx_717 : kc_157[717]? = some (.aload 0) := rfl
set_option maxRecDepth 20000 in
theorem fx_718 : kc_157[718]? = some (.sipush 4096) := rfl
set_option maxRecDepth 20000 in
theorem fx_719 : kc_157[719]? = some (.newarray .int) := rfl
set_option maxRecDepth 20000 in
theorem fx_720 : kc_157[720]? = some (.putstatic 2958) := rfl
set_option maxRecDepth 20000 in
theorem fx_721 : kc_157[721]? = some (.aload 0) := rfl
set_option maxRecDepth 20000 in
theorem fx_722 : kc_157[722]? = some (.sipush 2200) := rfl
set_option maxRecDepth 20000 in
theorem fx_723 : kc_157[723]? = some (.newarray .int) := rfl
set_option maxRecDepth 20000 in
theorem fx_724 : kc_157[724]? = some (.putstatic 2966) := rfl
set_option maxRecDepth 20000 in
theorem fx_725 : kc_157[725]? = some (.return_) := rfl
