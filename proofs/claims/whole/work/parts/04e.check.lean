theorem kx_183_40 : ko_k "QuillDeskModel" (decide ("clerk" = "<init>")) 3 prog_13_method_28_code (kpl kr_183 prog_13_method_28_code.size) (kr_183.drop 40) (kc_183.drop 40) = true := by decide +kernel
theorem kk_183 : ko_k "QuillDeskModel" (decide ("clerk" = "<init>")) 3 prog_13_method_28_code (kpl kr_183 prog_13_method_28_code.size) kr_183 kc_183 = true := ko_k_0 (ko_k_cut 0 40 40 rfl kx_183_0 kx_183_40)
theorem kp_184 : ko_p prog_13_method_29_code.size kr_184 0 = true := by decide +kernel
theorem kx_184_0 : ko_k "QuillDeskModel" (decide ("deed" = "<init>")) 2 prog_13_method_29_code (kpl kr_184 prog_13_method_29_code.size) ((kr_184.drop 0).take 40) ((kc_184.drop 0).take 40) = true := by decide +kernel
theorem kx_184_40 : ko_k "QuillDeskModel" (decide ("deed" = "<init>")) 2 prog_13_method_29_code (kpl kr_184 prog_13_method_29_code.size) (kr_184.drop 40) (kc_184.drop 40) = true := by decide +kernel
theorem kk_184 : ko_k "QuillDeskModel" (decide ("deed" = "<init>")) 2 prog_13_method_29_code (kpl kr_184 prog_13_method_29_code.size) kr_184 kc_184 = true := ko_k_0 (ko_k_cut 0 40 40 rfl kx_184_0 kx_184_40)
theorem kp_185 : ko_p prog_13_method_30_code.size kr_185 0 = true := by decide +kernel
theorem kx_185_0 : ko_k "QuillDeskModel" (decide ("set" = "<init>")) 5 prog_13_method_30_code (kpl kr_185 prog_13_method_30_code.size) ((kr_185.drop 0).take 40) ((kc_185.drop 0).take 40) = true := by decide +kernel
theorem kx_185_40 : ko_k "QuillDeskModel" (decide ("set" = "<init>")) 5 prog_13_method_30_code (kpl kr_185 prog_13_method_30_code.size) (kr_185.drop 40) (kc_185.drop 40) = true := by decide +kernel
theorem kk_185 : ko_k "QuillDeskModel" (decide ("set" = "<init>")) 5 prog_13_method_30_code (kpl kr_185 prog_13_method_30_code.size) kr_185 kc_185 = true := ko_k_0 (ko_k_cut 0 40 40 rfl kx_185_0 kx_185_40)
theorem kp_186 : ko_p prog_13_method_31_code.size kr_186 0 = true := by decide +kernel
theorem kx_186_0 : ko_k "QuillDeskModel" (decide ("types" = "<init>")) 3 prog_13_method_31_code (kpl kr_186 prog_13_method_31_code.size) (kr_186.drop 0) (kc_186.drop 0) = true := by decide +kernel
theorem kk_186 : ko_k "QuillDeskModel" (decide ("types" = "<init>")) 3 prog_13_method_31_code (kpl kr_186 prog_13_method_31_code.size) kr_186 kc_186 = true := ko_k_0 kx_186_0
theorem kp_187 : ko_p prog_13_method_32_code.size kr_187 0 = true := by decide +kernel
theorem kx_187_0 : ko_k "QuillDeskModel" (decide ("feed" = "<init>")) 6 prog_13_method_32_code (kpl kr_187 prog_13_method_32_code.size) (kr_187.drop 0) (kc_187.drop 0) = true := by decide +kernel
theorem kk_187 : ko_k "QuillDeskModel" (decide ("feed" = "<init>")) 6 prog_13_method_32_code (kpl kr_187 prog_13_method_32_code.size) kr_187 kc_187 = true := ko_k_0 kx_187_0
theorem kp_188 : ko_p prog_13_method_33_code.size kr_188 0 = true := by decide +kernel
theorem kx_188_0 : ko_k "QuillDeskModel" (decide ("end" = "<init>")) 2 prog_13_method_33_code (kpl kr_188 prog_13_method_33_code.size) (kr_188.drop 0) (kc_188.drop 0) = true := by decide +kernel
theorem kk_188 : ko_k "QuillDeskModel" (decide ("end" = "<init>")) 2 prog_13_method_33_code (kpl kr_188 prog_13_method_33_code.size) kr_188 kc_188 = true := ko_k_0 kx_188_0
theorem kp_189 : ko_p prog_13_method_34_code.size kr_189 0 = true := by decide +kernel
theorem kx_189_0 : ko_k "QuillDeskModel" (decide ("raw" = "<init>")) 2 prog_13_method_34_code (kpl kr_189 prog_13_method_34_code.size) (kr_189.drop 0) (kc_189.drop 0) = true := by decide +kernel
theorem kk_189 : ko_k "QuillDeskModel" (decide ("raw" = "<init>")) 2 prog_13_method_34_code (kpl kr_189 prog_13_method_34_code.size) kr_189 kc_189 = true := ko_k_0 kx_189_0
theorem kp_190 : ko_p prog_13_method_35_code.size kr_190 0 = true := by decide +kernel
theorem kx_190_0 : ko_k "QuillDeskModel" (decide ("isLetter" = "<init>")) 2 prog_13_method_35_code (kpl kr_190 prog_13_method_35_code.size) (kr_190.drop 0) (kc_190.drop 0) = true := by decide +kernel
theorem kk_190 : ko_k "QuillDeskModel" (decide ("isLetter" = "<init>")) 2 prog_13_method_35_code (kpl kr_190 prog_13_method_35_code.size) kr_190 kc_190 = true := ko_k_0 kx_190_0
theorem kp_191 : ko_p prog_13_method_36_code.size kr_191 0 = true := by decide +kernel
theorem kx_191_0 : ko_k "QuillDeskModel" (decide ("isDigit" = "<init>")) 2 prog_13_method_36_code (kpl kr_191 prog_13_method_36_code.size) (kr_191.drop 0) (kc_191.drop 0) = true := by decide +kernel
theorem kk_191 : ko_k "QuillDeskModel" (decide ("isDigit" = "<init>")) 2 prog_13_method_36_code (kpl kr_191 prog_13_method_36_code.size) kr_191 kc_191 = true := ko_k_0 kx_191_0
theorem kp_192 : ko_p prog_13_method_37_code.size kr_192 0 = true := by decide +kernel
theorem kx_192_0 : ko_k "QuillDeskModel" (decide ("isMarkSign" = "<init>")) 2 prog_13_method_37_code (kpl kr_192 prog_13_method_37_code.size) (kr_192.drop 0) (kc_192.drop 0) = true := by decide +kernel
theorem kk_192 : ko_k "QuillDeskModel" (decide ("isMarkSign" = "<init>")) 2 prog_13_method_37_code (kpl kr_192 prog_13_method_37_code.size) kr_192 kc_192 = true := ko_k_0 kx_192_0
theorem kp_193 : ko_p prog_13_method_38_code.size kr_193 0 = true := by decide +kernel
theorem kx_193_0 : ko_k "QuillDeskModel" (decide ("wordAt" = "<init>")) 6 prog_13_method_38_code (kpl kr_193 prog_13_method_38_code.size) ((kr_193.drop 0).take 40) ((kc_193.drop 0).take 40) = true := by decide +kernel
theorem kx_193_40 : ko_k "QuillDeskModel" (decide ("wordAt" = "<init>")) 6 prog_13_method_38_code (kpl kr_193 prog_13_method_38_code.size) (kr_193.drop 40) (kc_193.drop 40) = true := by decide +kernel
theorem kk_193 : ko_k "QuillDeskModel" (decide ("wordAt" = "<init>")) 6 prog_13_method_38_code (kpl kr_193 prog_13_method_38_code.size) kr_193 kc_193 = true := ko_k_0 (ko_k_cut 0 40 40 rfl kx_193_0 kx_193_40)
theorem kp_194 : ko_p prog_13_method_39_code.size kr_194 0 = true := by decide +kernel
theorem kx_194_0 : ko_k "QuillDeskModel" (decide ("reads" = "<init>")) 2 prog_13_method_39_code (kpl kr_194 prog_13_method_39_code.size) ((kr_194.drop 0).take 40) ((kc_194.drop 0).take 40) = true := by decide +kernel
theorem kx_194_40 : ko_k "QuillDeskModel" (decide ("reads" = "<init>")) 2 prog_13_method_39_code (kpl kr_194 prog_13_method_39_code.size) ((kr_194.drop 40).take 40) ((kc_194.drop 40).take 40) = true := by decide +kernel
theorem kx_194_80 : ko_k "QuillDeskModel" (decide ("reads" = "<init>")) 2 prog_13_method_39_code (kpl kr_194 prog_13_method_39_code.size) ((kr_194.drop 80).take 40) ((kc_194.drop 80).take 40) = true := by decide +kernel
theorem kx_194_120 : ko_k "QuillDeskModel" (decide ("reads" = "<init>")) 2 prog_13_method_39_code (kpl kr_194 prog_13_method_39_code.size) (kr_194.drop 120) (kc_194.drop 120) = true := by decide +kernel
theorem kk_194 : ko_k "QuillDeskModel" (decide ("reads" = "<init>")) 2 prog_13_method_39_code (kpl kr_194 prog_13_method_39_code.size) kr_194 kc_194 = true := ko_k_0 (ko_k_cut 0 40 40 rfl kx_194_0 (ko_k_cut 40 40 80 rfl kx_194_40 (ko_k_cut 80 40 120 rfl kx_194_80 kx_194_120)))
theorem kp_195 : ko_p prog_13_method_40_code.size kr_195 0 = true := by decide +kernel
theorem kx_195_0 : ko_k "QuillDeskModel" (decide ("errs" = "<init>")) 2 prog_13_method_40_code (kpl kr_195 prog_13_method_40_code.size) (kr_195.drop 0) (kc_195.drop 0) = true := by decide +kernel
theorem kk_195 : ko_k "QuillDeskModel" (decide ("errs" = "<init>")) 2 prog_13_method_40_code (kpl kr_195 prog_13_method_40_code.size) kr_195 kc_195 = true := ko_k_0 kx_195_0
theorem kp_196 : ko_p prog_13_method_41_code.size kr_196 0 = true := by decide +kernel
theorem kx_196_0 : ko_k "QuillDeskModel" (decide ("isWord" = "<init>")) 2 prog_13_method_41_code (kpl kr_196 prog_13_method_41_code.size) (kr_196.drop 0) (kc_196.drop 0) = true := by decide +kernel
theorem kk_196 : ko_k "QuillDeskModel" (decide ("isWord" = "<init>")) 2 prog_13_method_41_code (kpl kr_196 prog_13_method_41_code.size) kr_196 kc_196 = true := ko_k_0 kx_196_0
theorem kp_197 : ko_p prog_13_method_42_code.size kr_197 0 = true := by decide +kernel
theorem kx_197_0 : ko_k "QuillDeskModel" (decide ("isSign" = "<init>")) 2 prog_13_method_42_code (kpl kr_197 prog_13_method_42_code.size) (kr_197.drop 0) (kc_197.drop 0) = true := by decide +kernel
theorem kk_197 : ko_k "QuillDeskModel" (decide ("isSign" = "<init>")) 2 prog_13_method_42_code (kpl kr_197 prog_13_method_42_code.size) kr_197 kc_197 = true := ko_k_0 kx_197_0
theorem kp_198 : ko_p prog_13_method_43_code.size kr_198 0 = true := by decide +kernel
theorem kx_198_0 : ko_k "QuillDeskModel" (decide ("emits" = "<init>")) 3 prog_13_method_43_code (kpl kr_198 prog_13_method_43_code.size) (kr_198.drop 0) (kc_198.drop 0) = true := by decide +kernel
theorem kk_198 : ko_k "QuillDeskModel" (decide ("emits" = "<init>")) 3 prog_13_method_43_code (kpl kr_198 prog_13_method_43_code.size) kr_198 kc_198 = true := ko_k_0 kx_198_0
theorem kp_199 : ko_p prog_13_method_44_code.size kr_199 0 = true := by decide +kernel
theorem kx_199_0 : ko_k "QuillDeskModel" (decide ("canAsk" = "<init>")) 2 prog_13_method_44_code (kpl kr_199 prog_13_method_44_code.size) (kr_199.drop 0) (kc_199.drop 0) = true := by decide +kernel
theorem kk_199 : ko_k "QuillDeskModel" (decide ("canAsk" = "<init>")) 2 prog_13_method_44_code (kpl kr_199 prog_13_method_44_code.size) kr_199 kc_199 = true := ko_k_0 kx_199_0
theorem kp_200 : ko_p prog_13_method_45_code.size kr_200 0 = true := by decide +kernel
theorem kx_200_0 : ko_k "QuillDeskModel" (decide ("readUnit" = "<init>")) 2 prog_13_method_45_code (kpl kr_200 prog_13_method_45_code.size) ((kr_200.drop 0).take 40) ((kc_200.drop 0).take 40) = true := by decide +kernel
theorem kx_200_40 : ko_k "QuillDeskModel" (decide ("readUnit" = "<init>")) 2 prog_13_method_45_code (kpl kr_200 prog_13_method_45_code.size) (kr_200.drop 40) (kc_200.drop 40) = true := by decide +kernel
theorem kk_200 : ko_k "QuillDeskModel" (decide ("readUnit" = "<init>")) 2 prog_13_method_45_code (kpl kr_200 prog_13_method_45_code.size) kr_200 kc_200 = true := ko_k_0 (ko_k_cut 0 40 40 rfl kx_200_0 kx_200_40)
theorem kp_201 : ko_p prog_13_method_46_code.size kr_201 0 = true := by decide +kernel
theorem kx_201_0 : ko_k "QuillDeskModel" (decide ("readProduct" = "<init>")) 2 prog_13_method_46_code (kpl kr_201 prog_13_method_46_code.size) ((kr_201.drop 0).take 40) ((kc_201.drop 0).take 40) = true := by decide +kernel
theorem kx_201_40 : ko_k "QuillDeskModel" (decide ("readProduct" = "<init>")) 2 prog_13_method_46_code (kpl kr_201 prog_13_method_46_code.size) (kr_201.drop 40) (kc_201.drop 40) = true := by decide +kernel
theorem kk_201 : ko_k "QuillDeskModel" (decide ("readProduct" = "<init>")) 2 prog_13_method_46_code (kpl kr_201 prog_13_method_46_code.size) kr_201 kc_201 = true := ko_k_0 (ko_k_cut 0 40 40 rfl kx_201_0 kx_201_40)
theorem kp_202 : ko_p prog_13_method_47_code.size kr_202 0 = true := by decide +kernel
theorem kx_202_0 : ko_k "QuillDeskModel" (decide ("readSum" = "<init>")) 2 prog_13_method_47_code (kpl kr_202 prog_13_method_47_code.size) (kr_202.drop 0) (kc_202.drop 0) = true := by decide +kernel
theorem kk_202 : ko_k "QuillDeskModel" (decide ("readSum" = "<init>")) 2 prog_13_method_47_code (kpl kr_202 prog_13_method_47_code.size) kr_202 kc_202 = true := ko_k_0 kx_202_0
theorem kp_203 : ko_p prog_13_method_48_code.size kr_203 0 = true := by decide +kernel
theorem kx_203_0 : ko_k "QuillDeskModel" (decide ("readCompared" = "<init>")) 2 prog_13_method_48_code (kpl kr_203 prog_13_method_48_code.size) ((kr_203.drop 0).take 40) ((kc_203.drop 0).take 40) = true := by decide +kernel
theorem kx_203_40 : ko_k "QuillDeskModel" (decide ("readCompared" = "<init>")) 2 prog_13_method_48_code (kpl kr_203 prog_13_method_48_code.size) (kr_203.drop 40) (kc_203.drop 40) = true := by decide +kernel
theorem kk_203 : ko_k "QuillDeskModel" (decide ("readCompared" = "<init>")) 2 prog_13_method_48_code (kpl kr_203 prog_13_method_48_code.size) kr_203 kc_203 = true := ko_k_0 (ko_k_cut 0 40 40 rfl kx_203_0 kx_203_40)
theorem kp_204 : ko_p prog_13_method_49_code.size kr_204 0 = true := by decide +kernel
theorem kx_204_0 : ko_k "QuillDeskModel" (decide ("waits" = "<init>")) 2 prog_13_method_49_code (kpl kr_204 prog_13_method_49_code.size) (kr_204.drop 0) (kc_204.drop 0) = true := by decide +kernel
theorem kk_204 : ko_k "QuillDeskModel" (decide ("waits" = "<init>")) 2 prog_13_method_49_code (kpl kr_204 prog_13_method_49_code.size) kr_204 kc_204 = true := ko_k_0 kx_204_0
theorem kp_205 : ko_p prog_13_method_50_code.size kr_205 0 = true := by decide +kernel
theorem kx_205_0 : ko_k "QuillDeskModel" (decide ("settles" = "<init>")) 2 prog_13_method_50_code (kpl kr_205 prog_13_method_50_code.size) (kr_205.drop 0) (kc_205.drop 0) = true := by decide +kernel
theorem kk_205 : ko_k "QuillDeskModel" (decide ("settles" = "<init>")) 2 prog_13_method_50_code (kpl kr_205 prog_13_method_50_code.size) kr_205 kc_205 = true := ko_k_0 kx_205_0
theorem kp_206 : ko_p prog_13_method_51_code.size kr_206 0 = true := by decide +kernel
theorem kx_206_0 : ko_k "QuillDeskModel" (decide ("readAny" = "<init>")) 4 prog_13_method_51_code (kpl kr_206 prog_13_method_51_code.size) ((kr_206.drop 0).take 40) ((kc_206.drop 0).take 40) = true := by decide +kernel
theorem kx_206_40 : ko_k "QuillDeskModel" (decide ("readAny" = "<init>")) 4 prog_13_method_51_code (kpl kr_206 prog_13_method_51_code.size) ((kr_206.drop 40).take 40) ((kc_206.drop 40).take 40) = true := by decide +kernel
theorem kx_206_80 : ko_k "QuillDeskModel" (decide ("readAny" = "<init>")) 4 prog_13_method_51_code (kpl kr_206 prog_13_method_51_code.size) ((kr_206.drop 80).take 40) ((kc_206.drop 80).take 40) = true := by decide +kernel
theorem kx_206_120 : ko_k "QuillDeskModel" (decide ("readAny" = "<init>")) 4 prog_13_method_51_code (kpl kr_206 prog_13_method_51_code.size) (kr_206.drop 120) (kc_206.drop 120) = true := by decide +kernel
theorem kk_206 : ko_k "QuillDeskModel" (decide ("readAny" = "<init>")) 4 prog_13_method_51_code (kpl kr_206 prog_13_method_51_code.size) kr_206 kc_206 = true := ko_k_0 (ko_k_cut 0 40 40 rfl kx_206_0 (ko_k_cut 40 40 80 rfl kx_206_40 (ko_k_cut 80 40 120 rfl kx_206_80 kx_206_120)))
theorem kp_207 : ko_p prog_13_method_52_code.size kr_207 0 = true := by decide +kernel
theorem kx_207_0 : ko_k "QuillDeskModel" (decide ("isLineWord" = "<init>")) 1 prog_13_method_52_code (kpl kr_207 prog_13_method_52_code.size) (kr_207.drop 0) (kc_207.drop 0) = true := by decide +kernel
theorem kk_207 : ko_k "QuillDeskModel" (decide ("isLineWord" = "<init>")) 1 prog_13_method_52_code (kpl kr_207 prog_13_method_52_code.size) kr_207 kc_207 = true := ko_k_0 kx_207_0
theorem kp_208 : ko_p prog_13_method_53_code.size kr_208 0 = true := by decide +kernel
theorem kx_208_0 : ko_k "QuillDeskModel" (decide ("readLaw" = "<init>")) 3 prog_13_method_53_code (kpl kr_208 prog_13_method_53_code.size) ((kr_208.drop 0).take 40) ((kc_208.drop 0).take 40) = true := by decide +kernel
theorem kx_208_40 : ko_k "QuillDeskModel" (decide ("readLaw" = "<init>")) 3 prog_13_method_53_code (kpl kr_208 prog_13_method_53_code.size) ((kr_208.drop 40).take 40) ((kc_208.drop 40).take 40) = true := by decide +kernel
theorem kx_208_80 : ko_k "QuillDeskModel" (decide ("readLaw" = "<init>")) 3 prog_13_method_53_code (kpl kr_208 prog_13_method_53_code.size) (kr_208.drop 80) (kc_208.drop 80) = true := by decide +kernel
theorem kk_208 : ko_k "QuillDeskModel" (decide ("readLaw" = "<init>")) 3 prog_13_method_53_code (kpl kr_208 prog_13_method_53_code.size) kr_208 kc_208 = true := ko_k_0 (ko_k_cut 0 40 40 rfl kx_208_0 (ko_k_cut 40 40 80 rfl kx_208_40 kx_208_80))
theorem kp_209 : ko_p prog_13_method_54_code.size kr_209 0 = true := by decide +kernel
theorem kx_209_0 : ko_k "QuillDeskModel" (decide ("takesLaw" = "<init>")) 3 prog_13_method_54_code (kpl kr_209 prog_13_method_54_code.size) ((kr_209.drop 0).take 40) ((kc_209.drop 0).take 40) = true := by decide +kernel
theorem kx_209_40 : ko_k "QuillDeskModel" (decide ("takesLaw" = "<init>")) 3 prog_13_method_54_code (kpl kr_209 prog_13_method_54_code.size) ((kr_209.drop 40).take 40) ((kc_209.drop 40).take 40) = true := by decide +kernel
theorem kx_209_80 : ko_k "QuillDeskModel" (decide ("takesLaw" = "<init>")) 3 prog_13_method_54_code (kpl kr_209 prog_13_method_54_code.size) (kr_209.drop 80) (kc_209.drop 80) = true := by decide +kernel
theorem kk_209 : ko_k "QuillDeskModel" (decide ("takesLaw" = "<init>")) 3 prog_13_method_54_code (kpl kr_209 prog_13_method_54_code.size) kr_209 kc_209 = true := ko_k_0 (ko_k_cut 0 40 40 rfl kx_209_0 (ko_k_cut 40 40 80 rfl kx_209_40 kx_209_80))
theorem kp_210 : ko_p prog_13_method_55_code.size kr_210 0 = true := by decide +kernel
theorem kx_210_0 : ko_k "QuillDeskModel" (decide ("readNumber" = "<init>")) 4 prog_13_method_55_code (kpl kr_210 prog_13_method_55_code.size) (kr_210.drop 0) (kc_210.drop 0) = true := by decide +kernel
theorem kk_210 : ko_k "QuillDeskModel" (decide ("readNumber" = "<init>")) 4 prog_13_method_55_code (kpl kr_210 prog_13_method_55_code.size) kr_210 kc_210 = true := ko_k_0 kx_210_0
theorem kp_211 : ko_p prog_13_method_56_code.size kr_211 0 = true := by decide +kernel
theorem kx_211_0 : ko_k "QuillDeskModel" (decide ("readMark" = "<init>")) 2 prog_13_method_56_code (kpl kr_211 prog_13_method_56_code.size) (kr_211.drop 0) (kc_211.drop 0) = true := by decide +kernel
theorem kk_211 : ko_k "QuillDeskModel" (decide ("readMark" = "<init>")) 2 prog_13_method_56_code (kpl kr_211 prog_13_method_56_code.size) kr_211 kc_211 = true := ko_k_0 kx_211_0
theorem kp_212 : ko_p prog_13_method_57_code.size kr_212 0 = true := by decide +kernel
theorem kx_212_0 : ko_k "QuillDeskModel" (decide ("readTold" = "<init>")) 4 prog_13_method_57_code (kpl kr_212 prog_13_method_57_code.size) (kr_212.drop 0) (kc_212.drop 0) = true := by decide +kernel
theorem kk_212 : ko_k "QuillDeskModel" (decide ("readTold" = "<init>")) 4 prog_13_method_57_code (kpl kr_212 prog_13_method_57_code.size) kr_212 kc_212 = true := ko_k_0 kx_212_0
theorem kp_213 : ko_p prog_13_method_58_code.size kr_213 0 = true := by decide +kernel
theorem kx_213_0 : ko_k "QuillDeskModel" (decide ("readOrder" = "<init>")) 3 prog_13_method_58_code (kpl kr_213 prog_13_method_58_code.size) ((kr_213.drop 0).take 40) ((kc_213.drop 0).take 40) = true := by decide +kernel
theorem kx_213_40 : ko_k "QuillDeskModel" (decide ("readOrder" = "<init>")) 3 prog_13_method_58_code (kpl kr_213 prog_13_method_58_code.size) ((kr_213.drop 40).take 40) ((kc_213.drop 40).take 40) = true := by decide +kernel
theorem kx_213_80 : ko_k "QuillDeskModel" (decide ("readOrder" = "<init>")) 3 prog_13_method_58_code (kpl kr_213 prog_13_method_58_code.size) (kr_213.drop 80) (kc_213.drop 80) = true := by decide +kernel
theorem kk_213 : ko_k "QuillDeskModel" (decide ("readOrder" = "<init>")) 3 prog_13_method_58_code (kpl kr_213 prog_13_method_58_code.size) kr_213 kc_213 = true := ko_k_0 (ko_k_cut 0 40 40 rfl kx_213_0 (ko_k_cut 40 40 80 rfl kx_213_40 kx_213_80))
theorem kp_214 : ko_p prog_13_method_59_code.size kr_214 0 = true := by decide +kernel
theorem kx_214_0 : ko_k "QuillDeskModel" (decide ("readOrders" = "<init>")) 2 prog_13_method_59_code (kpl kr_214 prog_13_method_59_code.size) (kr_214.drop 0) (kc_214.drop 0) = true := by decide +kernel
theorem kk_214 : ko_k "QuillDeskModel" (decide ("readOrders" = "<init>")) 2 prog_13_method_59_code (kpl kr_214 prog_13_method_59_code.size) kr_214 kc_214 = true := ko_k_0 kx_214_0
theorem kp_215 : ko_p prog_13_method_60_code.size kr_215 0 = true := by decide +kernel
theorem kx_215_0 : ko_k "QuillDeskModel" (decide ("readBird" = "<init>")) 4 prog_13_method_60_code (kpl kr_215 prog_13_method_60_code.size) ((kr_215.drop 0).take 40) ((kc_215.drop 0).take 40) = true := by decide +kernel
theorem kx_215_40 : ko_k "QuillDeskModel" (decide ("readBird" = "<init>")) 4 prog_13_method_60_code (kpl kr_215 prog_13_method_60_code.size) (kr_215.drop 40) (kc_215.drop 40) = true := by decide +kernel
theorem kk_215 : ko_k "QuillDeskModel" (decide ("readBird" = "<init>")) 4 prog_13_method_60_code (kpl kr_215 prog_13_method_60_code.size) kr_215 kc_215 = true := ko_k_0 (ko_k_cut 0 40 40 rfl kx_215_0 kx_215_40)
theorem kp_216 : ko_p prog_13_method_61_code.size kr_216 0 = true := by decide +kernel
theorem kx_216_0 : ko_k "QuillDeskModel" (decide ("readBirds" = "<init>")) 2 prog_13_method_61_code (kpl kr_216 prog_13_method_61_code.size) ((kr_216.drop 0).take 40) ((kc_216.drop 0).take 40) = true := by decide +kernel
theorem kx_216_40 : ko_k "QuillDeskModel" (decide ("readBirds" = "<init>")) 2 prog_13_method_61_code (kpl kr_216 prog_13_method_61_code.size) (kr_216.drop 40) (kc_216.drop 40) = true := by decide +kernel
theorem kk_216 : ko_k "QuillDeskModel" (decide ("readBirds" = "<init>")) 2 prog_13_method_61_code (kpl kr_216 prog_13_method_61_code.size) kr_216 kc_216 = true := ko_k_0 (ko_k_cut 0 40 40 rfl kx_216_0 kx_216_40)
theorem kp_217 : ko_p prog_13_method_62_code.size kr_217 0 = true := by decide +kernel
theorem kx_217_0 : ko_k "QuillDeskModel" (decide ("readAfterOne" = "<init>")) 3 prog_13_method_62_code (kpl kr_217 prog_13_method_62_code.size) ((kr_217.drop 0).take 40) ((kc_217.drop 0).take 40) = true := by decide +kernel
theorem kx_217_40 : ko_k "QuillDeskModel" (decide ("readAfterOne" = "<init>")) 3 prog_13_method_62_code (kpl kr_217 prog_13_method_62_code.size) (kr_217.drop 40) (kc_217.drop 40) = true := by decide +kernel
theorem kk_217 : ko_k "QuillDeskModel" (decide ("readAfterOne" = "<init>")) 3 prog_13_method_62_code (kpl kr_217 prog_13_method_62_code.size) kr_217 kc_217 = true := ko_k_0 (ko_k_cut 0 40 40 rfl kx_217_0 kx_217_40)
theorem kp_218 : ko_p prog_13_method_63_code.size kr_218 0 = true := by decide +kernel
theorem kx_218_0 : ko_k "QuillDeskModel" (decide ("readAfter" = "<init>")) 2 prog_13_method_63_code (kpl kr_218 prog_13_method_63_code.size) ((kr_218.drop 0).take 40) ((kc_218.drop 0).take 40) = true := by decide +kernel
theorem kx_218_40 : ko_k "QuillDeskModel" (decide ("readAfter" = "<init>")) 2 prog_13_method_63_code (kpl kr_218 prog_13_method_63_code.size) (kr_218.drop 40) (kc_218.drop 40) = true := by decide +kernel
theorem kk_218 : ko_k "QuillDeskModel" (decide ("readAfter" = "<init>")) 2 prog_13_method_63_code (kpl kr_218 prog_13_method_63_code.size) kr_218 kc_218 = true := ko_k_0 (ko_k_cut 0 40 40 rfl kx_218_0 kx_218_40)
theorem kp_219 : ko_p prog_13_method_64_code.size kr_219 0 = true := by decide +kernel
theorem kx_219_0 : ko_k "QuillDeskModel" (decide ("readsText" = "<init>")) 2 prog_13_method_64_code (kpl kr_219 prog_13_method_64_code.size) (kr_219.drop 0) (kc_219.drop 0) = true := by decide +kernel
theorem kk_219 : ko_k "QuillDeskModel" (decide ("readsText" = "<init>")) 2 prog_13_method_64_code (kpl kr_219 prog_13_method_64_code.size) kr_219 kc_219 = true := ko_k_0 kx_219_0
theorem kp_220 : ko_p prog_13_method_65_code.size kr_220 0 = true := by decide +kernel
theorem kx_220_0 : ko_k "QuillDeskModel" (decide ("takesOther" = "<init>")) 4 prog_13_method_65_code (kpl kr_220 prog_13_method_65_code.size) ((kr_220.drop 0).take 40) ((kc_220.drop 0).take 40) = true := by decide +kernel
theorem kx_220_40 : ko_k "QuillDeskModel" (decide ("takesOther" = "<init>")) 4 prog_13_method_65_code (kpl kr_220 prog_13_method_65_code.size) ((kr_220.drop 40).take 40) ((kc_220.drop 40).take 40) = true := by decide +kernel
theorem kx_220_80 : ko_k "QuillDeskModel" (decide ("takesOther" = "<init>")) 4 prog_13_method_65_code (kpl kr_220 prog_13_method_65_code.size) (kr_220.drop 80) (kc_220.drop 80) = true := by decide +kernel
theorem kk_220 : ko_k "QuillDeskModel" (decide ("takesOther" = "<init>")) 4 prog_13_method_65_code (kpl kr_220 prog_13_method_65_code.size) kr_220 kc_220 = true := ko_k_0 (ko_k_cut 0 40 40 rfl kx_220_0 (ko_k_cut 40 40 80 rfl kx_220_40 kx_220_80))
theorem kp_221 : ko_p prog_13_method_66_code.size kr_221 0 = true := by decide +kernel
theorem kx_221_0 : ko_k "QuillDeskModel" (decide ("text" = "<init>")) 3 prog_13_method_66_code (kpl kr_221 prog_13_method_66_code.size) ((kr_221.drop 0).take 40) ((kc_221.drop 0).take 40) = true := by decide +kernel
theorem kx_221_40 : ko_k "QuillDeskModel" (decide ("text" = "<init>")) 3 prog_13_method_66_code (kpl kr_221 prog_13_method_66_code.size) (kr_221.drop 40) (kc_221.drop 40) = true := by decide +kernel
theorem kk_221 : ko_k "QuillDeskModel" (decide ("text" = "<init>")) 3 prog_13_method_66_code (kpl kr_221 prog_13_method_66_code.size) kr_221 kc_221 = true := ko_k_0 (ko_k_cut 0 40 40 rfl kx_221_0 kx_221_40)
theorem kp_222 : ko_p prog_13_method_67_code.size kr_222 0 = true := by decide +kernel
theorem kx_222_0 : ko_k "QuillDeskModel" (decide ("fault" = "<init>")) 2 prog_13_method_67_code (kpl kr_222 prog_13_method_67_code.size) (kr_222.drop 0) (kc_222.drop 0) = true := by decide +kernel
theorem kk_222 : ko_k "QuillDeskModel" (decide ("fault" = "<init>")) 2 prog_13_method_67_code (kpl kr_222 prog_13_method_67_code.size) kr_222 kc_222 = true := ko_k_0 kx_222_0
theorem kp_223 : ko_p prog_13_method_68_code.size kr_223 0 = true := by decide +kernel
theorem kx_223_0 : ko_k "QuillDeskModel" (decide ("twoOf" = "<init>")) 4 prog_13_method_68_code (kpl kr_223 prog_13_method_68_code.size) ((kr_223.drop 0).take 40) ((kc_223.drop 0).take 40) = true := by decide +kernel
theorem kx_223_40 : ko_k "QuillDeskModel" (decide ("twoOf" = "<init>")) 4 prog_13_method_68_code (kpl kr_223 prog_13_method_68_code.size) (kr_223.drop 40) (kc_223.drop 40) = true := by decide +kernel
theorem kk_223 : ko_k "QuillDeskModel" (decide ("twoOf" = "<init>")) 4 prog_13_method_68_code (kpl kr_223 prog_13_method_68_code.size) kr_223 kc_223 = true := ko_k_0 (ko_k_cut 0 40 40 rfl kx_223_0 kx_223_40)
theorem kp_224 : ko_p prog_13_method_69_code.size kr_224 0 = true := by decide +kernel
theorem kx_224_0 : ko_k "QuillDeskModel" (decide ("runs" = "<init>")) 6 prog_13_method_69_code (kpl kr_224 prog_13_method_69_code.size) ((kr_224.drop 0).take 40) ((kc_224.drop 0).take 40) = true := by decide +kernel
