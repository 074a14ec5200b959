theorem kx_224_40 : ko_k "QuillDeskModel" (decide ("runs" = "<init>")) 6 prog_13_method_69_code (kpl kr_224 prog_13_method_69_code.size) ((kr_224.drop 40).take 40) ((kc_224.drop 40).take 40) = true := by decide +kernel
theorem kx_224_80 : ko_k "QuillDeskModel" (decide ("runs" = "<init>")) 6 prog_13_method_69_code (kpl kr_224 prog_13_method_69_code.size) (kr_224.drop 80) (kc_224.drop 80) = true := by decide +kernel
theorem kk_224 : ko_k "QuillDeskModel" (decide ("runs" = "<init>")) 6 prog_13_method_69_code (kpl kr_224 prog_13_method_69_code.size) kr_224 kc_224 = true := ko_k_0 (ko_k_cut 0 40 40 rfl kx_224_0 (ko_k_cut 40 40 80 rfl kx_224_40 kx_224_80))
theorem kp_225 : ko_p prog_13_method_70_code.size kr_225 0 = true := by decide +kernel
theorem kx_225_0 : ko_k "QuillDeskModel" (decide ("lineOf" = "<init>")) 3 prog_13_method_70_code (kpl kr_225 prog_13_method_70_code.size) ((kr_225.drop 0).take 40) ((kc_225.drop 0).take 40) = true := by decide +kernel
theorem kx_225_40 : ko_k "QuillDeskModel" (decide ("lineOf" = "<init>")) 3 prog_13_method_70_code (kpl kr_225 prog_13_method_70_code.size) (kr_225.drop 40) (kc_225.drop 40) = true := by decide +kernel
theorem kk_225 : ko_k "QuillDeskModel" (decide ("lineOf" = "<init>")) 3 prog_13_method_70_code (kpl kr_225 prog_13_method_70_code.size) kr_225 kc_225 = true := ko_k_0 (ko_k_cut 0 40 40 rfl kx_225_0 kx_225_40)
theorem kp_226 : ko_p prog_13_method_71_code.size kr_226 0 = true := by decide +kernel
theorem kx_226_0 : ko_k "QuillDeskModel" (decide ("fineOf" = "<init>")) 2 prog_13_method_71_code (kpl kr_226 prog_13_method_71_code.size) (kr_226.drop 0) (kc_226.drop 0) = true := by decide +kernel
theorem kk_226 : ko_k "QuillDeskModel" (decide ("fineOf" = "<init>")) 2 prog_13_method_71_code (kpl kr_226 prog_13_method_71_code.size) kr_226 kc_226 = true := ko_k_0 kx_226_0
theorem kp_227 : ko_p prog_13_method_72_code.size kr_227 0 = true := by decide +kernel
theorem kx_227_0 : ko_k "QuillDeskModel" (decide ("asks" = "<init>")) 4 prog_13_method_72_code (kpl kr_227 prog_13_method_72_code.size) ((kr_227.drop 0).take 40) ((kc_227.drop 0).take 40) = true := by decide +kernel
theorem kx_227_40 : ko_k "QuillDeskModel" (decide ("asks" = "<init>")) 4 prog_13_method_72_code (kpl kr_227 prog_13_method_72_code.size) ((kr_227.drop 40).take 40) ((kc_227.drop 40).take 40) = true := by decide +kernel
theorem kx_227_80 : ko_k "QuillDeskModel" (decide ("asks" = "<init>")) 4 prog_13_method_72_code (kpl kr_227 prog_13_method_72_code.size) ((kr_227.drop 80).take 40) ((kc_227.drop 80).take 40) = true := by decide +kernel
theorem kx_227_120 : ko_k "QuillDeskModel" (decide ("asks" = "<init>")) 4 prog_13_method_72_code (kpl kr_227 prog_13_method_72_code.size) (kr_227.drop 120) (kc_227.drop 120) = true := by decide +kernel
theorem kk_227 : ko_k "QuillDeskModel" (decide ("asks" = "<init>")) 4 prog_13_method_72_code (kpl kr_227 prog_13_method_72_code.size) kr_227 kc_227 = true := ko_k_0 (ko_k_cut 0 40 40 rfl kx_227_0 (ko_k_cut 40 40 80 rfl kx_227_40 (ko_k_cut 80 40 120 rfl kx_227_80 kx_227_120)))
theorem kp_228 : ko_p prog_13_method_73_code.size kr_228 0 = true := by decide +kernel
theorem kx_228_0 : ko_k "QuillDeskModel" (decide ("lawTells" = "<init>")) 5 prog_13_method_73_code (kpl kr_228 prog_13_method_73_code.size) (kr_228.drop 0) (kc_228.drop 0) = true := by decide +kernel
theorem kk_228 : ko_k "QuillDeskModel" (decide ("lawTells" = "<init>")) 5 prog_13_method_73_code (kpl kr_228 prog_13_method_73_code.size) kr_228 kc_228 = true := ko_k_0 kx_228_0
theorem kp_229 : ko_p prog_13_method_74_code.size kr_229 0 = true := by decide +kernel
theorem kx_229_0 : ko_k "QuillDeskModel" (decide ("writesOf" = "<init>")) 2 prog_13_method_74_code (kpl kr_229 prog_13_method_74_code.size) (kr_229.drop 0) (kc_229.drop 0) = true := by decide +kernel
theorem kk_229 : ko_k "QuillDeskModel" (decide ("writesOf" = "<init>")) 2 prog_13_method_74_code (kpl kr_229 prog_13_method_74_code.size) kr_229 kc_229 = true := ko_k_0 kx_229_0
theorem kp_230 : ko_p prog_13_method_75_code.size kr_230 0 = true := by decide +kernel
theorem kx_230_0 : ko_k "QuillDeskModel" (decide ("blotsOf" = "<init>")) 2 prog_13_method_75_code (kpl kr_230 prog_13_method_75_code.size) (kr_230.drop 0) (kc_230.drop 0) = true := by decide +kernel
theorem kk_230 : ko_k "QuillDeskModel" (decide ("blotsOf" = "<init>")) 2 prog_13_method_75_code (kpl kr_230 prog_13_method_75_code.size) kr_230 kc_230 = true := ko_k_0 kx_230_0
theorem kp_231 : ko_p prog_13_method_76_code.size kr_231 0 = true := by decide +kernel
theorem kx_231_0 : ko_k "QuillDeskModel" (decide ("liftsOf" = "<init>")) 2 prog_13_method_76_code (kpl kr_231 prog_13_method_76_code.size) (kr_231.drop 0) (kc_231.drop 0) = true := by decide +kernel
theorem kk_231 : ko_k "QuillDeskModel" (decide ("liftsOf" = "<init>")) 2 prog_13_method_76_code (kpl kr_231 prog_13_method_76_code.size) kr_231 kc_231 = true := ko_k_0 kx_231_0
theorem kp_232 : ko_p prog_13_method_77_code.size kr_232 0 = true := by decide +kernel
theorem kx_232_0 : ko_k "QuillDeskModel" (decide ("notes" = "<init>")) 5 prog_13_method_77_code (kpl kr_232 prog_13_method_77_code.size) ((kr_232.drop 0).take 40) ((kc_232.drop 0).take 40) = true := by decide +kernel
theorem kx_232_40 : ko_k "QuillDeskModel" (decide ("notes" = "<init>")) 5 prog_13_method_77_code (kpl kr_232 prog_13_method_77_code.size) (kr_232.drop 40) (kc_232.drop 40) = true := by decide +kernel
theorem kk_232 : ko_k "QuillDeskModel" (decide ("notes" = "<init>")) 5 prog_13_method_77_code (kpl kr_232 prog_13_method_77_code.size) kr_232 kc_232 = true := ko_k_0 (ko_k_cut 0 40 40 rfl kx_232_0 kx_232_40)
theorem kp_233 : ko_p prog_13_method_78_code.size kr_233 0 = true := by decide +kernel
theorem kx_233_0 : ko_k "QuillDeskModel" (decide ("canTake" = "<init>")) 3 prog_13_method_78_code (kpl kr_233 prog_13_method_78_code.size) (kr_233.drop 0) (kc_233.drop 0) = true := by decide +kernel
theorem kk_233 : ko_k "QuillDeskModel" (decide ("canTake" = "<init>")) 3 prog_13_method_78_code (kpl kr_233 prog_13_method_78_code.size) kr_233 kc_233 = true := ko_k_0 kx_233_0
theorem kp_234 : ko_p prog_13_method_79_code.size kr_234 0 = true := by decide +kernel
theorem kx_234_0 : ko_k "QuillDeskModel" (decide ("canAct" = "<init>")) 5 prog_13_method_79_code (kpl kr_234 prog_13_method_79_code.size) ((kr_234.drop 0).take 40) ((kc_234.drop 0).take 40) = true := by decide +kernel
theorem kx_234_40 : ko_k "QuillDeskModel" (decide ("canAct" = "<init>")) 5 prog_13_method_79_code (kpl kr_234 prog_13_method_79_code.size) ((kr_234.drop 40).take 40) ((kc_234.drop 40).take 40) = true := by decide +kernel
theorem kx_234_80 : ko_k "QuillDeskModel" (decide ("canAct" = "<init>")) 5 prog_13_method_79_code (kpl kr_234 prog_13_method_79_code.size) (kr_234.drop 80) (kc_234.drop 80) = true := by decide +kernel
theorem kk_234 : ko_k "QuillDeskModel" (decide ("canAct" = "<init>")) 5 prog_13_method_79_code (kpl kr_234 prog_13_method_79_code.size) kr_234 kc_234 = true := ko_k_0 (ko_k_cut 0 40 40 rfl kx_234_0 (ko_k_cut 40 40 80 rfl kx_234_40 kx_234_80))
theorem kp_235 : ko_p prog_13_method_80_code.size kr_235 0 = true := by decide +kernel
theorem kx_235_0 : ko_k "QuillDeskModel" (decide ("act" = "<init>")) 4 prog_13_method_80_code (kpl kr_235 prog_13_method_80_code.size) ((kr_235.drop 0).take 40) ((kc_235.drop 0).take 40) = true := by decide +kernel
theorem kx_235_40 : ko_k "QuillDeskModel" (decide ("act" = "<init>")) 4 prog_13_method_80_code (kpl kr_235 prog_13_method_80_code.size) (kr_235.drop 40) (kc_235.drop 40) = true := by decide +kernel
theorem kk_235 : ko_k "QuillDeskModel" (decide ("act" = "<init>")) 4 prog_13_method_80_code (kpl kr_235 prog_13_method_80_code.size) kr_235 kc_235 = true := ko_k_0 (ko_k_cut 0 40 40 rfl kx_235_0 kx_235_40)
theorem kp_236 : ko_p prog_13_method_81_code.size kr_236 0 = true := by decide +kernel
theorem kx_236_0 : ko_k "QuillDeskModel" (decide ("happens" = "<init>")) 2 prog_13_method_81_code (kpl kr_236 prog_13_method_81_code.size) (kr_236.drop 0) (kc_236.drop 0) = true := by decide +kernel
theorem kk_236 : ko_k "QuillDeskModel" (decide ("happens" = "<init>")) 2 prog_13_method_81_code (kpl kr_236 prog_13_method_81_code.size) kr_236 kc_236 = true := ko_k_0 kx_236_0
theorem kp_237 : ko_p prog_13_method_82_code.size kr_237 0 = true := by decide +kernel
theorem kx_237_0 : ko_k "QuillDeskModel" (decide ("does" = "<init>")) 6 prog_13_method_82_code (kpl kr_237 prog_13_method_82_code.size) ((kr_237.drop 0).take 40) ((kc_237.drop 0).take 40) = true := by decide +kernel
theorem kx_237_40 : ko_k "QuillDeskModel" (decide ("does" = "<init>")) 6 prog_13_method_82_code (kpl kr_237 prog_13_method_82_code.size) ((kr_237.drop 40).take 40) ((kc_237.drop 40).take 40) = true := by decide +kernel
theorem kx_237_80 : ko_k "QuillDeskModel" (decide ("does" = "<init>")) 6 prog_13_method_82_code (kpl kr_237 prog_13_method_82_code.size) (kr_237.drop 80) (kc_237.drop 80) = true := by decide +kernel
theorem kk_237 : ko_k "QuillDeskModel" (decide ("does" = "<init>")) 6 prog_13_method_82_code (kpl kr_237 prog_13_method_82_code.size) kr_237 kc_237 = true := ko_k_0 (ko_k_cut 0 40 40 rfl kx_237_0 (ko_k_cut 40 40 80 rfl kx_237_40 kx_237_80))
theorem kp_238 : ko_p prog_13_method_83_code.size kr_238 0 = true := by decide +kernel
theorem kx_238_0 : ko_k "QuillDeskModel" (decide ("isSigned" = "<init>")) 4 prog_13_method_83_code (kpl kr_238 prog_13_method_83_code.size) ((kr_238.drop 0).take 40) ((kc_238.drop 0).take 40) = true := by decide +kernel
theorem kx_238_40 : ko_k "QuillDeskModel" (decide ("isSigned" = "<init>")) 4 prog_13_method_83_code (kpl kr_238 prog_13_method_83_code.size) (kr_238.drop 40) (kc_238.drop 40) = true := by decide +kernel
theorem kk_238 : ko_k "QuillDeskModel" (decide ("isSigned" = "<init>")) 4 prog_13_method_83_code (kpl kr_238 prog_13_method_83_code.size) kr_238 kc_238 = true := ko_k_0 (ko_k_cut 0 40 40 rfl kx_238_0 kx_238_40)
theorem kp_239 : ko_p prog_13_method_84_code.size kr_239 0 = true := by decide +kernel
theorem kx_239_0 : ko_k "QuillDeskModel" (decide ("writesOn" = "<init>")) 6 prog_13_method_84_code (kpl kr_239 prog_13_method_84_code.size) ((kr_239.drop 0).take 40) ((kc_239.drop 0).take 40) = true := by decide +kernel
theorem kx_239_40 : ko_k "QuillDeskModel" (decide ("writesOn" = "<init>")) 6 prog_13_method_84_code (kpl kr_239 prog_13_method_84_code.size) (kr_239.drop 40) (kc_239.drop 40) = true := by decide +kernel
theorem kk_239 : ko_k "QuillDeskModel" (decide ("writesOn" = "<init>")) 6 prog_13_method_84_code (kpl kr_239 prog_13_method_84_code.size) kr_239 kc_239 = true := ko_k_0 (ko_k_cut 0 40 40 rfl kx_239_0 kx_239_40)
theorem kp_240 : ko_p prog_13_method_85_code.size kr_240 0 = true := by decide +kernel
theorem kx_240_0 : ko_k "QuillDeskModel" (decide ("worksOn" = "<init>")) 5 prog_13_method_85_code (kpl kr_240 prog_13_method_85_code.size) ((kr_240.drop 0).take 40) ((kc_240.drop 0).take 40) = true := by decide +kernel
theorem kx_240_40 : ko_k "QuillDeskModel" (decide ("worksOn" = "<init>")) 5 prog_13_method_85_code (kpl kr_240 prog_13_method_85_code.size) ((kr_240.drop 40).take 40) ((kc_240.drop 40).take 40) = true := by decide +kernel
theorem kx_240_80 : ko_k "QuillDeskModel" (decide ("worksOn" = "<init>")) 5 prog_13_method_85_code (kpl kr_240 prog_13_method_85_code.size) ((kr_240.drop 80).take 40) ((kc_240.drop 80).take 40) = true := by decide +kernel
theorem kx_240_120 : ko_k "QuillDeskModel" (decide ("worksOn" = "<init>")) 5 prog_13_method_85_code (kpl kr_240 prog_13_method_85_code.size) (kr_240.drop 120) (kc_240.drop 120) = true := by decide +kernel
theorem kk_240 : ko_k "QuillDeskModel" (decide ("worksOn" = "<init>")) 5 prog_13_method_85_code (kpl kr_240 prog_13_method_85_code.size) kr_240 kc_240 = true := ko_k_0 (ko_k_cut 0 40 40 rfl kx_240_0 (ko_k_cut 40 40 80 rfl kx_240_40 (ko_k_cut 80 40 120 rfl kx_240_80 kx_240_120)))
theorem kp_241 : ko_p prog_13_method_86_code.size kr_241 0 = true := by decide +kernel
theorem kx_241_0 : ko_k "QuillDeskModel" (decide ("goesBy" = "<init>")) 3 prog_13_method_86_code (kpl kr_241 prog_13_method_86_code.size) ((kr_241.drop 0).take 40) ((kc_241.drop 0).take 40) = true := by decide +kernel
theorem kx_241_40 : ko_k "QuillDeskModel" (decide ("goesBy" = "<init>")) 3 prog_13_method_86_code (kpl kr_241 prog_13_method_86_code.size) (kr_241.drop 40) (kc_241.drop 40) = true := by decide +kernel
theorem kk_241 : ko_k "QuillDeskModel" (decide ("goesBy" = "<init>")) 3 prog_13_method_86_code (kpl kr_241 prog_13_method_86_code.size) kr_241 kc_241 = true := ko_k_0 (ko_k_cut 0 40 40 rfl kx_241_0 kx_241_40)
theorem kp_242 : ko_p prog_13_method_87_code.size kr_242 0 = true := by decide +kernel
theorem kx_242_0 : ko_k "QuillDeskModel" (decide ("hours" = "<init>")) 4 prog_13_method_87_code (kpl kr_242 prog_13_method_87_code.size) (kr_242.drop 0) (kc_242.drop 0) = true := by decide +kernel
theorem kk_242 : ko_k "QuillDeskModel" (decide ("hours" = "<init>")) 4 prog_13_method_87_code (kpl kr_242 prog_13_method_87_code.size) kr_242 kc_242 = true := ko_k_0 kx_242_0
theorem kp_243 : ko_p prog_13_method_88_code.size kr_243 0 = true := by decide +kernel
theorem kx_243_0 : ko_k "QuillDeskModel" (decide ("of" = "<init>")) 3 prog_13_method_88_code (kpl kr_243 prog_13_method_88_code.size) ((kr_243.drop 0).take 40) ((kc_243.drop 0).take 40) = true := by decide +kernel
theorem kx_243_40 : ko_k "QuillDeskModel" (decide ("of" = "<init>")) 3 prog_13_method_88_code (kpl kr_243 prog_13_method_88_code.size) (kr_243.drop 40) (kc_243.drop 40) = true := by decide +kernel
theorem kk_243 : ko_k "QuillDeskModel" (decide ("of" = "<init>")) 3 prog_13_method_88_code (kpl kr_243 prog_13_method_88_code.size) kr_243 kc_243 = true := ko_k_0 (ko_k_cut 0 40 40 rfl kx_243_0 kx_243_40)
theorem kp_244 : ko_p prog_13_method_89_code.size kr_244 0 = true := by decide +kernel
theorem kx_244_0 : ko_k "QuillDeskModel" (decide ("who" = "<init>")) 3 prog_13_method_89_code (kpl kr_244 prog_13_method_89_code.size) ((kr_244.drop 0).take 40) ((kc_244.drop 0).take 40) = true := by decide +kernel
theorem kx_244_40 : ko_k "QuillDeskModel" (decide ("who" = "<init>")) 3 prog_13_method_89_code (kpl kr_244 prog_13_method_89_code.size) (kr_244.drop 40) (kc_244.drop 40) = true := by decide +kernel
theorem kk_244 : ko_k "QuillDeskModel" (decide ("who" = "<init>")) 3 prog_13_method_89_code (kpl kr_244 prog_13_method_89_code.size) kr_244 kc_244 = true := ko_k_0 (ko_k_cut 0 40 40 rfl kx_244_0 kx_244_40)
theorem kp_245 : ko_p prog_13_method_90_code.size kr_245 0 = true := by decide +kernel
theorem kx_245_0 : ko_k "QuillDeskModel" (decide ("deedOf" = "<init>")) 5 prog_13_method_90_code (kpl kr_245 prog_13_method_90_code.size) ((kr_245.drop 0).take 40) ((kc_245.drop 0).take 40) = true := by decide +kernel
theorem kx_245_40 : ko_k "QuillDeskModel" (decide ("deedOf" = "<init>")) 5 prog_13_method_90_code (kpl kr_245 prog_13_method_90_code.size) ((kr_245.drop 40).take 40) ((kc_245.drop 40).take 40) = true := by decide +kernel
theorem kx_245_80 : ko_k "QuillDeskModel" (decide ("deedOf" = "<init>")) 5 prog_13_method_90_code (kpl kr_245 prog_13_method_90_code.size) (kr_245.drop 80) (kc_245.drop 80) = true := by decide +kernel
theorem kk_245 : ko_k "QuillDeskModel" (decide ("deedOf" = "<init>")) 5 prog_13_method_90_code (kpl kr_245 prog_13_method_90_code.size) kr_245 kc_245 = true := ko_k_0 (ko_k_cut 0 40 40 rfl kx_245_0 (ko_k_cut 40 40 80 rfl kx_245_40 kx_245_80))
theorem kp_246 : ko_p prog_13_method_91_code.size kr_246 0 = true := by decide +kernel
theorem kx_246_0 : ko_k "QuillDeskModel" (decide ("book" = "<init>")) 3 prog_13_method_91_code (kpl kr_246 prog_13_method_91_code.size) (kr_246.drop 0) (kc_246.drop 0) = true := by decide +kernel
theorem kk_246 : ko_k "QuillDeskModel" (decide ("book" = "<init>")) 3 prog_13_method_91_code (kpl kr_246 prog_13_method_91_code.size) kr_246 kc_246 = true := ko_k_0 kx_246_0
theorem kp_247 : ko_p prog_13_method_92_code.size kr_247 0 = true := by decide +kernel
theorem kx_247_0 : ko_k "QuillDeskModel" (decide ("sumOf" = "<init>")) 5 prog_13_method_92_code (kpl kr_247 prog_13_method_92_code.size) (kr_247.drop 0) (kc_247.drop 0) = true := by decide +kernel
theorem kk_247 : ko_k "QuillDeskModel" (decide ("sumOf" = "<init>")) 5 prog_13_method_92_code (kpl kr_247 prog_13_method_92_code.size) kr_247 kc_247 = true := ko_k_0 kx_247_0
theorem kp_248 : ko_p prog_13_method_93_code.size kr_248 0 = true := by decide +kernel
theorem kx_248_0 : ko_k "QuillDeskModel" (decide ("goes" = "<init>")) 4 prog_13_method_93_code (kpl kr_248 prog_13_method_93_code.size) ((kr_248.drop 0).take 40) ((kc_248.drop 0).take 40) = true := by decide +kernel
theorem kx_248_40 : ko_k "QuillDeskModel" (decide ("goes" = "<init>")) 4 prog_13_method_93_code (kpl kr_248 prog_13_method_93_code.size) (kr_248.drop 40) (kc_248.drop 40) = true := by decide +kernel
theorem kk_248 : ko_k "QuillDeskModel" (decide ("goes" = "<init>")) 4 prog_13_method_93_code (kpl kr_248 prog_13_method_93_code.size) kr_248 kc_248 = true := ko_k_0 (ko_k_cut 0 40 40 rfl kx_248_0 kx_248_40)
theorem kp_249 : ko_p prog_13_method_94_code.size kr_249 0 = true := by decide +kernel
theorem kx_249_0 : ko_k "QuillDeskModel" (decide ("done" = "<init>")) 3 prog_13_method_94_code (kpl kr_249 prog_13_method_94_code.size) (kr_249.drop 0) (kc_249.drop 0) = true := by decide +kernel
theorem kk_249 : ko_k "QuillDeskModel" (decide ("done" = "<init>")) 3 prog_13_method_94_code (kpl kr_249 prog_13_method_94_code.size) kr_249 kc_249 = true := ko_k_0 kx_249_0
theorem kp_250 : ko_p prog_13_method_95_code.size kr_250 0 = true := by decide +kernel
theorem kx_250_0 : ko_k "QuillDeskModel" (decide ("soon" = "<init>")) 7 prog_13_method_95_code (kpl kr_250 prog_13_method_95_code.size) ((kr_250.drop 0).take 40) ((kc_250.drop 0).take 40) = true := by decide +kernel
theorem kx_250_40 : ko_k "QuillDeskModel" (decide ("soon" = "<init>")) 7 prog_13_method_95_code (kpl kr_250 prog_13_method_95_code.size) ((kr_250.drop 40).take 40) ((kc_250.drop 40).take 40) = true := by decide +kernel
theorem kx_250_80 : ko_k "QuillDeskModel" (decide ("soon" = "<init>")) 7 prog_13_method_95_code (kpl kr_250 prog_13_method_95_code.size) (kr_250.drop 80) (kc_250.drop 80) = true := by decide +kernel
theorem kk_250 : ko_k "QuillDeskModel" (decide ("soon" = "<init>")) 7 prog_13_method_95_code (kpl kr_250 prog_13_method_95_code.size) kr_250 kc_250 = true := ko_k_0 (ko_k_cut 0 40 40 rfl kx_250_0 (ko_k_cut 40 40 80 rfl kx_250_40 kx_250_80))
theorem kp_251 : ko_p prog_13_method_96_code.size kr_251 0 = true := by decide +kernel
theorem kx_251_0 : ko_k "QuillDeskModel" (decide ("flock" = "<init>")) 8 prog_13_method_96_code (kpl kr_251 prog_13_method_96_code.size) ((kr_251.drop 0).take 40) ((kc_251.drop 0).take 40) = true := by decide +kernel
theorem kx_251_40 : ko_k "QuillDeskModel" (decide ("flock" = "<init>")) 8 prog_13_method_96_code (kpl kr_251 prog_13_method_96_code.size) ((kr_251.drop 40).take 40) ((kc_251.drop 40).take 40) = true := by decide +kernel
theorem kx_251_80 : ko_k "QuillDeskModel" (decide ("flock" = "<init>")) 8 prog_13_method_96_code (kpl kr_251 prog_13_method_96_code.size) ((kr_251.drop 80).take 40) ((kc_251.drop 80).take 40) = true := by decide +kernel
theorem kx_251_120 : ko_k "QuillDeskModel" (decide ("flock" = "<init>")) 8 prog_13_method_96_code (kpl kr_251 prog_13_method_96_code.size) (kr_251.drop 120) (kc_251.drop 120) = true := by decide +kernel
theorem kk_251 : ko_k "QuillDeskModel" (decide ("flock" = "<init>")) 8 prog_13_method_96_code (kpl kr_251 prog_13_method_96_code.size) kr_251 kc_251 = true := ko_k_0 (ko_k_cut 0 40 40 rfl kx_251_0 (ko_k_cut 40 40 80 rfl kx_251_40 (ko_k_cut 80 40 120 rfl kx_251_80 kx_251_120)))
theorem kp_252 : ko_p prog_13_method_97_code.size kr_252 0 = true := by decide +kernel
theorem kx_252_0 : ko_k "QuillDeskModel" (decide ("letters" = "<init>")) 2 prog_13_method_97_code (kpl kr_252 prog_13_method_97_code.size) (kr_252.drop 0) (kc_252.drop 0) = true := by decide +kernel
theorem kk_252 : ko_k "QuillDeskModel" (decide ("letters" = "<init>")) 2 prog_13_method_97_code (kpl kr_252 prog_13_method_97_code.size) kr_252 kc_252 = true := ko_k_0 kx_252_0
theorem kp_253 : ko_p prog_13_method_98_code.size kr_253 0 = true := by decide +kernel
theorem kx_253_0 : ko_k "QuillDeskModel" (decide ("page" = "<init>")) 8 prog_13_method_98_code (kpl kr_253 prog_13_method_98_code.size) ((kr_253.drop 0).take 40) ((kc_253.drop 0).take 40) = true := by decide +kernel
theorem kx_253_40 : ko_k "QuillDeskModel" (decide ("page" = "<init>")) 8 prog_13_method_98_code (kpl kr_253 prog_13_method_98_code.size) ((kr_253.drop 40).take 40) ((kc_253.drop 40).take 40) = true := by decide +kernel
theorem kx_253_80 : ko_k "QuillDeskModel" (decide ("page" = "<init>")) 8 prog_13_method_98_code (kpl kr_253 prog_13_method_98_code.size) ((kr_253.drop 80).take 40) ((kc_253.drop 80).take 40) = true := by decide +kernel
