theorem kk_286 : ko_k "QuillDeskModel" (decide ("keeps" = "<init>")) 2 prog_13_method_131_code (kpl kr_286 prog_13_method_131_code.size) kr_286 kc_286 = true := ko_k_0 kx_286_0
theorem kp_287 : ko_p prog_13_method_132_code.size kr_287 0 = true := by decide +kernel
theorem kx_287_0 : ko_k "QuillDeskModel" (decide ("keepsLaw" = "<init>")) 2 prog_13_method_132_code (kpl kr_287 prog_13_method_132_code.size) ((kr_287.drop 0).take 40) ((kc_287.drop 0).take 40) = true := by decide +kernel
theorem kx_287_40 : ko_k "QuillDeskModel" (decide ("keepsLaw" = "<init>")) 2 prog_13_method_132_code (kpl kr_287 prog_13_method_132_code.size) ((kr_287.drop 40).take 40) ((kc_287.drop 40).take 40) = true := by decide +kernel
theorem kx_287_80 : ko_k "QuillDeskModel" (decide ("keepsLaw" = "<init>")) 2 prog_13_method_132_code (kpl kr_287 prog_13_method_132_code.size) (kr_287.drop 80) (kc_287.drop 80) = true := by decide +kernel
theorem kk_287 : ko_k "QuillDeskModel" (decide ("keepsLaw" = "<init>")) 2 prog_13_method_132_code (kpl kr_287 prog_13_method_132_code.size) kr_287 kc_287 = true := ko_k_0 (ko_k_cut 0 40 40 rfl kx_287_0 (ko_k_cut 40 40 80 rfl kx_287_40 kx_287_80))
theorem kp_288 : ko_p prog_13_method_133_code.size kr_288 0 = true := by decide +kernel
theorem kx_288_0 : ko_k "QuillDeskModel" (decide ("keepsMany" = "<init>")) 1 prog_13_method_133_code (kpl kr_288 prog_13_method_133_code.size) ((kr_288.drop 0).take 40) ((kc_288.drop 0).take 40) = true := by decide +kernel
theorem kx_288_40 : ko_k "QuillDeskModel" (decide ("keepsMany" = "<init>")) 1 prog_13_method_133_code (kpl kr_288 prog_13_method_133_code.size) ((kr_288.drop 40).take 40) ((kc_288.drop 40).take 40) = true := by decide +kernel
theorem kx_288_80 : ko_k "QuillDeskModel" (decide ("keepsMany" = "<init>")) 1 prog_13_method_133_code (kpl kr_288 prog_13_method_133_code.size) (kr_288.drop 80) (kc_288.drop 80) = true := by decide +kernel
theorem kk_288 : ko_k "QuillDeskModel" (decide ("keepsMany" = "<init>")) 1 prog_13_method_133_code (kpl kr_288 prog_13_method_133_code.size) kr_288 kc_288 = true := ko_k_0 (ko_k_cut 0 40 40 rfl kx_288_0 (ko_k_cut 40 40 80 rfl kx_288_40 kx_288_80))
theorem kp_289 : ko_p prog_13_method_134_code.size kr_289 0 = true := by decide +kernel
theorem kx_289_0 : ko_k "QuillDeskModel" (decide ("keepsTold" = "<init>")) 2 prog_13_method_134_code (kpl kr_289 prog_13_method_134_code.size) ((kr_289.drop 0).take 40) ((kc_289.drop 0).take 40) = true := by decide +kernel
theorem kx_289_40 : ko_k "QuillDeskModel" (decide ("keepsTold" = "<init>")) 2 prog_13_method_134_code (kpl kr_289 prog_13_method_134_code.size) ((kr_289.drop 40).take 40) ((kc_289.drop 40).take 40) = true := by decide +kernel
theorem kx_289_80 : ko_k "QuillDeskModel" (decide ("keepsTold" = "<init>")) 2 prog_13_method_134_code (kpl kr_289 prog_13_method_134_code.size) ((kr_289.drop 80).take 40) ((kc_289.drop 80).take 40) = true := by decide +kernel
theorem kx_289_120 : ko_k "QuillDeskModel" (decide ("keepsTold" = "<init>")) 2 prog_13_method_134_code (kpl kr_289 prog_13_method_134_code.size) ((kr_289.drop 120).take 40) ((kc_289.drop 120).take 40) = true := by decide +kernel
theorem kx_289_160 : ko_k "QuillDeskModel" (decide ("keepsTold" = "<init>")) 2 prog_13_method_134_code (kpl kr_289 prog_13_method_134_code.size) ((kr_289.drop 160).take 40) ((kc_289.drop 160).take 40) = true := by decide +kernel
theorem kx_289_200 : ko_k "QuillDeskModel" (decide ("keepsTold" = "<init>")) 2 prog_13_method_134_code (kpl kr_289 prog_13_method_134_code.size) (kr_289.drop 200) (kc_289.drop 200) = true := by decide +kernel
theorem kk_289 : ko_k "QuillDeskModel" (decide ("keepsTold" = "<init>")) 2 prog_13_method_134_code (kpl kr_289 prog_13_method_134_code.size) kr_289 kc_289 = true := ko_k_0 (ko_k_cut 0 40 40 rfl kx_289_0 (ko_k_cut 40 40 80 rfl kx_289_40 (ko_k_cut 80 40 120 rfl kx_289_80 (ko_k_cut 120 40 160 rfl kx_289_120 (ko_k_cut 160 40 200 rfl kx_289_160 kx_289_200)))))
theorem kp_290 : ko_p prog_13_method_135_code.size kr_290 0 = true := by decide +kernel
theorem kx_290_0 : ko_k "QuillDeskModel" (decide ("image" = "<init>")) 3 prog_13_method_135_code (kpl kr_290 prog_13_method_135_code.size) ((kr_290.drop 0).take 40) ((kc_290.drop 0).take 40) = true := by decide +kernel
theorem kx_290_40 : ko_k "QuillDeskModel" (decide ("image" = "<init>")) 3 prog_13_method_135_code (kpl kr_290 prog_13_method_135_code.size) (kr_290.drop 40) (kc_290.drop 40) = true := by decide +kernel
theorem kk_290 : ko_k "QuillDeskModel" (decide ("image" = "<init>")) 3 prog_13_method_135_code (kpl kr_290 prog_13_method_135_code.size) kr_290 kc_290 = true := ko_k_0 (ko_k_cut 0 40 40 rfl kx_290_0 kx_290_40)
theorem kp_291 : ko_p prog_13_method_136_code.size kr_291 0 = true := by decide +kernel
theorem kx_291_0 : ko_k "QuillDeskModel" (decide ("look" = "<init>")) 2 prog_13_method_136_code (kpl kr_291 prog_13_method_136_code.size) ((kr_291.drop 0).take 40) ((kc_291.drop 0).take 40) = true := by decide +kernel
theorem kx_291_40 : ko_k "QuillDeskModel" (decide ("look" = "<init>")) 2 prog_13_method_136_code (kpl kr_291 prog_13_method_136_code.size) ((kr_291.drop 40).take 40) ((kc_291.drop 40).take 40) = true := by decide +kernel
theorem kx_291_80 : ko_k "QuillDeskModel" (decide ("look" = "<init>")) 2 prog_13_method_136_code (kpl kr_291 prog_13_method_136_code.size) (kr_291.drop 80) (kc_291.drop 80) = true := by decide +kernel
theorem kk_291 : ko_k "QuillDeskModel" (decide ("look" = "<init>")) 2 prog_13_method_136_code (kpl kr_291 prog_13_method_136_code.size) kr_291 kc_291 = true := ko_k_0 (ko_k_cut 0 40 40 rfl kx_291_0 (ko_k_cut 40 40 80 rfl kx_291_40 kx_291_80))
theorem kp_292 : ko_p prog_14_method_49_code.size kr_292 0 = true := by decide +kernel
theorem kx_292_0 : ko_k "java/lang/Integer" (decide ("bitCount" = "<init>")) 1 prog_14_method_49_code (kpl kr_292 prog_14_method_49_code.size) ((kr_292.drop 0).take 40) ((kc_292.drop 0).take 40) = true := by decide +kernel
theorem kx_292_40 : ko_k "java/lang/Integer" (decide ("bitCount" = "<init>")) 1 prog_14_method_49_code (kpl kr_292 prog_14_method_49_code.size) (kr_292.drop 40) (kc_292.drop 40) = true := by decide +kernel
theorem kk_292 : ko_k "java/lang/Integer" (decide ("bitCount" = "<init>")) 1 prog_14_method_49_code (kpl kr_292 prog_14_method_49_code.size) kr_292 kc_292 = true := ko_k_0 (ko_k_cut 0 40 40 rfl kx_292_0 kx_292_40)
theorem kp_293 : ko_p prog_15_method_50_code.size kr_293 0 = true := by decide +kernel
theorem kx_293_0 : ko_k "java/lang/Math" (decide ("floorMod" = "<init>")) 3 prog_15_method_50_code (kpl kr_293 prog_15_method_50_code.size) (kr_293.drop 0) (kc_293.drop 0) = true := by decide +kernel
theorem kk_293 : ko_k "java/lang/Math" (decide ("floorMod" = "<init>")) 3 prog_15_method_50_code (kpl kr_293 prog_15_method_50_code.size) kr_293 kc_293 = true := ko_k_0 kx_293_0
theorem kp_294 : ko_p prog_15_method_59_code.size kr_294 0 = true := by decide +kernel
theorem kx_294_0 : ko_k "java/lang/Math" (decide ("abs" = "<init>")) 1 prog_15_method_59_code (kpl kr_294 prog_15_method_59_code.size) (kr_294.drop 0) (kc_294.drop 0) = true := by decide +kernel
theorem kk_294 : ko_k "java/lang/Math" (decide ("abs" = "<init>")) 1 prog_15_method_59_code (kpl kr_294 prog_15_method_59_code.size) kr_294 kc_294 = true := ko_k_0 kx_294_0
theorem kp_295 : ko_p prog_15_method_65_code.size kr_295 0 = true := by decide +kernel
theorem kx_295_0 : ko_k "java/lang/Math" (decide ("max" = "<init>")) 2 prog_15_method_65_code (kpl kr_295 prog_15_method_65_code.size) (kr_295.drop 0) (kc_295.drop 0) = true := by decide +kernel
theorem kk_295 : ko_k "java/lang/Math" (decide ("max" = "<init>")) 2 prog_15_method_65_code (kpl kr_295 prog_15_method_65_code.size) kr_295 kc_295 = true := ko_k_0 kx_295_0
theorem kp_296 : ko_p prog_15_method_69_code.size kr_296 0 = true := by decide +kernel
theorem kx_296_0 : ko_k "java/lang/Math" (decide ("min" = "<init>")) 2 prog_15_method_69_code (kpl kr_296 prog_15_method_69_code.size) (kr_296.drop 0) (kc_296.drop 0) = true := by decide +kernel
theorem kk_296 : ko_k "java/lang/Math" (decide ("min" = "<init>")) 2 prog_15_method_69_code (kpl kr_296 prog_15_method_69_code.size) kr_296 kc_296 = true := ko_k_0 kx_296_0
theorem kp_297 : ko_p prog_16_method_54_code.size kr_297 0 = true := by decide +kernel
theorem kx_297_0 : ko_k "java/lang/String" (decide ("length" = "<init>")) 1 prog_16_method_54_code (kpl kr_297 prog_16_method_54_code.size) (kr_297.drop 0) (kc_297.drop 0) = true := by decide +kernel
theorem kk_297 : ko_k "java/lang/String" (decide ("length" = "<init>")) 1 prog_16_method_54_code (kpl kr_297 prog_16_method_54_code.size) kr_297 kc_297 = true := ko_k_0 kx_297_0
theorem kp_298 : ko_p prog_16_method_56_code.size kr_298 0 = true := by decide +kernel
theorem kx_298_0 : ko_k "java/lang/String" (decide ("charAt" = "<init>")) 2 prog_16_method_56_code (kpl kr_298 prog_16_method_56_code.size) (kr_298.drop 0) (kc_298.drop 0) = true := by decide +kernel
theorem kk_298 : ko_k "java/lang/String" (decide ("charAt" = "<init>")) 2 prog_16_method_56_code (kpl kr_298 prog_16_method_56_code.size) kr_298 kc_298 = true := ko_k_0 kx_298_0
theorem kp_299 : ko_p prog_16_method_152_code.size kr_299 0 = true := by decide +kernel
theorem kx_299_0 : ko_k "java/lang/String" (decide ("coder" = "<init>")) 1 prog_16_method_152_code (kpl kr_299 prog_16_method_152_code.size) (kr_299.drop 0) (kc_299.drop 0) = true := by decide +kernel
theorem kk_299 : ko_k "java/lang/String" (decide ("coder" = "<init>")) 1 prog_16_method_152_code (kpl kr_299 prog_16_method_152_code.size) kr_299 kc_299 = true := ko_k_0 kx_299_0
theorem kp_300 : ko_p prog_16_method_154_code.size kr_300 0 = true := by decide +kernel
theorem kx_300_0 : ko_k "java/lang/String" (decide ("isLatin1" = "<init>")) 1 prog_16_method_154_code (kpl kr_300 prog_16_method_154_code.size) (kr_300.drop 0) (kc_300.drop 0) = true := by decide +kernel
theorem kk_300 : ko_k "java/lang/String" (decide ("isLatin1" = "<init>")) 1 prog_16_method_154_code (kpl kr_300 prog_16_method_154_code.size) kr_300 kc_300 = true := ko_k_0 kx_300_0
theorem kp_301 : ko_p prog_16_method_155_code.size kr_301 0 = true := by decide +kernel
theorem kx_301_0 : ko_k "java/lang/String" (decide ("checkIndex" = "<init>")) 2 prog_16_method_155_code (kpl kr_301 prog_16_method_155_code.size) (kr_301.drop 0) (kc_301.drop 0) = true := by decide +kernel
theorem kk_301 : ko_k "java/lang/String" (decide ("checkIndex" = "<init>")) 2 prog_16_method_155_code (kpl kr_301 prog_16_method_155_code.size) kr_301 kc_301 = true := ko_k_0 kx_301_0
theorem kp_302 : ko_p prog_17_method_2_code.size kr_302 0 = true := by decide +kernel
theorem kx_302_0 : ko_k "java/lang/StringLatin1" (decide ("charAt" = "<init>")) 2 prog_17_method_2_code (kpl kr_302 prog_17_method_2_code.size) (kr_302.drop 0) (kc_302.drop 0) = true := by decide +kernel
theorem kk_302 : ko_k "java/lang/StringLatin1" (decide ("charAt" = "<init>")) 2 prog_17_method_2_code (kpl kr_302 prog_17_method_2_code.size) kr_302 kc_302 = true := ko_k_0 kx_302_0
theorem kp_303 : ko_p prog_20_method_11_code.size kr_303 0 = true := by decide +kernel
theorem kx_303_0 : ko_k "jdk/internal/util/Preconditions" (decide ("checkIndex" = "<init>")) 3 prog_20_method_11_code (kpl kr_303 prog_20_method_11_code.size) (kr_303.drop 0) (kc_303.drop 0) = true := by decide +kernel
theorem kk_303 : ko_k "jdk/internal/util/Preconditions" (decide ("checkIndex" = "<init>")) 3 prog_20_method_11_code (kpl kr_303 prog_20_method_11_code.size) kr_303 kc_303 = true := ko_k_0 kx_303_0
theorem kp_304 : ko_p code.size kr_304 0 = true := by decide +kernel
theorem kx_304_0 : ko_k "QuillDeskLaw" (decide ("law" = "<init>")) 4 code (kpl kr_304 code.size) ((kr_304.drop 0).take 40) ((kc_304.drop 0).take 40) = true := by decide +kernel
theorem kx_304_40 : ko_k "QuillDeskLaw" (decide ("law" = "<init>")) 4 code (kpl kr_304 code.size) ((kr_304.drop 40).take 40) ((kc_304.drop 40).take 40) = true := by decide +kernel
theorem kx_304_80 : ko_k "QuillDeskLaw" (decide ("law" = "<init>")) 4 code (kpl kr_304 code.size) ((kr_304.drop 80).take 40) ((kc_304.drop 80).take 40) = true := by decide +kernel
theorem kx_304_120 : ko_k "QuillDeskLaw" (decide ("law" = "<init>")) 4 code (kpl kr_304 code.size) ((kr_304.drop 120).take 40) ((kc_304.drop 120).take 40) = true := by decide +kernel
theorem kx_304_160 : ko_k "QuillDeskLaw" (decide ("law" = "<init>")) 4 code (kpl kr_304 code.size) ((kr_304.drop 160).take 40) ((kc_304.drop 160).take 40) = true := by decide +kernel
theorem kx_304_200 : ko_k "QuillDeskLaw" (decide ("law" = "<init>")) 4 code (kpl kr_304 code.size) ((kr_304.drop 200).take 40) ((kc_304.drop 200).take 40) = true := by decide +kernel
theorem kx_304_240 : ko_k "QuillDeskLaw" (decide ("law" = "<init>")) 4 code (kpl kr_304 code.size) ((kr_304.drop 240).take 40) ((kc_304.drop 240).take 40) = true := by decide +kernel
theorem kx_304_280 : ko_k "QuillDeskLaw" (decide ("law" = "<init>")) 4 code (kpl kr_304 code.size) ((kr_304.drop 280).take 40) ((kc_304.drop 280).take 40) = true := by decide +kernel
theorem kx_304_320 : ko_k "QuillDeskLaw" (decide ("law" = "<init>")) 4 code (kpl kr_304 code.size) ((kr_304.drop 320).take 40) ((kc_304.drop 320).take 40) = true := by decide +kernel
theorem kx_304_360 : ko_k "QuillDeskLaw" (decide ("law" = "<init>")) 4 code (kpl kr_304 code.size) ((kr_304.drop 360).take 40) ((kc_304.drop 360).take 40) = true := by decide +kernel
theorem kx_304_400 : ko_k "QuillDeskLaw" (decide ("law" = "<init>")) 4 code (kpl kr_304 code.size) ((kr_304.drop 400).take 40) ((kc_304.drop 400).take 40) = true := by decide +kernel
theorem kx_304_440 : ko_k "QuillDeskLaw" (decide ("law" = "<init>")) 4 code (kpl kr_304 code.size) ((kr_304.drop 440).take 40) ((kc_304.drop 440).take 40) = true := by decide +kernel
theorem kx_304_480 : ko_k "QuillDeskLaw" (decide ("law" = "<init>")) 4 code (kpl kr_304 code.size) ((kr_304.drop 480).take 40) ((kc_304.drop 480).take 40) = true := by decide +kernel
theorem kx_304_520 : ko_k "QuillDeskLaw" (decide ("law" = "<init>")) 4 code (kpl kr_304 code.size) ((kr_304.drop 520).take 40) ((kc_304.drop 520).take 40) = true := by decide +kernel
theorem kx_304_560 : ko_k "QuillDeskLaw" (decide ("law" = "<init>")) 4 code (kpl kr_304 code.size) ((kr_304.drop 560).take 40) ((kc_304.drop 560).take 40) = true := by decide +kernel
theorem kx_304_600 : ko_k "QuillDeskLaw" (decide ("law" = "<init>")) 4 code (kpl kr_304 code.size) ((kr_304.drop 600).take 40) ((kc_304.drop 600).take 40) = true := by decide +kernel
theorem kx_304_640 : ko_k "QuillDeskLaw" (decide ("law" = "<init>")) 4 code (kpl kr_304 code.size) ((kr_304.drop 640).take 40) ((kc_304.drop 640).take 40) = true := by decide +kernel
theorem kx_304_680 : ko_k "QuillDeskLaw" (decide ("law" = "<init>")) 4 code (kpl kr_304 code.size) ((kr_304.drop 680).take 40) ((kc_304.drop 680).take 40) = true := by decide +kernel
theorem kx_304_720 : ko_k "QuillDeskLaw" (decide ("law" = "<init>")) 4 code (kpl kr_304 code.size) ((kr_304.drop 720).take 40) ((kc_304.drop 720).take 40) = true := by decide +kernel
theorem kx_304_760 : ko_k "QuillDeskLaw" (decide ("law" = "<init>")) 4 code (kpl kr_304 code.size) ((kr_304.drop 760).take 40) ((kc_304.drop 760).take 40) = true := by decide +kernel
theorem kx_304_800 : ko_k "QuillDeskLaw" (decide ("law" = "<init>")) 4 code (kpl kr_304 code.size) ((kr_304.drop 800).take 40) ((kc_304.drop 800).take 40) = true := by decide +kernel
theorem kx_304_840 : ko_k "QuillDeskLaw" (decide ("law" = "<init>")) 4 code (kpl kr_304 code.size) ((kr_304.drop 840).take 40) ((kc_304.drop 840).take 40) = true := by decide +kernel
theorem kx_304_880 : ko_k "QuillDeskLaw" (decide ("law" = "<init>")) 4 code (kpl kr_304 code.size) ((kr_304.drop 880).take 40) ((kc_304.drop 880).take 40) = true := by decide +kernel
theorem kx_304_920 : ko_k "QuillDeskLaw" (decide ("law" = "<init>")) 4 code (kpl kr_304 code.size) ((kr_304.drop 920).take 40) ((kc_304.drop 920).take 40) = true := by decide +kernel
theorem kx_304_960 : ko_k "QuillDeskLaw" (decide ("law" = "<init>")) 4 code (kpl kr_304 code.size) ((kr_304.drop 960).take 40) ((kc_304.drop 960).take 40) = true := by decide +kernel
theorem kx_304_1000 : ko_k "QuillDeskLaw" (decide ("law" = "<init>")) 4 code (kpl kr_304 code.size) ((kr_304.drop 1000).take 40) ((kc_304.drop 1000).take 40) = true := by decide +kernel
theorem kx_304_1040 : ko_k "QuillDeskLaw" (decide ("law" = "<init>")) 4 code (kpl kr_304 code.size) ((kr_304.drop 1040).take 40) ((kc_304.drop 1040).take 40) = true := by decide +kernel
theorem kx_304_1080 : ko_k "QuillDeskLaw" (decide ("law" = "<init>")) 4 code (kpl kr_304 code.size) (kr_304.drop 1080) (kc_304.drop 1080) = true := by decide +kernel
theorem kk_304 : ko_k "QuillDeskLaw" (decide ("law" = "<init>")) 4 code (kpl kr_304 code.size) kr_304 kc_304 = true := ko_k_0 (ko_k_cut 0 40 40 rfl kx_304_0 (ko_k_cut 40 40 80 rfl kx_304_40 (ko_k_cut 80 40 120 rfl kx_304_80 (ko_k_cut 120 40 160 rfl kx_304_120 (ko_k_cut 160 40 200 rfl kx_304_160 (ko_k_cut 200 40 240 rfl kx_304_200 (ko_k_cut 240 40 280 rfl kx_304_240 (ko_k_cut 280 40 320 rfl kx_304_280 (ko_k_cut 320 40 360 rfl kx_304_320 (ko_k_cut 360 40 400 rfl kx_304_360 (ko_k_cut 400 40 440 rfl kx_304_400 (ko_k_cut 440 40 480 rfl kx_304_440 (ko_k_cut 480 40 520 rfl kx_304_480 (ko_k_cut 520 40 560 rfl kx_304_520 (ko_k_cut 560 40 600 rfl kx_304_560 (ko_k_cut 600 40 640 rfl kx_304_600 (ko_k_cut 640 40 680 rfl kx_304_640 (ko_k_cut 680 40 720 rfl kx_304_680 (ko_k_cut 720 40 760 rfl kx_304_720 (ko_k_cut 760 40 800 rfl kx_304_760 (ko_k_cut 800 40 840 rfl kx_304_800 (ko_k_cut 840 40 880 rfl kx_304_840 (ko_k_cut 880 40 920 rfl kx_304_880 (ko_k_cut 920 40 960 rfl kx_304_920 (ko_k_cut 960 40 1000 rfl kx_304_960 (ko_k_cut 1000 40 1040 rfl kx_304_1000 (ko_k_cut 1040 40 1080 rfl kx_304_1040 kx_304_1080)))))))))))))))))))))))))))
