theorem kx_253_120 : ko_k "QuillDeskModel" (decide ("page" = "<init>")) 8 prog_13_method_98_code (kpl kr_253 prog_13_method_98_code.size) (kr_253.drop 120) (kc_253.drop 120) = true := by decide +kernel
theorem kk_253 : ko_k "QuillDeskModel" (decide ("page" = "<init>")) 8 prog_13_method_98_code (kpl kr_253 prog_13_method_98_code.size) kr_253 kc_253 = true := ko_k_0 (ko_k_cut 0 40 40 rfl kx_253_0 (ko_k_cut 40 40 80 rfl kx_253_40 (ko_k_cut 80 40 120 rfl kx_253_80 kx_253_120)))
theorem kp_254 : ko_p prog_13_method_99_code.size kr_254 0 = true := by decide +kernel
theorem kx_254_0 : ko_k "QuillDeskModel" (decide ("stamp" = "<init>")) 2 prog_13_method_99_code (kpl kr_254 prog_13_method_99_code.size) (kr_254.drop 0) (kc_254.drop 0) = true := by decide +kernel
theorem kk_254 : ko_k "QuillDeskModel" (decide ("stamp" = "<init>")) 2 prog_13_method_99_code (kpl kr_254 prog_13_method_99_code.size) kr_254 kc_254 = true := ko_k_0 kx_254_0
theorem kp_255 : ko_p prog_13_method_100_code.size kr_255 0 = true := by decide +kernel
theorem kx_255_0 : ko_k "QuillDeskModel" (decide ("stamps" = "<init>")) 7 prog_13_method_100_code (kpl kr_255 prog_13_method_100_code.size) ((kr_255.drop 0).take 40) ((kc_255.drop 0).take 40) = true := by decide +kernel
theorem kx_255_40 : ko_k "QuillDeskModel" (decide ("stamps" = "<init>")) 7 prog_13_method_100_code (kpl kr_255 prog_13_method_100_code.size) ((kr_255.drop 40).take 40) ((kc_255.drop 40).take 40) = true := by decide +kernel
theorem kx_255_80 : ko_k "QuillDeskModel" (decide ("stamps" = "<init>")) 7 prog_13_method_100_code (kpl kr_255 prog_13_method_100_code.size) (kr_255.drop 80) (kc_255.drop 80) = true := by decide +kernel
theorem kk_255 : ko_k "QuillDeskModel" (decide ("stamps" = "<init>")) 7 prog_13_method_100_code (kpl kr_255 prog_13_method_100_code.size) kr_255 kc_255 = true := ko_k_0 (ko_k_cut 0 40 40 rfl kx_255_0 (ko_k_cut 40 40 80 rfl kx_255_40 kx_255_80))
theorem kp_256 : ko_p prog_13_method_101_code.size kr_256 0 = true := by decide +kernel
theorem kx_256_0 : ko_k "QuillDeskModel" (decide ("scratch" = "<init>")) 6 prog_13_method_101_code (kpl kr_256 prog_13_method_101_code.size) ((kr_256.drop 0).take 40) ((kc_256.drop 0).take 40) = true := by decide +kernel
theorem kx_256_40 : ko_k "QuillDeskModel" (decide ("scratch" = "<init>")) 6 prog_13_method_101_code (kpl kr_256 prog_13_method_101_code.size) (kr_256.drop 40) (kc_256.drop 40) = true := by decide +kernel
theorem kk_256 : ko_k "QuillDeskModel" (decide ("scratch" = "<init>")) 6 prog_13_method_101_code (kpl kr_256 prog_13_method_101_code.size) kr_256 kc_256 = true := ko_k_0 (ko_k_cut 0 40 40 rfl kx_256_0 kx_256_40)
theorem kp_257 : ko_p prog_13_method_102_code.size kr_257 0 = true := by decide +kernel
theorem kx_257_0 : ko_k "QuillDeskModel" (decide ("threes" = "<init>")) 7 prog_13_method_102_code (kpl kr_257 prog_13_method_102_code.size) ((kr_257.drop 0).take 40) ((kc_257.drop 0).take 40) = true := by decide +kernel
theorem kx_257_40 : ko_k "QuillDeskModel" (decide ("threes" = "<init>")) 7 prog_13_method_102_code (kpl kr_257 prog_13_method_102_code.size) ((kr_257.drop 40).take 40) ((kc_257.drop 40).take 40) = true := by decide +kernel
theorem kx_257_80 : ko_k "QuillDeskModel" (decide ("threes" = "<init>")) 7 prog_13_method_102_code (kpl kr_257 prog_13_method_102_code.size) (kr_257.drop 80) (kc_257.drop 80) = true := by decide +kernel
theorem kk_257 : ko_k "QuillDeskModel" (decide ("threes" = "<init>")) 7 prog_13_method_102_code (kpl kr_257 prog_13_method_102_code.size) kr_257 kc_257 = true := ko_k_0 (ko_k_cut 0 40 40 rfl kx_257_0 (ko_k_cut 40 40 80 rfl kx_257_40 kx_257_80))
theorem kp_258 : ko_p prog_13_method_103_code.size kr_258 0 = true := by decide +kernel
theorem kx_258_0 : ko_k "QuillDeskModel" (decide ("turnsLeft" = "<init>")) 3 prog_13_method_103_code (kpl kr_258 prog_13_method_103_code.size) (kr_258.drop 0) (kc_258.drop 0) = true := by decide +kernel
theorem kk_258 : ko_k "QuillDeskModel" (decide ("turnsLeft" = "<init>")) 3 prog_13_method_103_code (kpl kr_258 prog_13_method_103_code.size) kr_258 kc_258 = true := ko_k_0 kx_258_0
theorem kp_259 : ko_p prog_13_method_104_code.size kr_259 0 = true := by decide +kernel
theorem kx_259_0 : ko_k "QuillDeskModel" (decide ("curve" = "<init>")) 8 prog_13_method_104_code (kpl kr_259 prog_13_method_104_code.size) ((kr_259.drop 0).take 40) ((kc_259.drop 0).take 40) = true := by decide +kernel
theorem kx_259_40 : ko_k "QuillDeskModel" (decide ("curve" = "<init>")) 8 prog_13_method_104_code (kpl kr_259 prog_13_method_104_code.size) ((kr_259.drop 40).take 40) ((kc_259.drop 40).take 40) = true := by decide +kernel
theorem kx_259_80 : ko_k "QuillDeskModel" (decide ("curve" = "<init>")) 8 prog_13_method_104_code (kpl kr_259 prog_13_method_104_code.size) (kr_259.drop 80) (kc_259.drop 80) = true := by decide +kernel
theorem kk_259 : ko_k "QuillDeskModel" (decide ("curve" = "<init>")) 8 prog_13_method_104_code (kpl kr_259 prog_13_method_104_code.size) kr_259 kc_259 = true := ko_k_0 (ko_k_cut 0 40 40 rfl kx_259_0 (ko_k_cut 40 40 80 rfl kx_259_40 kx_259_80))
theorem kp_260 : ko_p prog_13_method_105_code.size kr_260 0 = true := by decide +kernel
theorem kx_260_0 : ko_k "QuillDeskModel" (decide ("quire" = "<init>")) 4 prog_13_method_105_code (kpl kr_260 prog_13_method_105_code.size) ((kr_260.drop 0).take 40) ((kc_260.drop 0).take 40) = true := by decide +kernel
theorem kx_260_40 : ko_k "QuillDeskModel" (decide ("quire" = "<init>")) 4 prog_13_method_105_code (kpl kr_260 prog_13_method_105_code.size) (kr_260.drop 40) (kc_260.drop 40) = true := by decide +kernel
theorem kk_260 : ko_k "QuillDeskModel" (decide ("quire" = "<init>")) 4 prog_13_method_105_code (kpl kr_260 prog_13_method_105_code.size) kr_260 kc_260 = true := ko_k_0 (ko_k_cut 0 40 40 rfl kx_260_0 kx_260_40)
theorem kp_261 : ko_p prog_13_method_106_code.size kr_261 0 = true := by decide +kernel
theorem kx_261_0 : ko_k "QuillDeskModel" (decide ("dot" = "<init>")) 4 prog_13_method_106_code (kpl kr_261 prog_13_method_106_code.size) (kr_261.drop 0) (kc_261.drop 0) = true := by decide +kernel
theorem kk_261 : ko_k "QuillDeskModel" (decide ("dot" = "<init>")) 4 prog_13_method_106_code (kpl kr_261 prog_13_method_106_code.size) kr_261 kc_261 = true := ko_k_0 kx_261_0
theorem kp_262 : ko_p prog_13_method_107_code.size kr_262 0 = true := by decide +kernel
theorem kx_262_0 : ko_k "QuillDeskModel" (decide ("stepsBetween" = "<init>")) 3 prog_13_method_107_code (kpl kr_262 prog_13_method_107_code.size) (kr_262.drop 0) (kc_262.drop 0) = true := by decide +kernel
theorem kk_262 : ko_k "QuillDeskModel" (decide ("stepsBetween" = "<init>")) 3 prog_13_method_107_code (kpl kr_262 prog_13_method_107_code.size) kr_262 kc_262 = true := ko_k_0 kx_262_0
theorem kp_263 : ko_p prog_13_method_108_code.size kr_263 0 = true := by decide +kernel
theorem kx_263_0 : ko_k "QuillDeskModel" (decide ("dots" = "<init>")) 3 prog_13_method_108_code (kpl kr_263 prog_13_method_108_code.size) ((kr_263.drop 0).take 40) ((kc_263.drop 0).take 40) = true := by decide +kernel
theorem kx_263_40 : ko_k "QuillDeskModel" (decide ("dots" = "<init>")) 3 prog_13_method_108_code (kpl kr_263 prog_13_method_108_code.size) ((kr_263.drop 40).take 40) ((kc_263.drop 40).take 40) = true := by decide +kernel
theorem kx_263_80 : ko_k "QuillDeskModel" (decide ("dots" = "<init>")) 3 prog_13_method_108_code (kpl kr_263 prog_13_method_108_code.size) (kr_263.drop 80) (kc_263.drop 80) = true := by decide +kernel
theorem kk_263 : ko_k "QuillDeskModel" (decide ("dots" = "<init>")) 3 prog_13_method_108_code (kpl kr_263 prog_13_method_108_code.size) kr_263 kc_263 = true := ko_k_0 (ko_k_cut 0 40 40 rfl kx_263_0 (ko_k_cut 40 40 80 rfl kx_263_40 kx_263_80))
theorem kp_264 : ko_p prog_13_method_109_code.size kr_264 0 = true := by decide +kernel
theorem kx_264_0 : ko_k "QuillDeskModel" (decide ("isCut" = "<init>")) 2 prog_13_method_109_code (kpl kr_264 prog_13_method_109_code.size) (kr_264.drop 0) (kc_264.drop 0) = true := by decide +kernel
theorem kk_264 : ko_k "QuillDeskModel" (decide ("isCut" = "<init>")) 2 prog_13_method_109_code (kpl kr_264 prog_13_method_109_code.size) kr_264 kc_264 = true := ko_k_0 kx_264_0
theorem kp_265 : ko_p prog_13_method_110_code.size kr_265 0 = true := by decide +kernel
theorem kx_265_0 : ko_k "QuillDeskModel" (decide ("cut" = "<init>")) 2 prog_13_method_110_code (kpl kr_265 prog_13_method_110_code.size) ((kr_265.drop 0).take 40) ((kc_265.drop 0).take 40) = true := by decide +kernel
theorem kx_265_40 : ko_k "QuillDeskModel" (decide ("cut" = "<init>")) 2 prog_13_method_110_code (kpl kr_265 prog_13_method_110_code.size) (kr_265.drop 40) (kc_265.drop 40) = true := by decide +kernel
theorem kk_265 : ko_k "QuillDeskModel" (decide ("cut" = "<init>")) 2 prog_13_method_110_code (kpl kr_265 prog_13_method_110_code.size) kr_265 kc_265 = true := ko_k_0 (ko_k_cut 0 40 40 rfl kx_265_0 kx_265_40)
theorem kp_266 : ko_p prog_13_method_111_code.size kr_266 0 = true := by decide +kernel
theorem kx_266_0 : ko_k "QuillDeskModel" (decide ("plankWith" = "<init>")) 4 prog_13_method_111_code (kpl kr_266 prog_13_method_111_code.size) (kr_266.drop 0) (kc_266.drop 0) = true := by decide +kernel
theorem kk_266 : ko_k "QuillDeskModel" (decide ("plankWith" = "<init>")) 4 prog_13_method_111_code (kpl kr_266 prog_13_method_111_code.size) kr_266 kc_266 = true := ko_k_0 kx_266_0
theorem kp_267 : ko_p prog_13_method_112_code.size kr_267 0 = true := by decide +kernel
theorem kx_267_0 : ko_k "QuillDeskModel" (decide ("planks" = "<init>")) 8 prog_13_method_112_code (kpl kr_267 prog_13_method_112_code.size) ((kr_267.drop 0).take 40) ((kc_267.drop 0).take 40) = true := by decide +kernel
theorem kx_267_40 : ko_k "QuillDeskModel" (decide ("planks" = "<init>")) 8 prog_13_method_112_code (kpl kr_267 prog_13_method_112_code.size) ((kr_267.drop 40).take 40) ((kc_267.drop 40).take 40) = true := by decide +kernel
theorem kx_267_80 : ko_k "QuillDeskModel" (decide ("planks" = "<init>")) 8 prog_13_method_112_code (kpl kr_267 prog_13_method_112_code.size) ((kr_267.drop 80).take 40) ((kc_267.drop 80).take 40) = true := by decide +kernel
theorem kx_267_120 : ko_k "QuillDeskModel" (decide ("planks" = "<init>")) 8 prog_13_method_112_code (kpl kr_267 prog_13_method_112_code.size) (kr_267.drop 120) (kc_267.drop 120) = true := by decide +kernel
theorem kk_267 : ko_k "QuillDeskModel" (decide ("planks" = "<init>")) 8 prog_13_method_112_code (kpl kr_267 prog_13_method_112_code.size) kr_267 kc_267 = true := ko_k_0 (ko_k_cut 0 40 40 rfl kx_267_0 (ko_k_cut 40 40 80 rfl kx_267_40 (ko_k_cut 80 40 120 rfl kx_267_80 kx_267_120)))
theorem kp_268 : ko_p prog_13_method_113_code.size kr_268 0 = true := by decide +kernel
theorem kx_268_0 : ko_k "QuillDeskModel" (decide ("sign" = "<init>")) 2 prog_13_method_113_code (kpl kr_268 prog_13_method_113_code.size) (kr_268.drop 0) (kc_268.drop 0) = true := by decide +kernel
theorem kk_268 : ko_k "QuillDeskModel" (decide ("sign" = "<init>")) 2 prog_13_method_113_code (kpl kr_268 prog_13_method_113_code.size) kr_268 kc_268 = true := ko_k_0 kx_268_0
theorem kp_269 : ko_p prog_13_method_114_code.size kr_269 0 = true := by decide +kernel
theorem kx_269_0 : ko_k "QuillDeskModel" (decide ("compares" = "<init>")) 6 prog_13_method_114_code (kpl kr_269 prog_13_method_114_code.size) (kr_269.drop 0) (kc_269.drop 0) = true := by decide +kernel
theorem kk_269 : ko_k "QuillDeskModel" (decide ("compares" = "<init>")) 6 prog_13_method_114_code (kpl kr_269 prog_13_method_114_code.size) kr_269 kc_269 = true := ko_k_0 kx_269_0
theorem kp_270 : ko_p prog_13_method_115_code.size kr_270 0 = true := by decide +kernel
theorem kx_270_0 : ko_k "QuillDeskModel" (decide ("unlikeRows" = "<init>")) 6 prog_13_method_115_code (kpl kr_270 prog_13_method_115_code.size) ((kr_270.drop 0).take 40) ((kc_270.drop 0).take 40) = true := by decide +kernel
theorem kx_270_40 : ko_k "QuillDeskModel" (decide ("unlikeRows" = "<init>")) 6 prog_13_method_115_code (kpl kr_270 prog_13_method_115_code.size) (kr_270.drop 40) (kc_270.drop 40) = true := by decide +kernel
theorem kk_270 : ko_k "QuillDeskModel" (decide ("unlikeRows" = "<init>")) 6 prog_13_method_115_code (kpl kr_270 prog_13_method_115_code.size) kr_270 kc_270 = true := ko_k_0 (ko_k_cut 0 40 40 rfl kx_270_0 kx_270_40)
theorem kp_271 : ko_p prog_13_method_116_code.size kr_271 0 = true := by decide +kernel
theorem kx_271_0 : ko_k "QuillDeskModel" (decide ("read" = "<init>")) 4 prog_13_method_116_code (kpl kr_271 prog_13_method_116_code.size) ((kr_271.drop 0).take 40) ((kc_271.drop 0).take 40) = true := by decide +kernel
theorem kx_271_40 : ko_k "QuillDeskModel" (decide ("read" = "<init>")) 4 prog_13_method_116_code (kpl kr_271 prog_13_method_116_code.size) (kr_271.drop 40) (kc_271.drop 40) = true := by decide +kernel
theorem kk_271 : ko_k "QuillDeskModel" (decide ("read" = "<init>")) 4 prog_13_method_116_code (kpl kr_271 prog_13_method_116_code.size) kr_271 kc_271 = true := ko_k_0 (ko_k_cut 0 40 40 rfl kx_271_0 kx_271_40)
theorem kp_272 : ko_p prog_13_method_117_code.size kr_272 0 = true := by decide +kernel
theorem kx_272_0 : ko_k "QuillDeskModel" (decide ("leg" = "<init>")) 2 prog_13_method_117_code (kpl kr_272 prog_13_method_117_code.size) (kr_272.drop 0) (kc_272.drop 0) = true := by decide +kernel
theorem kk_272 : ko_k "QuillDeskModel" (decide ("leg" = "<init>")) 2 prog_13_method_117_code (kpl kr_272 prog_13_method_117_code.size) kr_272 kc_272 = true := ko_k_0 kx_272_0
theorem kp_273 : ko_p prog_13_method_118_code.size kr_273 0 = true := by decide +kernel
theorem kx_273_0 : ko_k "QuillDeskModel" (decide ("line" = "<init>")) 8 prog_13_method_118_code (kpl kr_273 prog_13_method_118_code.size) ((kr_273.drop 0).take 40) ((kc_273.drop 0).take 40) = true := by decide +kernel
theorem kx_273_40 : ko_k "QuillDeskModel" (decide ("line" = "<init>")) 8 prog_13_method_118_code (kpl kr_273 prog_13_method_118_code.size) ((kr_273.drop 40).take 40) ((kc_273.drop 40).take 40) = true := by decide +kernel
theorem kx_273_80 : ko_k "QuillDeskModel" (decide ("line" = "<init>")) 8 prog_13_method_118_code (kpl kr_273 prog_13_method_118_code.size) (kr_273.drop 80) (kc_273.drop 80) = true := by decide +kernel
theorem kk_273 : ko_k "QuillDeskModel" (decide ("line" = "<init>")) 8 prog_13_method_118_code (kpl kr_273 prog_13_method_118_code.size) kr_273 kc_273 = true := ko_k_0 (ko_k_cut 0 40 40 rfl kx_273_0 (ko_k_cut 40 40 80 rfl kx_273_40 kx_273_80))
theorem kp_274 : ko_p prog_13_method_119_code.size kr_274 0 = true := by decide +kernel
theorem kx_274_0 : ko_k "QuillDeskModel" (decide ("mirrored" = "<init>")) 5 prog_13_method_119_code (kpl kr_274 prog_13_method_119_code.size) (kr_274.drop 0) (kc_274.drop 0) = true := by decide +kernel
theorem kk_274 : ko_k "QuillDeskModel" (decide ("mirrored" = "<init>")) 5 prog_13_method_119_code (kpl kr_274 prog_13_method_119_code.size) kr_274 kc_274 = true := ko_k_0 kx_274_0
theorem kp_275 : ko_p prog_13_method_120_code.size kr_275 0 = true := by decide +kernel
theorem kx_275_0 : ko_k "QuillDeskModel" (decide ("water" = "<init>")) 6 prog_13_method_120_code (kpl kr_275 prog_13_method_120_code.size) ((kr_275.drop 0).take 40) ((kc_275.drop 0).take 40) = true := by decide +kernel
theorem kx_275_40 : ko_k "QuillDeskModel" (decide ("water" = "<init>")) 6 prog_13_method_120_code (kpl kr_275 prog_13_method_120_code.size) (kr_275.drop 40) (kc_275.drop 40) = true := by decide +kernel
theorem kk_275 : ko_k "QuillDeskModel" (decide ("water" = "<init>")) 6 prog_13_method_120_code (kpl kr_275 prog_13_method_120_code.size) kr_275 kc_275 = true := ko_k_0 (ko_k_cut 0 40 40 rfl kx_275_0 kx_275_40)
theorem kp_276 : ko_p prog_13_method_121_code.size kr_276 0 = true := by decide +kernel
theorem kx_276_0 : ko_k "QuillDeskModel" (decide ("weight" = "<init>")) 2 prog_13_method_121_code (kpl kr_276 prog_13_method_121_code.size) (kr_276.drop 0) (kc_276.drop 0) = true := by decide +kernel
theorem kk_276 : ko_k "QuillDeskModel" (decide ("weight" = "<init>")) 2 prog_13_method_121_code (kpl kr_276 prog_13_method_121_code.size) kr_276 kc_276 = true := ko_k_0 kx_276_0
theorem kp_277 : ko_p prog_13_method_122_code.size kr_277 0 = true := by decide +kernel
theorem kx_277_0 : ko_k "QuillDeskModel" (decide ("lift" = "<init>")) 7 prog_13_method_122_code (kpl kr_277 prog_13_method_122_code.size) ((kr_277.drop 0).take 40) ((kc_277.drop 0).take 40) = true := by decide +kernel
theorem kx_277_40 : ko_k "QuillDeskModel" (decide ("lift" = "<init>")) 7 prog_13_method_122_code (kpl kr_277 prog_13_method_122_code.size) ((kr_277.drop 40).take 40) ((kc_277.drop 40).take 40) = true := by decide +kernel
theorem kx_277_80 : ko_k "QuillDeskModel" (decide ("lift" = "<init>")) 7 prog_13_method_122_code (kpl kr_277 prog_13_method_122_code.size) (kr_277.drop 80) (kc_277.drop 80) = true := by decide +kernel
theorem kk_277 : ko_k "QuillDeskModel" (decide ("lift" = "<init>")) 7 prog_13_method_122_code (kpl kr_277 prog_13_method_122_code.size) kr_277 kc_277 = true := ko_k_0 (ko_k_cut 0 40 40 rfl kx_277_0 (ko_k_cut 40 40 80 rfl kx_277_40 kx_277_80))
theorem kp_278 : ko_p prog_13_method_123_code.size kr_278 0 = true := by decide +kernel
theorem kx_278_0 : ko_k "QuillDeskModel" (decide ("heir" = "<init>")) 2 prog_13_method_123_code (kpl kr_278 prog_13_method_123_code.size) (kr_278.drop 0) (kc_278.drop 0) = true := by decide +kernel
theorem kk_278 : ko_k "QuillDeskModel" (decide ("heir" = "<init>")) 2 prog_13_method_123_code (kpl kr_278 prog_13_method_123_code.size) kr_278 kc_278 = true := ko_k_0 kx_278_0
theorem kp_279 : ko_p prog_13_method_124_code.size kr_279 0 = true := by decide +kernel
theorem kx_279_0 : ko_k "QuillDeskModel" (decide ("sealOf" = "<init>")) 9 prog_13_method_124_code (kpl kr_279 prog_13_method_124_code.size) ((kr_279.drop 0).take 40) ((kc_279.drop 0).take 40) = true := by decide +kernel
theorem kx_279_40 : ko_k "QuillDeskModel" (decide ("sealOf" = "<init>")) 9 prog_13_method_124_code (kpl kr_279 prog_13_method_124_code.size) ((kr_279.drop 40).take 40) ((kc_279.drop 40).take 40) = true := by decide +kernel
theorem kx_279_80 : ko_k "QuillDeskModel" (decide ("sealOf" = "<init>")) 9 prog_13_method_124_code (kpl kr_279 prog_13_method_124_code.size) (kr_279.drop 80) (kc_279.drop 80) = true := by decide +kernel
theorem kk_279 : ko_k "QuillDeskModel" (decide ("sealOf" = "<init>")) 9 prog_13_method_124_code (kpl kr_279 prog_13_method_124_code.size) kr_279 kc_279 = true := ko_k_0 (ko_k_cut 0 40 40 rfl kx_279_0 (ko_k_cut 40 40 80 rfl kx_279_40 kx_279_80))
theorem kp_280 : ko_p prog_13_method_125_code.size kr_280 0 = true := by decide +kernel
theorem kx_280_0 : ko_k "QuillDeskModel" (decide ("seal" = "<init>")) 4 prog_13_method_125_code (kpl kr_280 prog_13_method_125_code.size) ((kr_280.drop 0).take 40) ((kc_280.drop 0).take 40) = true := by decide +kernel
theorem kx_280_40 : ko_k "QuillDeskModel" (decide ("seal" = "<init>")) 4 prog_13_method_125_code (kpl kr_280 prog_13_method_125_code.size) (kr_280.drop 40) (kc_280.drop 40) = true := by decide +kernel
theorem kk_280 : ko_k "QuillDeskModel" (decide ("seal" = "<init>")) 4 prog_13_method_125_code (kpl kr_280 prog_13_method_125_code.size) kr_280 kc_280 = true := ko_k_0 (ko_k_cut 0 40 40 rfl kx_280_0 kx_280_40)
theorem kp_281 : ko_p prog_13_method_126_code.size kr_281 0 = true := by decide +kernel
theorem kx_281_0 : ko_k "QuillDeskModel" (decide ("boxOf" = "<init>")) 4 prog_13_method_126_code (kpl kr_281 prog_13_method_126_code.size) ((kr_281.drop 0).take 40) ((kc_281.drop 0).take 40) = true := by decide +kernel
theorem kx_281_40 : ko_k "QuillDeskModel" (decide ("boxOf" = "<init>")) 4 prog_13_method_126_code (kpl kr_281 prog_13_method_126_code.size) (kr_281.drop 40) (kc_281.drop 40) = true := by decide +kernel
theorem kk_281 : ko_k "QuillDeskModel" (decide ("boxOf" = "<init>")) 4 prog_13_method_126_code (kpl kr_281 prog_13_method_126_code.size) kr_281 kc_281 = true := ko_k_0 (ko_k_cut 0 40 40 rfl kx_281_0 kx_281_40)
theorem kp_282 : ko_p prog_13_method_127_code.size kr_282 0 = true := by decide +kernel
theorem kx_282_0 : ko_k "QuillDeskModel" (decide ("closedBy" = "<init>")) 5 prog_13_method_127_code (kpl kr_282 prog_13_method_127_code.size) (kr_282.drop 0) (kc_282.drop 0) = true := by decide +kernel
theorem kk_282 : ko_k "QuillDeskModel" (decide ("closedBy" = "<init>")) 5 prog_13_method_127_code (kpl kr_282 prog_13_method_127_code.size) kr_282 kc_282 = true := ko_k_0 kx_282_0
theorem kp_283 : ko_p prog_13_method_128_code.size kr_283 0 = true := by decide +kernel
theorem kx_283_0 : ko_k "QuillDeskModel" (decide ("moreWith" = "<init>")) 5 prog_13_method_128_code (kpl kr_283 prog_13_method_128_code.size) (kr_283.drop 0) (kc_283.drop 0) = true := by decide +kernel
theorem kk_283 : ko_k "QuillDeskModel" (decide ("moreWith" = "<init>")) 5 prog_13_method_128_code (kpl kr_283 prog_13_method_128_code.size) kr_283 kc_283 = true := ko_k_0 kx_283_0
theorem kp_284 : ko_p prog_13_method_129_code.size kr_284 0 = true := by decide +kernel
theorem kx_284_0 : ko_k "QuillDeskModel" (decide ("findsMore" = "<init>")) 4 prog_13_method_129_code (kpl kr_284 prog_13_method_129_code.size) (kr_284.drop 0) (kc_284.drop 0) = true := by decide +kernel
theorem kk_284 : ko_k "QuillDeskModel" (decide ("findsMore" = "<init>")) 4 prog_13_method_129_code (kpl kr_284 prog_13_method_129_code.size) kr_284 kc_284 = true := ko_k_0 kx_284_0
theorem kp_285 : ko_p prog_13_method_130_code.size kr_285 0 = true := by decide +kernel
theorem kx_285_0 : ko_k "QuillDeskModel" (decide ("game" = "<init>")) 4 prog_13_method_130_code (kpl kr_285 prog_13_method_130_code.size) ((kr_285.drop 0).take 40) ((kc_285.drop 0).take 40) = true := by decide +kernel
theorem kx_285_40 : ko_k "QuillDeskModel" (decide ("game" = "<init>")) 4 prog_13_method_130_code (kpl kr_285 prog_13_method_130_code.size) (kr_285.drop 40) (kc_285.drop 40) = true := by decide +kernel
theorem kk_285 : ko_k "QuillDeskModel" (decide ("game" = "<init>")) 4 prog_13_method_130_code (kpl kr_285 prog_13_method_130_code.size) kr_285 kc_285 = true := ko_k_0 (ko_k_cut 0 40 40 rfl kx_285_0 kx_285_40)
theorem kp_286 : ko_p prog_13_method_131_code.size kr_286 0 = true := by decide +kernel
theorem kx_286_0 : ko_k "QuillDeskModel" (decide ("keeps" = "<init>")) 2 prog_13_method_131_code (kpl kr_286 prog_13_method_131_code.size) (kr_286.drop 0) (kc_286.drop 0) = true := by decide +kernel
