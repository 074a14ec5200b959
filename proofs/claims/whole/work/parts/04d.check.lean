theorem kk_131 : ko_k "QuillDesk" (decide ("letters" = "<init>")) 2 prog_1_method_21_code (kpl kr_131 prog_1_method_21_code.size) kr_131 kc_131 = true := ko_k_0 kx_131_0
theorem kp_132 : ko_p prog_1_method_22_code.size kr_132 0 = true := by decide +kernel
theorem kx_132_0 : ko_k "QuillDesk" (decide ("page" = "<init>")) 3 prog_1_method_22_code (kpl kr_132 prog_1_method_22_code.size) (kr_132.drop 0) (kc_132.drop 0) = true := by decide +kernel
theorem kk_132 : ko_k "QuillDesk" (decide ("page" = "<init>")) 3 prog_1_method_22_code (kpl kr_132 prog_1_method_22_code.size) kr_132 kc_132 = true := ko_k_0 kx_132_0
theorem kp_133 : ko_p prog_1_method_23_code.size kr_133 0 = true := by decide +kernel
theorem kx_133_0 : ko_k "QuillDesk" (decide ("stamp" = "<init>")) 2 prog_1_method_23_code (kpl kr_133 prog_1_method_23_code.size) (kr_133.drop 0) (kc_133.drop 0) = true := by decide +kernel
theorem kk_133 : ko_k "QuillDesk" (decide ("stamp" = "<init>")) 2 prog_1_method_23_code (kpl kr_133 prog_1_method_23_code.size) kr_133 kc_133 = true := ko_k_0 kx_133_0
theorem kp_134 : ko_p prog_1_method_24_code.size kr_134 0 = true := by decide +kernel
theorem kx_134_0 : ko_k "QuillDesk" (decide ("stamps" = "<init>")) 2 prog_1_method_24_code (kpl kr_134 prog_1_method_24_code.size) (kr_134.drop 0) (kc_134.drop 0) = true := by decide +kernel
theorem kk_134 : ko_k "QuillDesk" (decide ("stamps" = "<init>")) 2 prog_1_method_24_code (kpl kr_134 prog_1_method_24_code.size) kr_134 kc_134 = true := ko_k_0 kx_134_0
theorem kp_135 : ko_p prog_1_method_25_code.size kr_135 0 = true := by decide +kernel
theorem kx_135_0 : ko_k "QuillDesk" (decide ("scratch" = "<init>")) 3 prog_1_method_25_code (kpl kr_135 prog_1_method_25_code.size) (kr_135.drop 0) (kc_135.drop 0) = true := by decide +kernel
theorem kk_135 : ko_k "QuillDesk" (decide ("scratch" = "<init>")) 3 prog_1_method_25_code (kpl kr_135 prog_1_method_25_code.size) kr_135 kc_135 = true := ko_k_0 kx_135_0
theorem kp_136 : ko_p prog_1_method_26_code.size kr_136 0 = true := by decide +kernel
theorem kx_136_0 : ko_k "QuillDesk" (decide ("threes" = "<init>")) 3 prog_1_method_26_code (kpl kr_136 prog_1_method_26_code.size) (kr_136.drop 0) (kc_136.drop 0) = true := by decide +kernel
theorem kk_136 : ko_k "QuillDesk" (decide ("threes" = "<init>")) 3 prog_1_method_26_code (kpl kr_136 prog_1_method_26_code.size) kr_136 kc_136 = true := ko_k_0 kx_136_0
theorem kp_137 : ko_p prog_1_method_27_code.size kr_137 0 = true := by decide +kernel
theorem kx_137_0 : ko_k "QuillDesk" (decide ("curve" = "<init>")) 5 prog_1_method_27_code (kpl kr_137 prog_1_method_27_code.size) ((kr_137.drop 0).take 40) ((kc_137.drop 0).take 40) = true := by decide +kernel
theorem kx_137_40 : ko_k "QuillDesk" (decide ("curve" = "<init>")) 5 prog_1_method_27_code (kpl kr_137 prog_1_method_27_code.size) (kr_137.drop 40) (kc_137.drop 40) = true := by decide +kernel
theorem kk_137 : ko_k "QuillDesk" (decide ("curve" = "<init>")) 5 prog_1_method_27_code (kpl kr_137 prog_1_method_27_code.size) kr_137 kc_137 = true := ko_k_0 (ko_k_cut 0 40 40 rfl kx_137_0 kx_137_40)
theorem kp_138 : ko_p prog_1_method_28_code.size kr_138 0 = true := by decide +kernel
theorem kx_138_0 : ko_k "QuillDesk" (decide ("quire" = "<init>")) 4 prog_1_method_28_code (kpl kr_138 prog_1_method_28_code.size) ((kr_138.drop 0).take 40) ((kc_138.drop 0).take 40) = true := by decide +kernel
theorem kx_138_40 : ko_k "QuillDesk" (decide ("quire" = "<init>")) 4 prog_1_method_28_code (kpl kr_138 prog_1_method_28_code.size) (kr_138.drop 40) (kc_138.drop 40) = true := by decide +kernel
theorem kk_138 : ko_k "QuillDesk" (decide ("quire" = "<init>")) 4 prog_1_method_28_code (kpl kr_138 prog_1_method_28_code.size) kr_138 kc_138 = true := ko_k_0 (ko_k_cut 0 40 40 rfl kx_138_0 kx_138_40)
theorem kp_139 : ko_p prog_1_method_29_code.size kr_139 0 = true := by decide +kernel
theorem kx_139_0 : ko_k "QuillDesk" (decide ("dot" = "<init>")) 4 prog_1_method_29_code (kpl kr_139 prog_1_method_29_code.size) (kr_139.drop 0) (kc_139.drop 0) = true := by decide +kernel
theorem kk_139 : ko_k "QuillDesk" (decide ("dot" = "<init>")) 4 prog_1_method_29_code (kpl kr_139 prog_1_method_29_code.size) kr_139 kc_139 = true := ko_k_0 kx_139_0
theorem kp_140 : ko_p prog_1_method_30_code.size kr_140 0 = true := by decide +kernel
theorem kx_140_0 : ko_k "QuillDesk" (decide ("dots" = "<init>")) 2 prog_1_method_30_code (kpl kr_140 prog_1_method_30_code.size) (kr_140.drop 0) (kc_140.drop 0) = true := by decide +kernel
theorem kk_140 : ko_k "QuillDesk" (decide ("dots" = "<init>")) 2 prog_1_method_30_code (kpl kr_140 prog_1_method_30_code.size) kr_140 kc_140 = true := ko_k_0 kx_140_0
theorem kp_141 : ko_p prog_1_method_31_code.size kr_141 0 = true := by decide +kernel
theorem kx_141_0 : ko_k "QuillDesk" (decide ("cut" = "<init>")) 2 prog_1_method_31_code (kpl kr_141 prog_1_method_31_code.size) (kr_141.drop 0) (kc_141.drop 0) = true := by decide +kernel
theorem kk_141 : ko_k "QuillDesk" (decide ("cut" = "<init>")) 2 prog_1_method_31_code (kpl kr_141 prog_1_method_31_code.size) kr_141 kc_141 = true := ko_k_0 kx_141_0
theorem kp_142 : ko_p prog_1_method_32_code.size kr_142 0 = true := by decide +kernel
theorem kx_142_0 : ko_k "QuillDesk" (decide ("planks" = "<init>")) 3 prog_1_method_32_code (kpl kr_142 prog_1_method_32_code.size) (kr_142.drop 0) (kc_142.drop 0) = true := by decide +kernel
theorem kk_142 : ko_k "QuillDesk" (decide ("planks" = "<init>")) 3 prog_1_method_32_code (kpl kr_142 prog_1_method_32_code.size) kr_142 kc_142 = true := ko_k_0 kx_142_0
theorem kp_143 : ko_p prog_1_method_33_code.size kr_143 0 = true := by decide +kernel
theorem kx_143_0 : ko_k "QuillDesk" (decide ("sign" = "<init>")) 2 prog_1_method_33_code (kpl kr_143 prog_1_method_33_code.size) (kr_143.drop 0) (kc_143.drop 0) = true := by decide +kernel
theorem kk_143 : ko_k "QuillDesk" (decide ("sign" = "<init>")) 2 prog_1_method_33_code (kpl kr_143 prog_1_method_33_code.size) kr_143 kc_143 = true := ko_k_0 kx_143_0
theorem kp_144 : ko_p prog_1_method_34_code.size kr_144 0 = true := by decide +kernel
theorem kx_144_0 : ko_k "QuillDesk" (decide ("read" = "<init>")) 2 prog_1_method_34_code (kpl kr_144 prog_1_method_34_code.size) (kr_144.drop 0) (kc_144.drop 0) = true := by decide +kernel
theorem kk_144 : ko_k "QuillDesk" (decide ("read" = "<init>")) 2 prog_1_method_34_code (kpl kr_144 prog_1_method_34_code.size) kr_144 kc_144 = true := ko_k_0 kx_144_0
theorem kp_145 : ko_p prog_1_method_35_code.size kr_145 0 = true := by decide +kernel
theorem kx_145_0 : ko_k "QuillDesk" (decide ("leg" = "<init>")) 2 prog_1_method_35_code (kpl kr_145 prog_1_method_35_code.size) (kr_145.drop 0) (kc_145.drop 0) = true := by decide +kernel
theorem kk_145 : ko_k "QuillDesk" (decide ("leg" = "<init>")) 2 prog_1_method_35_code (kpl kr_145 prog_1_method_35_code.size) kr_145 kc_145 = true := ko_k_0 kx_145_0
theorem kp_146 : ko_p prog_1_method_36_code.size kr_146 0 = true := by decide +kernel
theorem kx_146_0 : ko_k "QuillDesk" (decide ("line" = "<init>")) 2 prog_1_method_36_code (kpl kr_146 prog_1_method_36_code.size) (kr_146.drop 0) (kc_146.drop 0) = true := by decide +kernel
theorem kk_146 : ko_k "QuillDesk" (decide ("line" = "<init>")) 2 prog_1_method_36_code (kpl kr_146 prog_1_method_36_code.size) kr_146 kc_146 = true := ko_k_0 kx_146_0
theorem kp_147 : ko_p prog_1_method_37_code.size kr_147 0 = true := by decide +kernel
theorem kx_147_0 : ko_k "QuillDesk" (decide ("water" = "<init>")) 4 prog_1_method_37_code (kpl kr_147 prog_1_method_37_code.size) (kr_147.drop 0) (kc_147.drop 0) = true := by decide +kernel
theorem kk_147 : ko_k "QuillDesk" (decide ("water" = "<init>")) 4 prog_1_method_37_code (kpl kr_147 prog_1_method_37_code.size) kr_147 kc_147 = true := ko_k_0 kx_147_0
theorem kp_148 : ko_p prog_1_method_38_code.size kr_148 0 = true := by decide +kernel
theorem kx_148_0 : ko_k "QuillDesk" (decide ("weight" = "<init>")) 2 prog_1_method_38_code (kpl kr_148 prog_1_method_38_code.size) (kr_148.drop 0) (kc_148.drop 0) = true := by decide +kernel
theorem kk_148 : ko_k "QuillDesk" (decide ("weight" = "<init>")) 2 prog_1_method_38_code (kpl kr_148 prog_1_method_38_code.size) kr_148 kc_148 = true := ko_k_0 kx_148_0
theorem kp_149 : ko_p prog_1_method_39_code.size kr_149 0 = true := by decide +kernel
theorem kx_149_0 : ko_k "QuillDesk" (decide ("lift" = "<init>")) 3 prog_1_method_39_code (kpl kr_149 prog_1_method_39_code.size) (kr_149.drop 0) (kc_149.drop 0) = true := by decide +kernel
theorem kk_149 : ko_k "QuillDesk" (decide ("lift" = "<init>")) 3 prog_1_method_39_code (kpl kr_149 prog_1_method_39_code.size) kr_149 kc_149 = true := ko_k_0 kx_149_0
theorem kp_150 : ko_p prog_1_method_40_code.size kr_150 0 = true := by decide +kernel
theorem kx_150_0 : ko_k "QuillDesk" (decide ("heir" = "<init>")) 2 prog_1_method_40_code (kpl kr_150 prog_1_method_40_code.size) (kr_150.drop 0) (kc_150.drop 0) = true := by decide +kernel
theorem kk_150 : ko_k "QuillDesk" (decide ("heir" = "<init>")) 2 prog_1_method_40_code (kpl kr_150 prog_1_method_40_code.size) kr_150 kc_150 = true := ko_k_0 kx_150_0
theorem kp_151 : ko_p prog_1_method_41_code.size kr_151 0 = true := by decide +kernel
theorem kx_151_0 : ko_k "QuillDesk" (decide ("seal" = "<init>")) 3 prog_1_method_41_code (kpl kr_151 prog_1_method_41_code.size) (kr_151.drop 0) (kc_151.drop 0) = true := by decide +kernel
theorem kk_151 : ko_k "QuillDesk" (decide ("seal" = "<init>")) 3 prog_1_method_41_code (kpl kr_151 prog_1_method_41_code.size) kr_151 kc_151 = true := ko_k_0 kx_151_0
theorem kp_152 : ko_p prog_1_method_42_code.size kr_152 0 = true := by decide +kernel
theorem kx_152_0 : ko_k "QuillDesk" (decide ("game" = "<init>")) 3 prog_1_method_42_code (kpl kr_152 prog_1_method_42_code.size) (kr_152.drop 0) (kc_152.drop 0) = true := by decide +kernel
theorem kk_152 : ko_k "QuillDesk" (decide ("game" = "<init>")) 3 prog_1_method_42_code (kpl kr_152 prog_1_method_42_code.size) kr_152 kc_152 = true := ko_k_0 kx_152_0
theorem kp_153 : ko_p prog_1_method_43_code.size kr_153 0 = true := by decide +kernel
theorem kx_153_0 : ko_k "QuillDesk" (decide ("undo" = "<init>")) 1 prog_1_method_43_code (kpl kr_153 prog_1_method_43_code.size) (kr_153.drop 0) (kc_153.drop 0) = true := by decide +kernel
theorem kk_153 : ko_k "QuillDesk" (decide ("undo" = "<init>")) 1 prog_1_method_43_code (kpl kr_153 prog_1_method_43_code.size) kr_153 kc_153 = true := ko_k_0 kx_153_0
theorem kp_154 : ko_p prog_1_method_44_code.size kr_154 0 = true := by decide +kernel
theorem kx_154_0 : ko_k "QuillDesk" (decide ("image" = "<init>")) 2 prog_1_method_44_code (kpl kr_154 prog_1_method_44_code.size) (kr_154.drop 0) (kc_154.drop 0) = true := by decide +kernel
theorem kk_154 : ko_k "QuillDesk" (decide ("image" = "<init>")) 2 prog_1_method_44_code (kpl kr_154 prog_1_method_44_code.size) kr_154 kc_154 = true := ko_k_0 kx_154_0
theorem kp_155 : ko_p prog_1_method_45_code.size kr_155 0 = true := by decide +kernel
theorem kx_155_0 : ko_k "QuillDesk" (decide ("look" = "<init>")) 3 prog_1_method_45_code (kpl kr_155 prog_1_method_45_code.size) ((kr_155.drop 0).take 40) ((kc_155.drop 0).take 40) = true := by decide +kernel
theorem kx_155_40 : ko_k "QuillDesk" (decide ("look" = "<init>")) 3 prog_1_method_45_code (kpl kr_155 prog_1_method_45_code.size) (kr_155.drop 40) (kc_155.drop 40) = true := by decide +kernel
theorem kk_155 : ko_k "QuillDesk" (decide ("look" = "<init>")) 3 prog_1_method_45_code (kpl kr_155 prog_1_method_45_code.size) kr_155 kc_155 = true := ko_k_0 (ko_k_cut 0 40 40 rfl kx_155_0 kx_155_40)
theorem kp_156 : ko_p prog_1_method_46_code.size kr_156 0 = true := by decide +kernel
theorem kx_156_0 : ko_k "QuillDesk" (decide ("within" = "<init>")) 3 prog_1_method_46_code (kpl kr_156 prog_1_method_46_code.size) (kr_156.drop 0) (kc_156.drop 0) = true := by decide +kernel
theorem kk_156 : ko_k "QuillDesk" (decide ("within" = "<init>")) 3 prog_1_method_46_code (kpl kr_156 prog_1_method_46_code.size) kr_156 kc_156 = true := ko_k_0 kx_156_0
theorem kp_157 : ko_p prog_13_method_1_code.size kr_157 0 = true := by decide +kernel
theorem kx_157_0 : ko_k "QuillDeskModel" (decide ("<init>" = "<init>")) 1 prog_13_method_1_code (kpl kr_157 prog_13_method_1_code.size) ((kr_157.drop 0).take 40) ((kc_157.drop 0).take 40) = true := by decide +kernel
theorem kx_157_40 : ko_k "QuillDeskModel" (decide ("<init>" = "<init>")) 1 prog_13_method_1_code (kpl kr_157 prog_13_method_1_code.size) ((kr_157.drop 40).take 40) ((kc_157.drop 40).take 40) = true := by decide +kernel
theorem kx_157_80 : ko_k "QuillDeskModel" (decide ("<init>" = "<init>")) 1 prog_13_method_1_code (kpl kr_157 prog_13_method_1_code.size) ((kr_157.drop 80).take 40) ((kc_157.drop 80).take 40) = true := by decide +kernel
theorem kx_157_120 : ko_k "QuillDeskModel" (decide ("<init>" = "<init>")) 1 prog_13_method_1_code (kpl kr_157 prog_13_method_1_code.size) ((kr_157.drop 120).take 40) ((kc_157.drop 120).take 40) = true := by decide +kernel
theorem kx_157_160 : ko_k "QuillDeskModel" (decide ("<init>" = "<init>")) 1 prog_13_method_1_code (kpl kr_157 prog_13_method_1_code.size) ((kr_157.drop 160).take 40) ((kc_157.drop 160).take 40) = true := by decide +kernel
theorem kx_157_200 : ko_k "QuillDeskModel" (decide ("<init>" = "<init>")) 1 prog_13_method_1_code (kpl kr_157 prog_13_method_1_code.size) ((kr_157.drop 200).take 40) ((kc_157.drop 200).take 40) = true := by decide +kernel
theorem kx_157_240 : ko_k "QuillDeskModel" (decide ("<init>" = "<init>")) 1 prog_13_method_1_code (kpl kr_157 prog_13_method_1_code.size) ((kr_157.drop 240).take 40) ((kc_157.drop 240).take 40) = true := by decide +kernel
theorem kx_157_280 : ko_k "QuillDeskModel" (decide ("<init>" = "<init>")) 1 prog_13_method_1_code (kpl kr_157 prog_13_method_1_code.size) ((kr_157.drop 280).take 40) ((kc_157.drop 280).take 40) = true := by decide +kernel
theorem kx_157_320 : ko_k "QuillDeskModel" (decide ("<init>" = "<init>")) 1 prog_13_method_1_code (kpl kr_157 prog_13_method_1_code.size) ((kr_157.drop 320).take 40) ((kc_157.drop 320).take 40) = true := by decide +kernel
theorem kx_157_360 : ko_k "QuillDeskModel" (decide ("<init>" = "<init>")) 1 prog_13_method_1_code (kpl kr_157 prog_13_method_1_code.size) ((kr_157.drop 360).take 40) ((kc_157.drop 360).take 40) = true := by decide +kernel
theorem kx_157_400 : ko_k "QuillDeskModel" (decide ("<init>" = "<init>")) 1 prog_13_method_1_code (kpl kr_157 prog_13_method_1_code.size) ((kr_157.drop 400).take 40) ((kc_157.drop 400).take 40) = true := by decide +kernel
theorem kx_157_440 : ko_k "QuillDeskModel" (decide ("<init>" = "<init>")) 1 prog_13_method_1_code (kpl kr_157 prog_13_method_1_code.size) ((kr_157.drop 440).take 40) ((kc_157.drop 440).take 40) = true := by decide +kernel
theorem kx_157_480 : ko_k "QuillDeskModel" (decide ("<init>" = "<init>")) 1 prog_13_method_1_code (kpl kr_157 prog_13_method_1_code.size) ((kr_157.drop 480).take 40) ((kc_157.drop 480).take 40) = true := by decide +kernel
theorem kx_157_520 : ko_k "QuillDeskModel" (decide ("<init>" = "<init>")) 1 prog_13_method_1_code (kpl kr_157 prog_13_method_1_code.size) ((kr_157.drop 520).take 40) ((kc_157.drop 520).take 40) = true := by decide +kernel
theorem kx_157_560 : ko_k "QuillDeskModel" (decide ("<init>" = "<init>")) 1 prog_13_method_1_code (kpl kr_157 prog_13_method_1_code.size) ((kr_157.drop 560).take 40) ((kc_157.drop 560).take 40) = true := by decide +kernel
theorem kx_157_600 : ko_k "QuillDeskModel" (decide ("<init>" = "<init>")) 1 prog_13_method_1_code (kpl kr_157 prog_13_method_1_code.size) ((kr_157.drop 600).take 40) ((kc_157.drop 600).take 40) = true := by decide +kernel
theorem kx_157_640 : ko_k "QuillDeskModel" (decide ("<init>" = "<init>")) 1 prog_13_method_1_code (kpl kr_157 prog_13_method_1_code.size) ((kr_157.drop 640).take 40) ((kc_157.drop 640).take 40) = true := by decide +kernel
theorem kx_157_680 : ko_k "QuillDeskModel" (decide ("<init>" = "<init>")) 1 prog_13_method_1_code (kpl kr_157 prog_13_method_1_code.size) ((kr_157.drop 680).take 40) ((kc_157.drop 680).take 40) = true := by decide +kernel
theorem kx_157_720 : ko_k "QuillDeskModel" (decide ("<init>" = "<init>")) 1 prog_13_method_1_code (kpl kr_157 prog_13_method_1_code.size) (kr_157.drop 720) (kc_157.drop 720) = true := by decide +kernel
theorem kk_157 : ko_k "QuillDeskModel" (decide ("<init>" = "<init>")) 1 prog_13_method_1_code (kpl kr_157 prog_13_method_1_code.size) kr_157 kc_157 = true := ko_k_0 (ko_k_cut 0 40 40 rfl kx_157_0 (ko_k_cut 40 40 80 rfl kx_157_40 (ko_k_cut 80 40 120 rfl kx_157_80 (ko_k_cut 120 40 160 rfl kx_157_120 (ko_k_cut 160 40 200 rfl kx_157_160 (ko_k_cut 200 40 240 rfl kx_157_200 (ko_k_cut 240 40 280 rfl kx_157_240 (ko_k_cut 280 40 320 rfl kx_157_280 (ko_k_cut 320 40 360 rfl kx_157_320 (ko_k_cut 360 40 400 rfl kx_157_360 (ko_k_cut 400 40 440 rfl kx_157_400 (ko_k_cut 440 40 480 rfl kx_157_440 (ko_k_cut 480 40 520 rfl kx_157_480 (ko_k_cut 520 40 560 rfl kx_157_520 (ko_k_cut 560 40 600 rfl kx_157_560 (ko_k_cut 600 40 640 rfl kx_157_600 (ko_k_cut 640 40 680 rfl kx_157_640 (ko_k_cut 680 40 720 rfl kx_157_680 kx_157_720))))))))))))))))))
theorem kp_158 : ko_p prog_13_method_3_code.size kr_158 0 = true := by decide +kernel
theorem kx_158_0 : ko_k "QuillDeskModel" (decide ("isIn" = "<init>")) 4 prog_13_method_3_code (kpl kr_158 prog_13_method_3_code.size) (kr_158.drop 0) (kc_158.drop 0) = true := by decide +kernel
theorem kk_158 : ko_k "QuillDeskModel" (decide ("isIn" = "<init>")) 4 prog_13_method_3_code (kpl kr_158 prog_13_method_3_code.size) kr_158 kc_158 = true := ko_k_0 kx_158_0
theorem kp_159 : ko_p prog_13_method_4_code.size kr_159 0 = true := by decide +kernel
theorem kx_159_0 : ko_k "QuillDeskModel" (decide ("held" = "<init>")) 4 prog_13_method_4_code (kpl kr_159 prog_13_method_4_code.size) (kr_159.drop 0) (kc_159.drop 0) = true := by decide +kernel
theorem kk_159 : ko_k "QuillDeskModel" (decide ("held" = "<init>")) 4 prog_13_method_4_code (kpl kr_159 prog_13_method_4_code.size) kr_159 kc_159 = true := ko_k_0 kx_159_0
theorem kp_160 : ko_p prog_13_method_5_code.size kr_160 0 = true := by decide +kernel
theorem kx_160_0 : ko_k "QuillDeskModel" (decide ("greater" = "<init>")) 3 prog_13_method_5_code (kpl kr_160 prog_13_method_5_code.size) (kr_160.drop 0) (kc_160.drop 0) = true := by decide +kernel
theorem kk_160 : ko_k "QuillDeskModel" (decide ("greater" = "<init>")) 3 prog_13_method_5_code (kpl kr_160 prog_13_method_5_code.size) kr_160 kc_160 = true := ko_k_0 kx_160_0
theorem kp_161 : ko_p prog_13_method_6_code.size kr_161 0 = true := by decide +kernel
theorem kx_161_0 : ko_k "QuillDeskModel" (decide ("lesser" = "<init>")) 3 prog_13_method_6_code (kpl kr_161 prog_13_method_6_code.size) (kr_161.drop 0) (kc_161.drop 0) = true := by decide +kernel
theorem kk_161 : ko_k "QuillDeskModel" (decide ("lesser" = "<init>")) 3 prog_13_method_6_code (kpl kr_161 prog_13_method_6_code.size) kr_161 kc_161 = true := ko_k_0 kx_161_0
theorem kp_162 : ko_p prog_13_method_7_code.size kr_162 0 = true := by decide +kernel
theorem kx_162_0 : ko_k "QuillDeskModel" (decide ("plain" = "<init>")) 2 prog_13_method_7_code (kpl kr_162 prog_13_method_7_code.size) (kr_162.drop 0) (kc_162.drop 0) = true := by decide +kernel
theorem kk_162 : ko_k "QuillDeskModel" (decide ("plain" = "<init>")) 2 prog_13_method_7_code (kpl kr_162 prog_13_method_7_code.size) kr_162 kc_162 = true := ko_k_0 kx_162_0
theorem kp_163 : ko_p prog_13_method_8_code.size kr_163 0 = true := by decide +kernel
theorem kx_163_0 : ko_k "QuillDeskModel" (decide ("common" = "<init>")) 6 prog_13_method_8_code (kpl kr_163 prog_13_method_8_code.size) (kr_163.drop 0) (kc_163.drop 0) = true := by decide +kernel
theorem kk_163 : ko_k "QuillDeskModel" (decide ("common" = "<init>")) 6 prog_13_method_8_code (kpl kr_163 prog_13_method_8_code.size) kr_163 kc_163 = true := ko_k_0 kx_163_0
theorem kp_164 : ko_p prog_13_method_9_code.size kr_164 0 = true := by decide +kernel
theorem kx_164_0 : ko_k "QuillDeskModel" (decide ("onesOf" = "<init>")) 4 prog_13_method_9_code (kpl kr_164 prog_13_method_9_code.size) (kr_164.drop 0) (kc_164.drop 0) = true := by decide +kernel
theorem kk_164 : ko_k "QuillDeskModel" (decide ("onesOf" = "<init>")) 4 prog_13_method_9_code (kpl kr_164 prog_13_method_9_code.size) kr_164 kc_164 = true := ko_k_0 kx_164_0
theorem kp_165 : ko_p prog_13_method_10_code.size kr_165 0 = true := by decide +kernel
theorem kx_165_0 : ko_k "QuillDeskModel" (decide ("has" = "<init>")) 3 prog_13_method_10_code (kpl kr_165 prog_13_method_10_code.size) (kr_165.drop 0) (kc_165.drop 0) = true := by decide +kernel
theorem kk_165 : ko_k "QuillDeskModel" (decide ("has" = "<init>")) 3 prog_13_method_10_code (kpl kr_165 prog_13_method_10_code.size) kr_165 kc_165 = true := ko_k_0 kx_165_0
theorem kp_166 : ko_p prog_13_method_11_code.size kr_166 0 = true := by decide +kernel
theorem kx_166_0 : ko_k "QuillDeskModel" (decide ("keepsAhead" = "<init>")) 2 prog_13_method_11_code (kpl kr_166 prog_13_method_11_code.size) ((kr_166.drop 0).take 40) ((kc_166.drop 0).take 40) = true := by decide +kernel
theorem kx_166_40 : ko_k "QuillDeskModel" (decide ("keepsAhead" = "<init>")) 2 prog_13_method_11_code (kpl kr_166 prog_13_method_11_code.size) (kr_166.drop 40) (kc_166.drop 40) = true := by decide +kernel
theorem kk_166 : ko_k "QuillDeskModel" (decide ("keepsAhead" = "<init>")) 2 prog_13_method_11_code (kpl kr_166 prog_13_method_11_code.size) kr_166 kc_166 = true := ko_k_0 (ko_k_cut 0 40 40 rfl kx_166_0 kx_166_40)
theorem kp_167 : ko_p prog_13_method_12_code.size kr_167 0 = true := by decide +kernel
theorem kx_167_0 : ko_k "QuillDeskModel" (decide ("undo" = "<init>")) 2 prog_13_method_12_code (kpl kr_167 prog_13_method_12_code.size) (kr_167.drop 0) (kc_167.drop 0) = true := by decide +kernel
theorem kk_167 : ko_k "QuillDeskModel" (decide ("undo" = "<init>")) 2 prog_13_method_12_code (kpl kr_167 prog_13_method_12_code.size) kr_167 kc_167 = true := ko_k_0 kx_167_0
theorem kp_168 : ko_p prog_13_method_13_code.size kr_168 0 = true := by decide +kernel
theorem kx_168_0 : ko_k "QuillDeskModel" (decide ("thinks" = "<init>")) 2 prog_13_method_13_code (kpl kr_168 prog_13_method_13_code.size) (kr_168.drop 0) (kc_168.drop 0) = true := by decide +kernel
theorem kk_168 : ko_k "QuillDeskModel" (decide ("thinks" = "<init>")) 2 prog_13_method_13_code (kpl kr_168 prog_13_method_13_code.size) kr_168 kc_168 = true := ko_k_0 kx_168_0
theorem kp_169 : ko_p prog_13_method_14_code.size kr_169 0 = true := by decide +kernel
theorem kx_169_0 : ko_k "QuillDeskModel" (decide ("endsThought" = "<init>")) 2 prog_13_method_14_code (kpl kr_169 prog_13_method_14_code.size) (kr_169.drop 0) (kc_169.drop 0) = true := by decide +kernel
theorem kk_169 : ko_k "QuillDeskModel" (decide ("endsThought" = "<init>")) 2 prog_13_method_14_code (kpl kr_169 prog_13_method_14_code.size) kr_169 kc_169 = true := ko_k_0 kx_169_0
theorem kp_170 : ko_p prog_13_method_15_code.size kr_170 0 = true := by decide +kernel
theorem kx_170_0 : ko_k "QuillDeskModel" (decide ("state" = "<init>")) 3 prog_13_method_15_code (kpl kr_170 prog_13_method_15_code.size) (kr_170.drop 0) (kc_170.drop 0) = true := by decide +kernel
theorem kk_170 : ko_k "QuillDeskModel" (decide ("state" = "<init>")) 3 prog_13_method_15_code (kpl kr_170 prog_13_method_15_code.size) kr_170 kc_170 = true := ko_k_0 kx_170_0
theorem kp_171 : ko_p prog_13_method_16_code.size kr_171 0 = true := by decide +kernel
theorem kx_171_0 : ko_k "QuillDeskModel" (decide ("draw" = "<init>")) 2 prog_13_method_16_code (kpl kr_171 prog_13_method_16_code.size) (kr_171.drop 0) (kc_171.drop 0) = true := by decide +kernel
theorem kk_171 : ko_k "QuillDeskModel" (decide ("draw" = "<init>")) 2 prog_13_method_16_code (kpl kr_171 prog_13_method_16_code.size) kr_171 kc_171 = true := ko_k_0 kx_171_0
theorem kp_172 : ko_p prog_13_method_17_code.size kr_172 0 = true := by decide +kernel
theorem kx_172_0 : ko_k "QuillDeskModel" (decide ("isQuill" = "<init>")) 2 prog_13_method_17_code (kpl kr_172 prog_13_method_17_code.size) (kr_172.drop 0) (kc_172.drop 0) = true := by decide +kernel
theorem kk_172 : ko_k "QuillDeskModel" (decide ("isQuill" = "<init>")) 2 prog_13_method_17_code (kpl kr_172 prog_13_method_17_code.size) kr_172 kc_172 = true := ko_k_0 kx_172_0
theorem kp_173 : ko_p prog_13_method_18_code.size kr_173 0 = true := by decide +kernel
theorem kx_173_0 : ko_k "QuillDeskModel" (decide ("isClerk" = "<init>")) 2 prog_13_method_18_code (kpl kr_173 prog_13_method_18_code.size) (kr_173.drop 0) (kc_173.drop 0) = true := by decide +kernel
theorem kk_173 : ko_k "QuillDeskModel" (decide ("isClerk" = "<init>")) 2 prog_13_method_18_code (kpl kr_173 prog_13_method_18_code.size) kr_173 kc_173 = true := ko_k_0 kx_173_0
theorem kp_174 : ko_p prog_13_method_19_code.size kr_174 0 = true := by decide +kernel
theorem kx_174_0 : ko_k "QuillDeskModel" (decide ("isDeed" = "<init>")) 2 prog_13_method_19_code (kpl kr_174 prog_13_method_19_code.size) (kr_174.drop 0) (kc_174.drop 0) = true := by decide +kernel
theorem kk_174 : ko_k "QuillDeskModel" (decide ("isDeed" = "<init>")) 2 prog_13_method_19_code (kpl kr_174 prog_13_method_19_code.size) kr_174 kc_174 = true := ko_k_0 kx_174_0
theorem kp_175 : ko_p prog_13_method_20_code.size kr_175 0 = true := by decide +kernel
theorem kx_175_0 : ko_k "QuillDeskModel" (decide ("holds" = "<init>")) 2 prog_13_method_20_code (kpl kr_175 prog_13_method_20_code.size) (kr_175.drop 0) (kc_175.drop 0) = true := by decide +kernel
theorem kk_175 : ko_k "QuillDeskModel" (decide ("holds" = "<init>")) 2 prog_13_method_20_code (kpl kr_175 prog_13_method_20_code.size) kr_175 kc_175 = true := ko_k_0 kx_175_0
theorem kp_176 : ko_p prog_13_method_21_code.size kr_176 0 = true := by decide +kernel
theorem kx_176_0 : ko_k "QuillDeskModel" (decide ("atDeed" = "<init>")) 2 prog_13_method_21_code (kpl kr_176 prog_13_method_21_code.size) (kr_176.drop 0) (kc_176.drop 0) = true := by decide +kernel
theorem kk_176 : ko_k "QuillDeskModel" (decide ("atDeed" = "<init>")) 2 prog_13_method_21_code (kpl kr_176 prog_13_method_21_code.size) kr_176 kc_176 = true := ko_k_0 kx_176_0
theorem kp_177 : ko_p prog_13_method_22_code.size kr_177 0 = true := by decide +kernel
theorem kx_177_0 : ko_k "QuillDeskModel" (decide ("isGone" = "<init>")) 2 prog_13_method_22_code (kpl kr_177 prog_13_method_22_code.size) (kr_177.drop 0) (kc_177.drop 0) = true := by decide +kernel
theorem kk_177 : ko_k "QuillDeskModel" (decide ("isGone" = "<init>")) 2 prog_13_method_22_code (kpl kr_177 prog_13_method_22_code.size) kr_177 kc_177 = true := ko_k_0 kx_177_0
theorem kp_178 : ko_p prog_13_method_23_code.size kr_178 0 = true := by decide +kernel
theorem kx_178_0 : ko_k "QuillDeskModel" (decide ("isDone" = "<init>")) 2 prog_13_method_23_code (kpl kr_178 prog_13_method_23_code.size) (kr_178.drop 0) (kc_178.drop 0) = true := by decide +kernel
theorem kk_178 : ko_k "QuillDeskModel" (decide ("isDone" = "<init>")) 2 prog_13_method_23_code (kpl kr_178 prog_13_method_23_code.size) kr_178 kc_178 = true := ko_k_0 kx_178_0
theorem kp_179 : ko_p prog_13_method_24_code.size kr_179 0 = true := by decide +kernel
theorem kx_179_0 : ko_k "QuillDeskModel" (decide ("whoHolds" = "<init>")) 3 prog_13_method_24_code (kpl kr_179 prog_13_method_24_code.size) (kr_179.drop 0) (kc_179.drop 0) = true := by decide +kernel
theorem kk_179 : ko_k "QuillDeskModel" (decide ("whoHolds" = "<init>")) 3 prog_13_method_24_code (kpl kr_179 prog_13_method_24_code.size) kr_179 kc_179 = true := ko_k_0 kx_179_0
theorem kp_180 : ko_p prog_13_method_25_code.size kr_180 0 = true := by decide +kernel
theorem kx_180_0 : ko_k "QuillDeskModel" (decide ("doneSet" = "<init>")) 3 prog_13_method_25_code (kpl kr_180 prog_13_method_25_code.size) (kr_180.drop 0) (kc_180.drop 0) = true := by decide +kernel
theorem kk_180 : ko_k "QuillDeskModel" (decide ("doneSet" = "<init>")) 3 prog_13_method_25_code (kpl kr_180 prog_13_method_25_code.size) kr_180 kc_180 = true := ko_k_0 kx_180_0
theorem kp_181 : ko_p prog_13_method_26_code.size kr_181 0 = true := by decide +kernel
theorem kx_181_0 : ko_k "QuillDeskModel" (decide ("canBeWritten" = "<init>")) 2 prog_13_method_26_code (kpl kr_181 prog_13_method_26_code.size) (kr_181.drop 0) (kc_181.drop 0) = true := by decide +kernel
theorem kk_181 : ko_k "QuillDeskModel" (decide ("canBeWritten" = "<init>")) 2 prog_13_method_26_code (kpl kr_181 prog_13_method_26_code.size) kr_181 kc_181 = true := ko_k_0 kx_181_0
theorem kp_182 : ko_p prog_13_method_27_code.size kr_182 0 = true := by decide +kernel
theorem kx_182_0 : ko_k "QuillDeskModel" (decide ("quill" = "<init>")) 3 prog_13_method_27_code (kpl kr_182 prog_13_method_27_code.size) ((kr_182.drop 0).take 40) ((kc_182.drop 0).take 40) = true := by decide +kernel
theorem kx_182_40 : ko_k "QuillDeskModel" (decide ("quill" = "<init>")) 3 prog_13_method_27_code (kpl kr_182 prog_13_method_27_code.size) (kr_182.drop 40) (kc_182.drop 40) = true := by decide +kernel
theorem kk_182 : ko_k "QuillDeskModel" (decide ("quill" = "<init>")) 3 prog_13_method_27_code (kpl kr_182 prog_13_method_27_code.size) kr_182 kc_182 = true := ko_k_0 (ko_k_cut 0 40 40 rfl kx_182_0 kx_182_40)
theorem kp_183 : ko_p prog_13_method_28_code.size kr_183 0 = true := by decide +kernel
theorem kx_183_0 : ko_k "QuillDeskModel" (decide ("clerk" = "<init>")) 3 prog_13_method_28_code (kpl kr_183 prog_13_method_28_code.size) ((kr_183.drop 0).take 40) ((kc_183.drop 0).take 40) = true := by decide +kernel
