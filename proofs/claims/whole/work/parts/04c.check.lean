theorem kx_90_40 : ko_k "QuillDesk$Thought" (decide ("payStamps" = "<init>")) 8 prog_11_method_4_code (kpl kr_90 prog_11_method_4_code.size) ((kr_90.drop 40).take 40) ((kc_90.drop 40).take 40) = true := by decide +kernel
theorem kx_90_80 : ko_k "QuillDesk$Thought" (decide ("payStamps" = "<init>")) 8 prog_11_method_4_code (kpl kr_90 prog_11_method_4_code.size) (kr_90.drop 80) (kc_90.drop 80) = true := by decide +kernel
theorem kk_90 : ko_k "QuillDesk$Thought" (decide ("payStamps" = "<init>")) 8 prog_11_method_4_code (kpl kr_90 prog_11_method_4_code.size) kr_90 kc_90 = true := ko_k_0 (ko_k_cut 0 40 40 rfl kx_90_0 (ko_k_cut 40 40 80 rfl kx_90_40 kx_90_80))
theorem kp_91 : ko_p prog_11_method_5_code.size kr_91 0 = true := by decide +kernel
theorem kx_91_0 : ko_k "QuillDesk$Thought" (decide ("commonPart" = "<init>")) 6 prog_11_method_5_code (kpl kr_91 prog_11_method_5_code.size) (kr_91.drop 0) (kc_91.drop 0) = true := by decide +kernel
theorem kk_91 : ko_k "QuillDesk$Thought" (decide ("commonPart" = "<init>")) 6 prog_11_method_5_code (kpl kr_91 prog_11_method_5_code.size) kr_91 kc_91 = true := ko_k_0 kx_91_0
theorem kp_92 : ko_p prog_11_method_6_code.size kr_92 0 = true := by decide +kernel
theorem kx_92_0 : ko_k "QuillDesk$Thought" (decide ("scratchDown" = "<init>")) 5 prog_11_method_6_code (kpl kr_92 prog_11_method_6_code.size) (kr_92.drop 0) (kc_92.drop 0) = true := by decide +kernel
theorem kk_92 : ko_k "QuillDesk$Thought" (decide ("scratchDown" = "<init>")) 5 prog_11_method_6_code (kpl kr_92 prog_11_method_6_code.size) kr_92 kc_92 = true := ko_k_0 kx_92_0
theorem kp_93 : ko_p prog_11_method_7_code.size kr_93 0 = true := by decide +kernel
theorem kx_93_0 : ko_k "QuillDesk$Thought" (decide ("weighByThrees" = "<init>")) 7 prog_11_method_7_code (kpl kr_93 prog_11_method_7_code.size) ((kr_93.drop 0).take 40) ((kc_93.drop 0).take 40) = true := by decide +kernel
theorem kx_93_40 : ko_k "QuillDesk$Thought" (decide ("weighByThrees" = "<init>")) 7 prog_11_method_7_code (kpl kr_93 prog_11_method_7_code.size) (kr_93.drop 40) (kc_93.drop 40) = true := by decide +kernel
theorem kk_93 : ko_k "QuillDesk$Thought" (decide ("weighByThrees" = "<init>")) 7 prog_11_method_7_code (kpl kr_93 prog_11_method_7_code.size) kr_93 kc_93 = true := ko_k_0 (ko_k_cut 0 40 40 rfl kx_93_0 kx_93_40)
theorem kp_94 : ko_p prog_11_method_8_code.size kr_94 0 = true := by decide +kernel
theorem kx_94_0 : ko_k "QuillDesk$Thought" (decide ("turnsLeft" = "<init>")) 3 prog_11_method_8_code (kpl kr_94 prog_11_method_8_code.size) (kr_94.drop 0) (kc_94.drop 0) = true := by decide +kernel
theorem kk_94 : ko_k "QuillDesk$Thought" (decide ("turnsLeft" = "<init>")) 3 prog_11_method_8_code (kpl kr_94 prog_11_method_8_code.size) kr_94 kc_94 = true := ko_k_0 kx_94_0
theorem kp_95 : ko_p prog_11_method_9_code.size kr_95 0 = true := by decide +kernel
theorem kx_95_0 : ko_k "QuillDesk$Thought" (decide ("walkCurve" = "<init>")) 9 prog_11_method_9_code (kpl kr_95 prog_11_method_9_code.size) ((kr_95.drop 0).take 40) ((kc_95.drop 0).take 40) = true := by decide +kernel
theorem kx_95_40 : ko_k "QuillDesk$Thought" (decide ("walkCurve" = "<init>")) 9 prog_11_method_9_code (kpl kr_95 prog_11_method_9_code.size) (kr_95.drop 40) (kc_95.drop 40) = true := by decide +kernel
theorem kk_95 : ko_k "QuillDesk$Thought" (decide ("walkCurve" = "<init>")) 9 prog_11_method_9_code (kpl kr_95 prog_11_method_9_code.size) kr_95 kc_95 = true := ko_k_0 (ko_k_cut 0 40 40 rfl kx_95_0 kx_95_40)
theorem kp_96 : ko_p prog_11_method_10_code.size kr_96 0 = true := by decide +kernel
theorem kx_96_0 : ko_k "QuillDesk$Thought" (decide ("countDots" = "<init>")) 6 prog_11_method_10_code (kpl kr_96 prog_11_method_10_code.size) ((kr_96.drop 0).take 40) ((kc_96.drop 0).take 40) = true := by decide +kernel
theorem kx_96_40 : ko_k "QuillDesk$Thought" (decide ("countDots" = "<init>")) 6 prog_11_method_10_code (kpl kr_96 prog_11_method_10_code.size) ((kr_96.drop 40).take 40) ((kc_96.drop 40).take 40) = true := by decide +kernel
theorem kx_96_80 : ko_k "QuillDesk$Thought" (decide ("countDots" = "<init>")) 6 prog_11_method_10_code (kpl kr_96 prog_11_method_10_code.size) (kr_96.drop 80) (kc_96.drop 80) = true := by decide +kernel
theorem kk_96 : ko_k "QuillDesk$Thought" (decide ("countDots" = "<init>")) 6 prog_11_method_10_code (kpl kr_96 prog_11_method_10_code.size) kr_96 kc_96 = true := ko_k_0 (ko_k_cut 0 40 40 rfl kx_96_0 (ko_k_cut 40 40 80 rfl kx_96_40 kx_96_80))
theorem kp_97 : ko_p prog_11_method_11_code.size kr_97 0 = true := by decide +kernel
theorem kx_97_0 : ko_k "QuillDesk$Thought" (decide ("cutPlank" = "<init>")) 12 prog_11_method_11_code (kpl kr_97 prog_11_method_11_code.size) ((kr_97.drop 0).take 40) ((kc_97.drop 0).take 40) = true := by decide +kernel
theorem kx_97_40 : ko_k "QuillDesk$Thought" (decide ("cutPlank" = "<init>")) 12 prog_11_method_11_code (kpl kr_97 prog_11_method_11_code.size) ((kr_97.drop 40).take 40) ((kc_97.drop 40).take 40) = true := by decide +kernel
theorem kx_97_80 : ko_k "QuillDesk$Thought" (decide ("cutPlank" = "<init>")) 12 prog_11_method_11_code (kpl kr_97 prog_11_method_11_code.size) (kr_97.drop 80) (kc_97.drop 80) = true := by decide +kernel
theorem kk_97 : ko_k "QuillDesk$Thought" (decide ("cutPlank" = "<init>")) 12 prog_11_method_11_code (kpl kr_97 prog_11_method_11_code.size) kr_97 kc_97 = true := ko_k_0 (ko_k_cut 0 40 40 rfl kx_97_0 (ko_k_cut 40 40 80 rfl kx_97_40 kx_97_80))
theorem kp_98 : ko_p prog_11_method_12_code.size kr_98 0 = true := by decide +kernel
theorem kx_98_0 : ko_k "QuillDesk$Thought" (decide ("markPlaces" = "<init>")) 5 prog_11_method_12_code (kpl kr_98 prog_11_method_12_code.size) (kr_98.drop 0) (kc_98.drop 0) = true := by decide +kernel
theorem kk_98 : ko_k "QuillDesk$Thought" (decide ("markPlaces" = "<init>")) 5 prog_11_method_12_code (kpl kr_98 prog_11_method_12_code.size) kr_98 kc_98 = true := ko_k_0 kx_98_0
theorem kp_99 : ko_p prog_11_method_13_code.size kr_99 0 = true := by decide +kernel
theorem kx_99_0 : ko_k "QuillDesk$Thought" (decide ("compareFrom" = "<init>")) 6 prog_11_method_13_code (kpl kr_99 prog_11_method_13_code.size) (kr_99.drop 0) (kc_99.drop 0) = true := by decide +kernel
theorem kk_99 : ko_k "QuillDesk$Thought" (decide ("compareFrom" = "<init>")) 6 prog_11_method_13_code (kpl kr_99 prog_11_method_13_code.size) kr_99 kc_99 = true := ko_k_0 kx_99_0
theorem kp_100 : ko_p prog_11_method_14_code.size kr_100 0 = true := by decide +kernel
theorem kx_100_0 : ko_k "QuillDesk$Thought" (decide ("leastPlace" = "<init>")) 3 prog_11_method_14_code (kpl kr_100 prog_11_method_14_code.size) (kr_100.drop 0) (kc_100.drop 0) = true := by decide +kernel
theorem kk_100 : ko_k "QuillDesk$Thought" (decide ("leastPlace" = "<init>")) 3 prog_11_method_14_code (kpl kr_100 prog_11_method_14_code.size) kr_100 kc_100 = true := ko_k_0 kx_100_0
theorem kp_101 : ko_p prog_11_method_15_code.size kr_101 0 = true := by decide +kernel
theorem kx_101_0 : ko_k "QuillDesk$Thought" (decide ("sameAgain" = "<init>")) 2 prog_11_method_15_code (kpl kr_101 prog_11_method_15_code.size) (kr_101.drop 0) (kc_101.drop 0) = true := by decide +kernel
theorem kk_101 : ko_k "QuillDesk$Thought" (decide ("sameAgain" = "<init>")) 2 prog_11_method_15_code (kpl kr_101 prog_11_method_15_code.size) kr_101 kc_101 = true := ko_k_0 kx_101_0
theorem kp_102 : ko_p prog_11_method_16_code.size kr_102 0 = true := by decide +kernel
theorem kx_102_0 : ko_k "QuillDesk$Thought" (decide ("unlikeRows" = "<init>")) 6 prog_11_method_16_code (kpl kr_102 prog_11_method_16_code.size) ((kr_102.drop 0).take 40) ((kc_102.drop 0).take 40) = true := by decide +kernel
theorem kx_102_40 : ko_k "QuillDesk$Thought" (decide ("unlikeRows" = "<init>")) 6 prog_11_method_16_code (kpl kr_102 prog_11_method_16_code.size) (kr_102.drop 40) (kc_102.drop 40) = true := by decide +kernel
theorem kk_102 : ko_k "QuillDesk$Thought" (decide ("unlikeRows" = "<init>")) 6 prog_11_method_16_code (kpl kr_102 prog_11_method_16_code.size) kr_102 kc_102 = true := ko_k_0 (ko_k_cut 0 40 40 rfl kx_102_0 kx_102_40)
theorem kp_103 : ko_p prog_11_method_17_code.size kr_103 0 = true := by decide +kernel
theorem kx_103_0 : ko_k "QuillDesk$Thought" (decide ("sail" = "<init>")) 8 prog_11_method_17_code (kpl kr_103 prog_11_method_17_code.size) ((kr_103.drop 0).take 40) ((kc_103.drop 0).take 40) = true := by decide +kernel
theorem kx_103_40 : ko_k "QuillDesk$Thought" (decide ("sail" = "<init>")) 8 prog_11_method_17_code (kpl kr_103 prog_11_method_17_code.size) (kr_103.drop 40) (kc_103.drop 40) = true := by decide +kernel
theorem kk_103 : ko_k "QuillDesk$Thought" (decide ("sail" = "<init>")) 8 prog_11_method_17_code (kpl kr_103 prog_11_method_17_code.size) kr_103 kc_103 = true := ko_k_0 (ko_k_cut 0 40 40 rfl kx_103_0 kx_103_40)
theorem kp_104 : ko_p prog_11_method_18_code.size kr_104 0 = true := by decide +kernel
theorem kx_104_0 : ko_k "QuillDesk$Thought" (decide ("mirror" = "<init>")) 4 prog_11_method_18_code (kpl kr_104 prog_11_method_18_code.size) (kr_104.drop 0) (kc_104.drop 0) = true := by decide +kernel
theorem kk_104 : ko_k "QuillDesk$Thought" (decide ("mirror" = "<init>")) 4 prog_11_method_18_code (kpl kr_104 prog_11_method_18_code.size) kr_104 kc_104 = true := ko_k_0 kx_104_0
theorem kp_105 : ko_p prog_11_method_19_code.size kr_105 0 = true := by decide +kernel
theorem kx_105_0 : ko_k "QuillDesk$Thought" (decide ("countMirrored" = "<init>")) 6 prog_11_method_19_code (kpl kr_105 prog_11_method_19_code.size) (kr_105.drop 0) (kc_105.drop 0) = true := by decide +kernel
theorem kk_105 : ko_k "QuillDesk$Thought" (decide ("countMirrored" = "<init>")) 6 prog_11_method_19_code (kpl kr_105 prog_11_method_19_code.size) kr_105 kc_105 = true := ko_k_0 kx_105_0
theorem kp_106 : ko_p prog_11_method_20_code.size kr_106 0 = true := by decide +kernel
theorem kx_106_0 : ko_k "QuillDesk$Thought" (decide ("countOut" = "<init>")) 10 prog_11_method_20_code (kpl kr_106 prog_11_method_20_code.size) ((kr_106.drop 0).take 40) ((kc_106.drop 0).take 40) = true := by decide +kernel
theorem kx_106_40 : ko_k "QuillDesk$Thought" (decide ("countOut" = "<init>")) 10 prog_11_method_20_code (kpl kr_106 prog_11_method_20_code.size) (kr_106.drop 40) (kc_106.drop 40) = true := by decide +kernel
theorem kk_106 : ko_k "QuillDesk$Thought" (decide ("countOut" = "<init>")) 10 prog_11_method_20_code (kpl kr_106 prog_11_method_20_code.size) kr_106 kc_106 = true := ko_k_0 (ko_k_cut 0 40 40 rfl kx_106_0 kx_106_40)
theorem kp_107 : ko_p prog_11_method_21_code.size kr_107 0 = true := by decide +kernel
theorem kx_107_0 : ko_k "QuillDesk$Thought" (decide ("nextThere" = "<init>")) 5 prog_11_method_21_code (kpl kr_107 prog_11_method_21_code.size) (kr_107.drop 0) (kc_107.drop 0) = true := by decide +kernel
theorem kk_107 : ko_k "QuillDesk$Thought" (decide ("nextThere" = "<init>")) 5 prog_11_method_21_code (kpl kr_107 prog_11_method_21_code.size) kr_107 kc_107 = true := ko_k_0 kx_107_0
theorem kp_108 : ko_p prog_11_method_22_code.size kr_108 0 = true := by decide +kernel
theorem kx_108_0 : ko_k "QuillDesk$Thought" (decide ("share" = "<init>")) 9 prog_11_method_22_code (kpl kr_108 prog_11_method_22_code.size) ((kr_108.drop 0).take 40) ((kc_108.drop 0).take 40) = true := by decide +kernel
theorem kx_108_40 : ko_k "QuillDesk$Thought" (decide ("share" = "<init>")) 9 prog_11_method_22_code (kpl kr_108 prog_11_method_22_code.size) ((kr_108.drop 40).take 40) ((kc_108.drop 40).take 40) = true := by decide +kernel
theorem kx_108_80 : ko_k "QuillDesk$Thought" (decide ("share" = "<init>")) 9 prog_11_method_22_code (kpl kr_108 prog_11_method_22_code.size) (kr_108.drop 80) (kc_108.drop 80) = true := by decide +kernel
theorem kk_108 : ko_k "QuillDesk$Thought" (decide ("share" = "<init>")) 9 prog_11_method_22_code (kpl kr_108 prog_11_method_22_code.size) kr_108 kc_108 = true := ko_k_0 (ko_k_cut 0 40 40 rfl kx_108_0 (ko_k_cut 40 40 80 rfl kx_108_40 kx_108_80))
theorem kp_109 : ko_p prog_11_method_23_code.size kr_109 0 = true := by decide +kernel
theorem kx_109_0 : ko_k "QuillDesk$Thought" (decide ("shareOf" = "<init>")) 4 prog_11_method_23_code (kpl kr_109 prog_11_method_23_code.size) (kr_109.drop 0) (kc_109.drop 0) = true := by decide +kernel
theorem kk_109 : ko_k "QuillDesk$Thought" (decide ("shareOf" = "<init>")) 4 prog_11_method_23_code (kpl kr_109 prog_11_method_23_code.size) kr_109 kc_109 = true := ko_k_0 kx_109_0
theorem kp_110 : ko_p prog_11_method_24_code.size kr_110 0 = true := by decide +kernel
theorem kx_110_0 : ko_k "QuillDesk$Thought" (decide ("whoLoses" = "<init>")) 4 prog_11_method_24_code (kpl kr_110 prog_11_method_24_code.size) (kr_110.drop 0) (kc_110.drop 0) = true := by decide +kernel
theorem kk_110 : ko_k "QuillDesk$Thought" (decide ("whoLoses" = "<init>")) 4 prog_11_method_24_code (kpl kr_110 prog_11_method_24_code.size) kr_110 kc_110 = true := ko_k_0 kx_110_0
theorem kp_111 : ko_p prog_1_method_1_code.size kr_111 0 = true := by decide +kernel
theorem kx_111_0 : ko_k "QuillDesk" (decide ("<init>" = "<init>")) 1 prog_1_method_1_code (kpl kr_111 prog_1_method_1_code.size) ((kr_111.drop 0).take 40) ((kc_111.drop 0).take 40) = true := by decide +kernel
theorem kx_111_40 : ko_k "QuillDesk" (decide ("<init>" = "<init>")) 1 prog_1_method_1_code (kpl kr_111 prog_1_method_1_code.size) (kr_111.drop 40) (kc_111.drop 40) = true := by decide +kernel
theorem kk_111 : ko_k "QuillDesk" (decide ("<init>" = "<init>")) 1 prog_1_method_1_code (kpl kr_111 prog_1_method_1_code.size) kr_111 kc_111 = true := ko_k_0 (ko_k_cut 0 40 40 rfl kx_111_0 kx_111_40)
theorem kp_112 : ko_p prog_1_method_2_code.size kr_112 0 = true := by decide +kernel
theorem kx_112_0 : ko_k "QuillDesk" (decide ("state" = "<init>")) 3 prog_1_method_2_code (kpl kr_112 prog_1_method_2_code.size) (kr_112.drop 0) (kc_112.drop 0) = true := by decide +kernel
theorem kk_112 : ko_k "QuillDesk" (decide ("state" = "<init>")) 3 prog_1_method_2_code (kpl kr_112 prog_1_method_2_code.size) kr_112 kc_112 = true := ko_k_0 kx_112_0
theorem kp_113 : ko_p prog_1_method_3_code.size kr_113 0 = true := by decide +kernel
theorem kx_113_0 : ko_k "QuillDesk" (decide ("quill" = "<init>")) 5 prog_1_method_3_code (kpl kr_113 prog_1_method_3_code.size) ((kr_113.drop 0).take 40) ((kc_113.drop 0).take 40) = true := by decide +kernel
theorem kx_113_40 : ko_k "QuillDesk" (decide ("quill" = "<init>")) 5 prog_1_method_3_code (kpl kr_113 prog_1_method_3_code.size) (kr_113.drop 40) (kc_113.drop 40) = true := by decide +kernel
theorem kk_113 : ko_k "QuillDesk" (decide ("quill" = "<init>")) 5 prog_1_method_3_code (kpl kr_113 prog_1_method_3_code.size) kr_113 kc_113 = true := ko_k_0 (ko_k_cut 0 40 40 rfl kx_113_0 kx_113_40)
theorem kp_114 : ko_p prog_1_method_4_code.size kr_114 0 = true := by decide +kernel
theorem kx_114_0 : ko_k "QuillDesk" (decide ("clerk" = "<init>")) 4 prog_1_method_4_code (kpl kr_114 prog_1_method_4_code.size) ((kr_114.drop 0).take 40) ((kc_114.drop 0).take 40) = true := by decide +kernel
theorem kx_114_40 : ko_k "QuillDesk" (decide ("clerk" = "<init>")) 4 prog_1_method_4_code (kpl kr_114 prog_1_method_4_code.size) (kr_114.drop 40) (kc_114.drop 40) = true := by decide +kernel
theorem kk_114 : ko_k "QuillDesk" (decide ("clerk" = "<init>")) 4 prog_1_method_4_code (kpl kr_114 prog_1_method_4_code.size) kr_114 kc_114 = true := ko_k_0 (ko_k_cut 0 40 40 rfl kx_114_0 kx_114_40)
theorem kp_115 : ko_p prog_1_method_5_code.size kr_115 0 = true := by decide +kernel
theorem kx_115_0 : ko_k "QuillDesk" (decide ("deed" = "<init>")) 4 prog_1_method_5_code (kpl kr_115 prog_1_method_5_code.size) ((kr_115.drop 0).take 40) ((kc_115.drop 0).take 40) = true := by decide +kernel
theorem kx_115_40 : ko_k "QuillDesk" (decide ("deed" = "<init>")) 4 prog_1_method_5_code (kpl kr_115 prog_1_method_5_code.size) (kr_115.drop 40) (kc_115.drop 40) = true := by decide +kernel
theorem kk_115 : ko_k "QuillDesk" (decide ("deed" = "<init>")) 4 prog_1_method_5_code (kpl kr_115 prog_1_method_5_code.size) kr_115 kc_115 = true := ko_k_0 (ko_k_cut 0 40 40 rfl kx_115_0 kx_115_40)
theorem kp_116 : ko_p prog_1_method_6_code.size kr_116 0 = true := by decide +kernel
theorem kx_116_0 : ko_k "QuillDesk" (decide ("set" = "<init>")) 5 prog_1_method_6_code (kpl kr_116 prog_1_method_6_code.size) ((kr_116.drop 0).take 40) ((kc_116.drop 0).take 40) = true := by decide +kernel
theorem kx_116_40 : ko_k "QuillDesk" (decide ("set" = "<init>")) 5 prog_1_method_6_code (kpl kr_116 prog_1_method_6_code.size) (kr_116.drop 40) (kc_116.drop 40) = true := by decide +kernel
theorem kk_116 : ko_k "QuillDesk" (decide ("set" = "<init>")) 5 prog_1_method_6_code (kpl kr_116 prog_1_method_6_code.size) kr_116 kc_116 = true := ko_k_0 (ko_k_cut 0 40 40 rfl kx_116_0 kx_116_40)
theorem kp_117 : ko_p prog_1_method_7_code.size kr_117 0 = true := by decide +kernel
theorem kx_117_0 : ko_k "QuillDesk" (decide ("act" = "<init>")) 5 prog_1_method_7_code (kpl kr_117 prog_1_method_7_code.size) (kr_117.drop 0) (kc_117.drop 0) = true := by decide +kernel
theorem kk_117 : ko_k "QuillDesk" (decide ("act" = "<init>")) 5 prog_1_method_7_code (kpl kr_117 prog_1_method_7_code.size) kr_117 kc_117 = true := ko_k_0 kx_117_0
theorem kp_118 : ko_p prog_1_method_8_code.size kr_118 0 = true := by decide +kernel
theorem kx_118_0 : ko_k "QuillDesk" (decide ("hours" = "<init>")) 4 prog_1_method_8_code (kpl kr_118 prog_1_method_8_code.size) ((kr_118.drop 0).take 40) ((kc_118.drop 0).take 40) = true := by decide +kernel
theorem kx_118_40 : ko_k "QuillDesk" (decide ("hours" = "<init>")) 4 prog_1_method_8_code (kpl kr_118 prog_1_method_8_code.size) (kr_118.drop 40) (kc_118.drop 40) = true := by decide +kernel
theorem kk_118 : ko_k "QuillDesk" (decide ("hours" = "<init>")) 4 prog_1_method_8_code (kpl kr_118 prog_1_method_8_code.size) kr_118 kc_118 = true := ko_k_0 (ko_k_cut 0 40 40 rfl kx_118_0 kx_118_40)
theorem kp_119 : ko_p prog_1_method_9_code.size kr_119 0 = true := by decide +kernel
theorem kx_119_0 : ko_k "QuillDesk" (decide ("feed" = "<init>")) 6 prog_1_method_9_code (kpl kr_119 prog_1_method_9_code.size) (kr_119.drop 0) (kc_119.drop 0) = true := by decide +kernel
theorem kk_119 : ko_k "QuillDesk" (decide ("feed" = "<init>")) 6 prog_1_method_9_code (kpl kr_119 prog_1_method_9_code.size) kr_119 kc_119 = true := ko_k_0 kx_119_0
theorem kp_120 : ko_p prog_1_method_10_code.size kr_120 0 = true := by decide +kernel
theorem kx_120_0 : ko_k "QuillDesk" (decide ("end" = "<init>")) 2 prog_1_method_10_code (kpl kr_120 prog_1_method_10_code.size) (kr_120.drop 0) (kc_120.drop 0) = true := by decide +kernel
theorem kk_120 : ko_k "QuillDesk" (decide ("end" = "<init>")) 2 prog_1_method_10_code (kpl kr_120 prog_1_method_10_code.size) kr_120 kc_120 = true := ko_k_0 kx_120_0
theorem kp_121 : ko_p prog_1_method_11_code.size kr_121 0 = true := by decide +kernel
theorem kx_121_0 : ko_k "QuillDesk" (decide ("text" = "<init>")) 4 prog_1_method_11_code (kpl kr_121 prog_1_method_11_code.size) ((kr_121.drop 0).take 40) ((kc_121.drop 0).take 40) = true := by decide +kernel
theorem kx_121_40 : ko_k "QuillDesk" (decide ("text" = "<init>")) 4 prog_1_method_11_code (kpl kr_121 prog_1_method_11_code.size) (kr_121.drop 40) (kc_121.drop 40) = true := by decide +kernel
theorem kk_121 : ko_k "QuillDesk" (decide ("text" = "<init>")) 4 prog_1_method_11_code (kpl kr_121 prog_1_method_11_code.size) kr_121 kc_121 = true := ko_k_0 (ko_k_cut 0 40 40 rfl kx_121_0 kx_121_40)
theorem kp_122 : ko_p prog_1_method_12_code.size kr_122 0 = true := by decide +kernel
theorem kx_122_0 : ko_k "QuillDesk" (decide ("fault" = "<init>")) 2 prog_1_method_12_code (kpl kr_122 prog_1_method_12_code.size) (kr_122.drop 0) (kc_122.drop 0) = true := by decide +kernel
theorem kk_122 : ko_k "QuillDesk" (decide ("fault" = "<init>")) 2 prog_1_method_12_code (kpl kr_122 prog_1_method_12_code.size) kr_122 kc_122 = true := ko_k_0 kx_122_0
theorem kp_123 : ko_p prog_1_method_13_code.size kr_123 0 = true := by decide +kernel
theorem kx_123_0 : ko_k "QuillDesk" (decide ("of" = "<init>")) 4 prog_1_method_13_code (kpl kr_123 prog_1_method_13_code.size) ((kr_123.drop 0).take 40) ((kc_123.drop 0).take 40) = true := by decide +kernel
theorem kx_123_40 : ko_k "QuillDesk" (decide ("of" = "<init>")) 4 prog_1_method_13_code (kpl kr_123 prog_1_method_13_code.size) (kr_123.drop 40) (kc_123.drop 40) = true := by decide +kernel
theorem kk_123 : ko_k "QuillDesk" (decide ("of" = "<init>")) 4 prog_1_method_13_code (kpl kr_123 prog_1_method_13_code.size) kr_123 kc_123 = true := ko_k_0 (ko_k_cut 0 40 40 rfl kx_123_0 kx_123_40)
theorem kp_124 : ko_p prog_1_method_14_code.size kr_124 0 = true := by decide +kernel
theorem kx_124_0 : ko_k "QuillDesk" (decide ("who" = "<init>")) 4 prog_1_method_14_code (kpl kr_124 prog_1_method_14_code.size) ((kr_124.drop 0).take 40) ((kc_124.drop 0).take 40) = true := by decide +kernel
theorem kx_124_40 : ko_k "QuillDesk" (decide ("who" = "<init>")) 4 prog_1_method_14_code (kpl kr_124 prog_1_method_14_code.size) (kr_124.drop 40) (kc_124.drop 40) = true := by decide +kernel
theorem kk_124 : ko_k "QuillDesk" (decide ("who" = "<init>")) 4 prog_1_method_14_code (kpl kr_124 prog_1_method_14_code.size) kr_124 kc_124 = true := ko_k_0 (ko_k_cut 0 40 40 rfl kx_124_0 kx_124_40)
theorem kp_125 : ko_p prog_1_method_15_code.size kr_125 0 = true := by decide +kernel
theorem kx_125_0 : ko_k "QuillDesk" (decide ("deedOf" = "<init>")) 4 prog_1_method_15_code (kpl kr_125 prog_1_method_15_code.size) ((kr_125.drop 0).take 40) ((kc_125.drop 0).take 40) = true := by decide +kernel
theorem kx_125_40 : ko_k "QuillDesk" (decide ("deedOf" = "<init>")) 4 prog_1_method_15_code (kpl kr_125 prog_1_method_15_code.size) (kr_125.drop 40) (kc_125.drop 40) = true := by decide +kernel
theorem kk_125 : ko_k "QuillDesk" (decide ("deedOf" = "<init>")) 4 prog_1_method_15_code (kpl kr_125 prog_1_method_15_code.size) kr_125 kc_125 = true := ko_k_0 (ko_k_cut 0 40 40 rfl kx_125_0 kx_125_40)
theorem kp_126 : ko_p prog_1_method_16_code.size kr_126 0 = true := by decide +kernel
theorem kx_126_0 : ko_k "QuillDesk" (decide ("book" = "<init>")) 4 prog_1_method_16_code (kpl kr_126 prog_1_method_16_code.size) (kr_126.drop 0) (kc_126.drop 0) = true := by decide +kernel
theorem kk_126 : ko_k "QuillDesk" (decide ("book" = "<init>")) 4 prog_1_method_16_code (kpl kr_126 prog_1_method_16_code.size) kr_126 kc_126 = true := ko_k_0 kx_126_0
theorem kp_127 : ko_p prog_1_method_17_code.size kr_127 0 = true := by decide +kernel
theorem kx_127_0 : ko_k "QuillDesk" (decide ("goes" = "<init>")) 4 prog_1_method_17_code (kpl kr_127 prog_1_method_17_code.size) ((kr_127.drop 0).take 40) ((kc_127.drop 0).take 40) = true := by decide +kernel
theorem kx_127_40 : ko_k "QuillDesk" (decide ("goes" = "<init>")) 4 prog_1_method_17_code (kpl kr_127 prog_1_method_17_code.size) (kr_127.drop 40) (kc_127.drop 40) = true := by decide +kernel
theorem kk_127 : ko_k "QuillDesk" (decide ("goes" = "<init>")) 4 prog_1_method_17_code (kpl kr_127 prog_1_method_17_code.size) kr_127 kc_127 = true := ko_k_0 (ko_k_cut 0 40 40 rfl kx_127_0 kx_127_40)
theorem kp_128 : ko_p prog_1_method_18_code.size kr_128 0 = true := by decide +kernel
theorem kx_128_0 : ko_k "QuillDesk" (decide ("done" = "<init>")) 3 prog_1_method_18_code (kpl kr_128 prog_1_method_18_code.size) ((kr_128.drop 0).take 40) ((kc_128.drop 0).take 40) = true := by decide +kernel
theorem kx_128_40 : ko_k "QuillDesk" (decide ("done" = "<init>")) 3 prog_1_method_18_code (kpl kr_128 prog_1_method_18_code.size) (kr_128.drop 40) (kc_128.drop 40) = true := by decide +kernel
theorem kk_128 : ko_k "QuillDesk" (decide ("done" = "<init>")) 3 prog_1_method_18_code (kpl kr_128 prog_1_method_18_code.size) kr_128 kc_128 = true := ko_k_0 (ko_k_cut 0 40 40 rfl kx_128_0 kx_128_40)
theorem kp_129 : ko_p prog_1_method_19_code.size kr_129 0 = true := by decide +kernel
theorem kx_129_0 : ko_k "QuillDesk" (decide ("soon" = "<init>")) 3 prog_1_method_19_code (kpl kr_129 prog_1_method_19_code.size) (kr_129.drop 0) (kc_129.drop 0) = true := by decide +kernel
theorem kk_129 : ko_k "QuillDesk" (decide ("soon" = "<init>")) 3 prog_1_method_19_code (kpl kr_129 prog_1_method_19_code.size) kr_129 kc_129 = true := ko_k_0 kx_129_0
theorem kp_130 : ko_p prog_1_method_20_code.size kr_130 0 = true := by decide +kernel
theorem kx_130_0 : ko_k "QuillDesk" (decide ("flock" = "<init>")) 3 prog_1_method_20_code (kpl kr_130 prog_1_method_20_code.size) (kr_130.drop 0) (kc_130.drop 0) = true := by decide +kernel
theorem kk_130 : ko_k "QuillDesk" (decide ("flock" = "<init>")) 3 prog_1_method_20_code (kpl kr_130 prog_1_method_20_code.size) kr_130 kc_130 = true := ko_k_0 kx_130_0
theorem kp_131 : ko_p prog_1_method_21_code.size kr_131 0 = true := by decide +kernel
theorem kx_131_0 : ko_k "QuillDesk" (decide ("letters" = "<init>")) 2 prog_1_method_21_code (kpl kr_131 prog_1_method_21_code.size) (kr_131.drop 0) (kc_131.drop 0) = true := by decide +kernel
