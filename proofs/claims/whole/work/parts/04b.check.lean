theorem kx_45_40 : ko_k "QuillDesk$Law" (decide ("work" = "<init>")) 6 prog_6_method_8_code (kpl kr_45 prog_6_method_8_code.size) ((kr_45.drop 40).take 40) ((kc_45.drop 40).take 40) = true := by decide +kernel
theorem kx_45_80 : ko_k "QuillDesk$Law" (decide ("work" = "<init>")) 6 prog_6_method_8_code (kpl kr_45 prog_6_method_8_code.size) (kr_45.drop 80) (kc_45.drop 80) = true := by decide +kernel
theorem kk_45 : ko_k "QuillDesk$Law" (decide ("work" = "<init>")) 6 prog_6_method_8_code (kpl kr_45 prog_6_method_8_code.size) kr_45 kc_45 = true := ko_k_0 (ko_k_cut 0 40 40 rfl kx_45_0 (ko_k_cut 40 40 80 rfl kx_45_40 kx_45_80))
theorem kp_46 : ko_p prog_6_method_9_code.size kr_46 0 = true := by decide +kernel
theorem kx_46_0 : ko_k "QuillDesk$Law" (decide ("join" = "<init>")) 3 prog_6_method_9_code (kpl kr_46 prog_6_method_9_code.size) ((kr_46.drop 0).take 40) ((kc_46.drop 0).take 40) = true := by decide +kernel
theorem kx_46_40 : ko_k "QuillDesk$Law" (decide ("join" = "<init>")) 3 prog_6_method_9_code (kpl kr_46 prog_6_method_9_code.size) (kr_46.drop 40) (kc_46.drop 40) = true := by decide +kernel
theorem kk_46 : ko_k "QuillDesk$Law" (decide ("join" = "<init>")) 3 prog_6_method_9_code (kpl kr_46 prog_6_method_9_code.size) kr_46 kc_46 = true := ko_k_0 (ko_k_cut 0 40 40 rfl kx_46_0 kx_46_40)
theorem kp_47 : ko_p prog_7_method_1_code.size kr_47 0 = true := by decide +kernel
theorem kx_47_0 : ko_k "QuillDesk$Past" (decide ("<init>" = "<init>")) 2 prog_7_method_1_code (kpl kr_47 prog_7_method_1_code.size) (kr_47.drop 0) (kc_47.drop 0) = true := by decide +kernel
theorem kk_47 : ko_k "QuillDesk$Past" (decide ("<init>" = "<init>")) 2 prog_7_method_1_code (kpl kr_47 prog_7_method_1_code.size) kr_47 kc_47 = true := ko_k_0 kx_47_0
theorem kp_48 : ko_p prog_7_method_2_code.size kr_48 0 = true := by decide +kernel
theorem kx_48_0 : ko_k "QuillDesk$Past" (decide ("keep" = "<init>")) 4 prog_7_method_2_code (kpl kr_48 prog_7_method_2_code.size) ((kr_48.drop 0).take 40) ((kc_48.drop 0).take 40) = true := by decide +kernel
theorem kx_48_40 : ko_k "QuillDesk$Past" (decide ("keep" = "<init>")) 4 prog_7_method_2_code (kpl kr_48 prog_7_method_2_code.size) (kr_48.drop 40) (kc_48.drop 40) = true := by decide +kernel
theorem kk_48 : ko_k "QuillDesk$Past" (decide ("keep" = "<init>")) 4 prog_7_method_2_code (kpl kr_48 prog_7_method_2_code.size) kr_48 kc_48 = true := ko_k_0 (ko_k_cut 0 40 40 rfl kx_48_0 kx_48_40)
theorem kp_49 : ko_p prog_7_method_3_code.size kr_49 0 = true := by decide +kernel
theorem kx_49_0 : ko_k "QuillDesk$Past" (decide ("goBack" = "<init>")) 4 prog_7_method_3_code (kpl kr_49 prog_7_method_3_code.size) ((kr_49.drop 0).take 40) ((kc_49.drop 0).take 40) = true := by decide +kernel
theorem kx_49_40 : ko_k "QuillDesk$Past" (decide ("goBack" = "<init>")) 4 prog_7_method_3_code (kpl kr_49 prog_7_method_3_code.size) (kr_49.drop 40) (kc_49.drop 40) = true := by decide +kernel
theorem kk_49 : ko_k "QuillDesk$Past" (decide ("goBack" = "<init>")) 4 prog_7_method_3_code (kpl kr_49 prog_7_method_3_code.size) kr_49 kc_49 = true := ko_k_0 (ko_k_cut 0 40 40 rfl kx_49_0 kx_49_40)
theorem kp_50 : ko_p prog_7_method_4_code.size kr_50 0 = true := by decide +kernel
theorem kx_50_0 : ko_k "QuillDesk$Past" (decide ("forget" = "<init>")) 1 prog_7_method_4_code (kpl kr_50 prog_7_method_4_code.size) (kr_50.drop 0) (kc_50.drop 0) = true := by decide +kernel
theorem kk_50 : ko_k "QuillDesk$Past" (decide ("forget" = "<init>")) 1 prog_7_method_4_code (kpl kr_50 prog_7_method_4_code.size) kr_50 kc_50 = true := ko_k_0 kx_50_0
theorem kp_51 : ko_p prog_8_method_1_code.size kr_51 0 = true := by decide +kernel
theorem kx_51_0 : ko_k "QuillDesk$Reader" (decide ("<init>" = "<init>")) 1 prog_8_method_1_code (kpl kr_51 prog_8_method_1_code.size) ((kr_51.drop 0).take 40) ((kc_51.drop 0).take 40) = true := by decide +kernel
theorem kx_51_40 : ko_k "QuillDesk$Reader" (decide ("<init>" = "<init>")) 1 prog_8_method_1_code (kpl kr_51 prog_8_method_1_code.size) (kr_51.drop 40) (kc_51.drop 40) = true := by decide +kernel
theorem kk_51 : ko_k "QuillDesk$Reader" (decide ("<init>" = "<init>")) 1 prog_8_method_1_code (kpl kr_51 prog_8_method_1_code.size) kr_51 kc_51 = true := ko_k_0 (ko_k_cut 0 40 40 rfl kx_51_0 kx_51_40)
theorem kp_52 : ko_p prog_8_method_2_code.size kr_52 0 = true := by decide +kernel
theorem kx_52_0 : ko_k "QuillDesk$Reader" (decide ("append" = "<init>")) 3 prog_8_method_2_code (kpl kr_52 prog_8_method_2_code.size) (kr_52.drop 0) (kc_52.drop 0) = true := by decide +kernel
theorem kk_52 : ko_k "QuillDesk$Reader" (decide ("append" = "<init>")) 3 prog_8_method_2_code (kpl kr_52 prog_8_method_2_code.size) kr_52 kc_52 = true := ko_k_0 kx_52_0
theorem kp_53 : ko_p prog_8_method_3_code.size kr_53 0 = true := by decide +kernel
theorem kx_53_0 : ko_k "QuillDesk$Reader" (decide ("understand" = "<init>")) 4 prog_8_method_3_code (kpl kr_53 prog_8_method_3_code.size) ((kr_53.drop 0).take 40) ((kc_53.drop 0).take 40) = true := by decide +kernel
theorem kx_53_40 : ko_k "QuillDesk$Reader" (decide ("understand" = "<init>")) 4 prog_8_method_3_code (kpl kr_53 prog_8_method_3_code.size) ((kr_53.drop 40).take 40) ((kc_53.drop 40).take 40) = true := by decide +kernel
theorem kx_53_80 : ko_k "QuillDesk$Reader" (decide ("understand" = "<init>")) 4 prog_8_method_3_code (kpl kr_53 prog_8_method_3_code.size) (kr_53.drop 80) (kc_53.drop 80) = true := by decide +kernel
theorem kk_53 : ko_k "QuillDesk$Reader" (decide ("understand" = "<init>")) 4 prog_8_method_3_code (kpl kr_53 prog_8_method_3_code.size) kr_53 kc_53 = true := ko_k_0 (ko_k_cut 0 40 40 rfl kx_53_0 (ko_k_cut 40 40 80 rfl kx_53_40 kx_53_80))
theorem kp_54 : ko_p prog_8_method_4_code.size kr_54 0 = true := by decide +kernel
theorem kx_54_0 : ko_k "QuillDesk$Reader" (decide ("beginsLine" = "<init>")) 3 prog_8_method_4_code (kpl kr_54 prog_8_method_4_code.size) (kr_54.drop 0) (kc_54.drop 0) = true := by decide +kernel
theorem kk_54 : ko_k "QuillDesk$Reader" (decide ("beginsLine" = "<init>")) 3 prog_8_method_4_code (kpl kr_54 prog_8_method_4_code.size) kr_54 kc_54 = true := ko_k_0 kx_54_0
theorem kp_55 : ko_p prog_8_method_5_code.size kr_55 0 = true := by decide +kernel
theorem kx_55_0 : ko_k "QuillDesk$Reader" (decide ("cutTokens" = "<init>")) 2 prog_8_method_5_code (kpl kr_55 prog_8_method_5_code.size) ((kr_55.drop 0).take 40) ((kc_55.drop 0).take 40) = true := by decide +kernel
theorem kx_55_40 : ko_k "QuillDesk$Reader" (decide ("cutTokens" = "<init>")) 2 prog_8_method_5_code (kpl kr_55 prog_8_method_5_code.size) (kr_55.drop 40) (kc_55.drop 40) = true := by decide +kernel
theorem kk_55 : ko_k "QuillDesk$Reader" (decide ("cutTokens" = "<init>")) 2 prog_8_method_5_code (kpl kr_55 prog_8_method_5_code.size) kr_55 kc_55 = true := ko_k_0 (ko_k_cut 0 40 40 rfl kx_55_0 kx_55_40)
theorem kp_56 : ko_p prog_8_method_6_code.size kr_56 0 = true := by decide +kernel
theorem kx_56_0 : ko_k "QuillDesk$Reader" (decide ("goesOn" = "<init>")) 2 prog_8_method_6_code (kpl kr_56 prog_8_method_6_code.size) (kr_56.drop 0) (kc_56.drop 0) = true := by decide +kernel
theorem kk_56 : ko_k "QuillDesk$Reader" (decide ("goesOn" = "<init>")) 2 prog_8_method_6_code (kpl kr_56 prog_8_method_6_code.size) kr_56 kc_56 = true := ko_k_0 kx_56_0
theorem kp_57 : ko_p prog_8_method_7_code.size kr_57 0 = true := by decide +kernel
theorem kx_57_0 : ko_k "QuillDesk$Reader" (decide ("kindAt" = "<init>")) 2 prog_8_method_7_code (kpl kr_57 prog_8_method_7_code.size) (kr_57.drop 0) (kc_57.drop 0) = true := by decide +kernel
theorem kk_57 : ko_k "QuillDesk$Reader" (decide ("kindAt" = "<init>")) 2 prog_8_method_7_code (kpl kr_57 prog_8_method_7_code.size) kr_57 kc_57 = true := ko_k_0 kx_57_0
theorem kp_58 : ko_p prog_8_method_8_code.size kr_58 0 = true := by decide +kernel
theorem kx_58_0 : ko_k "QuillDesk$Reader" (decide ("numberAt" = "<init>")) 4 prog_8_method_8_code (kpl kr_58 prog_8_method_8_code.size) (kr_58.drop 0) (kc_58.drop 0) = true := by decide +kernel
theorem kk_58 : ko_k "QuillDesk$Reader" (decide ("numberAt" = "<init>")) 4 prog_8_method_8_code (kpl kr_58 prog_8_method_8_code.size) kr_58 kc_58 = true := ko_k_0 kx_58_0
theorem kp_59 : ko_p prog_8_method_9_code.size kr_59 0 = true := by decide +kernel
theorem kx_59_0 : ko_k "QuillDesk$Reader" (decide ("wordAt" = "<init>")) 6 prog_8_method_9_code (kpl kr_59 prog_8_method_9_code.size) ((kr_59.drop 0).take 40) ((kc_59.drop 0).take 40) = true := by decide +kernel
theorem kx_59_40 : ko_k "QuillDesk$Reader" (decide ("wordAt" = "<init>")) 6 prog_8_method_9_code (kpl kr_59 prog_8_method_9_code.size) (kr_59.drop 40) (kc_59.drop 40) = true := by decide +kernel
theorem kk_59 : ko_k "QuillDesk$Reader" (decide ("wordAt" = "<init>")) 6 prog_8_method_9_code (kpl kr_59 prog_8_method_9_code.size) kr_59 kc_59 = true := ko_k_0 (ko_k_cut 0 40 40 rfl kx_59_0 kx_59_40)
theorem kp_60 : ko_p prog_8_method_10_code.size kr_60 0 = true := by decide +kernel
theorem kx_60_0 : ko_k "QuillDesk$Reader" (decide ("isSame" = "<init>")) 5 prog_8_method_10_code (kpl kr_60 prog_8_method_10_code.size) (kr_60.drop 0) (kc_60.drop 0) = true := by decide +kernel
theorem kk_60 : ko_k "QuillDesk$Reader" (decide ("isSame" = "<init>")) 5 prog_8_method_10_code (kpl kr_60 prog_8_method_10_code.size) kr_60 kc_60 = true := ko_k_0 kx_60_0
theorem kp_61 : ko_p prog_8_method_11_code.size kr_61 0 = true := by decide +kernel
theorem kx_61_0 : ko_k "QuillDesk$Reader" (decide ("isLetter" = "<init>")) 1 prog_8_method_11_code (kpl kr_61 prog_8_method_11_code.size) (kr_61.drop 0) (kc_61.drop 0) = true := by decide +kernel
theorem kk_61 : ko_k "QuillDesk$Reader" (decide ("isLetter" = "<init>")) 1 prog_8_method_11_code (kpl kr_61 prog_8_method_11_code.size) kr_61 kc_61 = true := ko_k_0 kx_61_0
theorem kp_62 : ko_p prog_8_method_12_code.size kr_62 0 = true := by decide +kernel
theorem kx_62_0 : ko_k "QuillDesk$Reader" (decide ("isDigit" = "<init>")) 1 prog_8_method_12_code (kpl kr_62 prog_8_method_12_code.size) (kr_62.drop 0) (kc_62.drop 0) = true := by decide +kernel
theorem kk_62 : ko_k "QuillDesk$Reader" (decide ("isDigit" = "<init>")) 1 prog_8_method_12_code (kpl kr_62 prog_8_method_12_code.size) kr_62 kc_62 = true := ko_k_0 kx_62_0
theorem kp_63 : ko_p prog_8_method_13_code.size kr_63 0 = true := by decide +kernel
theorem kx_63_0 : ko_k "QuillDesk$Reader" (decide ("token" = "<init>")) 1 prog_8_method_13_code (kpl kr_63 prog_8_method_13_code.size) (kr_63.drop 0) (kc_63.drop 0) = true := by decide +kernel
theorem kk_63 : ko_k "QuillDesk$Reader" (decide ("token" = "<init>")) 1 prog_8_method_13_code (kpl kr_63 prog_8_method_13_code.size) kr_63 kc_63 = true := ko_k_0 kx_63_0
theorem kp_64 : ko_p prog_8_method_14_code.size kr_64 0 = true := by decide +kernel
theorem kx_64_0 : ko_k "QuillDesk$Reader" (decide ("refuse" = "<init>")) 2 prog_8_method_14_code (kpl kr_64 prog_8_method_14_code.size) (kr_64.drop 0) (kc_64.drop 0) = true := by decide +kernel
theorem kk_64 : ko_k "QuillDesk$Reader" (decide ("refuse" = "<init>")) 2 prog_8_method_14_code (kpl kr_64 prog_8_method_14_code.size) kr_64 kc_64 = true := ko_k_0 kx_64_0
theorem kp_65 : ko_p prog_8_method_15_code.size kr_65 0 = true := by decide +kernel
theorem kx_65_0 : ko_k "QuillDesk$Reader" (decide ("expect" = "<init>")) 2 prog_8_method_15_code (kpl kr_65 prog_8_method_15_code.size) (kr_65.drop 0) (kc_65.drop 0) = true := by decide +kernel
theorem kk_65 : ko_k "QuillDesk$Reader" (decide ("expect" = "<init>")) 2 prog_8_method_15_code (kpl kr_65 prog_8_method_15_code.size) kr_65 kc_65 = true := ko_k_0 kx_65_0
theorem kp_66 : ko_p prog_8_method_16_code.size kr_66 0 = true := by decide +kernel
theorem kx_66_0 : ko_k "QuillDesk$Reader" (decide ("expectNumber" = "<init>")) 3 prog_8_method_16_code (kpl kr_66 prog_8_method_16_code.size) (kr_66.drop 0) (kc_66.drop 0) = true := by decide +kernel
theorem kk_66 : ko_k "QuillDesk$Reader" (decide ("expectNumber" = "<init>")) 3 prog_8_method_16_code (kpl kr_66 prog_8_method_16_code.size) kr_66 kc_66 = true := ko_k_0 kx_66_0
theorem kp_67 : ko_p prog_8_method_17_code.size kr_67 0 = true := by decide +kernel
theorem kx_67_0 : ko_k "QuillDesk$Reader" (decide ("orderLine" = "<init>")) 6 prog_8_method_17_code (kpl kr_67 prog_8_method_17_code.size) ((kr_67.drop 0).take 40) ((kc_67.drop 0).take 40) = true := by decide +kernel
theorem kx_67_40 : ko_k "QuillDesk$Reader" (decide ("orderLine" = "<init>")) 6 prog_8_method_17_code (kpl kr_67 prog_8_method_17_code.size) ((kr_67.drop 40).take 40) ((kc_67.drop 40).take 40) = true := by decide +kernel
theorem kx_67_80 : ko_k "QuillDesk$Reader" (decide ("orderLine" = "<init>")) 6 prog_8_method_17_code (kpl kr_67 prog_8_method_17_code.size) (kr_67.drop 80) (kc_67.drop 80) = true := by decide +kernel
theorem kk_67 : ko_k "QuillDesk$Reader" (decide ("orderLine" = "<init>")) 6 prog_8_method_17_code (kpl kr_67 prog_8_method_17_code.size) kr_67 kc_67 = true := ko_k_0 (ko_k_cut 0 40 40 rfl kx_67_0 (ko_k_cut 40 40 80 rfl kx_67_40 kx_67_80))
theorem kp_68 : ko_p prog_8_method_18_code.size kr_68 0 = true := by decide +kernel
theorem kx_68_0 : ko_k "QuillDesk$Reader" (decide ("actOf" = "<init>")) 1 prog_8_method_18_code (kpl kr_68 prog_8_method_18_code.size) (kr_68.drop 0) (kc_68.drop 0) = true := by decide +kernel
theorem kk_68 : ko_k "QuillDesk$Reader" (decide ("actOf" = "<init>")) 1 prog_8_method_18_code (kpl kr_68 prog_8_method_18_code.size) kr_68 kc_68 = true := ko_k_0 kx_68_0
theorem kp_69 : ko_p prog_8_method_19_code.size kr_69 0 = true := by decide +kernel
theorem kx_69_0 : ko_k "QuillDesk$Reader" (decide ("birdLine" = "<init>")) 3 prog_8_method_19_code (kpl kr_69 prog_8_method_19_code.size) ((kr_69.drop 0).take 40) ((kc_69.drop 0).take 40) = true := by decide +kernel
theorem kx_69_40 : ko_k "QuillDesk$Reader" (decide ("birdLine" = "<init>")) 3 prog_8_method_19_code (kpl kr_69 prog_8_method_19_code.size) (kr_69.drop 40) (kc_69.drop 40) = true := by decide +kernel
theorem kk_69 : ko_k "QuillDesk$Reader" (decide ("birdLine" = "<init>")) 3 prog_8_method_19_code (kpl kr_69 prog_8_method_19_code.size) kr_69 kc_69 = true := ko_k_0 (ko_k_cut 0 40 40 rfl kx_69_0 kx_69_40)
theorem kp_70 : ko_p prog_8_method_20_code.size kr_70 0 = true := by decide +kernel
theorem kx_70_0 : ko_k "QuillDesk$Reader" (decide ("afterLine" = "<init>")) 3 prog_8_method_20_code (kpl kr_70 prog_8_method_20_code.size) (kr_70.drop 0) (kc_70.drop 0) = true := by decide +kernel
theorem kk_70 : ko_k "QuillDesk$Reader" (decide ("afterLine" = "<init>")) 3 prog_8_method_20_code (kpl kr_70 prog_8_method_20_code.size) kr_70 kc_70 = true := ko_k_0 kx_70_0
theorem kp_71 : ko_p prog_8_method_21_code.size kr_71 0 = true := by decide +kernel
theorem kx_71_0 : ko_k "QuillDesk$Reader" (decide ("lawLine" = "<init>")) 4 prog_8_method_21_code (kpl kr_71 prog_8_method_21_code.size) ((kr_71.drop 0).take 40) ((kc_71.drop 0).take 40) = true := by decide +kernel
theorem kx_71_40 : ko_k "QuillDesk$Reader" (decide ("lawLine" = "<init>")) 4 prog_8_method_21_code (kpl kr_71 prog_8_method_21_code.size) (kr_71.drop 40) (kc_71.drop 40) = true := by decide +kernel
theorem kk_71 : ko_k "QuillDesk$Reader" (decide ("lawLine" = "<init>")) 4 prog_8_method_21_code (kpl kr_71 prog_8_method_21_code.size) kr_71 kc_71 = true := ko_k_0 (ko_k_cut 0 40 40 rfl kx_71_0 kx_71_40)
theorem kp_72 : ko_p prog_8_method_22_code.size kr_72 0 = true := by decide +kernel
theorem kx_72_0 : ko_k "QuillDesk$Reader" (decide ("sumUp" = "<init>")) 4 prog_8_method_22_code (kpl kr_72 prog_8_method_22_code.size) ((kr_72.drop 0).take 40) ((kc_72.drop 0).take 40) = true := by decide +kernel
theorem kx_72_40 : ko_k "QuillDesk$Reader" (decide ("sumUp" = "<init>")) 4 prog_8_method_22_code (kpl kr_72 prog_8_method_22_code.size) ((kr_72.drop 40).take 40) ((kc_72.drop 40).take 40) = true := by decide +kernel
theorem kx_72_80 : ko_k "QuillDesk$Reader" (decide ("sumUp" = "<init>")) 4 prog_8_method_22_code (kpl kr_72 prog_8_method_22_code.size) (kr_72.drop 80) (kc_72.drop 80) = true := by decide +kernel
theorem kk_72 : ko_k "QuillDesk$Reader" (decide ("sumUp" = "<init>")) 4 prog_8_method_22_code (kpl kr_72 prog_8_method_22_code.size) kr_72 kc_72 = true := ko_k_0 (ko_k_cut 0 40 40 rfl kx_72_0 (ko_k_cut 40 40 80 rfl kx_72_40 kx_72_80))
theorem kp_73 : ko_p prog_8_method_23_code.size kr_73 0 = true := by decide +kernel
theorem kx_73_0 : ko_k "QuillDesk$Reader" (decide ("unit" = "<init>")) 2 prog_8_method_23_code (kpl kr_73 prog_8_method_23_code.size) (kr_73.drop 0) (kc_73.drop 0) = true := by decide +kernel
theorem kk_73 : ko_k "QuillDesk$Reader" (decide ("unit" = "<init>")) 2 prog_8_method_23_code (kpl kr_73 prog_8_method_23_code.size) kr_73 kc_73 = true := ko_k_0 kx_73_0
theorem kp_74 : ko_p prog_8_method_24_code.size kr_74 0 = true := by decide +kernel
theorem kx_74_0 : ko_k "QuillDesk$Reader" (decide ("part" = "<init>")) 2 prog_8_method_24_code (kpl kr_74 prog_8_method_24_code.size) (kr_74.drop 0) (kc_74.drop 0) = true := by decide +kernel
theorem kk_74 : ko_k "QuillDesk$Reader" (decide ("part" = "<init>")) 2 prog_8_method_24_code (kpl kr_74 prog_8_method_24_code.size) kr_74 kc_74 = true := ko_k_0 kx_74_0
theorem kp_75 : ko_p prog_8_method_25_code.size kr_75 0 = true := by decide +kernel
theorem kx_75_0 : ko_k "QuillDesk$Reader" (decide ("condition" = "<init>")) 5 prog_8_method_25_code (kpl kr_75 prog_8_method_25_code.size) ((kr_75.drop 0).take 40) ((kc_75.drop 0).take 40) = true := by decide +kernel
theorem kx_75_40 : ko_k "QuillDesk$Reader" (decide ("condition" = "<init>")) 5 prog_8_method_25_code (kpl kr_75 prog_8_method_25_code.size) (kr_75.drop 40) (kc_75.drop 40) = true := by decide +kernel
theorem kk_75 : ko_k "QuillDesk$Reader" (decide ("condition" = "<init>")) 5 prog_8_method_25_code (kpl kr_75 prog_8_method_25_code.size) kr_75 kc_75 = true := ko_k_0 (ko_k_cut 0 40 40 rfl kx_75_0 kx_75_40)
theorem kp_76 : ko_p prog_8_method_26_code.size kr_76 0 = true := by decide +kernel
theorem kx_76_0 : ko_k "QuillDesk$Reader" (decide ("single" = "<init>")) 4 prog_8_method_26_code (kpl kr_76 prog_8_method_26_code.size) ((kr_76.drop 0).take 40) ((kc_76.drop 0).take 40) = true := by decide +kernel
theorem kx_76_40 : ko_k "QuillDesk$Reader" (decide ("single" = "<init>")) 4 prog_8_method_26_code (kpl kr_76 prog_8_method_26_code.size) ((kr_76.drop 40).take 40) ((kc_76.drop 40).take 40) = true := by decide +kernel
theorem kx_76_80 : ko_k "QuillDesk$Reader" (decide ("single" = "<init>")) 4 prog_8_method_26_code (kpl kr_76 prog_8_method_26_code.size) (kr_76.drop 80) (kc_76.drop 80) = true := by decide +kernel
theorem kk_76 : ko_k "QuillDesk$Reader" (decide ("single" = "<init>")) 4 prog_8_method_26_code (kpl kr_76 prog_8_method_26_code.size) kr_76 kc_76 = true := ko_k_0 (ko_k_cut 0 40 40 rfl kx_76_0 (ko_k_cut 40 40 80 rfl kx_76_40 kx_76_80))
theorem kp_77 : ko_p prog_9_method_1_code.size kr_77 0 = true := by decide +kernel
theorem kx_77_0 : ko_k "QuillDesk$Row" (decide ("<init>" = "<init>")) 2 prog_9_method_1_code (kpl kr_77 prog_9_method_1_code.size) (kr_77.drop 0) (kc_77.drop 0) = true := by decide +kernel
theorem kk_77 : ko_k "QuillDesk$Row" (decide ("<init>" = "<init>")) 2 prog_9_method_1_code (kpl kr_77 prog_9_method_1_code.size) kr_77 kc_77 = true := ko_k_0 kx_77_0
theorem kp_78 : ko_p prog_9_method_2_code.size kr_78 0 = true := by decide +kernel
theorem kx_78_0 : ko_k "QuillDesk$Row" (decide ("tell" = "<init>")) 4 prog_9_method_2_code (kpl kr_78 prog_9_method_2_code.size) (kr_78.drop 0) (kc_78.drop 0) = true := by decide +kernel
theorem kk_78 : ko_k "QuillDesk$Row" (decide ("tell" = "<init>")) 4 prog_9_method_2_code (kpl kr_78 prog_9_method_2_code.size) kr_78 kc_78 = true := ko_k_0 kx_78_0
theorem kp_79 : ko_p prog_9_method_3_code.size kr_79 0 = true := by decide +kernel
theorem kx_79_0 : ko_k "QuillDesk$Row" (decide ("clear" = "<init>")) 1 prog_9_method_3_code (kpl kr_79 prog_9_method_3_code.size) (kr_79.drop 0) (kc_79.drop 0) = true := by decide +kernel
theorem kk_79 : ko_k "QuillDesk$Row" (decide ("clear" = "<init>")) 1 prog_9_method_3_code (kpl kr_79 prog_9_method_3_code.size) kr_79 kc_79 = true := ko_k_0 kx_79_0
theorem kp_80 : ko_p prog_9_method_4_code.size kr_80 0 = true := by decide +kernel
theorem kx_80_0 : ko_k "QuillDesk$Row" (decide ("has" = "<init>")) 3 prog_9_method_4_code (kpl kr_80 prog_9_method_4_code.size) (kr_80.drop 0) (kc_80.drop 0) = true := by decide +kernel
theorem kk_80 : ko_k "QuillDesk$Row" (decide ("has" = "<init>")) 3 prog_9_method_4_code (kpl kr_80 prog_9_method_4_code.size) kr_80 kc_80 = true := ko_k_0 kx_80_0
theorem kp_81 : ko_p prog_9_method_5_code.size kr_81 0 = true := by decide +kernel
theorem kx_81_0 : ko_k "QuillDesk$Row" (decide ("sum" = "<init>")) 3 prog_9_method_5_code (kpl kr_81 prog_9_method_5_code.size) (kr_81.drop 0) (kc_81.drop 0) = true := by decide +kernel
theorem kk_81 : ko_k "QuillDesk$Row" (decide ("sum" = "<init>")) 3 prog_9_method_5_code (kpl kr_81 prog_9_method_5_code.size) kr_81 kc_81 = true := ko_k_0 kx_81_0
theorem kp_82 : ko_p prog_9_method_6_code.size kr_82 0 = true := by decide +kernel
theorem kx_82_0 : ko_k "QuillDesk$Row" (decide ("round" = "<init>")) 2 prog_9_method_6_code (kpl kr_82 prog_9_method_6_code.size) (kr_82.drop 0) (kc_82.drop 0) = true := by decide +kernel
theorem kk_82 : ko_k "QuillDesk$Row" (decide ("round" = "<init>")) 2 prog_9_method_6_code (kpl kr_82 prog_9_method_6_code.size) kr_82 kc_82 = true := ko_k_0 kx_82_0
theorem kp_83 : ko_p prog_9_method_7_code.size kr_83 0 = true := by decide +kernel
theorem kx_83_0 : ko_k "QuillDesk$Row" (decide ("copyFrom" = "<init>")) 2 prog_9_method_7_code (kpl kr_83 prog_9_method_7_code.size) (kr_83.drop 0) (kc_83.drop 0) = true := by decide +kernel
theorem kk_83 : ko_k "QuillDesk$Row" (decide ("copyFrom" = "<init>")) 2 prog_9_method_7_code (kpl kr_83 prog_9_method_7_code.size) kr_83 kc_83 = true := ko_k_0 kx_83_0
theorem kp_84 : ko_p prog_10_method_1_code.size kr_84 0 = true := by decide +kernel
theorem kx_84_0 : ko_k "QuillDesk$Text" (decide ("<init>" = "<init>")) 1 prog_10_method_1_code (kpl kr_84 prog_10_method_1_code.size) (kr_84.drop 0) (kc_84.drop 0) = true := by decide +kernel
theorem kk_84 : ko_k "QuillDesk$Text" (decide ("<init>" = "<init>")) 1 prog_10_method_1_code (kpl kr_84 prog_10_method_1_code.size) kr_84 kc_84 = true := ko_k_0 kx_84_0
theorem kp_85 : ko_p prog_10_method_2_code.size kr_85 0 = true := by decide +kernel
theorem kx_85_0 : ko_k "QuillDesk$Text" (decide ("add" = "<init>")) 5 prog_10_method_2_code (kpl kr_85 prog_10_method_2_code.size) (kr_85.drop 0) (kc_85.drop 0) = true := by decide +kernel
theorem kk_85 : ko_k "QuillDesk$Text" (decide ("add" = "<init>")) 5 prog_10_method_2_code (kpl kr_85 prog_10_method_2_code.size) kr_85 kc_85 = true := ko_k_0 kx_85_0
theorem kp_86 : ko_p prog_10_method_3_code.size kr_86 0 = true := by decide +kernel
theorem kx_86_0 : ko_k "QuillDesk$Text" (decide ("copyFrom" = "<init>")) 2 prog_10_method_3_code (kpl kr_86 prog_10_method_3_code.size) (kr_86.drop 0) (kc_86.drop 0) = true := by decide +kernel
theorem kk_86 : ko_k "QuillDesk$Text" (decide ("copyFrom" = "<init>")) 2 prog_10_method_3_code (kpl kr_86 prog_10_method_3_code.size) kr_86 kc_86 = true := ko_k_0 kx_86_0
theorem kp_87 : ko_p prog_11_method_1_code.size kr_87 0 = true := by decide +kernel
theorem kx_87_0 : ko_k "QuillDesk$Thought" (decide ("<init>" = "<init>")) 1 prog_11_method_1_code (kpl kr_87 prog_11_method_1_code.size) (kr_87.drop 0) (kc_87.drop 0) = true := by decide +kernel
theorem kk_87 : ko_k "QuillDesk$Thought" (decide ("<init>" = "<init>")) 1 prog_11_method_1_code (kpl kr_87 prog_11_method_1_code.size) kr_87 kc_87 = true := ko_k_0 kx_87_0
theorem kp_88 : ko_p prog_11_method_2_code.size kr_88 0 = true := by decide +kernel
theorem kx_88_0 : ko_k "QuillDesk$Thought" (decide ("countFlock" = "<init>")) 6 prog_11_method_2_code (kpl kr_88 prog_11_method_2_code.size) ((kr_88.drop 0).take 40) ((kc_88.drop 0).take 40) = true := by decide +kernel
theorem kx_88_40 : ko_k "QuillDesk$Thought" (decide ("countFlock" = "<init>")) 6 prog_11_method_2_code (kpl kr_88 prog_11_method_2_code.size) ((kr_88.drop 40).take 40) ((kc_88.drop 40).take 40) = true := by decide +kernel
theorem kx_88_80 : ko_k "QuillDesk$Thought" (decide ("countFlock" = "<init>")) 6 prog_11_method_2_code (kpl kr_88 prog_11_method_2_code.size) (kr_88.drop 80) (kc_88.drop 80) = true := by decide +kernel
theorem kk_88 : ko_k "QuillDesk$Thought" (decide ("countFlock" = "<init>")) 6 prog_11_method_2_code (kpl kr_88 prog_11_method_2_code.size) kr_88 kc_88 = true := ko_k_0 (ko_k_cut 0 40 40 rfl kx_88_0 (ko_k_cut 40 40 80 rfl kx_88_40 kx_88_80))
theorem kp_89 : ko_p prog_11_method_3_code.size kr_89 0 = true := by decide +kernel
theorem kx_89_0 : ko_k "QuillDesk$Thought" (decide ("setPage" = "<init>")) 12 prog_11_method_3_code (kpl kr_89 prog_11_method_3_code.size) ((kr_89.drop 0).take 40) ((kc_89.drop 0).take 40) = true := by decide +kernel
theorem kx_89_40 : ko_k "QuillDesk$Thought" (decide ("setPage" = "<init>")) 12 prog_11_method_3_code (kpl kr_89 prog_11_method_3_code.size) ((kr_89.drop 40).take 40) ((kc_89.drop 40).take 40) = true := by decide +kernel
theorem kx_89_80 : ko_k "QuillDesk$Thought" (decide ("setPage" = "<init>")) 12 prog_11_method_3_code (kpl kr_89 prog_11_method_3_code.size) ((kr_89.drop 80).take 40) ((kc_89.drop 80).take 40) = true := by decide +kernel
theorem kx_89_120 : ko_k "QuillDesk$Thought" (decide ("setPage" = "<init>")) 12 prog_11_method_3_code (kpl kr_89 prog_11_method_3_code.size) (kr_89.drop 120) (kc_89.drop 120) = true := by decide +kernel
theorem kk_89 : ko_k "QuillDesk$Thought" (decide ("setPage" = "<init>")) 12 prog_11_method_3_code (kpl kr_89 prog_11_method_3_code.size) kr_89 kc_89 = true := ko_k_0 (ko_k_cut 0 40 40 rfl kx_89_0 (ko_k_cut 40 40 80 rfl kx_89_40 (ko_k_cut 80 40 120 rfl kx_89_80 kx_89_120)))
theorem kp_90 : ko_p prog_11_method_4_code.size kr_90 0 = true := by decide +kernel
theorem kx_90_0 : ko_k "QuillDesk$Thought" (decide ("payStamps" = "<init>")) 8 prog_11_method_4_code (kpl kr_90 prog_11_method_4_code.size) ((kr_90.drop 0).take 40) ((kc_90.drop 0).take 40) = true := by decide +kernel
