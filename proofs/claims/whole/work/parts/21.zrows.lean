/-! the rows of the walk as a function; the cells by number -/
theorem zk_0 : zkd 0 = (0, 10) := by decide +kernel
theorem zp_0_0 : zpt 0 0 = some 1 := by decide +kernel
theorem zp_0_1 : zpt 0 1 = some 60 := by decide +kernel
theorem zp_0_3 : zpt 0 3 = some 119 := by decide +kernel
theorem zp_0_4 : zpt 0 4 = some 200 := by decide +kernel
theorem zp_0_5 : zpt 0 5 = some 213 := by decide +kernel
theorem zp_0_6 : zpt 0 6 = some 231 := by decide +kernel
theorem zp_0_7 : zpt 0 7 = some 238 := by decide +kernel
theorem zk_1 : zkd 1 = (0, 2) := by decide +kernel
theorem zp_1_0 : zpt 1 0 = some 2 := by decide +kernel
theorem zp_1_1 : zpt 1 1 = some 15 := by decide +kernel
theorem zp_1_2 : zpt 1 2 = some 20 := by decide +kernel
theorem zp_1_3 : zpt 1 3 = some 29 := by decide +kernel
theorem zp_1_4 : zpt 1 4 = some 34 := by decide +kernel
theorem zp_1_5 : zpt 1 5 = some 39 := by decide +kernel
theorem zp_1_6 : zpt 1 6 = some 44 := by decide +kernel
theorem zp_1_7 : zpt 1 7 = some 46 := by decide +kernel
theorem zp_1_8 : zpt 1 8 = some 48 := by decide +kernel
theorem zp_1_9 : zpt 1 9 = some 49 := by decide +kernel
theorem zp_1_10 : zpt 1 10 = some 50 := by decide +kernel
theorem zp_1_11 : zpt 1 11 = some 52 := by decide +kernel
theorem zp_1_12 : zpt 1 12 = some 54 := by decide +kernel
theorem zp_1_13 : zpt 1 13 = some 56 := by decide +kernel
theorem zp_1_14 : zpt 1 14 = some 58 := by decide +kernel
theorem zk_2 : zkd 2 = (0, 3) := by decide +kernel
theorem zp_2_6 : zpt 2 6 = some 3 := by decide +kernel
theorem zp_2_7 : zpt 2 7 = some 4 := by decide +kernel
theorem zp_2_8 : zpt 2 8 = some 5 := by decide +kernel
theorem zp_2_9 : zpt 2 9 = some 6 := by decide +kernel
theorem zp_2_10 : zpt 2 10 = some 7 := by decide +kernel
theorem zp_2_11 : zpt 2 11 = some 8 := by decide +kernel
theorem zp_2_12 : zpt 2 12 = some 9 := by decide +kernel
theorem zp_2_13 : zpt 2 13 = some 10 := by decide +kernel
theorem zp_2_14 : zpt 2 14 = some 11 := by decide +kernel
theorem zp_2_15 : zpt 2 15 = some 12 := by decide +kernel
theorem zp_2_16 : zpt 2 16 = some 13 := by decide +kernel
theorem zp_2_17 : zpt 2 17 = some 14 := by decide +kernel
theorem zk_3 : zkd 3 = (1, 14) := by decide +kernel
theorem zk_4 : zkd 4 = (1, 14) := by decide +kernel
theorem zk_5 : zkd 5 = (1, 14) := by decide +kernel
theorem zk_6 : zkd 6 = (1, 14) := by decide +kernel
theorem zk_7 : zkd 7 = (1, 10) := by decide +kernel
theorem zk_8 : zkd 8 = (1, 10) := by decide +kernel
theorem zk_9 : zkd 9 = (1, 10) := by decide +kernel
theorem zk_10 : zkd 10 = (1, 10) := by decide +kernel
theorem zk_11 : zkd 11 = (1, 10) := by decide +kernel
theorem zk_12 : zkd 12 = (1, 12) := by decide +kernel
theorem zk_13 : zkd 13 = (1, 12) := by decide +kernel
theorem zk_14 : zkd 14 = (1, 12) := by decide +kernel
theorem zk_15 : zkd 15 = (0, 0) := by decide +kernel
theorem zp_15_0 : zpt 15 0 = some 16 := by decide +kernel
theorem zp_15_1 : zpt 15 1 = some 17 := by decide +kernel
theorem zp_15_2 : zpt 15 2 = some 18 := by decide +kernel
theorem zp_15_3 : zpt 15 3 = some 19 := by decide +kernel
theorem zk_16 : zkd 16 = (1, 150) := by decide +kernel
theorem zk_17 : zkd 17 = (1, 150) := by decide +kernel
theorem zk_18 : zkd 18 = (1, 150) := by decide +kernel
theorem zk_19 : zkd 19 = (1, 150) := by decide +kernel
theorem zk_20 : zkd 20 = (0, 4) := by decide +kernel
theorem zp_20_0 : zpt 20 0 = some 21 := by decide +kernel
theorem zp_20_1 : zpt 20 1 = some 26 := by decide +kernel
theorem zp_20_3 : zpt 20 3 = some 27 := by decide +kernel
theorem zp_20_4 : zpt 20 4 = some 28 := by decide +kernel
theorem zk_21 : zkd 21 = (0, 8) := by decide +kernel
theorem zp_21_0 : zpt 21 0 = some 22 := by decide +kernel
theorem zp_21_1 : zpt 21 1 = some 23 := by decide +kernel
theorem zp_21_2 : zpt 21 2 = some 24 := by decide +kernel
theorem zp_21_3 : zpt 21 3 = some 25 := by decide +kernel
theorem zk_22 : zkd 22 = (1, 16) := by decide +kernel
theorem zk_23 : zkd 23 = (1, 16) := by decide +kernel
theorem zk_24 : zkd 24 = (1, 16) := by decide +kernel
theorem zk_25 : zkd 25 = (1, 16) := by decide +kernel
theorem zk_26 : zkd 26 = (1, 400) := by decide +kernel
theorem zk_27 : zkd 27 = (1, 11) := by decide +kernel
theorem zk_28 : zkd 28 = (1, 64) := by decide +kernel
theorem zk_29 : zkd 29 = (0, 8) := by decide +kernel
theorem zp_29_0 : zpt 29 0 = some 30 := by decide +kernel
theorem zp_29_1 : zpt 29 1 = some 31 := by decide +kernel
theorem zp_29_2 : zpt 29 2 = some 32 := by decide +kernel
theorem zp_29_3 : zpt 29 3 = some 33 := by decide +kernel
theorem zk_30 : zkd 30 = (1, 16) := by decide +kernel
theorem zk_31 : zkd 31 = (1, 16) := by decide +kernel
theorem zk_32 : zkd 32 = (1, 16) := by decide +kernel
theorem zk_33 : zkd 33 = (1, 16) := by decide +kernel
theorem zk_34 : zkd 34 = (0, 8) := by decide +kernel
theorem zp_34_0 : zpt 34 0 = some 35 := by decide +kernel
theorem zp_34_1 : zpt 34 1 = some 36 := by decide +kernel
theorem zp_34_2 : zpt 34 2 = some 37 := by decide +kernel
theorem zp_34_3 : zpt 34 3 = some 38 := by decide +kernel
theorem zk_35 : zkd 35 = (1, 16) := by decide +kernel
theorem zk_36 : zkd 36 = (1, 16) := by decide +kernel
theorem zk_37 : zkd 37 = (1, 16) := by decide +kernel
theorem zk_38 : zkd 38 = (1, 16) := by decide +kernel
theorem zk_39 : zkd 39 = (0, 8) := by decide +kernel
theorem zp_39_0 : zpt 39 0 = some 40 := by decide +kernel
theorem zp_39_1 : zpt 39 1 = some 41 := by decide +kernel
theorem zp_39_2 : zpt 39 2 = some 42 := by decide +kernel
theorem zp_39_3 : zpt 39 3 = some 43 := by decide +kernel
theorem zk_40 : zkd 40 = (1, 16) := by decide +kernel
theorem zk_41 : zkd 41 = (1, 16) := by decide +kernel
theorem zk_42 : zkd 42 = (1, 16) := by decide +kernel
theorem zk_43 : zkd 43 = (1, 16) := by decide +kernel
theorem zk_44 : zkd 44 = (0, 7) := by decide +kernel
theorem zp_44_0 : zpt 44 0 = some 45 := by decide +kernel
theorem zk_45 : zkd 45 = (1, 12) := by decide +kernel
theorem zk_46 : zkd 46 = (0, 7) := by decide +kernel
theorem zp_46_0 : zpt 46 0 = some 47 := by decide +kernel
theorem zk_47 : zkd 47 = (1, 12) := by decide +kernel
theorem zk_48 : zkd 48 = (1, 3) := by decide +kernel
theorem zk_49 : zkd 49 = (1, 3) := by decide +kernel
theorem zk_50 : zkd 50 = (0, 7) := by decide +kernel
theorem zp_50_0 : zpt 50 0 = some 51 := by decide +kernel
theorem zk_51 : zkd 51 = (1, 12) := by decide +kernel
theorem zk_52 : zkd 52 = (0, 7) := by decide +kernel
theorem zp_52_0 : zpt 52 0 = some 53 := by decide +kernel
theorem zk_53 : zkd 53 = (1, 12) := by decide +kernel
theorem zk_54 : zkd 54 = (0, 7) := by decide +kernel
theorem zp_54_0 : zpt 54 0 = some 55 := by decide +kernel
theorem zk_55 : zkd 55 = (1, 12) := by decide +kernel
theorem zk_56 : zkd 56 = (0, 7) := by decide +kernel
theorem zp_56_0 : zpt 56 0 = some 57 := by decide +kernel
theorem zk_57 : zkd 57 = (1, 12) := by decide +kernel
theorem zk_58 : zkd 58 = (0, 7) := by decide +kernel
theorem zp_58_0 : zpt 58 0 = some 59 := by decide +kernel
theorem zk_59 : zkd 59 = (1, 12) := by decide +kernel
theorem zk_60 : zkd 60 = (0, 2) := by decide +kernel
theorem zp_60_0 : zpt 60 0 = some 61 := by decide +kernel
theorem zp_60_1 : zpt 60 1 = some 74 := by decide +kernel
theorem zp_60_2 : zpt 60 2 = some 79 := by decide +kernel
theorem zp_60_3 : zpt 60 3 = some 88 := by decide +kernel
theorem zp_60_4 : zpt 60 4 = some 93 := by decide +kernel
theorem zp_60_5 : zpt 60 5 = some 98 := by decide +kernel
theorem zp_60_6 : zpt 60 6 = some 103 := by decide +kernel
theorem zp_60_7 : zpt 60 7 = some 105 := by decide +kernel
theorem zp_60_8 : zpt 60 8 = some 107 := by decide +kernel
theorem zp_60_9 : zpt 60 9 = some 108 := by decide +kernel
theorem zp_60_10 : zpt 60 10 = some 109 := by decide +kernel
theorem zp_60_11 : zpt 60 11 = some 111 := by decide +kernel
theorem zp_60_12 : zpt 60 12 = some 113 := by decide +kernel
theorem zp_60_13 : zpt 60 13 = some 115 := by decide +kernel
theorem zp_60_14 : zpt 60 14 = some 117 := by decide +kernel
theorem zk_61 : zkd 61 = (0, 3) := by decide +kernel
theorem zp_61_6 : zpt 61 6 = some 62 := by decide +kernel
theorem zp_61_7 : zpt 61 7 = some 63 := by decide +kernel
theorem zp_61_8 : zpt 61 8 = some 64 := by decide +kernel
theorem zp_61_9 : zpt 61 9 = some 65 := by decide +kernel
theorem zp_61_10 : zpt 61 10 = some 66 := by decide +kernel
theorem zp_61_11 : zpt 61 11 = some 67 := by decide +kernel
theorem zp_61_12 : zpt 61 12 = some 68 := by decide +kernel
theorem zp_61_13 : zpt 61 13 = some 69 := by decide +kernel
theorem zp_61_14 : zpt 61 14 = some 70 := by decide +kernel
theorem zp_61_15 : zpt 61 15 = some 71 := by decide +kernel
theorem zp_61_16 : zpt 61 16 = some 72 := by decide +kernel
theorem zp_61_17 : zpt 61 17 = some 73 := by decide +kernel
theorem zk_62 : zkd 62 = (1, 14) := by decide +kernel
theorem zk_63 : zkd 63 = (1, 14) := by decide +kernel
theorem zk_64 : zkd 64 = (1, 14) := by decide +kernel
theorem zk_65 : zkd 65 = (1, 14) := by decide +kernel
theorem zk_66 : zkd 66 = (1, 10) := by decide +kernel
theorem zk_67 : zkd 67 = (1, 10) := by decide +kernel
theorem zk_68 : zkd 68 = (1, 10) := by decide +kernel
theorem zk_69 : zkd 69 = (1, 10) := by decide +kernel
theorem zk_70 : zkd 70 = (1, 10) := by decide +kernel
theorem zk_71 : zkd 71 = (1, 12) := by decide +kernel
theorem zk_72 : zkd 72 = (1, 12) := by decide +kernel
theorem zk_73 : zkd 73 = (1, 12) := by decide +kernel
theorem zk_74 : zkd 74 = (0, 0) := by decide +kernel
theorem zp_74_0 : zpt 74 0 = some 75 := by decide +kernel
theorem zp_74_1 : zpt 74 1 = some 76 := by decide +kernel
theorem zp_74_2 : zpt 74 2 = some 77 := by decide +kernel
theorem zp_74_3 : zpt 74 3 = some 78 := by decide +kernel
theorem zk_75 : zkd 75 = (1, 150) := by decide +kernel
theorem zk_76 : zkd 76 = (1, 150) := by decide +kernel
theorem zk_77 : zkd 77 = (1, 150) := by decide +kernel
theorem zk_78 : zkd 78 = (1, 150) := by decide +kernel
theorem zk_79 : zkd 79 = (0, 4) := by decide +kernel
theorem zp_79_0 : zpt 79 0 = some 80 := by decide +kernel
theorem zp_79_1 : zpt 79 1 = some 85 := by decide +kernel
theorem zp_79_3 : zpt 79 3 = some 86 := by decide +kernel
theorem zp_79_4 : zpt 79 4 = some 87 := by decide +kernel
theorem zk_80 : zkd 80 = (0, 8) := by decide +kernel
theorem zp_80_0 : zpt 80 0 = some 81 := by decide +kernel
theorem zp_80_1 : zpt 80 1 = some 82 := by decide +kernel
theorem zp_80_2 : zpt 80 2 = some 83 := by decide +kernel
theorem zp_80_3 : zpt 80 3 = some 84 := by decide +kernel
theorem zk_81 : zkd 81 = (1, 16) := by decide +kernel
theorem zk_82 : zkd 82 = (1, 16) := by decide +kernel
theorem zk_83 : zkd 83 = (1, 16) := by decide +kernel
theorem zk_84 : zkd 84 = (1, 16) := by decide +kernel
theorem zk_85 : zkd 85 = (1, 400) := by decide +kernel
theorem zk_86 : zkd 86 = (1, 11) := by decide +kernel
theorem zk_87 : zkd 87 = (1, 64) := by decide +kernel
theorem zk_88 : zkd 88 = (0, 8) := by decide +kernel
theorem zp_88_0 : zpt 88 0 = some 89 := by decide +kernel
theorem zp_88_1 : zpt 88 1 = some 90 := by decide +kernel
theorem zp_88_2 : zpt 88 2 = some 91 := by decide +kernel
theorem zp_88_3 : zpt 88 3 = some 92 := by decide +kernel
theorem zk_89 : zkd 89 = (1, 16) := by decide +kernel
theorem zk_90 : zkd 90 = (1, 16) := by decide +kernel
theorem zk_91 : zkd 91 = (1, 16) := by decide +kernel
theorem zk_92 : zkd 92 = (1, 16) := by decide +kernel
theorem zk_93 : zkd 93 = (0, 8) := by decide +kernel
theorem zp_93_0 : zpt 93 0 = some 94 := by decide +kernel
theorem zp_93_1 : zpt 93 1 = some 95 := by decide +kernel
theorem zp_93_2 : zpt 93 2 = some 96 := by decide +kernel
theorem zp_93_3 : zpt 93 3 = some 97 := by decide +kernel
theorem zk_94 : zkd 94 = (1, 16) := by decide +kernel
theorem zk_95 : zkd 95 = (1, 16) := by decide +kernel
theorem zk_96 : zkd 96 = (1, 16) := by decide +kernel
theorem zk_97 : zkd 97 = (1, 16) := by decide +kernel
theorem zk_98 : zkd 98 = (0, 8) := by decide +kernel
theorem zp_98_0 : zpt 98 0 = some 99 := by decide +kernel
theorem zp_98_1 : zpt 98 1 = some 100 := by decide +kernel
theorem zp_98_2 : zpt 98 2 = some 101 := by decide +kernel
theorem zp_98_3 : zpt 98 3 = some 102 := by decide +kernel
theorem zk_99 : zkd 99 = (1, 16) := by decide +kernel
theorem zk_100 : zkd 100 = (1, 16) := by decide +kernel
theorem zk_101 : zkd 101 = (1, 16) := by decide +kernel
theorem zk_102 : zkd 102 = (1, 16) := by decide +kernel
theorem zk_103 : zkd 103 = (0, 7) := by decide +kernel
theorem zp_103_0 : zpt 103 0 = some 104 := by decide +kernel
theorem zk_104 : zkd 104 = (1, 12) := by decide +kernel
theorem zk_105 : zkd 105 = (0, 7) := by decide +kernel
theorem zp_105_0 : zpt 105 0 = some 106 := by decide +kernel
theorem zk_106 : zkd 106 = (1, 12) := by decide +kernel
theorem zk_107 : zkd 107 = (1, 3) := by decide +kernel
theorem zk_108 : zkd 108 = (1, 3) := by decide +kernel
theorem zk_109 : zkd 109 = (0, 7) := by decide +kernel
theorem zp_109_0 : zpt 109 0 = some 110 := by decide +kernel
theorem zk_110 : zkd 110 = (1, 12) := by decide +kernel
theorem zk_111 : zkd 111 = (0, 7) := by decide +kernel
theorem zp_111_0 : zpt 111 0 = some 112 := by decide +kernel
theorem zk_112 : zkd 112 = (1, 12) := by decide +kernel
theorem zk_113 : zkd 113 = (0, 7) := by decide +kernel
theorem zp_113_0 : zpt 113 0 = some 114 := by decide +kernel
theorem zk_114 : zkd 114 = (1, 12) := by decide +kernel
theorem zk_115 : zkd 115 = (0, 7) := by decide +kernel
theorem zp_115_0 : zpt 115 0 = some 116 := by decide +kernel
theorem zk_116 : zkd 116 = (1, 12) := by decide +kernel
theorem zk_117 : zkd 117 = (0, 7) := by decide +kernel
theorem zp_117_0 : zpt 117 0 = some 118 := by decide +kernel
theorem zk_118 : zkd 118 = (1, 12) := by decide +kernel
theorem zk_119 : zkd 119 = (0, 5) := by decide +kernel
theorem zp_119_0 : zpt 119 0 = some 120 := by decide +kernel
theorem zp_119_1 : zpt 119 1 = some 199 := by decide +kernel
theorem zk_120 : zkd 120 = (2, 6) := by decide +kernel
theorem zk_121 : zkd 121 = (0, 3) := by decide +kernel
theorem zp_121_6 : zpt 121 6 = some 122 := by decide +kernel
theorem zp_121_7 : zpt 121 7 = some 123 := by decide +kernel
theorem zp_121_8 : zpt 121 8 = some 124 := by decide +kernel
theorem zp_121_9 : zpt 121 9 = some 125 := by decide +kernel
theorem zp_121_10 : zpt 121 10 = some 126 := by decide +kernel
theorem zp_121_11 : zpt 121 11 = some 127 := by decide +kernel
theorem zp_121_12 : zpt 121 12 = some 128 := by decide +kernel
theorem zp_121_13 : zpt 121 13 = some 129 := by decide +kernel
theorem zp_121_14 : zpt 121 14 = some 130 := by decide +kernel
theorem zp_121_15 : zpt 121 15 = some 131 := by decide +kernel
theorem zp_121_16 : zpt 121 16 = some 132 := by decide +kernel
theorem zp_121_17 : zpt 121 17 = some 133 := by decide +kernel
theorem zk_122 : zkd 122 = (1, 14) := by decide +kernel
theorem zk_123 : zkd 123 = (1, 14) := by decide +kernel
theorem zk_124 : zkd 124 = (1, 14) := by decide +kernel
theorem zk_125 : zkd 125 = (1, 14) := by decide +kernel
theorem zk_126 : zkd 126 = (1, 10) := by decide +kernel
theorem zk_127 : zkd 127 = (1, 10) := by decide +kernel
theorem zk_128 : zkd 128 = (1, 10) := by decide +kernel
theorem zk_129 : zkd 129 = (1, 10) := by decide +kernel
theorem zk_130 : zkd 130 = (1, 10) := by decide +kernel
theorem zk_131 : zkd 131 = (1, 12) := by decide +kernel
theorem zk_132 : zkd 132 = (1, 12) := by decide +kernel
theorem zk_133 : zkd 133 = (1, 12) := by decide +kernel
theorem zk_134 : zkd 134 = (0, 3) := by decide +kernel
theorem zp_134_6 : zpt 134 6 = some 135 := by decide +kernel
theorem zp_134_7 : zpt 134 7 = some 136 := by decide +kernel
theorem zp_134_8 : zpt 134 8 = some 137 := by decide +kernel
theorem zp_134_9 : zpt 134 9 = some 138 := by decide +kernel
theorem zp_134_10 : zpt 134 10 = some 139 := by decide +kernel
theorem zp_134_11 : zpt 134 11 = some 140 := by decide +kernel
theorem zp_134_12 : zpt 134 12 = some 141 := by decide +kernel
theorem zp_134_13 : zpt 134 13 = some 142 := by decide +kernel
theorem zp_134_14 : zpt 134 14 = some 143 := by decide +kernel
theorem zp_134_15 : zpt 134 15 = some 144 := by decide +kernel
theorem zp_134_16 : zpt 134 16 = some 145 := by decide +kernel
theorem zp_134_17 : zpt 134 17 = some 146 := by decide +kernel
theorem zk_135 : zkd 135 = (1, 14) := by decide +kernel
theorem zk_136 : zkd 136 = (1, 14) := by decide +kernel
theorem zk_137 : zkd 137 = (1, 14) := by decide +kernel
theorem zk_138 : zkd 138 = (1, 14) := by decide +kernel
theorem zk_139 : zkd 139 = (1, 10) := by decide +kernel
theorem zk_140 : zkd 140 = (1, 10) := by decide +kernel
theorem zk_141 : zkd 141 = (1, 10) := by decide +kernel
theorem zk_142 : zkd 142 = (1, 10) := by decide +kernel
theorem zk_143 : zkd 143 = (1, 10) := by decide +kernel
theorem zk_144 : zkd 144 = (1, 12) := by decide +kernel
theorem zk_145 : zkd 145 = (1, 12) := by decide +kernel
theorem zk_146 : zkd 146 = (1, 12) := by decide +kernel
theorem zk_147 : zkd 147 = (0, 3) := by decide +kernel
theorem zp_147_6 : zpt 147 6 = some 148 := by decide +kernel
theorem zp_147_7 : zpt 147 7 = some 149 := by decide +kernel
theorem zp_147_8 : zpt 147 8 = some 150 := by decide +kernel
theorem zp_147_9 : zpt 147 9 = some 151 := by decide +kernel
theorem zp_147_10 : zpt 147 10 = some 152 := by decide +kernel
theorem zp_147_11 : zpt 147 11 = some 153 := by decide +kernel
theorem zp_147_12 : zpt 147 12 = some 154 := by decide +kernel
theorem zp_147_13 : zpt 147 13 = some 155 := by decide +kernel
theorem zp_147_14 : zpt 147 14 = some 156 := by decide +kernel
theorem zp_147_15 : zpt 147 15 = some 157 := by decide +kernel
theorem zp_147_16 : zpt 147 16 = some 158 := by decide +kernel
theorem zp_147_17 : zpt 147 17 = some 159 := by decide +kernel
theorem zk_148 : zkd 148 = (1, 14) := by decide +kernel
theorem zk_149 : zkd 149 = (1, 14) := by decide +kernel
theorem zk_150 : zkd 150 = (1, 14) := by decide +kernel
theorem zk_151 : zkd 151 = (1, 14) := by decide +kernel
theorem zk_152 : zkd 152 = (1, 10) := by decide +kernel
theorem zk_153 : zkd 153 = (1, 10) := by decide +kernel
theorem zk_154 : zkd 154 = (1, 10) := by decide +kernel
theorem zk_155 : zkd 155 = (1, 10) := by decide +kernel
theorem zk_156 : zkd 156 = (1, 10) := by decide +kernel
theorem zk_157 : zkd 157 = (1, 12) := by decide +kernel
theorem zk_158 : zkd 158 = (1, 12) := by decide +kernel
theorem zk_159 : zkd 159 = (1, 12) := by decide +kernel
theorem zk_160 : zkd 160 = (0, 3) := by decide +kernel
theorem zp_160_6 : zpt 160 6 = some 161 := by decide +kernel
theorem zp_160_7 : zpt 160 7 = some 162 := by decide +kernel
theorem zp_160_8 : zpt 160 8 = some 163 := by decide +kernel
theorem zp_160_9 : zpt 160 9 = some 164 := by decide +kernel
theorem zp_160_10 : zpt 160 10 = some 165 := by decide +kernel
theorem zp_160_11 : zpt 160 11 = some 166 := by decide +kernel
theorem zp_160_12 : zpt 160 12 = some 167 := by decide +kernel
theorem zp_160_13 : zpt 160 13 = some 168 := by decide +kernel
theorem zp_160_14 : zpt 160 14 = some 169 := by decide +kernel
theorem zp_160_15 : zpt 160 15 = some 170 := by decide +kernel
theorem zp_160_16 : zpt 160 16 = some 171 := by decide +kernel
theorem zp_160_17 : zpt 160 17 = some 172 := by decide +kernel
theorem zk_161 : zkd 161 = (1, 14) := by decide +kernel
theorem zk_162 : zkd 162 = (1, 14) := by decide +kernel
theorem zk_163 : zkd 163 = (1, 14) := by decide +kernel
theorem zk_164 : zkd 164 = (1, 14) := by decide +kernel
theorem zk_165 : zkd 165 = (1, 10) := by decide +kernel
theorem zk_166 : zkd 166 = (1, 10) := by decide +kernel
theorem zk_167 : zkd 167 = (1, 10) := by decide +kernel
theorem zk_168 : zkd 168 = (1, 10) := by decide +kernel
theorem zk_169 : zkd 169 = (1, 10) := by decide +kernel
theorem zk_170 : zkd 170 = (1, 12) := by decide +kernel
theorem zk_171 : zkd 171 = (1, 12) := by decide +kernel
theorem zk_172 : zkd 172 = (1, 12) := by decide +kernel
theorem zk_173 : zkd 173 = (0, 3) := by decide +kernel
theorem zp_173_6 : zpt 173 6 = some 174 := by decide +kernel
theorem zp_173_7 : zpt 173 7 = some 175 := by decide +kernel
theorem zp_173_8 : zpt 173 8 = some 176 := by decide +kernel
theorem zp_173_9 : zpt 173 9 = some 177 := by decide +kernel
theorem zp_173_10 : zpt 173 10 = some 178 := by decide +kernel
theorem zp_173_11 : zpt 173 11 = some 179 := by decide +kernel
theorem zp_173_12 : zpt 173 12 = some 180 := by decide +kernel
theorem zp_173_13 : zpt 173 13 = some 181 := by decide +kernel
theorem zp_173_14 : zpt 173 14 = some 182 := by decide +kernel
theorem zp_173_15 : zpt 173 15 = some 183 := by decide +kernel
theorem zp_173_16 : zpt 173 16 = some 184 := by decide +kernel
theorem zp_173_17 : zpt 173 17 = some 185 := by decide +kernel
theorem zk_174 : zkd 174 = (1, 14) := by decide +kernel
theorem zk_175 : zkd 175 = (1, 14) := by decide +kernel
theorem zk_176 : zkd 176 = (1, 14) := by decide +kernel
theorem zk_177 : zkd 177 = (1, 14) := by decide +kernel
theorem zk_178 : zkd 178 = (1, 10) := by decide +kernel
theorem zk_179 : zkd 179 = (1, 10) := by decide +kernel
theorem zk_180 : zkd 180 = (1, 10) := by decide +kernel
theorem zk_181 : zkd 181 = (1, 10) := by decide +kernel
theorem zk_182 : zkd 182 = (1, 10) := by decide +kernel
theorem zk_183 : zkd 183 = (1, 12) := by decide +kernel
theorem zk_184 : zkd 184 = (1, 12) := by decide +kernel
theorem zk_185 : zkd 185 = (1, 12) := by decide +kernel
theorem zk_186 : zkd 186 = (0, 3) := by decide +kernel
theorem zp_186_6 : zpt 186 6 = some 187 := by decide +kernel
theorem zp_186_7 : zpt 186 7 = some 188 := by decide +kernel
theorem zp_186_8 : zpt 186 8 = some 189 := by decide +kernel
theorem zp_186_9 : zpt 186 9 = some 190 := by decide +kernel
theorem zp_186_10 : zpt 186 10 = some 191 := by decide +kernel
theorem zp_186_11 : zpt 186 11 = some 192 := by decide +kernel
theorem zp_186_12 : zpt 186 12 = some 193 := by decide +kernel
theorem zp_186_13 : zpt 186 13 = some 194 := by decide +kernel
theorem zp_186_14 : zpt 186 14 = some 195 := by decide +kernel
theorem zp_186_15 : zpt 186 15 = some 196 := by decide +kernel
theorem zp_186_16 : zpt 186 16 = some 197 := by decide +kernel
theorem zp_186_17 : zpt 186 17 = some 198 := by decide +kernel
theorem zk_187 : zkd 187 = (1, 14) := by decide +kernel
theorem zk_188 : zkd 188 = (1, 14) := by decide +kernel
theorem zk_189 : zkd 189 = (1, 14) := by decide +kernel
theorem zk_190 : zkd 190 = (1, 14) := by decide +kernel
theorem zk_191 : zkd 191 = (1, 10) := by decide +kernel
theorem zk_192 : zkd 192 = (1, 10) := by decide +kernel
theorem zk_193 : zkd 193 = (1, 10) := by decide +kernel
theorem zk_194 : zkd 194 = (1, 10) := by decide +kernel
theorem zk_195 : zkd 195 = (1, 10) := by decide +kernel
theorem zk_196 : zkd 196 = (1, 12) := by decide +kernel
theorem zk_197 : zkd 197 = (1, 12) := by decide +kernel
theorem zk_198 : zkd 198 = (1, 12) := by decide +kernel
theorem zk_199 : zkd 199 = (1, 6) := by decide +kernel
theorem zk_200 : zkd 200 = (0, 3) := by decide +kernel
theorem zp_200_6 : zpt 200 6 = some 201 := by decide +kernel
theorem zp_200_7 : zpt 200 7 = some 202 := by decide +kernel
theorem zp_200_8 : zpt 200 8 = some 203 := by decide +kernel
theorem zp_200_9 : zpt 200 9 = some 204 := by decide +kernel
theorem zp_200_10 : zpt 200 10 = some 205 := by decide +kernel
theorem zp_200_11 : zpt 200 11 = some 206 := by decide +kernel
theorem zp_200_12 : zpt 200 12 = some 207 := by decide +kernel
theorem zp_200_13 : zpt 200 13 = some 208 := by decide +kernel
theorem zp_200_14 : zpt 200 14 = some 209 := by decide +kernel
theorem zp_200_15 : zpt 200 15 = some 210 := by decide +kernel
theorem zp_200_16 : zpt 200 16 = some 211 := by decide +kernel
theorem zp_200_17 : zpt 200 17 = some 212 := by decide +kernel
theorem zk_201 : zkd 201 = (1, 14) := by decide +kernel
theorem zk_202 : zkd 202 = (1, 14) := by decide +kernel
theorem zk_203 : zkd 203 = (1, 14) := by decide +kernel
theorem zk_204 : zkd 204 = (1, 14) := by decide +kernel
theorem zk_205 : zkd 205 = (1, 10) := by decide +kernel
theorem zk_206 : zkd 206 = (1, 10) := by decide +kernel
theorem zk_207 : zkd 207 = (1, 10) := by decide +kernel
theorem zk_208 : zkd 208 = (1, 10) := by decide +kernel
theorem zk_209 : zkd 209 = (1, 10) := by decide +kernel
theorem zk_210 : zkd 210 = (1, 12) := by decide +kernel
theorem zk_211 : zkd 211 = (1, 12) := by decide +kernel
theorem zk_212 : zkd 212 = (1, 12) := by decide +kernel
theorem zk_213 : zkd 213 = (0, 6) := by decide +kernel
theorem zp_213_0 : zpt 213 0 = some 214 := by decide +kernel
theorem zp_213_2 : zpt 213 2 = some 215 := by decide +kernel
theorem zp_213_3 : zpt 213 3 = some 216 := by decide +kernel
theorem zp_213_9 : zpt 213 9 = some 217 := by decide +kernel
theorem zp_213_10 : zpt 213 10 = some 226 := by decide +kernel
theorem zk_214 : zkd 214 = (1, 400) := by decide +kernel
theorem zk_215 : zkd 215 = (1, 400) := by decide +kernel
theorem zk_216 : zkd 216 = (1, 400) := by decide +kernel
theorem zk_217 : zkd 217 = (0, 4) := by decide +kernel
theorem zp_217_0 : zpt 217 0 = some 218 := by decide +kernel
theorem zp_217_1 : zpt 217 1 = some 223 := by decide +kernel
theorem zp_217_3 : zpt 217 3 = some 224 := by decide +kernel
theorem zp_217_4 : zpt 217 4 = some 225 := by decide +kernel
theorem zk_218 : zkd 218 = (0, 8) := by decide +kernel
theorem zp_218_0 : zpt 218 0 = some 219 := by decide +kernel
theorem zp_218_1 : zpt 218 1 = some 220 := by decide +kernel
theorem zp_218_2 : zpt 218 2 = some 221 := by decide +kernel
theorem zp_218_3 : zpt 218 3 = some 222 := by decide +kernel
theorem zk_219 : zkd 219 = (1, 16) := by decide +kernel
theorem zk_220 : zkd 220 = (1, 16) := by decide +kernel
theorem zk_221 : zkd 221 = (1, 16) := by decide +kernel
theorem zk_222 : zkd 222 = (1, 16) := by decide +kernel
theorem zk_223 : zkd 223 = (1, 400) := by decide +kernel
theorem zk_224 : zkd 224 = (1, 11) := by decide +kernel
theorem zk_225 : zkd 225 = (1, 64) := by decide +kernel
theorem zk_226 : zkd 226 = (0, 8) := by decide +kernel
theorem zp_226_0 : zpt 226 0 = some 227 := by decide +kernel
theorem zp_226_1 : zpt 226 1 = some 228 := by decide +kernel
theorem zp_226_2 : zpt 226 2 = some 229 := by decide +kernel
theorem zp_226_3 : zpt 226 3 = some 230 := by decide +kernel
theorem zk_227 : zkd 227 = (1, 16) := by decide +kernel
theorem zk_228 : zkd 228 = (1, 16) := by decide +kernel
theorem zk_229 : zkd 229 = (1, 16) := by decide +kernel
theorem zk_230 : zkd 230 = (1, 16) := by decide +kernel
theorem zk_231 : zkd 231 = (0, 9) := by decide +kernel
theorem zp_231_0 : zpt 231 0 = some 232 := by decide +kernel
theorem zp_231_1 : zpt 231 1 = some 233 := by decide +kernel
theorem zp_231_2 : zpt 231 2 = some 234 := by decide +kernel
theorem zp_231_3 : zpt 231 3 = some 235 := by decide +kernel
theorem zp_231_4 : zpt 231 4 = some 236 := by decide +kernel
theorem zp_231_5 : zpt 231 5 = some 237 := by decide +kernel
theorem zk_232 : zkd 232 = (1, 13) := by decide +kernel
theorem zk_233 : zkd 233 = (1, 13) := by decide +kernel
theorem zk_234 : zkd 234 = (1, 13) := by decide +kernel
theorem zk_235 : zkd 235 = (1, 1001) := by decide +kernel
theorem zk_236 : zkd 236 = (1, 40) := by decide +kernel
theorem zk_237 : zkd 237 = (1, 81) := by decide +kernel
theorem zk_238 : zkd 238 = (0, 1) := by decide +kernel
theorem zp_238_0 : zpt 238 0 = some 239 := by decide +kernel
theorem zk_239 : zkd 239 = (1, 4096) := by decide +kernel
theorem zk_240 : zkd 240 = (0, 11) := by decide +kernel
theorem zp_240_1 : zpt 240 1 = some 241 := by decide +kernel
theorem zp_240_2 : zpt 240 2 = some 242 := by decide +kernel
theorem zp_240_4 : zpt 240 4 = some 243 := by decide +kernel
theorem zp_240_9 : zpt 240 9 = some 244 := by decide +kernel
theorem zp_240_10 : zpt 240 10 = some 245 := by decide +kernel
theorem zp_240_11 : zpt 240 11 = some 246 := by decide +kernel
theorem zp_240_12 : zpt 240 12 = some 247 := by decide +kernel
theorem zp_240_13 : zpt 240 13 = some 248 := by decide +kernel
theorem zp_240_19 : zpt 240 19 = some 249 := by decide +kernel
theorem zp_240_20 : zpt 240 20 = some 250 := by decide +kernel
theorem zp_240_21 : zpt 240 21 = some 251 := by decide +kernel
theorem zp_240_22 : zpt 240 22 = some 252 := by decide +kernel
theorem zp_240_23 : zpt 240 23 = some 253 := by decide +kernel
theorem zp_240_24 : zpt 240 24 = some 254 := by decide +kernel
theorem zp_240_25 : zpt 240 25 = some 255 := by decide +kernel
theorem zp_240_26 : zpt 240 26 = some 256 := by decide +kernel
theorem zp_240_30 : zpt 240 30 = some 257 := by decide +kernel
theorem zp_240_37 : zpt 240 37 = some 258 := by decide +kernel
theorem zp_240_39 : zpt 240 39 = some 259 := by decide +kernel
theorem zp_240_40 : zpt 240 40 = some 260 := by decide +kernel
theorem zp_240_42 : zpt 240 42 = some 261 := by decide +kernel
theorem zp_240_43 : zpt 240 43 = some 262 := by decide +kernel
theorem zp_240_44 : zpt 240 44 = some 263 := by decide +kernel
theorem zp_240_45 : zpt 240 45 = some 264 := by decide +kernel
theorem zp_240_46 : zpt 240 46 = some 265 := by decide +kernel
theorem zp_240_48 : zpt 240 48 = some 266 := by decide +kernel
theorem zp_240_49 : zpt 240 49 = some 267 := by decide +kernel
theorem zp_240_50 : zpt 240 50 = some 268 := by decide +kernel
theorem zp_240_52 : zpt 240 52 = some 269 := by decide +kernel
theorem zp_240_53 : zpt 240 53 = some 270 := by decide +kernel
theorem zp_240_54 : zpt 240 54 = some 271 := by decide +kernel
theorem zp_240_55 : zpt 240 55 = some 272 := by decide +kernel
theorem zp_240_56 : zpt 240 56 = some 273 := by decide +kernel
theorem zp_240_60 : zpt 240 60 = some 274 := by decide +kernel
theorem zp_240_61 : zpt 240 61 = some 275 := by decide +kernel
theorem zp_240_63 : zpt 240 63 = some 276 := by decide +kernel
theorem zp_240_65 : zpt 240 65 = some 277 := by decide +kernel
theorem zp_240_67 : zpt 240 67 = some 278 := by decide +kernel
theorem zp_240_68 : zpt 240 68 = some 279 := by decide +kernel
theorem zp_240_70 : zpt 240 70 = some 280 := by decide +kernel
theorem zp_240_71 : zpt 240 71 = some 281 := by decide +kernel
theorem zp_240_75 : zpt 240 75 = some 282 := by decide +kernel
theorem zk_241 : zkd 241 = (1, 110) := by decide +kernel
theorem zk_242 : zkd 242 = (1, 660) := by decide +kernel
theorem zk_243 : zkd 243 = (1, 110) := by decide +kernel
theorem zk_244 : zkd 244 = (1, 14) := by decide +kernel
theorem zk_245 : zkd 245 = (1, 10) := by decide +kernel
theorem zk_246 : zkd 246 = (1, 12) := by decide +kernel
theorem zk_247 : zkd 247 = (1, 600) := by decide +kernel
theorem zk_248 : zkd 248 = (1, 400) := by decide +kernel
theorem zk_249 : zkd 249 = (1, 138) := by decide +kernel
theorem zk_250 : zkd 250 = (1, 2) := by decide +kernel
theorem zk_251 : zkd 251 = (1, 48) := by decide +kernel
theorem zk_252 : zkd 252 = (1, 48) := by decide +kernel
theorem zk_253 : zkd 253 = (1, 48) := by decide +kernel
theorem zk_254 : zkd 254 = (1, 48) := by decide +kernel
theorem zk_255 : zkd 255 = (1, 1200) := by decide +kernel
theorem zk_256 : zkd 256 = (1, 1200) := by decide +kernel
theorem zk_257 : zkd 257 = (1, 40) := by decide +kernel
theorem zk_258 : zkd 258 = (1, 128) := by decide +kernel
theorem zk_259 : zkd 259 = (1, 16) := by decide +kernel
theorem zk_260 : zkd 260 = (1, 16) := by decide +kernel
theorem zk_261 : zkd 261 = (1, 24) := by decide +kernel
theorem zk_262 : zkd 262 = (1, 11) := by decide +kernel
theorem zk_263 : zkd 263 = (1, 420) := by decide +kernel
theorem zk_264 : zkd 264 = (1, 12) := by decide +kernel
theorem zk_265 : zkd 265 = (1, 144) := by decide +kernel
theorem zk_266 : zkd 266 = (1, 10) := by decide +kernel
theorem zk_267 : zkd 267 = (1, 11) := by decide +kernel
theorem zk_268 : zkd 268 = (1, 11) := by decide +kernel
theorem zk_269 : zkd 269 = (1, 4) := by decide +kernel
theorem zk_270 : zkd 270 = (1, 2001) := by decide +kernel
theorem zk_271 : zkd 271 = (1, 12) := by decide +kernel
theorem zk_272 : zkd 272 = (1, 3) := by decide +kernel
theorem zk_273 : zkd 273 = (1, 3) := by decide +kernel
theorem zk_274 : zkd 274 = (1, 9) := by decide +kernel
theorem zk_275 : zkd 275 = (1, 81) := by decide +kernel
theorem zk_276 : zkd 276 = (1, 12) := by decide +kernel
theorem zk_277 : zkd 277 = (1, 10) := by decide +kernel
theorem zk_278 : zkd 278 = (1, 8) := by decide +kernel
theorem zk_279 : zkd 279 = (1, 40) := by decide +kernel
theorem zk_280 : zkd 280 = (1, 6) := by decide +kernel
theorem zk_281 : zkd 281 = (1, 4096) := by decide +kernel
theorem zk_282 : zkd 282 = (1, 2200) := by decide +kernel
theorem zk_b : zkd 1000001 = (9, 0) := by decide +kernel
def zRow (a : Nat) : Prop := zkd a = (0, 7) ∧ zpt a 0 = some (a + 1) ∧ zkd (a + 1) = (1, 12)
def zText (a : Nat) : Prop := zkd a = (0, 8) ∧ (zpt a 0 = some (a + 1) ∧ zkd (a + 1) = (1, 16)) ∧ (zpt a 1 = some (a + 2) ∧ zkd (a + 2) = (1, 16)) ∧ (zpt a 2 = some (a + 3) ∧ zkd (a + 3) = (1, 16)) ∧ (zpt a 3 = some (a + 4) ∧ zkd (a + 4) = (1, 16))
def zFirm (a : Nat) : Prop := zkd a = (0, 3) ∧ (zpt a 6 = some (a + 1) ∧ zkd (a + 1) = (1, 14)) ∧ (zpt a 7 = some (a + 2) ∧ zkd (a + 2) = (1, 14)) ∧ (zpt a 8 = some (a + 3) ∧ zkd (a + 3) = (1, 14)) ∧ (zpt a 9 = some (a + 4) ∧ zkd (a + 4) = (1, 14)) ∧ (zpt a 10 = some (a + 5) ∧ zkd (a + 5) = (1, 10)) ∧ (zpt a 11 = some (a + 6) ∧ zkd (a + 6) = (1, 10)) ∧ (zpt a 12 = some (a + 7) ∧ zkd (a + 7) = (1, 10)) ∧ (zpt a 13 = some (a + 8) ∧ zkd (a + 8) = (1, 10)) ∧ (zpt a 14 = some (a + 9) ∧ zkd (a + 9) = (1, 10)) ∧ (zpt a 15 = some (a + 10) ∧ zkd (a + 10) = (1, 12)) ∧ (zpt a 16 = some (a + 11) ∧ zkd (a + 11) = (1, 12)) ∧ (zpt a 17 = some (a + 12) ∧ zkd (a + 12) = (1, 12))
theorem kfc_0 : kf_c 0 = 0 := by decide
theorem kfk_0 : kf_k 0 = 0 := by decide
theorem kfc_2 : kf_c 2 = 0 := by decide
theorem kfk_2 : kf_k 2 = 1 := by decide
theorem kfc_4 : kf_c 4 = 0 := by decide
theorem kfk_4 : kf_k 4 = 2 := by decide
theorem kfc_6 : kf_c 6 = 0 := by decide
theorem kfk_6 : kf_k 6 = 3 := by decide
theorem kfc_8 : kf_c 8 = 0 := by decide
theorem kfk_8 : kf_k 8 = 4 := by decide
theorem kfc_256 : kf_c 256 = 1 := by decide
theorem kfk_256 : kf_k 256 = 0 := by decide
theorem kfc_258 : kf_c 258 = 1 := by decide
theorem kfk_258 : kf_k 258 = 1 := by decide
theorem kfc_512 : kf_c 512 = 2 := by decide
theorem kfk_512 : kf_k 512 = 0 := by decide
theorem kfc_514 : kf_c 514 = 2 := by decide
theorem kfk_514 : kf_k 514 = 1 := by decide
theorem kfc_516 : kf_c 516 = 2 := by decide
theorem kfk_516 : kf_k 516 = 2 := by decide
theorem kfc_518 : kf_c 518 = 2 := by decide
theorem kfk_518 : kf_k 518 = 3 := by decide
theorem kfc_520 : kf_c 520 = 2 := by decide
theorem kfk_520 : kf_k 520 = 4 := by decide
theorem kfc_522 : kf_c 522 = 2 := by decide
theorem kfk_522 : kf_k 522 = 5 := by decide
theorem kfc_524 : kf_c 524 = 2 := by decide
theorem kfk_524 : kf_k 524 = 6 := by decide
theorem kfc_526 : kf_c 526 = 2 := by decide
theorem kfk_526 : kf_k 526 = 7 := by decide
theorem kfc_528 : kf_c 528 = 2 := by decide
theorem kfk_528 : kf_k 528 = 8 := by decide
theorem kfc_530 : kf_c 530 = 2 := by decide
theorem kfk_530 : kf_k 530 = 9 := by decide
theorem kfc_532 : kf_c 532 = 2 := by decide
theorem kfk_532 : kf_k 532 = 10 := by decide
theorem kfc_534 : kf_c 534 = 2 := by decide
theorem kfk_534 : kf_k 534 = 11 := by decide
theorem kfc_536 : kf_c 536 = 2 := by decide
theorem kfk_536 : kf_k 536 = 12 := by decide
theorem kfc_538 : kf_c 538 = 2 := by decide
theorem kfk_538 : kf_k 538 = 13 := by decide
theorem kfc_540 : kf_c 540 = 2 := by decide
theorem kfk_540 : kf_k 540 = 14 := by decide
theorem kfc_768 : kf_c 768 = 3 := by decide
theorem kfk_768 : kf_k 768 = 0 := by decide
theorem kfc_770 : kf_c 770 = 3 := by decide
theorem kfk_770 : kf_k 770 = 1 := by decide
theorem kfc_772 : kf_c 772 = 3 := by decide
theorem kfk_772 : kf_k 772 = 2 := by decide
theorem kfc_774 : kf_c 774 = 3 := by decide
theorem kfk_774 : kf_k 774 = 3 := by decide
theorem kfc_776 : kf_c 776 = 3 := by decide
theorem kfk_776 : kf_k 776 = 4 := by decide
theorem kfc_778 : kf_c 778 = 3 := by decide
theorem kfk_778 : kf_k 778 = 5 := by decide
theorem kfc_780 : kf_c 780 = 3 := by decide
theorem kfk_780 : kf_k 780 = 6 := by decide
theorem kfc_782 : kf_c 782 = 3 := by decide
theorem kfk_782 : kf_k 782 = 7 := by decide
theorem kfc_784 : kf_c 784 = 3 := by decide
theorem kfk_784 : kf_k 784 = 8 := by decide
theorem kfc_786 : kf_c 786 = 3 := by decide
theorem kfk_786 : kf_k 786 = 9 := by decide
theorem kfc_788 : kf_c 788 = 3 := by decide
theorem kfk_788 : kf_k 788 = 10 := by decide
theorem kfc_790 : kf_c 790 = 3 := by decide
theorem kfk_790 : kf_k 790 = 11 := by decide
theorem kfc_792 : kf_c 792 = 3 := by decide
theorem kfk_792 : kf_k 792 = 12 := by decide
theorem kfc_794 : kf_c 794 = 3 := by decide
theorem kfk_794 : kf_k 794 = 13 := by decide
theorem kfc_796 : kf_c 796 = 3 := by decide
theorem kfk_796 : kf_k 796 = 14 := by decide
theorem kfc_798 : kf_c 798 = 3 := by decide
theorem kfk_798 : kf_k 798 = 15 := by decide
theorem kfc_800 : kf_c 800 = 3 := by decide
theorem kfk_800 : kf_k 800 = 16 := by decide
theorem kfc_802 : kf_c 802 = 3 := by decide
theorem kfk_802 : kf_k 802 = 17 := by decide
theorem kfc_1024 : kf_c 1024 = 4 := by decide
theorem kfk_1024 : kf_k 1024 = 0 := by decide
theorem kfc_1026 : kf_c 1026 = 4 := by decide
theorem kfk_1026 : kf_k 1026 = 1 := by decide
theorem kfc_1028 : kf_c 1028 = 4 := by decide
theorem kfk_1028 : kf_k 1028 = 2 := by decide
theorem kfc_1030 : kf_c 1030 = 4 := by decide
theorem kfk_1030 : kf_k 1030 = 3 := by decide
theorem kfc_1032 : kf_c 1032 = 4 := by decide
theorem kfk_1032 : kf_k 1032 = 4 := by decide
theorem kfc_1280 : kf_c 1280 = 5 := by decide
theorem kfk_1280 : kf_k 1280 = 0 := by decide
theorem kfc_1282 : kf_c 1282 = 5 := by decide
theorem kfk_1282 : kf_k 1282 = 1 := by decide
theorem kfc_1284 : kf_c 1284 = 5 := by decide
theorem kfk_1284 : kf_k 1284 = 2 := by decide
theorem kfc_1286 : kf_c 1286 = 5 := by decide
theorem kfk_1286 : kf_k 1286 = 3 := by decide
theorem kfc_1536 : kf_c 1536 = 6 := by decide
theorem kfk_1536 : kf_k 1536 = 0 := by decide
theorem kfc_1538 : kf_c 1538 = 6 := by decide
theorem kfk_1538 : kf_k 1538 = 1 := by decide
theorem kfc_1540 : kf_c 1540 = 6 := by decide
theorem kfk_1540 : kf_k 1540 = 2 := by decide
theorem kfc_1542 : kf_c 1542 = 6 := by decide
theorem kfk_1542 : kf_k 1542 = 3 := by decide
theorem kfc_1544 : kf_c 1544 = 6 := by decide
theorem kfk_1544 : kf_k 1544 = 4 := by decide
theorem kfc_1546 : kf_c 1546 = 6 := by decide
theorem kfk_1546 : kf_k 1546 = 5 := by decide
theorem kfc_1548 : kf_c 1548 = 6 := by decide
theorem kfk_1548 : kf_k 1548 = 6 := by decide
theorem kfc_1550 : kf_c 1550 = 6 := by decide
theorem kfk_1550 : kf_k 1550 = 7 := by decide
theorem kfc_1552 : kf_c 1552 = 6 := by decide
theorem kfk_1552 : kf_k 1552 = 8 := by decide
theorem kfc_1554 : kf_c 1554 = 6 := by decide
theorem kfk_1554 : kf_k 1554 = 9 := by decide
theorem kfc_1556 : kf_c 1556 = 6 := by decide
theorem kfk_1556 : kf_k 1556 = 10 := by decide
theorem kfc_1792 : kf_c 1792 = 7 := by decide
theorem kfk_1792 : kf_k 1792 = 0 := by decide
theorem kfc_1794 : kf_c 1794 = 7 := by decide
theorem kfk_1794 : kf_k 1794 = 1 := by decide
theorem kfc_1796 : kf_c 1796 = 7 := by decide
theorem kfk_1796 : kf_k 1796 = 2 := by decide
theorem kfc_2048 : kf_c 2048 = 8 := by decide
theorem kfk_2048 : kf_k 2048 = 0 := by decide
theorem kfc_2050 : kf_c 2050 = 8 := by decide
theorem kfk_2050 : kf_k 2050 = 1 := by decide
theorem kfc_2052 : kf_c 2052 = 8 := by decide
theorem kfk_2052 : kf_k 2052 = 2 := by decide
theorem kfc_2054 : kf_c 2054 = 8 := by decide
theorem kfk_2054 : kf_k 2054 = 3 := by decide
theorem kfc_2056 : kf_c 2056 = 8 := by decide
theorem kfk_2056 : kf_k 2056 = 4 := by decide
theorem kfc_2304 : kf_c 2304 = 9 := by decide
theorem kfk_2304 : kf_k 2304 = 0 := by decide
theorem kfc_2306 : kf_c 2306 = 9 := by decide
theorem kfk_2306 : kf_k 2306 = 1 := by decide
theorem kfc_2308 : kf_c 2308 = 9 := by decide
theorem kfk_2308 : kf_k 2308 = 2 := by decide
theorem kfc_2310 : kf_c 2310 = 9 := by decide
theorem kfk_2310 : kf_k 2310 = 3 := by decide
theorem kfc_2312 : kf_c 2312 = 9 := by decide
theorem kfk_2312 : kf_k 2312 = 4 := by decide
theorem kfc_2314 : kf_c 2314 = 9 := by decide
theorem kfk_2314 : kf_k 2314 = 5 := by decide
theorem kfc_2560 : kf_c 2560 = 10 := by decide
theorem kfk_2560 : kf_k 2560 = 0 := by decide
theorem kfc_2562 : kf_c 2562 = 10 := by decide
theorem kfk_2562 : kf_k 2562 = 1 := by decide
theorem kfc_2564 : kf_c 2564 = 10 := by decide
theorem kfk_2564 : kf_k 2564 = 2 := by decide
theorem kfc_2565 : kf_c 2565 = 10 := by decide
theorem kfk_2565 : kf_k 2565 = 2 := by decide
theorem kfc_2566 : kf_c 2566 = 10 := by decide
theorem kfk_2566 : kf_k 2566 = 3 := by decide
theorem kfc_2568 : kf_c 2568 = 10 := by decide
theorem kfk_2568 : kf_k 2568 = 4 := by decide
theorem kfc_2570 : kf_c 2570 = 10 := by decide
theorem kfk_2570 : kf_k 2570 = 5 := by decide
theorem kfc_2572 : kf_c 2572 = 10 := by decide
theorem kfk_2572 : kf_k 2572 = 6 := by decide
theorem kfc_2574 : kf_c 2574 = 10 := by decide
theorem kfk_2574 : kf_k 2574 = 7 := by decide
theorem kfc_2816 : kf_c 2816 = 11 := by decide
theorem kfk_2816 : kf_k 2816 = 0 := by decide
theorem kfc_2818 : kf_c 2818 = 11 := by decide
theorem kfk_2818 : kf_k 2818 = 1 := by decide
theorem kfc_2820 : kf_c 2820 = 11 := by decide
theorem kfk_2820 : kf_k 2820 = 2 := by decide
theorem kfc_2822 : kf_c 2822 = 11 := by decide
theorem kfk_2822 : kf_k 2822 = 3 := by decide
theorem kfc_2824 : kf_c 2824 = 11 := by decide
theorem kfk_2824 : kf_k 2824 = 4 := by decide
theorem kfc_2826 : kf_c 2826 = 11 := by decide
theorem kfk_2826 : kf_k 2826 = 5 := by decide
theorem kfc_2827 : kf_c 2827 = 11 := by decide
theorem kfk_2827 : kf_k 2827 = 5 := by decide
theorem kfc_2828 : kf_c 2828 = 11 := by decide
theorem kfk_2828 : kf_k 2828 = 6 := by decide
theorem kfc_2830 : kf_c 2830 = 11 := by decide
theorem kfk_2830 : kf_k 2830 = 7 := by decide
theorem kfc_2832 : kf_c 2832 = 11 := by decide
theorem kfk_2832 : kf_k 2832 = 8 := by decide
theorem kfc_2834 : kf_c 2834 = 11 := by decide
theorem kfk_2834 : kf_k 2834 = 9 := by decide
theorem kfc_2836 : kf_c 2836 = 11 := by decide
theorem kfk_2836 : kf_k 2836 = 10 := by decide
theorem kfc_2838 : kf_c 2838 = 11 := by decide
theorem kfk_2838 : kf_k 2838 = 11 := by decide
theorem kfc_2840 : kf_c 2840 = 11 := by decide
theorem kfk_2840 : kf_k 2840 = 12 := by decide
theorem kfc_2842 : kf_c 2842 = 11 := by decide
theorem kfk_2842 : kf_k 2842 = 13 := by decide
theorem kfc_2844 : kf_c 2844 = 11 := by decide
theorem kfk_2844 : kf_k 2844 = 14 := by decide
theorem kfc_2846 : kf_c 2846 = 11 := by decide
theorem kfk_2846 : kf_k 2846 = 15 := by decide
theorem kfc_2848 : kf_c 2848 = 11 := by decide
theorem kfk_2848 : kf_k 2848 = 16 := by decide
theorem kfc_2850 : kf_c 2850 = 11 := by decide
theorem kfk_2850 : kf_k 2850 = 17 := by decide
theorem kfc_2852 : kf_c 2852 = 11 := by decide
theorem kfk_2852 : kf_k 2852 = 18 := by decide
theorem kfc_2854 : kf_c 2854 = 11 := by decide
theorem kfk_2854 : kf_k 2854 = 19 := by decide
theorem kfc_2856 : kf_c 2856 = 11 := by decide
theorem kfk_2856 : kf_k 2856 = 20 := by decide
theorem kfc_2858 : kf_c 2858 = 11 := by decide
theorem kfk_2858 : kf_k 2858 = 21 := by decide
theorem kfc_2860 : kf_c 2860 = 11 := by decide
theorem kfk_2860 : kf_k 2860 = 22 := by decide
theorem kfc_2862 : kf_c 2862 = 11 := by decide
theorem kfk_2862 : kf_k 2862 = 23 := by decide
theorem kfc_2864 : kf_c 2864 = 11 := by decide
theorem kfk_2864 : kf_k 2864 = 24 := by decide
theorem kfc_2866 : kf_c 2866 = 11 := by decide
theorem kfk_2866 : kf_k 2866 = 25 := by decide
theorem kfc_2868 : kf_c 2868 = 11 := by decide
theorem kfk_2868 : kf_k 2868 = 26 := by decide
theorem kfc_2870 : kf_c 2870 = 11 := by decide
theorem kfk_2870 : kf_k 2870 = 27 := by decide
theorem kfc_2872 : kf_c 2872 = 11 := by decide
theorem kfk_2872 : kf_k 2872 = 28 := by decide
theorem kfc_2874 : kf_c 2874 = 11 := by decide
theorem kfk_2874 : kf_k 2874 = 29 := by decide
theorem kfc_2876 : kf_c 2876 = 11 := by decide
theorem kfk_2876 : kf_k 2876 = 30 := by decide
theorem kfc_2878 : kf_c 2878 = 11 := by decide
theorem kfk_2878 : kf_k 2878 = 31 := by decide
theorem kfc_2880 : kf_c 2880 = 11 := by decide
theorem kfk_2880 : kf_k 2880 = 32 := by decide
theorem kfc_2882 : kf_c 2882 = 11 := by decide
theorem kfk_2882 : kf_k 2882 = 33 := by decide
theorem kfc_2884 : kf_c 2884 = 11 := by decide
theorem kfk_2884 : kf_k 2884 = 34 := by decide
theorem kfc_2886 : kf_c 2886 = 11 := by decide
theorem kfk_2886 : kf_k 2886 = 35 := by decide
theorem kfc_2888 : kf_c 2888 = 11 := by decide
theorem kfk_2888 : kf_k 2888 = 36 := by decide
theorem kfc_2890 : kf_c 2890 = 11 := by decide
theorem kfk_2890 : kf_k 2890 = 37 := by decide
theorem kfc_2892 : kf_c 2892 = 11 := by decide
theorem kfk_2892 : kf_k 2892 = 38 := by decide
theorem kfc_2894 : kf_c 2894 = 11 := by decide
theorem kfk_2894 : kf_k 2894 = 39 := by decide
theorem kfc_2896 : kf_c 2896 = 11 := by decide
theorem kfk_2896 : kf_k 2896 = 40 := by decide
theorem kfc_2898 : kf_c 2898 = 11 := by decide
theorem kfk_2898 : kf_k 2898 = 41 := by decide
theorem kfc_2900 : kf_c 2900 = 11 := by decide
theorem kfk_2900 : kf_k 2900 = 42 := by decide
theorem kfc_2902 : kf_c 2902 = 11 := by decide
theorem kfk_2902 : kf_k 2902 = 43 := by decide
theorem kfc_2904 : kf_c 2904 = 11 := by decide
theorem kfk_2904 : kf_k 2904 = 44 := by decide
theorem kfc_2906 : kf_c 2906 = 11 := by decide
theorem kfk_2906 : kf_k 2906 = 45 := by decide
theorem kfc_2908 : kf_c 2908 = 11 := by decide
theorem kfk_2908 : kf_k 2908 = 46 := by decide
theorem kfc_2910 : kf_c 2910 = 11 := by decide
theorem kfk_2910 : kf_k 2910 = 47 := by decide
theorem kfc_2912 : kf_c 2912 = 11 := by decide
theorem kfk_2912 : kf_k 2912 = 48 := by decide
theorem kfc_2914 : kf_c 2914 = 11 := by decide
theorem kfk_2914 : kf_k 2914 = 49 := by decide
theorem kfc_2916 : kf_c 2916 = 11 := by decide
theorem kfk_2916 : kf_k 2916 = 50 := by decide
theorem kfc_2918 : kf_c 2918 = 11 := by decide
theorem kfk_2918 : kf_k 2918 = 51 := by decide
theorem kfc_2920 : kf_c 2920 = 11 := by decide
theorem kfk_2920 : kf_k 2920 = 52 := by decide
theorem kfc_2922 : kf_c 2922 = 11 := by decide
theorem kfk_2922 : kf_k 2922 = 53 := by decide
theorem kfc_2924 : kf_c 2924 = 11 := by decide
theorem kfk_2924 : kf_k 2924 = 54 := by decide
theorem kfc_2926 : kf_c 2926 = 11 := by decide
theorem kfk_2926 : kf_k 2926 = 55 := by decide
theorem kfc_2928 : kf_c 2928 = 11 := by decide
theorem kfk_2928 : kf_k 2928 = 56 := by decide
theorem kfc_2930 : kf_c 2930 = 11 := by decide
theorem kfk_2930 : kf_k 2930 = 57 := by decide
theorem kfc_2932 : kf_c 2932 = 11 := by decide
theorem kfk_2932 : kf_k 2932 = 58 := by decide
theorem kfc_2934 : kf_c 2934 = 11 := by decide
theorem kfk_2934 : kf_k 2934 = 59 := by decide
theorem kfc_2936 : kf_c 2936 = 11 := by decide
theorem kfk_2936 : kf_k 2936 = 60 := by decide
theorem kfc_2938 : kf_c 2938 = 11 := by decide
theorem kfk_2938 : kf_k 2938 = 61 := by decide
theorem kfc_2940 : kf_c 2940 = 11 := by decide
theorem kfk_2940 : kf_k 2940 = 62 := by decide
theorem kfc_2942 : kf_c 2942 = 11 := by decide
theorem kfk_2942 : kf_k 2942 = 63 := by decide
theorem kfc_2944 : kf_c 2944 = 11 := by decide
theorem kfk_2944 : kf_k 2944 = 64 := by decide
theorem kfc_2946 : kf_c 2946 = 11 := by decide
theorem kfk_2946 : kf_k 2946 = 65 := by decide
theorem kfc_2948 : kf_c 2948 = 11 := by decide
theorem kfk_2948 : kf_k 2948 = 66 := by decide
theorem kfc_2950 : kf_c 2950 = 11 := by decide
theorem kfk_2950 : kf_k 2950 = 67 := by decide
theorem kfc_2952 : kf_c 2952 = 11 := by decide
theorem kfk_2952 : kf_k 2952 = 68 := by decide
theorem kfc_2954 : kf_c 2954 = 11 := by decide
theorem kfk_2954 : kf_k 2954 = 69 := by decide
theorem kfc_2956 : kf_c 2956 = 11 := by decide
theorem kfk_2956 : kf_k 2956 = 70 := by decide
theorem kfc_2958 : kf_c 2958 = 11 := by decide
theorem kfk_2958 : kf_k 2958 = 71 := by decide
theorem kfc_2960 : kf_c 2960 = 11 := by decide
theorem kfk_2960 : kf_k 2960 = 72 := by decide
theorem kfc_2961 : kf_c 2961 = 11 := by decide
theorem kfk_2961 : kf_k 2961 = 72 := by decide
theorem kfc_2962 : kf_c 2962 = 11 := by decide
theorem kfk_2962 : kf_k 2962 = 73 := by decide
theorem kfc_2963 : kf_c 2963 = 11 := by decide
theorem kfk_2963 : kf_k 2963 = 73 := by decide
theorem kfc_2964 : kf_c 2964 = 11 := by decide
theorem kfk_2964 : kf_k 2964 = 74 := by decide
theorem kfc_2966 : kf_c 2966 = 11 := by decide
theorem kfk_2966 : kf_k 2966 = 75 := by decide
theorem kqy_14022 : kq_y 14022 = 7 := by decide
theorem kqn_14022 : kq_n 14022 = 1 := by decide
theorem kqy_92086 : kq_y 92086 = 46 := by decide
theorem kqn_92086 : kq_n 92086 = 3 := by decide
theorem kqy_122122 : kq_y 122122 = 61 := by decide
theorem kqn_122122 : kq_n 122122 = 1 := by decide
theorem kqy_124122 : kq_y 124122 = 62 := by decide
theorem kqn_124122 : kq_n 124122 = 1 := by decide
theorem kqy_136122 : kq_y 136122 = 68 := by decide
theorem kqn_136122 : kq_n 136122 = 1 := by decide
theorem kqy_182184 : kq_y 182184 = 91 := by decide
theorem kqn_182184 : kq_n 182184 = 2 := by decide
theorem kqy_184184 : kq_y 184184 = 92 := by decide
theorem kqn_184184 : kq_n 184184 = 2 := by decide
theorem kqy_186184 : kq_y 186184 = 93 := by decide
theorem kqn_186184 : kq_n 186184 = 2 := by decide
theorem kqy_188182 : kq_y 188182 = 94 := by decide
theorem kqn_188182 : kq_n 188182 = 1 := by decide
theorem kqy_190184 : kq_y 190184 = 95 := by decide
theorem kqn_190184 : kq_n 190184 = 2 := by decide
theorem kqy_192186 : kq_y 192186 = 96 := by decide
theorem kqn_192186 : kq_n 192186 = 3 := by decide
theorem kqy_198188 : kq_y 198188 = 99 := by decide
theorem kqn_198188 : kq_n 198188 = 4 := by decide
theorem kqy_200182 : kq_y 200182 = 100 := by decide
theorem kqn_200182 : kq_n 200182 = 1 := by decide
theorem kqy_202182 : kq_y 202182 = 101 := by decide
theorem kqn_202182 : kq_n 202182 = 1 := by decide
theorem kqy_204184 : kq_y 204184 = 102 := by decide
theorem kqn_204184 : kq_n 204184 = 2 := by decide
theorem kqy_206184 : kq_y 206184 = 103 := by decide
theorem kqn_206184 : kq_n 206184 = 2 := by decide
theorem kqy_208184 : kq_y 208184 = 104 := by decide
theorem kqn_208184 : kq_n 208184 = 2 := by decide
theorem kqy_210184 : kq_y 210184 = 105 := by decide
theorem kqn_210184 : kq_n 210184 = 2 := by decide
theorem kqy_312206 : kq_y 312206 = 156 := by decide
theorem kqn_312206 : kq_n 312206 = 3 := by decide
theorem kqy_585962 : kq_y 585962 = 292 := by decide
theorem kqn_585962 : kq_n 585962 = 1 := by decide
theorem kqy_587964 : kq_y 587964 = 293 := by decide
theorem kqn_587964 : kq_n 587964 = 2 := by decide
theorem kqy_589962 : kq_y 589962 = 294 := by decide
theorem kqn_589962 : kq_n 589962 = 1 := by decide
theorem kqy_591964 : kq_y 591964 = 295 := by decide
theorem kqn_591964 : kq_n 591964 = 2 := by decide
theorem kqy_593964 : kq_y 593964 = 296 := by decide
theorem kqn_593964 : kq_n 593964 = 2 := by decide
theorem kqy_2009 : kq_y 2009 = 1 := by decide
theorem kqn_2009 : kq_n 2009 = 4 := by decide
theorem kqc_2009 : kq_c 2009 = 0 := by decide
theorem kqy_4003 : kq_y 4003 = 2 := by decide
theorem kqn_4003 : kq_n 4003 = 1 := by decide
theorem kqc_4003 : kq_c 4003 = 0 := by decide
theorem kqy_8022 : kq_y 8022 = 4 := by decide
theorem kqn_8022 : kq_n 8022 = 1 := by decide
theorem kqc_8022 : kq_c 8022 = 1 := by decide
theorem kqy_10022 : kq_y 10022 = 5 := by decide
theorem kqn_10022 : kq_n 10022 = 1 := by decide
theorem kqc_10022 : kq_c 10022 = 1 := by decide
theorem kqy_12024 : kq_y 12024 = 6 := by decide
theorem kqn_12024 : kq_n 12024 = 2 := by decide
theorem kqc_12024 : kq_c 12024 = 1 := by decide
theorem kqy_18043 : kq_y 18043 = 9 := by decide
theorem kqn_18043 : kq_n 18043 = 1 := by decide
theorem kqc_18043 : kq_c 18043 = 2 := by decide
theorem kqy_20042 : kq_y 20042 = 10 := by decide
theorem kqn_20042 : kq_n 20042 = 1 := by decide
theorem kqc_20042 : kq_c 20042 = 2 := by decide
theorem kqy_22042 : kq_y 22042 = 11 := by decide
theorem kqn_22042 : kq_n 22042 = 1 := by decide
theorem kqc_22042 : kq_c 22042 = 2 := by decide
theorem kqy_24042 : kq_y 24042 = 12 := by decide
theorem kqn_24042 : kq_n 24042 = 1 := by decide
theorem kqc_24042 : kq_c 24042 = 2 := by decide
theorem kqy_26044 : kq_y 26044 = 13 := by decide
theorem kqn_26044 : kq_n 26044 = 2 := by decide
theorem kqc_26044 : kq_c 26044 = 2 := by decide
theorem kqy_28046 : kq_y 28046 = 14 := by decide
theorem kqn_28046 : kq_n 28046 = 3 := by decide
theorem kqc_28046 : kq_c 28046 = 2 := by decide
theorem kqy_30045 : kq_y 30045 = 15 := by decide
theorem kqn_30045 : kq_n 30045 = 2 := by decide
theorem kqc_30045 : kq_c 30045 = 2 := by decide
theorem kqy_32044 : kq_y 32044 = 16 := by decide
theorem kqn_32044 : kq_n 32044 = 2 := by decide
theorem kqc_32044 : kq_c 32044 = 2 := by decide
theorem kqy_34046 : kq_y 34046 = 17 := by decide
theorem kqn_34046 : kq_n 34046 = 3 := by decide
theorem kqc_34046 : kq_c 34046 = 2 := by decide
theorem kqy_36051 : kq_y 36051 = 18 := by decide
theorem kqn_36051 : kq_n 36051 = 5 := by decide
theorem kqc_36051 : kq_c 36051 = 2 := by decide
theorem kqy_38046 : kq_y 38046 = 19 := by decide
theorem kqn_38046 : kq_n 38046 = 3 := by decide
theorem kqc_38046 : kq_c 38046 = 2 := by decide
theorem kqy_42063 : kq_y 42063 = 21 := by decide
theorem kqn_42063 : kq_n 42063 = 1 := by decide
theorem kqc_42063 : kq_c 42063 = 3 := by decide
theorem kqy_44062 : kq_y 44062 = 22 := by decide
theorem kqn_44062 : kq_n 44062 = 1 := by decide
theorem kqc_44062 : kq_c 44062 = 3 := by decide
theorem kqy_46062 : kq_y 46062 = 23 := by decide
theorem kqn_46062 : kq_n 46062 = 1 := by decide
theorem kqc_46062 : kq_c 46062 = 3 := by decide
theorem kqy_48062 : kq_y 48062 = 24 := by decide
theorem kqn_48062 : kq_n 48062 = 1 := by decide
theorem kqc_48062 : kq_c 48062 = 3 := by decide
theorem kqy_50062 : kq_y 50062 = 25 := by decide
theorem kqn_50062 : kq_n 50062 = 1 := by decide
theorem kqc_50062 : kq_c 50062 = 3 := by decide
theorem kqy_52062 : kq_y 52062 = 26 := by decide
theorem kqn_52062 : kq_n 52062 = 1 := by decide
theorem kqc_52062 : kq_c 52062 = 3 := by decide
theorem kqy_54062 : kq_y 54062 = 27 := by decide
theorem kqn_54062 : kq_n 54062 = 1 := by decide
theorem kqc_54062 : kq_c 54062 = 3 := by decide
theorem kqy_56060 : kq_y 56060 = 28 := by decide
theorem kqn_56060 : kq_n 56060 = 0 := by decide
theorem kqc_56060 : kq_c 56060 = 3 := by decide
theorem kqy_58062 : kq_y 58062 = 29 := by decide
theorem kqn_58062 : kq_n 58062 = 1 := by decide
theorem kqc_58062 : kq_c 58062 = 3 := by decide
theorem kqy_60060 : kq_y 60060 = 30 := by decide
theorem kqn_60060 : kq_n 60060 = 0 := by decide
theorem kqc_60060 : kq_c 60060 = 3 := by decide
theorem kqy_62060 : kq_y 62060 = 31 := by decide
theorem kqn_62060 : kq_n 62060 = 0 := by decide
theorem kqc_62060 : kq_c 62060 = 3 := by decide
theorem kqy_64066 : kq_y 64066 = 32 := by decide
theorem kqn_64066 : kq_n 64066 = 3 := by decide
theorem kqc_64066 : kq_c 64066 = 3 := by decide
theorem kqy_66067 : kq_y 66067 = 33 := by decide
theorem kqn_66067 : kq_n 66067 = 3 := by decide
theorem kqc_66067 : kq_c 66067 = 3 := by decide
theorem kqy_68062 : kq_y 68062 = 34 := by decide
theorem kqn_68062 : kq_n 68062 = 1 := by decide
theorem kqc_68062 : kq_c 68062 = 3 := by decide
theorem kqy_70064 : kq_y 70064 = 35 := by decide
theorem kqn_70064 : kq_n 70064 = 2 := by decide
theorem kqc_70064 : kq_c 70064 = 3 := by decide
theorem kqy_72063 : kq_y 72063 = 36 := by decide
theorem kqn_72063 : kq_n 72063 = 1 := by decide
theorem kqc_72063 : kq_c 72063 = 3 := by decide
theorem kqy_74065 : kq_y 74065 = 37 := by decide
theorem kqn_74065 : kq_n 74065 = 2 := by decide
theorem kqc_74065 : kq_c 74065 = 3 := by decide
theorem kqy_78083 : kq_y 78083 = 39 := by decide
theorem kqn_78083 : kq_n 78083 = 1 := by decide
theorem kqc_78083 : kq_c 78083 = 4 := by decide
theorem kqy_80081 : kq_y 80081 = 40 := by decide
theorem kqn_80081 : kq_n 80081 = 0 := by decide
theorem kqc_80081 : kq_c 80081 = 4 := by decide
theorem kqy_82083 : kq_y 82083 = 41 := by decide
theorem kqn_82083 : kq_n 82083 = 1 := by decide
theorem kqc_82083 : kq_c 82083 = 4 := by decide
theorem kqy_84082 : kq_y 84082 = 42 := by decide
theorem kqn_84082 : kq_n 84082 = 1 := by decide
theorem kqc_84082 : kq_c 84082 = 4 := by decide
theorem kqy_86085 : kq_y 86085 = 43 := by decide
theorem kqn_86085 : kq_n 86085 = 2 := by decide
theorem kqc_86085 : kq_c 86085 = 4 := by decide
theorem kqy_88082 : kq_y 88082 = 44 := by decide
theorem kqn_88082 : kq_n 88082 = 1 := by decide
theorem kqc_88082 : kq_c 88082 = 4 := by decide
theorem kqy_90084 : kq_y 90084 = 45 := by decide
theorem kqn_90084 : kq_n 90084 = 2 := by decide
theorem kqc_90084 : kq_c 90084 = 4 := by decide
theorem kqy_96105 : kq_y 96105 = 48 := by decide
theorem kqn_96105 : kq_n 96105 = 2 := by decide
theorem kqc_96105 : kq_c 96105 = 5 := by decide
theorem kqy_98104 : kq_y 98104 = 49 := by decide
theorem kqn_98104 : kq_n 98104 = 2 := by decide
theorem kqc_98104 : kq_c 98104 = 5 := by decide
theorem kqy_100101 : kq_y 100101 = 50 := by decide
theorem kqn_100101 : kq_n 100101 = 0 := by decide
theorem kqc_100101 : kq_c 100101 = 5 := by decide
theorem kqy_104123 : kq_y 104123 = 52 := by decide
theorem kqn_104123 : kq_n 104123 = 1 := by decide
theorem kqc_104123 : kq_c 104123 = 6 := by decide
theorem kqy_106124 : kq_y 106124 = 53 := by decide
theorem kqn_106124 : kq_n 106124 = 2 := by decide
theorem kqc_106124 : kq_c 106124 = 6 := by decide
theorem kqy_108122 : kq_y 108122 = 54 := by decide
theorem kqn_108122 : kq_n 108122 = 1 := by decide
theorem kqc_108122 : kq_c 108122 = 6 := by decide
theorem kqy_110121 : kq_y 110121 = 55 := by decide
theorem kqn_110121 : kq_n 110121 = 0 := by decide
theorem kqc_110121 : kq_c 110121 = 6 := by decide
theorem kqy_112122 : kq_y 112122 = 56 := by decide
theorem kqn_112122 : kq_n 112122 = 1 := by decide
theorem kqc_112122 : kq_c 112122 = 6 := by decide
theorem kqy_114122 : kq_y 114122 = 57 := by decide
theorem kqn_114122 : kq_n 114122 = 1 := by decide
theorem kqc_114122 : kq_c 114122 = 6 := by decide
theorem kqy_116122 : kq_y 116122 = 58 := by decide
theorem kqn_116122 : kq_n 116122 = 1 := by decide
theorem kqc_116122 : kq_c 116122 = 6 := by decide
theorem kqy_118122 : kq_y 118122 = 59 := by decide
theorem kqn_118122 : kq_n 118122 = 1 := by decide
theorem kqc_118122 : kq_c 118122 = 6 := by decide
theorem kqy_120126 : kq_y 120126 = 60 := by decide
theorem kqn_120126 : kq_n 120126 = 3 := by decide
theorem kqc_120126 : kq_c 120126 = 6 := by decide
theorem kqy_126120 : kq_y 126120 = 63 := by decide
theorem kqn_126120 : kq_n 126120 = 0 := by decide
theorem kqc_126120 : kq_c 126120 = 6 := by decide
theorem kqy_128122 : kq_y 128122 = 64 := by decide
theorem kqn_128122 : kq_n 128122 = 1 := by decide
theorem kqc_128122 : kq_c 128122 = 6 := by decide
theorem kqy_130122 : kq_y 130122 = 65 := by decide
theorem kqn_130122 : kq_n 130122 = 1 := by decide
theorem kqc_130122 : kq_c 130122 = 6 := by decide
theorem kqy_132122 : kq_y 132122 = 66 := by decide
theorem kqn_132122 : kq_n 132122 = 1 := by decide
theorem kqc_132122 : kq_c 132122 = 6 := by decide
theorem kqy_134122 : kq_y 134122 = 67 := by decide
theorem kqn_134122 : kq_n 134122 = 1 := by decide
theorem kqc_134122 : kq_c 134122 = 6 := by decide
theorem kqy_138120 : kq_y 138120 = 69 := by decide
theorem kqn_138120 : kq_n 138120 = 0 := by decide
theorem kqc_138120 : kq_c 138120 = 6 := by decide
theorem kqy_140122 : kq_y 140122 = 70 := by decide
theorem kqn_140122 : kq_n 140122 = 1 := by decide
theorem kqc_140122 : kq_c 140122 = 6 := by decide
theorem kqy_142120 : kq_y 142120 = 71 := by decide
theorem kqn_142120 : kq_n 142120 = 0 := by decide
theorem kqc_142120 : kq_c 142120 = 6 := by decide
theorem kqy_144120 : kq_y 144120 = 72 := by decide
theorem kqn_144120 : kq_n 144120 = 0 := by decide
theorem kqc_144120 : kq_c 144120 = 6 := by decide
theorem kqy_146120 : kq_y 146120 = 73 := by decide
theorem kqn_146120 : kq_n 146120 = 0 := by decide
theorem kqc_146120 : kq_c 146120 = 6 := by decide
theorem kqy_148120 : kq_y 148120 = 74 := by decide
theorem kqn_148120 : kq_n 148120 = 0 := by decide
theorem kqc_148120 : kq_c 148120 = 6 := by decide
theorem kqy_150122 : kq_y 150122 = 75 := by decide
theorem kqn_150122 : kq_n 150122 = 1 := by decide
theorem kqc_150122 : kq_c 150122 = 6 := by decide
theorem kqy_152122 : kq_y 152122 = 76 := by decide
theorem kqn_152122 : kq_n 152122 = 1 := by decide
theorem kqc_152122 : kq_c 152122 = 6 := by decide
theorem kqy_156146 : kq_y 156146 = 78 := by decide
theorem kqn_156146 : kq_n 156146 = 3 := by decide
theorem kqc_156146 : kq_c 156146 = 7 := by decide
theorem kqy_158140 : kq_y 158140 = 79 := by decide
theorem kqn_158140 : kq_n 158140 = 0 := by decide
theorem kqc_158140 : kq_c 158140 = 7 := by decide
theorem kqy_160142 : kq_y 160142 = 80 := by decide
theorem kqn_160142 : kq_n 160142 = 1 := by decide
theorem kqc_160142 : kq_c 160142 = 7 := by decide
theorem kqy_162140 : kq_y 162140 = 81 := by decide
theorem kqn_162140 : kq_n 162140 = 0 := by decide
theorem kqc_162140 : kq_c 162140 = 7 := by decide
theorem kqy_164142 : kq_y 164142 = 82 := by decide
theorem kqn_164142 : kq_n 164142 = 1 := by decide
theorem kqc_164142 : kq_c 164142 = 7 := by decide
theorem kqy_166143 : kq_y 166143 = 83 := by decide
theorem kqn_166143 : kq_n 166143 = 1 := by decide
theorem kqc_166143 : kq_c 166143 = 7 := by decide
theorem kqy_170169 : kq_y 170169 = 85 := by decide
theorem kqn_170169 : kq_n 170169 = 4 := by decide
theorem kqc_170169 : kq_c 170169 = 8 := by decide
theorem kqy_172163 : kq_y 172163 = 86 := by decide
theorem kqn_172163 : kq_n 172163 = 1 := by decide
theorem kqc_172163 : kq_c 172163 = 8 := by decide
theorem kqy_176184 : kq_y 176184 = 88 := by decide
theorem kqn_176184 : kq_n 176184 = 2 := by decide
theorem kqc_176184 : kq_c 176184 = 9 := by decide
theorem kqy_178186 : kq_y 178186 = 89 := by decide
theorem kqn_178186 : kq_n 178186 = 3 := by decide
theorem kqc_178186 : kq_c 178186 = 9 := by decide
theorem kqy_180184 : kq_y 180184 = 90 := by decide
theorem kqn_180184 : kq_n 180184 = 2 := by decide
theorem kqc_180184 : kq_c 180184 = 9 := by decide
theorem kqy_194186 : kq_y 194186 = 97 := by decide
theorem kqn_194186 : kq_n 194186 = 3 := by decide
theorem kqc_194186 : kq_c 194186 = 9 := by decide
theorem kqy_196184 : kq_y 196184 = 98 := by decide
theorem kqn_196184 : kq_n 196184 = 2 := by decide
theorem kqc_196184 : kq_c 196184 = 9 := by decide
theorem kqy_212186 : kq_y 212186 = 106 := by decide
theorem kqn_212186 : kq_n 212186 = 3 := by decide
theorem kqc_212186 : kq_c 212186 = 9 := by decide
theorem kqy_214184 : kq_y 214184 = 107 := by decide
theorem kqn_214184 : kq_n 214184 = 2 := by decide
theorem kqc_214184 : kq_c 214184 = 9 := by decide
theorem kqy_216187 : kq_y 216187 = 108 := by decide
theorem kqn_216187 : kq_n 216187 = 3 := by decide
theorem kqc_216187 : kq_c 216187 = 9 := by decide
theorem kqy_218186 : kq_y 218186 = 109 := by decide
theorem kqn_218186 : kq_n 218186 = 3 := by decide
theorem kqc_218186 : kq_c 218186 = 9 := by decide
theorem kqy_220184 : kq_y 220184 = 110 := by decide
theorem kqn_220184 : kq_n 220184 = 2 := by decide
theorem kqc_220184 : kq_c 220184 = 9 := by decide
theorem kqy_316226 : kq_y 316226 = 158 := by decide
theorem kqn_316226 : kq_n 316226 = 3 := by decide
theorem kqc_316226 : kq_c 316226 = 11 := by decide
theorem kqy_318226 : kq_y 318226 = 159 := by decide
theorem kqn_318226 : kq_n 318226 = 3 := by decide
theorem kqc_318226 : kq_c 318226 = 11 := by decide
theorem kqy_320224 : kq_y 320224 = 160 := by decide
theorem kqn_320224 : kq_n 320224 = 2 := by decide
theorem kqc_320224 : kq_c 320224 = 11 := by decide
theorem kqy_322224 : kq_y 322224 = 161 := by decide
theorem kqn_322224 : kq_n 322224 = 2 := by decide
theorem kqc_322224 : kq_c 322224 = 11 := by decide
theorem kqy_324222 : kq_y 324222 = 162 := by decide
theorem kqn_324222 : kq_n 324222 = 1 := by decide
theorem kqc_324222 : kq_c 324222 = 11 := by decide
theorem kqy_326224 : kq_y 326224 = 163 := by decide
theorem kqn_326224 : kq_n 326224 = 2 := by decide
theorem kqc_326224 : kq_c 326224 = 11 := by decide
theorem kqy_328222 : kq_y 328222 = 164 := by decide
theorem kqn_328222 : kq_n 328222 = 1 := by decide
theorem kqc_328222 : kq_c 328222 = 11 := by decide
theorem kqy_330224 : kq_y 330224 = 165 := by decide
theorem kqn_330224 : kq_n 330224 = 2 := by decide
theorem kqc_330224 : kq_c 330224 = 11 := by decide
theorem kqy_332221 : kq_y 332221 = 166 := by decide
theorem kqn_332221 : kq_n 332221 = 0 := by decide
theorem kqc_332221 : kq_c 332221 = 11 := by decide
theorem kqy_336221 : kq_y 336221 = 168 := by decide
theorem kqn_336221 : kq_n 336221 = 0 := by decide
theorem kqc_336221 : kq_c 336221 = 11 := by decide
theorem kqy_338221 : kq_y 338221 = 169 := by decide
theorem kqn_338221 : kq_n 338221 = 0 := by decide
theorem kqc_338221 : kq_c 338221 = 11 := by decide
theorem kqy_342222 : kq_y 342222 = 171 := by decide
theorem kqn_342222 : kq_n 342222 = 1 := by decide
theorem kqc_342222 : kq_c 342222 = 11 := by decide
theorem kqy_344222 : kq_y 344222 = 172 := by decide
theorem kqn_344222 : kq_n 344222 = 1 := by decide
theorem kqc_344222 : kq_c 344222 = 11 := by decide
theorem kqy_346222 : kq_y 346222 = 173 := by decide
theorem kqn_346222 : kq_n 346222 = 1 := by decide
theorem kqc_346222 : kq_c 346222 = 11 := by decide
theorem kqy_348222 : kq_y 348222 = 174 := by decide
theorem kqn_348222 : kq_n 348222 = 1 := by decide
theorem kqc_348222 : kq_c 348222 = 11 := by decide
theorem kqy_350222 : kq_y 350222 = 175 := by decide
theorem kqn_350222 : kq_n 350222 = 1 := by decide
theorem kqc_350222 : kq_c 350222 = 11 := by decide
theorem kqy_352222 : kq_y 352222 = 176 := by decide
theorem kqn_352222 : kq_n 352222 = 1 := by decide
theorem kqc_352222 : kq_c 352222 = 11 := by decide
theorem kqy_354222 : kq_y 354222 = 177 := by decide
theorem kqn_354222 : kq_n 354222 = 1 := by decide
theorem kqc_354222 : kq_c 354222 = 11 := by decide
theorem kqy_356222 : kq_y 356222 = 178 := by decide
theorem kqn_356222 : kq_n 356222 = 1 := by decide
theorem kqc_356222 : kq_c 356222 = 11 := by decide
theorem kqy_358222 : kq_y 358222 = 179 := by decide
theorem kqn_358222 : kq_n 358222 = 1 := by decide
theorem kqc_358222 : kq_c 358222 = 11 := by decide
theorem kqy_360220 : kq_y 360220 = 180 := by decide
theorem kqn_360220 : kq_n 360220 = 0 := by decide
theorem kqc_360220 : kq_c 360220 = 11 := by decide
theorem kqy_362222 : kq_y 362222 = 181 := by decide
theorem kqn_362222 : kq_n 362222 = 1 := by decide
theorem kqc_362222 : kq_c 362222 = 11 := by decide
theorem kqy_372223 : kq_y 372223 = 186 := by decide
theorem kqn_372223 : kq_n 372223 = 1 := by decide
theorem kqc_372223 : kq_c 372223 = 11 := by decide
theorem kqy_378222 : kq_y 378222 = 189 := by decide
theorem kqn_378222 : kq_n 378222 = 1 := by decide
theorem kqc_378222 : kq_c 378222 = 11 := by decide
theorem kqy_380222 : kq_y 380222 = 190 := by decide
theorem kqn_380222 : kq_n 380222 = 1 := by decide
theorem kqc_380222 : kq_c 380222 = 11 := by decide
theorem kqy_382222 : kq_y 382222 = 191 := by decide
theorem kqn_382222 : kq_n 382222 = 1 := by decide
theorem kqc_382222 : kq_c 382222 = 11 := by decide
theorem kqy_384222 : kq_y 384222 = 192 := by decide
theorem kqn_384222 : kq_n 384222 = 1 := by decide
theorem kqc_384222 : kq_c 384222 = 11 := by decide
theorem kqy_386224 : kq_y 386224 = 193 := by decide
theorem kqn_386224 : kq_n 386224 = 2 := by decide
theorem kqc_386224 : kq_c 386224 = 11 := by decide
theorem kqy_388221 : kq_y 388221 = 194 := by decide
theorem kqn_388221 : kq_n 388221 = 0 := by decide
theorem kqc_388221 : kq_c 388221 = 11 := by decide
theorem kqy_390222 : kq_y 390222 = 195 := by decide
theorem kqn_390222 : kq_n 390222 = 1 := by decide
theorem kqc_390222 : kq_c 390222 = 11 := by decide
theorem kqy_392222 : kq_y 392222 = 196 := by decide
theorem kqn_392222 : kq_n 392222 = 1 := by decide
theorem kqc_392222 : kq_c 392222 = 11 := by decide
theorem kqy_394222 : kq_y 394222 = 197 := by decide
theorem kqn_394222 : kq_n 394222 = 1 := by decide
theorem kqc_394222 : kq_c 394222 = 11 := by decide
theorem kqy_396225 : kq_y 396225 = 198 := by decide
theorem kqn_396225 : kq_n 396225 = 2 := by decide
theorem kqc_396225 : kq_c 396225 = 11 := by decide
theorem kqy_398222 : kq_y 398222 = 199 := by decide
theorem kqn_398222 : kq_n 398222 = 1 := by decide
theorem kqc_398222 : kq_c 398222 = 11 := by decide
theorem kqy_400220 : kq_y 400220 = 200 := by decide
theorem kqn_400220 : kq_n 400220 = 0 := by decide
theorem kqc_400220 : kq_c 400220 = 11 := by decide
theorem kqy_402220 : kq_y 402220 = 201 := by decide
theorem kqn_402220 : kq_n 402220 = 0 := by decide
theorem kqc_402220 : kq_c 402220 = 11 := by decide
theorem kqy_404220 : kq_y 404220 = 202 := by decide
theorem kqn_404220 : kq_n 404220 = 0 := by decide
theorem kqc_404220 : kq_c 404220 = 11 := by decide
theorem kqy_406220 : kq_y 406220 = 203 := by decide
theorem kqn_406220 : kq_n 406220 = 0 := by decide
theorem kqc_406220 : kq_c 406220 = 11 := by decide
theorem kqy_408223 : kq_y 408223 = 204 := by decide
theorem kqn_408223 : kq_n 408223 = 1 := by decide
theorem kqc_408223 : kq_c 408223 = 11 := by decide
theorem kqy_410223 : kq_y 410223 = 205 := by decide
theorem kqn_410223 : kq_n 410223 = 1 := by decide
theorem kqc_410223 : kq_c 410223 = 11 := by decide
theorem kqy_412220 : kq_y 412220 = 206 := by decide
theorem kqn_412220 : kq_n 412220 = 0 := by decide
theorem kqc_412220 : kq_c 412220 = 11 := by decide
theorem kqy_414220 : kq_y 414220 = 207 := by decide
theorem kqn_414220 : kq_n 414220 = 0 := by decide
theorem kqc_414220 : kq_c 414220 = 11 := by decide
theorem kqy_416220 : kq_y 416220 = 208 := by decide
theorem kqn_416220 : kq_n 416220 = 0 := by decide
theorem kqc_416220 : kq_c 416220 = 11 := by decide
theorem kqy_418223 : kq_y 418223 = 209 := by decide
theorem kqn_418223 : kq_n 418223 = 1 := by decide
theorem kqc_418223 : kq_c 418223 = 11 := by decide
theorem kqy_420224 : kq_y 420224 = 210 := by decide
theorem kqn_420224 : kq_n 420224 = 2 := by decide
theorem kqc_420224 : kq_c 420224 = 11 := by decide
theorem kqy_422222 : kq_y 422222 = 211 := by decide
theorem kqn_422222 : kq_n 422222 = 1 := by decide
theorem kqc_422222 : kq_c 422222 = 11 := by decide
theorem kqy_424226 : kq_y 424226 = 212 := by decide
theorem kqn_424226 : kq_n 424226 = 3 := by decide
theorem kqc_424226 : kq_c 424226 = 11 := by decide
theorem kqy_426222 : kq_y 426222 = 213 := by decide
theorem kqn_426222 : kq_n 426222 = 1 := by decide
theorem kqc_426222 : kq_c 426222 = 11 := by decide
theorem kqy_428220 : kq_y 428220 = 214 := by decide
theorem kqn_428220 : kq_n 428220 = 0 := by decide
theorem kqc_428220 : kq_c 428220 = 11 := by decide
theorem kqy_430220 : kq_y 430220 = 215 := by decide
theorem kqn_430220 : kq_n 430220 = 0 := by decide
theorem kqc_430220 : kq_c 430220 = 11 := by decide
theorem kqy_432220 : kq_y 432220 = 216 := by decide
theorem kqn_432220 : kq_n 432220 = 0 := by decide
theorem kqc_432220 : kq_c 432220 = 11 := by decide
theorem kqy_434220 : kq_y 434220 = 217 := by decide
theorem kqn_434220 : kq_n 434220 = 0 := by decide
theorem kqc_434220 : kq_c 434220 = 11 := by decide
theorem kqy_436220 : kq_y 436220 = 218 := by decide
theorem kqn_436220 : kq_n 436220 = 0 := by decide
theorem kqc_436220 : kq_c 436220 = 11 := by decide
theorem kqy_438222 : kq_y 438222 = 219 := by decide
theorem kqn_438222 : kq_n 438222 = 1 := by decide
theorem kqc_438222 : kq_c 438222 = 11 := by decide
theorem kqy_440225 : kq_y 440225 = 220 := by decide
theorem kqn_440225 : kq_n 440225 = 2 := by decide
theorem kqc_440225 : kq_c 440225 = 11 := by decide
theorem kqy_446226 : kq_y 446226 = 223 := by decide
theorem kqn_446226 : kq_n 446226 = 3 := by decide
theorem kqc_446226 : kq_c 446226 = 11 := by decide
theorem kqy_448226 : kq_y 448226 = 224 := by decide
theorem kqn_448226 : kq_n 448226 = 3 := by decide
theorem kqc_448226 : kq_c 448226 = 11 := by decide
theorem kqy_450222 : kq_y 450222 = 225 := by decide
theorem kqn_450222 : kq_n 450222 = 1 := by decide
theorem kqc_450222 : kq_c 450222 = 11 := by decide
theorem kqy_452222 : kq_y 452222 = 226 := by decide
theorem kqn_452222 : kq_n 452222 = 1 := by decide
theorem kqc_452222 : kq_c 452222 = 11 := by decide
theorem kqy_454223 : kq_y 454223 = 227 := by decide
theorem kqn_454223 : kq_n 454223 = 1 := by decide
theorem kqc_454223 : kq_c 454223 = 11 := by decide
theorem kqy_456226 : kq_y 456226 = 228 := by decide
theorem kqn_456226 : kq_n 456226 = 3 := by decide
theorem kqc_456226 : kq_c 456226 = 11 := by decide
theorem kqy_458222 : kq_y 458222 = 229 := by decide
theorem kqn_458222 : kq_n 458222 = 1 := by decide
theorem kqc_458222 : kq_c 458222 = 11 := by decide
theorem kqy_460222 : kq_y 460222 = 230 := by decide
theorem kqn_460222 : kq_n 460222 = 1 := by decide
theorem kqc_460222 : kq_c 460222 = 11 := by decide
theorem kqy_462222 : kq_y 462222 = 231 := by decide
theorem kqn_462222 : kq_n 462222 = 1 := by decide
theorem kqc_462222 : kq_c 462222 = 11 := by decide
theorem kqy_464227 : kq_y 464227 = 232 := by decide
theorem kqn_464227 : kq_n 464227 = 3 := by decide
theorem kqc_464227 : kq_c 464227 = 11 := by decide
theorem kqy_466224 : kq_y 466224 = 233 := by decide
theorem kqn_466224 : kq_n 466224 = 2 := by decide
theorem kqc_466224 : kq_c 466224 = 11 := by decide
theorem kqy_468226 : kq_y 468226 = 234 := by decide
theorem kqn_468226 : kq_n 468226 = 3 := by decide
theorem kqc_468226 : kq_c 468226 = 11 := by decide
theorem kqy_472222 : kq_y 472222 = 236 := by decide
theorem kqn_472222 : kq_n 472222 = 1 := by decide
theorem kqc_472222 : kq_c 472222 = 11 := by decide
theorem kqy_474223 : kq_y 474223 = 237 := by decide
theorem kqn_474223 : kq_n 474223 = 1 := by decide
theorem kqc_474223 : kq_c 474223 = 11 := by decide
theorem kqy_476225 : kq_y 476225 = 238 := by decide
theorem kqn_476225 : kq_n 476225 = 2 := by decide
theorem kqc_476225 : kq_c 476225 = 11 := by decide
theorem kqy_478226 : kq_y 478226 = 239 := by decide
theorem kqn_478226 : kq_n 478226 = 3 := by decide
theorem kqc_478226 : kq_c 478226 = 11 := by decide
theorem kqy_480222 : kq_y 480222 = 240 := by decide
theorem kqn_480222 : kq_n 480222 = 1 := by decide
theorem kqc_480222 : kq_c 480222 = 11 := by decide
theorem kqy_482220 : kq_y 482220 = 241 := by decide
theorem kqn_482220 : kq_n 482220 = 0 := by decide
theorem kqc_482220 : kq_c 482220 = 11 := by decide
theorem kqy_494224 : kq_y 494224 = 247 := by decide
theorem kqn_494224 : kq_n 494224 = 2 := by decide
theorem kqc_494224 : kq_c 494224 = 11 := by decide
theorem kqy_516222 : kq_y 516222 = 258 := by decide
theorem kqn_516222 : kq_n 516222 = 1 := by decide
theorem kqc_516222 : kq_c 516222 = 11 := by decide
theorem kqy_524224 : kq_y 524224 = 262 := by decide
theorem kqn_524224 : kq_n 524224 = 2 := by decide
theorem kqc_524224 : kq_c 524224 = 11 := by decide
theorem kqy_528222 : kq_y 528222 = 264 := by decide
theorem kqn_528222 : kq_n 528222 = 1 := by decide
theorem kqc_528222 : kq_c 528222 = 11 := by decide
theorem kqy_532226 : kq_y 532226 = 266 := by decide
theorem kqn_532226 : kq_n 532226 = 3 := by decide
theorem kqc_532226 : kq_c 532226 = 11 := by decide
theorem kqy_538226 : kq_y 538226 = 269 := by decide
theorem kqn_538226 : kq_n 538226 = 3 := by decide
theorem kqc_538226 : kq_c 538226 = 11 := by decide
theorem kqy_540222 : kq_y 540222 = 270 := by decide
theorem kqn_540222 : kq_n 540222 = 1 := by decide
theorem kqc_540222 : kq_c 540222 = 11 := by decide
theorem kqy_548224 : kq_y 548224 = 274 := by decide
theorem kqn_548224 : kq_n 548224 = 2 := by decide
theorem kqc_548224 : kq_c 548224 = 11 := by decide
theorem kqy_558224 : kq_y 558224 = 279 := by decide
theorem kqn_558224 : kq_n 558224 = 2 := by decide
theorem kqc_558224 : kq_c 558224 = 11 := by decide
theorem kqy_562222 : kq_y 562222 = 281 := by decide
theorem kqn_562222 : kq_n 562222 = 1 := by decide
theorem kqc_562222 : kq_c 562222 = 11 := by decide
theorem kqy_564224 : kq_y 564224 = 282 := by decide
theorem kqn_564224 : kq_n 564224 = 2 := by decide
theorem kqc_564224 : kq_c 564224 = 11 := by decide
theorem kqy_566224 : kq_y 566224 = 283 := by decide
theorem kqn_566224 : kq_n 566224 = 2 := by decide
theorem kqc_566224 : kq_c 566224 = 11 := by decide
theorem kqy_568223 : kq_y 568223 = 284 := by decide
theorem kqn_568223 : kq_n 568223 = 1 := by decide
theorem kqc_568223 : kq_c 568223 = 11 := by decide
theorem kqy_572222 : kq_y 572222 = 286 := by decide
theorem kqn_572222 : kq_n 572222 = 1 := by decide
theorem kqc_572222 : kq_c 572222 = 11 := by decide
theorem kqy_574221 : kq_y 574221 = 287 := by decide
theorem kqn_574221 : kq_n 574221 = 0 := by decide
theorem kqc_574221 : kq_c 574221 = 11 := by decide
theorem kqy_576221 : kq_y 576221 = 288 := by decide
theorem kqn_576221 : kq_n 576221 = 0 := by decide
theorem kqc_576221 : kq_c 576221 = 11 := by decide
theorem kqy_578221 : kq_y 578221 = 289 := by decide
theorem kqn_578221 : kq_n 578221 = 0 := by decide
theorem kqc_578221 : kq_c 578221 = 11 := by decide
theorem kqy_595980 : kq_y 595980 = 297 := by decide
theorem kqn_595980 : kq_n 595980 = 0 := by decide
theorem kqc_595980 : kq_c 595980 = 99 := by decide
theorem kqy_597982 : kq_y 597982 = 298 := by decide
theorem kqn_597982 : kq_n 597982 = 1 := by decide
theorem kqc_597982 : kq_c 597982 = 99 := by decide
theorem zs_sipush {rt : Option FieldType} {C : Nat → List zV → zI → zO} {K : zK} {i : Nat} {L : List (Option zV)} {r : List zV} {I : zI} {v : Int} : zs rt C K i L r I (.sipush v) = K (i + 1) L (.inl v :: r) I := (rfl)
theorem zs_iload {rt : Option FieldType} {C : Nat → List zV → zI → zO} {K : zK} {i : Nat} {L : List (Option zV)} {r : List zV} {I : zI} {k : Nat} : zs rt C K i L r I (.iload k) = zl L k fun x => K (i + 1) L (.inl x :: r) I := (rfl)
theorem zs_aload {rt : Option FieldType} {C : Nat → List zV → zI → zO} {K : zK} {i : Nat} {L : List (Option zV)} {r : List zV} {I : zI} {k : Nat} : zs rt C K i L r I (.aload k) = zlr L k fun x => K (i + 1) L (.inr x :: r) I := (rfl)
theorem zs_istore {rt : Option FieldType} {C : Nat → List zV → zI → zO} {K : zK} {i : Nat} {L : List (Option zV)} {r : List zV} {I : zI} {k : Nat} {x : Int} : zs rt C K i L (.inl x :: r) I (.istore k) = K (i + 1) (zsL L k (.inl x)) r I := (rfl)
theorem zs_astore {rt : Option FieldType} {C : Nat → List zV → zI → zO} {K : zK} {i : Nat} {L : List (Option zV)} {r : List zV} {I : zI} {k : Nat} {x : Option Nat} : zs rt C K i L (.inr x :: r) I (.astore k) = K (i + 1) (zsL L k (.inr x)) r I := (rfl)
theorem zs_iinc {rt : Option FieldType} {C : Nat → List zV → zI → zO} {K : zK} {i : Nat} {L : List (Option zV)} {r : List zV} {I : zI} {k : Nat} {w : Int} : zs rt C K i L r I (.iinc k w) = zl L k fun x => K (i + 1) (zsL L k (.inl (wr (x + w)))) r I := (rfl)
theorem zs_iadd {rt : Option FieldType} {C : Nat → List zV → zI → zO} {K : zK} {i : Nat} {L : List (Option zV)} {r : List zV} {I : zI} {x y : Int} : zs rt C K i L (.inl y :: .inl x :: r) I .iadd = K (i + 1) L (.inl (wr (x + y)) :: r) I := (rfl)
theorem zs_isub {rt : Option FieldType} {C : Nat → List zV → zI → zO} {K : zK} {i : Nat} {L : List (Option zV)} {r : List zV} {I : zI} {x y : Int} : zs rt C K i L (.inl y :: .inl x :: r) I .isub = K (i + 1) L (.inl (wr (x - y)) :: r) I := (rfl)
theorem zs_imul {rt : Option FieldType} {C : Nat → List zV → zI → zO} {K : zK} {i : Nat} {L : List (Option zV)} {r : List zV} {I : zI} {x y : Int} : zs rt C K i L (.inl y :: .inl x :: r) I .imul = K (i + 1) L (.inl (wr (x * y)) :: r) I := (rfl)
theorem zs_iand {rt : Option FieldType} {C : Nat → List zV → zI → zO} {K : zK} {i : Nat} {L : List (Option zV)} {r : List zV} {I : zI} {x y : Int} : zs rt C K i L (.inl y :: .inl x :: r) I .iand = K (i + 1) L (.inl (zand x y) :: r) I := (rfl)
theorem zs_ior {rt : Option FieldType} {C : Nat → List zV → zI → zO} {K : zK} {i : Nat} {L : List (Option zV)} {r : List zV} {I : zI} {x y : Int} : zs rt C K i L (.inl y :: .inl x :: r) I .ior = K (i + 1) L (.inl (zor x y) :: r) I := (rfl)
theorem zs_ixor {rt : Option FieldType} {C : Nat → List zV → zI → zO} {K : zK} {i : Nat} {L : List (Option zV)} {r : List zV} {I : zI} {x y : Int} : zs rt C K i L (.inl y :: .inl x :: r) I .ixor = K (i + 1) L (.inl (zxor x y) :: r) I := (rfl)
theorem zs_ishl {rt : Option FieldType} {C : Nat → List zV → zI → zO} {K : zK} {i : Nat} {L : List (Option zV)} {r : List zV} {I : zI} {x y : Int} : zs rt C K i L (.inl y :: .inl x :: r) I .ishl = K (i + 1) L (.inl (zshl x y) :: r) I := (rfl)
theorem zs_ishr {rt : Option FieldType} {C : Nat → List zV → zI → zO} {K : zK} {i : Nat} {L : List (Option zV)} {r : List zV} {I : zI} {x y : Int} : zs rt C K i L (.inl y :: .inl x :: r) I .ishr = K (i + 1) L (.inl (zshr x y) :: r) I := (rfl)
theorem zs_iushr {rt : Option FieldType} {C : Nat → List zV → zI → zO} {K : zK} {i : Nat} {L : List (Option zV)} {r : List zV} {I : zI} {x y : Int} : zs rt C K i L (.inl y :: .inl x :: r) I .iushr = K (i + 1) L (.inl (zushr x y) :: r) I := (rfl)
theorem zs_idiv {rt : Option FieldType} {C : Nat → List zV → zI → zO} {K : zK} {i : Nat} {L : List (Option zV)} {r : List zV} {I : zI} {x y : Int} : zs rt C K i L (.inl y :: .inl x :: r) I .idiv = if y = 0 then none else K (i + 1) L (.inl (zdiv x y) :: r) I := (rfl)
theorem zs_irem {rt : Option FieldType} {C : Nat → List zV → zI → zO} {K : zK} {i : Nat} {L : List (Option zV)} {r : List zV} {I : zI} {x y : Int} : zs rt C K i L (.inl y :: .inl x :: r) I .irem = if y = 0 then none else K (i + 1) L (.inl (zrem x y) :: r) I := (rfl)
theorem zs_ineg {rt : Option FieldType} {C : Nat → List zV → zI → zO} {K : zK} {i : Nat} {L : List (Option zV)} {r : List zV} {I : zI} {x : Int} : zs rt C K i L (.inl x :: r) I .ineg = K (i + 1) L (.inl (wr (-x)) :: r) I := (rfl)
theorem zs_dup {rt : Option FieldType} {C : Nat → List zV → zI → zO} {K : zK} {i : Nat} {L : List (Option zV)} {r : List zV} {I : zI} {v : zV} : zs rt C K i L (v :: r) I .dup = K (i + 1) L (v :: v :: r) I := (rfl)
theorem zs_dup2 {rt : Option FieldType} {C : Nat → List zV → zI → zO} {K : zK} {i : Nat} {L : List (Option zV)} {r : List zV} {I : zI} {v w : zV} : zs rt C K i L (v :: w :: r) I .dup2 = K (i + 1) L (v :: w :: v :: w :: r) I := (rfl)
theorem zs_pop {rt : Option FieldType} {C : Nat → List zV → zI → zO} {K : zK} {i : Nat} {L : List (Option zV)} {r : List zV} {I : zI} {v : zV} : zs rt C K i L (v :: r) I .pop = K (i + 1) L r I := (rfl)
theorem zs_if_eq {rt : Option FieldType} {C : Nat → List zV → zI → zO} {K : zK} {i : Nat} {L : List (Option zV)} {r : List zV} {I : zI} {x t : Int} : zs rt C K i L (.inl x :: r) I (.ifCond .eq t) = if x = 0 then K t.toNat L r I else K (i + 1) L r I := (rfl)
theorem zs_ic_eq {rt : Option FieldType} {C : Nat → List zV → zI → zO} {K : zK} {i : Nat} {L : List (Option zV)} {r : List zV} {I : zI} {x y t : Int} : zs rt C K i L (.inl y :: .inl x :: r) I (.if_icmp .eq t) = if x = y then K t.toNat L r I else K (i + 1) L r I := (rfl)
theorem zs_if_ne {rt : Option FieldType} {C : Nat → List zV → zI → zO} {K : zK} {i : Nat} {L : List (Option zV)} {r : List zV} {I : zI} {x t : Int} : zs rt C K i L (.inl x :: r) I (.ifCond .ne t) = if x = 0 then K (i + 1) L r I else K t.toNat L r I := (rfl)
theorem zs_ic_ne {rt : Option FieldType} {C : Nat → List zV → zI → zO} {K : zK} {i : Nat} {L : List (Option zV)} {r : List zV} {I : zI} {x y t : Int} : zs rt C K i L (.inl y :: .inl x :: r) I (.if_icmp .ne t) = if x = y then K (i + 1) L r I else K t.toNat L r I := (rfl)
theorem zs_if_lt {rt : Option FieldType} {C : Nat → List zV → zI → zO} {K : zK} {i : Nat} {L : List (Option zV)} {r : List zV} {I : zI} {x t : Int} : zs rt C K i L (.inl x :: r) I (.ifCond .lt t) = if x < 0 then K t.toNat L r I else K (i + 1) L r I := (rfl)
theorem zs_ic_lt {rt : Option FieldType} {C : Nat → List zV → zI → zO} {K : zK} {i : Nat} {L : List (Option zV)} {r : List zV} {I : zI} {x y t : Int} : zs rt C K i L (.inl y :: .inl x :: r) I (.if_icmp .lt t) = if x < y then K t.toNat L r I else K (i + 1) L r I := (rfl)
theorem zs_if_ge {rt : Option FieldType} {C : Nat → List zV → zI → zO} {K : zK} {i : Nat} {L : List (Option zV)} {r : List zV} {I : zI} {x t : Int} : zs rt C K i L (.inl x :: r) I (.ifCond .ge t) = if x < 0 then K (i + 1) L r I else K t.toNat L r I := (rfl)
theorem zs_ic_ge {rt : Option FieldType} {C : Nat → List zV → zI → zO} {K : zK} {i : Nat} {L : List (Option zV)} {r : List zV} {I : zI} {x y t : Int} : zs rt C K i L (.inl y :: .inl x :: r) I (.if_icmp .ge t) = if x < y then K (i + 1) L r I else K t.toNat L r I := (rfl)
theorem zs_if_gt {rt : Option FieldType} {C : Nat → List zV → zI → zO} {K : zK} {i : Nat} {L : List (Option zV)} {r : List zV} {I : zI} {x t : Int} : zs rt C K i L (.inl x :: r) I (.ifCond .gt t) = if 0 < x then K t.toNat L r I else K (i + 1) L r I := (rfl)
theorem zs_ic_gt {rt : Option FieldType} {C : Nat → List zV → zI → zO} {K : zK} {i : Nat} {L : List (Option zV)} {r : List zV} {I : zI} {x y t : Int} : zs rt C K i L (.inl y :: .inl x :: r) I (.if_icmp .gt t) = if y < x then K t.toNat L r I else K (i + 1) L r I := (rfl)
theorem zs_if_le {rt : Option FieldType} {C : Nat → List zV → zI → zO} {K : zK} {i : Nat} {L : List (Option zV)} {r : List zV} {I : zI} {x t : Int} : zs rt C K i L (.inl x :: r) I (.ifCond .le t) = if 0 < x then K (i + 1) L r I else K t.toNat L r I := (rfl)
theorem zs_ic_le {rt : Option FieldType} {C : Nat → List zV → zI → zO} {K : zK} {i : Nat} {L : List (Option zV)} {r : List zV} {I : zI} {x y t : Int} : zs rt C K i L (.inl y :: .inl x :: r) I (.if_icmp .le t) = if y < x then K (i + 1) L r I else K t.toNat L r I := (rfl)
theorem zs_goto {rt : Option FieldType} {C : Nat → List zV → zI → zO} {K : zK} {i : Nat} {L : List (Option zV)} {r : List zV} {I : zI} {t : Int} : zs rt C K i L r I (.goto t) = K t.toNat L r I := (rfl)
theorem zs_ifnonnull {rt : Option FieldType} {C : Nat → List zV → zI → zO} {K : zK} {i : Nat} {L : List (Option zV)} {r : List zV} {I : zI} {t : Int} {a : Nat} : zs rt C K i L (.inr (some a) :: r) I (.ifnonnull t) = K t.toNat L r I := (rfl)
theorem zs_tableswitch {rt : Option FieldType} {C : Nat → List zV → zI → zO} {K : zK} {i : Nat} {L : List (Option zV)} {r : List zV} {I : zI} {x dd lo hi : Int} {ts : Array Int} : zs rt C K i L (.inl x :: r) I (.tableswitch dd lo hi ts) = zsw x (fun t => K t L r I) (K dd.toNat L r I) ts.toList lo := (rfl)
theorem zs_lookupswitch {rt : Option FieldType} {C : Nat → List zV → zI → zO} {K : zK} {i : Nat} {L : List (Option zV)} {r : List zV} {I : zI} {x dd : Int} {ps : Array (Int × Int)} : zs rt C K i L (.inl x :: r) I (.lookupswitch dd ps) = zlk x (fun t => K t L r I) (K dd.toNat L r I) ps.toList := (rfl)
theorem zs_getstatic {rt : Option FieldType} {C : Nat → List zV → zI → zO} {K : zK} {i : Nat} {L : List (Option zV)} {r : List zV} {I : zI}  : zs rt C K i L r I (.getstatic 1) = K (i + 1) L (.inr (some 1000001) :: r) I := (rfl)
theorem zs_ldc {rt : Option FieldType} {C : Nat → List zV → zI → zO} {K : zK} {i : Nat} {L : List (Option zV)} {r : List zV} {I : zI} {q : Nat} : zs rt C K i L r I (.ldc q) = K (i + 1) L (.inr (some 1000002) :: r) I := (rfl)
theorem zs_getfield {rt : Option FieldType} {C : Nat → List zV → zI → zO} {K : zK} {i : Nat} {L : List (Option zV)} {r : List zV} {I : zI} {q a : Nat} (h : zkd a = (0, kf_c q)) : zs rt C K i L (.inr (some a) :: r) I (.getfield q) = K (i + 1) L (.inl (I a (kf_k q)) :: r) I := if_pos h
theorem zs_checkcast {rt : Option FieldType} {C : Nat → List zV → zI → zO} {K : zK} {i : Nat} {L : List (Option zV)} {r : List zV} {I : zI} {q a : Nat} (h : zkd a = (0, kf_c q)) : zs rt C K i L (.inr (some a) :: r) I (.checkcast q) = zo (zpt a (kf_k q)) fun b => K (i + 1) L (.inr (some b) :: r) I := if_pos h
theorem zs_putfield {rt : Option FieldType} {C : Nat → List zV → zI → zO} {K : zK} {i : Nat} {L : List (Option zV)} {r : List zV} {I : zI} {q a : Nat} {x : Int} (h : zkd a = (0, kf_c q)) (h2 : ¬ q % 2 = 1) : zs rt C K i L (.inl x :: .inr (some a) :: r) I (.putfield q) = K (i + 1) L r (up I a (kf_k q) x) := (if_pos h).trans (if_neg h2)
theorem zs_putfieldb {rt : Option FieldType} {C : Nat → List zV → zI → zO} {K : zK} {i : Nat} {L : List (Option zV)} {r : List zV} {I : zI} {q a : Nat} {x : Int} (h : zkd a = (0, kf_c q)) (h2 : q % 2 = 1) : zs rt C K i L (.inl x :: .inr (some a) :: r) I (.putfield q) = if x = 0 ∨ x = 1 then K (i + 1) L r (up I a (kf_k q) x) else none := (if_pos h).trans (if_pos h2)
theorem zs_iaload {rt : Option FieldType} {C : Nat → List zV → zI → zO} {K : zK} {i : Nat} {L : List (Option zV)} {r : List zV} {I : zI} {a : Nat} {x : Int} (h : (zkd a).1 = 1) : zs rt C K i L (.inl x :: .inr (some a) :: r) I .iaload = if 0 ≤ x ∧ x < (zkd a).2 then K (i + 1) L (.inl (I a x.toNat) :: r) I else none := if_pos h
theorem zs_iaload_x {rt : Option FieldType} {C : Nat → List zV → zI → zO} {K : zK} {i : Nat} {L : List (Option zV)} {r : List zV} {I : zI} {a : Nat} {x : Int} : zs rt C K i L (.inl x :: .inr (some a) :: r) I .iaload = if (zkd a).1 = 1 then (if 0 ≤ x ∧ x < (zkd a).2 then K (i + 1) L (.inl (I a x.toNat) :: r) I else none) else if a = 1000001 then (if 0 ≤ x ∧ x < 4 then K (i + 1) L (.inl (zbx x.toNat) :: r) I else none) else none := rfl
theorem zs_ialoadb {rt : Option FieldType} {C : Nat → List zV → zI → zO} {K : zK} {i : Nat} {L : List (Option zV)} {r : List zV} {I : zI} {x : Int} : zs rt C K i L (.inl x :: .inr (some 1000001) :: r) I .iaload = if 0 ≤ x ∧ x < 4 then K (i + 1) L (.inl (zbx x.toNat) :: r) I else none := by
  rw [zs_iaload_x, if_neg (by rw [zk_b]; decide), if_pos rfl]
theorem zs_iastore {rt : Option FieldType} {C : Nat → List zV → zI → zO} {K : zK} {i : Nat} {L : List (Option zV)} {r : List zV} {I : zI} {a : Nat} {x v : Int} (h : (zkd a).1 = 1) : zs rt C K i L (.inl v :: .inl x :: .inr (some a) :: r) I .iastore = if 0 ≤ x ∧ x < (zkd a).2 then K (i + 1) L r (up I a x.toNat v) else none := if_pos h
theorem zs_aaload_x {rt : Option FieldType} {C : Nat → List zV → zI → zO} {K : zK} {i : Nat} {L : List (Option zV)} {r : List zV} {I : zI} {a : Nat} {x : Int} : zs rt C K i L (.inl x :: .inr (some a) :: r) I .aaload = if a = 120 then (if 0 ≤ x ∧ x < 6 then zo (zpt 120 x.toNat) fun b => K (i + 1) L (.inr (some b) :: r) I else none) else none := rfl
theorem zs_aaload {rt : Option FieldType} {C : Nat → List zV → zI → zO} {K : zK} {i : Nat} {L : List (Option zV)} {r : List zV} {I : zI} {x : Int} : zs rt C K i L (.inl x :: .inr (some 120) :: r) I .aaload = if 0 ≤ x ∧ x < 6 then zo (zpt 120 x.toNat) fun b => K (i + 1) L (.inr (some b) :: r) I else none := by rw [zs_aaload_x, if_pos rfl]
theorem zs_arraylength {rt : Option FieldType} {C : Nat → List zV → zI → zO} {K : zK} {i : Nat} {L : List (Option zV)} {r : List zV} {I : zI} {a : Nat} (h : (zkd a).1 = 1) : zs rt C K i L (.inr (some a) :: r) I .arraylength = K (i + 1) L (.inl (zkd a).2 :: r) I := if_pos h
theorem zs_arraylength_x {rt : Option FieldType} {C : Nat → List zV → zI → zO} {K : zK} {i : Nat} {L : List (Option zV)} {r : List zV} {I : zI} {a : Nat} : zs rt C K i L (.inr (some a) :: r) I .arraylength = if (zkd a).1 = 1 then K (i + 1) L (.inl (zkd a).2 :: r) I else if a = 1000001 then K (i + 1) L (.inl 4 :: r) I else none := rfl
theorem zs_arraylengthb {rt : Option FieldType} {C : Nat → List zV → zI → zO} {K : zK} {i : Nat} {L : List (Option zV)} {r : List zV} {I : zI} : zs rt C K i L (.inr (some 1000001) :: r) I .arraylength = K (i + 1) L (.inl 4 :: r) I := by
  rw [zs_arraylength_x, if_neg (by rw [zk_b]; decide), if_pos rfl]
theorem zr_s {a : Nat} {r : List zV} {f : Nat → List zV → zO} : zr (.inr (some a) :: r) f = f a r := rfl
theorem zs_iv_x {rt : Option FieldType} {C : Nat → List zV → zI → zO} {K : zK} {i : Nat} {L : List (Option zV)} {r : List zV} {I : zI} {q : Nat} : zs rt C K i L r I (.invokevirtual q) = zr (r.drop (kq_n q)) fun a s => if kq_n q ≤ r.length ∧ s.length ≤ 8 then (@ite _ (zkr a (kq_c q)) (zkr_dec a (kq_c q)) ((C (kq_y q) (.inr (some a) :: (r.take (kq_n q)).reverse) I).bind fun p => K (i + 1) L (if q % 2 = 1 then s else .inl p.1 :: s) p.2) none) else none := rfl
theorem zs_swap {rt : Option FieldType} {C : Nat → List zV → zI → zO} {K : zK} {i : Nat} {L : List (Option zV)} {r : List zV} {I : zI} {a b : Nat} {sp dp w : Int} (h : (zkd a).1 = 1) (h2 : (zkd b).1 = 1) : zs rt C K i L (.inl w :: .inl dp :: .inr (some b) :: .inl sp :: .inr (some a) :: r) I .swap = if 0 ≤ sp ∧ 0 ≤ dp ∧ 0 ≤ w ∧ sp + w ≤ (zkd a).2 ∧ dp + w ≤ (zkd b).2 then (if r.length ≤ 8 then K (i + 1) L r (cp I a b sp.toNat dp.toNat w.toNat) else none) else none := if_pos ⟨h, h2⟩
theorem zs_is0 {rt : Option FieldType} {C : Nat → List zV → zI → zO} {K : zK} {i : Nat} {L : List (Option zV)} {r : List zV} {I : zI} {q : Nat} (e2 : kq_n q = 0) (e3 : q % 2 = 0) (hl : r.length ≤ 8) : zs rt C K i L (r) I (.invokestatic q) = (C (kq_y q) [] I).bind fun p => K (i + 1) L (.inl p.1 :: r) p.2 := by
  show (if kq_n q ≤ (r : List zV).length ∧ ((r : List zV).drop (kq_n q)).length ≤ 8 then (C (kq_y q) ((r : List zV).take (kq_n q)).reverse I).bind (fun p => K (i + 1) L (if q % 2 = 1 then (r : List zV).drop (kq_n q) else .inl p.1 :: (r : List zV).drop (kq_n q)) p.2) else none) = _
  rw [e2, if_pos ⟨by simp, hl⟩]
  simp only [e3]
  rfl
theorem zs_iv0 {rt : Option FieldType} {C : Nat → List zV → zI → zO} {K : zK} {i : Nat} {L : List (Option zV)} {r : List zV} {I : zI} {q a : Nat} (e2 : kq_n q = 0) (e3 : q % 2 = 0) (hl : r.length ≤ 8) (h : zkr a (kq_c q)) : zs rt C K i L (.inr (some a) :: r) I (.invokevirtual q) = (C (kq_y q) [.inr (some a)] I).bind fun p => K (i + 1) L (.inl p.1 :: r) p.2 := by
  rw [zs_iv_x, e2, show List.drop 0 (.inr (some a) :: r : List zV) = .inr (some a) :: r from rfl, zr_s, if_pos ⟨by simp, hl⟩, if_pos h]
  simp only [e3]
  rfl
theorem zs_is0v {rt : Option FieldType} {C : Nat → List zV → zI → zO} {K : zK} {i : Nat} {L : List (Option zV)} {r : List zV} {I : zI} {q : Nat} (e2 : kq_n q = 0) (e3 : q % 2 = 1) (hl : r.length ≤ 8) : zs rt C K i L (r) I (.invokestatic q) = (C (kq_y q) [] I).bind fun p => K (i + 1) L r p.2 := by
  show (if kq_n q ≤ (r : List zV).length ∧ ((r : List zV).drop (kq_n q)).length ≤ 8 then (C (kq_y q) ((r : List zV).take (kq_n q)).reverse I).bind (fun p => K (i + 1) L (if q % 2 = 1 then (r : List zV).drop (kq_n q) else .inl p.1 :: (r : List zV).drop (kq_n q)) p.2) else none) = _
  rw [e2, if_pos ⟨by simp, hl⟩]
  simp only [e3]
  rfl
theorem zs_iv0v {rt : Option FieldType} {C : Nat → List zV → zI → zO} {K : zK} {i : Nat} {L : List (Option zV)} {r : List zV} {I : zI} {q a : Nat} (e2 : kq_n q = 0) (e3 : q % 2 = 1) (hl : r.length ≤ 8) (h : zkr a (kq_c q)) : zs rt C K i L (.inr (some a) :: r) I (.invokevirtual q) = (C (kq_y q) [.inr (some a)] I).bind fun p => K (i + 1) L r p.2 := by
  rw [zs_iv_x, e2, show List.drop 0 (.inr (some a) :: r : List zV) = .inr (some a) :: r from rfl, zr_s, if_pos ⟨by simp, hl⟩, if_pos h]
  simp only [e3]
  rfl
theorem zs_is1 {rt : Option FieldType} {C : Nat → List zV → zI → zO} {K : zK} {i : Nat} {L : List (Option zV)} {r : List zV} {I : zI} {q : Nat} {x0 : zV} (e2 : kq_n q = 1) (e3 : q % 2 = 0) (hl : r.length ≤ 8) : zs rt C K i L (x0 :: r) I (.invokestatic q) = (C (kq_y q) [x0] I).bind fun p => K (i + 1) L (.inl p.1 :: r) p.2 := by
  show (if kq_n q ≤ (x0 :: r : List zV).length ∧ ((x0 :: r : List zV).drop (kq_n q)).length ≤ 8 then (C (kq_y q) ((x0 :: r : List zV).take (kq_n q)).reverse I).bind (fun p => K (i + 1) L (if q % 2 = 1 then (x0 :: r : List zV).drop (kq_n q) else .inl p.1 :: (x0 :: r : List zV).drop (kq_n q)) p.2) else none) = _
  rw [e2, if_pos ⟨by simp, hl⟩]
  simp only [e3]
  rfl
theorem zs_iv1 {rt : Option FieldType} {C : Nat → List zV → zI → zO} {K : zK} {i : Nat} {L : List (Option zV)} {r : List zV} {I : zI} {q a : Nat} {x0 : zV} (e2 : kq_n q = 1) (e3 : q % 2 = 0) (hl : r.length ≤ 8) (h : zkr a (kq_c q)) : zs rt C K i L (x0 :: .inr (some a) :: r) I (.invokevirtual q) = (C (kq_y q) [.inr (some a), x0] I).bind fun p => K (i + 1) L (.inl p.1 :: r) p.2 := by
  rw [zs_iv_x, e2, show List.drop 1 (x0 :: .inr (some a) :: r : List zV) = .inr (some a) :: r from rfl, zr_s, if_pos ⟨by simp, hl⟩, if_pos h]
  simp only [e3]
  rfl
theorem zs_is1v {rt : Option FieldType} {C : Nat → List zV → zI → zO} {K : zK} {i : Nat} {L : List (Option zV)} {r : List zV} {I : zI} {q : Nat} {x0 : zV} (e2 : kq_n q = 1) (e3 : q % 2 = 1) (hl : r.length ≤ 8) : zs rt C K i L (x0 :: r) I (.invokestatic q) = (C (kq_y q) [x0] I).bind fun p => K (i + 1) L r p.2 := by
  show (if kq_n q ≤ (x0 :: r : List zV).length ∧ ((x0 :: r : List zV).drop (kq_n q)).length ≤ 8 then (C (kq_y q) ((x0 :: r : List zV).take (kq_n q)).reverse I).bind (fun p => K (i + 1) L (if q % 2 = 1 then (x0 :: r : List zV).drop (kq_n q) else .inl p.1 :: (x0 :: r : List zV).drop (kq_n q)) p.2) else none) = _
  rw [e2, if_pos ⟨by simp, hl⟩]
  simp only [e3]
  rfl
theorem zs_iv1v {rt : Option FieldType} {C : Nat → List zV → zI → zO} {K : zK} {i : Nat} {L : List (Option zV)} {r : List zV} {I : zI} {q a : Nat} {x0 : zV} (e2 : kq_n q = 1) (e3 : q % 2 = 1) (hl : r.length ≤ 8) (h : zkr a (kq_c q)) : zs rt C K i L (x0 :: .inr (some a) :: r) I (.invokevirtual q) = (C (kq_y q) [.inr (some a), x0] I).bind fun p => K (i + 1) L r p.2 := by
  rw [zs_iv_x, e2, show List.drop 1 (x0 :: .inr (some a) :: r : List zV) = .inr (some a) :: r from rfl, zr_s, if_pos ⟨by simp, hl⟩, if_pos h]
  simp only [e3]
  rfl
theorem zs_is2 {rt : Option FieldType} {C : Nat → List zV → zI → zO} {K : zK} {i : Nat} {L : List (Option zV)} {r : List zV} {I : zI} {q : Nat} {x0 x1 : zV} (e2 : kq_n q = 2) (e3 : q % 2 = 0) (hl : r.length ≤ 8) : zs rt C K i L (x1 :: x0 :: r) I (.invokestatic q) = (C (kq_y q) [x0, x1] I).bind fun p => K (i + 1) L (.inl p.1 :: r) p.2 := by
  show (if kq_n q ≤ (x1 :: x0 :: r : List zV).length ∧ ((x1 :: x0 :: r : List zV).drop (kq_n q)).length ≤ 8 then (C (kq_y q) ((x1 :: x0 :: r : List zV).take (kq_n q)).reverse I).bind (fun p => K (i + 1) L (if q % 2 = 1 then (x1 :: x0 :: r : List zV).drop (kq_n q) else .inl p.1 :: (x1 :: x0 :: r : List zV).drop (kq_n q)) p.2) else none) = _
  rw [e2, if_pos ⟨by simp, hl⟩]
  simp only [e3]
  rfl
theorem zs_iv2 {rt : Option FieldType} {C : Nat → List zV → zI → zO} {K : zK} {i : Nat} {L : List (Option zV)} {r : List zV} {I : zI} {q a : Nat} {x0 x1 : zV} (e2 : kq_n q = 2) (e3 : q % 2 = 0) (hl : r.length ≤ 8) (h : zkr a (kq_c q)) : zs rt C K i L (x1 :: x0 :: .inr (some a) :: r) I (.invokevirtual q) = (C (kq_y q) [.inr (some a), x0, x1] I).bind fun p => K (i + 1) L (.inl p.1 :: r) p.2 := by
  rw [zs_iv_x, e2, show List.drop 2 (x1 :: x0 :: .inr (some a) :: r : List zV) = .inr (some a) :: r from rfl, zr_s, if_pos ⟨by simp, hl⟩, if_pos h]
  simp only [e3]
  rfl
theorem zs_is2v {rt : Option FieldType} {C : Nat → List zV → zI → zO} {K : zK} {i : Nat} {L : List (Option zV)} {r : List zV} {I : zI} {q : Nat} {x0 x1 : zV} (e2 : kq_n q = 2) (e3 : q % 2 = 1) (hl : r.length ≤ 8) : zs rt C K i L (x1 :: x0 :: r) I (.invokestatic q) = (C (kq_y q) [x0, x1] I).bind fun p => K (i + 1) L r p.2 := by
  show (if kq_n q ≤ (x1 :: x0 :: r : List zV).length ∧ ((x1 :: x0 :: r : List zV).drop (kq_n q)).length ≤ 8 then (C (kq_y q) ((x1 :: x0 :: r : List zV).take (kq_n q)).reverse I).bind (fun p => K (i + 1) L (if q % 2 = 1 then (x1 :: x0 :: r : List zV).drop (kq_n q) else .inl p.1 :: (x1 :: x0 :: r : List zV).drop (kq_n q)) p.2) else none) = _
  rw [e2, if_pos ⟨by simp, hl⟩]
  simp only [e3]
  rfl
theorem zs_iv2v {rt : Option FieldType} {C : Nat → List zV → zI → zO} {K : zK} {i : Nat} {L : List (Option zV)} {r : List zV} {I : zI} {q a : Nat} {x0 x1 : zV} (e2 : kq_n q = 2) (e3 : q % 2 = 1) (hl : r.length ≤ 8) (h : zkr a (kq_c q)) : zs rt C K i L (x1 :: x0 :: .inr (some a) :: r) I (.invokevirtual q) = (C (kq_y q) [.inr (some a), x0, x1] I).bind fun p => K (i + 1) L r p.2 := by
  rw [zs_iv_x, e2, show List.drop 2 (x1 :: x0 :: .inr (some a) :: r : List zV) = .inr (some a) :: r from rfl, zr_s, if_pos ⟨by simp, hl⟩, if_pos h]
  simp only [e3]
  rfl
theorem zs_is3 {rt : Option FieldType} {C : Nat → List zV → zI → zO} {K : zK} {i : Nat} {L : List (Option zV)} {r : List zV} {I : zI} {q : Nat} {x0 x1 x2 : zV} (e2 : kq_n q = 3) (e3 : q % 2 = 0) (hl : r.length ≤ 8) : zs rt C K i L (x2 :: x1 :: x0 :: r) I (.invokestatic q) = (C (kq_y q) [x0, x1, x2] I).bind fun p => K (i + 1) L (.inl p.1 :: r) p.2 := by
  show (if kq_n q ≤ (x2 :: x1 :: x0 :: r : List zV).length ∧ ((x2 :: x1 :: x0 :: r : List zV).drop (kq_n q)).length ≤ 8 then (C (kq_y q) ((x2 :: x1 :: x0 :: r : List zV).take (kq_n q)).reverse I).bind (fun p => K (i + 1) L (if q % 2 = 1 then (x2 :: x1 :: x0 :: r : List zV).drop (kq_n q) else .inl p.1 :: (x2 :: x1 :: x0 :: r : List zV).drop (kq_n q)) p.2) else none) = _
  rw [e2, if_pos ⟨by simp, hl⟩]
  simp only [e3]
  rfl
theorem zs_iv3 {rt : Option FieldType} {C : Nat → List zV → zI → zO} {K : zK} {i : Nat} {L : List (Option zV)} {r : List zV} {I : zI} {q a : Nat} {x0 x1 x2 : zV} (e2 : kq_n q = 3) (e3 : q % 2 = 0) (hl : r.length ≤ 8) (h : zkr a (kq_c q)) : zs rt C K i L (x2 :: x1 :: x0 :: .inr (some a) :: r) I (.invokevirtual q) = (C (kq_y q) [.inr (some a), x0, x1, x2] I).bind fun p => K (i + 1) L (.inl p.1 :: r) p.2 := by
  rw [zs_iv_x, e2, show List.drop 3 (x2 :: x1 :: x0 :: .inr (some a) :: r : List zV) = .inr (some a) :: r from rfl, zr_s, if_pos ⟨by simp, hl⟩, if_pos h]
  simp only [e3]
  rfl
theorem zs_is3v {rt : Option FieldType} {C : Nat → List zV → zI → zO} {K : zK} {i : Nat} {L : List (Option zV)} {r : List zV} {I : zI} {q : Nat} {x0 x1 x2 : zV} (e2 : kq_n q = 3) (e3 : q % 2 = 1) (hl : r.length ≤ 8) : zs rt C K i L (x2 :: x1 :: x0 :: r) I (.invokestatic q) = (C (kq_y q) [x0, x1, x2] I).bind fun p => K (i + 1) L r p.2 := by
  show (if kq_n q ≤ (x2 :: x1 :: x0 :: r : List zV).length ∧ ((x2 :: x1 :: x0 :: r : List zV).drop (kq_n q)).length ≤ 8 then (C (kq_y q) ((x2 :: x1 :: x0 :: r : List zV).take (kq_n q)).reverse I).bind (fun p => K (i + 1) L (if q % 2 = 1 then (x2 :: x1 :: x0 :: r : List zV).drop (kq_n q) else .inl p.1 :: (x2 :: x1 :: x0 :: r : List zV).drop (kq_n q)) p.2) else none) = _
  rw [e2, if_pos ⟨by simp, hl⟩]
  simp only [e3]
  rfl
theorem zs_iv3v {rt : Option FieldType} {C : Nat → List zV → zI → zO} {K : zK} {i : Nat} {L : List (Option zV)} {r : List zV} {I : zI} {q a : Nat} {x0 x1 x2 : zV} (e2 : kq_n q = 3) (e3 : q % 2 = 1) (hl : r.length ≤ 8) (h : zkr a (kq_c q)) : zs rt C K i L (x2 :: x1 :: x0 :: .inr (some a) :: r) I (.invokevirtual q) = (C (kq_y q) [.inr (some a), x0, x1, x2] I).bind fun p => K (i + 1) L r p.2 := by
  rw [zs_iv_x, e2, show List.drop 3 (x2 :: x1 :: x0 :: .inr (some a) :: r : List zV) = .inr (some a) :: r from rfl, zr_s, if_pos ⟨by simp, hl⟩, if_pos h]
  simp only [e3]
  rfl
theorem zs_is4 {rt : Option FieldType} {C : Nat → List zV → zI → zO} {K : zK} {i : Nat} {L : List (Option zV)} {r : List zV} {I : zI} {q : Nat} {x0 x1 x2 x3 : zV} (e2 : kq_n q = 4) (e3 : q % 2 = 0) (hl : r.length ≤ 8) : zs rt C K i L (x3 :: x2 :: x1 :: x0 :: r) I (.invokestatic q) = (C (kq_y q) [x0, x1, x2, x3] I).bind fun p => K (i + 1) L (.inl p.1 :: r) p.2 := by
  show (if kq_n q ≤ (x3 :: x2 :: x1 :: x0 :: r : List zV).length ∧ ((x3 :: x2 :: x1 :: x0 :: r : List zV).drop (kq_n q)).length ≤ 8 then (C (kq_y q) ((x3 :: x2 :: x1 :: x0 :: r : List zV).take (kq_n q)).reverse I).bind (fun p => K (i + 1) L (if q % 2 = 1 then (x3 :: x2 :: x1 :: x0 :: r : List zV).drop (kq_n q) else .inl p.1 :: (x3 :: x2 :: x1 :: x0 :: r : List zV).drop (kq_n q)) p.2) else none) = _
  rw [e2, if_pos ⟨by simp, hl⟩]
  simp only [e3]
  rfl
theorem zs_iv4 {rt : Option FieldType} {C : Nat → List zV → zI → zO} {K : zK} {i : Nat} {L : List (Option zV)} {r : List zV} {I : zI} {q a : Nat} {x0 x1 x2 x3 : zV} (e2 : kq_n q = 4) (e3 : q % 2 = 0) (hl : r.length ≤ 8) (h : zkr a (kq_c q)) : zs rt C K i L (x3 :: x2 :: x1 :: x0 :: .inr (some a) :: r) I (.invokevirtual q) = (C (kq_y q) [.inr (some a), x0, x1, x2, x3] I).bind fun p => K (i + 1) L (.inl p.1 :: r) p.2 := by
  rw [zs_iv_x, e2, show List.drop 4 (x3 :: x2 :: x1 :: x0 :: .inr (some a) :: r : List zV) = .inr (some a) :: r from rfl, zr_s, if_pos ⟨by simp, hl⟩, if_pos h]
  simp only [e3]
  rfl
theorem zs_is4v {rt : Option FieldType} {C : Nat → List zV → zI → zO} {K : zK} {i : Nat} {L : List (Option zV)} {r : List zV} {I : zI} {q : Nat} {x0 x1 x2 x3 : zV} (e2 : kq_n q = 4) (e3 : q % 2 = 1) (hl : r.length ≤ 8) : zs rt C K i L (x3 :: x2 :: x1 :: x0 :: r) I (.invokestatic q) = (C (kq_y q) [x0, x1, x2, x3] I).bind fun p => K (i + 1) L r p.2 := by
  show (if kq_n q ≤ (x3 :: x2 :: x1 :: x0 :: r : List zV).length ∧ ((x3 :: x2 :: x1 :: x0 :: r : List zV).drop (kq_n q)).length ≤ 8 then (C (kq_y q) ((x3 :: x2 :: x1 :: x0 :: r : List zV).take (kq_n q)).reverse I).bind (fun p => K (i + 1) L (if q % 2 = 1 then (x3 :: x2 :: x1 :: x0 :: r : List zV).drop (kq_n q) else .inl p.1 :: (x3 :: x2 :: x1 :: x0 :: r : List zV).drop (kq_n q)) p.2) else none) = _
  rw [e2, if_pos ⟨by simp, hl⟩]
  simp only [e3]
  rfl
theorem zs_iv4v {rt : Option FieldType} {C : Nat → List zV → zI → zO} {K : zK} {i : Nat} {L : List (Option zV)} {r : List zV} {I : zI} {q a : Nat} {x0 x1 x2 x3 : zV} (e2 : kq_n q = 4) (e3 : q % 2 = 1) (hl : r.length ≤ 8) (h : zkr a (kq_c q)) : zs rt C K i L (x3 :: x2 :: x1 :: x0 :: .inr (some a) :: r) I (.invokevirtual q) = (C (kq_y q) [.inr (some a), x0, x1, x2, x3] I).bind fun p => K (i + 1) L r p.2 := by
  rw [zs_iv_x, e2, show List.drop 4 (x3 :: x2 :: x1 :: x0 :: .inr (some a) :: r : List zV) = .inr (some a) :: r from rfl, zr_s, if_pos ⟨by simp, hl⟩, if_pos h]
  simp only [e3]
  rfl
theorem zs_is5 {rt : Option FieldType} {C : Nat → List zV → zI → zO} {K : zK} {i : Nat} {L : List (Option zV)} {r : List zV} {I : zI} {q : Nat} {x0 x1 x2 x3 x4 : zV} (e2 : kq_n q = 5) (e3 : q % 2 = 0) (hl : r.length ≤ 8) : zs rt C K i L (x4 :: x3 :: x2 :: x1 :: x0 :: r) I (.invokestatic q) = (C (kq_y q) [x0, x1, x2, x3, x4] I).bind fun p => K (i + 1) L (.inl p.1 :: r) p.2 := by
  show (if kq_n q ≤ (x4 :: x3 :: x2 :: x1 :: x0 :: r : List zV).length ∧ ((x4 :: x3 :: x2 :: x1 :: x0 :: r : List zV).drop (kq_n q)).length ≤ 8 then (C (kq_y q) ((x4 :: x3 :: x2 :: x1 :: x0 :: r : List zV).take (kq_n q)).reverse I).bind (fun p => K (i + 1) L (if q % 2 = 1 then (x4 :: x3 :: x2 :: x1 :: x0 :: r : List zV).drop (kq_n q) else .inl p.1 :: (x4 :: x3 :: x2 :: x1 :: x0 :: r : List zV).drop (kq_n q)) p.2) else none) = _
  rw [e2, if_pos ⟨by simp, hl⟩]
  simp only [e3]
  rfl
theorem zs_iv5 {rt : Option FieldType} {C : Nat → List zV → zI → zO} {K : zK} {i : Nat} {L : List (Option zV)} {r : List zV} {I : zI} {q a : Nat} {x0 x1 x2 x3 x4 : zV} (e2 : kq_n q = 5) (e3 : q % 2 = 0) (hl : r.length ≤ 8) (h : zkr a (kq_c q)) : zs rt C K i L (x4 :: x3 :: x2 :: x1 :: x0 :: .inr (some a) :: r) I (.invokevirtual q) = (C (kq_y q) [.inr (some a), x0, x1, x2, x3, x4] I).bind fun p => K (i + 1) L (.inl p.1 :: r) p.2 := by
  rw [zs_iv_x, e2, show List.drop 5 (x4 :: x3 :: x2 :: x1 :: x0 :: .inr (some a) :: r : List zV) = .inr (some a) :: r from rfl, zr_s, if_pos ⟨by simp, hl⟩, if_pos h]
  simp only [e3]
  rfl
theorem zs_is5v {rt : Option FieldType} {C : Nat → List zV → zI → zO} {K : zK} {i : Nat} {L : List (Option zV)} {r : List zV} {I : zI} {q : Nat} {x0 x1 x2 x3 x4 : zV} (e2 : kq_n q = 5) (e3 : q % 2 = 1) (hl : r.length ≤ 8) : zs rt C K i L (x4 :: x3 :: x2 :: x1 :: x0 :: r) I (.invokestatic q) = (C (kq_y q) [x0, x1, x2, x3, x4] I).bind fun p => K (i + 1) L r p.2 := by
  show (if kq_n q ≤ (x4 :: x3 :: x2 :: x1 :: x0 :: r : List zV).length ∧ ((x4 :: x3 :: x2 :: x1 :: x0 :: r : List zV).drop (kq_n q)).length ≤ 8 then (C (kq_y q) ((x4 :: x3 :: x2 :: x1 :: x0 :: r : List zV).take (kq_n q)).reverse I).bind (fun p => K (i + 1) L (if q % 2 = 1 then (x4 :: x3 :: x2 :: x1 :: x0 :: r : List zV).drop (kq_n q) else .inl p.1 :: (x4 :: x3 :: x2 :: x1 :: x0 :: r : List zV).drop (kq_n q)) p.2) else none) = _
  rw [e2, if_pos ⟨by simp, hl⟩]
  simp only [e3]
  rfl
theorem zs_iv5v {rt : Option FieldType} {C : Nat → List zV → zI → zO} {K : zK} {i : Nat} {L : List (Option zV)} {r : List zV} {I : zI} {q a : Nat} {x0 x1 x2 x3 x4 : zV} (e2 : kq_n q = 5) (e3 : q % 2 = 1) (hl : r.length ≤ 8) (h : zkr a (kq_c q)) : zs rt C K i L (x4 :: x3 :: x2 :: x1 :: x0 :: .inr (some a) :: r) I (.invokevirtual q) = (C (kq_y q) [.inr (some a), x0, x1, x2, x3, x4] I).bind fun p => K (i + 1) L r p.2 := by
  rw [zs_iv_x, e2, show List.drop 5 (x4 :: x3 :: x2 :: x1 :: x0 :: .inr (some a) :: r : List zV) = .inr (some a) :: r from rfl, zr_s, if_pos ⟨by simp, hl⟩, if_pos h]
  simp only [e3]
  rfl
theorem zs_is6 {rt : Option FieldType} {C : Nat → List zV → zI → zO} {K : zK} {i : Nat} {L : List (Option zV)} {r : List zV} {I : zI} {q : Nat} {x0 x1 x2 x3 x4 x5 : zV} (e2 : kq_n q = 6) (e3 : q % 2 = 0) (hl : r.length ≤ 8) : zs rt C K i L (x5 :: x4 :: x3 :: x2 :: x1 :: x0 :: r) I (.invokestatic q) = (C (kq_y q) [x0, x1, x2, x3, x4, x5] I).bind fun p => K (i + 1) L (.inl p.1 :: r) p.2 := by
  show (if kq_n q ≤ (x5 :: x4 :: x3 :: x2 :: x1 :: x0 :: r : List zV).length ∧ ((x5 :: x4 :: x3 :: x2 :: x1 :: x0 :: r : List zV).drop (kq_n q)).length ≤ 8 then (C (kq_y q) ((x5 :: x4 :: x3 :: x2 :: x1 :: x0 :: r : List zV).take (kq_n q)).reverse I).bind (fun p => K (i + 1) L (if q % 2 = 1 then (x5 :: x4 :: x3 :: x2 :: x1 :: x0 :: r : List zV).drop (kq_n q) else .inl p.1 :: (x5 :: x4 :: x3 :: x2 :: x1 :: x0 :: r : List zV).drop (kq_n q)) p.2) else none) = _
  rw [e2, if_pos ⟨by simp, hl⟩]
  simp only [e3]
  rfl
theorem zs_iv6 {rt : Option FieldType} {C : Nat → List zV → zI → zO} {K : zK} {i : Nat} {L : List (Option zV)} {r : List zV} {I : zI} {q a : Nat} {x0 x1 x2 x3 x4 x5 : zV} (e2 : kq_n q = 6) (e3 : q % 2 = 0) (hl : r.length ≤ 8) (h : zkr a (kq_c q)) : zs rt C K i L (x5 :: x4 :: x3 :: x2 :: x1 :: x0 :: .inr (some a) :: r) I (.invokevirtual q) = (C (kq_y q) [.inr (some a), x0, x1, x2, x3, x4, x5] I).bind fun p => K (i + 1) L (.inl p.1 :: r) p.2 := by
  rw [zs_iv_x, e2, show List.drop 6 (x5 :: x4 :: x3 :: x2 :: x1 :: x0 :: .inr (some a) :: r : List zV) = .inr (some a) :: r from rfl, zr_s, if_pos ⟨by simp, hl⟩, if_pos h]
  simp only [e3]
  rfl
theorem zs_is6v {rt : Option FieldType} {C : Nat → List zV → zI → zO} {K : zK} {i : Nat} {L : List (Option zV)} {r : List zV} {I : zI} {q : Nat} {x0 x1 x2 x3 x4 x5 : zV} (e2 : kq_n q = 6) (e3 : q % 2 = 1) (hl : r.length ≤ 8) : zs rt C K i L (x5 :: x4 :: x3 :: x2 :: x1 :: x0 :: r) I (.invokestatic q) = (C (kq_y q) [x0, x1, x2, x3, x4, x5] I).bind fun p => K (i + 1) L r p.2 := by
  show (if kq_n q ≤ (x5 :: x4 :: x3 :: x2 :: x1 :: x0 :: r : List zV).length ∧ ((x5 :: x4 :: x3 :: x2 :: x1 :: x0 :: r : List zV).drop (kq_n q)).length ≤ 8 then (C (kq_y q) ((x5 :: x4 :: x3 :: x2 :: x1 :: x0 :: r : List zV).take (kq_n q)).reverse I).bind (fun p => K (i + 1) L (if q % 2 = 1 then (x5 :: x4 :: x3 :: x2 :: x1 :: x0 :: r : List zV).drop (kq_n q) else .inl p.1 :: (x5 :: x4 :: x3 :: x2 :: x1 :: x0 :: r : List zV).drop (kq_n q)) p.2) else none) = _
  rw [e2, if_pos ⟨by simp, hl⟩]
  simp only [e3]
  rfl
theorem zs_iv6v {rt : Option FieldType} {C : Nat → List zV → zI → zO} {K : zK} {i : Nat} {L : List (Option zV)} {r : List zV} {I : zI} {q a : Nat} {x0 x1 x2 x3 x4 x5 : zV} (e2 : kq_n q = 6) (e3 : q % 2 = 1) (hl : r.length ≤ 8) (h : zkr a (kq_c q)) : zs rt C K i L (x5 :: x4 :: x3 :: x2 :: x1 :: x0 :: .inr (some a) :: r) I (.invokevirtual q) = (C (kq_y q) [.inr (some a), x0, x1, x2, x3, x4, x5] I).bind fun p => K (i + 1) L r p.2 := by
  rw [zs_iv_x, e2, show List.drop 6 (x5 :: x4 :: x3 :: x2 :: x1 :: x0 :: .inr (some a) :: r : List zV) = .inr (some a) :: r from rfl, zr_s, if_pos ⟨by simp, hl⟩, if_pos h]
  simp only [e3]
  rfl
theorem zs_ireturn {rt : Option FieldType} {C : Nat → List zV → zI → zO} {K : zK} {i : Nat} {L : List (Option zV)} {I : zI} {x : Int} : zs rt C K i L [.inl x] I .ireturn = zret rt x I := (rfl)
theorem zs_return {rt : Option FieldType} {C : Nat → List zV → zI → zO} {K : zK} {i : Nat} {L : List (Option zV)} {I : zI}  : zs rt C K i L [] I .return_ = zret0 rt I := (rfl)
theorem zl_0 {x : Int} {L : List (Option zV)} {f : Int → zO} : zl (some (.inl x) :: L) 0 f = f x := (rfl)
theorem zl_s {v : Option zV} {L : List (Option zV)} {k : Nat} {f : Int → zO} : zl (v :: L) (k + 1) f = zl L k f := (rfl)
theorem zlr_0 {x : Option Nat} {L : List (Option zV)} {f : Option Nat → zO} : zlr (some (.inr x) :: L) 0 f = f x := (rfl)
theorem zlr_s {v : Option zV} {L : List (Option zV)} {k : Nat} {f : Option Nat → zO} : zlr (v :: L) (k + 1) f = zlr L k f := (rfl)
theorem zsL_0 {v : zV} {w : Option zV} {L : List (Option zV)} : zsL (w :: L) 0 v = some v :: L := rfl
theorem zsL_s {v : zV} {w : Option zV} {L : List (Option zV)} {k : Nat} : zsL (w :: L) (k + 1) v = w :: zsL L k v := rfl
theorem zsL_n0 {v : zV} : zsL [] 0 v = [some v] := rfl
theorem zsL_ns {v : zV} {k : Nat} : zsL [] (k + 1) v = none :: zsL [] k v := rfl
theorem zo_s {a : Nat} {f : Nat → zO} : zo (some a) f = f a := (rfl)
theorem zsw_0 {x lo : Int} {k : Nat → zO} {d : zO} : zsw x k d [] lo = d := (rfl)
theorem zsw_s {x lo t : Int} {k : Nat → zO} {d : zO} {r : List Int} : zsw x k d (t :: r) lo = if x = lo then k t.toNat else zsw x k d r (lo + 1) := (rfl)
theorem zlk_0 {x : Int} {k : Nat → zO} {d : zO} : zlk x k d [] = d := (rfl)
theorem zlk_s {x a t : Int} {k : Nat → zO} {d : zO} {r : List (Int × Int)} : zlk x k d ((a, t) :: r) = if x = a then k t.toNat else zlk x k d r := (rfl)
theorem zret_i {x : Int} {I : zI} : zret (some .int) x I = some (x, I) := (rfl)
theorem zret_b {x : Int} {I : zI} : zret (some .boolean) x I = if x = 0 ∨ x = 1 then some (x, I) else none := (rfl)
theorem zret_b0 {I : zI} : zret (some .boolean) 0 I = some (0, I) := (rfl)
theorem zret_b1 {I : zI} : zret (some .boolean) 1 I = some (1, I) := (rfl)
theorem zret_n {I : zI} : zret0 none I = some (0, I) := (rfl)
/-- what comes behind an instruction -/
def zk1 (rt : Option FieldType) (C : Nat → List zV → zI → zO) (D : zK) (cd : List Instr) (stops : List (Nat × Nat)) (f : Nat) : zK := fun i L st I => match stf stops i with
  | none => ze rt C D cd stops f i L st I
  | some k => D i (L.take k) st I
def zgo1 (rt : Option FieldType) (C : Nat → List zV → zI → zO) (K : zK) (i : Nat) (L : List (Option zV)) (st : List zV) (I : zI) (o : Option Instr) : zO := match o with
  | none => none
  | some ins => zs rt C K i L st I ins
def zk2 (o : Option Nat) (a : zO) (b : Nat → zO) : zO := match o with
  | none => a
  | some k => b k
theorem ze_x {rt : Option FieldType} {C : Nat → List zV → zI → zO} {D : zK} {cd : List Instr} {stops : List (Nat × Nat)} {f i : Nat} {L : List (Option zV)} {st : List zV} {I : zI} : ze rt C D cd stops (f + 1) i L st I = zgo1 rt C (zk1 rt C D cd stops f) i L st I cd[i]? := by
  conv => lhs; unfold ze
  rfl
theorem zgo_s {rt : Option FieldType} {C : Nat → List zV → zI → zO} {K : zK} {i : Nat} {L : List (Option zV)} {st : List zV} {I : zI} {ins : Instr} : zgo1 rt C K i L st I (some ins) = zs rt C K i L st I ins := (rfl)
theorem zk1_x {rt : Option FieldType} {C : Nat → List zV → zI → zO} {D : zK} {cd : List Instr} {stops : List (Nat × Nat)} {f i : Nat} {L : List (Option zV)} {st : List zV} {I : zI} : zk1 rt C D cd stops f i L st I = zk2 (stf stops i) (ze rt C D cd stops f i L st I) (fun k => D i (L.take k) st I) := (rfl)
theorem zk2_n {a : zO} {b : Nat → zO} : zk2 none a b = a := (rfl)
theorem zk2_s {k : Nat} {a : zO} {b : Nat → zO} : zk2 (some k) a b = b k := (rfl)
theorem stf_0 {i : Nat} : stf [] i = none := (rfl)
theorem stf_s {i k j : Nat} {r : List (Nat × Nat)} : stf ((j, k) :: r) i = if j = i then some k else stf r i := (rfl)
theorem zc_n {n : Nat} : ((OfNat.ofNat n : Nat) : Int) = OfNat.ofNat n := (rfl)
theorem zkr_p {a c : Nat} (h : zkd a = (0, c)) (hc : ¬ c = 99) : zkr a c := by unfold zkr; rw [if_neg hc]; exact h
theorem zkr_S : zkr 1000002 99 := (rfl)
theorem up_s {I : zI} {k j : Nat} {x : Int} : up I k j x k j = x := if_pos ⟨rfl, rfl⟩
theorem up_c {I : zI} {k j a b : Nat} {x : Int} (h : ¬ a = k) : up I k j x a b = I a b := if_neg fun e => h e.1
theorem up_j {I : zI} {k j a b : Nat} {x : Int} (h : ¬ b = j) : up I k j x a b = I a b := if_neg fun e => h e.2
theorem cp_c {I : zI} {a b s d n x j : Nat} (h : ¬ x = b) : cp I a b s d n x j = I x j := by unfold cp; rw [if_neg h]
