/-! the rows of the walk as a function; the cells by number -/
theorem zk_0 : zkd 0 = (0, 10) := rfl
theorem zp_0_0 : zpt 0 0 = some 1 := rfl
theorem zp_0_1 : zpt 0 1 = some 60 := rfl
theorem zp_0_3 : zpt 0 3 = some 119 := rfl
theorem zp_0_4 : zpt 0 4 = some 200 := rfl
theorem zp_0_5 : zpt 0 5 = some 213 := rfl
theorem zp_0_6 : zpt 0 6 = some 231 := rfl
theorem zp_0_7 : zpt 0 7 = some 238 := rfl
theorem zk_1 : zkd 1 = (0, 2) := rfl
theorem zp_1_0 : zpt 1 0 = some 2 := rfl
theorem zp_1_1 : zpt 1 1 = some 15 := rfl
theorem zp_1_2 : zpt 1 2 = some 20 := rfl
theorem zp_1_3 : zpt 1 3 = some 29 := rfl
theorem zp_1_4 : zpt 1 4 = some 34 := rfl
theorem zp_1_5 : zpt 1 5 = some 39 := rfl
theorem zp_1_6 : zpt 1 6 = some 44 := rfl
theorem zp_1_7 : zpt 1 7 = some 46 := rfl
theorem zp_1_8 : zpt 1 8 = some 48 := rfl
theorem zp_1_9 : zpt 1 9 = some 49 := rfl
theorem zp_1_10 : zpt 1 10 = some 50 := rfl
theorem zp_1_11 : zpt 1 11 = some 52 := rfl
theorem zp_1_12 : zpt 1 12 = some 54 := rfl
theorem zp_1_13 : zpt 1 13 = some 56 := rfl
theorem zp_1_14 : zpt 1 14 = some 58 := rfl
theorem zk_2 : zkd 2 = (0, 3) := rfl
theorem zp_2_6 : zpt 2 6 = some 3 := rfl
theorem zp_2_7 : zpt 2 7 = some 4 := rfl
theorem zp_2_8 : zpt 2 8 = some 5 := rfl
theorem zp_2_9 : zpt 2 9 = some 6 := rfl
theorem zp_2_10 : zpt 2 10 = some 7 := rfl
theorem zp_2_11 : zpt 2 11 = some 8 := rfl
theorem zp_2_12 : zpt 2 12 = some 9 := rfl
theorem zp_2_13 : zpt 2 13 = some 10 := rfl
theorem zp_2_14 : zpt 2 14 = some 11 := rfl
theorem zp_2_15 : zpt 2 15 = some 12 := rfl
theorem zp_2_16 : zpt 2 16 = some 13 := rfl
theorem zp_2_17 : zpt 2 17 = some 14 := rfl
theorem zk_3 : zkd 3 = (1, 14) := rfl
theorem zk_4 : zkd 4 = (1, 14) := rfl
theorem zk_5 : zkd 5 = (1, 14) := rfl
theorem zk_6 : zkd 6 = (1, 14) := rfl
theorem zk_7 : zkd 7 = (1, 10) := rfl
theorem zk_8 : zkd 8 = (1, 10) := rfl
theorem zk_9 : zkd 9 = (1, 10) := rfl
theorem zk_10 : zkd 10 = (1, 10) := rfl
theorem zk_11 : zkd 11 = (1, 10) := rfl
theorem zk_12 : zkd 12 = (1, 12) := rfl
theorem zk_13 : zkd 13 = (1, 12) := rfl
theorem zk_14 : zkd 14 = (1, 12) := rfl
theorem zk_15 : zkd 15 = (0, 0) := rfl
theorem zp_15_0 : zpt 15 0 = some 16 := rfl
theorem zp_15_1 : zpt 15 1 = some 17 := rfl
theorem zp_15_2 : zpt 15 2 = some 18 := rfl
theorem zp_15_3 : zpt 15 3 = some 19 := rfl
theorem zk_16 : zkd 16 = (1, 150) := rfl
theorem zk_17 : zkd 17 = (1, 150) := rfl
theorem zk_18 : zkd 18 = (1, 150) := rfl
theorem zk_19 : zkd 19 = (1, 150) := rfl
theorem zk_20 : zkd 20 = (0, 4) := rfl
theorem zp_20_0 : zpt 20 0 = some 21 := rfl
theorem zp_20_1 : zpt 20 1 = some 26 := rfl
theorem zp_20_3 : zpt 20 3 = some 27 := rfl
theorem zp_20_4 : zpt 20 4 = some 28 := rfl
theorem zk_21 : zkd 21 = (0, 8) := rfl
theorem zp_21_0 : zpt 21 0 = some 22 := rfl
theorem zp_21_1 : zpt 21 1 = some 23 := rfl
theorem zp_21_2 : zpt 21 2 = some 24 := rfl
theorem zp_21_3 : zpt 21 3 = some 25 := rfl
theorem zk_22 : zkd 22 = (1, 16) := rfl
theorem zk_23 : zkd 23 = (1, 16) := rfl
theorem zk_24 : zkd 24 = (1, 16) := rfl
theorem zk_25 : zkd 25 = (1, 16) := rfl
theorem zk_26 : zkd 26 = (1, 400) := rfl
theorem zk_27 : zkd 27 = (1, 11) := rfl
theorem zk_28 : zkd 28 = (1, 64) := rfl
theorem zk_29 : zkd 29 = (0, 8) := rfl
theorem zp_29_0 : zpt 29 0 = some 30 := rfl
theorem zp_29_1 : zpt 29 1 = some 31 := rfl
theorem zp_29_2 : zpt 29 2 = some 32 := rfl
theorem zp_29_3 : zpt 29 3 = some 33 := rfl
theorem zk_30 : zkd 30 = (1, 16) := rfl
theorem zk_31 : zkd 31 = (1, 16) := rfl
theorem zk_32 : zkd 32 = (1, 16) := rfl
theorem zk_33 : zkd 33 = (1, 16) := rfl
theorem zk_34 : zkd 34 = (0, 8) := rfl
theorem zp_34_0 : zpt 34 0 = some 35 := rfl
theorem zp_34_1 : zpt 34 1 = some 36 := rfl
theorem zp_34_2 : zpt 34 2 = some 37 := rfl
theorem zp_34_3 : zpt 34 3 = some 38 := rfl
theorem zk_35 : zkd 35 = (1, 16) := rfl
theorem zk_36 : zkd 36 = (1, 16) := rfl
theorem zk_37 : zkd 37 = (1, 16) := rfl
theorem zk_38 : zkd 38 = (1, 16) := rfl
theorem zk_39 : zkd 39 = (0, 8) := rfl
theorem zp_39_0 : zpt 39 0 = some 40 := rfl
theorem zp_39_1 : zpt 39 1 = some 41 := rfl
theorem zp_39_2 : zpt 39 2 = some 42 := rfl
theorem zp_39_3 : zpt 39 3 = some 43 := rfl
theorem zk_40 : zkd 40 = (1, 16) := rfl
theorem zk_41 : zkd 41 = (1, 16) := rfl
theorem zk_42 : zkd 42 = (1, 16) := rfl
theorem zk_43 : zkd 43 = (1, 16) := rfl
theorem zk_44 : zkd 44 = (0, 7) := rfl
theorem zp_44_0 : zpt 44 0 = some 45 := rfl
theorem zk_45 : zkd 45 = (1, 12) := rfl
theorem zk_46 : zkd 46 = (0, 7) := rfl
theorem zp_46_0 : zpt 46 0 = some 47 := rfl
theorem zk_47 : zkd 47 = (1, 12) := rfl
theorem zk_48 : zkd 48 = (1, 3) := rfl
theorem zk_49 : zkd 49 = (1, 3) := rfl
theorem zk_50 : zkd 50 = (0, 7) := rfl
theorem zp_50_0 : zpt 50 0 = some 51 := rfl
theorem zk_51 : zkd 51 = (1, 12) := rfl
theorem zk_52 : zkd 52 = (0, 7) := rfl
theorem zp_52_0 : zpt 52 0 = some 53 := rfl
theorem zk_53 : zkd 53 = (1, 12) := rfl
theorem zk_54 : zkd 54 = (0, 7) := rfl
theorem zp_54_0 : zpt 54 0 = some 55 := rfl
theorem zk_55 : zkd 55 = (1, 12) := rfl
theorem zk_56 : zkd 56 = (0, 7) := rfl
theorem zp_56_0 : zpt 56 0 = some 57 := rfl
theorem zk_57 : zkd 57 = (1, 12) := rfl
theorem zk_58 : zkd 58 = (0, 7) := rfl
theorem zp_58_0 : zpt 58 0 = some 59 := rfl
theorem zk_59 : zkd 59 = (1, 12) := rfl
theorem zk_60 : zkd 60 = (0, 2) := rfl
theorem zp_60_0 : zpt 60 0 = some 61 := rfl
theorem zp_60_1 : zpt 60 1 = some 74 := rfl
theorem zp_60_2 : zpt 60 2 = some 79 := rfl
theorem zp_60_3 : zpt 60 3 = some 88 := rfl
theorem zp_60_4 : zpt 60 4 = some 93 := rfl
theorem zp_60_5 : zpt 60 5 = some 98 := rfl
theorem zp_60_6 : zpt 60 6 = some 103 := rfl
theorem zp_60_7 : zpt 60 7 = some 105 := rfl
theorem zp_60_8 : zpt 60 8 = some 107 := rfl
theorem zp_60_9 : zpt 60 9 = some 108 := rfl
theorem zp_60_10 : zpt 60 10 = some 109 := rfl
theorem zp_60_11 : zpt 60 11 = some 111 := rfl
theorem zp_60_12 : zpt 60 12 = some 113 := rfl
theorem zp_60_13 : zpt 60 13 = some 115 := rfl
theorem zp_60_14 : zpt 60 14 = some 117 := rfl
theorem zk_61 : zkd 61 = (0, 3) := rfl
theorem zp_61_6 : zpt 61 6 = some 62 := rfl
theorem zp_61_7 : zpt 61 7 = some 63 := rfl
theorem zp_61_8 : zpt 61 8 = some 64 := rfl
theorem zp_61_9 : zpt 61 9 = some 65 := rfl
theorem zp_61_10 : zpt 61 10 = some 66 := rfl
theorem zp_61_11 : zpt 61 11 = some 67 := rfl
theorem zp_61_12 : zpt 61 12 = some 68 := rfl
theorem zp_61_13 : zpt 61 13 = some 69 := rfl
theorem zp_61_14 : zpt 61 14 = some 70 := rfl
theorem zp_61_15 : zpt 61 15 = some 71 := rfl
theorem zp_61_16 : zpt 61 16 = some 72 := rfl
theorem zp_61_17 : zpt 61 17 = some 73 := rfl
theorem zk_62 : zkd 62 = (1, 14) := rfl
theorem zk_63 : zkd 63 = (1, 14) := rfl
theorem zk_64 : zkd 64 = (1, 14) := rfl
theorem zk_65 : zkd 65 = (1, 14) := rfl
theorem zk_66 : zkd 66 = (1, 10) := rfl
theorem zk_67 : zkd 67 = (1, 10) := rfl
theorem zk_68 : zkd 68 = (1, 10) := rfl
theorem zk_69 : zkd 69 = (1, 10) := rfl
theorem zk_70 : zkd 70 = (1, 10) := rfl
theorem zk_71 : zkd 71 = (1, 12) := rfl
theorem zk_72 : zkd 72 = (1, 12) := rfl
theorem zk_73 : zkd 73 = (1, 12) := rfl
theorem zk_74 : zkd 74 = (0, 0) := rfl
theorem zp_74_0 : zpt 74 0 = some 75 := rfl
theorem zp_74_1 : zpt 74 1 = some 76 := rfl
theorem zp_74_2 : zpt 74 2 = some 77 := rfl
theorem zp_74_3 : zpt 74 3 = some 78 := rfl
theorem zk_75 : zkd 75 = (1, 150) := rfl
theorem zk_76 : zkd 76 = (1, 150) := rfl
theorem zk_77 : zkd 77 = (1, 150) := rfl
theorem zk_78 : zkd 78 = (1, 150) := rfl
theorem zk_79 : zkd 79 = (0, 4) := rfl
theorem zp_79_0 : zpt 79 0 = some 80 := rfl
theorem zp_79_1 : zpt 79 1 = some 85 := rfl
theorem zp_79_3 : zpt 79 3 = some 86 := rfl
theorem zp_79_4 : zpt 79 4 = some 87 := rfl
theorem zk_80 : zkd 80 = (0, 8) := rfl
theorem zp_80_0 : zpt 80 0 = some 81 := rfl
theorem zp_80_1 : zpt 80 1 = some 82 := rfl
theorem zp_80_2 : zpt 80 2 = some 83 := rfl
theorem zp_80_3 : zpt 80 3 = some 84 := rfl
theorem zk_81 : zkd 81 = (1, 16) := rfl
theorem zk_82 : zkd 82 = (1, 16) := rfl
theorem zk_83 : zkd 83 = (1, 16) := rfl
theorem zk_84 : zkd 84 = (1, 16) := rfl
theorem zk_85 : zkd 85 = (1, 400) := rfl
theorem zk_86 : zkd 86 = (1, 11) := rfl
theorem zk_87 : zkd 87 = (1, 64) := rfl
theorem zk_88 : zkd 88 = (0, 8) := rfl
theorem zp_88_0 : zpt 88 0 = some 89 := rfl
theorem zp_88_1 : zpt 88 1 = some 90 := rfl
theorem zp_88_2 : zpt 88 2 = some 91 := rfl
theorem zp_88_3 : zpt 88 3 = some 92 := rfl
theorem zk_89 : zkd 89 = (1, 16) := rfl
theorem zk_90 : zkd 90 = (1, 16) := rfl
theorem zk_91 : zkd 91 = (1, 16) := rfl
theorem zk_92 : zkd 92 = (1, 16) := rfl
theorem zk_93 : zkd 93 = (0, 8) := rfl
theorem zp_93_0 : zpt 93 0 = some 94 := rfl
theorem zp_93_1 : zpt 93 1 = some 95 := rfl
theorem zp_93_2 : zpt 93 2 = some 96 := rfl
theorem zp_93_3 : zpt 93 3 = some 97 := rfl
theorem zk_94 : zkd 94 = (1, 16) := rfl
theorem zk_95 : zkd 95 = (1, 16) := rfl
theorem zk_96 : zkd 96 = (1, 16) := rfl
theorem zk_97 : zkd 97 = (1, 16) := rfl
theorem zk_98 : zkd 98 = (0, 8) := rfl
theorem zp_98_0 : zpt 98 0 = some 99 := rfl
theorem zp_98_1 : zpt 98 1 = some 100 := rfl
theorem zp_98_2 : zpt 98 2 = some 101 := rfl
theorem zp_98_3 : zpt 98 3 = some 102 := rfl
theorem zk_99 : zkd 99 = (1, 16) := rfl
theorem zk_100 : zkd 100 = (1, 16) := rfl
theorem zk_101 : zkd 101 = (1, 16) := rfl
theorem zk_102 : zkd 102 = (1, 16) := rfl
theorem zk_103 : zkd 103 = (0, 7) := rfl
theorem zp_103_0 : zpt 103 0 = some 104 := rfl
theorem zk_104 : zkd 104 = (1, 12) := rfl
theorem zk_105 : zkd 105 = (0, 7) := rfl
theorem zp_105_0 : zpt 105 0 = some 106 := rfl
theorem zk_106 : zkd 106 = (1, 12) := rfl
theorem zk_107 : zkd 107 = (1, 3) := rfl
theorem zk_108 : zkd 108 = (1, 3) := rfl
theorem zk_109 : zkd 109 = (0, 7) := rfl
theorem zp_109_0 : zpt 109 0 = some 110 := rfl
theorem zk_110 : zkd 110 = (1, 12) := rfl
theorem zk_111 : zkd 111 = (0, 7) := rfl
theorem zp_111_0 : zpt 111 0 = some 112 := rfl
theorem zk_112 : zkd 112 = (1, 12) := rfl
theorem zk_113 : zkd 113 = (0, 7) := rfl
theorem zp_113_0 : zpt 113 0 = some 114 := rfl
theorem zk_114 : zkd 114 = (1, 12) := rfl
theorem zk_115 : zkd 115 = (0, 7) := rfl
theorem zp_115_0 : zpt 115 0 = some 116 := rfl
theorem zk_116 : zkd 116 = (1, 12) := rfl
theorem zk_117 : zkd 117 = (0, 7) := rfl
theorem zp_117_0 : zpt 117 0 = some 118 := rfl
theorem zk_118 : zkd 118 = (1, 12) := rfl
theorem zk_119 : zkd 119 = (0, 5) := rfl
theorem zp_119_0 : zpt 119 0 = some 120 := rfl
theorem zp_119_1 : zpt 119 1 = some 199 := rfl
theorem zk_120 : zkd 120 = (2, 6) := rfl
theorem zk_121 : zkd 121 = (0, 3) := rfl
theorem zp_121_6 : zpt 121 6 = some 122 := rfl
theorem zp_121_7 : zpt 121 7 = some 123 := rfl
theorem zp_121_8 : zpt 121 8 = some 124 := rfl
theorem zp_121_9 : zpt 121 9 = some 125 := rfl
theorem zp_121_10 : zpt 121 10 = some 126 := rfl
theorem zp_121_11 : zpt 121 11 = some 127 := rfl
theorem zp_121_12 : zpt 121 12 = some 128 := rfl
theorem zp_121_13 : zpt 121 13 = some 129 := rfl
theorem zp_121_14 : zpt 121 14 = some 130 := rfl
theorem zp_121_15 : zpt 121 15 = some 131 := rfl
theorem zp_121_16 : zpt 121 16 = some 132 := rfl
theorem zp_121_17 : zpt 121 17 = some 133 := rfl
theorem zk_122 : zkd 122 = (1, 14) := rfl
theorem zk_123 : zkd 123 = (1, 14) := rfl
theorem zk_124 : zkd 124 = (1, 14) := rfl
theorem zk_125 : zkd 125 = (1, 14) := rfl
theorem zk_126 : zkd 126 = (1, 10) := rfl
theorem zk_127 : zkd 127 = (1, 10) := rfl
theorem zk_128 : zkd 128 = (1, 10) := rfl
theorem zk_129 : zkd 129 = (1, 10) := rfl
theorem zk_130 : zkd 130 = (1, 10) := rfl
theorem zk_131 : zkd 131 = (1, 12) := rfl
theorem zk_132 : zkd 132 = (1, 12) := rfl
theorem zk_133 : zkd 133 = (1, 12) := rfl
theorem zk_134 : zkd 134 = (0, 3) := rfl
theorem zp_134_6 : zpt 134 6 = some 135 := rfl
theorem zp_134_7 : zpt 134 7 = some 136 := rfl
theorem zp_134_8 : zpt 134 8 = some 137 := rfl
theorem zp_134_9 : zpt 134 9 = some 138 := rfl
theorem zp_134_10 : zpt 134 10 = some 139 := rfl
theorem zp_134_11 : zpt 134 11 = some 140 := rfl
theorem zp_134_12 : zpt 134 12 = some 141 := rfl
theorem zp_134_13 : zpt 134 13 = some 142 := rfl
theorem zp_134_14 : zpt 134 14 = some 143 := rfl
theorem zp_134_15 : zpt 134 15 = some 144 := rfl
theorem zp_134_16 : zpt 134 16 = some 145 := rfl
theorem zp_134_17 : zpt 134 17 = some 146 := rfl
theorem zk_135 : zkd 135 = (1, 14) := rfl
theorem zk_136 : zkd 136 = (1, 14) := rfl
theorem zk_137 : zkd 137 = (1, 14) := rfl
theorem zk_138 : zkd 138 = (1, 14) := rfl
theorem zk_139 : zkd 139 = (1, 10) := rfl
theorem zk_140 : zkd 140 = (1, 10) := rfl
theorem zk_141 : zkd 141 = (1, 10) := rfl
theorem zk_142 : zkd 142 = (1, 10) := rfl
theorem zk_143 : zkd 143 = (1, 10) := rfl
theorem zk_144 : zkd 144 = (1, 12) := rfl
theorem zk_145 : zkd 145 = (1, 12) := rfl
theorem zk_146 : zkd 146 = (1, 12) := rfl
theorem zk_147 : zkd 147 = (0, 3) := rfl
theorem zp_147_6 : zpt 147 6 = some 148 := rfl
theorem zp_147_7 : zpt 147 7 = some 149 := rfl
theorem zp_147_8 : zpt 147 8 = some 150 := rfl
theorem zp_147_9 : zpt 147 9 = some 151 := rfl
theorem zp_147_10 : zpt 147 10 = some 152 := rfl
theorem zp_147_11 : zpt 147 11 = some 153 := rfl
theorem zp_147_12 : zpt 147 12 = some 154 := rfl
theorem zp_147_13 : zpt 147 13 = some 155 := rfl
theorem zp_147_14 : zpt 147 14 = some 156 := rfl
theorem zp_147_15 : zpt 147 15 = some 157 := rfl
theorem zp_147_16 : zpt 147 16 = some 158 := rfl
theorem zp_147_17 : zpt 147 17 = some 159 := rfl
theorem zk_148 : zkd 148 = (1, 14) := rfl
theorem zk_149 : zkd 149 = (1, 14) := rfl
theorem zk_150 : zkd 150 = (1, 14) := rfl
theorem zk_151 : zkd 151 = (1, 14) := rfl
theorem zk_152 : zkd 152 = (1, 10) := rfl
theorem zk_153 : zkd 153 = (1, 10) := rfl
theorem zk_154 : zkd 154 = (1, 10) := rfl
theorem zk_155 : zkd 155 = (1, 10) := rfl
theorem zk_156 : zkd 156 = (1, 10) := rfl
theorem zk_157 : zkd 157 = (1, 12) := rfl
theorem zk_158 : zkd 158 = (1, 12) := rfl
theorem zk_159 : zkd 159 = (1, 12) := rfl
theorem zk_160 : zkd 160 = (0, 3) := rfl
theorem zp_160_6 : zpt 160 6 = some 161 := rfl
theorem zp_160_7 : zpt 160 7 = some 162 := rfl
theorem zp_160_8 : zpt 160 8 = some 163 := rfl
theorem zp_160_9 : zpt 160 9 = some 164 := rfl
theorem zp_160_10 : zpt 160 10 = some 165 := rfl
theorem zp_160_11 : zpt 160 11 = some 166 := rfl
theorem zp_160_12 : zpt 160 12 = some 167 := rfl
theorem zp_160_13 : zpt 160 13 = some 168 := rfl
theorem zp_160_14 : zpt 160 14 = some 169 := rfl
theorem zp_160_15 : zpt 160 15 = some 170 := rfl
theorem zp_160_16 : zpt 160 16 = some 171 := rfl
theorem zp_160_17 : zpt 160 17 = some 172 := rfl
theorem zk_161 : zkd 161 = (1, 14) := rfl
theorem zk_162 : zkd 162 = (1, 14) := rfl
theorem zk_163 : zkd 163 = (1, 14) := rfl
theorem zk_164 : zkd 164 = (1, 14) := rfl
theorem zk_165 : zkd 165 = (1, 10) := rfl
theorem zk_166 : zkd 166 = (1, 10) := rfl
theorem zk_167 : zkd 167 = (1, 10) := rfl
theorem zk_168 : zkd 168 = (1, 10) := rfl
theorem zk_169 : zkd 169 = (1, 10) := rfl
theorem zk_170 : zkd 170 = (1, 12) := rfl
theorem zk_171 : zkd 171 = (1, 12) := rfl
theorem zk_172 : zkd 172 = (1, 12) := rfl
theorem zk_173 : zkd 173 = (0, 3) := rfl
theorem zp_173_6 : zpt 173 6 = some 174 := rfl
theorem zp_173_7 : zpt 173 7 = some 175 := rfl
theorem zp_173_8 : zpt 173 8 = some 176 := rfl
theorem zp_173_9 : zpt 173 9 = some 177 := rfl
theorem zp_173_10 : zpt 173 10 = some 178 := rfl
theorem zp_173_11 : zpt 173 11 = some 179 := rfl
theorem zp_173_12 : zpt 173 12 = some 180 := rfl
theorem zp_173_13 : zpt 173 13 = some 181 := rfl
theorem zp_173_14 : zpt 173 14 = some 182 := rfl
theorem zp_173_15 : zpt 173 15 = some 183 := rfl
theorem zp_173_16 : zpt 173 16 = some 184 := rfl
theorem zp_173_17 : zpt 173 17 = some 185 := rfl
theorem zk_174 : zkd 174 = (1, 14) := rfl
theorem zk_175 : zkd 175 = (1, 14) := rfl
theorem zk_176 : zkd 176 = (1, 14) := rfl
theorem zk_177 : zkd 177 = (1, 14) := rfl
theorem zk_178 : zkd 178 = (1, 10) := rfl
theorem zk_179 : zkd 179 = (1, 10) := rfl
theorem zk_180 : zkd 180 = (1, 10) := rfl
theorem zk_181 : zkd 181 = (1, 10) := rfl
theorem zk_182 : zkd 182 = (1, 10) := rfl
theorem zk_183 : zkd 183 = (1, 12) := rfl
theorem zk_184 : zkd 184 = (1, 12) := rfl
theorem zk_185 : zkd 185 = (1, 12) := rfl
theorem zk_186 : zkd 186 = (0, 3) := rfl
theorem zp_186_6 : zpt 186 6 = some 187 := rfl
theorem zp_186_7 : zpt 186 7 = some 188 := rfl
theorem zp_186_8 : zpt 186 8 = some 189 := rfl
theorem zp_186_9 : zpt 186 9 = some 190 := rfl
theorem zp_186_10 : zpt 186 10 = some 191 := rfl
theorem zp_186_11 : zpt 186 11 = some 192 := rfl
theorem zp_186_12 : zpt 186 12 = some 193 := rfl
theorem zp_186_13 : zpt 186 13 = some 194 := rfl
theorem zp_186_14 : zpt 186 14 = some 195 := rfl
theorem zp_186_15 : zpt 186 15 = some 196 := rfl
theorem zp_186_16 : zpt 186 16 = some 197 := rfl
theorem zp_186_17 : zpt 186 17 = some 198 := rfl
theorem zk_187 : zkd 187 = (1, 14) := rfl
theorem zk_188 : zkd 188 = (1, 14) := rfl
theorem zk_189 : zkd 189 = (1, 14) := rfl
theorem zk_190 : zkd 190 = (1, 14) := rfl
theorem zk_191 : zkd 191 = (1, 10) := rfl
theorem zk_192 : zkd 192 = (1, 10) := rfl
theorem zk_193 : zkd 193 = (1, 10) := rfl
theorem zk_194 : zkd 194 = (1, 10) := rfl
theorem zk_195 : zkd 195 = (1, 10) := rfl
theorem zk_196 : zkd 196 = (1, 12) := rfl
theorem zk_197 : zkd 197 = (1, 12) := rfl
theorem zk_198 : zkd 198 = (1, 12) := rfl
theorem zk_199 : zkd 199 = (1, 6) := rfl
theorem zk_200 : zkd 200 = (0, 3) := rfl
theorem zp_200_6 : zpt 200 6 = some 201 := rfl
theorem zp_200_7 : zpt 200 7 = some 202 := rfl
theorem zp_200_8 : zpt 200 8 = some 203 := rfl
theorem zp_200_9 : zpt 200 9 = some 204 := rfl
theorem zp_200_10 : zpt 200 10 = some 205 := rfl
theorem zp_200_11 : zpt 200 11 = some 206 := rfl
theorem zp_200_12 : zpt 200 12 = some 207 := rfl
theorem zp_200_13 : zpt 200 13 = some 208 := rfl
theorem zp_200_14 : zpt 200 14 = some 209 := rfl
theorem zp_200_15 : zpt 200 15 = some 210 := rfl
theorem zp_200_16 : zpt 200 16 = some 211 := rfl
theorem zp_200_17 : zpt 200 17 = some 212 := rfl
theorem zk_201 : zkd 201 = (1, 14) := rfl
theorem zk_202 : zkd 202 = (1, 14) := rfl
theorem zk_203 : zkd 203 = (1, 14) := rfl
theorem zk_204 : zkd 204 = (1, 14) := rfl
theorem zk_205 : zkd 205 = (1, 10) := rfl
theorem zk_206 : zkd 206 = (1, 10) := rfl
theorem zk_207 : zkd 207 = (1, 10) := rfl
theorem zk_208 : zkd 208 = (1, 10) := rfl
theorem zk_209 : zkd 209 = (1, 10) := rfl
theorem zk_210 : zkd 210 = (1, 12) := rfl
theorem zk_211 : zkd 211 = (1, 12) := rfl
theorem zk_212 : zkd 212 = (1, 12) := rfl
theorem zk_213 : zkd 213 = (0, 6) := rfl
theorem zp_213_0 : zpt 213 0 = some 214 := rfl
theorem zp_213_2 : zpt 213 2 = some 215 := rfl
theorem zp_213_3 : zpt 213 3 = some 216 := rfl
theorem zp_213_9 : zpt 213 9 = some 217 := rfl
theorem zp_213_10 : zpt 213 10 = some 226 := rfl
theorem zk_214 : zkd 214 = (1, 400) := rfl
theorem zk_215 : zkd 215 = (1, 400) := rfl
theorem zk_216 : zkd 216 = (1, 400) := rfl
theorem zk_217 : zkd 217 = (0, 4) := rfl
theorem zp_217_0 : zpt 217 0 = some 218 := rfl
theorem zp_217_1 : zpt 217 1 = some 223 := rfl
theorem zp_217_3 : zpt 217 3 = some 224 := rfl
theorem zp_217_4 : zpt 217 4 = some 225 := rfl
theorem zk_218 : zkd 218 = (0, 8) := rfl
theorem zp_218_0 : zpt 218 0 = some 219 := rfl
theorem zp_218_1 : zpt 218 1 = some 220 := rfl
theorem zp_218_2 : zpt 218 2 = some 221 := rfl
theorem zp_218_3 : zpt 218 3 = some 222 := rfl
theorem zk_219 : zkd 219 = (1, 16) := rfl
theorem zk_220 : zkd 220 = (1, 16) := rfl
theorem zk_221 : zkd 221 = (1, 16) := rfl
theorem zk_222 : zkd 222 = (1, 16) := rfl
theorem zk_223 : zkd 223 = (1, 400) := rfl
theorem zk_224 : zkd 224 = (1, 11) := rfl
theorem zk_225 : zkd 225 = (1, 64) := rfl
theorem zk_226 : zkd 226 = (0, 8) := rfl
theorem zp_226_0 : zpt 226 0 = some 227 := rfl
theorem zp_226_1 : zpt 226 1 = some 228 := rfl
theorem zp_226_2 : zpt 226 2 = some 229 := rfl
theorem zp_226_3 : zpt 226 3 = some 230 := rfl
theorem zk_227 : zkd 227 = (1, 16) := rfl
theorem zk_228 : zkd 228 = (1, 16) := rfl
theorem zk_229 : zkd 229 = (1, 16) := rfl
theorem zk_230 : zkd 230 = (1, 16) := rfl
theorem zk_231 : zkd 231 = (0, 9) := rfl
theorem zp_231_0 : zpt 231 0 = some 232 := rfl
theorem zp_231_1 : zpt 231 1 = some 233 := rfl
theorem zp_231_2 : zpt 231 2 = some 234 := rfl
theorem zp_231_3 : zpt 231 3 = some 235 := rfl
theorem zp_231_4 : zpt 231 4 = some 236 := rfl
theorem zp_231_5 : zpt 231 5 = some 237 := rfl
theorem zk_232 : zkd 232 = (1, 13) := rfl
theorem zk_233 : zkd 233 = (1, 13) := rfl
theorem zk_234 : zkd 234 = (1, 13) := rfl
theorem zk_235 : zkd 235 = (1, 1001) := rfl
theorem zk_236 : zkd 236 = (1, 40) := rfl
theorem zk_237 : zkd 237 = (1, 81) := rfl
theorem zk_238 : zkd 238 = (0, 1) := rfl
theorem zp_238_0 : zpt 238 0 = some 239 := rfl
theorem zk_239 : zkd 239 = (1, 4096) := rfl
theorem zk_240 : zkd 240 = (0, 11) := rfl
theorem zp_240_1 : zpt 240 1 = some 241 := rfl
theorem zp_240_2 : zpt 240 2 = some 242 := rfl
theorem zp_240_4 : zpt 240 4 = some 243 := rfl
theorem zp_240_9 : zpt 240 9 = some 244 := rfl
theorem zp_240_10 : zpt 240 10 = some 245 := rfl
theorem zp_240_11 : zpt 240 11 = some 246 := rfl
theorem zp_240_12 : zpt 240 12 = some 247 := rfl
theorem zp_240_13 : zpt 240 13 = some 248 := rfl
theorem zp_240_19 : zpt 240 19 = some 249 := rfl
theorem zp_240_20 : zpt 240 20 = some 250 := rfl
theorem zp_240_21 : zpt 240 21 = some 251 := rfl
theorem zp_240_22 : zpt 240 22 = some 252 := rfl
theorem zp_240_23 : zpt 240 23 = some 253 := rfl
theorem zp_240_24 : zpt 240 24 = some 254 := rfl
theorem zp_240_25 : zpt 240 25 = some 255 := rfl
theorem zp_240_26 : zpt 240 26 = some 256 := rfl
theorem zp_240_30 : zpt 240 30 = some 257 := rfl
theorem zp_240_37 : zpt 240 37 = some 258 := rfl
theorem zp_240_39 : zpt 240 39 = some 259 := rfl
theorem zp_240_40 : zpt 240 40 = some 260 := rfl
theorem zp_240_42 : zpt 240 42 = some 261 := rfl
theorem zp_240_43 : zpt 240 43 = some 262 := rfl
theorem zp_240_44 : zpt 240 44 = some 263 := rfl
theorem zp_240_45 : zpt 240 45 = some 264 := rfl
theorem zp_240_46 : zpt 240 46 = some 265 := rfl
theorem zp_240_48 : zpt 240 48 = some 266 := rfl
theorem zp_240_49 : zpt 240 49 = some 267 := rfl
theorem zp_240_50 : zpt 240 50 = some 268 := rfl
theorem zp_240_52 : zpt 240 52 = some 269 := rfl
theorem zp_240_53 : zpt 240 53 = some 270 := rfl
theorem zp_240_54 : zpt 240 54 = some 271 := rfl
theorem zp_240_55 : zpt 240 55 = some 272 := rfl
theorem zp_240_56 : zpt 240 56 = some 273 := rfl
theorem zp_240_60 : zpt 240 60 = some 274 := rfl
theorem zp_240_61 : zpt 240 61 = some 275 := rfl
theorem zp_240_63 : zpt 240 63 = some 276 := rfl
theorem zp_240_65 : zpt 240 65 = some 277 := rfl
theorem zp_240_67 : zpt 240 67 = some 278 := rfl
theorem zp_240_68 : zpt 240 68 = some 279 := rfl
theorem zp_240_70 : zpt 240 70 = some 280 := rfl
theorem zp_240_71 : zpt 240 71 = some 281 := rfl
theorem zp_240_75 : zpt 240 75 = some 282 := rfl
theorem zk_241 : zkd 241 = (1, 110) := rfl
theorem zk_242 : zkd 242 = (1, 660) := rfl
theorem zk_243 : zkd 243 = (1, 110) := rfl
theorem zk_244 : zkd 244 = (1, 14) := rfl
theorem zk_245 : zkd 245 = (1, 10) := rfl
theorem zk_246 : zkd 246 = (1, 12) := rfl
theorem zk_247 : zkd 247 = (1, 600) := rfl
theorem zk_248 : zkd 248 = (1, 400) := rfl
theorem zk_249 : zkd 249 = (1, 138) := rfl
theorem zk_250 : zkd 250 = (1, 2) := rfl
theorem zk_251 : zkd 251 = (1, 48) := rfl
theorem zk_252 : zkd 252 = (1, 48) := rfl
theorem zk_253 : zkd 253 = (1, 48) := rfl
theorem zk_254 : zkd 254 = (1, 48) := rfl
theorem zk_255 : zkd 255 = (1, 1200) := rfl
theorem zk_256 : zkd 256 = (1, 1200) := rfl
theorem zk_257 : zkd 257 = (1, 40) := rfl
theorem zk_258 : zkd 258 = (1, 128) := rfl
theorem zk_259 : zkd 259 = (1, 16) := rfl
theorem zk_260 : zkd 260 = (1, 16) := rfl
theorem zk_261 : zkd 261 = (1, 24) := rfl
theorem zk_262 : zkd 262 = (1, 11) := rfl
theorem zk_263 : zkd 263 = (1, 420) := rfl
theorem zk_264 : zkd 264 = (1, 12) := rfl
theorem zk_265 : zkd 265 = (1, 144) := rfl
theorem zk_266 : zkd 266 = (1, 10) := rfl
theorem zk_267 : zkd 267 = (1, 11) := rfl
theorem zk_268 : zkd 268 = (1, 11) := rfl
theorem zk_269 : zkd 269 = (1, 4) := rfl
theorem zk_270 : zkd 270 = (1, 2001) := rfl
theorem zk_271 : zkd 271 = (1, 12) := rfl
theorem zk_272 : zkd 272 = (1, 3) := rfl
theorem zk_273 : zkd 273 = (1, 3) := rfl
theorem zk_274 : zkd 274 = (1, 9) := rfl
theorem zk_275 : zkd 275 = (1, 81) := rfl
theorem zk_276 : zkd 276 = (1, 12) := rfl
theorem zk_277 : zkd 277 = (1, 10) := rfl
theorem zk_278 : zkd 278 = (1, 8) := rfl
theorem zk_279 : zkd 279 = (1, 40) := rfl
theorem zk_280 : zkd 280 = (1, 6) := rfl
theorem zk_281 : zkd 281 = (1, 4096) := rfl
theorem zk_282 : zkd 282 = (1, 2200) := rfl
theorem zk_b : zkd 1000001 = (9, 0) := by decide +kernel
def zRow (a : Nat) : Prop := zkd a = (0, 7) ∧ zpt a 0 = some (a + 1) ∧ zkd (a + 1) = (1, 12)
def zText (a : Nat) : Prop := zkd a = (0, 8) ∧ (zpt a 0 = some (a + 1) ∧ zkd (a + 1) = (1, 16)) ∧ (zpt a 1 = some (a + 2) ∧ zkd (a + 2) = (1, 16)) ∧ (zpt a 2 = some (a + 3) ∧ zkd (a + 3) = (1, 16)) ∧ (zpt a 3 = some (a + 4) ∧ zkd (a + 4) = (1, 16))
def zFirm (a : Nat) : Prop := zkd a = (0, 3) ∧ (zpt a 6 = some (a + 1) ∧ zkd (a + 1) = (1, 14)) ∧ (zpt a 7 = some (a + 2) ∧ zkd (a + 2) = (1, 14)) ∧ (zpt a 8 = some (a + 3) ∧ zkd (a + 3) = (1, 14)) ∧ (zpt a 9 = some (a + 4) ∧ zkd (a + 4) = (1, 14)) ∧ (zpt a 10 = some (a + 5) ∧ zkd (a + 5) = (1, 10)) ∧ (zpt a 11 = some (a + 6) ∧ zkd (a + 6) = (1, 10)) ∧ (zpt a 12 = some (a + 7) ∧ zkd (a + 7) = (1, 10)) ∧ (zpt a 13 = some (a + 8) ∧ zkd (a + 8) = (1, 10)) ∧ (zpt a 14 = some (a + 9) ∧ zkd (a + 9) = (1, 10)) ∧ (zpt a 15 = some (a + 10) ∧ zkd (a + 10) = (1, 12)) ∧ (zpt a 16 = some (a + 11) ∧ zkd (a + 11) = (1, 12)) ∧ (zpt a 17 = some (a + 12) ∧ zkd (a + 12) = (1, 12))
theorem zs_sipush {rt : Option FieldType} {C : Nat → List zV → zI → zO} {K : zK} {i : Nat} {L : List (Option zV)} {r : List zV} {I : zI} {v : Int} : zs rt C K i L r I (.sipush v) = K (i + 1) L (.inl v :: r) I := rfl
theorem zs_iload {rt : Option FieldType} {C : Nat → List zV → zI → zO} {K : zK} {i : Nat} {L : List (Option zV)} {r : List zV} {I : zI} {k : Nat} : zs rt C K i L r I (.iload k) = zl L k fun x => K (i + 1) L (.inl x :: r) I := rfl
theorem zs_aload {rt : Option FieldType} {C : Nat → List zV → zI → zO} {K : zK} {i : Nat} {L : List (Option zV)} {r : List zV} {I : zI} {k : Nat} : zs rt C K i L r I (.aload k) = zlr L k fun x => K (i + 1) L (.inr x :: r) I := rfl
theorem zs_istore {rt : Option FieldType} {C : Nat → List zV → zI → zO} {K : zK} {i : Nat} {L : List (Option zV)} {r : List zV} {I : zI} {k : Nat} {x : Int} : zs rt C K i L (.inl x :: r) I (.istore k) = K (i + 1) (zsL L k (.inl x)) r I := rfl
theorem zs_astore {rt : Option FieldType} {C : Nat → List zV → zI → zO} {K : zK} {i : Nat} {L : List (Option zV)} {r : List zV} {I : zI} {k : Nat} {x : Option Nat} : zs rt C K i L (.inr x :: r) I (.astore k) = K (i + 1) (zsL L k (.inr x)) r I := rfl
theorem zs_iinc {rt : Option FieldType} {C : Nat → List zV → zI → zO} {K : zK} {i : Nat} {L : List (Option zV)} {r : List zV} {I : zI} {k : Nat} {w : Int} : zs rt C K i L r I (.iinc k w) = zl L k fun x => K (i + 1) (zsL L k (.inl (wr (x + w)))) r I := rfl
theorem zs_iadd {rt : Option FieldType} {C : Nat → List zV → zI → zO} {K : zK} {i : Nat} {L : List (Option zV)} {r : List zV} {I : zI} {x y : Int} : zs rt C K i L (.inl y :: .inl x :: r) I .iadd = K (i + 1) L (.inl (wr (x + y)) :: r) I := rfl
theorem zs_isub {rt : Option FieldType} {C : Nat → List zV → zI → zO} {K : zK} {i : Nat} {L : List (Option zV)} {r : List zV} {I : zI} {x y : Int} : zs rt C K i L (.inl y :: .inl x :: r) I .isub = K (i + 1) L (.inl (wr (x - y)) :: r) I := rfl
theorem zs_imul {rt : Option FieldType} {C : Nat → List zV → zI → zO} {K : zK} {i : Nat} {L : List (Option zV)} {r : List zV} {I : zI} {x y : Int} : zs rt C K i L (.inl y :: .inl x :: r) I .imul = K (i + 1) L (.inl (wr (x * y)) :: r) I := rfl
theorem zs_iand {rt : Option FieldType} {C : Nat → List zV → zI → zO} {K : zK} {i : Nat} {L : List (Option zV)} {r : List zV} {I : zI} {x y : Int} : zs rt C K i L (.inl y :: .inl x :: r) I .iand = K (i + 1) L (.inl (zand x y) :: r) I := rfl
theorem zs_ior {rt : Option FieldType} {C : Nat → List zV → zI → zO} {K : zK} {i : Nat} {L : List (Option zV)} {r : List zV} {I : zI} {x y : Int} : zs rt C K i L (.inl y :: .inl x :: r) I .ior = K (i + 1) L (.inl (zor x y) :: r) I := rfl
theorem zs_ixor {rt : Option FieldType} {C : Nat → List zV → zI → zO} {K : zK} {i : Nat} {L : List (Option zV)} {r : List zV} {I : zI} {x y : Int} : zs rt C K i L (.inl y :: .inl x :: r) I .ixor = K (i + 1) L (.inl (zxor x y) :: r) I := rfl
theorem zs_ishl {rt : Option FieldType} {C : Nat → List zV → zI → zO} {K : zK} {i : Nat} {L : List (Option zV)} {r : List zV} {I : zI} {x y : Int} : zs rt C K i L (.inl y :: .inl x :: r) I .ishl = K (i + 1) L (.inl (zshl x y) :: r) I := rfl
theorem zs_ishr {rt : Option FieldType} {C : Nat → List zV → zI → zO} {K : zK} {i : Nat} {L : List (Option zV)} {r : List zV} {I : zI} {x y : Int} : zs rt C K i L (.inl y :: .inl x :: r) I .ishr = K (i + 1) L (.inl (zshr x y) :: r) I := rfl
theorem zs_iushr {rt : Option FieldType} {C : Nat → List zV → zI → zO} {K : zK} {i : Nat} {L : List (Option zV)} {r : List zV} {I : zI} {x y : Int} : zs rt C K i L (.inl y :: .inl x :: r) I .iushr = K (i + 1) L (.inl (zushr x y) :: r) I := rfl
theorem zs_idiv {rt : Option FieldType} {C : Nat → List zV → zI → zO} {K : zK} {i : Nat} {L : List (Option zV)} {r : List zV} {I : zI} {x y : Int} : zs rt C K i L (.inl y :: .inl x :: r) I .idiv = if y = 0 then none else K (i + 1) L (.inl (zdiv x y) :: r) I := rfl
theorem zs_irem {rt : Option FieldType} {C : Nat → List zV → zI → zO} {K : zK} {i : Nat} {L : List (Option zV)} {r : List zV} {I : zI} {x y : Int} : zs rt C K i L (.inl y :: .inl x :: r) I .irem = if y = 0 then none else K (i + 1) L (.inl (zrem x y) :: r) I := rfl
theorem zs_ineg {rt : Option FieldType} {C : Nat → List zV → zI → zO} {K : zK} {i : Nat} {L : List (Option zV)} {r : List zV} {I : zI} {x : Int} : zs rt C K i L (.inl x :: r) I .ineg = K (i + 1) L (.inl (wr (-x)) :: r) I := rfl
theorem zs_dup {rt : Option FieldType} {C : Nat → List zV → zI → zO} {K : zK} {i : Nat} {L : List (Option zV)} {r : List zV} {I : zI} {v : zV} : zs rt C K i L (v :: r) I .dup = K (i + 1) L (v :: v :: r) I := rfl
theorem zs_dup2 {rt : Option FieldType} {C : Nat → List zV → zI → zO} {K : zK} {i : Nat} {L : List (Option zV)} {r : List zV} {I : zI} {v w : zV} : zs rt C K i L (v :: w :: r) I .dup2 = K (i + 1) L (v :: w :: v :: w :: r) I := rfl
theorem zs_pop {rt : Option FieldType} {C : Nat → List zV → zI → zO} {K : zK} {i : Nat} {L : List (Option zV)} {r : List zV} {I : zI} {v : zV} : zs rt C K i L (v :: r) I .pop = K (i + 1) L r I := rfl
theorem zs_if_eq {rt : Option FieldType} {C : Nat → List zV → zI → zO} {K : zK} {i : Nat} {L : List (Option zV)} {r : List zV} {I : zI} {x t : Int} : zs rt C K i L (.inl x :: r) I (.ifCond .eq t) = if x = 0 then K t.toNat L r I else K (i + 1) L r I := rfl
theorem zs_ic_eq {rt : Option FieldType} {C : Nat → List zV → zI → zO} {K : zK} {i : Nat} {L : List (Option zV)} {r : List zV} {I : zI} {x y t : Int} : zs rt C K i L (.inl y :: .inl x :: r) I (.if_icmp .eq t) = if x = y then K t.toNat L r I else K (i + 1) L r I := rfl
theorem zs_if_ne {rt : Option FieldType} {C : Nat → List zV → zI → zO} {K : zK} {i : Nat} {L : List (Option zV)} {r : List zV} {I : zI} {x t : Int} : zs rt C K i L (.inl x :: r) I (.ifCond .ne t) = if x = 0 then K (i + 1) L r I else K t.toNat L r I := rfl
theorem zs_ic_ne {rt : Option FieldType} {C : Nat → List zV → zI → zO} {K : zK} {i : Nat} {L : List (Option zV)} {r : List zV} {I : zI} {x y t : Int} : zs rt C K i L (.inl y :: .inl x :: r) I (.if_icmp .ne t) = if x = y then K (i + 1) L r I else K t.toNat L r I := rfl
theorem zs_if_lt {rt : Option FieldType} {C : Nat → List zV → zI → zO} {K : zK} {i : Nat} {L : List (Option zV)} {r : List zV} {I : zI} {x t : Int} : zs rt C K i L (.inl x :: r) I (.ifCond .lt t) = if x < 0 then K t.toNat L r I else K (i + 1) L r I := rfl
theorem zs_ic_lt {rt : Option FieldType} {C : Nat → List zV → zI → zO} {K : zK} {i : Nat} {L : List (Option zV)} {r : List zV} {I : zI} {x y t : Int} : zs rt C K i L (.inl y :: .inl x :: r) I (.if_icmp .lt t) = if x < y then K t.toNat L r I else K (i + 1) L r I := rfl
theorem zs_if_ge {rt : Option FieldType} {C : Nat → List zV → zI → zO} {K : zK} {i : Nat} {L : List (Option zV)} {r : List zV} {I : zI} {x t : Int} : zs rt C K i L (.inl x :: r) I (.ifCond .ge t) = if x < 0 then K (i + 1) L r I else K t.toNat L r I := rfl
theorem zs_ic_ge {rt : Option FieldType} {C : Nat → List zV → zI → zO} {K : zK} {i : Nat} {L : List (Option zV)} {r : List zV} {I : zI} {x y t : Int} : zs rt C K i L (.inl y :: .inl x :: r) I (.if_icmp .ge t) = if x < y then K (i + 1) L r I else K t.toNat L r I := rfl
theorem zs_if_gt {rt : Option FieldType} {C : Nat → List zV → zI → zO} {K : zK} {i : Nat} {L : List (Option zV)} {r : List zV} {I : zI} {x t : Int} : zs rt C K i L (.inl x :: r) I (.ifCond .gt t) = if 0 < x then K t.toNat L r I else K (i + 1) L r I := rfl
theorem zs_ic_gt {rt : Option FieldType} {C : Nat → List zV → zI → zO} {K : zK} {i : Nat} {L : List (Option zV)} {r : List zV} {I : zI} {x y t : Int} : zs rt C K i L (.inl y :: .inl x :: r) I (.if_icmp .gt t) = if y < x then K t.toNat L r I else K (i + 1) L r I := rfl
theorem zs_if_le {rt : Option FieldType} {C : Nat → List zV → zI → zO} {K : zK} {i : Nat} {L : List (Option zV)} {r : List zV} {I : zI} {x t : Int} : zs rt C K i L (.inl x :: r) I (.ifCond .le t) = if 0 < x then K (i + 1) L r I else K t.toNat L r I := rfl
theorem zs_ic_le {rt : Option FieldType} {C : Nat → List zV → zI → zO} {K : zK} {i : Nat} {L : List (Option zV)} {r : List zV} {I : zI} {x y t : Int} : zs rt C K i L (.inl y :: .inl x :: r) I (.if_icmp .le t) = if y < x then K (i + 1) L r I else K t.toNat L r I := rfl
theorem zs_goto {rt : Option FieldType} {C : Nat → List zV → zI → zO} {K : zK} {i : Nat} {L : List (Option zV)} {r : List zV} {I : zI} {t : Int} : zs rt C K i L r I (.goto t) = K t.toNat L r I := rfl
theorem zs_ifnonnull {rt : Option FieldType} {C : Nat → List zV → zI → zO} {K : zK} {i : Nat} {L : List (Option zV)} {r : List zV} {I : zI} {t : Int} {a : Nat} : zs rt C K i L (.inr (some a) :: r) I (.ifnonnull t) = K t.toNat L r I := rfl
theorem zs_tableswitch {rt : Option FieldType} {C : Nat → List zV → zI → zO} {K : zK} {i : Nat} {L : List (Option zV)} {r : List zV} {I : zI} {x dd lo hi : Int} {ts : Array Int} : zs rt C K i L (.inl x :: r) I (.tableswitch dd lo hi ts) = zsw x (fun t => K t L r I) (K dd.toNat L r I) ts.toList lo := rfl
theorem zs_lookupswitch {rt : Option FieldType} {C : Nat → List zV → zI → zO} {K : zK} {i : Nat} {L : List (Option zV)} {r : List zV} {I : zI} {x dd : Int} {ps : Array (Int × Int)} : zs rt C K i L (.inl x :: r) I (.lookupswitch dd ps) = zlk x (fun t => K t L r I) (K dd.toNat L r I) ps.toList := rfl
theorem zs_getstatic {rt : Option FieldType} {C : Nat → List zV → zI → zO} {K : zK} {i : Nat} {L : List (Option zV)} {r : List zV} {I : zI}  : zs rt C K i L r I (.getstatic 1) = K (i + 1) L (.inr (some 1000001) :: r) I := rfl
theorem zs_ldc {rt : Option FieldType} {C : Nat → List zV → zI → zO} {K : zK} {i : Nat} {L : List (Option zV)} {r : List zV} {I : zI} {q : Nat} : zs rt C K i L r I (.ldc q) = K (i + 1) L (.inr (some 1000002) :: r) I := rfl
theorem zs_getfield {rt : Option FieldType} {C : Nat → List zV → zI → zO} {K : zK} {i : Nat} {L : List (Option zV)} {r : List zV} {I : zI} {q a : Nat} (h : zkd a = (0, kf_c q)) : zs rt C K i L (.inr (some a) :: r) I (.getfield q) = K (i + 1) L (.inl (I a (kf_k q)) :: r) I := if_pos h
theorem zs_checkcast {rt : Option FieldType} {C : Nat → List zV → zI → zO} {K : zK} {i : Nat} {L : List (Option zV)} {r : List zV} {I : zI} {q a : Nat} (h : zkd a = (0, kf_c q)) : zs rt C K i L (.inr (some a) :: r) I (.checkcast q) = zo (zpt a (kf_k q)) fun b => K (i + 1) L (.inr (some b) :: r) I := if_pos h
theorem zs_putfield {rt : Option FieldType} {C : Nat → List zV → zI → zO} {K : zK} {i : Nat} {L : List (Option zV)} {r : List zV} {I : zI} {q a : Nat} {x : Int} (h : zkd a = (0, kf_c q)) (h2 : ¬ q % 2 = 1) : zs rt C K i L (.inl x :: .inr (some a) :: r) I (.putfield q) = K (i + 1) L r (up I a (kf_k q) x) := (if_pos h).trans (if_neg h2)
theorem zs_putfieldb {rt : Option FieldType} {C : Nat → List zV → zI → zO} {K : zK} {i : Nat} {L : List (Option zV)} {r : List zV} {I : zI} {q a : Nat} {x : Int} (h : zkd a = (0, kf_c q)) (h2 : q % 2 = 1) : zs rt C K i L (.inl x :: .inr (some a) :: r) I (.putfield q) = if x = 0 ∨ x = 1 then K (i + 1) L r (up I a (kf_k q) x) else none := (if_pos h).trans (if_pos h2)
theorem zs_iaload {rt : Option FieldType} {C : Nat → List zV → zI → zO} {K : zK} {i : Nat} {L : List (Option zV)} {r : List zV} {I : zI} {a n : Nat} {x : Int} (h : zkd a = (1, n)) : zs rt C K i L (.inl x :: .inr (some a) :: r) I .iaload = if 0 ≤ x ∧ x < n then K (i + 1) L (.inl (I a x.toNat) :: r) I else none := by
  show (if (zkd a).1 = 1 then (if 0 ≤ x ∧ x < (zkd a).2 then _ else _) else _) = _
  rw [h]
  exact if_pos rfl
theorem zs_ialoadb {rt : Option FieldType} {C : Nat → List zV → zI → zO} {K : zK} {i : Nat} {L : List (Option zV)} {r : List zV} {I : zI} {x : Int} : zs rt C K i L (.inl x :: .inr (some 1000001) :: r) I .iaload = if 0 ≤ x ∧ x < 4 then K (i + 1) L (.inl (zbx x.toNat) :: r) I else none := by
  show (if (zkd 1000001).1 = 1 then (if 0 ≤ x ∧ x < (zkd 1000001).2 then _ else _) else (if 1000001 = 1000001 then _ else _)) = _
  rw [zk_b, if_neg (by decide), if_pos rfl]
theorem zs_iastore {rt : Option FieldType} {C : Nat → List zV → zI → zO} {K : zK} {i : Nat} {L : List (Option zV)} {r : List zV} {I : zI} {a n : Nat} {x v : Int} (h : zkd a = (1, n)) : zs rt C K i L (.inl v :: .inl x :: .inr (some a) :: r) I .iastore = if 0 ≤ x ∧ x < n then K (i + 1) L r (up I a x.toNat v) else none := by
  show (if (zkd a).1 = 1 then (if 0 ≤ x ∧ x < (zkd a).2 then _ else _) else _) = _
  rw [h]
  exact if_pos rfl
theorem zs_aaload {rt : Option FieldType} {C : Nat → List zV → zI → zO} {K : zK} {i : Nat} {L : List (Option zV)} {r : List zV} {I : zI} {x : Int} : zs rt C K i L (.inl x :: .inr (some 120) :: r) I .aaload = if 0 ≤ x ∧ x < 6 then zo (zpt 120 x.toNat) fun b => K (i + 1) L (.inr (some b) :: r) I else none := if_pos rfl
theorem zs_arraylength {rt : Option FieldType} {C : Nat → List zV → zI → zO} {K : zK} {i : Nat} {L : List (Option zV)} {r : List zV} {I : zI} {a n : Nat} (h : zkd a = (1, n)) : zs rt C K i L (.inr (some a) :: r) I .arraylength = K (i + 1) L (.inl n :: r) I := by
  show (if (zkd a).1 = 1 then K (i + 1) L (.inl (zkd a).2 :: r) I else _) = _
  rw [h]
  exact if_pos rfl
theorem zs_arraylengthb {rt : Option FieldType} {C : Nat → List zV → zI → zO} {K : zK} {i : Nat} {L : List (Option zV)} {r : List zV} {I : zI} : zs rt C K i L (.inr (some 1000001) :: r) I .arraylength = K (i + 1) L (.inl 4 :: r) I := by
  show (if (zkd 1000001).1 = 1 then K (i + 1) L (.inl (zkd 1000001).2 :: r) I else (if 1000001 = 1000001 then _ else _)) = _
  rw [zk_b, if_neg (by decide), if_pos rfl]
theorem zs_swap {rt : Option FieldType} {C : Nat → List zV → zI → zO} {K : zK} {i : Nat} {L : List (Option zV)} {r : List zV} {I : zI} {a b n k : Nat} {sp dp w : Int} (h : zkd a = (1, n)) (h2 : zkd b = (1, k)) : zs rt C K i L (.inl w :: .inl dp :: .inr (some b) :: .inl sp :: .inr (some a) :: r) I .swap = if 0 ≤ sp ∧ 0 ≤ dp ∧ 0 ≤ w ∧ sp + w ≤ n ∧ dp + w ≤ k then (if r.length ≤ 8 then K (i + 1) L r (cp I a b sp.toNat dp.toNat w.toNat) else none) else none := by
  show (if (zkd a).1 = 1 ∧ (zkd b).1 = 1 then (if 0 ≤ sp ∧ 0 ≤ dp ∧ 0 ≤ w ∧ sp + w ≤ (zkd a).2 ∧ dp + w ≤ (zkd b).2 then _ else _) else _) = _
  rw [h, h2]
  exact if_pos ⟨rfl, rfl⟩
theorem zs_is0 {rt : Option FieldType} {C : Nat → List zV → zI → zO} {K : zK} {i : Nat} {L : List (Option zV)} {r : List zV} {I : zI} {q y : Nat} (e1 : kq_y q = y) (e2 : kq_n q = 0) (e3 : q % 2 = 0) (hl : r.length ≤ 8) : zs rt C K i L (r) I (.invokestatic q) = (C y [] I).bind fun p => K (i + 1) L (.inl p.1 :: r) p.2 := by
  subst e1
  show (if kq_n q ≤ (r : List zV).length ∧ ((r : List zV).drop (kq_n q)).length ≤ 8 then (C (kq_y q) ((r : List zV).take (kq_n q)).reverse I).bind (fun p => K (i + 1) L (if q % 2 = 1 then (r : List zV).drop (kq_n q) else .inl p.1 :: (r : List zV).drop (kq_n q)) p.2) else none) = _
  rw [e2, if_pos ⟨by simp, hl⟩]
  simp only [e3]
  rfl
theorem zs_iv0 {rt : Option FieldType} {C : Nat → List zV → zI → zO} {K : zK} {i : Nat} {L : List (Option zV)} {r : List zV} {I : zI} {q y a : Nat} (e1 : kq_y q = y) (e2 : kq_n q = 0) (e3 : q % 2 = 0) (hl : r.length ≤ 8) (h : zkr a (kq_c q)) : zs rt C K i L (.inr (some a) :: r) I (.invokevirtual q) = (C y [.inr (some a)] I).bind fun p => K (i + 1) L (.inl p.1 :: r) p.2 := by
  subst e1
  show zr ((.inr (some a) :: r : List zV).drop (kq_n q)) (fun a r => if kq_n q ≤ (.inr (some a) :: r : List zV).length ∧ r.length ≤ 8 then (@ite _ (zkr a (kq_c q)) (zkr_dec a (kq_c q)) ((C (kq_y q) (.inr (some a) :: ((.inr (some a) :: r : List zV).take (kq_n q)).reverse) I).bind (fun p => K (i + 1) L (if q % 2 = 1 then r else .inl p.1 :: r) p.2)) none) else none) = _
  rw [e2]
  show (if 0 ≤ (.inr (some a) :: r : List zV).length ∧ r.length ≤ 8 then (@ite _ (zkr a (kq_c q)) (zkr_dec a (kq_c q)) _ none) else none) = _
  rw [if_pos ⟨by simp, hl⟩, if_pos h]
  simp only [e3]
  rfl
theorem zs_is0v {rt : Option FieldType} {C : Nat → List zV → zI → zO} {K : zK} {i : Nat} {L : List (Option zV)} {r : List zV} {I : zI} {q y : Nat} (e1 : kq_y q = y) (e2 : kq_n q = 0) (e3 : q % 2 = 1) (hl : r.length ≤ 8) : zs rt C K i L (r) I (.invokestatic q) = (C y [] I).bind fun p => K (i + 1) L r p.2 := by
  subst e1
  show (if kq_n q ≤ (r : List zV).length ∧ ((r : List zV).drop (kq_n q)).length ≤ 8 then (C (kq_y q) ((r : List zV).take (kq_n q)).reverse I).bind (fun p => K (i + 1) L (if q % 2 = 1 then (r : List zV).drop (kq_n q) else .inl p.1 :: (r : List zV).drop (kq_n q)) p.2) else none) = _
  rw [e2, if_pos ⟨by simp, hl⟩]
  simp only [e3]
  rfl
theorem zs_iv0v {rt : Option FieldType} {C : Nat → List zV → zI → zO} {K : zK} {i : Nat} {L : List (Option zV)} {r : List zV} {I : zI} {q y a : Nat} (e1 : kq_y q = y) (e2 : kq_n q = 0) (e3 : q % 2 = 1) (hl : r.length ≤ 8) (h : zkr a (kq_c q)) : zs rt C K i L (.inr (some a) :: r) I (.invokevirtual q) = (C y [.inr (some a)] I).bind fun p => K (i + 1) L r p.2 := by
  subst e1
  show zr ((.inr (some a) :: r : List zV).drop (kq_n q)) (fun a r => if kq_n q ≤ (.inr (some a) :: r : List zV).length ∧ r.length ≤ 8 then (@ite _ (zkr a (kq_c q)) (zkr_dec a (kq_c q)) ((C (kq_y q) (.inr (some a) :: ((.inr (some a) :: r : List zV).take (kq_n q)).reverse) I).bind (fun p => K (i + 1) L (if q % 2 = 1 then r else .inl p.1 :: r) p.2)) none) else none) = _
  rw [e2]
  show (if 0 ≤ (.inr (some a) :: r : List zV).length ∧ r.length ≤ 8 then (@ite _ (zkr a (kq_c q)) (zkr_dec a (kq_c q)) _ none) else none) = _
  rw [if_pos ⟨by simp, hl⟩, if_pos h]
  simp only [e3]
  rfl
theorem zs_is1 {rt : Option FieldType} {C : Nat → List zV → zI → zO} {K : zK} {i : Nat} {L : List (Option zV)} {r : List zV} {I : zI} {q y : Nat} {x0 : zV} (e1 : kq_y q = y) (e2 : kq_n q = 1) (e3 : q % 2 = 0) (hl : r.length ≤ 8) : zs rt C K i L (x0 :: r) I (.invokestatic q) = (C y [x0] I).bind fun p => K (i + 1) L (.inl p.1 :: r) p.2 := by
  subst e1
  show (if kq_n q ≤ (x0 :: r : List zV).length ∧ ((x0 :: r : List zV).drop (kq_n q)).length ≤ 8 then (C (kq_y q) ((x0 :: r : List zV).take (kq_n q)).reverse I).bind (fun p => K (i + 1) L (if q % 2 = 1 then (x0 :: r : List zV).drop (kq_n q) else .inl p.1 :: (x0 :: r : List zV).drop (kq_n q)) p.2) else none) = _
  rw [e2, if_pos ⟨by simp, hl⟩]
  simp only [e3]
  rfl
theorem zs_iv1 {rt : Option FieldType} {C : Nat → List zV → zI → zO} {K : zK} {i : Nat} {L : List (Option zV)} {r : List zV} {I : zI} {q y a : Nat} {x0 : zV} (e1 : kq_y q = y) (e2 : kq_n q = 1) (e3 : q % 2 = 0) (hl : r.length ≤ 8) (h : zkr a (kq_c q)) : zs rt C K i L (x0 :: .inr (some a) :: r) I (.invokevirtual q) = (C y [.inr (some a), x0] I).bind fun p => K (i + 1) L (.inl p.1 :: r) p.2 := by
  subst e1
  show zr ((x0 :: .inr (some a) :: r : List zV).drop (kq_n q)) (fun a r => if kq_n q ≤ (x0 :: .inr (some a) :: r : List zV).length ∧ r.length ≤ 8 then (@ite _ (zkr a (kq_c q)) (zkr_dec a (kq_c q)) ((C (kq_y q) (.inr (some a) :: ((x0 :: .inr (some a) :: r : List zV).take (kq_n q)).reverse) I).bind (fun p => K (i + 1) L (if q % 2 = 1 then r else .inl p.1 :: r) p.2)) none) else none) = _
  rw [e2]
  show (if 1 ≤ (x0 :: .inr (some a) :: r : List zV).length ∧ r.length ≤ 8 then (@ite _ (zkr a (kq_c q)) (zkr_dec a (kq_c q)) _ none) else none) = _
  rw [if_pos ⟨by simp, hl⟩, if_pos h]
  simp only [e3]
  rfl
theorem zs_is1v {rt : Option FieldType} {C : Nat → List zV → zI → zO} {K : zK} {i : Nat} {L : List (Option zV)} {r : List zV} {I : zI} {q y : Nat} {x0 : zV} (e1 : kq_y q = y) (e2 : kq_n q = 1) (e3 : q % 2 = 1) (hl : r.length ≤ 8) : zs rt C K i L (x0 :: r) I (.invokestatic q) = (C y [x0] I).bind fun p => K (i + 1) L r p.2 := by
  subst e1
  show (if kq_n q ≤ (x0 :: r : List zV).length ∧ ((x0 :: r : List zV).drop (kq_n q)).length ≤ 8 then (C (kq_y q) ((x0 :: r : List zV).take (kq_n q)).reverse I).bind (fun p => K (i + 1) L (if q % 2 = 1 then (x0 :: r : List zV).drop (kq_n q) else .inl p.1 :: (x0 :: r : List zV).drop (kq_n q)) p.2) else none) = _
  rw [e2, if_pos ⟨by simp, hl⟩]
  simp only [e3]
  rfl
theorem zs_iv1v {rt : Option FieldType} {C : Nat → List zV → zI → zO} {K : zK} {i : Nat} {L : List (Option zV)} {r : List zV} {I : zI} {q y a : Nat} {x0 : zV} (e1 : kq_y q = y) (e2 : kq_n q = 1) (e3 : q % 2 = 1) (hl : r.length ≤ 8) (h : zkr a (kq_c q)) : zs rt C K i L (x0 :: .inr (some a) :: r) I (.invokevirtual q) = (C y [.inr (some a), x0] I).bind fun p => K (i + 1) L r p.2 := by
  subst e1
  show zr ((x0 :: .inr (some a) :: r : List zV).drop (kq_n q)) (fun a r => if kq_n q ≤ (x0 :: .inr (some a) :: r : List zV).length ∧ r.length ≤ 8 then (@ite _ (zkr a (kq_c q)) (zkr_dec a (kq_c q)) ((C (kq_y q) (.inr (some a) :: ((x0 :: .inr (some a) :: r : List zV).take (kq_n q)).reverse) I).bind (fun p => K (i + 1) L (if q % 2 = 1 then r else .inl p.1 :: r) p.2)) none) else none) = _
  rw [e2]
  show (if 1 ≤ (x0 :: .inr (some a) :: r : List zV).length ∧ r.length ≤ 8 then (@ite _ (zkr a (kq_c q)) (zkr_dec a (kq_c q)) _ none) else none) = _
  rw [if_pos ⟨by simp, hl⟩, if_pos h]
  simp only [e3]
  rfl
theorem zs_is2 {rt : Option FieldType} {C : Nat → List zV → zI → zO} {K : zK} {i : Nat} {L : List (Option zV)} {r : List zV} {I : zI} {q y : Nat} {x0 x1 : zV} (e1 : kq_y q = y) (e2 : kq_n q = 2) (e3 : q % 2 = 0) (hl : r.length ≤ 8) : zs rt C K i L (x1 :: x0 :: r) I (.invokestatic q) = (C y [x0, x1] I).bind fun p => K (i + 1) L (.inl p.1 :: r) p.2 := by
  subst e1
  show (if kq_n q ≤ (x1 :: x0 :: r : List zV).length ∧ ((x1 :: x0 :: r : List zV).drop (kq_n q)).length ≤ 8 then (C (kq_y q) ((x1 :: x0 :: r : List zV).take (kq_n q)).reverse I).bind (fun p => K (i + 1) L (if q % 2 = 1 then (x1 :: x0 :: r : List zV).drop (kq_n q) else .inl p.1 :: (x1 :: x0 :: r : List zV).drop (kq_n q)) p.2) else none) = _
  rw [e2, if_pos ⟨by simp, hl⟩]
  simp only [e3]
  rfl
theorem zs_iv2 {rt : Option FieldType} {C : Nat → List zV → zI → zO} {K : zK} {i : Nat} {L : List (Option zV)} {r : List zV} {I : zI} {q y a : Nat} {x0 x1 : zV} (e1 : kq_y q = y) (e2 : kq_n q = 2) (e3 : q % 2 = 0) (hl : r.length ≤ 8) (h : zkr a (kq_c q)) : zs rt C K i L (x1 :: x0 :: .inr (some a) :: r) I (.invokevirtual q) = (C y [.inr (some a), x0, x1] I).bind fun p => K (i + 1) L (.inl p.1 :: r) p.2 := by
  subst e1
  show zr ((x1 :: x0 :: .inr (some a) :: r : List zV).drop (kq_n q)) (fun a r => if kq_n q ≤ (x1 :: x0 :: .inr (some a) :: r : List zV).length ∧ r.length ≤ 8 then (@ite _ (zkr a (kq_c q)) (zkr_dec a (kq_c q)) ((C (kq_y q) (.inr (some a) :: ((x1 :: x0 :: .inr (some a) :: r : List zV).take (kq_n q)).reverse) I).bind (fun p => K (i + 1) L (if q % 2 = 1 then r else .inl p.1 :: r) p.2)) none) else none) = _
  rw [e2]
  show (if 2 ≤ (x1 :: x0 :: .inr (some a) :: r : List zV).length ∧ r.length ≤ 8 then (@ite _ (zkr a (kq_c q)) (zkr_dec a (kq_c q)) _ none) else none) = _
  rw [if_pos ⟨by simp, hl⟩, if_pos h]
  simp only [e3]
  rfl
theorem zs_is2v {rt : Option FieldType} {C : Nat → List zV → zI → zO} {K : zK} {i : Nat} {L : List (Option zV)} {r : List zV} {I : zI} {q y : Nat} {x0 x1 : zV} (e1 : kq_y q = y) (e2 : kq_n q = 2) (e3 : q % 2 = 1) (hl : r.length ≤ 8) : zs rt C K i L (x1 :: x0 :: r) I (.invokestatic q) = (C y [x0, x1] I).bind fun p => K (i + 1) L r p.2 := by
  subst e1
  show (if kq_n q ≤ (x1 :: x0 :: r : List zV).length ∧ ((x1 :: x0 :: r : List zV).drop (kq_n q)).length ≤ 8 then (C (kq_y q) ((x1 :: x0 :: r : List zV).take (kq_n q)).reverse I).bind (fun p => K (i + 1) L (if q % 2 = 1 then (x1 :: x0 :: r : List zV).drop (kq_n q) else .inl p.1 :: (x1 :: x0 :: r : List zV).drop (kq_n q)) p.2) else none) = _
  rw [e2, if_pos ⟨by simp, hl⟩]
  simp only [e3]
  rfl
theorem zs_iv2v {rt : Option FieldType} {C : Nat → List zV → zI → zO} {K : zK} {i : Nat} {L : List (Option zV)} {r : List zV} {I : zI} {q y a : Nat} {x0 x1 : zV} (e1 : kq_y q = y) (e2 : kq_n q = 2) (e3 : q % 2 = 1) (hl : r.length ≤ 8) (h : zkr a (kq_c q)) : zs rt C K i L (x1 :: x0 :: .inr (some a) :: r) I (.invokevirtual q) = (C y [.inr (some a), x0, x1] I).bind fun p => K (i + 1) L r p.2 := by
  subst e1
  show zr ((x1 :: x0 :: .inr (some a) :: r : List zV).drop (kq_n q)) (fun a r => if kq_n q ≤ (x1 :: x0 :: .inr (some a) :: r : List zV).length ∧ r.length ≤ 8 then (@ite _ (zkr a (kq_c q)) (zkr_dec a (kq_c q)) ((C (kq_y q) (.inr (some a) :: ((x1 :: x0 :: .inr (some a) :: r : List zV).take (kq_n q)).reverse) I).bind (fun p => K (i + 1) L (if q % 2 = 1 then r else .inl p.1 :: r) p.2)) none) else none) = _
  rw [e2]
  show (if 2 ≤ (x1 :: x0 :: .inr (some a) :: r : List zV).length ∧ r.length ≤ 8 then (@ite _ (zkr a (kq_c q)) (zkr_dec a (kq_c q)) _ none) else none) = _
  rw [if_pos ⟨by simp, hl⟩, if_pos h]
  simp only [e3]
  rfl
theorem zs_is3 {rt : Option FieldType} {C : Nat → List zV → zI → zO} {K : zK} {i : Nat} {L : List (Option zV)} {r : List zV} {I : zI} {q y : Nat} {x0 x1 x2 : zV} (e1 : kq_y q = y) (e2 : kq_n q = 3) (e3 : q % 2 = 0) (hl : r.length ≤ 8) : zs rt C K i L (x2 :: x1 :: x0 :: r) I (.invokestatic q) = (C y [x0, x1, x2] I).bind fun p => K (i + 1) L (.inl p.1 :: r) p.2 := by
  subst e1
  show (if kq_n q ≤ (x2 :: x1 :: x0 :: r : List zV).length ∧ ((x2 :: x1 :: x0 :: r : List zV).drop (kq_n q)).length ≤ 8 then (C (kq_y q) ((x2 :: x1 :: x0 :: r : List zV).take (kq_n q)).reverse I).bind (fun p => K (i + 1) L (if q % 2 = 1 then (x2 :: x1 :: x0 :: r : List zV).drop (kq_n q) else .inl p.1 :: (x2 :: x1 :: x0 :: r : List zV).drop (kq_n q)) p.2) else none) = _
  rw [e2, if_pos ⟨by simp, hl⟩]
  simp only [e3]
  rfl
theorem zs_iv3 {rt : Option FieldType} {C : Nat → List zV → zI → zO} {K : zK} {i : Nat} {L : List (Option zV)} {r : List zV} {I : zI} {q y a : Nat} {x0 x1 x2 : zV} (e1 : kq_y q = y) (e2 : kq_n q = 3) (e3 : q % 2 = 0) (hl : r.length ≤ 8) (h : zkr a (kq_c q)) : zs rt C K i L (x2 :: x1 :: x0 :: .inr (some a) :: r) I (.invokevirtual q) = (C y [.inr (some a), x0, x1, x2] I).bind fun p => K (i + 1) L (.inl p.1 :: r) p.2 := by
  subst e1
  show zr ((x2 :: x1 :: x0 :: .inr (some a) :: r : List zV).drop (kq_n q)) (fun a r => if kq_n q ≤ (x2 :: x1 :: x0 :: .inr (some a) :: r : List zV).length ∧ r.length ≤ 8 then (@ite _ (zkr a (kq_c q)) (zkr_dec a (kq_c q)) ((C (kq_y q) (.inr (some a) :: ((x2 :: x1 :: x0 :: .inr (some a) :: r : List zV).take (kq_n q)).reverse) I).bind (fun p => K (i + 1) L (if q % 2 = 1 then r else .inl p.1 :: r) p.2)) none) else none) = _
  rw [e2]
  show (if 3 ≤ (x2 :: x1 :: x0 :: .inr (some a) :: r : List zV).length ∧ r.length ≤ 8 then (@ite _ (zkr a (kq_c q)) (zkr_dec a (kq_c q)) _ none) else none) = _
  rw [if_pos ⟨by simp, hl⟩, if_pos h]
  simp only [e3]
  rfl
theorem zs_is3v {rt : Option FieldType} {C : Nat → List zV → zI → zO} {K : zK} {i : Nat} {L : List (Option zV)} {r : List zV} {I : zI} {q y : Nat} {x0 x1 x2 : zV} (e1 : kq_y q = y) (e2 : kq_n q = 3) (e3 : q % 2 = 1) (hl : r.length ≤ 8) : zs rt C K i L (x2 :: x1 :: x0 :: r) I (.invokestatic q) = (C y [x0, x1, x2] I).bind fun p => K (i + 1) L r p.2 := by
  subst e1
  show (if kq_n q ≤ (x2 :: x1 :: x0 :: r : List zV).length ∧ ((x2 :: x1 :: x0 :: r : List zV).drop (kq_n q)).length ≤ 8 then (C (kq_y q) ((x2 :: x1 :: x0 :: r : List zV).take (kq_n q)).reverse I).bind (fun p => K (i + 1) L (if q % 2 = 1 then (x2 :: x1 :: x0 :: r : List zV).drop (kq_n q) else .inl p.1 :: (x2 :: x1 :: x0 :: r : List zV).drop (kq_n q)) p.2) else none) = _
  rw [e2, if_pos ⟨by simp, hl⟩]
  simp only [e3]
  rfl
theorem zs_iv3v {rt : Option FieldType} {C : Nat → List zV → zI → zO} {K : zK} {i : Nat} {L : List (Option zV)} {r : List zV} {I : zI} {q y a : Nat} {x0 x1 x2 : zV} (e1 : kq_y q = y) (e2 : kq_n q = 3) (e3 : q % 2 = 1) (hl : r.length ≤ 8) (h : zkr a (kq_c q)) : zs rt C K i L (x2 :: x1 :: x0 :: .inr (some a) :: r) I (.invokevirtual q) = (C y [.inr (some a), x0, x1, x2] I).bind fun p => K (i + 1) L r p.2 := by
  subst e1
  show zr ((x2 :: x1 :: x0 :: .inr (some a) :: r : List zV).drop (kq_n q)) (fun a r => if kq_n q ≤ (x2 :: x1 :: x0 :: .inr (some a) :: r : List zV).length ∧ r.length ≤ 8 then (@ite _ (zkr a (kq_c q)) (zkr_dec a (kq_c q)) ((C (kq_y q) (.inr (some a) :: ((x2 :: x1 :: x0 :: .inr (some a) :: r : List zV).take (kq_n q)).reverse) I).bind (fun p => K (i + 1) L (if q % 2 = 1 then r else .inl p.1 :: r) p.2)) none) else none) = _
  rw [e2]
  show (if 3 ≤ (x2 :: x1 :: x0 :: .inr (some a) :: r : List zV).length ∧ r.length ≤ 8 then (@ite _ (zkr a (kq_c q)) (zkr_dec a (kq_c q)) _ none) else none) = _
  rw [if_pos ⟨by simp, hl⟩, if_pos h]
  simp only [e3]
  rfl
theorem zs_is4 {rt : Option FieldType} {C : Nat → List zV → zI → zO} {K : zK} {i : Nat} {L : List (Option zV)} {r : List zV} {I : zI} {q y : Nat} {x0 x1 x2 x3 : zV} (e1 : kq_y q = y) (e2 : kq_n q = 4) (e3 : q % 2 = 0) (hl : r.length ≤ 8) : zs rt C K i L (x3 :: x2 :: x1 :: x0 :: r) I (.invokestatic q) = (C y [x0, x1, x2, x3] I).bind fun p => K (i + 1) L (.inl p.1 :: r) p.2 := by
  subst e1
  show (if kq_n q ≤ (x3 :: x2 :: x1 :: x0 :: r : List zV).length ∧ ((x3 :: x2 :: x1 :: x0 :: r : List zV).drop (kq_n q)).length ≤ 8 then (C (kq_y q) ((x3 :: x2 :: x1 :: x0 :: r : List zV).take (kq_n q)).reverse I).bind (fun p => K (i + 1) L (if q % 2 = 1 then (x3 :: x2 :: x1 :: x0 :: r : List zV).drop (kq_n q) else .inl p.1 :: (x3 :: x2 :: x1 :: x0 :: r : List zV).drop (kq_n q)) p.2) else none) = _
  rw [e2, if_pos ⟨by simp, hl⟩]
  simp only [e3]
  rfl
theorem zs_iv4 {rt : Option FieldType} {C : Nat → List zV → zI → zO} {K : zK} {i : Nat} {L : List (Option zV)} {r : List zV} {I : zI} {q y a : Nat} {x0 x1 x2 x3 : zV} (e1 : kq_y q = y) (e2 : kq_n q = 4) (e3 : q % 2 = 0) (hl : r.length ≤ 8) (h : zkr a (kq_c q)) : zs rt C K i L (x3 :: x2 :: x1 :: x0 :: .inr (some a) :: r) I (.invokevirtual q) = (C y [.inr (some a), x0, x1, x2, x3] I).bind fun p => K (i + 1) L (.inl p.1 :: r) p.2 := by
  subst e1
  show zr ((x3 :: x2 :: x1 :: x0 :: .inr (some a) :: r : List zV).drop (kq_n q)) (fun a r => if kq_n q ≤ (x3 :: x2 :: x1 :: x0 :: .inr (some a) :: r : List zV).length ∧ r.length ≤ 8 then (@ite _ (zkr a (kq_c q)) (zkr_dec a (kq_c q)) ((C (kq_y q) (.inr (some a) :: ((x3 :: x2 :: x1 :: x0 :: .inr (some a) :: r : List zV).take (kq_n q)).reverse) I).bind (fun p => K (i + 1) L (if q % 2 = 1 then r else .inl p.1 :: r) p.2)) none) else none) = _
  rw [e2]
  show (if 4 ≤ (x3 :: x2 :: x1 :: x0 :: .inr (some a) :: r : List zV).length ∧ r.length ≤ 8 then (@ite _ (zkr a (kq_c q)) (zkr_dec a (kq_c q)) _ none) else none) = _
  rw [if_pos ⟨by simp, hl⟩, if_pos h]
  simp only [e3]
  rfl
theorem zs_is4v {rt : Option FieldType} {C : Nat → List zV → zI → zO} {K : zK} {i : Nat} {L : List (Option zV)} {r : List zV} {I : zI} {q y : Nat} {x0 x1 x2 x3 : zV} (e1 : kq_y q = y) (e2 : kq_n q = 4) (e3 : q % 2 = 1) (hl : r.length ≤ 8) : zs rt C K i L (x3 :: x2 :: x1 :: x0 :: r) I (.invokestatic q) = (C y [x0, x1, x2, x3] I).bind fun p => K (i + 1) L r p.2 := by
  subst e1
  show (if kq_n q ≤ (x3 :: x2 :: x1 :: x0 :: r : List zV).length ∧ ((x3 :: x2 :: x1 :: x0 :: r : List zV).drop (kq_n q)).length ≤ 8 then (C (kq_y q) ((x3 :: x2 :: x1 :: x0 :: r : List zV).take (kq_n q)).reverse I).bind (fun p => K (i + 1) L (if q % 2 = 1 then (x3 :: x2 :: x1 :: x0 :: r : List zV).drop (kq_n q) else .inl p.1 :: (x3 :: x2 :: x1 :: x0 :: r : List zV).drop (kq_n q)) p.2) else none) = _
  rw [e2, if_pos ⟨by simp, hl⟩]
  simp only [e3]
  rfl
theorem zs_iv4v {rt : Option FieldType} {C : Nat → List zV → zI → zO} {K : zK} {i : Nat} {L : List (Option zV)} {r : List zV} {I : zI} {q y a : Nat} {x0 x1 x2 x3 : zV} (e1 : kq_y q = y) (e2 : kq_n q = 4) (e3 : q % 2 = 1) (hl : r.length ≤ 8) (h : zkr a (kq_c q)) : zs rt C K i L (x3 :: x2 :: x1 :: x0 :: .inr (some a) :: r) I (.invokevirtual q) = (C y [.inr (some a), x0, x1, x2, x3] I).bind fun p => K (i + 1) L r p.2 := by
  subst e1
  show zr ((x3 :: x2 :: x1 :: x0 :: .inr (some a) :: r : List zV).drop (kq_n q)) (fun a r => if kq_n q ≤ (x3 :: x2 :: x1 :: x0 :: .inr (some a) :: r : List zV).length ∧ r.length ≤ 8 then (@ite _ (zkr a (kq_c q)) (zkr_dec a (kq_c q)) ((C (kq_y q) (.inr (some a) :: ((x3 :: x2 :: x1 :: x0 :: .inr (some a) :: r : List zV).take (kq_n q)).reverse) I).bind (fun p => K (i + 1) L (if q % 2 = 1 then r else .inl p.1 :: r) p.2)) none) else none) = _
  rw [e2]
  show (if 4 ≤ (x3 :: x2 :: x1 :: x0 :: .inr (some a) :: r : List zV).length ∧ r.length ≤ 8 then (@ite _ (zkr a (kq_c q)) (zkr_dec a (kq_c q)) _ none) else none) = _
  rw [if_pos ⟨by simp, hl⟩, if_pos h]
  simp only [e3]
  rfl
theorem zs_is5 {rt : Option FieldType} {C : Nat → List zV → zI → zO} {K : zK} {i : Nat} {L : List (Option zV)} {r : List zV} {I : zI} {q y : Nat} {x0 x1 x2 x3 x4 : zV} (e1 : kq_y q = y) (e2 : kq_n q = 5) (e3 : q % 2 = 0) (hl : r.length ≤ 8) : zs rt C K i L (x4 :: x3 :: x2 :: x1 :: x0 :: r) I (.invokestatic q) = (C y [x0, x1, x2, x3, x4] I).bind fun p => K (i + 1) L (.inl p.1 :: r) p.2 := by
  subst e1
  show (if kq_n q ≤ (x4 :: x3 :: x2 :: x1 :: x0 :: r : List zV).length ∧ ((x4 :: x3 :: x2 :: x1 :: x0 :: r : List zV).drop (kq_n q)).length ≤ 8 then (C (kq_y q) ((x4 :: x3 :: x2 :: x1 :: x0 :: r : List zV).take (kq_n q)).reverse I).bind (fun p => K (i + 1) L (if q % 2 = 1 then (x4 :: x3 :: x2 :: x1 :: x0 :: r : List zV).drop (kq_n q) else .inl p.1 :: (x4 :: x3 :: x2 :: x1 :: x0 :: r : List zV).drop (kq_n q)) p.2) else none) = _
  rw [e2, if_pos ⟨by simp, hl⟩]
  simp only [e3]
  rfl
theorem zs_iv5 {rt : Option FieldType} {C : Nat → List zV → zI → zO} {K : zK} {i : Nat} {L : List (Option zV)} {r : List zV} {I : zI} {q y a : Nat} {x0 x1 x2 x3 x4 : zV} (e1 : kq_y q = y) (e2 : kq_n q = 5) (e3 : q % 2 = 0) (hl : r.length ≤ 8) (h : zkr a (kq_c q)) : zs rt C K i L (x4 :: x3 :: x2 :: x1 :: x0 :: .inr (some a) :: r) I (.invokevirtual q) = (C y [.inr (some a), x0, x1, x2, x3, x4] I).bind fun p => K (i + 1) L (.inl p.1 :: r) p.2 := by
  subst e1
  show zr ((x4 :: x3 :: x2 :: x1 :: x0 :: .inr (some a) :: r : List zV).drop (kq_n q)) (fun a r => if kq_n q ≤ (x4 :: x3 :: x2 :: x1 :: x0 :: .inr (some a) :: r : List zV).length ∧ r.length ≤ 8 then (@ite _ (zkr a (kq_c q)) (zkr_dec a (kq_c q)) ((C (kq_y q) (.inr (some a) :: ((x4 :: x3 :: x2 :: x1 :: x0 :: .inr (some a) :: r : List zV).take (kq_n q)).reverse) I).bind (fun p => K (i + 1) L (if q % 2 = 1 then r else .inl p.1 :: r) p.2)) none) else none) = _
  rw [e2]
  show (if 5 ≤ (x4 :: x3 :: x2 :: x1 :: x0 :: .inr (some a) :: r : List zV).length ∧ r.length ≤ 8 then (@ite _ (zkr a (kq_c q)) (zkr_dec a (kq_c q)) _ none) else none) = _
  rw [if_pos ⟨by simp, hl⟩, if_pos h]
  simp only [e3]
  rfl
theorem zs_is5v {rt : Option FieldType} {C : Nat → List zV → zI → zO} {K : zK} {i : Nat} {L : List (Option zV)} {r : List zV} {I : zI} {q y : Nat} {x0 x1 x2 x3 x4 : zV} (e1 : kq_y q = y) (e2 : kq_n q = 5) (e3 : q % 2 = 1) (hl : r.length ≤ 8) : zs rt C K i L (x4 :: x3 :: x2 :: x1 :: x0 :: r) I (.invokestatic q) = (C y [x0, x1, x2, x3, x4] I).bind fun p => K (i + 1) L r p.2 := by
  subst e1
  show (if kq_n q ≤ (x4 :: x3 :: x2 :: x1 :: x0 :: r : List zV).length ∧ ((x4 :: x3 :: x2 :: x1 :: x0 :: r : List zV).drop (kq_n q)).length ≤ 8 then (C (kq_y q) ((x4 :: x3 :: x2 :: x1 :: x0 :: r : List zV).take (kq_n q)).reverse I).bind (fun p => K (i + 1) L (if q % 2 = 1 then (x4 :: x3 :: x2 :: x1 :: x0 :: r : List zV).drop (kq_n q) else .inl p.1 :: (x4 :: x3 :: x2 :: x1 :: x0 :: r : List zV).drop (kq_n q)) p.2) else none) = _
  rw [e2, if_pos ⟨by simp, hl⟩]
  simp only [e3]
  rfl
theorem zs_iv5v {rt : Option FieldType} {C : Nat → List zV → zI → zO} {K : zK} {i : Nat} {L : List (Option zV)} {r : List zV} {I : zI} {q y a : Nat} {x0 x1 x2 x3 x4 : zV} (e1 : kq_y q = y) (e2 : kq_n q = 5) (e3 : q % 2 = 1) (hl : r.length ≤ 8) (h : zkr a (kq_c q)) : zs rt C K i L (x4 :: x3 :: x2 :: x1 :: x0 :: .inr (some a) :: r) I (.invokevirtual q) = (C y [.inr (some a), x0, x1, x2, x3, x4] I).bind fun p => K (i + 1) L r p.2 := by
  subst e1
  show zr ((x4 :: x3 :: x2 :: x1 :: x0 :: .inr (some a) :: r : List zV).drop (kq_n q)) (fun a r => if kq_n q ≤ (x4 :: x3 :: x2 :: x1 :: x0 :: .inr (some a) :: r : List zV).length ∧ r.length ≤ 8 then (@ite _ (zkr a (kq_c q)) (zkr_dec a (kq_c q)) ((C (kq_y q) (.inr (some a) :: ((x4 :: x3 :: x2 :: x1 :: x0 :: .inr (some a) :: r : List zV).take (kq_n q)).reverse) I).bind (fun p => K (i + 1) L (if q % 2 = 1 then r else .inl p.1 :: r) p.2)) none) else none) = _
  rw [e2]
  show (if 5 ≤ (x4 :: x3 :: x2 :: x1 :: x0 :: .inr (some a) :: r : List zV).length ∧ r.length ≤ 8 then (@ite _ (zkr a (kq_c q)) (zkr_dec a (kq_c q)) _ none) else none) = _
  rw [if_pos ⟨by simp, hl⟩, if_pos h]
  simp only [e3]
  rfl
theorem zs_is6 {rt : Option FieldType} {C : Nat → List zV → zI → zO} {K : zK} {i : Nat} {L : List (Option zV)} {r : List zV} {I : zI} {q y : Nat} {x0 x1 x2 x3 x4 x5 : zV} (e1 : kq_y q = y) (e2 : kq_n q = 6) (e3 : q % 2 = 0) (hl : r.length ≤ 8) : zs rt C K i L (x5 :: x4 :: x3 :: x2 :: x1 :: x0 :: r) I (.invokestatic q) = (C y [x0, x1, x2, x3, x4, x5] I).bind fun p => K (i + 1) L (.inl p.1 :: r) p.2 := by
  subst e1
  show (if kq_n q ≤ (x5 :: x4 :: x3 :: x2 :: x1 :: x0 :: r : List zV).length ∧ ((x5 :: x4 :: x3 :: x2 :: x1 :: x0 :: r : List zV).drop (kq_n q)).length ≤ 8 then (C (kq_y q) ((x5 :: x4 :: x3 :: x2 :: x1 :: x0 :: r : List zV).take (kq_n q)).reverse I).bind (fun p => K (i + 1) L (if q % 2 = 1 then (x5 :: x4 :: x3 :: x2 :: x1 :: x0 :: r : List zV).drop (kq_n q) else .inl p.1 :: (x5 :: x4 :: x3 :: x2 :: x1 :: x0 :: r : List zV).drop (kq_n q)) p.2) else none) = _
  rw [e2, if_pos ⟨by simp, hl⟩]
  simp only [e3]
  rfl
theorem zs_iv6 {rt : Option FieldType} {C : Nat → List zV → zI → zO} {K : zK} {i : Nat} {L : List (Option zV)} {r : List zV} {I : zI} {q y a : Nat} {x0 x1 x2 x3 x4 x5 : zV} (e1 : kq_y q = y) (e2 : kq_n q = 6) (e3 : q % 2 = 0) (hl : r.length ≤ 8) (h : zkr a (kq_c q)) : zs rt C K i L (x5 :: x4 :: x3 :: x2 :: x1 :: x0 :: .inr (some a) :: r) I (.invokevirtual q) = (C y [.inr (some a), x0, x1, x2, x3, x4, x5] I).bind fun p => K (i + 1) L (.inl p.1 :: r) p.2 := by
  subst e1
  show zr ((x5 :: x4 :: x3 :: x2 :: x1 :: x0 :: .inr (some a) :: r : List zV).drop (kq_n q)) (fun a r => if kq_n q ≤ (x5 :: x4 :: x3 :: x2 :: x1 :: x0 :: .inr (some a) :: r : List zV).length ∧ r.length ≤ 8 then (@ite _ (zkr a (kq_c q)) (zkr_dec a (kq_c q)) ((C (kq_y q) (.inr (some a) :: ((x5 :: x4 :: x3 :: x2 :: x1 :: x0 :: .inr (some a) :: r : List zV).take (kq_n q)).reverse) I).bind (fun p => K (i + 1) L (if q % 2 = 1 then r else .inl p.1 :: r) p.2)) none) else none) = _
  rw [e2]
  show (if 6 ≤ (x5 :: x4 :: x3 :: x2 :: x1 :: x0 :: .inr (some a) :: r : List zV).length ∧ r.length ≤ 8 then (@ite _ (zkr a (kq_c q)) (zkr_dec a (kq_c q)) _ none) else none) = _
  rw [if_pos ⟨by simp, hl⟩, if_pos h]
  simp only [e3]
  rfl
theorem zs_is6v {rt : Option FieldType} {C : Nat → List zV → zI → zO} {K : zK} {i : Nat} {L : List (Option zV)} {r : List zV} {I : zI} {q y : Nat} {x0 x1 x2 x3 x4 x5 : zV} (e1 : kq_y q = y) (e2 : kq_n q = 6) (e3 : q % 2 = 1) (hl : r.length ≤ 8) : zs rt C K i L (x5 :: x4 :: x3 :: x2 :: x1 :: x0 :: r) I (.invokestatic q) = (C y [x0, x1, x2, x3, x4, x5] I).bind fun p => K (i + 1) L r p.2 := by
  subst e1
  show (if kq_n q ≤ (x5 :: x4 :: x3 :: x2 :: x1 :: x0 :: r : List zV).length ∧ ((x5 :: x4 :: x3 :: x2 :: x1 :: x0 :: r : List zV).drop (kq_n q)).length ≤ 8 then (C (kq_y q) ((x5 :: x4 :: x3 :: x2 :: x1 :: x0 :: r : List zV).take (kq_n q)).reverse I).bind (fun p => K (i + 1) L (if q % 2 = 1 then (x5 :: x4 :: x3 :: x2 :: x1 :: x0 :: r : List zV).drop (kq_n q) else .inl p.1 :: (x5 :: x4 :: x3 :: x2 :: x1 :: x0 :: r : List zV).drop (kq_n q)) p.2) else none) = _
  rw [e2, if_pos ⟨by simp, hl⟩]
  simp only [e3]
  rfl
theorem zs_iv6v {rt : Option FieldType} {C : Nat → List zV → zI → zO} {K : zK} {i : Nat} {L : List (Option zV)} {r : List zV} {I : zI} {q y a : Nat} {x0 x1 x2 x3 x4 x5 : zV} (e1 : kq_y q = y) (e2 : kq_n q = 6) (e3 : q % 2 = 1) (hl : r.length ≤ 8) (h : zkr a (kq_c q)) : zs rt C K i L (x5 :: x4 :: x3 :: x2 :: x1 :: x0 :: .inr (some a) :: r) I (.invokevirtual q) = (C y [.inr (some a), x0, x1, x2, x3, x4, x5] I).bind fun p => K (i + 1) L r p.2 := by
  subst e1
  show zr ((x5 :: x4 :: x3 :: x2 :: x1 :: x0 :: .inr (some a) :: r : List zV).drop (kq_n q)) (fun a r => if kq_n q ≤ (x5 :: x4 :: x3 :: x2 :: x1 :: x0 :: .inr (some a) :: r : List zV).length ∧ r.length ≤ 8 then (@ite _ (zkr a (kq_c q)) (zkr_dec a (kq_c q)) ((C (kq_y q) (.inr (some a) :: ((x5 :: x4 :: x3 :: x2 :: x1 :: x0 :: .inr (some a) :: r : List zV).take (kq_n q)).reverse) I).bind (fun p => K (i + 1) L (if q % 2 = 1 then r else .inl p.1 :: r) p.2)) none) else none) = _
  rw [e2]
  show (if 6 ≤ (x5 :: x4 :: x3 :: x2 :: x1 :: x0 :: .inr (some a) :: r : List zV).length ∧ r.length ≤ 8 then (@ite _ (zkr a (kq_c q)) (zkr_dec a (kq_c q)) _ none) else none) = _
  rw [if_pos ⟨by simp, hl⟩, if_pos h]
  simp only [e3]
  rfl
theorem zs_ireturn {rt : Option FieldType} {C : Nat → List zV → zI → zO} {K : zK} {i : Nat} {L : List (Option zV)} {I : zI} {x : Int} : zs rt C K i L [.inl x] I .ireturn = zret rt x I := rfl
theorem zs_return {rt : Option FieldType} {C : Nat → List zV → zI → zO} {K : zK} {i : Nat} {L : List (Option zV)} {I : zI}  : zs rt C K i L [] I .return_ = zret0 rt I := rfl
theorem zl_0 {x : Int} {L : List (Option zV)} {f : Int → zO} : zl (some (.inl x) :: L) 0 f = f x := rfl
theorem zl_s {v : Option zV} {L : List (Option zV)} {k : Nat} {f : Int → zO} : zl (v :: L) (k + 1) f = zl L k f := rfl
theorem zlr_0 {x : Option Nat} {L : List (Option zV)} {f : Option Nat → zO} : zlr (some (.inr x) :: L) 0 f = f x := rfl
theorem zlr_s {v : Option zV} {L : List (Option zV)} {k : Nat} {f : Option Nat → zO} : zlr (v :: L) (k + 1) f = zlr L k f := rfl
theorem zsL_0 {v : zV} {w : Option zV} {L : List (Option zV)} : zsL (w :: L) 0 v = some v :: L := by simp [zsL]
theorem zsL_s {v : zV} {w : Option zV} {L : List (Option zV)} {k : Nat} : zsL (w :: L) (k + 1) v = w :: zsL L k v := by
  unfold zsL
  simp only [List.length_cons, Nat.add_lt_add_iff_right, List.set_cons_succ, Nat.add_sub_add_right]
  split <;> rfl
theorem zsL_n0 {v : zV} : zsL [] 0 v = [some v] := rfl
theorem zsL_ns {v : zV} {k : Nat} : zsL [] (k + 1) v = none :: zsL [] k v := by simp [zsL, List.replicate_succ]
theorem zo_s {a : Nat} {f : Nat → zO} : zo (some a) f = f a := rfl
theorem zsw_0 {x lo : Int} {k : Nat → zO} {d : zO} : zsw x k d [] lo = d := rfl
theorem zsw_s {x lo t : Int} {k : Nat → zO} {d : zO} {r : List Int} : zsw x k d (t :: r) lo = if x = lo then k t.toNat else zsw x k d r (lo + 1) := rfl
theorem zlk_0 {x : Int} {k : Nat → zO} {d : zO} : zlk x k d [] = d := rfl
theorem zlk_s {x a t : Int} {k : Nat → zO} {d : zO} {r : List (Int × Int)} : zlk x k d ((a, t) :: r) = if x = a then k t.toNat else zlk x k d r := rfl
theorem zret_i {x : Int} {I : zI} : zret (some .int) x I = some (x, I) := rfl
theorem zret_b {x : Int} {I : zI} : zret (some .boolean) x I = if x = 0 ∨ x = 1 then some (x, I) else none := rfl
theorem zret_b0 {I : zI} : zret (some .boolean) 0 I = some (0, I) := rfl
theorem zret_b1 {I : zI} : zret (some .boolean) 1 I = some (1, I) := rfl
theorem zret_n {I : zI} : zret0 none I = some (0, I) := rfl
theorem ze_s {rt : Option FieldType} {C : Nat → List zV → zI → zO} {D : zK} {cd : List Instr} {stops : List (Nat × Nat)} {f i : Nat} {L : List (Option zV)} {st : List zV} {I : zI} {ins : Instr} (h : cd[i]? = some ins) : ze rt C D cd stops (f + 1) i L st I = zs rt C (fun i L st I => match stf stops i with
      | none => ze rt C D cd stops f i L st I
      | some k => D i (L.take k) st I) i L st I ins := by
  conv => lhs; unfold ze
  rw [h]
theorem zkr_p {a c : Nat} (h : zkd a = (0, c)) (hc : ¬ c = 99) : zkr a c := by unfold zkr; rw [if_neg hc]; exact h
theorem zkr_S : zkr 1000002 99 := rfl
theorem up_s {I : zI} {k j : Nat} {x : Int} : up I k j x k j = x := if_pos ⟨rfl, rfl⟩
theorem up_c {I : zI} {k j a b : Nat} {x : Int} (h : ¬ a = k) : up I k j x a b = I a b := if_neg fun e => h e.1
theorem up_j {I : zI} {k j a b : Nat} {x : Int} (h : ¬ b = j) : up I k j x a b = I a b := if_neg fun e => h e.2
theorem cp_c {I : zI} {a b s d n x j : Nat} (h : ¬ x = b) : cp I a b s d n x j = I x j := by unfold cp; rw [if_neg h]
