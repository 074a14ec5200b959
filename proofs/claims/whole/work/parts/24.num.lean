/-! NUMBERS -/
theorem wr_id {z : Int} (h1 : -2147483648 ≤ z) (h2 : z < 2147483648) : wr z = z := Int.bmod_eq_of_le (by omega) (by omega)
theorem wr_lo (z : Int) : -2147483648 ≤ wr z := by
  have h := Int.le_bmod (x := z) (m := 4294967296) (by decide)
  unfold wr
  omega
theorem wr_hi (z : Int) : wr z < 2147483648 := by
  have h := Int.bmod_lt (x := z) (m := 4294967296) (by decide)
  unfold wr
  omega
theorem zdiv_nn {x y : Int} (h1 : 0 ≤ x) (h2 : x < 2147483648) (h3 : 0 < y) (h4 : y < 2147483648) : zdiv x y = x / y := by
  unfold zdiv
  have h5 := Int.ediv_nonneg h1 (Int.le_of_lt h3)
  have h6 := Int.ediv_le_self y h1
  rw [zi_div h1 h2 h3 h4, zi_T (by omega) (by omega)]
theorem zrem_nn {x y : Int} (h1 : 0 ≤ x) (h2 : x < 2147483648) (h3 : 0 < y) (h4 : y < 2147483648) : zrem x y = x % y := by
  unfold zrem
  have h5 := Int.emod_nonneg x (Int.ne_of_gt h3)
  have h6 := Int.emod_lt_of_pos x h3
  rw [zi_rem h1 h2 h3 h4, zi_T (by omega) (by omega)]
theorem zdiv_s {x y : Int} (h1 : -2147483648 ≤ x) (h2 : x < 2147483648) (h3 : 0 < y) (h4 : y < 2147483648) : zdiv x y = x.tdiv y := by
  unfold zdiv
  rw [Int32.toInt_div_of_ne_right _ _ (by rw [show (-1 : Int32) = Int32.ofInt (-1) from rfl, Ne, zi_eq (by omega) (by omega) (by omega) (by omega)]; omega), zi_T h1 h2, zi_T (by omega) h4]
theorem zrem_s {x y : Int} (h1 : -2147483648 ≤ x) (h2 : x < 2147483648) (h3 : 0 < y) (h4 : y < 2147483648) : zrem x y = wr (x - wr (x.tdiv y * y)) := by
  unfold zrem
  have h5 := zdiv_s h1 h2 h3 h4
  unfold zdiv at h5
  rw [t_sub, t_mul, h5, zi_T h1 h2, zi_T (by omega) h4]
/-- is an answer 0 or 1 asked back -/
theorem b01 {c : Prop} [Decidable c] : ((if c then (1 : Int) else 0) = 0) = ¬ c := by
  by_cases h : c <;> simp [h]
theorem b10 {c : Prop} [Decidable c] : ((if c then (1 : Int) else 0) = 1) = c := by
  by_cases h : c <;> simp [h]
/-! the cells of a kind -/
theorem r_44 : zRow 44 := ⟨zk_44, zp_44_0, zk_45⟩
theorem r_46 : zRow 46 := ⟨zk_46, zp_46_0, zk_47⟩
theorem r_50 : zRow 50 := ⟨zk_50, zp_50_0, zk_51⟩
theorem r_52 : zRow 52 := ⟨zk_52, zp_52_0, zk_53⟩
theorem r_54 : zRow 54 := ⟨zk_54, zp_54_0, zk_55⟩
theorem r_56 : zRow 56 := ⟨zk_56, zp_56_0, zk_57⟩
theorem r_58 : zRow 58 := ⟨zk_58, zp_58_0, zk_59⟩
theorem r_103 : zRow 103 := ⟨zk_103, zp_103_0, zk_104⟩
theorem r_105 : zRow 105 := ⟨zk_105, zp_105_0, zk_106⟩
theorem r_109 : zRow 109 := ⟨zk_109, zp_109_0, zk_110⟩
theorem r_111 : zRow 111 := ⟨zk_111, zp_111_0, zk_112⟩
theorem r_113 : zRow 113 := ⟨zk_113, zp_113_0, zk_114⟩
theorem r_115 : zRow 115 := ⟨zk_115, zp_115_0, zk_116⟩
theorem r_117 : zRow 117 := ⟨zk_117, zp_117_0, zk_118⟩
theorem tx_21 : zText 21 := ⟨zk_21, ⟨zp_21_0, zk_22⟩, ⟨zp_21_1, zk_23⟩, ⟨zp_21_2, zk_24⟩, ⟨zp_21_3, zk_25⟩⟩
theorem tx_29 : zText 29 := ⟨zk_29, ⟨zp_29_0, zk_30⟩, ⟨zp_29_1, zk_31⟩, ⟨zp_29_2, zk_32⟩, ⟨zp_29_3, zk_33⟩⟩
theorem tx_34 : zText 34 := ⟨zk_34, ⟨zp_34_0, zk_35⟩, ⟨zp_34_1, zk_36⟩, ⟨zp_34_2, zk_37⟩, ⟨zp_34_3, zk_38⟩⟩
theorem tx_39 : zText 39 := ⟨zk_39, ⟨zp_39_0, zk_40⟩, ⟨zp_39_1, zk_41⟩, ⟨zp_39_2, zk_42⟩, ⟨zp_39_3, zk_43⟩⟩
theorem tx_80 : zText 80 := ⟨zk_80, ⟨zp_80_0, zk_81⟩, ⟨zp_80_1, zk_82⟩, ⟨zp_80_2, zk_83⟩, ⟨zp_80_3, zk_84⟩⟩
theorem tx_88 : zText 88 := ⟨zk_88, ⟨zp_88_0, zk_89⟩, ⟨zp_88_1, zk_90⟩, ⟨zp_88_2, zk_91⟩, ⟨zp_88_3, zk_92⟩⟩
theorem tx_93 : zText 93 := ⟨zk_93, ⟨zp_93_0, zk_94⟩, ⟨zp_93_1, zk_95⟩, ⟨zp_93_2, zk_96⟩, ⟨zp_93_3, zk_97⟩⟩
theorem tx_98 : zText 98 := ⟨zk_98, ⟨zp_98_0, zk_99⟩, ⟨zp_98_1, zk_100⟩, ⟨zp_98_2, zk_101⟩, ⟨zp_98_3, zk_102⟩⟩
theorem tx_218 : zText 218 := ⟨zk_218, ⟨zp_218_0, zk_219⟩, ⟨zp_218_1, zk_220⟩, ⟨zp_218_2, zk_221⟩, ⟨zp_218_3, zk_222⟩⟩
theorem tx_226 : zText 226 := ⟨zk_226, ⟨zp_226_0, zk_227⟩, ⟨zp_226_1, zk_228⟩, ⟨zp_226_2, zk_229⟩, ⟨zp_226_3, zk_230⟩⟩
theorem fi_2 : zFirm 2 := ⟨zk_2, ⟨zp_2_6, zk_3⟩, ⟨zp_2_7, zk_4⟩, ⟨zp_2_8, zk_5⟩, ⟨zp_2_9, zk_6⟩, ⟨zp_2_10, zk_7⟩, ⟨zp_2_11, zk_8⟩, ⟨zp_2_12, zk_9⟩, ⟨zp_2_13, zk_10⟩, ⟨zp_2_14, zk_11⟩, ⟨zp_2_15, zk_12⟩, ⟨zp_2_16, zk_13⟩, ⟨zp_2_17, zk_14⟩⟩
theorem fi_61 : zFirm 61 := ⟨zk_61, ⟨zp_61_6, zk_62⟩, ⟨zp_61_7, zk_63⟩, ⟨zp_61_8, zk_64⟩, ⟨zp_61_9, zk_65⟩, ⟨zp_61_10, zk_66⟩, ⟨zp_61_11, zk_67⟩, ⟨zp_61_12, zk_68⟩, ⟨zp_61_13, zk_69⟩, ⟨zp_61_14, zk_70⟩, ⟨zp_61_15, zk_71⟩, ⟨zp_61_16, zk_72⟩, ⟨zp_61_17, zk_73⟩⟩
theorem fi_121 : zFirm 121 := ⟨zk_121, ⟨zp_121_6, zk_122⟩, ⟨zp_121_7, zk_123⟩, ⟨zp_121_8, zk_124⟩, ⟨zp_121_9, zk_125⟩, ⟨zp_121_10, zk_126⟩, ⟨zp_121_11, zk_127⟩, ⟨zp_121_12, zk_128⟩, ⟨zp_121_13, zk_129⟩, ⟨zp_121_14, zk_130⟩, ⟨zp_121_15, zk_131⟩, ⟨zp_121_16, zk_132⟩, ⟨zp_121_17, zk_133⟩⟩
theorem fi_134 : zFirm 134 := ⟨zk_134, ⟨zp_134_6, zk_135⟩, ⟨zp_134_7, zk_136⟩, ⟨zp_134_8, zk_137⟩, ⟨zp_134_9, zk_138⟩, ⟨zp_134_10, zk_139⟩, ⟨zp_134_11, zk_140⟩, ⟨zp_134_12, zk_141⟩, ⟨zp_134_13, zk_142⟩, ⟨zp_134_14, zk_143⟩, ⟨zp_134_15, zk_144⟩, ⟨zp_134_16, zk_145⟩, ⟨zp_134_17, zk_146⟩⟩
theorem fi_147 : zFirm 147 := ⟨zk_147, ⟨zp_147_6, zk_148⟩, ⟨zp_147_7, zk_149⟩, ⟨zp_147_8, zk_150⟩, ⟨zp_147_9, zk_151⟩, ⟨zp_147_10, zk_152⟩, ⟨zp_147_11, zk_153⟩, ⟨zp_147_12, zk_154⟩, ⟨zp_147_13, zk_155⟩, ⟨zp_147_14, zk_156⟩, ⟨zp_147_15, zk_157⟩, ⟨zp_147_16, zk_158⟩, ⟨zp_147_17, zk_159⟩⟩
theorem fi_160 : zFirm 160 := ⟨zk_160, ⟨zp_160_6, zk_161⟩, ⟨zp_160_7, zk_162⟩, ⟨zp_160_8, zk_163⟩, ⟨zp_160_9, zk_164⟩, ⟨zp_160_10, zk_165⟩, ⟨zp_160_11, zk_166⟩, ⟨zp_160_12, zk_167⟩, ⟨zp_160_13, zk_168⟩, ⟨zp_160_14, zk_169⟩, ⟨zp_160_15, zk_170⟩, ⟨zp_160_16, zk_171⟩, ⟨zp_160_17, zk_172⟩⟩
theorem fi_173 : zFirm 173 := ⟨zk_173, ⟨zp_173_6, zk_174⟩, ⟨zp_173_7, zk_175⟩, ⟨zp_173_8, zk_176⟩, ⟨zp_173_9, zk_177⟩, ⟨zp_173_10, zk_178⟩, ⟨zp_173_11, zk_179⟩, ⟨zp_173_12, zk_180⟩, ⟨zp_173_13, zk_181⟩, ⟨zp_173_14, zk_182⟩, ⟨zp_173_15, zk_183⟩, ⟨zp_173_16, zk_184⟩, ⟨zp_173_17, zk_185⟩⟩
theorem fi_186 : zFirm 186 := ⟨zk_186, ⟨zp_186_6, zk_187⟩, ⟨zp_186_7, zk_188⟩, ⟨zp_186_8, zk_189⟩, ⟨zp_186_9, zk_190⟩, ⟨zp_186_10, zk_191⟩, ⟨zp_186_11, zk_192⟩, ⟨zp_186_12, zk_193⟩, ⟨zp_186_13, zk_194⟩, ⟨zp_186_14, zk_195⟩, ⟨zp_186_15, zk_196⟩, ⟨zp_186_16, zk_197⟩, ⟨zp_186_17, zk_198⟩⟩
theorem fi_200 : zFirm 200 := ⟨zk_200, ⟨zp_200_6, zk_201⟩, ⟨zp_200_7, zk_202⟩, ⟨zp_200_8, zk_203⟩, ⟨zp_200_9, zk_204⟩, ⟨zp_200_10, zk_205⟩, ⟨zp_200_11, zk_206⟩, ⟨zp_200_12, zk_207⟩, ⟨zp_200_13, zk_208⟩, ⟨zp_200_14, zk_209⟩, ⟨zp_200_15, zk_210⟩, ⟨zp_200_16, zk_211⟩, ⟨zp_200_17, zk_212⟩⟩
/-- the firms that are kept -/
theorem fi_kept : ∀ k, k < 6 → zpt 120 k = some (121 + 13 * k) ∧ zFirm (121 + 13 * k)
  | 0, _ => ⟨by decide +kernel, fi_121⟩
  | 1, _ => ⟨by decide +kernel, fi_134⟩
  | 2, _ => ⟨by decide +kernel, fi_147⟩
  | 3, _ => ⟨by decide +kernel, fi_160⟩
  | 4, _ => ⟨by decide +kernel, fi_173⟩
  | 5, _ => ⟨by decide +kernel, fi_186⟩
  | n + 6, h => absurd h (by omega)
