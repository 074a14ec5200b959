def fm_6 (h : kH) (a w : Nat) : kH := fm_7 (uI (uI (uI (uI (uI (uI (uI (uI (uI (uI (uI (uI h w 48 (Int32.ofInt 110)) w 49 (Int32.ofInt 32)) w 50 (Int32.ofInt 119)) w 51 (Int32.ofInt 105)) w 52 (Int32.ofInt 108)) w 53 (Int32.ofInt 100)) w 54 (Int32.ofInt 32)) w 55 (Int32.ofInt 102)) w 56 (Int32.ofInt 105)) w 57 (Int32.ofInt 110)) w 58 (Int32.ofInt 101)) w 59 (Int32.ofInt 32)) a w
theorem hn_fm_6 (h : kH) (a w : Nat) : hn (fm_6 h a w) = hn h + 33 := by simp only [fm_6, hn_fm_7, hn_uI, hn_uP, hn_uN, Nat.add_assoc, Nat.reduceAdd]
set_option maxHeartbeats 1000000 in
set_option maxRecDepth 100000 in
theorem fs_6 {g : kG} {d a w : Nat} {h : kH} {Q : Int32 → kH → Prop} (ha : kO h a 11) (hw : kJ h w) (hl : kl h w = 138) (hm : hn h + 33 ≤ 1000000) (q : Q 0 (fm_6 h a w)) : Wz g 157 (d + 1) 229 9 2054 [some (.inr (some a))] [.inr (some w), .inr (some a)] h Q := by
  refine Wz_wqc [] (mc := 42) (ms := 13976) 48 (by decide) me_157 (by decide +kernel) ?_
  show wq g 157 d none 42 13976 kc_157 [] Q 48 9 2054 229 [some (.inr (some a))] [.inr (some w), .inr (some a)] h
  have t48 : (Int32.ofInt 48).toNatClampNeg = 48 := by decide +kernel
  have t49 : (Int32.ofInt 49).toNatClampNeg = 49 := by decide +kernel
  have t50 : (Int32.ofInt 50).toNatClampNeg = 50 := by decide +kernel
  have t51 : (Int32.ofInt 51).toNatClampNeg = 51 := by decide +kernel
  have t52 : (Int32.ofInt 52).toNatClampNeg = 52 := by decide +kernel
  have t53 : (Int32.ofInt 53).toNatClampNeg = 53 := by decide +kernel
  have t54 : (Int32.ofInt 54).toNatClampNeg = 54 := by decide +kernel
  have t55 : (Int32.ofInt 55).toNatClampNeg = 55 := by decide +kernel
  have t56 : (Int32.ofInt 56).toNatClampNeg = 56 := by decide +kernel
  have t57 : (Int32.ofInt 57).toNatClampNeg = 57 := by decide +kernel
  have t58 : (Int32.ofInt 58).toNatClampNeg = 58 := by decide +kernel
  have t59 : (Int32.ofInt 59).toNatClampNeg = 59 := by decide +kernel
  have v48 : vp_in (Int32.ofInt 48) 138 := zi_in (by omega) (by omega) (by omega)
  have s48 : ¬ Int32.ofInt 48 < 0 := by decide +kernel
  have v49 : vp_in (Int32.ofInt 49) 138 := zi_in (by omega) (by omega) (by omega)
  have s49 : ¬ Int32.ofInt 49 < 0 := by decide +kernel
  have v50 : vp_in (Int32.ofInt 50) 138 := zi_in (by omega) (by omega) (by omega)
  have s50 : ¬ Int32.ofInt 50 < 0 := by decide +kernel
  have v51 : vp_in (Int32.ofInt 51) 138 := zi_in (by omega) (by omega) (by omega)
  have s51 : ¬ Int32.ofInt 51 < 0 := by decide +kernel
  have v52 : vp_in (Int32.ofInt 52) 138 := zi_in (by omega) (by omega) (by omega)
  have s52 : ¬ Int32.ofInt 52 < 0 := by decide +kernel
  have v53 : vp_in (Int32.ofInt 53) 138 := zi_in (by omega) (by omega) (by omega)
  have s53 : ¬ Int32.ofInt 53 < 0 := by decide +kernel
  have v54 : vp_in (Int32.ofInt 54) 138 := zi_in (by omega) (by omega) (by omega)
  have s54 : ¬ Int32.ofInt 54 < 0 := by decide +kernel
  have v55 : vp_in (Int32.ofInt 55) 138 := zi_in (by omega) (by omega) (by omega)
  have s55 : ¬ Int32.ofInt 55 < 0 := by decide +kernel
  have v56 : vp_in (Int32.ofInt 56) 138 := zi_in (by omega) (by omega) (by omega)
  have s56 : ¬ Int32.ofInt 56 < 0 := by decide +kernel
  have v57 : vp_in (Int32.ofInt 57) 138 := zi_in (by omega) (by omega) (by omega)
  have s57 : ¬ Int32.ofInt 57 < 0 := by decide +kernel
  have v58 : vp_in (Int32.ofInt 58) 138 := zi_in (by omega) (by omega) (by omega)
  have s58 : ¬ Int32.ofInt 58 < 0 := by decide +kernel
  have v59 : vp_in (Int32.ofInt 59) 138 := zi_in (by omega) (by omega) (by omega)
  have s59 : ¬ Int32.ofInt 59 < 0 := by decide +kernel
  simp only [fx_229, fx_230, fx_231, fx_232, fx_233, fx_234, fx_235, fx_236, fx_237, fx_238, fx_239, fx_240, fx_241, fx_242, fx_243, fx_244, fx_245, fx_246, fx_247, fx_248, fx_249, fx_250, fx_251, fx_252, fx_253, fx_254, fx_255, fx_256, fx_257, fx_258, fx_259, fx_260, fx_261, fx_262, fx_263, fx_264, fx_265, fx_266, fx_267, fx_268, fx_269, fx_270, fx_271, fx_272, fx_273, fx_274, fx_275, fx_276, wq, sp_sipush, sp_iload, sp_aload, sp_istore, sp_astore, sp_iinc, sp_iadd, sp_isub, sp_imul, sp_idiv, sp_irem, sp_ineg, sp_iand, sp_ior, sp_ixor, sp_ishl, sp_ishr, sp_iushr, sp_i2c, sp_dup, sp_dup2, sp_pop, sp_ifCond, sp_if_icmp, sp_goto, sp_ifnonnull, sp_tableswitch, sp_lookupswitch, sp_getstatic, sp_ldc, sp_ldc_w, sp_getfield, sp_checkcast, sp_putfield, sp_putstatic, sp_iaload, sp_iastore, sp_aaload, sp_aastore, sp_baload, sp_arraylength, sp_newarray, sp_anewarray, sp_new, sp_monitorexit, sp_swap, sp_invokestatic, sp_invokevirtual, sp_invokespecial, sp_ireturn, sp_return_, stf, p1, p2, pr, lI, lR, sL, cz, krt, List.map_cons, List.map_nil, List.getElem?_cons_zero, List.getElem?_cons_succ, List.length_cons, List.length_nil, List.set_cons_zero, List.set_cons_succ, List.take_succ_cons, List.take_zero, List.drop_succ_cons, List.drop_zero, List.reverse_cons, List.reverse_nil, List.nil_append, List.cons_append, List.replicate_zero, Nat.reduceAdd, Nat.reduceLT, Nat.reduceLeDiff, Nat.reduceSub, Nat.reduceMul, kq_y, kq_c, kq_n, kf_c, kf_k, Nat.reduceDiv, Nat.reduceMod, if_true, if_false, ite_true, ite_false, Int.reduceToNat, Nat.reduceEqDiff, reduceIte, reduceCtorEq, false_implies, true_implies, implies_true, forall_const, t48, s48, t49, s49, t50, s50, t51, s51, t52, s52, t53, s53, t54, s54, t55, s55, t56, s56, t57, s57, t58, s58, t59, s59, v48, v49, v50, v51, v52, v53, v54, v55, v56, v57, v58, v59,  hn_uN, hn_uI, hn_uP, Nat.add_assoc, true_and, and_true, not_true_eq_false, not_false_eq_true, kO_uI, kO_uP, kJ_uI, kJ_uP, kl_uI, kl_uP, hw, hl]
  repeat' first
    | ((with_reducible show Q _ _); exact q)
    | with_reducible apply And.intro
    | with_reducible exact ha
    | with_reducible exact hw
    | with_reducible exact hl
    | (with_reducible show _ < _; omega)
    | (with_reducible show _ ≤ _; (try simp only [hn_uN, hn_uI, hn_uP]); omega)
    | (refine fs_7 ?_ ?_ ?_ ?_ q)
    | (refine kLe_O (h := h) ?_ ha; (repeat first | exact kLe_rf _ | refine kLe_I ?_ _ _ _ | refine kLe_P ?_ _ _ _ | refine kLe_N ?_ _ _); done)
    | (simp [ha, hn_uN, hn_uI, hn_uP, Nat.add_assoc, kO_uN, kJ_uN, kO_uI, kO_uP, kJ_uI, kJ_uP, kl_uI, kl_uP, kl_uN, hw, hl]; done)
def fm_5 (h : kH) (a w : Nat) : kH := fm_6 (uI (uI (uI (uI (uI (uI (uI (uI (uI (uI (uI (uI h w 36 (Int32.ofInt 104)) w 37 (Int32.ofInt 97)) w 38 (Int32.ofInt 110)) w 39 (Int32.ofInt 100)) w 40 (Int32.ofInt 32)) w 41 (Int32.ofInt 105)) w 42 (Int32.ofInt 110)) w 43 (Int32.ofInt 107)) w 44 (Int32.ofInt 32)) w 45 (Int32.ofInt 119)) w 46 (Int32.ofInt 111)) w 47 (Int32.ofInt 114)) a w
theorem hn_fm_5 (h : kH) (a w : Nat) : hn (fm_5 h a w) = hn h + 33 := by simp only [fm_5, hn_fm_6, hn_uI, hn_uP, hn_uN, Nat.add_assoc, Nat.reduceAdd]
set_option maxHeartbeats 1000000 in
set_option maxRecDepth 100000 in
theorem fs_5 {g : kG} {d a w : Nat} {h : kH} {Q : Int32 → kH → Prop} (ha : kO h a 11) (hw : kJ h w) (hl : kl h w = 138) (hm : hn h + 33 ≤ 1000000) (q : Q 0 (fm_5 h a w)) : Wz g 157 (d + 1) 181 9 2054 [some (.inr (some a))] [.inr (some w), .inr (some a)] h Q := by
  refine Wz_wqc [] (mc := 42) (ms := 13976) 48 (by decide) me_157 (by decide +kernel) ?_
  show wq g 157 d none 42 13976 kc_157 [] Q 48 9 2054 181 [some (.inr (some a))] [.inr (some w), .inr (some a)] h
  have t36 : (Int32.ofInt 36).toNatClampNeg = 36 := by decide +kernel
  have t37 : (Int32.ofInt 37).toNatClampNeg = 37 := by decide +kernel
  have t38 : (Int32.ofInt 38).toNatClampNeg = 38 := by decide +kernel
  have t39 : (Int32.ofInt 39).toNatClampNeg = 39 := by decide +kernel
  have t40 : (Int32.ofInt 40).toNatClampNeg = 40 := by decide +kernel
  have t41 : (Int32.ofInt 41).toNatClampNeg = 41 := by decide +kernel
  have t42 : (Int32.ofInt 42).toNatClampNeg = 42 := by decide +kernel
  have t43 : (Int32.ofInt 43).toNatClampNeg = 43 := by decide +kernel
  have t44 : (Int32.ofInt 44).toNatClampNeg = 44 := by decide +kernel
  have t45 : (Int32.ofInt 45).toNatClampNeg = 45 := by decide +kernel
  have t46 : (Int32.ofInt 46).toNatClampNeg = 46 := by decide +kernel
  have t47 : (Int32.ofInt 47).toNatClampNeg = 47 := by decide +kernel
  have v36 : vp_in (Int32.ofInt 36) 138 := zi_in (by omega) (by omega) (by omega)
  have s36 : ¬ Int32.ofInt 36 < 0 := by decide +kernel
  have v37 : vp_in (Int32.ofInt 37) 138 := zi_in (by omega) (by omega) (by omega)
  have s37 : ¬ Int32.ofInt 37 < 0 := by decide +kernel
  have v38 : vp_in (Int32.ofInt 38) 138 := zi_in (by omega) (by omega) (by omega)
  have s38 : ¬ Int32.ofInt 38 < 0 := by decide +kernel
  have v39 : vp_in (Int32.ofInt 39) 138 := zi_in (by omega) (by omega) (by omega)
  have s39 : ¬ Int32.ofInt 39 < 0 := by decide +kernel
  have v40 : vp_in (Int32.ofInt 40) 138 := zi_in (by omega) (by omega) (by omega)
  have s40 : ¬ Int32.ofInt 40 < 0 := by decide +kernel
  have v41 : vp_in (Int32.ofInt 41) 138 := zi_in (by omega) (by omega) (by omega)
  have s41 : ¬ Int32.ofInt 41 < 0 := by decide +kernel
  have v42 : vp_in (Int32.ofInt 42) 138 := zi_in (by omega) (by omega) (by omega)
  have s42 : ¬ Int32.ofInt 42 < 0 := by decide +kernel
  have v43 : vp_in (Int32.ofInt 43) 138 := zi_in (by omega) (by omega) (by omega)
  have s43 : ¬ Int32.ofInt 43 < 0 := by decide +kernel
  have v44 : vp_in (Int32.ofInt 44) 138 := zi_in (by omega) (by omega) (by omega)
  have s44 : ¬ Int32.ofInt 44 < 0 := by decide +kernel
  have v45 : vp_in (Int32.ofInt 45) 138 := zi_in (by omega) (by omega) (by omega)
  have s45 : ¬ Int32.ofInt 45 < 0 := by decide +kernel
  have v46 : vp_in (Int32.ofInt 46) 138 := zi_in (by omega) (by omega) (by omega)
  have s46 : ¬ Int32.ofInt 46 < 0 := by decide +kernel
  have v47 : vp_in (Int32.ofInt 47) 138 := zi_in (by omega) (by omega) (by omega)
  have s47 : ¬ Int32.ofInt 47 < 0 := by decide +kernel
  simp only [fx_181, fx_182, fx_183, fx_184, fx_185, fx_186, fx_187, fx_188, fx_189, fx_190, fx_191, fx_192, fx_193, fx_194, fx_195, fx_196, fx_197, fx_198, fx_199, fx_200, fx_201, fx_202, fx_203, fx_204, fx_205, fx_206, fx_207, fx_208, fx_209, fx_210, fx_211, fx_212, fx_213, fx_214, fx_215, fx_216, fx_217, fx_218, fx_219, fx_220, fx_221, fx_222, fx_223, fx_224, fx_225, fx_226, fx_227, fx_228, wq, sp_sipush, sp_iload, sp_aload, sp_istore, sp_astore, sp_iinc, sp_iadd, sp_isub, sp_imul, sp_idiv, sp_irem, sp_ineg, sp_iand, sp_ior, sp_ixor, sp_ishl, sp_ishr, sp_iushr, sp_i2c, sp_dup, sp_dup2, sp_pop, sp_ifCond, sp_if_icmp, sp_goto, sp_ifnonnull, sp_tableswitch, sp_lookupswitch, sp_getstatic, sp_ldc, sp_ldc_w, sp_getfield, sp_checkcast, sp_putfield, sp_putstatic, sp_iaload, sp_iastore, sp_aaload, sp_aastore, sp_baload, sp_arraylength, sp_newarray, sp_anewarray, sp_new, sp_monitorexit, sp_swap, sp_invokestatic, sp_invokevirtual, sp_invokespecial, sp_ireturn, sp_return_, stf, p1, p2, pr, lI, lR, sL, cz, krt, List.map_cons, List.map_nil, List.getElem?_cons_zero, List.getElem?_cons_succ, List.length_cons, List.length_nil, List.set_cons_zero, List.set_cons_succ, List.take_succ_cons, List.take_zero, List.drop_succ_cons, List.drop_zero, List.reverse_cons, List.reverse_nil, List.nil_append, List.cons_append, List.replicate_zero, Nat.reduceAdd, Nat.reduceLT, Nat.reduceLeDiff, Nat.reduceSub, Nat.reduceMul, kq_y, kq_c, kq_n, kf_c, kf_k, Nat.reduceDiv, Nat.reduceMod, if_true, if_false, ite_true, ite_false, Int.reduceToNat, Nat.reduceEqDiff, reduceIte, reduceCtorEq, false_implies, true_implies, implies_true, forall_const, t36, s36, t37, s37, t38, s38, t39, s39, t40, s40, t41, s41, t42, s42, t43, s43, t44, s44, t45, s45, t46, s46, t47, s47, v36, v37, v38, v39, v40, v41, v42, v43, v44, v45, v46, v47,  hn_uN, hn_uI, hn_uP, Nat.add_assoc, true_and, and_true, not_true_eq_false, not_false_eq_true, kO_uI, kO_uP, kJ_uI, kJ_uP, kl_uI, kl_uP, hw, hl]
  repeat' first
    | ((with_reducible show Q _ _); exact q)
    | with_reducible apply And.intro
    | with_reducible exact ha
    | with_reducible exact hw
    | with_reducible exact hl
    | (with_reducible show _ < _; omega)
    | (with_reducible show _ ≤ _; (try simp only [hn_uN, hn_uI, hn_uP]); omega)
    | (refine fs_6 ?_ ?_ ?_ ?_ q)
    | (refine kLe_O (h := h) ?_ ha; (repeat first | exact kLe_rf _ | refine kLe_I ?_ _ _ _ | refine kLe_P ?_ _ _ _ | refine kLe_N ?_ _ _); done)
    | (simp [ha, hn_uN, hn_uI, hn_uP, Nat.add_assoc, kO_uN, kJ_uN, kO_uI, kO_uP, kJ_uI, kJ_uP, kl_uI, kl_uP, kl_uN, hw, hl]; done)
def fm_4 (h : kH) (a w : Nat) : kH := fm_5 (uI (uI (uI (uI (uI (uI (uI (uI (uI (uI (uI (uI h w 24 (Int32.ofInt 32)) w 25 (Int32.ofInt 111)) w 26 (Int32.ofInt 114)) w 27 (Int32.ofInt 32)) w 28 (Int32.ofInt 97)) w 29 (Int32.ofInt 110)) w 30 (Int32.ofInt 100)) w 31 (Int32.ofInt 32)) w 32 (Int32.ofInt 110)) w 33 (Int32.ofInt 111)) w 34 (Int32.ofInt 116)) w 35 (Int32.ofInt 32)) a w
theorem hn_fm_4 (h : kH) (a w : Nat) : hn (fm_4 h a w) = hn h + 33 := by simp only [fm_4, hn_fm_5, hn_uI, hn_uP, hn_uN, Nat.add_assoc, Nat.reduceAdd]
set_option maxHeartbeats 1000000 in
set_option maxRecDepth 100000 in
theorem fs_4 {g : kG} {d a w : Nat} {h : kH} {Q : Int32 → kH → Prop} (ha : kO h a 11) (hw : kJ h w) (hl : kl h w = 138) (hm : hn h + 33 ≤ 1000000) (q : Q 0 (fm_4 h a w)) : Wz g 157 (d + 1) 133 9 2054 [some (.inr (some a))] [.inr (some w), .inr (some a)] h Q := by
  refine Wz_wqc [] (mc := 42) (ms := 13976) 48 (by decide) me_157 (by decide +kernel) ?_
  show wq g 157 d none 42 13976 kc_157 [] Q 48 9 2054 133 [some (.inr (some a))] [.inr (some w), .inr (some a)] h
  have t24 : (Int32.ofInt 24).toNatClampNeg = 24 := by decide +kernel
  have t25 : (Int32.ofInt 25).toNatClampNeg = 25 := by decide +kernel
  have t26 : (Int32.ofInt 26).toNatClampNeg = 26 := by decide +kernel
  have t27 : (Int32.ofInt 27).toNatClampNeg = 27 := by decide +kernel
  have t28 : (Int32.ofInt 28).toNatClampNeg = 28 := by decide +kernel
  have t29 : (Int32.ofInt 29).toNatClampNeg = 29 := by decide +kernel
  have t30 : (Int32.ofInt 30).toNatClampNeg = 30 := by decide +kernel
  have t31 : (Int32.ofInt 31).toNatClampNeg = 31 := by decide +kernel
  have t32 : (Int32.ofInt 32).toNatClampNeg = 32 := by decide +kernel
  have t33 : (Int32.ofInt 33).toNatClampNeg = 33 := by decide +kernel
  have t34 : (Int32.ofInt 34).toNatClampNeg = 34 := by decide +kernel
  have t35 : (Int32.ofInt 35).toNatClampNeg = 35 := by decide +kernel
  have v24 : vp_in (Int32.ofInt 24) 138 := zi_in (by omega) (by omega) (by omega)
  have s24 : ¬ Int32.ofInt 24 < 0 := by decide +kernel
  have v25 : vp_in (Int32.ofInt 25) 138 := zi_in (by omega) (by omega) (by omega)
  have s25 : ¬ Int32.ofInt 25 < 0 := by decide +kernel
  have v26 : vp_in (Int32.ofInt 26) 138 := zi_in (by omega) (by omega) (by omega)
  have s26 : ¬ Int32.ofInt 26 < 0 := by decide +kernel
  have v27 : vp_in (Int32.ofInt 27) 138 := zi_in (by omega) (by omega) (by omega)
  have s27 : ¬ Int32.ofInt 27 < 0 := by decide +kernel
  have v28 : vp_in (Int32.ofInt 28) 138 := zi_in (by omega) (by omega) (by omega)
  have s28 : ¬ Int32.ofInt 28 < 0 := by decide +kernel
  have v29 : vp_in (Int32.ofInt 29) 138 := zi_in (by omega) (by omega) (by omega)
  have s29 : ¬ Int32.ofInt 29 < 0 := by decide +kernel
  have v30 : vp_in (Int32.ofInt 30) 138 := zi_in (by omega) (by omega) (by omega)
  have s30 : ¬ Int32.ofInt 30 < 0 := by decide +kernel
  have v31 : vp_in (Int32.ofInt 31) 138 := zi_in (by omega) (by omega) (by omega)
  have s31 : ¬ Int32.ofInt 31 < 0 := by decide +kernel
  have v32 : vp_in (Int32.ofInt 32) 138 := zi_in (by omega) (by omega) (by omega)
  have s32 : ¬ Int32.ofInt 32 < 0 := by decide +kernel
  have v33 : vp_in (Int32.ofInt 33) 138 := zi_in (by omega) (by omega) (by omega)
  have s33 : ¬ Int32.ofInt 33 < 0 := by decide +kernel
  have v34 : vp_in (Int32.ofInt 34) 138 := zi_in (by omega) (by omega) (by omega)
  have s34 : ¬ Int32.ofInt 34 < 0 := by decide +kernel
  have v35 : vp_in (Int32.ofInt 35) 138 := zi_in (by omega) (by omega) (by omega)
  have s35 : ¬ Int32.ofInt 35 < 0 := by decide +kernel
  simp only [fx_133, fx_134, fx_135, fx_136, fx_137, fx_138, fx_139, fx_140, fx_141, fx_142, fx_143, fx_144, fx_145, fx_146, fx_147, fx_148, fx_149, fx_150, fx_151, fx_152, fx_153, fx_154, fx_155, fx_156, fx_157, fx_158, fx_159, fx_160, fx_161, fx_162, fx_163, fx_164, fx_165, fx_166, fx_167, fx_168, fx_169, fx_170, fx_171, fx_172, fx_173, fx_174, fx_175, fx_176, fx_177, fx_178, fx_179, fx_180, wq, sp_sipush, sp_iload, sp_aload, sp_istore, sp_astore, sp_iinc, sp_iadd, sp_isub, sp_imul, sp_idiv, sp_irem, sp_ineg, sp_iand, sp_ior, sp_ixor, sp_ishl, sp_ishr, sp_iushr, sp_i2c, sp_dup, sp_dup2, sp_pop, sp_ifCond, sp_if_icmp, sp_goto, sp_ifnonnull, sp_tableswitch, sp_lookupswitch, sp_getstatic, sp_ldc, sp_ldc_w, sp_getfield, sp_checkcast, sp_putfield, sp_putstatic, sp_iaload, sp_iastore, sp_aaload, sp_aastore, sp_baload, sp_arraylength, sp_newarray, sp_anewarray, sp_new, sp_monitorexit, sp_swap, sp_invokestatic, sp_invokevirtual, sp_invokespecial, sp_ireturn, sp_return_, stf, p1, p2, pr, lI, lR, sL, cz, krt, List.map_cons, List.map_nil, List.getElem?_cons_zero, List.getElem?_cons_succ, List.length_cons, List.length_nil, List.set_cons_zero, List.set_cons_succ, List.take_succ_cons, List.take_zero, List.drop_succ_cons, List.drop_zero, List.reverse_cons, List.reverse_nil, List.nil_append, List.cons_append, List.replicate_zero, Nat.reduceAdd, Nat.reduceLT, Nat.reduceLeDiff, Nat.reduceSub, Nat.reduceMul, kq_y, kq_c, kq_n, kf_c, kf_k, Nat.reduceDiv, Nat.reduceMod, if_true, if_false, ite_true, ite_false, Int.reduceToNat, Nat.reduceEqDiff, reduceIte, reduceCtorEq, false_implies, true_implies, implies_true, forall_const, t24, s24, t25, s25, t26, s26, t27, s27, t28, s28, t29, s29, t30, s30, t31, s31, t32, s32, t33, s33, t34, s34, t35, s35, v24, v25, v26, v27, v28, v29, v30, v31, v32, v33, v34, v35,  hn_uN, hn_uI, hn_uP, Nat.add_assoc, true_and, and_true, not_true_eq_false, not_false_eq_true, kO_uI, kO_uP, kJ_uI, kJ_uP, kl_uI, kl_uP, hw, hl]
  repeat' first
    | ((with_reducible show Q _ _); exact q)
    | with_reducible apply And.intro
    | with_reducible exact ha
    | with_reducible exact hw
    | with_reducible exact hl
    | (with_reducible show _ < _; omega)
    | (with_reducible show _ ≤ _; (try simp only [hn_uN, hn_uI, hn_uP]); omega)
    | (refine fs_5 ?_ ?_ ?_ ?_ q)
    | (refine kLe_O (h := h) ?_ ha; (repeat first | exact kLe_rf _ | refine kLe_I ?_ _ _ _ | refine kLe_P ?_ _ _ _ | refine kLe_N ?_ _ _); done)
    | (simp [ha, hn_uN, hn_uI, hn_uP, Nat.add_assoc, kO_uN, kJ_uN, kO_uI, kO_uP, kJ_uI, kJ_uP, kl_uI, kl_uP, kl_uN, hw, hl]; done)
def fm_3 (h : kH) (a w : Nat) : kH := fm_4 (uI (uI (uI (uI (uI (uI (uI (uI (uI (uI (uI (uI h w 12 (Int32.ofInt 115)) w 13 (Int32.ofInt 32)) w 14 (Int32.ofInt 108)) w 15 (Int32.ofInt 105)) w 16 (Int32.ofInt 102)) w 17 (Int32.ofInt 116)) w 18 (Int32.ofInt 115)) w 19 (Int32.ofInt 32)) w 20 (Int32.ofInt 119)) w 21 (Int32.ofInt 104)) w 22 (Int32.ofInt 101)) w 23 (Int32.ofInt 110)) a w
theorem hn_fm_3 (h : kH) (a w : Nat) : hn (fm_3 h a w) = hn h + 33 := by simp only [fm_3, hn_fm_4, hn_uI, hn_uP, hn_uN, Nat.add_assoc, Nat.reduceAdd]
set_option maxHeartbeats 1000000 in
set_option maxRecDepth 100000 in
theorem fs_3 {g : kG} {d a w : Nat} {h : kH} {Q : Int32 → kH → Prop} (ha : kO h a 11) (hw : kJ h w) (hl : kl h w = 138) (hm : hn h + 33 ≤ 1000000) (q : Q 0 (fm_3 h a w)) : Wz g 157 (d + 1) 85 9 2054 [some (.inr (some a))] [.inr (some w), .inr (some a)] h Q := by
  refine Wz_wqc [] (mc := 42) (ms := 13976) 48 (by decide) me_157 (by decide +kernel) ?_
  show wq g 157 d none 42 13976 kc_157 [] Q 48 9 2054 85 [some (.inr (some a))] [.inr (some w), .inr (some a)] h
  have t12 : (Int32.ofInt 12).toNatClampNeg = 12 := by decide +kernel
  have t13 : (Int32.ofInt 13).toNatClampNeg = 13 := by decide +kernel
  have t14 : (Int32.ofInt 14).toNatClampNeg = 14 := by decide +kernel
  have t15 : (Int32.ofInt 15).toNatClampNeg = 15 := by decide +kernel
  have t16 : (Int32.ofInt 16).toNatClampNeg = 16 := by decide +kernel
  have t17 : (Int32.ofInt 17).toNatClampNeg = 17 := by decide +kernel
  have t18 : (Int32.ofInt 18).toNatClampNeg = 18 := by decide +kernel
  have t19 : (Int32.ofInt 19).toNatClampNeg = 19 := by decide +kernel
  have t20 : (Int32.ofInt 20).toNatClampNeg = 20 := by decide +kernel
  have t21 : (Int32.ofInt 21).toNatClampNeg = 21 := by decide +kernel
  have t22 : (Int32.ofInt 22).toNatClampNeg = 22 := by decide +kernel
  have t23 : (Int32.ofInt 23).toNatClampNeg = 23 := by decide +kernel
  have v12 : vp_in (Int32.ofInt 12) 138 := zi_in (by omega) (by omega) (by omega)
  have s12 : ¬ Int32.ofInt 12 < 0 := by decide +kernel
  have v13 : vp_in (Int32.ofInt 13) 138 := zi_in (by omega) (by omega) (by omega)
  have s13 : ¬ Int32.ofInt 13 < 0 := by decide +kernel
  have v14 : vp_in (Int32.ofInt 14) 138 := zi_in (by omega) (by omega) (by omega)
  have s14 : ¬ Int32.ofInt 14 < 0 := by decide +kernel
  have v15 : vp_in (Int32.ofInt 15) 138 := zi_in (by omega) (by omega) (by omega)
  have s15 : ¬ Int32.ofInt 15 < 0 := by decide +kernel
  have v16 : vp_in (Int32.ofInt 16) 138 := zi_in (by omega) (by omega) (by omega)
  have s16 : ¬ Int32.ofInt 16 < 0 := by decide +kernel
  have v17 : vp_in (Int32.ofInt 17) 138 := zi_in (by omega) (by omega) (by omega)
  have s17 : ¬ Int32.ofInt 17 < 0 := by decide +kernel
  have v18 : vp_in (Int32.ofInt 18) 138 := zi_in (by omega) (by omega) (by omega)
  have s18 : ¬ Int32.ofInt 18 < 0 := by decide +kernel
  have v19 : vp_in (Int32.ofInt 19) 138 := zi_in (by omega) (by omega) (by omega)
  have s19 : ¬ Int32.ofInt 19 < 0 := by decide +kernel
  have v20 : vp_in (Int32.ofInt 20) 138 := zi_in (by omega) (by omega) (by omega)
  have s20 : ¬ Int32.ofInt 20 < 0 := by decide +kernel
  have v21 : vp_in (Int32.ofInt 21) 138 := zi_in (by omega) (by omega) (by omega)
  have s21 : ¬ Int32.ofInt 21 < 0 := by decide +kernel
  have v22 : vp_in (Int32.ofInt 22) 138 := zi_in (by omega) (by omega) (by omega)
  have s22 : ¬ Int32.ofInt 22 < 0 := by decide +kernel
  have v23 : vp_in (Int32.ofInt 23) 138 := zi_in (by omega) (by omega) (by omega)
  have s23 : ¬ Int32.ofInt 23 < 0 := by decide +kernel
  simp only [fx_85, fx_86, fx_87, fx_88, fx_89, fx_90, fx_91, fx_92, fx_93, fx_94, fx_95, fx_96, fx_97, fx_98, fx_99, fx_100, fx_101, fx_102, fx_103, fx_104, fx_105, fx_106, fx_107, fx_108, fx_109, fx_110, fx_111, fx_112, fx_113, fx_114, fx_115, fx_116, fx_117, fx_118, fx_119, fx_120, fx_121, fx_122, fx_123, fx_124, fx_125, fx_126, fx_127, fx_128, fx_129, fx_130, fx_131, fx_132, wq, sp_sipush, sp_iload, sp_aload, sp_istore, sp_astore, sp_iinc, sp_iadd, sp_isub, sp_imul, sp_idiv, sp_irem, sp_ineg, sp_iand, sp_ior, sp_ixor, sp_ishl, sp_ishr, sp_iushr, sp_i2c, sp_dup, sp_dup2, sp_pop, sp_ifCond, sp_if_icmp, sp_goto, sp_ifnonnull, sp_tableswitch, sp_lookupswitch, sp_getstatic, sp_ldc, sp_ldc_w, sp_getfield, sp_checkcast, sp_putfield, sp_putstatic, sp_iaload, sp_iastore, sp_aaload, sp_aastore, sp_baload, sp_arraylength, sp_newarray, sp_anewarray, sp_new, sp_monitorexit, sp_swap, sp_invokestatic, sp_invokevirtual, sp_invokespecial, sp_ireturn, sp_return_, stf, p1, p2, pr, lI, lR, sL, cz, krt, List.map_cons, List.map_nil, List.getElem?_cons_zero, List.getElem?_cons_succ, List.length_cons, List.length_nil, List.set_cons_zero, List.set_cons_succ, List.take_succ_cons, List.take_zero, List.drop_succ_cons, List.drop_zero, List.reverse_cons, List.reverse_nil, List.nil_append, List.cons_append, List.replicate_zero, Nat.reduceAdd, Nat.reduceLT, Nat.reduceLeDiff, Nat.reduceSub, Nat.reduceMul, kq_y, kq_c, kq_n, kf_c, kf_k, Nat.reduceDiv, Nat.reduceMod, if_true, if_false, ite_true, ite_false, Int.reduceToNat, Nat.reduceEqDiff, reduceIte, reduceCtorEq, false_implies, true_implies, implies_true, forall_const, t12, s12, t13, s13, t14, s14, t15, s15, t16, s16, t17, s17, t18, s18, t19, s19, t20, s20, t21, s21, t22, s22, t23, s23, v12, v13, v14, v15, v16, v17, v18, v19, v20, v21, v22, v23,  hn_uN, hn_uI, hn_uP, Nat.add_assoc, true_and, and_true, not_true_eq_false, not_false_eq_true, kO_uI, kO_uP, kJ_uI, kJ_uP, kl_uI, kl_uP, hw, hl]
  repeat' first
    | ((with_reducible show Q _ _); exact q)
    | with_reducible apply And.intro
    | with_reducible exact ha
    | with_reducible exact hw
    | with_reducible exact hl
    | (with_reducible show _ < _; omega)
    | (with_reducible show _ ≤ _; (try simp only [hn_uN, hn_uI, hn_uP]); omega)
    | (refine fs_4 ?_ ?_ ?_ ?_ q)
    | (refine kLe_O (h := h) ?_ ha; (repeat first | exact kLe_rf _ | refine kLe_I ?_ _ _ _ | refine kLe_P ?_ _ _ _ | refine kLe_N ?_ _ _); done)
    | (simp [ha, hn_uN, hn_uI, hn_uP, Nat.add_assoc, kO_uN, kJ_uN, kO_uI, kO_uP, kJ_uI, kJ_uP, kl_uI, kl_uP, kl_uN, hw, hl]; done)
def fm_2 (h : kH) (a w : Nat) : kH := fm_3 (uI (uI (uI (uI (uI (uI (uI (uI (uI (uI (uI (uI (uN h 1 138) (hn h) 0 (Int32.ofInt 32)) (hn h) 1 (Int32.ofInt 119)) (hn h) 2 (Int32.ofInt 114)) (hn h) 3 (Int32.ofInt 105)) (hn h) 4 (Int32.ofInt 116)) (hn h) 5 (Int32.ofInt 101)) (hn h) 6 (Int32.ofInt 115)) (hn h) 7 (Int32.ofInt 32)) (hn h) 8 (Int32.ofInt 98)) (hn h) 9 (Int32.ofInt 108)) (hn h) 10 (Int32.ofInt 111)) (hn h) 11 (Int32.ofInt 116)) a (hn h)
theorem hn_fm_2 (h : kH) (a w : Nat) : hn (fm_2 h a w) = hn h + 34 := by simp only [fm_2, hn_fm_3, hn_uI, hn_uP, hn_uN, Nat.add_assoc, Nat.reduceAdd]
set_option maxHeartbeats 1000000 in
set_option maxRecDepth 100000 in
theorem fs_2 {g : kG} {d a w : Nat} {h : kH} {Q : Int32 → kH → Prop} (ha : kO h a 11) (hm : hn h + 34 ≤ 1000000) (q : Q 0 (fm_2 h a w)) : Wz g 157 (d + 1) 34 8 1916 [some (.inr (some a))] [] h Q := by
  refine Wz_wqc [] (mc := 42) (ms := 13976) 51 (by decide) me_157 (by decide +kernel) ?_
  show wq g 157 d none 42 13976 kc_157 [] Q 51 8 1916 34 [some (.inr (some a))] [] h
  have t0 : (Int32.ofInt 0).toNatClampNeg = 0 := by decide +kernel
  have t1 : (Int32.ofInt 1).toNatClampNeg = 1 := by decide +kernel
  have t2 : (Int32.ofInt 2).toNatClampNeg = 2 := by decide +kernel
  have t3 : (Int32.ofInt 3).toNatClampNeg = 3 := by decide +kernel
  have t4 : (Int32.ofInt 4).toNatClampNeg = 4 := by decide +kernel
  have t5 : (Int32.ofInt 5).toNatClampNeg = 5 := by decide +kernel
  have t6 : (Int32.ofInt 6).toNatClampNeg = 6 := by decide +kernel
  have t7 : (Int32.ofInt 7).toNatClampNeg = 7 := by decide +kernel
  have t8 : (Int32.ofInt 8).toNatClampNeg = 8 := by decide +kernel
  have t9 : (Int32.ofInt 9).toNatClampNeg = 9 := by decide +kernel
  have t10 : (Int32.ofInt 10).toNatClampNeg = 10 := by decide +kernel
  have t11 : (Int32.ofInt 11).toNatClampNeg = 11 := by decide +kernel
  have t138 : (Int32.ofInt 138).toNatClampNeg = 138 := by decide +kernel
  have v0 : vp_in (Int32.ofInt 0) 138 := zi_in (by omega) (by omega) (by omega)
  have s0 : ¬ Int32.ofInt 0 < 0 := by decide +kernel
  have v1 : vp_in (Int32.ofInt 1) 138 := zi_in (by omega) (by omega) (by omega)
  have s1 : ¬ Int32.ofInt 1 < 0 := by decide +kernel
  have v2 : vp_in (Int32.ofInt 2) 138 := zi_in (by omega) (by omega) (by omega)
  have s2 : ¬ Int32.ofInt 2 < 0 := by decide +kernel
  have v3 : vp_in (Int32.ofInt 3) 138 := zi_in (by omega) (by omega) (by omega)
  have s3 : ¬ Int32.ofInt 3 < 0 := by decide +kernel
  have v4 : vp_in (Int32.ofInt 4) 138 := zi_in (by omega) (by omega) (by omega)
  have s4 : ¬ Int32.ofInt 4 < 0 := by decide +kernel
  have v5 : vp_in (Int32.ofInt 5) 138 := zi_in (by omega) (by omega) (by omega)
  have s5 : ¬ Int32.ofInt 5 < 0 := by decide +kernel
  have v6 : vp_in (Int32.ofInt 6) 138 := zi_in (by omega) (by omega) (by omega)
  have s6 : ¬ Int32.ofInt 6 < 0 := by decide +kernel
  have v7 : vp_in (Int32.ofInt 7) 138 := zi_in (by omega) (by omega) (by omega)
  have s7 : ¬ Int32.ofInt 7 < 0 := by decide +kernel
  have v8 : vp_in (Int32.ofInt 8) 138 := zi_in (by omega) (by omega) (by omega)
  have s8 : ¬ Int32.ofInt 8 < 0 := by decide +kernel
  have v9 : vp_in (Int32.ofInt 9) 138 := zi_in (by omega) (by omega) (by omega)
  have s9 : ¬ Int32.ofInt 9 < 0 := by decide +kernel
  have v10 : vp_in (Int32.ofInt 10) 138 := zi_in (by omega) (by omega) (by omega)
  have s10 : ¬ Int32.ofInt 10 < 0 := by decide +kernel
  have v11 : vp_in (Int32.ofInt 11) 138 := zi_in (by omega) (by omega) (by omega)
  have s11 : ¬ Int32.ofInt 11 < 0 := by decide +kernel
  have s138 : ¬ Int32.ofInt 138 < 0 := by decide +kernel
  simp only [fx_34, fx_35, fx_36, fx_37, fx_38, fx_39, fx_40, fx_41, fx_42, fx_43, fx_44, fx_45, fx_46, fx_47, fx_48, fx_49, fx_50, fx_51, fx_52, fx_53, fx_54, fx_55, fx_56, fx_57, fx_58, fx_59, fx_60, fx_61, fx_62, fx_63, fx_64, fx_65, fx_66, fx_67, fx_68, fx_69, fx_70, fx_71, fx_72, fx_73, fx_74, fx_75, fx_76, fx_77, fx_78, fx_79, fx_80, fx_81, fx_82, fx_83, fx_84, wq, sp_sipush, sp_iload, sp_aload, sp_istore, sp_astore, sp_iinc, sp_iadd, sp_isub, sp_imul, sp_idiv, sp_irem, sp_ineg, sp_iand, sp_ior, sp_ixor, sp_ishl, sp_ishr, sp_iushr, sp_i2c, sp_dup, sp_dup2, sp_pop, sp_ifCond, sp_if_icmp, sp_goto, sp_ifnonnull, sp_tableswitch, sp_lookupswitch, sp_getstatic, sp_ldc, sp_ldc_w, sp_getfield, sp_checkcast, sp_putfield, sp_putstatic, sp_iaload, sp_iastore, sp_aaload, sp_aastore, sp_baload, sp_arraylength, sp_newarray, sp_anewarray, sp_new, sp_monitorexit, sp_swap, sp_invokestatic, sp_invokevirtual, sp_invokespecial, sp_ireturn, sp_return_, stf, p1, p2, pr, lI, lR, sL, cz, krt, List.map_cons, List.map_nil, List.getElem?_cons_zero, List.getElem?_cons_succ, List.length_cons, List.length_nil, List.set_cons_zero, List.set_cons_succ, List.take_succ_cons, List.take_zero, List.drop_succ_cons, List.drop_zero, List.reverse_cons, List.reverse_nil, List.nil_append, List.cons_append, List.replicate_zero, Nat.reduceAdd, Nat.reduceLT, Nat.reduceLeDiff, Nat.reduceSub, Nat.reduceMul, kq_y, kq_c, kq_n, kf_c, kf_k, Nat.reduceDiv, Nat.reduceMod, if_true, if_false, ite_true, ite_false, Int.reduceToNat, Nat.reduceEqDiff, reduceIte, reduceCtorEq, false_implies, true_implies, implies_true, forall_const, t0, s0, t1, s1, t2, s2, t3, s3, t4, s4, t5, s5, t6, s6, t7, s7, t8, s8, t9, s9, t10, s10, t11, s11, t138, s138, v0, v1, v2, v3, v4, v5, v6, v7, v8, v9, v10, v11,  hn_uN, hn_uI, hn_uP, Nat.add_assoc, true_and, and_true, not_true_eq_false, not_false_eq_true, kO_uI, kO_uP, kJ_uI, kJ_uP, kl_uI, kl_uP]
  have zln : kl (uN h 1 138) (hn h) = 138 := by rw [kl_uN, if_pos rfl]
  repeat' first
    | (rw [zln]; with_reducible assumption)
    | ((with_reducible show Q _ _); exact q)
    | with_reducible apply And.intro
    | with_reducible exact ha
    | (with_reducible show _ < _; omega)
    | (with_reducible show _ ≤ _; (try simp only [hn_uN, hn_uI, hn_uP]); omega)
    | (refine fs_3 ?_ ?_ ?_ ?_ q)
    | (refine kLe_O (h := h) ?_ ha; (repeat first | exact kLe_rf _ | refine kLe_I ?_ _ _ _ | refine kLe_P ?_ _ _ _ | refine kLe_N ?_ _ _); done)
    | (simp [ha, hn_uN, hn_uI, hn_uP, Nat.add_assoc, kO_uN, kJ_uN, kO_uI, kO_uP, kJ_uI, kJ_uP, kl_uI, kl_uP, kl_uN]; done)
def fm_1 (h : kH) (a w : Nat) : kH := fm_2 (uP (uN h 1 400) a 13 (some (hn h))) a w
theorem hn_fm_1 (h : kH) (a w : Nat) : hn (fm_1 h a w) = hn h + 35 := by simp only [fm_1, hn_fm_2, hn_uI, hn_uP, hn_uN, Nat.add_assoc, Nat.reduceAdd]
set_option maxHeartbeats 1000000 in
set_option maxRecDepth 100000 in
theorem fs_1 {g : kG} {d a w : Nat} {h : kH} {Q : Int32 → kH → Prop} (ha : kO h a 11) (hm : hn h + 35 ≤ 1000000) (q : Q 0 (fm_1 h a w)) : Wz g 157 (d + 1) 30 7 1516 [some (.inr (some a))] [] h Q := by
  refine Wz_wqc [] (mc := 42) (ms := 13976) 4 (by decide) me_157 (by decide +kernel) ?_
  show wq g 157 d none 42 13976 kc_157 [] Q 4 7 1516 30 [some (.inr (some a))] [] h
  have t400 : (Int32.ofInt 400).toNatClampNeg = 400 := by decide +kernel
  have s400 : ¬ Int32.ofInt 400 < 0 := by decide +kernel
  simp only [fx_30, fx_31, fx_32, fx_33, wq, sp_sipush, sp_iload, sp_aload, sp_istore, sp_astore, sp_iinc, sp_iadd, sp_isub, sp_imul, sp_idiv, sp_irem, sp_ineg, sp_iand, sp_ior, sp_ixor, sp_ishl, sp_ishr, sp_iushr, sp_i2c, sp_dup, sp_dup2, sp_pop, sp_ifCond, sp_if_icmp, sp_goto, sp_ifnonnull, sp_tableswitch, sp_lookupswitch, sp_getstatic, sp_ldc, sp_ldc_w, sp_getfield, sp_checkcast, sp_putfield, sp_putstatic, sp_iaload, sp_iastore, sp_aaload, sp_aastore, sp_baload, sp_arraylength, sp_newarray, sp_anewarray, sp_new, sp_monitorexit, sp_swap, sp_invokestatic, sp_invokevirtual, sp_invokespecial, sp_ireturn, sp_return_, stf, p1, p2, pr, lI, lR, sL, cz, krt, List.map_cons, List.map_nil, List.getElem?_cons_zero, List.getElem?_cons_succ, List.length_cons, List.length_nil, List.set_cons_zero, List.set_cons_succ, List.take_succ_cons, List.take_zero, List.drop_succ_cons, List.drop_zero, List.reverse_cons, List.reverse_nil, List.nil_append, List.cons_append, List.replicate_zero, Nat.reduceAdd, Nat.reduceLT, Nat.reduceLeDiff, Nat.reduceSub, Nat.reduceMul, kq_y, kq_c, kq_n, kf_c, kf_k, Nat.reduceDiv, Nat.reduceMod, if_true, if_false, ite_true, ite_false, Int.reduceToNat, Nat.reduceEqDiff, reduceIte, reduceCtorEq, false_implies, true_implies, implies_true, forall_const, t400, s400,  hn_uN, hn_uI, hn_uP, Nat.add_assoc, true_and, and_true, not_true_eq_false, not_false_eq_true, kO_uI, kO_uP, kJ_uI, kJ_uP, kl_uI, kl_uP]
  repeat' first
    | ((with_reducible show Q _ _); exact q)
    | with_reducible apply And.intro
    | with_reducible exact ha
    | (with_reducible show _ < _; omega)
    | (with_reducible show _ ≤ _; (try simp only [hn_uN, hn_uI, hn_uP]); omega)
    | (refine fs_2 ?_ ?_ q)
    | (refine kLe_O (h := h) ?_ ha; (repeat first | exact kLe_rf _ | refine kLe_I ?_ _ _ _ | refine kLe_P ?_ _ _ _ | refine kLe_N ?_ _ _); done)
    | (simp [ha, hn_uN, hn_uI, hn_uP, Nat.add_assoc, kO_uN, kJ_uN, kO_uI, kO_uP, kJ_uI, kJ_uP, kl_uI, kl_uP, kl_uN]; done)
def fm_0 (h : kH) (a w : Nat) : kH := fm_1 (uP (uN (uP (uN (uP (uN (uP (uN (uP (uN (uP (uN (uP (uN h 1 110) a 1 (some (hn h))) 1 660) a 2 (some (hn h + 1))) 1 110) a 4 (some (hn h + 2))) 1 14) a 9 (some (hn h + 3))) 1 10) a 10 (some (hn h + 4))) 1 12) a 11 (some (hn h + 5))) 1 600) a 12 (some (hn h + 6))) a w
theorem hn_fm_0 (h : kH) (a w : Nat) : hn (fm_0 h a w) = hn h + 42 := by simp only [fm_0, hn_fm_1, hn_uI, hn_uP, hn_uN, Nat.add_assoc, Nat.reduceAdd]
set_option maxHeartbeats 1000000 in
set_option maxRecDepth 100000 in
theorem fs_0 {g : kG} {d a w : Nat} {h : kH} {Q : Int32 → kH → Prop} (ha : kO h a 11) (hm : hn h + 42 ≤ 1000000) (q : Q 0 (fm_0 h a w)) : Wz g 157 (d + 1) 0 0 0 [some (.inr (some a))] [] h Q := by
  refine Wz_wqc [] (mc := 42) (ms := 13976) 30 (by decide) me_157 (by decide +kernel) ?_
  show wq g 157 d none 42 13976 kc_157 [] Q 30 0 0 0 [some (.inr (some a))] [] h
  have t10 : (Int32.ofInt 10).toNatClampNeg = 10 := by decide +kernel
  have t12 : (Int32.ofInt 12).toNatClampNeg = 12 := by decide +kernel
  have t14 : (Int32.ofInt 14).toNatClampNeg = 14 := by decide +kernel
  have t110 : (Int32.ofInt 110).toNatClampNeg = 110 := by decide +kernel
  have t600 : (Int32.ofInt 600).toNatClampNeg = 600 := by decide +kernel
  have t660 : (Int32.ofInt 660).toNatClampNeg = 660 := by decide +kernel
  have s10 : ¬ Int32.ofInt 10 < 0 := by decide +kernel
  have s12 : ¬ Int32.ofInt 12 < 0 := by decide +kernel
  have s14 : ¬ Int32.ofInt 14 < 0 := by decide +kernel
  have s110 : ¬ Int32.ofInt 110 < 0 := by decide +kernel
  have s600 : ¬ Int32.ofInt 600 < 0 := by decide +kernel
  have s660 : ¬ Int32.ofInt 660 < 0 := by decide +kernel
  simp only [fx_0, fx_1, fx_2, fx_3, fx_4, fx_5, fx_6, fx_7, fx_8, fx_9, fx_10, fx_11, fx_12, fx_13, fx_14, fx_15, fx_16, fx_17, fx_18, fx_19, fx_20, fx_21, fx_22, fx_23, fx_24, fx_25, fx_26, fx_27, fx_28, fx_29, wq, sp_sipush, sp_iload, sp_aload, sp_istore, sp_astore, sp_iinc, sp_iadd, sp_isub, sp_imul, sp_idiv, sp_irem, sp_ineg, sp_iand, sp_ior, sp_ixor, sp_ishl, sp_ishr, sp_iushr, sp_i2c, sp_dup, sp_dup2, sp_pop, sp_ifCond, sp_if_icmp, sp_goto, sp_ifnonnull, sp_tableswitch, sp_lookupswitch, sp_getstatic, sp_ldc, sp_ldc_w, sp_getfield, sp_checkcast, sp_putfield, sp_putstatic, sp_iaload, sp_iastore, sp_aaload, sp_aastore, sp_baload, sp_arraylength, sp_newarray, sp_anewarray, sp_new, sp_monitorexit, sp_swap, sp_invokestatic, sp_invokevirtual, sp_invokespecial, sp_ireturn, sp_return_, stf, p1, p2, pr, lI, lR, sL, cz, krt, List.map_cons, List.map_nil, List.getElem?_cons_zero, List.getElem?_cons_succ, List.length_cons, List.length_nil, List.set_cons_zero, List.set_cons_succ, List.take_succ_cons, List.take_zero, List.drop_succ_cons, List.drop_zero, List.reverse_cons, List.reverse_nil, List.nil_append, List.cons_append, List.replicate_zero, Nat.reduceAdd, Nat.reduceLT, Nat.reduceLeDiff, Nat.reduceSub, Nat.reduceMul, kq_y, kq_c, kq_n, kf_c, kf_k, Nat.reduceDiv, Nat.reduceMod, if_true, if_false, ite_true, ite_false, Int.reduceToNat, Nat.reduceEqDiff, reduceIte, reduceCtorEq, false_implies, true_implies, implies_true, forall_const, t10, s10, t12, s12, t14, s14, t110, s110, t600, s600, t660, s660,  hn_uN, hn_uI, hn_uP, Nat.add_assoc, true_and, and_true, not_true_eq_false, not_false_eq_true, kO_uI, kO_uP, kJ_uI, kJ_uP, kl_uI, kl_uP]
  repeat' first
    | ((with_reducible show Q _ _); exact q)
    | with_reducible apply And.intro
    | with_reducible exact ha
    | (with_reducible show _ < _; omega)
    | (with_reducible show _ ≤ _; (try simp only [hn_uN, hn_uI, hn_uP]); omega)
    | (refine fs_1 ?_ ?_ q)
    | (refine kLe_O (h := h) ?_ ha; (repeat first | exact kLe_rf _ | refine kLe_I ?_ _ _ _ | refine kLe_P ?_ _ _ _ | refine kLe_N ?_ _ _); done)
    | (simp [ha, hn_uN, hn_uI, hn_uP, Nat.add_assoc, kO_uN, kJ_uN, kO_uI, kO_uP, kJ_uI, kJ_uP, kl_uI, kl_uP, kl_uN]; done)
def kc_X11_init (h : kH) (a : Nat) : kH := fm_0 h a 0
theorem ks_X11_init {g : kG} {d a : Nat} {h : kH} {Q : Int32 → kH → Prop} (ha : kO h a 11) (hm : hn h + 42 ≤ 1000000) (q : Q 0 (kc_X11_init h a)) : Ev g 157 (d + 1) (.inr (some a) :: []) h Q := by
  obtain ⟨e1, e2⟩ : kL 157 = 1 ∧ True := ⟨by unfold kL; rw [me_157], trivial⟩
  exact Ev_of (by decide) (by rw [e1]; exact Nat.le_refl _) (fs_0 (w := 0) ha hm q)
