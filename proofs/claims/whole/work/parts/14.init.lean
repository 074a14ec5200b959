def fm_12 (h : kH) (a w : Nat) : kH := fm_13 (uI (uI (uI (uI (uI (uI (uI (uI (uI (uI (uI (uI h w 120 (Int32.ofInt 101)) w 121 (Int32.ofInt 115)) w 122 (Int32.ofInt 116)) w 123 (Int32.ofInt 32)) w 124 (Int32.ofInt 100)) w 125 (Int32.ofInt 105)) w 126 (Int32.ofInt 112)) w 127 (Int32.ofInt 32)) w 128 (Int32.ofInt 99)) w 129 (Int32.ofInt 117)) w 130 (Int32.ofInt 116)) w 131 (Int32.ofInt 32)) a w
theorem hn_fm_12 (h : kH) (a w : Nat) : hn (fm_12 h a w) = hn h + 33 := by simp only [fm_12, hn_fm_13, hn_uI, hn_uP, hn_uN, Nat.add_assoc, Nat.reduceAdd]
set_option maxHeartbeats 1000000 in
set_option maxRecDepth 100000 in
theorem fs_12 {g : kG} {d a w : Nat} {h : kH} {Q : Int32 → kH → Prop} (ha : kO h a 11) (hw : kJ h w) (hl : kl h w = 138) (hm : hn h + 33 ≤ 1000000) (q : Q 0 (fm_12 h a w)) : Wz g 157 (d + 1) 517 9 2054 [some (.inr (some a))] [.inr (some w), .inr (some a)] h Q := by
  refine Wz_wqc [] (mc := 42) (ms := 13976) 48 (by decide) me_157 (by decide +kernel) ?_
  show wq g 157 d none 42 13976 kc_157 [] Q 48 9 2054 517 [some (.inr (some a))] [.inr (some w), .inr (some a)] h
  have t120 : (Int32.ofInt 120).toNatClampNeg = 120 := by decide +kernel
  have t121 : (Int32.ofInt 121).toNatClampNeg = 121 := by decide +kernel
  have t122 : (Int32.ofInt 122).toNatClampNeg = 122 := by decide +kernel
  have t123 : (Int32.ofInt 123).toNatClampNeg = 123 := by decide +kernel
  have t124 : (Int32.ofInt 124).toNatClampNeg = 124 := by decide +kernel
  have t125 : (Int32.ofInt 125).toNatClampNeg = 125 := by decide +kernel
  have t126 : (Int32.ofInt 126).toNatClampNeg = 126 := by decide +kernel
  have t127 : (Int32.ofInt 127).toNatClampNeg = 127 := by decide +kernel
  have t128 : (Int32.ofInt 128).toNatClampNeg = 128 := by decide +kernel
  have t129 : (Int32.ofInt 129).toNatClampNeg = 129 := by decide +kernel
  have t130 : (Int32.ofInt 130).toNatClampNeg = 130 := by decide +kernel
  have t131 : (Int32.ofInt 131).toNatClampNeg = 131 := by decide +kernel
  have v120 : vp_in (Int32.ofInt 120) 138 := zi_in (by omega) (by omega) (by omega)
  have s120 : ¬ Int32.ofInt 120 < 0 := by decide +kernel
  have v121 : vp_in (Int32.ofInt 121) 138 := zi_in (by omega) (by omega) (by omega)
  have s121 : ¬ Int32.ofInt 121 < 0 := by decide +kernel
  have v122 : vp_in (Int32.ofInt 122) 138 := zi_in (by omega) (by omega) (by omega)
  have s122 : ¬ Int32.ofInt 122 < 0 := by decide +kernel
  have v123 : vp_in (Int32.ofInt 123) 138 := zi_in (by omega) (by omega) (by omega)
  have s123 : ¬ Int32.ofInt 123 < 0 := by decide +kernel
  have v124 : vp_in (Int32.ofInt 124) 138 := zi_in (by omega) (by omega) (by omega)
  have s124 : ¬ Int32.ofInt 124 < 0 := by decide +kernel
  have v125 : vp_in (Int32.ofInt 125) 138 := zi_in (by omega) (by omega) (by omega)
  have s125 : ¬ Int32.ofInt 125 < 0 := by decide +kernel
  have v126 : vp_in (Int32.ofInt 126) 138 := zi_in (by omega) (by omega) (by omega)
  have s126 : ¬ Int32.ofInt 126 < 0 := by decide +kernel
  have v127 : vp_in (Int32.ofInt 127) 138 := zi_in (by omega) (by omega) (by omega)
  have s127 : ¬ Int32.ofInt 127 < 0 := by decide +kernel
  have v128 : vp_in (Int32.ofInt 128) 138 := zi_in (by omega) (by omega) (by omega)
  have s128 : ¬ Int32.ofInt 128 < 0 := by decide +kernel
  have v129 : vp_in (Int32.ofInt 129) 138 := zi_in (by omega) (by omega) (by omega)
  have s129 : ¬ Int32.ofInt 129 < 0 := by decide +kernel
  have v130 : vp_in (Int32.ofInt 130) 138 := zi_in (by omega) (by omega) (by omega)
  have s130 : ¬ Int32.ofInt 130 < 0 := by decide +kernel
  have v131 : vp_in (Int32.ofInt 131) 138 := zi_in (by omega) (by omega) (by omega)
  have s131 : ¬ Int32.ofInt 131 < 0 := by decide +kernel
  simp only [fx_517, fx_518, fx_519, fx_520, fx_521, fx_522, fx_523, fx_524, fx_525, fx_526, fx_527, fx_528, fx_529, fx_530, fx_531, fx_532, fx_533, fx_534, fx_535, fx_536, fx_537, fx_538, fx_539, fx_540, fx_541, fx_542, fx_543, fx_544, fx_545, fx_546, fx_547, fx_548, fx_549, fx_550, fx_551, fx_552, fx_553, fx_554, fx_555, fx_556, fx_557, fx_558, fx_559, fx_560, fx_561, fx_562, fx_563, fx_564, wq, sp_sipush, sp_iload, sp_aload, sp_istore, sp_astore, sp_iinc, sp_iadd, sp_isub, sp_imul, sp_idiv, sp_irem, sp_ineg, sp_iand, sp_ior, sp_ixor, sp_ishl, sp_ishr, sp_iushr, sp_i2c, sp_dup, sp_dup2, sp_pop, sp_ifCond, sp_if_icmp, sp_goto, sp_ifnonnull, sp_tableswitch, sp_lookupswitch, sp_getstatic, sp_ldc, sp_ldc_w, sp_getfield, sp_checkcast, sp_putfield, sp_putstatic, sp_iaload, sp_iastore, sp_aaload, sp_aastore, sp_baload, sp_arraylength, sp_newarray, sp_anewarray, sp_new, sp_monitorexit, sp_swap, sp_invokestatic, sp_invokevirtual, sp_invokespecial, sp_ireturn, sp_return_, stf, p1, p2, pr, lI, lR, sL, cz, krt, List.map_cons, List.map_nil, List.getElem?_cons_zero, List.getElem?_cons_succ, List.length_cons, List.length_nil, List.set_cons_zero, List.set_cons_succ, List.take_succ_cons, List.take_zero, List.drop_succ_cons, List.drop_zero, List.reverse_cons, List.reverse_nil, List.nil_append, List.cons_append, List.replicate_zero, Nat.reduceAdd, Nat.reduceLT, Nat.reduceLeDiff, Nat.reduceSub, Nat.reduceMul, kq_y, kq_c, kq_n, kf_c, kf_k, Nat.reduceDiv, Nat.reduceMod, if_true, if_false, ite_true, ite_false, Int.reduceToNat, Nat.reduceEqDiff, reduceIte, reduceCtorEq, false_implies, true_implies, implies_true, forall_const, t120, s120, t121, s121, t122, s122, t123, s123, t124, s124, t125, s125, t126, s126, t127, s127, t128, s128, t129, s129, t130, s130, t131, s131, v120, v121, v122, v123, v124, v125, v126, v127, v128, v129, v130, v131,  hn_uN, hn_uI, hn_uP, Nat.add_assoc, true_and, and_true, not_true_eq_false, not_false_eq_true, kO_uI, kO_uP, kJ_uI, kJ_uP, kl_uI, kl_uP, hw, hl]
  repeat' first
    | ((with_reducible show Q _ _); exact q)
    | with_reducible apply And.intro
    | with_reducible exact ha
    | with_reducible exact hw
    | with_reducible exact hl
    | (with_reducible show _ < _; omega)
    | (with_reducible show _ ≤ _; (try simp only [hn_uN, hn_uI, hn_uP]); omega)
    | (refine fs_13 ?_ ?_ ?_ ?_ q)
    | (refine kLe_O (h := h) ?_ ha; (repeat first | exact kLe_rf _ | refine kLe_I ?_ _ _ _ | refine kLe_P ?_ _ _ _ | refine kLe_N ?_ _ _); done)
    | (simp [ha, hn_uN, hn_uI, hn_uP, Nat.add_assoc, kO_uN, kJ_uN, kO_uI, kO_uP, kJ_uI, kJ_uP, kl_uI, kl_uP, kl_uN, hw, hl]; done)
def fm_11 (h : kH) (a w : Nat) : kH := fm_12 (uI (uI (uI (uI (uI (uI (uI (uI (uI (uI (uI (uI h w 108 (Int32.ofInt 100)) w 109 (Int32.ofInt 114)) w 110 (Int32.ofInt 111)) w 111 (Int32.ofInt 112)) w 112 (Int32.ofInt 32)) w 113 (Int32.ofInt 119)) w 114 (Int32.ofInt 114)) w 115 (Int32.ofInt 105)) w 116 (Int32.ofInt 116)) w 117 (Int32.ofInt 101)) w 118 (Int32.ofInt 32)) w 119 (Int32.ofInt 114)) a w
theorem hn_fm_11 (h : kH) (a w : Nat) : hn (fm_11 h a w) = hn h + 33 := by simp only [fm_11, hn_fm_12, hn_uI, hn_uP, hn_uN, Nat.add_assoc, Nat.reduceAdd]
set_option maxHeartbeats 1000000 in
set_option maxRecDepth 100000 in
theorem fs_11 {g : kG} {d a w : Nat} {h : kH} {Q : Int32 → kH → Prop} (ha : kO h a 11) (hw : kJ h w) (hl : kl h w = 138) (hm : hn h + 33 ≤ 1000000) (q : Q 0 (fm_11 h a w)) : Wz g 157 (d + 1) 469 9 2054 [some (.inr (some a))] [.inr (some w), .inr (some a)] h Q := by
  refine Wz_wqc [] (mc := 42) (ms := 13976) 48 (by decide) me_157 (by decide +kernel) ?_
  show wq g 157 d none 42 13976 kc_157 [] Q 48 9 2054 469 [some (.inr (some a))] [.inr (some w), .inr (some a)] h
  have t108 : (Int32.ofInt 108).toNatClampNeg = 108 := by decide +kernel
  have t109 : (Int32.ofInt 109).toNatClampNeg = 109 := by decide +kernel
  have t110 : (Int32.ofInt 110).toNatClampNeg = 110 := by decide +kernel
  have t111 : (Int32.ofInt 111).toNatClampNeg = 111 := by decide +kernel
  have t112 : (Int32.ofInt 112).toNatClampNeg = 112 := by decide +kernel
  have t113 : (Int32.ofInt 113).toNatClampNeg = 113 := by decide +kernel
  have t114 : (Int32.ofInt 114).toNatClampNeg = 114 := by decide +kernel
  have t115 : (Int32.ofInt 115).toNatClampNeg = 115 := by decide +kernel
  have t116 : (Int32.ofInt 116).toNatClampNeg = 116 := by decide +kernel
  have t117 : (Int32.ofInt 117).toNatClampNeg = 117 := by decide +kernel
  have t118 : (Int32.ofInt 118).toNatClampNeg = 118 := by decide +kernel
  have t119 : (Int32.ofInt 119).toNatClampNeg = 119 := by decide +kernel
  have v108 : vp_in (Int32.ofInt 108) 138 := zi_in (by omega) (by omega) (by omega)
  have s108 : ¬ Int32.ofInt 108 < 0 := by decide +kernel
  have v109 : vp_in (Int32.ofInt 109) 138 := zi_in (by omega) (by omega) (by omega)
  have s109 : ¬ Int32.ofInt 109 < 0 := by decide +kernel
  have v110 : vp_in (Int32.ofInt 110) 138 := zi_in (by omega) (by omega) (by omega)
  have s110 : ¬ Int32.ofInt 110 < 0 := by decide +kernel
  have v111 : vp_in (Int32.ofInt 111) 138 := zi_in (by omega) (by omega) (by omega)
  have s111 : ¬ Int32.ofInt 111 < 0 := by decide +kernel
  have v112 : vp_in (Int32.ofInt 112) 138 := zi_in (by omega) (by omega) (by omega)
  have s112 : ¬ Int32.ofInt 112 < 0 := by decide +kernel
  have v113 : vp_in (Int32.ofInt 113) 138 := zi_in (by omega) (by omega) (by omega)
  have s113 : ¬ Int32.ofInt 113 < 0 := by decide +kernel
  have v114 : vp_in (Int32.ofInt 114) 138 := zi_in (by omega) (by omega) (by omega)
  have s114 : ¬ Int32.ofInt 114 < 0 := by decide +kernel
  have v115 : vp_in (Int32.ofInt 115) 138 := zi_in (by omega) (by omega) (by omega)
  have s115 : ¬ Int32.ofInt 115 < 0 := by decide +kernel
  have v116 : vp_in (Int32.ofInt 116) 138 := zi_in (by omega) (by omega) (by omega)
  have s116 : ¬ Int32.ofInt 116 < 0 := by decide +kernel
  have v117 : vp_in (Int32.ofInt 117) 138 := zi_in (by omega) (by omega) (by omega)
  have s117 : ¬ Int32.ofInt 117 < 0 := by decide +kernel
  have v118 : vp_in (Int32.ofInt 118) 138 := zi_in (by omega) (by omega) (by omega)
  have s118 : ¬ Int32.ofInt 118 < 0 := by decide +kernel
  have v119 : vp_in (Int32.ofInt 119) 138 := zi_in (by omega) (by omega) (by omega)
  have s119 : ¬ Int32.ofInt 119 < 0 := by decide +kernel
  simp only [fx_469, fx_470, fx_471, fx_472, fx_473, fx_474, fx_475, fx_476, fx_477, fx_478, fx_479, fx_480, fx_481, fx_482, fx_483, fx_484, fx_485, fx_486, fx_487, fx_488, fx_489, fx_490, fx_491, fx_492, fx_493, fx_494, fx_495, fx_496, fx_497, fx_498, fx_499, fx_500, fx_501, fx_502, fx_503, fx_504, fx_505, fx_506, fx_507, fx_508, fx_509, fx_510, fx_511, fx_512, fx_513, fx_514, fx_515, fx_516, wq, sp_sipush, sp_iload, sp_aload, sp_istore, sp_astore, sp_iinc, sp_iadd, sp_isub, sp_imul, sp_idiv, sp_irem, sp_ineg, sp_iand, sp_ior, sp_ixor, sp_ishl, sp_ishr, sp_iushr, sp_i2c, sp_dup, sp_dup2, sp_pop, sp_ifCond, sp_if_icmp, sp_goto, sp_ifnonnull, sp_tableswitch, sp_lookupswitch, sp_getstatic, sp_ldc, sp_ldc_w, sp_getfield, sp_checkcast, sp_putfield, sp_putstatic, sp_iaload, sp_iastore, sp_aaload, sp_aastore, sp_baload, sp_arraylength, sp_newarray, sp_anewarray, sp_new, sp_monitorexit, sp_swap, sp_invokestatic, sp_invokevirtual, sp_invokespecial, sp_ireturn, sp_return_, stf, p1, p2, pr, lI, lR, sL, cz, krt, List.map_cons, List.map_nil, List.getElem?_cons_zero, List.getElem?_cons_succ, List.length_cons, List.length_nil, List.set_cons_zero, List.set_cons_succ, List.take_succ_cons, List.take_zero, List.drop_succ_cons, List.drop_zero, List.reverse_cons, List.reverse_nil, List.nil_append, List.cons_append, List.replicate_zero, Nat.reduceAdd, Nat.reduceLT, Nat.reduceLeDiff, Nat.reduceSub, Nat.reduceMul, kq_y, kq_c, kq_n, kf_c, kf_k, Nat.reduceDiv, Nat.reduceMod, if_true, if_false, ite_true, ite_false, Int.reduceToNat, Nat.reduceEqDiff, reduceIte, reduceCtorEq, false_implies, true_implies, implies_true, forall_const, t108, s108, t109, s109, t110, s110, t111, s111, t112, s112, t113, s113, t114, s114, t115, s115, t116, s116, t117, s117, t118, s118, t119, s119, v108, v109, v110, v111, v112, v113, v114, v115, v116, v117, v118, v119,  hn_uN, hn_uI, hn_uP, Nat.add_assoc, true_and, and_true, not_true_eq_false, not_false_eq_true, kO_uI, kO_uP, kJ_uI, kJ_uP, kl_uI, kl_uP, hw, hl]
  repeat' first
    | ((with_reducible show Q _ _); exact q)
    | with_reducible apply And.intro
    | with_reducible exact ha
    | with_reducible exact hw
    | with_reducible exact hl
    | (with_reducible show _ < _; omega)
    | (with_reducible show _ ≤ _; (try simp only [hn_uN, hn_uI, hn_uP]); omega)
    | (refine fs_12 ?_ ?_ ?_ ?_ q)
    | (refine kLe_O (h := h) ?_ ha; (repeat first | exact kLe_rf _ | refine kLe_I ?_ _ _ _ | refine kLe_P ?_ _ _ _ | refine kLe_N ?_ _ _); done)
    | (simp [ha, hn_uN, hn_uI, hn_uP, Nat.add_assoc, kO_uN, kJ_uN, kO_uI, kO_uP, kJ_uI, kJ_uP, kl_uI, kl_uP, kl_uN, hw, hl]; done)
def fm_10 (h : kH) (a w : Nat) : kH := fm_11 (uI (uI (uI (uI (uI (uI (uI (uI (uI (uI (uI (uI h w 96 (Int32.ofInt 32)) w 97 (Int32.ofInt 99)) w 98 (Int32.ofInt 108)) w 99 (Int32.ofInt 101)) w 100 (Int32.ofInt 114)) w 101 (Int32.ofInt 107)) w 102 (Int32.ofInt 32)) w 103 (Int32.ofInt 116)) w 104 (Int32.ofInt 97)) w 105 (Int32.ofInt 107)) w 106 (Int32.ofInt 101)) w 107 (Int32.ofInt 32)) a w
theorem hn_fm_10 (h : kH) (a w : Nat) : hn (fm_10 h a w) = hn h + 33 := by simp only [fm_10, hn_fm_11, hn_uI, hn_uP, hn_uN, Nat.add_assoc, Nat.reduceAdd]
set_option maxHeartbeats 1000000 in
set_option maxRecDepth 100000 in
theorem fs_10 {g : kG} {d a w : Nat} {h : kH} {Q : Int32 → kH → Prop} (ha : kO h a 11) (hw : kJ h w) (hl : kl h w = 138) (hm : hn h + 33 ≤ 1000000) (q : Q 0 (fm_10 h a w)) : Wz g 157 (d + 1) 421 9 2054 [some (.inr (some a))] [.inr (some w), .inr (some a)] h Q := by
  refine Wz_wqc [] (mc := 42) (ms := 13976) 48 (by decide) me_157 (by decide +kernel) ?_
  show wq g 157 d none 42 13976 kc_157 [] Q 48 9 2054 421 [some (.inr (some a))] [.inr (some w), .inr (some a)] h
  have t96 : (Int32.ofInt 96).toNatClampNeg = 96 := by decide +kernel
  have t97 : (Int32.ofInt 97).toNatClampNeg = 97 := by decide +kernel
  have t98 : (Int32.ofInt 98).toNatClampNeg = 98 := by decide +kernel
  have t99 : (Int32.ofInt 99).toNatClampNeg = 99 := by decide +kernel
  have t100 : (Int32.ofInt 100).toNatClampNeg = 100 := by decide +kernel
  have t101 : (Int32.ofInt 101).toNatClampNeg = 101 := by decide +kernel
  have t102 : (Int32.ofInt 102).toNatClampNeg = 102 := by decide +kernel
  have t103 : (Int32.ofInt 103).toNatClampNeg = 103 := by decide +kernel
  have t104 : (Int32.ofInt 104).toNatClampNeg = 104 := by decide +kernel
  have t105 : (Int32.ofInt 105).toNatClampNeg = 105 := by decide +kernel
  have t106 : (Int32.ofInt 106).toNatClampNeg = 106 := by decide +kernel
  have t107 : (Int32.ofInt 107).toNatClampNeg = 107 := by decide +kernel
  have v96 : vp_in (Int32.ofInt 96) 138 := zi_in (by omega) (by omega) (by omega)
  have s96 : ¬ Int32.ofInt 96 < 0 := by decide +kernel
  have v97 : vp_in (Int32.ofInt 97) 138 := zi_in (by omega) (by omega) (by omega)
  have s97 : ¬ Int32.ofInt 97 < 0 := by decide +kernel
  have v98 : vp_in (Int32.ofInt 98) 138 := zi_in (by omega) (by omega) (by omega)
  have s98 : ¬ Int32.ofInt 98 < 0 := by decide +kernel
  have v99 : vp_in (Int32.ofInt 99) 138 := zi_in (by omega) (by omega) (by omega)
  have s99 : ¬ Int32.ofInt 99 < 0 := by decide +kernel
  have v100 : vp_in (Int32.ofInt 100) 138 := zi_in (by omega) (by omega) (by omega)
  have s100 : ¬ Int32.ofInt 100 < 0 := by decide +kernel
  have v101 : vp_in (Int32.ofInt 101) 138 := zi_in (by omega) (by omega) (by omega)
  have s101 : ¬ Int32.ofInt 101 < 0 := by decide +kernel
  have v102 : vp_in (Int32.ofInt 102) 138 := zi_in (by omega) (by omega) (by omega)
  have s102 : ¬ Int32.ofInt 102 < 0 := by decide +kernel
  have v103 : vp_in (Int32.ofInt 103) 138 := zi_in (by omega) (by omega) (by omega)
  have s103 : ¬ Int32.ofInt 103 < 0 := by decide +kernel
  have v104 : vp_in (Int32.ofInt 104) 138 := zi_in (by omega) (by omega) (by omega)
  have s104 : ¬ Int32.ofInt 104 < 0 := by decide +kernel
  have v105 : vp_in (Int32.ofInt 105) 138 := zi_in (by omega) (by omega) (by omega)
  have s105 : ¬ Int32.ofInt 105 < 0 := by decide +kernel
  have v106 : vp_in (Int32.ofInt 106) 138 := zi_in (by omega) (by omega) (by omega)
  have s106 : ¬ Int32.ofInt 106 < 0 := by decide +kernel
  have v107 : vp_in (Int32.ofInt 107) 138 := zi_in (by omega) (by omega) (by omega)
  have s107 : ¬ Int32.ofInt 107 < 0 := by decide +kernel
  simp only [fx_421, fx_422, fx_423, fx_424, fx_425, fx_426, fx_427, fx_428, fx_429, fx_430, fx_431, fx_432, fx_433, fx_434, fx_435, fx_436, fx_437, fx_438, fx_439, fx_440, fx_441, fx_442, fx_443, fx_444, fx_445, fx_446, fx_447, fx_448, fx_449, fx_450, fx_451, fx_452, fx_453, fx_454, fx_455, fx_456, fx_457, fx_458, fx_459, fx_460, fx_461, fx_462, fx_463, fx_464, fx_465, fx_466, fx_467, fx_468, wq, sp_sipush, sp_iload, sp_aload, sp_istore, sp_astore, sp_iinc, sp_iadd, sp_isub, sp_imul, sp_idiv, sp_irem, sp_ineg, sp_iand, sp_ior, sp_ixor, sp_ishl, sp_ishr, sp_iushr, sp_i2c, sp_dup, sp_dup2, sp_pop, sp_ifCond, sp_if_icmp, sp_goto, sp_ifnonnull, sp_tableswitch, sp_lookupswitch, sp_getstatic, sp_ldc, sp_ldc_w, sp_getfield, sp_checkcast, sp_putfield, sp_putstatic, sp_iaload, sp_iastore, sp_aaload, sp_aastore, sp_baload, sp_arraylength, sp_newarray, sp_anewarray, sp_new, sp_monitorexit, sp_swap, sp_invokestatic, sp_invokevirtual, sp_invokespecial, sp_ireturn, sp_return_, stf, p1, p2, pr, lI, lR, sL, cz, krt, List.map_cons, List.map_nil, List.getElem?_cons_zero, List.getElem?_cons_succ, List.length_cons, List.length_nil, List.set_cons_zero, List.set_cons_succ, List.take_succ_cons, List.take_zero, List.drop_succ_cons, List.drop_zero, List.reverse_cons, List.reverse_nil, List.nil_append, List.cons_append, List.replicate_zero, Nat.reduceAdd, Nat.reduceLT, Nat.reduceLeDiff, Nat.reduceSub, Nat.reduceMul, kq_y, kq_c, kq_n, kf_c, kf_k, Nat.reduceDiv, Nat.reduceMod, if_true, if_false, ite_true, ite_false, Int.reduceToNat, Nat.reduceEqDiff, reduceIte, reduceCtorEq, false_implies, true_implies, implies_true, forall_const, t96, s96, t97, s97, t98, s98, t99, s99, t100, s100, t101, s101, t102, s102, t103, s103, t104, s104, t105, s105, t106, s106, t107, s107, v96, v97, v98, v99, v100, v101, v102, v103, v104, v105, v106, v107,  hn_uN, hn_uI, hn_uP, Nat.add_assoc, true_and, and_true, not_true_eq_false, not_false_eq_true, kO_uI, kO_uP, kJ_uI, kJ_uP, kl_uI, kl_uP, hw, hl]
  repeat' first
    | ((with_reducible show Q _ _); exact q)
    | with_reducible apply And.intro
    | with_reducible exact ha
    | with_reducible exact hw
    | with_reducible exact hl
    | (with_reducible show _ < _; omega)
    | (with_reducible show _ ≤ _; (try simp only [hn_uN, hn_uI, hn_uP]); omega)
    | (refine fs_11 ?_ ?_ ?_ ?_ q)
    | (refine kLe_O (h := h) ?_ ha; (repeat first | exact kLe_rf _ | refine kLe_I ?_ _ _ _ | refine kLe_P ?_ _ _ _ | refine kLe_N ?_ _ _); done)
    | (simp [ha, hn_uN, hn_uI, hn_uP, Nat.add_assoc, kO_uN, kJ_uN, kO_uI, kO_uP, kJ_uI, kJ_uP, kl_uI, kl_uP, kl_uN, hw, hl]; done)
def fm_9 (h : kH) (a w : Nat) : kH := fm_10 (uI (uI (uI (uI (uI (uI (uI (uI (uI (uI (uI (uI h w 84 (Int32.ofInt 100)) w 85 (Int32.ofInt 101)) w 86 (Int32.ofInt 101)) w 87 (Int32.ofInt 100)) w 88 (Int32.ofInt 32)) w 89 (Int32.ofInt 104)) w 90 (Int32.ofInt 111)) w 91 (Int32.ofInt 117)) w 92 (Int32.ofInt 114)) w 93 (Int32.ofInt 32)) w 94 (Int32.ofInt 97)) w 95 (Int32.ofInt 116)) a w
theorem hn_fm_9 (h : kH) (a w : Nat) : hn (fm_9 h a w) = hn h + 33 := by simp only [fm_9, hn_fm_10, hn_uI, hn_uP, hn_uN, Nat.add_assoc, Nat.reduceAdd]
set_option maxHeartbeats 1000000 in
set_option maxRecDepth 100000 in
theorem fs_9 {g : kG} {d a w : Nat} {h : kH} {Q : Int32 → kH → Prop} (ha : kO h a 11) (hw : kJ h w) (hl : kl h w = 138) (hm : hn h + 33 ≤ 1000000) (q : Q 0 (fm_9 h a w)) : Wz g 157 (d + 1) 373 9 2054 [some (.inr (some a))] [.inr (some w), .inr (some a)] h Q := by
  refine Wz_wqc [] (mc := 42) (ms := 13976) 48 (by decide) me_157 (by decide +kernel) ?_
  show wq g 157 d none 42 13976 kc_157 [] Q 48 9 2054 373 [some (.inr (some a))] [.inr (some w), .inr (some a)] h
  have t84 : (Int32.ofInt 84).toNatClampNeg = 84 := by decide +kernel
  have t85 : (Int32.ofInt 85).toNatClampNeg = 85 := by decide +kernel
  have t86 : (Int32.ofInt 86).toNatClampNeg = 86 := by decide +kernel
  have t87 : (Int32.ofInt 87).toNatClampNeg = 87 := by decide +kernel
  have t88 : (Int32.ofInt 88).toNatClampNeg = 88 := by decide +kernel
  have t89 : (Int32.ofInt 89).toNatClampNeg = 89 := by decide +kernel
  have t90 : (Int32.ofInt 90).toNatClampNeg = 90 := by decide +kernel
  have t91 : (Int32.ofInt 91).toNatClampNeg = 91 := by decide +kernel
  have t92 : (Int32.ofInt 92).toNatClampNeg = 92 := by decide +kernel
  have t93 : (Int32.ofInt 93).toNatClampNeg = 93 := by decide +kernel
  have t94 : (Int32.ofInt 94).toNatClampNeg = 94 := by decide +kernel
  have t95 : (Int32.ofInt 95).toNatClampNeg = 95 := by decide +kernel
  have v84 : vp_in (Int32.ofInt 84) 138 := zi_in (by omega) (by omega) (by omega)
  have s84 : ¬ Int32.ofInt 84 < 0 := by decide +kernel
  have v85 : vp_in (Int32.ofInt 85) 138 := zi_in (by omega) (by omega) (by omega)
  have s85 : ¬ Int32.ofInt 85 < 0 := by decide +kernel
  have v86 : vp_in (Int32.ofInt 86) 138 := zi_in (by omega) (by omega) (by omega)
  have s86 : ¬ Int32.ofInt 86 < 0 := by decide +kernel
  have v87 : vp_in (Int32.ofInt 87) 138 := zi_in (by omega) (by omega) (by omega)
  have s87 : ¬ Int32.ofInt 87 < 0 := by decide +kernel
  have v88 : vp_in (Int32.ofInt 88) 138 := zi_in (by omega) (by omega) (by omega)
  have s88 : ¬ Int32.ofInt 88 < 0 := by decide +kernel
  have v89 : vp_in (Int32.ofInt 89) 138 := zi_in (by omega) (by omega) (by omega)
  have s89 : ¬ Int32.ofInt 89 < 0 := by decide +kernel
  have v90 : vp_in (Int32.ofInt 90) 138 := zi_in (by omega) (by omega) (by omega)
  have s90 : ¬ Int32.ofInt 90 < 0 := by decide +kernel
  have v91 : vp_in (Int32.ofInt 91) 138 := zi_in (by omega) (by omega) (by omega)
  have s91 : ¬ Int32.ofInt 91 < 0 := by decide +kernel
  have v92 : vp_in (Int32.ofInt 92) 138 := zi_in (by omega) (by omega) (by omega)
  have s92 : ¬ Int32.ofInt 92 < 0 := by decide +kernel
  have v93 : vp_in (Int32.ofInt 93) 138 := zi_in (by omega) (by omega) (by omega)
  have s93 : ¬ Int32.ofInt 93 < 0 := by decide +kernel
  have v94 : vp_in (Int32.ofInt 94) 138 := zi_in (by omega) (by omega) (by omega)
  have s94 : ¬ Int32.ofInt 94 < 0 := by decide +kernel
  have v95 : vp_in (Int32.ofInt 95) 138 := zi_in (by omega) (by omega) (by omega)
  have s95 : ¬ Int32.ofInt 95 < 0 := by decide +kernel
  simp only [fx_373, fx_374, fx_375, fx_376, fx_377, fx_378, fx_379, fx_380, fx_381, fx_382, fx_383, fx_384, fx_385, fx_386, fx_387, fx_388, fx_389, fx_390, fx_391, fx_392, fx_393, fx_394, fx_395, fx_396, fx_397, fx_398, fx_399, fx_400, fx_401, fx_402, fx_403, fx_404, fx_405, fx_406, fx_407, fx_408, fx_409, fx_410, fx_411, fx_412, fx_413, fx_414, fx_415, fx_416, fx_417, fx_418, fx_419, fx_420, wq, sp_sipush, sp_iload, sp_aload, sp_istore, sp_astore, sp_iinc, sp_iadd, sp_isub, sp_imul, sp_idiv, sp_irem, sp_ineg, sp_iand, sp_ior, sp_ixor, sp_ishl, sp_ishr, sp_iushr, sp_i2c, sp_dup, sp_dup2, sp_pop, sp_ifCond, sp_if_icmp, sp_goto, sp_ifnonnull, sp_tableswitch, sp_lookupswitch, sp_getstatic, sp_ldc, sp_ldc_w, sp_getfield, sp_checkcast, sp_putfield, sp_putstatic, sp_iaload, sp_iastore, sp_aaload, sp_aastore, sp_baload, sp_arraylength, sp_newarray, sp_anewarray, sp_new, sp_monitorexit, sp_swap, sp_invokestatic, sp_invokevirtual, sp_invokespecial, sp_ireturn, sp_return_, stf, p1, p2, pr, lI, lR, sL, cz, krt, List.map_cons, List.map_nil, List.getElem?_cons_zero, List.getElem?_cons_succ, List.length_cons, List.length_nil, List.set_cons_zero, List.set_cons_succ, List.take_succ_cons, List.take_zero, List.drop_succ_cons, List.drop_zero, List.reverse_cons, List.reverse_nil, List.nil_append, List.cons_append, List.replicate_zero, Nat.reduceAdd, Nat.reduceLT, Nat.reduceLeDiff, Nat.reduceSub, Nat.reduceMul, kq_y, kq_c, kq_n, kf_c, kf_k, Nat.reduceDiv, Nat.reduceMod, if_true, if_false, ite_true, ite_false, Int.reduceToNat, Nat.reduceEqDiff, reduceIte, reduceCtorEq, false_implies, true_implies, implies_true, forall_const, t84, s84, t85, s85, t86, s86, t87, s87, t88, s88, t89, s89, t90, s90, t91, s91, t92, s92, t93, s93, t94, s94, t95, s95, v84, v85, v86, v87, v88, v89, v90, v91, v92, v93, v94, v95,  hn_uN, hn_uI, hn_uP, Nat.add_assoc, true_and, and_true, not_true_eq_false, not_false_eq_true, kO_uI, kO_uP, kJ_uI, kJ_uP, kl_uI, kl_uP, hw, hl]
  repeat' first
    | ((with_reducible show Q _ _); exact q)
    | with_reducible apply And.intro
    | with_reducible exact ha
    | with_reducible exact hw
    | with_reducible exact hl
    | (with_reducible show _ < _; omega)
    | (with_reducible show _ ≤ _; (try simp only [hn_uN, hn_uI, hn_uP]); omega)
    | (refine fs_10 ?_ ?_ ?_ ?_ q)
    | (refine kLe_O (h := h) ?_ ha; (repeat first | exact kLe_rf _ | refine kLe_I ?_ _ _ _ | refine kLe_P ?_ _ _ _ | refine kLe_N ?_ _ _); done)
    | (simp [ha, hn_uN, hn_uI, hn_uP, Nat.add_assoc, kO_uN, kJ_uN, kO_uI, kO_uP, kJ_uI, kJ_uP, kl_uI, kl_uP, kl_uN, hw, hl]; done)
def fm_8 (h : kH) (a w : Nat) : kH := fm_9 (uI (uI (uI (uI (uI (uI (uI (uI (uI (uI (uI (uI h w 72 (Int32.ofInt 108)) w 73 (Int32.ofInt 105)) w 74 (Int32.ofInt 102)) w 75 (Int32.ofInt 116)) w 76 (Int32.ofInt 101)) w 77 (Int32.ofInt 100)) w 78 (Int32.ofInt 32)) w 79 (Int32.ofInt 98)) w 80 (Int32.ofInt 105)) w 81 (Int32.ofInt 114)) w 82 (Int32.ofInt 100)) w 83 (Int32.ofInt 32)) a w
theorem hn_fm_8 (h : kH) (a w : Nat) : hn (fm_8 h a w) = hn h + 33 := by simp only [fm_8, hn_fm_9, hn_uI, hn_uP, hn_uN, Nat.add_assoc, Nat.reduceAdd]
set_option maxHeartbeats 1000000 in
set_option maxRecDepth 100000 in
theorem fs_8 {g : kG} {d a w : Nat} {h : kH} {Q : Int32 → kH → Prop} (ha : kO h a 11) (hw : kJ h w) (hl : kl h w = 138) (hm : hn h + 33 ≤ 1000000) (q : Q 0 (fm_8 h a w)) : Wz g 157 (d + 1) 325 9 2054 [some (.inr (some a))] [.inr (some w), .inr (some a)] h Q := by
  refine Wz_wqc [] (mc := 42) (ms := 13976) 48 (by decide) me_157 (by decide +kernel) ?_
  show wq g 157 d none 42 13976 kc_157 [] Q 48 9 2054 325 [some (.inr (some a))] [.inr (some w), .inr (some a)] h
  have t72 : (Int32.ofInt 72).toNatClampNeg = 72 := by decide +kernel
  have t73 : (Int32.ofInt 73).toNatClampNeg = 73 := by decide +kernel
  have t74 : (Int32.ofInt 74).toNatClampNeg = 74 := by decide +kernel
  have t75 : (Int32.ofInt 75).toNatClampNeg = 75 := by decide +kernel
  have t76 : (Int32.ofInt 76).toNatClampNeg = 76 := by decide +kernel
  have t77 : (Int32.ofInt 77).toNatClampNeg = 77 := by decide +kernel
  have t78 : (Int32.ofInt 78).toNatClampNeg = 78 := by decide +kernel
  have t79 : (Int32.ofInt 79).toNatClampNeg = 79 := by decide +kernel
  have t80 : (Int32.ofInt 80).toNatClampNeg = 80 := by decide +kernel
  have t81 : (Int32.ofInt 81).toNatClampNeg = 81 := by decide +kernel
  have t82 : (Int32.ofInt 82).toNatClampNeg = 82 := by decide +kernel
  have t83 : (Int32.ofInt 83).toNatClampNeg = 83 := by decide +kernel
  have v72 : vp_in (Int32.ofInt 72) 138 := zi_in (by omega) (by omega) (by omega)
  have s72 : ¬ Int32.ofInt 72 < 0 := by decide +kernel
  have v73 : vp_in (Int32.ofInt 73) 138 := zi_in (by omega) (by omega) (by omega)
  have s73 : ¬ Int32.ofInt 73 < 0 := by decide +kernel
  have v74 : vp_in (Int32.ofInt 74) 138 := zi_in (by omega) (by omega) (by omega)
  have s74 : ¬ Int32.ofInt 74 < 0 := by decide +kernel
  have v75 : vp_in (Int32.ofInt 75) 138 := zi_in (by omega) (by omega) (by omega)
  have s75 : ¬ Int32.ofInt 75 < 0 := by decide +kernel
  have v76 : vp_in (Int32.ofInt 76) 138 := zi_in (by omega) (by omega) (by omega)
  have s76 : ¬ Int32.ofInt 76 < 0 := by decide +kernel
  have v77 : vp_in (Int32.ofInt 77) 138 := zi_in (by omega) (by omega) (by omega)
  have s77 : ¬ Int32.ofInt 77 < 0 := by decide +kernel
  have v78 : vp_in (Int32.ofInt 78) 138 := zi_in (by omega) (by omega) (by omega)
  have s78 : ¬ Int32.ofInt 78 < 0 := by decide +kernel
  have v79 : vp_in (Int32.ofInt 79) 138 := zi_in (by omega) (by omega) (by omega)
  have s79 : ¬ Int32.ofInt 79 < 0 := by decide +kernel
  have v80 : vp_in (Int32.ofInt 80) 138 := zi_in (by omega) (by omega) (by omega)
  have s80 : ¬ Int32.ofInt 80 < 0 := by decide +kernel
  have v81 : vp_in (Int32.ofInt 81) 138 := zi_in (by omega) (by omega) (by omega)
  have s81 : ¬ Int32.ofInt 81 < 0 := by decide +kernel
  have v82 : vp_in (Int32.ofInt 82) 138 := zi_in (by omega) (by omega) (by omega)
  have s82 : ¬ Int32.ofInt 82 < 0 := by decide +kernel
  have v83 : vp_in (Int32.ofInt 83) 138 := zi_in (by omega) (by omega) (by omega)
  have s83 : ¬ Int32.ofInt 83 < 0 := by decide +kernel
  simp only [fx_325, fx_326, fx_327, fx_328, fx_329, fx_330, fx_331, fx_332, fx_333, fx_334, fx_335, fx_336, fx_337, fx_338, fx_339, fx_340, fx_341, fx_342, fx_343, fx_344, fx_345, fx_346, fx_347, fx_348, fx_349, fx_350, fx_351, fx_352, fx_353, fx_354, fx_355, fx_356, fx_357, fx_358, fx_359, fx_360, fx_361, fx_362, fx_363, fx_364, fx_365, fx_366, fx_367, fx_368, fx_369, fx_370, fx_371, fx_372, wq, sp_sipush, sp_iload, sp_aload, sp_istore, sp_astore, sp_iinc, sp_iadd, sp_isub, sp_imul, sp_idiv, sp_irem, sp_ineg, sp_iand, sp_ior, sp_ixor, sp_ishl, sp_ishr, sp_iushr, sp_i2c, sp_dup, sp_dup2, sp_pop, sp_ifCond, sp_if_icmp, sp_goto, sp_ifnonnull, sp_tableswitch, sp_lookupswitch, sp_getstatic, sp_ldc, sp_ldc_w, sp_getfield, sp_checkcast, sp_putfield, sp_putstatic, sp_iaload, sp_iastore, sp_aaload, sp_aastore, sp_baload, sp_arraylength, sp_newarray, sp_anewarray, sp_new, sp_monitorexit, sp_swap, sp_invokestatic, sp_invokevirtual, sp_invokespecial, sp_ireturn, sp_return_, stf, p1, p2, pr, lI, lR, sL, cz, krt, List.map_cons, List.map_nil, List.getElem?_cons_zero, List.getElem?_cons_succ, List.length_cons, List.length_nil, List.set_cons_zero, List.set_cons_succ, List.take_succ_cons, List.take_zero, List.drop_succ_cons, List.drop_zero, List.reverse_cons, List.reverse_nil, List.nil_append, List.cons_append, List.replicate_zero, Nat.reduceAdd, Nat.reduceLT, Nat.reduceLeDiff, Nat.reduceSub, Nat.reduceMul, kq_y, kq_c, kq_n, kf_c, kf_k, Nat.reduceDiv, Nat.reduceMod, if_true, if_false, ite_true, ite_false, Int.reduceToNat, Nat.reduceEqDiff, reduceIte, reduceCtorEq, false_implies, true_implies, implies_true, forall_const, t72, s72, t73, s73, t74, s74, t75, s75, t76, s76, t77, s77, t78, s78, t79, s79, t80, s80, t81, s81, t82, s82, t83, s83, v72, v73, v74, v75, v76, v77, v78, v79, v80, v81, v82, v83,  hn_uN, hn_uI, hn_uP, Nat.add_assoc, true_and, and_true, not_true_eq_false, not_false_eq_true, kO_uI, kO_uP, kJ_uI, kJ_uP, kl_uI, kl_uP, hw, hl]
  repeat' first
    | ((with_reducible show Q _ _); exact q)
    | with_reducible apply And.intro
    | with_reducible exact ha
    | with_reducible exact hw
    | with_reducible exact hl
    | (with_reducible show _ < _; omega)
    | (with_reducible show _ ≤ _; (try simp only [hn_uN, hn_uI, hn_uP]); omega)
    | (refine fs_9 ?_ ?_ ?_ ?_ q)
    | (refine kLe_O (h := h) ?_ ha; (repeat first | exact kLe_rf _ | refine kLe_I ?_ _ _ _ | refine kLe_P ?_ _ _ _ | refine kLe_N ?_ _ _); done)
    | (simp [ha, hn_uN, hn_uI, hn_uP, Nat.add_assoc, kO_uN, kJ_uN, kO_uI, kO_uP, kJ_uI, kJ_uP, kl_uI, kl_uP, kl_uN, hw, hl]; done)
def fm_7 (h : kH) (a w : Nat) : kH := fm_8 (uI (uI (uI (uI (uI (uI (uI (uI (uI (uI (uI (uI h w 60 (Int32.ofInt 108)) w 61 (Int32.ofInt 101)) w 62 (Int32.ofInt 102)) w 63 (Int32.ofInt 116)) w 64 (Int32.ofInt 32)) w 65 (Int32.ofInt 115)) w 66 (Int32.ofInt 105)) w 67 (Int32.ofInt 103)) w 68 (Int32.ofInt 110)) w 69 (Int32.ofInt 101)) w 70 (Int32.ofInt 100)) w 71 (Int32.ofInt 32)) a w
theorem hn_fm_7 (h : kH) (a w : Nat) : hn (fm_7 h a w) = hn h + 33 := by simp only [fm_7, hn_fm_8, hn_uI, hn_uP, hn_uN, Nat.add_assoc, Nat.reduceAdd]
set_option maxHeartbeats 1000000 in
set_option maxRecDepth 100000 in
theorem fs_7 {g : kG} {d a w : Nat} {h : kH} {Q : Int32 → kH → Prop} (ha : kO h a 11) (hw : kJ h w) (hl : kl h w = 138) (hm : hn h + 33 ≤ 1000000) (q : Q 0 (fm_7 h a w)) : Wz g 157 (d + 1) 277 9 2054 [some (.inr (some a))] [.inr (some w), .inr (some a)] h Q := by
  refine Wz_wqc [] (mc := 42) (ms := 13976) 48 (by decide) me_157 (by decide +kernel) ?_
  show wq g 157 d none 42 13976 kc_157 [] Q 48 9 2054 277 [some (.inr (some a))] [.inr (some w), .inr (some a)] h
  have t60 : (Int32.ofInt 60).toNatClampNeg = 60 := by decide +kernel
  have t61 : (Int32.ofInt 61).toNatClampNeg = 61 := by decide +kernel
  have t62 : (Int32.ofInt 62).toNatClampNeg = 62 := by decide +kernel
  have t63 : (Int32.ofInt 63).toNatClampNeg = 63 := by decide +kernel
  have t64 : (Int32.ofInt 64).toNatClampNeg = 64 := by decide +kernel
  have t65 : (Int32.ofInt 65).toNatClampNeg = 65 := by decide +kernel
  have t66 : (Int32.ofInt 66).toNatClampNeg = 66 := by decide +kernel
  have t67 : (Int32.ofInt 67).toNatClampNeg = 67 := by decide +kernel
  have t68 : (Int32.ofInt 68).toNatClampNeg = 68 := by decide +kernel
  have t69 : (Int32.ofInt 69).toNatClampNeg = 69 := by decide +kernel
  have t70 : (Int32.ofInt 70).toNatClampNeg = 70 := by decide +kernel
  have t71 : (Int32.ofInt 71).toNatClampNeg = 71 := by decide +kernel
  have v60 : vp_in (Int32.ofInt 60) 138 := zi_in (by omega) (by omega) (by omega)
  have s60 : ¬ Int32.ofInt 60 < 0 := by decide +kernel
  have v61 : vp_in (Int32.ofInt 61) 138 := zi_in (by omega) (by omega) (by omega)
  have s61 : ¬ Int32.ofInt 61 < 0 := by decide +kernel
  have v62 : vp_in (Int32.ofInt 62) 138 := zi_in (by omega) (by omega) (by omega)
  have s62 : ¬ Int32.ofInt 62 < 0 := by decide +kernel
  have v63 : vp_in (Int32.ofInt 63) 138 := zi_in (by omega) (by omega) (by omega)
  have s63 : ¬ Int32.ofInt 63 < 0 := by decide +kernel
  have v64 : vp_in (Int32.ofInt 64) 138 := zi_in (by omega) (by omega) (by omega)
  have s64 : ¬ Int32.ofInt 64 < 0 := by decide +kernel
  have v65 : vp_in (Int32.ofInt 65) 138 := zi_in (by omega) (by omega) (by omega)
  have s65 : ¬ Int32.ofInt 65 < 0 := by decide +kernel
  have v66 : vp_in (Int32.ofInt 66) 138 := zi_in (by omega) (by omega) (by omega)
  have s66 : ¬ Int32.ofInt 66 < 0 := by decide +kernel
  have v67 : vp_in (Int32.ofInt 67) 138 := zi_in (by omega) (by omega) (by omega)
  have s67 : ¬ Int32.ofInt 67 < 0 := by decide +kernel
  have v68 : vp_in (Int32.ofInt 68) 138 := zi_in (by omega) (by omega) (by omega)
  have s68 : ¬ Int32.ofInt 68 < 0 := by decide +kernel
  have v69 : vp_in (Int32.ofInt 69) 138 := zi_in (by omega) (by omega) (by omega)
  have s69 : ¬ Int32.ofInt 69 < 0 := by decide +kernel
  have v70 : vp_in (Int32.ofInt 70) 138 := zi_in (by omega) (by omega) (by omega)
  have s70 : ¬ Int32.ofInt 70 < 0 := by decide +kernel
  have v71 : vp_in (Int32.ofInt 71) 138 := zi_in (by omega) (by omega) (by omega)
  have s71 : ¬ Int32.ofInt 71 < 0 := by decide +kernel
  simp only [fx_277, fx_278, fx_279, fx_280, fx_281, fx_282, fx_283, fx_284, fx_285, fx_286, fx_287, fx_288, fx_289, fx_290, fx_291, fx_292, fx_293, fx_294, fx_295, fx_296, fx_297, fx_298, fx_299, fx_300, fx_301, fx_302, fx_303, fx_304, fx_305, fx_306, fx_307, fx_308, fx_309, fx_310, fx_311, fx_312, fx_313, fx_314, fx_315, fx_316, fx_317, fx_318, fx_319, fx_320, fx_321, fx_322, fx_323, fx_324, wq, sp_sipush, sp_iload, sp_aload, sp_istore, sp_astore, sp_iinc, sp_iadd, sp_isub, sp_imul, sp_idiv, sp_irem, sp_ineg, sp_iand, sp_ior, sp_ixor, sp_ishl, sp_ishr, sp_iushr, sp_i2c, sp_dup, sp_dup2, sp_pop, sp_ifCond, sp_if_icmp, sp_goto, sp_ifnonnull, sp_tableswitch, sp_lookupswitch, sp_getstatic, sp_ldc, sp_ldc_w, sp_getfield, sp_checkcast, sp_putfield, sp_putstatic, sp_iaload, sp_iastore, sp_aaload, sp_aastore, sp_baload, sp_arraylength, sp_newarray, sp_anewarray, sp_new, sp_monitorexit, sp_swap, sp_invokestatic, sp_invokevirtual, sp_invokespecial, sp_ireturn, sp_return_, stf, p1, p2, pr, lI, lR, sL, cz, krt, List.map_cons, List.map_nil, List.getElem?_cons_zero, List.getElem?_cons_succ, List.length_cons, List.length_nil, List.set_cons_zero, List.set_cons_succ, List.take_succ_cons, List.take_zero, List.drop_succ_cons, List.drop_zero, List.reverse_cons, List.reverse_nil, List.nil_append, List.cons_append, List.replicate_zero, Nat.reduceAdd, Nat.reduceLT, Nat.reduceLeDiff, Nat.reduceSub, Nat.reduceMul, kq_y, kq_c, kq_n, kf_c, kf_k, Nat.reduceDiv, Nat.reduceMod, if_true, if_false, ite_true, ite_false, Int.reduceToNat, Nat.reduceEqDiff, reduceIte, reduceCtorEq, false_implies, true_implies, implies_true, forall_const, t60, s60, t61, s61, t62, s62, t63, s63, t64, s64, t65, s65, t66, s66, t67, s67, t68, s68, t69, s69, t70, s70, t71, s71, v60, v61, v62, v63, v64, v65, v66, v67, v68, v69, v70, v71,  hn_uN, hn_uI, hn_uP, Nat.add_assoc, true_and, and_true, not_true_eq_false, not_false_eq_true, kO_uI, kO_uP, kJ_uI, kJ_uP, kl_uI, kl_uP, hw, hl]
  repeat' first
    | ((with_reducible show Q _ _); exact q)
    | with_reducible apply And.intro
    | with_reducible exact ha
    | with_reducible exact hw
    | with_reducible exact hl
    | (with_reducible show _ < _; omega)
    | (with_reducible show _ ≤ _; (try simp only [hn_uN, hn_uI, hn_uP]); omega)
    | (refine fs_8 ?_ ?_ ?_ ?_ q)
    | (refine kLe_O (h := h) ?_ ha; (repeat first | exact kLe_rf _ | refine kLe_I ?_ _ _ _ | refine kLe_P ?_ _ _ _ | refine kLe_N ?_ _ _); done)
    | (simp [ha, hn_uN, hn_uI, hn_uP, Nat.add_assoc, kO_uN, kJ_uN, kO_uI, kO_uP, kJ_uI, kJ_uP, kl_uI, kl_uP, kl_uN, hw, hl]; done)
