def fm_18 (h : kH) (a w : Nat) : kH := (uP (uN (uP (uN h 1 4096) a 71 (some (hn h))) 1 2200) a 75 (some (hn h + 1)))
theorem hn_fm_18 (h : kH) (a w : Nat) : hn (fm_18 h a w) = hn h + 2 := by simp only [fm_18, hn_uI, hn_uP, hn_uN, Nat.add_assoc, Nat.reduceAdd]
set_option maxHeartbeats 1000000 in
set_option maxRecDepth 100000 in
theorem fs_18 {g : kG} {d a w : Nat} {h : kH} {Q : Int32 → kH → Prop} (ha : kO h a 11) (hm : hn h + 2 ≤ 1000000) (q : Q 0 (fm_18 h a w)) : Wz g 157 (d + 1) 717 40 7680 [some (.inr (some a))] [] h Q := by
  refine Wz_wqc [] (mc := 42) (ms := 13976) 12 (by decide) me_157 (by decide +kernel) ?_
  show wq g 157 d none 42 13976 kc_157 [] Q 12 40 7680 717 [some (.inr (some a))] [] h
  have t2200 : (Int32.ofInt 2200).toNatClampNeg = 2200 := by decide +kernel
  have t4096 : (Int32.ofInt 4096).toNatClampNeg = 4096 := by decide +kernel
  have s2200 : ¬ Int32.ofInt 2200 < 0 := by decide +kernel
  have s4096 : ¬ Int32.ofInt 4096 < 0 := by decide +kernel
  simp only [fx_717, fx_718, fx_719, fx_720, fx_721, fx_722, fx_723, fx_724, fx_725, wq, sp_sipush, sp_iload, sp_aload, sp_istore, sp_astore, sp_iinc, sp_iadd, sp_isub, sp_imul, sp_idiv, sp_irem, sp_ineg, sp_iand, sp_ior, sp_ixor, sp_ishl, sp_ishr, sp_iushr, sp_i2c, sp_dup, sp_dup2, sp_pop, sp_ifCond, sp_if_icmp, sp_goto, sp_ifnonnull, sp_tableswitch, sp_lookupswitch, sp_getstatic, sp_ldc, sp_ldc_w, sp_getfield, sp_checkcast, sp_putfield, sp_putstatic, sp_iaload, sp_iastore, sp_aaload, sp_aastore, sp_baload, sp_arraylength, sp_newarray, sp_anewarray, sp_new, sp_monitorexit, sp_swap, sp_invokestatic, sp_invokevirtual, sp_invokespecial, sp_ireturn, sp_return_, stf, p1, p2, pr, lI, lR, sL, cz, krt, List.map_cons, List.map_nil, List.getElem?_cons_zero, List.getElem?_cons_succ, List.length_cons, List.length_nil, List.set_cons_zero, List.set_cons_succ, List.take_succ_cons, List.take_zero, List.drop_succ_cons, List.drop_zero, List.reverse_cons, List.reverse_nil, List.nil_append, List.cons_append, List.replicate_zero, Nat.reduceAdd, Nat.reduceLT, Nat.reduceLeDiff, Nat.reduceSub, Nat.reduceMul, kq_y, kq_c, kq_n, kf_c, kf_k, Nat.reduceDiv, Nat.reduceMod, if_true, if_false, ite_true, ite_false, Int.reduceToNat, Nat.reduceEqDiff, reduceIte, reduceCtorEq, false_implies, true_implies, implies_true, forall_const, t2200, s2200, t4096, s4096,  hn_uN, hn_uI, hn_uP, Nat.add_assoc, true_and, and_true, not_true_eq_false, not_false_eq_true, kO_uI, kO_uP, kJ_uI, kJ_uP, kl_uI, kl_uP]
  repeat' first
    | ((with_reducible show Q _ _); exact q)
    | with_reducible apply And.intro
    | with_reducible exact ha
    | (with_reducible show _ < _; omega)
    | (with_reducible show _ ≤ _; (try simp only [hn_uN, hn_uI, hn_uP]); omega)
    | (refine kLe_O (h := h) ?_ ha; (repeat first | exact kLe_rf _ | refine kLe_I ?_ _ _ _ | refine kLe_P ?_ _ _ _ | refine kLe_N ?_ _ _); done)
    | (simp [ha, hn_uN, hn_uI, hn_uP, Nat.add_assoc, kO_uN, kJ_uN, kO_uI, kO_uP, kJ_uI, kJ_uP, kl_uI, kl_uP, kl_uN]; done)
def fm_17 (h : kH) (a w : Nat) : kH := fm_18 (uP (uN (uP (uN (uP (uN (uP (uN (uP (uN (uP (uN (uP (uN (uP (uN h 1 3) a 56 (some (hn h))) 1 9) a 60 (some (hn h + 1))) 1 81) a 61 (some (hn h + 2))) 1 12) a 63 (some (hn h + 3))) 1 10) a 65 (some (hn h + 4))) 1 8) a 67 (some (hn h + 5))) 1 40) a 68 (some (hn h + 6))) 1 6) a 70 (some (hn h + 7))) a w
theorem hn_fm_17 (h : kH) (a w : Nat) : hn (fm_17 h a w) = hn h + 10 := by simp only [fm_17, hn_fm_18, hn_uI, hn_uP, hn_uN, Nat.add_assoc, Nat.reduceAdd]
set_option maxHeartbeats 1000000 in
set_option maxRecDepth 100000 in
theorem fs_17 {g : kG} {d a w : Nat} {h : kH} {Q : Int32 → kH → Prop} (ha : kO h a 11) (hm : hn h + 10 ≤ 1000000) (q : Q 0 (fm_17 h a w)) : Wz g 157 (d + 1) 685 32 7511 [some (.inr (some a))] [] h Q := by
  refine Wz_wqc [] (mc := 42) (ms := 13976) 32 (by decide) me_157 (by decide +kernel) ?_
  show wq g 157 d none 42 13976 kc_157 [] Q 32 32 7511 685 [some (.inr (some a))] [] h
  have t3 : (Int32.ofInt 3).toNatClampNeg = 3 := by decide +kernel
  have t6 : (Int32.ofInt 6).toNatClampNeg = 6 := by decide +kernel
  have t8 : (Int32.ofInt 8).toNatClampNeg = 8 := by decide +kernel
  have t9 : (Int32.ofInt 9).toNatClampNeg = 9 := by decide +kernel
  have t10 : (Int32.ofInt 10).toNatClampNeg = 10 := by decide +kernel
  have t12 : (Int32.ofInt 12).toNatClampNeg = 12 := by decide +kernel
  have t40 : (Int32.ofInt 40).toNatClampNeg = 40 := by decide +kernel
  have t81 : (Int32.ofInt 81).toNatClampNeg = 81 := by decide +kernel
  have s3 : ¬ Int32.ofInt 3 < 0 := by decide +kernel
  have s6 : ¬ Int32.ofInt 6 < 0 := by decide +kernel
  have s8 : ¬ Int32.ofInt 8 < 0 := by decide +kernel
  have s9 : ¬ Int32.ofInt 9 < 0 := by decide +kernel
  have s10 : ¬ Int32.ofInt 10 < 0 := by decide +kernel
  have s12 : ¬ Int32.ofInt 12 < 0 := by decide +kernel
  have s40 : ¬ Int32.ofInt 40 < 0 := by decide +kernel
  have s81 : ¬ Int32.ofInt 81 < 0 := by decide +kernel
  simp only [fx_685, fx_686, fx_687, fx_688, fx_689, fx_690, fx_691, fx_692, fx_693, fx_694, fx_695, fx_696, fx_697, fx_698, fx_699, fx_700, fx_701, fx_702, fx_703, fx_704, fx_705, fx_706, fx_707, fx_708, fx_709, fx_710, fx_711, fx_712, fx_713, fx_714, fx_715, fx_716, wq, sp_sipush, sp_iload, sp_aload, sp_istore, sp_astore, sp_iinc, sp_iadd, sp_isub, sp_imul, sp_idiv, sp_irem, sp_ineg, sp_iand, sp_ior, sp_ixor, sp_ishl, sp_ishr, sp_iushr, sp_i2c, sp_dup, sp_dup2, sp_pop, sp_ifCond, sp_if_icmp, sp_goto, sp_ifnonnull, sp_tableswitch, sp_lookupswitch, sp_getstatic, sp_ldc, sp_ldc_w, sp_getfield, sp_checkcast, sp_putfield, sp_putstatic, sp_iaload, sp_iastore, sp_aaload, sp_aastore, sp_baload, sp_arraylength, sp_newarray, sp_anewarray, sp_new, sp_monitorexit, sp_swap, sp_invokestatic, sp_invokevirtual, sp_invokespecial, sp_ireturn, sp_return_, stf, p1, p2, pr, lI, lR, sL, cz, krt, List.map_cons, List.map_nil, List.getElem?_cons_zero, List.getElem?_cons_succ, List.length_cons, List.length_nil, List.set_cons_zero, List.set_cons_succ, List.take_succ_cons, List.take_zero, List.drop_succ_cons, List.drop_zero, List.reverse_cons, List.reverse_nil, List.nil_append, List.cons_append, List.replicate_zero, Nat.reduceAdd, Nat.reduceLT, Nat.reduceLeDiff, Nat.reduceSub, Nat.reduceMul, kq_y, kq_c, kq_n, kf_c, kf_k, Nat.reduceDiv, Nat.reduceMod, if_true, if_false, ite_true, ite_false, Int.reduceToNat, Nat.reduceEqDiff, reduceIte, reduceCtorEq, false_implies, true_implies, implies_true, forall_const, t3, s3, t6, s6, t8, s8, t9, s9, t10, s10, t12, s12, t40, s40, t81, s81,  hn_uN, hn_uI, hn_uP, Nat.add_assoc, true_and, and_true, not_true_eq_false, not_false_eq_true, kO_uI, kO_uP, kJ_uI, kJ_uP, kl_uI, kl_uP]
  repeat' first
    | ((with_reducible show Q _ _); exact q)
    | with_reducible apply And.intro
    | with_reducible exact ha
    | (with_reducible show _ < _; omega)
    | (with_reducible show _ ≤ _; (try simp only [hn_uN, hn_uI, hn_uP]); omega)
    | (refine fs_18 ?_ ?_ q)
    | (refine kLe_O (h := h) ?_ ha; (repeat first | exact kLe_rf _ | refine kLe_I ?_ _ _ _ | refine kLe_P ?_ _ _ _ | refine kLe_N ?_ _ _); done)
    | (simp [ha, hn_uN, hn_uI, hn_uP, Nat.add_assoc, kO_uN, kJ_uN, kO_uI, kO_uP, kJ_uI, kJ_uP, kl_uI, kl_uP, kl_uN]; done)
def fm_16 (h : kH) (a w : Nat) : kH := fm_17 (uP (uN (uP (uN (uP (uN (uP (uN (uP (uN (uP (uN (uP (uN (uP (uN h 1 144) a 46 (some (hn h))) 1 10) a 48 (some (hn h + 1))) 1 11) a 49 (some (hn h + 2))) 1 11) a 50 (some (hn h + 3))) 1 4) a 52 (some (hn h + 4))) 1 2001) a 53 (some (hn h + 5))) 1 12) a 54 (some (hn h + 6))) 1 3) a 55 (some (hn h + 7))) a w
theorem hn_fm_16 (h : kH) (a w : Nat) : hn (fm_16 h a w) = hn h + 18 := by simp only [fm_16, hn_fm_17, hn_uI, hn_uP, hn_uN, Nat.add_assoc, Nat.reduceAdd]
set_option maxHeartbeats 1000000 in
set_option maxRecDepth 100000 in
theorem fs_16 {g : kG} {d a w : Nat} {h : kH} {Q : Int32 → kH → Prop} (ha : kO h a 11) (hm : hn h + 18 ≤ 1000000) (q : Q 0 (fm_16 h a w)) : Wz g 157 (d + 1) 653 24 5315 [some (.inr (some a))] [] h Q := by
  refine Wz_wqc [] (mc := 42) (ms := 13976) 32 (by decide) me_157 (by decide +kernel) ?_
  show wq g 157 d none 42 13976 kc_157 [] Q 32 24 5315 653 [some (.inr (some a))] [] h
  have t3 : (Int32.ofInt 3).toNatClampNeg = 3 := by decide +kernel
  have t4 : (Int32.ofInt 4).toNatClampNeg = 4 := by decide +kernel
  have t10 : (Int32.ofInt 10).toNatClampNeg = 10 := by decide +kernel
  have t11 : (Int32.ofInt 11).toNatClampNeg = 11 := by decide +kernel
  have t12 : (Int32.ofInt 12).toNatClampNeg = 12 := by decide +kernel
  have t144 : (Int32.ofInt 144).toNatClampNeg = 144 := by decide +kernel
  have t2001 : (Int32.ofInt 2001).toNatClampNeg = 2001 := by decide +kernel
  have s3 : ¬ Int32.ofInt 3 < 0 := by decide +kernel
  have s4 : ¬ Int32.ofInt 4 < 0 := by decide +kernel
  have s10 : ¬ Int32.ofInt 10 < 0 := by decide +kernel
  have s11 : ¬ Int32.ofInt 11 < 0 := by decide +kernel
  have s12 : ¬ Int32.ofInt 12 < 0 := by decide +kernel
  have s144 : ¬ Int32.ofInt 144 < 0 := by decide +kernel
  have s2001 : ¬ Int32.ofInt 2001 < 0 := by decide +kernel
  simp only [fx_653, fx_654, fx_655, fx_656, fx_657, fx_658, fx_659, fx_660, fx_661, fx_662, fx_663, fx_664, fx_665, fx_666, fx_667, fx_668, fx_669, fx_670, fx_671, fx_672, fx_673, fx_674, fx_675, fx_676, fx_677, fx_678, fx_679, fx_680, fx_681, fx_682, fx_683, fx_684, wq, sp_sipush, sp_iload, sp_aload, sp_istore, sp_astore, sp_iinc, sp_iadd, sp_isub, sp_imul, sp_idiv, sp_irem, sp_ineg, sp_iand, sp_ior, sp_ixor, sp_ishl, sp_ishr, sp_iushr, sp_i2c, sp_dup, sp_dup2, sp_pop, sp_ifCond, sp_if_icmp, sp_goto, sp_ifnonnull, sp_tableswitch, sp_lookupswitch, sp_getstatic, sp_ldc, sp_ldc_w, sp_getfield, sp_checkcast, sp_putfield, sp_putstatic, sp_iaload, sp_iastore, sp_aaload, sp_aastore, sp_baload, sp_arraylength, sp_newarray, sp_anewarray, sp_new, sp_monitorexit, sp_swap, sp_invokestatic, sp_invokevirtual, sp_invokespecial, sp_ireturn, sp_return_, stf, p1, p2, pr, lI, lR, sL, cz, krt, List.map_cons, List.map_nil, List.getElem?_cons_zero, List.getElem?_cons_succ, List.length_cons, List.length_nil, List.set_cons_zero, List.set_cons_succ, List.take_succ_cons, List.take_zero, List.drop_succ_cons, List.drop_zero, List.reverse_cons, List.reverse_nil, List.nil_append, List.cons_append, List.replicate_zero, Nat.reduceAdd, Nat.reduceLT, Nat.reduceLeDiff, Nat.reduceSub, Nat.reduceMul, kq_y, kq_c, kq_n, kf_c, kf_k, Nat.reduceDiv, Nat.reduceMod, if_true, if_false, ite_true, ite_false, Int.reduceToNat, Nat.reduceEqDiff, reduceIte, reduceCtorEq, false_implies, true_implies, implies_true, forall_const, t3, s3, t4, s4, t10, s10, t11, s11, t12, s12, t144, s144, t2001, s2001,  hn_uN, hn_uI, hn_uP, Nat.add_assoc, true_and, and_true, not_true_eq_false, not_false_eq_true, kO_uI, kO_uP, kJ_uI, kJ_uP, kl_uI, kl_uP]
  repeat' first
    | ((with_reducible show Q _ _); exact q)
    | with_reducible apply And.intro
    | with_reducible exact ha
    | (with_reducible show _ < _; omega)
    | (with_reducible show _ ≤ _; (try simp only [hn_uN, hn_uI, hn_uP]); omega)
    | (refine fs_17 ?_ ?_ q)
    | (refine kLe_O (h := h) ?_ ha; (repeat first | exact kLe_rf _ | refine kLe_I ?_ _ _ _ | refine kLe_P ?_ _ _ _ | refine kLe_N ?_ _ _); done)
    | (simp [ha, hn_uN, hn_uI, hn_uP, Nat.add_assoc, kO_uN, kJ_uN, kO_uI, kO_uP, kJ_uI, kJ_uP, kl_uI, kl_uP, kl_uN]; done)
def fm_15 (h : kH) (a w : Nat) : kH := fm_16 (uP (uN (uP (uN (uP (uN (uP (uN (uP (uN (uP (uN (uP (uN (uI h a 35 (Int32.ofInt (-1))) 1 128) a 37 (some (hn h))) 1 16) a 39 (some (hn h + 1))) 1 16) a 40 (some (hn h + 2))) 1 24) a 42 (some (hn h + 3))) 1 11) a 43 (some (hn h + 4))) 1 420) a 44 (some (hn h + 5))) 1 12) a 45 (some (hn h + 6))) a w
theorem hn_fm_15 (h : kH) (a w : Nat) : hn (fm_15 h a w) = hn h + 25 := by simp only [fm_15, hn_fm_16, hn_uI, hn_uP, hn_uN, Nat.add_assoc, Nat.reduceAdd]
set_option maxHeartbeats 1000000 in
set_option maxRecDepth 100000 in
theorem fs_15 {g : kG} {d a w : Nat} {h : kH} {Q : Int32 → kH → Prop} (ha : kO h a 11) (hm : hn h + 25 ≤ 1000000) (q : Q 0 (fm_15 h a w)) : Wz g 157 (d + 1) 622 17 4688 [some (.inr (some a))] [] h Q := by
  refine Wz_wqc [] (mc := 42) (ms := 13976) 31 (by decide) me_157 (by decide +kernel) ?_
  show wq g 157 d none 42 13976 kc_157 [] Q 31 17 4688 622 [some (.inr (some a))] [] h
  have t11 : (Int32.ofInt 11).toNatClampNeg = 11 := by decide +kernel
  have t12 : (Int32.ofInt 12).toNatClampNeg = 12 := by decide +kernel
  have t16 : (Int32.ofInt 16).toNatClampNeg = 16 := by decide +kernel
  have t24 : (Int32.ofInt 24).toNatClampNeg = 24 := by decide +kernel
  have t128 : (Int32.ofInt 128).toNatClampNeg = 128 := by decide +kernel
  have t420 : (Int32.ofInt 420).toNatClampNeg = 420 := by decide +kernel
  have s11 : ¬ Int32.ofInt 11 < 0 := by decide +kernel
  have s12 : ¬ Int32.ofInt 12 < 0 := by decide +kernel
  have s16 : ¬ Int32.ofInt 16 < 0 := by decide +kernel
  have s24 : ¬ Int32.ofInt 24 < 0 := by decide +kernel
  have s128 : ¬ Int32.ofInt 128 < 0 := by decide +kernel
  have s420 : ¬ Int32.ofInt 420 < 0 := by decide +kernel
  simp only [fx_622, fx_623, fx_624, fx_625, fx_626, fx_627, fx_628, fx_629, fx_630, fx_631, fx_632, fx_633, fx_634, fx_635, fx_636, fx_637, fx_638, fx_639, fx_640, fx_641, fx_642, fx_643, fx_644, fx_645, fx_646, fx_647, fx_648, fx_649, fx_650, fx_651, fx_652, wq, sp_sipush, sp_iload, sp_aload, sp_istore, sp_astore, sp_iinc, sp_iadd, sp_isub, sp_imul, sp_idiv, sp_irem, sp_ineg, sp_iand, sp_ior, sp_ixor, sp_ishl, sp_ishr, sp_iushr, sp_i2c, sp_dup, sp_dup2, sp_pop, sp_ifCond, sp_if_icmp, sp_goto, sp_ifnonnull, sp_tableswitch, sp_lookupswitch, sp_getstatic, sp_ldc, sp_ldc_w, sp_getfield, sp_checkcast, sp_putfield, sp_putstatic, sp_iaload, sp_iastore, sp_aaload, sp_aastore, sp_baload, sp_arraylength, sp_newarray, sp_anewarray, sp_new, sp_monitorexit, sp_swap, sp_invokestatic, sp_invokevirtual, sp_invokespecial, sp_ireturn, sp_return_, stf, p1, p2, pr, lI, lR, sL, cz, krt, List.map_cons, List.map_nil, List.getElem?_cons_zero, List.getElem?_cons_succ, List.length_cons, List.length_nil, List.set_cons_zero, List.set_cons_succ, List.take_succ_cons, List.take_zero, List.drop_succ_cons, List.drop_zero, List.reverse_cons, List.reverse_nil, List.nil_append, List.cons_append, List.replicate_zero, Nat.reduceAdd, Nat.reduceLT, Nat.reduceLeDiff, Nat.reduceSub, Nat.reduceMul, kq_y, kq_c, kq_n, kf_c, kf_k, Nat.reduceDiv, Nat.reduceMod, if_true, if_false, ite_true, ite_false, Int.reduceToNat, Nat.reduceEqDiff, reduceIte, reduceCtorEq, false_implies, true_implies, implies_true, forall_const, t11, s11, t12, s12, t16, s16, t24, s24, t128, s128, t420, s420,  hn_uN, hn_uI, hn_uP, Nat.add_assoc, true_and, and_true, not_true_eq_false, not_false_eq_true, kO_uI, kO_uP, kJ_uI, kJ_uP, kl_uI, kl_uP]
  repeat' first
    | ((with_reducible show Q _ _); exact q)
    | with_reducible apply And.intro
    | with_reducible exact ha
    | (with_reducible show _ < _; omega)
    | (with_reducible show _ ≤ _; (try simp only [hn_uN, hn_uI, hn_uP]); omega)
    | (refine fs_16 ?_ ?_ q)
    | (refine kLe_O (h := h) ?_ ha; (repeat first | exact kLe_rf _ | refine kLe_I ?_ _ _ _ | refine kLe_P ?_ _ _ _ | refine kLe_N ?_ _ _); done)
    | (simp [ha, hn_uN, hn_uI, hn_uP, Nat.add_assoc, kO_uN, kJ_uN, kO_uI, kO_uP, kJ_uI, kJ_uP, kl_uI, kl_uP, kl_uN]; done)
def fm_14 (h : kH) (a w : Nat) : kH := fm_15 (uP (uN (uP (uN (uP (uN (uP (uN (uP (uN (uP (uN (uP (uN (uP (uN h 1 2) a 20 (some (hn h))) 1 48) a 21 (some (hn h + 1))) 1 48) a 22 (some (hn h + 2))) 1 48) a 23 (some (hn h + 3))) 1 48) a 24 (some (hn h + 4))) 1 1200) a 25 (some (hn h + 5))) 1 1200) a 26 (some (hn h + 6))) 1 40) a 30 (some (hn h + 7))) a w
theorem hn_fm_14 (h : kH) (a w : Nat) : hn (fm_14 h a w) = hn h + 33 := by simp only [fm_14, hn_fm_15, hn_uI, hn_uP, hn_uN, Nat.add_assoc, Nat.reduceAdd]
set_option maxHeartbeats 1000000 in
set_option maxRecDepth 100000 in
theorem fs_14 {g : kG} {d a w : Nat} {h : kH} {Q : Int32 → kH → Prop} (ha : kO h a 11) (hm : hn h + 33 ≤ 1000000) (q : Q 0 (fm_14 h a w)) : Wz g 157 (d + 1) 590 9 2054 [some (.inr (some a))] [] h Q := by
  refine Wz_wqc [] (mc := 42) (ms := 13976) 32 (by decide) me_157 (by decide +kernel) ?_
  show wq g 157 d none 42 13976 kc_157 [] Q 32 9 2054 590 [some (.inr (some a))] [] h
  have t2 : (Int32.ofInt 2).toNatClampNeg = 2 := by decide +kernel
  have t40 : (Int32.ofInt 40).toNatClampNeg = 40 := by decide +kernel
  have t48 : (Int32.ofInt 48).toNatClampNeg = 48 := by decide +kernel
  have t1200 : (Int32.ofInt 1200).toNatClampNeg = 1200 := by decide +kernel
  have s2 : ¬ Int32.ofInt 2 < 0 := by decide +kernel
  have s40 : ¬ Int32.ofInt 40 < 0 := by decide +kernel
  have s48 : ¬ Int32.ofInt 48 < 0 := by decide +kernel
  have s1200 : ¬ Int32.ofInt 1200 < 0 := by decide +kernel
  simp only [fx_590, fx_591, fx_592, fx_593, fx_594, fx_595, fx_596, fx_597, fx_598, fx_599, fx_600, fx_601, fx_602, fx_603, fx_604, fx_605, fx_606, fx_607, fx_608, fx_609, fx_610, fx_611, fx_612, fx_613, fx_614, fx_615, fx_616, fx_617, fx_618, fx_619, fx_620, fx_621, wq, sp_sipush, sp_iload, sp_aload, sp_istore, sp_astore, sp_iinc, sp_iadd, sp_isub, sp_imul, sp_idiv, sp_irem, sp_ineg, sp_iand, sp_ior, sp_ixor, sp_ishl, sp_ishr, sp_iushr, sp_i2c, sp_dup, sp_dup2, sp_pop, sp_ifCond, sp_if_icmp, sp_goto, sp_ifnonnull, sp_tableswitch, sp_lookupswitch, sp_getstatic, sp_ldc, sp_ldc_w, sp_getfield, sp_checkcast, sp_putfield, sp_putstatic, sp_iaload, sp_iastore, sp_aaload, sp_aastore, sp_baload, sp_arraylength, sp_newarray, sp_anewarray, sp_new, sp_monitorexit, sp_swap, sp_invokestatic, sp_invokevirtual, sp_invokespecial, sp_ireturn, sp_return_, stf, p1, p2, pr, lI, lR, sL, cz, krt, List.map_cons, List.map_nil, List.getElem?_cons_zero, List.getElem?_cons_succ, List.length_cons, List.length_nil, List.set_cons_zero, List.set_cons_succ, List.take_succ_cons, List.take_zero, List.drop_succ_cons, List.drop_zero, List.reverse_cons, List.reverse_nil, List.nil_append, List.cons_append, List.replicate_zero, Nat.reduceAdd, Nat.reduceLT, Nat.reduceLeDiff, Nat.reduceSub, Nat.reduceMul, kq_y, kq_c, kq_n, kf_c, kf_k, Nat.reduceDiv, Nat.reduceMod, if_true, if_false, ite_true, ite_false, Int.reduceToNat, Nat.reduceEqDiff, reduceIte, reduceCtorEq, false_implies, true_implies, implies_true, forall_const, t2, s2, t40, s40, t48, s48, t1200, s1200,  hn_uN, hn_uI, hn_uP, Nat.add_assoc, true_and, and_true, not_true_eq_false, not_false_eq_true, kO_uI, kO_uP, kJ_uI, kJ_uP, kl_uI, kl_uP]
  repeat' first
    | ((with_reducible show Q _ _); exact q)
    | with_reducible apply And.intro
    | with_reducible exact ha
    | (with_reducible show _ < _; omega)
    | (with_reducible show _ ≤ _; (try simp only [hn_uN, hn_uI, hn_uP]); omega)
    | (refine fs_15 ?_ ?_ q)
    | (refine kLe_O (h := h) ?_ ha; (repeat first | exact kLe_rf _ | refine kLe_I ?_ _ _ _ | refine kLe_P ?_ _ _ _ | refine kLe_N ?_ _ _); done)
    | (simp [ha, hn_uN, hn_uI, hn_uP, Nat.add_assoc, kO_uN, kJ_uN, kO_uI, kO_uP, kJ_uI, kJ_uP, kl_uI, kl_uP, kl_uN]; done)
def fm_13 (h : kH) (a w : Nat) : kH := fm_14 (uP (uI (uI (uI (uI (uI (uI h w 132 (Int32.ofInt 97)) w 133 (Int32.ofInt 102)) w 134 (Int32.ofInt 116)) w 135 (Int32.ofInt 101)) w 136 (Int32.ofInt 114)) w 137 (Int32.ofInt 32)) a 19 (some w)) a w
theorem hn_fm_13 (h : kH) (a w : Nat) : hn (fm_13 h a w) = hn h + 33 := by simp only [fm_13, hn_fm_14, hn_uI, hn_uP, hn_uN, Nat.add_assoc, Nat.reduceAdd]
set_option maxHeartbeats 1000000 in
set_option maxRecDepth 100000 in
theorem fs_13 {g : kG} {d a w : Nat} {h : kH} {Q : Int32 → kH → Prop} (ha : kO h a 11) (hw : kJ h w) (hl : kl h w = 138) (hm : hn h + 33 ≤ 1000000) (q : Q 0 (fm_13 h a w)) : Wz g 157 (d + 1) 565 9 2054 [some (.inr (some a))] [.inr (some w), .inr (some a)] h Q := by
  refine Wz_wqc [] (mc := 42) (ms := 13976) 25 (by decide) me_157 (by decide +kernel) ?_
  show wq g 157 d none 42 13976 kc_157 [] Q 25 9 2054 565 [some (.inr (some a))] [.inr (some w), .inr (some a)] h
  have t132 : (Int32.ofInt 132).toNatClampNeg = 132 := by decide +kernel
  have t133 : (Int32.ofInt 133).toNatClampNeg = 133 := by decide +kernel
  have t134 : (Int32.ofInt 134).toNatClampNeg = 134 := by decide +kernel
  have t135 : (Int32.ofInt 135).toNatClampNeg = 135 := by decide +kernel
  have t136 : (Int32.ofInt 136).toNatClampNeg = 136 := by decide +kernel
  have t137 : (Int32.ofInt 137).toNatClampNeg = 137 := by decide +kernel
  have v132 : vp_in (Int32.ofInt 132) 138 := zi_in (by omega) (by omega) (by omega)
  have s132 : ¬ Int32.ofInt 132 < 0 := by decide +kernel
  have v133 : vp_in (Int32.ofInt 133) 138 := zi_in (by omega) (by omega) (by omega)
  have s133 : ¬ Int32.ofInt 133 < 0 := by decide +kernel
  have v134 : vp_in (Int32.ofInt 134) 138 := zi_in (by omega) (by omega) (by omega)
  have s134 : ¬ Int32.ofInt 134 < 0 := by decide +kernel
  have v135 : vp_in (Int32.ofInt 135) 138 := zi_in (by omega) (by omega) (by omega)
  have s135 : ¬ Int32.ofInt 135 < 0 := by decide +kernel
  have v136 : vp_in (Int32.ofInt 136) 138 := zi_in (by omega) (by omega) (by omega)
  have s136 : ¬ Int32.ofInt 136 < 0 := by decide +kernel
  have v137 : vp_in (Int32.ofInt 137) 138 := zi_in (by omega) (by omega) (by omega)
  have s137 : ¬ Int32.ofInt 137 < 0 := by decide +kernel
  simp only [fx_565, fx_566, fx_567, fx_568, fx_569, fx_570, fx_571, fx_572, fx_573, fx_574, fx_575, fx_576, fx_577, fx_578, fx_579, fx_580, fx_581, fx_582, fx_583, fx_584, fx_585, fx_586, fx_587, fx_588, fx_589, wq, sp_sipush, sp_iload, sp_aload, sp_istore, sp_astore, sp_iinc, sp_iadd, sp_isub, sp_imul, sp_idiv, sp_irem, sp_ineg, sp_iand, sp_ior, sp_ixor, sp_ishl, sp_ishr, sp_iushr, sp_i2c, sp_dup, sp_dup2, sp_pop, sp_ifCond, sp_if_icmp, sp_goto, sp_ifnonnull, sp_tableswitch, sp_lookupswitch, sp_getstatic, sp_ldc, sp_ldc_w, sp_getfield, sp_checkcast, sp_putfield, sp_putstatic, sp_iaload, sp_iastore, sp_aaload, sp_aastore, sp_baload, sp_arraylength, sp_newarray, sp_anewarray, sp_new, sp_monitorexit, sp_swap, sp_invokestatic, sp_invokevirtual, sp_invokespecial, sp_ireturn, sp_return_, stf, p1, p2, pr, lI, lR, sL, cz, krt, List.map_cons, List.map_nil, List.getElem?_cons_zero, List.getElem?_cons_succ, List.length_cons, List.length_nil, List.set_cons_zero, List.set_cons_succ, List.take_succ_cons, List.take_zero, List.drop_succ_cons, List.drop_zero, List.reverse_cons, List.reverse_nil, List.nil_append, List.cons_append, List.replicate_zero, Nat.reduceAdd, Nat.reduceLT, Nat.reduceLeDiff, Nat.reduceSub, Nat.reduceMul, kq_y, kq_c, kq_n, kf_c, kf_k, Nat.reduceDiv, Nat.reduceMod, if_true, if_false, ite_true, ite_false, Int.reduceToNat, Nat.reduceEqDiff, reduceIte, reduceCtorEq, false_implies, true_implies, implies_true, forall_const, t132, s132, t133, s133, t134, s134, t135, s135, t136, s136, t137, s137, v132, v133, v134, v135, v136, v137,  hn_uN, hn_uI, hn_uP, Nat.add_assoc, true_and, and_true, not_true_eq_false, not_false_eq_true, kO_uI, kO_uP, kJ_uI, kJ_uP, kl_uI, kl_uP, hw, hl]
  repeat' first
    | ((with_reducible show Q _ _); exact q)
    | with_reducible apply And.intro
    | with_reducible exact ha
    | with_reducible exact hw
    | with_reducible exact hl
    | (with_reducible show _ < _; omega)
    | (with_reducible show _ ≤ _; (try simp only [hn_uN, hn_uI, hn_uP]); omega)
    | (refine fs_14 ?_ ?_ q)
    | (refine kLe_O (h := h) ?_ ha; (repeat first | exact kLe_rf _ | refine kLe_I ?_ _ _ _ | refine kLe_P ?_ _ _ _ | refine kLe_N ?_ _ _); done)
    | (simp [ha, hn_uN, hn_uI, hn_uP, Nat.add_assoc, kO_uN, kJ_uN, kO_uI, kO_uP, kJ_uI, kJ_uP, kl_uI, kl_uP, kl_uN, hw, hl]; done)
