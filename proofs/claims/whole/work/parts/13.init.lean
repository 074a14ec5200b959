def fm_18 (h : kH) (a w : Nat) : kH := (uP (uN (uP (uN h 1 4096) a 71 (some (hn h))) 1 2200) a 75 (some (hn h + 1)))
theorem hn_fm_18 (h : kH) (a w : Nat) : hn (fm_18 h a w) = hn h + 2 := by simp only [fm_18, hn_uI, hn_uP, hn_uN, Nat.add_assoc, Nat.reduceAdd]
set_option maxHeartbeats 1000000 in
set_option maxRecDepth 100000 in
theorem fs_18 {g : kG} {d a w : Nat} {h : kH} {Q : Int32 → kH → Prop} (ha : kO h a 11) (hm : hn h + 2 ≤ 1000000) (q : Q 0 (fm_18 h a w)) : Wz g 157 (d + 1) 717 40 7680 [some (.inr (some a))] [] h Q := by
  refine Wz_wqc [] (mc := 42) (ms := 13976) 12 (by decide) me_157 (by decide +kernel) ?_
  show wq g 157 d none 42 13976 kc_157 [] Q 12 40 7680 717 [some (.inr (some a))] [] h
  have t2200 : (Int32.ofInt 2200).toNatClampNeg = 2200 := by decide
  have t4096 : (Int32.ofInt 4096).toNatClampNeg = 4096 := by decide
  have s2200 : ¬ Int32.ofInt 2200 < 0 := by decide
  have s4096 : ¬ Int32.ofInt 4096 < 0 := by decide
  simp only [kc_157, wq, stp, stf, p1, p2, pr, lI, lR, sL, cz, krt, List.map_cons, List.map_nil, List.getElem?_cons_zero, List.getElem?_cons_succ, List.length_cons, List.length_nil, List.set_cons_zero, List.set_cons_succ, List.take_succ_cons, List.take_zero, List.drop_succ_cons, List.drop_zero, List.reverse_cons, List.reverse_nil, List.nil_append, List.cons_append, List.replicate_zero, Nat.reduceAdd, Nat.reduceLT, Nat.reduceLeDiff, Nat.reduceSub, Nat.reduceMul, kq_y, kq_c, kq_n, kf_c, kf_k, Nat.reduceDiv, Nat.reduceMod, if_true, if_false, ite_true, ite_false, Int.reduceToNat, Nat.reduceEqDiff, reduceIte, reduceCtorEq, false_implies, true_implies, implies_true, forall_const, t2200, s2200, t4096, s4096,  hn_uN, hn_uI, hn_uP, Nat.add_assoc, true_and, and_true, not_true_eq_false, not_false_eq_true, kO_uI, kO_uP, kJ_uI, kJ_uP, kl_uI, kl_uP]
  repeat' first
    | ((with_reducible show Q _ _); exact q)
    | with_reducible apply And.intro
    | with_reducible exact ha
    | (with_reducible show _ < _; omega)
    | (with_reducible show _ ≤ _; (try simp only [hn_uN, hn_uI, hn_uP]); omega)
    | (refine kLe_O (h := h) ?_ ha; (repeat first | exact kLe_rf _ | refine kLe_I ?_ _ _ _ | refine kLe_P ?_ _ _ _ | refine kLe_N ?_ _ _); done)
    | (simp [ha, hn_uN, hn_uI, hn_uP, Nat.add_assoc, kO_uN, kJ_uN, kO_uI, kO_uP, kJ_uI, kJ_uP, kl_uI, kl_uP, kl_uN]; done)
def fm_17 (h : kH) (a w : Nat) : kH := fm_18 (uP (uN (uP (uN (uP (uN (uP (uN (uP (uN (uP (uN (uP (uN (uP (uN h 1 3) a 56 (some (hn h))) 1 9) a 60 (some (hn h + 1))) 1 81) a 61 (some (hn h + 2))) 1 12) a 63 (some (hn h + 3))) 1 10) a 65 (some (hn h + 4))) 1 8) a 67 (some (hn h + 5))) 1 40) a 68 (some (hn h + 6))) 1 6) a 70 (some (hn h + 7))) a w
theorem hn_fm_17 (h : kH) (a w : Nat) : hn (fm_17 h a w) = hn h + 10 := by simp only [fm_17, hn_fm_18, hn_uI, hn_uP, hn_uN, Nat.add_assoc, Nat.reduceAdd]
set_option maxHeartbeats 1000000 in
set_option maxRecDepth 100000 in
theorem fs_17 {g : kG} {d a w : Nat} {h : kH} {Q : Int32 → kH → Prop} (ha : kO h a 11) (hm : hn h + 10 ≤ 1000000) (q : Q 0 (fm_17 h a w)) : Wz g 157 (d + 1) 685 32 7511 [some (.inr (some a))] [] h Q := by
  refine Wz_wqc [] (mc := 42) (ms := 13976) 32 (by decide) me_157 (by decide +kernel) ?_
  show wq g 157 d none 42 13976 kc_157 [] Q 32 32 7511 685 [some (.inr (some a))] [] h
  have t3 : (Int32.ofInt 3).toNatClampNeg = 3 := by decide
  have t6 : (Int32.ofInt 6).toNatClampNeg = 6 := by decide
  have t8 : (Int32.ofInt 8).toNatClampNeg = 8 := by decide
  have t9 : (Int32.ofInt 9).toNatClampNeg = 9 := by decide
  have t10 : (Int32.ofInt 10).toNatClampNeg = 10 := by decide
  have t12 : (Int32.ofInt 12).toNatClampNeg = 12 := by decide
  have t40 : (Int32.ofInt 40).toNatClampNeg = 40 := by decide
  have t81 : (Int32.ofInt 81).toNatClampNeg = 81 := by decide
  have s3 : ¬ Int32.ofInt 3 < 0 := by decide
  have s6 : ¬ Int32.ofInt 6 < 0 := by decide
  have s8 : ¬ Int32.ofInt 8 < 0 := by decide
  have s9 : ¬ Int32.ofInt 9 < 0 := by decide
  have s10 : ¬ Int32.ofInt 10 < 0 := by decide
  have s12 : ¬ Int32.ofInt 12 < 0 := by decide
  have s40 : ¬ Int32.ofInt 40 < 0 := by decide
  have s81 : ¬ Int32.ofInt 81 < 0 := by decide
  simp only [kc_157, wq, stp, stf, p1, p2, pr, lI, lR, sL, cz, krt, List.map_cons, List.map_nil, List.getElem?_cons_zero, List.getElem?_cons_succ, List.length_cons, List.length_nil, List.set_cons_zero, List.set_cons_succ, List.take_succ_cons, List.take_zero, List.drop_succ_cons, List.drop_zero, List.reverse_cons, List.reverse_nil, List.nil_append, List.cons_append, List.replicate_zero, Nat.reduceAdd, Nat.reduceLT, Nat.reduceLeDiff, Nat.reduceSub, Nat.reduceMul, kq_y, kq_c, kq_n, kf_c, kf_k, Nat.reduceDiv, Nat.reduceMod, if_true, if_false, ite_true, ite_false, Int.reduceToNat, Nat.reduceEqDiff, reduceIte, reduceCtorEq, false_implies, true_implies, implies_true, forall_const, t3, s3, t6, s6, t8, s8, t9, s9, t10, s10, t12, s12, t40, s40, t81, s81,  hn_uN, hn_uI, hn_uP, Nat.add_assoc, true_and, and_true, not_true_eq_false, not_false_eq_true, kO_uI, kO_uP, kJ_uI, kJ_uP, kl_uI, kl_uP]
  repeat' first
    | ((with_reducible show Q _ _); exact q)
    | with_reducible apply And.intro
    | with_reducible exact ha
    | (with_reducible show _ < _; omega)
    | (with_reducible show _ ≤ _; (try simp only [hn_uN, hn_uI, hn_uP]); omega)
    | (refine fs_18 ?_ ?_ q)
    | (refine kLe_O (h := h) ?_ ha; (repeat first | exact kLe_rf _ | refine kLe_I ?_ _ _ _ | refine kLe_P ?_ _ _ _ | refine kLe_N ?_ _ _); done)
    | (simp [ha, hn_uN, hn_uI, hn_uP, Nat.add_assoc, kO_uN, kJ_uN, kO_uI, kO_uP, kJ_uI, kJ_uP, kl_uI, kl_uP, kl_uN]; done)
def fm_16 (h : kH) (a w : Nat) : kH := fm_17 (uP (uN (uP (uN (uP (uN (uP (uN (uP (uN (uP (uN (uP (uN (uP (uN h 1 144) a 46 (some (hn h))) 1 10) a 48 (some (hn h + 1))) 1 11) a 49 (some (hn h + 2))) 1 11) a 50 (some (hn h + 3))) 1 4) a 52 (some (hn h + 4))) 1 2001) a 53 (some (hn h + 5))) 1 12) a 54 (some (hn h + 6))) 1 3) a 55 (some (hn h + 7))) a w
theorem hn_fm_16 (h : kH) (a w : Nat) : hn (fm_16 h a w) = hn h + 18 := by simp only [fm_16, hn_fm_17, hn_uI, hn_uP, hn_uN, Nat.add_assoc, Nat.reduceAdd]
set_option maxHeartbeats 1000000 in
set_option maxRecDepth 100000 in
theorem fs_16 {g : kG} {d a w : Nat} {h : kH} {Q : Int32 → kH → Prop} (ha : kO h a 11) (hm : hn h + 18 ≤ 1000000) (q : Q 0 (fm_16 h a w)) : Wz g 157 (d + 1) 653 24 5315 [some (.inr (some a))] [] h Q := by
  refine Wz_wqc [] (mc := 42) (ms := 13976) 32 (by decide) me_157 (by decide +kernel) ?_
  show wq g 157 d none 42 13976 kc_157 [] Q 32 24 5315 653 [some (.inr (some a))] [] h
  have t3 : (Int32.ofInt 3).toNatClampNeg = 3 := by decide
  have t4 : (Int32.ofInt 4).toNatClampNeg = 4 := by decide
  have t10 : (Int32.ofInt 10).toNatClampNeg = 10 := by decide
  have t11 : (Int32.ofInt 11).toNatClampNeg = 11 := by decide
  have t12 : (Int32.ofInt 12).toNatClampNeg = 12 := by decide
  have t144 : (Int32.ofInt 144).toNatClampNeg = 144 := by decide
  have t2001 : (Int32.ofInt 2001).toNatClampNeg = 2001 := by decide
  have s3 : ¬ Int32.ofInt 3 < 0 := by decide
  have s4 : ¬ Int32.ofInt 4 < 0 := by decide
  have s10 : ¬ Int32.ofInt 10 < 0 := by decide
  have s11 : ¬ Int32.ofInt 11 < 0 := by decide
  have s12 : ¬ Int32.ofInt 12 < 0 := by decide
  have s144 : ¬ Int32.ofInt 144 < 0 := by decide
  have s2001 : ¬ Int32.ofInt 2001 < 0 := by decide
  simp only [kc_157, wq, stp, stf, p1, p2, pr, lI, lR, sL, cz, krt, List.map_cons, List.map_nil, List.getElem?_cons_zero, List.getElem?_cons_succ, List.length_cons, List.length_nil, List.set_cons_zero, List.set_cons_succ, List.take_succ_cons, List.take_zero, List.drop_succ_cons, List.drop_zero, List.reverse_cons, List.reverse_nil, List.nil_append, List.cons_append, List.replicate_zero, Nat.reduceAdd, Nat.reduceLT, Nat.reduceLeDiff, Nat.reduceSub, Nat.reduceMul, kq_y, kq_c, kq_n, kf_c, kf_k, Nat.reduceDiv, Nat.reduceMod, if_true, if_false, ite_true, ite_false, Int.reduceToNat, Nat.reduceEqDiff, reduceIte, reduceCtorEq, false_implies, true_implies, implies_true, forall_const, t3, s3, t4, s4, t10, s10, t11, s11, t12, s12, t144, s144, t2001, s2001,  hn_uN, hn_uI, hn_uP, Nat.add_assoc, true_and, and_true, not_true_eq_false, not_false_eq_true, kO_uI, kO_uP, kJ_uI, kJ_uP, kl_uI, kl_uP]
  repeat' first
    | ((with_reducible show Q _ _); exact q)
    | with_reducible apply And.intro
    | with_reducible exact ha
    | (with_reducible show _ < _; omega)
    | (with_reducible show _ ≤ _; (try simp only [hn_uN, hn_uI, hn_uP]); omega)
    | (refine fs_17 ?_ ?_ q)
    | (refine kLe_O (h := h) ?_ ha; (repeat first | exact kLe_rf _ | refine kLe_I ?_ _ _ _ | refine kLe_P ?_ _ _ _ | refine kLe_N ?_ _ _); done)
    | (simp [ha, hn_uN, hn_uI, hn_uP, Nat.add_assoc, kO_uN, kJ_uN, kO_uI, kO_uP, kJ_uI, kJ_uP, kl_uI, kl_uP, kl_uN]; done)
def fm_15 (h : kH) (a w : Nat) : kH := fm_16 (uP (uN (uP (uN (uP (uN (uP (uN (uP (uN (uP (uN (uP (uN (uI h a 35 (Int32.ofInt (-1))) 1 128) a 37 (some (hn h))) 1 16) a 39 (some (hn h + 1))) 1 16) a 40 (some (hn h + 2))) 1 24) a 42 (some (hn h + 3))) 1 11) a 43 (some (hn h + 4))) 1 420) a 44 (some (hn h + 5))) 1 12) a 45 (some (hn h + 6))) a w
theorem hn_fm_15 (h : kH) (a w : Nat) : hn (fm_15 h a w) = hn h + 25 := by simp only [fm_15, hn_fm_16, hn_uI, hn_uP, hn_uN, Nat.add_assoc, Nat.reduceAdd]
set_option maxHeartbeats 1000000 in
set_option maxRecDepth 100000 in
theorem fs_15 {g : kG} {d a w : Nat} {h : kH} {Q : Int32 → kH → Prop} (ha : kO h a 11) (hm : hn h + 25 ≤ 1000000) (q : Q 0 (fm_15 h a w)) : Wz g 157 (d + 1) 622 17 4688 [some (.inr (some a))] [] h Q := by
  refine Wz_wqc [] (mc := 42) (ms := 13976) 31 (by decide) me_157 (by decide +kernel) ?_
  show wq g 157 d none 42 13976 kc_157 [] Q 31 17 4688 622 [some (.inr (some a))] [] h
  have t11 : (Int32.ofInt 11).toNatClampNeg = 11 := by decide
  have t12 : (Int32.ofInt 12).toNatClampNeg = 12 := by decide
  have t16 : (Int32.ofInt 16).toNatClampNeg = 16 := by decide
  have t24 : (Int32.ofInt 24).toNatClampNeg = 24 := by decide
  have t128 : (Int32.ofInt 128).toNatClampNeg = 128 := by decide
  have t420 : (Int32.ofInt 420).toNatClampNeg = 420 := by decide
  have s11 : ¬ Int32.ofInt 11 < 0 := by decide
  have s12 : ¬ Int32.ofInt 12 < 0 := by decide
  have s16 : ¬ Int32.ofInt 16 < 0 := by decide
  have s24 : ¬ Int32.ofInt 24 < 0 := by decide
  have s128 : ¬ Int32.ofInt 128 < 0 := by decide
  have s420 : ¬ Int32.ofInt 420 < 0 := by decide
  simp only [kc_157, wq, stp, stf, p1, p2, pr, lI, lR, sL, cz, krt, List.map_cons, List.map_nil, List.getElem?_cons_zero, List.getElem?_cons_succ, List.length_cons, List.length_nil, List.set_cons_zero, List.set_cons_succ, List.take_succ_cons, List.take_zero, List.drop_succ_cons, List.drop_zero, List.reverse_cons, List.reverse_nil, List.nil_append, List.cons_append, List.replicate_zero, Nat.reduceAdd, Nat.reduceLT, Nat.reduceLeDiff, Nat.reduceSub, Nat.reduceMul, kq_y, kq_c, kq_n, kf_c, kf_k, Nat.reduceDiv, Nat.reduceMod, if_true, if_false, ite_true, ite_false, Int.reduceToNat, Nat.reduceEqDiff, reduceIte, reduceCtorEq, false_implies, true_implies, implies_true, forall_const, t11, s11, t12, s12, t16, s16, t24, s24, t128, s128, t420, s420,  hn_uN, hn_uI, hn_uP, Nat.add_assoc, true_and, and_true, not_true_eq_false, not_false_eq_true, kO_uI, kO_uP, kJ_uI, kJ_uP, kl_uI, kl_uP]
  repeat' first
    | ((with_reducible show Q _ _); exact q)
    | with_reducible apply And.intro
    | with_reducible exact ha
    | (with_reducible show _ < _; omega)
    | (with_reducible show _ ≤ _; (try simp only [hn_uN, hn_uI, hn_uP]); omega)
    | (refine fs_16 ?_ ?_ q)
    | (refine kLe_O (h := h) ?_ ha; (repeat first | exact kLe_rf _ | refine kLe_I ?_ _ _ _ | refine kLe_P ?_ _ _ _ | refine kLe_N ?_ _ _); done)
    | (simp [ha, hn_uN, hn_uI, hn_uP, Nat.add_assoc, kO_uN, kJ_uN, kO_uI, kO_uP, kJ_uI, kJ_uP, kl_uI, kl_uP, kl_uN]; done)
def fm_14 (h : kH) (a w : Nat) : kH := fm_15 (uP (uN (uP (uN (uP (uN (uP (uN (uP (uN (uP (uN (uP (uN (uP (uN h 1 2) a 20 (some (hn h))) 1 48) a 21 (some (hn h + 1))) 1 48) a 22 (some (hn h + 2))) 1 48) a 23 (some (hn h + 3))) 1 48) a 24 (some (hn h + 4))) 1 1200) a 25 (some (hn h + 5))) 1 1200) a 26 (some (hn h + 6))) 1 40) a 30 (some (hn h + 7))) a w
theorem hn_fm_14 (h : kH) (a w : Nat) : hn (fm_14 h a w) = hn h + 33 := by simp only [fm_14, hn_fm_15, hn_uI, hn_uP, hn_uN, Nat.add_assoc, Nat.reduceAdd]
set_option maxHeartbeats 1000000 in
set_option maxRecDepth 100000 in
theorem fs_14 {g : kG} {d a w : Nat} {h : kH} {Q : Int32 → kH → Prop} (ha : kO h a 11) (hm : hn h + 33 ≤ 1000000) (q : Q 0 (fm_14 h a w)) : Wz g 157 (d + 1) 590 9 2054 [some (.inr (some a))] [] h Q := by
  refine Wz_wqc [] (mc := 42) (ms := 13976) 32 (by decide) me_157 (by decide +kernel) ?_
  show wq g 157 d none 42 13976 kc_157 [] Q 32 9 2054 590 [some (.inr (some a))] [] h
  have t2 : (Int32.ofInt 2).toNatClampNeg = 2 := by decide
  have t40 : (Int32.ofInt 40).toNatClampNeg = 40 := by decide
  have t48 : (Int32.ofInt 48).toNatClampNeg = 48 := by decide
  have t1200 : (Int32.ofInt 1200).toNatClampNeg = 1200 := by decide
  have s2 : ¬ Int32.ofInt 2 < 0 := by decide
  have s40 : ¬ Int32.ofInt 40 < 0 := by decide
  have s48 : ¬ Int32.ofInt 48 < 0 := by decide
  have s1200 : ¬ Int32.ofInt 1200 < 0 := by decide
  simp only [kc_157, wq, stp, stf, p1, p2, pr, lI, lR, sL, cz, krt, List.map_cons, List.map_nil, List.getElem?_cons_zero, List.getElem?_cons_succ, List.length_cons, List.length_nil, List.set_cons_zero, List.set_cons_succ, List.take_succ_cons, List.take_zero, List.drop_succ_cons, List.drop_zero, List.reverse_cons, List.reverse_nil, List.nil_append, List.cons_append, List.replicate_zero, Nat.reduceAdd, Nat.reduceLT, Nat.reduceLeDiff, Nat.reduceSub, Nat.reduceMul, kq_y, kq_c, kq_n, kf_c, kf_k, Nat.reduceDiv, Nat.reduceMod, if_true, if_false, ite_true, ite_false, Int.reduceToNat, Nat.reduceEqDiff, reduceIte, reduceCtorEq, false_implies, true_implies, implies_true, forall_const, t2, s2, t40, s40, t48, s48, t1200, s1200,  hn_uN, hn_uI, hn_uP, Nat.add_assoc, true_and, and_true, not_true_eq_false, not_false_eq_true, kO_uI, kO_uP, kJ_uI, kJ_uP, kl_uI, kl_uP]
  repeat' first
    | ((with_reducible show Q _ _); exact q)
    | with_reducible apply And.intro
    | with_reducible exact ha
    | (with_reducible show _ < _; omega)
    | (with_reducible show _ ≤ _; (try simp only [hn_uN, hn_uI, hn_uP]); omega)
    | (refine fs_15 ?_ ?_ q)
    | (refine kLe_O (h := h) ?_ ha; (repeat first | exact kLe_rf _ | refine kLe_I ?_ _ _ _ | refine kLe_P ?_ _ _ _ | refine kLe_N ?_ _ _); done)
    | (simp [ha, hn_uN, hn_uI, hn_uP, Nat.add_assoc, kO_uN, kJ_uN, kO_uI, kO_uP, kJ_uI, kJ_uP, kl_uI, kl_uP, kl_uN]; done)
def fm_13 (h : kH) (a w : Nat) : kH := fm_14 (uP (uI (uI (uI (uI (uI (uI h w 132 (Int32.ofInt 97)) w 133 (Int32.ofInt 102)) w 134 (Int32.ofInt 116)) w 135 (Int32.ofInt 101)) w 136 (Int32.ofInt 114)) w 137 (Int32.ofInt 32)) a 19 (some w)) a w
theorem hn_fm_13 (h : kH) (a w : Nat) : hn (fm_13 h a w) = hn h + 33 := by simp only [fm_13, hn_fm_14, hn_uI, hn_uP, hn_uN, Nat.add_assoc, Nat.reduceAdd]
set_option maxHeartbeats 1000000 in
set_option maxRecDepth 100000 in
theorem fs_13 {g : kG} {d a w : Nat} {h : kH} {Q : Int32 → kH → Prop} (ha : kO h a 11) (hw : kJ h w) (hl : kl h w = 138) (hm : hn h + 33 ≤ 1000000) (q : Q 0 (fm_13 h a w)) : Wz g 157 (d + 1) 565 9 2054 [some (.inr (some a))] [.inr (some w), .inr (some a)] h Q := by
  refine Wz_wqc [] (mc := 42) (ms := 13976) 25 (by decide) me_157 (by decide +kernel) ?_
  show wq g 157 d none 42 13976 kc_157 [] Q 25 9 2054 565 [some (.inr (some a))] [.inr (some w), .inr (some a)] h
  have t132 : (Int32.ofInt 132).toNatClampNeg = 132 := by decide
  have t133 : (Int32.ofInt 133).toNatClampNeg = 133 := by decide
  have t134 : (Int32.ofInt 134).toNatClampNeg = 134 := by decide
  have t135 : (Int32.ofInt 135).toNatClampNeg = 135 := by decide
  have t136 : (Int32.ofInt 136).toNatClampNeg = 136 := by decide
  have t137 : (Int32.ofInt 137).toNatClampNeg = 137 := by decide
  have v132 : vp_in (Int32.ofInt 132) 138 := zi_in (by omega) (by omega) (by omega)
  have s132 : ¬ Int32.ofInt 132 < 0 := by decide
  have v133 : vp_in (Int32.ofInt 133) 138 := zi_in (by omega) (by omega) (by omega)
  have s133 : ¬ Int32.ofInt 133 < 0 := by decide
  have v134 : vp_in (Int32.ofInt 134) 138 := zi_in (by omega) (by omega) (by omega)
  have s134 : ¬ Int32.ofInt 134 < 0 := by decide
  have v135 : vp_in (Int32.ofInt 135) 138 := zi_in (by omega) (by omega) (by omega)
  have s135 : ¬ Int32.ofInt 135 < 0 := by decide
  have v136 : vp_in (Int32.ofInt 136) 138 := zi_in (by omega) (by omega) (by omega)
  have s136 : ¬ Int32.ofInt 136 < 0 := by decide
  have v137 : vp_in (Int32.ofInt 137) 138 := zi_in (by omega) (by omega) (by omega)
  have s137 : ¬ Int32.ofInt 137 < 0 := by decide
  simp only [kc_157, wq, stp, stf, p1, p2, pr, lI, lR, sL, cz, krt, List.map_cons, List.map_nil, List.getElem?_cons_zero, List.getElem?_cons_succ, List.length_cons, List.length_nil, List.set_cons_zero, List.set_cons_succ, List.take_succ_cons, List.take_zero, List.drop_succ_cons, List.drop_zero, List.reverse_cons, List.reverse_nil, List.nil_append, List.cons_append, List.replicate_zero, Nat.reduceAdd, Nat.reduceLT, Nat.reduceLeDiff, Nat.reduceSub, Nat.reduceMul, kq_y, kq_c, kq_n, kf_c, kf_k, Nat.reduceDiv, Nat.reduceMod, if_true, if_false, ite_true, ite_false, Int.reduceToNat, Nat.reduceEqDiff, reduceIte, reduceCtorEq, false_implies, true_implies, implies_true, forall_const, t132, s132, t133, s133, t134, s134, t135, s135, t136, s136, t137, s137, v132, v133, v134, v135, v136, v137,  hn_uN, hn_uI, hn_uP, Nat.add_assoc, true_and, and_true, not_true_eq_false, not_false_eq_true, kO_uI, kO_uP, kJ_uI, kJ_uP, kl_uI, kl_uP, hw, hl]
  repeat' first
    | ((with_reducible show Q _ _); exact q)
    | with_reducible apply And.intro
    | with_reducible exact ha
    | with_reducible exact hw
    | with_reducible exact hl
    | (with_reducible show _ < _; omega)
    | (with_reducible show _ ≤ _; (try simp only [hn_uN, hn_uI, hn_uP]); omega)
    | (refine fs_14 ?_ ?_ q)
    | (refine kLe_O (h := h) ?_ ha; (repeat first | exact kLe_rf _ | refine kLe_I ?_ _ _ _ | refine kLe_P ?_ _ _ _ | refine kLe_N ?_ _ _); done)
    | (simp [ha, hn_uN, hn_uI, hn_uP, Nat.add_assoc, kO_uN, kJ_uN, kO_uI, kO_uP, kJ_uI, kJ_uP, kl_uI, kl_uP, kl_uN, hw, hl]; done)
