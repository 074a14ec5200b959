def kc_X6_init (h : kH) (a : Nat) : kH := (uP (kc_X8_init (uN (uP (kc_X4_init (uN (uI (uI (uI (uI (uI (uP (uN (uP (uN (uI (uP (uN h 1 400) a 0 (some (hn h))) a 1 (Int32.ofInt 0)) 1 400) a 2 (some (hn h + 1))) 1 400) a 3 (some (hn h + 2))) a 4 (Int32.ofInt 0)) a 5 (Int32.ofInt 0)) a 6 (Int32.ofInt 0)) a 7 (Int32.ofInt 0)) a 8 (Int32.ofInt (-1))) 0 4) (hn h + 3)) a 9 (some (hn h + 3))) 0 8) (hn h + 12)) a 10 (some (hn h + 12)))
theorem hn_X6_init (h : kH) (a : Nat) : hn (kc_X6_init h a) = hn h + 17 := by simp only [kc_X6_init, hn_X4_init, hn_X8_init, hn_uI, hn_uP, hn_uN, Nat.add_assoc, Nat.reduceAdd]
theorem le_X6_init (h : kH) (a : Nat) : kLe h (kc_X6_init h a) := by
  unfold kc_X6_init
  repeat first | exact kLe_rf _ | refine kLe_I ?_ _ _ _ | refine kLe_P ?_ _ _ _ | refine kLe_N ?_ _ _ | refine kLe_tr ?_ (le_X4_init _ _) | refine kLe_tr ?_ (le_X8_init _ _)
theorem ol_X6_init {h : kH} {a b c : Nat} (o : kO h b c) : kO (kc_X6_init h a) b c := kLe_O (le_X6_init h a) o
theorem ou_X6_init {h : kH} {a b : Nat} (o : kU h b) : kU (kc_X6_init h a) b := kLe_U (le_X6_init h a) o
set_option maxHeartbeats 600000 in
set_option maxRecDepth 100000 in
theorem ks_X6_init {g : kG} {d a : Nat} {h : kH} {Q : Int32 → kH → Prop} (ha : kO h a 6) (hm : hn h + 17 ≤ 1000000) (q : Q 0 (kc_X6_init h a)) : Ev g 51 (d + 3) (.inr (some a) :: []) h Q := by
  have ha1 : a < hn h := ha.1
  refine Ev_wq (stops := []) (n := 1) (mc := 17) (ms := 1818) 48 (by decide) me_51 (by decide +kernel) rfl (by decide) ?_
  show wq g 51 (d + 2) none 17 1818 kc_51 [] Q 48 0 0 0 [some (.inr (some a))] [] h
  have z16 : ∀ n : Nat, n < 2147483648 → (Int32.ofInt (n : Int)).toNatClampNeg = n := fun n hn' => by rw [zi_ix (by omega) (by omega)]; omega
  have t0 : (Int32.ofInt 0).toNatClampNeg = 0 := by decide
  have s0 : ¬ Int32.ofInt 0 < 0 := by decide
  have t400 : (Int32.ofInt 400).toNatClampNeg = 400 := by decide
  have s400 : ¬ Int32.ofInt 400 < 0 := by decide
  have n4 : kn_N 4 = 5 := rfl
  have n8 : kn_N 8 = 5 := rfl
  have e38 : kc_c 38 = (8, 544) := by decide +kernel
  have e84 : kc_c 84 = (4, 64) := by decide +kernel
  simp  only [kc_51, wq, stp, stf, p1, p2, pr, lI, lR, sL, cz, krt, List.map_cons, List.map_nil, List.getElem?_cons_zero, List.getElem?_cons_succ, List.length_cons, List.length_nil, List.set_cons_zero, List.set_cons_succ, List.take_succ_cons, List.take_zero, List.drop_succ_cons, List.drop_zero, List.reverse_cons, List.reverse_nil, List.nil_append, List.cons_append, List.replicate_zero, Nat.reduceAdd, Nat.reduceLT, Nat.reduceLeDiff, Nat.reduceSub, Nat.reduceMul, kq_y, kq_c, kq_n, kf_c, kf_k, Nat.reduceDiv, Nat.reduceMod, if_true, if_false, ite_true, ite_false, Int.reduceToNat, Nat.reduceEqDiff, reduceIte, reduceCtorEq, false_implies, true_implies, implies_true, forall_const, hn_uN, hn_uI, hn_uP, hn_X4_init, hn_X8_init,  Nat.add_assoc, t0, s0, t400, s400, n4, n8, e38, e84,  true_and, and_true, not_false_eq_true, kO_uI, kO_uP, kJ_uI, kJ_uP, kU_uI, kU_uP, kl_uI, kl_uP, kl_uN, hP_uP, hP_uI, u2]
  repeat' first
    | ((with_reducible show Q _ _); exact q)
    | with_reducible apply And.intro
    | with_reducible exact ha
    | (with_reducible show _ < _; omega)
    | (with_reducible show _ ≤ _; omega)
    | (with_reducible show _ ≤ _; simp only [hn_uN, hn_uI, hn_uP, hn_X4_init, hn_X8_init]; omega)
    | (refine ks_X4_init ?_ ?_ ?_; rotate_left 2; (try simp  only [kc_51, wq, stp, stf, p1, p2, pr, lI, lR, sL, cz, krt, List.map_cons, List.map_nil, List.getElem?_cons_zero, List.getElem?_cons_succ, List.length_cons, List.length_nil, List.set_cons_zero, List.set_cons_succ, List.take_succ_cons, List.take_zero, List.drop_succ_cons, List.drop_zero, List.reverse_cons, List.reverse_nil, List.nil_append, List.cons_append, List.replicate_zero, Nat.reduceAdd, Nat.reduceLT, Nat.reduceLeDiff, Nat.reduceSub, Nat.reduceMul, kq_y, kq_c, kq_n, kf_c, kf_k, Nat.reduceDiv, Nat.reduceMod, if_true, if_false, ite_true, ite_false, Int.reduceToNat, Nat.reduceEqDiff, reduceIte, reduceCtorEq, false_implies, true_implies, implies_true, forall_const, hn_uN, hn_uI, hn_uP, hn_X4_init, hn_X8_init,  Nat.add_assoc, t0, s0, t400, s400, n4, n8, e38, e84,  true_and, and_true, not_false_eq_true, kO_uI, kO_uP, kJ_uI, kJ_uP, kU_uI, kU_uP, kl_uI, kl_uP, kl_uN, hP_uP, hP_uI, u2]))
    | (refine ks_X8_init ?_ ?_ ?_; rotate_left 2; (try simp  only [kc_51, wq, stp, stf, p1, p2, pr, lI, lR, sL, cz, krt, List.map_cons, List.map_nil, List.getElem?_cons_zero, List.getElem?_cons_succ, List.length_cons, List.length_nil, List.set_cons_zero, List.set_cons_succ, List.take_succ_cons, List.take_zero, List.drop_succ_cons, List.drop_zero, List.reverse_cons, List.reverse_nil, List.nil_append, List.cons_append, List.replicate_zero, Nat.reduceAdd, Nat.reduceLT, Nat.reduceLeDiff, Nat.reduceSub, Nat.reduceMul, kq_y, kq_c, kq_n, kf_c, kf_k, Nat.reduceDiv, Nat.reduceMod, if_true, if_false, ite_true, ite_false, Int.reduceToNat, Nat.reduceEqDiff, reduceIte, reduceCtorEq, false_implies, true_implies, implies_true, forall_const, hn_uN, hn_uI, hn_uP, hn_X4_init, hn_X8_init,  Nat.add_assoc, t0, s0, t400, s400, n4, n8, e38, e84,  true_and, and_true, not_false_eq_true, kO_uI, kO_uP, kJ_uI, kJ_uP, kU_uI, kU_uP, kl_uI, kl_uP, kl_uN, hP_uP, hP_uI, u2]))
    | (refine kLe_O (h := h) ?_ ha; (repeat first | exact kLe_rf _ | refine kLe_I ?_ _ _ _ | refine kLe_P ?_ _ _ _ | refine kLe_N ?_ _ _ | refine kLe_tr ?_ (le_X4_init _ _) | refine kLe_tr ?_ (le_X8_init _ _)); done)
    | (simp [ha, ol_X4_init, ou_X4_init, hn_X4_init, ol_X8_init, ou_X8_init, hn_X8_init, hn_uN, hn_uI, hn_uP, Nat.add_assoc, kO_uN, kU_uN, kJ_uN, kO_uI, kO_uP, kU_uI, kU_uP, kl_uI, kl_uP, kl_uN]; done)
def kc_X9_init (h : kH) (a : Nat) : kH := (uP (uN (uP (uN (uP (uN (uP (uN (uP (uN (uP (uN h 1 13) a 0 (some (hn h))) 1 13) a 1 (some (hn h + 1))) 1 13) a 2 (some (hn h + 2))) 1 1001) a 3 (some (hn h + 3))) 1 40) a 4 (some (hn h + 4))) 1 81) a 5 (some (hn h + 5)))
theorem hn_X9_init (h : kH) (a : Nat) : hn (kc_X9_init h a) = hn h + 6 := by simp only [kc_X9_init, hn_uI, hn_uP, hn_uN, Nat.add_assoc, Nat.reduceAdd]
theorem le_X9_init (h : kH) (a : Nat) : kLe h (kc_X9_init h a) := by
  unfold kc_X9_init
  repeat first | exact kLe_rf _ | refine kLe_I ?_ _ _ _ | refine kLe_P ?_ _ _ _ | refine kLe_N ?_ _ _
theorem ol_X9_init {h : kH} {a b c : Nat} (o : kO h b c) : kO (kc_X9_init h a) b c := kLe_O (le_X9_init h a) o
theorem ou_X9_init {h : kH} {a b : Nat} (o : kU h b) : kU (kc_X9_init h a) b := kLe_U (le_X9_init h a) o
set_option maxHeartbeats 600000 in
set_option maxRecDepth 100000 in
theorem ks_X9_init {g : kG} {d a : Nat} {h : kH} {Q : Int32 → kH → Prop} (ha : kO h a 9) (hm : hn h + 6 ≤ 1000000) (q : Q 0 (kc_X9_init h a)) : Ev g 87 (d + 1) (.inr (some a) :: []) h Q := by
  have ha1 : a < hn h := ha.1
  refine Ev_wq (stops := []) (n := 1) (mc := 6) (ms := 1161) 32 (by decide) me_87 (by decide +kernel) rfl (by decide) ?_
  show wq g 87 d none 6 1161 kc_87 [] Q 32 0 0 0 [some (.inr (some a))] [] h
  have z16 : ∀ n : Nat, n < 2147483648 → (Int32.ofInt (n : Int)).toNatClampNeg = n := fun n hn' => by rw [zi_ix (by omega) (by omega)]; omega
  have t13 : (Int32.ofInt 13).toNatClampNeg = 13 := by decide
  have s13 : ¬ Int32.ofInt 13 < 0 := by decide
  have t40 : (Int32.ofInt 40).toNatClampNeg = 40 := by decide
  have s40 : ¬ Int32.ofInt 40 < 0 := by decide
  have t81 : (Int32.ofInt 81).toNatClampNeg = 81 := by decide
  have s81 : ¬ Int32.ofInt 81 < 0 := by decide
  have t1001 : (Int32.ofInt 1001).toNatClampNeg = 1001 := by decide
  have s1001 : ¬ Int32.ofInt 1001 < 0 := by decide
  simp  only [kc_87, wq, stp, stf, p1, p2, pr, lI, lR, sL, cz, krt, List.map_cons, List.map_nil, List.getElem?_cons_zero, List.getElem?_cons_succ, List.length_cons, List.length_nil, List.set_cons_zero, List.set_cons_succ, List.take_succ_cons, List.take_zero, List.drop_succ_cons, List.drop_zero, List.reverse_cons, List.reverse_nil, List.nil_append, List.cons_append, List.replicate_zero, Nat.reduceAdd, Nat.reduceLT, Nat.reduceLeDiff, Nat.reduceSub, Nat.reduceMul, kq_y, kq_c, kq_n, kf_c, kf_k, Nat.reduceDiv, Nat.reduceMod, if_true, if_false, ite_true, ite_false, Int.reduceToNat, Nat.reduceEqDiff, reduceIte, reduceCtorEq, false_implies, true_implies, implies_true, forall_const, hn_uN, hn_uI, hn_uP,  Nat.add_assoc, t13, s13, t40, s40, t81, s81, t1001, s1001,  true_and, and_true, not_false_eq_true, kO_uI, kO_uP, kJ_uI, kJ_uP, kU_uI, kU_uP, kl_uI, kl_uP, kl_uN, hP_uP, hP_uI, u2]
  repeat' first
    | ((with_reducible show Q _ _); exact q)
    | with_reducible apply And.intro
    | with_reducible exact ha
    | (with_reducible show _ < _; omega)
    | (with_reducible show _ ≤ _; omega)
    | (with_reducible show _ ≤ _; simp only [hn_uN, hn_uI, hn_uP]; omega)
    | (refine kLe_O (h := h) ?_ ha; (repeat first | exact kLe_rf _ | refine kLe_I ?_ _ _ _ | refine kLe_P ?_ _ _ _ | refine kLe_N ?_ _ _); done)
    | (simp [ha, hn_uN, hn_uI, hn_uP, Nat.add_assoc, kO_uN, kU_uN, kJ_uN, kO_uI, kO_uP, kU_uI, kU_uP, kl_uI, kl_uP, kl_uN]; done)
def kc_X1_init (h : kH) (a : Nat) : kH := (uI (uP (uN h 1 4096) a 0 (some (hn h))) a 1 (Int32.ofInt 4095))
theorem hn_X1_init (h : kH) (a : Nat) : hn (kc_X1_init h a) = hn h + 1 := by simp only [kc_X1_init, hn_uI, hn_uP, hn_uN, Nat.add_assoc, Nat.reduceAdd]
theorem le_X1_init (h : kH) (a : Nat) : kLe h (kc_X1_init h a) := by
  unfold kc_X1_init
  repeat first | exact kLe_rf _ | refine kLe_I ?_ _ _ _ | refine kLe_P ?_ _ _ _ | refine kLe_N ?_ _ _
theorem ol_X1_init {h : kH} {a b c : Nat} (o : kO h b c) : kO (kc_X1_init h a) b c := kLe_O (le_X1_init h a) o
theorem ou_X1_init {h : kH} {a b : Nat} (o : kU h b) : kU (kc_X1_init h a) b := kLe_U (le_X1_init h a) o
set_option maxHeartbeats 600000 in
set_option maxRecDepth 100000 in
theorem ks_X1_init {g : kG} {d a : Nat} {h : kH} {Q : Int32 → kH → Prop} (ha : kO h a 1) (hm : hn h + 1 ≤ 1000000) (q : Q 0 (kc_X1_init h a)) : Ev g 3 (d + 1) (.inr (some a) :: []) h Q := by
  have ha1 : a < hn h := ha.1
  refine Ev_wq (stops := []) (n := 1) (mc := 1) (ms := 4096) 15 (by decide) me_3 (by decide +kernel) rfl (by decide) ?_
  show wq g 3 d none 1 4096 kc_3 [] Q 15 0 0 0 [some (.inr (some a))] [] h
  have z16 : ∀ n : Nat, n < 2147483648 → (Int32.ofInt (n : Int)).toNatClampNeg = n := fun n hn' => by rw [zi_ix (by omega) (by omega)]; omega
  have t4095 : (Int32.ofInt 4095).toNatClampNeg = 4095 := by decide
  have s4095 : ¬ Int32.ofInt 4095 < 0 := by decide
  have t4096 : (Int32.ofInt 4096).toNatClampNeg = 4096 := by decide
  have s4096 : ¬ Int32.ofInt 4096 < 0 := by decide
  simp  only [kc_3, wq, stp, stf, p1, p2, pr, lI, lR, sL, cz, krt, List.map_cons, List.map_nil, List.getElem?_cons_zero, List.getElem?_cons_succ, List.length_cons, List.length_nil, List.set_cons_zero, List.set_cons_succ, List.take_succ_cons, List.take_zero, List.drop_succ_cons, List.drop_zero, List.reverse_cons, List.reverse_nil, List.nil_append, List.cons_append, List.replicate_zero, Nat.reduceAdd, Nat.reduceLT, Nat.reduceLeDiff, Nat.reduceSub, Nat.reduceMul, kq_y, kq_c, kq_n, kf_c, kf_k, Nat.reduceDiv, Nat.reduceMod, if_true, if_false, ite_true, ite_false, Int.reduceToNat, Nat.reduceEqDiff, reduceIte, reduceCtorEq, false_implies, true_implies, implies_true, forall_const, hn_uN, hn_uI, hn_uP,  Nat.add_assoc, t4095, s4095, t4096, s4096,  true_and, and_true, not_false_eq_true, kO_uI, kO_uP, kJ_uI, kJ_uP, kU_uI, kU_uP, kl_uI, kl_uP, kl_uN, hP_uP, hP_uI, u2]
  repeat' first
    | ((with_reducible show Q _ _); exact q)
    | with_reducible apply And.intro
    | with_reducible exact ha
    | (with_reducible show _ < _; omega)
    | (with_reducible show _ ≤ _; omega)
    | (with_reducible show _ ≤ _; simp only [hn_uN, hn_uI, hn_uP]; omega)
    | (refine kLe_O (h := h) ?_ ha; (repeat first | exact kLe_rf _ | refine kLe_I ?_ _ _ _ | refine kLe_P ?_ _ _ _ | refine kLe_N ?_ _ _); done)
    | (simp [ha, hn_uN, hn_uI, hn_uP, Nat.add_assoc, kO_uN, kU_uN, kJ_uN, kO_uI, kO_uP, kU_uI, kU_uP, kl_uI, kl_uP, kl_uN]; done)
