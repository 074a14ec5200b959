def kc_X10_init (h : kH) (a : Nat) : kH := (uP (kc_X1_init (uN (uP (kc_X9_init (uN (uP (kc_X6_init (uN (uP (kc_X3_init (uN (uP (kc_X5_init (uN (uI (uP (kc_X2_init (uN (uP (kc_X2_init (uN h 0 2) (hn h)) a 0 (some (hn h))) 0 2) (hn h + 59)) a 1 (some (hn h + 59))) a 2 (Int32.ofInt 0)) 0 5) (hn h + 118)) a 3 (some (hn h + 118))) 0 3) (hn h + 199)) a 4 (some (hn h + 199))) 0 6) (hn h + 212)) a 5 (some (hn h + 212))) 0 9) (hn h + 230)) a 6 (some (hn h + 230))) 0 1) (hn h + 237)) a 7 (some (hn h + 237)))
theorem hn_X10_init (h : kH) (a : Nat) : hn (kc_X10_init h a) = hn h + 239 := by simp only [kc_X10_init, hn_X2_init, hn_X5_init, hn_X3_init, hn_X6_init, hn_X9_init, hn_X1_init, hn_uI, hn_uP, hn_uN, Nat.add_assoc, Nat.reduceAdd]
theorem le_X10_init (h : kH) (a : Nat) : kLe h (kc_X10_init h a) := by
  unfold kc_X10_init
  repeat first | exact kLe_rf _ | refine kLe_I ?_ _ _ _ | refine kLe_P ?_ _ _ _ | refine kLe_N ?_ _ _ | refine kLe_tr ?_ (le_X2_init _ _) | refine kLe_tr ?_ (le_X5_init _ _) | refine kLe_tr ?_ (le_X3_init _ _) | refine kLe_tr ?_ (le_X6_init _ _) | refine kLe_tr ?_ (le_X9_init _ _) | refine kLe_tr ?_ (le_X1_init _ _)
theorem ol_X10_init {h : kH} {a b c : Nat} (o : kO h b c) : kO (kc_X10_init h a) b c := kLe_O (le_X10_init h a) o
theorem ou_X10_init {h : kH} {a b : Nat} (o : kU h b) : kU (kc_X10_init h a) b := kLe_U (le_X10_init h a) o
theorem kO_nw (h : kH) (c : Nat) : kO (uN h 0 c) (hn h) c := ⟨Nat.lt_succ_self _, by rw [hk_uN, if_pos rfl]⟩
set_option maxHeartbeats 1000000 in
set_option maxRecDepth 100000 in
theorem ks_X10_init {g : kG} {d a : Nat} {h : kH} {Q : Int32 → kH → Prop} (ha : kO h a 10) (hm : hn h + 239 ≤ 1000000) (q : Q 0 (kc_X10_init h a)) : Ev g 111 (d + 4) (.inr (some a) :: []) h Q := by
  refine Ev_wq (stops := []) (n := 1) (mc := 239) (ms := 11524) 46 (by decide) me_111 (by decide +kernel) rfl (by decide) ?_
  show wq g 111 (d + 3) none 239 11524 kc_111 [] Q 46 0 0 0 [some (.inr (some a))] [] h
  have e8 : kc_c 8 = (58, 1632) := by decide +kernel
  have e47 : kc_c 47 = (80, 972) := by decide +kernel
  have e20 : kc_c 20 = (12, 142) := by decide +kernel
  have e51 : kc_c 51 = (17, 1818) := by decide +kernel
  have e87 : kc_c 87 = (6, 1161) := by decide +kernel
  have e3 : kc_c 3 = (1, 4096) := by decide +kernel
  have n2 : kn_N 2 = 15 := rfl
  have n5 : kn_N 5 = 4 := rfl
  have n3 : kn_N 3 = 18 := rfl
  have n6 : kn_N 6 = 11 := rfl
  have n9 : kn_N 9 = 6 := rfl
  have n1 : kn_N 1 = 2 := rfl
  simp only [kc_111, wq, stp, stf, p1, p2, pr, lI, lR, sL, cz, krt, List.map_cons, List.map_nil, List.getElem?_cons_zero, List.getElem?_cons_succ, List.length_cons, List.length_nil, List.set_cons_zero, List.set_cons_succ, List.take_succ_cons, List.take_zero, List.drop_succ_cons, List.drop_zero, List.reverse_cons, List.reverse_nil, List.nil_append, List.cons_append, List.replicate_zero, Nat.reduceAdd, Nat.reduceLT, Nat.reduceLeDiff, Nat.reduceSub, Nat.reduceMul, kq_y, kq_c, kq_n, kf_c, kf_k, Nat.reduceDiv, Nat.reduceMod, if_true, if_false, ite_true, ite_false, Int.reduceToNat, Nat.reduceEqDiff, reduceIte, reduceCtorEq, false_implies, true_implies, implies_true, forall_const, hn_uN, hn_uI, hn_uP, Nat.add_assoc, true_and, and_true, not_false_eq_true, kO_uI, kO_uP, e8, e47, e20, e51, e87, e3, n2, n5, n3, n6, n9, n1]
  refine ⟨by omega, kO_nw _ _, ks_X2_init (kO_nw _ _) (by show hn h + 1 + _ ≤ _; omega) ?_⟩
  generalize e10 : kc_X2_init (uN h 0 2) (hn h) = E1
  have z1 : hn E1 = hn h + 59 := by subst e10; rw [hn_X2_init]; show hn h + 1 + _ = _; omega
  have o1 : kO E1 a 10 := by subst e10; exact kLe_O (kLe_tr (kLe_N (kLe_rf _) _ _) (le_X2_init _ _)) ha
  refine ⟨o1, by omega, kO_nw _ _, ks_X2_init (kO_nw _ _) (by show hn E1 + 1 + _ ≤ _; omega) ?_⟩
  generalize e20 : kc_X2_init (uN (uP E1 a 0 (some (hn h))) 0 2) (hn E1) = E2
  have z2 : hn E2 = hn h + 118 := by subst e20; rw [hn_X2_init]; show hn E1 + 1 + _ = _; omega
  have o2 : kO E2 a 10 := by subst e20; exact kLe_O (kLe_tr (kLe_N (kLe_P (kLe_rf _) _ _ _) _ _) (le_X2_init _ _)) o1
  refine ⟨o2, o2, by decide, by omega, kO_nw _ _, ks_X5_init (kO_nw _ _) (by show hn E2 + 1 + _ ≤ _; omega) ?_⟩
  generalize e30 : kc_X5_init (uN (uI (uP E2 a 1 (some (hn E1))) a 2 (Int32.ofInt 0)) 0 5) (hn E2) = E3
  have z3 : hn E3 = hn h + 199 := by subst e30; rw [hn_X5_init]; show hn E2 + 1 + _ = _; omega
  have o3 : kO E3 a 10 := by subst e30; exact kLe_O (kLe_tr (kLe_N (kLe_I (kLe_P (kLe_rf _) _ _ _) _ _ _) _ _) (le_X5_init _ _)) o2
  refine ⟨o3, by omega, kO_nw _ _, ks_X3_init (kO_nw _ _) (by show hn E3 + 1 + _ ≤ _; omega) ?_⟩
  generalize e40 : kc_X3_init (uN (uP E3 a 3 (some (hn E2))) 0 3) (hn E3) = E4
  have z4 : hn E4 = hn h + 212 := by subst e40; rw [hn_X3_init]; show hn E3 + 1 + _ = _; omega
  have o4 : kO E4 a 10 := by subst e40; exact kLe_O (kLe_tr (kLe_N (kLe_P (kLe_rf _) _ _ _) _ _) (le_X3_init _ _)) o3
  refine ⟨o4, by omega, kO_nw _ _, ks_X6_init (kO_nw _ _) (by show hn E4 + 1 + _ ≤ _; omega) ?_⟩
  generalize e50 : kc_X6_init (uN (uP E4 a 4 (some (hn E3))) 0 6) (hn E4) = E5
  have z5 : hn E5 = hn h + 230 := by subst e50; rw [hn_X6_init]; show hn E4 + 1 + _ = _; omega
  have o5 : kO E5 a 10 := by subst e50; exact kLe_O (kLe_tr (kLe_N (kLe_P (kLe_rf _) _ _ _) _ _) (le_X6_init _ _)) o4
  refine ⟨o5, by omega, kO_nw _ _, ks_X9_init (kO_nw _ _) (by show hn E5 + 1 + _ ≤ _; omega) ?_⟩
  generalize e60 : kc_X9_init (uN (uP E5 a 5 (some (hn E4))) 0 9) (hn E5) = E6
  have z6 : hn E6 = hn h + 237 := by subst e60; rw [hn_X9_init]; show hn E5 + 1 + _ = _; omega
  have o6 : kO E6 a 10 := by subst e60; exact kLe_O (kLe_tr (kLe_N (kLe_P (kLe_rf _) _ _ _) _ _) (le_X9_init _ _)) o5
  refine ⟨o6, by omega, kO_nw _ _, ks_X1_init (kO_nw _ _) (by show hn E6 + 1 + _ ≤ _; omega) ?_⟩
  generalize e70 : kc_X1_init (uN (uP E6 a 6 (some (hn E5))) 0 1) (hn E6) = E7
  have z7 : hn E7 = hn h + 239 := by subst e70; rw [hn_X1_init]; show hn E6 + 1 + _ = _; omega
  have o7 : kO E7 a 10 := by subst e70; exact kLe_O (kLe_tr (kLe_N (kLe_P (kLe_rf _) _ _ _) _ _) (le_X1_init _ _)) o6
  refine ⟨o7, ?_⟩
  have hfin : kc_X10_init h a = uP E7 a 7 (some (hn E6)) := by
    rw [z6]
    subst e70
    rw [z5]
    subst e60
    rw [z4]
    subst e50
    rw [z3]
    subst e40
    rw [z2]
    subst e30
    rw [z1]
    subst e20
    subst e10
    rfl
  rw [← hfin]
  exact q

