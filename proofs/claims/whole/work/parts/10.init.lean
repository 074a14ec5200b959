def kc_X5_init (h : kH) (a : Nat) : kH := (uI (uI (uP (uN (uP (kc_X3_init (uN (uP (kc_X3_init (uN (uP (kc_X3_init (uN (uP (kc_X3_init (uN (uP (kc_X3_init (uN (uP (kc_X3_init (uN (uP (uN h 2 6) a 0 (some (hn h))) 0 3) (hn h + 1)) (hn h) 0 (some (hn h + 1))) 0 3) (hn h + 14)) (hn h) 1 (some (hn h + 14))) 0 3) (hn h + 27)) (hn h) 2 (some (hn h + 27))) 0 3) (hn h + 40)) (hn h) 3 (some (hn h + 40))) 0 3) (hn h + 53)) (hn h) 4 (some (hn h + 53))) 0 3) (hn h + 66)) (hn h) 5 (some (hn h + 66))) 1 6) a 1 (some (hn h + 79))) a 2 (Int32.ofInt 0)) a 3 (Int32.ofInt 0))
theorem hn_X5_init (h : kH) (a : Nat) : hn (kc_X5_init h a) = hn h + 80 := by simp only [kc_X5_init, hn_X3_init, hn_uI, hn_uP, hn_uN, Nat.add_assoc, Nat.reduceAdd]
theorem le_X5_init (h : kH) (a : Nat) : kLe h (kc_X5_init h a) := by
  unfold kc_X5_init
  repeat first | exact kLe_rf _ | refine kLe_I ?_ _ _ _ | refine kLe_P ?_ _ _ _ | refine kLe_N ?_ _ _ | refine kLe_tr ?_ (le_X3_init _ _)
theorem ol_X5_init {h : kH} {a b c : Nat} (o : kO h b c) : kO (kc_X5_init h a) b c := kLe_O (le_X5_init h a) o
theorem ou_X5_init {h : kH} {a b : Nat} (o : kU h b) : kU (kc_X5_init h a) b := kLe_U (le_X5_init h a) o
theorem Wz_wqc {g : kG} {y d i c n : Nat} {L : List (Option kV)} {st : List kV} {h : kH} {Q : Int32 → kH → Prop} (stops : List (Nat × Nat)) {N : MethodName} {B : ByteArray} {ml mc ms : Nat} {rt : Option FieldType} {R : List (Nat × Nat × Nat × Nat)} {cd : List Instr} {K : Nat × Nat × Nat × Nat × Nat} (f : Nat) (hy : y < 305)
    (hq : kt.getD y kQ0 = (N, B, ml, rt, R, cd, K)) (hc : kc_c y = (mc, ms)) (w : wq g y d rt mc ms cd stops Q f c n i L st h) : Wz g y (d + 1) i c n L st h Q := by
  have e1 : kC y = cd := by unfold kC; rw [hq]
  have e2 : kT y = rt := by unfold kT; rw [hq]
  exact wq_ok hy e1 e2 hc f c n i _ _ _ w
theorem kp_end {g : kG} {d a c n : Nat} {h : kH} {Q : Int32 → kH → Prop} (ha : kO h a 5) (hm : hn h < 1000000) (hc : c + 1 = 80) (hn' : n + 6 ≤ 972) (q : Q 0 (uI (uI (uP (uN h 1 6) a 1 (some (hn h))) a 2 (Int32.ofInt 0)) a 3 (Int32.ofInt 0))) : Wz g 47 (d + 2) 8 c n [some (.inr (some a)), some (.inl (Int32.ofInt 6))] [] h Q := by
  refine Wz_wqc [(8, 2)] (mc := 80) (ms := 972) 30 (by decide) me_47 (by decide +kernel) ?_
  show wq g 47 (d + 1) none 80 972 kc_47 [(8, 2)] Q 30 c n 8 [some (.inr (some a)), some (.inl (Int32.ofInt 6))] [] h
  have l6 : Int32.ofInt 6 ≤ Int32.ofInt 6 := by decide
  have t6 : (Int32.ofInt 6).toNatClampNeg = 6 := by decide
  have s6 : ¬ Int32.ofInt 6 < 0 := by decide
  have ha2 : kO (uN h 1 6) a 5 := (kO_uN _ _ _ _ _).mpr (Or.inr ha)
  simp only [kc_47, wq, stp, stf, p1, p2, pr, lI, lR, sL, cz, krt, List.map_cons, List.map_nil, List.getElem?_cons_zero, List.getElem?_cons_succ, List.length_cons, List.length_nil, List.set_cons_zero, List.set_cons_succ, List.take_succ_cons, List.take_zero, List.drop_succ_cons, List.drop_zero, List.reverse_cons, List.reverse_nil, List.nil_append, List.cons_append, List.replicate_zero, Nat.reduceAdd, Nat.reduceLT, Nat.reduceLeDiff, Nat.reduceSub, Nat.reduceMul, kq_y, kq_c, kq_n, kf_c, kf_k, Nat.reduceDiv, Nat.reduceMod, if_true, if_false, ite_true, ite_false, Int.reduceToNat, Nat.reduceEqDiff, reduceIte, reduceCtorEq, false_implies, true_implies, implies_true, forall_const, l6, t6, s6, not_true_eq_false, not_false_eq_true, true_and, and_true, hn_uN, hn_uI, hn_uP, kO_uI, kO_uP, ha2]
  exact ⟨hm, by omega, by omega, by omega, by omega, q⟩
theorem kp_step {g : kG} {d a b c n i : Nat} {h : kH} {Q : Int32 → kH → Prop} (hi : i < 6) (ha : kO h a 5) (hb : hP h a 0 = some b) (hu : kU h b) (hl : kl h b = 6) (hm : hn h + 13 ≤ 1000000) (hc : c + 13 ≤ 80) (hn' : n + 160 ≤ 972)
    (w : Wz g 47 (d + 2) 8 (c + 13) (n + 160) [some (.inr (some a)), some (.inl (Int32.ofInt ((i + 1 : Nat) : Int)))] [] (uP (kc_X3_init (uN h 0 3) (hn h)) b i (some (hn h))) Q) : Wz g 47 (d + 2) 8 c n [some (.inr (some a)), some (.inl (Int32.ofInt (i : Int)))] [] h Q := by
  refine Wz_wqc [(8, 2)] (mc := 80) (ms := 972) 30 (by decide) me_47 (by decide +kernel) ?_
  show wq g 47 (d + 1) none 80 972 kc_47 [(8, 2)] Q 30 c n 8 [some (.inr (some a)), some (.inl (Int32.ofInt (i : Int)))] [] h
  have l6 : ¬ Int32.ofInt 6 ≤ Int32.ofInt (i : Int) := by rw [zi_le (by omega) (by omega) (by omega) (by omega)]; omega
  have n3 : kn_N 3 = 18 := rfl
  have e20 : kc_c 20 = (12, 142) := by decide +kernel
  have ix : (Int32.ofInt (i : Int)).toNatClampNeg = i := by rw [zi_ix (by omega) (by omega)]; omega
  simp only [kc_47, wq, stp, stf, p1, p2, pr, lI, lR, sL, cz, krt, List.map_cons, List.map_nil, List.getElem?_cons_zero, List.getElem?_cons_succ, List.length_cons, List.length_nil, List.set_cons_zero, List.set_cons_succ, List.take_succ_cons, List.take_zero, List.drop_succ_cons, List.drop_zero, List.reverse_cons, List.reverse_nil, List.nil_append, List.cons_append, List.replicate_zero, Nat.reduceAdd, Nat.reduceLT, Nat.reduceLeDiff, Nat.reduceSub, Nat.reduceMul, kq_y, kq_c, kq_n, kf_c, kf_k, Nat.reduceDiv, Nat.reduceMod, if_true, if_false, ite_true, ite_false, Int.reduceToNat, Nat.reduceEqDiff, reduceIte, reduceCtorEq, false_implies, true_implies, implies_true, forall_const, l6, n3, e20, not_true_eq_false, not_false_eq_true, true_and, hb, ha, zi_add, ix]
  have k1 : kLe h (uN h 0 3) := kLe_N (kLe_rf _) _ _
  have k2 : kLe h (kc_X3_init (uN h 0 3) (hn h)) := kLe_tr k1 (le_X3_init _ _)
  have hk : kO (uN h 0 3) (hn h) 3 := (kO_uN _ _ _ _ _).mpr (Or.inl ⟨rfl, rfl, rfl⟩)
  refine ⟨by omega, by omega, by omega, hk, by omega, by omega, ks_X3_init hk (by rw [hn_uN]; omega) ⟨kLe_U k2 hu, vp_kl k2 hu.1 hl (zi_in (by omega) (by omega) (by omega)), kLe_O (le_X3_init _ _) hk, ?_⟩⟩
  exact w
set_option maxHeartbeats 600000 in
theorem ks_X5_init {g : kG} {d a : Nat} {h : kH} {Q : Int32 → kH → Prop} (ha : kO h a 5) (hm : hn h + 80 ≤ 1000000) (q : Q 0 (kc_X5_init h a)) : Ev g 47 (d + 2) (.inr (some a) :: []) h Q := by
  have ha1 : a < hn h := ha.1
  refine Ev_wq (stops := [(8, 2)]) (n := 1) (mc := 80) (ms := 972) 20 (by decide) me_47 (by decide +kernel) rfl (by decide) ?_
  show wq g 47 (d + 1) none 80 972 kc_47 [(8, 2)] Q 20 0 0 0 [some (.inr (some a))] [] h
  have t6 : (Int32.ofInt 6).toNatClampNeg = 6 := by decide
  have s6 : ¬ Int32.ofInt 6 < 0 := by decide
  have ha2 : kO (uN h 2 6) a 5 := (kO_uN _ _ _ _ _).mpr (Or.inr ha)
  simp only [kc_47, wq, stp, stf, p1, p2, pr, lI, lR, sL, cz, krt, List.map_cons, List.map_nil, List.getElem?_cons_zero, List.getElem?_cons_succ, List.length_cons, List.length_nil, List.set_cons_zero, List.set_cons_succ, List.take_succ_cons, List.take_zero, List.drop_succ_cons, List.drop_zero, List.reverse_cons, List.reverse_nil, List.nil_append, List.cons_append, List.replicate_zero, Nat.reduceAdd, Nat.reduceLT, Nat.reduceLeDiff, Nat.reduceSub, Nat.reduceMul, kq_y, kq_c, kq_n, kf_c, kf_k, Nat.reduceDiv, Nat.reduceMod, if_true, if_false, ite_true, ite_false, Int.reduceToNat, Nat.reduceEqDiff, reduceIte, reduceCtorEq, false_implies, true_implies, implies_true, forall_const, t6, s6, not_true_eq_false, not_false_eq_true, true_and, ha2]
  refine ⟨by omega, ?_⟩
  have ne0 : a ≠ hn h := by omega
  have u0 : kU (uN h 2 6) (hn h) := (kU_uN _ _ _ _).mpr (Or.inl ⟨rfl, rfl⟩)
  have l0 : kl (uN h 2 6) (hn h) = 6 := by rw [kl_uN, if_pos rfl]
  generalize h0 : uP (uN h 2 6) a 0 (some (hn h)) = E0
  have c0 : kO E0 a 5 ∧ hP E0 a 0 = some (hn h) ∧ kU E0 (hn h) ∧ kl E0 (hn h) = 6 ∧ hn E0 = hn h + 1 := by
    subst h0
    exact ⟨ha2, by simp [hP_uP, u2], u0, l0, rfl⟩
  obtain ⟨x0, p0, v0, w0, z0⟩ := c0
  refine kp_step (i := 0) (b := hn h) (by omega) x0 p0 v0 w0 (by omega) (by omega) (by omega) ?_
  generalize h1 : uP (kc_X3_init (uN E0 0 3) (hn E0)) (hn h) 0 (some (hn E0)) = E1
  have c1 : kO E1 a 5 ∧ hP E1 a 0 = some (hn h) ∧ kU E1 (hn h) ∧ kl E1 (hn h) = 6 ∧ hn E1 = hn h + 14 := by
    have k2 : kLe E0 (kc_X3_init (uN E0 0 3) (hn E0)) := kLe_tr (kLe_N (kLe_rf _) _ _) (le_X3_init _ _)
    subst h1
    refine ⟨kLe_O k2 x0, ?_, kLe_U k2 v0, (kLe_l k2 v0.1).trans w0, ?_⟩
    · rw [hP_uP, u2, if_neg (by rintro ⟨e, -⟩; exact ne0 e), lP_X3_init (by omega) (by rw [hn_uN]; omega), hP_uN, if_neg (by omega)]
      exact p0
    · rw [hn_uP, hn_X3_init, hn_uN]; omega
  obtain ⟨x1, p1, v1, w1, z1⟩ := c1
  refine kp_step (i := 1) (b := hn h) (by omega) x1 p1 v1 w1 (by omega) (by omega) (by omega) ?_
  generalize h2 : uP (kc_X3_init (uN E1 0 3) (hn E1)) (hn h) 1 (some (hn E1)) = E2
  have c2 : kO E2 a 5 ∧ hP E2 a 0 = some (hn h) ∧ kU E2 (hn h) ∧ kl E2 (hn h) = 6 ∧ hn E2 = hn h + 27 := by
    have k2 : kLe E1 (kc_X3_init (uN E1 0 3) (hn E1)) := kLe_tr (kLe_N (kLe_rf _) _ _) (le_X3_init _ _)
    subst h2
    refine ⟨kLe_O k2 x1, ?_, kLe_U k2 v1, (kLe_l k2 v1.1).trans w1, ?_⟩
    · rw [hP_uP, u2, if_neg (by rintro ⟨e, -⟩; exact ne0 e), lP_X3_init (by omega) (by rw [hn_uN]; omega), hP_uN, if_neg (by omega)]
      exact p1
    · rw [hn_uP, hn_X3_init, hn_uN]; omega
  obtain ⟨x2, p2, v2, w2, z2⟩ := c2
  refine kp_step (i := 2) (b := hn h) (by omega) x2 p2 v2 w2 (by omega) (by omega) (by omega) ?_
  generalize h3 : uP (kc_X3_init (uN E2 0 3) (hn E2)) (hn h) 2 (some (hn E2)) = E3
  have c3 : kO E3 a 5 ∧ hP E3 a 0 = some (hn h) ∧ kU E3 (hn h) ∧ kl E3 (hn h) = 6 ∧ hn E3 = hn h + 40 := by
    have k2 : kLe E2 (kc_X3_init (uN E2 0 3) (hn E2)) := kLe_tr (kLe_N (kLe_rf _) _ _) (le_X3_init _ _)
    subst h3
    refine ⟨kLe_O k2 x2, ?_, kLe_U k2 v2, (kLe_l k2 v2.1).trans w2, ?_⟩
    · rw [hP_uP, u2, if_neg (by rintro ⟨e, -⟩; exact ne0 e), lP_X3_init (by omega) (by rw [hn_uN]; omega), hP_uN, if_neg (by omega)]
      exact p2
    · rw [hn_uP, hn_X3_init, hn_uN]; omega
  obtain ⟨x3, p3, v3, w3, z3⟩ := c3
  refine kp_step (i := 3) (b := hn h) (by omega) x3 p3 v3 w3 (by omega) (by omega) (by omega) ?_
  generalize h4 : uP (kc_X3_init (uN E3 0 3) (hn E3)) (hn h) 3 (some (hn E3)) = E4
  have c4 : kO E4 a 5 ∧ hP E4 a 0 = some (hn h) ∧ kU E4 (hn h) ∧ kl E4 (hn h) = 6 ∧ hn E4 = hn h + 53 := by
    have k2 : kLe E3 (kc_X3_init (uN E3 0 3) (hn E3)) := kLe_tr (kLe_N (kLe_rf _) _ _) (le_X3_init _ _)
    subst h4
    refine ⟨kLe_O k2 x3, ?_, kLe_U k2 v3, (kLe_l k2 v3.1).trans w3, ?_⟩
    · rw [hP_uP, u2, if_neg (by rintro ⟨e, -⟩; exact ne0 e), lP_X3_init (by omega) (by rw [hn_uN]; omega), hP_uN, if_neg (by omega)]
      exact p3
    · rw [hn_uP, hn_X3_init, hn_uN]; omega
  obtain ⟨x4, p4, v4, w4, z4⟩ := c4
  refine kp_step (i := 4) (b := hn h) (by omega) x4 p4 v4 w4 (by omega) (by omega) (by omega) ?_
  generalize h5 : uP (kc_X3_init (uN E4 0 3) (hn E4)) (hn h) 4 (some (hn E4)) = E5
  have c5 : kO E5 a 5 ∧ hP E5 a 0 = some (hn h) ∧ kU E5 (hn h) ∧ kl E5 (hn h) = 6 ∧ hn E5 = hn h + 66 := by
    have k2 : kLe E4 (kc_X3_init (uN E4 0 3) (hn E4)) := kLe_tr (kLe_N (kLe_rf _) _ _) (le_X3_init _ _)
    subst h5
    refine ⟨kLe_O k2 x4, ?_, kLe_U k2 v4, (kLe_l k2 v4.1).trans w4, ?_⟩
    · rw [hP_uP, u2, if_neg (by rintro ⟨e, -⟩; exact ne0 e), lP_X3_init (by omega) (by rw [hn_uN]; omega), hP_uN, if_neg (by omega)]
      exact p4
    · rw [hn_uP, hn_X3_init, hn_uN]; omega
  obtain ⟨x5, p5, v5, w5, z5⟩ := c5
  refine kp_step (i := 5) (b := hn h) (by omega) x5 p5 v5 w5 (by omega) (by omega) (by omega) ?_
  generalize h6 : uP (kc_X3_init (uN E5 0 3) (hn E5)) (hn h) 5 (some (hn E5)) = E6
  have c6 : kO E6 a 5 ∧ hP E6 a 0 = some (hn h) ∧ kU E6 (hn h) ∧ kl E6 (hn h) = 6 ∧ hn E6 = hn h + 79 := by
    have k2 : kLe E5 (kc_X3_init (uN E5 0 3) (hn E5)) := kLe_tr (kLe_N (kLe_rf _) _ _) (le_X3_init _ _)
    subst h6
    refine ⟨kLe_O k2 x5, ?_, kLe_U k2 v5, (kLe_l k2 v5.1).trans w5, ?_⟩
    · rw [hP_uP, u2, if_neg (by rintro ⟨e, -⟩; exact ne0 e), lP_X3_init (by omega) (by rw [hn_uN]; omega), hP_uN, if_neg (by omega)]
      exact p5
    · rw [hn_uP, hn_X3_init, hn_uN]; omega
  obtain ⟨x6, p6, v6, w6, z6⟩ := c6
  refine kp_end x6 (by omega) (by omega) (by omega) ?_
  have hfin : kc_X5_init h a = uI (uI (uP (uN E6 1 6) a 1 (some (hn E6))) a 2 (Int32.ofInt 0)) a 3 (Int32.ofInt 0) := by
    rw [z6]
    subst h6
    rw [z5]
    subst h5
    rw [z4]
    subst h4
    rw [z3]
    subst h3
    rw [z2]
    subst h2
    rw [z1]
    subst h1
    rw [z0]
    subst h0
    rfl
  rw [← hfin]
  exact q

