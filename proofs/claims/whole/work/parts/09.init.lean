/-! THE CONSTRUCTORS, as functions of the cells -/
def kmin (x y : Int32) : Int32 := if y < x then y else x
theorem hn_uN (h : kH) (t w : Nat) : hn (uN h t w) = hn h + 1 := rfl
theorem hn_uI (h : kH) (k j : Nat) (x : Int32) : hn (uI h k j x) = hn h := rfl
theorem hn_uP (h : kH) (k j : Nat) (x : Option Nat) : hn (uP h k j x) = hn h := rfl
theorem hn_uC (h : kH) (a b s d n : Nat) : hn (uC h a b s d n) = hn h := rfl
theorem kO_uI (h : kH) (k j : Nat) (x : Int32) (a c : Nat) : kO (uI h k j x) a c ↔ kO h a c := Iff.rfl
theorem kO_uP (h : kH) (k j : Nat) (x : Option Nat) (a c : Nat) : kO (uP h k j x) a c ↔ kO h a c := Iff.rfl
theorem kJ_uI (h : kH) (k j : Nat) (x : Int32) (a : Nat) : kJ (uI h k j x) a ↔ kJ h a := Iff.rfl
theorem kJ_uP (h : kH) (k j : Nat) (x : Option Nat) (a : Nat) : kJ (uP h k j x) a ↔ kJ h a := Iff.rfl
theorem kU_uI (h : kH) (k j : Nat) (x : Int32) (a : Nat) : kU (uI h k j x) a ↔ kU h a := Iff.rfl
theorem kU_uP (h : kH) (k j : Nat) (x : Option Nat) (a : Nat) : kU (uP h k j x) a ↔ kU h a := Iff.rfl
theorem kl_uI (h : kH) (k j : Nat) (x : Int32) (a : Nat) : kl (uI h k j x) a = kl h a := rfl
theorem kl_uP (h : kH) (k j : Nat) (x : Option Nat) (a : Nat) : kl (uP h k j x) a = kl h a := rfl
theorem hP_uP (h : kH) (k j : Nat) (x : Option Nat) : hP (uP h k j x) = u2 (hP h) k j x := rfl
theorem hP_uI (h : kH) (k j : Nat) (x : Int32) : hP (uI h k j x) = hP h := rfl
theorem hI_uI (h : kH) (k j : Nat) (x : Int32) : hI (uI h k j x) = u2 (hI h) k j x := rfl
theorem hI_uP (h : kH) (k j : Nat) (x : Option Nat) : hI (uP h k j x) = hI h := rfl
theorem hk_uN (h : kH) (t w a : Nat) : hk (uN h t w) a = if a = hn h then (t, w) else hk h a := rfl
theorem kO_uN (h : kH) (t w a c : Nat) : kO (uN h t w) a c ↔ (a = hn h ∧ t = 0 ∧ w = c) ∨ kO h a c := by
  unfold kO
  rw [hn_uN, hk_uN]
  by_cases e : a = hn h
  · simp [e]
  · simp [e]; omega
theorem kJ_uN (h : kH) (t w a : Nat) : kJ (uN h t w) a ↔ (a = hn h ∧ t = 1) ∨ kJ h a := by
  unfold kJ
  rw [hn_uN, hk_uN]
  by_cases e : a = hn h
  · simp [e]
  · simp [e]; omega
theorem kU_uN (h : kH) (t w a : Nat) : kU (uN h t w) a ↔ (a = hn h ∧ t = 2) ∨ kU h a := by
  unfold kU
  rw [hn_uN, hk_uN]
  by_cases e : a = hn h
  · simp [e]
  · simp [e]; omega
theorem kl_uN (h : kH) (t w a : Nat) : kl (uN h t w) a = if a = hn h then w else kl h a := by
  unfold kl
  rw [hk_uN]
  split <;> rfl
theorem hP_uN (h : kH) (t w a j : Nat) : hP (uN h t w) a j = if a = hn h then none else hP h a j := by
  unfold hP uN
  dsimp only
  split <;> rfl
/-- no cell that was there changes its kind -/
def kLe (h h1 : kH) : Prop := hn h ≤ hn h1 ∧ ∀ k, k < hn h → hk h1 k = hk h k
theorem kLe_O {h h1 : kH} {a c : Nat} (l : kLe h h1) (o : kO h a c) : kO h1 a c := ⟨Nat.lt_of_lt_of_le o.1 l.1, (l.2 a o.1).trans o.2⟩
theorem kLe_J {h h1 : kH} {a : Nat} (l : kLe h h1) (o : kJ h a) : kJ h1 a := ⟨Nat.lt_of_lt_of_le o.1 l.1, by rw [l.2 a o.1]; exact o.2⟩
theorem kLe_U {h h1 : kH} {a : Nat} (l : kLe h h1) (o : kU h a) : kU h1 a := ⟨Nat.lt_of_lt_of_le o.1 l.1, by rw [l.2 a o.1]; exact o.2⟩
theorem kLe_l {h h1 : kH} {a : Nat} (l : kLe h h1) (o : a < hn h) : kl h1 a = kl h a := by unfold kl; rw [l.2 a o]
theorem vp_kl {h E : kH} {a n : Nat} {j : Int32} (l : kLe h E) (ha : a < hn h) (e : kl h a = n) (hj : vp_in j n) : vp_in j (kl E a) := by rw [kLe_l l ha, e]; exact hj
theorem kLe_rf (h : kH) : kLe h h := ⟨Nat.le_refl _, fun _ _ => rfl⟩
theorem kLe_I {h h1 : kH} (l : kLe h h1) (k j : Nat) (x : Int32) : kLe h (uI h1 k j x) := l
theorem kLe_P {h h1 : kH} (l : kLe h h1) (k j : Nat) (x : Option Nat) : kLe h (uP h1 k j x) := l
theorem kLe_N {h h1 : kH} (l : kLe h h1) (t w : Nat) : kLe h (uN h1 t w) := ⟨Nat.le_succ_of_le l.1, fun k hk => by rw [hk_uN, if_neg (by have := l.1; omega)]; exact l.2 k hk⟩
theorem kLe_tr {h h1 h2 : kH} (l : kLe h h1) (l2 : kLe h1 h2) : kLe h h2 := ⟨Nat.le_trans l.1 l2.1, fun k hk => (l2.2 k (Nat.lt_of_lt_of_le hk l.1)).trans (l.2 k hk)⟩
theorem ks_min {g : kG} {d : Nat} {x y : Int32} {h : kH} {Q : Int32 → kH → Prop} (q : Q (kmin x y) h) : Ev g 296 (d + 1) [.inl x, .inl y] h Q := by
  refine Ev_wq (stops := []) (n := 2) (mc := 0) (ms := 0) 30 (by decide) me_296 (kcc (by decide)) rfl (by decide) ?_
  show wq g 296 d (some .int) 0 0 kc_296 [] Q 30 0 0 0 [some (.inl x), some (.inl y)] [] h
  simp only [kc_296, wq, stp, stf, p1, p2, pr, lI, lR, sL, cz, krt, List.map_cons, List.map_nil, List.getElem?_cons_zero, List.getElem?_cons_succ, List.length_cons, List.length_nil, List.set_cons_zero, List.set_cons_succ, List.take_succ_cons, List.take_zero, List.drop_succ_cons, List.drop_zero, List.reverse_cons, List.reverse_nil, List.nil_append, List.cons_append, List.replicate_zero, Nat.reduceAdd, Nat.reduceLT, Nat.reduceLeDiff, Nat.reduceSub, Nat.reduceMul, kq_y, kq_c, kq_n, kf_c, kf_k, Nat.reduceDiv, Nat.reduceMod, if_true, if_false, ite_true, ite_false, Int.reduceToNat, Nat.reduceEqDiff, reduceIte, reduceCtorEq, false_implies, true_implies, implies_true, forall_const, true_and]
  unfold kmin at q
  exact ⟨fun e => by rwa [if_pos e] at q, fun e => by rwa [if_neg e] at q⟩
def kc_X8_init (h : kH) (a : Nat) : kH := (uI (uP (uN (uP (uN (uP (uN (uP (uN h 1 16) a 0 (some (hn h))) 1 16) a 1 (some (hn h + 1))) 1 16) a 2 (some (hn h + 2))) 1 16) a 3 (some (hn h + 3))) a 4 (Int32.ofInt 0))
theorem hn_X8_init (h : kH) (a : Nat) : hn (kc_X8_init h a) = hn h + 4 := by simp only [kc_X8_init, hn_uI, hn_uP, hn_uN, Nat.add_assoc, Nat.reduceAdd]
theorem le_X8_init (h : kH) (a : Nat) : kLe h (kc_X8_init h a) := by
  unfold kc_X8_init
  repeat first | exact kLe_rf _ | refine kLe_I ?_ _ _ _ | refine kLe_P ?_ _ _ _ | refine kLe_N ?_ _ _
theorem ol_X8_init {h : kH} {a b c : Nat} (o : kO h b c) : kO (kc_X8_init h a) b c := kLe_O (le_X8_init h a) o
theorem ou_X8_init {h : kH} {a b : Nat} (o : kU h b) : kU (kc_X8_init h a) b := kLe_U (le_X8_init h a) o
set_option maxHeartbeats 600000 in
set_option maxRecDepth 100000 in
theorem ks_X8_init {g : kG} {d a : Nat} {h : kH} {Q : Int32 → kH → Prop} (ha : kO h a 8) (hm : hn h + 4 ≤ 1000000) (q : Q 0 (kc_X8_init h a)) : Ev g 84 (d + 1) (.inr (some a) :: []) h Q := by
  have ha1 : a < hn h := ha.1
  refine Ev_wq (stops := []) (n := 1) (mc := 4) (ms := 64) 27 (by decide) me_84 (by decide +kernel) rfl (by decide) ?_
  show wq g 84 d none 4 64 kc_84 [] Q 27 0 0 0 [some (.inr (some a))] [] h
  have z16 : ∀ n : Nat, n < 2147483648 → (Int32.ofInt (n : Int)).toNatClampNeg = n := fun n hn' => by rw [zi_ix (by omega) (by omega)]; omega
  have t0 : (Int32.ofInt 0).toNatClampNeg = 0 := by decide
  have s0 : ¬ Int32.ofInt 0 < 0 := by decide
  have t16 : (Int32.ofInt 16).toNatClampNeg = 16 := by decide
  have s16 : ¬ Int32.ofInt 16 < 0 := by decide
  simp  only [kc_84, wq, stp, stf, p1, p2, pr, lI, lR, sL, cz, krt, List.map_cons, List.map_nil, List.getElem?_cons_zero, List.getElem?_cons_succ, List.length_cons, List.length_nil, List.set_cons_zero, List.set_cons_succ, List.take_succ_cons, List.take_zero, List.drop_succ_cons, List.drop_zero, List.reverse_cons, List.reverse_nil, List.nil_append, List.cons_append, List.replicate_zero, Nat.reduceAdd, Nat.reduceLT, Nat.reduceLeDiff, Nat.reduceSub, Nat.reduceMul, kq_y, kq_c, kq_n, kf_c, kf_k, Nat.reduceDiv, Nat.reduceMod, if_true, if_false, ite_true, ite_false, Int.reduceToNat, Nat.reduceEqDiff, reduceIte, reduceCtorEq, false_implies, true_implies, implies_true, forall_const, hn_uN, hn_uI, hn_uP,  Nat.add_assoc, t0, s0, t16, s16,  true_and, and_true, not_false_eq_true, kO_uI, kO_uP, kJ_uI, kJ_uP, kU_uI, kU_uP, kl_uI, kl_uP, kl_uN, hP_uP, hP_uI, u2]
  repeat' first
    | ((with_reducible show Q _ _); exact q)
    | with_reducible apply And.intro
    | with_reducible exact ha
    | (with_reducible show _ < _; omega)
    | (with_reducible show _ ≤ _; omega)
    | (with_reducible show _ ≤ _; simp only [hn_uN, hn_uI, hn_uP]; omega)
    | (refine kLe_O (h := h) ?_ ha; (repeat first | exact kLe_rf _ | refine kLe_I ?_ _ _ _ | refine kLe_P ?_ _ _ _ | refine kLe_N ?_ _ _); done)
    | (simp [ha, hn_uN, hn_uI, hn_uP, Nat.add_assoc, kO_uN, kU_uN, kJ_uN, kO_uI, kO_uP, kU_uI, kU_uP, kl_uI, kl_uP, kl_uN]; done)
def kc_X7_init (h : kH) (a : Nat) (x0 : Int32) : kH := (uI (uI (uP (uN h 1 12) a 0 (some (hn h))) a 1 (kmin x0 (Int32.ofInt 12))) a 2 (Int32.ofInt 0))
theorem hn_X7_init (h : kH) (a : Nat) (x0 : Int32) : hn (kc_X7_init h a x0) = hn h + 1 := by simp only [kc_X7_init, hn_uI, hn_uP, hn_uN, Nat.add_assoc, Nat.reduceAdd]
theorem le_X7_init (h : kH) (a : Nat) (x0 : Int32) : kLe h (kc_X7_init h a x0) := by
  unfold kc_X7_init
  repeat first | exact kLe_rf _ | refine kLe_I ?_ _ _ _ | refine kLe_P ?_ _ _ _ | refine kLe_N ?_ _ _
theorem ol_X7_init {h : kH} {a b c : Nat} {x0 : Int32} (o : kO h b c) : kO (kc_X7_init h a x0) b c := kLe_O (le_X7_init h a x0) o
theorem ou_X7_init {h : kH} {a b : Nat} {x0 : Int32} (o : kU h b) : kU (kc_X7_init h a x0) b := kLe_U (le_X7_init h a x0) o
set_option maxHeartbeats 600000 in
set_option maxRecDepth 100000 in
theorem ks_X7_init {g : kG} {d a : Nat} {x0 : Int32} {h : kH} {Q : Int32 → kH → Prop} (ha : kO h a 7) (hm : hn h + 1 ≤ 1000000) (q : Q 0 (kc_X7_init h a x0)) : Ev g 77 (d + 2) (.inr (some a) :: [.inl x0]) h Q := by
  have ha1 : a < hn h := ha.1
  refine Ev_wq (stops := []) (n := 2) (mc := 1) (ms := 12) 20 (by decide) me_77 (by decide +kernel) rfl (by decide) ?_
  show wq g 77 (d + 1) none 1 12 kc_77 [] Q 20 0 0 0 [some (.inr (some a)), some (.inl x0)] [] h
  have z16 : ∀ n : Nat, n < 2147483648 → (Int32.ofInt (n : Int)).toNatClampNeg = n := fun n hn' => by rw [zi_ix (by omega) (by omega)]; omega
  have t0 : (Int32.ofInt 0).toNatClampNeg = 0 := by decide
  have s0 : ¬ Int32.ofInt 0 < 0 := by decide
  have t12 : (Int32.ofInt 12).toNatClampNeg = 12 := by decide
  have s12 : ¬ Int32.ofInt 12 < 0 := by decide
  simp  only [kc_77, wq, stp, stf, p1, p2, pr, lI, lR, sL, cz, krt, List.map_cons, List.map_nil, List.getElem?_cons_zero, List.getElem?_cons_succ, List.length_cons, List.length_nil, List.set_cons_zero, List.set_cons_succ, List.take_succ_cons, List.take_zero, List.drop_succ_cons, List.drop_zero, List.reverse_cons, List.reverse_nil, List.nil_append, List.cons_append, List.replicate_zero, Nat.reduceAdd, Nat.reduceLT, Nat.reduceLeDiff, Nat.reduceSub, Nat.reduceMul, kq_y, kq_c, kq_n, kf_c, kf_k, Nat.reduceDiv, Nat.reduceMod, if_true, if_false, ite_true, ite_false, Int.reduceToNat, Nat.reduceEqDiff, reduceIte, reduceCtorEq, false_implies, true_implies, implies_true, forall_const, hn_uN, hn_uI, hn_uP,  Nat.add_assoc, t0, s0, t12, s12,  true_and, and_true, not_false_eq_true, kO_uI, kO_uP, kJ_uI, kJ_uP, kU_uI, kU_uP, kl_uI, kl_uP, kl_uN, hP_uP, hP_uI, u2]
  repeat' first
    | ((with_reducible show Q _ _); exact q)
    | with_reducible apply And.intro
    | with_reducible exact ha
    | (with_reducible show _ < _; omega)
    | (with_reducible show _ ≤ _; omega)
    | (with_reducible show _ ≤ _; simp only [hn_uN, hn_uI, hn_uP]; omega)
    | (refine ks_min ?_; (try simp  only [kc_77, wq, stp, stf, p1, p2, pr, lI, lR, sL, cz, krt, List.map_cons, List.map_nil, List.getElem?_cons_zero, List.getElem?_cons_succ, List.length_cons, List.length_nil, List.set_cons_zero, List.set_cons_succ, List.take_succ_cons, List.take_zero, List.drop_succ_cons, List.drop_zero, List.reverse_cons, List.reverse_nil, List.nil_append, List.cons_append, List.replicate_zero, Nat.reduceAdd, Nat.reduceLT, Nat.reduceLeDiff, Nat.reduceSub, Nat.reduceMul, kq_y, kq_c, kq_n, kf_c, kf_k, Nat.reduceDiv, Nat.reduceMod, if_true, if_false, ite_true, ite_false, Int.reduceToNat, Nat.reduceEqDiff, reduceIte, reduceCtorEq, false_implies, true_implies, implies_true, forall_const, hn_uN, hn_uI, hn_uP,  Nat.add_assoc, t0, s0, t12, s12,  true_and, and_true, not_false_eq_true, kO_uI, kO_uP, kJ_uI, kJ_uP, kU_uI, kU_uP, kl_uI, kl_uP, kl_uN, hP_uP, hP_uI, u2]))
    | (refine kLe_O (h := h) ?_ ha; (repeat first | exact kLe_rf _ | refine kLe_I ?_ _ _ _ | refine kLe_P ?_ _ _ _ | refine kLe_N ?_ _ _); done)
    | (simp [ha, hn_uN, hn_uI, hn_uP, Nat.add_assoc, kO_uN, kU_uN, kJ_uN, kO_uI, kO_uP, kU_uI, kU_uP, kl_uI, kl_uP, kl_uN]; done)
def kc_X3_init (h : kH) (a : Nat) : kH := (uP (uN (uP (uN (uP (uN (uP (uN (uP (uN (uP (uN (uP (uN (uP (uN (uP (uN (uP (uN (uP (uN (uP (uN h 1 14) a 6 (some (hn h))) 1 14) a 7 (some (hn h + 1))) 1 14) a 8 (some (hn h + 2))) 1 14) a 9 (some (hn h + 3))) 1 10) a 10 (some (hn h + 4))) 1 10) a 11 (some (hn h + 5))) 1 10) a 12 (some (hn h + 6))) 1 10) a 13 (some (hn h + 7))) 1 10) a 14 (some (hn h + 8))) 1 12) a 15 (some (hn h + 9))) 1 12) a 16 (some (hn h + 10))) 1 12) a 17 (some (hn h + 11)))
theorem hn_X3_init (h : kH) (a : Nat) : hn (kc_X3_init h a) = hn h + 12 := by simp only [kc_X3_init, hn_uI, hn_uP, hn_uN, Nat.add_assoc, Nat.reduceAdd]
theorem le_X3_init (h : kH) (a : Nat) : kLe h (kc_X3_init h a) := by
  unfold kc_X3_init
  repeat first | exact kLe_rf _ | refine kLe_I ?_ _ _ _ | refine kLe_P ?_ _ _ _ | refine kLe_N ?_ _ _
theorem lP_X3_init {h : kH} {a b j : Nat} (h1 : b ≠ a) (h2 : b < hn h) : hP (kc_X3_init h a) b j = hP h b j := by
  have e : ∀ n : Nat, b ≠ hn h + n := fun n => by omega
  have e0 : b ≠ hn h := by omega
  simp only [kc_X3_init, hP_uP, u2, hP_uN, hn_uP, hn_uN, Nat.add_assoc, Nat.reduceAdd, h1, e, e0, false_and, if_false]
theorem ol_X3_init {h : kH} {a b c : Nat} (o : kO h b c) : kO (kc_X3_init h a) b c := kLe_O (le_X3_init h a) o
theorem ou_X3_init {h : kH} {a b : Nat} (o : kU h b) : kU (kc_X3_init h a) b := kLe_U (le_X3_init h a) o
set_option maxHeartbeats 600000 in
set_option maxRecDepth 100000 in
theorem ks_X3_init {g : kG} {d a : Nat} {h : kH} {Q : Int32 → kH → Prop} (ha : kO h a 3) (hm : hn h + 12 ≤ 1000000) (q : Q 0 (kc_X3_init h a)) : Ev g 20 (d + 1) (.inr (some a) :: []) h Q := by
  have ha1 : a < hn h := ha.1
  refine Ev_wq (stops := []) (n := 1) (mc := 12) (ms := 142) 56 (by decide) me_20 (by decide +kernel) rfl (by decide) ?_
  show wq g 20 d none 12 142 kc_20 [] Q 56 0 0 0 [some (.inr (some a))] [] h
  have z16 : ∀ n : Nat, n < 2147483648 → (Int32.ofInt (n : Int)).toNatClampNeg = n := fun n hn' => by rw [zi_ix (by omega) (by omega)]; omega
  have t10 : (Int32.ofInt 10).toNatClampNeg = 10 := by decide
  have s10 : ¬ Int32.ofInt 10 < 0 := by decide
  have t12 : (Int32.ofInt 12).toNatClampNeg = 12 := by decide
  have s12 : ¬ Int32.ofInt 12 < 0 := by decide
  have t14 : (Int32.ofInt 14).toNatClampNeg = 14 := by decide
  have s14 : ¬ Int32.ofInt 14 < 0 := by decide
  simp  only [kc_20, wq, stp, stf, p1, p2, pr, lI, lR, sL, cz, krt, List.map_cons, List.map_nil, List.getElem?_cons_zero, List.getElem?_cons_succ, List.length_cons, List.length_nil, List.set_cons_zero, List.set_cons_succ, List.take_succ_cons, List.take_zero, List.drop_succ_cons, List.drop_zero, List.reverse_cons, List.reverse_nil, List.nil_append, List.cons_append, List.replicate_zero, Nat.reduceAdd, Nat.reduceLT, Nat.reduceLeDiff, Nat.reduceSub, Nat.reduceMul, kq_y, kq_c, kq_n, kf_c, kf_k, Nat.reduceDiv, Nat.reduceMod, if_true, if_false, ite_true, ite_false, Int.reduceToNat, Nat.reduceEqDiff, reduceIte, reduceCtorEq, false_implies, true_implies, implies_true, forall_const, hn_uN, hn_uI, hn_uP,  Nat.add_assoc, t10, s10, t12, s12, t14, s14,  true_and, and_true, not_false_eq_true, kO_uI, kO_uP, kJ_uI, kJ_uP, kU_uI, kU_uP, kl_uI, kl_uP, kl_uN, hP_uP, hP_uI, u2]
  repeat' first
    | ((with_reducible show Q _ _); exact q)
    | with_reducible apply And.intro
    | with_reducible exact ha
    | (with_reducible show _ < _; omega)
    | (with_reducible show _ ≤ _; omega)
    | (with_reducible show _ ≤ _; simp only [hn_uN, hn_uI, hn_uP]; omega)
    | (refine kLe_O (h := h) ?_ ha; (repeat first | exact kLe_rf _ | refine kLe_I ?_ _ _ _ | refine kLe_P ?_ _ _ _ | refine kLe_N ?_ _ _); done)
    | (simp [ha, hn_uN, hn_uI, hn_uP, Nat.add_assoc, kO_uN, kU_uN, kJ_uN, kO_uI, kO_uP, kU_uI, kU_uP, kl_uI, kl_uP, kl_uN]; done)
def kc_X0_init (h : kH) (a : Nat) : kH := (uI (uP (uN (uP (uN (uP (uN (uP (uN h 1 150) a 0 (some (hn h))) 1 150) a 1 (some (hn h + 1))) 1 150) a 2 (some (hn h + 2))) 1 150) a 3 (some (hn h + 3))) a 4 (Int32.ofInt 0))
theorem hn_X0_init (h : kH) (a : Nat) : hn (kc_X0_init h a) = hn h + 4 := by simp only [kc_X0_init, hn_uI, hn_uP, hn_uN, Nat.add_assoc, Nat.reduceAdd]
theorem le_X0_init (h : kH) (a : Nat) : kLe h (kc_X0_init h a) := by
  unfold kc_X0_init
  repeat first | exact kLe_rf _ | refine kLe_I ?_ _ _ _ | refine kLe_P ?_ _ _ _ | refine kLe_N ?_ _ _
theorem ol_X0_init {h : kH} {a b c : Nat} (o : kO h b c) : kO (kc_X0_init h a) b c := kLe_O (le_X0_init h a) o
theorem ou_X0_init {h : kH} {a b : Nat} (o : kU h b) : kU (kc_X0_init h a) b := kLe_U (le_X0_init h a) o
set_option maxHeartbeats 600000 in
set_option maxRecDepth 100000 in
theorem ks_X0_init {g : kG} {d a : Nat} {h : kH} {Q : Int32 → kH → Prop} (ha : kO h a 0) (hm : hn h + 4 ≤ 1000000) (q : Q 0 (kc_X0_init h a)) : Ev g 0 (d + 1) (.inr (some a) :: []) h Q := by
  have ha1 : a < hn h := ha.1
  refine Ev_wq (stops := []) (n := 1) (mc := 4) (ms := 600) 27 (by decide) me_0 (by decide +kernel) rfl (by decide) ?_
  show wq g 0 d none 4 600 kc_0 [] Q 27 0 0 0 [some (.inr (some a))] [] h
  have z16 : ∀ n : Nat, n < 2147483648 → (Int32.ofInt (n : Int)).toNatClampNeg = n := fun n hn' => by rw [zi_ix (by omega) (by omega)]; omega
  have t0 : (Int32.ofInt 0).toNatClampNeg = 0 := by decide
  have s0 : ¬ Int32.ofInt 0 < 0 := by decide
  have t150 : (Int32.ofInt 150).toNatClampNeg = 150 := by decide
  have s150 : ¬ Int32.ofInt 150 < 0 := by decide
  simp  only [kc_0, wq, stp, stf, p1, p2, pr, lI, lR, sL, cz, krt, List.map_cons, List.map_nil, List.getElem?_cons_zero, List.getElem?_cons_succ, List.length_cons, List.length_nil, List.set_cons_zero, List.set_cons_succ, List.take_succ_cons, List.take_zero, List.drop_succ_cons, List.drop_zero, List.reverse_cons, List.reverse_nil, List.nil_append, List.cons_append, List.replicate_zero, Nat.reduceAdd, Nat.reduceLT, Nat.reduceLeDiff, Nat.reduceSub, Nat.reduceMul, kq_y, kq_c, kq_n, kf_c, kf_k, Nat.reduceDiv, Nat.reduceMod, if_true, if_false, ite_true, ite_false, Int.reduceToNat, Nat.reduceEqDiff, reduceIte, reduceCtorEq, false_implies, true_implies, implies_true, forall_const, hn_uN, hn_uI, hn_uP,  Nat.add_assoc, t0, s0, t150, s150,  true_and, and_true, not_false_eq_true, kO_uI, kO_uP, kJ_uI, kJ_uP, kU_uI, kU_uP, kl_uI, kl_uP, kl_uN, hP_uP, hP_uI, u2]
  repeat' first
    | ((with_reducible show Q _ _); exact q)
    | with_reducible apply And.intro
    | with_reducible exact ha
    | (with_reducible show _ < _; omega)
    | (with_reducible show _ ≤ _; omega)
    | (with_reducible show _ ≤ _; simp only [hn_uN, hn_uI, hn_uP]; omega)
    | (refine kLe_O (h := h) ?_ ha; (repeat first | exact kLe_rf _ | refine kLe_I ?_ _ _ _ | refine kLe_P ?_ _ _ _ | refine kLe_N ?_ _ _); done)
    | (simp [ha, hn_uN, hn_uI, hn_uP, Nat.add_assoc, kO_uN, kU_uN, kJ_uN, kO_uI, kO_uP, kU_uI, kU_uP, kl_uI, kl_uP, kl_uN]; done)
def kc_X4_init (h : kH) (a : Nat) : kH := (uP (uN (uP (uN (uI (uP (uN (uP (kc_X8_init (uN h 0 8) (hn h)) a 0 (some (hn h))) 1 400) a 1 (some (hn h + 5))) a 2 (Int32.ofInt 0)) 1 11) a 3 (some (hn h + 6))) 1 64) a 4 (some (hn h + 7)))
theorem hn_X4_init (h : kH) (a : Nat) : hn (kc_X4_init h a) = hn h + 8 := by simp only [kc_X4_init, hn_X8_init, hn_uI, hn_uP, hn_uN, Nat.add_assoc, Nat.reduceAdd]
theorem le_X4_init (h : kH) (a : Nat) : kLe h (kc_X4_init h a) := by
  unfold kc_X4_init
  repeat first | exact kLe_rf _ | refine kLe_I ?_ _ _ _ | refine kLe_P ?_ _ _ _ | refine kLe_N ?_ _ _ | refine kLe_tr ?_ (le_X8_init _ _)
theorem ol_X4_init {h : kH} {a b c : Nat} (o : kO h b c) : kO (kc_X4_init h a) b c := kLe_O (le_X4_init h a) o
theorem ou_X4_init {h : kH} {a b : Nat} (o : kU h b) : kU (kc_X4_init h a) b := kLe_U (le_X4_init h a) o
set_option maxHeartbeats 600000 in
set_option maxRecDepth 100000 in
theorem ks_X4_init {g : kG} {d a : Nat} {h : kH} {Q : Int32 → kH → Prop} (ha : kO h a 4) (hm : hn h + 8 ≤ 1000000) (q : Q 0 (kc_X4_init h a)) : Ev g 38 (d + 2) (.inr (some a) :: []) h Q := by
  have ha1 : a < hn h := ha.1
  refine Ev_wq (stops := []) (n := 1) (mc := 8) (ms := 544) 28 (by decide) me_38 (by decide +kernel) rfl (by decide) ?_
  show wq g 38 (d + 1) none 8 544 kc_38 [] Q 28 0 0 0 [some (.inr (some a))] [] h
  have z16 : ∀ n : Nat, n < 2147483648 → (Int32.ofInt (n : Int)).toNatClampNeg = n := fun n hn' => by rw [zi_ix (by omega) (by omega)]; omega
  have t0 : (Int32.ofInt 0).toNatClampNeg = 0 := by decide
  have s0 : ¬ Int32.ofInt 0 < 0 := by decide
  have t11 : (Int32.ofInt 11).toNatClampNeg = 11 := by decide
  have s11 : ¬ Int32.ofInt 11 < 0 := by decide
  have t64 : (Int32.ofInt 64).toNatClampNeg = 64 := by decide
  have s64 : ¬ Int32.ofInt 64 < 0 := by decide
  have t400 : (Int32.ofInt 400).toNatClampNeg = 400 := by decide
  have s400 : ¬ Int32.ofInt 400 < 0 := by decide
  have n8 : kn_N 8 = 5 := rfl
  have e84 : kc_c 84 = (4, 64) := by decide +kernel
  simp  only [kc_38, wq, stp, stf, p1, p2, pr, lI, lR, sL, cz, krt, List.map_cons, List.map_nil, List.getElem?_cons_zero, List.getElem?_cons_succ, List.length_cons, List.length_nil, List.set_cons_zero, List.set_cons_succ, List.take_succ_cons, List.take_zero, List.drop_succ_cons, List.drop_zero, List.reverse_cons, List.reverse_nil, List.nil_append, List.cons_append, List.replicate_zero, Nat.reduceAdd, Nat.reduceLT, Nat.reduceLeDiff, Nat.reduceSub, Nat.reduceMul, kq_y, kq_c, kq_n, kf_c, kf_k, Nat.reduceDiv, Nat.reduceMod, if_true, if_false, ite_true, ite_false, Int.reduceToNat, Nat.reduceEqDiff, reduceIte, reduceCtorEq, false_implies, true_implies, implies_true, forall_const, hn_uN, hn_uI, hn_uP, hn_X8_init,  Nat.add_assoc, t0, s0, t11, s11, t64, s64, t400, s400, n8, e84,  true_and, and_true, not_false_eq_true, kO_uI, kO_uP, kJ_uI, kJ_uP, kU_uI, kU_uP, kl_uI, kl_uP, kl_uN, hP_uP, hP_uI, u2]
  repeat' first
    | ((with_reducible show Q _ _); exact q)
    | with_reducible apply And.intro
    | with_reducible exact ha
    | (with_reducible show _ < _; omega)
    | (with_reducible show _ ≤ _; omega)
    | (with_reducible show _ ≤ _; simp only [hn_uN, hn_uI, hn_uP, hn_X8_init]; omega)
    | (refine ks_X8_init ?_ ?_ ?_; rotate_left 2; (try simp  only [kc_38, wq, stp, stf, p1, p2, pr, lI, lR, sL, cz, krt, List.map_cons, List.map_nil, List.getElem?_cons_zero, List.getElem?_cons_succ, List.length_cons, List.length_nil, List.set_cons_zero, List.set_cons_succ, List.take_succ_cons, List.take_zero, List.drop_succ_cons, List.drop_zero, List.reverse_cons, List.reverse_nil, List.nil_append, List.cons_append, List.replicate_zero, Nat.reduceAdd, Nat.reduceLT, Nat.reduceLeDiff, Nat.reduceSub, Nat.reduceMul, kq_y, kq_c, kq_n, kf_c, kf_k, Nat.reduceDiv, Nat.reduceMod, if_true, if_false, ite_true, ite_false, Int.reduceToNat, Nat.reduceEqDiff, reduceIte, reduceCtorEq, false_implies, true_implies, implies_true, forall_const, hn_uN, hn_uI, hn_uP, hn_X8_init,  Nat.add_assoc, t0, s0, t11, s11, t64, s64, t400, s400, n8, e84,  true_and, and_true, not_false_eq_true, kO_uI, kO_uP, kJ_uI, kJ_uP, kU_uI, kU_uP, kl_uI, kl_uP, kl_uN, hP_uP, hP_uI, u2]))
    | (refine kLe_O (h := h) ?_ ha; (repeat first | exact kLe_rf _ | refine kLe_I ?_ _ _ _ | refine kLe_P ?_ _ _ _ | refine kLe_N ?_ _ _ | refine kLe_tr ?_ (le_X8_init _ _)); done)
    | (simp [ha, ol_X8_init, ou_X8_init, hn_X8_init, hn_uN, hn_uI, hn_uP, Nat.add_assoc, kO_uN, kU_uN, kJ_uN, kO_uI, kO_uP, kU_uI, kU_uP, kl_uI, kl_uP, kl_uN]; done)
def kc_X2_init (h : kH) (a : Nat) : kH := (uP (kc_X7_init (uN (uP (kc_X7_init (uN (uP (kc_X7_init (uN (uP (kc_X7_init (uN (uP (kc_X7_init (uN (uP (uN (uP (uN (uP (kc_X7_init (uN (uP (kc_X7_init (uN (uP (kc_X8_init (uN (uP (kc_X8_init (uN (uP (kc_X8_init (uN (uP (kc_X4_init (uN (uP (kc_X0_init (uN (uP (kc_X3_init (uN h 0 3) (hn h)) a 0 (some (hn h))) 0 0) (hn h + 13)) a 1 (some (hn h + 13))) 0 4) (hn h + 18)) a 2 (some (hn h + 18))) 0 8) (hn h + 27)) a 3 (some (hn h + 27))) 0 8) (hn h + 32)) a 4 (some (hn h + 32))) 0 8) (hn h + 37)) a 5 (some (hn h + 37))) 0 7) (hn h + 42) (Int32.ofInt 10)) a 6 (some (hn h + 42))) 0 7) (hn h + 44) (Int32.ofInt 4)) a 7 (some (hn h + 44))) 1 3) a 8 (some (hn h + 46))) 1 3) a 9 (some (hn h + 47))) 0 7) (hn h + 48) (Int32.ofInt 7)) a 10 (some (hn h + 48))) 0 7) (hn h + 50) (Int32.ofInt 12)) a 11 (some (hn h + 50))) 0 7) (hn h + 52) (Int32.ofInt 10)) a 12 (some (hn h + 52))) 0 7) (hn h + 54) (Int32.ofInt 8)) a 13 (some (hn h + 54))) 0 7) (hn h + 56) (Int32.ofInt 6)) a 14 (some (hn h + 56)))
theorem hn_X2_init (h : kH) (a : Nat) : hn (kc_X2_init h a) = hn h + 58 := by simp only [kc_X2_init, hn_X3_init, hn_X0_init, hn_X4_init, hn_X8_init, hn_X7_init, hn_uI, hn_uP, hn_uN, Nat.add_assoc, Nat.reduceAdd]
theorem le_X2_init (h : kH) (a : Nat) : kLe h (kc_X2_init h a) := by
  unfold kc_X2_init
  repeat first | exact kLe_rf _ | refine kLe_I ?_ _ _ _ | refine kLe_P ?_ _ _ _ | refine kLe_N ?_ _ _ | refine kLe_tr ?_ (le_X3_init _ _) | refine kLe_tr ?_ (le_X0_init _ _) | refine kLe_tr ?_ (le_X4_init _ _) | refine kLe_tr ?_ (le_X8_init _ _) | refine kLe_tr ?_ (le_X7_init _ _ _)
theorem ol_X2_init {h : kH} {a b c : Nat} (o : kO h b c) : kO (kc_X2_init h a) b c := kLe_O (le_X2_init h a) o
theorem ou_X2_init {h : kH} {a b : Nat} (o : kU h b) : kU (kc_X2_init h a) b := kLe_U (le_X2_init h a) o
set_option maxHeartbeats 600000 in
set_option maxRecDepth 100000 in
theorem ks_X2_init {g : kG} {d a : Nat} {h : kH} {Q : Int32 → kH → Prop} (ha : kO h a 2) (hm : hn h + 58 ≤ 1000000) (q : Q 0 (kc_X2_init h a)) : Ev g 8 (d + 3) (.inr (some a) :: []) h Q := by
  have ha1 : a < hn h := ha.1
  refine Ev_wq (stops := []) (n := 1) (mc := 58) (ms := 1632) 88 (by decide) me_8 (by decide +kernel) rfl (by decide) ?_
  show wq g 8 (d + 2) none 58 1632 kc_8 [] Q 88 0 0 0 [some (.inr (some a))] [] h
  have z16 : ∀ n : Nat, n < 2147483648 → (Int32.ofInt (n : Int)).toNatClampNeg = n := fun n hn' => by rw [zi_ix (by omega) (by omega)]; omega
  have t3 : (Int32.ofInt 3).toNatClampNeg = 3 := by decide
  have s3 : ¬ Int32.ofInt 3 < 0 := by decide
  have t4 : (Int32.ofInt 4).toNatClampNeg = 4 := by decide
  have s4 : ¬ Int32.ofInt 4 < 0 := by decide
  have t6 : (Int32.ofInt 6).toNatClampNeg = 6 := by decide
  have s6 : ¬ Int32.ofInt 6 < 0 := by decide
  have t7 : (Int32.ofInt 7).toNatClampNeg = 7 := by decide
  have s7 : ¬ Int32.ofInt 7 < 0 := by decide
  have t8 : (Int32.ofInt 8).toNatClampNeg = 8 := by decide
  have s8 : ¬ Int32.ofInt 8 < 0 := by decide
  have t10 : (Int32.ofInt 10).toNatClampNeg = 10 := by decide
  have s10 : ¬ Int32.ofInt 10 < 0 := by decide
  have t12 : (Int32.ofInt 12).toNatClampNeg = 12 := by decide
  have s12 : ¬ Int32.ofInt 12 < 0 := by decide
  have n0 : kn_N 0 = 5 := rfl
  have n3 : kn_N 3 = 18 := rfl
  have n4 : kn_N 4 = 5 := rfl
  have n7 : kn_N 7 = 3 := rfl
  have n8 : kn_N 8 = 5 := rfl
  have e20 : kc_c 20 = (12, 142) := by decide +kernel
  have e0 : kc_c 0 = (4, 600) := by decide +kernel
  have e38 : kc_c 38 = (8, 544) := by decide +kernel
  have e84 : kc_c 84 = (4, 64) := by decide +kernel
  have e77 : kc_c 77 = (1, 12) := by decide +kernel
  simp  only [kc_8, wq, stp, stf, p1, p2, pr, lI, lR, sL, cz, krt, List.map_cons, List.map_nil, List.getElem?_cons_zero, List.getElem?_cons_succ, List.length_cons, List.length_nil, List.set_cons_zero, List.set_cons_succ, List.take_succ_cons, List.take_zero, List.drop_succ_cons, List.drop_zero, List.reverse_cons, List.reverse_nil, List.nil_append, List.cons_append, List.replicate_zero, Nat.reduceAdd, Nat.reduceLT, Nat.reduceLeDiff, Nat.reduceSub, Nat.reduceMul, kq_y, kq_c, kq_n, kf_c, kf_k, Nat.reduceDiv, Nat.reduceMod, if_true, if_false, ite_true, ite_false, Int.reduceToNat, Nat.reduceEqDiff, reduceIte, reduceCtorEq, false_implies, true_implies, implies_true, forall_const, hn_uN, hn_uI, hn_uP, hn_X3_init, hn_X0_init, hn_X4_init, hn_X8_init, hn_X7_init,  Nat.add_assoc, t3, s3, t4, s4, t6, s6, t7, s7, t8, s8, t10, s10, t12, s12, n0, n3, n4, n7, n8, e20, e0, e38, e84, e77,  true_and, and_true, not_false_eq_true, kO_uI, kO_uP, kJ_uI, kJ_uP, kU_uI, kU_uP, kl_uI, kl_uP, kl_uN, hP_uP, hP_uI, u2]
  repeat' first
    | ((with_reducible show Q _ _); exact q)
    | with_reducible apply And.intro
    | with_reducible exact ha
    | (with_reducible show _ < _; omega)
    | (with_reducible show _ ≤ _; omega)
    | (with_reducible show _ ≤ _; simp only [hn_uN, hn_uI, hn_uP, hn_X3_init, hn_X0_init, hn_X4_init, hn_X8_init, hn_X7_init]; omega)
    | (refine ks_X3_init ?_ ?_ ?_; rotate_left 2; (try simp  only [kc_8, wq, stp, stf, p1, p2, pr, lI, lR, sL, cz, krt, List.map_cons, List.map_nil, List.getElem?_cons_zero, List.getElem?_cons_succ, List.length_cons, List.length_nil, List.set_cons_zero, List.set_cons_succ, List.take_succ_cons, List.take_zero, List.drop_succ_cons, List.drop_zero, List.reverse_cons, List.reverse_nil, List.nil_append, List.cons_append, List.replicate_zero, Nat.reduceAdd, Nat.reduceLT, Nat.reduceLeDiff, Nat.reduceSub, Nat.reduceMul, kq_y, kq_c, kq_n, kf_c, kf_k, Nat.reduceDiv, Nat.reduceMod, if_true, if_false, ite_true, ite_false, Int.reduceToNat, Nat.reduceEqDiff, reduceIte, reduceCtorEq, false_implies, true_implies, implies_true, forall_const, hn_uN, hn_uI, hn_uP, hn_X3_init, hn_X0_init, hn_X4_init, hn_X8_init, hn_X7_init,  Nat.add_assoc, t3, s3, t4, s4, t6, s6, t7, s7, t8, s8, t10, s10, t12, s12, n0, n3, n4, n7, n8, e20, e0, e38, e84, e77,  true_and, and_true, not_false_eq_true, kO_uI, kO_uP, kJ_uI, kJ_uP, kU_uI, kU_uP, kl_uI, kl_uP, kl_uN, hP_uP, hP_uI, u2]))
    | (refine ks_X0_init ?_ ?_ ?_; rotate_left 2; (try simp  only [kc_8, wq, stp, stf, p1, p2, pr, lI, lR, sL, cz, krt, List.map_cons, List.map_nil, List.getElem?_cons_zero, List.getElem?_cons_succ, List.length_cons, List.length_nil, List.set_cons_zero, List.set_cons_succ, List.take_succ_cons, List.take_zero, List.drop_succ_cons, List.drop_zero, List.reverse_cons, List.reverse_nil, List.nil_append, List.cons_append, List.replicate_zero, Nat.reduceAdd, Nat.reduceLT, Nat.reduceLeDiff, Nat.reduceSub, Nat.reduceMul, kq_y, kq_c, kq_n, kf_c, kf_k, Nat.reduceDiv, Nat.reduceMod, if_true, if_false, ite_true, ite_false, Int.reduceToNat, Nat.reduceEqDiff, reduceIte, reduceCtorEq, false_implies, true_implies, implies_true, forall_const, hn_uN, hn_uI, hn_uP, hn_X3_init, hn_X0_init, hn_X4_init, hn_X8_init, hn_X7_init,  Nat.add_assoc, t3, s3, t4, s4, t6, s6, t7, s7, t8, s8, t10, s10, t12, s12, n0, n3, n4, n7, n8, e20, e0, e38, e84, e77,  true_and, and_true, not_false_eq_true, kO_uI, kO_uP, kJ_uI, kJ_uP, kU_uI, kU_uP, kl_uI, kl_uP, kl_uN, hP_uP, hP_uI, u2]))
    | (refine ks_X4_init ?_ ?_ ?_; rotate_left 2; (try simp  only [kc_8, wq, stp, stf, p1, p2, pr, lI, lR, sL, cz, krt, List.map_cons, List.map_nil, List.getElem?_cons_zero, List.getElem?_cons_succ, List.length_cons, List.length_nil, List.set_cons_zero, List.set_cons_succ, List.take_succ_cons, List.take_zero, List.drop_succ_cons, List.drop_zero, List.reverse_cons, List.reverse_nil, List.nil_append, List.cons_append, List.replicate_zero, Nat.reduceAdd, Nat.reduceLT, Nat.reduceLeDiff, Nat.reduceSub, Nat.reduceMul, kq_y, kq_c, kq_n, kf_c, kf_k, Nat.reduceDiv, Nat.reduceMod, if_true, if_false, ite_true, ite_false, Int.reduceToNat, Nat.reduceEqDiff, reduceIte, reduceCtorEq, false_implies, true_implies, implies_true, forall_const, hn_uN, hn_uI, hn_uP, hn_X3_init, hn_X0_init, hn_X4_init, hn_X8_init, hn_X7_init,  Nat.add_assoc, t3, s3, t4, s4, t6, s6, t7, s7, t8, s8, t10, s10, t12, s12, n0, n3, n4, n7, n8, e20, e0, e38, e84, e77,  true_and, and_true, not_false_eq_true, kO_uI, kO_uP, kJ_uI, kJ_uP, kU_uI, kU_uP, kl_uI, kl_uP, kl_uN, hP_uP, hP_uI, u2]))
    | (refine ks_X8_init ?_ ?_ ?_; rotate_left 2; (try simp  only [kc_8, wq, stp, stf, p1, p2, pr, lI, lR, sL, cz, krt, List.map_cons, List.map_nil, List.getElem?_cons_zero, List.getElem?_cons_succ, List.length_cons, List.length_nil, List.set_cons_zero, List.set_cons_succ, List.take_succ_cons, List.take_zero, List.drop_succ_cons, List.drop_zero, List.reverse_cons, List.reverse_nil, List.nil_append, List.cons_append, List.replicate_zero, Nat.reduceAdd, Nat.reduceLT, Nat.reduceLeDiff, Nat.reduceSub, Nat.reduceMul, kq_y, kq_c, kq_n, kf_c, kf_k, Nat.reduceDiv, Nat.reduceMod, if_true, if_false, ite_true, ite_false, Int.reduceToNat, Nat.reduceEqDiff, reduceIte, reduceCtorEq, false_implies, true_implies, implies_true, forall_const, hn_uN, hn_uI, hn_uP, hn_X3_init, hn_X0_init, hn_X4_init, hn_X8_init, hn_X7_init,  Nat.add_assoc, t3, s3, t4, s4, t6, s6, t7, s7, t8, s8, t10, s10, t12, s12, n0, n3, n4, n7, n8, e20, e0, e38, e84, e77,  true_and, and_true, not_false_eq_true, kO_uI, kO_uP, kJ_uI, kJ_uP, kU_uI, kU_uP, kl_uI, kl_uP, kl_uN, hP_uP, hP_uI, u2]))
    | (refine ks_X7_init ?_ ?_ ?_; rotate_left 2; (try simp  only [kc_8, wq, stp, stf, p1, p2, pr, lI, lR, sL, cz, krt, List.map_cons, List.map_nil, List.getElem?_cons_zero, List.getElem?_cons_succ, List.length_cons, List.length_nil, List.set_cons_zero, List.set_cons_succ, List.take_succ_cons, List.take_zero, List.drop_succ_cons, List.drop_zero, List.reverse_cons, List.reverse_nil, List.nil_append, List.cons_append, List.replicate_zero, Nat.reduceAdd, Nat.reduceLT, Nat.reduceLeDiff, Nat.reduceSub, Nat.reduceMul, kq_y, kq_c, kq_n, kf_c, kf_k, Nat.reduceDiv, Nat.reduceMod, if_true, if_false, ite_true, ite_false, Int.reduceToNat, Nat.reduceEqDiff, reduceIte, reduceCtorEq, false_implies, true_implies, implies_true, forall_const, hn_uN, hn_uI, hn_uP, hn_X3_init, hn_X0_init, hn_X4_init, hn_X8_init, hn_X7_init,  Nat.add_assoc, t3, s3, t4, s4, t6, s6, t7, s7, t8, s8, t10, s10, t12, s12, n0, n3, n4, n7, n8, e20, e0, e38, e84, e77,  true_and, and_true, not_false_eq_true, kO_uI, kO_uP, kJ_uI, kJ_uP, kU_uI, kU_uP, kl_uI, kl_uP, kl_uN, hP_uP, hP_uI, u2]))
    | (refine kLe_O (h := h) ?_ ha; (repeat first | exact kLe_rf _ | refine kLe_I ?_ _ _ _ | refine kLe_P ?_ _ _ _ | refine kLe_N ?_ _ _ | refine kLe_tr ?_ (le_X3_init _ _) | refine kLe_tr ?_ (le_X0_init _ _) | refine kLe_tr ?_ (le_X4_init _ _) | refine kLe_tr ?_ (le_X8_init _ _) | refine kLe_tr ?_ (le_X7_init _ _ _)); done)
    | (simp [ha, ol_X3_init, ou_X3_init, hn_X3_init, ol_X0_init, ou_X0_init, hn_X0_init, ol_X4_init, ou_X4_init, hn_X4_init, ol_X8_init, ou_X8_init, hn_X8_init, ol_X7_init, ou_X7_init, hn_X7_init, hn_uN, hn_uI, hn_uP, Nat.add_assoc, kO_uN, kU_uN, kJ_uN, kO_uI, kO_uP, kU_uI, kU_uP, kl_uI, kl_uP, kl_uN]; done)
