/-! LOOKING; WHAT A QUILL, A DEED IS; SETTING -/
theorem q_look {I : zI} {w : Int} (h : Rl I) : Pair 155 291 [.inl w] I := by
  have r := h.1.1
  have c5 := r.2.2.1
  by_cases h0 : w = 0
  · subst h0
    refine Pair_of h (I1 := I) (I2 := up I 240 0 0) (r := I 2 3) ?_ ?_ Ag_0
    · rw [e_155]
      simp only [Int.reduceEq, if_false, if_true]
    · rw [e_291]
      simp only [Int.reduceEq, if_false, if_true, r.1.1]
  by_cases h1 : w = 1
  · subst h1
    refine Pair_of h (I1 := I) (I2 := up I 240 0 0) (r := I 2 4) ?_ ?_ Ag_0
    · rw [e_155]
      simp only [Int.reduceEq, if_false, if_true]
    · rw [e_291]
      simp only [Int.reduceEq, if_false, if_true, r.2.1.1]
  by_cases h2 : w = 2
  · subst h2
    refine Pair_of h (I1 := I) (I2 := up I 240 0 0) (r := I 2 5) ?_ ?_ Ag_0
    · rw [e_155]
      simp only [Int.reduceEq, if_false, if_true]
    · rw [e_291]
      simp only [Int.reduceEq, if_false, if_true, r.2.2.1.1]
  by_cases h3 : w = 3
  · subst h3
    refine Pair_of h (I1 := I) (I2 := up I 240 0 0) (r := I 2 1) ?_ ?_ Ag_0
    · rw [e_155]
      simp only [Int.reduceEq, if_false, if_true]
    · rw [e_291]
      simp only [Int.reduceEq, if_false, if_true, r.2.2.2.2.1]
  by_cases h4 : w = 4
  · subst h4
    refine Pair_of h (I1 := I) (I2 := up I 240 0 0) (r := zdp (fun e => decide (¬ I 14 e = -1)) (I 2 5).toNat) ?_ ?_ Ag_0
    · rw [e_155]
      simp only [Int.reduceEq, if_false, if_true, s_28 fi_2 c5.2.1 c5.2.2, Option.bind_some]
    · rw [e_291]
      simp only [Int.reduceEq, if_false, if_true]
      rw [s_180 (by simp only [Option.bind_some, b01, up_c, up_j, up_s, Nat.reduceEqDiff, not_false_eq_true]; omega) (by simp only [Option.bind_some, b01, up_c, up_j, up_s, Nat.reduceEqDiff, not_false_eq_true]; omega)]
      simp only [Option.bind_some, b01, up_c, up_j, up_s, Nat.reduceEqDiff, not_false_eq_true]
      rw [c5.1, zdp_done r]
  by_cases h5 : w = 5
  · subst h5
    refine Pair_of h (I1 := I) (I2 := up I 240 0 0) (r := I 2 2) ?_ ?_ Ag_0
    · rw [e_155]
      simp only [Int.reduceEq, if_false, if_true]
    · rw [e_291]
      simp only [Int.reduceEq, if_false, if_true, r.2.2.2.2.2.1.1]
  by_cases h6 : w = 6
  · subst h6
    refine Pair_of h (I1 := I) (I2 := up I 240 0 0) (r := I 15 4) ?_ ?_ Ag_0
    · rw [e_155]
      simp only [Int.reduceEq, if_false, if_true]
    · rw [e_291]
      simp only [Int.reduceEq, if_false, if_true, h.1.2.1.1.1]
  by_cases h7 : w = 7
  · subst h7
    refine Pair_of h (I1 := I) (I2 := up I 240 0 0) (r := I 2 0) ?_ ?_ Ag_0
    · rw [e_155]
      simp only [Int.reduceEq, if_false, if_true]
    · rw [e_291]
      simp only [Int.reduceEq, if_false, if_true, r.2.2.2.1]
  by_cases h8 : w = 8
  · subst h8
    refine Pair_of h (I1 := I) (I2 := up I 240 0 0) (r := I 21 4) ?_ ?_ Ag_0
    · rw [e_155]
      simp only [Int.reduceEq, if_false, if_true]
    · rw [e_291]
      simp only [Int.reduceEq, if_false, if_true, h.1.2.2.1.1.1]
  by_cases h9 : w = 9
  · subst h9
    refine Pair_of h (I1 := I) (I2 := up I 240 0 0) (r := I 29 4) ?_ ?_ Ag_0
    · rw [e_155]
      simp only [Int.reduceEq, if_false, if_true]
    · rw [e_291]
      simp only [Int.reduceEq, if_false, if_true, h.1.2.2.2.1.1.1]
  by_cases h10 : w = 10
  · subst h10
    refine Pair_of h (I1 := I) (I2 := up I 240 0 0) (r := I 34 4) ?_ ?_ Ag_0
    · rw [e_155]
      simp only [Int.reduceEq, if_false, if_true]
    · rw [e_291]
      simp only [Int.reduceEq, if_false, if_true, h.1.2.2.2.2.1.1.1]
  by_cases h11 : w = 11
  · subst h11
    refine Pair_of h (I1 := I) (I2 := up I 240 0 0) (r := I 39 4) ?_ ?_ Ag_0
    · rw [e_155]
      simp only [Int.reduceEq, if_false, if_true]
    · rw [e_291]
      simp only [Int.reduceEq, if_false, if_true, h.1.2.2.2.2.2.1.1.1]
  by_cases h12 : w = 12
  · subst h12
    refine Pair_of h (I1 := I) (I2 := up I 240 0 0) (r := I 119 3) ?_ ?_ Ag_0
    · rw [e_155]
      simp only [Int.reduceEq, if_false, if_true]
    · rw [e_291]
      simp only [Int.reduceEq, if_false, if_true, h.2.1.2.1.1]
  refine Pair_of h (I1 := I) (I2 := up I 240 0 0) (r := -100000) ?_ ?_ Ag_0
  · rw [e_155]
    simp only [if_neg h0, if_neg h1, if_neg h2, if_neg h3, if_neg h4, if_neg h5, if_neg h6, if_neg h7, if_neg h8, if_neg h9, if_neg h10, if_neg h11, if_neg h12]
  · rw [e_291]
    simp only [if_neg h0, if_neg h1, if_neg h2, if_neg h3, if_neg h4, if_neg h5, if_neg h6, if_neg h7, if_neg h8, if_neg h9, if_neg h10, if_neg h11, if_neg h12]
theorem s_245 {d : Nat} {I : zI} {x : Int} {w : Option zV} (h0 : 0 ≤ I 240 7) (h1 : I 240 7 ≤ 10) (hr : ∀ c : Nat, (c : Int) < I 240 7 → 0 ≤ I 241 (56 + c) ∧ I 241 (56 + c) ≤ 12) : zD (d + 2) 245 67 [some (.inr (some 240)), some (.inl x), w, some (.inl 0), some (.inl 0)] [] I = some (zdp (fun c => decide (I 241 (56 + c) - 1 = x)) (I 240 7).toNat, I) := by
  refine zloop (n := (I 240 7).toNat) (P := fun k => zD (d + 2) 245 67 [some (.inr (some 240)), some (.inl x), w, some (.inl (zdp (fun c => decide (I 241 (56 + c) - 1 = x)) k)), some (.inl (k : Int))] [] I) (fun k hk => ?_) ?_
  · show zD _ _ _ _ _ _ = zD _ _ _ _ _ _
    have hk2 := hr k (by omega)
    rw [e_245_67, if_pos (by omega), s_176 (by omega) (by omega) (by rw [Int.toNat_natCast]; omega) (by rw [Int.toNat_natCast]; omega), Option.bind_some, Int.toNat_natCast, wr_id (by omega) (by omega), zk1c, zdp]
    by_cases h : I 241 (56 + k) - 1 = x <;> simp [h]
  · show zD _ _ _ _ _ _ = _
    rw [e_245_67, if_neg (by omega)]
theorem q_deedOf {I : zI} {e w : Int} (h : Rl I) : Pair 125 245 [.inl e, .inl w] I := by
  have r := h.1.1
  have c5 := r.2.2.1
  have c4 := r.2.1
  have ra := h.1.2.2.2.2.2.1
  by_cases he : 0 ≤ e ∧ e < I 2 5
  · have rd := r.2.2.2.2.2.2.2.2 e.toNat (by omega)
    simp only [Nat.reduceAdd] at rd
    have E1 := e_125 (d := 59) (I := I) (x1 := e) (x2 := w)
    simp only [s_24 fi_2, Option.bind_some, b01] at E1
    rw [if_neg (by omega)] at E1
    have E2 := e_245 (d := 59) (I := I) (x1 := e) (x2 := w)
    simp only [Option.bind_some, b01, up_c, up_j, up_s, Nat.reduceEqDiff, not_false_eq_true, s_174, s_158, c5.1] at E2
    rw [if_neg (by omega)] at E2
    by_cases hw : 0 ≤ w ∧ w ≤ 5
    · rw [if_neg (by omega)] at E2
      have hw2 : w = 0 ∨ w = 1 ∨ w = 2 ∨ w = 3 ∨ w = 4 ∨ w = 5 := by omega
      have w86 : wr (86 + e) = 86 + e := wr_id (by omega) (by omega)
      have w98 : wr (98 + e) = 98 + e := wr_id (by omega) (by omega)
      have t86 : (86 + e).toNat = 86 + e.toNat := by omega
      have t98 : (98 + e).toNat = 98 + e.toNat := by omega
      have i12 : 0 ≤ e ∧ e < 12 := by omega
      have i24 : 0 ≤ e ∧ e < 24 := by omega
      have i86 : 0 ≤ 86 + e ∧ 86 + e < 110 := by omega
      have i98 : 0 ≤ 98 + e ∧ 98 + e < 110 := by omega
      rcases hw2 with rfl | rfl | rfl | rfl | rfl | rfl
      · simp only [Int.reduceEq, if_true, if_false, i12, and_self] at E1 E2
        exact Pair_of h E1 (by rw [E2, rd.1.1]) Ag_0
      · simp only [Int.reduceEq, if_true, if_false, i12, and_self, w86, i86, t86] at E1 E2
        exact Pair_of h E1 (by rw [E2, rd.2.1.1]) Ag_0
      · simp only [Int.reduceEq, if_true, if_false, i12, and_self, w98, i98, t98] at E1 E2
        rw [rd.2.2.1, Int.add_sub_cancel, wr_id (by omega) (by omega)] at E2
        exact Pair_of h E1 E2 Ag_0
      · simp only [Int.reduceEq, if_true, if_false, s_12 ra.1.2.1 ra.1.2.2, Option.bind_some, i24, and_self] at E1 E2
        refine Pair_of h E1 (by rw [E2, ra.2.2 e.toNat (by omega), show ((e.toNat : Nat) : Int) = e by omega]) Ag_0
      · simp only [Int.reduceEq, if_true, if_false, s_13 fi_2 ra.1.2.1 ra.1.2.2 c5.2.1 c5.2.2, Option.bind_some, b01] at E1
        simp only [Int.reduceEq, if_true, if_false] at E2
        rw [s_181 (by omega) (by omega) (by simp only [Option.bind_some, b01, up_c, up_j, up_s, Nat.reduceEqDiff, not_false_eq_true]; omega) (by simp only [Option.bind_some, b01, up_c, up_j, up_s, Nat.reduceEqDiff, not_false_eq_true]; omega)] at E2
        simp only [Option.bind_some, b01, up_c, up_j, up_s, Nat.reduceEqDiff, not_false_eq_true] at E2
        rw [c5.1, zdp_done r, ra.2.2 e.toNat (by omega), show ((e.toNat : Nat) : Int) = e by omega] at E2
        simp only [Nat.reduceAdd] at E1 E2
        refine Pair_of h (r := if I 14 e.toNat = -1 ∧ zand (zset (I 40) (I 41) e (I 39 4).toNat) (zxor (zdp (fun e => decide (¬ I 14 e = -1)) (I 2 5).toNat) (-1)) = 0 then 1 else 0) (I1 := I) (I2 := up I 240 0 0) ?_ ?_ Ag_0
        · rw [E1]
          (repeat' split) <;> first | rfl | (exfalso; omega)
        · rw [E2]
          (repeat' split) <;> first | rfl | (exfalso; omega)
      · simp only [Int.reduceEq, if_true, if_false, s_29 fi_2 c4.2.1 c4.2.2, Option.bind_some] at E1 E2
        refine Pair_of h E1 ?_ Ag_0
        rw [E2, s_245 (by simp only [Option.bind_some, b01, up_c, up_j, up_s, Nat.reduceEqDiff, not_false_eq_true]; omega) (by simp only [Option.bind_some, b01, up_c, up_j, up_s, Nat.reduceEqDiff, not_false_eq_true]; omega) (fun c hc => ?_)]
        · simp only [Option.bind_some, b01, up_c, up_j, up_s, Nat.reduceEqDiff, not_false_eq_true]
          rw [c4.1]
          refine congrArg some (Prod.ext ?_ rfl)
          refine zdp_cg _ fun k hk => ?_
          have h2 := r.2.2.2.2.2.2.2.1 k (by omega)
          rw [h2.2.2.1.1, Int.add_sub_cancel]
        · simp only [Option.bind_some, b01, up_c, up_j, up_s, Nat.reduceEqDiff, not_false_eq_true] at hc ⊢
          have h2 := r.2.2.2.2.2.2.2.1 c (by omega)
          omega
    · rw [if_pos (by omega)] at E2
      refine Pair_of h (r := -2) ?_ E2 Ag_0
      rw [E1]
      simp only [show ¬ w = 0 by omega, show ¬ w = 1 by omega, show ¬ w = 2 by omega, show ¬ w = 3 by omega, show ¬ w = 4 by omega, show ¬ w = 5 by omega, if_false]
  · refine Pair_of h (I1 := I) (I2 := up I 240 0 0) (r := -2) ?_ ?_ Ag_0
    · rw [e_125]
      simp only [s_24 fi_2, Option.bind_some, b01]
      rw [if_pos (by omega)]
    · rw [e_245]
      simp only [Option.bind_some, b01, up_c, up_j, up_s, Nat.reduceEqDiff, not_false_eq_true, s_174, c5.1]
      rw [if_pos (by omega)]
