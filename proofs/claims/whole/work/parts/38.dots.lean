/-! DOTS -/
theorem wr_as (a b : Int) : wr (wr a - b) = wr (a - b) := Int.bmod_sub_bmod
theorem wr_aa (a b : Int) : wr (wr a + b) = wr (a + b) := Int.bmod_add_bmod
theorem wr_sa (a b : Int) : wr (a - wr b) = wr (a - b) := Int.sub_bmod_bmod
def gstep : Nat → Nat → Nat → Bool
  | 0, _, y => decide (y = 0)
  | f + 1, x, y => decide (y = 0) || gstep f y (x % y)
theorem gstep_all : ((List.range 100).all fun x => (List.range 100).all fun y => gstep 14 x y) = true := by decide +kernel
theorem gstep_at (x y : Nat) (hx : x < 100) (hy : y < 100) : gstep 14 x y = true := List.all_eq_true.mp (List.all_eq_true.mp gstep_all x (List.mem_range.mpr hx)) y (List.mem_range.mpr hy)
theorem gcd_st (x y : Nat) : Nat.gcd x y = Nat.gcd y (x % y) := by
  rw [Nat.gcd_comm x y, Nat.gcd_rec y x, Nat.gcd_comm]
theorem gd_in {d e : Nat} {I J : zI} {w0 w1 w2 w3 w4 : Option zV} : ∀ (f x y i : Nat), gstep f x y = true → i + f < 64 → x < 1000000 → y < 1000000 →
    zD (d + 1) 91 8 [w0, w1, some (.inl (x : Int)), some (.inl (y : Int)), some (.inl (i : Int))] [] I = some (((Nat.gcd x y : Nat) : Int), I) ∧
      zD (e + 1) 163 8 [w2, w3, w4, some (.inl (x : Int)), some (.inl (y : Int))] [] J = some (((Nat.gcd x y : Nat) : Int), J) := by
  have fin : ∀ x i : Nat, i < 64 → zD (d + 1) 91 8 [w0, w1, some (.inl (x : Int)), some (.inl ((0 : Nat) : Int)), some (.inl (i : Int))] [] I = some (((Nat.gcd x 0 : Nat) : Int), I) ∧
      zD (e + 1) 163 8 [w2, w3, w4, some (.inl (x : Int)), some (.inl ((0 : Nat) : Int))] [] J = some (((Nat.gcd x 0 : Nat) : Int), J) := by
    intro x i hi
    rw [Nat.gcd_zero_right]
    refine ⟨?_, ?_⟩
    · rw [e_91_8, if_pos (by omega), if_pos (by omega)]
    · rw [e_163_8, if_pos (by omega)]
  intro f
  induction f with
  | zero =>
    intro x y i h hi _ _
    have hy : y = 0 := of_decide_eq_true h
    subst hy
    exact fin x i (by omega)
  | succ f ih =>
    intro x y i h hi hx hy0
    by_cases hy : y = 0
    · subst hy
      exact fin x i (by omega)
    · have h2 : gstep f y (x % y) = true := by
        unfold gstep at h
        rw [Bool.or_eq_true] at h
        exact h.resolve_left (by simpa using hy)
      have hlt := Nat.mod_lt x (Nat.pos_of_ne_zero hy)
      obtain ⟨f1, f2⟩ := ih y (x % y) (i + 1) h2 (by omega) hy0 (by omega)
      have z : zrem (x : Int) (y : Int) = ((x % y : Nat) : Int) := by rw [zrem_nn (by omega) (by omega) (by omega) (by omega)]; rfl
      rw [gcd_st x y]
      refine ⟨?_, ?_⟩
      · rw [← f1, e_91_8, if_pos (by omega), if_neg (by omega), if_neg (by omega), z, wr_id (by omega) (by omega)]; rfl
      · rw [← f2, e_163_8, if_neg (by omega), if_neg (by omega), z]
theorem ab_s {x : Int} (h1 : -99 ≤ x) (h2 : x ≤ 99) : (if x < 0 then wr (-x) else x) = (x.natAbs : Int) := by
  split
  · rw [wr_id (by omega) (by omega)]; omega
  · omega
theorem s_91 {d : Nat} {I : zI} {x y : Int} (h1 : -99 ≤ x) (h2 : x ≤ 99) (h3 : -99 ≤ y) (h4 : y ≤ 99) : cl (d + 2) 91 [.inl x, .inl y] I = some (((Nat.gcd x.natAbs y.natAbs : Nat) : Int), I) := by
  rw [e_91, s_294, Option.bind_some, s_294, Option.bind_some, ab_s h1 h2, ab_s h3 h4]
  exact (gd_in (e := 0) (J := I) (w2 := none) (w3 := none) (w4 := none) 14 x.natAbs y.natAbs 0 (gstep_at _ _ (by omega) (by omega)) (by omega) (by omega) (by omega)).1
theorem s_163 {d : Nat} {I : zI} {x y : Int} (h1 : -99 ≤ x) (h2 : x ≤ 99) (h3 : -99 ≤ y) (h4 : y ≤ 99) : cl (d + 2) 163 [.inr (some 240), .inl x, .inl y] I = some (((Nat.gcd x.natAbs y.natAbs : Nat) : Int), I) := by
  rw [e_163, s_162, Option.bind_some, s_162, Option.bind_some, ab_s h1 h2, ab_s h3 h4]
  exact (gd_in (d := 0) (I := I) (w0 := none) (w1 := none) 14 x.natAbs y.natAbs 0 (gstep_at _ _ (by omega) (by omega)) (by omega) (by omega) (by omega)).2
theorem gcd_le99 {x y : Int} (h1 : -99 ≤ x) (h2 : x ≤ 99) (h3 : -99 ≤ y) (h4 : y ≤ 99) : Nat.gcd x.natAbs y.natAbs ≤ 99 := by
  by_cases h : x.natAbs = 0
  · rw [h, Nat.gcd_zero_left]; omega
  · have := Nat.gcd_le_left y.natAbs (Nat.pos_of_ne_zero h)
    omega
theorem s_262 {d a b : Nat} {I : zI} (ha : a < 3) (hb : b < 3) (hr : ∀ j : Nat, j < 3 → 0 ≤ I 272 j ∧ I 272 j ≤ 99 ∧ 0 ≤ I 273 j ∧ I 273 j ≤ 99) : cl (d + 3) 262 [.inr (some 240), .inl (a : Int), .inl (b : Int)] I = some (((Nat.gcd (I 272 a - I 272 b).natAbs (I 273 a - I 273 b).natAbs : Nat) : Int), I) := by
  have h1 := hr a ha
  have h2 := hr b hb
  have ia : 0 ≤ (a : Int) ∧ (a : Int) < 3 := by omega
  have ib : 0 ≤ (b : Int) ∧ (b : Int) < 3 := by omega
  rw [e_262]
  simp only [if_pos ia, if_pos ib, Int.toNat_natCast]
  rw [wr_id (by omega) (by omega), wr_id (by omega) (by omega), s_163 (by omega) (by omega) (by omega) (by omega)]
  rfl
theorem dt_hz {A x y z : Int} (x0 : 0 ≤ x) (x1 : x ≤ 99) (y0 : 0 ≤ y) (y1 : y ≤ 99) : wr (wr (wr (wr (A - x) - y) - z) + 2) = wr (wr (A - wr (wr (x + y) + z)) + 2) := by
  have e1 : wr (x + y) = x + y := wr_id (by omega) (by omega)
  have e2 : A - wr (x + y + z) + 2 = (A + 2) - wr (x + y + z) := by generalize wr (x + y + z) = q; omega
  have e3 : wr (wr (A - x) - y) - z + 2 = wr (wr (A - x) - y) - (z - 2) := by generalize wr (wr (A - x) - y) = q; omega
  have e4 : wr (A - x) - y - (z - 2) = wr (A - x) - (y + (z - 2)) := by generalize wr (A - x) = q; omega
  rw [e1, wr_aa, wr_aa, e2, wr_sa, e3, wr_as, e4, wr_as]
  congr 1
  omega
theorem q_dots {I : zI} {w : Int} (h : Rl I) : Pair 140 263 [.inl w] I := by
  have r := h.1.2.2.2.2.2.2.2.2.1
  have r0 := r 0 (by omega)
  have r1 := r 1 (by omega)
  have r2 := r 2 (by omega)
  simp only [Nat.reduceAdd] at r0 r1 r2
  have hr : ∀ j : Nat, j < 3 → 0 ≤ up I 240 0 0 272 j ∧ up I 240 0 0 272 j ≤ 99 ∧ 0 ≤ up I 240 0 0 273 j ∧ up I 240 0 0 273 j ≤ 99 := by
    intro j hj
    have := r j hj
    simp only [Nat.reduceAdd] at this
    simp only [Option.bind_some, b01, up_c, up_j, up_s, Nat.reduceEqDiff, not_false_eq_true]
    omega
  have E1 := e_140 (d := 59) (I := I) (x1 := w)
  simp only [s_156, Option.bind_some, b01] at E1
  have E2 := e_263 (d := 59) (I := I) (x1 := w)
  simp only [s_158, Option.bind_some, b01] at E2
  by_cases hw : 0 ≤ w ∧ w ≤ 2
  · rw [if_neg (not_not_intro hw)] at E1 E2
    have F := e_96 (d := 58) (I := I) (x2 := w)
    rw [wr_id (z := I 48 1 - I 48 0) (by omega) (by omega), wr_id (z := I 49 1 - I 49 0) (by omega) (by omega), s_91 (by omega) (by omega) (by omega) (by omega)] at F
    simp only [Option.bind_some, s_294] at F
    rw [wr_id (z := I 48 1 - I 48 0) (by omega) (by omega), wr_id (z := I 49 2 - I 49 0) (by omega) (by omega), wr_id (z := I 48 2 - I 48 0) (by omega) (by omega), wr_id (z := I 49 1 - I 49 0) (by omega) (by omega),
      wr_id (z := I 48 2 - I 48 1) (by omega) (by omega), wr_id (z := I 49 2 - I 49 1) (by omega) (by omega),
      s_91 (by omega) (by omega) (by omega) (by omega)] at F
    simp only [Option.bind_some] at F
    rw [wr_id (z := I 48 0 - I 48 2) (by omega) (by omega), wr_id (z := I 49 0 - I 49 2) (by omega) (by omega), s_91 (by omega) (by omega) (by omega) (by omega)] at F
    simp only [Option.bind_some] at F
    rw [s_162] at E2
    simp only [Option.bind_some] at E2
    have t01 := s_262 (d := 56) (a := 0) (b := 1) (I := up I 240 0 0) (by omega) (by omega) hr
    have t12 := s_262 (d := 56) (a := 1) (b := 2) (I := up I 240 0 0) (by omega) (by omega) hr
    have t20 := s_262 (d := 56) (a := 2) (b := 0) (I := up I 240 0 0) (by omega) (by omega) hr
    have c0 : ((0 : Nat) : Int) = 0 := rfl
    have c1 : ((1 : Nat) : Int) = 1 := rfl
    have c2 : ((2 : Nat) : Int) = 2 := rfl
    simp only [c0, c1, c2] at t01 t12 t20
    simp only [t01, t12, t20, Option.bind_some] at E2
    simp only [Option.bind_some, b01, up_c, up_j, up_s, Nat.reduceEqDiff, not_false_eq_true, r0.1.1, r0.2.1, r1.1.1, r1.2.1, r2.1.1, r2.2.1] at E2
    rw [wr_id (z := I 48 1 - I 48 0) (by omega) (by omega), wr_id (z := I 49 2 - I 49 0) (by omega) (by omega), wr_id (z := I 48 2 - I 48 0) (by omega) (by omega), wr_id (z := I 49 1 - I 49 0) (by omega) (by omega)] at E2
    have n1 : (I 48 0 - I 48 1).natAbs = (I 48 1 - I 48 0).natAbs := by omega
    have n2 : (I 49 0 - I 49 1).natAbs = (I 49 1 - I 49 0).natAbs := by omega
    have n3 : (I 48 1 - I 48 2).natAbs = (I 48 2 - I 48 1).natAbs := by omega
    have n4 : (I 49 1 - I 49 2).natAbs = (I 49 2 - I 49 1).natAbs := by omega
    have n5 : (I 48 2 - I 48 0).natAbs = (I 48 0 - I 48 2).natAbs := by omega
    have n6 : (I 49 2 - I 49 0).natAbs = (I 49 0 - I 49 2).natAbs := by omega
    rw [n1, n2, n3, n4, n5, n6] at E2
    have g1 := gcd_le99 (x := I 48 1 - I 48 0) (y := I 49 1 - I 49 0) (by omega) (by omega) (by omega) (by omega)
    have g2 := gcd_le99 (x := I 48 2 - I 48 1) (y := I 49 2 - I 49 1) (by omega) (by omega) (by omega) (by omega)
    have g3 := gcd_le99 (x := I 48 0 - I 48 2) (y := I 49 0 - I 49 2) (by omega) (by omega) (by omega) (by omega)
    generalize Nat.gcd (I 48 1 - I 48 0).natAbs (I 49 1 - I 49 0).natAbs = G1 at *
    generalize Nat.gcd (I 48 2 - I 48 1).natAbs (I 49 2 - I 49 1).natAbs = G2 at *
    generalize Nat.gcd (I 48 0 - I 48 2).natAbs (I 49 0 - I 49 2).natAbs = G3 at *
    generalize wr (wr ((I 48 1 - I 48 0) * (I 49 2 - I 49 0)) - wr ((I 48 2 - I 48 0) * (I 49 1 - I 49 0))) = T at *
    generalize (if T < 0 then wr (-T) else T) = A at *
    have hz := dt_hz (A := A) (x := (G1 : Int)) (y := (G2 : Int)) (z := (G3 : Int)) (by omega) (by omega) (by omega) (by omega)
    rw [hz] at E2
    refine Pair_of h (I1 := I) (I2 := up I 240 0 0) (r := if w = 0 then wr (G1 + 1) else if w = 2 then A else if A = 0 then A else zdiv (wr (wr (A - wr (wr (G1 + G2) + G3)) + 2)) 2) ?_ ?_ Ag_0
    · rw [E1, F]
      clear E1 E2 F t01 t12 t20 hz
      by_cases hw0 : w = 0
      · simp only [if_pos hw0, Option.bind_some]
      · have hw1 : ¬ w = 1 → w = 2 := by omega
        by_cases hw2 : w = 2
        · simp only [if_neg hw0, if_pos hw2, Option.bind_some]
        · simp only [if_neg hw0, if_neg hw2]
          by_cases hA : A = 0
          · simp only [if_pos hA, Option.bind_some]
          · simp only [if_neg hA, Option.bind_some]
    · rw [E2]
      clear E1 E2 F t01 t12 t20 hz
      by_cases hw0 : w = 0
      · simp only [if_pos hw0, Option.bind_some]
      · have hw1 : ¬ w = 1 → w = 2 := by omega
        by_cases hw2 : w = 2
        · simp only [if_neg hw0, if_pos hw2, Option.bind_some]
        · simp only [if_neg hw0, if_neg hw2]
          by_cases hA : A = 0
          · simp only [if_pos hA, Option.bind_some]
          · simp only [if_neg hA, Option.bind_some]
  · rw [if_pos hw] at E1 E2
    exact Pair_of h E1 E2 Ag_0
