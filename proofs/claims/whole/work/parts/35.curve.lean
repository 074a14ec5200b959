/-! THE CURVE; SCRATCHING -/
theorem tl_in {d e : Nat} {I J : zI} {w0 w1 w2 : Option zV} : ∀ (m : Nat) (r : Int) (i : Nat), 1 ≤ r → r < 2 ^ m → r < 2147483648 → m + i ≤ 32 →
    ∃ b : Int, (b = 0 ∨ b = 1) ∧ zD (d + 1) 94 4 [w0, some (.inl r), some (.inl (i : Int))] [] I = some (b, I) ∧ zD (e + 1) 258 2 [w1, w2, some (.inl r)] [] J = some (b, J)
  | 0, r, i, h1, h2, _, _ => by simp at h2; omega
  | m + 1, r, i, h1, h2, h3, h4 => by
    have hp : (2 : Int) ^ (m + 1) = 2 * 2 ^ m := by rw [Int.pow_succ]; omega
    have z2 : zrem r 2 = r % 2 := zrem_nn (by omega) (by omega) (by omega) (by omega)
    have z4 : zrem r 4 = r % 4 := zrem_nn (by omega) (by omega) (by omega) (by omega)
    have d2 : zdiv r 2 = r / 2 := zdiv_nn (by omega) (by omega) (by omega) (by omega)
    by_cases hr : r % 2 = 0
    · obtain ⟨b, hb, f1, f2⟩ := tl_in (d := d) (e := e) (I := I) (J := J) (w0 := w0) (w1 := w1) (w2 := w2) m (r / 2) (i + 1) (by omega) (by omega) (by omega) (by omega)
      refine ⟨b, hb, ?_, ?_⟩
      · rw [← f1, e_94_4, if_pos (by omega), if_neg (by omega), z2, if_pos hr, d2, wr_id (by omega) (by omega)]; rfl
      · rw [← f2, e_258_2, z2, if_pos hr, d2]
    · refine ⟨if r % 4 = 1 then 1 else 0, by split <;> simp, ?_, ?_⟩
      · rw [e_94_4, if_pos (by omega), if_neg (by omega), z2, if_neg hr, z4]
        split <;> rfl
      · rw [e_258_2, z2, if_neg hr, z4]
        split <;> rfl
theorem tl_s {d e : Nat} {I J : zI} {n : Int} (h1 : 1 ≤ n) (h2 : n ≤ 4097) : ∃ b : Int, (b = 0 ∨ b = 1) ∧ cl (d + 1) 94 [.inl n] I = some (b, I) ∧ cl (e + 1) 258 [.inr (some 240), .inl n] J = some (b, J) := by
  obtain ⟨b, hb, f1, f2⟩ := tl_in (d := d) (e := e) (I := I) (J := J) (w0 := some (.inl n)) (w1 := some (.inr (some 240))) (w2 := some (.inl n)) 13 n 0 h1 (by omega) (by omega) (by omega)
  exact ⟨b, hb, by rw [e_94]; exact f1, by rw [e_258]; exact f2⟩
def zfx (f : Int) : Int := if f = 0 then 1 else if f = 2 then -1 else 0
def zfy (f : Int) : Int := if f = 1 then 1 else if f = 3 then -1 else 0
theorem cv_in {d e : Nat} {I J : zI} {n w : Int} {w1 : Option zV} (hn : n ≤ 4096) : ∀ (m s : Nat), 1 ≤ s → (s : Int) + m = n + 1 → ∀ x y f : Int, (f = 0 ∨ f = 1 ∨ f = 2 ∨ f = 3) →
    ∃ r : Int, zD (d + 2) 95 10 [some (.inl n), some (.inl w), some (.inl x), some (.inl y), some (.inl (zfx f)), some (.inl (zfy f)), some (.inl (s : Int))] [] I = some (r, I) ∧
      zD (e + 2) 259 56 [some (.inr (some 240)), w1, some (.inl n), some (.inl w), some (.inl x), some (.inl y), some (.inl f), some (.inl (s : Int))] [] J = some (r, J) := by
  intro m
  induction m with
  | zero =>
    intro s hs hm x y f hf
    refine ⟨if w = 0 then x else y, ?_, ?_⟩
    · rw [e_95_10, if_pos (by omega)]
      split <;> rfl
    · rw [e_259_56, if_pos (by omega)]
      split <;> rfl
  | succ m ih =>
    intro s hs hm x y f hf
    obtain ⟨b, hb, t1, t2⟩ := tl_s (d := d) (e := e) (I := I) (J := J) (n := (s : Int)) (by omega) (by omega)
    have ws : wr ((s : Int) + 1) = ((s + 1 : Nat) : Int) := wr_id (by omega) (by omega)
    have g1 : zrem (wr (0 + 1)) 4 = 1 := by decide
    have g2 : zrem (wr (1 + 1)) 4 = 2 := by decide
    have g3 : zrem (wr (2 + 1)) 4 = 3 := by decide
    have g4 : zrem (wr (3 + 1)) 4 = 0 := by decide
    have g5 : zrem (wr (0 + 3)) 4 = 3 := by decide
    have g6 : zrem (wr (1 + 3)) 4 = 0 := by decide
    have g7 : zrem (wr (2 + 3)) 4 = 1 := by decide
    have g8 : zrem (wr (3 + 3)) 4 = 2 := by decide
    have n0 : wr (-0) = 0 := by decide
    have n1 : wr (-1) = -1 := by decide
    have n2 : wr (- -1) = 1 := by decide
    have x0 : zfx 0 = 1 := rfl
    have x1 : zfx 1 = 0 := rfl
    have x2 : zfx 2 = -1 := rfl
    have x3 : zfx 3 = 0 := rfl
    have y0 : zfy 0 = 0 := rfl
    have y1 : zfy 1 = 1 := rfl
    have y2 : zfy 2 = 0 := rfl
    have y3 : zfy 3 = -1 := rfl
    rcases hf with rfl | rfl | rfl | rfl <;> rcases hb with rfl | rfl
    · obtain ⟨r, f1, f2⟩ := ih (s + 1) (by omega) (by omega) (wr (x + 1)) (wr (y + 0)) 3 (by omega)
      refine ⟨r, ?_, ?_⟩
      · rw [← f1, e_95_10, if_neg (by omega), t1]
        simp only [Option.bind_some, Int.reduceEq, if_true, if_false, ws, x0, x1, x2, x3, y0, y1, y2, y3, n0, n1, n2]
      · rw [← f2, e_259_56, if_neg (by omega), t2]
        simp only [Option.bind_some, Int.reduceEq, if_true, if_false, ws, g1, g2, g3, g4, g5, g6, g7, g8]
    · obtain ⟨r, f1, f2⟩ := ih (s + 1) (by omega) (by omega) (wr (x + 1)) (wr (y + 0)) 1 (by omega)
      refine ⟨r, ?_, ?_⟩
      · rw [← f1, e_95_10, if_neg (by omega), t1]
        simp only [Option.bind_some, Int.reduceEq, if_true, if_false, ws, x0, x1, x2, x3, y0, y1, y2, y3, n0, n1, n2]
      · rw [← f2, e_259_56, if_neg (by omega), t2]
        simp only [Option.bind_some, Int.reduceEq, if_true, if_false, ws, g1, g2, g3, g4, g5, g6, g7, g8]
    · obtain ⟨r, f1, f2⟩ := ih (s + 1) (by omega) (by omega) (wr (x + 0)) (wr (y + 1)) 0 (by omega)
      refine ⟨r, ?_, ?_⟩
      · rw [← f1, e_95_10, if_neg (by omega), t1]
        simp only [Option.bind_some, Int.reduceEq, if_true, if_false, ws, x0, x1, x2, x3, y0, y1, y2, y3, n0, n1, n2]
      · rw [← f2, e_259_56, if_neg (by omega), t2]
        simp only [Option.bind_some, Int.reduceEq, if_true, if_false, ws, g1, g2, g3, g4, g5, g6, g7, g8]
    · obtain ⟨r, f1, f2⟩ := ih (s + 1) (by omega) (by omega) (wr (x + 0)) (wr (y + 1)) 2 (by omega)
      refine ⟨r, ?_, ?_⟩
      · rw [← f1, e_95_10, if_neg (by omega), t1]
        simp only [Option.bind_some, Int.reduceEq, if_true, if_false, ws, x0, x1, x2, x3, y0, y1, y2, y3, n0, n1, n2]
      · rw [← f2, e_259_56, if_neg (by omega), t2]
        simp only [Option.bind_some, Int.reduceEq, if_true, if_false, ws, g1, g2, g3, g4, g5, g6, g7, g8]
    · obtain ⟨r, f1, f2⟩ := ih (s + 1) (by omega) (by omega) (wr (x + -1)) (wr (y + 0)) 1 (by omega)
      refine ⟨r, ?_, ?_⟩
      · rw [← f1, e_95_10, if_neg (by omega), t1]
        simp only [Option.bind_some, Int.reduceEq, if_true, if_false, ws, x0, x1, x2, x3, y0, y1, y2, y3, n0, n1, n2]
      · rw [← f2, e_259_56, if_neg (by omega), t2]
        simp only [Option.bind_some, Int.reduceEq, if_true, if_false, ws, g1, g2, g3, g4, g5, g6, g7, g8]
    · obtain ⟨r, f1, f2⟩ := ih (s + 1) (by omega) (by omega) (wr (x + -1)) (wr (y + 0)) 3 (by omega)
      refine ⟨r, ?_, ?_⟩
      · rw [← f1, e_95_10, if_neg (by omega), t1]
        simp only [Option.bind_some, Int.reduceEq, if_true, if_false, ws, x0, x1, x2, x3, y0, y1, y2, y3, n0, n1, n2]
      · rw [← f2, e_259_56, if_neg (by omega), t2]
        simp only [Option.bind_some, Int.reduceEq, if_true, if_false, ws, g1, g2, g3, g4, g5, g6, g7, g8]
    · obtain ⟨r, f1, f2⟩ := ih (s + 1) (by omega) (by omega) (wr (x + 0)) (wr (y + -1)) 2 (by omega)
      refine ⟨r, ?_, ?_⟩
      · rw [← f1, e_95_10, if_neg (by omega), t1]
        simp only [Option.bind_some, Int.reduceEq, if_true, if_false, ws, x0, x1, x2, x3, y0, y1, y2, y3, n0, n1, n2]
      · rw [← f2, e_259_56, if_neg (by omega), t2]
        simp only [Option.bind_some, Int.reduceEq, if_true, if_false, ws, g1, g2, g3, g4, g5, g6, g7, g8]
    · obtain ⟨r, f1, f2⟩ := ih (s + 1) (by omega) (by omega) (wr (x + 0)) (wr (y + -1)) 0 (by omega)
      refine ⟨r, ?_, ?_⟩
      · rw [← f1, e_95_10, if_neg (by omega), t1]
        simp only [Option.bind_some, Int.reduceEq, if_true, if_false, ws, x0, x1, x2, x3, y0, y1, y2, y3, n0, n1, n2]
      · rw [← f2, e_259_56, if_neg (by omega), t2]
        simp only [Option.bind_some, Int.reduceEq, if_true, if_false, ws, g1, g2, g3, g4, g5, g6, g7, g8]
theorem q_curve {I : zI} {k n w : Int} (h : Rl I) : Pair 137 259 [.inl k, .inl n, .inl w] I := by
  by_cases hk : 0 ≤ k ∧ k ≤ 12
  · have hz : ∀ j : Nat, j < 13 → zshl 1 (j : Int) = 2 ^ j ∧ (2 : Int) ^ j ≤ 4096 ∧ 1 ≤ (2 : Int) ^ j := by decide
    obtain ⟨z1, z2, z3⟩ := hz k.toNat (by omega)
    rw [show ((k.toNat : Nat) : Int) = k by omega] at z1
    have E1 := e_137 (d := 59) (I := I) (x1 := k) (x2 := n) (x3 := w)
    simp only [s_156, Option.bind_some, b01, z1, if_neg (not_not_intro hk)] at E1
    have E2 := e_259 (d := 59) (I := I) (x1 := k) (x2 := n) (x3 := w)
    simp only [s_158, Option.bind_some, b01, z1, if_neg (not_not_intro hk)] at E2
    generalize hT : (2 : Int) ^ k.toNat = T at *
    rw [wr_id (z := T - 1) (by omega) (by omega)] at E1 E2
    by_cases h2 : w = 2
    · subst h2
      rw [if_pos rfl] at E1
      by_cases hn : 1 ≤ n ∧ n ≤ T - 1
      · obtain ⟨b, hb, t1, t2⟩ := tl_s (d := 58) (e := 58) (I := I) (J := up I 240 0 0) (n := n) (by omega) (by omega)
        rw [if_neg (not_not_intro hn), t1] at E1
        rw [if_neg (by omega), if_neg (by omega), if_pos rfl, if_neg (not_not_intro hn), t2] at E2
        rcases hb with rfl | rfl
        · exact Pair_of h E1 E2 Ag_0
        · exact Pair_of h E1 E2 Ag_0
      · rw [if_pos hn] at E1
        refine Pair_of h (r := -10000) E1 ?_ Ag_0
        rw [E2]
        (repeat' split) <;> first | rfl | (exfalso; omega)
    · rw [if_neg h2] at E1
      by_cases hc : (0 ≤ w ∧ w ≤ 1) ∧ 0 ≤ n ∧ n ≤ T
      · rw [if_neg (not_not_intro hc.1), if_neg (not_not_intro hc.2)] at E1
        rw [if_neg (not_not_intro hc.2), if_neg (by omega), if_neg h2] at E2
        obtain ⟨r, f1, f2⟩ := cv_in (d := 57) (e := 58) (I := I) (J := up I 240 0 0) (n := n) (w := w) (w1 := some (.inl k)) (by omega) n.toNat 1 (by omega) (by omega) 0 0 0 (Or.inl rfl)
        refine Pair_of h (I1 := I) (r := r) ?_ (E2.trans f2) Ag_0
        rw [E1, e_95]
        exact congrArg (fun o => Option.bind o _) f1
      · refine Pair_of h (I1 := I) (I2 := up I 240 0 0) (r := -10000) ?_ ?_ Ag_0
        · rw [E1]
          by_cases h3 : 0 ≤ w ∧ w ≤ 1
          · rw [if_neg (not_not_intro h3), if_pos (by omega)]
          · rw [if_pos h3]
        · rw [E2]
          by_cases h3 : 0 ≤ n ∧ n ≤ T
          · rw [if_neg (not_not_intro h3), if_pos (by omega)]
          · rw [if_pos h3]
  · refine Pair_of h (I1 := I) (I2 := up I 240 0 0) (r := -10000) ?_ ?_ Ag_0
    · rw [e_137, s_156]
      simp only [Option.bind_some, b01]
      rw [if_pos hk]
    · rw [e_259, s_158]
      simp only [Option.bind_some, b01]
      rw [if_pos hk]
