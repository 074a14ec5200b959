/-! A PAGE -/
theorem sq_rg {x : Int} (h0 : 0 ≤ x) (h1 : x ≤ 60) : 0 ≤ x * x ∧ x * x ≤ 3600 :=
  ⟨Int.mul_nonneg h0 h0, Int.le_trans (Int.mul_le_mul_of_nonneg_left h1 h0) (by omega)⟩
/-- what a line costs: from its word on, and those behind it -/
def zco (n j : Nat) (x c : Int) : Int := c + (if j + 1 = n then 0 else x * x)
theorem pc_st {d n i j : Nat} {w x3 u : Int} {w0 : Option zV} {K : zI} (hn : n ≤ 10) (hj : j < n) (hi : i ≤ j) (hu : -1 ≤ u) (hw : w ≤ 60) (h1 : 1 ≤ K 45 j) (h2 : K 45 j ≤ 20) (hc0 : 0 ≤ K 232 (j + 1)) (hc1 : K 232 (j + 1) ≤ 100000) (hl0 : 0 ≤ K 233 (j + 1)) (hl1 : K 233 (j + 1) ≤ 100) (hf : u + 1 + K 45 j ≤ w) :
    zD (d + 1) 89 42 [w0, some (.inr (some 44)), some (.inl w), some (.inl x3), some (.inl (n : Int)), some (.inr (some 232)), some (.inr (some 233)), some (.inl (i : Int)), some (.inl u), some (.inl (j : Int))] [] K = zD (d + 1) 89 42 [w0, some (.inr (some 44)), some (.inl w), some (.inl x3), some (.inl (n : Int)), some (.inr (some 232)), some (.inr (some 233)), some (.inl (i : Int)), some (.inl (u + 1 + K 45 j)), some (.inl ((j + 1 : Nat) : Int))] [] (if zco n j (w - (u + 1 + K 45 j)) (K 232 (j + 1)) < K 232 i ∨ (zco n j (w - (u + 1 + K 45 j)) (K 232 (j + 1)) = K 232 i ∧ K 233 (j + 1) + 1 < K 233 i) then up (up K 232 i (zco n j (w - (u + 1 + K 45 j)) (K 232 (j + 1)))) 233 i (K 233 (j + 1) + 1) else K) := by
  have ij : 0 ≤ (j : Int) ∧ (j : Int) < 12 := by omega
  have ii : 0 ≤ (i : Int) ∧ (i : Int) < 13 := by omega
  have i1 : 0 ≤ ((j + 1 : Nat) : Int) ∧ ((j + 1 : Nat) : Int) < 13 := by omega
  have hx := sq_rg (x := w - (u + 1 + K 45 j)) (by omega) (by omega)
  rw [e_89_42, if_pos (by omega), if_pos ij]
  simp only [Int.toNat_natCast]
  rw [wr_id (z := 1 + K 45 j) (by omega) (by omega), wr_id (z := u + (1 + K 45 j)) (by omega) (by omega), show u + (1 + K 45 j) = u + 1 + K 45 j by omega, if_neg (by omega), wr_id (z := (j : Int) + 1) (by omega) (by omega), ← zk1c, wr_id (z := (n : Int) - 1) (by omega) (by omega), wr_id (z := w - (u + 1 + K 45 j)) (by omega) (by omega)]
  generalize hX : w - (u + 1 + K 45 j) = X at hx
  generalize hY : X * X = Y at hx
  unfold zco
  rw [hY, wr_id (z := Y) (by omega) (by omega)]
  simp only [if_pos i1, if_pos ii, Int.toNat_natCast]
  rw [wr_id (z := 1 + K 233 (j + 1)) (by omega) (by omega), show 1 + K 233 (j + 1) = K 233 (j + 1) + 1 by omega]
  by_cases e : j + 1 = n
  · rw [if_pos (show (j : Int) = (n : Int) - 1 by omega), wr_id (z := K 232 (j + 1) + 0) (by omega) (by omega)]
    simp only [if_pos e]
    by_cases q1 : K 232 (j + 1) + 0 < K 232 i
    · rw [if_pos q1, if_pos (Or.inl q1)]
    · rw [if_neg q1]
      by_cases q2 : K 232 (j + 1) + 0 = K 232 i
      · rw [if_pos q2]
        by_cases q3 : K 233 (j + 1) + 1 < K 233 i
        · rw [if_pos q3, if_pos (Or.inr ⟨q2, q3⟩)]
        · rw [if_neg q3, if_neg (by omega)]
      · rw [if_neg q2, if_neg (by omega)]
  · rw [if_neg (show ¬ (j : Int) = (n : Int) - 1 by omega), wr_id (z := K 232 (j + 1) + Y) (by omega) (by omega)]
    simp only [if_neg e]
    by_cases q1 : K 232 (j + 1) + Y < K 232 i
    · rw [if_pos q1, if_pos (Or.inl q1)]
    · rw [if_neg q1]
      by_cases q2 : K 232 (j + 1) + Y = K 232 i
      · rw [if_pos q2]
        by_cases q3 : K 233 (j + 1) + 1 < K 233 i
        · rw [if_pos q3, if_pos (Or.inr ⟨q2, q3⟩)]
        · rw [if_neg q3, if_neg (by omega)]
      · rw [if_neg q2, if_neg (by omega)]
theorem pm_st {e n i j : Nat} {w x2 u : Int} {J : zI} (hn : n ≤ 10) (h47 : J 240 47 = (n : Int)) (hj : j < n) (hi : i ≤ j) (hu : -1 ≤ u) (hw : w ≤ 60) (h1 : 1 ≤ J 266 j) (h2 : J 266 j ≤ 20) (hl : j + 1 = n → J 267 (j + 1) = 0) (hc0 : 0 ≤ J 267 (j + 1)) (hc1 : J 267 (j + 1) ≤ 100000) (hl0 : 0 ≤ J 268 (j + 1)) (hl1 : J 268 (j + 1) ≤ 100) (hf : u + 1 + J 266 j ≤ w) :
    zD (e + 1) 253 45 [some (.inr (some 240)), some (.inl w), some (.inl x2), some (.inl (i : Int)), some (.inl u), some (.inl (j : Int))] [] J = zD (e + 1) 253 45 [some (.inr (some 240)), some (.inl w), some (.inl x2), some (.inl (i : Int)), some (.inl (u + 1 + J 266 j)), some (.inl ((j + 1 : Nat) : Int))] [] (if zco n j (w - (u + 1 + J 266 j)) (J 267 (j + 1)) < J 267 i ∨ (zco n j (w - (u + 1 + J 266 j)) (J 267 (j + 1)) = J 267 i ∧ J 268 (j + 1) + 1 < J 268 i) then up (up J 267 i (zco n j (w - (u + 1 + J 266 j)) (J 267 (j + 1)))) 268 i (J 268 (j + 1) + 1) else J) := by
  have ij : 0 ≤ (j : Int) ∧ (j : Int) < 10 := by omega
  have ii : 0 ≤ (i : Int) ∧ (i : Int) < 11 := by omega
  have i1 : 0 ≤ ((j + 1 : Nat) : Int) ∧ ((j + 1 : Nat) : Int) < 11 := by omega
  have hx := sq_rg (x := w - (u + 1 + J 266 j)) (by omega) (by omega)
  rw [e_253_45, h47, if_pos (by omega), if_pos ij]
  simp only [Int.toNat_natCast]
  rw [wr_id (z := u + 1) (by omega) (by omega), wr_id (z := u + 1 + J 266 j) (by omega) (by omega), if_neg (by omega), wr_id (z := (j : Int) + 1) (by omega) (by omega), ← zk1c, wr_id (z := (n : Int) - 1) (by omega) (by omega), wr_id (z := w - (u + 1 + J 266 j)) (by omega) (by omega)]
  generalize hX : w - (u + 1 + J 266 j) = X at hx
  generalize hY : X * X = Y at hx
  unfold zco
  rw [hY, wr_id (z := Y) (by omega) (by omega)]
  simp only [if_pos i1, if_pos ii, Int.toNat_natCast]
  rw [wr_id (z := J 268 (j + 1) + 1) (by omega) (by omega)]
  by_cases e : j + 1 = n
  · have hl := hl e
    rw [if_pos (show (j : Int) = (n : Int) - 1 by omega)]
    simp only [if_pos e, hl, Int.add_zero]
    by_cases q1 : J 267 i < 0
    · rw [if_pos q1, if_neg (by omega)]
    · rw [if_neg q1]
      by_cases q2 : 0 = J 267 i
      · rw [if_pos q2]
        by_cases q3 : J 268 (j + 1) + 1 < J 268 i
        · rw [if_pos q3, if_pos (Or.inr ⟨q2, q3⟩)]
        · rw [if_neg q3, if_neg (by omega)]
      · rw [if_neg q2, if_pos (by omega)]
  · rw [if_neg (show ¬ (j : Int) = (n : Int) - 1 by omega), Int.add_comm Y, wr_id (z := J 267 (j + 1) + Y) (by omega) (by omega)]
    simp only [if_neg e]
    by_cases q1 : J 267 i < J 267 (j + 1) + Y
    · rw [if_pos q1, if_neg (by omega)]
    · rw [if_neg q1]
      by_cases q2 : J 267 (j + 1) + Y = J 267 i
      · rw [if_pos q2]
        by_cases q3 : J 268 (j + 1) + 1 < J 268 i
        · rw [if_pos q3, if_pos (Or.inr ⟨q2, q3⟩)]
        · rw [if_neg q3, if_neg (by omega)]
      · rw [if_neg q2, if_pos (by omega)]
/-- the places from i on, on both sides -/
def RPg (K J : zI) (n i : Nat) : Prop := ∀ j, i ≤ j → j ≤ n → K 232 j = J 267 j ∧ 0 ≤ K 232 j ∧ K 232 j ≤ 3600 * ((n : Int) - j) ∧ K 233 j = J 268 j ∧ 0 ≤ K 233 j ∧ K 233 j ≤ (n : Int) - j
/-- the words -/
def RWd (K J : zI) (n : Nat) : Prop := J 240 47 = (n : Int) ∧ ∀ j, j < n → J 266 j = K 45 j ∧ 1 ≤ K 45 j ∧ K 45 j ≤ 20
theorem pg_in {d e n i : Nat} {w x3 : Int} {w0 : Option zV} (hn : n ≤ 10) (hw : w ≤ 60) : ∀ (m j : Nat) (u : Int) (K J : zI), j + m = n → i < j → (-1 ≤ u ∧ u ≤ 60) → RWd K J n → RPg K J n i → J 267 n = 0 →
    ∃ K' J' : zI, RPg K' J' n i ∧ (∀ c j, c ≠ 232 → c ≠ 233 → K' c j = K c j) ∧ (∀ c j, c ≠ 267 → c ≠ 268 → J' c j = J c j) ∧ J' 267 n = 0 ∧
      zD (d + 1) 89 42 [w0, some (.inr (some 44)), some (.inl w), some (.inl x3), some (.inl (n : Int)), some (.inr (some 232)), some (.inr (some 233)), some (.inl (i : Int)), some (.inl u), some (.inl (j : Int))] [] K = zD (d + 1) 89 28 [w0, some (.inr (some 44)), some (.inl w), some (.inl x3), some (.inl (n : Int)), some (.inr (some 232)), some (.inr (some 233)), some (.inl ((i : Int) - 1))] [] K' ∧
      zD (e + 1) 253 45 [some (.inr (some 240)), some (.inl w), some (.inl x3), some (.inl (i : Int)), some (.inl u), some (.inl (j : Int))] [] J = zD (e + 1) 253 34 [some (.inr (some 240)), some (.inl w), some (.inl x3), some (.inl ((i : Int) - 1))] [] J' := by
  intro m
  induction m with
  | zero =>
    intro j u K J hj hi hu hW hR h0
    refine ⟨K, J, hR, fun _ _ _ _ => rfl, fun _ _ _ _ => rfl, h0, ?_, ?_⟩
    · rw [e_89_42, if_neg (by omega), wr_id (by omega) (by omega)]
      rfl
    · rw [e_253_45, hW.1, if_neg (by omega), wr_id (by omega) (by omega)]
      rfl
  | succ m ih =>
    intro j u K J hj hi hu hW hR h0
    obtain ⟨w1, w2, w3⟩ := hW.2 j (by omega)
    obtain ⟨r1, r2, r3, r4, r5, r6⟩ := hR (j + 1) (by omega) (by omega)
    obtain ⟨s1, s2, s3, s4, s5, s6⟩ := hR i (Nat.le_refl i) (by omega)
    by_cases hf : u + 1 + K 45 j ≤ w
    · have E1 := pc_st (d := d) (x3 := x3) (w0 := w0) (K := K) (i := i) hn (show j < n by omega) (by omega) hu.1 hw w2 w3 r2 (by omega) r5 (by omega) hf
      have E2 := pm_st (e := e) (x2 := x3) (J := J) (i := i) hn hW.1 (show j < n by omega) (by omega) hu.1 hw (by omega) (by omega) (fun q => by rw [q]; exact h0) (by omega) (by omega) (by omega) (by omega) (by omega)
      rw [← r1, ← r4, ← s1, ← s4, w1] at E2
      have hz := sq_rg (x := w - (u + 1 + K 45 j)) (by omega) (by omega)
      have hz2 : 0 ≤ zco n j (w - (u + 1 + K 45 j)) (K 232 (j + 1)) ∧ zco n j (w - (u + 1 + K 45 j)) (K 232 (j + 1)) ≤ 3600 * ((n : Int) - i) := by
        unfold zco
        split <;> omega
      generalize zco n j (w - (u + 1 + K 45 j)) (K 232 (j + 1)) = Z at E1 E2 hz2
      by_cases hq : Z < K 232 i ∨ (Z = K 232 i ∧ K 233 (j + 1) + 1 < K 233 i)
      · rw [if_pos hq] at E1 E2
        obtain ⟨K', J', a1, a2, a3, a4, a5, a6⟩ := ih (j + 1) (u + 1 + K 45 j) (up (up K 232 i Z) 233 i (K 233 (j + 1) + 1)) (up (up J 267 i Z) 268 i (K 233 (j + 1) + 1)) (by omega) (by omega) (by omega) ⟨by rw [up_c (by decide), up_c (by decide)]; exact hW.1, fun p hp => by
          rw [up_c (by decide), up_c (by decide), up_c (by decide), up_c (by decide)]
          exact hW.2 p hp⟩ (fun p hp hp2 => by
          by_cases e : p = i
          · subst e
            simp (disch := omega) only [up_c, up_j, up_s, true_and]
            omega
          · simp (disch := omega) only [up_c, up_j, up_s]
            exact hR p hp hp2) (by rw [up_c (by decide), up_j (by omega)]; exact h0)
        exact ⟨K', J', a1, fun c p q1 q2 => by rw [a2 c p q1 q2, up_c q2, up_c q1], fun c p q1 q2 => by rw [a3 c p q1 q2, up_c q2, up_c q1], a4, E1.trans a5, E2.trans a6⟩
      · rw [if_neg hq] at E1 E2
        obtain ⟨K', J', a1, a2, a3, a4, a5, a6⟩ := ih (j + 1) (u + 1 + K 45 j) K J (by omega) (by omega) (by omega) hW hR h0
        exact ⟨K', J', a1, a2, a3, a4, E1.trans a5, E2.trans a6⟩
    · -- the line is full
      refine ⟨K, J, hR, fun _ _ _ _ => rfl, fun _ _ _ _ => rfl, h0, ?_, ?_⟩
      · rw [e_89_42, if_pos (by omega), if_pos (by omega), Int.toNat_natCast, wr_id (z := 1 + K 45 j) (by omega) (by omega), wr_id (z := u + (1 + K 45 j)) (by omega) (by omega), if_pos (by omega), wr_id (z := (i : Int) + -1) (by omega) (by omega)]
        rfl
      · rw [e_253_45, hW.1, if_pos (by omega), if_pos (by omega), Int.toNat_natCast, w1, wr_id (z := u + 1) (by omega) (by omega), wr_id (z := u + 1 + K 45 j) (by omega) (by omega), if_pos (by omega), wr_id (z := (i : Int) + -1) (by omega) (by omega)]
        rfl
theorem pg_row {d e n i : Nat} {w x3 : Int} {w0 : Option zV} {K J : zI} (hn : n ≤ 10) (hw : 20 ≤ w ∧ w ≤ 60) (hi : i < n) (hW : RWd K J n) (hR : RPg K J n (i + 1)) (h0 : J 267 n = 0) :
    ∃ K' J' : zI, RPg K' J' n i ∧ (∀ c j, c ≠ 232 → c ≠ 233 → K' c j = K c j) ∧ (∀ c j, c ≠ 267 → c ≠ 268 → J' c j = J c j) ∧ J' 267 n = 0 ∧
      zD (d + 1) 89 28 [w0, some (.inr (some 44)), some (.inl w), some (.inl x3), some (.inl (n : Int)), some (.inr (some 232)), some (.inr (some 233)), some (.inl (i : Int))] [] K = zD (d + 1) 89 28 [w0, some (.inr (some 44)), some (.inl w), some (.inl x3), some (.inl (n : Int)), some (.inr (some 232)), some (.inr (some 233)), some (.inl ((i : Int) - 1))] [] K' ∧
      zD (e + 1) 253 34 [some (.inr (some 240)), some (.inl w), some (.inl x3), some (.inl (i : Int))] [] J = zD (e + 1) 253 34 [some (.inr (some 240)), some (.inl w), some (.inl x3), some (.inl ((i : Int) - 1))] [] J' := by
  obtain ⟨w1, w2, w3⟩ := hW.2 i hi
  obtain ⟨r1, r2, r3, r4, r5, r6⟩ := hR (i + 1) (Nat.le_refl _) (by omega)
  have E1 := pc_st (d := d) (x3 := x3) (w0 := w0) (K := up (up K 232 i 1000000) 233 i 0) (i := i) (j := i) (u := -1) (w := w) hn hi (Nat.le_refl i) (by omega) hw.2 (by rw [up_c (by decide), up_c (by decide)]; exact w2) (by rw [up_c (by decide), up_c (by decide)]; exact w3) (by rw [up_c (by decide), up_j (by omega)]; exact r2) (by rw [up_c (by decide), up_j (by omega)]; omega) (by rw [up_j (by omega), up_c (by decide)]; exact r5) (by rw [up_j (by omega), up_c (by decide)]; omega) (by rw [up_c (by decide), up_c (by decide)]; omega)
  have E2 := pm_st (e := e) (x2 := x3) (J := up J 267 i 100000000) (i := i) (j := i) (u := -1) (w := w) hn (by rw [up_c (by decide)]; exact hW.1) hi (Nat.le_refl i) (by omega) hw.2 (by rw [up_c (by decide)]; omega) (by rw [up_c (by decide)]; omega) (fun q => by rw [up_j (by omega), q]; exact h0) (by rw [up_j (by omega)]; omega) (by rw [up_j (by omega)]; omega) (by rw [up_c (by decide)]; omega) (by rw [up_c (by decide)]; omega) (by rw [up_c (by decide)]; omega)
  simp (disch := omega) only [up_c, up_j, up_s] at E1 E2
  rw [← r1, ← r4, w1] at E2
  have hz := sq_rg (x := w - (-1 + 1 + K 45 i)) (by omega) (by omega)
  have hz2 : 0 ≤ zco n i (w - (-1 + 1 + K 45 i)) (K 232 (i + 1)) ∧ zco n i (w - (-1 + 1 + K 45 i)) (K 232 (i + 1)) ≤ 3600 * ((n : Int) - i) := by
    unfold zco
    split <;> omega
  generalize zco n i (w - (-1 + 1 + K 45 i)) (K 232 (i + 1)) = Z at E1 E2 hz2
  rw [if_pos (Or.inl (by omega))] at E1 E2
  obtain ⟨K', J', a1, a2, a3, a4, a5, a6⟩ := pg_in (d := d) (e := e) (i := i) (x3 := x3) (w0 := w0) hn hw.2 (n - (i + 1)) (i + 1) (-1 + 1 + K 45 i) (up (up (up (up K 232 i 1000000) 233 i 0) 232 i Z) 233 i (K 233 (i + 1) + 1)) (up (up (up J 267 i 100000000) 267 i Z) 268 i (K 233 (i + 1) + 1)) (by omega) (by omega) (by omega) ⟨by rw [up_c (by decide), up_c (by decide), up_c (by decide)]; exact hW.1, fun p hp => by
    rw [up_c (by decide), up_c (by decide), up_c (by decide), up_c (by decide), up_c (by decide), up_c (by decide), up_c (by decide)]
    exact hW.2 p hp⟩ (fun p hp hp2 => by
    by_cases e : p = i
    · subst e
      simp (disch := omega) only [up_c, up_j, up_s, true_and]
      omega
    · simp (disch := omega) only [up_c, up_j, up_s]
      exact hR p (by omega) hp2) (by rw [up_c (by decide), up_j (by omega), up_j (by omega)]; exact h0)
  refine ⟨K', J', a1, fun c p q1 q2 => by rw [a2 c p q1 q2, up_c q2, up_c q1, up_c q2, up_c q1], fun c p q1 q2 => by rw [a3 c p q1 q2, up_c q2, up_c q1, up_c q1], a4, ?_, ?_⟩
  · rw [e_89_28, if_neg (by omega), if_pos (by omega), if_pos (by omega), Int.toNat_natCast]
    exact E1.trans a5
  · rw [e_253_34, if_neg (by omega), if_pos (by omega), Int.toNat_natCast]
    exact E2.trans a6
theorem pg_all {d e n : Nat} {w x3 : Int} {w0 : Option zV} (hn : n ≤ 10) (hw : 20 ≤ w ∧ w ≤ 60) : ∀ (i : Nat) (K J : zI), i ≤ n → RWd K J n → RPg K J n i → J 267 n = 0 →
    ∃ (r : Int) (K' J' : zI), (∀ c j, c ≠ 232 → c ≠ 233 → K' c j = K c j) ∧ (∀ c j, c ≠ 267 → c ≠ 268 → J' c j = J c j) ∧
      zD (d + 1) 89 28 [w0, some (.inr (some 44)), some (.inl w), some (.inl x3), some (.inl (n : Int)), some (.inr (some 232)), some (.inr (some 233)), some (.inl ((i : Int) - 1))] [] K = some (r, K') ∧
      zD (e + 1) 253 34 [some (.inr (some 240)), some (.inl w), some (.inl x3), some (.inl ((i : Int) - 1))] [] J = some (r, J') := by
  intro i
  induction i with
  | zero =>
    intro K J hi hW hR h0
    obtain ⟨r1, _, _, r4, _, _⟩ := hR 0 (Nat.le_refl _) (by omega)
    refine ⟨if x3 = 0 then K 232 0 else K 233 0, K, J, fun _ _ _ _ => rfl, fun _ _ _ _ => rfl, ?_, ?_⟩
    · rw [e_89_28, if_pos (by omega)]
      split <;> rfl
    · rw [e_253_34, if_pos (by omega), ← r1, ← r4]
      split <;> rfl
  | succ i ih =>
    intro K J hi hW hR h0
    obtain ⟨K1, J1, a1, a2, a3, a4, a5, a6⟩ := pg_row (d := d) (e := e) (x3 := x3) (w0 := w0) hn hw (i := i) (by omega) hW hR h0
    obtain ⟨r, K', J', b1, b2, b3, b4⟩ := ih K1 J1 (by omega) ⟨by rw [a3 240 47 (by decide) (by decide)]; exact hW.1, fun p hp => by rw [a2 45 p (by decide) (by decide), a3 266 p (by decide) (by decide)]; exact hW.2 p hp⟩ a1 a4
    have e : ((i + 1 : Nat) : Int) - 1 = (i : Int) := by omega
    rw [e]
    exact ⟨r, K', J', fun c p q1 q2 => by rw [b1 c p q1 q2, a2 c p q1 q2], fun c p q1 q2 => by rw [b2 c p q1 q2, a3 c p q1 q2], a5.trans b3, a6.trans b4⟩
theorem q_page {I : zI} {w x : Int} (h : Rl I) : Pair 132 253 [.inl w, .inl x] I := by
  have E1 := e_132 (d := 59) (I := I) (x1 := w) (x2 := x)
  simp only [s_156, Option.bind_some, b01] at E1
  have E2 := fun J : zI => e_253 (d := 59) (I := J) (x1 := w) (x2 := x)
  simp only [s_158, Option.bind_some, b01] at E2
  obtain ⟨r1, r2, r3, r4⟩ := h.1.2.2.2.2.2.2.1
  by_cases hc : (20 ≤ w ∧ w ≤ 60) ∧ 0 ≤ x ∧ x ≤ 1
  · rw [if_neg (not_not_intro hc.1), if_neg (not_not_intro hc.2)] at E1
    refine Pair_two fun J hJ => ?_
    have E2 := E2 J
    rw [if_neg (not_not_intro hc.1), if_neg (not_not_intro hc.2)] at E2
    obtain ⟨n, hn⟩ : ∃ n : Nat, I 44 2 = n := ⟨(I 44 2).toNat, by omega⟩
    have j47 : up J 240 0 0 240 47 = (n : Int) := by rw [up_j (by decide), hJ 240 47 (by decide), r3, hn]
    rw [j47, if_pos (by omega), if_pos (by omega), Int.toNat_natCast, wr_id (z := (n : Int) - 1) (by omega) (by omega)] at E2
    have hA : ∀ K' J' : zI, (∀ c j, c ≠ 232 → c ≠ 233 → K' c j = I c j) → (∀ c j, c ≠ 267 → c ≠ 268 → ¬ (c = 240 ∧ j = 0) → J' c j = J c j) → Rl (mg K' J') := by
      intro K' J' k1 k2
      refine Rl_scr (fun c j q1 q2 => ?_) h
      have nn : ∀ x, scrC.contains x = true → c ≠ x := fun x hx e => by rw [e, hx] at q1; cases q1
      have p0 : ¬ (c = 240 ∧ j = 0) := fun e => by rw [e.1, e.2] at q2; revert q2; decide
      by_cases hc : c < 240
      · rw [mg_l hc]
        exact k1 c j (nn 232 (by decide)) (nn 233 (by decide))
      · rw [mg_r (by omega), k2 c j (nn 267 (by decide)) (nn 268 (by decide)) p0]
        exact hJ c j (by omega)
    by_cases h0 : n = 0
    · subst h0
      rw [e_89, if_neg (by omega), Option.bind_some] at E1
      rw [e_253_34, if_pos (by decide)] at E2
      refine ⟨0, I, up (up (up J 240 0 0) 267 0 0) 268 0 0, E1, ?_, fun _ _ _ => rfl, fun c j hc => by rw [up_c (by omega), up_c (by omega), up_c (by omega)], hA _ _ (fun _ _ _ _ => rfl) (fun c j q1 q2 q3 => by rw [up_c q2, up_c q1]; exact if_neg q3)⟩
      rw [E2]
      split
      · rw [up_c (by decide), up_s]
      · rw [up_s]
    · have e89 : cl 59 89 [.inr (some 231), .inr (some 44), .inl w, .inl x] I = zD 59 89 28 [some (.inr (some 231)), some (.inr (some 44)), some (.inl w), some (.inl x), some (.inl (n : Int)), some (.inr (some 232)), some (.inr (some 233)), some (.inl ((n : Int) - 1))] [] (up (up I 232 n 0) 233 n 0) := by
        rw [e_89, hn, if_pos (by omega), if_neg (by omega), if_pos (by omega), if_pos (by omega), Int.toNat_natCast, wr_id (z := (n : Int) - 1) (by omega) (by omega)]
      rw [e89] at E1
      obtain ⟨r, K', J', b1, b2, b3, b4⟩ := pg_all (d := 58) (e := 59) (x3 := x) (w0 := some (.inr (some 231))) (n := n) (by omega) hc.1 n (up (up I 232 n 0) 233 n 0) (up (up (up J 240 0 0) 267 n 0) 268 n 0) (Nat.le_refl n) ⟨by rw [up_c (by decide), up_c (by decide)]; exact j47, fun p hp => by
        rw [up_c (by decide), up_c (by decide), up_c (by decide), up_c (by decide), up_c (by decide), hJ 266 p (by decide)]
        exact r4 p (by omega)⟩ (fun p hp hp2 => by
        have e : p = n := by omega
        subst e
        simp (disch := omega) only [up_c, up_j, up_s, true_and]
        omega) (by rw [up_c (by decide), up_s])
      have E1 := E1.trans (congrArg (fun o => Option.bind o _) b3)
      exact ⟨r, K', J', E1, E2.trans b4, fun c j hc => by rw [b1 c j (by omega) (by omega), up_c (by omega), up_c (by omega)], fun c j hc => by rw [b2 c j (by omega) (by omega), up_c (by omega), up_c (by omega), up_c (by omega)], hA _ _ (fun c j q1 q2 => by rw [b1 c j q1 q2, up_c q2, up_c q1]) (fun c j q1 q2 q3 => by rw [b2 c j q1 q2, up_c q2, up_c q1]; exact if_neg q3)⟩
  · refine Pair_of h (I1 := I) (I2 := up I 240 0 0) (r := -1) ?_ ?_ Ag_0
    · rw [E1]
      (repeat' split) <;> first | rfl | (exfalso; omega)
    · rw [E2]
      by_cases c1 : 20 ≤ w ∧ w ≤ 60
      · rw [if_neg (not_not_intro c1), if_pos (fun q => hc ⟨c1, q⟩)]
      · rw [if_pos c1]
