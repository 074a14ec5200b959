/-! THE VOYAGE -/
theorem ln_in {d e : Nat} {I J : zI} {w s L : Int} {i : Nat} (hi : i < 10) (hs : s = 1 ∨ s = -1) (hL : (if J 277 i < 0 then wr (-(J 277 i)) else J 277 i) = L) (hL1 : L ≤ 179) : ∀ (m : Nat), (m : Int) ≤ L → ∀ a b c : Int, -180 ≤ a → a ≤ 179 → -2147483648 ≤ c → c < 2147483648 →
    ∃ a' b' c' : Int, (-180 ≤ a' ∧ a' ≤ 179 ∧ -2147483648 ≤ c' ∧ c' < 2147483648) ∧
      zD (d + 1) 103 27 [some (.inr (some 54)), some (.inl w), some (.inl a), some (.inl b), some (.inl c), some (.inl (i : Int)), some (.inl s), some (.inl (m : Int))] [] I = zD (d + 1) 103 8 [some (.inr (some 54)), some (.inl w), some (.inl a'), some (.inl b'), some (.inl c'), some (.inl ((i + 1 : Nat) : Int))] [] I ∧
      zD (e + 2) 273 34 [some (.inr (some 240)), some (.inl w), some (.inl a), some (.inl b), some (.inl c), some (.inl (i : Int)), some (.inl s), some (.inl (L - m))] [] J = zD (e + 2) 273 19 [some (.inr (some 240)), some (.inl w), some (.inl a'), some (.inl b'), some (.inl c'), some (.inl ((i + 1 : Nat) : Int))] [] J := by
  intro m
  induction m with
  | zero =>
    intro hm a b c h1 h2 h3 h4
    refine ⟨a, b, c, ⟨h1, h2, h3, h4⟩, ?_, ?_⟩
    · rw [e_103_27, if_neg (by omega), wr_id (by omega) (by omega)]; rfl
    · rw [e_273_34, if_pos (by omega), s_162, Option.bind_some, Int.toNat_natCast, hL, if_neg (by omega), wr_id (z := (i : Int) + 1) (by omega) (by omega)]; rfl
  | succ m ih =>
    intro hm a b c h1 h2 h3 h4
    have wa : wr (a + s) = a + s := wr_id (by omega) (by omega)
    have wm : wr (((m + 1 : Nat) : Int) + -1) = m := by rw [wr_id (by omega) (by omega)]; omega
    have wl : wr (L - ((m + 1 : Nat) : Int) + 1) = L - m := by rw [wr_id (by omega) (by omega)]; omega
    have wc : wr (c + 0) = c := by rw [Int.add_zero]; exact wr_id h3 h4
    have wb : wr (b + -1) = wr (b - 1) := rfl
    have rc1 := wr_lo (c + 1)
    have rc2 := wr_hi (c + 1)
    by_cases k1 : a + s = 180
    · obtain ⟨a', b', c', hb, e1, e2⟩ := ih (by omega) (-180) (wr (b + 1)) c (by omega) (by omega) h3 h4
      refine ⟨a', b', c', hb, ?_, ?_⟩
      · rw [← e1, e_103_27, if_pos (by omega), wa, if_neg (by omega), e_103_46, if_neg (by omega), wc, wm]
      · rw [← e2, e_273_34, if_pos (by omega), s_162, Option.bind_some, Int.toNat_natCast, hL, if_pos (by omega), wa, if_pos k1, if_neg (by omega), e_273_60, if_pos k1, wl]
    · by_cases k2 : a + s = -181
      · obtain ⟨a', b', c', hb, e1, e2⟩ := ih (by omega) 179 (wr (b - 1)) c (by omega) (by omega) h3 h4
        refine ⟨a', b', c', hb, ?_, ?_⟩
        · rw [← e1, e_103_27, if_pos (by omega), wa, if_pos (by omega), if_pos (by omega), e_103_46, if_neg (by omega), wc, wm, wb]
        · rw [← e2, e_273_34, if_pos (by omega), s_162, Option.bind_some, Int.toNat_natCast, hL, if_pos (by omega), wa, if_neg k1, if_pos k2, e_273_60, if_neg k1, if_pos k2, wl]
      · by_cases k3 : a + s = 0
        · obtain ⟨a', b', c', hb, e1, e2⟩ := ih (by omega) (a + s) b (wr (c + 1)) (by omega) (by omega) rc1 rc2
          refine ⟨a', b', c', hb, ?_, ?_⟩
          · rw [← e1, e_103_27, if_pos (by omega), wa, if_pos (by omega), if_neg (by omega), e_103_46, if_pos k3, wm]
          · rw [← e2, e_273_34, if_pos (by omega), s_162, Option.bind_some, Int.toNat_natCast, hL, if_pos (by omega), wa, if_neg k1, if_neg k2, e_273_60, if_neg k1, if_neg k2, if_pos k3, wl]
        · obtain ⟨a', b', c', hb, e1, e2⟩ := ih (by omega) (a + s) b c (by omega) (by omega) h3 h4
          refine ⟨a', b', c', hb, ?_, ?_⟩
          · rw [← e1, e_103_27, if_pos (by omega), wa, if_pos (by omega), if_neg (by omega), e_103_46, if_neg k3, wc, wm]
          · rw [← e2, e_273_34, if_pos (by omega), s_162, Option.bind_some, Int.toNat_natCast, hL, if_pos (by omega), wa, if_neg k1, if_neg k2, e_273_60, if_neg k1, if_neg k2, if_neg k3, wl]
theorem ln_out {d e : Nat} {I J : zI} {w : Int} (n : Nat) (hn : I 54 2 = n) (hn2 : n ≤ 10) (hJ : J 240 64 = n) (hv : ∀ j : Nat, j < n → J 277 j = I 55 j ∧ -179 ≤ I 55 j ∧ I 55 j ≤ 179) : ∀ (m i : Nat), i + m = n → ∀ a b c : Int, -180 ≤ a → a ≤ 179 → -2147483648 ≤ c → c < 2147483648 →
    ∃ r : Int, zD (d + 2) 103 8 [some (.inr (some 54)), some (.inl w), some (.inl a), some (.inl b), some (.inl c), some (.inl (i : Int))] [] I = some (r, I) ∧
      zD (e + 2) 273 19 [some (.inr (some 240)), some (.inl w), some (.inl a), some (.inl b), some (.inl c), some (.inl (i : Int))] [] J = some (r, J) := by
  intro m
  induction m with
  | zero =>
    intro i hi a b c h1 h2 h3 h4
    refine ⟨if w = 0 then a else if w = 1 then b else c, ?_, ?_⟩
    · rw [e_103_8, if_neg (by omega)]
      (repeat' split) <;> rfl
    · rw [e_273_19, if_neg (by omega)]
      (repeat' split) <;> rfl
  | succ m ih =>
    intro i hi a b c h1 h2 h3 h4
    obtain ⟨v1, v2, v3⟩ := hv i (by omega)
    have hc : 0 ≤ (i : Int) ∧ (i : Int) < 12 := by omega
    have hab : (if I 55 i < 0 then wr (-(I 55 i)) else I 55 i) = ((I 55 i).natAbs : Int) := by
      split
      · rw [wr_id (by omega) (by omega)]; omega
      · omega
    have hab2 : (if J 277 i < 0 then wr (-(J 277 i)) else J 277 i) = ((I 55 i).natAbs : Int) := by rw [v1]; exact hab
    by_cases hp : 0 < I 55 i
    · obtain ⟨a', b', c', hb, e1, e2⟩ := ln_in (d := d + 1) (e := e) (I := I) (J := J) (w := w) (s := 1) (i := i) (by omega) (Or.inl rfl) hab2 (by omega) (I 55 i).natAbs (Int.le_refl _) a b c h1 h2 h3 h4
      obtain ⟨r, f1, f2⟩ := ih (i + 1) (by omega) a' b' c' hb.1 hb.2.1 hb.2.2.1 hb.2.2.2
      refine ⟨r, ?_, ?_⟩
      · rw [← f1, ← e1, e_103_8, if_pos (by omega)]
        simp only [if_pos hc, Int.toNat_natCast, if_pos hp, s_294, Option.bind_some, hab]
      · rw [Int.sub_self] at e2
        rw [← f2]
        have e3 := e_273_19 (d := e + 1) (I := J) (x1 := w) (x2 := a) (x3 := b) (x4 := c) (x5 := (i : Int))
        rw [if_pos (by omega), if_pos (by omega), Int.toNat_natCast, v1, if_pos hp] at e3
        rw [e3]
        exact e2
    · obtain ⟨a', b', c', hb, e1, e2⟩ := ln_in (d := d + 1) (e := e) (I := I) (J := J) (w := w) (s := -1) (i := i) (by omega) (Or.inr rfl) hab2 (by omega) (I 55 i).natAbs (Int.le_refl _) a b c h1 h2 h3 h4
      obtain ⟨r, f1, f2⟩ := ih (i + 1) (by omega) a' b' c' hb.1 hb.2.1 hb.2.2.1 hb.2.2.2
      refine ⟨r, ?_, ?_⟩
      · rw [← f1, ← e1, e_103_8, if_pos (by omega)]
        simp only [if_pos hc, Int.toNat_natCast, if_neg hp, s_294, Option.bind_some, hab]
      · rw [Int.sub_self] at e2
        rw [← f2]
        have e3 := e_273_19 (d := e + 1) (I := J) (x1 := w) (x2 := a) (x3 := b) (x4 := c) (x5 := (i : Int))
        rw [if_pos (by omega), if_pos (by omega), Int.toNat_natCast, v1, if_neg hp] at e3
        rw [e3]
        exact e2
theorem q_line {I : zI} {w : Int} (h : Rl I) : Pair 146 273 [.inl w] I := by
  have r := h.1.2.2.2.2.2.2.2.2.2.2.2.1
  obtain ⟨⟨r1, r2, r3, r4⟩, r5⟩ := r
  by_cases hw : 0 ≤ w ∧ w ≤ 2
  · obtain ⟨r, e1, e2⟩ := ln_out (d := 57) (e := 58) (I := I) (J := up I 240 0 0) (w := w) (I 54 2).toNat (by omega) (by omega) (by simp only [Option.bind_some, b01, up_c, up_j, up_s, Nat.reduceEqDiff, not_false_eq_true]; omega) (fun j hj => by simp only [Option.bind_some, b01, up_c, up_j, up_s, Nat.reduceEqDiff, not_false_eq_true]; exact r4 j (by omega)) (I 54 2).toNat 0 (by omega) 0 0 0 (by omega) (by omega) (by omega) (by omega)
    refine Pair_of h (I1 := I) (I2 := up I 240 0 0) (r := r) ?_ ?_ Ag_0
    · rw [e_146, s_156]
      simp only [Option.bind_some, b01]
      rw [if_neg (not_not_intro hw), e_103]
      exact congrArg (fun o => Option.bind o _) e1
    · rw [e_273, s_158]
      simp only [Option.bind_some, b01]
      rw [if_neg (not_not_intro hw)]
      exact e2
  · refine Pair_of h (I1 := I) (I2 := up I 240 0 0) (r := -10000) ?_ ?_ Ag_0
    · rw [e_146, s_156]
      simp only [Option.bind_some, b01]
      rw [if_pos hw]
    · rw [e_273, s_158]
      simp only [Option.bind_some, b01]
      rw [if_pos hw]
