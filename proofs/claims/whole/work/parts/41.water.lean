/-! SEEN IN WATER -/
def wmc (n : Nat) : Nat → Nat
  | 0 => 0
  | k + 1 => wmc n k <<< 1 ||| (if n.testBit k = true then 1 else 0)
theorem wmc_lt (n : Nat) : ∀ k, wmc n k < 2 ^ k
  | 0 => by rw [wmc]; decide
  | k + 1 => by
    have h := wmc_lt n k
    rw [wmc]
    refine Nat.or_lt_two_pow ?_ ?_
    · rw [Nat.shiftLeft_eq, Nat.pow_succ]; omega
    · have : 0 < 2 ^ k := Nat.two_pow_pos k
      rw [Nat.pow_succ]
      split <;> omega
theorem wmc_bit (n : Nat) : ∀ k j, (wmc n k).testBit j = (decide (j < k) && n.testBit (k - 1 - j))
  | 0, j => by simp [wmc]
  | k + 1, 0 => by
    rw [wmc, Nat.testBit_or, Nat.testBit_shiftLeft]
    cases h : n.testBit k <;> simp [h]
  | k + 1, j + 1 => by
    rw [wmc, Nat.testBit_or, Nat.testBit_shiftLeft]
    have h1 : (if n.testBit k = true then 1 else 0 : Nat).testBit (j + 1) = false := by
      split
      · simp [Nat.testBit_succ]
      · simp
    rw [h1, Bool.or_false, Nat.add_sub_cancel, wmc_bit n k j]
    have h2 : k + 1 - 1 - (j + 1) = k - 1 - j := by omega
    rw [h2]
    simp
/-- the palindrome over an upper half -/
def wpl (b h : Nat) : Nat := h <<< (b / 2) ||| wmc (h <<< (b / 2)) b
theorem wpl_bit {b h : Nat} (hh : h < 2 ^ (b - b / 2)) (j : Nat) : (wpl b h).testBit j = if b / 2 ≤ j then h.testBit (j - b / 2) else h.testBit (b - 1 - j - b / 2) := by
  unfold wpl
  rw [Nat.testBit_or, wmc_bit, Nat.testBit_shiftLeft, Nat.testBit_shiftLeft]
  by_cases hj : b / 2 ≤ j
  · rw [if_pos hj, decide_eq_true hj, Bool.true_and]
    by_cases hb : j < b
    · rw [decide_eq_true hb, Bool.true_and]
      by_cases h2 : b / 2 ≤ b - 1 - j
      · have e : b - 1 - j - b / 2 = j - b / 2 := by omega
        rw [e]; simp
      · rw [decide_eq_false h2]; simp
    · rw [decide_eq_false hb]; simp
  · rw [if_neg hj, decide_eq_false hj, Bool.false_and, Bool.false_or]
    have hb : j < b := by omega
    have h2 : b / 2 ≤ b - 1 - j := by omega
    rw [decide_eq_true hb, decide_eq_true h2, Bool.true_and, Bool.true_and]
theorem wpl_lt {b h : Nat} (hh : h < 2 ^ (b - b / 2)) : wpl b h < 2 ^ b := by
  unfold wpl
  refine Nat.or_lt_two_pow ?_ (wmc_lt _ _)
  rw [Nat.shiftLeft_eq]
  have e : 2 ^ b = 2 ^ (b - b / 2) * 2 ^ (b / 2) := by rw [← Nat.pow_add]; congr 1; omega
  rw [e]
  exact Nat.mul_lt_mul_of_pos_right hh (Nat.two_pow_pos _)
theorem wpl_up {b h : Nat} (hh : h < 2 ^ (b - b / 2)) : wpl b h >>> (b / 2) = h := by
  apply Nat.eq_of_testBit_eq
  intro j
  rw [Nat.testBit_shiftRight, wpl_bit hh, if_pos (by omega), Nat.add_sub_cancel_left]
theorem wpl_pal {b h : Nat} (hh : h < 2 ^ (b - b / 2)) : wmc (wpl b h) b = wpl b h := by
  apply Nat.eq_of_testBit_eq
  intro j
  rw [wmc_bit]
  by_cases hj : j < b
  · rw [decide_eq_true hj, Bool.true_and, wpl_bit hh, wpl_bit hh]
    by_cases h1 : b / 2 ≤ j
    · by_cases h2 : b / 2 ≤ b - 1 - j
      · rw [if_pos h1, if_pos h2]; congr 1; omega
      · rw [if_pos h1, if_neg h2]; congr 1; omega
    · rw [if_neg h1, if_pos (by omega)]
  · rw [decide_eq_false hj, Bool.false_and]
    exact (Nat.testBit_lt_two_pow (Nat.lt_of_lt_of_le (wpl_lt hh) (Nat.pow_le_pow_right (by decide) (by omega)))).symm
theorem wpl_of {b v : Nat} (hv : v < 2 ^ b) (hp : wmc v b = v) : wpl b (v >>> (b / 2)) = v ∧ v >>> (b / 2) < 2 ^ (b - b / 2) := by
  have hlt : v >>> (b / 2) < 2 ^ (b - b / 2) := by
    rw [Nat.shiftRight_eq_div_pow]
    refine Nat.div_lt_of_lt_mul ?_
    rw [← Nat.pow_add, show b / 2 + (b - b / 2) = b by omega]
    exact hv
  refine ⟨?_, hlt⟩
  apply Nat.eq_of_testBit_eq
  intro j
  rw [wpl_bit hlt]
  by_cases h1 : b / 2 ≤ j
  · rw [if_pos h1, Nat.testBit_shiftRight]; congr 1; omega
  · rw [if_neg h1, Nat.testBit_shiftRight, show b / 2 + (b - 1 - j - b / 2) = b - 1 - j by omega]
    have hb : j < b := by omega
    have hp2 := congrArg (fun x => Nat.testBit x j) hp
    simp only [wmc_bit, decide_eq_true hb, Bool.true_and] at hp2
    exact hp2
/-- how many halves make a palindrome up to n; how many palindromes there are up to n -/
def wch (b n : Nat) : Nat → Nat → Nat
  | 0, _ => 0
  | m + 1, h => (if wpl b h ≤ n then 1 else 0) + wch b n m (h + 1)
def wcv (b : Nat) : Nat → Nat → Nat
  | 0, _ => 0
  | m + 1, v => (if wmc v b = v then 1 else 0) + wcv b m (v + 1)
def wce (b n : Nat) : Nat → Nat → Nat
  | 0, _ => 0
  | m + 1, h => (if wpl b h = n then 1 else 0) + wce b n m (h + 1)
theorem wch_0 (b : Nat) : ∀ m h, h + m ≤ 2 ^ (b - b / 2) → wch b 0 m h = wce b 0 m h
  | 0, _, _ => rfl
  | m + 1, h, hh => by
    rw [wch, wce, wch_0 b m (h + 1) (by omega)]
    simp only [Nat.le_zero]
theorem wch_s (b n : Nat) : ∀ m h, wch b (n + 1) m h = wch b n m h + wce b (n + 1) m h
  | 0, _ => rfl
  | m + 1, h => by
    rw [wch, wch, wce, wch_s b n m (h + 1)]
    by_cases h1 : wpl b h ≤ n
    · rw [if_pos (by omega), if_pos h1, if_neg (by omega)]; omega
    · by_cases h2 : wpl b h = n + 1
      · rw [if_pos (by omega), if_neg h1, if_pos h2]; omega
      · rw [if_neg (by omega), if_neg h1, if_neg h2]; omega
theorem wce_no (b n : Nat) : ∀ m h, (∀ j, h ≤ j → j < h + m → wpl b j ≠ n) → wce b n m h = 0
  | 0, _, _ => rfl
  | m + 1, h, q => by
    rw [wce, wce_no b n m (h + 1) (fun j h1 h2 => q j (by omega) (by omega)), if_neg (q h (by omega) (by omega))]
theorem wce_one (b n k : Nat) (hk : wpl b k = n) : ∀ m h, h ≤ k → k < h + m → (∀ j, h ≤ j → j < h + m → wpl b j = n → j = k) → wce b n m h = 1
  | 0, _, h1, h2, _ => absurd h2 (by omega)
  | m + 1, h, h1, h2, q => by
    rw [wce]
    by_cases e : h = k
    · subst e
      rw [if_pos hk, wce_no b n m (h + 1) fun j j1 j2 jn => by have := q j (by omega) (by omega) jn; omega]
    · rw [if_neg fun hn => e (q h (by omega) (by omega) hn), wce_one b n k hk m (h + 1) (by omega) (by omega) fun j j1 j2 jn => q j (by omega) (by omega) jn]
theorem wce_v {b n : Nat} (hn : n < 2 ^ b) : wce b n (2 ^ (b - b / 2)) 0 = if wmc n b = n then 1 else 0 := by
  by_cases hp : wmc n b = n
  · rw [if_pos hp]
    obtain ⟨e1, e2⟩ := wpl_of hn hp
    refine wce_one b n (n >>> (b / 2)) e1 _ 0 (Nat.zero_le _) (by omega) fun j _ j2 jn => ?_
    rw [← jn, wpl_up (by omega)]
  · rw [if_neg hp]
    refine wce_no b n _ 0 fun j _ j2 jn => hp ?_
    rw [← jn]
    exact wpl_pal (by omega)
theorem wcv_snoc (b : Nat) : ∀ m v, wcv b (m + 1) v = wcv b m v + (if wmc (v + m) b = v + m then 1 else 0)
  | 0, v => by simp [wcv]
  | m + 1, v => by
    rw [wcv, wcv_snoc b m (v + 1), wcv, show v + 1 + m = v + (m + 1) by omega]
    omega
theorem wch_v (b : Nat) : ∀ n, n < 2 ^ b → wch b n (2 ^ (b - b / 2)) 0 = wcv b (n + 1) 0
  | 0, h => by rw [wch_0 b _ 0 (by omega), wce_v h]; simp [wcv]
  | n + 1, h => by rw [wch_s, wch_v b n (by omega), wce_v h, wcv_snoc b (n + 1) 0, Nat.zero_add]
theorem wch_big (b n : Nat) (h : 2 ^ b ≤ n + 1) : wch b n (2 ^ (b - b / 2)) 0 = wcv b (2 ^ b) 0 := by
  have hp : 0 < 2 ^ b := Nat.two_pow_pos b
  have e := wch_v b (2 ^ b - 1) (by omega)
  rw [show 2 ^ b - 1 + 1 = 2 ^ b by omega] at e
  rw [← e]
  have : ∀ m h, h + m ≤ 2 ^ (b - b / 2) → wch b n m h = wch b (2 ^ b - 1) m h := by
    intro m
    induction m with
    | zero => intro _ _; rfl
    | succ m ih =>
      intro h hh
      have := wpl_lt (b := b) (h := h) (by omega)
      rw [wch, wch, ih (h + 1) (by omega), if_pos (by omega), if_pos (by omega)]
  exact this _ 0 (by omega)
/-! on the machine -/
theorem p2_le : ∀ k, k ≤ 16 → 2 ^ k ≤ 65536 := by decide
theorem s_104 {d n b : Nat} {I : zI} (hn : n < 131072) (hb : b ≤ 16) : cl (d + 1) 104 [.inl (n : Int), .inl (b : Int)] I = some (((wmc n b : Nat) : Int), I) := by
  rw [e_104]
  refine zloop (n := b) (P := fun k => zD (d + 1) 104 4 [some (.inl (n : Int)), some (.inl (b : Int)), some (.inl ((wmc n k : Nat) : Int)), some (.inl (k : Int))] [] I) (fun k hk => ?_) ?_
  · show zD _ _ _ _ _ _ = zD _ _ _ _ _ _
    have h1 := wmc_lt n k
    have h2 := p2_le k (by omega)
    have h3 : wmc n k <<< 1 < 2147483648 := by rw [Nat.shiftLeft_eq]; omega
    have hs : zshl ((wmc n k : Nat) : Int) 1 = ((wmc n k <<< 1 : Nat) : Int) := zshl_n (k := 1) (by omega) (by omega) h3
    have hbit : zand (zshr (n : Int) (k : Int)) 1 = (((if n.testBit k = true then 1 else 0 : Nat)) : Int) := by rw [bit_n (by omega) (by omega)]; split <;> rfl
    rw [e_104_4, if_pos (by omega), hs, hbit, zor_n h3 (by split <;> omega), wr_id (by omega) (by omega)]
    rfl
  · show zD _ _ _ _ _ _ = _
    rw [e_104_4, if_neg (by omega)]
theorem wmm (n b : Nat) (hb : b ≤ 16) : ∀ k, k ≤ b → wmc n k <<< (b - k) < 65536 := by
  intro k hk
  have h1 := wmc_lt n k
  have h2 := p2_le b hb
  rw [Nat.shiftLeft_eq]
  have e : 2 ^ b = 2 ^ k * 2 ^ (b - k) := by rw [← Nat.pow_add]; congr 1; omega
  have := Nat.mul_lt_mul_of_pos_right h1 (Nat.two_pow_pos (b - k))
  omega
theorem s_274 {e n b : Nat} {J : zI} (hn : n < 131072) (hb : b ≤ 16) : cl (e + 2) 274 [.inr (some 240), .inl (n : Int), .inl (b : Int)] J = some (((wmc n b : Nat) : Int), J) := by
  rw [e_274]
  have h0 : zD (e + 2) 274 4 [some (.inr (some 240)), some (.inl (n : Int)), some (.inl (b : Int)), some (.inl ((wmc n 0 <<< (b - 0) : Nat) : Int)), some (.inl ((0 : Nat) : Int))] [] J = some (((wmc n b : Nat) : Int), J) := by
    refine zloop (n := b) (P := fun k => zD (e + 2) 274 4 [some (.inr (some 240)), some (.inl (n : Int)), some (.inl (b : Int)), some (.inl ((wmc n k <<< (b - k) : Nat) : Int)), some (.inl (k : Int))] [] J) (fun k hk => ?_) ?_
    · show zD _ _ _ _ _ _ = zD _ _ _ _ _ _
      have m1 := wmm n b hb k (by omega)
      have m2 := wmm n b hb (k + 1) (by omega)
      have es : wmc n k <<< (b - k) = wmc n k <<< 1 <<< (b - (k + 1)) := by rw [← Nat.shiftLeft_add]; congr 1; omega
      rw [e_274_4, if_pos (by omega), e_165, bit_n (by omega) (by omega)]
      cases ht : n.testBit k with
      | true =>
        have e1 : wr (wr ((b : Int) - 1) - (k : Int)) = ((b - (k + 1) : Nat) : Int) := by rw [wr_id (z := (b : Int) - 1) (by omega) (by omega), wr_id (by omega) (by omega)]; omega
        have e2 : 1 <<< (b - (k + 1)) < 2147483648 := by
          rw [Nat.shiftLeft_eq, Nat.one_mul]
          have := p2_le (b - (k + 1)) (by omega)
          omega
        have e3 : zshl 1 ((b - (k + 1) : Nat) : Int) = ((1 <<< (b - (k + 1)) : Nat) : Int) := zshl_n (a := 1) (by omega) (by omega) e2
        have e4 : wmc n (k + 1) = wmc n k <<< 1 ||| 1 := by rw [wmc, ht]; rfl
        rw [e4, Nat.shiftLeft_or_distrib, ← es] at m2 ⊢
        simp only [if_true, Option.bind_some, Int.reduceEq, if_false]
        rw [e1, e3, zor_n (by omega) e2, wr_id (by omega) (by omega)]
        rfl
      | false =>
        have e4 : wmc n (k + 1) = wmc n k <<< 1 := by rw [wmc, ht]; simp
        rw [e4, ← es]
        simp only [Bool.false_eq_true, if_false, Option.bind_some, Int.reduceEq, if_true]
        rw [wr_id (by omega) (by omega)]
        rfl
    · show zD _ _ _ _ _ _ = _
      rw [e_274_4, if_neg (by omega), Nat.sub_self]
      rfl
  have e0 : wmc n 0 <<< (b - 0) = 0 := by rw [wmc, Nat.zero_shiftLeft]
  rw [e0] at h0
  exact h0
theorem s_105 {d n b : Nat} {I : zI} (hn : n < 65536) (hb : b ≤ 16) : cl (d + 2) 105 [.inl (n : Int), .inl (b : Int)] I = some (((wch b n (2 ^ (b - b / 2)) 0 : Nat) : Int), I) := by
  have hp : 2 ^ (b - b / 2) ≤ 65536 := p2_le _ (by omega)
  have key : ∀ (m h c : Nat), h + m = 2 ^ (b - b / 2) → c + m ≤ 65536 → zD (d + 2) 105 8 [some (.inl (n : Int)), some (.inl (b : Int)), some (.inl ((b / 2 : Nat) : Int)), some (.inl (c : Int)), some (.inl (h : Int))] [] I = some (((c + wch b n m h : Nat) : Int), I) := by
    have hz : zshl 1 (wr ((b : Int) - ((b / 2 : Nat) : Int))) = ((2 ^ (b - b / 2) : Nat) : Int) := by
      have e1 : wr ((b : Int) - ((b / 2 : Nat) : Int)) = ((b - b / 2 : Nat) : Int) := by rw [wr_id (by omega) (by omega)]; omega
      have e2 : 1 <<< (b - b / 2) = 2 ^ (b - b / 2) := by rw [Nat.shiftLeft_eq, Nat.one_mul]
      rw [e1, show (1 : Int) = ((1 : Nat) : Int) from rfl, zshl_n (by omega) (by omega) (by rw [e2]; omega), e2]
    intro m
    induction m with
    | zero =>
      intro h c hh hc
      rw [e_105_8, hz, if_neg (by omega)]
      rfl
    | succ m ih =>
      intro h c hh hc
      have hlt := wpl_lt (b := b) (h := h) (by omega)
      have hp2 := p2_le b hb
      have hsl : h <<< (b / 2) < 65536 := by
        have : h <<< (b / 2) ≤ wpl b h := Nat.left_le_or
        omega
      have hml := wmc_lt (h <<< (b / 2)) b
      have E := e_105_8 (d := d + 1) (I := I) (x0 := (n : Int)) (x1 := (b : Int)) (x2 := ((b / 2 : Nat) : Int)) (x3 := (c : Int)) (x4 := (h : Int))
      rw [hz, if_pos (by omega), zshl_n (by omega) (by omega) (by omega), s_104 (by omega) hb, Option.bind_some, zor_n (by omega) (by omega), wr_id (z := (h : Int) + 1) (by omega) (by omega), ← zk1c, Int.add_zero, wr_id (z := (c : Int)) (by omega) (by omega), wr_id (z := (c : Int) + 1) (by omega) (by omega), ← zk1c] at E
      rw [E, ih (h + 1) c (by omega) (by omega), ih (h + 1) (c + 1) (by omega) (by omega), wch]
      show (if (n : Int) < ((wpl b h : Nat) : Int) then _ else _) = _
      by_cases hq : wpl b h ≤ n
      · rw [if_neg (by omega), if_pos hq, Nat.add_assoc]
      · rw [if_pos (by omega), if_neg hq, Nat.zero_add]
  have hd : zdiv (b : Int) 2 = ((b / 2 : Nat) : Int) := by rw [zdiv_nn (by omega) (by omega) (by omega) (by omega)]; rfl
  rw [e_105, hd]
  have h := key (2 ^ (b - b / 2)) 0 0 (by omega) (by omega)
  rw [Nat.zero_add] at h
  exact h
theorem wt_m {e n b : Nat} {J : zI} {w3 : Option zV} (hn : n < 65536) (hb : b ≤ 16) : ∀ (m v c : Nat), v + m = min (n + 1) (2 ^ b) → c + m ≤ 65536 → zD (e + 3) 275 34 [some (.inr (some 240)), some (.inl (n : Int)), some (.inl (b : Int)), w3, some (.inl (c : Int)), some (.inl (v : Int))] [] J = some (((c + wcv b m v : Nat) : Int), J) := by
  have hz : zshl 1 (b : Int) = ((2 ^ b : Nat) : Int) := by
    have e2 : 1 <<< b = 2 ^ b := by rw [Nat.shiftLeft_eq, Nat.one_mul]
    have := p2_le b hb
    rw [show (1 : Int) = ((1 : Nat) : Int) from rfl, zshl_n (by omega) (by omega) (by rw [e2]; omega), e2]
  have hp2 := p2_le b hb
  intro m
  induction m with
  | zero =>
    intro v c hv hc
    rw [e_275_34, hz]
    by_cases h1 : (n : Int) < v
    · rw [if_pos h1]; rfl
    · rw [if_neg h1, if_neg (by omega)]; rfl
  | succ m ih =>
    intro v c hv hc
    have E := e_275_34 (d := e + 2) (I := J) (x1 := (n : Int)) (x2 := (b : Int)) (w3 := w3) (x4 := (c : Int)) (x5 := (v : Int))
    rw [if_neg (by omega), hz, if_pos (by omega), s_274 (by omega) hb, Option.bind_some, wr_id (z := (v : Int) + 1) (by omega) (by omega), wr_id (z := (c : Int) + 1) (by omega) (by omega), ← zk1c, ← zk1c, ih (v + 1) (c + 1) (by omega) (by omega), ih (v + 1) c (by omega) (by omega)] at E
    rw [E, wcv]
    show (if ((wmc v b : Nat) : Int) = (v : Int) then _ else _) = _
    by_cases hq : wmc v b = v
    · rw [if_pos (by omega), if_pos hq, Nat.add_assoc]
    · rw [if_neg (by omega), if_neg hq, Nat.zero_add]
theorem q_water {I : zI} {n b w : Int} (h : Rl I) : Pair 147 275 [.inl n, .inl b, .inl w] I := by
  have E1 := e_147 (d := 59) (I := I) (x1 := n) (x2 := b) (x3 := w)
  simp only [s_156, Option.bind_some, b01] at E1
  have E2 := e_275 (d := 59) (I := I) (x1 := n) (x2 := b) (x3 := w)
  simp only [s_158, Option.bind_some, b01] at E2
  by_cases hc : (0 ≤ n ∧ n ≤ 65535) ∧ (1 ≤ b ∧ b ≤ 16) ∧ 0 ≤ w ∧ w ≤ 1
  · obtain ⟨c1, c2, c3⟩ := hc
    rw [if_neg (not_not_intro c1), if_neg (not_not_intro c2), if_neg (not_not_intro c3)] at E1 E2
    obtain ⟨n, rfl⟩ : ∃ m : Nat, n = m := ⟨n.toNat, by omega⟩
    obtain ⟨b, rfl⟩ : ∃ m : Nat, b = m := ⟨b.toNat, by omega⟩
    by_cases h0 : w = 0
    · rw [if_pos h0, s_104 (by omega) (by omega)] at E1
      rw [if_pos h0, s_274 (by omega) (by omega)] at E2
      exact Pair_of h E1 E2 Ag_0
    · rw [if_neg h0, s_105 (by omega) (by omega)] at E1
      have hp2 := p2_le b (by omega)
      have f := wt_m (e := 57) (n := n) (b := b) (J := up I 240 0 0) (w3 := some (.inl w)) (by omega) (by omega) (min (n + 1) (2 ^ b)) 0 0 (by omega) (by omega)
      rw [if_neg h0] at E2
      refine Pair_of h E1 (E2.trans (f.trans ?_)) Ag_0
      rw [Nat.zero_add]
      by_cases hb : 2 ^ b ≤ n + 1
      · rw [Nat.min_eq_right hb, wch_big b n hb]
      · rw [Nat.min_eq_left (by omega), wch_v b n (by omega)]
  · refine Pair_of h (I1 := I) (I2 := up I 240 0 0) (r := -1) ?_ ?_ Ag_0
    · rw [E1]
      (repeat' split) <;> first | rfl | (exfalso; omega)
    · rw [E2]
      (repeat' split) <;> first | rfl | (exfalso; omega)
