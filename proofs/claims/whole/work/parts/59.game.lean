/-! LINES AND BOXES -/
theorem and_full {x b : Nat} : (x &&& b = b) ↔ ∀ i, b.testBit i = true → x.testBit i = true := by
  constructor
  · intro h i hi
    have := congrArg (fun z => z.testBit i) h
    simp only [Nat.testBit_and, hi, Bool.and_true] at this
    exact this
  · intro h
    refine Nat.eq_of_testBit_eq fun i => ?_
    rw [Nat.testBit_and]
    cases hb : b.testBit i with
    | false => simp
    | true => rw [h i hb]; rfl
theorem sl_bit {l i : Nat} : (1 <<< l).testBit i = decide (i = l) := by
  rw [Nat.shiftLeft_eq, Nat.one_mul, Nat.testBit_two_pow]
  by_cases h : l = i
  · rw [decide_eq_true h, decide_eq_true h.symm]
  · rw [decide_eq_false h, decide_eq_false (fun e => h e.symm)]
theorem th_bit {s l i : Nat} : (s ||| 1 <<< l).testBit i = (s.testBit i || decide (i = l)) := by
  rw [Nat.testBit_or, sl_bit]
theorem th_lt {s l : Nat} (hs : s < 4096) (hl : l < 12) : s ||| 1 <<< l < 4096 := by
  have e : 1 <<< l < 2 ^ 12 := by
    rw [Nat.shiftLeft_eq, Nat.one_mul]
    exact Nat.pow_lt_pow_right (by decide) hl
  exact Nat.or_lt_two_pow (n := 12) hs e
theorem th_gt {s l : Nat} (h : s.testBit l = false) : s < s ||| 1 <<< l := by
  have h1 : s ≤ s ||| 1 <<< l := Nat.left_le_or
  have h2 : s ≠ s ||| 1 <<< l := fun e => by
    have := congrArg (fun z => z.testBit l) e
    simp only [th_bit, h, decide_true, Bool.or_true] at this
    cases this
  omega
theorem th_full {s l b : Nat} (h : s.testBit l = false) : (if (s ||| 1 <<< l) &&& b = b then 1 else 0) = (if s &&& b = b then 1 else 0) + (if b.testBit l = true ∧ (s ||| 1 <<< l) &&& b = b then 1 else 0) := by
  by_cases hb : b.testBit l = true
  · have hn : ¬ s &&& b = b := fun e => by
      have := and_full.mp e l hb
      rw [h] at this
      cases this
    rw [if_neg hn]
    by_cases q : (s ||| 1 <<< l) &&& b = b
    · rw [if_pos q, if_pos ⟨hb, q⟩]
    · rw [if_neg q, if_neg (fun e => q e.2)]
  · rw [if_neg (show ¬ (b.testBit l = true ∧ (s ||| 1 <<< l) &&& b = b) from fun e => hb e.1), Nat.add_zero]
    have e : ((s ||| 1 <<< l) &&& b = b) = (s &&& b = b) := propext ⟨fun q => and_full.mpr fun i hi => by
      have := and_full.mp q i hi
      rw [th_bit] at this
      by_cases e : i = l
      · rw [e] at hi; exact absurd hi hb
      · rw [decide_eq_false e, Bool.or_false] at this; exact this, fun q => and_full.mpr fun i hi => by
      rw [th_bit, and_full.mp q i hi, Bool.true_or]⟩
    simp only [e]
theorem zcc_c (s b : Nat) (L : List Nat) : ((b :: L).filter fun b => s &&& b == b).length = (if s &&& b = b then 1 else 0) + (L.filter fun b => s &&& b == b).length := by
  rw [List.filter_cons]
  by_cases h : s &&& b = b
  · rw [if_pos h, if_pos (by rw [h]; exact beq_self_eq_true b), List.length_cons, Nat.add_comm]
  · rw [if_neg h, if_neg (fun e => h (eq_of_beq e)), Nat.zero_add]
theorem zcc_4 (s : Nat) : zcc s = (if s &&& 197 = 197 then 1 else 0) + (if s &&& 394 = 394 then 1 else 0) + (if s &&& 1556 = 1556 then 1 else 0) + (if s &&& 3112 = 3112 then 1 else 0) := by
  unfold zcc zbxs
  rw [zcc_c, zcc_c, zcc_c, zcc_c, List.filter_nil, List.length_nil]
  omega
/-- what a line more closes -/
def zcb2 (s l : Nat) : Nat := (if (197 : Nat).testBit l = true ∧ (s ||| 1 <<< l) &&& 197 = 197 then 1 else 0) + (if (394 : Nat).testBit l = true ∧ (s ||| 1 <<< l) &&& 394 = 394 then 1 else 0) + (if (1556 : Nat).testBit l = true ∧ (s ||| 1 <<< l) &&& 1556 = 1556 then 1 else 0) + (if (3112 : Nat).testBit l = true ∧ (s ||| 1 <<< l) &&& 3112 = 3112 then 1 else 0)
theorem zcc_th {s l : Nat} (h : s.testBit l = false) : zcc (s ||| 1 <<< l) = zcc s + zcb2 s l := by
  rw [zcc_4, zcc_4, zcb2, th_full (b := 197) h, th_full (b := 394) h, th_full (b := 1556) h, th_full (b := 3112) h]
  omega
theorem zcc_le (s : Nat) : zcc s ≤ 4 := by
  rw [zcc_4]
  (repeat' split) <;> omega
/-- what a line is worth -/
def zval (W : Nat → Int) (s l : Nat) : Int := if zcc (s ||| 1 <<< l) - zcc s > 0 then ((zcc (s ||| 1 <<< l) - zcc s : Nat) : Int) + W (s ||| 1 <<< l) else -W (s ||| 1 <<< l)
def zbf (W : Nat → Int) (s : Nat) (r : Int) : Nat → Int
  | 0 => r
  | n + 1 => if s.testBit n = true then zbf W s r n else max (zbf W s r n) (zval W s n)
theorem zbf_f (W : Nat → Int) (s : Nat) (r : Int) : ∀ n, (List.range n).foldl (fun r l => if s.testBit l then r else max r (zval W s l)) r = zbf W s r n
  | 0 => rfl
  | n + 1 => by
    rw [List.range_succ, List.foldl_append, zbf_f W s r n, zbf]
    rfl
theorem zbest_f (W : Nat → Int) (s : Nat) : zbest W s = zbf W s (-9) 12 := zbf_f W s (-9) 12
theorem zbf_cg {W W' : Nat → Int} {s : Nat} {r : Int} (hs : s < 4096) (h : ∀ t, s < t → t < 4096 → W t = W' t) : ∀ n, n ≤ 12 → zbf W s r n = zbf W' s r n
  | 0, _ => rfl
  | n + 1, hn => by
    rw [zbf, zbf, zbf_cg hs h n (by omega)]
    by_cases q : s.testBit n = true
    · rw [if_pos q, if_pos q]
    · rw [if_neg q, if_neg q]
      unfold zval
      rw [h _ (th_gt (Bool.eq_false_iff.mpr q)) (th_lt hs (by omega))]
theorem zWf_st : ∀ (k s f g : Nat), s + k = 4095 → k < f → k < g → zWf f s = zWf g s := by
  intro k
  induction k using Nat.strongRecOn with
  | ind k ih =>
    intro s f g hs hf hg
    obtain ⟨f, rfl⟩ : ∃ p, f = p + 1 := ⟨f - 1, by omega⟩
    obtain ⟨g, rfl⟩ : ∃ p, g = p + 1 := ⟨g - 1, by omega⟩
    rw [zWf, zWf]
    by_cases e : s = 4095
    · rw [if_pos e, if_pos e]
    · rw [if_neg e, if_neg e, zbest_f, zbest_f]
      exact zbf_cg (by omega) (fun t h1 h2 => ih (4095 - t) (by omega) t f g (by omega) (by omega) (by omega)) 12 (by omega)
theorem zW_e {s : Nat} (hs : s < 4095) : zW s = zbf zW s (-9) 12 := by
  have e : zW s = zbf (zWf 4095) s (-9) 12 := by
    unfold zW
    rw [show (4096 : Nat) = 4095 + 1 from rfl, zWf, if_neg (by omega), zbest_f]
  rw [e]
  exact zbf_cg (by omega) (fun t h1 h2 => zWf_st (4095 - t) t 4095 4096 (by omega) (by omega) (by omega)) 12 (by omega)
theorem zW_l : zW 4095 = 0 := by
  unfold zW
  rw [show (4096 : Nat) = 4095 + 1 from rfl, zWf, if_pos rfl]
theorem zbf_rg {W : Nat → Int} {s : Nat} {c : Int} (hc : 0 ≤ c) (h : ∀ l, l < 12 → s.testBit l = false → -c ≤ zval W s l ∧ zval W s l ≤ c) : ∀ n, n ≤ 12 → (zbf W s (-9) n = -9 ∧ ∀ l, l < n → s.testBit l = true) ∨ ((∃ l, l < n ∧ s.testBit l = false) ∧ -9 ≤ zbf W s (-9) n ∧ zbf W s (-9) n ≤ c ∧ (c ≤ 9 → -c ≤ zbf W s (-9) n))
  | 0, _ => Or.inl ⟨rfl, fun l hl => absurd hl (by omega)⟩
  | n + 1, hn => by
    rw [zbf]
    by_cases q : s.testBit n = true
    · rw [if_pos q]
      rcases zbf_rg hc h n (by omega) with ⟨a, b⟩ | ⟨⟨l, a1, a2⟩, b⟩
      · left
        refine ⟨a, fun l hl => ?_⟩
        by_cases e : l = n
        · rw [e]; exact q
        · exact b l (by omega)
      · exact Or.inr ⟨⟨l, by omega, a2⟩, b⟩
    · rw [if_neg q]
      have q := Bool.eq_false_iff.mpr q
      have v := h n (by omega) q
      right
      refine ⟨⟨n, by omega, q⟩, ?_⟩
      rcases zbf_rg hc h n (by omega) with ⟨a, b⟩ | ⟨_, b1, b2, b3⟩
      · rw [a]
        exact ⟨by omega, by omega, fun _ => by omega⟩
      · exact ⟨by omega, by omega, fun h9 => by have := b3 h9; omega⟩
theorem fr_of : ∀ h, h < 64 → ∀ l, l < 64 → 64 * h + l < 4095 → (List.range 12).any (fun k => !((64 * h + l).testBit k)) = true := by decide +kernel
theorem free_l {s : Nat} (hs : s < 4095) : ∃ l, l < 12 ∧ s.testBit l = false := by
  have := fr_of (s / 64) (by omega) (s % 64) (by omega) (by omega)
  rw [show 64 * (s / 64) + s % 64 = s by omega, List.any_eq_true] at this
  obtain ⟨l, h1, h2⟩ := this
  exact ⟨l, List.mem_range.mp h1, by simpa using h2⟩
theorem zW_rg : ∀ (k s : Nat), s + k = 4095 → -(4 - (zcc s : Int)) ≤ zW s ∧ zW s ≤ 4 - (zcc s : Int) := by
  intro k
  induction k using Nat.strongRecOn with
  | ind k ih =>
    intro s hs
    have c4 := zcc_le s
    by_cases e : s = 4095
    · rw [e, zW_l]
      rw [e] at c4
      omega
    · have hv : ∀ l, l < 12 → s.testBit l = false → -(4 - (zcc s : Int)) ≤ zval zW s l ∧ zval zW s l ≤ 4 - (zcc s : Int) := by
        intro l hl hb
        have t := ih (4095 - (s ||| 1 <<< l)) (by have := th_gt hb; omega) (s ||| 1 <<< l) (by have := th_lt (s := s) (by omega) hl; omega)
        have tc := zcc_th hb
        have t4 := zcc_le (s ||| 1 <<< l)
        unfold zval
        split <;> omega
      rw [zW_e (by omega)]
      rcases zbf_rg (W := zW) (s := s) (c := 4 - (zcc s : Int)) (by omega) hv 12 (by omega) with ⟨_, b⟩ | ⟨_, b1, b2, b3⟩
      · obtain ⟨l, l1, l2⟩ := free_l (s := s) (by omega)
        rw [b l l1] at l2
        cases l2
      · exact ⟨b3 (by omega), b2⟩
theorem zW_9 {s : Nat} (hs : s < 4096) : -4 ≤ zW s ∧ zW s ≤ 4 := by
  have := zW_rg (4095 - s) s (by omega)
  omega
theorem zval_9 {s l : Nat} (hs : s < 4096) (hl : l < 12) : -9 ≤ zval zW s l ∧ zval zW s l ≤ 9 := by
  have t := zW_9 (th_lt hs hl)
  have t4 := zcc_le (s ||| 1 <<< l)
  unfold zval
  split <;> omega
/-- where to begin doesn't matter, below all -/
theorem zbf_lo {s : Nat} (hs : s < 4096) {a b : Int} (ha : a ≤ -9) (hb : b ≤ -9) : ∀ n, n ≤ 12 → zbf zW s a n = zbf zW s b n ∨ ((∀ l, l < n → s.testBit l = true) ∧ zbf zW s a n = a ∧ zbf zW s b n = b)
  | 0, _ => Or.inr ⟨fun l hl => absurd hl (by omega), rfl, rfl⟩
  | n + 1, hn => by
    rw [zbf, zbf]
    by_cases q : s.testBit n = true
    · rw [if_pos q, if_pos q]
      rcases zbf_lo hs ha hb n (by omega) with h | ⟨h1, h2, h3⟩
      · exact Or.inl h
      · refine Or.inr ⟨fun l hl => ?_, h2, h3⟩
        by_cases e : l = n
        · rw [e]; exact q
        · exact h1 l (by omega)
    · rw [if_neg q, if_neg q]
      have v := zval_9 (l := n) hs (by omega)
      rcases zbf_lo hs ha hb n (by omega) with h | ⟨h1, h2, h3⟩
      · rw [h]; exact Or.inl rfl
      · rw [h2, h3]; left; omega
theorem zW_m {s : Nat} (hs : s < 4095) : zW s = zbf zW s (-100000000) 12 := by
  rw [zW_e hs]
  rcases zbf_lo (s := s) (by omega) (a := -9) (b := -100000000) (by decide) (by decide) 12 (by omega) with h | ⟨h, _⟩
  · exact h
  · obtain ⟨l, l1, l2⟩ := free_l hs
    rw [h l l1] at l2
    cases l2
/-! the class -/
theorem bx_n {s b : Nat} (hs : s < 4096) (hb : b < 4096) : (zand (s : Int) (b : Int) = (b : Int)) = (s &&& b = b) := by
  rw [zand_n (by omega) (by omega)]
  exact propext ⟨fun _ => by omega, fun _ => by omega⟩
theorem s_7 {d s : Nat} {K : zI} (hs : s < 4096) : cl (d + 1) 7 [.inl (s : Int)] K = some ((zcc s : Int), K) := by
  have st : ∀ (i b : Nat) (x : Int), i < 4 → b < 4096 → zbx i = (b : Int) → 0 ≤ x → x < 10 → zD (d + 1) 7 4 [some (.inl (s : Int)), some (.inl x), some (.inl (i : Int))] [] K = zD (d + 1) 7 4 [some (.inl (s : Int)), some (.inl (x + (if s &&& b = b then 1 else 0))), some (.inl ((i + 1 : Nat) : Int))] [] K := by
    intro i b x hi hb hz h0 h1
    rw [e_7_4, if_pos (by omega), if_pos (by omega), if_pos (by omega), Int.toNat_natCast, hz, wr_id (z := (i : Int) + 1) (by omega) (by omega), ← zk1c]
    simp only [bx_n hs hb]
    by_cases q : s &&& b = b
    · rw [if_pos q, if_pos q, wr_id (by omega) (by omega)]
    · rw [if_neg q, if_neg q, wr_id (by omega) (by omega)]
  rw [e_7]
  refine (st 0 197 0 (by decide) (by decide) rfl (by decide) (by decide)).trans ?_
  refine (st 1 394 _ (by decide) (by decide) rfl (by split <;> decide) (by split <;> decide)).trans ?_
  refine (st 2 1556 _ (by decide) (by decide) rfl (by split <;> split <;> decide) (by split <;> split <;> decide)).trans ?_
  refine (st 3 3112 _ (by decide) (by decide) rfl (by split <;> split <;> split <;> decide) (by split <;> split <;> split <;> decide)).trans ?_
  rw [e_7_4, if_neg (by decide), zcc_4]
  refine congrArg some (Prod.ext ?_ rfl)
  (repeat' split) <;> rfl
theorem or_n {s l : Nat} (hs : s < 4096) (hl : l < 12) : zor (s : Int) (zshl 1 (l : Int)) = ((s ||| 1 <<< l : Nat) : Int) := by
  have e : 1 <<< l < 4096 := by
    rw [Nat.shiftLeft_eq, Nat.one_mul]
    exact Nat.lt_of_lt_of_le (Nat.pow_lt_pow_right (by decide) hl) (by decide)
  rw [show (1 : Int) = ((1 : Nat) : Int) from rfl, zshl_n (by omega) (by omega) (by omega), zor_n (by omega) (by omega)]
theorem s_6 {d s l : Nat} {K : zI} (hs : s < 4096) (hl : l < 12) (hW : K 239 (s ||| 1 <<< l) = zW (s ||| 1 <<< l)) : cl (d + 2) 6 [.inr (some 238), .inl (s : Int), .inl (l : Int)] K = some (zval zW s l, K) := by
  have t := th_lt hs hl
  have w := zW_9 t
  have c1 := zcc_le s
  have c2 := zcc_le (s ||| 1 <<< l)
  rw [e_6, or_n hs hl, if_neg (by omega), if_pos (by omega), s_7 t, Option.bind_some]
  dsimp only
  rw [s_7 hs, Option.bind_some]
  dsimp only
  rw [wr_id (z := (zcc (s ||| 1 <<< l) : Int) - (zcc s : Int)) (by omega) (by omega), Int.toNat_natCast, hW]
  unfold zval
  by_cases q : zcc (s ||| 1 <<< l) - zcc s > 0
  · rw [if_pos (by omega), if_pos (by omega), if_pos q, wr_id (by omega) (by omega)]
    congr 2
    omega
  · rw [if_neg (by omega), if_pos (by omega), if_neg q, wr_id (by omega) (by omega)]
theorem bit0 {s l : Nat} (hs : s < 4096) (hl : l < 12) : (zand (zshr (s : Int) (l : Int)) 1 = 0) = ¬ s.testBit l = true := by
  rw [bit_n (by omega) (by omega)]
  exact b01
theorem w_21 {d s : Nat} {x1 : Int} {K : zI} (hs : s < 4095) (hW : ∀ t, s < t → t < 4096 → K 239 t = zW t) : zD (d + 3) 4 21 [some (.inr (some 238)), some (.inl x1), some (.inl (s : Int)), some (.inl (-9)), some (.inl 0)] [] K = zD (d + 3) 4 12 [some (.inr (some 238)), some (.inl x1), some (.inl ((s : Int) - 1))] [] (up (up K 239 s (zW s)) 238 1 (s : Int)) := by
  refine zloop (n := 12) (P := fun l => zD (d + 3) 4 21 [some (.inr (some 238)), some (.inl x1), some (.inl (s : Int)), some (.inl (zbf zW s (-9) l)), some (.inl (l : Int))] [] K) (fun l hl => ?_) ?_
  · show zD _ _ _ _ _ _ = zD _ _ _ _ _ _
    rw [e_4_21, if_pos (by omega), wr_id (z := (l : Int) + 1) (by omega) (by omega), ← zk1c, zbf]
    simp only [bit0 (show s < 4096 by omega) hl]
    by_cases q : s.testBit l = true
    · rw [if_neg (not_not_intro q), if_pos q]
    · have q2 := Bool.eq_false_iff.mpr q
      rw [if_pos q, if_neg q, s_6 (by omega) hl (hW _ (th_gt q2) (th_lt (by omega) hl)), Option.bind_some]
      dsimp only
      rw [s_295, Option.bind_some]
  · show zD _ _ _ _ _ _ = _
    rw [e_4_21, if_neg (by decide), if_pos (by omega), Int.toNat_natCast, wr_id (by omega) (by omega), zW_e hs]
    rfl
theorem w_12 {d x : Nat} (hx : x < 4096) : ∀ (m k : Nat) (K : zI), k ≤ 4095 → m = k - x → (∀ t, k ≤ t → t < 4096 → K 239 t = zW t) → K 238 1 = (k : Int) →
    ∃ (K' : zI) (k' : Nat), k' ≤ 4095 ∧ k' ≤ x ∧ (∀ t, k' ≤ t → t < 4096 → K' 239 t = zW t) ∧ K' 238 1 = (k' : Int) ∧ (∀ c j, c ≠ 239 → ¬ (c = 238 ∧ j = 1) → K' c j = K c j) ∧ zD (d + 3) 4 12 [some (.inr (some 238)), some (.inl (x : Int)), some (.inl ((k : Int) - 1))] [] K = some (zW x, K') := by
  intro m
  induction m with
  | zero =>
    intro k K hk hm hW h1
    refine ⟨K, k, hk, by omega, hW, h1, fun _ _ _ _ => rfl, ?_⟩
    rw [e_4_12, if_pos (by omega), if_pos (by omega), Int.toNat_natCast, hW x (by omega) hx]
  | succ m ih =>
    intro k K hk hm hW h1
    obtain ⟨K', k', a0, a1, a2, a3, a4, a5⟩ := ih (k - 1) (up (up K 239 (k - 1) (zW (k - 1))) 238 1 ((k - 1 : Nat) : Int)) (by omega) (by omega) (fun t h1 h2 => by
      rw [up_c (by decide)]
      by_cases e : t = k - 1
      · rw [e, up_s]
      · rw [up_j e]; exact hW t (by omega) h2) up_s
    refine ⟨K', k', a0, a1, a2, a3, fun c j q1 q2 => ?_, ?_⟩
    · rw [a4 c j q1 q2]
      unfold up
      rw [if_neg q2, if_neg (fun e => q1 e.1)]
    · rw [e_4_12, if_neg (by omega), if_neg (by omega), show (k : Int) - 1 = ((k - 1 : Nat) : Int) by omega, w_21 (s := k - 1) (by omega) (fun t h1 h2 => hW t (by omega) h2)]
      exact a5
theorem s_4 {d x : Nat} {K : zI} (hx : x < 4096) (r : RBox K) : ∃ K' : zI, RBox K' ∧ K' 238 1 ≤ (x : Int) ∧ (∀ c j, c ≠ 239 → ¬ (c = 238 ∧ j = 1) → K' c j = K c j) ∧ cl (d + 3) 4 [.inr (some 238), .inl (x : Int)] K = some (zW x, K') := by
  obtain ⟨⟨r1, r2⟩, r3⟩ := r
  obtain ⟨k, hk⟩ : ∃ k : Nat, K 238 1 = k := ⟨(K 238 1).toNat, by omega⟩
  obtain ⟨K', k', a0, a1, a2, a3, a4, a5⟩ := w_12 (d := d) hx (k - x) k K (by omega) rfl (fun t h1 h2 => r3 t (by omega) (by omega)) hk
  refine ⟨K', ⟨⟨by omega, by omega⟩, fun t h1 h2 => a2 t (by omega) (by omega)⟩, by omega, a4, ?_⟩
  rw [e_4, s_156, Option.bind_some]
  simp only [b01]
  rw [if_neg (not_not_intro (by omega)), hk, wr_id (by omega) (by omega)]
  exact a5
/-- the least line that keeps it -/
def zbl (x : Nat) : Nat → Nat → Int
  | 0, _ => -1
  | m + 1, l => if ¬ x.testBit l = true ∧ zval zW x l = zW x then (l : Int) else zbl x m (l + 1)
theorem s_5 {d x : Nat} {K : zI} (hx : x < 4096) (r : RBox K) : ∃ K' : zI, RBox K' ∧ (∀ c j, c ≠ 239 → ¬ (c = 238 ∧ j = 1) → K' c j = K c j) ∧ cl (d + 4) 5 [.inr (some 238), .inl (x : Int)] K = some (zbl x 12 0, K') := by
  obtain ⟨K', a1, a2, a3, a4⟩ := s_4 (d := d) hx r
  refine ⟨K', a1, a3, ?_⟩
  rw [e_5, a4, Option.bind_some]
  dsimp only
  have key : ∀ (m l : Nat), l + m = 12 → zD (d + 4) 5 6 [some (.inr (some 238)), some (.inl (x : Int)), some (.inl (zW x)), some (.inl (l : Int))] [] K' = some (zbl x m l, K') := by
    intro m
    induction m with
    | zero =>
      intro l hl
      rw [e_5_6, if_neg (by omega)]
      rfl
    | succ m ih =>
      intro l hl
      have := ih (l + 1) (by omega)
      rw [e_5_6, if_pos (by omega), wr_id (z := (l : Int) + 1) (by omega) (by omega), ← zk1c, zbl]
      simp only [bit0 hx (show l < 12 by omega)]
      by_cases q : x.testBit l = true
      · rw [if_neg (not_not_intro q), if_neg (fun e => e.1 q)]
        exact this
      · have q2 := Bool.eq_false_iff.mpr q
        have t1 := th_gt q2
        have t2 := th_lt hx (show l < 12 by omega)
        rw [if_pos q, s_6 hx (by omega) (a1.2 _ (by omega) (by omega)), Option.bind_some]
        dsimp only
        by_cases e : zval zW x l = zW x
        · rw [if_pos e, if_pos ⟨q, e⟩]
        · rw [if_neg e, if_neg (fun z => e z.2)]
          exact this
  exact key 12 0 rfl
/-! the model -/
theorem s_281 : ∀ b : Nat, b < 4 → (zor (zor (zor (zshl 1 (wr ((wr ((zdiv (b : Int) 2) * 2)) + (zrem (b : Int) 2)))) (zshl 1 (wr ((wr ((wr ((zdiv (b : Int) 2) * 2)) + (zrem (b : Int) 2))) + 2)))) (zshl 1 (wr ((wr (6 + (wr (3 * (zdiv (b : Int) 2))))) + (zrem (b : Int) 2))))) (zshl 1 (wr ((wr ((wr (6 + (wr (3 * (zdiv (b : Int) 2))))) + (zrem (b : Int) 2))) + 1)))) = zbx b := by decide +kernel
theorem s_282 {e s l : Nat} {J : zI} (hs : s < 4096) (hl : l < 12) : cl (e + 2) 282 [.inr (some 240), .inl (s : Int), .inl (l : Int)] J = some ((zcb2 s l : Int), J) := by
  have t := th_lt hs hl
  have st : ∀ (i b : Nat) (x : Int), i < 4 → b < 4096 → zbx i = (b : Int) → 0 ≤ x → x < 10 → zD (e + 2) 282 4 [some (.inr (some 240)), some (.inl (s : Int)), some (.inl (l : Int)), some (.inl x), some (.inl (i : Int))] [] J = zD (e + 2) 282 4 [some (.inr (some 240)), some (.inl (s : Int)), some (.inl (l : Int)), some (.inl (x + (if b.testBit l = true ∧ (s ||| 1 <<< l) &&& b = b then 1 else 0))), some (.inl ((i + 1 : Nat) : Int))] [] J := by
    intro i b x hi hb hz h0 h1
    rw [e_282_4, if_pos (by omega), e_281, s_281 i hi, hz, Option.bind_some]
    dsimp only
    rw [e_165, bit_n (by omega) (by omega), wr_id (z := (i : Int) + 1) (by omega) (by omega), ← zk1c, or_n hs hl]
    by_cases q : b.testBit l = true
    · simp only [if_pos q, if_true, Option.bind_some, Int.reduceEq, if_false, e_281, s_281 i hi, hz, bx_n t hb]
      by_cases q2 : (s ||| 1 <<< l) &&& b = b
      · rw [if_pos q2, if_pos ⟨q, q2⟩, wr_id (by omega) (by omega)]
      · rw [if_neg q2, if_neg (fun z => q2 z.2), Int.add_zero]
    · rw [if_neg (show ¬ (b.testBit l = true ∧ (s ||| 1 <<< l) &&& b = b) from fun z => q z.1), Int.add_zero]
      simp only [if_neg q, Option.bind_some, Int.reduceEq, if_true, if_false]
  rw [e_282]
  refine (st 0 197 0 (by decide) (by decide) rfl (by decide) (by decide)).trans ?_
  refine (st 1 394 _ (by decide) (by decide) rfl (by split <;> decide) (by split <;> decide)).trans ?_
  refine (st 2 1556 _ (by decide) (by decide) rfl (by split <;> split <;> decide) (by split <;> split <;> decide)).trans ?_
  refine (st 3 3112 _ (by decide) (by decide) rfl (by split <;> split <;> split <;> decide) (by split <;> split <;> split <;> decide)).trans ?_
  rw [e_282_4, if_neg (by decide), zcb2]
  refine congrArg some (Prod.ext ?_ rfl)
  (repeat' split) <;> rfl
theorem s_283 {e s l : Nat} {J : zI} (hs : s < 4096) (hl : l < 12) (hb : s.testBit l = false) (hW : J 281 (s ||| 1 <<< l) = zW (s ||| 1 <<< l)) : cl (e + 3) 283 [.inr (some 240), .inl (s : Int), .inl (l : Int)] J = some (zval zW s l, J) := by
  have t := th_lt hs hl
  have w := zW_9 t
  have c2 := zcc_le (s ||| 1 <<< l)
  have ct := zcc_th hb
  rw [e_283, s_282 hs hl, Option.bind_some]
  dsimp only
  rw [or_n hs hl, if_pos (by omega), Int.toNat_natCast, hW]
  unfold zval
  by_cases q : zcc (s ||| 1 <<< l) - zcc s > 0
  · rw [if_pos (by omega), if_pos q, wr_id (by omega) (by omega)]
    congr 2
    omega
  · rw [if_neg (by omega), if_neg q, wr_id (by omega) (by omega)]
theorem s_165b {e s l : Nat} {J : zI} (hs : s < 4096) (hl : l < 12) : cl (e + 1) 165 [.inr (some 240), .inl (s : Int), .inl (l : Int)] J = some (if s.testBit l = true then 1 else 0, J) := by
  rw [e_165, bit_n (by omega) (by omega)]
  by_cases hq : s.testBit l = true
  · simp only [if_pos hq, if_true]
  · simp only [if_neg hq]; rfl
theorem s_284 {e s : Nat} {J : zI} (hs : s < 4096) (hW : ∀ t, s < t → t < 4096 → J 281 t = zW t) : cl (e + 4) 284 [.inr (some 240), .inl (s : Int)] J = some (0, up J 281 s (zW s)) := by
  have lp : ∀ r0 : Int, zbf zW s r0 12 = zW s → zD (e + 4) 284 9 [some (.inr (some 240)), some (.inl (s : Int)), some (.inl r0), some (.inl 0)] [] J = some (0, up J 281 s (zW s)) := by
    intro r0 hr
    refine zloop (n := 12) (P := fun l => zD (e + 4) 284 9 [some (.inr (some 240)), some (.inl (s : Int)), some (.inl (zbf zW s r0 l)), some (.inl (l : Int))] [] J) (fun l hl => ?_) ?_
    · show zD _ _ _ _ _ _ = zD _ _ _ _ _ _
      rw [e_284_9, if_pos (by omega), s_165b hs hl, Option.bind_some]
      dsimp only
      rw [wr_id (z := (l : Int) + 1) (by omega) (by omega), ← zk1c, zbf]
      simp only [b01]
      by_cases q : s.testBit l = true
      · rw [if_neg (not_not_intro q), if_pos q]
      · have q2 := Bool.eq_false_iff.mpr q
        rw [if_pos q, if_neg q, s_283 hs hl q2 (hW _ (th_gt q2) (th_lt hs hl)), Option.bind_some]
        dsimp only
        rw [s_160, Option.bind_some]
    · show zD _ _ _ _ _ _ = _
      rw [e_284_9, if_neg (by decide), if_pos (by omega), Int.toNat_natCast, hr]
  rw [e_284]
  by_cases h : s = 4095
  · rw [if_pos (by omega)]
    refine lp 0 ?_
    rw [h, zW_l]
    decide +kernel
  · rw [if_neg (by omega)]
    exact lp _ (zW_m (by omega)).symm
theorem g_19 {e x : Nat} {w : Int} (hx : x < 4096) : ∀ (m s : Nat) (J : zI), s = m + x → s ≤ 4096 → (∀ t, s ≤ t → t < 4096 → J 281 t = zW t) →
    ∃ J' : zI, (∀ t, x ≤ t → t < 4096 → J' 281 t = zW t) ∧ (∀ c j, c ≠ 281 → J' c j = J c j) ∧ zD (e + 5) 285 19 [some (.inr (some 240)), some (.inl (x : Int)), some (.inl w), some (.inl ((s : Int) - 1))] [] J = zD (e + 5) 285 19 [some (.inr (some 240)), some (.inl (x : Int)), some (.inl w), some (.inl ((x : Int) - 1))] [] J' := by
  intro m
  induction m with
  | zero =>
    intro s J hs hk hW
    have e0 : s = x := by omega
    subst e0
    exact ⟨J, hW, fun _ _ _ => rfl, rfl⟩
  | succ m ih =>
    intro s J hs hk hW
    obtain ⟨J', a1, a2, a3⟩ := ih (s - 1) (up J 281 (s - 1) (zW (s - 1))) (by omega) (by omega) (fun t h1 h2 => by
      by_cases e : t = s - 1
      · rw [e, up_s]
      · rw [up_j e]; exact hW t (by omega) h2)
    refine ⟨J', a1, fun c j hc => by rw [a2 c j hc, up_c hc], ?_⟩
    rw [e_285_19, if_neg (by omega), show (s : Int) - 1 = ((s - 1 : Nat) : Int) by omega, s_284 (by omega) (fun t h1 h2 => hW t (by omega) h2), Option.bind_some]
    dsimp only
    rw [wr_id (by omega) (by omega)]
    exact a3
theorem g_36 {e x : Nat} {w2 : Option zV} {J : zI} (hx : x < 4096) (hW : ∀ t, x ≤ t → t < 4096 → J 281 t = zW t) : zD (e + 4) 285 36 [some (.inr (some 240)), some (.inl (x : Int)), w2, some (.inl 0)] [] J = some (zbl x 12 0, J) := by
  have key : ∀ (m l : Nat), l + m = 12 → zD (e + 4) 285 36 [some (.inr (some 240)), some (.inl (x : Int)), w2, some (.inl (l : Int))] [] J = some (zbl x m l, J) := by
    intro m
    induction m with
    | zero =>
      intro l hl
      rw [e_285_36, if_neg (by omega)]
      rfl
    | succ m ih =>
      intro l hl
      have := ih (l + 1) (by omega)
      rw [e_285_36, if_pos (by omega), s_165b hx (by omega), Option.bind_some]
      dsimp only
      rw [wr_id (z := (l : Int) + 1) (by omega) (by omega), ← zk1c, zbl]
      simp only [b01]
      by_cases q : x.testBit l = true
      · rw [if_neg (not_not_intro q), if_neg (fun e => e.1 q)]
        exact this
      · have q2 := Bool.eq_false_iff.mpr q
        rw [if_pos q, s_283 hx (by omega) q2 (hW _ (by have := th_gt q2; omega) (th_lt hx (by omega))), Option.bind_some]
        dsimp only
        rw [if_pos (by omega), Int.toNat_natCast]
        have hWx := hW x (Nat.le_refl x) hx
        by_cases e : zval zW x l = zW x
        · rw [if_pos (show zval zW x l = J 281 x by rw [hWx]; exact e), if_pos ⟨q, e⟩]
        · rw [if_neg (show ¬ zval zW x l = J 281 x by rw [hWx]; exact e), if_neg (fun z => e z.2)]
          exact this
  exact key 12 0 rfl
theorem q_game {I : zI} {x w : Int} (h : Rl I) : Pair 152 285 [.inl x, .inl w] I := by
  have E1 := e_152 (d := 59) (I := I) (x1 := x) (x2 := w)
  simp only [s_156, Option.bind_some, b01] at E1
  have E2 := fun J : zI => e_285 (d := 59) (I := J) (x1 := x) (x2 := w)
  simp only [s_158, Option.bind_some, b01] at E2
  by_cases hc : (0 ≤ x ∧ x ≤ 4095) ∧ 0 ≤ w ∧ w ≤ 1
  · rw [if_neg (not_not_intro hc.1), if_neg (not_not_intro hc.2)] at E1
    obtain ⟨x, rfl⟩ : ∃ q : Nat, x = q := ⟨x.toNat, by omega⟩
    refine Pair_two fun J hJ => ?_
    have E2 := E2 J
    rw [if_neg (not_not_intro hc.1), if_neg (not_not_intro hc.2)] at E2
    have hx : x < 4096 := by omega
    obtain ⟨J', a1, a2, a3⟩ := g_19 (e := 55) (w := w) hx (4096 - x) 4096 (up J 240 0 0) (by omega) (by omega) (fun t h1 h2 => absurd h1 (by omega))
    have E2 := E2.trans a3
    rw [e_285_19, if_pos (by omega), if_pos (show 0 ≤ (x : Int) ∧ (x : Int) < 4096 by omega), Int.toNat_natCast, a1 x (Nat.le_refl x) hx, g_36 hx a1] at E2
    have fin : ∀ K' : zI, RBox K' → (∀ c j, c ≠ 239 → ¬ (c = 238 ∧ j = 1) → K' c j = I c j) → Rl (mg K' J') := by
      intro K' b1 b2
      have hA : Ag (239 :: scrC) ((238, 1) :: scrF) I (mg K' J') := by
        intro c j q1 q2
        have nn : ∀ x, (239 :: scrC).contains x = true → c ≠ x := fun x hx e => by rw [e, hx] at q1; cases q1
        have p0 : ¬ (c = 240 ∧ j = 0) := fun e => by rw [e.1, e.2] at q2; revert q2; decide
        have p1 : ¬ (c = 238 ∧ j = 1) := fun e => by rw [e.1, e.2] at q2; revert q2; decide
        by_cases hc : c < 240
        · rw [mg_l hc]
          exact b2 c j (nn 239 (by decide)) p1
        · rw [mg_r (by omega), a2 c j (nn 281 (by decide))]
          exact (if_neg p0).trans (hJ c j (by omega))
      refine ⟨⟨RFirm_cg (ag_c hA 2 rfl rfl) (fun k h1 h2 => ag_cs hA 3 14 (by decide) k h1 h2) (ag_c hA 241 rfl rfl) (ag_c hA 244 rfl rfl) (ag_c hA 245 rfl rfl) (ag_c hA 246 rfl rfl) (ag_f hA 240 6 rfl rfl) (ag_f hA 240 7 rfl rfl) (ag_f hA 240 8 rfl rfl) h.1.1, RBook_cg (ag_f hA 15 4 rfl rfl) (fun k h1 h2 => ag_cs hA 16 19 (by decide) k h1 h2) (ag_f hA 241 2 rfl rfl) (ag_c hA 247 rfl rfl) h.1.2.1, RLaw_cg (ag_f hA 21 4 rfl rfl) (fun k h1 h2 => ag_cs hA 22 26 (by decide) k h1 h2) (ag_f hA 250 0 rfl rfl) (fun l _ => ⟨congrFun (ag_c hA 251 rfl rfl) l, congrFun (ag_c hA 252 rfl rfl) l, congrFun (ag_c hA 253 rfl rfl) l, congrFun (ag_c hA 254 rfl rfl) l⟩) (fun i _ => ⟨congrFun (ag_c hA 255 rfl rfl) i, congrFun (ag_c hA 256 rfl rfl) i⟩) h.1.2.2.1, ROrd_cg (ag_f hA 2 3 rfl rfl) (ag_f hA 2 4 rfl rfl) (ag_f hA 2 5 rfl rfl) (ag_f hA 29 4 rfl rfl) (fun k h1 h2 => ag_cs hA 30 33 (by decide) k h1 h2) (ag_f hA 240 36 rfl rfl) (fun j _ => congrFun (ag_c hA 258 rfl rfl) j) h.1.2.2.2.1, RBird_cg (ag_f hA 34 4 rfl rfl) (fun k h1 h2 => ag_cs hA 35 37 (by decide) k h1 h2) (ag_f hA 240 38 rfl rfl) (fun b _ => ⟨congrFun (ag_c hA 259 rfl rfl) b, congrFun (ag_c hA 260 rfl rfl) b⟩) h.1.2.2.2.2.1, RAft_cg (ag_f hA 2 5 rfl rfl) (ag_f hA 39 4 rfl rfl) (fun k h1 h2 => ag_cs hA 40 41 (by decide) k h1 h2) (ag_f hA 240 41 rfl rfl) (fun e _ => congrFun (ag_c hA 261 rfl rfl) e) h.1.2.2.2.2.2.1, RRow_cg (ag_f hA 44 2 rfl rfl) (ag_c hA 45 rfl rfl) (ag_f hA 240 47 rfl rfl) (ag_c hA 266 rfl rfl) h.1.2.2.2.2.2.2.1, RRow_cg (ag_f hA 46 2 rfl rfl) (ag_c hA 47 rfl rfl) (ag_f hA 240 51 rfl rfl) (ag_c hA 269 rfl rfl) h.1.2.2.2.2.2.2.2.1, RDots_cg (ag_c hA 48 rfl rfl) (ag_c hA 49 rfl rfl) (ag_c hA 272 rfl rfl) (ag_c hA 273 rfl rfl) h.1.2.2.2.2.2.2.2.2.1, RPl_cg (ag_f hA 50 2 rfl rfl) (ag_c hA 51 rfl rfl) (ag_f hA 240 57 rfl rfl) (ag_f hA 240 58 rfl rfl) (ag_f hA 240 59 rfl rfl) h.1.2.2.2.2.2.2.2.2.2.1, RRow_cg (ag_f hA 52 2 rfl rfl) (ag_c hA 53 rfl rfl) (ag_f hA 240 62 rfl rfl) (ag_c hA 276 rfl rfl) h.1.2.2.2.2.2.2.2.2.2.2.1, RLegs_cg (ag_f hA 54 2 rfl rfl) (ag_c hA 55 rfl rfl) (ag_f hA 240 64 rfl rfl) (ag_c hA 277 rfl rfl) h.1.2.2.2.2.2.2.2.2.2.2.2.1, RRow_cg (ag_f hA 56 2 rfl rfl) (ag_c hA 57 rfl rfl) (ag_f hA 240 66 rfl rfl) (ag_c hA 278 rfl rfl) h.1.2.2.2.2.2.2.2.2.2.2.2.2.1, RRow_cg (ag_f hA 58 2 rfl rfl) (ag_c hA 59 rfl rfl) (ag_f hA 240 69 rfl rfl) (ag_c hA 280 rfl rfl) h.1.2.2.2.2.2.2.2.2.2.2.2.2.2⟩, RPast_cg (ag_f hA 119 2 rfl rfl) (ag_f hA 119 3 rfl rfl) (fun k h1 h2 => ag_cs hA 121 199 (by decide) k h1 h2) (ag_c hA 242 rfl rfl) (ag_f hA 240 3 rfl rfl) (ag_c hA 244 rfl rfl) (ag_c hA 245 rfl rfl) (ag_c hA 246 rfl rfl) (ag_f hA 240 6 rfl rfl) (ag_f hA 240 7 rfl rfl) (ag_f hA 240 8 rfl rfl) h.2.1, RTape_cg (ag_f hA 213 1 rfl rfl) (ag_c hA 214 rfl rfl) (ag_f hA 240 14 rfl rfl) (ag_c hA 248 rfl rfl) h.2.2.1, RFlt_cg (ag_f hA 213 7 rfl rfl) (ag_f hA 213 8 rfl rfl) (ag_f hA 240 34 rfl rfl) (ag_f hA 240 35 rfl rfl) h.2.2.2.1, ?_, RMisc_cg (ag_f hA 240 5 rfl rfl) (ag_c hA 249 rfl rfl) (ag_f hA 44 1 rfl rfl) (ag_f hA 46 1 rfl rfl) (ag_f hA 50 1 rfl rfl) (ag_f hA 52 1 rfl rfl) (ag_f hA 54 1 rfl rfl) (ag_f hA 56 1 rfl rfl) (ag_f hA 58 1 rfl rfl) h.2.2.2.2.2.1, RPic_cg (ag_f hA 0 2 rfl rfl) (ag_f hA 240 73 rfl rfl) (fun k h1 h2 => ag_cs hA 61 118 (by decide) k h1 h2) (ag_c hA 282 rfl rfl) h.2.2.2.2.2.2⟩
      unfold RBox
      rw [mg_l (by decide), mg_l (by decide)]
      exact b1
    have kj : ∀ c j, c < 240 → J' c j = J c j := fun c j hc => by rw [a2 c j (by omega), up_c (by omega)]
    by_cases w0 : w = 0
    · rw [if_pos w0] at E1 E2
      obtain ⟨K', b1, _, b3, b4⟩ := s_4 (d := 56) (K := I) hx h.2.2.2.2.1
      rw [b4, Option.bind_some] at E1
      exact ⟨_, K', J', E1, E2, fun c j hc => b3 c j (by omega) (by omega), kj, fin K' b1 b3⟩
    · rw [if_neg w0] at E1 E2
      obtain ⟨K', b1, b3, b4⟩ := s_5 (d := 55) (K := I) hx h.2.2.2.2.1
      rw [b4, Option.bind_some] at E1
      exact ⟨_, K', J', E1, E2, fun c j hc => b3 c j (by omega) (by omega), kj, fin K' b1 b3⟩
  · refine Pair_of h (I1 := I) (I2 := up I 240 0 0) (r := -10) ?_ ?_ Ag_0
    · rw [E1]
      (repeat' split) <;> first | rfl | (exfalso; omega)
    · rw [E2]
      by_cases c1 : 0 ≤ x ∧ x ≤ 4095
      · rw [if_neg (not_not_intro c1), if_pos (fun q => hc ⟨c1, q⟩)]
      · rw [if_pos c1]
