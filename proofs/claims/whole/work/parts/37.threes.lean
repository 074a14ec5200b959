/-! WEIGHED BY THREES -/
theorem zxor_neg {x y : Int} (h1 : -2147483648 ≤ x) (h2 : x < 2147483648) (h3 : 0 ≤ y) (h4 : y < 2147483648) : zxor x y < 0 ↔ x < 0 := by
  have m : ∀ a : Int32, a.toBitVec.msb = decide (a.toInt < 0) := fun a => BitVec.msb_eq_toInt
  have e := m (Int32.ofInt x ^^^ Int32.ofInt y)
  rw [Int32.toBitVec_xor, BitVec.msb_xor, m, m, zi_T h1 h2, zi_T (by omega) h4] at e
  have hy : decide (y < 0) = false := decide_eq_false (by omega)
  rw [hy, Bool.xor_false] at e
  unfold zxor
  by_cases hx : x < 0
  · rw [decide_eq_true hx] at e
    exact ⟨fun _ => hx, fun _ => of_decide_eq_true e.symm⟩
  · rw [decide_eq_false hx] at e
    exact ⟨fun q => absurd q (of_decide_eq_false e.symm), fun q => absurd q hx⟩
theorem zdiv_ng {y b : Int} (h1 : 0 ≤ y) (h2 : y < 2147483648) (h3 : 0 < b) (h4 : b < 2147483648) : zdiv (-y) b = -(y / b) := by
  rw [zdiv_s (by omega) (by omega) h3 h4, Int.neg_tdiv, Int.tdiv_eq_ediv_of_nonneg h1]
theorem zrem_ng {y b : Int} (h1 : 0 ≤ y) (h2 : y < 2147483648) (h3 : 0 < b) (h4 : b < 2147483648) : zrem (-y) b = -(y % b) := by
  have h5 := Int.ediv_nonneg h1 (Int.le_of_lt h3)
  have h6 := Int.emod_nonneg y (Int.ne_of_gt h3)
  have h7 := Int.emod_lt_of_pos y h3
  have h8 : b * (y / b) + y % b = y := Int.mul_ediv_add_emod y b
  rw [zrem_s (by omega) (by omega) h3 h4, Int.neg_tdiv, Int.tdiv_eq_ediv_of_nonneg h1, Int.neg_mul, Int.mul_comm (y / b) b]
  generalize b * (y / b) = t at *
  rw [wr_id (z := -t) (by omega) (by omega), wr_id (by omega) (by omega)]
  omega
theorem s_293 {d : Nat} {I : zI} {x : Int} (h1 : -100000 ≤ x) (h2 : x ≤ 100000) : cl (d + 1) 293 [.inl x, .inl 3] I = some (x % 3, I) := by
  rw [e_293, if_neg (by decide)]
  by_cases hx : x < 0
  · rw [if_pos ((zxor_neg (by omega) (by omega) (by omega) (by omega)).mpr hx)]
    have z : zrem x 3 = -((-x) % 3) := by
      have := zrem_ng (y := -x) (b := 3) (by omega) (by omega) (by omega) (by omega)
      rwa [Int.neg_neg] at this
    rw [z]
    by_cases h0 : -((-x) % 3) = 0
    · rw [if_pos h0]
      refine congrArg some (Prod.ext ?_ rfl)
      show -((-x) % 3) = x % 3
      omega
    · rw [if_neg h0, wr_id (by omega) (by omega)]
      refine congrArg some (Prod.ext ?_ rfl)
      show -((-x) % 3) + 3 = x % 3
      omega
  · rw [if_neg (fun q => hx ((zxor_neg (by omega) (by omega) (by omega) (by omega)).mp q)), zrem_nn (by omega) (by omega) (by omega) (by omega)]
theorem wr_n0 (c : Nat) (h : c < 1000) : wr ((c : Int) + 0) = (c : Int) := by rw [Int.add_zero]; exact wr_id (by omega) (by omega)
def hth : Nat → Nat
  | 0 => 0
  | f + 1 => 3 * hth f + 1
/-- one step of the model: what is left, and what the heap is then -/
theorem th_m {e : Nat} {n w : Int} {J : zI} {m k c : Nat} (h1 : 1 ≤ m) (h2 : m ≤ 29524) (hk : k < 12) (hc : c < 100) : ∃ (c' : Nat) (g : Int), c' ≤ c + 1 ∧ (m : Int) - g = 3 * (((m + 1) / 3 : Nat) : Int) ∧ (g = -1 ∨ g = 0 ∨ g = 1) ∧ (c' = if g = 0 then c else c + 1) ∧
    zD (e + 2) 257 19 [some (.inr (some 240)), some (.inl n), some (.inl w), some (.inl (k : Int)), some (.inl (c : Int)), some (.inl (m : Int))] [] J = zD (e + 2) 257 19 [some (.inr (some 240)), some (.inl n), some (.inl w), some (.inl ((k + 1 : Nat) : Int)), some (.inl (c' : Int)), some (.inl (((m + 1) / 3 : Nat) : Int))] [] (up J 271 k (if n < 0 then -g else g)) := by
  have z3 : zrem (m : Int) 3 = (m : Int) % 3 := zrem_nn (by omega) (by omega) (by omega) (by omega)
  have wk : wr ((k : Int) + 1) = ((k + 1 : Nat) : Int) := wr_id (by omega) (by omega)
  have wc : wr ((c : Int) + 1) = ((c + 1 : Nat) : Int) := wr_id (by omega) (by omega)
  have hk2 : 0 ≤ (k : Int) ∧ (k : Int) < 12 := by omega
  have dv : ∀ g : Int, (m : Int) - g = 3 * (((m + 1) / 3 : Nat) : Int) → (g = -1 ∨ g = 0 ∨ g = 1) → zdiv (wr ((m : Int) - g)) 3 = (((m + 1) / 3 : Nat) : Int) := by
    intro g hg hg2
    rw [wr_id (by omega) (by omega), zdiv_nn (by omega) (by omega) (by omega) (by omega)]
    omega
  have n1 : wr (- -1) = 1 := by decide
  have n0 : wr (-0) = 0 := by decide
  have n2 : wr (-1) = -1 := by decide
  have E := e_257_19 (d := e + 1) (I := J) (x1 := n) (x2 := w) (x3 := (k : Int)) (x4 := (c : Int)) (x5 := (m : Int))
  rw [if_pos (by omega), z3] at E
  simp only [if_pos hk2, Int.toNat_natCast, wk, wc] at E
  have hm : m % 3 = 0 ∨ m % 3 = 1 ∨ m % 3 = 2 := by omega
  rcases hm with hm | hm | hm
  · have hm2 : (m : Int) % 3 = 0 := by omega
    refine ⟨c, 0, by omega, by omega, by omega, rfl, ?_⟩
    rw [hm2] at E
    simp only [Int.reduceEq, if_false, if_true, n0, dv 0 (by omega) (by omega)] at E
    rw [E]
    split <;> rfl
  · have hm2 : (m : Int) % 3 = 1 := by omega
    refine ⟨c + 1, 1, by omega, by omega, by omega, rfl, ?_⟩
    rw [hm2] at E
    simp only [Int.reduceEq, if_false, if_true, n2, dv 1 (by omega) (by omega)] at E
    rw [E]
    split <;> rfl
  · have hm2 : (m : Int) % 3 = 2 := by omega
    refine ⟨c + 1, -1, by omega, by omega, by omega, rfl, ?_⟩
    rw [hm2] at E
    simp only [Int.reduceEq, if_false, if_true, n1, dv (-1) (by omega) (by omega)] at E
    rw [E]
    split <;> rfl
theorem hth_le : ∀ f, f ≤ 10 → hth f ≤ 29524 := by decide
theorem th_a {e : Nat} {n : Int} {j : Nat} : ∀ (f m k c : Nat) (J : zI), m ≤ hth f → k + f ≤ 12 → f ≤ 10 → c + f < 100 → j < k →
    ∃ J' : zI, (∀ a b, a ≠ 271 → J' a b = J a b) ∧ zD (e + 2) 257 19 [some (.inr (some 240)), some (.inl n), some (.inl (10 + (j : Int))), some (.inl (k : Int)), some (.inl (c : Int)), some (.inl (m : Int))] [] J = some (J 271 j, J') := by
  have fin : ∀ (k c : Nat) (J : zI), k ≤ 12 → j < k → ∃ J' : zI, (∀ a b, a ≠ 271 → J' a b = J a b) ∧ zD (e + 2) 257 19 [some (.inr (some 240)), some (.inl n), some (.inl (10 + (j : Int))), some (.inl (k : Int)), some (.inl (c : Int)), some (.inl ((0 : Nat) : Int))] [] J = some (J 271 j, J') := by
    intro k c J hk hj
    refine ⟨J, fun _ _ _ => rfl, ?_⟩
    rw [e_257_19, if_neg (by omega), if_neg (by omega), if_neg (by omega)]
    simp only [s_158, Option.bind_some, b01]
    rw [wr_id (z := 9 + (k : Int)) (by omega) (by omega), if_neg (by omega), wr_id (by omega) (by omega), if_pos (by omega), show (10 + (j : Int) - 10).toNat = j by omega]
  intro f
  induction f with
  | zero =>
    intro m k c J hm hk _ _ hj
    have : m = 0 := by unfold hth at hm; omega
    subst this
    exact fin k c J (by omega) hj
  | succ f ih =>
    intro m k c J hm hk hf hc hj
    by_cases h0 : m = 0
    · subst h0
      exact fin k c J (by omega) hj
    · have hb : m ≤ 29524 := Nat.le_trans hm (hth_le (f + 1) hf)
      have hm3 : (m + 1) / 3 ≤ hth f := by unfold hth at hm; omega
      clear hm
      obtain ⟨c', g, g1, g2, g3, g4, g5⟩ := th_m (e := e) (n := n) (w := 10 + (j : Int)) (J := J) (m := m) (k := k) (c := c) (by omega) (by omega) (by omega) (by omega)
      obtain ⟨J', f1, f2⟩ := ih ((m + 1) / 3) (k + 1) c' (up J 271 k (if n < 0 then -g else g)) hm3 (by omega) (by omega) (by omega) (by omega)
      refine ⟨J', fun a b h => by rw [f1 a b h, up_c h], ?_⟩
      rw [g5, f2, up_j (by omega)]
theorem th_b {d e : Nat} {I : zI} {n w : Int} {w0 : Option zV} (hw0 : 0 ≤ w) : ∀ (f m k c : Nat) (J : zI), m ≤ hth f → k + f ≤ 12 → f ≤ 10 → c + f < 100 → (w < 10 ∨ 10 + (k : Int) ≤ w) →
    ∃ (r : Int) (J' : zI), (∀ a b, a ≠ 271 → J' a b = J a b) ∧ zD (d + 2) 93 8 [w0, some (.inl w), some (.inl (if n < 0 then -(m : Int) else m)), some (.inl (k : Int)), some (.inl (c : Int)), some (.inl (k : Int))] [] I = some (r, I) ∧
      zD (e + 2) 257 19 [some (.inr (some 240)), some (.inl n), some (.inl w), some (.inl (k : Int)), some (.inl (c : Int)), some (.inl (m : Int))] [] J = some (r, J') := by
  have fin : ∀ (k c : Nat) (J : zI), k ≤ 12 → (w < 10 ∨ 10 + (k : Int) ≤ w) → ∃ (r : Int) (J' : zI), (∀ a b, a ≠ 271 → J' a b = J a b) ∧ zD (d + 2) 93 8 [w0, some (.inl w), some (.inl (if n < 0 then -((0 : Nat) : Int) else ((0 : Nat) : Int))), some (.inl (k : Int)), some (.inl (c : Int)), some (.inl (k : Int))] [] I = some (r, I) ∧
      zD (e + 2) 257 19 [some (.inr (some 240)), some (.inl n), some (.inl w), some (.inl (k : Int)), some (.inl (c : Int)), some (.inl ((0 : Nat) : Int))] [] J = some (r, J') := by
    intro k c J hk hw
    refine ⟨if w = 0 then k else if w = 1 then c else -2, J, fun _ _ _ => rfl, ?_, ?_⟩
    · have hz : (if n < 0 then -((0 : Nat) : Int) else ((0 : Nat) : Int)) = 0 := by split <;> rfl
      rw [hz, e_93_8, if_pos (by omega), if_pos rfl]
      (repeat' split) <;> rfl
    · rw [e_257_19, if_neg (by omega)]
      by_cases h0 : w = 0
      · rw [if_pos h0, if_pos h0]
      · by_cases h1 : w = 1
        · rw [if_neg h0, if_neg h0, if_pos h1, if_pos h1]
        · rw [if_neg h0, if_neg h0, if_neg h1, if_neg h1]
          simp only [s_158, Option.bind_some, b01]
          rw [wr_id (z := 9 + (k : Int)) (by omega) (by omega), if_pos (by omega)]
  intro f
  induction f with
  | zero =>
    intro m k c J hm hk _ _ hw
    have : m = 0 := by unfold hth at hm; omega
    subst this
    exact fin k c J (by omega) hw
  | succ f ih =>
    intro m k c J hm hk hf hc hw
    by_cases h0 : m = 0
    · subst h0
      exact fin k c J (by omega) hw
    · have hb : m ≤ 29524 := Nat.le_trans hm (hth_le (f + 1) hf)
      have hm3 : (m + 1) / 3 ≤ hth f := by unfold hth at hm; omega
      clear hm
      obtain ⟨c', g, g1, g2, g3, g4, g5⟩ := th_m (e := e) (n := n) (w := w) (J := J) (m := m) (k := k) (c := c) (by omega) (by omega) (by omega) (by omega)
      obtain ⟨v, hvd⟩ : ∃ v : Int, v = (if n < 0 then -(m : Int) else m) := ⟨_, rfl⟩
      obtain ⟨G, hGd⟩ : ∃ G : Int, G = (if n < 0 then -g else g) := ⟨_, rfl⟩
      have hva : (0 ≤ n ∧ v = (m : Int) ∧ G = g) ∨ (n < 0 ∧ v = -(m : Int) ∧ G = -g) := by
        by_cases hn : n < 0
        · exact .inr ⟨hn, by rw [hvd, if_pos hn], by rw [hGd, if_pos hn]⟩
        · exact .inl ⟨Int.not_lt.mp hn, by rw [hvd, if_neg hn], by rw [hGd, if_neg hn]⟩
      rw [← hGd] at g5
      rw [← hvd]
      have hm1 : 1 ≤ (m : Int) ∧ (m : Int) ≤ 29524 := by clear g1 g2 g3 g4 g5 hva hvd hGd ih fin hw hm3; omega
      have hv : ¬ v = 0 := by clear g1 g2 g3 g4 g5 hvd hGd ih fin hw hm3; omega
      have hvb : -29524 ≤ v ∧ v ≤ 29524 := by clear g1 g2 g3 g4 g5 hvd hGd ih fin hw hm3; omega
      have hg : wr ((v + 1) % 3 - 1) = G := by
        clear g1 g4 g5 hvd hGd ih fin hw hm3
        rw [wr_id (by omega) (by omega)]
        omega
      have hG0 : G = 0 ↔ g = 0 := by clear g1 g2 g4 g5 hvd hGd ih fin hw hm3; omega
      have hvg : (if n < 0 then -(((m + 1) / 3 : Nat) : Int) else (((m + 1) / 3 : Nat) : Int)) = zdiv (wr (v - G)) 3 := by
        clear g1 g4 g5 hvd hGd ih fin hw hm3
        rcases hva with ⟨hn, h1, h2⟩ | ⟨hn, h1, h2⟩
        · rw [if_neg (by omega), h1, h2, wr_id (by omega) (by omega), zdiv_nn (by omega) (by omega) (by omega) (by omega)]
          omega
        · rw [if_pos hn, h1, h2, wr_id (by omega) (by omega), show -(m : Int) - -g = -((m : Int) - g) by omega, zdiv_ng (by omega) (by omega) (by omega) (by omega)]
          omega
      have hk12 : (k : Int) < 12 ∧ k < 12 ∧ c < 1000 := by clear g1 g2 g3 g4 g5 hvd hGd ih fin hw hm3 hva; omega
      have q1 : (k + 1) + f ≤ 12 := by clear g1 g2 g3 g4 g5 hvd hGd ih fin hw hm3 hva; omega
      have q2 : f ≤ 10 := by clear g1 g2 g3 g4 g5 hvd hGd ih fin hw hm3 hva; omega
      have q3 : c' + f < 100 := by clear g2 g3 g4 g5 hvd hGd ih fin hw hm3 hva; omega
      have q5 : ¬ w = 10 + (k : Int) → w < 10 ∨ 10 + (((k + 1 : Nat)) : Int) ≤ w := by clear g1 g2 g3 g4 g5 hvd hGd ih fin hm3 hva; omega
      have q6 : -100000 ≤ v + 1 ∧ v + 1 ≤ 100000 ∧ wr (v + 1) = v + 1 := by
        clear g1 g2 g3 g4 g5 hvd hGd ih fin hw hm3 hva hg hvg
        exact ⟨by omega, by omega, wr_id (by omega) (by omega)⟩
      have w10 : wr (10 + (k : Int)) = 10 + (k : Int) := wr_id (by clear g1 g2 g3 g4 g5 hvd hGd ih fin hw hm3 hva; omega) (by clear g1 g2 g3 g4 g5 hvd hGd ih fin hw hm3 hva; omega)
      have E := e_93_8 (d := d + 1) (I := I) (w0 := w0) (x1 := w) (x2 := v) (x3 := (k : Int)) (x4 := (c : Int)) (x5 := (k : Int))
      rw [if_pos (Int.lt_trans hk12.1 (by decide)), if_neg hv, q6.2.2, s_293 q6.1 q6.2.1, Option.bind_some, hg, w10] at E
      have wk : wr ((k : Int) + 1) = ((k + 1 : Nat) : Int) := wr_id (by clear E w10; omega) (by clear E w10; omega)
      have wc : wr ((c : Int) + 1) = ((c + 1 : Nat) : Int) := wr_id (by clear E w10; omega) (by clear E w10; omega)
      rw [wk, wc, wr_n0 c hk12.2.2] at E
      by_cases hwk : w = 10 + (k : Int)
      · rw [if_pos hwk] at E
        subst hwk
        obtain ⟨J', f1, f2⟩ := th_a (e := e) (n := n) (j := k) f ((m + 1) / 3) (k + 1) c' (up J 271 k G) hm3 q1 q2 q3 (Nat.lt_succ_self k)
        refine ⟨G, J', fun a b h => by rw [f1 a b h, up_c h], E, ?_⟩
        rw [g5, f2, up_s]
      · rw [if_neg hwk] at E
        obtain ⟨r, J', f1, f2, f3⟩ := ih ((m + 1) / 3) (k + 1) c' (up J 271 k G) hm3 q1 q2 q3 (q5 hwk)
        refine ⟨r, J', fun a b h => by rw [f1 a b h, up_c h], ?_, by rw [g5, f3]⟩
        rw [hvg] at f2
        rw [E, ← f2]
        by_cases hg0 : g = 0
        · rw [if_pos (hG0.mpr hg0), g4, if_pos hg0]
        · rw [if_neg (fun q => hg0 (hG0.mp q)), g4, if_neg hg0]
theorem q_threes {I : zI} {n w : Int} (h : Rl I) : Pair 136 257 [.inl n, .inl w] I := by
  have E1 := e_136 (d := 59) (I := I) (x1 := n) (x2 := w)
  simp only [s_156, Option.bind_some, b01] at E1
  have E2 := e_257 (d := 59) (I := I) (x1 := n) (x2 := w)
  simp only [s_158, s_162, Option.bind_some, b01] at E2
  by_cases hn : -9999 ≤ n ∧ n ≤ 9999
  · rw [if_neg (not_not_intro hn)] at E1 E2
    have hm : (if n < 0 then wr (-n) else n) = (n.natAbs : Int) := by
      split
      · rw [wr_id (by omega) (by omega)]; omega
      · omega
    have hv : n = (if n < 0 then -(n.natAbs : Int) else n.natAbs) := by split <;> omega
    rw [hm] at E2
    by_cases hw : w < 0
    · rw [if_pos hw] at E1
      -- the model goes through, and then it is none of them
      have fin : ∀ (f m k c : Nat) (J : zI), m ≤ hth f → k + f ≤ 12 → f ≤ 10 → c + f < 100 → ∃ J' : zI, (∀ a b, a ≠ 271 → J' a b = J a b) ∧ zD (58 + 2) 257 19 [some (.inr (some 240)), some (.inl n), some (.inl w), some (.inl (k : Int)), some (.inl (c : Int)), some (.inl (m : Int))] [] J = some (-2, J') := by
        intro f
        have f0 : ∀ (k c : Nat) (J : zI), k ≤ 12 → ∃ J' : zI, (∀ a b, a ≠ 271 → J' a b = J a b) ∧ zD (58 + 2) 257 19 [some (.inr (some 240)), some (.inl n), some (.inl w), some (.inl (k : Int)), some (.inl (c : Int)), some (.inl ((0 : Nat) : Int))] [] J = some (-2, J') := by
          intro k c J hk
          refine ⟨J, fun _ _ _ => rfl, ?_⟩
          rw [e_257_19, if_neg (by omega), if_neg (by omega), if_neg (by omega)]
          simp only [s_158, Option.bind_some, b01]
          rw [wr_id (z := 9 + (k : Int)) (by omega) (by omega), if_pos (by omega)]
        induction f with
        | zero =>
          intro m k c J hm hk _ _
          have : m = 0 := by unfold hth at hm; omega
          subst this
          exact f0 k c J (by omega)
        | succ f ih =>
          intro m k c J hm hk hf hc
          by_cases h0 : m = 0
          · subst h0
            exact f0 k c J (by omega)
          · have hb : m ≤ 29524 := Nat.le_trans hm (hth_le (f + 1) hf)
            have hm3 : (m + 1) / 3 ≤ hth f := by unfold hth at hm; omega
            clear hm
            obtain ⟨c', g, g1, g2, g3, g4, g5⟩ := th_m (e := 58) (n := n) (w := w) (J := J) (m := m) (k := k) (c := c) (by omega) (by omega) (by omega) (by omega)
            obtain ⟨J', f1, f2⟩ := ih ((m + 1) / 3) (k + 1) c' (up J 271 k (if n < 0 then -g else g)) hm3 (by omega) (by omega) (by omega)
            exact ⟨J', fun a b h => by rw [f1 a b h, up_c h], by rw [g5, f2]⟩
      obtain ⟨J', f1, f2⟩ := fin 10 n.natAbs 0 0 (up I 240 0 0) (by rw [show hth 10 = 29524 from rfl]; omega) (by omega) (by omega) (by omega)
      exact Pair_of h E1 (E2.trans f2) (Ag_tr Ag_0 fun a b h1 _ => f1 a b fun e => by subst e; revert h1; decide)
    · rw [if_neg hw] at E1
      obtain ⟨r, J', f1, f2, f3⟩ := th_b (d := 57) (e := 58) (I := I) (n := n) (w := w) (w0 := some (.inl n)) (by omega) 10 n.natAbs 0 0 (up I 240 0 0) (by rw [show hth 10 = 29524 from rfl]; omega) (by omega) (by omega) (by omega) (by omega)
      rw [← hv] at f2
      refine Pair_of h (r := r) (I1 := I) ?_ (E2.trans f3) (Ag_tr Ag_0 fun a b h1 _ => f1 a b fun e => by subst e; revert h1; decide)
      rw [E1, e_93]
      exact congrArg (fun o => Option.bind o _) f2
  · rw [if_pos hn] at E1 E2
    exact Pair_of h E1 E2 Ag_0
