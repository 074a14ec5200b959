/-! HOW MANY BITS -/
def zbc (x : Int) : Int := (zand (wr ((wr ((zand (wr ((wr ((zand (wr (x - (zand (zushr x 1) 1431655765))) 858993459) + (zand (zushr (wr (x - (zand (zushr x 1) 1431655765))) 2) 858993459))) + (zushr (wr ((zand (wr (x - (zand (zushr x 1) 1431655765))) 858993459) + (zand (zushr (wr (x - (zand (zushr x 1) 1431655765))) 2) 858993459))) 4))) 252645135) + (zushr (zand (wr ((wr ((zand (wr (x - (zand (zushr x 1) 1431655765))) 858993459) + (zand (zushr (wr (x - (zand (zushr x 1) 1431655765))) 2) 858993459))) + (zushr (wr ((zand (wr (x - (zand (zushr x 1) 1431655765))) 858993459) + (zand (zushr (wr (x - (zand (zushr x 1) 1431655765))) 2) 858993459))) 4))) 252645135) 8))) + (zushr (wr ((zand (wr ((wr ((zand (wr (x - (zand (zushr x 1) 1431655765))) 858993459) + (zand (zushr (wr (x - (zand (zushr x 1) 1431655765))) 2) 858993459))) + (zushr (wr ((zand (wr (x - (zand (zushr x 1) 1431655765))) 858993459) + (zand (zushr (wr (x - (zand (zushr x 1) 1431655765))) 2) 858993459))) 4))) 252645135) + (zushr (zand (wr ((wr ((zand (wr (x - (zand (zushr x 1) 1431655765))) 858993459) + (zand (zushr (wr (x - (zand (zushr x 1) 1431655765))) 2) 858993459))) + (zushr (wr ((zand (wr (x - (zand (zushr x 1) 1431655765))) 858993459) + (zand (zushr (wr (x - (zand (zushr x 1) 1431655765))) 2) 858993459))) 4))) 252645135) 8))) 16))) 63)
def zpc : Nat → Nat → Nat
  | 0, _ => 0
  | f + 1, s => if s = 0 then 0 else 1 + zpc f (s &&& (s - 1))
theorem zpc_ok : ∀ h, h < 64 → ∀ l, l < 64 → (64 * h + l = 0 ∨ (zpc 13 (64 * h + l) = 1 + zpc 13 ((64 * h + l) &&& (64 * h + l - 1)) ∧ ((64 * h + l) &&& (64 * h + l - 1)) < 64 * h + l)) ∧ zbc ((64 * h + l : Nat) : Int) = (zpc 13 (64 * h + l) : Int) := by decide +kernel
theorem zpc_s {s : Nat} (hs : s < 4096) : (s = 0 ∨ (zpc 13 s = 1 + zpc 13 (s &&& (s - 1)) ∧ (s &&& (s - 1)) < s)) ∧ zbc (s : Int) = (zpc 13 s : Int) := by
  have := zpc_ok (s / 64) (by omega) (s % 64) (by omega)
  rw [show 64 * (s / 64) + s % 64 = s by omega] at this
  exact this
theorem s_292 {d s : Nat} {I : zI} (hs : s < 4096) : cl (d + 1) 292 [.inl (s : Int)] I = some ((zpc 13 s : Int), I) := by
  rw [e_292, ← (zpc_s hs).2]
  rfl
theorem s_164_4 {e : Nat} {w0 w1 : Option zV} {I : zI} : ∀ (n s : Nat) (x : Int), s ≤ n → s < 4096 → 0 ≤ x → x + (n : Int) < 100000 → zD (e + 1) 164 4 [w0, w1, some (.inl x), some (.inl (s : Int))] [] I = some (x + (zpc 13 s : Int), I) := by
  intro n
  induction n with
  | zero =>
    intro s x hs h2 h3 h4
    have e : s = 0 := by omega
    subst e
    rw [e_164_4, if_pos (by decide)]
    have : (zpc 13 0 : Int) = 0 := by decide +kernel
    rw [this, Int.add_zero]
  | succ n ih =>
    intro s x hs h2 h3 h4
    by_cases e : s = 0
    · subst e
      rw [e_164_4, if_pos (by decide)]
      have : (zpc 13 0 : Int) = 0 := by decide +kernel
      rw [this, Int.add_zero]
    · rcases (zpc_s h2).1 with q | ⟨q1, q2⟩
      · exact absurd q e
      · have h0 : s &&& (s - 1) < 4096 := by omega
        have := ih (s &&& (s - 1)) (x + 1) (by omega) h0 (by omega) (by omega)
        rw [e_164_4, if_neg (by omega), wr_id (z := (s : Int) - 1) (by omega) (by omega), show (s : Int) - 1 = ((s - 1 : Nat) : Int) by omega, zand_n (by omega) (by omega), wr_id (by omega) (by omega), this, q1]
        congr 2
        omega
theorem s_164 {e s : Nat} {I : zI} (hs : s < 4096) : cl (e + 1) 164 [.inr (some 240), .inl (s : Int)] I = some ((zpc 13 s : Int), I) := by
  rw [e_164, s_164_4 s s 0 (Nat.le_refl s) hs (by decide) (by omega), Int.zero_add]
theorem zdp_n (p : Nat → Bool) : ∀ n, n ≤ 12 → ∃ m : Nat, m < 2 ^ n ∧ zdp p n = (m : Int)
  | 0, _ => ⟨0, by decide, rfl⟩
  | n + 1, hn => by
    obtain ⟨m, h1, h2⟩ := zdp_n p n (by omega)
    have e3 : 2 ^ n ≤ 2 ^ 11 := Nat.pow_le_pow_right (by decide) (by omega)
    have e2 : 2 ^ (n + 1) = 2 * 2 ^ n := by rw [Nat.pow_succ, Nat.mul_comm]
    have e4 : (2 : Nat) ^ 11 = 2048 := by decide
    rw [zdp]
    by_cases q : p n = true
    · rw [if_pos q, h2, show (1 : Int) = ((1 : Nat) : Int) from rfl, zshl_n (by omega) (by omega) (by rw [Nat.shiftLeft_eq, Nat.one_mul]; omega), zor_n (by omega) (by rw [Nat.shiftLeft_eq, Nat.one_mul]; omega)]
      refine ⟨_, Nat.or_lt_two_pow (by omega) ?_, rfl⟩
      rw [Nat.shiftLeft_eq, Nat.one_mul]
      omega
    · rw [if_neg q]
      exact ⟨m, by omega, h2⟩
theorem zdp_lt (p : Nat → Bool) {n : Nat} (hn : n ≤ 12) : ∃ m : Nat, m < 4096 ∧ zdp p n = (m : Int) := by
  obtain ⟨m, h1, h2⟩ := zdp_n p n hn
  have e3 : 2 ^ n ≤ 2 ^ 12 := Nat.pow_le_pow_right (by decide) hn
  exact ⟨m, by omega, h2⟩
