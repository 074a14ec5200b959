/-! SCRATCHING -/
def cnx (v : Nat) : Nat := if v % 2 = 0 then v / 2 else 3 * v + 1
def cre : Nat → Nat → Prop
  | 0, v => v = 1
  | f + 1, v => v = 1 ∨ (1 ≤ v ∧ v < 700000000 ∧ cre f (cnx v))
theorem cre_mono : ∀ (f g v : Nat), f ≤ g → cre f v → cre g v
  | 0, 0, _, _, h => h
  | 0, g + 1, _, _, h => Or.inl h
  | f + 1, 0, _, h, _ => absurd h (by omega)
  | f + 1, g + 1, v, hfg, h => by
    rcases h with h | ⟨h1, h2, h3⟩
    · exact Or.inl h
    · exact Or.inr ⟨h1, h2, cre_mono f g _ (by omega) h3⟩
/-- from v on it comes below n, soon enough -/
def cdr : Nat → Nat → Nat → Nat → Bool
  | 0, _, _, _ => false
  | f + 1, s, n, v => if v < n then decide (s ≤ 99 * (n - v)) else (decide (v < 700000000) && cdr f (s + 1) n (cnx v))
theorem cdr_0 : ((List.range 2500).all fun n => decide (n < 2) || cdr 140 0 n n) = true := by decide +kernel
theorem cdr_1 : ((List.range 2500).all fun n => cdr 140 0 (2500 + n) (2500 + n)) = true := by decide +kernel
theorem cdr_2 : ((List.range 2500).all fun n => cdr 140 0 (5000 + n) (5000 + n)) = true := by decide +kernel
theorem cdr_3 : ((List.range 2500).all fun n => cdr 140 0 (7500 + n) (7500 + n)) = true := by decide +kernel
theorem cdr_all (n : Nat) (h1 : 2 ≤ n) (h2 : n < 10000) : cdr 140 0 n n = true := by
  by_cases k1 : n < 2500
  · have := List.all_eq_true.mp cdr_0 n (List.mem_range.mpr k1)
    simpa [show ¬ n < 2 by omega] using this
  · by_cases k2 : n < 5000
    · have := List.all_eq_true.mp cdr_1 (n - 2500) (List.mem_range.mpr (by omega))
      rwa [show 2500 + (n - 2500) = n by omega] at this
    · by_cases k3 : n < 7500
      · have := List.all_eq_true.mp cdr_2 (n - 5000) (List.mem_range.mpr (by omega))
        rwa [show 5000 + (n - 5000) = n by omega] at this
      · have := List.all_eq_true.mp cdr_3 (n - 7500) (List.mem_range.mpr (by omega))
        rwa [show 7500 + (n - 7500) = n by omega] at this
theorem cdr_cre {n : Nat} (hn : 2 ≤ n) (ih : ∀ m, 1 ≤ m → m < n → cre (99 * m) m) : ∀ (f s v : Nat), s + f ≤ 140 → 1 ≤ v → cdr f s n v = true → cre (99 * n - s) v
  | 0, s, v, _, _, h => by cases h
  | f + 1, s, v, hs, hv, h => by
    unfold cdr at h
    by_cases hlt : v < n
    · rw [if_pos hlt] at h
      have h := of_decide_eq_true h
      exact cre_mono (99 * v) _ v (by omega) (ih v hv hlt)
    · rw [if_neg hlt, Bool.and_eq_true] at h
      have h1 := of_decide_eq_true h.1
      have h2 := cdr_cre hn ih f (s + 1) (cnx v) (by omega) (by unfold cnx; split <;> omega) h.2
      obtain ⟨k, hk⟩ : ∃ k, 99 * n - s = k + 1 := ⟨99 * n - s - 1, by omega⟩
      rw [hk]
      exact Or.inr ⟨hv, h1, by rwa [show k = 99 * n - (s + 1) by omega]⟩
theorem cre_all : ∀ (n : Nat), 1 ≤ n → n < 10000 → cre (99 * n) n := by
  intro n
  induction n using Nat.strongRecOn with
  | ind n ih =>
    intro h1 h2
    by_cases hn : n = 1
    · subst hn
      exact Or.inl rfl
    · have := cdr_cre (n := n) (by omega) (fun m hm hm2 => ih m hm2 hm (by omega)) 140 0 n (by omega) h1 (cdr_all n (by omega) h2)
      rwa [Nat.sub_zero] at this
theorem sc_in {d e : Nat} {I J : zI} {w : Int} {w0 w1 : Option zV} : ∀ (f v s : Nat) (g : Int), cre f v → s + f < 1000000 →
    ∃ r : Int, zD (d + 2) 92 6 [w0, some (.inl w), some (.inl (v : Int)), some (.inl g), some (.inl (s : Int))] [] I = some (r, I) ∧
      zD (e + 2) 256 23 [some (.inr (some 240)), w1, some (.inl w), some (.inl (s : Int)), some (.inl g), some (.inl (v : Int))] [] J = some (r, J) := by
  have one : ∀ (s : Nat) (g : Int), ∃ r : Int, zD (d + 2) 92 6 [w0, some (.inl w), some (.inl ((1 : Nat) : Int)), some (.inl g), some (.inl (s : Int))] [] I = some (r, I) ∧
      zD (e + 2) 256 23 [some (.inr (some 240)), w1, some (.inl w), some (.inl (s : Int)), some (.inl g), some (.inl ((1 : Nat) : Int))] [] J = some (r, J) := by
    intro s g
    refine ⟨if w = 0 then s else g, ?_, ?_⟩
    · rw [e_92_6, if_neg (by omega)]
      split <;> rfl
    · rw [e_256_23, if_pos (by omega)]
      split <;> rfl
  intro f
  induction f with
  | zero =>
    intro v s g hv hs
    have hv : v = 1 := hv
    subst hv
    exact one s g
  | succ f ih =>
    intro v s g hv hs
    by_cases h1 : v = 1
    · subst h1
      exact one s g
    · rcases hv with hv | ⟨hv1, hv2, hv3⟩
      · exact absurd hv h1
      · have z2 : zrem (v : Int) 2 = (v : Int) % 2 := zrem_nn (by omega) (by omega) (by omega) (by omega)
        have ws : wr ((s : Int) + 1) = ((s + 1 : Nat) : Int) := wr_id (by omega) (by omega)
        by_cases hp : v % 2 = 0
        · have d2 : zdiv (v : Int) 2 = ((v / 2 : Nat) : Int) := by rw [zdiv_nn (by omega) (by omega) (by omega) (by omega)]; omega
          have hc : cnx v = v / 2 := if_pos hp
          rw [hc] at hv3
          obtain ⟨r, f1, f2⟩ := ih (v / 2) (s + 1) (max g ((v / 2 : Nat) : Int)) hv3 (by omega)
          refine ⟨r, ?_, ?_⟩
          · rw [← f1, e_92_6, if_pos (by omega), if_pos (by omega), z2, if_pos (by omega), s_295, Option.bind_some, d2, ws]
          · rw [← f2, e_256_23, if_neg (by omega), z2, if_pos (by omega), s_160, Option.bind_some, d2, ws]
        · have w3 : wr (wr (3 * (v : Int)) + 1) = ((3 * v + 1 : Nat) : Int) := by
            rw [wr_id (z := 3 * (v : Int)) (by omega) (by omega), wr_id (by omega) (by omega)]
            omega
          have hc : cnx v = 3 * v + 1 := if_neg hp
          rw [hc] at hv3
          obtain ⟨r, f1, f2⟩ := ih (3 * v + 1) (s + 1) (max g ((3 * v + 1 : Nat) : Int)) hv3 (by omega)
          refine ⟨r, ?_, ?_⟩
          · rw [← f1, e_92_6, if_pos (by omega), if_pos (by omega), z2, if_neg (by omega), s_295, Option.bind_some, w3, ws]
          · rw [← f2, e_256_23, if_neg (by omega), z2, if_neg (by omega), s_160, Option.bind_some, w3, ws]
theorem q_scratch {I : zI} {n w : Int} (h : Rl I) : Pair 135 256 [.inl n, .inl w] I := by
  by_cases hc : (1 ≤ n ∧ n ≤ 9999) ∧ 0 ≤ w ∧ w ≤ 1
  · obtain ⟨r, f1, f2⟩ := sc_in (d := 57) (e := 58) (I := I) (J := up I 240 0 0) (w := w) (w0 := some (.inl n)) (w1 := some (.inl n)) (99 * n.toNat) n.toNat 0 n (cre_all n.toNat (by omega) (by omega)) (by omega)
    rw [show ((n.toNat : Nat) : Int) = n by omega] at f1 f2
    refine Pair_of h (I1 := I) (I2 := up I 240 0 0) (r := r) ?_ ?_ Ag_0
    · rw [e_135]
      simp only [s_156, Option.bind_some, b01]
      rw [if_neg (not_not_intro hc.1), if_neg (not_not_intro hc.2), e_92]
      exact congrArg (fun o => Option.bind o _) f1
    · rw [e_256]
      simp only [s_158, Option.bind_some, b01]
      rw [if_neg (not_not_intro hc.1), if_neg (not_not_intro hc.2)]
      exact f2
  · refine Pair_of h (I1 := I) (I2 := up I 240 0 0) (r := -1) ?_ ?_ Ag_0
    · rw [e_135]
      simp only [s_156, Option.bind_some, b01]
      (repeat' split) <;> first | rfl | (exfalso; omega)
    · rw [e_256]
      simp only [s_158, Option.bind_some, b01]
      (repeat' split) <;> first | rfl | (exfalso; omega)
