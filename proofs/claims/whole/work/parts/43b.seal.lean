/-! HEIRS -/
def zsn (f : Nat → Nat) : Nat → Nat
  | 0 => 0
  | n + 1 => zsn f n + f n
def zcnt (p : Nat → Bool) : Nat → Nat
  | 0 => 0
  | n + 1 => zcnt p n + (if p n = true then 1 else 0)
theorem zcnt_cg {p q : Nat → Bool} : ∀ n, (∀ k, k < n → p k = q k) → zcnt p n = zcnt q n
  | 0, _ => rfl
  | n + 1, h => by rw [zcnt, zcnt, h n (by omega), zcnt_cg n fun k hk => h k (by omega)]
theorem zcnt_le {p q : Nat → Bool} : ∀ n, (∀ k, k < n → p k = true → q k = true) → zcnt p n ≤ zcnt q n
  | 0, _ => Nat.le_refl _
  | n + 1, h => by
    have h1 := zcnt_le (p := p) (q := q) n fun k hk => h k (by omega)
    have h2 := h n (by omega)
    rw [zcnt, zcnt]
    by_cases hp : p n = true
    · rw [if_pos hp, if_pos (h2 hp)]; omega
    · rw [if_neg hp]; omega
theorem zcnt_lt {p q : Nat → Bool} : ∀ n, (∀ k, k < n → p k = true → q k = true) → ∀ b, b < n → p b = false → q b = true → zcnt p n < zcnt q n
  | 0, _, b, hb, _, _ => absurd hb (by omega)
  | n + 1, h, b, hb, h1, h2 => by
    rw [zcnt, zcnt]
    by_cases e : b = n
    · subst e
      have := zcnt_le (p := p) (q := q) b fun k hk => h k (by omega)
      rw [h1, h2]
      simp
      omega
    · have := zcnt_lt n (fun k hk => h k (by omega)) b (by omega) h1 h2
      have h3 := h n (by omega)
      by_cases hp : p n = true
      · rw [if_pos hp, if_pos (h3 hp)]; omega
      · rw [if_neg hp]; omega
theorem zcnt_in {p q : Nat → Bool} {b : Nat} (h1 : p b = false) (h2 : q b = true) (h3 : ∀ k, k ≠ b → q k = p k) : ∀ n, b < n → zcnt q n = zcnt p n + 1
  | 0, hb => absurd hb (by omega)
  | n + 1, hb => by
    rw [zcnt, zcnt]
    by_cases e : b = n
    · subst e
      rw [h1, h2, zcnt_cg b fun k hk => h3 k (by omega)]
      simp
    · rw [h3 n (fun q => e q.symm), zcnt_in h1 h2 h3 n (by omega)]
      omega
theorem zcnt_all {p : Nat → Bool} : ∀ n, (∀ k, k < n → p k = true) → zcnt p n = n
  | 0, _ => rfl
  | n + 1, h => by rw [zcnt, h n (by omega), zcnt_all n fun k hk => h k (by omega)]; simp
theorem zcnt_no {p : Nat → Bool} : ∀ n, (∀ k, k < n → p k = false) → zcnt p n = 0
  | 0, _ => rfl
  | n + 1, h => by rw [zcnt, h n (by omega), zcnt_no n fun k hk => h k (by omega)]; simp
theorem zcnt_in2 {p q : Nat → Bool} {b n : Nat} (h1 : p b = false) (h2 : q b = true) (hb : b < n) (h3 : ∀ k, k < n → k ≠ b → q k = p k) : zcnt q n = zcnt p n + 1 := by
  have h := zcnt_in (p := fun k => decide (k < n) && p k) (q := fun k => decide (k < n) && q k) (b := b) (by simp [h1]) (by simp [h2, hb]) (fun k hk => by
    by_cases hkn : k < n
    · simp [hkn, h3 k hkn hk]
    · simp [hkn]) n hb
  have e1 : zcnt (fun k => decide (k < n) && q k) n = zcnt q n := zcnt_cg n fun k hk => by simp [hk]
  have e2 : zcnt (fun k => decide (k < n) && p k) n = zcnt p n := zcnt_cg n fun k hk => by simp [hk]
  rw [e1, e2] at h
  exact h
/-- k is ahead of i -/
def bet (r : Nat → Nat) (k i : Nat) : Bool := decide (r i < r k ∨ (r k = r i ∧ k < i))
def rnk (r : Nat → Nat) (s i : Nat) : Nat := zcnt (fun k => bet r k i) s
theorem bet_lt {r : Nat → Nat} {s k i : Nat} (hk : k < s) (h : bet r k i = true) : rnk r s k < rnk r s i := by
  have h := of_decide_eq_true h
  refine zcnt_lt s (fun j _ hj => ?_) k hk ?_ (decide_eq_true h)
  · have hj := of_decide_eq_true hj
    exact decide_eq_true (by omega)
  · exact decide_eq_false (by omega)
theorem bet_or (r : Nat → Nat) {k i : Nat} (h : k ≠ i) : bet r k i = true ∨ bet r i k = true := by
  unfold bet
  simp only [decide_eq_true_eq]
  omega
theorem rnk_ne {r : Nat → Nat} {s k i : Nat} (hk : k < s) (hi : i < s) (h : k ≠ i) : rnk r s k ≠ rnk r s i := by
  rcases bet_or r h with h1 | h1
  · have := bet_lt hk h1; omega
  · have := bet_lt hi h1; omega
/-- the greatest, the first of several -/
def fmx (T : Nat → Int) : Nat → Nat → Nat → Nat
  | 0, _, b => b
  | m + 1, i, b => if T b < T i then fmx T m (i + 1) i else fmx T m (i + 1) b
theorem fmx_ok {T : Nat → Int} {s : Nat} : ∀ (m i b : Nat), i + m = s → b < i → (∀ k, k < i → T k ≤ T b ∧ (k < b → T k < T b)) → fmx T m i b < s ∧ ∀ k, k < s → T k ≤ T (fmx T m i b) ∧ (k < fmx T m i b → T k < T (fmx T m i b))
  | 0, i, b, hi, hb, h => ⟨by rw [fmx]; omega, fun k hk => h k (by omega)⟩
  | m + 1, i, b, hi, hb, h => by
    rw [fmx]
    by_cases hq : T b < T i
    · rw [if_pos hq]
      refine fmx_ok m (i + 1) i (by omega) (by omega) fun k hk => ?_
      by_cases e : k = i
      · subst e; exact ⟨Int.le_refl _, fun q => absurd q (by omega)⟩
      · have := h k (by omega)
        exact ⟨by omega, fun _ => by omega⟩
    · rw [if_neg hq]
      refine fmx_ok m (i + 1) b (by omega) (by omega) fun k hk => ?_
      by_cases e : k = i
      · subst e; exact ⟨by omega, fun q => absurd q (by omega)⟩
      · exact h k (by omega)
/-- one step: who has rank g is taken -/
theorem fmx_rnk {r : Nat → Nat} {s g : Nat} {T : Nat → Int} (hs : 0 < s) (hT : ∀ k, k < s → T k = if rnk r s k < g then -1 else (r k : Int)) (hc : zcnt (fun k => decide (rnk r s k < g)) s = g) (hg : g < s) :
    fmx T (s - 1) 1 0 < s ∧ rnk r s (fmx T (s - 1) 1 0) = g := by
  obtain ⟨b1, b2⟩ := fmx_ok (T := T) (s := s) (s - 1) 1 0 (by omega) (by omega) (fun k hk => by rw [show k = 0 by omega]; exact ⟨Int.le_refl _, fun q => absurd q (by omega)⟩)
  generalize fmx T (s - 1) 1 0 = b at *
  refine ⟨b1, ?_⟩
  have ex : ∃ k, k < s ∧ ¬ rnk r s k < g := by
    apply Classical.byContradiction
    intro q
    have : zcnt (fun k => decide (rnk r s k < g)) s = s := zcnt_all s fun k hk => decide_eq_true (Classical.byContradiction fun q2 => q ⟨k, hk, q2⟩)
    omega
  obtain ⟨k0, k1, k2⟩ := ex
  have hb : ¬ rnk r s b < g := by
    intro q
    have e1 := hT b b1
    rw [if_pos q] at e1
    have e2 := hT k0 k1
    rw [if_neg k2] at e2
    have := (b2 k0 k1).1
    omega
  have eb := hT b b1
  rw [if_neg hb] at eb
  have key : ∀ k, k < s → bet r k b = decide (rnk r s k < g) := by
    intro k hk
    by_cases hkg : rnk r s k < g
    · rw [decide_eq_true hkg]
      by_cases e : k = b
      · subst e; exact absurd hkg hb
      · rcases bet_or r e with h | h
        · exact h
        · have := bet_lt b1 h; omega
    · rw [decide_eq_false hkg]
      have ek := hT k hk
      rw [if_neg hkg] at ek
      have h2 := b2 k hk
      unfold bet
      refine decide_eq_false ?_
      rintro (q | ⟨q1, q2⟩)
      · omega
      · have := h2.2 q2; omega
  unfold rnk
  rw [zcnt_cg s key]
  exact hc
/-! sums -/
theorem zsn_mul {v : Nat → Nat} {l A : Nat} (hA : 0 < A) : ∀ n, A * zsn (fun k => l * v k / A) n + zsn (fun k => l * v k % A) n = l * zsn v n
  | 0 => by simp [zsn]
  | n + 1 => by
    have h := zsn_mul (v := v) (l := l) hA n
    have h2 := Nat.div_add_mod (l * v n) A
    rw [zsn, zsn, zsn, Nat.mul_add, Nat.mul_add]
    omega
theorem zsn_lt {f : Nat → Nat} {A : Nat} (hA : 0 < A) : ∀ n, (∀ k, k < n → f k < A) → 0 < n → zsn f n < n * A
  | 0, _, h => absurd h (by omega)
  | n + 1, h, _ => by
    rw [zsn, Nat.succ_mul]
    by_cases hn : n = 0
    · subst hn
      have := h 0 (by omega)
      simp [zsn]
      omega
    · have h1 := zsn_lt hA n (fun k hk => h k (by omega)) (by omega)
      have h2 := h n (by omega)
      omega
theorem zsn_le {f : Nat → Nat} {c : Nat} : ∀ n, (∀ k, k < n → f k ≤ c) → zsn f n ≤ n * c
  | 0, _ => by simp [zsn]
  | n + 1, h => by
    have h1 := zsn_le (f := f) (c := c) n fun k hk => h k (by omega)
    have h2 := h n (by omega)
    rw [zsn, Nat.succ_mul]
    omega
theorem zsn_mem {f : Nat → Nat} : ∀ n k, k < n → f k ≤ zsn f n
  | 0, k, h => absurd h (by omega)
  | n + 1, k, h => by
    rw [zsn]
    by_cases e : k = n
    · subst e; omega
    · have := zsn_mem (f := f) n k (by omega); omega
theorem zsn_up {f : Nat → Nat} {n : Nat} : ∀ m, n ≤ m → zsn f n ≤ zsn f m
  | 0, h => by rw [show n = 0 by omega]; exact Nat.le_refl _
  | m + 1, h => by
    by_cases e : n = m + 1
    · rw [e]; exact Nat.le_refl _
    · have := zsn_up (f := f) (n := n) m (by omega)
      rw [zsn]; omega
theorem zsn_left {v : Nat → Nat} {l s : Nat} (hA : 0 < zsn v s) (hs : 0 < s) : zsn (fun k => l * v k / zsn v s) s ≤ l ∧ l - zsn (fun k => l * v k / zsn v s) s < s := by
  have h1 := zsn_mul (v := v) (l := l) hA s
  have h2 := zsn_lt (f := fun k => l * v k % zsn v s) hA s (fun k _ => Nat.mod_lt _ hA) hs
  generalize zsn (fun k => l * v k / zsn v s) s = F at *
  generalize zsn (fun k => l * v k % zsn v s) s = R at *
  generalize zsn v s = A at *
  have hF : F ≤ l := by
    apply Classical.byContradiction
    intro q
    have : A * (l + 1) ≤ A * F := Nat.mul_le_mul_left A (by omega)
    rw [Nat.mul_add, Nat.mul_comm A l] at this
    omega
  refine ⟨hF, ?_⟩
  apply Classical.byContradiction
  intro q
  have : s * A ≤ (l - F) * A := Nat.mul_le_mul_right A (by omega)
  rw [Nat.sub_mul, Nat.mul_comm F A] at this
  omega
/-- what an heir has -/
def hsh (v : Nat → Nat) (s l i : Nat) : Nat := l * v i / zsn v s + (if rnk (fun k => l * v k % zsn v s) s i < l - zsn (fun k => l * v k / zsn v s) s then 1 else 0)
theorem mul_sm {a b : Nat} (ha : a ≤ 300) (hb : b ≤ 50) : a * b ≤ 15000 := Nat.le_trans (Nat.mul_le_mul ha hb) (by decide)
theorem s_81 {d s : Nat} {v : Nat → Nat} {K : zI} (hs : K 58 2 = s) (h1 : s ≤ 6) (hv : ∀ j, j < s → K 59 j = v j ∧ v j ≤ 50) : cl (d + 1) 81 [.inr (some 58)] K = some (((zsn v s : Nat) : Int), K) := by
  rw [e_81 r_58]
  refine zloop (n := s) (P := fun k => zD (d + 1) 81 4 [some (.inr (some 58)), some (.inl ((zsn v k : Nat) : Int)), some (.inl (k : Int))] [] K) (fun k hk => ?_) ?_
  · show zD _ _ _ _ _ _ = zD _ _ _ _ _ _
    have h2 := zsn_le (f := v) (c := 50) k (fun j hj => (hv j (by omega)).2)
    have h3 := hv k hk
    rw [e_81_4 r_58, if_pos (by omega), if_pos (by omega)]
    simp only [Nat.reduceAdd, Int.toNat_natCast]
    rw [h3.1, wr_id (z := (k : Int) + 1) (by omega) (by omega), wr_id (by omega) (by omega), zsn]
    rfl
  · show zD _ _ _ _ _ _ = _
    rw [e_81_4 r_58, if_neg (by omega)]
theorem s_279 {e s l i : Nat} {v : Nat → Nat} {J : zI} (hs : J 240 69 = s) (h1 : s ≤ 6) (hl : l ≤ 300) (hi : i < s) (hv : ∀ j, j < s → J 280 j = v j ∧ 1 ≤ v j ∧ v j ≤ 50) : cl (e + 1) 279 [.inr (some 240), .inl (l : Int), .inl (i : Int)] J = some (((hsh v s l i : Nat) : Int), J) := by
  rw [e_279]
  have a1 : zD (e + 1) 279 4 [some (.inr (some 240)), some (.inl (l : Int)), some (.inl (i : Int)), some (.inl 0), some (.inl 0)] [] J = zD (e + 1) 279 23 [some (.inr (some 240)), some (.inl (l : Int)), some (.inl (i : Int)), some (.inl ((zsn v s : Nat) : Int)), some (.inl (l : Int)), some (.inl 0), some (.inl 0)] [] J := by
    refine zloop (n := s) (P := fun k => zD (e + 1) 279 4 [some (.inr (some 240)), some (.inl (l : Int)), some (.inl (i : Int)), some (.inl ((zsn v k : Nat) : Int)), some (.inl (k : Int))] [] J) (fun k hk => ?_) ?_
    · show zD _ _ _ _ _ _ = zD _ _ _ _ _ _
      have h2 := zsn_le (f := v) (c := 50) k (fun j hj => (hv j (by omega)).2.2)
      have h3 := hv k hk
      rw [e_279_4, if_pos (by omega), if_pos (by omega), Int.toNat_natCast, h3.1, wr_id (z := (k : Int) + 1) (by omega) (by omega), wr_id (by omega) (by omega), zsn]
      rfl
    · show zD _ _ _ _ _ _ = _
      rw [e_279_4, if_neg (by omega)]
  rw [a1]
  have hA := zsn_mem (f := v) s i hi
  have hA2 := hv i hi
  have hA3 := zsn_le (f := v) (c := 50) s (fun j hj => (hv j hj).2.2)
  have hlf := zsn_left (v := v) (l := l) (s := s) (by omega) (by omega)
  have p : ∀ k, k < s → wr ((l : Int) * J 280 k) = ((l * v k : Nat) : Int) := by
    intro k hk
    have h3 := hv k hk
    have h4 := mul_sm (a := l) (b := v k) hl h3.2.2
    rw [h3.1, ← Int.natCast_mul, wr_id (by omega) (by omega)]
  have pz : ∀ k, k < s → zdiv (wr ((l : Int) * J 280 k)) ((zsn v s : Nat) : Int) = ((l * v k / zsn v s : Nat) : Int) := by
    intro k hk
    have h4 := mul_sm (a := l) (b := v k) hl (hv k hk).2.2
    rw [p k hk, zdiv_nn (by omega) (by omega) (by omega) (by omega)]; rfl
  have pr : ∀ k, k < s → zrem (wr ((l : Int) * J 280 k)) ((zsn v s : Nat) : Int) = ((l * v k % zsn v s : Nat) : Int) := by
    intro k hk
    have h4 := mul_sm (a := l) (b := v k) hl (hv k hk).2.2
    rw [p k hk, zrem_nat (by omega) (by omega) (by omega)]
  have a2 : zD (e + 1) 279 23 [some (.inr (some 240)), some (.inl (l : Int)), some (.inl (i : Int)), some (.inl ((zsn v s : Nat) : Int)), some (.inl (l : Int)), some (.inl 0), some (.inl 0)] [] J =
      zD (e + 1) 279 23 [some (.inr (some 240)), some (.inl (l : Int)), some (.inl (i : Int)), some (.inl ((zsn v s : Nat) : Int)), some (.inl ((l : Int) - (zsn (fun k => l * v k / zsn v s) s : Nat))), some (.inl ((rnk (fun k => l * v k % zsn v s) s i : Nat) : Int)), some (.inl (s : Int))] [] J := by
    have st : ∀ k, k ≤ s → zD (e + 1) 279 23 [some (.inr (some 240)), some (.inl (l : Int)), some (.inl (i : Int)), some (.inl ((zsn v s : Nat) : Int)), some (.inl ((l : Int) - (zsn (fun k => l * v k / zsn v s) 0 : Nat))), some (.inl ((zcnt (fun k => bet (fun k => l * v k % zsn v s) k i) 0 : Nat) : Int)), some (.inl ((0 : Nat) : Int))] [] J =
        zD (e + 1) 279 23 [some (.inr (some 240)), some (.inl (l : Int)), some (.inl (i : Int)), some (.inl ((zsn v s : Nat) : Int)), some (.inl ((l : Int) - (zsn (fun k => l * v k / zsn v s) k : Nat))), some (.inl ((zcnt (fun k => bet (fun k => l * v k % zsn v s) k i) k : Nat) : Int)), some (.inl (k : Int))] [] J := by
      intro k
      induction k with
      | zero => intro _; rfl
      | succ k ih =>
        intro hk
        rw [ih (by omega)]
        have hf := zsn_up (f := fun k => l * v k / zsn v s) (n := k + 1) s hk
        have hf0 := zsn_up (f := fun k => l * v k / zsn v s) (n := k) (k + 1) (by omega)
        have hcn := zcnt_le (p := fun k => bet (fun k => l * v k % zsn v s) k i) (q := fun _ => true) k (fun _ _ _ => rfl)
        rw [zcnt_all k fun _ _ => rfl] at hcn
        have ik : 0 ≤ (k : Int) ∧ (k : Int) < 6 := by omega
        have ii : 0 ≤ (i : Int) ∧ (i : Int) < 6 := by omega
        have nz : ¬ ((zsn v s : Nat) : Int) = 0 := by omega
        have wl : wr ((l : Int) - (zsn (fun k => l * v k / zsn v s) k : Nat) - ((l * v k / zsn v s : Nat) : Int)) = (l : Int) - (zsn (fun k => l * v k / zsn v s) (k + 1) : Nat) := by
          rw [zsn] at hf ⊢
          generalize l * v k / zsn v s = q at hf ⊢
          rw [wr_id (by omega) (by omega)]
          omega
        have E := e_279_23 (d := e) (I := J) (x1 := (l : Int)) (x2 := (i : Int)) (x3 := ((zsn v s : Nat) : Int)) (x4 := (l : Int) - (zsn (fun k => l * v k / zsn v s) k : Nat)) (x5 := ((zcnt (fun k => bet (fun k => l * v k % zsn v s) k i) k : Nat) : Int)) (x6 := (k : Int))
        rw [if_pos (by omega)] at E
        simp only [if_pos ik, if_pos ii, if_neg nz, Int.toNat_natCast] at E
        rw [pz k (by omega), pr k (by omega), pr i hi, wl, wr_id (z := (k : Int) + 1) (by omega) (by omega), wr_id (z := ((zcnt (fun k => bet (fun k => l * v k % zsn v s) k i) k : Nat) : Int) + 1) (by omega) (by omega)] at E
        rw [E, zcnt]
        unfold bet
        simp only [decide_eq_true_eq]
        (repeat' split) <;> first | rfl | (exfalso; omega)
    have := st s (Nat.le_refl _)
    rw [zsn, zcnt] at this
    rw [show (l : Int) - ((0 : Nat) : Int) = (l : Int) by omega] at this
    exact this
  rw [a2, e_279_23, if_neg (by omega), if_pos (by omega), if_neg (by omega), Int.toNat_natCast, pz i hi]
  have hdl : l * v i / zsn v s ≤ 15000 := Nat.le_trans (Nat.div_le_self _ _) (mul_sm hl hA2.2.2)
  have hr : rnk (fun k => l * v k % zsn v s) s i ≤ s := by
    have hcn := zcnt_le (p := fun k => bet (fun k => l * v k % zsn v s) k i) (q := fun _ => true) s (fun _ _ _ => rfl)
    rw [zcnt_all s fun _ _ => rfl] at hcn
    exact hcn
  unfold hsh
  generalize l * v i / zsn v s = q0 at hdl ⊢
  by_cases hq : rnk (fun k => l * v k % zsn v s) s i < l - zsn (fun k => l * v k / zsn v s) s
  · rw [if_pos (by omega), if_pos hq, wr_id (by omega) (by omega)]; rfl
  · rw [if_neg (by omega), if_neg hq, Int.add_zero, wr_id (by omega) (by omega)]; rfl
/-- the class's share over row 232 -/
theorem sh_1 {d s l A : Nat} {v : Nat → Nat} (h1 : s ≤ 6) (hl : l ≤ 300) (hA : 0 < A) (hA2 : A ≤ 300) (hv50 : ∀ j, j < s → v j ≤ 50) (hF : zsn (fun k => l * v k / A) s ≤ l) : ∀ (m k : Nat) (K : zI), k + m = s → K 58 2 = s → (∀ j, j < s → K 59 j = v j) → (∀ j, j < k → K 232 j = ((l * v j / A : Nat) : Int) ∧ K 234 j = ((l * v j % A : Nat) : Int)) →
    ∃ K' : zI, (∀ c j, c ≠ 232 → c ≠ 234 → K' c j = K c j) ∧ (∀ j, j < s → K' 232 j = ((l * v j / A : Nat) : Int) ∧ K' 234 j = ((l * v j % A : Nat) : Int)) ∧
    zD (d + 1) 108 10 [some (.inr (some 231)), some (.inr (some 58)), some (.inl (l : Int)), some (.inr (some 232)), some (.inl (A : Int)), some (.inl ((l : Int) - (zsn (fun k => l * v k / A) k : Nat))), some (.inl (k : Int))] [] K =
      zD (d + 1) 108 47 [some (.inr (some 231)), some (.inr (some 58)), some (.inl (l : Int)), some (.inr (some 232)), some (.inl (A : Int)), some (.inl ((l : Int) - (zsn (fun k => l * v k / A) s : Nat))), some (.inl 0)] [] K' := by
  intro m
  induction m with
  | zero =>
    intro k K hk hs hv hK
    have e : k = s := by omega
    subst e
    exact ⟨K, fun _ _ _ _ => rfl, fun j hj => hK j hj, by rw [e_108_10, if_neg (by omega)]⟩
  | succ m ih =>
    intro k K hk hs hv hK
    have hp := mul_sm (a := l) (b := v k) hl (hv50 k (by omega))
    have p : wr ((l : Int) * K 59 k) = ((l * v k : Nat) : Int) := by rw [hv k (by omega), ← Int.natCast_mul, wr_id (by omega) (by omega)]
    have pz : zdiv ((l * v k : Nat) : Int) (A : Int) = ((l * v k / A : Nat) : Int) := by rw [zdiv_nn (by omega) (by omega) (by omega) (by omega)]; rfl
    have pr : zrem ((l * v k : Nat) : Int) (A : Int) = ((l * v k % A : Nat) : Int) := zrem_nat (by omega) hA (by omega)
    obtain ⟨K', f1, f2, f3⟩ := ih (k + 1) (up (up K 232 k ((l * v k / A : Nat) : Int)) 234 k ((l * v k % A : Nat) : Int)) (by omega) (by rw [up_c (by decide), up_c (by decide)]; exact hs) (fun j hj => by rw [up_c (by decide), up_c (by decide)]; exact hv j hj) (fun j hj => by
      by_cases e : j = k
      · subst e
        rw [up_c (by decide), up_s, up_s]
        exact ⟨rfl, rfl⟩
      · rw [up_c (by decide), up_j e, up_j e, up_c (by decide)]
        exact hK j (by omega))
    refine ⟨K', fun c j h2 h3 => by rw [f1 c j h2 h3, up_c h3, up_c h2], f2, ?_⟩
    have ik : 0 ≤ (k : Int) ∧ (k : Int) < 12 := by omega
    have ik2 : 0 ≤ (k : Int) ∧ (k : Int) < 13 := by omega
    have nz : ¬ (A : Int) = 0 := by omega
    have E := e_108_10 (d := d) (I := K) (x2 := (l : Int)) (x4 := (A : Int)) (x5 := (l : Int) - (zsn (fun k => l * v k / A) k : Nat)) (x6 := (k : Int))
    rw [if_pos (by omega)] at E
    simp only [if_pos ik, if_pos ik2, if_neg nz, Int.toNat_natCast] at E
    have hf := zsn_up (f := fun k => l * v k / A) (n := k + 1) s (by omega)
    have wl : wr ((l : Int) - (zsn (fun k => l * v k / A) k : Nat) - ((l * v k / A : Nat) : Int)) = (l : Int) - (zsn (fun k => l * v k / A) (k + 1) : Nat) := by
      rw [zsn] at hf ⊢
      generalize l * v k / A = q at hf ⊢
      rw [wr_id (by omega) (by omega)]
      omega
    simp only [p, pz, pr, up_s, up_c, Nat.reduceEqDiff, not_false_eq_true, wl] at E
    rw [wr_id (z := (k : Int) + 1) (by omega) (by omega)] at E
    rw [E, ← f3]
    rfl
theorem sh_2 {d s : Nat} {w2 w4 : Option zV} {x5 g : Int} (h0 : 0 < s) (h1 : s ≤ 6) {K : zI} (hs : K 58 2 = s) : ∀ (m i b : Nat), i + m = s → b < i → zD (d + 1) 108 54 [some (.inr (some 231)), some (.inr (some 58)), w2, some (.inr (some 232)), w4, some (.inl x5), some (.inl g), some (.inl (b : Int)), some (.inl (i : Int))] [] K =
      zD (d + 1) 108 47 [some (.inr (some 231)), some (.inr (some 58)), w2, some (.inr (some 232)), w4, some (.inl x5), some (.inl (wr (g + 1)))] [] (up (up K 232 (fmx (K 234) m i b) (wr (K 232 (fmx (K 234) m i b) + 1))) 234 (fmx (K 234) m i b) (-1)) := by
  intro m
  induction m with
  | zero =>
    intro i b hi hb
    have ib : 0 ≤ (b : Int) ∧ (b : Int) < 13 := by omega
    have E := e_108_54 (d := d) (I := K) (w2 := w2) (w4 := w4) (x5 := x5) (x6 := g) (x7 := (b : Int)) (x8 := (i : Int))
    rw [if_neg (by omega)] at E
    simp only [if_pos ib, Int.toNat_natCast] at E
    exact E
  | succ m ih =>
    intro i b hi hb
    have E := e_108_54 (d := d) (I := K) (w2 := w2) (w4 := w4) (x5 := x5) (x6 := g) (x7 := (b : Int)) (x8 := (i : Int))
    rw [if_pos (by omega), if_pos (by omega), if_pos (by omega), wr_id (z := (i : Int) + 1) (by omega) (by omega), ← zk1c, Int.toNat_natCast, Int.toNat_natCast, ih (i + 1) i (by omega) (by omega), ih (i + 1) b (by omega) (by omega)] at E
    rw [E, fmx]
    by_cases hq : K 234 b < K 234 i
    · simp only [if_pos hq]
    · simp only [if_neg hq]
theorem sh_3 {d s left : Nat} {r fl : Nat → Nat} {w2 w4 : Option zV} (h0 : 0 < s) (h1 : s ≤ 6) (hle : left ≤ s) (hfl : ∀ k, k < s → fl k ≤ 15000) : ∀ (m g : Nat) (K : zI), g + m = left → K 58 2 = s → zcnt (fun k => decide (rnk r s k < g)) s = g → (∀ k, k < s → K 234 k = if rnk r s k < g then -1 else (r k : Int)) → (∀ k, k < s → K 232 k = ((fl k + (if rnk r s k < g then 1 else 0) : Nat) : Int)) →
    ∃ K' : zI, (∀ c j, c ≠ 232 → c ≠ 234 → K' c j = K c j) ∧ (∀ k, k < s → K' 232 k = ((fl k + (if rnk r s k < left then 1 else 0) : Nat) : Int)) ∧
      zD (d + 1) 108 47 [some (.inr (some 231)), some (.inr (some 58)), w2, some (.inr (some 232)), w4, some (.inl (left : Int)), some (.inl (g : Int))] [] K = some (0, K') := by
  intro m
  induction m with
  | zero =>
    intro g K hg hs hc hT hS
    have e : g = left := by omega
    subst e
    exact ⟨K, fun _ _ _ _ => rfl, hS, by rw [e_108_47, if_neg (by omega)]⟩
  | succ m ih =>
    intro g K hg hs hc hT hS
    obtain ⟨b1, b2⟩ := fmx_rnk (r := r) (s := s) (g := g) (T := K 234) h0 hT hc (by omega)
    have hx := sh_2 (d := d) (w2 := w2) (w4 := w4) (x5 := (left : Int)) (g := (g : Int)) h0 h1 hs (s - 1) 1 0 (by omega) (by omega)
    generalize fmx (K 234) (s - 1) 1 0 = b at *
    have hb3 : K 232 b = ((fl b : Nat) : Int) := by rw [hS b b1, if_neg (by omega), Nat.add_zero]
    have hb4 := hfl b b1
    obtain ⟨K', f1, f2, f3⟩ := ih (g + 1) (up (up K 232 b (wr (K 232 b + 1))) 234 b (-1)) (by omega) (by rw [up_c (by decide), up_c (by decide)]; exact hs)
      (by
        have q0 := zcnt_in2 (p := fun k => decide (rnk r s k < g)) (q := fun k => decide (rnk r s k < g + 1)) (b := b) (n := s) (decide_eq_false (by omega)) (decide_eq_true (by omega)) b1 (fun k hk hkb => decide_eq_decide.mpr (by have := rnk_ne (r := r) hk b1 hkb; omega))
        rw [q0, hc])
      (fun k hk => by
        by_cases e : k = b
        · subst e; rw [up_s, if_pos (by omega)]
        · have := rnk_ne (r := r) hk b1 e
          rw [up_j e, up_c (by decide), hT k hk]
          by_cases hq : rnk r s k < g
          · rw [if_pos hq, if_pos (by omega)]
          · rw [if_neg hq, if_neg (by omega)])
      (fun k hk => by
        rw [up_c (by decide)]
        by_cases e : k = b
        · subst e
          rw [up_s, hb3, if_pos (by omega), wr_id (by omega) (by omega)]; rfl
        · have := rnk_ne (r := r) hk b1 e
          rw [up_j e, hS k hk]
          by_cases hq : rnk r s k < g
          · rw [if_pos hq, if_pos (by omega)]
          · rw [if_neg hq, if_neg (by omega)])
    refine ⟨K', fun c j h2 h3 => by rw [f1 c j h2 h3, up_c h3, up_c h2], f2, ?_⟩
    rw [e_108_47, if_pos (by omega)]
    refine hx.trans ?_
    rw [wr_id (by omega) (by omega), ← zk1c]
    exact f3
theorem sh {d s l : Nat} {v : Nat → Nat} {K : zI} (h0 : 0 < s) (h1 : s ≤ 6) (hl : l ≤ 300) (hs : K 58 2 = s) (hv : ∀ j, j < s → K 59 j = v j ∧ 1 ≤ v j ∧ v j ≤ 50) :
    ∃ K' : zI, (∀ c j, c ≠ 232 → c ≠ 234 → K' c j = K c j) ∧ (∀ k, k < s → K' 232 k = ((hsh v s l k : Nat) : Int)) ∧ cl (d + 2) 108 [.inr (some 231), .inr (some 58), .inl (l : Int), .inr (some 232)] K = some (0, K') := by
  have hA := zsn_mem (f := v) s 0 h0
  have hA2 := hv 0 h0
  have hA3 := zsn_le (f := v) (c := 50) s (fun j hj => (hv j hj).2.2)
  have hlf := zsn_left (v := v) (l := l) (s := s) (by omega) h0
  obtain ⟨K1, f1, f2, f3⟩ := sh_1 (d := d + 1) (s := s) (l := l) (A := zsn v s) (v := v) h1 hl (by omega) (by omega) (fun j hj => (hv j hj).2.2) hlf.1 s 0 K (by omega) hs (fun j hj => (hv j hj).1) (fun j hj => by omega)
  obtain ⟨K2, g1, g2, g3⟩ := sh_3 (d := d + 1) (s := s) (left := l - zsn (fun k => l * v k / zsn v s) s) (r := fun k => l * v k % zsn v s) (fl := fun k => l * v k / zsn v s) (w2 := some (.inl (l : Int))) (w4 := some (.inl ((zsn v s : Nat) : Int))) h0 h1 (by omega) (fun k hk => Nat.le_trans (Nat.div_le_self _ _) (mul_sm hl (hv k hk).2.2)) (l - zsn (fun k => l * v k / zsn v s) s) 0 K1 (by omega) (by rw [f1 _ _ (by decide) (by decide)]; exact hs) (zcnt_no s fun k hk => decide_eq_false (by omega)) (fun k hk => by rw [(f2 k hk).2, if_neg (by omega)]) (fun k hk => by rw [(f2 k hk).1, if_neg (by omega), Nat.add_zero])
  refine ⟨K2, fun c j h2 h3 => by rw [g1 c j h2 h3, f1 c j h2 h3], g2, ?_⟩
  rw [e_108, s_81 hs h1 (fun j hj => ⟨(hv j hj).1, (hv j hj).2.2⟩), Option.bind_some, if_pos (by omega)]
  have e0 : (l : Int) = (l : Int) - ((zsn (fun k => l * v k / zsn v s) 0 : Nat) : Int) := by rw [zsn]; omega
  have e1 : (l : Int) - ((zsn (fun k => l * v k / zsn v s) s : Nat) : Int) = ((l - zsn (fun k => l * v k / zsn v s) s : Nat) : Int) := by omega
  rw [← e0] at f3
  rw [e1] at f3
  exact f3.trans g3
/-- the class's share over row 233 -/
theorem shb_1 {d s l A : Nat} {v : Nat → Nat} (h1 : s ≤ 6) (hl : l ≤ 300) (hA : 0 < A) (hA2 : A ≤ 300) (hv50 : ∀ j, j < s → v j ≤ 50) (hF : zsn (fun k => l * v k / A) s ≤ l) : ∀ (m k : Nat) (K : zI), k + m = s → K 58 2 = s → (∀ j, j < s → K 59 j = v j) → (∀ j, j < k → K 233 j = ((l * v j / A : Nat) : Int) ∧ K 234 j = ((l * v j % A : Nat) : Int)) →
    ∃ K' : zI, (∀ c j, c ≠ 233 → c ≠ 234 → K' c j = K c j) ∧ (∀ j, j < s → K' 233 j = ((l * v j / A : Nat) : Int) ∧ K' 234 j = ((l * v j % A : Nat) : Int)) ∧
    zD (d + 1) 108 10 [some (.inr (some 231)), some (.inr (some 58)), some (.inl (l : Int)), some (.inr (some 233)), some (.inl (A : Int)), some (.inl ((l : Int) - (zsn (fun k => l * v k / A) k : Nat))), some (.inl (k : Int))] [] K =
      zD (d + 1) 108 47 [some (.inr (some 231)), some (.inr (some 58)), some (.inl (l : Int)), some (.inr (some 233)), some (.inl (A : Int)), some (.inl ((l : Int) - (zsn (fun k => l * v k / A) s : Nat))), some (.inl 0)] [] K' := by
  intro m
  induction m with
  | zero =>
    intro k K hk hs hv hK
    have e : k = s := by omega
    subst e
    exact ⟨K, fun _ _ _ _ => rfl, fun j hj => hK j hj, by rw [e_108_10b, if_neg (by omega)]⟩
  | succ m ih =>
    intro k K hk hs hv hK
    have hp := mul_sm (a := l) (b := v k) hl (hv50 k (by omega))
    have p : wr ((l : Int) * K 59 k) = ((l * v k : Nat) : Int) := by rw [hv k (by omega), ← Int.natCast_mul, wr_id (by omega) (by omega)]
    have pz : zdiv ((l * v k : Nat) : Int) (A : Int) = ((l * v k / A : Nat) : Int) := by rw [zdiv_nn (by omega) (by omega) (by omega) (by omega)]; rfl
    have pr : zrem ((l * v k : Nat) : Int) (A : Int) = ((l * v k % A : Nat) : Int) := zrem_nat (by omega) hA (by omega)
    obtain ⟨K', f1, f2, f3⟩ := ih (k + 1) (up (up K 233 k ((l * v k / A : Nat) : Int)) 234 k ((l * v k % A : Nat) : Int)) (by omega) (by rw [up_c (by decide), up_c (by decide)]; exact hs) (fun j hj => by rw [up_c (by decide), up_c (by decide)]; exact hv j hj) (fun j hj => by
      by_cases e : j = k
      · subst e
        rw [up_c (by decide), up_s, up_s]
        exact ⟨rfl, rfl⟩
      · rw [up_c (by decide), up_j e, up_j e, up_c (by decide)]
        exact hK j (by omega))
    refine ⟨K', fun c j h2 h3 => by rw [f1 c j h2 h3, up_c h3, up_c h2], f2, ?_⟩
    have ik : 0 ≤ (k : Int) ∧ (k : Int) < 12 := by omega
    have ik2 : 0 ≤ (k : Int) ∧ (k : Int) < 13 := by omega
    have nz : ¬ (A : Int) = 0 := by omega
    have E := e_108_10b (d := d) (I := K) (x2 := (l : Int)) (x4 := (A : Int)) (x5 := (l : Int) - (zsn (fun k => l * v k / A) k : Nat)) (x6 := (k : Int))
    rw [if_pos (by omega)] at E
    simp only [if_pos ik, if_pos ik2, if_neg nz, Int.toNat_natCast] at E
    have hf := zsn_up (f := fun k => l * v k / A) (n := k + 1) s (by omega)
    have wl : wr ((l : Int) - (zsn (fun k => l * v k / A) k : Nat) - ((l * v k / A : Nat) : Int)) = (l : Int) - (zsn (fun k => l * v k / A) (k + 1) : Nat) := by
      rw [zsn] at hf ⊢
      generalize l * v k / A = q at hf ⊢
      rw [wr_id (by omega) (by omega)]
      omega
    simp only [p, pz, pr, up_s, up_c, Nat.reduceEqDiff, not_false_eq_true, wl] at E
    rw [wr_id (z := (k : Int) + 1) (by omega) (by omega)] at E
    rw [E, ← f3]
    rfl
theorem shb_2 {d s : Nat} {w2 w4 : Option zV} {x5 g : Int} (h0 : 0 < s) (h1 : s ≤ 6) {K : zI} (hs : K 58 2 = s) : ∀ (m i b : Nat), i + m = s → b < i → zD (d + 1) 108 54 [some (.inr (some 231)), some (.inr (some 58)), w2, some (.inr (some 233)), w4, some (.inl x5), some (.inl g), some (.inl (b : Int)), some (.inl (i : Int))] [] K =
      zD (d + 1) 108 47 [some (.inr (some 231)), some (.inr (some 58)), w2, some (.inr (some 233)), w4, some (.inl x5), some (.inl (wr (g + 1)))] [] (up (up K 233 (fmx (K 234) m i b) (wr (K 233 (fmx (K 234) m i b) + 1))) 234 (fmx (K 234) m i b) (-1)) := by
  intro m
  induction m with
  | zero =>
    intro i b hi hb
    have ib : 0 ≤ (b : Int) ∧ (b : Int) < 13 := by omega
    have E := e_108_54b (d := d) (I := K) (w2 := w2) (w4 := w4) (x5 := x5) (x6 := g) (x7 := (b : Int)) (x8 := (i : Int))
    rw [if_neg (by omega)] at E
    simp only [if_pos ib, Int.toNat_natCast] at E
    exact E
  | succ m ih =>
    intro i b hi hb
    have E := e_108_54b (d := d) (I := K) (w2 := w2) (w4 := w4) (x5 := x5) (x6 := g) (x7 := (b : Int)) (x8 := (i : Int))
    rw [if_pos (by omega), if_pos (by omega), if_pos (by omega), wr_id (z := (i : Int) + 1) (by omega) (by omega), ← zk1c, Int.toNat_natCast, Int.toNat_natCast, ih (i + 1) i (by omega) (by omega), ih (i + 1) b (by omega) (by omega)] at E
    rw [E, fmx]
    by_cases hq : K 234 b < K 234 i
    · simp only [if_pos hq]
    · simp only [if_neg hq]
theorem shb_3 {d s left : Nat} {r fl : Nat → Nat} {w2 w4 : Option zV} (h0 : 0 < s) (h1 : s ≤ 6) (hle : left ≤ s) (hfl : ∀ k, k < s → fl k ≤ 15000) : ∀ (m g : Nat) (K : zI), g + m = left → K 58 2 = s → zcnt (fun k => decide (rnk r s k < g)) s = g → (∀ k, k < s → K 234 k = if rnk r s k < g then -1 else (r k : Int)) → (∀ k, k < s → K 233 k = ((fl k + (if rnk r s k < g then 1 else 0) : Nat) : Int)) →
    ∃ K' : zI, (∀ c j, c ≠ 233 → c ≠ 234 → K' c j = K c j) ∧ (∀ k, k < s → K' 233 k = ((fl k + (if rnk r s k < left then 1 else 0) : Nat) : Int)) ∧
      zD (d + 1) 108 47 [some (.inr (some 231)), some (.inr (some 58)), w2, some (.inr (some 233)), w4, some (.inl (left : Int)), some (.inl (g : Int))] [] K = some (0, K') := by
  intro m
  induction m with
  | zero =>
    intro g K hg hs hc hT hS
    have e : g = left := by omega
    subst e
    exact ⟨K, fun _ _ _ _ => rfl, hS, by rw [e_108_47b, if_neg (by omega)]⟩
  | succ m ih =>
    intro g K hg hs hc hT hS
    obtain ⟨b1, b2⟩ := fmx_rnk (r := r) (s := s) (g := g) (T := K 234) h0 hT hc (by omega)
    have hx := shb_2 (d := d) (w2 := w2) (w4 := w4) (x5 := (left : Int)) (g := (g : Int)) h0 h1 hs (s - 1) 1 0 (by omega) (by omega)
    generalize fmx (K 234) (s - 1) 1 0 = b at *
    have hb3 : K 233 b = ((fl b : Nat) : Int) := by rw [hS b b1, if_neg (by omega), Nat.add_zero]
    have hb4 := hfl b b1
    obtain ⟨K', f1, f2, f3⟩ := ih (g + 1) (up (up K 233 b (wr (K 233 b + 1))) 234 b (-1)) (by omega) (by rw [up_c (by decide), up_c (by decide)]; exact hs)
      (by
        have q0 := zcnt_in2 (p := fun k => decide (rnk r s k < g)) (q := fun k => decide (rnk r s k < g + 1)) (b := b) (n := s) (decide_eq_false (by omega)) (decide_eq_true (by omega)) b1 (fun k hk hkb => decide_eq_decide.mpr (by have := rnk_ne (r := r) hk b1 hkb; omega))
        rw [q0, hc])
      (fun k hk => by
        by_cases e : k = b
        · subst e; rw [up_s, if_pos (by omega)]
        · have := rnk_ne (r := r) hk b1 e
          rw [up_j e, up_c (by decide), hT k hk]
          by_cases hq : rnk r s k < g
          · rw [if_pos hq, if_pos (by omega)]
          · rw [if_neg hq, if_neg (by omega)])
      (fun k hk => by
        rw [up_c (by decide)]
        by_cases e : k = b
        · subst e
          rw [up_s, hb3, if_pos (by omega), wr_id (by omega) (by omega)]; rfl
        · have := rnk_ne (r := r) hk b1 e
          rw [up_j e, hS k hk]
          by_cases hq : rnk r s k < g
          · rw [if_pos hq, if_pos (by omega)]
          · rw [if_neg hq, if_neg (by omega)])
    refine ⟨K', fun c j h2 h3 => by rw [f1 c j h2 h3, up_c h3, up_c h2], f2, ?_⟩
    rw [e_108_47b, if_pos (by omega)]
    refine hx.trans ?_
    rw [wr_id (by omega) (by omega), ← zk1c]
    exact f3
theorem shb {d s l : Nat} {v : Nat → Nat} {K : zI} (h0 : 0 < s) (h1 : s ≤ 6) (hl : l ≤ 300) (hs : K 58 2 = s) (hv : ∀ j, j < s → K 59 j = v j ∧ 1 ≤ v j ∧ v j ≤ 50) :
    ∃ K' : zI, (∀ c j, c ≠ 233 → c ≠ 234 → K' c j = K c j) ∧ (∀ k, k < s → K' 233 k = ((hsh v s l k : Nat) : Int)) ∧ cl (d + 2) 108 [.inr (some 231), .inr (some 58), .inl (l : Int), .inr (some 233)] K = some (0, K') := by
  have hA := zsn_mem (f := v) s 0 h0
  have hA2 := hv 0 h0
  have hA3 := zsn_le (f := v) (c := 50) s (fun j hj => (hv j hj).2.2)
  have hlf := zsn_left (v := v) (l := l) (s := s) (by omega) h0
  obtain ⟨K1, f1, f2, f3⟩ := shb_1 (d := d + 1) (s := s) (l := l) (A := zsn v s) (v := v) h1 hl (by omega) (by omega) (fun j hj => (hv j hj).2.2) hlf.1 s 0 K (by omega) hs (fun j hj => (hv j hj).1) (fun j hj => by omega)
  obtain ⟨K2, g1, g2, g3⟩ := shb_3 (d := d + 1) (s := s) (left := l - zsn (fun k => l * v k / zsn v s) s) (r := fun k => l * v k % zsn v s) (fl := fun k => l * v k / zsn v s) (w2 := some (.inl (l : Int))) (w4 := some (.inl ((zsn v s : Nat) : Int))) h0 h1 (by omega) (fun k hk => Nat.le_trans (Nat.div_le_self _ _) (mul_sm hl (hv k hk).2.2)) (l - zsn (fun k => l * v k / zsn v s) s) 0 K1 (by omega) (by rw [f1 _ _ (by decide) (by decide)]; exact hs) (zcnt_no s fun k hk => decide_eq_false (by omega)) (fun k hk => by rw [(f2 k hk).2, if_neg (by omega)]) (fun k hk => by rw [(f2 k hk).1, if_neg (by omega), Nat.add_zero])
  refine ⟨K2, fun c j h2 h3 => by rw [g1 c j h2 h3, f1 c j h2 h3], g2, ?_⟩
  rw [e_108b, s_81 hs h1 (fun j hj => ⟨(hv j hj).1, (hv j hj).2.2⟩), Option.bind_some, if_pos (by omega)]
  have e0 : (l : Int) = (l : Int) - ((zsn (fun k => l * v k / zsn v s) 0 : Nat) : Int) := by rw [zsn]; omega
  have e1 : (l : Int) - ((zsn (fun k => l * v k / zsn v s) s : Nat) : Int) = ((l - zsn (fun k => l * v k / zsn v s) s : Nat) : Int) := by omega
  rw [← e0] at f3
  rw [e1] at f3
  exact f3.trans g3
theorem sl_c {d s : Nat} {K : zI} {f1 f2 : Nat → Nat} {w2 : Option zV} (h1 : s ≤ 6) (hs : K 58 2 = s) (hf : ∀ k, k < s → K 232 k = f1 k ∧ K 233 k = f2 k) : ∀ (m i : Nat), i + m = s → zD (d + 1) 110 16 [some (.inr (some 231)), some (.inr (some 58)), w2, some (.inl (i : Int))] [] K = some (zfd (fun k => decide (f2 k < f1 k)) m i, K) := by
  intro m
  induction m with
  | zero => intro i hi; rw [e_110_16, if_neg (by omega)]; rfl
  | succ m ih =>
    intro i hi
    have ii : 0 ≤ (i : Int) ∧ (i : Int) < 13 := by omega
    have E := e_110_16 (d := d) (I := K) (w2 := w2) (x3 := (i : Int))
    rw [if_pos (by omega)] at E
    simp only [if_pos ii, Int.toNat_natCast] at E
    simp only [(hf i (by omega)).1, (hf i (by omega)).2] at E
    rw [wr_id (by omega) (by omega), ← zk1c, ih (i + 1) (by omega)] at E
    rw [E, zfd]
    by_cases hq : f2 i < f1 i
    · rw [if_pos (by omega), decide_eq_true hq, if_pos rfl]
    · rw [if_neg (by omega), decide_eq_false hq, if_neg (by decide)]
theorem sl_m {e s l : Nat} {J : zI} {v : Nat → Nat} {w2 : Option zV} (h1 : s ≤ 6) (hl : l ≤ 200) (hs : J 240 69 = s) (hv : ∀ j, j < s → J 280 j = v j ∧ 1 ≤ v j ∧ v j ≤ 50) : ∀ (m i : Nat), i + m = s → zD (e + 2) 280 30 [some (.inr (some 240)), some (.inl (l : Int)), w2, some (.inl (i : Int))] [] J = some (zfd (fun k => decide (hsh v s (l + 1) k < hsh v s l k)) m i, J) := by
  intro m
  induction m with
  | zero => intro i hi; rw [e_280_30, if_neg (by omega)]; rfl
  | succ m ih =>
    intro i hi
    rw [e_280_30, if_pos (by omega), wr_id (z := (l : Int) + 1) (by omega) (by omega), ← zk1c, s_279 hs h1 (by omega) (by omega) hv, Option.bind_some, s_279 hs h1 (by omega) (by omega) hv, Option.bind_some, wr_id (by omega) (by omega), ← zk1c, ih (i + 1) (by omega), zfd]
    by_cases hq : hsh v s (l + 1) i < hsh v s l i
    · rw [if_pos (by omega), decide_eq_true hq, if_pos rfl]
    · rw [if_neg (by omega), decide_eq_false hq, if_neg (by decide)]
theorem q_seal {I : zI} {l i : Int} (h : Rl I) : Pair 151 280 [.inl l, .inl i] I := by
  have r := h.1.2.2.2.2.2.2.2.2.2.2.2.2.2
  obtain ⟨r1, r2, r3, r4⟩ := r
  simp only [Nat.reduceAdd] at r4
  have E1 := e_151 (d := 59) (I := I) (x1 := l) (x2 := i)
  simp only [s_156, Option.bind_some, b01] at E1
  rw [wr_id (z := I 58 2 - 1) (by omega) (by omega)] at E1
  -- the model, over any heap that has the heirs
  have M : ∀ J : zI, J 240 69 = I 58 2 → cl 60 280 [.inr (some 240), .inl l, .inl i] J = (if 0 ≤ l ∧ l ≤ 200 then (if -1 ≤ i ∧ i ≤ I 58 2 - 1 then (if i = -1 then zD (59 + 1) 280 30 [some (.inr (some 240)), some (.inl l), some (.inl i), some (.inl 0)] [] (up J 240 0 0) else (cl 59 279 [.inr (some 240), .inl l, .inl i] (up J 240 0 0)).bind fun p3 => some (p3.1, p3.2)) else some (-1, up J 240 0 0)) else some (-1, up J 240 0 0)) := by
    intro J hJ
    rw [e_280]
    simp only [s_158, Option.bind_some, b01]
    rw [show up J 240 0 0 240 69 = I 58 2 by simp only [Option.bind_some, b01, up_c, up_j, up_s, Nat.reduceEqDiff, not_false_eq_true]; exact hJ, wr_id (z := I 58 2 - 1) (by omega) (by omega)]
    by_cases q1 : 0 ≤ l ∧ l ≤ 200
    · rw [if_neg (not_not_intro q1), if_pos q1]
      by_cases q2 : -1 ≤ i ∧ i ≤ I 58 2 - 1
      · rw [if_neg (not_not_intro q2), if_pos q2]
      · rw [if_pos q2, if_neg q2]
    · rw [if_pos q1, if_neg q1]
  by_cases hc : (0 ≤ l ∧ l ≤ 200) ∧ -1 ≤ i ∧ i ≤ I 58 2 - 1
  · rw [if_neg (not_not_intro hc.1), if_neg (not_not_intro hc.2)] at E1
    obtain ⟨l, rfl⟩ : ∃ m : Nat, l = m := ⟨l.toNat, by omega⟩
    have hs : I 58 2 = ((I 58 2).toNat : Int) := by omega
    have hv : ∀ j, j < (I 58 2).toNat → I 59 j = (((I 59 j).toNat : Nat) : Int) ∧ 1 ≤ (I 59 j).toNat ∧ (I 59 j).toNat ≤ 50 := by
      intro j hj
      have := r4 j (by omega)
      omega
    have hvm : ∀ J : zI, (∀ j, J 280 j = I 280 j) → ∀ j, j < (I 58 2).toNat → up J 240 0 0 280 j = (((I 59 j).toNat : Nat) : Int) ∧ 1 ≤ (I 59 j).toNat ∧ (I 59 j).toNat ≤ 50 := by
      intro J hJ j hj
      have := r4 j (by omega)
      simp only [Option.bind_some, b01, up_c, up_j, up_s, Nat.reduceEqDiff, not_false_eq_true]
      rw [hJ]
      omega
    by_cases hz : (I 58 2).toNat = 0
    · -- no heir
      have hi : i = -1 := by omega
      subst hi
      have z0 : ∀ C : Nat, C = 232 ∨ C = 233 → ∀ x : Int, cl 58 108 [.inr (some 231), .inr (some 58), .inl x, .inr (some C)] I = some (0, I) := by
        intro C hC x
        have h81 := s_81 (d := 56) (K := I) (s := 0) (v := fun _ => 0) (by omega) (by omega) (fun j hj => by omega)
        rcases hC with rfl | rfl
        · rw [e_108, h81, Option.bind_some, if_neg (by simp [zsn])]
        · rw [e_108b, h81, Option.bind_some, if_neg (by simp [zsn])]
      rw [if_pos rfl, e_110, z0 232 (Or.inl rfl), Option.bind_some, z0 233 (Or.inr rfl), Option.bind_some, e_110_16, if_neg (by dsimp only; omega)] at E1
      have E2 := M I r3
      rw [if_pos hc.1, if_pos hc.2, if_pos rfl, e_280_30, if_neg (by simp only [Option.bind_some, b01, up_c, up_j, up_s, Nat.reduceEqDiff, not_false_eq_true]; omega)] at E2
      exact Pair_of h E1 E2 Ag_0
    · obtain ⟨K1, f1, f2, f3⟩ := sh (d := 56) (s := (I 58 2).toNat) (l := l) (v := fun j => (I 59 j).toNat) (K := I) (by omega) (by omega) (by omega) hs hv
      by_cases hi : i = -1
      · obtain ⟨K2, g1, g2, g3⟩ := shb (d := 56) (s := (I 58 2).toNat) (l := l + 1) (v := fun j => (I 59 j).toNat) (K := K1) (by omega) (by omega) (by omega) (by rw [f1 _ _ (by decide) (by decide)]; exact hs) (fun j hj => by rw [f1 _ _ (by decide) (by decide)]; exact hv j hj)
        have sc := sl_c (d := 58) (s := (I 58 2).toNat) (K := K2) (f1 := fun k => hsh (fun j => (I 59 j).toNat) (I 58 2).toNat l k) (f2 := fun k => hsh (fun j => (I 59 j).toNat) (I 58 2).toNat (l + 1) k) (w2 := some (.inl (l : Int))) (by omega) (by rw [g1 _ _ (by decide) (by decide), f1 _ _ (by decide) (by decide)]; exact hs) (fun k hk => ⟨by rw [g1 _ _ (by decide) (by decide)]; exact f2 k hk, g2 k hk⟩) (I 58 2).toNat 0 (by omega)
        rw [if_pos hi, e_110, f3, Option.bind_some, wr_id (z := (l : Int) + 1) (by omega) (by omega), ← zk1c, g3, Option.bind_some] at E1
        have E1 := E1.trans (congrArg (fun o => Option.bind o _) sc)
        have k0 : ∀ c j, c ≠ 232 → c ≠ 233 → c ≠ 234 → K2 c j = I c j := fun c j a1 a2 a3 => by rw [g1 c j a2 a3, f1 c j a1 a3]
        have E2 := M K2 (by rw [k0 _ _ (by decide) (by decide) (by decide)]; exact r3)
        rw [if_pos hc.1, if_pos hc.2, if_pos hi] at E2
        have sm := sl_m (e := 58) (s := (I 58 2).toNat) (l := l) (J := up K2 240 0 0) (v := fun j => (I 59 j).toNat) (w2 := some (.inl i)) (by omega) (by omega) (by simp only [Option.bind_some, b01, up_c, up_j, up_s, Nat.reduceEqDiff, not_false_eq_true]; rw [k0 _ _ (by decide) (by decide) (by decide)]; omega) (hvm K2 fun j => k0 _ _ (by decide) (by decide) (by decide)) (I 58 2).toNat 0 (by omega)
        refine ⟨_, _, _, E1, E2.trans sm, Rl_scr (Ag_tr (I' := K2) (fun a b q _ => ?_) Ag_0) h⟩
        exact k0 a b (fun e => by subst e; revert q; decide) (fun e => by subst e; revert q; decide) (fun e => by subst e; revert q; decide)
      · obtain ⟨i, rfl⟩ : ∃ m : Nat, i = m := ⟨i.toNat, by omega⟩
        rw [if_neg hi, e_109, f3, Option.bind_some, if_neg (by omega), if_pos (by show (i : Int) < K1 58 2; rw [f1 58 2 (by decide) (by decide)]; omega), if_pos (by omega), Int.toNat_natCast] at E1
        dsimp only at E1
        rw [f2 i (by omega)] at E1
        have E2 := M K1 (by rw [f1 _ _ (by decide) (by decide)]; exact r3)
        rw [if_pos hc.1, if_pos hc.2, if_neg hi, s_279 (s := (I 58 2).toNat) (v := fun j => (I 59 j).toNat) (by simp only [Option.bind_some, b01, up_c, up_j, up_s, Nat.reduceEqDiff, not_false_eq_true]; rw [f1 _ _ (by decide) (by decide)]; omega) (by omega) (by omega) (by omega) (hvm K1 fun j => f1 _ _ (by decide) (by decide))] at E2
        refine ⟨_, _, _, E1, E2, Rl_scr (Ag_tr (I' := K1) (fun a b q _ => ?_) Ag_0) h⟩
        exact f1 a b (fun e => by subst e; revert q; decide) (fun e => by subst e; revert q; decide)
  · have E2 := M I r3
    refine Pair_of h (I1 := I) (I2 := up I 240 0 0) (r := -1) ?_ ?_ Ag_0
    · rw [E1]
      (repeat' split) <;> first | rfl | (exfalso; omega)
    · rw [E2]
      (repeat' split) <;> first | rfl | (exfalso; omega)
