/-! PLANKS -/
theorem zhas_sc {f : Nat → Int} {v : Int} {n : Nat} : zhas f v (n + 1) 0 = (zhas f v n 0 || decide (v = f n)) := zhas_add (fun _ _ => rfl) rfl
/-- how many places are told below x -/
def zkc (f : Nat → Int) (N : Nat) : Nat → Nat
  | 0 => 0
  | x + 1 => zkc f N x + (if 1 ≤ x ∧ zhas f x N 0 = true then 1 else 0)
theorem zkc_st {f : Nat → Int} {N : Nat} : ∀ x, zkc f (N + 1) x ≤ zkc f N x + (if 0 ≤ f N ∧ f N < (x : Int) then 1 else 0)
  | 0 => by rw [zkc]; omega
  | x + 1 => by
    have ih := zkc_st (f := f) (N := N) x
    rw [zkc, zkc, zhas_sc]
    by_cases h1 : 1 ≤ x
    · by_cases h2 : zhas f x N 0 = true
      · rw [if_pos ⟨h1, by rw [h2, Bool.true_or]⟩, if_pos ⟨h1, h2⟩]
        by_cases q : 0 ≤ f N ∧ f N < (x : Int)
        · rw [if_pos q] at ih
          rw [if_pos (by omega)]
          omega
        · rw [if_neg q] at ih
          omega
      · have h2' : zhas f (x : Int) N 0 = false := Bool.eq_false_iff.mpr h2
        rw [h2', Bool.false_or, if_neg (show ¬ (1 ≤ x ∧ false = true) from fun e => absurd e.2 (by decide))]
        by_cases h3 : (x : Int) = f N
        · rw [if_neg (by omega)] at ih
          rw [if_pos (show 1 ≤ x ∧ decide ((x : Int) = f N) = true from ⟨h1, decide_eq_true h3⟩), if_pos (by omega)]
          omega
        · rw [if_neg (show ¬ (1 ≤ x ∧ decide ((x : Int) = f N) = true) from fun e => h3 (of_decide_eq_true e.2))]
          by_cases q : 0 ≤ f N ∧ f N < (x : Int)
          · rw [if_pos q] at ih
            rw [if_pos (by omega)]
            omega
          · rw [if_neg q] at ih
            omega
    · rw [if_neg (fun e => h1 e.1), if_neg (fun e => h1 e.1)]
      by_cases q : 0 ≤ f N ∧ f N < (x : Int)
      · rw [if_pos q] at ih
        rw [if_pos (by omega)]
        omega
      · rw [if_neg q] at ih
        omega
theorem zkc_0 {f : Nat → Int} : ∀ x, zkc f 0 x = 0
  | 0 => rfl
  | x + 1 => by rw [zkc, zkc_0 x, zhas]; simp
theorem zkc_le {f : Nat → Int} : ∀ N x, zkc f N x ≤ N
  | 0, x => by rw [zkc_0]; omega
  | N + 1, x => by
    have := zkc_le (f := f) N x
    have h2 := zkc_st (f := f) (N := N) x
    split at h2 <;> omega
theorem zkc_mo {f : Nat → Int} {N : Nat} {x : Nat} : ∀ k, zkc f N x ≤ zkc f N (x + k)
  | 0 => Nat.le_refl _
  | k + 1 => Nat.le_trans (zkc_mo k) (by rw [show x + (k + 1) = x + k + 1 by omega, zkc]; omega)
/-- the places in order -/
def RPc (K J : zI) (E : Nat) : Prop := ∀ k, k ≤ E → K 232 k = J 274 k ∧ 0 ≤ K 232 k ∧ K 232 k ≤ 60
theorem mk_in {d e l N : Nat} {x2 : Int} {f : Nat → Int} (hl : l ≤ 60) (hN : N ≤ 7) : ∀ (m p last : Nat) (K J : zI), p + m = l → 1 ≤ p → last = zkc f N p → K 50 2 = (N : Int) → K 51 = f → (0 ≤ J 240 57 ∧ J 240 57 < 1073741824 ∧ 0 ≤ J 240 58 ∧ J 240 58 < 1073741824) → (∀ v : Nat, 1 ≤ v → v ≤ 59 → zbit (J 240 57) (J 240 58) v = zhas f v N 0) → RPc K J last →
    ∃ (E : Nat) (K' J' : zI), 1 ≤ E ∧ E ≤ 8 ∧ RPc K' J' E ∧ (∀ c j, c ≠ 232 → K' c j = K c j) ∧ (∀ c j, c ≠ 274 → J' c j = J c j) ∧ zD (d + 2) 98 9 [some (.inr (some 231)), some (.inr (some 50)), some (.inl (l : Int)), some (.inl (last : Int)), some (.inl (p : Int))] [] K = some ((E : Int), K') ∧
      zD (e + 3) 267 26 [some (.inr (some 240)), some (.inl (l : Int)), some (.inl x2), some (.inl ((last + 1 : Nat) : Int)), some (.inl (p : Int))] [] J = zD (e + 3) 267 52 [some (.inr (some 240)), some (.inl (l : Int)), some (.inl x2), some (.inl (E : Int)), some (.inl 1)] [] J' := by
  intro m
  induction m with
  | zero =>
    intro p last K J hp h1 hlast hN2 hf hb hz hR
    have hle := zkc_le (f := f) N p
    refine ⟨last + 1, up K 232 (last + 1) (l : Int), up J 274 (last + 1) (l : Int), by omega, by omega, fun k hk => ?_, fun c j hc => up_c hc, fun c j hc => up_c hc, ?_, ?_⟩
    · by_cases q : k = last + 1
      · rw [q, up_s, up_s]; omega
      · rw [up_j q, up_j q]; exact hR k (by omega)
    · rw [e_98_9, if_neg (by omega), wr_id (z := (last : Int) + 1) (by omega) (by omega), ← zk1c, if_pos (by omega), Int.toNat_natCast]
    · rw [e_267_26, if_neg (by omega), if_pos (by omega), Int.toNat_natCast]
  | succ m ih =>
    intro p last K J hp h1 hlast hN2 hf hb hz hR
    have hle := zkc_le (f := f) N p
    have hct : zkc f N (p + 1) = zkc f N p + (if 1 ≤ p ∧ zhas f p N 0 = true then 1 else 0) := rfl
    have hle2 := zkc_le (f := f) N (p + 1)
    have E2 := e_267_26 (d := e + 2) (I := J) (x1 := (l : Int)) (x2 := x2) (x3 := ((last + 1 : Nat) : Int)) (x4 := (p : Int))
    rw [if_pos (by omega), s_264 (by omega) hb.1 hb.2.1 hb.2.2.1 hb.2.2.2, hz p h1 (by omega), Option.bind_some] at E2
    simp only [b01] at E2
    rw [wr_id (z := (p : Int) + 1) (by omega) (by omega), ← zk1c] at E2
    by_cases h7 : last < 7
    · have E1 := e_98_9 (d := d + 1) (I := K) (x2 := (l : Int)) (x3 := (last : Int)) (x4 := (p : Int))
      rw [if_pos (by omega), if_pos (by omega), s_80 r_50 (by omega), Option.bind_some, hN2, hf] at E1
      simp only [b01, Int.toNat_natCast] at E1
      rw [wr_id (z := (p : Int) + 1) (by omega) (by omega), ← zk1c, wr_id (z := (last : Int) + 1) (by omega) (by omega), ← zk1c] at E1
      by_cases hh : zhas f (p : Int) N 0 = true
      · rw [if_neg (not_not_intro hh), if_pos (by omega), Int.toNat_natCast] at E1
        rw [if_neg (not_not_intro hh), if_pos (by omega), Int.toNat_natCast, wr_id (z := ((last + 1 : Nat) : Int) + 1) (by omega) (by omega)] at E2
        obtain ⟨E, K', J', a1, a2, a3, a4, a5, a6, a7⟩ := ih (p + 1) (last + 1) (up K 232 (last + 1) (p : Int)) (up J 274 (last + 1) (p : Int)) (by omega) (by omega) (by rw [hct, if_pos ⟨h1, hh⟩, hlast]) (by rw [up_c (by decide)]; exact hN2) (by rw [up_r (by decide)]; exact hf) (by rw [up_c (by decide), up_c (by decide)]; exact hb) (by rw [up_c (by decide), up_c (by decide)]; exact hz) (fun k hk => by
          by_cases q : k = last + 1
          · rw [q, up_s, up_s]; omega
          · rw [up_j q, up_j q]; exact hR k (by omega))
        exact ⟨E, K', J', a1, a2, a3, fun c j hc => by rw [a4 c j hc, up_c hc], fun c j hc => by rw [a5 c j hc, up_c hc], E1.trans a6, E2.trans a7⟩
      · rw [if_pos hh] at E1 E2
        obtain ⟨E, K', J', a1, a2, a3, a4, a5, a6, a7⟩ := ih (p + 1) last K J (by omega) (by omega) (by rw [hct, if_neg (fun q => hh q.2), Nat.add_zero, hlast]) hN2 hf hb hz hR
        exact ⟨E, K', J', a1, a2, a3, a4, a5, E1.trans a6, E2.trans a7⟩
    · have hh : ¬ zhas f (p : Int) N 0 = true := fun q => by
        rw [if_pos ⟨h1, q⟩] at hct
        omega
      rw [if_pos hh] at E2
      obtain ⟨E, K', J', a1, a2, a3, a4, a5, a6, a7⟩ := ih (p + 1) last K J (by omega) (by omega) (by rw [hct, if_neg (fun q => hh q.2), Nat.add_zero, hlast]) hN2 hf hb hz hR
      refine ⟨E, K', J', a1, a2, a3, a4, a5, ?_, E2.trans a7⟩
      rw [← a6, e_98_9, if_pos (by omega), if_neg (by omega)]
      rw [e_98_9]
      by_cases q : ((p + 1 : Nat) : Int) < (l : Int)
      · rw [if_pos q, if_neg (show ¬ (last : Int) < 7 by omega)]
      · rw [if_neg q]
/-! the pieces -/
def RPp (K J : zI) (E s i : Nat) : Prop := ∀ a b, a < b → b ≤ E → (b < a + s ∨ (b = a + s ∧ a < i)) → K 237 (9 * a + b) = J 275 (9 * a + b) ∧ -60 * ((b : Int) - a - 1) ≤ K 237 (9 * a + b) ∧ K 237 (9 * a + b) ≤ 60 * ((b : Int) - a - 1)
/-- what a cut of piece i to j at m comes to -/
def zpw (K : zI) (i j m : Nat) : Int := K 237 (9 * i + m) + K 237 (9 * m + j) + K 232 j - K 232 i
theorem wr_9 {i m : Nat} (h : i ≤ 8) (h2 : m ≤ 8) : wr (wr ((i : Int) * 9) + (m : Int)) = ((9 * i + m : Nat) : Int) := by
  rw [wr_id (z := (i : Int) * 9) (by omega) (by omega), wr_id (by omega) (by omega)]
  omega
theorem wr_9' {i m : Nat} (h : i ≤ 8) (h2 : m ≤ 8) : wr (wr (9 * (i : Int)) + (m : Int)) = ((9 * i + m : Nat) : Int) := by
  rw [wr_id (z := 9 * (i : Int)) (by omega) (by omega), wr_id (by omega) (by omega)]
  omega
theorem s_266 {e E i j m s : Nat} {K J : zI} (hE : E ≤ 8) (h1 : i < m) (h2 : m < j) (h3 : j ≤ E) (hs : j = i + s) (hq : RPc K J E) (hp : RPp K J E s i) : cl (e + 1) 266 [.inr (some 240), .inl (i : Int), .inl (j : Int), .inl (m : Int)] J = some (zpw K i j m, J) ∧ (-60 * ((j : Int) - i - 1) ≤ zpw K i j m ∧ zpw K i j m ≤ 60 * ((j : Int) - i - 1)) ∧ wr (wr (wr (K 237 (9 * i + m) + K 237 (9 * m + j)) + K 232 j) - K 232 i) = zpw K i j m := by
  obtain ⟨a1, a2, a3⟩ := hq i (by omega)
  obtain ⟨b1, b2, b3⟩ := hq j (by omega)
  obtain ⟨p1, p2, p3⟩ := hp i m (by omega) (by omega) (by omega)
  obtain ⟨r1, r2, r3⟩ := hp m j (by omega) (by omega) (by omega)
  unfold zpw
  refine ⟨?_, ⟨by omega, by omega⟩, ?_⟩
  · rw [e_266, if_pos (by omega), if_pos (by omega), wr_9' (by omega) (by omega), wr_9' (by omega) (by omega), if_pos (by omega), if_pos (by omega)]
    simp only [Int.toNat_natCast]
    rw [← a1, ← b1, ← p1, ← r1, wr_id (z := K 232 j - K 232 i) (by omega) (by omega), wr_id (z := K 232 j - K 232 i + K 237 (9 * i + m)) (by omega) (by omega), wr_id (by omega) (by omega)]
    congr 2
    omega
  · rw [wr_id (z := K 237 (9 * i + m) + K 237 (9 * m + j)) (by omega) (by omega), wr_id (z := K 237 (9 * i + m) + K 237 (9 * m + j) + K 232 j) (by omega) (by omega), wr_id (by omega) (by omega)]
/-- the least so far, and where it is first -/
def RLs (K : zI) (i j m : Nat) (L fc : Int) : Prop := -500 ≤ L ∧ L ≤ 60 * ((j : Int) - i - 1) ∧ -60 * ((j : Int) - i - 1) ≤ L ∧ ∃ ms, i < ms ∧ ms < m ∧ zpw K i j ms = L ∧ fc = K 232 ms ∧ (∀ m', i < m' → m' < ms → L < zpw K i j m') ∧ ∀ m', i < m' → m' < m → L ≤ zpw K i j m'
theorem ce_in {d e E i j s : Nat} {x3 : Int} {w1 w2 w1' : Option zV} {K J : zI} (hE : E ≤ 8) (h3 : j ≤ E) (hs : j = i + s) (hq : RPc K J E) (hp : RPp K J E s i) : ∀ (k m : Nat) (L fc : Int), m + k = j → i + 1 < m → RLs K i j m L fc →
    ∃ L' fc' : Int, RLs K i j j L' fc' ∧ zD (d + 1) 97 34 [some (.inr (some 231)), w1, w2, some (.inl x3), some (.inl (E : Int)), some (.inl fc), some (.inl (s : Int)), some (.inl (i : Int)), some (.inl (j : Int)), some (.inl L), some (.inl (m : Int))] [] K = zD (d + 1) 97 14 [some (.inr (some 231)), w1, w2, some (.inl x3), some (.inl (E : Int)), some (.inl fc'), some (.inl (s : Int)), some (.inl ((i + 1 : Nat) : Int))] [] (up K 237 (9 * i + j) L') ∧
      zD (e + 2) 267 73 [some (.inr (some 240)), w1', some (.inl x3), some (.inl (E : Int)), some (.inl (s : Int)), some (.inl (i : Int)), some (.inl L), some (.inl (m : Int))] [] J = zD (e + 2) 267 57 [some (.inr (some 240)), w1', some (.inl x3), some (.inl (E : Int)), some (.inl (s : Int)), some (.inl ((i + 1 : Nat) : Int))] [] (up J 275 (9 * i + j) L') := by
  intro k
  induction k with
  | zero =>
    intro m L fc hm hi hL
    have e0 : m = j := by omega
    subst e0
    refine ⟨L, fc, hL, ?_, ?_⟩
    · rw [e_97_34, if_neg (by omega), wr_9 (by omega) (by omega), if_pos (by omega), Int.toNat_natCast, wr_id (z := (i : Int) + 1) (by omega) (by omega), ← zk1c]
    · rw [e_267_73, wr_id (z := (i : Int) + (s : Int)) (by omega) (by omega), if_neg (by omega), wr_9' (by omega) (by omega), wr_id (z := ((9 * i + i : Nat) : Int) + (s : Int)) (by omega) (by omega), if_pos (by omega), wr_id (z := (i : Int) + 1) (by omega) (by omega), ← zk1c, show (((9 * i + i : Nat) : Int) + (s : Int)).toNat = 9 * i + m by omega]
  | succ k ih =>
    intro m L fc hm hi hL
    obtain ⟨c1, c2, c3⟩ := s_266 (e := e) hE (show i < m by omega) (by omega) h3 hs hq hp
    obtain ⟨l1, l2, l3, ms, l4, l5, l6, l7, l8, l9⟩ := hL
    have E1 := e_97_34 (d := d) (I := K) (w1 := w1) (w2 := w2) (x3 := x3) (x4 := (E : Int)) (x5 := fc) (x6 := (s : Int)) (x7 := (i : Int)) (x8 := (j : Int)) (x9 := L) (x10 := (m : Int))
    rw [if_pos (by omega), wr_9 (by omega) (by omega), wr_9 (by omega) (by omega), if_pos (by omega), if_pos (by omega), if_pos (by omega), if_pos (by omega)] at E1
    simp only [Int.toNat_natCast] at E1
    rw [c3, wr_id (z := (m : Int) + 1) (by omega) (by omega), ← zk1c] at E1
    have E2 := e_267_73 (d := e + 1) (I := J) (w1 := w1') (x2 := x3) (x3 := (E : Int)) (x4 := (s : Int)) (x5 := (i : Int)) (x6 := L) (x7 := (m : Int))
    rw [wr_id (z := (i : Int) + (s : Int)) (by omega) (by omega), if_pos (by omega), show (i : Int) + (s : Int) = (j : Int) by omega, c1, Option.bind_some] at E2
    dsimp only at E2
    rw [s_161, Option.bind_some] at E2
    dsimp only at E2
    rw [wr_id (z := (m : Int) + 1) (by omega) (by omega), ← zk1c] at E2
    clear c3
    by_cases hlt : zpw K i j m < L
    · rw [if_pos hlt, if_pos (by omega)] at E1
      rw [show min L (zpw K i j m) = zpw K i j m by omega] at E2
      obtain ⟨L', fc', b1, b2, b3⟩ := ih (m + 1) (zpw K i j m) (K 232 m) (by omega) (by omega) ⟨by omega, by omega, by omega, m, by omega, by omega, rfl, rfl, fun m' y1 y2 => by
        have := l9 m' y1 y2; omega, fun m' y1 y2 => by
        by_cases y3 : m' = m
        · rw [y3]; omega
        · have := l9 m' y1 (by omega); omega⟩
      exact ⟨L', fc', b1, E1.trans b2, E2.trans b3⟩
    · rw [if_neg hlt] at E1
      rw [show min L (zpw K i j m) = L by omega] at E2
      obtain ⟨L', fc', b1, b2, b3⟩ := ih (m + 1) L fc (by omega) (by omega) ⟨l1, l2, l3, ms, l4, by omega, l6, l7, l8, fun m' y1 y2 => by
        by_cases y3 : m' = m
        · rw [y3]; omega
        · exact l9 m' y1 (by omega)⟩
      exact ⟨L', fc', b1, E1.trans b2, E2.trans b3⟩
theorem cell_ok {d e E i j s : Nat} {x3 fc : Int} {w1 w2 w1' : Option zV} {K J : zI} (hE : E ≤ 8) (h3 : j ≤ E) (hs : j = i + s) (h1 : 1 ≤ s) (hq : RPc K J E) (hp : RPp K J E s i) :
    ∃ L fc' : Int, (-60 * ((j : Int) - i - 1) ≤ L ∧ L ≤ 60 * ((j : Int) - i - 1)) ∧ (2 ≤ s → RLs K i j j L fc') ∧ zD (d + 1) 97 14 [some (.inr (some 231)), w1, w2, some (.inl x3), some (.inl (E : Int)), some (.inl fc), some (.inl (s : Int)), some (.inl (i : Int))] [] K = zD (d + 1) 97 14 [some (.inr (some 231)), w1, w2, some (.inl x3), some (.inl (E : Int)), some (.inl fc'), some (.inl (s : Int)), some (.inl ((i + 1 : Nat) : Int))] [] (up K 237 (9 * i + j) L) ∧
      zD (e + 2) 267 57 [some (.inr (some 240)), w1', some (.inl x3), some (.inl (E : Int)), some (.inl (s : Int)), some (.inl (i : Int))] [] J = zD (e + 2) 267 57 [some (.inr (some 240)), w1', some (.inl x3), some (.inl (E : Int)), some (.inl (s : Int)), some (.inl ((i + 1 : Nat) : Int))] [] (up J 275 (9 * i + j) L) := by
  have E1 := e_97_14 (d := d) (I := K) (w1 := w1) (w2 := w2) (x3 := x3) (x4 := (E : Int)) (x5 := fc) (x6 := (s : Int)) (x7 := (i : Int))
  rw [wr_id (z := (i : Int) + (s : Int)) (by omega) (by omega), if_neg (by omega), show (i : Int) + (s : Int) = (j : Int) by omega, wr_id (z := (i : Int) + 1) (by omega) (by omega), ← zk1c] at E1
  have E2 := e_267_57 (d := e + 1) (I := J) (w1 := w1') (x2 := x3) (x3 := (E : Int)) (x4 := (s : Int)) (x5 := (i : Int))
  rw [wr_id (z := (i : Int) + (s : Int)) (by omega) (by omega), if_neg (by omega), wr_id (z := (i : Int) + 1) (by omega) (by omega), ← zk1c] at E2
  by_cases s1 : s = 1
  · rw [if_pos (by omega)] at E1 E2
    refine ⟨0, fc, ⟨by omega, by omega⟩, fun q => absurd q (by omega), E1.trans ?_, E2.trans ?_⟩
    · rw [e_97_34, if_neg (by omega), wr_9 (by omega) (by omega), if_pos (by omega), Int.toNat_natCast, wr_id (z := (i : Int) + 1) (by omega) (by omega), ← zk1c]
    · rw [e_267_73, wr_id (z := (i : Int) + (s : Int)) (by omega) (by omega), if_neg (by omega), wr_9' (by omega) (by omega), wr_id (z := ((9 * i + i : Nat) : Int) + (s : Int)) (by omega) (by omega), if_pos (by omega), wr_id (z := (i : Int) + 1) (by omega) (by omega), ← zk1c, show (((9 * i + i : Nat) : Int) + (s : Int)).toNat = 9 * i + j by omega]
  · rw [if_neg (by omega)] at E1 E2
    obtain ⟨c1, c2, c3⟩ := s_266 (e := e) hE (show i < i + 1 by omega) (by omega) h3 hs hq hp
    have F1 := e_97_34 (d := d) (I := K) (w1 := w1) (w2 := w2) (x3 := x3) (x4 := (E : Int)) (x5 := fc) (x6 := (s : Int)) (x7 := (i : Int)) (x8 := (j : Int)) (x9 := 1000000) (x10 := ((i + 1 : Nat) : Int))
    rw [if_pos (by omega), wr_9 (by omega) (by omega), wr_9 (by omega) (by omega), if_pos (by omega), if_pos (by omega), if_pos (by omega), if_pos (by omega)] at F1
    simp only [Int.toNat_natCast] at F1
    rw [c3, wr_id (z := ((i + 1 : Nat) : Int) + 1) (by omega) (by omega), if_pos (by omega), if_pos (by omega)] at F1
    have F2 := e_267_73 (d := e + 1) (I := J) (w1 := w1') (x2 := x3) (x3 := (E : Int)) (x4 := (s : Int)) (x5 := (i : Int)) (x6 := 100000000) (x7 := ((i + 1 : Nat) : Int))
    rw [wr_id (z := (i : Int) + (s : Int)) (by omega) (by omega), if_pos (by omega), show (i : Int) + (s : Int) = (j : Int) by omega, c1, Option.bind_some] at F2
    dsimp only at F2
    rw [s_161, Option.bind_some] at F2
    dsimp only at F2
    rw [wr_id (z := ((i + 1 : Nat) : Int) + 1) (by omega) (by omega), show min 100000000 (zpw K i j (i + 1)) = zpw K i j (i + 1) by omega] at F2
    clear c3
    obtain ⟨L', fc', b1, b2, b3⟩ := ce_in (d := d) (e := e) (x3 := x3) (w1 := w1) (w2 := w2) (w1' := w1') hE h3 hs hq hp (j - (i + 2)) (i + 2) (zpw K i j (i + 1)) (K 232 (i + 1)) (by omega) (by omega) ⟨by omega, by omega, by omega, i + 1, by omega, by omega, rfl, rfl, fun m' y1 y2 => absurd y2 (by omega), fun m' y1 y2 => by
      rw [show m' = i + 1 by omega]; omega⟩
    have B2 := F1.trans b2
    have B3 := F2.trans b3
    exact ⟨L', fc', ⟨b1.2.2.1, b1.2.1⟩, fun _ => b1, E1.trans B2, E2.trans B3⟩
/-- where the whole plank is cut first -/
def FP (K : zI) (E : Nat) (fc : Int) : Prop := ∃ ms, 0 < ms ∧ ms < E ∧ zpw K 0 E ms = K 237 E ∧ fc = K 232 ms ∧ ∀ m', 0 < m' → m' < ms → K 237 E < zpw K 0 E m'
theorem row_ok {d e E s : Nat} {x3 : Int} {w1 w2 w1' : Option zV} (hE : E ≤ 8) (h1 : 1 ≤ s) (hsE : s ≤ E) : ∀ (m i : Nat) (fc : Int) (K J : zI), i + m = E - s + 1 → RPc K J E → RPp K J E s i → (s = E → 2 ≤ E → i = 1 → FP K E fc) →
    ∃ (fc' : Int) (K' J' : zI), RPc K' J' E ∧ RPp K' J' E (s + 1) 0 ∧ (s = E → 2 ≤ E → FP K' E fc') ∧ (∀ c j, c ≠ 237 → K' c j = K c j) ∧ (∀ c j, c ≠ 275 → J' c j = J c j) ∧ zD (d + 1) 97 14 [some (.inr (some 231)), w1, w2, some (.inl x3), some (.inl (E : Int)), some (.inl fc), some (.inl (s : Int)), some (.inl (i : Int))] [] K = zD (d + 1) 97 9 [some (.inr (some 231)), w1, w2, some (.inl x3), some (.inl (E : Int)), some (.inl fc'), some (.inl ((s + 1 : Nat) : Int))] [] K' ∧
      zD (e + 2) 267 57 [some (.inr (some 240)), w1', some (.inl x3), some (.inl (E : Int)), some (.inl (s : Int)), some (.inl (i : Int))] [] J = zD (e + 2) 267 52 [some (.inr (some 240)), w1', some (.inl x3), some (.inl (E : Int)), some (.inl ((s + 1 : Nat) : Int))] [] J' := by
  intro m
  induction m with
  | zero =>
    intro i fc K J hi hq hp hF
    refine ⟨fc, K, J, hq, fun a b y1 y2 y3 => hp a b y1 y2 (by omega), fun y1 y2 => hF y1 y2 (by omega), fun _ _ _ => rfl, fun _ _ _ => rfl, ?_, ?_⟩
    · rw [e_97_14, wr_id (z := (i : Int) + (s : Int)) (by omega) (by omega), if_pos (by omega), wr_id (z := (s : Int) + 1) (by omega) (by omega), ← zk1c]
    · rw [e_267_57, wr_id (z := (i : Int) + (s : Int)) (by omega) (by omega), if_pos (by omega), wr_id (z := (s : Int) + 1) (by omega) (by omega), ← zk1c]
  | succ m ih =>
    intro i fc K J hi hq hp hF
    obtain ⟨L, fc', y1, y2, y3, y4⟩ := cell_ok (d := d) (e := e) (x3 := x3) (fc := fc) (w1 := w1) (w2 := w2) (w1' := w1') (j := i + s) hE (by omega) rfl h1 hq hp
    obtain ⟨fc2, K', J', a1, a2, a3, a4, a5, a6, a7⟩ := ih (i + 1) fc' (up K 237 (9 * i + (i + s)) L) (up J 275 (9 * i + (i + s)) L) (by omega) (fun k hk => by
      rw [up_c (by decide), up_c (by decide)]; exact hq k hk) (fun a b z1 z2 z3 => by
      by_cases q : a = i ∧ b = i + s
      · rw [q.1, q.2, up_s, up_s]
        omega
      · rw [up_j (by omega), up_j (by omega)]
        exact hp a b z1 z2 (by omega)) (fun z1 z2 z3 => by
      have i0 : i = 0 := by omega
      subst i0
      obtain ⟨l1, l2, l3, ms, l4, l5, l6, l7, l8, l9⟩ := y2 (by omega)
      have ez : ∀ p, 0 < p → p < E → zpw (up K 237 (9 * 0 + (0 + s)) L) 0 E p = zpw K 0 E p := fun p u1 u2 => by
        unfold zpw
        simp (disch := omega) only [up_c, up_j]
      have eE : up K 237 (9 * 0 + (0 + s)) L 237 E = L := by
        rw [show E = 9 * 0 + (0 + s) by omega]; exact up_s
      have es : 0 + s = E := by omega
      rw [es] at l5 l6 l8
      refine ⟨ms, l4, l5, ?_, by rw [up_c (by decide)]; exact l7, fun m' u1 u2 => ?_⟩
      · rw [ez ms l4 l5, eE]; exact l6
      · rw [ez m' u1 (by omega), eE]; exact l8 m' u1 u2)
    exact ⟨fc2, K', J', a1, a2, a3, fun c j hc => by rw [a4 c j hc, up_c hc], fun c j hc => by rw [a5 c j hc, up_c hc], y3.trans a6, y4.trans a7⟩
theorem find_ok {e E ms : Nat} {fc : Int} {w1 w2 : Option zV} {K J : zI} (hE : E ≤ 8) (hq : RPc K J E) (hp : RPp K J E E 0) (hJ : J 275 E = K 237 E) (h1 : 0 < ms) (h2 : ms < E) (h3 : zpw K 0 E ms = K 237 E) (h4 : fc = K 232 ms) (h5 : ∀ m', 0 < m' → m' < ms → K 237 E < zpw K 0 E m') : ∀ (k m : Nat), m + k = ms → 0 < m → zD (e + 2) 267 115 [some (.inr (some 240)), w1, w2, some (.inl (E : Int)), some (.inl (m : Int))] [] J = some (fc, J) := by
  intro k
  induction k with
  | zero =>
    intro m hm h0
    have em : m = ms := by omega
    subst em
    obtain ⟨c1, _, _⟩ := s_266 (e := e) (i := 0) (j := E) hE h1 h2 (Nat.le_refl E) (by omega) hq hp
    have c1 : cl (e + 1) 266 [.inr (some 240), .inl 0, .inl (E : Int), .inl (m : Int)] J = some (zpw K 0 E m, J) := c1
    have q := hq m (by omega)
    rw [e_267_115, if_pos (by omega), c1, Option.bind_some]
    dsimp only
    rw [if_pos (by omega), Int.toNat_natCast, if_pos (show zpw K 0 E m = J 275 E by rw [hJ]; exact h3), if_pos (by omega), Int.toNat_natCast, h4, q.1]
  | succ k ih =>
    intro m hm h0
    obtain ⟨c1, _, _⟩ := s_266 (e := e) (i := 0) (j := E) (m := m) hE h0 (by omega) (Nat.le_refl E) (by omega) hq hp
    have c1 : cl (e + 1) 266 [.inr (some 240), .inl 0, .inl (E : Int), .inl (m : Int)] J = some (zpw K 0 E m, J) := c1
    have q := h5 m h0 (by omega)
    rw [e_267_115, if_pos (by omega), c1, Option.bind_some]
    dsimp only
    rw [if_pos (by omega), Int.toNat_natCast, if_neg (show ¬ zpw K 0 E m = J 275 E by rw [hJ]; omega), wr_id (by omega) (by omega), ← zk1c]
    exact ih (m + 1) (by omega) (by omega)
theorem span_ok {d e E : Nat} {x3 : Int} {w1 w2 w1' : Option zV} (hE : E ≤ 8) (h1E : 1 ≤ E) : ∀ (m s : Nat) (fc : Int) (K J : zI), s + m = E + 1 → 1 ≤ s → RPc K J E → RPp K J E s 0 → (s = E + 1 → 2 ≤ E → FP K E fc) →
    ∃ (r : Int) (K' J' : zI), (∀ c j, c ≠ 237 → K' c j = K c j) ∧ (∀ c j, c ≠ 275 → J' c j = J c j) ∧ zD (d + 1) 97 9 [some (.inr (some 231)), w1, w2, some (.inl x3), some (.inl (E : Int)), some (.inl fc), some (.inl (s : Int))] [] K = some (r, K') ∧
      zD (e + 2) 267 52 [some (.inr (some 240)), w1', some (.inl x3), some (.inl (E : Int)), some (.inl (s : Int))] [] J = some (r, J') := by
  intro m
  induction m with
  | zero =>
    intro s fc K J hs h1 hq hp hF
    have pE := hp 0 E (by omega) (Nat.le_refl E) (by omega)
    rw [show 9 * 0 + E = E by omega] at pE
    have E1 := e_97_9 (d := d) (I := K) (w1 := w1) (w2 := w2) (x3 := x3) (x4 := (E : Int)) (x5 := fc) (x6 := (s : Int))
    have E2 := e_267_52 (d := e + 1) (I := J) (w1 := w1') (x2 := x3) (x3 := (E : Int)) (x4 := (s : Int))
    rw [if_pos (by omega)] at E1 E2
    by_cases h2 : E < 2
    · rw [if_pos (by omega)] at E1
      by_cases hx : x3 = 0
      · rw [if_pos hx] at E1 E2
        rw [if_pos (by omega), Int.toNat_natCast, ← pE.1] at E2
        refine ⟨0, K, J, fun _ _ _ => rfl, fun _ _ _ => rfl, E1, ?_⟩
        rw [E2]
        congr 2
        omega
      · rw [if_neg hx] at E1 E2
        rw [e_267_115, if_neg (by omega)] at E2
        exact ⟨-1, K, J, fun _ _ _ => rfl, fun _ _ _ => rfl, E1, E2⟩
    · rw [if_neg (by omega)] at E1
      by_cases hx : x3 = 0
      · rw [if_pos hx] at E1 E2
        rw [if_pos (by omega), Int.toNat_natCast] at E1
        rw [if_pos (by omega), Int.toNat_natCast, ← pE.1] at E2
        exact ⟨K 237 E, K, J, fun _ _ _ => rfl, fun _ _ _ => rfl, E1, E2⟩
      · rw [if_neg hx] at E1 E2
        obtain ⟨ms, l1, l2, l3, l4, l5⟩ := hF (by omega) (by omega)
        have F := find_ok (e := e) (w1 := w1') (w2 := some (.inl x3)) (K := K) (J := J) hE hq (fun a b y1 y2 y3 => hp a b y1 y2 (by omega)) pE.1.symm l1 l2 l3 l4 l5 (ms - 1) 1 (by omega) (by omega)
        exact ⟨fc, K, J, fun _ _ _ => rfl, fun _ _ _ => rfl, E1, E2.trans F⟩
  | succ m ih =>
    intro s fc K J hs h1 hq hp hF
    obtain ⟨fc', K1, J1, a1, a2, a3, a4, a5, a6, a7⟩ := row_ok (d := d) (e := e) (x3 := x3) (w1 := w1) (w2 := w2) (w1' := w1') hE h1 (by omega) (E - s + 1) 0 fc K J (by omega) hq hp (fun _ _ q => absurd q (by decide))
    obtain ⟨r, K', J', b1, b2, b3, b4⟩ := ih (s + 1) fc' K1 J1 (by omega) (by omega) a1 a2 (fun y1 y2 => a3 (by omega) y2)
    refine ⟨r, K', J', fun c j hc => by rw [b1 c j hc, a4 c j hc], fun c j hc => by rw [b2 c j hc, a5 c j hc], ?_, ?_⟩
    · rw [e_97_9, if_neg (by omega)]
      exact a6.trans b3
    · rw [e_267_52, if_neg (by omega)]
      exact a7.trans b4
theorem q_planks {I : zI} {l x : Int} (h : Rl I) : Pair 142 267 [.inl l, .inl x] I := by
  have E1 := e_142 (d := 59) (I := I) (x1 := l) (x2 := x)
  simp only [s_156, Option.bind_some, b01] at E1
  have E2 := fun J : zI => e_267 (d := 59) (I := J) (x1 := l) (x2 := x)
  simp only [s_158, Option.bind_some, b01] at E2
  by_cases hc : (1 ≤ l ∧ l ≤ 60) ∧ 0 ≤ x ∧ x ≤ 1
  · rw [if_neg (not_not_intro hc.1), if_neg (not_not_intro hc.2)] at E1
    obtain ⟨l, rfl⟩ : ∃ q : Nat, l = q := ⟨l.toNat, by omega⟩
    refine Pair_two fun J hJ => ?_
    have E2 := E2 J
    rw [if_neg (not_not_intro hc.1), if_neg (not_not_intro hc.2)] at E2
    obtain ⟨r1, r2, r3, r4, r5, r6⟩ := h.1.2.2.2.2.2.2.2.2.2.1
    obtain ⟨N, hN⟩ : ∃ n : Nat, I 50 2 = n := ⟨(I 50 2).toNat, by omega⟩
    rw [hN] at r6
    simp only [Int.toNat_natCast] at r6
    have j57 : up (up J 240 0 0) 274 0 0 240 57 = I 240 57 := by rw [up_c (by decide), up_j (by decide), hJ 240 57 (by decide)]
    have j58 : up (up J 240 0 0) 274 0 0 240 58 = I 240 58 := by rw [up_c (by decide), up_j (by decide), hJ 240 58 (by decide)]
    obtain ⟨E, K1, J1, a1, a2, a3, a4, a5, a6, a7⟩ := mk_in (d := 56) (e := 57) (l := l) (N := N) (x2 := x) (f := I 51) (by omega) (by omega) (l - 1) 1 0 (up I 232 0 0) (up (up J 240 0 0) 274 0 0) (by omega) (by omega) (by rfl) (by rw [up_c (by decide)]; exact hN) (up_r (by decide)) (by rw [j57, j58]; exact r5) (by rw [j57, j58]; exact r6) (fun k hk => by
      rw [show k = 0 by omega, up_s, up_s]; omega)
    obtain ⟨r, K', J', b1, b2, b3, b4⟩ := span_ok (d := 58) (e := 58) (E := E) (x3 := x) (w1 := some (.inr (some 50))) (w2 := some (.inl (l : Int))) (w1' := some (.inl (l : Int))) (by omega) a1 E 1 (-1) K1 J1 (by omega) (by omega) a3 (fun a b y1 y2 y3 => absurd y3 (by omega)) (fun y1 y2 => absurd y1 (by omega))
    have c97 : cl 59 97 [.inr (some 231), .inr (some 50), .inl (l : Int), .inl x] I = some (r, K') := by
      rw [e_97, e_98]
      refine (congrArg (fun o => Option.bind o _) a6).trans ?_
      exact b3
    rw [c97, Option.bind_some] at E1
    refine ⟨r, K', J', E1, (E2.trans a7).trans b4, fun c j hc => by rw [b1 c j (by omega), a4 c j (by omega), up_c (by omega)], fun c j hc => by rw [b2 c j (by omega), a5 c j (by omega), up_c (by omega), up_c (by omega)], ?_⟩
    refine Rl_scr (fun c j q1 q2 => ?_) h
    have nn : ∀ x, scrC.contains x = true → c ≠ x := fun x hx e => by rw [e, hx] at q1; cases q1
    have p0 : ¬ (c = 240 ∧ j = 0) := fun e => by rw [e.1, e.2] at q2; revert q2; decide
    have n232 := nn 232 (by decide)
    have n237 := nn 237 (by decide)
    have n274 := nn 274 (by decide)
    have n275 := nn 275 (by decide)
    by_cases hc : c < 240
    · rw [mg_l hc, b1 c j n237, a4 c j n232, up_c n232]
    · rw [mg_r (by omega), b2 c j n275, a5 c j n274, up_c n274]
      exact (if_neg p0).trans (hJ c j (by omega))
  · refine Pair_of h (I1 := I) (I2 := up I 240 0 0) (r := -1) ?_ ?_ Ag_0
    · rw [E1]
      (repeat' split) <;> first | rfl | (exfalso; omega)
    · rw [E2]
      by_cases c1 : 1 ≤ l ∧ l ≤ 60
      · rw [if_neg (not_not_intro c1), if_pos (fun q => hc ⟨c1, q⟩)]
      · rw [if_pos c1]
