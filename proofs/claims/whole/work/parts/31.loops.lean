/-! LOOPS OVER CLERKS, DEEDS, LINES -/
theorem zloop {n : Nat} {P : Nat → zO} {R : zO} (hs : ∀ k, k < n → P k = P (k + 1)) (he : P n = R) : P 0 = R := by
  induction n with
  | zero => exact he
  | succ n ih => exact ih (fun k hk => hs k (by omega)) ((hs n (by omega)).trans he)
theorem zk1c (k : Nat) : ((k + 1 : Nat) : Int) = (k : Int) + 1 := rfl
def zdp (p : Nat → Bool) : Nat → Int
  | 0 => 0
  | n + 1 => if p n = true then zor (zdp p n) (zshl 1 n) else zdp p n
theorem zdp_cg {p q : Nat → Bool} : ∀ (n : Nat), (∀ k, k < n → p k = q k) → zdp p n = zdp q n
  | 0, _ => rfl
  | n + 1, h => by rw [zdp, zdp, h n (by omega), zdp_cg n fun k hk => h k (by omega)]
def zsm (f : Nat → Int) : Nat → Int
  | 0 => 0
  | n + 1 => wr (zsm f n + f n)
theorem zsm_cg {f g : Nat → Int} : ∀ (n : Nat), (∀ k, k < n → f k = g k) → zsm f n = zsm g n
  | 0, _ => rfl
  | n + 1, h => by rw [zsm, zsm, h n (by omega), zsm_cg n fun k hk => h k (by omega)]
/-- the first place from k on, of so many, that is so -/
def zfd (p : Nat → Bool) : Nat → Nat → Int
  | 0, _ => -1
  | m + 1, k => if p k = true then k else zfd p m (k + 1)
theorem zfd_cg {p q : Nat → Bool} : ∀ (m k : Nat), (∀ j, k ≤ j → j < k + m → p j = q j) → zfd p m k = zfd q m k
  | 0, _, _ => rfl
  | m + 1, k, h => by rw [zfd, zfd, h k (by omega) (by omega), zfd_cg m (k + 1) fun j h1 h2 => h j (by omega) (by omega)]
theorem s_28 {d a : Nat} {I : zI} (ha : zFirm a) (h0 : 0 ≤ I a 5) (h1 : I a 5 ≤ 12) : cl (d + 1) 28 [.inr (some a)] I = some (zdp (fun e => decide (¬ I (a + 12) e = -1)) (I a 5).toNat, I) := by
  rw [e_28 ha]
  refine zloop (n := (I a 5).toNat) (P := fun k => zD (d + 1) 28 4 [some (.inr (some a)), some (.inl (zdp (fun e => decide (¬ I (a + 12) e = -1)) k)), some (.inl (k : Int))] [] I) (fun k hk => ?_) ?_
  · show zD _ _ _ _ _ _ = zD _ _ _ _ _ _
    rw [e_28_4 ha, if_pos (by omega), if_pos (by omega), Int.toNat_natCast, wr_id (by omega) (by omega), zk1c, zdp]
    by_cases h : I (a + 12) k = -1 <;> simp [h]
  · show zD _ _ _ _ _ _ = _
    rw [e_28_4 ha, if_neg (by omega)]
theorem s_29 {d a : Nat} {I : zI} {x : Int} (ha : zFirm a) (h0 : 0 ≤ I a 4) (h1 : I a 4 ≤ 10) : cl (d + 1) 29 [.inr (some a), .inl x] I = some (zdp (fun e => decide (I (a + 7) e = x)) (I a 4).toNat, I) := by
  rw [e_29 ha]
  refine zloop (n := (I a 4).toNat) (P := fun k => zD (d + 1) 29 4 [some (.inr (some a)), some (.inl x), some (.inl (zdp (fun e => decide (I (a + 7) e = x)) k)), some (.inl (k : Int))] [] I) (fun k hk => ?_) ?_
  · show zD _ _ _ _ _ _ = zD _ _ _ _ _ _
    rw [e_29_4 ha, if_pos (by omega), if_pos (by omega), Int.toNat_natCast, wr_id (by omega) (by omega), zk1c, zdp]
    by_cases h : I (a + 7) k = x <;> simp [h]
  · show zD _ _ _ _ _ _ = _
    rw [e_29_4 ha, if_neg (by omega)]
theorem s_30 {d a : Nat} {I : zI} (ha : zFirm a) (h0 : 0 ≤ I a 5) (h1 : I a 5 ≤ 12) : cl (d + 1) 30 [.inr (some a)] I = some (zsm (I (a + 11)) (I a 5).toNat, I) := by
  rw [e_30 ha]
  refine zloop (n := (I a 5).toNat) (P := fun k => zD (d + 1) 30 4 [some (.inr (some a)), some (.inl (zsm (I (a + 11)) k)), some (.inl (k : Int))] [] I) (fun k hk => ?_) ?_
  · show zD _ _ _ _ _ _ = zD _ _ _ _ _ _
    rw [e_30_4 ha, if_pos (by omega), if_pos (by omega), Int.toNat_natCast, wr_id (z := (k : Int) + 1) (by omega) (by omega), zk1c, zsm]
  · show zD _ _ _ _ _ _ = _
    rw [e_30_4 ha, if_neg (by omega)]
theorem s_31 {d a : Nat} {I : zI} (ha : zFirm a) (h0 : 0 ≤ I a 4) (h1 : I a 4 ≤ 10) : cl (d + 1) 31 [.inr (some a)] I = some (zsm (I (a + 8)) (I a 4).toNat, I) := by
  rw [e_31 ha]
  refine zloop (n := (I a 4).toNat) (P := fun k => zD (d + 1) 31 4 [some (.inr (some a)), some (.inl (zsm (I (a + 8)) k)), some (.inl (k : Int))] [] I) (fun k hk => ?_) ?_
  · show zD _ _ _ _ _ _ = zD _ _ _ _ _ _
    rw [e_31_4 ha, if_pos (by omega), if_pos (by omega), Int.toNat_natCast, wr_id (z := (k : Int) + 1) (by omega) (by omega), zk1c, zsm]
  · show zD _ _ _ _ _ _ = _
    rw [e_31_4 ha, if_neg (by omega)]
theorem s_247 {d b : Nat} {I : zI} {n : Int} (h0 : 0 ≤ n) (h1 : (b : Int) + n ≤ 110) : cl (d + 1) 247 [.inr (some 240), .inl (b : Int), .inl n] I = some (zsm (fun k => I 241 (b + k)) n.toNat, I) := by
  rw [e_247]
  refine zloop (n := n.toNat) (P := fun k => zD (d + 1) 247 4 [some (.inr (some 240)), some (.inl (b : Int)), some (.inl n), some (.inl (zsm (fun k => I 241 (b + k)) k)), some (.inl (k : Int))] [] I) (fun k hk => ?_) ?_
  · show zD _ _ _ _ _ _ = zD _ _ _ _ _ _
    have e : ((b : Int) + (k : Int)).toNat = b + k := by omega
    rw [e_247_4, if_pos (by omega), wr_id (z := (b : Int) + k) (by omega) (by omega), if_pos (by omega), e, wr_id (z := (k : Int) + 1) (by omega) (by omega), zk1c, zsm]
  · show zD _ _ _ _ _ _ = _
    rw [e_247_4, if_neg (by omega)]
theorem s_27 {d a : Nat} {I : zI} {x : Int} (ha : zFirm a) (h0 : 0 ≤ I a 4) (h1 : I a 4 ≤ 10) : cl (d + 1) 27 [.inr (some a), .inl x] I = some (zfd (fun e => decide (I (a + 6) e = x)) (I a 4).toNat 0, I) := by
  rw [e_27 ha]
  have key : ∀ (m k : Nat), k + m = (I a 4).toNat → zD (d + 1) 27 2 [some (.inr (some a)), some (.inl x), some (.inl (k : Int))] [] I = some (zfd (fun e => decide (I (a + 6) e = x)) m k, I) := by
    intro m
    induction m with
    | zero =>
      intro k hk
      rw [e_27_2 ha, if_neg (by omega)]
      rfl
    | succ m ih =>
      intro k hk
      rw [e_27_2 ha, if_pos (by omega), if_pos (by omega), Int.toNat_natCast, wr_id (by omega) (by omega), ← zk1c, ih (k + 1) (by omega), zfd]
      by_cases h : I (a + 6) k = x <;> simp [h]
  exact key _ 0 (by omega)
theorem s_175 {d : Nat} {I : zI} {c : Int} (h0 : 0 ≤ c) (h1 : c < 10) (h2 : -2147483647 ≤ I 241 (46 + c.toNat)) (h3 : I 241 (46 + c.toNat) ≤ 2147483647) : cl (d + 1) 175 [.inr (some 240), .inl c] I = some (I 241 (46 + c.toNat) - 1, I) := by
  have e : (46 + c).toNat = 46 + c.toNat := by omega
  rw [e_175, wr_id (z := 46 + c) (by omega) (by omega), if_pos (by omega), e, wr_id (by omega) (by omega)]
theorem s_176 {d : Nat} {I : zI} {c : Int} (h0 : 0 ≤ c) (h1 : c < 10) (h2 : -2147483647 ≤ I 241 (56 + c.toNat)) (h3 : I 241 (56 + c.toNat) ≤ 2147483647) : cl (d + 1) 176 [.inr (some 240), .inl c] I = some (I 241 (56 + c.toNat) - 1, I) := by
  have e : (56 + c).toNat = 56 + c.toNat := by omega
  rw [e_176, wr_id (z := 56 + c) (by omega) (by omega), if_pos (by omega), e, wr_id (by omega) (by omega)]
theorem s_177 {d : Nat} {I : zI} {q : Int} (h0 : 0 ≤ q) (h1 : q < 14) : cl (d + 1) 177 [.inr (some 240), .inl q] I = some (if I 241 (32 + q.toNat) = 1 then 1 else 0, I) := by
  have e : (32 + q).toNat = 32 + q.toNat := by omega
  rw [e_177, wr_id (z := 32 + q) (by omega) (by omega), if_pos (by omega), e]
  split <;> rfl
theorem s_178 {d : Nat} {I : zI} {e : Int} (h0 : 0 ≤ e) (h1 : e < 12) : cl (d + 1) 178 [.inr (some 240), .inl e] I = some (if 0 < I 241 (98 + e.toNat) then 1 else 0, I) := by
  have e : (98 + e).toNat = 98 + e.toNat := by omega
  rw [e_178, wr_id (by omega) (by omega), if_pos (by omega), e]
  split <;> rfl
theorem s_180 {d : Nat} {I : zI} (h0 : 0 ≤ I 240 8) (h1 : I 240 8 ≤ 12) : cl (d + 2) 180 [.inr (some 240)] I = some (zdp (fun e => decide (0 < I 241 (98 + e))) (I 240 8).toNat, I) := by
  rw [e_180]
  refine zloop (n := (I 240 8).toNat) (P := fun k => zD (d + 2) 180 4 [some (.inr (some 240)), some (.inl (zdp (fun e => decide (0 < I 241 (98 + e))) k)), some (.inl (k : Int))] [] I) (fun k hk => ?_) ?_
  · show zD _ _ _ _ _ _ = zD _ _ _ _ _ _
    rw [e_180_4, if_pos (by omega), s_178 (by omega) (by omega), Option.bind_some, Int.toNat_natCast, wr_id (by omega) (by omega), zk1c, zdp]
    by_cases h : 0 < I 241 (98 + k) <;> simp [h]
  · show zD _ _ _ _ _ _ = _
    rw [e_180_4, if_neg (by omega)]
theorem s_179 {d : Nat} {I : zI} {x : Int} (h0 : 0 ≤ I 240 7) (h1 : I 240 7 ≤ 10) (hr : ∀ c : Nat, (c : Int) < I 240 7 → 0 ≤ I 241 (46 + c) ∧ I 241 (46 + c) ≤ 14) : cl (d + 2) 179 [.inr (some 240), .inl x] I = some (zfd (fun c => decide (I 241 (46 + c) - 1 = x)) (I 240 7).toNat 0, I) := by
  rw [e_179]
  have key : ∀ (m k : Nat), k + m = (I 240 7).toNat → zD (d + 2) 179 2 [some (.inr (some 240)), some (.inl x), some (.inl (k : Int))] [] I = some (zfd (fun c => decide (I 241 (46 + c) - 1 = x)) m k, I) := by
    intro m
    induction m with
    | zero =>
      intro k hk
      rw [e_179_2, if_neg (by omega)]
      rfl
    | succ m ih =>
      intro k hk
      have hk2 := hr k (by omega)
      rw [e_179_2, if_pos (by omega), s_175 (by omega) (by omega) (by rw [Int.toNat_natCast]; omega) (by rw [Int.toNat_natCast]; omega), Option.bind_some, Int.toNat_natCast, wr_id (by omega) (by omega), ← zk1c, ih (k + 1) (by omega), zfd]
      by_cases h : I 241 (46 + k) - 1 = x <;> simp [h]
  exact key _ 0 (by omega)
theorem s_25 {d a : Nat} {I : zI} {x : Int} (ha : zFirm a) : cl (d + 2) 25 [.inr (some a), .inl x] I = some (if (0 ≤ x ∧ x < I a 5 ∧ x < 12) ∧ ¬ I (a + 12) x.toNat = -1 then 1 else 0, I) := by
  rw [e_25 ha, s_24 ha]
  simp only [Option.bind_some, b01]
  (repeat' split) <;> first | rfl | (exfalso; omega)
theorem s_26 {d a : Nat} {I : zI} {x : Int} (ha : zFirm a) : cl (d + 2) 26 [.inr (some a), .inl x] I = some (if 0 ≤ x ∧ x < I a 5 ∧ x < 12 then wr (I (a + 10) x.toNat - I (a + 11) x.toNat) else 0, I) := by
  rw [e_26 ha, s_24 ha]
  simp only [Option.bind_some, b01]
  (repeat' split) <;> first | rfl | (exfalso; omega)
/-- which deeds a deed comes after -/
theorem s_12 {d : Nat} {I : zI} {x : Int} (h0 : 0 ≤ I 39 4) (h1 : I 39 4 ≤ 16) : cl (d + 1) 12 [.inr (some 1), .inl x] I = some (zset (I 40) (I 41) x (I 39 4).toNat, I) := by
  rw [e_12]
  refine zloop (n := (I 39 4).toNat) (P := fun k => zD (d + 1) 12 4 [some (.inr (some 1)), some (.inl x), some (.inl (zset (I 40) (I 41) x k)), some (.inl (k : Int))] [] I) (fun k hk => ?_) ?_
  · show zD _ _ _ _ _ _ = zD _ _ _ _ _ _
    have hc : 0 ≤ (k : Int) ∧ (k : Int) < 16 := by omega
    rw [e_12_4, if_pos (by omega), wr_id (by omega) (by omega), zk1c, zset]
    simp only [if_pos hc, Int.toNat_natCast]
    by_cases h : I 40 k = x <;> simp [h]
  · show zD _ _ _ _ _ _ = _
    rw [e_12_4, if_neg (by omega)]
theorem s_10 {d : Nat} {I : zI} {x : Int} (h0 : 0 ≤ I 34 4) (h1 : I 34 4 ≤ 16) : cl (d + 1) 10 [.inr (some 1), .inl x] I = some (zlast (I 35) (I 36) x 0 (I 34 4).toNat, I) := by
  rw [e_10, wr_id (by omega) (by omega)]
  have key : ∀ (m : Nat), m ≤ 16 → zD (d + 1) 10 6 [some (.inr (some 1)), some (.inl x), some (.inl ((m : Int) - 1))] [] I = some (zlast (I 35) (I 36) x 0 m, I) := by
    intro m
    induction m with
    | zero =>
      intro _
      rw [e_10_6, if_pos (by omega)]
      rfl
    | succ m ih =>
      intro hm
      have e : (((m + 1 : Nat) : Int) - 1).toNat = m := by omega
      have hc : 0 ≤ ((m + 1 : Nat) : Int) - 1 ∧ ((m + 1 : Nat) : Int) - 1 < 16 := by omega
      rw [e_10_6, if_neg (by omega), zlast]
      simp only [if_pos hc, e]
      rw [wr_id (by omega) (by omega), show ((m + 1 : Nat) : Int) - 1 + -1 = (m : Int) - 1 by omega, ih (by omega)]
      by_cases h : I 35 m = x <;> simp [h]
  have h := key (I 34 4).toNat (by omega)
  rw [show (((I 34 4).toNat : Nat) : Int) = I 34 4 by omega] at h
  exact h
theorem s_11 {d : Nat} {I : zI} {x : Int} (h0 : 0 ≤ I 34 4) (h1 : I 34 4 ≤ 16) : cl (d + 1) 11 [.inr (some 1), .inl x] I = some (zlast (I 35) (I 37) x 5 (I 34 4).toNat, I) := by
  rw [e_11, wr_id (by omega) (by omega)]
  have key : ∀ (m : Nat), m ≤ 16 → zD (d + 1) 11 6 [some (.inr (some 1)), some (.inl x), some (.inl ((m : Int) - 1))] [] I = some (zlast (I 35) (I 37) x 5 m, I) := by
    intro m
    induction m with
    | zero =>
      intro _
      rw [e_11_6, if_pos (by omega)]
      rfl
    | succ m ih =>
      intro hm
      have e : (((m + 1 : Nat) : Int) - 1).toNat = m := by omega
      have hc : 0 ≤ ((m + 1 : Nat) : Int) - 1 ∧ ((m + 1 : Nat) : Int) - 1 < 16 := by omega
      rw [e_11_6, if_neg (by omega), zlast]
      simp only [if_pos hc, e]
      rw [wr_id (by omega) (by omega), show ((m + 1 : Nat) : Int) - 1 + -1 = (m : Int) - 1 by omega, ih (by omega)]
      by_cases h : I 35 m = x <;> simp [h]
  have h := key (I 34 4).toNat (by omega)
  rw [show (((I 34 4).toNat : Nat) : Int) = I 34 4 by omega] at h
  exact h
theorem zlast_rg {f s : Nat → Int} {b df lo hi : Int} (hd : lo ≤ df ∧ df ≤ hi) : ∀ (n : Nat), (∀ k, k < n → lo ≤ s k ∧ s k ≤ hi) → lo ≤ zlast f s b df n ∧ zlast f s b df n ≤ hi
  | 0, _ => hd
  | n + 1, h => by
    rw [zlast]
    split
    · exact h n (by omega)
    · exact zlast_rg hd n fun k hk => h k (by omega)
/-- can a deed be written -/
theorem s_13 {d a : Nat} {I : zI} {x : Int} (ha : zFirm a) (h0 : 0 ≤ I 39 4) (h1 : I 39 4 ≤ 16) (h2 : 0 ≤ I a 5) (h3 : I a 5 ≤ 12) : cl (d + 3) 13 [.inr (some 1), .inr (some a), .inl x] I =
    some (if (0 ≤ x ∧ x < I a 5) ∧ I (a + 12) x.toNat = -1 ∧ zand (zset (I 40) (I 41) x (I 39 4).toNat) (zxor (zdp (fun e => decide (¬ I (a + 12) e = -1)) (I a 5).toNat) (-1)) = 0 then 1 else 0, I) := by
  rw [e_13 ha, s_24 ha]
  simp only [Option.bind_some, b01, s_25 ha, s_12 h0 h1, s_28 ha h2 h3]
  (repeat' split) <;> first | rfl | (exfalso; omega)
theorem s_181 {d : Nat} {I : zI} {x : Int} (h0 : 0 ≤ x) (h1 : x < 12) (h2 : 0 ≤ I 240 8) (h3 : I 240 8 ≤ 12) : cl (d + 3) 181 [.inr (some 240), .inl x] I =
    some (if ¬ 0 < I 241 (98 + x.toNat) ∧ zand (I 261 x.toNat) (zxor (zdp (fun e => decide (0 < I 241 (98 + e))) (I 240 8).toNat) (-1)) = 0 then 1 else 0, I) := by
  rw [e_181, s_178 h0 h1]
  simp only [Option.bind_some, b01, s_180 h2 h3]
  (repeat' split) <;> first | rfl | (exfalso; omega)
theorem s_226 {d : Nat} {I : zI} {x : Int} (h0 : 0 ≤ x) (h1 : x < 8) (h2 : -100 ≤ I 260 x.toNat) (h3 : I 260 x.toNat ≤ 100) : cl (d + 1) 226 [.inr (some 240), .inl x] I = some (I 260 x.toNat + 5, I) := by
  rw [e_226, if_pos (by omega), wr_id (by omega) (by omega)]
/-- the sets of both sides -/
theorem zdp_done {I M : zI} {a : Nat} {hb : Int} (r : RFirm I M a hb) : zdp (fun e => decide (0 < M 241 (98 + e))) (I a 5).toNat = zdp (fun e => decide (¬ I (a + 12) e = -1)) (I a 5).toNat := by
  refine zdp_cg _ fun k hk => ?_
  have h := r.2.2.2.2.2.2.2.2 k (by omega)
  have e : (0 < M 241 (98 + k)) = (¬ I (a + 12) k = -1) := by
    refine propext ⟨fun _ => by omega, fun _ => by omega⟩
  simp only [e]
