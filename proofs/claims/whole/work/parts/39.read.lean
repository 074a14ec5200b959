/-! READ ROUND -/
def zcm (f : Nat → Int) (s a b : Nat) : Nat → Nat → Int
  | 0, _ => 0
  | m + 1, k => if f ((a + k) % s) - f ((b + k) % s) = 0 then zcm f s a b m (k + 1) else f ((a + k) % s) - f ((b + k) % s)
theorem zcm_cg {f g : Nat → Int} {s a b : Nat} (hs : 0 < s) (h : ∀ j, j < s → f j = g j) : ∀ (m k : Nat), zcm f s a b m k = zcm g s a b m k
  | 0, _ => rfl
  | m + 1, k => by
    rw [zcm, zcm, h _ (Nat.mod_lt _ hs), h _ (Nat.mod_lt _ hs), zcm_cg hs h m (k + 1)]
theorem zcm_s {f : Nat → Int} {s : Nat} : ∀ (m k : Nat), zcm f s s 0 m k = 0
  | 0, _ => rfl
  | m + 1, k => by
    rw [zcm, Nat.add_mod_left, Nat.zero_add, Int.sub_self, if_pos rfl]
    exact zcm_s m (k + 1)
theorem zrem_nat {a b : Nat} (h1 : a < 2147483648) (h2 : 0 < b) (h3 : b < 2147483648) : zrem (a : Int) (b : Int) = ((a % b : Nat) : Int) := by
  rw [zrem_nn (by omega) (by omega) (by omega) (by omega)]; rfl
theorem s_82 {d c s x : Nat} {I : zI} (hc : zRow c) (hs : I c 2 = s) (h0 : 0 < s) (h1 : s ≤ 12) (hx : x < 1000) : cl (d + 1) 82 [.inr (some c), .inl (x : Int)] I = some (I (c + 1) (x % s), I) := by
  have := Nat.mod_lt x h0
  rw [e_82 hc, if_pos (by omega), if_neg (by omega), if_neg (by omega), hs, zrem_nat (by omega) h0 (by omega), if_pos (by omega), Int.toNat_natCast]
theorem s_99 {d s a b m : Nat} {I : zI} (hs : I 52 2 = s) (h0 : 0 < s) (h1 : s ≤ 12) (ha : a < 100) (hb : b < 100) (hm : m < 100) (hv : ∀ j, j < s → 0 ≤ I 53 j ∧ I 53 j ≤ 9) : cl (d + 2) 99 [.inr (some 52), .inl (a : Int), .inl (b : Int), .inl (m : Int)] I = some (zcm (I 53) s a b m 0, I) := by
  rw [e_99]
  have key : ∀ (n k : Nat), k + n = m → zD (d + 2) 99 2 [some (.inr (some 52)), some (.inl (a : Int)), some (.inl (b : Int)), some (.inl (m : Int)), some (.inl (k : Int))] [] I = some (zcm (I 53) s a b n k, I) := by
    intro n
    induction n with
    | zero =>
      intro k hk
      rw [e_99_2, if_neg (by omega)]; rfl
    | succ n ih =>
      intro k hk
      have wa : wr ((a : Int) + k) = ((a + k : Nat) : Int) := by rw [wr_id (by omega) (by omega)]; omega
      have wb : wr ((b : Int) + k) = ((b + k : Nat) : Int) := by rw [wr_id (by omega) (by omega)]; omega
      have v1 := hv ((a + k) % s) (Nat.mod_lt _ h0)
      have v2 := hv ((b + k) % s) (Nat.mod_lt _ h0)
      rw [e_99_2, if_pos (by omega), wa, wb, s_82 r_52 hs h0 h1 (by omega), Option.bind_some, s_82 r_52 hs h0 h1 (by omega), Option.bind_some, zcm, wr_id (z := (k : Int) + 1) (by omega) (by omega), ← zk1c, ih (k + 1) (by omega)]
      simp only [Nat.reduceAdd]
      rw [wr_id (by omega) (by omega)]
      split <;> rfl
  exact key m 0 (by omega)
theorem s_269 {e s a b m : Nat} {J : zI} (hs : J 240 62 = s) (h0 : 0 < s) (h1 : s ≤ 12) (ha : a < 100) (hb : b < 100) (hm : m < 100) (hv : ∀ j, j < s → 0 ≤ J 276 j ∧ J 276 j ≤ 9) : cl (e + 1) 269 [.inr (some 240), .inl (a : Int), .inl (b : Int), .inl (m : Int)] J = some (zcm (J 276) s a b m 0, J) := by
  rw [e_269]
  have key : ∀ (n k : Nat), k + n = m → zD (e + 1) 269 2 [some (.inr (some 240)), some (.inl (a : Int)), some (.inl (b : Int)), some (.inl (m : Int)), some (.inl (k : Int))] [] J = some (zcm (J 276) s a b n k, J) := by
    intro n
    induction n with
    | zero =>
      intro k hk
      rw [e_269_2, if_neg (by omega)]; rfl
    | succ n ih =>
      intro k hk
      have wa : wr ((a : Int) + k) = ((a + k : Nat) : Int) := by rw [wr_id (by omega) (by omega)]; omega
      have wb : wr ((b : Int) + k) = ((b + k : Nat) : Int) := by rw [wr_id (by omega) (by omega)]; omega
      have m1 := Nat.mod_lt (a + k) h0
      have m2 := Nat.mod_lt (b + k) h0
      have v1 := hv ((a + k) % s) m1
      have v2 := hv ((b + k) % s) m2
      have E := e_269_2 (d := e) (I := J) (x1 := (a : Int)) (x2 := (b : Int)) (x3 := (m : Int)) (x4 := (k : Int))
      rw [if_pos (by omega), if_neg (by omega), wa, wb, hs, zrem_nat (by omega) h0 (by omega), zrem_nat (by omega) h0 (by omega), if_pos (by omega), if_neg (by omega), if_pos (by omega), Int.toNat_natCast, Int.toNat_natCast, wr_id (z := (k : Int) + 1) (by omega) (by omega), ← zk1c, ih (k + 1) (by omega), wr_id (by omega) (by omega)] at E
      rw [E, zcm]
      split <;> rfl
  exact key m 0 (by omega)
/-- the least place, the first that reads alike, how many unlike ones -/
def zle (p : Nat → Nat → Int) : Nat → Nat → Nat → Nat
  | 0, _, b => b
  | m + 1, i, b => if p i b < 0 then zle p m (i + 1) i else zle p m (i + 1) b
theorem zle_lt {p : Nat → Nat → Int} {s : Nat} : ∀ (m i b : Nat), b < s → i + m ≤ s → zle p m i b < s
  | 0, _, _, h, _ => h
  | m + 1, i, b, h, h2 => by
    rw [zle]
    split
    · exact zle_lt m (i + 1) i (by omega) (by omega)
    · exact zle_lt m (i + 1) b h (by omega)
def zag (p : Nat → Int) : Nat → Nat → Nat
  | 0, i => i
  | m + 1, i => if p i = 0 then i else zag p m (i + 1)
def zan (p : Nat → Bool) : Nat → Nat → Bool
  | 0, _ => false
  | m + 1, j => p j || zan p m (j + 1)
def zct (p : Nat → Nat → Bool) : Nat → Nat → Nat
  | 0, _ => 0
  | m + 1, i => (if zan (p i) i 0 = true then 0 else 1) + zct p m (i + 1)
theorem zct_le (p : Nat → Nat → Bool) : ∀ m i, zct p m i ≤ m
  | 0, _ => Nat.le_refl _
  | m + 1, i => by
    have := zct_le p m (i + 1)
    rw [zct]
    split <;> omega
theorem zct_1 {p : Nat → Nat → Bool} (h : ∀ i j, p i j = true) : ∀ m i, 1 ≤ i → zct p m i = 0
  | 0, _, _ => rfl
  | m + 1, i, hi => by
    obtain ⟨k, rfl⟩ : ∃ k, i = k + 1 := ⟨i - 1, by omega⟩
    rw [zct, zct_1 h m _ (by omega), zan, h, Bool.true_or, if_pos rfl]
theorem rd_c {d s k : Nat} {I : zI} (hs : I 52 2 = s) (h0 : 0 < s) (h1 : s ≤ 12) (hk : k ≤ 12) (hk0 : 0 < k) (hv : ∀ j, j < s → 0 ≤ I 53 j ∧ I 53 j ≤ 9) : cl (d + 3) 102 [.inr (some 52), .inl (k : Int)] I = some (((zct (fun i j => decide (zcm (I 53) s i j k 0 = 0)) s 0 : Nat) : Int), I) := by
  have inn : ∀ (c i : Nat), i < s → c < 100 → ∀ (m j : Nat), j + m = i → zD (d + 3) 102 16 [some (.inr (some 52)), some (.inl (k : Int)), some (.inl (c : Int)), some (.inl (i : Int)), some (.inl 0), some (.inl (j : Int))] [] I = zD (d + 3) 102 33 [some (.inr (some 52)), some (.inl (k : Int)), some (.inl (c : Int)), some (.inl (i : Int)), some (.inl (if zan (fun j => decide (zcm (I 53) s i j k 0 = 0)) m j = true then 1 else 0))] [] I := by
    intro c i hi hc m
    induction m with
    | zero =>
      intro j hj
      rw [e_102_16, if_neg (by omega)]; rfl
    | succ m ih =>
      intro j hj
      rw [e_102_16, if_pos (by omega), if_pos rfl, s_99 hs h0 h1 (by omega) (by omega) (by omega) hv, Option.bind_some, wr_id (z := (j : Int) + 1) (by omega) (by omega), ← zk1c, zan]
      by_cases hz : zcm (I 53) s i j k 0 = 0
      · rw [if_pos hz, decide_eq_true hz, Bool.true_or, if_pos rfl]
        rw [e_102_16]
        split
        · rw [if_neg (by decide)]
        · rfl
      · rw [if_neg hz, ih (j + 1) (by omega), decide_eq_false hz, Bool.false_or]
  have out : ∀ (m i c : Nat), i + m = s → c + m < 100 → zD (d + 3) 102 8 [some (.inr (some 52)), some (.inl (k : Int)), some (.inl (c : Int)), some (.inl (i : Int))] [] I = some (((c + zct (fun i j => decide (zcm (I 53) s i j k 0 = 0)) m i : Nat) : Int), I) := by
    intro m
    induction m with
    | zero =>
      intro i c hi hc
      rw [e_102_8, if_neg (by omega)]; rfl
    | succ m ih =>
      intro i c hi hc
      have h := inn c i (by omega) (by omega) i 0 (by omega)
      rw [e_102_8, if_pos (by omega)]
      refine h.trans ?_
      rw [e_102_33, wr_id (z := (c : Int) + 1) (by omega) (by omega), Int.add_zero, wr_id (z := (c : Int)) (by omega) (by omega), wr_id (z := (i : Int) + 1) (by omega) (by omega), ← zk1c, ← zk1c, ih (i + 1) (c + 1) (by omega) (by omega), ih (i + 1) c (by omega) (by omega), zct]
      by_cases hz : zan (fun j => decide (zcm (I 53) s i j k 0 = 0)) i 0 = true
      · rw [if_pos hz, if_pos hz, if_neg (by decide), Nat.zero_add]
      · rw [if_neg hz, if_neg hz, if_pos rfl, Nat.add_assoc]
  rw [e_102, if_neg (by omega)]
  have h := out s 0 0 (by omega) (by omega)
  rw [Nat.zero_add] at h
  exact h
theorem rd_m {e s k : Nat} {J : zI} (hs : J 240 62 = s) (h0 : 0 < s) (h1 : s ≤ 12) (hk : k ≤ 12) (hv : ∀ j, j < s → 0 ≤ J 276 j ∧ J 276 j ≤ 9) : cl (e + 2) 270 [.inr (some 240), .inl (k : Int)] J = some (((zct (fun i j => decide (zcm (J 276) s i j k 0 = 0)) s 0 : Nat) : Int), J) := by
  have inn : ∀ (c i : Nat), i < s → c < 100 → ∀ (m j : Nat) (x : Int), j + m = i → (x = 0 ∨ x = 1) → zD (e + 2) 270 12 [some (.inr (some 240)), some (.inl (k : Int)), some (.inl (c : Int)), some (.inl (i : Int)), some (.inl x), some (.inl (j : Int))] [] J = zD (e + 2) 270 4 [some (.inr (some 240)), some (.inl (k : Int)), some (.inl ((if x = 0 ∨ zan (fun j => decide (zcm (J 276) s i j k 0 = 0)) m j = true then c else c + 1 : Nat) : Int)), some (.inl ((i + 1 : Nat) : Int))] [] J := by
    intro c i hi hc m
    induction m with
    | zero =>
      intro j x hj hx
      rw [e_270_12, if_neg (by omega), wr_id (z := (i : Int) + 1) (by omega) (by omega), ← zk1c, wr_id (z := (c : Int) + 1) (by omega) (by omega), ← zk1c]
      rcases hx with rfl | rfl
      · rw [if_pos rfl, if_pos (Or.inl rfl)]
      · rw [if_neg (by decide), if_neg (by unfold zan; simp)]
    | succ m ih =>
      intro j x hj hx
      rw [e_270_12, if_pos (by omega), s_269 hs h0 h1 (by omega) (by omega) (by omega) hv, Option.bind_some, wr_id (z := (j : Int) + 1) (by omega) (by omega), ← zk1c, zan]
      by_cases hz : zcm (J 276) s i j k 0 = 0
      · rw [if_pos hz, ih (j + 1) 0 (by omega) (Or.inl rfl), decide_eq_true hz, Bool.true_or]
        simp
      · rw [if_neg hz, ih (j + 1) x (by omega) hx, decide_eq_false hz, Bool.false_or]
  have out : ∀ (m i c : Nat), i + m = s → c + m < 100 → zD (e + 2) 270 4 [some (.inr (some 240)), some (.inl (k : Int)), some (.inl (c : Int)), some (.inl (i : Int))] [] J = some (((c + zct (fun i j => decide (zcm (J 276) s i j k 0 = 0)) m i : Nat) : Int), J) := by
    intro m
    induction m with
    | zero =>
      intro i c hi hc
      rw [e_270_4, if_neg (by omega), if_neg (by omega)]; rfl
    | succ m ih =>
      intro i c hi hc
      have h := inn c i (by omega) (by omega) i 0 1 (by omega) (Or.inr rfl)
      rw [e_270_4, if_pos (by omega)]
      refine h.trans ?_
      rw [zct]
      by_cases hz : zan (fun j => decide (zcm (J 276) s i j k 0 = 0)) i 0 = true
      · rw [if_pos (Or.inr hz), ih (i + 1) c (by omega) (by omega), if_pos hz, Nat.zero_add]
      · rw [if_neg (by simp [hz]), ih (i + 1) (c + 1) (by omega) (by omega), if_neg hz, Nat.add_assoc]
  rw [e_270]
  have h := out s 0 0 (by omega) (by omega)
  rw [Nat.zero_add] at h
  exact h
theorem rd_least {d e s : Nat} {I J : zI} {w : Int} (hs : I 52 2 = s) (hs2 : J 240 62 = s) (h0 : 0 < s) (h1 : s ≤ 12) (hv : ∀ j, j < s → J 276 j = I 53 j ∧ 0 ≤ I 53 j ∧ I 53 j ≤ 9) :
    ∃ b : Nat, b < s ∧ cl (d + 3) 100 [.inr (some 52)] I = some ((b : Int), I) ∧ zD (e + 2) 271 32 [some (.inr (some 240)), some (.inl w), some (.inl 0), some (.inl 1)] [] J = (if w = 0 then some ((b : Int), J) else zD (e + 2) 271 53 [some (.inr (some 240)), some (.inl w), some (.inl (b : Int)), some (.inl 1)] [] J) := by
  have cg : ∀ a b m, zcm (J 276) s a b m 0 = zcm (I 53) s a b m 0 := fun a b m => zcm_cg h0 (fun j hj => (hv j hj).1) m 0
  have c1 : ∀ (m i b : Nat), i + m = max s i → b < s → b < i + 1 → zD (d + 3) 100 4 [some (.inr (some 52)), some (.inl (b : Int)), some (.inl (i : Int))] [] I = some (((zle (fun a b => zcm (I 53) s a b s 0) m i b : Nat) : Int), I) := by
    intro m
    induction m with
    | zero =>
      intro i b hi hb _
      rw [e_100_4, if_neg (by omega)]; rfl
    | succ m ih =>
      intro i b hi hb hb2
      rw [e_100_4, if_pos (by omega), hs, s_99 hs h0 h1 (by omega) (by omega) (by omega) (fun j hj => (hv j hj).2), Option.bind_some, wr_id (z := (i : Int) + 1) (by omega) (by omega), ← zk1c, zle, ih (i + 1) i (by omega) (by omega) (by omega), ih (i + 1) b (by omega) hb (by omega)]
      split <;> rfl
  have c2 : ∀ (m i b : Nat), i + m = max s i → b < s → b < i + 1 → zD (e + 2) 271 32 [some (.inr (some 240)), some (.inl w), some (.inl (b : Int)), some (.inl (i : Int))] [] J = (if w = 0 then some (((zle (fun a b => zcm (I 53) s a b s 0) m i b : Nat) : Int), J) else zD (e + 2) 271 53 [some (.inr (some 240)), some (.inl w), some (.inl ((zle (fun a b => zcm (I 53) s a b s 0) m i b : Nat) : Int)), some (.inl 1)] [] J) := by
    intro m
    induction m with
    | zero =>
      intro i b hi hb _
      rw [e_271_32, if_neg (by omega)]; rfl
    | succ m ih =>
      intro i b hi hb hb2
      rw [e_271_32, if_pos (by omega), hs2, s_269 hs2 h0 h1 (by omega) (by omega) (by omega) (fun j hj => by have := hv j hj; omega), Option.bind_some, wr_id (z := (i : Int) + 1) (by omega) (by omega), ← zk1c, cg, zle, ih (i + 1) i (by omega) (by omega) (by omega), ih (i + 1) b (by omega) hb (by omega)]
      by_cases hz : zcm (I 53) s i b s 0 < 0
      · simp only [if_pos hz]
      · simp only [if_neg hz]
  refine ⟨zle (fun a b => zcm (I 53) s a b s 0) (s - 1) 1 0, zle_lt (s - 1) 1 0 h0 (by omega), ?_, ?_⟩
  · rw [e_100]
    exact c1 (s - 1) 1 0 (by omega) h0 (by omega)
  · exact c2 (s - 1) 1 0 (by omega) h0 (by omega)
theorem rd_again {d e s : Nat} {I J : zI} {w1 w2 : Option zV} (hs : I 52 2 = s) (hs2 : J 240 62 = s) (h0 : 0 < s) (h1 : s ≤ 12) (hv : ∀ j, j < s → J 276 j = I 53 j ∧ 0 ≤ I 53 j ∧ I 53 j ≤ 9) :
    ∃ b : Int, cl (d + 3) 101 [.inr (some 52)] I = some (b, I) ∧ zD (e + 2) 271 53 [some (.inr (some 240)), w1, w2, some (.inl 1)] [] J = some (b, J) := by
  have cg : ∀ a b m, zcm (J 276) s a b m 0 = zcm (I 53) s a b m 0 := fun a b m => zcm_cg h0 (fun j hj => (hv j hj).1) m 0
  have key : ∀ (m i : Nat), i + m = s → zD (d + 3) 101 2 [some (.inr (some 52)), some (.inl (i : Int))] [] I = some (((zag (fun a => zcm (I 53) s a 0 s 0) m i : Nat) : Int), I) ∧ zD (e + 2) 271 53 [some (.inr (some 240)), w1, w2, some (.inl (i : Int))] [] J = some (((zag (fun a => zcm (I 53) s a 0 s 0) m i : Nat) : Int), J) := by
    intro m
    induction m with
    | zero =>
      intro i hi
      refine ⟨?_, ?_⟩
      · rw [e_101_2, if_neg (by omega), hs, zag, ← hi]; rfl
      · have hi2 : i = s := by omega
        subst hi2
        rw [e_271_53, hs2, show (0 : Int) = ((0 : Nat) : Int) from rfl, s_269 hs2 h0 h1 (by omega) (by omega) (by omega) (fun j hj => by have := hv j hj; omega), Option.bind_some, cg, zcm_s]
        exact if_pos rfl
    | succ m ih =>
      intro i hi
      obtain ⟨f1, f2⟩ := ih (i + 1) (by omega)
      have E1 := e_101_2 (d := d + 2) (I := I) (x1 := (i : Int))
      rw [if_pos (by omega), hs, show (0 : Int) = ((0 : Nat) : Int) from rfl, s_99 hs h0 h1 (by omega) (by omega) (by omega) (fun j hj => (hv j hj).2), Option.bind_some, wr_id (z := (i : Int) + 1) (by omega) (by omega), ← zk1c, f1] at E1
      have E2 := e_271_53 (d := e + 1) (I := J) (w1 := w1) (w2 := w2) (x3 := (i : Int))
      rw [hs2, show (0 : Int) = ((0 : Nat) : Int) from rfl, s_269 hs2 h0 h1 (by omega) (by omega) (by omega) (fun j hj => by have := hv j hj; omega), Option.bind_some, cg, wr_id (z := (i : Int) + 1) (by omega) (by omega), ← zk1c, f2] at E2
      refine ⟨?_, ?_⟩
      · rw [E1, zag]
        by_cases hz : zcm (I 53) s i 0 s 0 = 0
        · simp [hz]
        · simp [hz]
      · rw [E2, zag]
        by_cases hz : zcm (I 53) s i 0 s 0 = 0
        · simp [hz]
        · simp [hz]
  obtain ⟨f1, f2⟩ := key (s - 1) 1 (by omega)
  exact ⟨_, by rw [e_101]; exact f1, f2⟩
theorem q_read {I : zI} {w : Int} (h : Rl I) : Pair 144 271 [.inl w] I := by
  have r := h.1.2.2.2.2.2.2.2.2.2.2.1
  obtain ⟨r1, r2, r3, r4⟩ := r
  simp only [Nat.reduceAdd] at r4
  have hs : I 52 2 = ((I 52 2).toNat : Int) := by omega
  have hs2 : up I 240 0 0 240 62 = ((I 52 2).toNat : Int) := by simp only [Option.bind_some, b01, up_c, up_j, up_s, Nat.reduceEqDiff, not_false_eq_true]; omega
  have hv : ∀ j, j < (I 52 2).toNat → up I 240 0 0 276 j = I 53 j ∧ 0 ≤ I 53 j ∧ I 53 j ≤ 9 := by
    intro j hj
    simp only [Option.bind_some, b01, up_c, up_j, up_s, Nat.reduceEqDiff, not_false_eq_true]
    exact r4 j (by omega)
  have E1 := e_144 (d := 59) (I := I) (x1 := w)
  simp only [s_156, Option.bind_some, b01] at E1
  have E2 := e_271 (d := 59) (I := I) (x1 := w)
  simp only [s_158, Option.bind_some, b01] at E2
  by_cases h0 : (I 52 2).toNat = 0
  · -- none told
    have hz : I 52 2 = 0 := by omega
    have hz2 : up I 240 0 0 240 62 = 0 := by omega
    by_cases hw : 0 ≤ w ∧ w ≤ 1
    · rw [if_pos (by omega), if_neg (not_not_intro hw), if_pos hz2] at E2
      refine Pair_of h (r := 0) ?_ E2 Ag_0
      rw [E1]
      have e100 : cl 59 100 [.inr (some 52)] I = some (0, I) := by rw [e_100, e_100_4, if_neg (by omega)]
      have e101 : cl 59 101 [.inr (some 52)] I = some (0, I) := by rw [e_101, e_101_2, if_neg (by omega), hz]
      by_cases hw0 : w = 0
      · rw [if_pos hw0, e100]; rfl
      · rw [if_neg hw0, if_pos (by omega), e101]; rfl
    · by_cases hw2 : 100 ≤ w ∧ w ≤ 112
      · rw [if_neg (not_not_intro hw2), wr_id (by omega) (by omega), e_270, e_270_4, if_neg (by omega), if_pos hz2] at E2
        rw [if_neg (by omega), if_neg (by omega), if_neg (not_not_intro hw2), wr_id (by omega) (by omega), e_102] at E1
        by_cases hk : w - 100 = 0
        · rw [if_pos hk] at E1 E2
          exact Pair_of h E1 E2 Ag_0
        · rw [if_neg hk, e_102_8, if_neg (by omega)] at E1
          rw [if_neg hk] at E2
          exact Pair_of h E1 E2 Ag_0
      · rw [if_pos hw2, if_pos hw] at E2
        rw [if_neg (by omega), if_neg (by omega), if_pos hw2] at E1
        exact Pair_of h E1 E2 Ag_0
  · by_cases hw : 0 ≤ w ∧ w ≤ 1
    · rw [if_pos (by omega), if_neg (not_not_intro hw), if_neg (by omega)] at E2
      obtain ⟨b, hb, f1, f2⟩ := rd_least (d := 56) (e := 58) (w := w) hs hs2 (by omega) (by omega) hv
      rw [f2] at E2
      by_cases hw0 : w = 0
      · rw [if_pos hw0, f1] at E1
        rw [if_pos hw0] at E2
        exact Pair_of h E1 E2 Ag_0
      · obtain ⟨c, g1, g2⟩ := rd_again (d := 56) (e := 58) (w1 := some (.inl w)) (w2 := some (.inl (b : Int))) hs hs2 (by omega) (by omega) hv
        rw [if_neg hw0, if_pos (by omega), g1] at E1
        rw [if_neg hw0, g2] at E2
        exact Pair_of h E1 E2 Ag_0
    · by_cases hw2 : 100 ≤ w ∧ w ≤ 112
      · have hk : w - 100 = ((w - 100).toNat : Int) := by omega
        rw [if_neg (not_not_intro hw2), wr_id (by omega) (by omega), hk, rd_m hs2 (by omega) (by omega) (by omega) (fun j hj => by have := hv j hj; omega)] at E2
        rw [if_neg (by omega), if_neg (by omega), if_neg (not_not_intro hw2), wr_id (by omega) (by omega)] at E1
        have cg : (fun i j => decide (zcm (up I 240 0 0 276) (I 52 2).toNat i j (w - 100).toNat 0 = 0)) = (fun i j => decide (zcm (I 53) (I 52 2).toNat i j (w - 100).toNat 0 = 0)) := by
          funext i j
          rw [zcm_cg (by omega) (fun j hj => (hv j hj).1) (w - 100).toNat 0]
        rw [cg] at E2
        by_cases hk0 : (w - 100).toNat = 0
        · rw [show w - 100 = 0 by omega, e_102, if_pos rfl] at E1
          refine Pair_of h E1 ?_ Ag_0
          rw [E2, hk0]
          obtain ⟨t, ht⟩ : ∃ t, (I 52 2).toNat = t + 1 := ⟨(I 52 2).toNat - 1, by omega⟩
          rw [ht, zct, zct_1 (fun i j => by rw [zcm]; rfl) t 1 (by omega)]
          rfl
        · rw [hk, rd_c hs (by omega) (by omega) (by omega) (by omega) (fun j hj => (hv j hj).2)] at E1
          exact Pair_of h E1 E2 Ag_0
      · rw [if_pos hw2, if_pos hw] at E2
        rw [if_neg (by omega), if_neg (by omega), if_pos hw2] at E1
        exact Pair_of h E1 E2 Ag_0
