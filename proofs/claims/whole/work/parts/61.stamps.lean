/-! STAMPS -/
def tq (n : Nat) (a : Nat → Int) (s : Nat) : Bool :=
  if s = 0 then true else (List.range n).any fun j => if h : 0 < a j ∧ a j ≤ (s : Int) then tq n a (s - (a j).toNat) else false
termination_by s
decreasing_by omega
def tf (n : Nat) (a : Nat → Int) (s j : Nat) : Bool := decide (a j ≤ (s : Int)) && tq n a (s - (a j).toNat)
def tv (n : Nat) (a : Nat → Int) (s j : Nat) : Int := if s = 0 then 1 else if ((List.range j).any (tf n a s)) = true then 1 else 0
def tb (n : Nat) (a : Nat → Int) (s : Nat) : Int := if tq n a s = true then 1 else 0
theorem tq_0 {n : Nat} {a : Nat → Int} : tq n a 0 = true := by
  rw [tq]; rfl
theorem any_cg {p q : Nat → Bool} : ∀ (n : Nat), (∀ j, j < n → p j = q j) → (List.range n).any p = (List.range n).any q := by
  intro n h
  refine Bool.eq_iff_iff.mpr ?_
  rw [List.any_eq_true, List.any_eq_true]
  constructor
  · rintro ⟨j, hj, e⟩
    exact ⟨j, hj, (h j (List.mem_range.mp hj)) ▸ e⟩
  · rintro ⟨j, hj, e⟩
    exact ⟨j, hj, (h j (List.mem_range.mp hj)).symm ▸ e⟩
theorem tv_n {n : Nat} {a : Nat → Int} (s : Nat) (ha : ∀ j, j < n → 0 < a j) : tv n a s n = tb n a s := by
  rw [tv, tb]
  by_cases hs : s = 0
  · rw [if_pos hs, hs, tq_0, if_pos rfl]
  · rw [if_neg hs]
    have e : tq n a s = (List.range n).any (tf n a s) := by
      rw [tq, if_neg hs]
      refine any_cg n fun j hj => ?_
      have := ha j hj
      unfold tf
      by_cases h : a j ≤ (s : Int)
      · rw [dif_pos ⟨this, h⟩, decide_eq_true h, Bool.true_and]
      · rw [dif_neg (fun x => h x.2), decide_eq_false h, Bool.false_and]
    rw [e]
theorem tv_s {n : Nat} {a : Nat → Int} (s j : Nat) : tv n a s (j + 1) = if tf n a s j = true then 1 else tv n a s j := by
  unfold tv
  rw [List.range_succ, List.any_append]
  by_cases hs : s = 0
  · simp only [if_pos hs, ite_self]
  · simp only [if_neg hs]
    by_cases h : tf n a s j = true
    · rw [if_pos h, if_pos (by simp [h])]
    · rw [if_neg h]
      have : ([j].any (tf n a s)) = false := by simpa using h
      rw [this, Bool.or_false]
theorem tv_0 {n : Nat} {a : Nat → Int} (s : Nat) : tv n a s 0 = if s = 0 then 1 else 0 := by
  unfold tv
  rfl
theorem tq_ad {n : Nat} {a : Nat → Int} {s j : Nat} (ha : ∀ j, j < n → 0 < a j) (hj : j < n) (h : tq n a s = true) : tq n a (s + (a j).toNat) = true := by
  have hp := ha j hj
  rw [tq, if_neg (by omega), List.any_eq_true]
  refine ⟨j, List.mem_range.mpr hj, ?_⟩
  rw [dif_pos ⟨hp, by omega⟩, show s + (a j).toNat - (a j).toNat = s by omega]
  exact h
theorem tq_mul {n : Nat} {a : Nat → Int} {s j : Nat} (ha : ∀ j, j < n → 0 < a j) (hj : j < n) (h : tq n a s = true) : ∀ c : Nat, tq n a (s + c * (a j).toNat) = true
  | 0 => by rw [Nat.zero_mul]; exact h
  | c + 1 => by
    rw [Nat.succ_mul, ← Nat.add_assoc]
    exact tq_ad ha hj (tq_mul ha hj h c)
/-- a residue by so many of one stamp -/
def rsd (g x r : Nat) : Bool := (List.range (g / Nat.gcd g x)).any fun c => decide ((c * x) % g = r)
def rsa (g x : Nat) : Bool := decide (g / Nat.gcd g x + Nat.gcd g x ≤ g + 1) && (List.range g).all fun r => decide (¬ r % Nat.gcd g x = 0) || rsd g x r
theorem rsa_all : ((List.range 30).all fun g => (List.range 30).all fun x => rsa (g + 1) (x + 1)) = true := by decide +kernel
theorem rsa_at {g x : Nat} (hg : 1 ≤ g) (hg2 : g ≤ 30) (hx : 1 ≤ x) (hx2 : x ≤ 30) : rsa g x = true := by
  have := List.all_eq_true.mp (List.all_eq_true.mp rsa_all (g - 1) (List.mem_range.mpr (by omega))) (x - 1) (List.mem_range.mpr (by omega))
  rwa [show g - 1 + 1 = g by omega, show x - 1 + 1 = x by omega] at this
def gq (a : Nat → Int) : Nat → Nat
  | 0 => 0
  | k + 1 => Nat.gcd (gq a k) (a k).toNat
theorem gq_rg {a : Nat → Int} {n : Nat} (ha : ∀ j, j < n → 1 ≤ a j ∧ a j ≤ 30) : ∀ k, k ≤ n → gq a k ≤ 30 ∧ (0 < k → 1 ≤ gq a k)
  | 0, _ => ⟨Nat.zero_le _, fun h => absurd h (by omega)⟩
  | k + 1, hk => by
    have h := ha k (by omega)
    have p := Nat.gcd_pos_of_pos_right (gq a k) (show 0 < (a k).toNat by omega)
    have l := Nat.gcd_le_right (gq a k) (show 0 < (a k).toNat by omega)
    refine ⟨?_, fun _ => ?_⟩
    · show Nat.gcd _ _ ≤ 30
      omega
    · exact p
theorem sch {a : Nat → Int} {n : Nat} (ha : ∀ j, j < n → 1 ≤ a j ∧ a j ≤ 30) : ∀ k, k + 1 ≤ n → ∃ N : Nat, N + 30 * gq a (k + 1) ≤ 900 ∧ ∀ s : Nat, N ≤ s → s % gq a (k + 1) = 0 → tq n a s = true
  | 0, hk => by
    have h := ha 0 (by omega)
    have e : gq a 1 = (a 0).toNat := Nat.gcd_zero_left _
    refine ⟨0, by rw [e]; omega, fun s _ hs => ?_⟩
    rw [e] at hs
    have hm := tq_mul (fun j hj => show 0 < a j by have := ha j hj; omega) (show 0 < n by omega) tq_0 (s / (a 0).toNat)
    have hd := Nat.div_add_mod s (a 0).toNat
    rw [hs, Nat.mul_comm] at hd
    rw [Nat.zero_add] at hm
    rw [Nat.add_zero] at hd
    rwa [hd] at hm
  | k + 1, hk => by
    obtain ⟨N, hN, hT⟩ := sch ha k (by omega)
    have h := ha (k + 1) (by omega)
    obtain ⟨g2, g1⟩ := gq_rg ha (k + 1) (by omega)
    have g1 := g1 (by omega)
    have e : gq a (k + 2) = Nat.gcd (gq a (k + 1)) (a (k + 1)).toNat := rfl
    have hr := rsa_at (g := gq a (k + 1)) (x := (a (k + 1)).toNat) g1 g2 (by omega) (by omega)
    generalize gq a (k + 1) = g at *
    have hx : (((a (k + 1)).toNat : Nat) : Int) = a (k + 1) := by omega
    have hx3 : (a (k + 1)).toNat ≤ 30 := by omega
    have hmul := fun {s : Nat} => tq_mul (n := n) (s := s) (fun j hj => show 0 < a j by have := ha j hj; omega) (show k + 1 < n by omega)
    generalize (a (k + 1)).toNat = x at *
    unfold rsa at hr
    rw [Bool.and_eq_true] at hr
    have hq := of_decide_eq_true hr.1
    have hp := Nat.gcd_pos_of_pos_left x (show 0 < g by omega)
    have hgd : g / Nat.gcd g x * Nat.gcd g x = g := Nat.div_mul_cancel (Nat.gcd_dvd_left g x)
    have hdv : Nat.gcd g x ∣ g := Nat.gcd_dvd_left g x
    have hdx : Nat.gcd g x ∣ x := Nat.gcd_dvd_right g x
    rw [e]
    have hR := hr.2
    unfold rsd at hR
    generalize Nat.gcd g x = e2 at *
    generalize hqq : g / e2 = q at *
    have hq1 : 1 ≤ q := by
      rcases Nat.eq_zero_or_pos q with z | z
      · rw [z, Nat.zero_mul] at hgd; omega
      · exact z
    refine ⟨N + (q - 1) * 30, by omega, fun s hs hm => ?_⟩
    have hr2 := List.all_eq_true.mp hR (s % g) (List.mem_range.mpr (Nat.mod_lt _ (by omega)))
    have hm2 : s % g % e2 = 0 := by rw [Nat.mod_mod_of_dvd s hdv]; exact hm
    rw [Bool.or_eq_true] at hr2
    have hr3 := hr2.resolve_left (by simp [hm2])
    obtain ⟨c, hc, hce⟩ := List.any_eq_true.mp hr3
    have hc := List.mem_range.mp hc
    have hce := of_decide_eq_true hce
    have hle : c * x ≤ (q - 1) * 30 := Nat.mul_le_mul (by omega) hx3
    have hz : (s - c * x) % g = 0 := by exact Nat.sub_mod_eq_zero_of_mod_eq hce.symm
    have := hmul (hT (s - c * x) (by omega) hz) c
    rwa [show s - c * x + c * x = s by omega] at this
/-! the table -/
def sW (I : zI) (c : Nat) (T : Nat → Bool) (s : Nat) (v : Int) : zI := fun c' j => if c' = c then (if j < s then (if T j = true then 1 else 0) else if j = s then v else I c' j) else I c' j
theorem sW_o {I : zI} {c c' j s : Nat} {T : Nat → Bool} {v : Int} (h : ¬ c' = c) : sW I c T s v c' j = I c' j := if_neg h
theorem sW_lt {I : zI} {c j s : Nat} {T : Nat → Bool} {v : Int} (h : j < s) : sW I c T s v c j = if T j = true then 1 else 0 := by
  unfold sW
  rw [if_pos rfl, if_pos h]
theorem sW_at {I : zI} {c s : Nat} {T : Nat → Bool} {v : Int} : sW I c T s v c s = v := by
  unfold sW
  rw [if_pos rfl, if_neg (Nat.lt_irrefl s), if_pos rfl]
theorem sW_up {I : zI} {c s : Nat} {T : Nat → Bool} {v v' : Int} : up (sW I c T s v) c s v' = sW I c T s v' := by
  funext x y
  unfold up sW
  by_cases hx : x = c
  · by_cases hy : y = s
    · simp [hx, hy]
    · simp [hx, hy]
  · simp [hx]
theorem sW_nx {I : zI} {c s : Nat} {T : Nat → Bool} {v v' : Int} (hv : v = if T s = true then 1 else 0) : up (sW I c T s v) c (s + 1) v' = sW I c T (s + 1) v' := by
  funext x y
  unfold up sW
  by_cases hx : x = c
  · by_cases hy : y = s + 1
    · simp [hx, hy]
    · by_cases hz : y = s
      · simp [hx, hz, hv]
      · have e : (y < s + 1) = (y < s) := propext ⟨fun _ => by omega, fun _ => by omega⟩
        simp [hx, hy, hz, e]
  · simp [hx]
theorem sW_0 {I : zI} {c : Nat} {T : Nat → Bool} {v : Int} : up I c 0 v = sW I c T 0 v := by
  funext x y
  unfold up sW
  by_cases hx : x = c
  · by_cases hy : y = 0
    · simp [hx, hy]
    · simp [hx, hy]
  · simp [hx]
theorem sW_ag {I : zI} {c s : Nat} {T : Nat → Bool} {v : Int} (hc : scrC.contains c = true) : Ag scrC scrF I (sW I c T s v) := fun k j h1 _ => by
  refine sW_o fun e => ?_
  rw [e, hc] at h1
  exact Bool.noConfusion h1
def ucm (T : Nat → Bool) : Nat → Int
  | 0 => 0
  | s + 1 => if T (s + 1) = true ∨ 1000 < s + 1 then ucm T s else wr (ucm T s + 1)
def ucn (T : Nat → Bool) : Nat → Int
  | 0 => 0
  | s + 1 => if T (s + 1) = true then ucn T s else wr (ucn T s + 1)
def uls (T : Nat → Bool) : Nat → Int
  | 0 => 0
  | s + 1 => if T (s + 1) = true then uls T s else ((s + 1 : Nat) : Int)
theorem uls_st {T : Nat → Bool} : ∀ k, (∀ s, 1000 < s → T s = true) → uls T (1000 + k) = uls T 1000
  | 0, _ => rfl
  | k + 1, h => by
    rw [← Nat.add_assoc, uls, if_pos (h _ (by omega)), uls_st k h]
theorem st_c {d n s : Nat} {I : zI} {a : Nat → Int} {x2 x3 x4 : Int} (hn : n ≤ 4) (hI : I 46 2 = (n : Int)) (ha : ∀ j, j < n → I 47 j = a j ∧ 1 ≤ a j ∧ a j ≤ 30) (h2 : s ≤ 1000) :
    zD (d + 1) 90 21 [some (.inr (some 231)), some (.inr (some 46)), some (.inl x2), some (.inl x3), some (.inl x4), some (.inl (s : Int)), some (.inl 0)] [] (sW I 235 (tq n a) s (tv n a s 0)) =
      zD (d + 1) 90 21 [some (.inr (some 231)), some (.inr (some 46)), some (.inl x2), some (.inl x3), some (.inl x4), some (.inl (s : Int)), some (.inl (n : Int))] [] (sW I 235 (tq n a) s (tb n a s)) := by
  refine zloop (n := n) (P := fun k => zD (d + 1) 90 21 [some (.inr (some 231)), some (.inr (some 46)), some (.inl x2), some (.inl x3), some (.inl x4), some (.inl (s : Int)), some (.inl (k : Int))] [] (sW I 235 (tq n a) s (tv n a s k))) (fun k hk => ?_) ?_
  · show zD _ _ _ _ _ _ = zD _ _ _ _ _ _
    obtain ⟨hk1, hk2, hk3⟩ := ha k hk
    have c46 : sW I 235 (tq n a) s (tv n a s k) 46 2 = (n : Int) := (sW_o (by decide)).trans hI
    have c47 : sW I 235 (tq n a) s (tv n a s k) 47 k = a k := (sW_o (by decide)).trans hk1
    have hc : 0 ≤ (k : Int) ∧ (k : Int) < 12 := by omega
    rw [e_90_21, c46, if_pos (show (k : Int) < (n : Int) by omega)]
    simp only [if_pos hc, Int.toNat_natCast, c47]
    rw [if_pos (show 0 < a k by omega), wr_id (z := (k : Int) + 1) (by omega) (by omega), zk1c, tv_s]
    by_cases hs : (s : Int) < a k
    · rw [if_pos hs]
      have : ¬ tf n a s k = true := by unfold tf; rw [decide_eq_false (by omega), Bool.false_and]; exact Bool.noConfusion
      rw [if_neg this]
    · have e1 : ((s : Int) - a k).toNat = s - (a k).toNat := by omega
      have hs2 : 0 ≤ (s : Int) ∧ (s : Int) < 1001 := by omega
      rw [if_neg hs, wr_id (z := (s : Int) - a k) (by omega) (by omega), if_pos (by omega), e1, sW_lt (by omega)]
      simp only [if_pos hs2, Int.toNat_natCast, sW_up]
      by_cases hT : tq n a (s - (a k).toNat) = true
      · have : tf n a s k = true := by unfold tf; rw [decide_eq_true (by omega), Bool.true_and]; exact hT
        rw [if_pos hT, if_pos rfl, if_pos this]
      · have : ¬ tf n a s k = true := by unfold tf; rw [decide_eq_true (by omega), Bool.true_and]; exact hT
        rw [if_neg hT, if_neg (by omega), if_neg this]
  · show zD _ _ _ _ _ _ = zD _ _ _ _ _ _
    rw [tv_n s fun j hj => by have := (ha j hj).2.1; omega]
theorem st_m {d n s : Nat} {I : zI} {a : Nat → Int} {x1 x2 x3 x4 : Int} (hn : n ≤ 4) (hI : I 240 51 = (n : Int)) (ha : ∀ j, j < n → I 269 j = a j ∧ 1 ≤ a j ∧ a j ≤ 30) (h2 : s ≤ 2000) :
    zD (d + 1) 255 56 [some (.inr (some 240)), some (.inl x1), some (.inl x2), some (.inl x3), some (.inl x4), some (.inl (s : Int)), some (.inl 0)] [] (sW I 270 (tq n a) s (tv n a s 0)) =
      zD (d + 1) 255 56 [some (.inr (some 240)), some (.inl x1), some (.inl x2), some (.inl x3), some (.inl x4), some (.inl (s : Int)), some (.inl (n : Int))] [] (sW I 270 (tq n a) s (tb n a s)) := by
  refine zloop (n := n) (P := fun k => zD (d + 1) 255 56 [some (.inr (some 240)), some (.inl x1), some (.inl x2), some (.inl x3), some (.inl x4), some (.inl (s : Int)), some (.inl (k : Int))] [] (sW I 270 (tq n a) s (tv n a s k))) (fun k hk => ?_) ?_
  · show zD _ _ _ _ _ _ = zD _ _ _ _ _ _
    obtain ⟨hk1, hk2, hk3⟩ := ha k hk
    have c46 : sW I 270 (tq n a) s (tv n a s k) 240 51 = (n : Int) := (sW_o (by decide)).trans hI
    have c47 : sW I 270 (tq n a) s (tv n a s k) 269 k = a k := (sW_o (by decide)).trans hk1
    have hc : 0 ≤ (k : Int) ∧ (k : Int) < 4 := by omega
    rw [e_255_56, c46, if_pos (show (k : Int) < (n : Int) by omega)]
    simp only [if_pos hc, Int.toNat_natCast, c47]
    rw [wr_id (z := (k : Int) + 1) (by omega) (by omega), zk1c, tv_s]
    by_cases hs : (s : Int) < a k
    · rw [if_pos hs]
      have : ¬ tf n a s k = true := by unfold tf; rw [decide_eq_false (by omega), Bool.false_and]; exact Bool.noConfusion
      rw [if_neg this]
    · have e1 : ((s : Int) - a k).toNat = s - (a k).toNat := by omega
      have hs2 : 0 ≤ (s : Int) ∧ (s : Int) < 2001 := by omega
      rw [if_neg hs, wr_id (z := (s : Int) - a k) (by omega) (by omega), if_pos (by omega), e1, sW_lt (by omega)]
      simp only [if_pos hs2, Int.toNat_natCast, sW_up]
      by_cases hT : tq n a (s - (a k).toNat) = true
      · have : tf n a s k = true := by unfold tf; rw [decide_eq_true (by omega), Bool.true_and]; exact hT
        rw [if_pos hT, if_pos rfl, if_pos this]
      · have : ¬ tf n a s k = true := by unfold tf; rw [decide_eq_true (by omega), Bool.true_and]; exact hT
        rw [if_neg hT, if_neg (by omega), if_neg this]
  · show zD _ _ _ _ _ _ = zD _ _ _ _ _ _
    rw [tv_n s fun j hj => by have := (ha j hj).2.1; omega]
theorem so_c {d n : Nat} {I : zI} {a : Nat → Int} {x2 : Int} (hn : n ≤ 4) (hI : I 46 2 = (n : Int)) (ha : ∀ j, j < n → I 47 j = a j ∧ 1 ≤ a j ∧ a j ≤ 30) :
    zD (d + 1) 90 11 [some (.inr (some 231)), some (.inr (some 46)), some (.inl x2), some (.inl 0), some (.inl 0), some (.inl 1)] [] (sW I 235 (tq n a) 0 (tb n a 0)) =
      zD (d + 1) 90 11 [some (.inr (some 231)), some (.inr (some 46)), some (.inl x2), some (.inl (ucn (tq n a) 1000)), some (.inl (uls (tq n a) 1000)), some (.inl ((1000 : Nat) + 1 : Int))] [] (sW I 235 (tq n a) 1000 (tb n a 1000)) := by
  refine zloop (n := 1000) (P := fun k => zD (d + 1) 90 11 [some (.inr (some 231)), some (.inr (some 46)), some (.inl x2), some (.inl (ucn (tq n a) k)), some (.inl (uls (tq n a) k)), some (.inl ((k : Int) + 1))] [] (sW I 235 (tq n a) k (tb n a k))) (fun k hk => ?_) rfl
  show zD _ _ _ _ _ _ = zD _ _ _ _ _ _
  have e1 : ((k : Int) + 1).toNat = k + 1 := by omega
  have h0 : tv n a (k + 1) 0 = 0 := by rw [tv_0, if_neg (by omega)]
  have c46 : ∀ v, sW I 235 (tq n a) (k + 1) v 46 2 = (n : Int) := fun v => (sW_o (by decide)).trans hI
  have hs2 : 0 ≤ ((k + 1 : Nat) : Int) ∧ ((k + 1 : Nat) : Int) < 1001 := by omega
  rw [e_90_11, if_neg (by omega), if_pos (by omega), e1, sW_nx (v := tb n a k) rfl]
  have F := st_c (d := d) (s := k + 1) (x2 := x2) (x3 := ucn (tq n a) k) (x4 := uls (tq n a) k) hn hI ha (by omega)
  rw [h0] at F
  rw [← zk1c k, F, e_90_21, c46, if_neg (by omega)]
  simp only [if_pos hs2, Int.toNat_natCast, sW_at]
  rw [wr_id (z := ((k + 1 : Nat) : Int) + 1) (by omega) (by omega)]
  rw [ucn, uls]
  by_cases hT : tq n a (k + 1) = true
  · rw [if_neg (show ¬ tb n a (k + 1) = 0 by rw [tb, if_pos hT]; decide), if_pos hT, if_pos hT]
  · rw [if_pos (show tb n a (k + 1) = 0 by rw [tb, if_neg hT]), if_neg hT, if_neg hT]
theorem ucm_lo {T : Nat → Bool} : ∀ k, k ≤ 1000 → ucm T k = ucn T k
  | 0, _ => rfl
  | k + 1, h => by
    rw [ucm, ucn, ucm_lo k (by omega)]
    by_cases hT : T (k + 1) = true
    · rw [if_pos (Or.inl hT), if_pos hT]
    · rw [if_neg (fun x => x.elim hT (by omega)), if_neg hT]
theorem ucm_hi {T : Nat → Bool} : ∀ k, ucm T (1000 + k) = ucn T 1000
  | 0 => ucm_lo 1000 (by omega)
  | k + 1 => by rw [← Nat.add_assoc, ucm, if_pos (Or.inr (by omega)), ucm_hi k]
theorem si_m {d n s : Nat} {I : zI} {a : Nat → Int} {x1 x2 x3 x4 : Int} (hn : n ≤ 4) (hI : I 240 51 = (n : Int)) (ha : ∀ j, j < n → I 269 j = a j ∧ 1 ≤ a j ∧ a j ≤ 30) (h2 : s ≤ 2000) :
    zD (d + 1) 255 56 [some (.inr (some 240)), some (.inl x1), some (.inl x2), some (.inl x3), some (.inl x4), some (.inl (s : Int)), some (.inl 0)] [] (sW I 270 (tq n a) s (tv n a s 0)) =
      zD (d + 1) 255 42 [some (.inr (some 240)), some (.inl x1), some (.inl x2), some (.inl (if tq n a s = true then x3 else (s : Int))), some (.inl (if tq n a s = true ∨ 1000 < s then x4 else wr (x4 + 1))), some (.inl ((s : Int) + 1))] [] (sW I 270 (tq n a) s (tb n a s)) := by
  have c46 : ∀ v, sW I 270 (tq n a) s v 240 51 = (n : Int) := fun v => (sW_o (by decide)).trans hI
  have hs2 : 0 ≤ (s : Int) ∧ (s : Int) < 2001 := by omega
  rw [st_m hn hI ha h2, e_255_56, c46, if_neg (by omega)]
  simp only [if_pos hs2, Int.toNat_natCast, sW_at]
  rw [wr_id (z := (s : Int) + 1) (by omega) (by omega)]
  by_cases hT : tq n a s = true
  · rw [if_pos (show tb n a s = 1 by rw [tb, if_pos hT]), if_pos hT, if_pos (Or.inl hT)]
  · rw [if_neg (show ¬ tb n a s = 1 by rw [tb, if_neg hT]; decide), if_neg hT]
    by_cases h10 : 1000 < s
    · rw [if_pos (show (1000 : Int) < (s : Int) by omega), if_pos (Or.inr h10)]
    · rw [if_neg (show ¬ (1000 : Int) < (s : Int) by omega), if_neg (fun x => x.elim hT h10)]
theorem so_m {d n : Nat} {I : zI} {a : Nat → Int} {x1 x2 : Int} (hn : n ≤ 4) (hI : I 240 51 = (n : Int)) (ha : ∀ j, j < n → I 269 j = a j ∧ 1 ≤ a j ∧ a j ≤ 30) :
    zD (d + 1) 255 42 [some (.inr (some 240)), some (.inl x1), some (.inl x2), some (.inl 0), some (.inl 0), some (.inl 0)] [] I =
      zD (d + 1) 255 42 [some (.inr (some 240)), some (.inl x1), some (.inl x2), some (.inl (uls (tq n a) 2000)), some (.inl (ucm (tq n a) 2000)), some (.inl ((2000 : Nat) + 1 : Int))] [] (sW I 270 (tq n a) 2000 (tb n a 2000)) := by
  have F0 := si_m (d := d) (s := 0) (x1 := x1) (x2 := x2) (x3 := 0) (x4 := 0) hn hI ha (by omega)
  rw [if_pos tq_0, if_pos (Or.inl tq_0), tv_0, if_pos rfl] at F0
  have h0 : zD (d + 1) 255 42 [some (.inr (some 240)), some (.inl x1), some (.inl x2), some (.inl 0), some (.inl 0), some (.inl 0)] [] I = zD (d + 1) 255 42 [some (.inr (some 240)), some (.inl x1), some (.inl x2), some (.inl 0), some (.inl 0), some (.inl (((0 : Nat) : Int) + 1))] [] (sW I 270 (tq n a) 0 (tb n a 0)) := by
    rw [← F0, e_255_42, if_neg (by decide), if_pos rfl, if_pos (by decide)]
    show zD _ _ _ _ _ (up I 270 0 1) = _
    rw [sW_0 (T := tq n a)]
    rfl
  rw [h0]
  refine zloop (n := 2000) (P := fun k => zD (d + 1) 255 42 [some (.inr (some 240)), some (.inl x1), some (.inl x2), some (.inl (uls (tq n a) k)), some (.inl (ucm (tq n a) k)), some (.inl ((k : Int) + 1))] [] (sW I 270 (tq n a) k (tb n a k))) (fun k hk => ?_) rfl
  show zD _ _ _ _ _ _ = zD _ _ _ _ _ _
  have e1 : ((k : Int) + 1).toNat = k + 1 := by omega
  have h0 : tv n a (k + 1) 0 = 0 := by rw [tv_0, if_neg (by omega)]
  rw [e_255_42, if_neg (by omega), if_neg (by omega), if_pos (by omega), e1, sW_nx (v := tb n a k) rfl]
  have F := si_m (d := d) (s := k + 1) (x1 := x1) (x2 := x2) (x3 := uls (tq n a) k) (x4 := ucm (tq n a) k) hn hI ha (by omega)
  rw [h0] at F
  rw [← zk1c k, F]
  rfl
/-! the greatest measure of all -/
theorem sg_c {d n : Nat} {I : zI} {a : Nat → Int} {w0 w2 w3 : Option zV} {x4 : Int} (hn : n ≤ 4) (hI : I 46 2 = (n : Int)) (ha : ∀ j, j < n → I 47 j = a j ∧ 1 ≤ a j ∧ a j ≤ 30) :
    zD (d + 3) 90 69 [w0, some (.inr (some 46)), w2, w3, some (.inl x4), some (.inl 0), some (.inl 0)] [] I = some (if gq a n = 1 then x4 else -1, I) := by
  refine zloop (n := n) (P := fun k => zD (d + 3) 90 69 [w0, some (.inr (some 46)), w2, w3, some (.inl x4), some (.inl (gq a k : Int)), some (.inl (k : Int))] [] I) (fun k hk => ?_) ?_
  · show zD _ _ _ _ _ _ = zD _ _ _ _ _ _
    obtain ⟨hk1, hk2, hk3⟩ := ha k hk
    have hc : 0 ≤ (k : Int) ∧ (k : Int) < 12 := by omega
    have hg := (gq_rg (fun j hj => (ha j hj).2) k (by omega)).1
    rw [e_90_69, hI, if_pos (by omega)]
    simp only [if_pos hc, Int.toNat_natCast, hk1]
    rw [s_91 (by omega) (by omega) (by omega) (by omega), Option.bind_some]
    dsimp only
    rw [wr_id (by omega) (by omega), zk1c, show (a k).natAbs = (a k).toNat by omega, Int.natAbs_natCast]
    rfl
  · show zD _ _ _ _ _ _ = _
    rw [e_90_69, hI, if_neg (by omega)]
    by_cases hg : gq a n = 1
    · rw [if_pos (by omega), if_pos hg]
    · rw [if_neg (by omega), if_neg hg]
theorem sg_m {d n : Nat} {I : zI} {a : Nat → Int} {x1 : Int} (hn : n ≤ 4) (hI : I 240 51 = (n : Int)) (ha : ∀ j, j < n → I 269 j = a j ∧ 1 ≤ a j ∧ a j ≤ 30) :
    zD (d + 3) 255 15 [some (.inr (some 240)), some (.inl x1), some (.inl 0), some (.inl 0)] [] I =
      if x1 = 0 ∧ ¬ gq a n = 1 then some (-1, I) else zD (d + 3) 255 42 [some (.inr (some 240)), some (.inl x1), some (.inl (gq a n : Int)), some (.inl 0), some (.inl 0), some (.inl 0)] [] I := by
  refine zloop (n := n) (P := fun k => zD (d + 3) 255 15 [some (.inr (some 240)), some (.inl x1), some (.inl (gq a k : Int)), some (.inl (k : Int))] [] I) (fun k hk => ?_) ?_
  · show zD _ _ _ _ _ _ = zD _ _ _ _ _ _
    obtain ⟨hk1, hk2, hk3⟩ := ha k hk
    have hc : 0 ≤ (k : Int) ∧ (k : Int) < 4 := by omega
    have hg := (gq_rg (fun j hj => (ha j hj).2) k (by omega)).1
    rw [e_255_15, hI, if_pos (by omega)]
    simp only [if_pos hc, Int.toNat_natCast, hk1]
    rw [s_163 (by omega) (by omega) (by omega) (by omega), Option.bind_some]
    dsimp only
    rw [wr_id (by omega) (by omega), zk1c, show (a k).natAbs = (a k).toNat by omega, Int.natAbs_natCast]
    rfl
  · show zD _ _ _ _ _ _ = _
    rw [e_255_15, hI, if_neg (by omega)]
    by_cases hx : x1 = 0
    · rw [if_pos hx]
      by_cases hg : gq a n = 1
      · rw [if_pos (by omega), if_neg (fun x => x.2 hg)]
      · rw [if_neg (by omega), if_pos ⟨hx, hg⟩]
    · rw [if_neg hx, if_neg (fun x => hx x.1)]
theorem q_stamps {I : zI} {w : Int} (h : Rl I) : Pair 134 255 [.inl w] I := by
  have r := h.1.2.2.2.2.2.2.2.1
  obtain ⟨r0, r1, rM, rj⟩ := r
  have hn : (I 46 2).toNat ≤ 4 := by omega
  have hI : I 46 2 = (((I 46 2).toNat : Nat) : Int) := by omega
  have ha : ∀ j, j < (I 46 2).toNat → I 47 j = I 47 j ∧ 1 ≤ I 47 j ∧ I 47 j ≤ 30 := fun j hj => ⟨rfl, (rj j (by omega)).2⟩
  have hm : ∀ j, j < (I 46 2).toNat → I 269 j = I 47 j := fun j hj => (rj j (by omega)).1
  generalize hN : (I 46 2).toNat = n at hn hI ha hm
  generalize hA : I 47 = a at ha hm
  have ha2 : ∀ j, j < n → I 47 j = a j ∧ 1 ≤ a j ∧ a j ≤ 30 := fun j hj => ⟨by rw [hA], (ha j hj).2⟩
  have E1 := e_134 (d := 59) (I := I) (x1 := w)
  rw [s_156] at E1
  simp only [Option.bind_some, b01] at E1
  have E2 : ∀ J : zI, cl 60 255 [.inr (some 240), .inl w] J = if ¬ (0 ≤ w ∧ w ≤ 1) then some (-1, up J 240 0 0) else zD 60 255 15 [some (.inr (some 240)), some (.inl w), some (.inl 0), some (.inl 0)] [] (up J 240 0 0) := by
    intro J
    have E := e_255 (d := 59) (I := J) (x1 := w)
    rw [s_158] at E
    simp only [Option.bind_some, b01] at E
    exact E
  by_cases hw : 0 ≤ w ∧ w ≤ 1
  · rw [if_neg (not_not_intro hw)] at E1
    have s0 : sW I 235 (tq n a) 0 (tb n a 0) = up I 235 0 1 := by rw [← sW_0, tb, if_pos tq_0]
    have C := so_c (d := 58) (x2 := w) hn hI ha2
    have hx : (1000 : Int) < (1000 : Nat) + 1 := by omega
    rw [s0] at C
    have G := sg_c (d := 56) (I := sW I 235 (tq n a) 1000 (tb n a 1000)) (w0 := some (.inr (some 231))) (w2 := some (.inl w)) (w3 := some (.inl (ucn (tq n a) 1000))) (x4 := uls (tq n a) 1000) hn ((sW_o (by decide)).trans hI) (fun j hj => ⟨(sW_o (by decide)).trans (ha2 j hj).1, (ha2 j hj).2⟩)
    have C2 := e_90_11 (d := 58) (x2 := w) (x3 := ucn (tq n a) 1000) (x4 := uls (tq n a) 1000) (x5 := (1000 : Nat) + 1) (I := sW I 235 (tq n a) 1000 (tb n a 1000))
    rw [if_pos hx, G] at C2
    rw [e_90, C, C2] at E1
    have M : ∀ J : zI, J 240 51 = (n : Int) → (∀ j, j < n → J 269 j = a j) → cl 60 255 [.inr (some 240), .inl w] J = if w = 0 ∧ ¬ gq a n = 1 then some (-1, up J 240 0 0) else some (if w = 0 then uls (tq n a) 2000 else ucm (tq n a) 2000, sW (up J 240 0 0) 270 (tq n a) 2000 (tb n a 2000)) := by
      intro J h1 h2
      have hu1 : up J 240 0 0 240 51 = (n : Int) := (up_j (by decide)).trans h1
      have hu2 : ∀ j, j < n → up J 240 0 0 269 j = a j ∧ 1 ≤ a j ∧ a j ≤ 30 := fun j hj => ⟨(up_c (by decide)).trans (h2 j hj), (ha2 j hj).2⟩
      rw [E2, if_neg (not_not_intro hw), sg_m (d := 57) hn hu1 hu2]
      by_cases hg : w = 0 ∧ ¬ gq a n = 1
      · rw [if_pos hg, if_pos hg]
      · rw [if_neg hg, if_neg hg, so_m (d := 59) hn hu1 hu2, e_255_42, if_pos (show (2000 : Int) < (2000 : Nat) + 1 by omega)]
        by_cases hw0 : w = 0
        · rw [if_pos hw0, if_pos hw0]
        · rw [if_neg hw0, if_neg hw0]
    have M1 := M (sW I 235 (tq n a) 1000 (tb n a 1000)) ((sW_o (by decide)).trans (rM.trans hI)) (fun j hj => (sW_o (by decide)).trans (hm j hj))
    have hAg := sW_ag (I := I) (c := 235) (s := 1000) (T := tq n a) (v := tb n a 1000) (by decide +kernel)
    by_cases hw1 : w = 1
    · rw [if_pos hw1] at E1
      rw [if_neg (by omega), if_neg (by omega), show 2000 = 1000 + 1000 from rfl, ucm_hi 1000] at M1
      exact Pair_of h E1 M1 (Ag_tr (Ag_tr hAg Ag_0) (sW_ag (by decide +kernel)))
    · rw [if_neg hw1] at E1
      have hw0 : w = 0 := by omega
      by_cases hg : gq a n = 1
      · rw [if_pos hg] at E1
        rw [if_neg (fun x => x.2 hg), if_pos hw0, show 2000 = 1000 + 1000 from rfl] at M1
        have hn0 : 0 < n := by
          rcases Nat.eq_zero_or_pos n with z | z
          · rw [z] at hg; exact absurd (show (0 : Nat) = 1 from hg) (by decide)
          · exact z
        obtain ⟨N, hN, hT⟩ := sch (n := n) (fun j hj => (ha2 j hj).2) (n - 1) (by omega)
        rw [show n - 1 + 1 = n by omega, hg] at hN hT
        rw [uls_st 1000 fun s hs => hT s (by omega) (Nat.mod_one s)] at M1
        exact Pair_of h E1 M1 (Ag_tr (Ag_tr hAg Ag_0) (sW_ag (by decide +kernel)))
      · rw [if_neg hg] at E1
        rw [if_pos ⟨hw0, hg⟩] at M1
        exact Pair_of h E1 M1 (Ag_tr hAg Ag_0)
  · rw [if_pos hw] at E1
    refine Pair_of h E1 ?_ Ag_0
    rw [E2, if_pos hw]
