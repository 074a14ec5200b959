/-! WHO IS THE LAST TO LIFT -/
theorem s_107 {d n x D : Nat} {K : zI} (hn : n ≤ 40) (hx : x < n) (hD : 1 ≤ D) (hD2 : D ≤ n) (h1 : K 236 ((x + D) % n) = 1) (h2 : ∀ i, 1 ≤ i → i < D → ¬ K 236 ((x + i) % n) = 1) : cl (d + 1) 107 [.inr (some 231), .inl (x : Int), .inl (n : Int)] K = some ((((x + D) % n : Nat) : Int), K) := by
  rw [e_107, if_pos (by omega)]
  have key : ∀ (m i : Nat), i + m = D → 1 ≤ i → zD (d + 1) 107 6 [some (.inr (some 231)), some (.inl (x : Int)), some (.inl (n : Int)), some (.inl (i : Int))] [] K = some ((((x + D) % n : Nat) : Int), K) := by
    intro m
    induction m with
    | zero =>
      intro i hi h0
      have hi2 : i = D := by omega
      subst hi2
      have hl := Nat.mod_lt (x + i) (show 0 < n by omega)
      have E := e_107_6 (d := d) (I := K) (x1 := (x : Int)) (x2 := (n : Int)) (x3 := (i : Int))
      rw [if_neg (by omega), if_neg (by omega), show wr ((x : Int) + (i : Int)) = ((x + i : Nat) : Int) by rw [wr_id (by omega) (by omega)]; omega, zrem_nat (by omega) (by omega) (by omega), if_neg (by omega), if_pos (by omega), if_pos (by omega), Int.toNat_natCast, if_pos h1] at E
      exact E
    | succ m ih =>
      intro i hi h0
      have hl := Nat.mod_lt (x + i) (show 0 < n by omega)
      have E := e_107_6 (d := d) (I := K) (x1 := (x : Int)) (x2 := (n : Int)) (x3 := (i : Int))
      rw [if_neg (by omega), if_neg (by omega), show wr ((x : Int) + (i : Int)) = ((x + i : Nat) : Int) by rw [wr_id (by omega) (by omega)]; omega, zrem_nat (by omega) (by omega) (by omega), if_neg (by omega), if_pos (by omega), if_pos (by omega), Int.toNat_natCast, if_neg (h2 i h0 (by omega)), wr_id (z := (i : Int) + 1) (by omega) (by omega), ← zk1c, ih (i + 1) (by omega) (by omega)] at E
      exact E
  exact key (D - 1) 1 (by omega) (Nat.le_refl _)
/-- the birds that are there, in their order -/
def LF (K J : zI) (n m : Nat) (g : Nat → Nat) : Prop := (∀ j, j < m → J 279 j = (g j : Int)) ∧ (∀ j, j < m → g j < n) ∧ (∀ i j, i < j → j < m → g i < g j) ∧ ∀ x, x < n → (K 236 x = 1 ↔ ∃ j, j < m ∧ g j = x)
theorem lf_mono {K J : zI} {n m : Nat} {g : Nat → Nat} (r : LF K J n m g) {i j : Nat} (h : i ≤ j) (hj : j < m) : g i ≤ g j := by
  by_cases e : i = j
  · rw [e]; exact Nat.le_refl _
  · exact Nat.le_of_lt (r.2.2.1 i j (by omega) hj)
theorem lf_next {d n m x s : Nat} {K J : zI} {g : Nat → Nat} (hn : n ≤ 40) (r : LF K J n m g) (hx : x < n) (hs : s < m) (h1 : ∀ j, j < s → g j ≤ x) (h2 : x < g s) : cl (d + 1) 107 [.inr (some 231), .inl (x : Int), .inl (n : Int)] K = some (((g s : Nat) : Int), K) := by
  have hg := r.2.1 s hs
  have e : (x + (g s - x)) % n = g s := by rw [show x + (g s - x) = g s by omega]; exact Nat.mod_eq_of_lt hg
  have := s_107 (d := d) (n := n) (x := x) (D := g s - x) (K := K) hn hx (by omega) (by omega) (by rw [e]; exact (r.2.2.2 _ hg).mpr ⟨s, hs, rfl⟩) ?_
  · rw [e] at this; exact this
  · intro i hi hi2 hq
    rw [Nat.mod_eq_of_lt (by omega)] at hq
    obtain ⟨j, hj, hj2⟩ := (r.2.2.2 _ (by omega)).mp hq
    by_cases hjs : j < s
    · have := h1 j hjs; omega
    · have := lf_mono r (i := s) (j := j) (by omega) hj; omega
theorem lf_wrap {d n m x : Nat} {K J : zI} {g : Nat → Nat} (hn : n ≤ 40) (r : LF K J n m g) (hx : x < n) (hm : 0 < m) (h1 : ∀ j, j < m → g j ≤ x) : cl (d + 1) 107 [.inr (some 231), .inl (x : Int), .inl (n : Int)] K = some (((g 0 : Nat) : Int), K) := by
  have hg := r.2.1 0 hm
  have h0 := h1 0 hm
  have e : (x + (g 0 + n - x)) % n = g 0 := by rw [show x + (g 0 + n - x) = g 0 + n by omega, Nat.add_mod_right]; exact Nat.mod_eq_of_lt hg
  have := s_107 (d := d) (n := n) (x := x) (D := g 0 + n - x) (K := K) hn hx (by omega) (by omega) (by rw [e]; exact (r.2.2.2 _ hg).mpr ⟨0, hm, rfl⟩) ?_
  · rw [e] at this; exact this
  · intro i hi hi2 hq
    by_cases hxi : x + i < n
    · rw [Nat.mod_eq_of_lt hxi] at hq
      obtain ⟨j, hj, hj2⟩ := (r.2.2.2 _ (by omega)).mp hq
      have := h1 j hj
      omega
    · have e2 : (x + i) % n = x + i - n := by rw [Nat.mod_eq_sub_mod (by omega)]; exact Nat.mod_eq_of_lt (by omega)
      rw [e2] at hq
      obtain ⟨j, hj, hj2⟩ := (r.2.2.2 _ (by omega)).mp hq
      have := lf_mono r (i := 0) (j := j) (by omega) hj
      omega
theorem lf_step {d n m p : Nat} {K J : zI} {g : Nat → Nat} (hn : n ≤ 40) (r : LF K J n m g) (hp : p < m) : cl (d + 1) 107 [.inr (some 231), .inl (((g p : Nat)) : Int), .inl (n : Int)] K = some (((g ((p + 1) % m) : Nat) : Int), K) := by
  have hx := r.2.1 p hp
  by_cases h : p + 1 < m
  · rw [Nat.mod_eq_of_lt h]
    exact lf_next hn r hx h (fun j hj => lf_mono r (by omega) hp) (r.2.2.1 p (p + 1) (by omega) h)
  · have e : p + 1 = m := by omega
    rw [e, Nat.mod_self]
    exact lf_wrap hn r hx (by omega) (fun j hj => lf_mono r (by omega) hp)
/-- counting on -/
theorem lf_count {d n m : Nat} {K J : zI} {g : Nat → Nat} {w f l wt : Int} {w4 : Option zV} (hn : n ≤ 40) (r : LF K J n m g) (hm : 0 < m) (hw : wt ≤ 9) : ∀ (t i p : Nat), (i : Int) + t = wt → p < m →
    zD (d + 2) 106 46 [some (.inr (some 231)), some (.inr (some 56)), some (.inl (n : Int)), some (.inl w), w4, some (.inl f), some (.inl l), some (.inl wt), some (.inl ((g p : Nat) : Int)), some (.inl (i : Int))] [] K =
      zD (d + 2) 106 46 [some (.inr (some 231)), some (.inr (some 56)), some (.inl (n : Int)), some (.inl w), w4, some (.inl f), some (.inl l), some (.inl wt), some (.inl ((g ((p + t) % m) : Nat) : Int)), some (.inl wt)] [] K := by
  intro t
  induction t with
  | zero =>
    intro i p hi hp
    have e0 : (p + 0) % m = p := Nat.mod_eq_of_lt hp
    rw [e0, show (i : Int) = wt by omega]
  | succ t ih =>
    intro i p hi hp
    rw [e_106_46 (x9 := (i : Int)), if_pos (by omega), lf_step hn r hp, Option.bind_some, wr_id (z := (i : Int) + 1) (by omega) (by omega), ← zk1c, ih (i + 1) ((p + 1) % m) (by omega) (Nat.mod_lt _ hm)]
    rw [Nat.mod_add_mod, show p + 1 + t = p + (t + 1) by omega]
/-- the model closes up -/
theorem lf_shift {e m : Nat} {n w a f : Int} (hm : m ≤ 40) (hm1 : 1 ≤ m) : ∀ (t k : Nat) (J : zI), k + t = m - 1 → ∃ J' : zI, (∀ c j, c ≠ 279 → J' c j = J c j) ∧ (∀ j, J' 279 j = if k ≤ j ∧ j < m - 1 then J 279 (j + 1) else J 279 j) ∧
    zD (e + 1) 277 68 [some (.inr (some 240)), some (.inl n), some (.inl w), some (.inl a), some (.inl f), some (.inl (m : Int)), some (.inl (k : Int))] [] J = zD (e + 1) 277 68 [some (.inr (some 240)), some (.inl n), some (.inl w), some (.inl a), some (.inl f), some (.inl (m : Int)), some (.inl ((m - 1 : Nat) : Int))] [] J' := by
  intro t
  induction t with
  | zero =>
    intro k J hk
    refine ⟨J, fun _ _ _ => rfl, fun j => by rw [if_neg (by omega)], ?_⟩
    rw [show k = m - 1 by omega]
  | succ t ih =>
    intro k J hk
    obtain ⟨J', f1, f2, f3⟩ := ih (k + 1) (up J 279 k (J 279 (k + 1))) (by omega)
    refine ⟨J', fun c j h => by rw [f1 c j h, up_c h], fun j => ?_, ?_⟩
    · rw [f2 j]
      by_cases h1 : k + 1 ≤ j ∧ j < m - 1
      · rw [if_pos h1, if_pos (by omega), up_j (by omega)]
      · rw [if_neg h1]
        by_cases h2 : j = k
        · subst h2
          rw [up_s, if_pos (by omega)]
        · rw [up_j h2, if_neg (by omega)]
    · rw [← f3, e_277_68 (x6 := (k : Int)), wr_id (z := (m : Int) - 1) (by omega) (by omega), if_pos (by omega), wr_id (z := (k : Int) + 1) (by omega) (by omega), if_pos (by omega), if_pos (by omega), Int.toNat_natCast, ← zk1c, Int.toNat_natCast]
theorem lf_main {d e n ws : Nat} {w : Int} (hn : n ≤ 40) (hn1 : 2 ≤ n) (hws : ws ≤ 8) (hw : w = 0 ∨ w = 1) : ∀ (m : Nat), 1 ≤ m → m ≤ n → ∀ (K J : zI) (g : Nat → Nat) (a : Nat) (f : Int),
    K 56 2 = ws → J 240 66 = ws → (∀ j, j < ws → J 278 j = K 57 j ∧ 1 ≤ K 57 j ∧ K 57 j ≤ 9) → LF K J n m g → a < m → ((m = n ∧ f = -1) ∨ (m < n ∧ 0 ≤ f)) →
    ∃ (r : Int) (K' J' : zI), (∀ c j, c ≠ 236 → K' c j = K c j) ∧ (∀ c j, c ≠ 279 → J' c j = J c j) ∧
      zD (d + 2) 106 30 [some (.inr (some 231)), some (.inr (some 56)), some (.inl (n : Int)), some (.inl w), some (.inl ((g a : Nat) : Int)), some (.inl f), some (.inl (m : Int))] [] K = some (r, K') ∧
      zD (e + 1) 277 35 [some (.inr (some 240)), some (.inl (n : Int)), some (.inl w), some (.inl (a : Int)), some (.inl f), some (.inl (m : Int))] [] J = some (r, J') := by
  intro m
  induction m with
  | zero => intro h; omega
  | succ m ih =>
    intro _ hmn K J g a f hk hj hv r ha hf
    by_cases hm0 : m = 0
    · subst hm0
      have ha0 : a = 0 := by omega
      subst ha0
      refine ⟨if w = 1 then f else ((g 0 : Nat) : Int), K, J, fun _ _ _ => rfl, fun _ _ _ => rfl, ?_, ?_⟩
      · rw [e_106_30, if_neg (by omega)]
        rcases hw with rfl | rfl <;> rfl
      · rw [e_277_35, if_neg (by omega), r.1 0 (by omega)]
        by_cases h1 : w = 1
        · rw [if_pos h1, if_pos h1]
        · rw [if_neg h1, if_neg h1, if_neg (by omega)]
    · -- the weight, and who goes
      obtain ⟨wt, hw1, hw9, cC, cM⟩ : ∃ wt : Nat, 1 ≤ wt ∧ wt ≤ 9 ∧
          zD (d + 2) 106 30 [some (.inr (some 231)), some (.inr (some 56)), some (.inl (n : Int)), some (.inl w), some (.inl ((g a : Nat) : Int)), some (.inl f), some (.inl ((m + 1 : Nat) : Int))] [] K = zD (d + 2) 106 46 [some (.inr (some 231)), some (.inr (some 56)), some (.inl (n : Int)), some (.inl w), some (.inl ((g a : Nat) : Int)), some (.inl f), some (.inl ((m + 1 : Nat) : Int)), some (.inl (wt : Int)), some (.inl ((g a : Nat) : Int)), some (.inl ((0 : Nat) : Int))] [] K ∧
          zD (e + 1) 277 35 [some (.inr (some 240)), some (.inl (n : Int)), some (.inl w), some (.inl (a : Int)), some (.inl f), some (.inl ((m + 1 : Nat) : Int))] [] J = zD (e + 1) 277 68 [some (.inr (some 240)), some (.inl (n : Int)), some (.inl w), some (.inl (((a + wt) % (m + 1) : Nat) : Int)), some (.inl (if m + 1 = n then ((g ((a + wt) % (m + 1)) : Nat) : Int) else f)), some (.inl ((m + 1 : Nat) : Int)), some (.inl (((a + wt) % (m + 1) : Nat) : Int))] [] J := by
        have fin : ∀ wt : Nat, wt ≤ 9 → ∀ X : Int, X = wt → (if ((m + 1 : Nat) : Int) = 0 then none else if ((m + 1 : Nat) : Int) = (n : Int) then (if 0 ≤ zrem (wr ((a : Int) + X)) ((m + 1 : Nat) : Int) ∧ zrem (wr ((a : Int) + X)) ((m + 1 : Nat) : Int) < 40 then zD (e + 1) 277 68 [some (.inr (some 240)), some (.inl (n : Int)), some (.inl w), some (.inl (zrem (wr ((a : Int) + X)) ((m + 1 : Nat) : Int))), some (.inl (J 279 (zrem (wr ((a : Int) + X)) ((m + 1 : Nat) : Int)).toNat)), some (.inl ((m + 1 : Nat) : Int)), some (.inl (zrem (wr ((a : Int) + X)) ((m + 1 : Nat) : Int)))] [] J else none) else zD (e + 1) 277 68 [some (.inr (some 240)), some (.inl (n : Int)), some (.inl w), some (.inl (zrem (wr ((a : Int) + X)) ((m + 1 : Nat) : Int))), some (.inl f), some (.inl ((m + 1 : Nat) : Int)), some (.inl (zrem (wr ((a : Int) + X)) ((m + 1 : Nat) : Int)))] [] J) =
            zD (e + 1) 277 68 [some (.inr (some 240)), some (.inl (n : Int)), some (.inl w), some (.inl (((a + wt) % (m + 1) : Nat) : Int)), some (.inl (if m + 1 = n then ((g ((a + wt) % (m + 1)) : Nat) : Int) else f)), some (.inl ((m + 1 : Nat) : Int)), some (.inl (((a + wt) % (m + 1) : Nat) : Int))] [] J := by
          intro wt hwt X hX
          subst hX
          have hl := Nat.mod_lt (a + wt) (show 0 < m + 1 by omega)
          rw [if_neg (by omega), show wr ((a : Int) + (wt : Int)) = ((a + wt : Nat) : Int) by rw [wr_id (by omega) (by omega)]; omega, zrem_nat (by omega) (by omega) (by omega), Int.toNat_natCast, r.1 _ hl]
          by_cases he : m + 1 = n
          · rw [if_pos (by omega), if_pos (by omega), if_pos he]
          · rw [if_neg (by omega), if_neg he]
        have hga := r.2.1 a ha
        by_cases hz : ws = 0
        · refine ⟨1, by omega, by omega, ?_, ?_⟩
          · rw [e_106_30, if_pos (by omega), if_neg (by omega)]; rfl
          · rw [e_277_35, if_pos (by omega), if_pos (by omega)]
            exact fin 1 (by omega) 1 rfl
        · have hl2 := Nat.mod_lt (g a) (show 0 < ws by omega)
          have hv2 := hv (g a % ws) hl2
          refine ⟨(K 57 (g a % ws)).toNat, by omega, by omega, ?_, ?_⟩
          · rw [e_106_30, if_pos (by omega), if_pos (by omega), s_82 r_56 hk (by omega) (by omega) (by omega), Option.bind_some]
            simp only [Nat.reduceAdd]
            rw [show (((K 57 (g a % ws)).toNat : Nat) : Int) = K 57 (g a % ws) by omega]
            rfl
          · have E := e_277_35 (d := e) (I := J) (x1 := (n : Int)) (x2 := w) (x3 := (a : Int)) (x4 := f) (x5 := ((m + 1 : Nat) : Int))
            rw [if_pos (by omega), if_neg (by omega), if_pos (by omega), if_neg (by omega), Int.toNat_natCast, r.1 a ha, hj, zrem_nat (by omega) (by omega) (by omega), if_pos (by omega), Int.toNat_natCast, hv2.1] at E
            rw [E]
            exact fin (K 57 (g a % ws)).toNat (by omega) (K 57 (g a % ws)) (by omega)
      -- let p be who goes
      have hp := Nat.mod_lt (a + wt) (show 0 < m + 1 by omega)
      have cC2 := lf_count (d := d) (K := K) (J := J) (g := g) (w := w) (f := f) (l := ((m + 1 : Nat) : Int)) (wt := (wt : Int)) (w4 := some (.inl ((g a : Nat) : Int))) hn r (by omega) (by omega) wt 0 a (by omega) ha
      generalize (a + wt) % (m + 1) = p at *
      obtain ⟨J2, j1, j2, j3⟩ := lf_shift (e := e) (m := m + 1) (n := (n : Int)) (w := w) (a := (p : Int)) (f := if m + 1 = n then ((g p : Nat) : Int) else f) (by omega) (by omega) (m - p) p J (by omega)
      have hgp := r.2.1 p hp
      -- the new list
      have r2 : LF (up K 236 (g p) 0) J2 n m (fun j => if j < p then g j else g (j + 1)) := by
        refine ⟨fun j hj2 => ?_, fun j hj2 => ?_, fun i j hij hj2 => ?_, fun x hx => ?_⟩
        · rw [j2 j]
          by_cases h : j < p
          · rw [if_neg (by omega)]
            show J 279 j = (((if j < p then g j else g (j + 1)) : Nat) : Int)
            rw [if_pos h, r.1 j (by omega)]
          · rw [if_pos (by omega)]
            show J 279 (j + 1) = (((if j < p then g j else g (j + 1)) : Nat) : Int)
            rw [if_neg h, r.1 (j + 1) (by omega)]
        · show (if j < p then g j else g (j + 1)) < n
          split
          · exact r.2.1 j (by omega)
          · exact r.2.1 (j + 1) (by omega)
        · show (if i < p then g i else g (i + 1)) < (if j < p then g j else g (j + 1))
          split <;> split
          · exact r.2.2.1 i j hij (by omega)
          · exact r.2.2.1 i (j + 1) (by omega) (by omega)
          · omega
          · exact r.2.2.1 (i + 1) (j + 1) (by omega) (by omega)
        · by_cases hxp : x = g p
          · rw [hxp, up_s]
            refine ⟨fun q => by omega, fun ⟨j, q1, q2⟩ => ?_⟩
            exfalso
            have q2 : (if j < p then g j else g (j + 1)) = g p := q2
            by_cases h : j < p
            · rw [if_pos h] at q2
              have := r.2.2.1 j p h hp
              omega
            · rw [if_neg h] at q2
              have := r.2.2.1 p (j + 1) (by omega) (by omega)
              omega
          · rw [up_j hxp, r.2.2.2 x hx]
            constructor
            · rintro ⟨j, q1, q2⟩
              have hjp : j ≠ p := fun q => hxp (by rw [← q2, q])
              by_cases h : j < p
              · exact ⟨j, by omega, by show (if j < p then g j else g (j + 1)) = x; rw [if_pos h]; exact q2⟩
              · exact ⟨j - 1, by omega, by show (if j - 1 < p then g (j - 1) else g (j - 1 + 1)) = x; rw [if_neg (by omega), show j - 1 + 1 = j by omega]; exact q2⟩
            · rintro ⟨j, q1, q2⟩
              have q2 : (if j < p then g j else g (j + 1)) = x := q2
              by_cases h : j < p
              · rw [if_pos h] at q2; exact ⟨j, by omega, q2⟩
              · rw [if_neg h] at q2; exact ⟨j + 1, by omega, q2⟩
      -- where one stands then
      have st : cl (d + 1) 107 [.inr (some 231), .inl ((g p : Nat) : Int), .inl (n : Int)] (up K 236 (g p) 0) = some ((((fun j => if j < p then g j else g (j + 1)) (p % m) : Nat) : Int), up K 236 (g p) 0) := by
        by_cases hpm : p < m
        · rw [Nat.mod_eq_of_lt hpm]
          refine lf_next (g := fun j => if j < p then g j else g (j + 1)) (s := p) hn r2 hgp hpm (fun j hj2 => ?_) ?_
          · show (if j < p then g j else g (j + 1)) ≤ g p
            rw [if_pos hj2]
            exact lf_mono r (by omega) hp
          · show g p < (if p < p then g p else g (p + 1))
            rw [if_neg (by omega)]
            exact r.2.2.1 p (p + 1) (by omega) (by omega)
        · have hpe : p = m := by omega
          rw [hpe, Nat.mod_self, ← hpe]
          refine lf_wrap (g := fun j => if j < p then g j else g (j + 1)) hn r2 hgp (by omega) (fun j hj2 => ?_)
          show (if j < p then g j else g (j + 1)) ≤ g p
          rw [if_pos (by omega)]
          exact lf_mono r (by omega) hp
      have hf2 : ((m = n ∧ (if m + 1 = n then ((g p : Nat) : Int) else f) = -1) ∨ (m < n ∧ 0 ≤ (if m + 1 = n then ((g p : Nat) : Int) else f))) := by
        refine Or.inr ⟨by omega, ?_⟩
        split <;> omega
      obtain ⟨r3, K', J', k1, k2, k3, k4⟩ := ih (by omega) (by omega) (up K 236 (g p) 0) J2 (fun j => if j < p then g j else g (j + 1)) (p % m) (if m + 1 = n then ((g p : Nat) : Int) else f) (by rw [up_c (by decide)]; exact hk) (by rw [j1 _ _ (by decide)]; exact hj) (fun j q => by rw [j1 _ _ (by decide), up_c (by decide)]; exact hv j q) r2 (Nat.mod_lt _ (by omega)) hf2
      refine ⟨r3, K', J', fun c j q => by rw [k1 c j q, up_c q], fun c j q => by rw [k2 c j q, j1 c j q], ?_, ?_⟩
      · rw [cC, cC2]
        have E := e_106_46 (d := d + 1) (I := K) (x2 := (n : Int)) (x3 := w) (w4 := some (.inl ((g a : Nat) : Int))) (x5 := f) (x6 := ((m + 1 : Nat) : Int)) (x7 := (wt : Int)) (x8 := ((g p : Nat) : Int)) (x9 := (wt : Int))
        rw [if_neg (by omega), if_pos (by omega), Int.toNat_natCast, st, Option.bind_some, Option.bind_some, show wr (((m + 1 : Nat) : Int) + -1) = (m : Int) by rw [wr_id (by omega) (by omega)]; omega] at E
        rw [E, ← k3]
        by_cases he : m + 1 = n
        · rw [if_pos (by omega), if_pos he]
        · rw [if_neg (by omega), if_neg he]
      · rw [cM, j3]
        have E : ∀ F : Int, zD (e + 1) 277 68 [some (.inr (some 240)), some (.inl (n : Int)), some (.inl w), some (.inl (p : Int)), some (.inl F), some (.inl ((m + 1 : Nat) : Int)), some (.inl ((m + 1 - 1 : Nat) : Int))] [] J2 = zD (e + 1) 277 35 [some (.inr (some 240)), some (.inl (n : Int)), some (.inl w), some (.inl ((p % m : Nat) : Int)), some (.inl F), some (.inl (m : Int))] [] J2 := by
          intro F
          rw [e_277_68, show wr (((m + 1 : Nat) : Int) - 1) = (m : Int) by rw [wr_id (by omega) (by omega)]; omega, if_neg (by omega), show wr (((m + 1 : Nat) : Int) + -1) = (m : Int) by rw [wr_id (by omega) (by omega)]; omega, if_neg (by omega), zrem_nat (by omega) (by omega) (by omega)]
        rw [E]
        exact k4
/-- both make the rows ready -/
theorem lf_c0 {d n : Nat} {w : Int} (hn : n ≤ 40) : ∀ (t k : Nat) (K : zI), k + t = n → (∀ x, x < k → K 236 x = 1) → ∃ K' : zI, (∀ c j, c ≠ 236 → K' c j = K c j) ∧ (∀ x, x < n → K' 236 x = 1) ∧
    zD (d + 1) 106 14 [some (.inr (some 231)), some (.inr (some 56)), some (.inl (n : Int)), some (.inl w), some (.inl (k : Int))] [] K = zD (d + 1) 106 30 [some (.inr (some 231)), some (.inr (some 56)), some (.inl (n : Int)), some (.inl w), some (.inl 0), some (.inl (-1)), some (.inl (n : Int))] [] K' := by
  intro t
  induction t with
  | zero =>
    intro k K hk hK
    refine ⟨K, fun _ _ _ => rfl, fun x hx => hK x (by omega), ?_⟩
    rw [e_106_14, if_neg (by omega)]
  | succ t ih =>
    intro k K hk hK
    obtain ⟨K', f1, f2, f3⟩ := ih (k + 1) (up K 236 k 1) (by omega) (fun x hx => by
      by_cases h : x = k
      · rw [h, up_s]
      · rw [up_j h]; exact hK x (by omega))
    refine ⟨K', fun c j h => by rw [f1 c j h, up_c h], f2, ?_⟩
    rw [e_106_14, if_pos (by omega), if_pos (by omega), wr_id (by omega) (by omega), Int.toNat_natCast, ← zk1c, f3]
theorem lf_m0 {e n : Nat} {w : Int} (hn : n ≤ 40) : ∀ (t k : Nat) (J : zI), k + t = n → (∀ x : Nat, x < k → J 279 x = x) → ∃ J' : zI, (∀ c j, c ≠ 279 → J' c j = J c j) ∧ (∀ x : Nat, x < n → J' 279 x = x) ∧
    zD (e + 1) 277 19 [some (.inr (some 240)), some (.inl (n : Int)), some (.inl w), some (.inl (k : Int))] [] J = zD (e + 1) 277 35 [some (.inr (some 240)), some (.inl (n : Int)), some (.inl w), some (.inl 0), some (.inl (-1)), some (.inl (n : Int))] [] J' := by
  intro t
  induction t with
  | zero =>
    intro k J hk hJ
    refine ⟨J, fun _ _ _ => rfl, fun x hx => hJ x (by omega), ?_⟩
    rw [e_277_19, if_neg (by omega)]
  | succ t ih =>
    intro k J hk hJ
    obtain ⟨J', f1, f2, f3⟩ := ih (k + 1) (up J 279 k k) (by omega) (fun x hx => by
      by_cases h : x = k
      · rw [h, up_s]
      · rw [up_j h]; exact hJ x (by omega))
    refine ⟨J', fun c j h => by rw [f1 c j h, up_c h], f2, ?_⟩
    rw [e_277_19, if_pos (by omega), if_pos (by omega), wr_id (by omega) (by omega), Int.toNat_natCast, ← zk1c, f3]
theorem q_lift {I : zI} {n w : Int} (h : Rl I) : Pair 149 277 [.inl n, .inl w] I := by
  have r := h.1.2.2.2.2.2.2.2.2.2.2.2.2.1
  obtain ⟨r1, r2, r3, r4⟩ := r
  simp only [Nat.reduceAdd] at r4
  have E1 := e_149 (d := 59) (I := I) (x1 := n) (x2 := w)
  simp only [s_156, Option.bind_some, b01] at E1
  by_cases hc : (1 ≤ n ∧ n ≤ 40) ∧ 0 ≤ w ∧ w ≤ 1
  · rw [if_neg (not_not_intro hc.1), if_neg (not_not_intro hc.2)] at E1
    obtain ⟨n, rfl⟩ : ∃ m : Nat, n = m := ⟨n.toNat, by omega⟩
    by_cases h1 : n = 1
    · subst h1
      have E2 := e_277 (d := 59) (I := I) (x1 := ((1 : Nat) : Int)) (x2 := w)
      simp only [s_158, Option.bind_some, b01] at E2
      rw [if_neg (not_not_intro hc.1), if_neg (not_not_intro hc.2)] at E2
      obtain ⟨J', f1, f2, f3⟩ := lf_m0 (e := 59) (n := 1) (w := w) (by omega) 1 0 (up I 240 0 0) (by omega) (fun x hx => by omega)
      have f3 := E2.trans f3
      rw [e_277_35, if_neg (by omega)] at f3
      rw [e_106, if_neg (by omega)] at E1
      have ag : Ag scrC scrF I J' := Ag_tr Ag_0 fun a b q1 _ => f1 a b fun q => by subst q; revert q1; decide
      by_cases hw : w = 0
      · rw [if_pos hw] at E1
        rw [if_neg (by omega), if_pos (by omega)] at f3
        exact Pair_of h E1 f3 ag
      · rw [if_neg hw] at E1
        rw [if_pos (by omega)] at f3
        exact Pair_of h E1 f3 ag
    · obtain ⟨K', k1, k2, k3⟩ := lf_c0 (d := 58) (n := n) (w := w) (by omega) n 0 I (by omega) (fun x hx => by omega)
      rw [e_106, if_pos (by omega), if_neg (by omega)] at E1
      -- the class's run over K', the model's from where the class ends
      have c0 : ∀ J : zI, (∀ x : Nat, x < n → J 279 x = x) → LF K' J n n (fun j => j) := fun J hJ => ⟨fun j hj => hJ j hj, fun j hj => hj, fun i j hij _ => hij, fun x hx => ⟨fun _ => ⟨x, hx, rfl⟩, fun _ => k2 x hx⟩⟩
      -- first the answer and the class's heap, over any ready heap of the model
      obtain ⟨ra, Ka, Ja, a1, a2, a3, a4⟩ := lf_main (d := 57) (e := 59) (n := n) (ws := (I 56 2).toNat) (w := w) (by omega) (by omega) (by omega) (by omega) n (by omega) (by omega) K' (fun c j => if c = 279 then (j : Int) else up I 240 0 0 c j) (fun j => j) 0 (-1)
        (by rw [k1 _ _ (by decide)]; omega) (by show up I 240 0 0 240 66 = _; simp only [Option.bind_some, b01, up_c, up_j, up_s, Nat.reduceEqDiff, not_false_eq_true]; omega) (fun j hj => by rw [k1 _ _ (by decide)]; show up I 240 0 0 278 j = _ ∧ _; simp only [Option.bind_some, b01, up_c, up_j, up_s, Nat.reduceEqDiff, not_false_eq_true]; exact r4 j (by omega)) (c0 _ fun x hx => if_pos rfl) (by omega) (Or.inl ⟨rfl, rfl⟩)
      have k4 := k3.trans a3
      have E2 := e_277 (d := 59) (I := Ka) (x1 := (n : Int)) (x2 := w)
      simp only [s_158, Option.bind_some, b01] at E2
      rw [if_neg (not_not_intro hc.1), if_neg (not_not_intro hc.2)] at E2
      obtain ⟨J', f1, f2, f3⟩ := lf_m0 (e := 59) (n := n) (w := w) (by omega) n 0 (up Ka 240 0 0) (by omega) (fun x hx => by omega)
      obtain ⟨rb, Kb, Jb, b1, b2, b3, b4⟩ := lf_main (d := 57) (e := 59) (n := n) (ws := (I 56 2).toNat) (w := w) (by omega) (by omega) (by omega) (by omega) n (by omega) (by omega) K' J' (fun j => j) 0 (-1)
        (by rw [k1 _ _ (by decide)]; omega) (by rw [f1 _ _ (by decide)]; simp only [Option.bind_some, b01, up_c, up_j, up_s, Nat.reduceEqDiff, not_false_eq_true]; rw [a1 _ _ (by decide), k1 _ _ (by decide)]; omega) (fun j hj => by rw [f1 _ _ (by decide), k1 _ _ (by decide)]; simp only [Option.bind_some, b01, up_c, up_j, up_s, Nat.reduceEqDiff, not_false_eq_true]; rw [a1 _ _ (by decide), k1 _ _ (by decide)]; exact r4 j (by omega)) (c0 _ f2) (by omega) (Or.inl ⟨rfl, rfl⟩)
      have hab : ra = rb ∧ Ka = Kb := by
        have q := a3.symm.trans b3
        cases q
        exact ⟨rfl, rfl⟩
      have ag : Ag scrC scrF I Jb := by
        refine Ag_tr (I' := Ka) (fun a b q1 q2 => ?_) (Ag_tr Ag_0 fun a b q1 _ => ?_)
        · have n1 : a ≠ 236 := fun q => by subst q; revert q1; decide
          rw [a1 a b n1, k1 a b n1]
        · have n1 : a ≠ 279 := fun q => by subst q; revert q1; decide
          rw [b2 a b n1, f1 a b n1]
      refine ⟨ra, Ka, Jb, ?_, ?_, Rl_scr ag h⟩
      · rw [E1]
        exact congrArg (fun o => Option.bind o _) k4
      · rw [hab.1]
        exact E2.trans (f3.trans b4)
  · refine Pair_of h (I1 := I) (I2 := up I 240 0 0) (r := -1) ?_ ?_ Ag_0
    · rw [E1]
      (repeat' split) <;> first | rfl | (exfalso; omega)
    · rw [e_277]
      simp only [s_158, Option.bind_some, b01]
      (repeat' split) <;> first | rfl | (exfalso; omega)
