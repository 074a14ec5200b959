/-! HOW SOON -/
theorem so_in {d e n : Nat} {x1 x2 x3 x4 x5 y2 y3 y4 bf : Int} {K : zI} (hn : n < 12) : ∀ (m i : Nat) (b : Int) (J : zI), i + m = n → J 264 n = b → J 261 n = bf → (∀ o, o < n → K 232 o = J 264 o) →
    ∃ (b' : Int) (J' : zI), (∀ c j, c ≠ 264 → J' c j = J c j) ∧ (∀ j, j ≠ n → J' 264 j = J 264 j) ∧ J' 264 n = b' ∧
      zD (d + 2) 19 35 [some (.inr (some 1)), some (.inl x1), some (.inr (some 232)), some (.inl x3), some (.inl x4), some (.inl x5), some (.inl (n : Int)), some (.inl bf), some (.inl b), some (.inl (i : Int))] [] K = zD (d + 2) 19 35 [some (.inr (some 1)), some (.inl x1), some (.inr (some 232)), some (.inl x3), some (.inl x4), some (.inl x5), some (.inl (n : Int)), some (.inl bf), some (.inl b'), some (.inl (n : Int))] [] K ∧
      zD (e + 2) 250 39 [some (.inr (some 240)), some (.inl x2), some (.inl y2), some (.inl y3), some (.inl y4), some (.inl (n : Int)), some (.inl (i : Int))] [] J = zD (e + 2) 250 39 [some (.inr (some 240)), some (.inl x2), some (.inl y2), some (.inl y3), some (.inl y4), some (.inl (n : Int)), some (.inl (n : Int))] [] J' := by
  intro m
  induction m with
  | zero =>
    intro i b J hi h1 h2 h3
    have e : i = n := by omega
    subst e
    exact ⟨b, J, fun _ _ _ => rfl, fun _ _ => rfl, h1, rfl, rfl⟩
  | succ m ih =>
    intro i b J hi h1 h2 h3
    have hk : i ≠ n := by omega
    have E1 := e_19_35 (d := d + 1) (I := K) (x1 := x1) (x3 := x3) (x4 := x4) (x5 := x5) (x6 := (n : Int)) (x7 := bf) (x8 := b) (x9 := (i : Int))
    rw [if_pos (by omega)] at E1
    have E2 := e_250_39 (d := e + 1) (I := J) (x1 := x2) (x2 := y2) (x3 := y3) (x4 := y4) (x5 := (n : Int)) (x6 := (i : Int))
    have in24 : 0 ≤ (n : Int) ∧ (n : Int) < 24 := by omega
    have in12 : 0 ≤ (n : Int) ∧ (n : Int) < 12 := by omega
    have ii12 : 0 ≤ (i : Int) ∧ (i : Int) < 12 := by omega
    rw [if_pos (by omega)] at E2
    simp only [if_pos in24, if_pos in12, if_pos ii12, Int.toNat_natCast, e_165, h2] at E2
    rw [wr_id (z := (i : Int) + 1) (by omega) (by omega), ← zk1c] at E2
    by_cases hq : zand (zshr bf (i : Int)) 1 = 1
    · rw [if_pos hq, if_pos (by omega), Int.toNat_natCast, s_295, Option.bind_some, wr_id (z := (i : Int) + 1) (by omega) (by omega), ← zk1c] at E1
      simp only [if_pos hq, Option.bind_some, Int.reduceEq, if_false, s_160, h1] at E2
      obtain ⟨b', J', f1, f2, f3, f4, f5⟩ := ih (i + 1) (max b (J 264 i)) (up J 264 n (max b (J 264 i))) (by omega) up_s (by rw [up_c (by decide)]; exact h2) (fun o ho => by rw [up_j (by omega)]; exact h3 o ho)
      refine ⟨b', J', fun c j hc => by rw [f1 c j hc, up_c hc], fun j hj => by rw [f2 j hj, up_j hj], f3, ?_, ?_⟩
      · rw [E1, h3 i (by omega)]; exact f4
      · rw [E2]; exact f5
    · rw [if_neg hq, wr_id (z := (i : Int) + 1) (by omega) (by omega), ← zk1c] at E1
      simp only [if_neg hq, Option.bind_some, if_true] at E2
      obtain ⟨b', J', f1, f2, f3, f4, f5⟩ := ih (i + 1) b J (by omega) h1 h2 h3
      exact ⟨b', J', f1, f2, f3, by rw [E1]; exact f4, by rw [E2]; exact f5⟩
theorem so_out {d e : Nat} {x w : Int} {I J0 : zI} (hx : 1 ≤ x) (N : Nat) (hN : N ≤ 12) (h5 : I 2 5 = N) (h8 : J0 240 8 = N) (h39 : 0 ≤ I 39 4 ∧ I 39 4 ≤ 16)
    (hr : ∀ k : Nat, k < N → (J0 246 k = I 12 k) ∧ (J0 241 (86 + k) = I 13 k) ∧ (J0 241 (98 + k) = I 14 k + 1 ∧ -1 ≤ I 14 k) ∧ J0 261 k = zset (I 40) (I 41) k (I 39 4).toNat) :
    ∀ (m k : Nat) (K J : zI) (lt ls : Int), k + m = N → (∀ c j, c ≠ 232 → K c j = I c j) → (∀ c j, c ≠ 264 → J c j = J0 c j) → (∀ o, o < k → K 232 o = J 264 o) →
    ∃ (r : Int) (K' J' : zI), (∀ c j, c ≠ 232 → K' c j = I c j) ∧ (∀ c j, c ≠ 264 → J' c j = J0 c j) ∧
      zD (d + 3) 19 6 [some (.inr (some 1)), some (.inl x), some (.inr (some 232)), some (.inl w), some (.inl lt), some (.inl ls), some (.inl (k : Int))] [] K = some (r, K') ∧
      zD (e + 2) 250 23 [some (.inr (some 240)), some (.inl x), some (.inl w), some (.inl lt), some (.inl ls), some (.inl (k : Int))] [] J = some (r, J') := by
  intro m
  induction m with
  | zero =>
    intro k K J lt ls hk hK hJ hR
    refine ⟨if w = 0 then lt else ls, K, J, hK, hJ, ?_, ?_⟩
    · rw [e_19_6, if_neg (by rw [hK _ _ (by decide)]; omega)]
      split <;> rfl
    · rw [e_250_23, if_neg (by rw [hJ _ _ (by decide)]; omega)]
      split <;> rfl
  | succ m ih =>
    intro k K J lt ls hk hK hJ hR
    obtain ⟨r1, r2, ⟨r3, r3b⟩, r4⟩ := hr k (by omega)
    have hK2 : ∀ c j, c ≠ 232 → up K 232 k 0 c j = I c j := fun c j hc => by rw [up_c hc]; exact hK c j hc
    have hJ2 : ∀ c j, c ≠ 264 → up J 264 k 0 c j = J0 c j := fun c j hc => by rw [up_c hc]; exact hJ c j hc
    have hR2 : ∀ o, o < k → up K 232 k 0 232 o = up J 264 k 0 264 o := fun o ho => by rw [up_j (by omega), up_j (by omega)]; exact hR o ho
    have E1 := e_19_6 (d := d + 2) (I := K) (x1 := x) (x3 := w) (x4 := lt) (x5 := ls) (x6 := (k : Int))
    rw [if_pos (by rw [hK _ _ (by decide)]; omega), if_pos (by omega), if_pos (by omega), Int.toNat_natCast, s_25 fi_2] at E1
    simp only [Option.bind_some, b01, Nat.reduceAdd, Int.toNat_natCast] at E1
    rw [hK2 2 5 (by decide), hK2 14 k (by decide), wr_id (z := (k : Int) + 1) (by omega) (by omega), ← zk1c] at E1
    have E2 := e_250_23 (d := e + 1) (I := J) (x1 := x) (x2 := w) (x3 := lt) (x4 := ls) (x5 := (k : Int))
    rw [if_pos (by rw [hJ _ _ (by decide)]; omega), if_pos (by omega), Int.toNat_natCast, s_178 (by omega) (by omega)] at E2
    simp only [Option.bind_some, b01, Int.toNat_natCast] at E2
    rw [hJ2 241 (98 + k) (by decide), wr_id (z := (k : Int) + 1) (by omega) (by omega), ← zk1c] at E2
    by_cases hd : I 14 k = -1
    · -- not done yet
      rw [if_pos (by omega), if_pos (by omega), s_12 (by rw [hK2 _ _ (by decide)]; omega) (by rw [hK2 _ _ (by decide)]; omega), Option.bind_some] at E1
      rw [if_pos (by omega)] at E2
      have h40 : up K 232 k 0 40 = I 40 := funext fun j => hK2 40 j (by decide)
      have h41 : up K 232 k 0 41 = I 41 := funext fun j => hK2 41 j (by decide)
      simp only [h40, h41] at E1
      rw [hK2 39 4 (by decide)] at E1
      obtain ⟨b, J3, f1, f2, f3, f4, f5⟩ := so_in (d := d + 1) (e := e) (n := k) (x1 := x) (x2 := x) (x3 := w) (x4 := lt) (x5 := ls) (y2 := w) (y3 := lt) (y4 := ls) (bf := zset (I 40) (I 41) k (I 39 4).toNat) (K := up K 232 k 0) (by omega) k 0 0 (up J 264 k 0) (by omega) up_s (by rw [hJ2 _ _ (by decide)]; exact r4) hR2
      have E1 := E1.trans f4
      have E2 := E2.trans f5
      have i13 : 0 ≤ (k : Int) ∧ (k : Int) < 13 := by omega
      have ic : 0 ≤ (k : Int) ∧ (k : Int) < I 2 5 ∧ (k : Int) < 12 := by omega
      have i12 : 0 ≤ (k : Int) ∧ (k : Int) < 12 := by omega
      have i110 : 0 ≤ wr (86 + (k : Int)) ∧ wr (86 + (k : Int)) < 110 := by rw [wr_id (by omega) (by omega)]; omega
      have t110 : (wr (86 + (k : Int))).toNat = 86 + k := by rw [wr_id (by omega) (by omega)]; omega
      have wk : wr ((k : Int) + 1) = ((k + 1 : Nat) : Int) := by clear i110 t110; exact wr_id (by omega) (by omega)
      have hJ3 : ∀ c j, c ≠ 264 → J3 c j = J0 c j := fun c j hc => by rw [f1 c j hc]; exact hJ2 c j hc
      have G1 := e_19_35 (d := d + 2) (I := up K 232 k 0) (x1 := x) (x3 := w) (x4 := lt) (x5 := ls) (x6 := (k : Int)) (x7 := zset (I 40) (I 41) k (I 39 4).toNat) (x8 := b) (x9 := (k : Int))
      rw [if_neg (by omega), s_26 fi_2] at G1
      simp only [Option.bind_some, if_neg (show ¬ x = 0 by omega), if_pos i13, Int.toNat_natCast, Nat.reduceAdd, up_s] at G1
      rw [hK2 2 5 (by decide), hK2 12 k (by decide), hK2 13 k (by decide), if_pos ic, wk] at G1
      have G2 := e_250_39 (d := e + 1) (I := J3) (x1 := x) (x2 := w) (x3 := lt) (x4 := ls) (x5 := (k : Int)) (x6 := (k : Int))
      rw [if_neg (by omega)] at G2
      simp only [if_pos i12, if_pos i110, if_neg (show ¬ x = 0 by omega), Int.toNat_natCast, t110, up_s, s_160, Option.bind_some] at G2
      rw [hJ3 246 k (by decide), hJ3 241 (86 + k) (by decide), r1, r2, f3, wk] at G2
      generalize wr (b + zdiv (wr (wr (wr (I 12 k - I 13 k) + x) - 1)) x) = T at *
      have hK4 : ∀ c j, c ≠ 232 → up (up K 232 k 0) 232 k T c j = I c j := fun c j hc => by rw [up_c hc]; exact hK2 c j hc
      have hJ4 : ∀ c j, c ≠ 264 → up J3 264 k T c j = J0 c j := fun c j hc => by rw [up_c hc]; exact hJ3 c j hc
      have hR4 : ∀ o, o < k + 1 → up (up K 232 k 0) 232 k T 232 o = up J3 264 k T 264 o := fun o ho => by
        by_cases q : o = k
        · rw [q, up_s, up_s]
        · rw [up_j q, up_j q, up_j q, f2 o q, up_j q]
          exact hR o (by clear G1 G2 E1 E2 wk i110 t110; omega)
      by_cases hlt : lt < T
      · rw [if_pos hlt] at G1 G2
        obtain ⟨r, K', J', g1, g2, g3, g4⟩ := ih (k + 1) _ _ T k (by omega) hK4 hJ4 hR4
        refine ⟨r, K', J', g1, g2, by rw [E1, G1]; exact g3, ?_⟩
        rw [E2, G2, show max lt T = T by omega]; exact g4
      · rw [if_neg hlt] at G1 G2
        obtain ⟨r, K', J', g1, g2, g3, g4⟩ := ih (k + 1) _ _ lt ls (by omega) hK4 hJ4 hR4
        refine ⟨r, K', J', g1, g2, by rw [E1, G1]; exact g3, ?_⟩
        rw [E2, G2, show max lt T = lt by omega]; exact g4
    · rw [if_neg (by omega)] at E1
      rw [if_neg (by omega)] at E2
      obtain ⟨r, K', J', g1, g2, g3, g4⟩ := ih (k + 1) (up K 232 k 0) (up J 264 k 0) lt ls (by omega) hK2 hJ2 (fun o ho => by
        by_cases q : o = k
        · rw [q, up_s, up_s]
        · exact hR2 o (by omega))
      exact ⟨r, K', J', g1, g2, by rw [E1]; exact g3, by rw [E2]; exact g4⟩
theorem q_soon {I : zI} {x w : Int} (h : Rl I) : Pair 129 250 [.inl x, .inl w] I := by
  have r := h.1.1
  have ra := h.1.2.2.2.2.2.1
  have E1 := e_129 (d := 59) (I := I) (x1 := x) (x2 := w)
  simp only [s_156, Option.bind_some, b01] at E1
  by_cases hc : (1 ≤ x ∧ x ≤ 99) ∧ 0 ≤ w ∧ w ≤ 1
  · rw [if_neg (not_not_intro hc.1), if_neg (not_not_intro hc.2)] at E1
    have fact : ∀ J : zI, (∀ c j, c ≠ 232 → c ≠ 240 → J c j = I c j) → (J 240 8 = I 240 8) → (J 240 8 = ((I 2 5).toNat : Int)) ∧ ∀ k : Nat, k < (I 2 5).toNat → (J 246 k = I 12 k) ∧ (J 241 (86 + k) = I 13 k) ∧ (J 241 (98 + k) = I 14 k + 1 ∧ -1 ≤ I 14 k) ∧ J 261 k = zset (I 40) (I 41) k (I 39 4).toNat := by
      intro J hJ h8
      have c5 := r.2.2.1
      refine ⟨by omega, fun k hk => ?_⟩
      have rd := r.2.2.2.2.2.2.2.2 k (by omega)
      simp only [Nat.reduceAdd] at rd
      have ra2 := ra.2.2 k (by omega)
      simp only [Nat.reduceAdd] at ra2
      rw [hJ _ _ (by decide) (by decide), hJ _ _ (by decide) (by decide), hJ _ _ (by decide) (by decide), hJ _ _ (by decide) (by decide)]
      exact ⟨rd.1.1, rd.2.1.1, ⟨rd.2.2.1, rd.2.2.2.1⟩, ra2⟩
    have c5 := r.2.2.1
    -- the class first
    obtain ⟨rA, KA, JA, a1, a2, a3, a4⟩ := so_out (d := 56) (e := 58) (x := x) (w := w) (I := I) (J0 := I) (by omega) (I 2 5).toNat (by omega) (by omega) (fact I (fun _ _ _ _ => rfl) rfl).1 ra.1.2 (fact I (fun _ _ _ _ => rfl) rfl).2 (I 2 5).toNat 0 I I 0 (-1) (by omega) (fun _ _ _ => rfl) (fun _ _ _ => rfl) (fun o ho => by omega)
    rw [e_19] at E1
    have E1 := E1.trans (congrArg (fun o => Option.bind o _) a3)
    have E2 := e_250 (d := 59) (I := KA) (x1 := x) (x2 := w)
    simp only [s_158, Option.bind_some, b01] at E2
    rw [if_neg (not_not_intro hc.1), if_neg (not_not_intro hc.2)] at E2
    have hJ0 : ∀ c j, c ≠ 232 → c ≠ 240 → up KA 240 0 0 c j = I c j := fun c j q1 q2 => by rw [up_c q2]; exact a1 c j q1
    have fJ := fact (up KA 240 0 0) hJ0 (by rw [up_j (by decide)]; exact a1 _ _ (by decide))
    obtain ⟨rB, KB, JB, b1, b2, b3, b4⟩ := so_out (d := 56) (e := 58) (x := x) (w := w) (I := I) (J0 := up KA 240 0 0) (by omega) (I 2 5).toNat (by omega) (by omega) fJ.1 ra.1.2 fJ.2 (I 2 5).toNat 0 I (up KA 240 0 0) 0 (-1) (by omega) (fun _ _ _ => rfl) (fun _ _ _ => rfl) (fun o ho => by omega)
    have hab : rA = rB := by
      have q := a3.symm.trans b3
      cases q
      rfl
    refine ⟨rA, KA, JB, E1, ?_, Rl_scr (Ag_tr (I' := KA) (fun a b q _ => ?_) (Ag_tr Ag_0 fun a b q _ => ?_)) h⟩
    · rw [hab]; exact E2.trans b4
    · exact a1 a b fun e => by subst e; revert q; decide
    · exact b2 a b fun e => by subst e; revert q; decide
  · refine Pair_of h (I1 := I) (I2 := up I 240 0 0) (r := -1) ?_ ?_ Ag_0
    · rw [E1]
      (repeat' split) <;> first | rfl | (exfalso; omega)
    · rw [e_250]
      simp only [s_158, Option.bind_some, b01]
      (repeat' split) <;> first | rfl | (exfalso; omega)
