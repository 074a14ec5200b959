/-! AN HOUR: WHAT STAYS, A NOTE, A FALL -/
theorem up_id {I : zI} {k j : Nat} {x : Int} (h : I k j = x) : up I k j x = I := by
  funext a b
  unfold up
  split
  · rename_i e
    rw [e.1, e.2, h]
  · rfl
theorem up_up {I : zI} {k j k' j' : Nat} {x x' : Int} (h : ¬ k = k') : up (up I k j x) k' j' x' = up (up I k' j' x') k j x := by
  funext a b
  unfold up
  by_cases h1 : a = k' ∧ b = j'
  · rw [if_pos h1, if_neg (fun e => h (e.1.symm.trans h1.1)), if_pos h1]
  · rw [if_neg h1]
    by_cases h2 : a = k ∧ b = j
    · rw [if_pos h2, if_pos h2]
    · rw [if_neg h2, if_neg h2, if_neg h1]
/-- from the start of an hour to where it stands: what is changed, and how both stand beside each other -/
def zG (a : Nat) (hb th : Int) (K0 J0 K J : zI) : Prop :=
  (∀ c j, ¬ (a ≤ c ∧ c ≤ a + 12) → ¬ (th = 0 ∧ 15 ≤ c ∧ c ≤ 19) → c ≠ 27 → c ≠ 28 → K c j = K0 c j) ∧
  (K a 3 = K0 a 3 ∧ K a 4 = K0 a 4 ∧ K a 5 = K0 a 5) ∧
  (∀ j, K (a + 1) j = K0 (a + 1) j ∧ K (a + 5) j = K0 (a + 5) j ∧ K (a + 10) j = K0 (a + 10) j) ∧
  (∀ c j, c ≠ 241 → ¬ (th = 0 ∧ c = 247) → c ≠ 262 → c ≠ 263 → J c j = J0 c j) ∧ RFirm K J a hb ∧ RBook K J 15
def zH (a : Nat) (th : Int) (K0 J0 : zI) : Prop := RLaw K0 J0 20 ∧ ROrd K0 J0 a 29 ∧ RBird K0 J0 34 ∧ RAft K0 J0 a 39 ∧ J0 240 5 = th ∧ (th = 0 ∨ th = 1)
theorem zG_law {a : Nat} {hb th : Int} {K0 J0 K J : zI} (h2 : a = 2 ∨ a = 200) (g : zG a hb th K0 J0 K J) (r : RLaw K0 J0 20) : RLaw K J 20 :=
  RLaw_cg (g.1 21 4 (by omega) (by omega) (by decide) (by decide)) (fun k h1 h3 => funext fun j => g.1 k j (by omega) (by omega) (by omega) (by omega)) (g.2.2.2.1 250 0 (by decide) (by omega) (by decide) (by decide)) (fun l _ => ⟨g.2.2.2.1 251 l (by decide) (by omega) (by decide) (by decide), g.2.2.2.1 252 l (by decide) (by omega) (by decide) (by decide), g.2.2.2.1 253 l (by decide) (by omega) (by decide) (by decide), g.2.2.2.1 254 l (by decide) (by omega) (by decide) (by decide)⟩) (fun i _ => ⟨g.2.2.2.1 255 i (by decide) (by omega) (by decide) (by decide), g.2.2.2.1 256 i (by decide) (by omega) (by decide) (by decide)⟩) r
theorem zG_bird {a : Nat} {hb th : Int} {K0 J0 K J : zI} (h2 : a = 2 ∨ a = 200) (g : zG a hb th K0 J0 K J) (r : RBird K0 J0 34) : RBird K J 34 :=
  RBird_cg (g.1 34 4 (by omega) (by omega) (by decide) (by decide)) (fun k h1 h3 => funext fun j => g.1 k j (by omega) (by omega) (by omega) (by omega)) (g.2.2.2.1 240 38 (by decide) (by omega) (by decide) (by decide)) (fun b _ => ⟨g.2.2.2.1 259 b (by decide) (by omega) (by decide) (by decide), g.2.2.2.1 260 b (by decide) (by omega) (by decide) (by decide)⟩) r
theorem zG_aft {a : Nat} {hb th : Int} {K0 J0 K J : zI} (h2 : a = 2 ∨ a = 200) (g : zG a hb th K0 J0 K J) (r : RAft K0 J0 a 39) : RAft K J a 39 :=
  RAft_cg g.2.1.2.2 (g.1 39 4 (by omega) (by omega) (by decide) (by decide)) (fun k h1 h3 => funext fun j => g.1 k j (by omega) (by omega) (by omega) (by omega)) (g.2.2.2.1 240 41 (by decide) (by omega) (by decide) (by decide)) (fun e _ => g.2.2.2.1 261 e (by decide) (by omega) (by decide) (by decide)) r
theorem zG_ord {a : Nat} {hb th : Int} {K0 J0 K J : zI} (h2 : a = 2 ∨ a = 200) (g : zG a hb th K0 J0 K J) (r : ROrd K0 J0 a 29) : ROrd K J a 29 :=
  ROrd_cg g.2.1.1 g.2.1.2.1 g.2.1.2.2 (g.1 29 4 (by omega) (by omega) (by decide) (by decide)) (fun k h1 h3 => funext fun j => g.1 k j (by omega) (by omega) (by omega) (by omega)) (g.2.2.2.1 240 36 (by decide) (by omega) (by decide) (by decide)) (fun j _ => g.2.2.2.1 258 j (by decide) (by omega) (by decide) (by decide)) r
theorem zG_th {a : Nat} {hb th : Int} {K0 J0 K J : zI} (g : zG a hb th K0 J0 K J) (r : J0 240 5 = th) : J 240 5 = th := (g.2.2.2.1 240 5 (by decide) (by omega) (by decide) (by decide)).trans r
theorem zG_rf {a : Nat} {hb th : Int} {K J : zI} (r : RFirm K J a hb) (rb : RBook K J 15) : zG a hb th K J K J :=
  ⟨fun _ _ _ _ _ _ => rfl, ⟨rfl, rfl, rfl⟩, fun _ => ⟨rfl, rfl, rfl⟩, fun _ _ _ _ _ _ => rfl, r, rb⟩
theorem zG_ask {a : Nat} {hb th : Int} {K0 J0 K J K' J' : zI} (h2 : a = 2 ∨ a = 200) (g : zG a hb th K0 J0 K J) (hK : ∀ k j, k ≠ 27 → k ≠ 28 → K' k j = K k j) (hJ : ∀ k j, k ≠ 262 → k ≠ 263 → J' k j = J k j) : zG a hb th K0 J0 K' J' := by
  obtain ⟨g1, g2, g3, g4, g5, g6⟩ := g
  have eK : ∀ k, k ≠ 27 → k ≠ 28 → K' k = K k := fun k q1 q2 => funext fun j => hK k j q1 q2
  have eJ : ∀ k, k ≠ 262 → k ≠ 263 → J' k = J k := fun k q1 q2 => funext fun j => hJ k j q1 q2
  refine ⟨fun c j q1 q2 q3 q4 => by rw [hK c j q3 q4]; exact g1 c j q1 q2 q3 q4, ?_, fun j => ?_, fun c j q1 q2 q3 q4 => by rw [hJ c j q3 q4]; exact g4 c j q1 q2 q3 q4, ?_, ?_⟩
  · rw [eK a (by omega) (by omega)]; exact g2
  · rw [eK (a + 1) (by omega) (by omega), eK (a + 5) (by omega) (by omega), eK (a + 10) (by omega) (by omega)]; exact g3 j
  · exact RFirm_cg (eK a (by omega) (by omega)) (fun k _ _ => eK k (by omega) (by omega)) (eJ 241 (by decide) (by decide)) (eJ 244 (by decide) (by decide)) (eJ 245 (by decide) (by decide)) (eJ 246 (by decide) (by decide)) (hJ 240 6 (by decide) (by decide)) (hJ 240 7 (by decide) (by decide)) (hJ 240 8 (by decide) (by decide)) g5
  · exact RBook_cg (hK 15 4 (by decide) (by decide)) (fun k _ _ => eK k (by omega) (by omega)) (hJ 241 2 (by decide) (by decide)) (eJ 247 (by decide) (by decide)) g6
theorem zG_up {a k i j : Nat} {hb hb2 th x y : Int} {K0 J0 K J : zI} (h2 : a = 2 ∨ a = 200) (hk : 2 ≤ k ∧ k ≤ 12 ∧ k ≠ 5 ∧ k ≠ 10) (hj : ¬ 2 = j) (g : zG a hb th K0 J0 K J) (r : RFirm (up K (a + k) i x) (up J 241 j y) a hb2) : zG a hb2 th K0 J0 (up K (a + k) i x) (up J 241 j y) := by
  obtain ⟨g1, g2, g3, g4, g5, g6⟩ := g
  refine ⟨fun c j q1 q2 q3 q4 => by rw [up_c (by omega)]; exact g1 c j q1 q2 q3 q4, ?_, fun j => ?_, fun c j q1 q2 q3 q4 => by rw [up_c q1]; exact g4 c j q1 q2 q3 q4, r, ?_⟩
  · rw [up_c (by omega), up_c (by omega), up_c (by omega)]; exact g2
  · rw [up_c (by omega), up_c (by omega), up_c (by omega)]; exact g3 j
  · exact RBook_cg (up_c (by omega)) (fun k _ _ => up_r (by omega)) (up_j hj) (up_r (by decide)) g6
theorem zG_u0 {a i j : Nat} {hb hb2 th x y : Int} {K0 J0 K J : zI} (h2 : a = 2 ∨ a = 200) (hi : i < 3) (hj : ¬ 2 = j) (g : zG a hb th K0 J0 K J) (r : RFirm (up K a i x) (up J 241 j y) a hb2) : zG a hb2 th K0 J0 (up K a i x) (up J 241 j y) := by
  obtain ⟨g1, g2, g3, g4, g5, g6⟩ := g
  refine ⟨fun c j q1 q2 q3 q4 => by rw [up_c (by omega)]; exact g1 c j q1 q2 q3 q4, ?_, fun j => ?_, fun c j q1 q2 q3 q4 => by rw [up_c q1]; exact g4 c j q1 q2 q3 q4, r, ?_⟩
  · rw [up_j (by omega), up_j (by omega), up_j (by omega)]; exact g2
  · rw [up_c (by omega), up_c (by omega), up_c (by omega)]; exact g3 j
  · exact RBook_cg (up_c (by omega)) (fun k _ _ => up_r (by omega)) (up_j hj) (up_r (by decide)) g6
/-- a line more of THE BOOK -/
def zadd (a : Nat) (kd x y th : Int) (K : zI) : zI := if th = 0 ∧ K 15 4 < 150 then up (up (up (up (up K 16 (K 15 4).toNat (K a 2)) 17 (K 15 4).toNat kd) 18 (K 15 4).toNat x) 19 (K 15 4).toNat y) 15 4 (K 15 4 + 1) else K
def zmad (kd x y th : Int) (J : zI) : zI := if th = 0 ∧ J 241 2 < 150 then up (up (up (up (up J 247 (4 * (J 241 2).toNat) (J 241 0)) 247 (4 * (J 241 2).toNat + 1) kd) 247 (4 * (J 241 2).toNat + 2) x) 247 (4 * (J 241 2).toNat + 3) y) 241 2 (J 241 2 + 1) else J
theorem s_18 {d a : Nat} {K : zI} {kd x y th : Int} (ha : zFirm a) (h0 : 0 ≤ K 15 4) (h1 : K 15 4 ≤ 150) (ht : th = 0 ∨ th = 1) : cl (d + 2) 18 [.inr (some 1), .inr (some a), .inl kd, .inl x, .inl y, .inl th] K = some (0, zadd a kd x y th K) := by
  rw [e_18 ha, e_1]
  unfold zadd
  rcases ht with rfl | rfl
  · rw [if_pos rfl, if_neg (by omega)]
    by_cases h : K 15 4 < 150
    · have i150 : 0 ≤ K 15 4 ∧ K 15 4 < 150 := ⟨h0, h⟩
      have i0 : (0 : Int) = 0 ∧ K 15 4 < 150 := ⟨rfl, h⟩
      rw [if_pos h, if_pos i0]
      simp only [if_pos i150, Option.bind_some]
      rw [wr_id (by omega) (by omega)]
    · rw [if_neg h, if_neg (fun e => h e.2)]
      rfl
  · rw [if_neg (by decide), if_neg (fun e => absurd e.1 (by decide))]
theorem s_232 {e : Nat} {J : zI} {kd x y th : Int} (h0 : 0 ≤ J 241 2) (h1 : J 241 2 ≤ 150) (ht : th = 0 ∨ th = 1) (h5 : J 240 5 = th) : cl (e + 1) 232 [.inr (some 240), .inl kd, .inl x, .inl y] J = some (0, zmad kd x y th J) := by
  rw [e_232, h5]
  unfold zmad
  rcases ht with rfl | rfl
  · rw [if_pos rfl]
    by_cases h : J 241 2 < 150
    · have i0 : (0 : Int) = 0 ∧ J 241 2 < 150 := ⟨rfl, h⟩
      have w4 : wr (4 * J 241 2) = 4 * J 241 2 := wr_id (by omega) (by omega)
      rw [if_neg (by omega), if_pos i0, w4, wr_id (z := 4 * J 241 2 + 1) (by omega) (by omega), wr_id (z := 4 * J 241 2 + 2) (by omega) (by omega), wr_id (z := 4 * J 241 2 + 3) (by omega) (by omega), wr_id (z := J 241 2 + 1) (by omega) (by omega), if_pos (by omega), if_pos (by omega), if_pos (by omega), if_pos (by omega), show (4 * J 241 2).toNat = 4 * (J 241 2).toNat by omega, show (4 * J 241 2 + 1).toNat = 4 * (J 241 2).toNat + 1 by omega, show (4 * J 241 2 + 2).toNat = 4 * (J 241 2).toNat + 2 by omega, show (4 * J 241 2 + 3).toNat = 4 * (J 241 2).toNat + 3 by omega]
    · rw [if_pos (by omega), if_neg (fun e => h e.2)]
  · rw [if_neg (by decide), if_neg (fun e => absurd e.1 (by decide))]
theorem zadd_o {a k j : Nat} {kd x y th : Int} {K : zI} (hk : ¬ (15 ≤ k ∧ k ≤ 19)) : zadd a kd x y th K k j = K k j := by
  unfold zadd
  split
  · rw [up_c (by omega), up_c (by omega), up_c (by omega), up_c (by omega), up_c (by omega)]
  · rfl
theorem zadd_1 {a : Nat} {kd x y th : Int} {K : zI} (ht : ¬ th = 0) : zadd a kd x y th K = K := if_neg fun e => ht e.1
theorem zmad_1 {kd x y th : Int} {J : zI} (ht : ¬ th = 0) : zmad kd x y th J = J := if_neg fun e => ht e.1
theorem zmad_o {k j : Nat} {kd x y th : Int} {J : zI} (hk : ¬ k = 247) (h2 : ¬ (k = 241 ∧ j = 2)) : zmad kd x y th J k j = J k j := by
  unfold zmad
  split
  · have e : ∀ (I : zI) (z : Int), up I 241 2 z k j = I k j := fun I z => if_neg h2
    rw [e, up_c hk, up_c hk, up_c hk, up_c hk]
  · rfl
theorem zadd_cm {a : Nat} {kd x y th : Int} {K K2 : zI} (h15 : ∀ k j, 15 ≤ k → k ≤ 19 → K2 k j = K k j) (hh : K2 a 2 = K a 2) (k j : Nat) : zadd a kd x y th K2 k j = if 15 ≤ k ∧ k ≤ 19 then zadd a kd x y th K k j else K2 k j := by
  by_cases hk : 15 ≤ k ∧ k ≤ 19
  · rw [if_pos hk]
    unfold zadd
    rw [h15 15 4 (by decide) (by decide), hh]
    split
    · unfold up
      rw [h15 k j hk.1 hk.2]
    · exact h15 k j hk.1 hk.2
  · rw [if_neg hk, zadd_o hk]
theorem RBook_add {a : Nat} {hb kd x y th : Int} {K J : zI} (h2 : a = 2 ∨ a = 200) (rf : RFirm K J a hb) (rb : RBook K J 15) : RBook (zadd a kd x y th K) (zmad kd x y th J) 15 := by
  obtain ⟨⟨b1, b2, b3⟩, b4⟩ := rb
  simp only [Nat.reduceAdd] at b4
  have fh := rf.2.2.2.2.2.1.1
  by_cases hc : th = 0 ∧ K 15 4 < 150
  · have hc2 : th = 0 ∧ J 241 2 < 150 := by omega
    unfold zadd zmad
    rw [if_pos hc, if_pos hc2, b1]
    refine ⟨?_, fun i hi => ?_⟩
    · simp (disch := omega) only [up_c, up_j, up_s, true_and]
      omega
    · have g := b4 i hi
      simp only [Nat.reduceAdd]
      by_cases e : i = (K 15 4).toNat
      · subst e
        simp (disch := omega) only [up_c, up_j, up_s]
        exact ⟨fh, trivial, trivial, trivial⟩
      · simp (disch := omega) only [up_c, up_j, up_s]
        exact g
  · have hc2 : ¬ (th = 0 ∧ J 241 2 < 150) := by omega
    unfold zadd zmad
    rw [if_neg hc, if_neg hc2]
    exact ⟨⟨b1, b2, b3⟩, b4⟩
theorem zG_note {a : Nat} {hb th kd x y : Int} {K0 J0 K J : zI} (h2 : a = 2 ∨ a = 200) (g : zG a hb th K0 J0 K J) : zG a hb th K0 J0 (zadd a kd x y th K) (zmad kd x y th J) := by
  by_cases ht : th = 0
  · obtain ⟨g1, g2, g3, g4, g5, g6⟩ := g
    refine ⟨fun c j q1 q2 q3 q4 => by rw [zadd_o (by omega)]; exact g1 c j q1 q2 q3 q4, ?_, fun j => ?_, fun c j q1 q2 q3 q4 => by rw [zmad_o (by omega) (by omega)]; exact g4 c j q1 q2 q3 q4, ?_, RBook_add h2 g5 g6⟩
    · rw [zadd_o (by omega), zadd_o (by omega), zadd_o (by omega)]; exact g2
    · rw [zadd_o (by omega), zadd_o (by omega), zadd_o (by omega)]; exact g3 j
    · obtain ⟨⟨f1, f1a, f1b⟩, ⟨f2, f2a, f2b⟩, ⟨f3, f3a, f3b⟩, f4, f5, f6, f7, f8, f9⟩ := g5
      refine ⟨?_, ?_, ?_, ?_, ?_, ?_, fun p hp => ?_, fun p hp => ?_, fun p hp => ?_⟩
      · rw [zadd_o (by omega), zmad_o (by omega) (by omega)]; exact ⟨f1, f1a, f1b⟩
      · rw [zadd_o (by omega), zmad_o (by omega) (by omega)]; exact ⟨f2, f2a, f2b⟩
      · rw [zadd_o (by omega), zmad_o (by omega) (by omega)]; exact ⟨f3, f3a, f3b⟩
      · rw [zadd_o (by omega), zmad_o (by omega) (by omega)]; exact f4
      · rw [zadd_o (by omega), zmad_o (by omega) (by omega)]; exact f5
      · rw [zadd_o (by omega), zmad_o (by omega) (by omega)]; exact f6
      · rw [zadd_o (by omega)] at hp
        have q := f7 p hp
        simp (disch := omega) only [zadd_o, zmad_o]
        exact q
      · rw [zadd_o (by omega)] at hp
        have q := f8 p hp
        simp (disch := omega) only [zadd_o, zmad_o]
        exact q
      · rw [zadd_o (by omega)] at hp
        have q := f9 p hp
        simp (disch := omega) only [zadd_o, zmad_o]
        exact q
  · rw [zadd_1 ht, zmad_1 ht]; exact g
/-- does it fall so -/
theorem fall_ok {d e a : Nat} {hb th x : Int} {K0 J0 K J : zI} (ha : zFirm a) (h2 : a = 2 ∨ a = 200) (h5 : J0 240 5 = th) (ht : th = 0 ∨ th = 1) (g : zG a hb th K0 J0 K J) (hx : 0 ≤ x ∧ x ≤ 1000) :
    ∃ (b : Int) (K' J' : zI), (b = 0 ∨ b = 1) ∧ zG a hb th K0 J0 K' J' ∧ (∀ k j, ¬ (k = a ∧ j = 0) → K' k j = K k j) ∧ (∀ k j, ¬ (k = 241 ∧ j = 1) → J' k j = J k j) ∧ cl (d + 2) 35 [.inr (some a), .inl x, .inl th] K = some (b, K') ∧ cl (e + 2) 236 [.inr (some 240), .inl x] J = some (b, J') := by
  have h5J := zG_th g h5
  rcases ht with rfl | rfl
  · by_cases h0 : 0 < x
    · have hD : wr (wr (1664525 * J 241 1) + 1013904223) = wr (wr (K a 0 * 1664525) + 1013904223) := by
        rw [g.2.2.2.2.1.2.2.2.1, Int.mul_comm]
      refine ⟨if zrem (zushr (wr (wr (K a 0 * 1664525) + 1013904223)) 8) 1000 < x then 1 else 0, up K a 0 (wr (wr (K a 0 * 1664525) + 1013904223)), up J 241 1 (wr (wr (K a 0 * 1664525) + 1013904223)), by split <;> simp, zG_u0 h2 (by decide) (by decide) g (F_draw h2 g.2.2.2.2.1 rfl), fun k j q => if_neg q, fun k j q => if_neg q, ?_, ?_⟩
      · rw [e_35 ha, if_pos rfl, if_pos h0, e_34 ha, if_pos (by decide), if_neg (by decide), Option.bind_some]
        split <;> rfl
      · rw [e_236, if_pos h5J, if_pos h0, e_171, if_neg (by decide), hD, Option.bind_some]
        split <;> rfl
    · refine ⟨0, K, J, Or.inl rfl, g, fun _ _ _ => rfl, fun _ _ _ => rfl, ?_, ?_⟩
      · rw [e_35 ha, if_pos rfl, if_neg h0]
      · rw [e_236, if_pos h5J, if_neg h0]
  · refine ⟨if x < 500 then 0 else 1, K, J, by split <;> simp, g, fun _ _ _ => rfl, fun _ _ _ => rfl, ?_, ?_⟩
    · rw [e_35 ha, if_neg (by decide)]
      split <;> rfl
    · rw [e_236, if_neg (by omega), wr_id (by omega) (by omega)]
      by_cases h : x < 500
      · rw [if_pos h, if_pos (by omega)]
      · rw [if_neg h, if_neg (by omega)]
/-- all who are at a deed are at none -/
def zclr (a : Nat) (dd : Int) (n : Nat) (K : zI) : zI := fun k j => if k = a + 7 ∧ j < n ∧ K (a + 7) j = dd then -1 else K k j
def zmcl (dd : Int) (n : Nat) (J : zI) : zI := fun k j => if k = 241 ∧ 56 ≤ j ∧ j < 56 + n ∧ J 241 j = dd + 1 then 0 else J k j
theorem zclr_r {a k : Nat} {dd : Int} {n : Nat} {K : zI} (h : ¬ k = a + 7) : zclr a dd n K k = K k := funext fun _ => if_neg fun e => h e.1
theorem zmcl_c {k j : Nat} {dd : Int} {n : Nat} {J : zI} (h : ¬ k = 241) : zmcl dd n J k j = J k j := if_neg fun e => h e.1
theorem zmcl_j {j : Nat} {dd : Int} {n : Nat} {J : zI} (h : j < 56 ∨ 56 + n ≤ j) : zmcl dd n J 241 j = J 241 j := if_neg fun e => by omega
theorem zclr_0 {a : Nat} {dd : Int} {K : zI} : zclr a dd 0 K = K := by
  funext k j
  exact if_neg fun e => by omega
theorem zmcl_0 {dd : Int} {J : zI} : zmcl dd 0 J = J := by
  funext k j
  exact if_neg fun e => by omega
theorem zclr_s {a i : Nat} {dd : Int} {K : zI} : zclr a dd (i + 1) K = if K (a + 7) i = dd then up (zclr a dd i K) (a + 7) i (-1) else zclr a dd i K := by
  funext k j
  by_cases h : K (a + 7) i = dd
  · rw [if_pos h]
    unfold zclr up
    by_cases e : k = a + 7 ∧ j = i
    · rw [if_pos e, if_pos ⟨e.1, by omega, by rw [e.2]; exact h⟩]
    · rw [if_neg e]
      dsimp only
      by_cases q : k = a + 7 ∧ j < i ∧ K (a + 7) j = dd
      · rw [if_pos q, if_pos ⟨q.1, by omega, q.2.2⟩]
      · rw [if_neg q, if_neg (fun q2 => q ⟨q2.1, by omega, q2.2.2⟩)]
  · rw [if_neg h]
    unfold zclr
    by_cases q : k = a + 7 ∧ j < i ∧ K (a + 7) j = dd
    · rw [if_pos q, if_pos ⟨q.1, by omega, q.2.2⟩]
    · rw [if_neg q, if_neg]
      rintro ⟨q1, q2, q3⟩
      by_cases e : j = i
      · rw [e] at q3; exact h q3
      · exact q ⟨q1, by omega, q3⟩
theorem zmcl_s {i : Nat} {dd : Int} {J : zI} : zmcl dd (i + 1) J = if J 241 (56 + i) = dd + 1 then up (zmcl dd i J) 241 (56 + i) 0 else zmcl dd i J := by
  funext k j
  by_cases h : J 241 (56 + i) = dd + 1
  · rw [if_pos h]
    unfold zmcl up
    by_cases e : k = 241 ∧ j = 56 + i
    · rw [if_pos e, if_pos ⟨e.1, by omega, by omega, by rw [e.2]; exact h⟩]
    · rw [if_neg e]
      dsimp only
      by_cases q : k = 241 ∧ 56 ≤ j ∧ j < 56 + i ∧ J 241 j = dd + 1
      · rw [if_pos q, if_pos ⟨q.1, q.2.1, by omega, q.2.2.2⟩]
      · rw [if_neg q, if_neg (fun q2 => q ⟨q2.1, q2.2.1, by omega, q2.2.2.2⟩)]
  · rw [if_neg h]
    unfold zmcl
    by_cases q : k = 241 ∧ 56 ≤ j ∧ j < 56 + i ∧ J 241 j = dd + 1
    · rw [if_pos q, if_pos ⟨q.1, q.2.1, by omega, q.2.2.2⟩]
    · rw [if_neg q, if_neg]
      rintro ⟨q1, q2, q3, q4⟩
      by_cases e : j = 56 + i
      · rw [e] at q4; exact h q4
      · exact q ⟨q1, q2, by omega, q4⟩
theorem F_clr {K J : zI} {a : Nat} {hb dd : Int} (h2 : a = 2 ∨ a = 200) (r : RFirm K J a hb) (hd : 0 ≤ dd) : RFirm (zclr a dd (K a 4).toNat K) (zmcl dd (K a 4).toNat J) a hb := by
  obtain ⟨⟨f1, f1a, f1b⟩, ⟨f2, f2a, f2b⟩, ⟨f3, f3a, f3b⟩, f4, f5, ⟨f6, f6a, f6b⟩, f7, f8, f9⟩ := r
  have hn : ((K a 4).toNat : Int) = K a 4 := by omega
  generalize (K a 4).toNat = n at hn
  refine ⟨?_, ?_, ?_, ?_, ?_, ?_, fun p hp => ?_, fun p hp => ?_, fun p hp => ?_⟩
  · simp (disch := omega) only [zclr_r, zmcl_c, zmcl_j]; omega
  · simp (disch := omega) only [zclr_r, zmcl_c, zmcl_j]; omega
  · simp (disch := omega) only [zclr_r, zmcl_c, zmcl_j]; omega
  · simp (disch := omega) only [zclr_r, zmcl_c, zmcl_j]; omega
  · simp (disch := omega) only [zclr_r, zmcl_c, zmcl_j]; omega
  · simp (disch := omega) only [zclr_r, zmcl_c, zmcl_j]; omega
  · simp (disch := omega) only [zclr_r] at hp
    have q := f7 p hp
    simp (disch := omega) only [zclr_r, zmcl_c, zmcl_j]
    exact q
  · simp (disch := omega) only [zclr_r] at hp
    have q := f8 p hp
    simp (disch := omega) only [zclr_r, zmcl_c, zmcl_j]
    have e7 : zclr a dd n K (a + 7) p = if K (a + 7) p = dd then -1 else K (a + 7) p := by
      unfold zclr
      by_cases h : K (a + 7) p = dd
      · rw [if_pos h, if_pos ⟨rfl, by omega, h⟩]
      · rw [if_neg h, if_neg (fun e => h e.2.2)]
    have e56 : zmcl dd n J 241 (56 + p) = if J 241 (56 + p) = dd + 1 then 0 else J 241 (56 + p) := by
      unfold zmcl
      by_cases h : J 241 (56 + p) = dd + 1
      · rw [if_pos h, if_pos ⟨rfl, by omega, by omega, h⟩]
      · rw [if_neg h, if_neg (fun e => h e.2.2.2)]
    rw [e7, e56]
    refine ⟨q.1, q.2.1, ?_, q.2.2.2⟩
    by_cases h : K (a + 7) p = dd
    · rw [if_pos h, if_pos (by omega)]; omega
    · rw [if_neg h, if_neg (by omega)]; exact q.2.2.1
  · simp (disch := omega) only [zclr_r] at hp
    have q := f9 p hp
    simp (disch := omega) only [zclr_r, zmcl_c, zmcl_j]
    exact q
theorem zG_clr {a : Nat} {hb th dd : Int} {K0 J0 K J : zI} (h2 : a = 2 ∨ a = 200) (hd : 0 ≤ dd) (g : zG a hb th K0 J0 K J) : zG a hb th K0 J0 (zclr a dd (K a 4).toNat K) (zmcl dd (K a 4).toNat J) := by
  have rf := F_clr (dd := dd) h2 g.2.2.2.2.1 hd
  obtain ⟨g1, g2, g3, g4, g5, g6⟩ := g
  have hn : (K a 4).toNat ≤ 10 := by have := g5.2.1; omega
  generalize (K a 4).toNat = n at hn rf
  refine ⟨fun c j q1 q2 q3 q4 => by rw [zclr_r (by omega)]; exact g1 c j q1 q2 q3 q4, ?_, fun j => ?_, fun c j q1 q2 q3 q4 => by rw [zmcl_c q1]; exact g4 c j q1 q2 q3 q4, rf, ?_⟩
  · rw [zclr_r (by omega)]; exact g2
  · rw [zclr_r (by omega), zclr_r (by omega), zclr_r (by omega)]; exact g3 j
  · exact RBook_cg (by rw [zclr_r (by omega)]) (fun k _ _ => zclr_r (by omega)) (zmcl_j (by omega)) (funext fun j => zmcl_c (by decide)) g6
theorem s_37_24 {d a : Nat} {K : zI} {dd : Int} {w2 : Option zV} (ha : zFirm a) (h0 : 0 ≤ K a 4) (h1 : K a 4 ≤ 10) : zD (d + 1) 37 24 [some (.inr (some a)), some (.inl dd), w2, some (.inl 0)] [] K = some (0, zclr a dd (K a 4).toNat K) := by
  have key : ∀ (m i : Nat), i + m = (K a 4).toNat → zD (d + 1) 37 24 [some (.inr (some a)), some (.inl dd), w2, some (.inl (i : Int))] [] (zclr a dd i K) = some (0, zclr a dd (K a 4).toNat K) := by
    intro m
    induction m with
    | zero =>
      intro i hi
      rw [e_37_24 ha, zclr_r (by omega), if_neg (by omega), show i = (K a 4).toNat by omega]
    | succ m ih =>
      intro i hi
      have e7 : zclr a dd i K (a + 7) i = K (a + 7) i := if_neg fun e => by omega
      have i10 : 0 ≤ (i : Int) ∧ (i : Int) < 10 := by omega
      have := ih (i + 1) (by omega)
      rw [zclr_s] at this
      rw [e_37_24 ha, zclr_r (k := a) (by omega), if_pos (by omega)]
      simp only [if_pos i10, Int.toNat_natCast, e7]
      rw [wr_id (by omega) (by omega), ← zk1c]
      by_cases h : K (a + 7) i = dd
      · rw [if_pos h] at this ⊢
        exact this
      · rw [if_neg h] at this ⊢
        exact this
  have := key (K a 4).toNat 0 (by omega)
  rw [zclr_0] at this
  exact this
theorem s_238_30 {e : Nat} {J : zI} {dd : Int} {w1 : Option zV} (h0 : 0 ≤ J 240 7) (h1 : J 240 7 ≤ 10) (hr : ∀ c : Nat, (c : Int) < J 240 7 → 0 ≤ J 241 (56 + c) ∧ J 241 (56 + c) ≤ 12) : zD (e + 2) 238 30 [some (.inr (some 240)), w1, some (.inl dd), some (.inl 0)] [] J = some (0, zmcl dd (J 240 7).toNat J) := by
  have key : ∀ (m i : Nat), i + m = (J 240 7).toNat → zD (e + 2) 238 30 [some (.inr (some 240)), w1, some (.inl dd), some (.inl (i : Int))] [] (zmcl dd i J) = some (0, zmcl dd (J 240 7).toNat J) := by
    intro m
    induction m with
    | zero =>
      intro i hi
      rw [e_238_30, zmcl_c (by decide), if_neg (by omega), show i = (J 240 7).toNat by omega]
    | succ m ih =>
      intro i hi
      have e7 : zmcl dd i J 241 (56 + i) = J 241 (56 + i) := if_neg fun e => by omega
      have hr2 := hr i (by omega)
      have := ih (i + 1) (by omega)
      rw [zmcl_s] at this
      rw [e_238_30, zmcl_c (k := 240) (by decide), if_pos (by omega), s_176 (by omega) (by omega) (by rw [Int.toNat_natCast, e7]; omega) (by rw [Int.toNat_natCast, e7]; omega), Option.bind_some]; (try dsimp only); rw [Int.toNat_natCast, e7]
      have w56 : wr (56 + (i : Int)) = 56 + (i : Int) := wr_id (by omega) (by omega)
      have t56 : (56 + (i : Int)).toNat = 56 + i := by omega
      rw [w56, wr_id (z := (i : Int) + 1) (by omega) (by omega), ← zk1c, t56]
      by_cases h : J 241 (56 + i) = dd + 1
      · rw [if_pos h] at this
        rw [if_pos (by omega), if_pos (by omega)]
        exact this
      · rw [if_neg h] at this
        rw [if_neg (by omega)]
        exact this
  have := key (J 240 7).toNat 0 (by omega)
  rw [zmcl_0] at this
  exact this
