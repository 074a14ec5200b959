/-! THE TEXT: the pair -/
theorem RTape_0 {K J : zI} (h1 : K 213 1 = 0) (h2 : J 240 14 = 0) : RTape (mg K J) := by
  unfold RTape
  rw [mg_r (c := 240) (by decide), mg_l (c := 213) (by decide), mg_r (c := 248) (by decide), mg_l (c := 214) (by decide), h1, h2]
  exact ⟨⟨rfl, by decide, by decide⟩, fun j hj => absurd hj (by omega)⟩
theorem RFlt_m {K J : zI} (h1 : J 240 34 = K 213 7) (h2 : J 240 35 = K 213 8) : RFlt (mg K J) := by
  unfold RFlt
  rw [mg_r (c := 240) (by decide), mg_l (c := 213) (by decide), h1, h2]
  exact ⟨rfl, rfl⟩
theorem mgA {I K J : zI} {ex : Nat → Nat → Prop} (hK : ∀ a b, a < 240 → ¬ zT a b → ¬ ex a b → K a b = I a b) (hJ : ∀ a b, 240 ≤ a → ¬ zT a b → ¬ ex a b → J a b = I a b) : ∀ a b, ¬ zT a b → ¬ ex a b → mg K J a b = I a b := fun a b h1 h2 => by
  by_cases ha : a < 240
  · rw [mg_l ha]; exact hK a b ha h1 h2
  · rw [mg_r (by omega)]; exact hJ a b (by omega) h1 h2
theorem zC_T {a b : Nat} (h : ¬ zT a b) : ¬ zCl a b := by
  unfold zT at h
  unfold zCl
  omega
theorem zC_240 {a b : Nat} (h : 240 ≤ a) : ¬ zCl a b := by
  unfold zCl
  omega
theorem zsB_240 {a b : Nat} (h : a < 240) : zsB a b = false := by
  cases e : zsB a b with
  | false => rfl
  | true =>
    exfalso
    unfold zsB zs1 at e
    simp only [Bool.or_eq_true, Bool.and_eq_true, beq_iff_eq, decide_eq_true_eq] at e
    omega
/-- the law's end -/
theorem fin_0 {I J K J0 : zI} {s : tZ} (h : Rl I) (h16 : s.2.length ≤ 16) (hKl : ∀ a b, a < 240 → ¬ zT a b → K a b = I a b) (hKg : ∀ a b, 240 ≤ a → K a b = I a b) (hJl : ∀ a b, a < 240 → J0 a b = J a b) (hJg : ∀ a b, 240 ≤ a → ¬ zT a b → J0 a b = I a b) (i7 : K 213 7 = 0) (i8 : K 213 8 = -1) (i1 : K 213 1 = 0) (j34 : J0 240 34 = 0) (j35 : J0 240 35 = -1) (j14 : J0 240 14 = 0) (hq : Q0 s) (hc : s.1.length ≤ 400) (j27 : J0 240 27 = 0) (jc : J0 240 28 = (s.1.length : Int)) (l217 : K 217 2 = (s.1.length : Int)) (l223 : ∀ i, i < s.1.length → K 223 i = s.1.getD i 0) (l : tLn 218 s.2 K) (jt : ∀ i, i < s.1.length → RTok (s.1.getD i 0) (J0 255 (800 + i)) (J0 256 (800 + i))) (jp : PL s.2 J0) :
    ∃ K' J', ((cl 59 39 [.inr (some 20), .inr (some 217)] K).bind fun p8 => some (p8.2 21 4, p8.2)) = some ((s.2.length : Int), K') ∧ ((cl 59 209 [.inr (some 240), .inl (s.2.length : Int)] J0).bind fun p4 => some ((s.2.length : Int), p4.2)) = some ((s.2.length : Int), J') ∧ (∀ c j, 240 ≤ c → K' c j = I c j) ∧ (∀ c j, c < 240 → J' c j = J c j) ∧ Rl (mg K' J') := by
  obtain ⟨K1, c1, c2, c3, c4⟩ := c_86 (d := 57) (I := K) tx_21 tx_218 (Or.inr (by decide))
  obtain ⟨J1, m1, m2, m3, m4, m5⟩ := m_209 (d := 58) (J := J0) h16 hc j27 jc
  have hK' : ∀ a b, ¬ (20 ≤ a ∧ a ≤ 26) → up (cp K1 223 26 0 0 400) 20 2 (K1 217 2) a b = K a b := fun a b hab => by
    rw [up_c (by omega), cp_c (by omega), c2 a b (by omega)]
  have k21 : up (cp K1 223 26 0 0 400) 20 2 (K1 217 2) 21 4 = (s.2.length : Int) := by
    rw [up_c (by decide), cp_c (by decide), c3]
    exact l.1
  refine ⟨up (cp K1 223 26 0 0 400) 20 2 (K1 217 2), J1, ?_, by rw [m1]; rfl, fun c j hcj => (hK' c j (by omega)).trans (hKg c j hcj), fun c j hcj => (m2 c j (by omega)).trans (hJl c j hcj), Rl_t0 h (mgA (ex := fun k _ => (20 ≤ k ∧ k ≤ 26) ∨ (250 ≤ k ∧ k ≤ 256)) (fun a b ha hz (hx : ¬ ((20 ≤ a ∧ a ≤ 26) ∨ (250 ≤ a ∧ a ≤ 256))) => (hK' a b (by omega)).trans (hKl a b ha hz)) (fun a b ha hz (hx : ¬ ((20 ≤ a ∧ a ≤ 26) ∨ (250 ≤ a ∧ a ≤ 256))) => (m2 a b (by omega)).trans (hJg a b ha hz))) ?_ (RTape_0 ((hK' 213 1 (by omega)).trans i1) ((m2 240 14 (by omega)).trans j14)) (RFlt_m ?_ ?_)⟩
  · rw [e_39, c1, Option.bind_some]
    dsimp only
    rw [Option.bind_some]
    dsimp only
    rw [k21]
  · have g1 : ∀ a, a < 240 → mg (up (cp K1 223 26 0 0 400) 20 2 (K1 217 2)) J1 a = up (cp K1 223 26 0 0 400) 20 2 (K1 217 2) a := fun a ha => mg_l ha
    have g2 : ∀ a, 240 ≤ a → mg (up (cp K1 223 26 0 0 400) 20 2 (K1 217 2)) J1 a = J1 a := fun a ha => mg_r ha
    have t : ∀ a j, ¬ a = 20 → ¬ a = 26 → up (cp K1 223 26 0 0 400) 20 2 (K1 217 2) a j = K1 a j := fun a j n1 n2 => (up_c n1).trans (cp_c n2)
    refine RLaw_of hq h16 hc ?_ (fun x hx => ?_) (fun i hi => ?_) ?_ (fun x hx => ?_) (fun i hi => ?_)
    · rw [g1 21 (by decide), k21]
    · obtain ⟨d1, d2, d3, d4⟩ := c4 x (by omega)
      rw [g1 22 (by decide), g1 23 (by decide), g1 24 (by decide), g1 25 (by decide), t 22 x (by decide) (by decide), t 23 x (by decide) (by decide), t 24 x (by decide) (by decide), t 25 x (by decide) (by decide)]
      obtain ⟨b1, b2, b3, b4⟩ := l.2 x hx
      exact ⟨d1.trans b1, d2.trans b2, d3.trans b3, d4.trans b4⟩
    · rw [g1 26 (by decide), up_c (by decide), cp_in (by omega), c2 223 i (by omega)]
      exact l223 i hi
    · rw [g2 250 (by decide), m3]
    · obtain ⟨d1, d2, d3, d4⟩ := m4 x hx
      rw [g2 251 (by decide), g2 252 (by decide), g2 253 (by decide), g2 254 (by decide), d1, d2, d3, d4]
      exact jp x hx
    · obtain ⟨d1, d2⟩ := m5 i hi
      rw [g2 255 (by decide), g2 256 (by decide), d1, d2]
      exact jt i hi
  · rw [m2 240 34 (by omega), hK' 213 7 (by omega), j34, i7]
  · rw [m2 240 35 (by omega), hK' 213 8 (by omega), j35, i8]
/-- the orders' end -/
theorem fin_1 {I J K J0 : zI} {s : tZ} (h : Rl I) (h16 : s.2.length ≤ 16) (hKl : ∀ a b, a < 240 → ¬ zT a b → K a b = I a b) (hKg : ∀ a b, 240 ≤ a → K a b = I a b) (hJl : ∀ a b, a < 240 → J0 a b = J a b) (hJg : ∀ a b, 240 ≤ a → ¬ zT a b → J0 a b = I a b) (i7 : K 213 7 = 0) (i8 : K 213 8 = -1) (i1 : K 213 1 = 0) (j34 : J0 240 34 = 0) (j35 : J0 240 35 = -1) (j14 : J0 240 14 = 0) (hq : QA (A1 (I 2 3) (I 2 4) (I 2 5)) s) (l : tLn 226 s.2 K) (jp : PO s.2 J0) :
    ∃ K' J', ((cl 59 86 [.inr (some 29), .inr (some 226)] K).bind fun p6 => (cl 59 50 [.inr (some 119)] p6.2).bind fun p7 => some (p7.2 29 4, p7.2)) = some ((s.2.length : Int), K') ∧ ((cl 59 220 [.inr (some 240), .inl 1, .inl (s.2.length : Int)] J0).bind fun p4 => some ((s.2.length : Int), p4.2)) = some ((s.2.length : Int), J') ∧ (∀ c j, 240 ≤ c → K' c j = I c j) ∧ (∀ c j, c < 240 → J' c j = J c j) ∧ Rl (mg K' J') := by
  obtain ⟨K1, c1, c2, c3, c4⟩ := c_86 (d := 58) (I := K) tx_29 tx_226 (Or.inr (by decide))
  obtain ⟨J1, m1, m2, m3, m4, m5⟩ := m_220o (d := 58) (m := s.2.length) h16 (4 * s.2.length) 0 J0 (by omega)
  have hK' : ∀ a b, ¬ (29 ≤ a ∧ a ≤ 33) → ¬ (a = 119 ∧ b = 3) → up K1 119 3 0 a b = K a b := fun a b hab h2 => by
    rw [← c2 a b (by omega)]
    unfold up
    rw [if_neg h2]
  have k29 : up K1 119 3 0 29 4 = (s.2.length : Int) := by
    rw [up_c (by decide), c3]
    exact l.1
  have m1 : zD 59 220 5 [some (.inr (some 240)), some (.inl 1), some (.inl (s.2.length : Int)), some (.inl 0)] [] J0 = some (0, J1) := m1
  refine ⟨up K1 119 3 0, J1, ?_, ?_, fun c j hcj => (hK' c j (by omega) (by omega)).trans (hKg c j hcj), fun c j hcj => (m2 c j (by omega) (by omega)).trans (hJl c j hcj), Rl_t1 h (mgA (ex := fun k j => (29 ≤ k ∧ k ≤ 33) ∨ (k = 119 ∧ j = 3) ∨ k = 258 ∨ (k = 240 ∧ (j = 36 ∨ j = 3))) (fun a b ha hz (hx : ¬ ((29 ≤ a ∧ a ≤ 33) ∨ (a = 119 ∧ b = 3) ∨ a = 258 ∨ (a = 240 ∧ (b = 36 ∨ b = 3)))) => (hK' a b (by omega) (by omega)).trans (hKl a b ha hz)) (fun a b ha hz (hx : ¬ ((29 ≤ a ∧ a ≤ 33) ∨ (a = 119 ∧ b = 3) ∨ a = 258 ∨ (a = 240 ∧ (b = 36 ∨ b = 3)))) => (m2 a b (by omega) (by omega)).trans (hJg a b ha hz))) ?_ ?_ (RTape_0 ((hK' 213 1 (by omega) (by omega)).trans i1) ((m2 240 14 (by omega) (by omega)).trans j14)) (RFlt_m ?_ ?_)⟩
  · rw [c1, Option.bind_some]
    dsimp only
    rw [e_50, Option.bind_some]
    dsimp only
    rw [k29]
  · rw [e_220, if_pos rfl, m1]
    rfl
  · unfold ROrd
    have g1 : ∀ a, a < 240 → mg (up K1 119 3 0) J1 a = up K1 119 3 0 a := fun a ha => mg_l ha
    have g2 : ∀ a, 240 ≤ a → mg (up K1 119 3 0) J1 a = J1 a := fun a ha => mg_r ha
    have z2 : ∀ j, up K1 119 3 0 2 j = I 2 j := fun j => (hK' 2 j (by omega) (by omega)).trans (hKl 2 j (by decide) (by unfold zT; omega))
    rw [g1 2 (by decide), g1 29 (by decide), g1 (29 + 1) (by decide), g1 (29 + 2) (by decide), g1 (29 + 3) (by decide), g1 (29 + 4) (by decide), g2 240 (by decide), g2 258 (by decide), z2, z2, z2, k29, m4]
    refine ⟨⟨rfl, by omega, by omega⟩, fun x hx => ?_⟩
    have hx : x < s.2.length := by omega
    obtain ⟨d1, d2, d3, d4⟩ := c4 x (by omega)
    obtain ⟨b1, b2, b3, b4⟩ := l.2 x hx
    have u : ∀ a, ¬ a = 119 → up K1 119 3 0 a = K1 a := fun a ha => up_r ha
    rw [u (29 + 1) (by decide), u (29 + 2) (by decide), u (29 + 3) (by decide), u (29 + 4) (by decide), d1, d2, d3, d4, b1, b2, b3, b4]
    obtain ⟨p1, p2, p3, p4⟩ := jp x hx
    rw [m3 (4 * x) (by omega) (by omega), m3 (4 * x + 1) (by omega) (by omega), m3 (4 * x + 2) (by omega) (by omega), m3 (4 * x + 3) (by omega) (by omega), show 64 + (4 * x + 1) = 64 + 4 * x + 1 by omega, show 64 + (4 * x + 2) = 64 + 4 * x + 2 by omega, show 64 + (4 * x + 3) = 64 + 4 * x + 3 by omega, p1, p2, p3]
    obtain ⟨a1, a2⟩ := hq.2 x hx
    refine ⟨rfl, ⟨rfl, a1.1, a1.2⟩, ?_⟩
    unfold ROw
    generalize J0 258 (64 + 4 * x + 3) = v at *
    generalize s.2.getD x tq0 = q at *
    omega
  · refine ⟨?_, ?_, fun x hx => ?_⟩
    · rw [mg_l (by decide), hK' 119 2 (by omega) (by omega), hKl 119 2 (by decide) (by unfold zT; omega)]
      exact h.2.1.1
    · rw [mg_l (c := 119) (by decide), mg_r (c := 240) (by decide), m5, up_s]
      exact ⟨rfl, by decide, by decide⟩
    · rw [mg_l (c := 119) (by decide), up_s] at hx
      omega
  · rw [m2 240 34 (by omega) (by omega), hK' 213 7 (by omega) (by omega), j34, i7]
  · rw [m2 240 35 (by omega) (by omega), hK' 213 8 (by omega) (by omega), j35, i8]
/-- the birds' end -/
theorem fin_2 {I J K J0 : zI} {s : tZ} (h : Rl I) (h16 : s.2.length ≤ 16) (hKl : ∀ a b, a < 240 → ¬ zT a b → K a b = I a b) (hKg : ∀ a b, 240 ≤ a → K a b = I a b) (hJl : ∀ a b, a < 240 → J0 a b = J a b) (hJg : ∀ a b, 240 ≤ a → ¬ zT a b → J0 a b = I a b) (i7 : K 213 7 = 0) (i8 : K 213 8 = -1) (i1 : K 213 1 = 0) (j34 : J0 240 34 = 0) (j35 : J0 240 35 = -1) (j14 : J0 240 14 = 0) (hq : QA A2 s) (l : tLn 226 s.2 K) (jp : PB s.2 J0) :
    ∃ K' J', ((cl 59 86 [.inr (some 34), .inr (some 226)] K).bind fun p4 => some (p4.2 34 4, p4.2)) = some ((s.2.length : Int), K') ∧ ((cl 59 220 [.inr (some 240), .inl 2, .inl (s.2.length : Int)] J0).bind fun p4 => some ((s.2.length : Int), p4.2)) = some ((s.2.length : Int), J') ∧ (∀ c j, 240 ≤ c → K' c j = I c j) ∧ (∀ c j, c < 240 → J' c j = J c j) ∧ Rl (mg K' J') := by
  obtain ⟨K1, c1, c2, c3, c4⟩ := c_86 (d := 58) (I := K) tx_34 tx_226 (Or.inr (by decide))
  obtain ⟨J1, m1, m2, m3, m4⟩ := m_220b (d := 58) (x := (s.2.length : Int)) 8 0 J0 (by omega)
  have k34 : K1 34 4 = (s.2.length : Int) := c3.trans l.1
  have m1 : zD 59 220 33 [some (.inr (some 240)), some (.inl 2), some (.inl (s.2.length : Int)), some (.inl 0)] [] J0 = some (0, J1) := m1
  refine ⟨K1, J1, ?_, ?_, fun c j hcj => (c2 c j (by omega)).trans (hKg c j hcj), fun c j hcj => (m2 c j (by omega) (by omega)).trans (hJl c j hcj), Rl_t2 h (mgA (ex := fun k j => (34 ≤ k ∧ k ≤ 38) ∨ k = 259 ∨ k = 260 ∨ (k = 240 ∧ j = 38)) (fun a b ha hz (hx : ¬ ((34 ≤ a ∧ a ≤ 38) ∨ a = 259 ∨ a = 260 ∨ (a = 240 ∧ b = 38))) => (c2 a b (by omega)).trans (hKl a b ha hz)) (fun a b ha hz (hx : ¬ ((34 ≤ a ∧ a ≤ 38) ∨ a = 259 ∨ a = 260 ∨ (a = 240 ∧ b = 38))) => (m2 a b (by omega) (by omega)).trans (hJg a b ha hz))) ?_ (RTape_0 ((c2 213 1 (by omega)).trans i1) ((m2 240 14 (by omega) (by omega)).trans j14)) (RFlt_m ?_ ?_)⟩
  · rw [c1, Option.bind_some]
    dsimp only
    rw [k34]
  · rw [e_220, if_neg (by decide), if_pos rfl, m1]
    rfl
  · unfold RBird
    rw [mg_l (c := 34) (by decide), mg_l (c := 34 + 1) (by decide), mg_l (c := 34 + 2) (by decide), mg_l (c := 34 + 3) (by decide), mg_r (c := 240) (by decide), mg_r (c := 259) (by decide), mg_r (c := 260) (by decide), k34, m4, Int.toNat_natCast]
    refine ⟨⟨rfl, by omega, by omega⟩, fun x hx => ?_, fun b hb => ?_⟩
    · have hx : x < s.2.length := by omega
      obtain ⟨d1, d2, d3, d4⟩ := c4 x (by omega)
      obtain ⟨b1, b2, b3, b4⟩ := l.2 x hx
      rw [d2, d3, b2, b3]
      exact hq.2 x hx
    · obtain ⟨x1, x2⟩ := m3 b (Nat.zero_le _) hb
      obtain ⟨p1, p2⟩ := jp b hb
      rw [x1, x2, p1, p2]
      refine ⟨zlast_cg' _ fun i hi => ?_, zlast_cg' _ fun i hi => ?_⟩
      · obtain ⟨d1, d2, d3, d4⟩ := c4 i (by omega)
        obtain ⟨b1, b2, b3, b4⟩ := l.2 i hi
        exact ⟨(d1.trans b1).symm, (d2.trans b2).symm⟩
      · obtain ⟨d1, d2, d3, d4⟩ := c4 i (by omega)
        obtain ⟨b1, b2, b3, b4⟩ := l.2 i hi
        exact ⟨(d1.trans b1).symm, (d3.trans b3).symm⟩
  · rw [m2 240 34 (by omega) (by omega), c2 213 7 (by omega), j34, i7]
  · rw [m2 240 35 (by omega) (by omega), c2 213 8 (by omega), j35, i8]
/-- which comes behind which: the end -/
theorem fin_3 {I J K J0 : zI} {s : tZ} (h : Rl I) (h16 : s.2.length ≤ 16) (hKl : ∀ a b, a < 240 → ¬ zT a b → K a b = I a b) (hKg : ∀ a b, 240 ≤ a → K a b = I a b) (hJl : ∀ a b, a < 240 → J0 a b = J a b) (hJg : ∀ a b, 240 ≤ a → ¬ zT a b → J0 a b = I a b) (i7 : K 213 7 = 0) (i8 : K 213 8 = -1) (i1 : K 213 1 = 0) (j34 : J0 240 34 = 0) (j35 : J0 240 35 = -1) (j14 : J0 240 14 = 0) (hq : QA (A3 (I 2 5)) s) (l : tLn 226 s.2 K) (jp : PA s.2 J0) :
    ∃ K' J', ((cl 59 86 [.inr (some 39), .inr (some 226)] K).bind fun p4 => some (p4.2 39 4, p4.2)) = some ((s.2.length : Int), K') ∧ ((cl 59 220 [.inr (some 240), .inl 3, .inl (s.2.length : Int)] J0).bind fun p4 => some ((s.2.length : Int), p4.2)) = some ((s.2.length : Int), J') ∧ (∀ c j, 240 ≤ c → K' c j = I c j) ∧ (∀ c j, c < 240 → J' c j = J c j) ∧ Rl (mg K' J') := by
  obtain ⟨K1, c1, c2, c3, c4⟩ := c_86 (d := 58) (I := K) tx_39 tx_226 (Or.inr (by decide))
  obtain ⟨J1, m1, m2, m3, m4⟩ := m_220a (d := 58) (x := (s.2.length : Int)) 12 0 J0 (by omega)
  have k39 : K1 39 4 = (s.2.length : Int) := c3.trans l.1
  have m1 : zD 59 220 66 [some (.inr (some 240)), some (.inl 3), some (.inl (s.2.length : Int)), some (.inl 0)] [] J0 = some (0, J1) := m1
  refine ⟨K1, J1, ?_, ?_, fun c j hcj => (c2 c j (by omega)).trans (hKg c j hcj), fun c j hcj => (m2 c j (by omega) (by omega)).trans (hJl c j hcj), Rl_t3 h (mgA (ex := fun k j => (39 ≤ k ∧ k ≤ 43) ∨ k = 261 ∨ (k = 240 ∧ j = 41)) (fun a b ha hz (hx : ¬ ((39 ≤ a ∧ a ≤ 43) ∨ a = 261 ∨ (a = 240 ∧ b = 41))) => (c2 a b (by omega)).trans (hKl a b ha hz)) (fun a b ha hz (hx : ¬ ((39 ≤ a ∧ a ≤ 43) ∨ a = 261 ∨ (a = 240 ∧ b = 41))) => (m2 a b (by omega) (by omega)).trans (hJg a b ha hz))) ?_ (RTape_0 ((c2 213 1 (by omega)).trans i1) ((m2 240 14 (by omega) (by omega)).trans j14)) (RFlt_m ?_ ?_)⟩
  · rw [c1, Option.bind_some]
    dsimp only
    rw [k39]
  · rw [e_220, if_neg (by decide), if_neg (by decide), if_pos rfl, m1]
    rfl
  · unfold RAft
    have z2 : K1 2 5 = I 2 5 := (c2 2 5 (by omega)).trans (hKl 2 5 (by decide) (by unfold zT; omega))
    rw [mg_l (c := 39) (by decide), mg_l (c := 39 + 1) (by decide), mg_l (c := 39 + 2) (by decide), mg_l (c := 2) (by decide), mg_r (c := 240) (by decide), mg_r (c := 261) (by decide), k39, m4, z2, Int.toNat_natCast]
    refine ⟨⟨rfl, by omega, by omega⟩, fun x hx => ?_, fun b hb => ?_⟩
    · have hx : x < s.2.length := by omega
      obtain ⟨d1, d2, d3, d4⟩ := c4 x (by omega)
      obtain ⟨b1, b2, b3, b4⟩ := l.2 x hx
      rw [d1, d2, b1, b2]
      exact hq.2 x hx
    · rw [m3 b (Nat.zero_le _) hb, jp b hb]
      refine zset_cg' _ fun i hi => ?_
      obtain ⟨d1, d2, d3, d4⟩ := c4 i (by omega)
      obtain ⟨b1, b2, b3, b4⟩ := l.2 i hi
      exact ⟨(d1.trans b1).symm, (d2.trans b2).symm⟩
  · rw [m2 240 34 (by omega) (by omega), c2 213 7 (by omega), j34, i7]
  · rw [m2 240 35 (by omega) (by omega), c2 213 8 (by omega), j35, i8]
theorem m_start {J : zI} {k : Int} : ∃ S : zI, (∀ a b, ¬ (a = 240 ∧ (b = 0 ∨ b = 34 ∨ b = 35 ∨ b = 15 ∨ b = 28 ∨ b = 29)) → S a b = J a b) ∧ S 240 34 = 0 ∧ S 240 35 = -1 ∧ S 240 15 = 0 ∧ S 240 28 = 0 ∧ S 240 29 = 0 ∧
    cl 60 221 [.inr (some 240), .inl k] J = if 0 ≤ k ∧ k ≤ 3 then (cl 59 219 [.inr (some 240), .inl k] S).bind fun p2 => if p2.1 = -1 then zD 60 221 41 [some (.inr (some 240)), some (.inl k), some (.inl p2.1)] [] (up (up p2.2 240 34 (p2.2 240 32)) 240 35 (p2.2 240 33)) else zD 60 221 41 [some (.inr (some 240)), some (.inl k), some (.inl p2.1)] [] p2.2 else zD 60 221 41 [some (.inr (some 240)), some (.inl k), some (.inl (-1))] [] S := by
  refine ⟨up (up (up (up (up (up J 240 0 0) 240 34 0) 240 35 (-1)) 240 15 0) 240 28 0) 240 29 0, fun a b hab => ?_, (up_j (by decide)).trans ((up_j (by decide)).trans ((up_j (by decide)).trans ((up_j (by decide)).trans up_s))), (up_j (by decide)).trans ((up_j (by decide)).trans ((up_j (by decide)).trans up_s)), (up_j (by decide)).trans ((up_j (by decide)).trans up_s), (up_j (by decide)).trans up_s, up_s, ?_⟩
  · unfold up
    rw [if_neg (by omega), if_neg (by omega), if_neg (by omega), if_neg (by omega), if_neg (by omega), if_neg (by omega)]
  · rw [e_221, s_158, Option.bind_some]
    dsimp only
    by_cases hk : 0 ≤ k ∧ k ≤ 3
    · rw [if_pos hk, if_neg (by decide), if_pos hk]
    · rw [if_neg hk, if_pos rfl, if_neg hk]
theorem q_text {I : zI} {k : Int} (h : Rl I) : Pair 121 221 [.inl k] I := by
  refine Pair_two fun J hJ => ?_
  obtain ⟨⟨r1, r2, r3⟩, r4⟩ := h.2.2.1
  obtain ⟨⟨f6, f6a, f6b⟩, ⟨f7, f7a, f7b⟩, ⟨f8, f8a, f8b⟩, -⟩ := h.1.1
  have hz := h.2.2.2.2.2.1.2.1
  obtain ⟨n, hn⟩ : ∃ n : Nat, I 213 1 = n := ⟨(I 213 1).toNat, by omega⟩
  have hr : ∀ j, j < n → 0 ≤ I 214 j ∧ I 214 j ≤ 255 := fun j hj => (r4 j (by omega)).2
  obtain ⟨S, hSr, s34, s35, s15, s28, s29, E2⟩ := m_start (J := J) (k := k)
  -- a text that is refused
  have bad : ∀ (g p : Int) (I1 J1 : zI), (∀ a b, ¬ zCl a b → I1 a b = I a b) → I1 213 7 = g → I1 213 8 = p → (∀ a b, a < 240 → J1 a b = J a b) → (∀ a b, 240 ≤ a → ¬ zT a b → J1 a b = J a b) → J1 240 34 = g → J1 240 35 = p → (∀ c j, 240 ≤ c → up I1 213 1 0 c j = I c j) ∧ (∀ c j, c < 240 → up J1 240 14 0 c j = J c j) ∧ Rl (mg (up I1 213 1 0) (up J1 240 14 0)) := fun g p I1 J1 a1 a2 a3 b1 b2 b3 b4 => by
    refine ⟨fun c j hc => (up_c (by omega)).trans (a1 c j (zC_240 hc)), fun c j hc => (up_c (by omega)).trans (b1 c j hc), Rl_tF h (fun a b hzz => mgA (ex := fun _ _ => False) (fun a b ha hzt _ => ?_) (fun a b ha hzt _ => ?_) a b hzz id) (RTape_0 up_s up_s) (RFlt_m ?_ ?_)⟩
    · rw [← a1 a b (zC_T hzt)]
      unfold zT at hzt
      unfold up
      rw [if_neg (by omega)]
    · rw [← hJ a b ha, ← b2 a b ha hzt]
      unfold zT at hzt
      unfold up
      rw [if_neg (by omega)]
    · rw [up_j (by decide), up_j (by decide), b3, a2]
    · rw [up_j (by decide), up_j (by decide), b4, a3]
  by_cases hk : 0 ≤ k ∧ k ≤ 3
  · rw [if_pos hk] at E2
    obtain ⟨cnt, h4, h5, C⟩ := c_53 (I := I) (k := k) (n := n) hk (by omega) hn hr
    have hJ' : ∀ a b, 240 ≤ a → ¬ (a = 240 ∧ (b = 0 ∨ b = 34 ∨ b = 35 ∨ b = 15 ∨ b = 28 ∨ b = 29)) → S a b = I a b := fun a b h1 h2 => (hSr a b h2).trans (hJ a b h1)
    have m6 : S 240 6 = I 2 3 := (hJ' 240 6 (by decide) (by decide)).trans f6
    have m7 : S 240 7 = I 2 4 := (hJ' 240 7 (by decide) (by decide)).trans f7
    have m8 : S 240 8 = I 2 5 := (hJ' 240 8 (by decide) (by decide)).trans f8
    have M := m_219 (J := S) (k := k) (T := I 214) (n := n) (cnt := cnt) hk h4 h5 ((hJ' 240 14 (by decide) (by decide)).trans (r1.trans hn)) (by omega) (fun j hj => (hJ' 249 j (by decide) (by omega)).trans (hz j hj)) (fun j hj => (hJ' 248 j (by decide) (by omega)).trans (r4 j (by omega)).1) hr s15 s28 s29 (by rw [m6, m7, m8]; omega)
    rw [m6, m7, m8] at M
    cases e : tln (ttk (I 214) n) (tbg k) (tLk (ttk (I 214) n) cnt k (I 2 3) (I 2 4) (I 2 5)) 16 0 (([], []) : tZ) with
    | inl e' =>
      rw [e] at C M
      obtain ⟨I1, c1, c2, c3, c4⟩ := C
      obtain ⟨J1, m1, m2, m3, m4⟩ := M
      rw [m1, Option.bind_some] at E2
      dsimp only at E2
      rw [if_pos rfl, e_221_41, if_pos rfl] at E2
      have hJ1 : ∀ a b, ¬ (a = 240 ∧ b = 27) → zsB a b = false → J1 a b = S a b := fun a b h1 h2 => (m2 a b h2).trans (by
        unfold up
        rw [if_neg h1])
      have B := bad e'.1 (tst (I 214) n e'.2 : Int) I1 (up (up J1 240 34 (J1 240 32)) 240 35 (J1 240 33)) c2 c3 c4 (fun a b ha => by
          rw [up_c (by omega), up_c (by omega), hJ1 a b (by omega) (zsB_240 ha), hSr a b (by omega)]) (fun a b ha hzt => by
          have hzb := zsB_no hzt
          unfold zT at hzt
          have e1 : up (up J1 240 34 (J1 240 32)) 240 35 (J1 240 33) a b = J1 a b := by
            unfold up
            rw [if_neg (by omega), if_neg (by omega)]
          rw [e1, hJ1 a b (by omega) hzb, hSr a b (by omega)]) ((up_j (by decide)).trans (up_s.trans m3)) (up_s.trans m4)
      refine ⟨-1, _, _, ?_, E2, B.1, B.2.1, B.2.2⟩
      rw [e_121, c1, Option.bind_some]
      dsimp only
      rw [if_pos rfl]
    | inr s =>
      rw [e] at C M
      obtain ⟨I1, c1, c2, c3, c4, c5, c6, c7, c8⟩ := C
      obtain ⟨k', J1, m1, m2, m3, m4, m5⟩ := M
      have h16 : s.2.length ≤ 16 := tln_len (fun k s q _ e => tLk_1 e) 16 0 ([], []) s (Nat.le_refl _) e
      rw [m1, Option.bind_some] at E2
      dsimp only at E2
      rw [if_neg (by omega), e_221_41, if_neg (by omega)] at E2
      have hJ1 : ∀ a b, ¬ (a = 240 ∧ b = 27) → zsB a b = false → J1 a b = S a b := fun a b h1 h2 => (m2 a b h2).trans (by
        unfold up
        rw [if_neg h1])
      have hJ1l : ∀ a b, a < 240 → up J1 240 14 0 a b = J a b := fun a b ha => by
        rw [up_c (by omega), hJ1 a b (by omega) (zsB_240 ha), hSr a b (by omega)]
      have hJ1g : ∀ a b, 240 ≤ a → ¬ zT a b → up J1 240 14 0 a b = I a b := fun a b ha hzt => by
        have hzb := zsB_no hzt
        unfold zT at hzt
        have e1 : up J1 240 14 0 a b = J1 a b := by
          unfold up
          rw [if_neg (by omega)]
        rw [e1, hJ1 a b (by omega) hzb, hSr a b (by omega), hJ a b ha]
      have j34 : up J1 240 14 0 240 34 = 0 := (up_j (by decide)).trans ((hJ1 240 34 (by decide) rfl).trans s34)
      have j35 : up J1 240 14 0 240 35 = -1 := (up_j (by decide)).trans ((hJ1 240 35 (by decide) rfl).trans s35)
      have j27 : up J1 240 14 0 240 27 = 0 := (up_j (by decide)).trans ((m2 240 27 rfl).trans up_s)
      have j14 : up J1 240 14 0 240 14 = 0 := up_s
      have hI1 : ∀ a b, a < 240 → ¬ zT a b → up I1 213 1 0 a b = I a b := fun a b ha hzt => by
        rw [← c2 a b (zC_T hzt)]
        unfold zT at hzt
        unfold up
        rw [if_neg (by omega)]
      have hI1g : ∀ a b, 240 ≤ a → up I1 213 1 0 a b = I a b := fun a b ha => (up_c (by omega)).trans (c2 a b (zC_240 ha))
      have E1 : cl 60 121 [.inr (some 0), .inl k] I = (some (1, I1) : zO).bind fun p1 => if p1.1 = 0 then some (-1, up p1.2 213 1 0) else if k = 0 then (cl 59 39 [.inr (some 20), .inr (some 217)] (up p1.2 213 1 0)).bind fun p8 => some (p8.2 21 4, p8.2) else if k = 1 then (cl 59 86 [.inr (some 29), .inr (some 226)] (up p1.2 213 1 0)).bind fun p6 => if k = 1 then (cl 59 50 [.inr (some 119)] p6.2).bind fun p7 => some (p7.2 29 4, p7.2) else some (p6.2 29 4, p6.2) else if k = 2 then (cl 59 86 [.inr (some 34), .inr (some 226)] (up p1.2 213 1 0)).bind fun p4 => if k = 1 then (cl 59 50 [.inr (some 119)] p4.2).bind fun p5 => some (p5.2 34 4, p5.2) else some (p4.2 34 4, p4.2) else (cl 59 86 [.inr (some 39), .inr (some 226)] (up p1.2 213 1 0)).bind fun p2 => if k = 1 then (cl 59 50 [.inr (some 119)] p2.2).bind fun p3 => some (p3.2 39 4, p3.2) else some (p2.2 39 4, p2.2) := by
        rw [e_121, c1]
      rw [Option.bind_some] at E1
      dsimp only at E1
      rw [if_neg (by decide)] at E1
      have i7 : up I1 213 1 0 213 7 = 0 := (up_j (by decide)).trans c3
      have i8 : up I1 213 1 0 213 8 = -1 := (up_j (by decide)).trans c4
      have i1 : up I1 213 1 0 213 1 = 0 := up_s
      have l217 : up I1 213 1 0 217 2 = (s.1.length : Int) := (up_c (by decide)).trans c5
      have l223 : ∀ i, i < s.1.length → up I1 213 1 0 223 i = s.1.getD i 0 := fun i hi => (up_c (by decide)).trans (c6 i hi)
      have lln : tLn (tak k) s.2 (up I1 213 1 0) := by
        have ht : tak k = 218 ∨ tak k = 226 := by unfold tak; split <;> simp
        obtain ⟨x1, x2⟩ := And.intro c7 c8
        refine ⟨(up_c (by omega)).trans c7, fun i hi => ?_⟩
        rw [up_c (by omega), up_c (by omega), up_c (by omega), up_c (by omega)]
        exact c8 i hi
      have jc : up J1 240 14 0 240 28 = (s.1.length : Int) := (up_j (by decide)).trans m3.2.2.2.2.1
      have jt : ∀ i, i < s.1.length → RTok (s.1.getD i 0) (up J1 240 14 0 255 (800 + i)) (up J1 240 14 0 256 (800 + i)) := fun i hi => by
        rw [up_c (by decide), up_c (by decide)]
        exact m3.2.2.2.2.2 i hi
      have jp : tP k s.2 (up J1 240 14 0) := by
        have e1 : ∀ a, ¬ a = 240 → up J1 240 14 0 a = J1 a := fun a ha => up_r ha
        unfold tP at m5 ⊢
        split at m5
        · rw [if_pos (by assumption)]
          unfold PL at *
          rw [e1 251 (by decide), e1 252 (by decide), e1 253 (by decide), e1 254 (by decide)]
          exact m5
        · rw [if_neg (by assumption)]
          split at m5
          · rw [if_pos (by assumption)]
            unfold PO at *
            rw [e1 258 (by decide)]
            exact m5
          · rw [if_neg (by assumption)]
            split at m5
            · rw [if_pos (by assumption)]
              unfold PB at *
              rw [e1 259 (by decide), e1 260 (by decide)]
              exact m5
            · rw [if_neg (by assumption)]
              unfold PA at *
              rw [e1 261 (by decide)]
              exact m5
      have nil : ∀ A : tQ → Prop, QA A (([], []) : tZ) := fun A => ⟨rfl, fun i hi => absurd hi (Nat.not_lt_zero i)⟩
      rcases (show k = 0 ∨ k = 1 ∨ k = 2 ∨ k = 3 by omega) with rfl | rfl | rfl | rfl
      · -- the law
        have hq : Q0 s := tln_inv (Q := Q0) (fun k s q a b c => Q0_L h5 k s q a b c) 16 0 ([], []) s ⟨fun i hi => absurd hi (Nat.not_lt_zero i), fun i hi => absurd hi (Nat.not_lt_zero i)⟩ e
        have hc := tln_cl h5 (fun k s q a b c => by
          obtain ⟨g0, g1, g2, g3⟩ := tLk_l h5 a b c
          exact ⟨g1, g2⟩) 16 0 ([], []) s (Nat.le_refl _) (Nat.zero_le _) e
        obtain ⟨K', J', x1, x2, x3, x4, x5⟩ := fin_0 (J := J) (K := up I1 213 1 0) (J0 := up J1 240 14 0) h h16 hI1 hI1g hJ1l hJ1g i7 i8 i1 j34 j35 j14 hq (by omega) j27 jc l217 l223 lln jt jp
        rw [if_pos rfl] at E1 E2
        exact ⟨_, K', J', E1.trans x1, E2.trans x2, x3, x4, x5⟩
      · have hq : QA (A1 (I 2 3) (I 2 4) (I 2 5)) s := tln_inv (Q := QA (A1 (I 2 3) (I 2 4) (I 2 5))) (fun k s q a _ c => QA_1 k s q a c) 16 0 ([], []) s (nil _) e
        obtain ⟨K', J', x1, x2, x3, x4, x5⟩ := fin_1 (J := J) (K := up I1 213 1 0) (J0 := up J1 240 14 0) h h16 hI1 hI1g hJ1l hJ1g i7 i8 i1 j34 j35 j14 hq lln jp
        rw [if_neg (by decide), if_pos rfl] at E1
        rw [if_neg (by decide)] at E2
        exact ⟨_, K', J', E1.trans x1, E2.trans x2, x3, x4, x5⟩
      · have hq : QA A2 s := tln_inv (Q := QA A2) (fun k s q a _ c => QA_2 k s q a c) 16 0 ([], []) s (nil _) e
        obtain ⟨K', J', x1, x2, x3, x4, x5⟩ := fin_2 (J := J) (K := up I1 213 1 0) (J0 := up J1 240 14 0) h h16 hI1 hI1g hJ1l hJ1g i7 i8 i1 j34 j35 j14 hq lln jp
        rw [if_neg (by decide), if_neg (by decide), if_pos rfl] at E1
        rw [if_neg (by decide)] at E2
        exact ⟨_, K', J', E1.trans x1, E2.trans x2, x3, x4, x5⟩
      · have hq : QA (A3 (I 2 5)) s := tln_inv (Q := QA (A3 (I 2 5))) (fun k s q a _ c => QA_3 k s q a c) 16 0 ([], []) s (nil _) e
        obtain ⟨K', J', x1, x2, x3, x4, x5⟩ := fin_3 (J := J) (K := up I1 213 1 0) (J0 := up J1 240 14 0) h h16 hI1 hI1g hJ1l hJ1g i7 i8 i1 j34 j35 j14 hq lln jp
        rw [if_neg (by decide), if_neg (by decide), if_neg (by decide)] at E1
        rw [if_neg (by decide)] at E2
        exact ⟨_, K', J', E1.trans x1, E2.trans x2, x3, x4, x5⟩
  · rw [if_neg hk, e_221_41, if_pos rfl] at E2
    have B := bad 0 (-1) (up (up I 213 7 0) 213 8 (-1)) S (fun a b hzc => by
        unfold zCl at hzc
        unfold up
        rw [if_neg (by omega), if_neg (by omega)]) ((up_j (by decide)).trans up_s) up_s (fun a b ha => hSr a b (by omega)) (fun a b ha hzt => hSr a b (by unfold zT at hzt; omega)) s34 s35
    refine ⟨-1, _, _, ?_, E2, B.1, B.2.1, B.2.2⟩
    rw [e_121, e_53, s_156, if_neg hk, Option.bind_some]
    dsimp only
    rw [if_pos rfl, Option.bind_some]
    dsimp only
    rw [if_pos rfl]
