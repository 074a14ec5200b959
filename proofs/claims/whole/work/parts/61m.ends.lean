/-! THE TEXT'S END -/
theorem m_209a {d m : Nat} (hm : m ≤ 16) : ∀ (r i : Nat) (J : zI), i + r = m → J 240 27 = 0 → ∃ J', zD (d + 1) 209 2 [some (.inr (some 240)), some (.inl (m : Int)), some (.inl (i : Int))] [] J = zD (d + 1) 209 69 [some (.inr (some 240)), some (.inl (m : Int)), some (.inl 0)] [] J' ∧ (∀ a b, ¬ (251 ≤ a ∧ a ≤ 254 ∧ i ≤ b ∧ b < m) → J' a b = J a b) ∧ ∀ b, i ≤ b → b < m → J' 251 b = J 251 (32 + b) ∧ J' 252 b = J 252 (32 + b) ∧ J' 253 b = J 253 (32 + b) ∧ J' 254 b = J 254 (32 + b)
  | 0, i, J, h, h27 => ⟨J, by rw [e_209_2, if_neg (by omega)], fun _ _ _ => rfl, fun b h1 h2 => by omega⟩
  | r + 1, i, J, h, h27 => by
    have c1 : 0 ≤ 32 + (i : Int) ∧ 32 + (i : Int) < 48 := by omega
    have c2 : 0 ≤ (i : Int) ∧ (i : Int) < 48 := by omega
    have t1 : (32 + (i : Int)).toNat = 32 + i := by omega
    obtain ⟨J', q1, q2, q3⟩ := m_209a (d := d) hm r (i + 1) (up (up (up (up J 251 i (J 251 (32 + i))) 252 i (J 252 (32 + i))) 253 i (J 253 (32 + i))) 254 i (J 254 (32 + i))) (by omega) ((up_c (by decide)).trans ((up_c (by decide)).trans ((up_c (by decide)).trans ((up_c (by decide)).trans h27))))
    refine ⟨J', ?_, fun a b hab => ?_, fun b h1 h2 => ?_⟩
    · have E := e_209_2 (d := d) (I := J) (x1 := (m : Int)) (x2 := (i : Int))
      rw [if_pos (show (i : Int) < (m : Int) by omega)] at E
      simp only [h27, wr_id (z := 32 + (i : Int)) (by omega) (by omega), wr_id (z := 16 * (0 : Int)) (by omega) (by omega), Int.mul_zero, Int.zero_add, wr_id (z := (0 : Int)) (by omega) (by omega), wr_id (z := (i : Int)) (by omega) (by omega), if_pos c1, if_pos c2, t1, Int.toNat_natCast, wr_id (z := (i : Int) + 1) (by omega) (by omega)] at E
      rw [E]
      exact q1
    · rw [q2 a b (by omega)]
      unfold up
      rw [if_neg (by omega), if_neg (by omega), if_neg (by omega), if_neg (by omega)]
    · by_cases hb : b = i
      · rw [q2 251 b (by omega), q2 252 b (by omega), q2 253 b (by omega), q2 254 b (by omega), hb]
        refine ⟨?_, ?_, ?_, up_s⟩
        · rw [up_c (by decide), up_c (by decide), up_c (by decide), up_s]
        · rw [up_c (by decide), up_c (by decide), up_s]
        · rw [up_c (by decide), up_s]
      · obtain ⟨a1, a2, a3, a4⟩ := q3 b (by omega) h2
        have e : ∀ a, up (up (up (up J 251 i (J 251 (32 + i))) 252 i (J 252 (32 + i))) 253 i (J 253 (32 + i))) 254 i (J 254 (32 + i)) a (32 + b) = J a (32 + b) := fun a => by
          unfold up
          rw [if_neg (by omega), if_neg (by omega), if_neg (by omega), if_neg (by omega)]
        rw [a1, a2, a3, a4, e, e, e, e]
        exact ⟨rfl, rfl, rfl, rfl⟩
theorem m_209b {d m L : Nat} (hL : L ≤ 400) : ∀ (r i : Nat) (J : zI), i + r = L → J 240 27 = 0 → J 240 28 = (L : Int) → ∃ J', zD (d + 1) 209 69 [some (.inr (some 240)), some (.inl (m : Int)), some (.inl (i : Int))] [] J = some (0, J') ∧ (∀ a b, ¬ (255 ≤ a ∧ a ≤ 256 ∧ i ≤ b ∧ b < L) → ¬ (a = 250 ∧ b = 0) → J' a b = J a b) ∧ (∀ b, i ≤ b → b < L → J' 255 b = J 255 (800 + b) ∧ J' 256 b = J 256 (800 + b)) ∧ J' 250 0 = (m : Int)
  | 0, i, J, h, h27, h28 => by
    refine ⟨up J 250 0 (m : Int), ?_, fun a b _ h2 => ?_, fun b h1 h2 => by omega, up_s⟩
    · rw [e_209_69, h28, if_neg (by omega), h27]
      rfl
    · unfold up
      rw [if_neg h2]
  | r + 1, i, J, h, h27, h28 => by
    have c1 : 0 ≤ 800 + (i : Int) ∧ 800 + (i : Int) < 1200 := by omega
    have c2 : 0 ≤ (i : Int) ∧ (i : Int) < 1200 := by omega
    have t1 : (800 + (i : Int)).toNat = 800 + i := by omega
    obtain ⟨J', q1, q2, q3, q4⟩ := m_209b (d := d) (m := m) hL r (i + 1) (up (up J 255 i (J 255 (800 + i))) 256 i (J 256 (800 + i))) (by omega) ((up_c (by decide)).trans ((up_c (by decide)).trans h27)) ((up_c (by decide)).trans ((up_c (by decide)).trans h28))
    refine ⟨J', ?_, fun a b hab h2 => ?_, fun b h1 h2 => ?_, q4⟩
    · have E := e_209_69 (d := d) (I := J) (x1 := (m : Int)) (x2 := (i : Int))
      rw [h28, if_pos (show (i : Int) < (L : Int) by omega)] at E
      simp only [h27, wr_id (z := 800 + (i : Int)) (by omega) (by omega), Int.mul_zero, wr_id (z := (0 : Int)) (by omega) (by omega), Int.zero_add, wr_id (z := (i : Int)) (by omega) (by omega), if_pos c1, if_pos c2, t1, Int.toNat_natCast, wr_id (z := (i : Int) + 1) (by omega) (by omega)] at E
      rw [E]
      exact q1
    · rw [q2 a b (by omega) h2]
      unfold up
      rw [if_neg (by omega), if_neg (by omega)]
    · by_cases hb : b = i
      · rw [q2 255 b (by omega) (by omega), q2 256 b (by omega) (by omega), hb, up_c (by decide), up_s, up_s]
        exact ⟨rfl, rfl⟩
      · obtain ⟨a1, a2⟩ := q3 b (by omega) h2
        rw [a1, a2, up_c (by decide), up_j (by omega), up_j (by omega), up_c (by decide)]
        exact ⟨rfl, rfl⟩
/-- the law is taken over -/
theorem m_209 {d m L : Nat} {J : zI} (hm : m ≤ 16) (hL : L ≤ 400) (h27 : J 240 27 = 0) (h28 : J 240 28 = (L : Int)) : ∃ J', cl (d + 1) 209 [.inr (some 240), .inl (m : Int)] J = some (0, J') ∧ (∀ a b, ¬ (250 ≤ a ∧ a ≤ 256) → J' a b = J a b) ∧ J' 250 0 = (m : Int) ∧ (∀ b, b < m → J' 251 b = J 251 (32 + b) ∧ J' 252 b = J 252 (32 + b) ∧ J' 253 b = J 253 (32 + b) ∧ J' 254 b = J 254 (32 + b)) ∧ ∀ b, b < L → J' 255 b = J 255 (800 + b) ∧ J' 256 b = J 256 (800 + b) := by
  obtain ⟨J1, p1, p2, p3⟩ := m_209a (d := d) hm m 0 J (by omega) h27
  obtain ⟨J2, q1, q2, q3, q4⟩ := m_209b (d := d) (m := m) hL L 0 J1 (by omega) ((p2 240 27 (by omega)).trans h27) ((p2 240 28 (by omega)).trans h28)
  refine ⟨J2, ?_, fun a b h => (q2 a b (by omega) (by omega)).trans (p2 a b (by omega)), q4, fun b hb => ?_, fun b hb => ?_⟩
  · rw [e_209]
    exact p1.trans q1
  · obtain ⟨a1, a2, a3, a4⟩ := p3 b (Nat.zero_le _) hb
    exact ⟨(q2 251 b (by omega) (by omega)).trans a1, (q2 252 b (by omega) (by omega)).trans a2, (q2 253 b (by omega) (by omega)).trans a3, (q2 254 b (by omega) (by omega)).trans a4⟩
  · obtain ⟨a1, a2⟩ := q3 b (Nat.zero_le _) hb
    exact ⟨a1.trans (p2 255 _ (by omega)), a2.trans (p2 256 _ (by omega))⟩
theorem m_220o {d m : Nat} (hm : m ≤ 16) : ∀ (r i : Nat) (J : zI), i + r = 4 * m → ∃ J', zD (d + 1) 220 5 [some (.inr (some 240)), some (.inl 1), some (.inl (m : Int)), some (.inl (i : Int))] [] J = some (0, J') ∧ (∀ a b, ¬ (a = 258 ∧ i ≤ b ∧ b < 4 * m) → ¬ (a = 240 ∧ (b = 36 ∨ b = 3)) → J' a b = J a b) ∧ (∀ b, i ≤ b → b < 4 * m → J' 258 b = J 258 (64 + b)) ∧ J' 240 36 = (m : Int) ∧ J' 240 3 = 0
  | 0, i, J, h => by
    refine ⟨up (up J 240 36 (m : Int)) 240 3 0, ?_, fun a b _ h2 => ?_, fun b h1 h2 => by omega, (up_j (by decide)).trans up_s, up_s⟩
    · rw [e_220_5, wr_id (z := 4 * (m : Int)) (by omega) (by omega), if_neg (by omega), if_neg (by decide), if_neg (by decide)]
    · unfold up
      rw [if_neg (by omega), if_neg (by omega)]
  | r + 1, i, J, h => by
    have c1 : 0 ≤ 64 + (i : Int) ∧ 64 + (i : Int) < 128 := by omega
    have c2 : 0 ≤ (i : Int) ∧ (i : Int) < 128 := by omega
    have t1 : (64 + (i : Int)).toNat = 64 + i := by omega
    obtain ⟨J', q1, q2, q3, q4⟩ := m_220o (d := d) hm r (i + 1) (up J 258 i (J 258 (64 + i))) (by omega)
    refine ⟨J', ?_, fun a b hab h2 => ?_, fun b h1 h2 => ?_, q4⟩
    · rw [e_220_5, wr_id (z := 4 * (m : Int)) (by omega) (by omega), if_pos (by omega), wr_id (z := 64 + (i : Int)) (by omega) (by omega), if_pos c1, if_pos c2, t1, Int.toNat_natCast, wr_id (z := (i : Int) + 1) (by omega) (by omega)]
      exact q1
    · rw [q2 a b (by omega) h2]
      unfold up
      rw [if_neg (by omega)]
    · by_cases hb : b = i
      · rw [q2 258 b (by omega) (by omega), hb, up_s]
      · rw [q3 b (by omega) h2, up_j (by omega)]
theorem m_220b {d : Nat} {x : Int} : ∀ (r i : Nat) (J : zI), i + r = 8 → ∃ J', zD (d + 1) 220 33 [some (.inr (some 240)), some (.inl 2), some (.inl x), some (.inl (i : Int))] [] J = some (0, J') ∧ (∀ a b, ¬ ((a = 259 ∨ a = 260) ∧ i ≤ b ∧ b < 8) → ¬ (a = 240 ∧ b = 38) → J' a b = J a b) ∧ (∀ b, i ≤ b → b < 8 → J' 259 b = J 259 (8 + b) ∧ J' 260 b = J 260 (8 + b)) ∧ J' 240 38 = x
  | 0, i, J, h => by
    refine ⟨up J 240 38 x, ?_, fun a b _ h2 => ?_, fun b h1 h2 => by omega, up_s⟩
    · rw [e_220_33, if_neg (by omega), if_neg (by decide)]
    · unfold up
      rw [if_neg (by omega)]
  | r + 1, i, J, h => by
    have c1 : 0 ≤ 8 + (i : Int) ∧ 8 + (i : Int) < 16 := by omega
    have c2 : 0 ≤ (i : Int) ∧ (i : Int) < 16 := by omega
    have t1 : (8 + (i : Int)).toNat = 8 + i := by omega
    obtain ⟨J', q1, q2, q3, q4⟩ := m_220b (d := d) (x := x) r (i + 1) (up (up J 259 i (J 259 (8 + i))) 260 i (J 260 (8 + i))) (by omega)
    refine ⟨J', ?_, fun a b hab h2 => ?_, fun b h1 h2 => ?_, q4⟩
    · rw [e_220_33, if_pos (by omega), wr_id (z := 8 + (i : Int)) (by omega) (by omega), if_pos c1, if_pos c2, if_pos c1, if_pos c2, t1, Int.toNat_natCast, wr_id (z := (i : Int) + 1) (by omega) (by omega)]
      exact q1
    · rw [q2 a b (by omega) h2]
      unfold up
      rw [if_neg (by omega), if_neg (by omega)]
    · by_cases hb : b = i
      · rw [q2 259 b (by omega) (by omega), q2 260 b (by omega) (by omega), hb, up_c (by decide), up_s, up_s]
        exact ⟨rfl, rfl⟩
      · obtain ⟨a1, a2⟩ := q3 b (by omega) h2
        rw [a1, a2, up_c (by decide), up_j (by omega), up_j (by omega), up_c (by decide)]
        exact ⟨rfl, rfl⟩
theorem m_220a {d : Nat} {x : Int} : ∀ (r i : Nat) (J : zI), i + r = 12 → ∃ J', zD (d + 1) 220 66 [some (.inr (some 240)), some (.inl 3), some (.inl x), some (.inl (i : Int))] [] J = some (0, J') ∧ (∀ a b, ¬ (a = 261 ∧ i ≤ b ∧ b < 12) → ¬ (a = 240 ∧ b = 41) → J' a b = J a b) ∧ (∀ b, i ≤ b → b < 12 → J' 261 b = J 261 (12 + b)) ∧ J' 240 41 = x
  | 0, i, J, h => by
    refine ⟨up J 240 41 x, ?_, fun a b _ h2 => ?_, fun b h1 h2 => by omega, up_s⟩
    · rw [e_220_66, if_neg (by omega)]
    · unfold up
      rw [if_neg (by omega)]
  | r + 1, i, J, h => by
    have c1 : 0 ≤ 12 + (i : Int) ∧ 12 + (i : Int) < 24 := by omega
    have c2 : 0 ≤ (i : Int) ∧ (i : Int) < 24 := by omega
    have t1 : (12 + (i : Int)).toNat = 12 + i := by omega
    obtain ⟨J', q1, q2, q3, q4⟩ := m_220a (d := d) (x := x) r (i + 1) (up J 261 i (J 261 (12 + i))) (by omega)
    refine ⟨J', ?_, fun a b hab h2 => ?_, fun b h1 h2 => ?_, q4⟩
    · rw [e_220_66, if_pos (by omega), wr_id (z := 12 + (i : Int)) (by omega) (by omega), if_pos c1, if_pos c2, t1, Int.toNat_natCast, wr_id (z := (i : Int) + 1) (by omega) (by omega)]
      exact q1
    · rw [q2 a b (by omega) h2]
      unfold up
      rw [if_neg (by omega)]
    · by_cases hb : b = i
      · rw [q2 261 b (by omega) (by omega), hb, up_s]
      · rw [q3 b (by omega) h2, up_j (by omega)]
/-- the class takes lines over -/
theorem c_86 {d a b : Nat} {I : zI} (ha : zText a) (hb : zText b) (hab : b + 4 < a ∨ a + 4 < b) : ∃ I', cl (d + 1) 86 [.inr (some a), .inr (some b)] I = some (0, I') ∧ (∀ x j, ¬ (a ≤ x ∧ x ≤ a + 4) → I' x j = I x j) ∧ I' a 4 = I b 4 ∧ ∀ j, j < 16 → I' (a + 1) j = I (b + 1) j ∧ I' (a + 2) j = I (b + 2) j ∧ I' (a + 3) j = I (b + 3) j ∧ I' (a + 4) j = I (b + 4) j := by
  refine ⟨_, e_86 ha hb, fun x j hx => ?_, ?_, fun j hj => ⟨?_, ?_, ?_, ?_⟩⟩
  · rw [up_c (by omega), cp_c (by omega), cp_c (by omega), cp_c (by omega), cp_c (by omega)]
  · rw [up_s, cp_c (by omega), cp_c (by omega), cp_c (by omega), cp_c (by omega)]
  · rw [up_c (by omega), cp_c (by omega), cp_c (by omega), cp_c (by omega), cp_in hj]
  · rw [up_c (by omega), cp_c (by omega), cp_c (by omega), cp_in hj, cp_c (by omega)]
  · rw [up_c (by omega), cp_c (by omega), cp_in hj, cp_c (by omega), cp_c (by omega)]
  · rw [up_c (by omega), cp_in hj, cp_c (by omega), cp_c (by omega), cp_c (by omega)]
/-- the law that was read, here and there -/
theorem RLaw_of {I M : zI} {s : tZ} (hq : Q0 s) (h16 : s.2.length ≤ 16) (hc : s.1.length ≤ 400) (i4 : I 21 4 = (s.2.length : Int)) (il : ∀ l, l < s.2.length → I 22 l = (s.2.getD l tq0).1 ∧ I 23 l = (s.2.getD l tq0).2.1 ∧ I 24 l = (s.2.getD l tq0).2.2.1 ∧ I 25 l = (s.2.getD l tq0).2.2.2.1) (ic : ∀ i, i < s.1.length → I 26 i = s.1.getD i 0) (m0 : M 250 0 = (s.2.length : Int)) (ml : ∀ l, l < s.2.length → M 251 l = (s.2.getD l tq0).1 - 10011 ∧ M 252 l = (s.2.getD l tq0).2.1 ∧ M 253 l = (s.2.getD l tq0).2.2.1 ∧ M 254 l = (s.2.getD l tq0).2.2.2.1) (mc : ∀ i, i < s.1.length → RTok (s.1.getD i 0) (M 255 i) (M 256 i)) : RLaw I M 20 := by
  obtain ⟨q1, q2⟩ := hq
  have i4 : I (20 + 1) 4 = (s.2.length : Int) := i4
  refine ⟨⟨m0.trans i4.symm, by omega, by omega⟩, fun l hl => ?_⟩
  have hl : l < s.2.length := by omega
  obtain ⟨a1, a2, a3, a4⟩ := il l hl
  obtain ⟨b1, b2, b3, b4⟩ := ml l hl
  obtain ⟨c0, e1, e2, r, d1, d2, d3, d4, d5, d6, d7⟩ := q2 l hl
  have a1 : I (20 + 2) l = (s.2.getD l tq0).1 := a1
  have a2 : I (20 + 3) l = (s.2.getD l tq0).2.1 := a2
  have a3 : I (20 + 4) l = (s.2.getD l tq0).2.2.1 := a3
  have a4 : I (20 + 5) l = (s.2.getD l tq0).2.2.2.1 := a4
  have ic : ∀ i, i < s.1.length → I (20 + 6) i = s.1.getD i 0 := ic
  unfold RLine
  rw [a1, a2, a3, a4, b1, b2, b3, b4, d3, d4, d5]
  have hlen : s.1.length = c0.length + (e1.length + (e2.length + r.length)) := by rw [d1]; simp only [List.length_append]
  have g1 : ∀ j, j < e1.length → I (20 + 6) (c0.length + j) = e1.getD j 0 := fun j hj => by
    rw [ic _ (by omega), d1, List.getD_eq_getElem?_getD, List.getElem?_append_right (by omega), show c0.length + j - c0.length = j by omega, List.getElem?_append_left hj, ← List.getD_eq_getElem?_getD]
  have g2 : ∀ j, j < e2.length → I (20 + 6) (c0.length + e1.length + j) = e2.getD j 0 := fun j hj => by
    rw [ic _ (by omega), d1, List.getD_eq_getElem?_getD, List.getElem?_append_right (by omega), List.getElem?_append_right (by omega), show c0.length + e1.length + j - c0.length - e1.length = j by omega, List.getElem?_append_left hj, ← List.getD_eq_getElem?_getD]
  refine ⟨by omega, rfl, rfl, rfl, by omega, fun i h1 h2 => ?_, ?_, ?_⟩
  · have hi : i < s.1.length := by omega
    rw [ic i hi]
    refine ⟨mc i hi, fun e => ?_⟩
    obtain ⟨k1, k2, k3⟩ := q1 i hi e
    rw [ic (i - 1) (by omega)]
    exact ⟨k2, k3⟩
  · rw [show (((c0.length + e1.length : Nat) : Int) - (c0.length : Int)).toNat = e1.length by omega, Int.toNat_natCast, ztc_ztl e1 c0.length [] g1]
    exact d6
  · rcases d7 with d7 | d7
    · left
      rw [d7, List.length_nil, Nat.add_zero]
    · right
      rw [show (((c0.length + e1.length + e2.length : Nat) : Int) - ((c0.length + e1.length : Nat) : Int)).toNat = e2.length by omega, Int.toNat_natCast, ztc_ztl e2 (c0.length + e1.length) [] g2]
      exact d7
