/-! WHAT IS KNOWN OF A CLERK, HERE AND THERE -/
theorem up_r {I : zI} {k j a : Nat} {x : Int} (h : ¬ a = k) : up I k j x a = I a := funext fun _ => up_c h
theorem s_43 {d : Nat} {I : zI} {x v : Int} (h1 : 10000 ≤ x) (h2 : x < 10011) : cl (d + 1) 43 [.inr (some 20), .inl x, .inl v] I = some (0, up I 27 (x - 10000).toNat v) := by
  rw [e_43, wr_id (z := x - 10000) (by omega) (by omega), if_neg (by omega), if_pos (by omega), if_pos (by omega)]
def zlf (I : zI) (a : Nat) (x : Int) : Int := if 0 ≤ x ∧ x < I a 5 ∧ x < 12 then wr (I (a + 10) x.toNat - I (a + 11) x.toNat) else 0
def zkv (I : zI) (a c : Nat) (h : Bool) (q : Int) : Nat → Int
  | 0 => I (a + 5) c
  | 1 => if h = true then I (a + 2) q.toNat else 0
  | 2 => if h = true then I (a + 3) q.toNat else 0
  | 3 => if h = true then zlast (I 35) (I 36) (I (a + 1) q.toNat) 0 (I 34 4).toNat else 0
  | 4 => if h = true then zlast (I 35) (I 37) (I (a + 1) q.toNat) 5 (I 34 4).toNat else 0
  | 5 => zlf I a (I (a + 7) c)
  | 6 => I (a + 9) c
  | 7 => I a 1
  | 8 => if h = true then I (a + 1) q.toNat else 0
  | 9 => I (a + 7) c
  | _ => I a 2
def zkn (I : zI) (a c : Nat) (h : Bool) (q : Int) : Nat → zI
  | 0 => I
  | n + 1 => up (zkn I a c h q n) 27 n (zkv I a c h q n)
theorem zkn_r {I : zI} {a c : Nat} {h : Bool} {q : Int} {k : Nat} (hk : ¬ k = 27) : ∀ n, zkn I a c h q n k = I k
  | 0 => rfl
  | n + 1 => by rw [zkn, up_r hk, zkn_r hk n]
theorem zkn_v {I : zI} {a c : Nat} {h : Bool} {q : Int} : ∀ n j, j < n → zkn I a c h q n 27 j = zkv I a c h q j
  | 0, j, hj => absurd hj (by omega)
  | n + 1, j, hj => by
    rw [zkn]
    by_cases e : j = n
    · subst e; exact up_s
    · rw [up_j e]; exact zkn_v n j (by omega)
theorem l_104 {d a c : Nat} {I : zI} {h : Bool} {q : Int} (ha : zFirm a) (h2 : a = 2 ∨ a = 200) (hc : c < 10) : zD (d + 2) 15 104 [some (.inr (some 1)), some (.inr (some a)), some (.inl (c : Int))] [.inl (zkv I a c h q 8), .inl 10008, .inr (some 20)] (zkn I a c h q 8) = some (0, zkn I a c h q 11) := by
  have ic : 0 ≤ (c : Int) ∧ (c : Int) < 10 := by omega
  rw [e_15_104 ha, s_43 (by decide) (by decide), Option.bind_some]; (try dsimp only); rw [if_pos ic, s_43 (by decide) (by decide), Option.bind_some]; (try dsimp only); rw [s_43 (by decide) (by decide), Option.bind_some]
  simp (disch := omega) only [up_r, zkn_r, Int.toNat_natCast]
  rfl
theorem l_68 {d a c : Nat} {I : zI} {h : Bool} {q x4 : Int} (ha : zFirm a) (h2 : a = 2 ∨ a = 200) (hc : c < 10) (hx : (x4 = 0 ∧ h = false) ∨ (x4 = 1 ∧ h = true ∧ 0 ≤ q ∧ q < 14)) : zD (d + 3) 15 68 [some (.inr (some 1)), some (.inr (some a)), some (.inl (c : Int)), some (.inl q), some (.inl x4)] [.inl (zkv I a c h q 4), .inl 10004, .inr (some 20)] (zkn I a c h q 4) = some (0, zkn I a c h q 11) := by
  have ic : 0 ≤ (c : Int) ∧ (c : Int) < 10 := by omega
  rw [e_15_68 ha, s_43 (by decide) (by decide), Option.bind_some]; (try dsimp only); rw [if_pos ic, s_26 ha, Option.bind_some]; (try dsimp only); rw [s_43 (by decide) (by decide), Option.bind_some]; (try dsimp only); rw [if_pos ic, s_43 (by decide) (by decide), Option.bind_some]; (try dsimp only); rw [s_43 (by decide) (by decide), Option.bind_some]
  simp (disch := omega) only [up_r, zkn_r, Int.toNat_natCast]
  have L := l_104 (d := d + 1) (I := I) (h := h) (q := q) ha h2 hc
  rcases hx with ⟨rfl, rfl⟩ | ⟨rfl, rfl, hq⟩
  · rw [if_pos rfl]
    exact L
  · rw [if_neg (by decide), if_pos hq]
    exact L
theorem l_54 {d a c : Nat} {I : zI} {h : Bool} {q x4 : Int} (ha : zFirm a) (h2 : a = 2 ∨ a = 200) (hc : c < 10) (hx : (x4 = 0 ∧ h = false) ∨ (x4 = 1 ∧ h = true ∧ 0 ≤ q ∧ q < 14)) (hb0 : 0 ≤ I 34 4) (hb1 : I 34 4 ≤ 16) : zD (d + 3) 15 54 [some (.inr (some 1)), some (.inr (some a)), some (.inl (c : Int)), some (.inl q), some (.inl x4)] [.inl (zkv I a c h q 3), .inl 10003, .inr (some 20)] (zkn I a c h q 3) = some (0, zkn I a c h q 11) := by
  rw [e_15_54 ha, s_43 (by decide) (by decide), Option.bind_some]
  have L := l_68 (d := d) (I := I) (h := h) (q := q) ha h2 hc hx
  rcases hx with ⟨rfl, rfl⟩ | ⟨rfl, rfl, hq⟩
  · rw [if_pos rfl]
    exact L
  · rw [if_neg (by decide), if_pos hq, s_11 (by dsimp only; rw [up_c (by decide), zkn_r (by decide)]; exact hb0) (by dsimp only; rw [up_c (by decide), zkn_r (by decide)]; exact hb1), Option.bind_some]
    simp (disch := omega) only [up_r, zkn_r]
    exact L
theorem l_40 {d a c : Nat} {I : zI} {h : Bool} {q x4 : Int} (ha : zFirm a) (h2 : a = 2 ∨ a = 200) (hc : c < 10) (hx : (x4 = 0 ∧ h = false) ∨ (x4 = 1 ∧ h = true ∧ 0 ≤ q ∧ q < 14)) (hb0 : 0 ≤ I 34 4) (hb1 : I 34 4 ≤ 16) : zD (d + 3) 15 40 [some (.inr (some 1)), some (.inr (some a)), some (.inl (c : Int)), some (.inl q), some (.inl x4)] [.inl (zkv I a c h q 2), .inl 10002, .inr (some 20)] (zkn I a c h q 2) = some (0, zkn I a c h q 11) := by
  rw [e_15_40 ha, s_43 (by decide) (by decide), Option.bind_some]
  have L := l_54 (d := d) (I := I) (h := h) (q := q) ha h2 hc hx hb0 hb1
  rcases hx with ⟨rfl, rfl⟩ | ⟨rfl, rfl, hq⟩
  · rw [if_pos rfl]
    exact L
  · rw [if_neg (by decide), if_pos hq, s_10 (by dsimp only; rw [up_c (by decide), zkn_r (by decide)]; exact hb0) (by dsimp only; rw [up_c (by decide), zkn_r (by decide)]; exact hb1), Option.bind_some]
    simp (disch := omega) only [up_r, zkn_r]
    exact L
theorem l_28 {d a c : Nat} {I : zI} {h : Bool} {q x4 : Int} (ha : zFirm a) (h2 : a = 2 ∨ a = 200) (hc : c < 10) (hx : (x4 = 0 ∧ h = false) ∨ (x4 = 1 ∧ h = true ∧ 0 ≤ q ∧ q < 14)) (hb0 : 0 ≤ I 34 4) (hb1 : I 34 4 ≤ 16) : zD (d + 3) 15 28 [some (.inr (some 1)), some (.inr (some a)), some (.inl (c : Int)), some (.inl q), some (.inl x4)] [.inl (zkv I a c h q 1), .inl 10001, .inr (some 20)] (zkn I a c h q 1) = some (0, zkn I a c h q 11) := by
  rw [e_15_28 ha, s_43 (by decide) (by decide), Option.bind_some]
  have L := l_40 (d := d) (I := I) (h := h) (q := q) ha h2 hc hx hb0 hb1
  rcases hx with ⟨rfl, rfl⟩ | ⟨rfl, rfl, hq⟩
  · rw [if_pos rfl]
    exact L
  · rw [if_neg (by decide), if_pos hq]
    simp (disch := omega) only [up_r, zkn_r]
    exact L
theorem learn_ok {d a c : Nat} {I : zI} (ha : zFirm a) (h2 : a = 2 ∨ a = 200) (hc : c < 10) (hq : I (a + 6) c = -1 ∨ (0 ≤ I (a + 6) c ∧ I (a + 6) c < I a 3)) (h3 : I a 3 ≤ 14) (hb0 : 0 ≤ I 34 4) (hb1 : I 34 4 ≤ 16) : cl (d + 3) 15 [.inr (some 1), .inr (some a), .inl (c : Int)] I = some (0, zkn I a c (decide (¬ I (a + 6) c = -1)) (I (a + 6) c) 11) := by
  have ic : 0 ≤ (c : Int) ∧ (c : Int) < 10 := by omega
  rw [e_15 ha, if_pos ic, Int.toNat_natCast, s_22 ha, Option.bind_some]; (try dsimp only); rw [if_pos ic, s_43 (by decide) (by decide), Option.bind_some]
  rcases hq with hq | hq
  · rw [decide_eq_false (not_not_intro hq), if_neg (show ¬ (0 ≤ I (a + 6) c ∧ I (a + 6) c < I a 3 ∧ I (a + 6) c < 14) by omega), if_pos rfl]
    exact l_28 (d := d) (I := I) (h := false) ha h2 hc (Or.inl ⟨rfl, rfl⟩) hb0 hb1
  · rw [decide_eq_true (show ¬ I (a + 6) c = -1 by omega), if_pos (show 0 ≤ I (a + 6) c ∧ I (a + 6) c < I a 3 ∧ I (a + 6) c < 14 by omega), if_neg (by decide), if_pos (by omega)]
    simp (disch := omega) only [up_r]
    exact l_28 (d := d) (I := I) (h := true) ha h2 hc (Or.inr ⟨rfl, rfl, by omega, by omega⟩) hb0 hb1
/-! the model -/
def zmv (J : zI) (c : Nat) (q d0 : Int) : Nat → Int
  | 0 => J 245 c
  | 1 => if q = -1 then 0 else J 241 (4 + q.toNat)
  | 2 => if q = -1 then 0 else J 241 (18 + q.toNat)
  | 3 => if q = -1 then 0 else J 259 (J 244 q.toNat).toNat
  | 4 => if q = -1 then 0 else J 260 (J 244 q.toNat).toNat + 5
  | 5 => if d0 = -1 then 0 else wr (J 246 d0.toNat - J 241 (86 + d0.toNat))
  | 6 => J 241 (76 + c)
  | 7 => J 241 3
  | 8 => if q = -1 then 0 else J 244 q.toNat
  | 9 => d0
  | _ => J 241 0
def zmn (J : zI) (c : Nat) (q d0 : Int) : Nat → zI
  | 0 => J
  | n + 1 => up (zmn J c q d0 n) 262 n (zmv J c q d0 n)
theorem zmn_r {J : zI} {c : Nat} {q d0 : Int} {k : Nat} (hk : ¬ k = 262) : ∀ n, zmn J c q d0 n k = J k
  | 0 => rfl
  | n + 1 => by rw [zmn, up_r hk, zmn_r hk n]
theorem zmn_v {J : zI} {c : Nat} {q d0 : Int} : ∀ n j, j < n → zmn J c q d0 n 262 j = zmv J c q d0 j
  | 0, j, hj => absurd hj (by omega)
  | n + 1, j, hj => by
    rw [zmn]
    by_cases e : j = n
    · subst e; exact up_s
    · rw [up_j e]; exact zmn_v n j (by omega)
theorem asks_ok {e c : Nat} {J : zI} {q d0 : Int} (hc : c < 10) (hq : J 241 (46 + c) = q + 1) (hd : J 241 (56 + c) = d0 + 1) (h4 : q = -1 ∨ (0 ≤ q ∧ q < 14 ∧ 0 ≤ J 244 q.toNat ∧ J 244 q.toNat < 8 ∧ -100 ≤ J 260 (J 244 q.toNat).toNat ∧ J 260 (J 244 q.toNat).toNat ≤ 100)) (h5 : d0 = -1 ∨ (0 ≤ d0 ∧ d0 < 12)) : cl (e + 2) 227 [.inr (some 240), .inl (c : Int)] J = some (0, zmn J c q d0 11) := by
  have ic : 0 ≤ (c : Int) ∧ (c : Int) < 10 := by omega
  have q14 : q = -1 ∨ (0 ≤ q ∧ q < 14) := by omega
  have i76 : 0 ≤ wr (76 + (c : Int)) ∧ wr (76 + (c : Int)) < 110 := by rw [wr_id (by omega) (by omega)]; omega
  have t76 : (wr (76 + (c : Int))).toNat = 76 + c := by rw [wr_id (by omega) (by omega)]; omega
  -- from the last on
  have L127 : ∀ w1 w2, zD (e + 2) 227 127 [some (.inr (some 240)), w1, w2, some (.inl d0)] [.inl (zmv J c q d0 8), .inl 8, .inr (some 262)] (zmn J c q d0 8) = some (0, zmn J c q d0 11) := by
    intro w1 w2
    rw [e_227_127]
    simp (disch := omega) only [zmn_r]
    rfl
  have L96 : zD (e + 2) 227 96 [some (.inr (some 240)), some (.inl (c : Int)), some (.inl q), some (.inl d0)] [.inl (zmv J c q d0 5), .inl 5, .inr (some 262)] (zmn J c q d0 5) = some (0, zmn J c q d0 11) := by
    rw [e_227_96, if_pos i76]
    simp (disch := omega) only [zmn_r, t76]
    have L := L127 (some (.inl (c : Int))) (some (.inl q))
    by_cases hq1 : q = -1
    · simp only [zmv, if_pos hq1] at L
      rw [if_pos hq1]
      exact L
    · simp only [zmv, if_neg hq1] at L
      rw [if_neg hq1, if_pos (by omega)]
      exact L
  have L76 : zD (e + 2) 227 76 [some (.inr (some 240)), some (.inl (c : Int)), some (.inl q), some (.inl d0)] [.inl (zmv J c q d0 4), .inl 4, .inr (some 262)] (zmn J c q d0 4) = some (0, zmn J c q d0 11) := by
    rw [e_227_76]
    simp (disch := omega) only [zmn_r]
    by_cases hd1 : d0 = -1
    · have L := L96
      rw [show zmv J c q d0 5 = 0 from if_pos hd1] at L
      rw [if_pos hd1]
      exact L
    · have L := L96
      rw [show zmv J c q d0 5 = wr (J 246 d0.toNat - J 241 (86 + d0.toNat)) from if_neg hd1] at L
      have w86 : wr (86 + d0) = 86 + d0 := wr_id (by omega) (by omega)
      have t86 : (86 + d0).toNat = 86 + d0.toNat := by omega
      rw [if_neg hd1, if_pos (by omega), w86, if_pos (by omega), t86]
      exact L
  have L61 : zD (e + 2) 227 61 [some (.inr (some 240)), some (.inl (c : Int)), some (.inl q), some (.inl d0)] [.inl (zmv J c q d0 3), .inl 3, .inr (some 262)] (zmn J c q d0 3) = some (0, zmn J c q d0 11) := by
    rw [e_227_61]
    simp (disch := omega) only [zmn_r]
    have L := L76
    by_cases hq1 : q = -1
    · rw [show zmv J c q d0 4 = 0 from if_pos hq1] at L
      rw [if_pos hq1]
      exact L
    · rw [show zmv J c q d0 4 = J 260 (J 244 q.toNat).toNat + 5 from if_neg hq1] at L
      have hz : up (zmn J c q d0 3) 262 3 (zmv J c q d0 3) 260 (J 244 q.toNat).toNat = J 260 (J 244 q.toNat).toNat := by rw [up_c (by decide), zmn_r (by decide)]
      rw [if_neg hq1, if_pos (by omega), s_226 (by omega) (by omega) (by rw [hz]; omega) (by rw [hz]; omega), Option.bind_some]; (try dsimp only); rw [hz]
      exact L
  have L45 : zD (e + 2) 227 45 [some (.inr (some 240)), some (.inl (c : Int)), some (.inl q), some (.inl d0)] [.inl (zmv J c q d0 2), .inl 2, .inr (some 262)] (zmn J c q d0 2) = some (0, zmn J c q d0 11) := by
    rw [e_227_45]
    simp (disch := omega) only [zmn_r]
    have L := L61
    by_cases hq1 : q = -1
    · rw [show zmv J c q d0 3 = 0 from if_pos hq1] at L
      rw [if_pos hq1]
      exact L
    · rw [show zmv J c q d0 3 = J 259 (J 244 q.toNat).toNat from if_neg hq1] at L
      rw [if_neg hq1, if_pos (by omega), if_pos (by omega)]
      exact L
  have L30 : zD (e + 2) 227 30 [some (.inr (some 240)), some (.inl (c : Int)), some (.inl q), some (.inl d0)] [.inl (zmv J c q d0 1), .inl 1, .inr (some 262)] (zmn J c q d0 1) = some (0, zmn J c q d0 11) := by
    rw [e_227_30]
    simp (disch := omega) only [zmn_r]
    have L := L45
    by_cases hq1 : q = -1
    · rw [show zmv J c q d0 2 = 0 from if_pos hq1] at L
      rw [if_pos hq1]
      exact L
    · rw [show zmv J c q d0 2 = J 241 (18 + q.toNat) from if_neg hq1] at L
      have w18 : wr (18 + q) = 18 + q := wr_id (by omega) (by omega)
      have t18 : (18 + q).toNat = 18 + q.toNat := by omega
      rw [if_neg hq1, w18, if_pos (by omega), t18]
      exact L
  rw [e_227, s_175 (by omega) (by omega) (by rw [Int.toNat_natCast]; omega) (by rw [Int.toNat_natCast]; omega), Option.bind_some]; (try dsimp only); rw [s_176 (by omega) (by omega) (by rw [Int.toNat_natCast]; omega) (by rw [Int.toNat_natCast]; omega), Option.bind_some]
  simp only [Int.toNat_natCast]
  rw [hq, hd, Int.add_sub_cancel, Int.add_sub_cancel, if_pos ic]
  have L := L30
  by_cases hq1 : q = -1
  · rw [show zmv J c q d0 1 = 0 from if_pos hq1] at L
    rw [if_pos hq1]
    exact L
  · rw [show zmv J c q d0 1 = J 241 (4 + q.toNat) from if_neg hq1] at L
    have w4 : wr (4 + q) = 4 + q := wr_id (by omega) (by omega)
    have t4 : (4 + q).toNat = 4 + q.toNat := by omega
    rw [if_neg hq1, w4, if_pos (by omega), t4]
    exact L
/-! both -/
theorem ask_fc {K J : zI} {a c : Nat} {hb : Int} (rf : RFirm K J a hb) (rb : RBird K J 34) (hc : (c : Int) < K a 4) : zfc (zkn K a c (decide (¬ K (a + 6) c = -1)) (K (a + 6) c) 11) (zmn J c (K (a + 6) c) (K (a + 7) c) 11) := by
  intro j hj
  rw [zkn_v 11 j hj, zmn_v 11 j hj]
  obtain ⟨⟨f1, f1a, f1b⟩, ⟨f2, f2a, f2b⟩, ⟨f3, f3a, f3b⟩, f4, f5, f6, f7, f8, f9⟩ := rf
  obtain ⟨⟨g1, g1a, g1b⟩, ⟨g2, g2a, g2b⟩, ⟨g3, g3a, g3b⟩, g4, g5⟩ := f8 c hc
  simp only [RBird, Nat.reduceAdd] at rb
  by_cases q1 : K (a + 6) c = -1
  · have hj2 : j = 0 ∨ j = 1 ∨ j = 2 ∨ j = 3 ∨ j = 4 ∨ j = 5 ∨ j = 6 ∨ j = 7 ∨ j = 8 ∨ j = 9 ∨ j = 10 := by omega
    have hd : decide (¬ K (a + 6) c = -1) = false := decide_eq_false (not_not_intro q1)
    rw [hd]
    rcases hj2 with rfl | rfl | rfl | rfl | rfl | rfl | rfl | rfl | rfl | rfl | rfl
    · exact g1.symm
    · simp only [zkv, zmv, if_pos q1, Bool.false_eq_true, if_false]
    · simp only [zkv, zmv, if_pos q1, Bool.false_eq_true, if_false]
    · simp only [zkv, zmv, if_pos q1, Bool.false_eq_true, if_false]
    · simp only [zkv, zmv, if_pos q1, Bool.false_eq_true, if_false]
    · simp only [zkv, zmv, zlf]
      by_cases d1 : K (a + 7) c = -1
      · rw [if_neg (by omega), if_pos d1]
      · have fe := f9 (K (a + 7) c).toNat (by omega)
        rw [if_pos (by omega), if_neg d1, fe.1.1, fe.2.1.1]
    · exact g5.symm
    · exact f5.symm
    · simp only [zkv, zmv, if_pos q1, Bool.false_eq_true, if_false]
    · rfl
    · exact f6.1.symm
  · have hj2 : j = 0 ∨ j = 1 ∨ j = 2 ∨ j = 3 ∨ j = 4 ∨ j = 5 ∨ j = 6 ∨ j = 7 ∨ j = 8 ∨ j = 9 ∨ j = 10 := by omega
    have hd : decide (¬ K (a + 6) c = -1) = true := decide_eq_true q1
    obtain ⟨⟨i1, i1a, i1b⟩, ⟨i2, i2a, i2b⟩, ⟨i3, i3a, i3b⟩, i4⟩ := f7 (K (a + 6) c).toNat (by omega)
    have ib := rb.2.2 (K (a + 1) (K (a + 6) c).toNat).toNat (by omega)
    have en : (((K (a + 1) (K (a + 6) c).toNat).toNat : Nat) : Int) = K (a + 1) (K (a + 6) c).toNat := by omega
    rw [en] at ib
    rw [hd]
    rcases hj2 with rfl | rfl | rfl | rfl | rfl | rfl | rfl | rfl | rfl | rfl | rfl
    · exact g1.symm
    · simp only [zkv, zmv, if_neg q1, if_true]; exact i2.symm
    · simp only [zkv, zmv, if_neg q1, if_true]; exact i3.symm
    · simp only [zkv, zmv, if_neg q1, if_true, i1]; exact ib.1.symm
    · simp only [zkv, zmv, if_neg q1, if_true, i1]; exact ib.2.symm
    · simp only [zkv, zmv, zlf]
      by_cases d1 : K (a + 7) c = -1
      · rw [if_neg (by omega), if_pos d1]
      · have fe := f9 (K (a + 7) c).toNat (by omega)
        rw [if_pos (by omega), if_neg d1, fe.1.1, fe.2.1.1]
    · exact g5.symm
    · exact f5.symm
    · simp only [zkv, zmv, if_neg q1, if_true]; exact i1.symm
    · rfl
    · exact f6.1.symm
theorem ask_ok {d e a c w : Nat} {wl : Int} {K J : zI} {hb : Int} (ha : zFirm a) (h2 : a = 2 ∨ a = 200) (rf : RFirm K J a hb) (rl : RLaw K J 20) (rb : RBird K J 34) (hc : (c : Int) < K a 4) (hw : w ≤ 2) (hwl : wl = 10011 + (w : Int)) :
    ∃ (r : Int) (K' J' : zI), (∀ k j, k ≠ 27 → k ≠ 28 → K' k j = K k j) ∧ (∀ k j, k ≠ 262 → k ≠ 263 → J' k j = J k j) ∧ (0 ≤ r ∧ r ≤ 1000) ∧ (w = 0 → r ≤ 99) ∧ cl (d + 5) 14 [.inr (some 1), .inr (some a), .inl (c : Int), .inl wl] K = some (r, K') ∧ cl (e + 6) (229 + w) [.inr (some 240), .inl (c : Int)] J = some (r, J') := by
  have hfc := ask_fc rf rb hc
  obtain ⟨⟨f1, f1a, f1b⟩, ⟨f2, f2a, f2b⟩, ⟨f3, f3a, f3b⟩, f4, f5, f6, f7, f8, f9⟩ := rf
  obtain ⟨⟨g1, g1a, g1b⟩, ⟨g2, g2a, g2b⟩, ⟨g3, g3a, g3b⟩, g4, g5⟩ := f8 c hc
  have rb0 := rb
  simp only [RBird, Nat.reduceAdd] at rb0
  have L1 := learn_ok (d := d + 1) (I := K) (c := c) ha h2 (by omega) (by omega) (by omega) rb0.1.2.1 rb0.1.2.2
  have h4 : K (a + 6) c = -1 ∨ (0 ≤ K (a + 6) c ∧ K (a + 6) c < 14 ∧ 0 ≤ J 244 (K (a + 6) c).toNat ∧ J 244 (K (a + 6) c).toNat < 8 ∧ -100 ≤ J 260 (J 244 (K (a + 6) c).toNat).toNat ∧ J 260 (J 244 (K (a + 6) c).toNat).toNat ≤ 100) := by
    by_cases q1 : K (a + 6) c = -1
    · exact Or.inl q1
    · obtain ⟨⟨i1, i1a, i1b⟩, _⟩ := f7 (K (a + 6) c).toNat (by omega)
      have ib := (rb0.2.2 (J 244 (K (a + 6) c).toNat).toNat (by omega)).2
      have ir := zlast_rg (f := K 35) (s := K 37) (b := (((J 244 (K (a + 6) c).toNat).toNat : Nat) : Int)) (df := 5) (lo := 0) (hi := 9) (by decide) (K 34 4).toNat (fun k hk => (rb0.2.1 k (by omega)).2)
      rw [← ib] at ir
      exact Or.inr ⟨by omega, by omega, by omega, by omega, by omega, by omega⟩
  have L2 := fun e => asks_ok (e := e) (J := J) (c := c) (q := K (a + 6) c) (d0 := K (a + 7) c) (by omega) g2 g3 h4 (by omega)
  generalize hA : zkn K a c (decide (¬ K (a + 6) c = -1)) (K (a + 6) c) 11 = A at L1 hfc
  generalize hB : zmn J c (K (a + 6) c) (K (a + 7) c) 11 = B at L2 hfc
  have hA2 : ∀ k j, k ≠ 27 → A k j = K k j := fun k j hk => by rw [← hA, zkn_r hk]
  have hB2 : ∀ k j, k ≠ 262 → B k j = J k j := fun k j hk => by rw [← hB, zmn_r hk]
  have hL : RLaw A B 20 := RLaw_cg (hA2 21 4 (by decide)) (fun k h1 h3 => funext fun j => hA2 k j (by omega)) (hB2 250 0 (by decide)) (fun l _ => ⟨hB2 251 l (by decide), hB2 252 l (by decide), hB2 253 l (by decide), hB2 254 l (by decide)⟩) (fun i _ => ⟨hB2 255 i (by decide), hB2 256 i (by decide)⟩) rl
  have i23 : 0 ≤ (c : Int) ∧ (c : Int) < K a 4 ∧ (c : Int) < 10 := by omega
  obtain ⟨r, K', J', b1, b2, b3, _⟩ := tell_ok (d := d) (e := e) (mo := 0) hw hwl hL hfc rfl
  have key : ∀ (mo : Int), ∃ J2 : zI, (∀ k j, k ≠ 263 → J2 k j = B k j) ∧ cl (e + 5) 228 [.inr (some 240), .inl (w : Int), .inl (zdf w A), .inl mo] B = some (if r < 0 then 0 else if mo < r then mo else r, J2) := by
    intro mo
    obtain ⟨r', K2, J2, c1, c2, c3, c4⟩ := tell_ok (d := d) (e := e) (mo := mo) hw hwl hL hfc rfl
    have er : r' = r := by have := c3.symm.trans b3; cases this; rfl
    rw [er] at c4
    exact ⟨J2, c2, c4⟩
  obtain ⟨J2, k1, k2⟩ := key (if w = 0 then 99 else 1000)
  refine ⟨if r < 0 then 0 else if (if w = 0 then 99 else 1000) < r then (if w = 0 then 99 else 1000) else r, K', J2, fun k j h1 h3 => by rw [b1 k j h3, hA2 k j h1], fun k j h1 h3 => by rw [k1 k j h3, hB2 k j h1], ?_, ?_, ?_, ?_⟩
  · (repeat' split) <;> omega
  · intro w0
    rw [if_pos w0]
    (repeat' split) <;> omega
  · rw [e_14 ha, s_23 ha, if_pos i23, Option.bind_some]; (try dsimp only); rw [if_neg (by decide), L1, Option.bind_some]; (try dsimp only); rw [b3]
    simp only [Option.bind_some, s_295, s_296]
    by_cases w0 : w = 0
    · rw [if_pos (by omega), if_pos w0]
      (repeat' split) <;> (congr 2; omega)
    · rw [if_neg (by omega), if_neg w0]
      (repeat' split) <;> (congr 2; omega)
  · have hw2 : w = 0 ∨ w = 1 ∨ w = 2 := by omega
    rcases hw2 with rfl | rfl | rfl
    · rw [show 229 + 0 = 229 from rfl, e_229, L2, Option.bind_some]; (try dsimp only); rw [← hfc 4 (by decide)]
      refine (congrArg (fun o => Option.bind o _) k2).trans ?_
      rfl
    · rw [show 229 + 1 = 230 from rfl, e_230, L2, Option.bind_some]; (try dsimp only); rw [← hfc 0 (by decide)]
      refine (congrArg (fun o => Option.bind o _) k2).trans ?_
      rfl
    · rw [show 229 + 2 = 231 from rfl, e_231, L2, Option.bind_some]; (try dsimp only); rw [← hfc 3 (by decide)]
      refine (congrArg (fun o => Option.bind o _) k2).trans ?_
      rfl
