/-! AN HOUR OF ALL -/
theorem wr_wr (z : Int) : wr (wr z) = wr z := wr_id (wr_lo z) (wr_hi z)
theorem turn_ok {d e a c : Nat} {hb th x1 : Int} {K0 J0 K J : zI} (ha : zFirm a) (h2 : a = 2 ∨ a = 200) (hH : zH a th K0 J0) (g : zG a hb th K0 J0 K J) (hx : -2147483648 ≤ x1 ∧ x1 < 2147483648) (hc : (c : Int) < K a 4) :
    ∃ (r : Int) (K' J' : zI), zG a hb th K0 J0 K' J' ∧ cl (d + 6) 17 [.inr (some 1), .inr (some a), .inl (c : Int), .inl th] K = some (r, K') ∧ zD (e + 9) 241 29 [some (.inr (some 240)), some (.inl x1), some (.inl (c : Int))] [] J = zD (e + 9) 241 29 [some (.inr (some 240)), some (.inl (wr (x1 + r))), some (.inl ((c + 1 : Nat) : Int))] [] J' := by
  have hH0 := hH
  obtain ⟨hl, ho, hbd, haf, h5, ht⟩ := hH0
  have raf := zG_aft h2 g haf
  have rf := g.2.2.2.2.1
  have rf0 := rf
  obtain ⟨⟨f1, f1a, f1b⟩, ⟨f2, f2a, f2b⟩, ⟨f3, f3a, f3b⟩, f4, f5, f6, f7, f8, f9⟩ := rf0
  have c8 := f8 c hc
  have i10 : 0 ≤ (c : Int) ∧ (c : Int) < 10 := by omega
  have h175 : cl (e + 8) 175 [.inr (some 240), .inl (c : Int)] J = some (K (a + 6) c, J) := by
    rw [s_175 (by omega) (by omega) (by rw [Int.toNat_natCast]; omega) (by rw [Int.toNat_natCast]; omega), Int.toNat_natCast, c8.2.1.1, Int.add_sub_cancel]
  have h176 : cl (e + 8) 176 [.inr (some 240), .inl (c : Int)] J = some (K (a + 7) c, J) := by
    rw [s_176 (by omega) (by omega) (by rw [Int.toNat_natCast]; omega) (by rw [Int.toNat_natCast]; omega), Int.toNat_natCast, c8.2.2.1.1, Int.add_sub_cancel]
  have E2 := e_241_29 (d := e + 8) (I := J) (x1 := x1) (x2 := (c : Int))
  rw [if_pos (by omega)] at E2
  simp only [h175, h176, Option.bind_some] at E2
  rw [wr_id (z := (c : Int) + 1) (by omega) (by omega), ← zk1c] at E2
  have E1 := e_17 ha (d := d + 5) (I := K) (x2 := (c : Int)) (x3 := th)
  simp only [s_23 ha, s_22 ha, s_24 ha, s_13 ha raf.1.2.1 raf.1.2.2 f3a f3b, Option.bind_some, b01, Int.toNat_natCast] at E1
  rw [if_neg (by omega), if_pos i10, if_pos i10] at E1
  by_cases q1 : K (a + 6) c = -1
  · rw [if_pos (by omega)] at E1
    rw [if_pos q1] at E2
    refine ⟨0, K, J, g, E1, ?_⟩
    rw [Int.add_zero, wr_id hx.1 hx.2]; exact E2
  rw [if_neg (by omega)] at E1
  rw [if_neg q1] at E2
  by_cases d1 : K (a + 7) c = -1
  · rw [if_pos (by omega)] at E1
    rw [if_pos d1] at E2
    refine ⟨0, K, J, g, E1, ?_⟩
    rw [Int.add_zero, wr_id hx.1 hx.2]; exact E2
  rw [if_neg (by omega)] at E1
  rw [if_neg d1] at E2
  have dn : K (a + 7) c = (((K (a + 7) c).toNat : Nat) : Int) := by omega
  have qn : K (a + 6) c = (((K (a + 6) c).toNat : Nat) : Int) := by omega
  have c9 := f9 (K (a + 7) c).toNat (by omega)
  have eA := raf.2.2 (K (a + 7) c).toNat (by omega)
  simp only [Nat.reduceAdd] at eA
  rw [← dn] at eA
  rw [s_181 (by omega) (by omega) (by omega) (by omega), Option.bind_some] at E2; (try dsimp only at E2); rw [f3, zdp_done rf, eA] at E2
  simp only [b01] at E2
  by_cases hcan : K (a + 12) (K (a + 7) c).toNat = -1 ∧ zand (zset (K 40) (K 41) (K (a + 7) c) (K 39 4).toNat) (zxor (zdp (fun e => decide (¬ K (a + 12) e = -1)) (K a 5).toNat) (-1)) = 0
  · rw [if_neg (not_not_intro ⟨by omega, hcan.2⟩)] at E2
    rw [dn] at hcan
    rw [Int.toNat_natCast] at hcan
    obtain ⟨r, K', J', w1, w2, w3, w4⟩ := works_ok (d := d) (e := e) ha h2 hH g hc qn dn hcan
    rw [w4, Option.bind_some] at E2
    exact ⟨r, K', J', w1, w3, E2⟩
  · rw [if_pos (fun q => hcan q.2)] at E1
    rw [if_pos (fun q => hcan ⟨by omega, q.2⟩)] at E2
    refine ⟨0, K, J, g, E1, ?_⟩
    rw [Int.add_zero, wr_id hx.1 hx.2]; exact E2
/-- can it be done by hand, by an order -/
def zcb (K : zI) (a c : Nat) (w v : Int) : Int :=
  if w = 0 then (if K (a + 6) c = -1 ∧ (0 ≤ v ∧ v < K a 3 ∧ v < 14) ∧ K (a + 4) v.toNat = 0 ∧ zfd (fun e => decide (K (a + 6) e = v)) (K a 4).toNat 0 = -1 then 1 else 0)
  else if w = 1 then (if K (a + 6) c = -1 then 0 else 1)
  else if w = 2 then (if K (a + 7) c = v then 0 else if v = -1 then 1 else if (0 ≤ v ∧ v < K a 5 ∧ v < 12) ∧ K (a + 12) v.toNat = -1 then 1 else 0)
  else if w = 3 then (if (0 ≤ K (a + 6) c ∧ K (a + 6) c < K a 3 ∧ K (a + 6) c < 14) ∧ K (a + 2) (K (a + 6) c).toNat < 99 then 1 else 0)
  else if w = 4 then (if (0 ≤ K (a + 6) c ∧ K (a + 6) c < K a 3 ∧ K (a + 6) c < 14) ∧ 0 < K (a + 3) (K (a + 6) c).toNat then 1 else 0) else 0
def zda (K : zI) (a c : Nat) (w v : Int) : zI :=
  if w = 0 then up K (a + 6) c v else if w = 1 then up K (a + 6) c (-1) else if w = 2 then up K (a + 7) c v
  else if w = 3 then (if 0 ≤ K (a + 6) c ∧ K (a + 6) c < K a 3 ∧ K (a + 6) c < 14 then up K (a + 2) (K (a + 6) c).toNat 99 else K)
  else if w = 4 then (if 0 ≤ K (a + 6) c ∧ K (a + 6) c < K a 3 ∧ K (a + 6) c < 14 then up K (a + 3) (K (a + 6) c).toNat 0 else K) else K
theorem s_32 {d a c : Nat} {K : zI} {w v : Int} (ha : zFirm a) (h0 : 0 ≤ K a 4) (h1 : K a 4 ≤ 10) (hc : (c : Int) < K a 4) : cl (d + 2) 32 [.inr (some a), .inl w, .inl (c : Int), .inl v] K = some (zcb K a c w v, K) := by
  have i10 : 0 ≤ (c : Int) ∧ (c : Int) < 10 := by omega
  rw [e_32 ha]
  simp only [s_23 ha, s_22 ha, s_24 ha, s_27 ha h0 h1, Option.bind_some, b01, Int.toNat_natCast]
  rw [if_neg (by omega), if_pos i10]
  simp only [if_pos i10]
  unfold zcb
  by_cases w0 : w = 0
  · simp only [if_pos w0]
    by_cases q : K (a + 6) c = -1
    · rw [if_pos q]
      (repeat' split) <;> first | rfl | (exfalso; omega)
    · rw [if_neg q, if_neg (fun e => q e.1)]
  by_cases w1 : w = 1
  · simp only [if_neg w0, if_pos w1]
    (repeat' split) <;> first | rfl | (exfalso; omega)
  by_cases w2 : w = 2
  · simp only [if_neg w0, if_neg w1, if_pos w2]
    (repeat' split) <;> first | rfl | (exfalso; omega)
  by_cases w3 : w = 3
  · simp only [if_neg w0, if_neg w1, if_neg w2, if_pos w3]
    (repeat' split) <;> first | rfl | (exfalso; omega)
  by_cases w4 : w = 4
  · simp only [if_neg w0, if_neg w1, if_neg w2, if_neg w3, if_pos w4]
    (repeat' split) <;> first | rfl | (exfalso; omega)
  · simp only [if_neg w0, if_neg w1, if_neg w2, if_neg w3, if_neg w4]
theorem s_33 {d a c : Nat} {K : zI} {w v : Int} (ha : zFirm a) (h1 : K a 4 ≤ 10) (hc : (c : Int) < K a 4) : cl (d + 2) 33 [.inr (some a), .inl w, .inl (c : Int), .inl v] K = some (0, zda K a c w v) := by
  have i10 : 0 ≤ (c : Int) ∧ (c : Int) < 10 := by omega
  rw [e_33 ha]
  simp only [s_23 ha, s_22 ha, Option.bind_some, b01, Int.toNat_natCast, e_33_49 ha]
  rw [if_neg (by omega), if_pos i10]
  simp only [if_pos i10]
  unfold zda
  by_cases w0 : w = 0
  · simp only [if_pos w0]
  by_cases w1 : w = 1
  · simp only [if_neg w0, if_pos w1]
  by_cases w2 : w = 2
  · simp only [if_neg w0, if_neg w1, if_pos w2]
  by_cases w3 : w = 3
  · have w4 : ¬ w = 4 := by omega
    simp only [if_neg w0, if_neg w1, if_neg w2, if_pos w3, if_neg w4]
    (repeat' split) <;> first | rfl | (exfalso; omega)
  by_cases w4 : w = 4
  · simp only [if_neg w0, if_neg w1, if_neg w2, if_neg w3, if_pos w4]
    (repeat' split) <;> first | rfl | (exfalso; omega)
  · simp only [if_neg w0, if_neg w1, if_neg w2, if_neg w3, if_neg w4]
theorem s_233 {e c : Nat} {J : zI} {v : Int} (h0 : 0 ≤ J 240 7) (h1 : J 240 7 ≤ 10) (hc : (c : Int) < J 240 7) (hv : 0 ≤ v ∧ v < 14) (hr : ∀ c : Nat, (c : Int) < J 240 7 → 0 ≤ J 241 (46 + c) ∧ J 241 (46 + c) ≤ 14) : cl (e + 3) 233 [.inr (some 240), .inl (c : Int), .inl v] J = some (if J 241 (46 + c) = 0 ∧ ¬ J 241 (32 + v.toNat) = 1 ∧ zfd (fun c => decide (J 241 (46 + c) - 1 = v)) (J 240 7).toNat 0 = -1 then 1 else 0, J) := by
  have hr2 := hr c hc
  rw [e_233, s_175 (by omega) (by omega) (by rw [Int.toNat_natCast]; omega) (by rw [Int.toNat_natCast]; omega), Option.bind_some]; (try dsimp only); rw [Int.toNat_natCast]
  simp only [s_177 hv.1 hv.2, s_179 h0 h1 hr, Option.bind_some, b01]
  (repeat' split) <;> first | rfl | (exfalso; omega)
theorem zx4 {m : Nat} (k : Nat) (h : m + k < 2147483648) : wr ((m : Int) + (k : Int)) = ((m + k : Nat) : Int) := by
  rw [wr_id (by omega) (by omega)]
  omega
theorem order_ok {d e a l : Nat} {hb th : Int} {K0 J0 K J : zI} (ha : zFirm a) (h2 : a = 2 ∨ a = 200) (hH : zH a th K0 J0) (g : zG a hb th K0 J0 K J) (hl : (l : Int) < K 29 4) :
    ∃ K' J' : zI, zG a hb th K0 J0 K' J' ∧ ((cl (d + 2) 32 [.inr (some a), .inl (K 32 l), .inl (K 31 l), .inl (K 33 l)] K = some (0, K) ∧ K' = K) ∨ (cl (d + 2) 32 [.inr (some a), .inl (K 32 l), .inl (K 31 l), .inl (K 33 l)] K = some (1, K) ∧ cl (d + 2) 33 [.inr (some a), .inl (K 32 l), .inl (K 31 l), .inl (K 33 l)] K = some (0, K'))) ∧ cl (e + 4) 237 [.inr (some 240), .inl ((4 * l : Nat) : Int)] J = some (0, J') := by
  have ro := zG_ord h2 g hH.2.1
  have rf := g.2.2.2.2.1
  have rf0 := rf
  obtain ⟨⟨f1, f1a, f1b⟩, ⟨f2, f2a, f2b⟩, ⟨f3, f3a, f3b⟩, f4, f5, f6, f7, f8, f9⟩ := rf0
  simp only [ROrd, Nat.reduceAdd] at ro
  obtain ⟨⟨o0, o0a, o0b⟩, oo⟩ := ro
  obtain ⟨o1, ⟨o2, o2a, o2b⟩, o3⟩ := oo l hl
  obtain ⟨c, hcn⟩ : ∃ c : Nat, K 31 l = c := ⟨(K 31 l).toNat, by omega⟩
  rw [hcn] at o2 o2b ⊢
  have c8 := f8 c o2b
  rw [s_32 ha f2a f2b o2b, s_33 ha f2b o2b]
  have i10 : 0 ≤ (c : Int) ∧ (c : Int) < 10 := by omega
  have E2 := e_237 (d := e + 3) (I := J) (x1 := ((4 * l : Nat) : Int))
  have i1 : 0 ≤ ((4 * l + 1 : Nat) : Int) ∧ ((4 * l + 1 : Nat) : Int) < 128 := by omega
  have i2 : 0 ≤ ((4 * l + 2 : Nat) : Int) ∧ ((4 * l + 2 : Nat) : Int) < 128 := by omega
  have i3 : 0 ≤ ((4 * l + 3 : Nat) : Int) ∧ ((4 * l + 3 : Nat) : Int) < 128 := by omega
  have h175 : cl (e + 3) 175 [.inr (some 240), .inl (c : Int)] J = some (K (a + 6) c, J) := by
    rw [s_175 (by omega) (by omega) (by rw [Int.toNat_natCast]; omega) (by rw [Int.toNat_natCast]; omega), Int.toNat_natCast, c8.2.1.1, Int.add_sub_cancel]
  have i46 : 0 ≤ ((46 + c : Nat) : Int) ∧ ((46 + c : Nat) : Int) < 110 := by omega
  have i56 : 0 ≤ ((56 + c : Nat) : Int) ∧ ((56 + c : Nat) : Int) < 110 := by omega
  simp only [show wr (((4 * l : Nat) : Int) + 1) = ((4 * l + 1 : Nat) : Int) from zx4 1 (by omega), show wr (((4 * l : Nat) : Int) + 2) = ((4 * l + 2 : Nat) : Int) from zx4 2 (by omega), show wr (((4 * l : Nat) : Int) + 3) = ((4 * l + 3 : Nat) : Int) from zx4 3 (by omega), if_pos i1, if_pos i2, if_pos i3, Int.toNat_natCast, o2, h175, Option.bind_some, wr_o46 (q := c) (by omega), if_pos i46] at E2
  generalize K 32 l = t at o3 ⊢
  generalize K 33 l = f at o3 ⊢
  generalize J 258 (4 * l + 2) = w at o3 E2
  generalize J 258 (4 * l + 3) = v at o3 E2
  have hr46 : ∀ c : Nat, (c : Int) < J 240 7 → 0 ≤ J 241 (46 + c) ∧ J 241 (46 + c) ≤ 14 := fun p hp => by
    have := f8 p (by omega)
    omega
  rcases o3 with ⟨rfl, rfl, rfl, v0, v1⟩ | ⟨rfl, rfl⟩ | ⟨rfl, rfl, rfl, v0, v1⟩ | ⟨rfl, rfl, rfl⟩ | ⟨rfl, rfl⟩ | ⟨rfl, rfl⟩
  · -- take
    rw [s_233 (by omega) (by omega) (by omega) ⟨v0, by omega⟩ hr46, f2] at E2
    have ez : zfd (fun c => decide (J 241 (46 + c) - 1 = f)) (K a 4).toNat 0 = zfd (fun e => decide (K (a + 6) e = f)) (K a 4).toNat 0 := zfd_cg _ _ fun j _ hj => by
      have := f8 j (by omega)
      rw [this.2.1.1, Int.add_sub_cancel]
    rw [ez] at E2
    have v8 := f7 f.toNat (by omega)
    simp only [Option.bind_some, b01, Int.reduceEq, if_false, if_true, e_237_51, e_237_77, e_237_90] at E2
    by_cases hcn2 : K (a + 6) c = -1 ∧ (0 ≤ f ∧ f < K a 3 ∧ f < 14) ∧ K (a + 4) f.toNat = 0 ∧ zfd (fun e => decide (K (a + 6) e = f)) (K a 4).toNat 0 = -1
    · rw [if_neg (not_not_intro ⟨by omega, by omega, hcn2.2.2.2⟩), wr_id (z := f + 1) (by omega) (by omega)] at E2
      refine ⟨up K (a + 6) c f, up J 241 (46 + c) (f + 1), zG_up (k := 6) h2 (by decide) (by omega) g (F_holds h2 rf o2b ⟨rfl, by omega, v1⟩), Or.inr ⟨?_, ?_⟩, E2⟩
      · unfold zcb; rw [if_pos rfl, if_pos hcn2]
      · unfold zda; rw [if_pos rfl]
    · rw [if_pos (fun e => hcn2 ⟨by omega, by omega, by omega, e.2.2⟩)] at E2
      refine ⟨K, J, g, Or.inl ⟨?_, rfl⟩, E2⟩
      unfold zcb; rw [if_pos rfl, if_neg hcn2]
  · -- drop
    simp only [Option.bind_some, b01, Int.reduceEq, if_false, if_true, e_237_51, e_237_77, e_237_90] at E2
    by_cases q1 : K (a + 6) c = -1
    · rw [up_id (by omega)] at E2
      refine ⟨K, J, g, Or.inl ⟨?_, rfl⟩, E2⟩
      unfold zcb; rw [if_neg (by decide), if_pos rfl, if_pos q1]
    · refine ⟨up K (a + 6) c (-1), up J 241 (46 + c) 0, zG_up (k := 6) h2 (by decide) (by omega) g (F_holds h2 rf o2b ⟨rfl, by omega, by omega⟩), Or.inr ⟨?_, ?_⟩, E2⟩
      · unfold zcb; rw [if_neg (by decide), if_pos rfl, if_neg q1]
      · unfold zda; rw [if_neg (by decide), if_pos rfl]
  · -- write
    have v8 := f9 f.toNat (by omega)
    simp only [Option.bind_some, b01, Int.reduceEq, if_false, if_true, e_237_51, e_237_77, e_237_90] at E2
    rw [s_178 v0 (by omega)] at E2
    simp only [Option.bind_some, b01, wr_o56 (q := c) (by omega), if_pos i56, Int.toNat_natCast] at E2
    by_cases hn : K (a + 12) f.toNat = -1
    · rw [if_pos (by omega), wr_id (z := f + 1) (by omega) (by omega)] at E2
      by_cases q : K (a + 7) c = f
      · rw [up_id (by omega)] at E2
        refine ⟨K, J, g, Or.inl ⟨?_, rfl⟩, E2⟩
        unfold zcb; rw [if_neg (by decide), if_neg (by decide), if_pos rfl, if_pos q]
      · refine ⟨up K (a + 7) c f, up J 241 (56 + c) (f + 1), zG_up (k := 7) h2 (by decide) (by omega) g (F_at h2 rf o2b ⟨rfl, by omega, v1⟩), Or.inr ⟨?_, ?_⟩, E2⟩
        · unfold zcb; rw [if_neg (by decide), if_neg (by decide), if_pos rfl, if_neg q, if_neg (by omega), if_pos ⟨by omega, hn⟩]
        · unfold zda; rw [if_neg (by decide), if_neg (by decide), if_pos rfl]
    · rw [if_neg (by omega)] at E2
      refine ⟨K, J, g, Or.inl ⟨?_, rfl⟩, E2⟩
      unfold zcb; rw [if_neg (by decide), if_neg (by decide), if_pos rfl]
      split
      · rfl
      · rw [if_neg (by omega), if_neg (fun e => hn e.2)]
  · -- rest
    simp only [Option.bind_some, b01, Int.reduceEq, if_false, if_true, e_237_51, e_237_77, e_237_90, wr_o56 (q := c) (by omega), if_pos i56, Int.toNat_natCast] at E2
    by_cases q : K (a + 7) c = -1
    · rw [up_id (by omega)] at E2
      refine ⟨K, J, g, Or.inl ⟨?_, rfl⟩, E2⟩
      unfold zcb; rw [if_neg (by decide), if_neg (by decide), if_pos rfl, if_pos q]
    · refine ⟨up K (a + 7) c (-1), up J 241 (56 + c) 0, zG_up (k := 7) h2 (by decide) (by omega) g (F_at h2 rf o2b ⟨rfl, by omega, by omega⟩), Or.inr ⟨?_, ?_⟩, E2⟩
      · unfold zcb; rw [if_neg (by decide), if_neg (by decide), if_pos rfl, if_neg q, if_pos rfl]
      · unfold zda; rw [if_neg (by decide), if_neg (by decide), if_pos rfl]
  · -- dip
    simp only [Option.bind_some, b01, Int.reduceEq, if_false, if_true, e_237_51, e_237_77, e_237_90] at E2
    by_cases q1 : K (a + 6) c = -1
    · rw [if_pos q1] at E2
      refine ⟨K, J, g, Or.inl ⟨?_, rfl⟩, E2⟩
      unfold zcb; rw [if_neg (by decide), if_neg (by decide), if_neg (by decide), if_pos rfl, if_neg (by omega)]
    · obtain ⟨q, hq⟩ : ∃ q : Nat, K (a + 6) c = q := ⟨(K (a + 6) c).toNat, by omega⟩
      have q8 := f7 q (by omega)
      rw [if_neg q1, hq] at E2
      rw [wr_o4 (q := q) (by omega), if_pos (by omega), Int.toNat_natCast] at E2
      by_cases hi : K (a + 2) q < 99
      · refine ⟨up K (a + 2) q 99, up J 241 (4 + q) 99, zG_up (k := 2) h2 (by decide) (by omega) g (F_ink h2 rf (by omega) ⟨rfl, by decide, by decide⟩), Or.inr ⟨?_, ?_⟩, E2⟩
        · unfold zcb; rw [if_neg (by decide), if_neg (by decide), if_neg (by decide), if_pos rfl, hq, Int.toNat_natCast, if_pos ⟨by omega, hi⟩]
        · unfold zda; rw [if_neg (by decide), if_neg (by decide), if_neg (by decide), if_pos rfl, hq, Int.toNat_natCast, if_pos (by omega)]
      · rw [up_id (by omega)] at E2
        refine ⟨K, J, g, Or.inl ⟨?_, rfl⟩, E2⟩
        unfold zcb; rw [if_neg (by decide), if_neg (by decide), if_neg (by decide), if_pos rfl, hq, Int.toNat_natCast, if_neg (fun e => hi e.2)]
  · -- cut
    simp only [Option.bind_some, b01, Int.reduceEq, if_false, if_true, e_237_51, e_237_77, e_237_90] at E2
    by_cases q1 : K (a + 6) c = -1
    · rw [if_pos q1] at E2
      refine ⟨K, J, g, Or.inl ⟨?_, rfl⟩, E2⟩
      unfold zcb; rw [if_neg (by decide), if_neg (by decide), if_neg (by decide), if_neg (by decide), if_pos rfl, if_neg (by omega)]
    · obtain ⟨q, hq⟩ : ∃ q : Nat, K (a + 6) c = q := ⟨(K (a + 6) c).toNat, by omega⟩
      have q8 := f7 q (by omega)
      rw [if_neg q1, hq] at E2
      rw [wr_o18 (q := q) (by omega), if_pos (by omega), Int.toNat_natCast] at E2
      by_cases hi : 0 < K (a + 3) q
      · refine ⟨up K (a + 3) q 0, up J 241 (18 + q) 0, zG_up (k := 3) h2 (by decide) (by omega) g (F_worn h2 rf (by omega) ⟨rfl, by decide, by decide⟩), Or.inr ⟨?_, ?_⟩, E2⟩
        · unfold zcb; rw [if_neg (by decide), if_neg (by decide), if_neg (by decide), if_neg (by decide), if_pos rfl, hq, Int.toNat_natCast, if_pos ⟨by omega, hi⟩]
        · unfold zda; rw [if_neg (by decide), if_neg (by decide), if_neg (by decide), if_neg (by decide), if_pos rfl, hq, Int.toNat_natCast, if_pos (by omega)]
      · rw [up_id (by omega)] at E2
        refine ⟨K, J, g, Or.inl ⟨?_, rfl⟩, E2⟩
        unfold zcb; rw [if_neg (by decide), if_neg (by decide), if_neg (by decide), if_neg (by decide), if_pos rfl, hq, Int.toNat_natCast, if_neg (fun e => hi e.2)]
theorem orders_ok {d e a : Nat} {hb th : Int} {K0 J0 : zI} (ha : zFirm a) (h2 : a = 2 ∨ a = 200) (hH : zH a th K0 J0) : ∀ (m l : Nat) (K J : zI), zG a hb th K0 J0 K J → ((l + m : Nat) : Int) = K0 29 4 →
    ∃ K' J' : zI, zG a hb th K0 J0 K' J' ∧ zD (d + 3) 16 2 [some (.inr (some 1)), some (.inr (some a)), some (.inl th), some (.inl (l : Int))] [] K = zD (d + 3) 16 56 [some (.inr (some 1)), some (.inr (some a)), some (.inl th), some (.inl 0), some (.inl 0)] [] K' ∧ zD (e + 5) 241 2 [some (.inr (some 240)), some (.inl ((4 * l : Nat) : Int))] [] J = zD (e + 5) 241 29 [some (.inr (some 240)), some (.inl 0), some (.inl 0)] [] J' := by
  intro m
  induction m with
  | zero =>
    intro l K J g hl
    have k29 : K 29 4 = K0 29 4 := g.1 29 4 (by omega) (by omega) (by decide) (by decide)
    have ro := (zG_ord h2 g hH.2.1).1
    refine ⟨K, J, g, ?_, ?_⟩
    · rw [e_16_2 ha, if_neg (by omega)]
    · rw [e_241_2, wr_id (by omega) (by omega), if_neg (by omega)]
  | succ m ih =>
    intro l K J g hl
    have k29 : K 29 4 = K0 29 4 := g.1 29 4 (by omega) (by omega) (by decide) (by decide)
    have ro := zG_ord h2 g hH.2.1
    have ro1 := ro.1
    have ro2 := (ro.2 l (by omega)).1
    simp only [Nat.reduceAdd] at ro2
    have rh := g.2.2.2.2.1.2.2.2.2.2.1.1
    have i16 : 0 ≤ (l : Int) ∧ (l : Int) < 16 := by omega
    have i128 : 0 ≤ ((4 * l : Nat) : Int) ∧ ((4 * l : Nat) : Int) < 128 := by omega
    have E1 := e_16_2 ha (d := d + 2) (I := K) (x2 := th) (x3 := (l : Int))
    rw [if_pos (by omega)] at E1
    simp only [if_pos i16, Int.toNat_natCast] at E1
    rw [wr_id (z := (l : Int) + 1) (by omega) (by omega), ← zk1c] at E1
    have E2 := e_241_2 (d := e + 4) (I := J) (x1 := ((4 * l : Nat) : Int))
    rw [wr_id (z := 4 * J 240 36) (by omega) (by omega), if_pos (by omega), if_pos i128, Int.toNat_natCast, wr_id (z := ((4 * l : Nat) : Int) + 4) (by omega) (by omega), show ((4 * l : Nat) : Int) + 4 = ((4 * (l + 1) : Nat) : Int) by omega, ro2, rh] at E2
    by_cases hh : K 30 l = K a 2
    · rw [if_pos hh] at E1 E2
      obtain ⟨K', J', g', w1, w2⟩ := order_ok (d := d) (e := e) ha h2 hH g (l := l) (by omega)
      rw [w2, Option.bind_some] at E2
      obtain ⟨K2, J2, g2, v1, v2⟩ := ih (l + 1) K' J' g' (by omega)
      refine ⟨K2, J2, g2, ?_, E2.trans v2⟩
      rcases w1 with ⟨w1, rfl⟩ | ⟨w1, w3⟩
      · rw [w1, Option.bind_some] at E1; (try dsimp only at E1); rw [if_pos rfl] at E1
        exact E1.trans v1
      · rw [w1, Option.bind_some] at E1; (try dsimp only at E1); rw [if_neg (by decide)] at E1
        rw [w3, Option.bind_some] at E1
        exact E1.trans v1
    · rw [if_neg hh] at E1 E2
      obtain ⟨K2, J2, g2, v1, v2⟩ := ih (l + 1) K J g (by omega)
      exact ⟨K2, J2, g2, E1.trans v1, E2.trans v2⟩
theorem turns_ok {d e a : Nat} {hb th : Int} {K0 J0 : zI} (ha : zFirm a) (h2 : a = 2 ∨ a = 200) (hH : zH a th K0 J0) (hbb : hb ≤ 20000) : ∀ (m c : Nat) (x : Int) (K J : zI), (-2147483648 ≤ x ∧ x < 2147483648) → zG a hb th K0 J0 K J → ((c + m : Nat) : Int) = K0 a 4 →
    ∃ (r : Int) (K' J' : zI), zG a (hb + 1) th K0 J0 K' J' ∧ zD (d + 7) 16 56 [some (.inr (some 1)), some (.inr (some a)), some (.inl th), some (.inl x), some (.inl (c : Int))] [] K = some (r, K') ∧ zD (e + 9) 241 29 [some (.inr (some 240)), some (.inl x), some (.inl (c : Int))] [] J = some (r, J') := by
  intro m
  induction m with
  | zero =>
    intro c x K J hx g hc
    have f2 := g.2.2.2.2.1.2.1.1
    have k4 := g.2.1.2.1
    obtain ⟨r0, r1, r2⟩ := g.2.2.2.2.1.2.2.2.2.2.1
    refine ⟨x, up K a 2 (K a 2 + 1), up J 241 0 (K a 2 + 1), zG_u0 h2 (by decide) (by decide) g (F_hour h2 g.2.2.2.2.1 ⟨rfl, by omega, by omega⟩), ?_, ?_⟩
    · rw [e_16_56 ha, if_neg (by omega), wr_id (by omega) (by omega)]
    · rw [e_241_29, if_neg (by omega), r0, wr_id (by omega) (by omega)]
  | succ m ih =>
    intro c x K J hx g hc
    have f2 := g.2.2.2.2.1.2.1
    have k4 := g.2.1.2.1
    obtain ⟨r, K', J', g', w1, w2⟩ := turn_ok (d := d) (e := e) ha h2 hH g hx (c := c) (by omega)
    obtain ⟨r2, K2, J2, g2, v1, v2⟩ := ih (c + 1) (wr (x + r)) K' J' ⟨wr_lo _, wr_hi _⟩ g' (by omega)
    refine ⟨r2, K2, J2, g2, ?_, w2.trans v2⟩
    rw [e_16_56 ha, if_pos (by omega), w1, Option.bind_some]; (try dsimp only); rw [wr_id (z := (c : Int) + 1) (by omega) (by omega), ← zk1c]
    exact v1
theorem hour_ok {d e a : Nat} {hb th : Int} {K0 J0 K J : zI} (ha : zFirm a) (h2 : a = 2 ∨ a = 200) (hH : zH a th K0 J0) (hbb : hb ≤ 20000) (g : zG a hb th K0 J0 K J) :
    ∃ (r : Int) (K' J' : zI), zG a (hb + 1) th K0 J0 K' J' ∧ cl (d + 7) 16 [.inr (some 1), .inr (some a), .inl th] K = some (r, K') ∧ cl (e + 9) 241 [.inr (some 240)] J = some (r, J') := by
  have ro := hH.2.1.1
  have k4 := g.2.1.2.1
  have f2 := g.2.2.2.2.1.2.1
  obtain ⟨K1, J1, g1, w1, w2⟩ := orders_ok (d := d + 4) (e := e + 4) ha h2 hH (K0 29 4).toNat 0 K J g (by omega)
  obtain ⟨r, K2, J2, g2, v1, v2⟩ := turns_ok (d := d) (e := e) ha h2 hH hbb (K0 a 4).toNat 0 0 K1 J1 (by decide) g1 (by omega)
  refine ⟨r, K2, J2, g2, ?_, ?_⟩
  · rw [e_16 ha]
    exact w1.trans v1
  · rw [e_241]
    exact w2.trans v2
