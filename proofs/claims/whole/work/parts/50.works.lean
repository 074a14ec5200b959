/-! AN HOUR OF ONE CLERK -/
theorem wr_o4 {q : Nat} (h : q < 110) : wr (4 + (q : Int)) = ((4 + q : Nat) : Int) := by
  rw [wr_id (by omega) (by omega)]
  omega
theorem wr_o18 {q : Nat} (h : q < 110) : wr (18 + (q : Int)) = ((18 + q : Nat) : Int) := by
  rw [wr_id (by omega) (by omega)]
  omega
theorem wr_o32 {q : Nat} (h : q < 110) : wr (32 + (q : Int)) = ((32 + q : Nat) : Int) := by
  rw [wr_id (by omega) (by omega)]
  omega
theorem wr_o46 {q : Nat} (h : q < 110) : wr (46 + (q : Int)) = ((46 + q : Nat) : Int) := by
  rw [wr_id (by omega) (by omega)]
  omega
theorem wr_o56 {q : Nat} (h : q < 110) : wr (56 + (q : Int)) = ((56 + q : Nat) : Int) := by
  rw [wr_id (by omega) (by omega)]
  omega
theorem wr_o66 {q : Nat} (h : q < 110) : wr (66 + (q : Int)) = ((66 + q : Nat) : Int) := by
  rw [wr_id (by omega) (by omega)]
  omega
theorem wr_o76 {q : Nat} (h : q < 110) : wr (76 + (q : Int)) = ((76 + q : Nat) : Int) := by
  rw [wr_id (by omega) (by omega)]
  omega
theorem wr_o86 {q : Nat} (h : q < 110) : wr (86 + (q : Int)) = ((86 + q : Nat) : Int) := by
  rw [wr_id (by omega) (by omega)]
  omega
theorem wr_o98 {q : Nat} (h : q < 110) : wr (98 + (q : Int)) = ((98 + q : Nat) : Int) := by
  rw [wr_id (by omega) (by omega)]
  omega
theorem zG_bk {a : Nat} {hb th : Int} {K0 J0 K J : zI} (g : zG a hb th K0 J0 K J) : (0 ≤ K 15 4 ∧ K 15 4 ≤ 150) ∧ 0 ≤ J 241 2 ∧ J 241 2 ≤ 150 := by
  have b := g.2.2.2.2.2.1
  omega
theorem zadd_up {a q : Nat} {kd x y th w : Int} {K : zI} (h2 : a = 2 ∨ a = 200) : zadd a kd x y th (up K (a + 3) q w) = up (zadd a kd x y th K) (a + 3) q w := by
  funext k j
  rw [zadd_cm (K := K) (fun k j h h3 => up_c (by omega)) (up_c (by omega))]
  by_cases hk : 15 ≤ k ∧ k ≤ 19
  · rw [if_pos hk, up_c (by omega)]
  · rw [if_neg hk]
    unfold up
    rw [zadd_o hk]
theorem zadd_clr {a n : Nat} {kd x y th dd : Int} {K : zI} (h2 : a = 2 ∨ a = 200) : zadd a kd x y th (zclr a dd n K) = zclr a dd n (zadd a kd x y th K) := by
  funext k j
  rw [zadd_cm (K := K) (fun k j h h3 => by rw [zclr_r (by omega)]) (by rw [zclr_r (by omega)])]
  by_cases hk : 15 ≤ k ∧ k ≤ 19
  · rw [if_pos hk, zclr_r (by omega)]
  · rw [if_neg hk]
    unfold zclr
    rw [zadd_o hk, zadd_o (k := a + 7) (by omega)]
theorem zclr_up {a n q : Nat} {dd w : Int} {K : zI} : zclr a dd n (up K (a + 3) q w) = up (zclr a dd n K) (a + 3) q w := by
  funext k j
  unfold zclr
  rw [up_c (a := a + 7) (by omega)]
  unfold up
  by_cases h1 : k = a + 7 ∧ j < n ∧ K (a + 7) j = dd
  · rw [if_pos h1, if_neg (by omega)]; dsimp only; rw [if_pos h1]
  · rw [if_neg h1]; dsimp only; rw [if_neg h1]
theorem s_36 {d a q : Nat} {K : zI} (ha : zFirm a) (hq : (q : Int) < K a 3) (h3 : K a 3 ≤ 14) (h0 : 0 ≤ K (a + 3) q) (h1 : K (a + 3) q ≤ 99) : cl (d + 2) 36 [.inr (some a), .inl (q : Int)] K = some (0, up K (a + 3) q (min 99 (K (a + 3) q + 1))) := by
  have iq : 0 ≤ (q : Int) ∧ (q : Int) < 14 := by omega
  rw [e_36 ha, s_22 ha, if_pos (by omega), Option.bind_some]; (try dsimp only); rw [if_neg (by decide)]
  simp only [if_pos iq, Int.toNat_natCast]
  by_cases h : K (a + 3) q < 99
  · rw [if_pos h, wr_id (by omega) (by omega), show min 99 (K (a + 3) q + 1) = K (a + 3) q + 1 by omega]
  · rw [if_neg h, up_id (by omega)]
theorem fin_ok {d e a c dd : Nat} {hb th : Int} {K0 J0 K J : zI} (ha : zFirm a) (h2 : a = 2 ∨ a = 200) (h5 : J0 240 5 = th) (ht : th = 0 ∨ th = 1) (g : zG a hb th K0 J0 K J) (hc : (c : Int) < K a 4) (hd : (dd : Int) < K a 5) :
    ∃ K' J' : zI, zG a hb th K0 J0 K' J' ∧ (∀ j, K' (a + 3) j = K (a + 3) j) ∧ (∀ q w, (cl (d + 2) 37 [.inr (some a), .inl (dd : Int), .inl (c : Int)] (up K (a + 3) q w)).bind (fun p => cl (d + 2) 18 [.inr (some 1), .inr (some a), .inl 3, .inl (c : Int), .inl (dd : Int), .inl th] p.2) = some (0, up K' (a + 3) q w)) ∧ cl (e + 2) 238 [.inr (some 240), .inl (c : Int), .inl (dd : Int)] J = some (0, J') := by
  have rf := g.2.2.2.2.1
  have rf0 := rf
  obtain ⟨⟨f1, f1a, f1b⟩, ⟨f2, f2a, f2b⟩, ⟨f3, f3a, f3b⟩, f4, f5, f6, f7, f8, f9⟩ := rf0
  have c8 := f8 c hc
  have gA := zG_up (k := 12) h2 (by decide) (by omega) g (F_by (x := (c : Int)) (y := (c : Int) + 1) h2 rf hd ⟨rfl, by omega, hc⟩)
  have gB := zG_up (k := 9) h2 (by decide) (by omega) gA (F_signed (i := c) (x := wr (K (a + 9) c + 1)) (y := wr (J 241 (76 + c) + 1)) h2 gA.2.2.2.2.1 (by rw [up_c (by omega)]; exact hc) (by rw [c8.2.2.2.2]))
  generalize hK1 : up (up K (a + 12) dd (c : Int)) (a + 9) c (wr (K (a + 9) c + 1)) = K1 at gB
  generalize hJ1 : up (up J 241 (98 + dd) ((c : Int) + 1)) 241 (76 + c) (wr (J 241 (76 + c) + 1)) = J1 at gB
  have gC := zG_note (kd := 3) (x := (c : Int)) (y := (dd : Int)) h2 gB
  have gD := zG_clr (dd := (dd : Int)) h2 (by omega) gC
  have n4 : (zadd a 3 (c : Int) (dd : Int) th K1) a 4 = K a 4 := gC.2.1.2.1.trans g.2.1.2.1.symm
  have k4 : K1 a 4 = K a 4 := gB.2.1.2.1.trans g.2.1.2.1.symm
  rw [n4] at gD
  refine ⟨_, _, gD, fun j => ?_, fun q w => ?_, ?_⟩
  · rw [zclr_r (by omega), zadd_o (by omega), ← hK1, up_c (by omega), up_c (by omega)]
  · rw [e_37 ha, s_24 ha]
    simp only [Option.bind_some, b01]
    rw [if_neg (by rw [up_c (by omega)]; omega), s_23 ha]
    simp only [Option.bind_some, b01]
    have i10 : 0 ≤ (c : Int) ∧ (c : Int) < 10 := by omega
    have i12 : 0 ≤ (dd : Int) ∧ (dd : Int) < 12 := by omega
    rw [if_neg (by rw [up_c (by omega)]; omega), if_pos i12, if_pos i10, if_pos i10]
    simp only [Int.toNat_natCast]
    rw [up_c (a := a + 9) (by omega), up_up (k := a + 3) (k' := a + 12) (by omega), up_up (k := a + 3) (k' := a + 9) (by omega), hK1, s_37_24 ha (by rw [up_c (by omega)]; omega) (by rw [up_c (by omega)]; omega), Option.bind_some]; (try dsimp only); rw [up_c (a := a) (by omega), k4, zclr_up]
    have bk := zG_bk gB
    rw [s_18 ha (by rw [up_c (by omega), zclr_r (by omega)]; exact bk.1.1) (by rw [up_c (by omega), zclr_r (by omega)]; exact bk.1.2) ht, zadd_up h2, zadd_clr h2]
  · have hdd110 : dd < 110 := by omega
    have hc110 : c < 110 := by omega
    have i98 : 0 ≤ ((98 + dd : Nat) : Int) ∧ ((98 + dd : Nat) : Int) < 110 := by omega
    have i76 : 0 ≤ ((76 + c : Nat) : Int) ∧ ((76 + c : Nat) : Int) < 110 := by omega
    have bk := zG_bk gB
    have r3 := gC.2.2.2.2.1
    have j7 : zmad 3 (c : Int) (dd : Int) th J1 240 7 = K a 4 := r3.2.1.1.trans n4
    rw [e_238]
    simp only [wr_o98 hdd110, wr_o76 hc110, if_pos i98, if_pos i76, Int.toNat_natCast]
    rw [wr_id (z := (c : Int) + 1) (by omega) (by omega), up_j (b := 76 + c) (by omega), hJ1, s_232 bk.2.1 bk.2.2 ht (zG_th gB h5), Option.bind_some]; (try dsimp only); rw [s_238_30 (by rw [j7]; exact f2a) (by rw [j7]; exact f2b) (fun p hp => ?_), j7]
    have q := r3.2.2.2.2.2.2.2.1 p (by rw [n4]; omega)
    have n5 : (zadd a 3 (c : Int) (dd : Int) th K1) a 5 = K a 5 := gC.2.1.2.2.trans g.2.1.2.2.symm
    omega
theorem works_ok {d e a c q dd : Nat} {hb th : Int} {K0 J0 K J : zI} (ha : zFirm a) (h2 : a = 2 ∨ a = 200) (hH : zH a th K0 J0) (g : zG a hb th K0 J0 K J) (hc : (c : Int) < K a 4) (hq : K (a + 6) c = (q : Int)) (hd : K (a + 7) c = (dd : Int))
    (hcan : K (a + 12) dd = -1 ∧ zand (zset (K 40) (K 41) (dd : Int) (K 39 4).toNat) (zxor (zdp (fun e => decide (¬ K (a + 12) e = -1)) (K a 5).toNat) (-1)) = 0) :
    ∃ (r : Int) (K' J' : zI), zG a hb th K0 J0 K' J' ∧ (0 ≤ r ∧ r ≤ 99) ∧ cl (d + 6) 17 [.inr (some 1), .inr (some a), .inl (c : Int), .inl th] K = some (r, K') ∧ cl (e + 8) 240 [.inr (some 240), .inl (c : Int)] J = some (r, J') := by
  obtain ⟨hl, ho, hbd, haf, h5, ht⟩ := hH
  have raf := zG_aft h2 g haf
  have rf := g.2.2.2.2.1
  have rf0 := rf
  obtain ⟨⟨f1, f1a, f1b⟩, ⟨f2, f2a, f2b⟩, ⟨f3, f3a, f3b⟩, f4, f5, f6, f7, f8, f9⟩ := rf0
  have c8 := f8 c hc
  have i10 : 0 ≤ (c : Int) ∧ (c : Int) < 10 := by omega
  have iq : 0 ≤ (q : Int) ∧ (q : Int) < 14 := by omega
  have idd : 0 ≤ (dd : Int) ∧ (dd : Int) < 12 := by omega
  have hq3 : (q : Int) < K a 3 := by omega
  have hd5 : (dd : Int) < K a 5 := by omega
  have hdd110 : dd < 110 := by omega
  have hc110 : c < 110 := by omega
  have hq110 : q < 110 := by omega
  have i4 : 0 ≤ ((4 + q : Nat) : Int) ∧ ((4 + q : Nat) : Int) < 110 := by omega
  have i18 : 0 ≤ ((18 + q : Nat) : Int) ∧ ((18 + q : Nat) : Int) < 110 := by omega
  have i32 : 0 ≤ ((32 + q : Nat) : Int) ∧ ((32 + q : Nat) : Int) < 110 := by omega
  have i46 : 0 ≤ ((46 + c : Nat) : Int) ∧ ((46 + c : Nat) : Int) < 110 := by omega
  have i66 : 0 ≤ ((66 + c : Nat) : Int) ∧ ((66 + c : Nat) : Int) < 110 := by omega
  have i86 : 0 ≤ ((86 + dd : Nat) : Int) ∧ ((86 + dd : Nat) : Int) < 110 := by omega
  have h175 : cl (e + 7) 175 [.inr (some 240), .inl (c : Int)] J = some ((q : Int), J) := by
    rw [s_175 (by omega) (by omega) (by rw [Int.toNat_natCast]; omega) (by rw [Int.toNat_natCast]; omega), Int.toNat_natCast, c8.2.1.1, hq, Int.add_sub_cancel]
  have h176 : cl (e + 7) 176 [.inr (some 240), .inl (c : Int)] J = some ((dd : Int), J) := by
    rw [s_176 (by omega) (by omega) (by rw [Int.toNat_natCast]; omega) (by rw [Int.toNat_natCast]; omega), Int.toNat_natCast, c8.2.2.1.1, hd, Int.add_sub_cancel]
  have E1 := e_17 ha (d := d + 5) (I := K) (x2 := (c : Int)) (x3 := th)
  simp only [s_23 ha, s_22 ha, s_24 ha, s_13 ha raf.1.2.1 raf.1.2.2 f3a f3b, Option.bind_some, b01, Int.toNat_natCast, hq, hd] at E1
  rw [if_neg (by omega), if_pos i10, if_pos i10, if_neg (by omega), if_neg (by omega), if_neg (not_not_intro ⟨⟨idd.1, hd5⟩, hcan⟩)] at E1
  have E2 := e_240 (d := e + 7) (I := J) (x1 := (c : Int))
  -- lifts
  obtain ⟨r1, K1, J1, a1, a2, a3, _, a5, a6⟩ := ask_ok (d := d) (e := e + 1) (w := 2) (wl := 10013) ha h2 rf (zG_law h2 g hl) (zG_bird h2 g hbd) hc (by decide) (by decide)
  have a6 : cl (e + 7) 231 [.inr (some 240), .inl (c : Int)] J = some (r1, J1) := a6
  have g1 := zG_ask h2 g a1 a2
  obtain ⟨b1, K2, J2, hb1, g2, p1, p2, p3, p4⟩ := fall_ok (d := d + 3) (e := e + 5) ha h2 h5 ht g1 a3
  have p3 : cl (d + 5) 35 [.inr (some a), .inl r1, .inl th] K1 = some (b1, K2) := p3
  have p4 : cl (e + 7) 236 [.inr (some 240), .inl r1] J1 = some (b1, J2) := p4
  simp only [a5, p3, Option.bind_some] at E1
  simp only [h175, h176, a6, p4, Option.bind_some, wr_o4 hq110, wr_o32 hq110, wr_o46 hc110, wr_o66 hc110, if_pos i4, if_pos i32, if_pos i46, if_pos i66, Int.toNat_natCast] at E2
  have k2 : ∀ k j, a + 1 ≤ k → k ≤ a + 12 → K2 k j = K k j := fun k j q1 q2 => by rw [p1 k j (by omega), a1 k j (by omega) (by omega)]
  have k2a : ∀ j, 3 ≤ j → K2 a j = K a j := fun j q1 => by rw [p1 a j (by omega), a1 a j (by omega) (by omega)]
  have rf2 := g2.2.2.2.2.1
  have q2 := rf2.2.2.2.2.2.2.1 q (by rw [k2a 3 (by decide)]; exact hq3)
  have hc2 : (c : Int) < K2 a 4 := by rw [k2a 4 (by decide)]; exact hc
  rcases hb1 with rfl | rfl
  · rw [if_pos rfl, if_pos iq] at E1
    rw [if_pos rfl] at E2
    by_cases hi : 0 < K2 (a + 2) q
    · rw [if_pos hi] at E1
      rw [if_neg (by omega)] at E2
      -- blots
      obtain ⟨r2, K3, J3, a1, a2, a3, _, a5, a6⟩ := ask_ok (d := d) (e := e + 1) (w := 1) (wl := 10012) ha h2 rf2 (zG_law h2 g2 hl) (zG_bird h2 g2 hbd) hc2 (by decide) (by decide)
      have a6 : cl (e + 7) 230 [.inr (some 240), .inl (c : Int)] J2 = some (r2, J3) := a6
      have g3 := zG_ask h2 g2 a1 a2
      obtain ⟨b2, K4, J4, hb2, g4, p1, p2, p3, p4⟩ := fall_ok (d := d + 3) (e := e + 5) ha h2 h5 ht g3 a3
      have p3 : cl (d + 5) 35 [.inr (some a), .inl r2, .inl th] K3 = some (b2, K4) := p3
      have p4 : cl (e + 7) 236 [.inr (some 240), .inl r2] J3 = some (b2, J4) := p4
      simp only [a5, p3, Option.bind_some] at E1
      simp only [a6, p4, Option.bind_some] at E2
      have k4 : ∀ k j, a + 1 ≤ k → k ≤ a + 12 → K4 k j = K2 k j := fun k j q1 q2 => by rw [p1 k j (by omega), a1 k j (by omega) (by omega)]
      have k4a : ∀ j, 3 ≤ j → K4 a j = K a j := fun j q1 => by rw [p1 a j (by omega), a1 a j (by omega) (by omega), k2a j q1]
      have rf4 := g4.2.2.2.2.1
      have q4 := rf4.2.2.2.2.2.2.1 q (by rw [k4a 3 (by decide)]; exact hq3)
      have hc4 : (c : Int) < K4 a 4 := by rw [k4a 4 (by decide)]; exact hc
      have c4 := rf4.2.2.2.2.2.2.2.1 c hc4
      have hi4 : 0 < K4 (a + 2) q := by rw [k4 (a + 2) q (by omega) (by omega)]; exact hi
      rcases hb2 with rfl | rfl
      · -- writes
        rw [if_pos rfl] at E1 E2
        obtain ⟨r3, K5, J5, a1, a2, a3, a4, a5, a6⟩ := ask_ok (d := d) (e := e) (w := 0) (wl := 10011) ha h2 rf4 (zG_law h2 g4 hl) (zG_bird h2 g4 hbd) hc4 (by decide) (by decide)
        have a6 : cl (e + 6) 229 [.inr (some 240), .inl (c : Int)] J4 = some (r3, J5) := a6
        have a4 := a4 rfl
        have g5 := zG_ask h2 g4 a1 a2
        have rf5 := g5.2.2.2.2.1
        have k5 : ∀ k j, a ≤ k → k ≤ a + 12 → K5 k j = K4 k j := fun k j q1 q2 => a1 k j (by omega) (by omega)
        have hq5 : (q : Int) < K5 a 3 := by rw [k5 a 3 (by omega) (by omega), k4a 3 (by decide)]; exact hq3
        have hc5 : (c : Int) < K5 a 4 := by rw [k5 a 4 (by omega) (by omega)]; exact hc4
        have hd5' : (dd : Int) < K5 a 5 := by rw [k5 a 5 (by omega) (by omega), k4a 5 (by decide)]; exact hd5
        have q5 := rf5.2.2.2.2.2.2.1 q hq5
        have d5 := rf5.2.2.2.2.2.2.2.2 dd hd5'
        have d4 := rf4.2.2.2.2.2.2.2.2 dd (by rw [k4a 5 (by decide)]; exact hd5)
        have hi5 : 0 < K5 (a + 2) q := by rw [k5 (a + 2) q (by omega) (by omega)]; exact hi4
        have kl : K5 (a + 10) dd = K4 (a + 10) dd := k5 (a + 10) dd (by omega) (by omega)
        have kw : K5 (a + 11) dd = K4 (a + 11) dd := k5 (a + 11) dd (by omega) (by omega)
        have id5 : 0 ≤ (dd : Int) ∧ (dd : Int) < K5 a 5 ∧ (dd : Int) < 12 := by omega
        simp only [a5, Option.bind_some, if_pos iq, if_pos idd, Int.toNat_natCast, s_26 ha, if_pos id5, s_296] at E1
        rw [wr_id (z := K5 (a + 10) dd - K5 (a + 11) dd) (by omega) (by omega)] at E1
        generalize hn : min r3 (min (K5 (a + 2) q) (K5 (a + 10) dd - K5 (a + 11) dd)) = n at E1
        have n0 : 0 ≤ n := by omega
        have n1 : n ≤ r3 := by omega
        have n2 : n ≤ K5 (a + 2) q := by omega
        have n3 : n ≤ K5 (a + 10) dd - K5 (a + 11) dd := by omega
        have E3 := e_239 (d := e + 6) (I := J4) (x1 := (c : Int)) (x2 := (q : Int)) (x3 := (dd : Int))
        simp only [if_pos idd, wr_o86 hdd110, if_pos i86, wr_o4 hq110, if_pos i4, Int.toNat_natCast, a6, Option.bind_some, s_161, q5.2.1.1] at E3
        rw [show wr (J4 246 dd - J4 241 (86 + dd)) = K5 (a + 10) dd - K5 (a + 11) dd from by rw [d4.1.1, d4.2.1.1, kl, kw, wr_id (by omega) (by omega)], hn] at E3
        rw [wr_id (z := K5 (a + 11) dd + n) (by omega) (by omega), wr_id (z := K5 (a + 2) q - n) (by omega) (by omega)] at E1
        have gA := zG_up (k := 11) (i := dd) (j := 86 + dd) (x := K5 (a + 11) dd + n) (y := K5 (a + 11) dd + n) h2 (by decide) (by omega) g5 (F_writ h2 rf5 hd5' ⟨rfl, by omega, by omega⟩)
        have gB := zG_up (k := 2) (i := q) (j := 4 + q) (x := K5 (a + 2) q - n) (y := K5 (a + 2) q - n) h2 (by decide) (by omega) gA (F_ink h2 gA.2.2.2.2.1 (by rw [up_c (by omega)]; exact hq5) ⟨rfl, by omega, by omega⟩)
        rw [show wr (J5 241 (86 + dd) + n) = K5 (a + 11) dd + n from by rw [d5.2.1.1, wr_id (by omega) (by omega)], up_j (I := J5) (k := 241) (j := 86 + dd) (a := 241) (b := 4 + q) (by omega), q5.2.1.1, wr_id (z := K5 (a + 2) q - n) (by omega) (by omega)] at E3
        generalize hK6 : up (up K5 (a + 11) dd (K5 (a + 11) dd + n)) (a + 2) q (K5 (a + 2) q - n) = K6 at E1 gB
        generalize hJ6 : up (up J5 241 (86 + dd) (K5 (a + 11) dd + n)) 241 (4 + q) (K5 (a + 2) q - n) = J6 at E3 gB
        have k6 : ∀ k j, k ≠ a + 11 → k ≠ a + 2 → K6 k j = K5 k j := fun k j q1 q2 => by rw [← hK6, up_c q2, up_c q1]
        have w6 : K6 (a + 3) q = K5 (a + 3) q := k6 (a + 3) q (by omega) (by omega)
        rw [s_36 ha (by rw [k6 a 3 (by omega) (by omega)]; exact hq5) (by rw [k6 a 3 (by omega) (by omega)]; exact rf5.1.2.2) (by rw [w6]; omega) (by rw [w6]; omega), Option.bind_some] at E1; (try dsimp only at E1); rw [w6] at E1
        -- the line of it
        have step : ∃ K7 J7 : zI, zG a hb th K0 J0 K7 J7 ∧ (∀ k j, a ≤ k → k ≤ a + 12 → K7 k j = K6 k j) ∧ cl (d + 6) 17 [.inr (some 1), .inr (some a), .inl (c : Int), .inl th] K = zD (d + 6) 17 152 [some (.inr (some 1)), some (.inr (some a)), some (.inl (c : Int)), some (.inl th), some (.inl (q : Int)), some (.inl (dd : Int)), some (.inl n)] [] (up K7 (a + 3) q (min 99 (K5 (a + 3) q + 1))) ∧ cl (e + 7) 239 [.inr (some 240), .inl (c : Int), .inl (q : Int), .inl (dd : Int)] J4 = (if n = K5 (a + 10) dd - K5 (a + 11) dd then (cl (e + 6) 238 [.inr (some 240), .inl (c : Int), .inl (dd : Int)] J7).bind (fun p => some (n, p.2)) else some (n, J7)) := by
          by_cases hn0 : 0 < n
          · have gC := zG_note (kd := 0) (x := (c : Int)) (y := n) h2 gB
            have bk := zG_bk gB
            refine ⟨_, _, gC, fun k j q1 q2 => zadd_o (by omega), ?_, ?_⟩
            · rw [E1, if_pos hn0, s_18 ha (by rw [up_c (by omega)]; exact bk.1.1) (by rw [up_c (by omega)]; exact bk.1.2) ht, Option.bind_some]; (try dsimp only); rw [zadd_up h2]
            · rw [E3, if_pos hn0, s_232 bk.2.1 bk.2.2 ht (zG_th gB h5), Option.bind_some]
          · refine ⟨K6, J6, gB, fun k j q1 q2 => rfl, ?_, ?_⟩
            · rw [E1, if_neg hn0]
            · rw [E3, if_neg hn0]
        clear E1 E3
        obtain ⟨K7, J7, g7, k7, E1, E3⟩ := step
        have hc7 : (c : Int) < K7 a 4 := by rw [k7 a 4 (by omega) (by omega), k6 a 4 (by omega) (by omega)]; exact hc5
        have hd7 : (dd : Int) < K7 a 5 := by rw [k7 a 5 (by omega) (by omega), k6 a 5 (by omega) (by omega)]; exact hd5'
        have l7 : K7 (a + 10) dd = K5 (a + 10) dd := by rw [k7 (a + 10) dd (by omega) (by omega), k6 (a + 10) dd (by omega) (by omega)]
        have v7 : K7 (a + 11) dd = K5 (a + 11) dd + n := by rw [k7 (a + 11) dd (by omega) (by omega), ← hK6, up_c (by omega), up_s]
        have w7 : K7 (a + 3) q = K5 (a + 3) q := by rw [k7 (a + 3) q (by omega) (by omega), w6]
        have E4 := e_17_152 ha (d := d + 5) (I := up K7 (a + 3) q (min 99 (K5 (a + 3) q + 1))) (x2 := (c : Int)) (x3 := th) (x5 := (dd : Int)) (x6 := n) (w4 := some (.inl (q : Int)))
        have id7 : 0 ≤ (dd : Int) ∧ (dd : Int) < up K7 (a + 3) q (min 99 (K5 (a + 3) q + 1)) a 5 ∧ (dd : Int) < 12 := by rw [up_c (by omega)]; omega
        rw [s_26 ha, if_pos id7, Option.bind_some] at E4; (try dsimp only at E4); rw [Int.toNat_natCast, up_c (a := a + 10) (by omega), up_c (a := a + 11) (by omega), l7, v7, wr_id (by omega) (by omega)] at E4
        -- the last: WORN of the model
        have fin : ∀ K8 J8 : zI, zG a hb th K0 J0 K8 J8 → K8 (a + 3) q = K5 (a + 3) q → zG a hb th K0 J0 (up K8 (a + 3) q (min 99 (K5 (a + 3) q + 1))) (up J8 241 (18 + q) (min 99 (K5 (a + 3) q + 1))) ∧ zD (e + 8) 240 102 [some (.inr (some 240)), some (.inl (c : Int)), some (.inl (q : Int)), some (.inl (dd : Int)), some (.inl n)] [] J8 = some (n, up J8 241 (18 + q) (min 99 (K5 (a + 3) q + 1))) := by
          intro K8 J8 g8 h8
          have hq8 : (q : Int) < K8 a 3 := by rw [g8.2.1.1, ← g5.2.1.1]; exact hq5
          have q8 := g8.2.2.2.2.1.2.2.2.2.2.2.1 q hq8
          refine ⟨zG_up (k := 3) h2 (by decide) (by omega) g8 (F_worn h2 g8.2.2.2.2.1 hq8 ⟨rfl, by omega, by omega⟩), ?_⟩
          rw [e_240_102, wr_o18 hq110]
          simp only [if_pos i18, Int.toNat_natCast, s_161, Option.bind_some, q8.2.2.1.1, h8]
          rw [wr_id (by omega) (by omega)]
        by_cases hf : n = K5 (a + 10) dd - K5 (a + 11) dd
        · rw [if_neg (by omega)] at E4
          rw [if_pos hf] at E3
          obtain ⟨K8, J8, g8, h8, m1, m2⟩ := fin_ok (d := d + 3) (e := e + 4) ha h2 h5 ht g7 hc7 hd7
          have m2 : cl (e + 6) 238 [.inr (some 240), .inl (c : Int), .inl (dd : Int)] J7 = some (0, J8) := m2
          rw [m2, Option.bind_some] at E3
          obtain ⟨y1, y2⟩ := fin K8 J8 g8 ((h8 q).trans w7)
          have m1 := m1 q (min 99 (K5 (a + 3) q + 1))
          refine ⟨n, _, _, y1, ⟨by omega, by omega⟩, ?_, ?_⟩
          · rw [E1, E4]
            cases h37 : cl (d + 5) 37 [.inr (some a), .inl (dd : Int), .inl (c : Int)] (up K7 (a + 3) q (min 99 (K5 (a + 3) q + 1))) with
            | none =>
              have : cl (d + 3 + 2) 37 [.inr (some a), .inl (dd : Int), .inl (c : Int)] (up K7 (a + 3) q (min 99 (K5 (a + 3) q + 1))) = none := h37
              rw [this] at m1; cases m1
            | some p =>
              have h37' : cl (d + 3 + 2) 37 [.inr (some a), .inl (dd : Int), .inl (c : Int)] (up K7 (a + 3) q (min 99 (K5 (a + 3) q + 1))) = some p := h37
              rw [h37', Option.bind_some] at m1
              have m1 : cl (d + 5) 18 [.inr (some 1), .inr (some a), .inl 3, .inl (c : Int), .inl (dd : Int), .inl th] p.2 = some (0, up K8 (a + 3) q (min 99 (K5 (a + 3) q + 1))) := m1
              rw [Option.bind_some]; (try dsimp only); rw [m1, Option.bind_some]
          · rw [E2, E3, Option.bind_some]
            exact y2
        · rw [if_pos (by omega)] at E4
          rw [if_neg hf] at E3
          obtain ⟨y1, y2⟩ := fin K7 J7 g7 w7
          refine ⟨n, _, _, y1, ⟨by omega, by omega⟩, ?_, ?_⟩
          · rw [E1, E4]
          · rw [E2, E3, Option.bind_some]
            exact y2
      · -- a blot
        rw [if_neg (by decide)] at E1 E2
        simp only [if_pos i10, if_pos iq, Int.toNat_natCast] at E1
        have gA := zG_up (k := 8) (i := c) (j := 66 + c) (x := wr (K4 (a + 8) c + 1)) (y := wr (J4 241 (66 + c) + 1)) h2 (by decide) (by omega) g4 (F_blots h2 rf4 hc4 (by rw [c4.2.2.2.1]))
        have gB := zG_up (k := 2) (i := q) (j := 4 + q) (x := wr (K4 (a + 2) q - 1)) (y := wr (up J4 241 (66 + c) (wr (J4 241 (66 + c) + 1)) 241 (4 + q) - 1)) h2 (by decide) (by omega) gA (F_ink h2 gA.2.2.2.2.1 (by rw [up_c (by omega), k4a 3 (by decide)]; exact hq3) ⟨by rw [up_j (by omega), q4.2.1.1], by rw [wr_id (by omega) (by omega)]; omega, by rw [wr_id (by omega) (by omega)]; omega⟩)
        generalize hK6 : up (up K4 (a + 8) c (wr (K4 (a + 8) c + 1))) (a + 2) q (wr (K4 (a + 2) q - 1)) = K6 at E1 gB
        generalize hJ6 : up (up J4 241 (66 + c) (wr (J4 241 (66 + c) + 1))) 241 (4 + q) (wr (up J4 241 (66 + c) (wr (J4 241 (66 + c) + 1)) 241 (4 + q) - 1)) = J6 at E2 gB
        have k6 : ∀ k j, k ≠ a + 8 → k ≠ a + 2 → K6 k j = K4 k j := fun k j q1 q2 => by rw [← hK6, up_c q2, up_c q1]
        have w6 : K6 (a + 3) q = K4 (a + 3) q := k6 (a + 3) q (by omega) (by omega)
        have hq6 : (q : Int) < K6 a 3 := by rw [k6 a 3 (by omega) (by omega), k4a 3 (by decide)]; exact hq3
        rw [s_36 ha hq6 (gB.2.2.2.2.1.1.2.2) (by rw [w6]; omega) (by rw [w6]; omega), Option.bind_some] at E1; (try dsimp only at E1); rw [w6] at E1
        have bk := zG_bk gB
        have gC := zG_note (kd := 1) (x := (c : Int)) (y := (dd : Int)) h2 gB
        rw [s_18 ha (by rw [up_c (by omega)]; exact bk.1.1) (by rw [up_c (by omega)]; exact bk.1.2) ht, Option.bind_some] at E1; (try dsimp only at E1); rw [zadd_up h2] at E1
        rw [s_232 bk.2.1 bk.2.2 ht (zG_th gB h5), Option.bind_some] at E2; (try dsimp only at E2); rw [e_240_102, wr_o18 hq110] at E2
        have hqC : (q : Int) < (zadd a 1 (c : Int) (dd : Int) th K6) a 3 := by rw [zadd_o (by omega)]; exact hq6
        have qC := gC.2.2.2.2.1.2.2.2.2.2.2.1 q hqC
        have wC : (zadd a 1 (c : Int) (dd : Int) th K6) (a + 3) q = K4 (a + 3) q := by rw [zadd_o (by omega), w6]
        simp only [if_pos i18, Int.toNat_natCast, s_161, Option.bind_some, qC.2.2.1.1, wC] at E2
        rw [wr_id (z := K4 (a + 3) q + 1) (by omega) (by omega)] at E2
        exact ⟨0, _, _, zG_up (k := 3) h2 (by decide) (by omega) gC (F_worn h2 gC.2.2.2.2.1 hqC ⟨rfl, by omega, by omega⟩), by decide, E1, E2⟩
    · rw [if_neg hi] at E1
      rw [if_pos (by omega)] at E2
      exact ⟨0, K2, J2, g2, by decide, E1, E2⟩
  · -- it lifts
    rw [if_neg (by decide), if_pos iq, if_pos i10] at E1
    rw [if_neg (by decide)] at E2
    have gA := zG_up (k := 4) (i := q) (j := 32 + q) (x := 1) (y := 1) h2 (by decide) (by omega) g2 (F_gone h2 rf2 (by rw [k2a 3 (by decide)]; exact hq3) ⟨rfl, by decide, by decide⟩)
    have gB := zG_u0 (i := 1) (j := 3) (x := wr (K2 a 1 + 1)) (y := wr (up J2 241 (32 + q) 1 241 3 + 1)) h2 (by decide) (by decide) gA (F_lift h2 gA.2.2.2.2.1 (by rw [gA.2.2.2.2.1.2.2.2.2.1, up_c (by omega)]))
    have gC := zG_up (k := 6) (i := c) (j := 46 + c) (x := -1) (y := 0) h2 (by decide) (by omega) gB (F_holds h2 gB.2.2.2.2.1 (by rw [up_j (by decide), up_c (by omega)]; exact hc2) ⟨rfl, by decide, by rw [up_j (by decide), up_c (by omega), k2a 3 (by decide)]; omega⟩)
    have bk := zG_bk gC
    have gD := zG_note (kd := 2) (x := (c : Int)) (y := (q : Int)) h2 gC
    refine ⟨0, _, _, gD, by decide, ?_, ?_⟩
    · rw [E1, s_18 ha bk.1.1 bk.1.2 ht]
      rfl
    · rw [E2, s_232 bk.2.1 bk.2.2 ht (zG_th gC h5)]
      rfl
