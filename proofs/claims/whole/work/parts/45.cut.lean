/-! PLANKS CUT -/
theorem zhas_add {f g : Nat → Int} {v x : Int} {n : Nat} (hg : ∀ j, j < n → g j = f j) (hx : g n = x) : zhas g v (n + 1) 0 = (zhas f v n 0 || decide (v = x)) := by
  rw [Bool.eq_iff_iff, Bool.or_eq_true, zhas_iff, zhas_iff, decide_eq_true_eq]
  constructor
  · rintro ⟨j, _, h2, h3⟩
    by_cases e : j = n
    · right; rw [← h3, e, hx]
    · left; exact ⟨j, by omega, by omega, by rw [← hg j (by omega)]; exact h3⟩
  · rintro (⟨j, _, h2, h3⟩ | h)
    · exact ⟨j, by omega, by omega, by rw [hg j (by omega)]; exact h3⟩
    · exact ⟨n, by omega, by omega, by rw [hx, h]⟩
theorem zor_bit {s : Int} {k : Nat} (h0 : 0 ≤ s) (h1 : s < 1073741824) (hk : k < 30) : (0 ≤ zor s (zshl 1 (k : Int)) ∧ zor s (zshl 1 (k : Int)) < 1073741824) ∧ ∀ v, (zor s (zshl 1 (k : Int))).toNat.testBit v = (s.toNat.testBit v || decide (v = k)) := by
  obtain ⟨a, rfl⟩ : ∃ a : Nat, s = a := ⟨s.toNat, by omega⟩
  have e1 : 1 <<< k = 2 ^ k := by rw [Nat.shiftLeft_eq, Nat.one_mul]
  have e2 : 2 ^ k < 2 ^ 30 := Nat.pow_lt_pow_right (by decide) hk
  have e3 : (2 : Nat) ^ 30 = 1073741824 := by decide
  have e4 : a ||| 2 ^ k < 2 ^ 30 := Nat.or_lt_two_pow (by omega) e2
  rw [show (1 : Int) = ((1 : Nat) : Int) from rfl, zshl_n (by omega) (by omega) (by rw [e1]; omega), e1, zor_n (by omega) (by omega)]
  refine ⟨by omega, fun v => ?_⟩
  rw [Int.toNat_natCast, Int.toNat_natCast, Nat.testBit_or, Nat.testBit_two_pow]
  congr 1
  by_cases q : k = v
  · rw [decide_eq_true q, decide_eq_true q.symm]
  · rw [decide_eq_false q, decide_eq_false (fun e => q e.symm)]
theorem s_264 {d v : Nat} {I : zI} (hv : v < 60) (h1 : 0 ≤ I 240 57) (h2 : I 240 57 < 1073741824) (h3 : 0 ≤ I 240 58) (h4 : I 240 58 < 1073741824) : cl (d + 2) 264 [.inr (some 240), .inl (v : Int)] I = some (if zbit (I 240 57) (I 240 58) v = true then 1 else 0, I) := by
  have b : ∀ (z : Int) (k : Nat), 0 ≤ z → z < 1073741824 → k < 30 → cl (d + 1) 165 [.inr (some 240), .inl z, .inl (k : Int)] I = some (if z.toNat.testBit k = true then 1 else 0, I) := by
    intro z k h1 h2 hk
    obtain ⟨a, rfl⟩ : ∃ a : Nat, z = a := ⟨z.toNat, by omega⟩
    rw [e_165, bit_n (by omega) (by omega), Int.toNat_natCast]
    by_cases hq : a.testBit k = true
    · simp only [if_pos hq, if_true]
    · simp only [if_neg hq]; rfl
  have hB : ∀ p : Bool, (if p = true then (1 : Int) else 0) = 0 ∨ (if p = true then (1 : Int) else 0) = 1 := by decide
  rw [e_264]
  unfold zbit
  by_cases h : v < 30
  · rw [if_pos (by omega), zrem_nn (by omega) (by omega) (by omega) (by omega), show (v : Int) % 30 = (v : Int) by omega, b _ v h1 h2 h, Option.bind_some, if_pos h]
    exact if_pos (hB _)
  · rw [if_neg (by omega), zrem_nn (by omega) (by omega) (by omega) (by omega), show (v : Int) % 30 = ((v - 30 : Nat) : Int) by omega, b _ (v - 30) h3 h4 (by omega), Option.bind_some, if_neg h]
    exact if_pos (hB _)
theorem RPl_add {I J : zI} {n : Nat} (h1 : 1 ≤ n) (h2 : n ≤ 59) (r : RPl I I 50) (h7 : I 50 2 < 7) (e2 : J 50 2 = I 50 2 + 1) (e59 : J 240 59 = I 50 2 + 1) (e51 : ∀ j, J 51 j = if j = (I 50 2).toNat then (n : Int) else I 51 j) (eb : (n < 30 ∧ J 240 57 = zor (I 240 57) (zshl 1 (n : Int)) ∧ J 240 58 = I 240 58) ∨ (30 ≤ n ∧ J 240 57 = I 240 57 ∧ J 240 58 = zor (I 240 58) (zshl 1 ((n - 30 : Nat) : Int)))) : RPl J J 50 := by
  obtain ⟨r1, r2, r3, r4, ⟨b1, b2, b3, b4⟩, r6⟩ := r
  have hz : ∀ v : Nat, zhas (J (50 + 1)) v (J 50 2).toNat 0 = (zhas (I (50 + 1)) v (I 50 2).toNat 0 || decide ((v : Int) = (n : Int))) := by
    intro v
    rw [e2, show (I 50 2 + 1).toNat = (I 50 2).toNat + 1 by omega]
    refine zhas_add (fun j hj => ?_) ?_
    · rw [show (50 + 1 : Nat) = 51 from rfl, e51, if_neg (by omega)]
    · rw [show (50 + 1 : Nat) = 51 from rfl, e51, if_pos rfl]
  refine ⟨by omega, by omega, by omega, fun j hj => ?_, ?_, fun v hv1 hv2 => ?_⟩
  · have q := r4 j
    rw [show (50 + 1 : Nat) = 51 from rfl] at q ⊢
    rw [e51]
    split
    · omega
    · exact q (by omega)
  · rcases eb with ⟨q, q1, q2⟩ | ⟨q, q1, q2⟩
    · rw [q1, q2]
      have z := (zor_bit b1 b2 q).1
      exact ⟨z.1, z.2, b3, b4⟩
    · rw [q1, q2]
      have z := (zor_bit (k := n - 30) b3 b4 (by omega)).1
      exact ⟨b1, b2, z.1, z.2⟩
  · have b := r6 v hv1 hv2
    unfold zbit at b ⊢
    rw [hz, ← b]
    have en : ((v : Int) = (n : Int)) = (v = n) := propext ⟨fun _ => by omega, fun _ => by omega⟩
    simp only [en]
    rcases eb with ⟨q, q1, q2⟩ | ⟨q, q1, q2⟩
    · rw [q1, q2]
      by_cases hv : v < 30
      · rw [if_pos hv, if_pos hv, (zor_bit b1 b2 q).2 v]
      · have : ¬ v = n := by omega
        rw [if_neg hv, if_neg hv, decide_eq_false this, Bool.or_false]
    · rw [q1, q2]
      by_cases hv : v < 30
      · have : ¬ v = n := by omega
        rw [if_pos hv, if_pos hv, decide_eq_false this, Bool.or_false]
      · have en2 : (v - 30 = n - 30) = (v = n) := propext ⟨fun _ => by omega, fun _ => by omega⟩
        rw [if_neg hv, if_neg hv, (zor_bit (k := n - 30) b3 b4 (by omega)).2 (v - 30)]
        simp only [en2]
theorem q_cut {I : zI} {v : Int} (h : Rl I) : Pair 141 265 [.inl v] I := by
  have r := h.1.2.2.2.2.2.2.2.2.2.1
  have hl : I 50 1 = 7 := h.2.2.2.2.2.1.2.2.2.2.1
  have r0 := r
  obtain ⟨r1, r2, r3, r4, r5, r6⟩ := r0
  by_cases hv : v = (-1)
  · refine ⟨0, up I 50 2 0, up (up (up (up (up I 50 2 0) 240 0 0) 240 57 0) 240 58 0) 240 59 0, ?_, ?_, ?_⟩
    · rw [e_141, if_pos hv, s_79 r_50]; rfl
    · rw [e_265, if_pos hv]
    · have hA : Ag [] [(50, 2), (240, 0), (240, 57), (240, 58), (240, 59)] I (up (up (up (up (up I 50 2 0) 240 0 0) 240 57 0) 240 58 0) 240 59 0) := by
        repeat first | exact Ag_rf | refine Ag_uf rfl ?_
      refine ⟨⟨RFirm_cg (ag_c hA 2 rfl rfl) (fun k h1 h2 => ag_cs hA 3 14 (by decide) k h1 h2) (ag_c hA 241 rfl rfl) (ag_c hA 244 rfl rfl) (ag_c hA 245 rfl rfl) (ag_c hA 246 rfl rfl) (ag_f hA 240 6 rfl rfl) (ag_f hA 240 7 rfl rfl) (ag_f hA 240 8 rfl rfl) h.1.1, RBook_cg (ag_f hA 15 4 rfl rfl) (fun k h1 h2 => ag_cs hA 16 19 (by decide) k h1 h2) (ag_f hA 241 2 rfl rfl) (ag_c hA 247 rfl rfl) h.1.2.1, RLaw_cg (ag_f hA 21 4 rfl rfl) (fun k h1 h2 => ag_cs hA 22 26 (by decide) k h1 h2) (ag_f hA 250 0 rfl rfl) (fun l _ => ⟨congrFun (ag_c hA 251 rfl rfl) l, congrFun (ag_c hA 252 rfl rfl) l, congrFun (ag_c hA 253 rfl rfl) l, congrFun (ag_c hA 254 rfl rfl) l⟩) (fun i _ => ⟨congrFun (ag_c hA 255 rfl rfl) i, congrFun (ag_c hA 256 rfl rfl) i⟩) h.1.2.2.1, ROrd_cg (ag_f hA 2 3 rfl rfl) (ag_f hA 2 4 rfl rfl) (ag_f hA 2 5 rfl rfl) (ag_f hA 29 4 rfl rfl) (fun k h1 h2 => ag_cs hA 30 33 (by decide) k h1 h2) (ag_f hA 240 36 rfl rfl) (fun j _ => congrFun (ag_c hA 258 rfl rfl) j) h.1.2.2.2.1, RBird_cg (ag_f hA 34 4 rfl rfl) (fun k h1 h2 => ag_cs hA 35 37 (by decide) k h1 h2) (ag_f hA 240 38 rfl rfl) (fun b _ => ⟨congrFun (ag_c hA 259 rfl rfl) b, congrFun (ag_c hA 260 rfl rfl) b⟩) h.1.2.2.2.2.1, RAft_cg (ag_f hA 2 5 rfl rfl) (ag_f hA 39 4 rfl rfl) (fun k h1 h2 => ag_cs hA 40 41 (by decide) k h1 h2) (ag_f hA 240 41 rfl rfl) (fun e _ => congrFun (ag_c hA 261 rfl rfl) e) h.1.2.2.2.2.2.1, RRow_cg (ag_f hA 44 2 rfl rfl) (ag_c hA 45 rfl rfl) (ag_f hA 240 47 rfl rfl) (ag_c hA 266 rfl rfl) h.1.2.2.2.2.2.2.1, RRow_cg (ag_f hA 46 2 rfl rfl) (ag_c hA 47 rfl rfl) (ag_f hA 240 51 rfl rfl) (ag_c hA 269 rfl rfl) h.1.2.2.2.2.2.2.2.1, RDots_cg (ag_c hA 48 rfl rfl) (ag_c hA 49 rfl rfl) (ag_c hA 272 rfl rfl) (ag_c hA 273 rfl rfl) h.1.2.2.2.2.2.2.2.2.1, ?_, RRow_cg (ag_f hA 52 2 rfl rfl) (ag_c hA 53 rfl rfl) (ag_f hA 240 62 rfl rfl) (ag_c hA 276 rfl rfl) h.1.2.2.2.2.2.2.2.2.2.2.1, RLegs_cg (ag_f hA 54 2 rfl rfl) (ag_c hA 55 rfl rfl) (ag_f hA 240 64 rfl rfl) (ag_c hA 277 rfl rfl) h.1.2.2.2.2.2.2.2.2.2.2.2.1, RRow_cg (ag_f hA 56 2 rfl rfl) (ag_c hA 57 rfl rfl) (ag_f hA 240 66 rfl rfl) (ag_c hA 278 rfl rfl) h.1.2.2.2.2.2.2.2.2.2.2.2.2.1, RRow_cg (ag_f hA 58 2 rfl rfl) (ag_c hA 59 rfl rfl) (ag_f hA 240 69 rfl rfl) (ag_c hA 280 rfl rfl) h.1.2.2.2.2.2.2.2.2.2.2.2.2.2⟩, RPast_cg (ag_f hA 119 2 rfl rfl) (ag_f hA 119 3 rfl rfl) (fun k h1 h2 => ag_cs hA 121 199 (by decide) k h1 h2) (ag_c hA 242 rfl rfl) (ag_f hA 240 3 rfl rfl) (ag_c hA 244 rfl rfl) (ag_c hA 245 rfl rfl) (ag_c hA 246 rfl rfl) (ag_f hA 240 6 rfl rfl) (ag_f hA 240 7 rfl rfl) (ag_f hA 240 8 rfl rfl) h.2.1, RTape_cg (ag_f hA 213 1 rfl rfl) (ag_c hA 214 rfl rfl) (ag_f hA 240 14 rfl rfl) (ag_c hA 248 rfl rfl) h.2.2.1, RFlt_cg (ag_f hA 213 7 rfl rfl) (ag_f hA 213 8 rfl rfl) (ag_f hA 240 34 rfl rfl) (ag_f hA 240 35 rfl rfl) h.2.2.2.1, RBox_cg (ag_f hA 238 1 rfl rfl) (ag_c hA 239 rfl rfl) h.2.2.2.2.1, RMisc_cg (ag_f hA 240 5 rfl rfl) (ag_c hA 249 rfl rfl) (ag_f hA 44 1 rfl rfl) (ag_f hA 46 1 rfl rfl) (ag_f hA 50 1 rfl rfl) (ag_f hA 52 1 rfl rfl) (ag_f hA 54 1 rfl rfl) (ag_f hA 56 1 rfl rfl) (ag_f hA 58 1 rfl rfl) h.2.2.2.2.2.1, RPic_cg (ag_f hA 0 2 rfl rfl) (ag_f hA 240 73 rfl rfl) (fun k h1 h2 => ag_cs hA 61 118 (by decide) k h1 h2) (ag_c hA 282 rfl rfl) h.2.2.2.2.2.2⟩
      unfold RPl
      simp only [up, Nat.reduceAdd, Nat.reduceEqDiff, false_and, true_and, and_true, and_false, if_false, if_true, reduceIte]
      refine ⟨by decide, by decide, fun j hj => by omega, by decide, fun v h1 h2 => ?_⟩
      unfold zbit
      split <;> simp [zhas]

  · have E1 := e_141 (d := 59) (I := I) (x1 := v)
    rw [if_neg hv, s_80 r_50 (by omega), Option.bind_some] at E1
    simp only [b01] at E1
    have E2 := fun K : zI => e_265 (d := 59) (I := K) (x1 := v)
    simp only [if_neg hv, s_158, Option.bind_some, b01] at E2
    by_cases hc : 1 ≤ v ∧ v ≤ 59
    · obtain ⟨n, rfl⟩ : ∃ n : Nat, v = n := ⟨v.toNat, by omega⟩
      have hb := r6 n (by omega) (by omega)
      have F : ∀ K : zI, K 240 57 = I 240 57 → K 240 58 = I 240 58 → cl 59 264 [.inr (some 240), .inl (n : Int)] (up K 240 0 0) = some (if zbit (I 240 57) (I 240 58) n = true then 1 else 0, up K 240 0 0) := by
        intro K k1 k2
        have := s_264 (d := 57) (v := n) (I := up K 240 0 0) (by omega) (by simp only [up_j, Nat.reduceEqDiff, not_false_eq_true, k1]; omega) (by simp only [up_j, Nat.reduceEqDiff, not_false_eq_true, k1]; omega) (by simp only [up_j, Nat.reduceEqDiff, not_false_eq_true, k2]; omega) (by simp only [up_j, Nat.reduceEqDiff, not_false_eq_true, k2]; omega)
        simp only [up_j, Nat.reduceEqDiff, not_false_eq_true, k1, k2] at this
        exact this
      rw [hb] at F
      by_cases hz : zhas (I (50 + 1)) (n : Int) (I 50 2).toNat 0 = true
      · rw [if_neg (not_not_intro hz)] at E1
        have E2 := E2 I
        rw [if_neg (not_not_intro hc), F I rfl rfl] at E2
        simp only [Option.bind_some, b01] at E2
        rw [if_neg (not_not_intro hz)] at E2
        exact Pair_of h E1 E2 Ag_0
      · rw [if_pos hz, s_78 r_50 r1 (show I 50 1 ≤ 12 by omega), hl] at E1
        by_cases h7 : I 50 2 < 7
        · rw [if_pos ⟨hc.1, hc.2, h7⟩] at E1
          have E2 := E2 (up (up I 51 (I 50 2).toNat n) 50 2 (I 50 2 + 1))
          rw [if_neg (not_not_intro hc), F (up (up I 51 (I 50 2).toNat n) 50 2 (I 50 2 + 1)) (by simp only [up_c, Nat.reduceEqDiff, not_false_eq_true]) (by simp only [up_c, Nat.reduceEqDiff, not_false_eq_true])] at E2
          simp only [Option.bind_some, b01] at E2
          rw [if_pos hz] at E2
          simp only [up_c, up_j, up_s, Nat.reduceEqDiff, not_false_eq_true, r3] at E2
          rw [if_neg (by omega), wr_id (z := I 50 2 + 1) (by omega) (by omega)] at E2
          by_cases h30 : (n : Int) < 30
          · rw [if_pos h30] at E2
            refine ⟨I 50 2 + 1, _, up (up (up (up (up I 51 (I 50 2).toNat n) 50 2 (I 50 2 + 1)) 240 0 0) 240 57 (zor (I 240 57) (zshl 1 n))) 240 59 (I 50 2 + 1), E1, E2, ?_⟩
            have hA : Ag [51] [(50, 2), (240, 0), (240, 57), (240, 59)] I (up (up (up (up (up I 51 (I 50 2).toNat n) 50 2 (I 50 2 + 1)) 240 0 0) 240 57 (zor (I 240 57) (zshl 1 n))) 240 59 (I 50 2 + 1)) := by
              repeat first | exact Ag_rf | refine Ag_up rfl ?_ | refine Ag_uf rfl ?_
            refine ⟨⟨RFirm_cg (ag_c hA 2 rfl rfl) (fun k h1 h2 => ag_cs hA 3 14 (by decide) k h1 h2) (ag_c hA 241 rfl rfl) (ag_c hA 244 rfl rfl) (ag_c hA 245 rfl rfl) (ag_c hA 246 rfl rfl) (ag_f hA 240 6 rfl rfl) (ag_f hA 240 7 rfl rfl) (ag_f hA 240 8 rfl rfl) h.1.1, RBook_cg (ag_f hA 15 4 rfl rfl) (fun k h1 h2 => ag_cs hA 16 19 (by decide) k h1 h2) (ag_f hA 241 2 rfl rfl) (ag_c hA 247 rfl rfl) h.1.2.1, RLaw_cg (ag_f hA 21 4 rfl rfl) (fun k h1 h2 => ag_cs hA 22 26 (by decide) k h1 h2) (ag_f hA 250 0 rfl rfl) (fun l _ => ⟨congrFun (ag_c hA 251 rfl rfl) l, congrFun (ag_c hA 252 rfl rfl) l, congrFun (ag_c hA 253 rfl rfl) l, congrFun (ag_c hA 254 rfl rfl) l⟩) (fun i _ => ⟨congrFun (ag_c hA 255 rfl rfl) i, congrFun (ag_c hA 256 rfl rfl) i⟩) h.1.2.2.1, ROrd_cg (ag_f hA 2 3 rfl rfl) (ag_f hA 2 4 rfl rfl) (ag_f hA 2 5 rfl rfl) (ag_f hA 29 4 rfl rfl) (fun k h1 h2 => ag_cs hA 30 33 (by decide) k h1 h2) (ag_f hA 240 36 rfl rfl) (fun j _ => congrFun (ag_c hA 258 rfl rfl) j) h.1.2.2.2.1, RBird_cg (ag_f hA 34 4 rfl rfl) (fun k h1 h2 => ag_cs hA 35 37 (by decide) k h1 h2) (ag_f hA 240 38 rfl rfl) (fun b _ => ⟨congrFun (ag_c hA 259 rfl rfl) b, congrFun (ag_c hA 260 rfl rfl) b⟩) h.1.2.2.2.2.1, RAft_cg (ag_f hA 2 5 rfl rfl) (ag_f hA 39 4 rfl rfl) (fun k h1 h2 => ag_cs hA 40 41 (by decide) k h1 h2) (ag_f hA 240 41 rfl rfl) (fun e _ => congrFun (ag_c hA 261 rfl rfl) e) h.1.2.2.2.2.2.1, RRow_cg (ag_f hA 44 2 rfl rfl) (ag_c hA 45 rfl rfl) (ag_f hA 240 47 rfl rfl) (ag_c hA 266 rfl rfl) h.1.2.2.2.2.2.2.1, RRow_cg (ag_f hA 46 2 rfl rfl) (ag_c hA 47 rfl rfl) (ag_f hA 240 51 rfl rfl) (ag_c hA 269 rfl rfl) h.1.2.2.2.2.2.2.2.1, RDots_cg (ag_c hA 48 rfl rfl) (ag_c hA 49 rfl rfl) (ag_c hA 272 rfl rfl) (ag_c hA 273 rfl rfl) h.1.2.2.2.2.2.2.2.2.1, ?_, RRow_cg (ag_f hA 52 2 rfl rfl) (ag_c hA 53 rfl rfl) (ag_f hA 240 62 rfl rfl) (ag_c hA 276 rfl rfl) h.1.2.2.2.2.2.2.2.2.2.2.1, RLegs_cg (ag_f hA 54 2 rfl rfl) (ag_c hA 55 rfl rfl) (ag_f hA 240 64 rfl rfl) (ag_c hA 277 rfl rfl) h.1.2.2.2.2.2.2.2.2.2.2.2.1, RRow_cg (ag_f hA 56 2 rfl rfl) (ag_c hA 57 rfl rfl) (ag_f hA 240 66 rfl rfl) (ag_c hA 278 rfl rfl) h.1.2.2.2.2.2.2.2.2.2.2.2.2.1, RRow_cg (ag_f hA 58 2 rfl rfl) (ag_c hA 59 rfl rfl) (ag_f hA 240 69 rfl rfl) (ag_c hA 280 rfl rfl) h.1.2.2.2.2.2.2.2.2.2.2.2.2.2⟩, RPast_cg (ag_f hA 119 2 rfl rfl) (ag_f hA 119 3 rfl rfl) (fun k h1 h2 => ag_cs hA 121 199 (by decide) k h1 h2) (ag_c hA 242 rfl rfl) (ag_f hA 240 3 rfl rfl) (ag_c hA 244 rfl rfl) (ag_c hA 245 rfl rfl) (ag_c hA 246 rfl rfl) (ag_f hA 240 6 rfl rfl) (ag_f hA 240 7 rfl rfl) (ag_f hA 240 8 rfl rfl) h.2.1, RTape_cg (ag_f hA 213 1 rfl rfl) (ag_c hA 214 rfl rfl) (ag_f hA 240 14 rfl rfl) (ag_c hA 248 rfl rfl) h.2.2.1, RFlt_cg (ag_f hA 213 7 rfl rfl) (ag_f hA 213 8 rfl rfl) (ag_f hA 240 34 rfl rfl) (ag_f hA 240 35 rfl rfl) h.2.2.2.1, RBox_cg (ag_f hA 238 1 rfl rfl) (ag_c hA 239 rfl rfl) h.2.2.2.2.1, RMisc_cg (ag_f hA 240 5 rfl rfl) (ag_c hA 249 rfl rfl) (ag_f hA 44 1 rfl rfl) (ag_f hA 46 1 rfl rfl) (ag_f hA 50 1 rfl rfl) (ag_f hA 52 1 rfl rfl) (ag_f hA 54 1 rfl rfl) (ag_f hA 56 1 rfl rfl) (ag_f hA 58 1 rfl rfl) h.2.2.2.2.2.1, RPic_cg (ag_f hA 0 2 rfl rfl) (ag_f hA 240 73 rfl rfl) (fun k h1 h2 => ag_cs hA 61 118 (by decide) k h1 h2) (ag_c hA 282 rfl rfl) h.2.2.2.2.2.2⟩
            refine RPl_add (n := n) (by omega) (by omega) r h7 ?_ ?_ (fun j => ?_) (Or.inl ⟨by omega, ?_, ?_⟩)
            · simp only [up_c, up_j, up_s, Nat.reduceEqDiff, not_false_eq_true]
            · simp only [up_c, up_j, up_s, Nat.reduceEqDiff, not_false_eq_true]
            · simp only [up_c, Nat.reduceEqDiff, not_false_eq_true]
              unfold up
              simp only [true_and]
            · simp only [up_c, up_j, up_s, Nat.reduceEqDiff, not_false_eq_true]
            · simp only [up_c, up_j, up_s, Nat.reduceEqDiff, not_false_eq_true]
          · rw [if_neg h30, wr_id (z := (n : Int) - 30) (by omega) (by omega), show (n : Int) - 30 = ((n - 30 : Nat) : Int) by omega] at E2
            refine ⟨I 50 2 + 1, _, up (up (up (up (up I 51 (I 50 2).toNat n) 50 2 (I 50 2 + 1)) 240 0 0) 240 58 (zor (I 240 58) (zshl 1 ((n - 30 : Nat) : Int)))) 240 59 (I 50 2 + 1), E1, E2, ?_⟩
            have hA : Ag [51] [(50, 2), (240, 0), (240, 58), (240, 59)] I (up (up (up (up (up I 51 (I 50 2).toNat n) 50 2 (I 50 2 + 1)) 240 0 0) 240 58 (zor (I 240 58) (zshl 1 ((n - 30 : Nat) : Int)))) 240 59 (I 50 2 + 1)) := by
              repeat first | exact Ag_rf | refine Ag_up rfl ?_ | refine Ag_uf rfl ?_
            refine ⟨⟨RFirm_cg (ag_c hA 2 rfl rfl) (fun k h1 h2 => ag_cs hA 3 14 (by decide) k h1 h2) (ag_c hA 241 rfl rfl) (ag_c hA 244 rfl rfl) (ag_c hA 245 rfl rfl) (ag_c hA 246 rfl rfl) (ag_f hA 240 6 rfl rfl) (ag_f hA 240 7 rfl rfl) (ag_f hA 240 8 rfl rfl) h.1.1, RBook_cg (ag_f hA 15 4 rfl rfl) (fun k h1 h2 => ag_cs hA 16 19 (by decide) k h1 h2) (ag_f hA 241 2 rfl rfl) (ag_c hA 247 rfl rfl) h.1.2.1, RLaw_cg (ag_f hA 21 4 rfl rfl) (fun k h1 h2 => ag_cs hA 22 26 (by decide) k h1 h2) (ag_f hA 250 0 rfl rfl) (fun l _ => ⟨congrFun (ag_c hA 251 rfl rfl) l, congrFun (ag_c hA 252 rfl rfl) l, congrFun (ag_c hA 253 rfl rfl) l, congrFun (ag_c hA 254 rfl rfl) l⟩) (fun i _ => ⟨congrFun (ag_c hA 255 rfl rfl) i, congrFun (ag_c hA 256 rfl rfl) i⟩) h.1.2.2.1, ROrd_cg (ag_f hA 2 3 rfl rfl) (ag_f hA 2 4 rfl rfl) (ag_f hA 2 5 rfl rfl) (ag_f hA 29 4 rfl rfl) (fun k h1 h2 => ag_cs hA 30 33 (by decide) k h1 h2) (ag_f hA 240 36 rfl rfl) (fun j _ => congrFun (ag_c hA 258 rfl rfl) j) h.1.2.2.2.1, RBird_cg (ag_f hA 34 4 rfl rfl) (fun k h1 h2 => ag_cs hA 35 37 (by decide) k h1 h2) (ag_f hA 240 38 rfl rfl) (fun b _ => ⟨congrFun (ag_c hA 259 rfl rfl) b, congrFun (ag_c hA 260 rfl rfl) b⟩) h.1.2.2.2.2.1, RAft_cg (ag_f hA 2 5 rfl rfl) (ag_f hA 39 4 rfl rfl) (fun k h1 h2 => ag_cs hA 40 41 (by decide) k h1 h2) (ag_f hA 240 41 rfl rfl) (fun e _ => congrFun (ag_c hA 261 rfl rfl) e) h.1.2.2.2.2.2.1, RRow_cg (ag_f hA 44 2 rfl rfl) (ag_c hA 45 rfl rfl) (ag_f hA 240 47 rfl rfl) (ag_c hA 266 rfl rfl) h.1.2.2.2.2.2.2.1, RRow_cg (ag_f hA 46 2 rfl rfl) (ag_c hA 47 rfl rfl) (ag_f hA 240 51 rfl rfl) (ag_c hA 269 rfl rfl) h.1.2.2.2.2.2.2.2.1, RDots_cg (ag_c hA 48 rfl rfl) (ag_c hA 49 rfl rfl) (ag_c hA 272 rfl rfl) (ag_c hA 273 rfl rfl) h.1.2.2.2.2.2.2.2.2.1, ?_, RRow_cg (ag_f hA 52 2 rfl rfl) (ag_c hA 53 rfl rfl) (ag_f hA 240 62 rfl rfl) (ag_c hA 276 rfl rfl) h.1.2.2.2.2.2.2.2.2.2.2.1, RLegs_cg (ag_f hA 54 2 rfl rfl) (ag_c hA 55 rfl rfl) (ag_f hA 240 64 rfl rfl) (ag_c hA 277 rfl rfl) h.1.2.2.2.2.2.2.2.2.2.2.2.1, RRow_cg (ag_f hA 56 2 rfl rfl) (ag_c hA 57 rfl rfl) (ag_f hA 240 66 rfl rfl) (ag_c hA 278 rfl rfl) h.1.2.2.2.2.2.2.2.2.2.2.2.2.1, RRow_cg (ag_f hA 58 2 rfl rfl) (ag_c hA 59 rfl rfl) (ag_f hA 240 69 rfl rfl) (ag_c hA 280 rfl rfl) h.1.2.2.2.2.2.2.2.2.2.2.2.2.2⟩, RPast_cg (ag_f hA 119 2 rfl rfl) (ag_f hA 119 3 rfl rfl) (fun k h1 h2 => ag_cs hA 121 199 (by decide) k h1 h2) (ag_c hA 242 rfl rfl) (ag_f hA 240 3 rfl rfl) (ag_c hA 244 rfl rfl) (ag_c hA 245 rfl rfl) (ag_c hA 246 rfl rfl) (ag_f hA 240 6 rfl rfl) (ag_f hA 240 7 rfl rfl) (ag_f hA 240 8 rfl rfl) h.2.1, RTape_cg (ag_f hA 213 1 rfl rfl) (ag_c hA 214 rfl rfl) (ag_f hA 240 14 rfl rfl) (ag_c hA 248 rfl rfl) h.2.2.1, RFlt_cg (ag_f hA 213 7 rfl rfl) (ag_f hA 213 8 rfl rfl) (ag_f hA 240 34 rfl rfl) (ag_f hA 240 35 rfl rfl) h.2.2.2.1, RBox_cg (ag_f hA 238 1 rfl rfl) (ag_c hA 239 rfl rfl) h.2.2.2.2.1, RMisc_cg (ag_f hA 240 5 rfl rfl) (ag_c hA 249 rfl rfl) (ag_f hA 44 1 rfl rfl) (ag_f hA 46 1 rfl rfl) (ag_f hA 50 1 rfl rfl) (ag_f hA 52 1 rfl rfl) (ag_f hA 54 1 rfl rfl) (ag_f hA 56 1 rfl rfl) (ag_f hA 58 1 rfl rfl) h.2.2.2.2.2.1, RPic_cg (ag_f hA 0 2 rfl rfl) (ag_f hA 240 73 rfl rfl) (fun k h1 h2 => ag_cs hA 61 118 (by decide) k h1 h2) (ag_c hA 282 rfl rfl) h.2.2.2.2.2.2⟩
            refine RPl_add (n := n) (by omega) (by omega) r h7 ?_ ?_ (fun j => ?_) (Or.inr ⟨by omega, ?_, ?_⟩)
            · simp only [up_c, up_j, up_s, Nat.reduceEqDiff, not_false_eq_true]
            · simp only [up_c, up_j, up_s, Nat.reduceEqDiff, not_false_eq_true]
            · simp only [up_c, Nat.reduceEqDiff, not_false_eq_true]
              unfold up
              simp only [true_and]
            · simp only [up_c, up_j, up_s, Nat.reduceEqDiff, not_false_eq_true]
            · simp only [up_c, up_j, up_s, Nat.reduceEqDiff, not_false_eq_true]
        · rw [if_neg (by omega)] at E1
          have E2 := E2 I
          rw [if_neg (not_not_intro hc), F I rfl rfl] at E2
          simp only [Option.bind_some, b01] at E2
          rw [if_pos hz] at E2
          simp only [up_j, Nat.reduceEqDiff, not_false_eq_true, r3] at E2
          rw [if_pos (by omega)] at E2
          exact Pair_of h E1 E2 Ag_0
    · refine Pair_of h (I1 := I) (I2 := up I 240 0 0) (r := -1) ?_ ?_ Ag_0
      · rw [E1]
        split
        · rw [s_78 r_50 r1 (show I 50 1 ≤ 12 by omega), if_neg (by omega)]; rfl
        · rfl
      · rw [E2, if_pos hc]
