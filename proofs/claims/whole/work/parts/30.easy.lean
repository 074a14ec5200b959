/-! MORE SIMPLE CALLS -/
theorem q_fault {I : zI} {w : Int} (h : Rl I) : Pair 122 222 [.inl w] I := by
  have r := h.2.2.2.1
  refine Pair_of h (I1 := I) (I2 := up I 240 0 0) (r := if w = 0 then I 213 7 else if w = 1 then I 213 8 else -1) ?_ ?_ Ag_0
  · rw [e_122]; (repeat' split) <;> rfl
  · rw [e_222, r.1, r.2]; (repeat' split) <;> rfl
theorem q_end {I : zI} {n : Int} (h : Rl I) : Pair 120 188 [.inl n] I := by
  have r := h.2.2.1
  obtain ⟨⟨r1, r2, r3⟩, r4⟩ := r
  by_cases hc : 0 ≤ n ∧ n ≤ I 213 1
  · refine ⟨1, up I 213 1 n, up (up (up I 213 1 n) 240 0 0) 240 14 n, ?_, ?_, ?_⟩
    · rw [e_120]
      simp only [s_156, Option.bind_some, b01]
      rw [if_neg (by omega)]
    · rw [e_188]
      simp only [Option.bind_some, b01, up_c, up_j, up_s, Nat.reduceEqDiff, not_false_eq_true, s_158, r1]
      rw [if_neg (by omega)]
    · have hA : Ag [] [(213, 1), (240, 0), (240, 14)] I (up (up (up I 213 1 n) 240 0 0) 240 14 n) := by
        repeat first | exact Ag_rf | refine Ag_up rfl ?_ | refine Ag_uf rfl ?_
      refine ⟨⟨RFirm_cg (ag_c hA 2 rfl rfl) (fun k h1 h2 => ag_cs hA 3 14 (by decide) k h1 h2) (ag_c hA 241 rfl rfl) (ag_c hA 244 rfl rfl) (ag_c hA 245 rfl rfl) (ag_c hA 246 rfl rfl) (ag_f hA 240 6 rfl rfl) (ag_f hA 240 7 rfl rfl) (ag_f hA 240 8 rfl rfl) h.1.1, RBook_cg (ag_f hA 15 4 rfl rfl) (fun k h1 h2 => ag_cs hA 16 19 (by decide) k h1 h2) (ag_f hA 241 2 rfl rfl) (ag_c hA 247 rfl rfl) h.1.2.1, RLaw_cg (ag_f hA 21 4 rfl rfl) (fun k h1 h2 => ag_cs hA 22 26 (by decide) k h1 h2) (ag_f hA 250 0 rfl rfl) (fun l _ => ⟨congrFun (ag_c hA 251 rfl rfl) l, congrFun (ag_c hA 252 rfl rfl) l, congrFun (ag_c hA 253 rfl rfl) l, congrFun (ag_c hA 254 rfl rfl) l⟩) (fun i _ => ⟨congrFun (ag_c hA 255 rfl rfl) i, congrFun (ag_c hA 256 rfl rfl) i⟩) h.1.2.2.1, ROrd_cg (ag_f hA 2 3 rfl rfl) (ag_f hA 2 4 rfl rfl) (ag_f hA 2 5 rfl rfl) (ag_f hA 29 4 rfl rfl) (fun k h1 h2 => ag_cs hA 30 33 (by decide) k h1 h2) (ag_f hA 240 36 rfl rfl) (fun j _ => congrFun (ag_c hA 258 rfl rfl) j) h.1.2.2.2.1, RBird_cg (ag_f hA 34 4 rfl rfl) (fun k h1 h2 => ag_cs hA 35 37 (by decide) k h1 h2) (ag_f hA 240 38 rfl rfl) (fun b _ => ⟨congrFun (ag_c hA 259 rfl rfl) b, congrFun (ag_c hA 260 rfl rfl) b⟩) h.1.2.2.2.2.1, RAft_cg (ag_f hA 2 5 rfl rfl) (ag_f hA 39 4 rfl rfl) (fun k h1 h2 => ag_cs hA 40 41 (by decide) k h1 h2) (ag_f hA 240 41 rfl rfl) (fun e _ => congrFun (ag_c hA 261 rfl rfl) e) h.1.2.2.2.2.2.1, RRow_cg (ag_f hA 44 2 rfl rfl) (ag_c hA 45 rfl rfl) (ag_f hA 240 47 rfl rfl) (ag_c hA 266 rfl rfl) h.1.2.2.2.2.2.2.1, RRow_cg (ag_f hA 46 2 rfl rfl) (ag_c hA 47 rfl rfl) (ag_f hA 240 51 rfl rfl) (ag_c hA 269 rfl rfl) h.1.2.2.2.2.2.2.2.1, RDots_cg (ag_c hA 48 rfl rfl) (ag_c hA 49 rfl rfl) (ag_c hA 272 rfl rfl) (ag_c hA 273 rfl rfl) h.1.2.2.2.2.2.2.2.2.1, RPl_cg (ag_f hA 50 2 rfl rfl) (ag_c hA 51 rfl rfl) (ag_f hA 240 57 rfl rfl) (ag_f hA 240 58 rfl rfl) (ag_f hA 240 59 rfl rfl) h.1.2.2.2.2.2.2.2.2.2.1, RRow_cg (ag_f hA 52 2 rfl rfl) (ag_c hA 53 rfl rfl) (ag_f hA 240 62 rfl rfl) (ag_c hA 276 rfl rfl) h.1.2.2.2.2.2.2.2.2.2.2.1, RLegs_cg (ag_f hA 54 2 rfl rfl) (ag_c hA 55 rfl rfl) (ag_f hA 240 64 rfl rfl) (ag_c hA 277 rfl rfl) h.1.2.2.2.2.2.2.2.2.2.2.2.1, RRow_cg (ag_f hA 56 2 rfl rfl) (ag_c hA 57 rfl rfl) (ag_f hA 240 66 rfl rfl) (ag_c hA 278 rfl rfl) h.1.2.2.2.2.2.2.2.2.2.2.2.2.1, RRow_cg (ag_f hA 58 2 rfl rfl) (ag_c hA 59 rfl rfl) (ag_f hA 240 69 rfl rfl) (ag_c hA 280 rfl rfl) h.1.2.2.2.2.2.2.2.2.2.2.2.2.2⟩, RPast_cg (ag_f hA 119 2 rfl rfl) (ag_f hA 119 3 rfl rfl) (fun k h1 h2 => ag_cs hA 121 199 (by decide) k h1 h2) (ag_c hA 242 rfl rfl) (ag_f hA 240 3 rfl rfl) (ag_c hA 244 rfl rfl) (ag_c hA 245 rfl rfl) (ag_c hA 246 rfl rfl) (ag_f hA 240 6 rfl rfl) (ag_f hA 240 7 rfl rfl) (ag_f hA 240 8 rfl rfl) h.2.1, ?_, RFlt_cg (ag_f hA 213 7 rfl rfl) (ag_f hA 213 8 rfl rfl) (ag_f hA 240 34 rfl rfl) (ag_f hA 240 35 rfl rfl) h.2.2.2.1, RBox_cg (ag_f hA 238 1 rfl rfl) (ag_c hA 239 rfl rfl) h.2.2.2.2.1, RMisc_cg (ag_f hA 240 5 rfl rfl) (ag_c hA 249 rfl rfl) (ag_f hA 44 1 rfl rfl) (ag_f hA 46 1 rfl rfl) (ag_f hA 50 1 rfl rfl) (ag_f hA 52 1 rfl rfl) (ag_f hA 54 1 rfl rfl) (ag_f hA 56 1 rfl rfl) (ag_f hA 58 1 rfl rfl) h.2.2.2.2.2.1, RPic_cg (ag_f hA 0 2 rfl rfl) (ag_f hA 240 73 rfl rfl) (fun k h1 h2 => ag_cs hA 61 118 (by decide) k h1 h2) (ag_c hA 282 rfl rfl) h.2.2.2.2.2.2⟩
      refine ⟨?_, fun j hj => ?_⟩
      · simp only [Option.bind_some, b01, up_c, up_j, up_s, Nat.reduceEqDiff, not_false_eq_true, true_and]
        omega
      · simp only [Option.bind_some, b01, up_c, up_j, up_s, Nat.reduceEqDiff, not_false_eq_true] at hj ⊢
        exact r4 j (by omega)
  · refine Pair_of h (I1 := I) (I2 := up I 240 0 0) (r := 0) ?_ ?_ Ag_0
    · rw [e_120]
      simp only [s_156, Option.bind_some, b01]
      rw [if_pos (by omega)]
    · rw [e_188]
      simp only [Option.bind_some, b01, up_c, up_j, up_s, Nat.reduceEqDiff, not_false_eq_true, s_158, r1]
      rw [if_pos (by omega)]
theorem q_dot {I : zI} {i x y : Int} (h : Rl I) : Pair 139 261 [.inl i, .inl x, .inl y] I := by
  have r := h.1.2.2.2.2.2.2.2.2.1
  by_cases hc : (0 ≤ i ∧ i ≤ 2) ∧ (0 ≤ x ∧ x ≤ 99) ∧ (0 ≤ y ∧ y ≤ 99)
  · refine ⟨1, up (up I 48 i.toNat x) 49 i.toNat y, up (up (up (up (up I 48 i.toNat x) 49 i.toNat y) 240 0 0) 272 i.toNat x) 273 i.toNat y, ?_, ?_, ?_⟩
    · rw [e_139]
      simp only [s_156, Option.bind_some, b01]
      rw [if_neg (by omega), if_neg (by omega), if_neg (by omega), if_pos (by omega), if_pos (by omega)]
    · rw [e_261]
      simp only [s_158, Option.bind_some, b01]
      rw [if_neg (by omega), if_neg (by omega), if_neg (by omega), if_pos (by omega), if_pos (by omega)]
    · have hA : Ag [48, 49, 272, 273] [(240, 0)] I (up (up (up (up (up I 48 i.toNat x) 49 i.toNat y) 240 0 0) 272 i.toNat x) 273 i.toNat y) := by
        repeat first | exact Ag_rf | refine Ag_up rfl ?_ | refine Ag_uf rfl ?_
      refine ⟨⟨RFirm_cg (ag_c hA 2 rfl rfl) (fun k h1 h2 => ag_cs hA 3 14 (by decide) k h1 h2) (ag_c hA 241 rfl rfl) (ag_c hA 244 rfl rfl) (ag_c hA 245 rfl rfl) (ag_c hA 246 rfl rfl) (ag_f hA 240 6 rfl rfl) (ag_f hA 240 7 rfl rfl) (ag_f hA 240 8 rfl rfl) h.1.1, RBook_cg (ag_f hA 15 4 rfl rfl) (fun k h1 h2 => ag_cs hA 16 19 (by decide) k h1 h2) (ag_f hA 241 2 rfl rfl) (ag_c hA 247 rfl rfl) h.1.2.1, RLaw_cg (ag_f hA 21 4 rfl rfl) (fun k h1 h2 => ag_cs hA 22 26 (by decide) k h1 h2) (ag_f hA 250 0 rfl rfl) (fun l _ => ⟨congrFun (ag_c hA 251 rfl rfl) l, congrFun (ag_c hA 252 rfl rfl) l, congrFun (ag_c hA 253 rfl rfl) l, congrFun (ag_c hA 254 rfl rfl) l⟩) (fun i _ => ⟨congrFun (ag_c hA 255 rfl rfl) i, congrFun (ag_c hA 256 rfl rfl) i⟩) h.1.2.2.1, ROrd_cg (ag_f hA 2 3 rfl rfl) (ag_f hA 2 4 rfl rfl) (ag_f hA 2 5 rfl rfl) (ag_f hA 29 4 rfl rfl) (fun k h1 h2 => ag_cs hA 30 33 (by decide) k h1 h2) (ag_f hA 240 36 rfl rfl) (fun j _ => congrFun (ag_c hA 258 rfl rfl) j) h.1.2.2.2.1, RBird_cg (ag_f hA 34 4 rfl rfl) (fun k h1 h2 => ag_cs hA 35 37 (by decide) k h1 h2) (ag_f hA 240 38 rfl rfl) (fun b _ => ⟨congrFun (ag_c hA 259 rfl rfl) b, congrFun (ag_c hA 260 rfl rfl) b⟩) h.1.2.2.2.2.1, RAft_cg (ag_f hA 2 5 rfl rfl) (ag_f hA 39 4 rfl rfl) (fun k h1 h2 => ag_cs hA 40 41 (by decide) k h1 h2) (ag_f hA 240 41 rfl rfl) (fun e _ => congrFun (ag_c hA 261 rfl rfl) e) h.1.2.2.2.2.2.1, RRow_cg (ag_f hA 44 2 rfl rfl) (ag_c hA 45 rfl rfl) (ag_f hA 240 47 rfl rfl) (ag_c hA 266 rfl rfl) h.1.2.2.2.2.2.2.1, RRow_cg (ag_f hA 46 2 rfl rfl) (ag_c hA 47 rfl rfl) (ag_f hA 240 51 rfl rfl) (ag_c hA 269 rfl rfl) h.1.2.2.2.2.2.2.2.1, ?_, RPl_cg (ag_f hA 50 2 rfl rfl) (ag_c hA 51 rfl rfl) (ag_f hA 240 57 rfl rfl) (ag_f hA 240 58 rfl rfl) (ag_f hA 240 59 rfl rfl) h.1.2.2.2.2.2.2.2.2.2.1, RRow_cg (ag_f hA 52 2 rfl rfl) (ag_c hA 53 rfl rfl) (ag_f hA 240 62 rfl rfl) (ag_c hA 276 rfl rfl) h.1.2.2.2.2.2.2.2.2.2.2.1, RLegs_cg (ag_f hA 54 2 rfl rfl) (ag_c hA 55 rfl rfl) (ag_f hA 240 64 rfl rfl) (ag_c hA 277 rfl rfl) h.1.2.2.2.2.2.2.2.2.2.2.2.1, RRow_cg (ag_f hA 56 2 rfl rfl) (ag_c hA 57 rfl rfl) (ag_f hA 240 66 rfl rfl) (ag_c hA 278 rfl rfl) h.1.2.2.2.2.2.2.2.2.2.2.2.2.1, RRow_cg (ag_f hA 58 2 rfl rfl) (ag_c hA 59 rfl rfl) (ag_f hA 240 69 rfl rfl) (ag_c hA 280 rfl rfl) h.1.2.2.2.2.2.2.2.2.2.2.2.2.2⟩, RPast_cg (ag_f hA 119 2 rfl rfl) (ag_f hA 119 3 rfl rfl) (fun k h1 h2 => ag_cs hA 121 199 (by decide) k h1 h2) (ag_c hA 242 rfl rfl) (ag_f hA 240 3 rfl rfl) (ag_c hA 244 rfl rfl) (ag_c hA 245 rfl rfl) (ag_c hA 246 rfl rfl) (ag_f hA 240 6 rfl rfl) (ag_f hA 240 7 rfl rfl) (ag_f hA 240 8 rfl rfl) h.2.1, RTape_cg (ag_f hA 213 1 rfl rfl) (ag_c hA 214 rfl rfl) (ag_f hA 240 14 rfl rfl) (ag_c hA 248 rfl rfl) h.2.2.1, RFlt_cg (ag_f hA 213 7 rfl rfl) (ag_f hA 213 8 rfl rfl) (ag_f hA 240 34 rfl rfl) (ag_f hA 240 35 rfl rfl) h.2.2.2.1, RBox_cg (ag_f hA 238 1 rfl rfl) (ag_c hA 239 rfl rfl) h.2.2.2.2.1, RMisc_cg (ag_f hA 240 5 rfl rfl) (ag_c hA 249 rfl rfl) (ag_f hA 44 1 rfl rfl) (ag_f hA 46 1 rfl rfl) (ag_f hA 50 1 rfl rfl) (ag_f hA 52 1 rfl rfl) (ag_f hA 54 1 rfl rfl) (ag_f hA 56 1 rfl rfl) (ag_f hA 58 1 rfl rfl) h.2.2.2.2.2.1, RPic_cg (ag_f hA 0 2 rfl rfl) (ag_f hA 240 73 rfl rfl) (fun k h1 h2 => ag_cs hA 61 118 (by decide) k h1 h2) (ag_c hA 282 rfl rfl) h.2.2.2.2.2.2⟩
      intro j hj
      have r2 := r j hj
      simp only [Nat.reduceAdd] at r2 ⊢
      by_cases hji : j = i.toNat
      · subst hji
        simp (disch := omega) only [up_c, up_j, up_s, true_and, and_true]
        omega
      · simp (disch := omega) only [up_c, up_j, up_s, true_and, and_true]
        exact r2
  · refine Pair_of h (I1 := I) (I2 := up I 240 0 0) (r := 0) ?_ ?_ Ag_0
    · rw [e_139]
      simp only [s_156, Option.bind_some, b01]
      (repeat' split) <;> first | rfl | (exfalso; omega)
    · rw [e_261]
      simp only [s_158, Option.bind_some, b01]
      (repeat' split) <;> first | rfl | (exfalso; omega)
theorem q_quire {I : zI} {n p w : Int} (h : Rl I) : Pair 138 260 [.inl n, .inl p, .inl w] I := by
  refine Pair_of h (I1 := I) (I2 := up I 240 0 0) (r := if ((1 ≤ n ∧ n ≤ 12) ∧ (1 ≤ p ∧ p ≤ 4 * n)) ∧ (0 ≤ w ∧ w ≤ 2) then (if w = 0 then 4 * n + 1 - p else if w = 1 then (if p % 2 = 0 then p - 1 else p + 1) else if 2 * n < p then (4 * n - p) / 2 else (p - 1) / 2) else -1) ?_ ?_ Ag_0
  · rw [e_138]
    simp only [s_156, Option.bind_some, b01]
    by_cases h1 : 1 ≤ n ∧ n ≤ 12
    · have w4 : wr (4 * n) = 4 * n := wr_id (by omega) (by omega)
      have w2 : wr (2 * n) = 2 * n := wr_id (by omega) (by omega)
      simp only [w4, w2, if_neg (not_not_intro h1)]
      by_cases h2 : 1 ≤ p ∧ p ≤ 4 * n
      · rw [zrem_nn (by omega) (by omega) (by omega) (by omega), wr_id (z := 4 * n + 1) (by omega) (by omega), wr_id (z := 4 * n + 1 - p) (by omega) (by omega), wr_id (z := p - 1) (by omega) (by omega), wr_id (z := p + 1) (by omega) (by omega), wr_id (z := 4 * n - p) (by omega) (by omega), zdiv_nn (x := p - 1) (by omega) (by omega) (by omega) (by omega), if_neg (not_not_intro h2)]
        by_cases h3 : 2 * n < p
        · rw [zdiv_nn (x := 4 * n - p) (by omega) (by omega) (by omega) (by omega)]
          (repeat' split) <;> first | rfl | (exfalso; omega)
        · simp only [if_neg h3]
          (repeat' split) <;> first | rfl | (exfalso; omega)
      · rw [if_pos h2, if_neg (by omega)]
    · rw [if_pos h1, if_neg (by omega)]
  · rw [e_260]
    simp only [s_158, Option.bind_some, b01]
    by_cases h1 : 1 ≤ n ∧ n ≤ 12
    · have w4 : wr (4 * n) = 4 * n := wr_id (by omega) (by omega)
      have w2 : wr (2 * n) = 2 * n := wr_id (by omega) (by omega)
      simp only [w4, w2, if_neg (not_not_intro h1)]
      by_cases h2 : 1 ≤ p ∧ p ≤ 4 * n
      · rw [zrem_nn (by omega) (by omega) (by omega) (by omega), wr_id (z := 4 * n + 1) (by omega) (by omega), wr_id (z := 4 * n + 1 - p) (by omega) (by omega), wr_id (z := p - 1) (by omega) (by omega), wr_id (z := p + 1) (by omega) (by omega), wr_id (z := 4 * n - p) (by omega) (by omega), zdiv_nn (x := p - 1) (by omega) (by omega) (by omega) (by omega), if_neg (not_not_intro h2)]
        by_cases h3 : 2 * n < p
        · rw [zdiv_nn (x := 4 * n - p) (by omega) (by omega) (by omega) (by omega)]
          (repeat' split) <;> first | rfl | (exfalso; omega)
        · simp only [if_neg h3]
          (repeat' split) <;> first | rfl | (exfalso; omega)
      · rw [if_pos h2, if_neg (by omega)]
    · rw [if_pos h1, if_neg (by omega)]
theorem q_book {I : zI} {i w : Int} (h : Rl I) : Pair 126 246 [.inl i, .inl w] I := by
  have r := h.1.2.1
  obtain ⟨⟨r1, r2, r3⟩, r4⟩ := r
  simp only [Nat.reduceAdd] at r4
  refine Pair_of h (I1 := I) (I2 := up I 240 0 0) (r := if (0 ≤ i ∧ i < I 15 4) ∧ (0 ≤ w ∧ w ≤ 3) then (if w = 0 then I 16 i.toNat else if w = 1 then I 17 i.toNat else if w = 2 then I 18 i.toNat else I 19 i.toNat) else -1) ?_ ?_ Ag_0
  · rw [e_126]
    (repeat' split) <;> first | rfl | (exfalso; omega)
  · rw [e_246]
    simp only [Option.bind_some, b01, up_c, up_j, up_s, Nat.reduceEqDiff, not_false_eq_true, s_158, r1]
    rw [wr_id (z := I 15 4 - 1) (by omega) (by omega)]
    by_cases h1 : 0 ≤ i ∧ i ≤ I 15 4 - 1
    · rw [if_neg (not_not_intro h1)]
      by_cases h2 : 0 ≤ w ∧ w ≤ 3
      · have w4 : wr (4 * i) = 4 * i := wr_id (by omega) (by omega)
        have w5 : wr (4 * i + w) = 4 * i + w := wr_id (by omega) (by omega)
        rw [if_neg (not_not_intro h2), w4, w5, if_pos (by omega), if_pos (by omega)]
        obtain ⟨e0, e1, e2, e3⟩ := r4 i.toNat (by omega)
        have hw : w = 0 ∨ w = 1 ∨ w = 2 ∨ w = 3 := by omega
        rcases hw with rfl | rfl | rfl | rfl
        · rw [if_pos rfl, ← e0]; congr 3; omega
        · rw [if_neg (by decide), if_pos rfl, ← e1]; congr 3; omega
        · rw [if_neg (by decide), if_neg (by decide), if_pos rfl, ← e2]; congr 3; omega
        · rw [if_neg (by decide), if_neg (by decide), if_neg (by decide), ← e3]; congr 3; omega
      · rw [if_pos h2, if_neg (by omega)]
    · rw [if_pos h1, if_neg (by omega)]
