/-! A QUILL; SETTING; A CLERK -/
theorem q_of {I : zI} {q w : Int} (h : Rl I) : Pair 123 243 [.inl q, .inl w] I := by
  have r := h.1.1
  have c3 := r.1
  have c4 := r.2.1
  have rb := h.1.2.2.2.2.1
  by_cases hq : 0 ≤ q ∧ q < I 2 3
  · have rq := r.2.2.2.2.2.2.1 q.toNat (by omega)
    simp only [Nat.reduceAdd] at rq
    have E1 := e_123 (d := 59) (I := I) (x1 := q) (x2 := w)
    simp only [s_22 fi_2, Option.bind_some, b01] at E1
    rw [if_neg (by omega)] at E1
    have E2 := e_243 (d := 59) (I := I) (x1 := q) (x2 := w)
    simp only [Option.bind_some, b01, up_c, up_j, up_s, Nat.reduceEqDiff, not_false_eq_true, s_172, s_158, c3.1] at E2
    rw [if_neg (by omega)] at E2
    have i14 : 0 ≤ q ∧ q < 14 := by omega
    by_cases h0 : w = 0
    · subst h0
      simp only [Int.reduceEq, if_true, if_false, i14, and_self] at E1 E2
      exact Pair_of h E1 (by rw [E2, rq.1.1]) Ag_0
    · rw [if_neg h0] at E2
      by_cases hw : 1 ≤ w ∧ w ≤ 3
      · rw [if_neg (by omega)] at E2
        have hw2 : w = 1 ∨ w = 2 ∨ w = 3 := by omega
        rcases hw2 with rfl | rfl | rfl
        · rw [wr_id (z := 1 - 1) (by omega) (by omega), wr_id (z := 14 * (1 - 1)) (by omega) (by omega), wr_id (z := 4 + 14 * (1 - 1)) (by omega) (by omega), wr_id (z := 4 + 14 * (1 - 1) + q) (by omega) (by omega), if_pos (by omega), show (4 + 14 * (1 - 1) + q).toNat = 4 + q.toNat by omega] at E2
          simp only [Int.reduceEq, if_true, if_false, i14, and_self] at E1
          exact Pair_of h E1 (by rw [E2, rq.2.1.1]) Ag_0
        · rw [wr_id (z := 2 - 1) (by omega) (by omega), wr_id (z := 14 * (2 - 1)) (by omega) (by omega), wr_id (z := 4 + 14 * (2 - 1)) (by omega) (by omega), wr_id (z := 4 + 14 * (2 - 1) + q) (by omega) (by omega), if_pos (by omega), show (4 + 14 * (2 - 1) + q).toNat = 18 + q.toNat by omega] at E2
          simp only [Int.reduceEq, if_true, if_false, i14, and_self] at E1
          exact Pair_of h E1 (by rw [E2, rq.2.2.1.1]) Ag_0
        · rw [wr_id (z := 3 - 1) (by omega) (by omega), wr_id (z := 14 * (3 - 1)) (by omega) (by omega), wr_id (z := 4 + 14 * (3 - 1)) (by omega) (by omega), wr_id (z := 4 + 14 * (3 - 1) + q) (by omega) (by omega), if_pos (by omega), show (4 + 14 * (3 - 1) + q).toNat = 32 + q.toNat by omega] at E2
          simp only [Int.reduceEq, if_true, if_false, i14, and_self] at E1
          exact Pair_of h E1 (by rw [E2, rq.2.2.2.1]) Ag_0
      · rw [if_pos (by omega)] at E2
        by_cases h4 : w = 4
        · subst h4
          simp only [Int.reduceEq, if_true, if_false, s_27 fi_2 c4.2.1 c4.2.2, Option.bind_some] at E1
          simp only [Int.reduceEq, if_true, if_false] at E2
          rw [s_179 (by simp only [Option.bind_some, b01, up_c, up_j, up_s, Nat.reduceEqDiff, not_false_eq_true]; omega) (by simp only [Option.bind_some, b01, up_c, up_j, up_s, Nat.reduceEqDiff, not_false_eq_true]; omega) (fun c hc => ?_)] at E2
          · simp only [Option.bind_some, b01, up_c, up_j, up_s, Nat.reduceEqDiff, not_false_eq_true] at E2
            refine Pair_of h E1 ?_ Ag_0
            rw [E2, c4.1]
            refine congrArg some (Prod.ext ?_ rfl)
            refine zfd_cg _ _ fun k _ hk => ?_
            have h2 := r.2.2.2.2.2.2.2.1 k (by omega)
            rw [h2.2.1.1, Int.add_sub_cancel]
          · simp only [Option.bind_some, b01, up_c, up_j, up_s, Nat.reduceEqDiff, not_false_eq_true] at hc ⊢
            have h2 := r.2.2.2.2.2.2.2.1 c (by omega)
            omega
        · by_cases h5 : w = 5
          · subst h5
            simp only [Int.reduceEq, if_true, if_false, i14, and_self, s_10 rb.1.2.1 rb.1.2.2, Option.bind_some] at E1
            simp only [Int.reduceEq, if_true, if_false, i14, and_self, rq.1.1] at E2
            rw [if_pos (by omega), (rb.2.2 (I 3 q.toNat).toNat (by omega)).1, show (((I 3 q.toNat).toNat : Nat) : Int) = I 3 q.toNat by omega] at E2
            exact Pair_of h E1 E2 Ag_0
          · by_cases h6 : w = 6
            · subst h6
              have h26 := (rb.2.2 (I 3 q.toNat).toNat (by omega)).2
              have hz := zlast_rg (f := I (34 + 1)) (s := I (34 + 3)) (b := ((I 3 q.toNat).toNat : Int)) (df := 5) (lo := 0) (hi := 9) (by omega) (I 34 4).toNat (fun k hk => (rb.2.1 k (by omega)).2)
              simp only [Int.reduceEq, if_true, if_false, i14, and_self, s_11 rb.1.2.1 rb.1.2.2, Option.bind_some] at E1
              simp only [Int.reduceEq, if_true, if_false, i14, and_self, rq.1.1] at E2
              rw [s_226 (by omega) (by omega) (by simp only [Option.bind_some, b01, up_c, up_j, up_s, Nat.reduceEqDiff, not_false_eq_true]; omega) (by simp only [Option.bind_some, b01, up_c, up_j, up_s, Nat.reduceEqDiff, not_false_eq_true]; omega)] at E2
              simp only [Option.bind_some, b01, up_c, up_j, up_s, Nat.reduceEqDiff, not_false_eq_true] at E2
              rw [h26, show (((I 3 q.toNat).toNat : Nat) : Int) = I 3 q.toNat by omega] at E2
              exact Pair_of h E1 E2 Ag_0
            · simp only [if_neg h0, if_neg h4, if_neg h5, if_neg h6, show ¬ w = 1 by omega, show ¬ w = 2 by omega, show ¬ w = 3 by omega, if_false] at E1 E2
              exact Pair_of h E1 E2 Ag_0
  · refine Pair_of h (I1 := I) (I2 := up I 240 0 0) (r := -2) ?_ ?_ Ag_0
    · rw [e_123]
      simp only [s_22 fi_2, Option.bind_some, b01]
      rw [if_pos (by omega)]
    · rw [e_243]
      simp only [Option.bind_some, b01, up_c, up_j, up_s, Nat.reduceEqDiff, not_false_eq_true, s_172, c3.1]
      rw [if_pos (by omega)]
theorem s_116 {d : Nat} {I : zI} {w c v : Int} : cl (d + 2) 116 [.inr (some 0), .inl w, .inl c, .inl v] I =
    if w = 0 ∧ (0 ≤ c ∧ c < I 2 3 ∧ c < 14) ∧ (0 ≤ v ∧ v ≤ 99) then some (1, up (up I 4 c.toNat v) 119 3 0)
    else if w = 1 ∧ (0 ≤ c ∧ c < I 2 3 ∧ c < 14) ∧ (0 ≤ v ∧ v ≤ 99) then some (1, up (up I 5 c.toNat v) 119 3 0)
    else if w = 2 ∧ (0 ≤ c ∧ c < I 2 4 ∧ c < 10) ∧ (0 ≤ v ∧ v ≤ 9) then some (1, up (up I 7 c.toNat v) 119 3 0) else some (0, I) := by
  have L39 : zD (d + 2) 116 39 [some (.inr (some 0)), some (.inl w), some (.inl c), some (.inl v), some (.inr (some 2))] [] I = if w = 2 ∧ (0 ≤ c ∧ c < I 2 4 ∧ c < 10) ∧ (0 ≤ v ∧ v ≤ 9) then some (1, up (up I 7 c.toNat v) 119 3 0) else some (0, I) := by
    rw [e_116_39]
    simp only [s_23 fi_2, s_156, s_50, Option.bind_some, b01]
    (repeat' split) <;> first | rfl | (exfalso; omega)
  have L21 : zD (d + 2) 116 21 [some (.inr (some 0)), some (.inl w), some (.inl c), some (.inl v), some (.inr (some 2))] [] I = if w = 1 ∧ (0 ≤ c ∧ c < I 2 3 ∧ c < 14) ∧ (0 ≤ v ∧ v ≤ 99) then some (1, up (up I 5 c.toNat v) 119 3 0) else if w = 2 ∧ (0 ≤ c ∧ c < I 2 4 ∧ c < 10) ∧ (0 ≤ v ∧ v ≤ 9) then some (1, up (up I 7 c.toNat v) 119 3 0) else some (0, I) := by
    rw [e_116_21]
    simp only [s_22 fi_2, s_156, s_50, Option.bind_some, b01, L39]
    (repeat' split) <;> first | rfl | (exfalso; omega)
  rw [e_116]
  simp only [s_22 fi_2, s_156, s_50, Option.bind_some, b01, L21]
  (repeat' split) <;> first | rfl | (exfalso; omega)
theorem s_185 {d : Nat} {I : zI} {w c v : Int} (h6 : I 240 6 ≤ 14) (h7 : I 240 7 ≤ 10) : cl (d + 2) 185 [.inr (some 240), .inl w, .inl c, .inl v] I =
    if w = 0 ∧ (0 ≤ c ∧ c < I 240 6) ∧ (0 ≤ v ∧ v ≤ 99) then some (1, up (up (up I 240 0 0) 241 (4 + c.toNat) v) 240 3 0)
    else if w = 1 ∧ (0 ≤ c ∧ c < I 240 6) ∧ (0 ≤ v ∧ v ≤ 99) then some (1, up (up (up I 240 0 0) 241 (18 + c.toNat) v) 240 3 0)
    else if w = 2 ∧ (0 ≤ c ∧ c < I 240 7) ∧ (0 ≤ v ∧ v ≤ 9) then some (1, up (up (up I 240 0 0) 245 c.toNat v) 240 3 0) else some (0, up I 240 0 0) := by
  rw [e_185]
  simp only [Option.bind_some, b01, up_c, up_j, up_s, Nat.reduceEqDiff, not_false_eq_true, s_172, s_173, s_158, e_185_18, e_185_38, e_185_63]
  by_cases h2 : w = 2
  · simp only [h2, Int.reduceEq, if_true, if_false, true_and, false_and]
    by_cases hc : 0 ≤ c ∧ c < I 240 7
    · have i10 : 0 ≤ c ∧ c < 10 := by omega
      simp only [hc, i10, and_self, not_true_eq_false, if_false, if_true, true_and]
      (repeat' split) <;> first | rfl | (exfalso; omega)
    · simp only [hc, not_false_eq_true, if_true, false_and, if_false]
  · simp only [h2, if_false, false_and]
    by_cases hc : 0 ≤ c ∧ c < I 240 6
    · have w4 : wr (4 + c) = 4 + c := wr_id (by omega) (by omega)
      have w18 : wr (18 + c) = 18 + c := wr_id (by omega) (by omega)
      have t4 : (4 + c).toNat = 4 + c.toNat := by omega
      have t18 : (18 + c).toNat = 18 + c.toNat := by omega
      have i4 : 0 ≤ 4 + c ∧ 4 + c < 110 := by omega
      have i18 : 0 ≤ 18 + c ∧ 18 + c < 110 := by omega
      simp only [hc, w4, w18, t4, t18, i4, i18, and_self, not_true_eq_false, if_false, if_true, true_and]
      (repeat' split) <;> first | rfl | (exfalso; omega)
    · simp only [hc, not_false_eq_true, if_true, false_and, and_false, if_false]
      (repeat' split) <;> first | rfl | (exfalso; omega)
theorem q_set {I : zI} {w c v : Int} (h : Rl I) : Pair 116 185 [.inl w, .inl c, .inl v] I := by
  have r := h.1.1
  have c3 := r.1
  have c4 := r.2.1
  by_cases h0 : w = 0 ∧ (0 ≤ c ∧ c < I 2 3) ∧ (0 ≤ v ∧ v ≤ 99)
  · refine ⟨1, up (up I 4 c.toNat v) 119 3 0, up (up (up (up (up I 4 c.toNat v) 119 3 0) 240 0 0) 241 (4 + c.toNat) v) 240 3 0, ?_, ?_, ?_⟩
    · rw [s_116, if_pos (by omega)]
    · rw [s_185 (by simp only [Option.bind_some, b01, up_c, up_j, up_s, Nat.reduceEqDiff, not_false_eq_true]; omega) (by simp only [Option.bind_some, b01, up_c, up_j, up_s, Nat.reduceEqDiff, not_false_eq_true]; omega)]
      simp only [Option.bind_some, b01, up_c, up_j, up_s, Nat.reduceEqDiff, not_false_eq_true, c3.1, c4.1]
      rw [if_pos (by omega)]
    · have hA : Ag [4, 241] [(119, 3), (240, 0), (240, 3)] I (up (up (up (up (up I 4 c.toNat v) 119 3 0) 240 0 0) 241 (4 + c.toNat) v) 240 3 0) := by
        repeat first | exact Ag_rf | refine Ag_up rfl ?_ | refine Ag_uf rfl ?_
      refine ⟨⟨?_, ?_, RLaw_cg (ag_f hA 21 4 rfl rfl) (fun k h1 h2 => ag_cs hA 22 26 (by decide) k h1 h2) (ag_f hA 250 0 rfl rfl) (fun l _ => ⟨congrFun (ag_c hA 251 rfl rfl) l, congrFun (ag_c hA 252 rfl rfl) l, congrFun (ag_c hA 253 rfl rfl) l, congrFun (ag_c hA 254 rfl rfl) l⟩) (fun i _ => ⟨congrFun (ag_c hA 255 rfl rfl) i, congrFun (ag_c hA 256 rfl rfl) i⟩) h.1.2.2.1, ROrd_cg (ag_f hA 2 3 rfl rfl) (ag_f hA 2 4 rfl rfl) (ag_f hA 2 5 rfl rfl) (ag_f hA 29 4 rfl rfl) (fun k h1 h2 => ag_cs hA 30 33 (by decide) k h1 h2) (ag_f hA 240 36 rfl rfl) (fun j _ => congrFun (ag_c hA 258 rfl rfl) j) h.1.2.2.2.1, RBird_cg (ag_f hA 34 4 rfl rfl) (fun k h1 h2 => ag_cs hA 35 37 (by decide) k h1 h2) (ag_f hA 240 38 rfl rfl) (fun b _ => ⟨congrFun (ag_c hA 259 rfl rfl) b, congrFun (ag_c hA 260 rfl rfl) b⟩) h.1.2.2.2.2.1, RAft_cg (ag_f hA 2 5 rfl rfl) (ag_f hA 39 4 rfl rfl) (fun k h1 h2 => ag_cs hA 40 41 (by decide) k h1 h2) (ag_f hA 240 41 rfl rfl) (fun e _ => congrFun (ag_c hA 261 rfl rfl) e) h.1.2.2.2.2.2.1, RRow_cg (ag_f hA 44 2 rfl rfl) (ag_c hA 45 rfl rfl) (ag_f hA 240 47 rfl rfl) (ag_c hA 266 rfl rfl) h.1.2.2.2.2.2.2.1, RRow_cg (ag_f hA 46 2 rfl rfl) (ag_c hA 47 rfl rfl) (ag_f hA 240 51 rfl rfl) (ag_c hA 269 rfl rfl) h.1.2.2.2.2.2.2.2.1, RDots_cg (ag_c hA 48 rfl rfl) (ag_c hA 49 rfl rfl) (ag_c hA 272 rfl rfl) (ag_c hA 273 rfl rfl) h.1.2.2.2.2.2.2.2.2.1, RPl_cg (ag_f hA 50 2 rfl rfl) (ag_c hA 51 rfl rfl) (ag_f hA 240 57 rfl rfl) (ag_f hA 240 58 rfl rfl) (ag_f hA 240 59 rfl rfl) h.1.2.2.2.2.2.2.2.2.2.1, RRow_cg (ag_f hA 52 2 rfl rfl) (ag_c hA 53 rfl rfl) (ag_f hA 240 62 rfl rfl) (ag_c hA 276 rfl rfl) h.1.2.2.2.2.2.2.2.2.2.2.1, RLegs_cg (ag_f hA 54 2 rfl rfl) (ag_c hA 55 rfl rfl) (ag_f hA 240 64 rfl rfl) (ag_c hA 277 rfl rfl) h.1.2.2.2.2.2.2.2.2.2.2.2.1, RRow_cg (ag_f hA 56 2 rfl rfl) (ag_c hA 57 rfl rfl) (ag_f hA 240 66 rfl rfl) (ag_c hA 278 rfl rfl) h.1.2.2.2.2.2.2.2.2.2.2.2.2.1, RRow_cg (ag_f hA 58 2 rfl rfl) (ag_c hA 59 rfl rfl) (ag_f hA 240 69 rfl rfl) (ag_c hA 280 rfl rfl) h.1.2.2.2.2.2.2.2.2.2.2.2.2.2⟩, ?_, RTape_cg (ag_f hA 213 1 rfl rfl) (ag_c hA 214 rfl rfl) (ag_f hA 240 14 rfl rfl) (ag_c hA 248 rfl rfl) h.2.2.1, RFlt_cg (ag_f hA 213 7 rfl rfl) (ag_f hA 213 8 rfl rfl) (ag_f hA 240 34 rfl rfl) (ag_f hA 240 35 rfl rfl) h.2.2.2.1, RBox_cg (ag_f hA 238 1 rfl rfl) (ag_c hA 239 rfl rfl) h.2.2.2.2.1, RMisc_cg (ag_f hA 240 5 rfl rfl) (ag_c hA 249 rfl rfl) (ag_f hA 44 1 rfl rfl) (ag_f hA 46 1 rfl rfl) (ag_f hA 50 1 rfl rfl) (ag_f hA 52 1 rfl rfl) (ag_f hA 54 1 rfl rfl) (ag_f hA 56 1 rfl rfl) (ag_f hA 58 1 rfl rfl) h.2.2.2.2.2.1, RPic_cg (ag_f hA 0 2 rfl rfl) (ag_f hA 240 73 rfl rfl) (fun k h1 h2 => ag_cs hA 61 118 (by decide) k h1 h2) (ag_c hA 282 rfl rfl) h.2.2.2.2.2.2⟩
      · unfold RFirm at r ⊢
        obtain ⟨a1, a2, a3, a4, a5, a6, a7, a8, a9⟩ := r
        simp only [Nat.reduceAdd] at a7 a8 a9
        simp only [up_c, up_s, Nat.reduceAdd, Nat.reduceEqDiff, not_false_eq_true]
        try simp (disch := omega) only [up_c, up_j, up_s, true_and, and_true]
        refine ⟨by omega, by omega, by omega, by omega, by omega, by omega, fun q hq => ?_, fun q hq => ?_, fun q hq => ?_⟩
        · by_cases hq2 : q = c.toNat
          · subst hq2
            try simp (disch := omega) only [up_c, up_j, up_s, true_and, and_true]
            first | omega | (have := a7 c.toNat (by omega); omega)
          · try simp (disch := omega) only [up_c, up_j, up_s, true_and, and_true]
            have := a7 q (by omega); omega
        · by_cases hq2 : q = c.toNat
          · subst hq2
            try simp (disch := omega) only [up_c, up_j, up_s, true_and, and_true]
            first | omega | (have := a8 c.toNat (by omega); omega)
          · try simp (disch := omega) only [up_c, up_j, up_s, true_and, and_true]
            have := a8 q (by omega); omega
        · by_cases hq2 : q = c.toNat
          · subst hq2
            try simp (disch := omega) only [up_c, up_j, up_s, true_and, and_true]
            first | omega | (have := a9 c.toNat (by omega); omega)
          · try simp (disch := omega) only [up_c, up_j, up_s, true_and, and_true]
            have := a9 q (by omega); omega
      · have rb := h.1.2.1
        unfold RBook at rb ⊢
        simp only [Nat.reduceAdd] at rb
        simp only [up_c, up_s, Nat.reduceAdd, Nat.reduceEqDiff, not_false_eq_true]
        try simp (disch := omega) only [up_c, up_j, up_s, true_and, and_true]
        exact rb
      · have rp := h.2.1
        refine ⟨?_, ?_, fun k hk => ?_⟩
        · simp only [up, Nat.reduceAdd, Nat.reduceEqDiff, false_and, true_and, and_true, and_false, if_false, if_true, reduceIte]; exact rp.1
        · simp only [up, Nat.reduceAdd, Nat.reduceEqDiff, false_and, true_and, and_true, and_false, if_false, if_true, reduceIte]; omega
        · simp only [up, Nat.reduceAdd, Nat.reduceEqDiff, false_and, true_and, and_true, and_false, if_false, if_true, reduceIte] at hk; omega
  by_cases h1 : w = 1 ∧ (0 ≤ c ∧ c < I 2 3) ∧ (0 ≤ v ∧ v ≤ 99)
  · refine ⟨1, up (up I 5 c.toNat v) 119 3 0, up (up (up (up (up I 5 c.toNat v) 119 3 0) 240 0 0) 241 (18 + c.toNat) v) 240 3 0, ?_, ?_, ?_⟩
    · rw [s_116, if_neg (by omega), if_pos (by omega)]
    · rw [s_185 (by simp only [Option.bind_some, b01, up_c, up_j, up_s, Nat.reduceEqDiff, not_false_eq_true]; omega) (by simp only [Option.bind_some, b01, up_c, up_j, up_s, Nat.reduceEqDiff, not_false_eq_true]; omega)]
      simp only [Option.bind_some, b01, up_c, up_j, up_s, Nat.reduceEqDiff, not_false_eq_true, c3.1, c4.1]
      rw [if_neg (by omega), if_pos (by omega)]
    · have hA : Ag [5, 241] [(119, 3), (240, 0), (240, 3)] I (up (up (up (up (up I 5 c.toNat v) 119 3 0) 240 0 0) 241 (18 + c.toNat) v) 240 3 0) := by
        repeat first | exact Ag_rf | refine Ag_up rfl ?_ | refine Ag_uf rfl ?_
      refine ⟨⟨?_, ?_, RLaw_cg (ag_f hA 21 4 rfl rfl) (fun k h1 h2 => ag_cs hA 22 26 (by decide) k h1 h2) (ag_f hA 250 0 rfl rfl) (fun l _ => ⟨congrFun (ag_c hA 251 rfl rfl) l, congrFun (ag_c hA 252 rfl rfl) l, congrFun (ag_c hA 253 rfl rfl) l, congrFun (ag_c hA 254 rfl rfl) l⟩) (fun i _ => ⟨congrFun (ag_c hA 255 rfl rfl) i, congrFun (ag_c hA 256 rfl rfl) i⟩) h.1.2.2.1, ROrd_cg (ag_f hA 2 3 rfl rfl) (ag_f hA 2 4 rfl rfl) (ag_f hA 2 5 rfl rfl) (ag_f hA 29 4 rfl rfl) (fun k h1 h2 => ag_cs hA 30 33 (by decide) k h1 h2) (ag_f hA 240 36 rfl rfl) (fun j _ => congrFun (ag_c hA 258 rfl rfl) j) h.1.2.2.2.1, RBird_cg (ag_f hA 34 4 rfl rfl) (fun k h1 h2 => ag_cs hA 35 37 (by decide) k h1 h2) (ag_f hA 240 38 rfl rfl) (fun b _ => ⟨congrFun (ag_c hA 259 rfl rfl) b, congrFun (ag_c hA 260 rfl rfl) b⟩) h.1.2.2.2.2.1, RAft_cg (ag_f hA 2 5 rfl rfl) (ag_f hA 39 4 rfl rfl) (fun k h1 h2 => ag_cs hA 40 41 (by decide) k h1 h2) (ag_f hA 240 41 rfl rfl) (fun e _ => congrFun (ag_c hA 261 rfl rfl) e) h.1.2.2.2.2.2.1, RRow_cg (ag_f hA 44 2 rfl rfl) (ag_c hA 45 rfl rfl) (ag_f hA 240 47 rfl rfl) (ag_c hA 266 rfl rfl) h.1.2.2.2.2.2.2.1, RRow_cg (ag_f hA 46 2 rfl rfl) (ag_c hA 47 rfl rfl) (ag_f hA 240 51 rfl rfl) (ag_c hA 269 rfl rfl) h.1.2.2.2.2.2.2.2.1, RDots_cg (ag_c hA 48 rfl rfl) (ag_c hA 49 rfl rfl) (ag_c hA 272 rfl rfl) (ag_c hA 273 rfl rfl) h.1.2.2.2.2.2.2.2.2.1, RPl_cg (ag_f hA 50 2 rfl rfl) (ag_c hA 51 rfl rfl) (ag_f hA 240 57 rfl rfl) (ag_f hA 240 58 rfl rfl) (ag_f hA 240 59 rfl rfl) h.1.2.2.2.2.2.2.2.2.2.1, RRow_cg (ag_f hA 52 2 rfl rfl) (ag_c hA 53 rfl rfl) (ag_f hA 240 62 rfl rfl) (ag_c hA 276 rfl rfl) h.1.2.2.2.2.2.2.2.2.2.2.1, RLegs_cg (ag_f hA 54 2 rfl rfl) (ag_c hA 55 rfl rfl) (ag_f hA 240 64 rfl rfl) (ag_c hA 277 rfl rfl) h.1.2.2.2.2.2.2.2.2.2.2.2.1, RRow_cg (ag_f hA 56 2 rfl rfl) (ag_c hA 57 rfl rfl) (ag_f hA 240 66 rfl rfl) (ag_c hA 278 rfl rfl) h.1.2.2.2.2.2.2.2.2.2.2.2.2.1, RRow_cg (ag_f hA 58 2 rfl rfl) (ag_c hA 59 rfl rfl) (ag_f hA 240 69 rfl rfl) (ag_c hA 280 rfl rfl) h.1.2.2.2.2.2.2.2.2.2.2.2.2.2⟩, ?_, RTape_cg (ag_f hA 213 1 rfl rfl) (ag_c hA 214 rfl rfl) (ag_f hA 240 14 rfl rfl) (ag_c hA 248 rfl rfl) h.2.2.1, RFlt_cg (ag_f hA 213 7 rfl rfl) (ag_f hA 213 8 rfl rfl) (ag_f hA 240 34 rfl rfl) (ag_f hA 240 35 rfl rfl) h.2.2.2.1, RBox_cg (ag_f hA 238 1 rfl rfl) (ag_c hA 239 rfl rfl) h.2.2.2.2.1, RMisc_cg (ag_f hA 240 5 rfl rfl) (ag_c hA 249 rfl rfl) (ag_f hA 44 1 rfl rfl) (ag_f hA 46 1 rfl rfl) (ag_f hA 50 1 rfl rfl) (ag_f hA 52 1 rfl rfl) (ag_f hA 54 1 rfl rfl) (ag_f hA 56 1 rfl rfl) (ag_f hA 58 1 rfl rfl) h.2.2.2.2.2.1, RPic_cg (ag_f hA 0 2 rfl rfl) (ag_f hA 240 73 rfl rfl) (fun k h1 h2 => ag_cs hA 61 118 (by decide) k h1 h2) (ag_c hA 282 rfl rfl) h.2.2.2.2.2.2⟩
      · unfold RFirm at r ⊢
        obtain ⟨a1, a2, a3, a4, a5, a6, a7, a8, a9⟩ := r
        simp only [Nat.reduceAdd] at a7 a8 a9
        simp only [up_c, up_s, Nat.reduceAdd, Nat.reduceEqDiff, not_false_eq_true]
        try simp (disch := omega) only [up_c, up_j, up_s, true_and, and_true]
        refine ⟨by omega, by omega, by omega, by omega, by omega, by omega, fun q hq => ?_, fun q hq => ?_, fun q hq => ?_⟩
        · by_cases hq2 : q = c.toNat
          · subst hq2
            try simp (disch := omega) only [up_c, up_j, up_s, true_and, and_true]
            first | omega | (have := a7 c.toNat (by omega); omega)
          · try simp (disch := omega) only [up_c, up_j, up_s, true_and, and_true]
            have := a7 q (by omega); omega
        · by_cases hq2 : q = c.toNat
          · subst hq2
            try simp (disch := omega) only [up_c, up_j, up_s, true_and, and_true]
            first | omega | (have := a8 c.toNat (by omega); omega)
          · try simp (disch := omega) only [up_c, up_j, up_s, true_and, and_true]
            have := a8 q (by omega); omega
        · by_cases hq2 : q = c.toNat
          · subst hq2
            try simp (disch := omega) only [up_c, up_j, up_s, true_and, and_true]
            first | omega | (have := a9 c.toNat (by omega); omega)
          · try simp (disch := omega) only [up_c, up_j, up_s, true_and, and_true]
            have := a9 q (by omega); omega
      · have rb := h.1.2.1
        unfold RBook at rb ⊢
        simp only [Nat.reduceAdd] at rb
        simp only [up_c, up_s, Nat.reduceAdd, Nat.reduceEqDiff, not_false_eq_true]
        try simp (disch := omega) only [up_c, up_j, up_s, true_and, and_true]
        exact rb
      · have rp := h.2.1
        refine ⟨?_, ?_, fun k hk => ?_⟩
        · simp only [up, Nat.reduceAdd, Nat.reduceEqDiff, false_and, true_and, and_true, and_false, if_false, if_true, reduceIte]; exact rp.1
        · simp only [up, Nat.reduceAdd, Nat.reduceEqDiff, false_and, true_and, and_true, and_false, if_false, if_true, reduceIte]; omega
        · simp only [up, Nat.reduceAdd, Nat.reduceEqDiff, false_and, true_and, and_true, and_false, if_false, if_true, reduceIte] at hk; omega
  by_cases h2 : w = 2 ∧ (0 ≤ c ∧ c < I 2 4) ∧ (0 ≤ v ∧ v ≤ 9)
  · refine ⟨1, up (up I 7 c.toNat v) 119 3 0, up (up (up (up (up I 7 c.toNat v) 119 3 0) 240 0 0) 245 c.toNat v) 240 3 0, ?_, ?_, ?_⟩
    · rw [s_116, if_neg (by omega), if_neg (by omega), if_pos (by omega)]
    · rw [s_185 (by simp only [Option.bind_some, b01, up_c, up_j, up_s, Nat.reduceEqDiff, not_false_eq_true]; omega) (by simp only [Option.bind_some, b01, up_c, up_j, up_s, Nat.reduceEqDiff, not_false_eq_true]; omega)]
      simp only [Option.bind_some, b01, up_c, up_j, up_s, Nat.reduceEqDiff, not_false_eq_true, c3.1, c4.1]
      rw [if_neg (by omega), if_neg (by omega), if_pos (by omega)]
    · have hA : Ag [7, 245] [(119, 3), (240, 0), (240, 3)] I (up (up (up (up (up I 7 c.toNat v) 119 3 0) 240 0 0) 245 c.toNat v) 240 3 0) := by
        repeat first | exact Ag_rf | refine Ag_up rfl ?_ | refine Ag_uf rfl ?_
      refine ⟨⟨?_, RBook_cg (ag_f hA 15 4 rfl rfl) (fun k h1 h2 => ag_cs hA 16 19 (by decide) k h1 h2) (ag_f hA 241 2 rfl rfl) (ag_c hA 247 rfl rfl) h.1.2.1, RLaw_cg (ag_f hA 21 4 rfl rfl) (fun k h1 h2 => ag_cs hA 22 26 (by decide) k h1 h2) (ag_f hA 250 0 rfl rfl) (fun l _ => ⟨congrFun (ag_c hA 251 rfl rfl) l, congrFun (ag_c hA 252 rfl rfl) l, congrFun (ag_c hA 253 rfl rfl) l, congrFun (ag_c hA 254 rfl rfl) l⟩) (fun i _ => ⟨congrFun (ag_c hA 255 rfl rfl) i, congrFun (ag_c hA 256 rfl rfl) i⟩) h.1.2.2.1, ROrd_cg (ag_f hA 2 3 rfl rfl) (ag_f hA 2 4 rfl rfl) (ag_f hA 2 5 rfl rfl) (ag_f hA 29 4 rfl rfl) (fun k h1 h2 => ag_cs hA 30 33 (by decide) k h1 h2) (ag_f hA 240 36 rfl rfl) (fun j _ => congrFun (ag_c hA 258 rfl rfl) j) h.1.2.2.2.1, RBird_cg (ag_f hA 34 4 rfl rfl) (fun k h1 h2 => ag_cs hA 35 37 (by decide) k h1 h2) (ag_f hA 240 38 rfl rfl) (fun b _ => ⟨congrFun (ag_c hA 259 rfl rfl) b, congrFun (ag_c hA 260 rfl rfl) b⟩) h.1.2.2.2.2.1, RAft_cg (ag_f hA 2 5 rfl rfl) (ag_f hA 39 4 rfl rfl) (fun k h1 h2 => ag_cs hA 40 41 (by decide) k h1 h2) (ag_f hA 240 41 rfl rfl) (fun e _ => congrFun (ag_c hA 261 rfl rfl) e) h.1.2.2.2.2.2.1, RRow_cg (ag_f hA 44 2 rfl rfl) (ag_c hA 45 rfl rfl) (ag_f hA 240 47 rfl rfl) (ag_c hA 266 rfl rfl) h.1.2.2.2.2.2.2.1, RRow_cg (ag_f hA 46 2 rfl rfl) (ag_c hA 47 rfl rfl) (ag_f hA 240 51 rfl rfl) (ag_c hA 269 rfl rfl) h.1.2.2.2.2.2.2.2.1, RDots_cg (ag_c hA 48 rfl rfl) (ag_c hA 49 rfl rfl) (ag_c hA 272 rfl rfl) (ag_c hA 273 rfl rfl) h.1.2.2.2.2.2.2.2.2.1, RPl_cg (ag_f hA 50 2 rfl rfl) (ag_c hA 51 rfl rfl) (ag_f hA 240 57 rfl rfl) (ag_f hA 240 58 rfl rfl) (ag_f hA 240 59 rfl rfl) h.1.2.2.2.2.2.2.2.2.2.1, RRow_cg (ag_f hA 52 2 rfl rfl) (ag_c hA 53 rfl rfl) (ag_f hA 240 62 rfl rfl) (ag_c hA 276 rfl rfl) h.1.2.2.2.2.2.2.2.2.2.2.1, RLegs_cg (ag_f hA 54 2 rfl rfl) (ag_c hA 55 rfl rfl) (ag_f hA 240 64 rfl rfl) (ag_c hA 277 rfl rfl) h.1.2.2.2.2.2.2.2.2.2.2.2.1, RRow_cg (ag_f hA 56 2 rfl rfl) (ag_c hA 57 rfl rfl) (ag_f hA 240 66 rfl rfl) (ag_c hA 278 rfl rfl) h.1.2.2.2.2.2.2.2.2.2.2.2.2.1, RRow_cg (ag_f hA 58 2 rfl rfl) (ag_c hA 59 rfl rfl) (ag_f hA 240 69 rfl rfl) (ag_c hA 280 rfl rfl) h.1.2.2.2.2.2.2.2.2.2.2.2.2.2⟩, ?_, RTape_cg (ag_f hA 213 1 rfl rfl) (ag_c hA 214 rfl rfl) (ag_f hA 240 14 rfl rfl) (ag_c hA 248 rfl rfl) h.2.2.1, RFlt_cg (ag_f hA 213 7 rfl rfl) (ag_f hA 213 8 rfl rfl) (ag_f hA 240 34 rfl rfl) (ag_f hA 240 35 rfl rfl) h.2.2.2.1, RBox_cg (ag_f hA 238 1 rfl rfl) (ag_c hA 239 rfl rfl) h.2.2.2.2.1, RMisc_cg (ag_f hA 240 5 rfl rfl) (ag_c hA 249 rfl rfl) (ag_f hA 44 1 rfl rfl) (ag_f hA 46 1 rfl rfl) (ag_f hA 50 1 rfl rfl) (ag_f hA 52 1 rfl rfl) (ag_f hA 54 1 rfl rfl) (ag_f hA 56 1 rfl rfl) (ag_f hA 58 1 rfl rfl) h.2.2.2.2.2.1, RPic_cg (ag_f hA 0 2 rfl rfl) (ag_f hA 240 73 rfl rfl) (fun k h1 h2 => ag_cs hA 61 118 (by decide) k h1 h2) (ag_c hA 282 rfl rfl) h.2.2.2.2.2.2⟩
      · unfold RFirm at r ⊢
        obtain ⟨a1, a2, a3, a4, a5, a6, a7, a8, a9⟩ := r
        simp only [Nat.reduceAdd] at a7 a8 a9
        simp only [up_c, up_s, Nat.reduceAdd, Nat.reduceEqDiff, not_false_eq_true]
        try simp (disch := omega) only [up_c, up_j, up_s, true_and, and_true]
        refine ⟨by omega, by omega, by omega, by omega, by omega, by omega, fun q hq => ?_, fun q hq => ?_, fun q hq => ?_⟩
        · by_cases hq2 : q = c.toNat
          · subst hq2
            try simp (disch := omega) only [up_c, up_j, up_s, true_and, and_true]
            first | omega | (have := a7 c.toNat (by omega); omega)
          · try simp (disch := omega) only [up_c, up_j, up_s, true_and, and_true]
            have := a7 q (by omega); omega
        · by_cases hq2 : q = c.toNat
          · subst hq2
            try simp (disch := omega) only [up_c, up_j, up_s, true_and, and_true]
            first | omega | (have := a8 c.toNat (by omega); omega)
          · try simp (disch := omega) only [up_c, up_j, up_s, true_and, and_true]
            have := a8 q (by omega); omega
        · by_cases hq2 : q = c.toNat
          · subst hq2
            try simp (disch := omega) only [up_c, up_j, up_s, true_and, and_true]
            first | omega | (have := a9 c.toNat (by omega); omega)
          · try simp (disch := omega) only [up_c, up_j, up_s, true_and, and_true]
            have := a9 q (by omega); omega
      · have rp := h.2.1
        refine ⟨?_, ?_, fun k hk => ?_⟩
        · simp only [up, Nat.reduceAdd, Nat.reduceEqDiff, false_and, true_and, and_true, and_false, if_false, if_true, reduceIte]; exact rp.1
        · simp only [up, Nat.reduceAdd, Nat.reduceEqDiff, false_and, true_and, and_true, and_false, if_false, if_true, reduceIte]; omega
        · simp only [up, Nat.reduceAdd, Nat.reduceEqDiff, false_and, true_and, and_true, and_false, if_false, if_true, reduceIte] at hk; omega
  refine Pair_of h (I1 := I) (I2 := up I 240 0 0) (r := 0) ?_ ?_ Ag_0
  · rw [s_116, if_neg (by omega), if_neg (by omega), if_neg (by omega)]
  · rw [s_185 (by omega) (by omega), c3.1, c4.1, if_neg (by omega), if_neg (by omega), if_neg (by omega)]
theorem s_183 {d : Nat} {J : zI} {w : Option zV} (h0 : 0 ≤ J 240 7) (h1 : J 240 7 < 10) : zD (d + 1) 183 23 [some (.inr (some 240)), w, some (.inl 46)] [] J =
    some (J 240 7, up (up (up (up (up (up J 241 (46 + (J 240 7).toNat) 0) 241 (56 + (J 240 7).toNat) 0) 241 (66 + (J 240 7).toNat) 0) 241 (76 + (J 240 7).toNat) 0) 240 7 (J 240 7 + 1)) 240 3 0) := by
  have st : ∀ (b : Nat) (K : zI), K 240 7 = J 240 7 → b + 10 ≤ 86 → zD (d + 1) 183 23 [some (.inr (some 240)), w, some (.inl (b : Int))] [] K = zD (d + 1) 183 23 [some (.inr (some 240)), w, some (.inl ((b + 10 : Nat) : Int))] [] (up K 241 (b + (J 240 7).toNat) 0) := by
    intro b K hK hb
    rw [e_183_23, if_pos (by omega), hK, wr_id (z := (b : Int) + J 240 7) (by omega) (by omega), if_pos (by omega), wr_id (by omega) (by omega), show ((b : Int) + J 240 7).toNat = b + (J 240 7).toNat by omega]
    rfl
  have s1 := st 46 J rfl (by omega)
  have s2 := st 56 (up J 241 (46 + (J 240 7).toNat) 0) (by simp only [Option.bind_some, b01, up_c, up_j, up_s, Nat.reduceEqDiff, not_false_eq_true]) (by omega)
  have s3 := st 66 (up (up J 241 (46 + (J 240 7).toNat) 0) 241 (56 + (J 240 7).toNat) 0) (by simp only [Option.bind_some, b01, up_c, up_j, up_s, Nat.reduceEqDiff, not_false_eq_true]) (by omega)
  have s4 := st 76 (up (up (up J 241 (46 + (J 240 7).toNat) 0) 241 (56 + (J 240 7).toNat) 0) 241 (66 + (J 240 7).toNat) 0) (by simp only [Option.bind_some, b01, up_c, up_j, up_s, Nat.reduceEqDiff, not_false_eq_true]) (by omega)
  refine s1.trans (s2.trans (s3.trans (s4.trans ?_)))
  rw [e_183_23, if_neg (by omega)]
  simp only [Option.bind_some, b01, up_c, up_j, up_s, Nat.reduceEqDiff, not_false_eq_true]
  rw [wr_id (z := J 240 7 + 1) (by omega) (by omega), wr_id (by omega) (by omega), Int.add_sub_cancel]
theorem q_clerk {I : zI} {v : Int} (h : Rl I) : Pair 114 183 [.inl v] I := by
  have r := h.1.1
  have c3 := r.1
  have c4 := r.2.1
  by_cases hc : (0 ≤ v ∧ v ≤ 9) ∧ I 2 4 < 10
  · refine ⟨I 2 4, up (up (up (up (up (up (up I 7 (I 2 4).toNat v) 8 (I 2 4).toNat (-1)) 9 (I 2 4).toNat (-1)) 10 (I 2 4).toNat 0) 11 (I 2 4).toNat 0) 2 4 (I 2 4 + 1)) 119 3 0, up (up (up (up (up (up (up (up (up (up (up (up (up (up (up I 7 (I 2 4).toNat v) 8 (I 2 4).toNat (-1)) 9 (I 2 4).toNat (-1)) 10 (I 2 4).toNat 0) 11 (I 2 4).toNat 0) 2 4 (I 2 4 + 1)) 119 3 0) 240 0 0) 245 (I 2 4).toNat v) 241 (46 + (I 2 4).toNat) 0) 241 (56 + (I 2 4).toNat) 0) 241 (66 + (I 2 4).toNat) 0) 241 (76 + (I 2 4).toNat) 0) 240 7 (I 2 4 + 1)) 240 3 0, ?_, ?_, ?_⟩
    · rw [e_114]
      simp only [s_156, s_50, Option.bind_some, b01]
      rw [if_neg (by omega), if_neg (by omega), if_pos (by omega), if_pos (by omega), if_pos (by omega), if_pos (by omega), if_pos (by omega), if_pos (by omega), wr_id (by omega) (by omega)]
    · rw [e_183]
      simp only [Option.bind_some, b01, up_c, up_j, up_s, Nat.reduceEqDiff, not_false_eq_true, s_158, c4.1]
      rw [if_neg (by omega), if_neg (by omega), if_pos (by omega), s_183 (by simp only [Option.bind_some, b01, up_c, up_j, up_s, Nat.reduceEqDiff, not_false_eq_true, c4.1]; omega) (by simp only [Option.bind_some, b01, up_c, up_j, up_s, Nat.reduceEqDiff, not_false_eq_true, c4.1]; omega)]
      simp only [Option.bind_some, b01, up_c, up_j, up_s, Nat.reduceEqDiff, not_false_eq_true, c4.1]
    · have hA : Ag [7, 8, 9, 10, 11, 241, 245] [(2, 4), (119, 3), (240, 0), (240, 7), (240, 3)] I (up (up (up (up (up (up (up (up (up (up (up (up (up (up (up I 7 (I 2 4).toNat v) 8 (I 2 4).toNat (-1)) 9 (I 2 4).toNat (-1)) 10 (I 2 4).toNat 0) 11 (I 2 4).toNat 0) 2 4 (I 2 4 + 1)) 119 3 0) 240 0 0) 245 (I 2 4).toNat v) 241 (46 + (I 2 4).toNat) 0) 241 (56 + (I 2 4).toNat) 0) 241 (66 + (I 2 4).toNat) 0) 241 (76 + (I 2 4).toNat) 0) 240 7 (I 2 4 + 1)) 240 3 0) := by
        repeat first | exact Ag_rf | refine Ag_up rfl ?_ | refine Ag_uf rfl ?_
      refine ⟨⟨?_, ?_, RLaw_cg (ag_f hA 21 4 rfl rfl) (fun k h1 h2 => ag_cs hA 22 26 (by decide) k h1 h2) (ag_f hA 250 0 rfl rfl) (fun l _ => ⟨congrFun (ag_c hA 251 rfl rfl) l, congrFun (ag_c hA 252 rfl rfl) l, congrFun (ag_c hA 253 rfl rfl) l, congrFun (ag_c hA 254 rfl rfl) l⟩) (fun i _ => ⟨congrFun (ag_c hA 255 rfl rfl) i, congrFun (ag_c hA 256 rfl rfl) i⟩) h.1.2.2.1, ?_, RBird_cg (ag_f hA 34 4 rfl rfl) (fun k h1 h2 => ag_cs hA 35 37 (by decide) k h1 h2) (ag_f hA 240 38 rfl rfl) (fun b _ => ⟨congrFun (ag_c hA 259 rfl rfl) b, congrFun (ag_c hA 260 rfl rfl) b⟩) h.1.2.2.2.2.1, RAft_cg (ag_f hA 2 5 rfl rfl) (ag_f hA 39 4 rfl rfl) (fun k h1 h2 => ag_cs hA 40 41 (by decide) k h1 h2) (ag_f hA 240 41 rfl rfl) (fun e _ => congrFun (ag_c hA 261 rfl rfl) e) h.1.2.2.2.2.2.1, RRow_cg (ag_f hA 44 2 rfl rfl) (ag_c hA 45 rfl rfl) (ag_f hA 240 47 rfl rfl) (ag_c hA 266 rfl rfl) h.1.2.2.2.2.2.2.1, RRow_cg (ag_f hA 46 2 rfl rfl) (ag_c hA 47 rfl rfl) (ag_f hA 240 51 rfl rfl) (ag_c hA 269 rfl rfl) h.1.2.2.2.2.2.2.2.1, RDots_cg (ag_c hA 48 rfl rfl) (ag_c hA 49 rfl rfl) (ag_c hA 272 rfl rfl) (ag_c hA 273 rfl rfl) h.1.2.2.2.2.2.2.2.2.1, RPl_cg (ag_f hA 50 2 rfl rfl) (ag_c hA 51 rfl rfl) (ag_f hA 240 57 rfl rfl) (ag_f hA 240 58 rfl rfl) (ag_f hA 240 59 rfl rfl) h.1.2.2.2.2.2.2.2.2.2.1, RRow_cg (ag_f hA 52 2 rfl rfl) (ag_c hA 53 rfl rfl) (ag_f hA 240 62 rfl rfl) (ag_c hA 276 rfl rfl) h.1.2.2.2.2.2.2.2.2.2.2.1, RLegs_cg (ag_f hA 54 2 rfl rfl) (ag_c hA 55 rfl rfl) (ag_f hA 240 64 rfl rfl) (ag_c hA 277 rfl rfl) h.1.2.2.2.2.2.2.2.2.2.2.2.1, RRow_cg (ag_f hA 56 2 rfl rfl) (ag_c hA 57 rfl rfl) (ag_f hA 240 66 rfl rfl) (ag_c hA 278 rfl rfl) h.1.2.2.2.2.2.2.2.2.2.2.2.2.1, RRow_cg (ag_f hA 58 2 rfl rfl) (ag_c hA 59 rfl rfl) (ag_f hA 240 69 rfl rfl) (ag_c hA 280 rfl rfl) h.1.2.2.2.2.2.2.2.2.2.2.2.2.2⟩, ?_, RTape_cg (ag_f hA 213 1 rfl rfl) (ag_c hA 214 rfl rfl) (ag_f hA 240 14 rfl rfl) (ag_c hA 248 rfl rfl) h.2.2.1, RFlt_cg (ag_f hA 213 7 rfl rfl) (ag_f hA 213 8 rfl rfl) (ag_f hA 240 34 rfl rfl) (ag_f hA 240 35 rfl rfl) h.2.2.2.1, RBox_cg (ag_f hA 238 1 rfl rfl) (ag_c hA 239 rfl rfl) h.2.2.2.2.1, RMisc_cg (ag_f hA 240 5 rfl rfl) (ag_c hA 249 rfl rfl) (ag_f hA 44 1 rfl rfl) (ag_f hA 46 1 rfl rfl) (ag_f hA 50 1 rfl rfl) (ag_f hA 52 1 rfl rfl) (ag_f hA 54 1 rfl rfl) (ag_f hA 56 1 rfl rfl) (ag_f hA 58 1 rfl rfl) h.2.2.2.2.2.1, RPic_cg (ag_f hA 0 2 rfl rfl) (ag_f hA 240 73 rfl rfl) (fun k h1 h2 => ag_cs hA 61 118 (by decide) k h1 h2) (ag_c hA 282 rfl rfl) h.2.2.2.2.2.2⟩
      · unfold RFirm at r ⊢
        obtain ⟨a1, a2, a3, a4, a5, a6, a7, a8, a9⟩ := r
        simp only [Nat.reduceAdd] at a7 a8 a9
        simp only [up_c, up_s, Nat.reduceAdd, Nat.reduceEqDiff, not_false_eq_true]
        try simp (disch := omega) only [up_c, up_j, up_s, true_and, and_true]
        refine ⟨by omega, by omega, by omega, by omega, by omega, by omega, fun q hq => ?_, fun q hq => ?_, fun q hq => ?_⟩
        · by_cases hq2 : q = (I 2 4).toNat
          · subst hq2
            try simp (disch := omega) only [up_c, up_j, up_s, true_and, and_true]
            first | omega | (have := a7 (I 2 4).toNat (by omega); omega)
          · try simp (disch := omega) only [up_c, up_j, up_s, true_and, and_true]
            have := a7 q (by omega); omega
        · by_cases hq2 : q = (I 2 4).toNat
          · subst hq2
            try simp (disch := omega) only [up_c, up_j, up_s, true_and, and_true]
            first | omega | (have := a8 (I 2 4).toNat (by omega); omega)
          · try simp (disch := omega) only [up_c, up_j, up_s, true_and, and_true]
            have := a8 q (by omega); omega
        · by_cases hq2 : q = (I 2 4).toNat
          · subst hq2
            try simp (disch := omega) only [up_c, up_j, up_s, true_and, and_true]
            first | omega | (have := a9 (I 2 4).toNat (by omega); omega)
          · try simp (disch := omega) only [up_c, up_j, up_s, true_and, and_true]
            have := a9 q (by omega); omega
      · have rb := h.1.2.1
        unfold RBook at rb ⊢
        simp only [Nat.reduceAdd] at rb
        simp only [up_c, up_s, Nat.reduceAdd, Nat.reduceEqDiff, not_false_eq_true]
        try simp (disch := omega) only [up_c, up_j, up_s, true_and, and_true]
        exact rb
      · have ro := h.1.2.2.2.1
        unfold ROrd at ro ⊢
        simp only [Nat.reduceAdd] at ro
        simp only [up_c, up_s, Nat.reduceAdd, Nat.reduceEqDiff, not_false_eq_true]
        try simp (disch := omega) only [up_c, up_j, up_s, true_and, and_true]
        refine ⟨ro.1, fun l hl => ?_⟩
        obtain ⟨o1, o2, o3⟩ := ro.2 l hl
        exact ⟨o1, by omega, o3⟩
      · have rp := h.2.1
        refine ⟨?_, ?_, fun k hk => ?_⟩
        · simp only [up, Nat.reduceAdd, Nat.reduceEqDiff, false_and, true_and, and_true, and_false, if_false, if_true, reduceIte]; exact rp.1
        · simp only [up, Nat.reduceAdd, Nat.reduceEqDiff, false_and, true_and, and_true, and_false, if_false, if_true, reduceIte]; omega
        · simp only [up, Nat.reduceAdd, Nat.reduceEqDiff, false_and, true_and, and_true, and_false, if_false, if_true, reduceIte] at hk; omega
  · refine Pair_of h (I1 := I) (I2 := up I 240 0 0) (r := -1) ?_ ?_ Ag_0
    · rw [e_114]
      simp only [s_156, s_50, Option.bind_some, b01]
      (repeat' split) <;> first | rfl | (exfalso; omega)
    · rw [e_183]
      simp only [Option.bind_some, b01, up_c, up_j, up_s, Nat.reduceEqDiff, not_false_eq_true, s_158, c4.1]
      (repeat' split) <;> first | rfl | (exfalso; omega)
