/-! SIMPLE CALLS -/
theorem ROw_mono {t f w v nq nd nq2 nd2 : Int} (h : ROw t f w v nq nd) (h1 : nq ≤ nq2) (h2 : nd ≤ nd2) : ROw t f w v nq2 nd2 := by
  unfold ROw at h ⊢
  rcases h with ⟨a, b, c, e, g⟩ | h | ⟨a, b, c, e, g⟩ | h | h | h
  · exact Or.inl ⟨a, b, c, e, by omega⟩
  · exact Or.inr (Or.inl h)
  · exact Or.inr (Or.inr (Or.inl ⟨a, b, c, e, by omega⟩))
  · exact Or.inr (Or.inr (Or.inr (Or.inl h)))
  · exact Or.inr (Or.inr (Or.inr (Or.inr (Or.inl h))))
  · exact Or.inr (Or.inr (Or.inr (Or.inr (Or.inr h))))
theorem q_state {I : zI} {v : Int} (h : Rl I) : Pair 112 170 [.inl v] I := by
  refine ⟨I 2 0, up (up I 2 0 v) 119 3 0, up (up (up (up (up I 2 0 v) 119 3 0) 240 0 0) 241 1 v) 240 3 0, ?_, ?_, ?_⟩
  · rw [e_112, s_50]
    rfl
  · rw [e_170]
    simp only [up_c, up_j, Nat.reduceEqDiff, not_false_eq_true]
    rw [h.1.1.2.2.2.1]
  · have hA : Ag [241] [(2, 0), (119, 3), (240, 0), (240, 3)] I (up (up (up (up (up I 2 0 v) 119 3 0) 240 0 0) 241 1 v) 240 3 0) := by
      repeat first | exact Ag_rf | refine Ag_up rfl ?_ | refine Ag_uf rfl ?_
    refine ⟨⟨?_, ?_, RLaw_cg (ag_f hA 21 4 rfl rfl) (fun k h1 h2 => ag_cs hA 22 26 (by decide) k h1 h2) (ag_f hA 250 0 rfl rfl) (fun l _ => ⟨congrFun (ag_c hA 251 rfl rfl) l, congrFun (ag_c hA 252 rfl rfl) l, congrFun (ag_c hA 253 rfl rfl) l, congrFun (ag_c hA 254 rfl rfl) l⟩) (fun i _ => ⟨congrFun (ag_c hA 255 rfl rfl) i, congrFun (ag_c hA 256 rfl rfl) i⟩) h.1.2.2.1, ROrd_cg (ag_f hA 2 3 rfl rfl) (ag_f hA 2 4 rfl rfl) (ag_f hA 2 5 rfl rfl) (ag_f hA 29 4 rfl rfl) (fun k h1 h2 => ag_cs hA 30 33 (by decide) k h1 h2) (ag_f hA 240 36 rfl rfl) (fun j _ => congrFun (ag_c hA 258 rfl rfl) j) h.1.2.2.2.1, RBird_cg (ag_f hA 34 4 rfl rfl) (fun k h1 h2 => ag_cs hA 35 37 (by decide) k h1 h2) (ag_f hA 240 38 rfl rfl) (fun b _ => ⟨congrFun (ag_c hA 259 rfl rfl) b, congrFun (ag_c hA 260 rfl rfl) b⟩) h.1.2.2.2.2.1, RAft_cg (ag_f hA 2 5 rfl rfl) (ag_f hA 39 4 rfl rfl) (fun k h1 h2 => ag_cs hA 40 41 (by decide) k h1 h2) (ag_f hA 240 41 rfl rfl) (fun e _ => congrFun (ag_c hA 261 rfl rfl) e) h.1.2.2.2.2.2.1, RRow_cg (ag_f hA 44 2 rfl rfl) (ag_c hA 45 rfl rfl) (ag_f hA 240 47 rfl rfl) (ag_c hA 266 rfl rfl) h.1.2.2.2.2.2.2.1, RRow_cg (ag_f hA 46 2 rfl rfl) (ag_c hA 47 rfl rfl) (ag_f hA 240 51 rfl rfl) (ag_c hA 269 rfl rfl) h.1.2.2.2.2.2.2.2.1, RDots_cg (ag_c hA 48 rfl rfl) (ag_c hA 49 rfl rfl) (ag_c hA 272 rfl rfl) (ag_c hA 273 rfl rfl) h.1.2.2.2.2.2.2.2.2.1, RPl_cg (ag_f hA 50 2 rfl rfl) (ag_c hA 51 rfl rfl) (ag_f hA 240 57 rfl rfl) (ag_f hA 240 58 rfl rfl) (ag_f hA 240 59 rfl rfl) h.1.2.2.2.2.2.2.2.2.2.1, RRow_cg (ag_f hA 52 2 rfl rfl) (ag_c hA 53 rfl rfl) (ag_f hA 240 62 rfl rfl) (ag_c hA 276 rfl rfl) h.1.2.2.2.2.2.2.2.2.2.2.1, RLegs_cg (ag_f hA 54 2 rfl rfl) (ag_c hA 55 rfl rfl) (ag_f hA 240 64 rfl rfl) (ag_c hA 277 rfl rfl) h.1.2.2.2.2.2.2.2.2.2.2.2.1, RRow_cg (ag_f hA 56 2 rfl rfl) (ag_c hA 57 rfl rfl) (ag_f hA 240 66 rfl rfl) (ag_c hA 278 rfl rfl) h.1.2.2.2.2.2.2.2.2.2.2.2.2.1, RRow_cg (ag_f hA 58 2 rfl rfl) (ag_c hA 59 rfl rfl) (ag_f hA 240 69 rfl rfl) (ag_c hA 280 rfl rfl) h.1.2.2.2.2.2.2.2.2.2.2.2.2.2⟩, ?_, RTape_cg (ag_f hA 213 1 rfl rfl) (ag_c hA 214 rfl rfl) (ag_f hA 240 14 rfl rfl) (ag_c hA 248 rfl rfl) h.2.2.1, RFlt_cg (ag_f hA 213 7 rfl rfl) (ag_f hA 213 8 rfl rfl) (ag_f hA 240 34 rfl rfl) (ag_f hA 240 35 rfl rfl) h.2.2.2.1, RBox_cg (ag_f hA 238 1 rfl rfl) (ag_c hA 239 rfl rfl) h.2.2.2.2.1, RMisc_cg (ag_f hA 240 5 rfl rfl) (ag_c hA 249 rfl rfl) (ag_f hA 44 1 rfl rfl) (ag_f hA 46 1 rfl rfl) (ag_f hA 50 1 rfl rfl) (ag_f hA 52 1 rfl rfl) (ag_f hA 54 1 rfl rfl) (ag_f hA 56 1 rfl rfl) (ag_f hA 58 1 rfl rfl) h.2.2.2.2.2.1, RPic_cg (ag_f hA 0 2 rfl rfl) (ag_f hA 240 73 rfl rfl) (fun k h1 h2 => ag_cs hA 61 118 (by decide) k h1 h2) (ag_c hA 282 rfl rfl) h.2.2.2.2.2.2⟩
    · have r := h.1.1
      unfold RFirm at r ⊢
      obtain ⟨a1, a2, a3, a4, a5, a6, a7, a8, a9⟩ := r
      simp only [Nat.reduceAdd] at a7 a8 a9
      simp only [up, Nat.reduceAdd, Nat.reduceEqDiff, false_and, true_and, and_true, and_false, if_false, if_true, reduceIte]
      refine ⟨by omega, by omega, by omega, by omega, by omega, fun q hq => ?_, fun q hq => ?_, fun q hq => ?_⟩
      · have := a7 q; omega
      · have := a8 q; omega
      · have := a9 q; omega
    · have r := h.1.2.1
      unfold RBook at r ⊢
      simp only [up, Nat.reduceAdd, Nat.reduceEqDiff, false_and, true_and, and_true, and_false, if_false, if_true, reduceIte]
      exact r
    · have rp := h.2.1
      refine ⟨?_, ?_, fun k hk => ?_⟩
      · simp only [up, Nat.reduceAdd, Nat.reduceEqDiff, false_and, true_and, and_true, and_false, if_false, if_true, reduceIte]; exact rp.1
      · simp only [up, Nat.reduceAdd, Nat.reduceEqDiff, false_and, true_and, and_true, and_false, if_false, if_true, reduceIte]; omega
      · simp only [up, Nat.reduceAdd, Nat.reduceEqDiff, false_and, true_and, and_true, and_false, if_false, if_true, reduceIte] at hk; omega
theorem q_quill {I : zI} {b i : Int} (h : Rl I) : Pair 113 182 [.inl b, .inl i] I := by
  have r := h.1.1
  have r1 := r
  unfold RFirm at r1
  have e0 : I 240 6 = I 2 3 ∧ 0 ≤ I 2 3 ∧ I 2 3 ≤ 14 := by omega
  by_cases hc : (0 ≤ b ∧ b ≤ 7) ∧ (0 ≤ i ∧ i ≤ 99) ∧ I 2 3 < 14
  · refine ⟨I 2 3, up (up (up (up (up (up I 3 (I 2 3).toNat b) 4 (I 2 3).toNat i) 5 (I 2 3).toNat 0) 6 (I 2 3).toNat 0) 2 3 (I 2 3 + 1)) 119 3 0, up (up (up (up (up (up (up (up (up (up (up (up (up I 3 (I 2 3).toNat b) 4 (I 2 3).toNat i) 5 (I 2 3).toNat 0) 6 (I 2 3).toNat 0) 2 3 (I 2 3 + 1)) 119 3 0) 240 0 0) 244 (I 2 3).toNat b) 241 (4 + (I 2 3).toNat) i) 241 (18 + (I 2 3).toNat) 0) 241 (32 + (I 2 3).toNat) 0) 240 6 (I 2 3 + 1)) 240 3 0, ?_, ?_, ?_⟩
    · rw [e_113]
      simp only [s_156, s_50, Option.bind_some, b01]
      rw [if_neg (by omega), if_neg (by omega), if_neg (by omega), if_pos (by omega), if_pos (by omega), if_pos (by omega), if_pos (by omega), if_pos (by omega), wr_id (by omega) (by omega)]
    · rw [e_182]
      simp only [s_158, Option.bind_some, b01, up_c, up_j, up_s, Nat.reduceEqDiff, not_false_eq_true, e0.1]
      have w4 : (wr (4 + I 2 3)).toNat = 4 + (I 2 3).toNat := by rw [wr_id (by omega) (by omega)]; omega
      have x4 : 0 ≤ wr (4 + I 2 3) ∧ wr (4 + I 2 3) < 110 := by rw [wr_id (by omega) (by omega)]; omega
      have w18 : (wr (18 + I 2 3)).toNat = 18 + (I 2 3).toNat := by rw [wr_id (by omega) (by omega)]; omega
      have x18 : 0 ≤ wr (18 + I 2 3) ∧ wr (18 + I 2 3) < 110 := by rw [wr_id (by omega) (by omega)]; omega
      have w32 : (wr (32 + I 2 3)).toNat = 32 + (I 2 3).toNat := by rw [wr_id (by omega) (by omega)]; omega
      have x32 : 0 ≤ wr (32 + I 2 3) ∧ wr (32 + I 2 3) < 110 := by rw [wr_id (by omega) (by omega)]; omega
      rw [if_neg (by omega), if_neg (by omega), if_neg (by omega), if_pos (by omega), if_pos x4, if_pos x18, if_pos x32, w4, w18, w32, wr_id (z := I 2 3 + 1) (by omega) (by omega), wr_id (by omega) (by omega), Int.add_sub_cancel]
    · have hA : Ag [3, 4, 5, 6, 241, 244] [(2, 3), (119, 3), (240, 0), (240, 6), (240, 3)] I (up (up (up (up (up (up (up (up (up (up (up (up (up I 3 (I 2 3).toNat b) 4 (I 2 3).toNat i) 5 (I 2 3).toNat 0) 6 (I 2 3).toNat 0) 2 3 (I 2 3 + 1)) 119 3 0) 240 0 0) 244 (I 2 3).toNat b) 241 (4 + (I 2 3).toNat) i) 241 (18 + (I 2 3).toNat) 0) 241 (32 + (I 2 3).toNat) 0) 240 6 (I 2 3 + 1)) 240 3 0) := by
        repeat first | exact Ag_rf | refine Ag_up rfl ?_ | refine Ag_uf rfl ?_
      refine ⟨⟨?_, ?_, RLaw_cg (ag_f hA 21 4 rfl rfl) (fun k h1 h2 => ag_cs hA 22 26 (by decide) k h1 h2) (ag_f hA 250 0 rfl rfl) (fun l _ => ⟨congrFun (ag_c hA 251 rfl rfl) l, congrFun (ag_c hA 252 rfl rfl) l, congrFun (ag_c hA 253 rfl rfl) l, congrFun (ag_c hA 254 rfl rfl) l⟩) (fun i _ => ⟨congrFun (ag_c hA 255 rfl rfl) i, congrFun (ag_c hA 256 rfl rfl) i⟩) h.1.2.2.1, ?_, RBird_cg (ag_f hA 34 4 rfl rfl) (fun k h1 h2 => ag_cs hA 35 37 (by decide) k h1 h2) (ag_f hA 240 38 rfl rfl) (fun b _ => ⟨congrFun (ag_c hA 259 rfl rfl) b, congrFun (ag_c hA 260 rfl rfl) b⟩) h.1.2.2.2.2.1, RAft_cg (ag_f hA 2 5 rfl rfl) (ag_f hA 39 4 rfl rfl) (fun k h1 h2 => ag_cs hA 40 41 (by decide) k h1 h2) (ag_f hA 240 41 rfl rfl) (fun e _ => congrFun (ag_c hA 261 rfl rfl) e) h.1.2.2.2.2.2.1, RRow_cg (ag_f hA 44 2 rfl rfl) (ag_c hA 45 rfl rfl) (ag_f hA 240 47 rfl rfl) (ag_c hA 266 rfl rfl) h.1.2.2.2.2.2.2.1, RRow_cg (ag_f hA 46 2 rfl rfl) (ag_c hA 47 rfl rfl) (ag_f hA 240 51 rfl rfl) (ag_c hA 269 rfl rfl) h.1.2.2.2.2.2.2.2.1, RDots_cg (ag_c hA 48 rfl rfl) (ag_c hA 49 rfl rfl) (ag_c hA 272 rfl rfl) (ag_c hA 273 rfl rfl) h.1.2.2.2.2.2.2.2.2.1, RPl_cg (ag_f hA 50 2 rfl rfl) (ag_c hA 51 rfl rfl) (ag_f hA 240 57 rfl rfl) (ag_f hA 240 58 rfl rfl) (ag_f hA 240 59 rfl rfl) h.1.2.2.2.2.2.2.2.2.2.1, RRow_cg (ag_f hA 52 2 rfl rfl) (ag_c hA 53 rfl rfl) (ag_f hA 240 62 rfl rfl) (ag_c hA 276 rfl rfl) h.1.2.2.2.2.2.2.2.2.2.2.1, RLegs_cg (ag_f hA 54 2 rfl rfl) (ag_c hA 55 rfl rfl) (ag_f hA 240 64 rfl rfl) (ag_c hA 277 rfl rfl) h.1.2.2.2.2.2.2.2.2.2.2.2.1, RRow_cg (ag_f hA 56 2 rfl rfl) (ag_c hA 57 rfl rfl) (ag_f hA 240 66 rfl rfl) (ag_c hA 278 rfl rfl) h.1.2.2.2.2.2.2.2.2.2.2.2.2.1, RRow_cg (ag_f hA 58 2 rfl rfl) (ag_c hA 59 rfl rfl) (ag_f hA 240 69 rfl rfl) (ag_c hA 280 rfl rfl) h.1.2.2.2.2.2.2.2.2.2.2.2.2.2⟩, ?_, RTape_cg (ag_f hA 213 1 rfl rfl) (ag_c hA 214 rfl rfl) (ag_f hA 240 14 rfl rfl) (ag_c hA 248 rfl rfl) h.2.2.1, RFlt_cg (ag_f hA 213 7 rfl rfl) (ag_f hA 213 8 rfl rfl) (ag_f hA 240 34 rfl rfl) (ag_f hA 240 35 rfl rfl) h.2.2.2.1, RBox_cg (ag_f hA 238 1 rfl rfl) (ag_c hA 239 rfl rfl) h.2.2.2.2.1, RMisc_cg (ag_f hA 240 5 rfl rfl) (ag_c hA 249 rfl rfl) (ag_f hA 44 1 rfl rfl) (ag_f hA 46 1 rfl rfl) (ag_f hA 50 1 rfl rfl) (ag_f hA 52 1 rfl rfl) (ag_f hA 54 1 rfl rfl) (ag_f hA 56 1 rfl rfl) (ag_f hA 58 1 rfl rfl) h.2.2.2.2.2.1, RPic_cg (ag_f hA 0 2 rfl rfl) (ag_f hA 240 73 rfl rfl) (fun k h1 h2 => ag_cs hA 61 118 (by decide) k h1 h2) (ag_c hA 282 rfl rfl) h.2.2.2.2.2.2⟩
      · unfold RFirm
        obtain ⟨a1, a2, a3, a4, a5, a6, a7, a8, a9⟩ := r1
        simp only [Nat.reduceAdd] at a7 a8 a9
        simp only [up_c, up_s, Nat.reduceAdd, Nat.reduceEqDiff, not_false_eq_true]
        simp (disch := omega) only [up_c, up_j, up_s, true_and, and_true]
        refine ⟨by omega, by omega, by omega, by omega, by omega, by omega, fun q hq => ?_, fun q hq => ?_, fun q hq => ?_⟩
        · by_cases hq2 : q = (I 2 3).toNat
          · subst hq2
            try simp (disch := omega) only [up_c, up_j, up_s, true_and, and_true]
            first | omega | (have := a7 (I 2 3).toNat (by omega); omega)
          · try simp (disch := omega) only [up_c, up_j, up_s, true_and, and_true]
            have := a7 q (by omega); omega
        · by_cases hq2 : q = (I 2 3).toNat
          · subst hq2
            try simp (disch := omega) only [up_c, up_j, up_s, true_and, and_true]
            first | omega | (have := a8 (I 2 3).toNat (by omega); omega)
          · try simp (disch := omega) only [up_c, up_j, up_s, true_and, and_true]
            have := a8 q (by omega); omega
        · by_cases hq2 : q = (I 2 3).toNat
          · subst hq2
            try simp (disch := omega) only [up_c, up_j, up_s, true_and, and_true]
            first | omega | (have := a9 (I 2 3).toNat (by omega); omega)
          · try simp (disch := omega) only [up_c, up_j, up_s, true_and, and_true]
            have := a9 q (by omega); omega
      · have rb := h.1.2.1
        unfold RBook at rb ⊢
        simp only [Nat.reduceAdd] at rb
        simp only [up, Nat.reduceAdd, Nat.reduceEqDiff, false_and, true_and, and_true, and_false, if_false, if_true, reduceIte]
        refine ⟨by omega, fun i hi => ?_⟩
        have := rb.2 i hi
        omega
      · have ro := h.1.2.2.2.1
        unfold ROrd at ro ⊢
        simp only [Nat.reduceAdd] at ro
        simp only [up, Nat.reduceAdd, Nat.reduceEqDiff, false_and, true_and, and_true, and_false, if_false, if_true, reduceIte]
        refine ⟨by omega, fun l hl => ?_⟩
        obtain ⟨o1, o2, o3⟩ := ro.2 l hl
        exact ⟨o1, by omega, ROw_mono o3 (by omega) (by omega)⟩
      · have rp := h.2.1
        refine ⟨?_, ?_, fun k hk => ?_⟩
        · simp only [up, Nat.reduceAdd, Nat.reduceEqDiff, false_and, true_and, and_true, and_false, if_false, if_true, reduceIte]; exact rp.1
        · simp only [up, Nat.reduceAdd, Nat.reduceEqDiff, false_and, true_and, and_true, and_false, if_false, if_true, reduceIte]; omega
        · simp only [up, Nat.reduceAdd, Nat.reduceEqDiff, false_and, true_and, and_true, and_false, if_false, if_true, reduceIte] at hk; omega
  · refine Pair_of h (I1 := I) (I2 := up I 240 0 0) (r := -1) ?_ ?_ Ag_0
    · rw [e_113]
      simp only [s_156, s_50, Option.bind_some, b01]
      (repeat' split) <;> first | rfl | (exfalso; omega)
    · rw [e_182]
      simp only [s_158, Option.bind_some, b01, up_c, up_j, up_s, Nat.reduceEqDiff, not_false_eq_true, e0.1]
      (repeat' split) <;> first | rfl | (exfalso; omega)
theorem q_deed {I : zI} {l : Int} (h : Rl I) : Pair 115 184 [.inl l] I := by
  have r := h.1.1
  have r1 := r
  unfold RFirm at r1
  have e0 : I 240 8 = I 2 5 ∧ 0 ≤ I 2 5 ∧ I 2 5 ≤ 12 := by omega
  by_cases hc : (1 ≤ l ∧ l ≤ 99) ∧ I 2 5 < 12
  · refine ⟨I 2 5, up (up (up (up (up I 12 (I 2 5).toNat l) 13 (I 2 5).toNat 0) 14 (I 2 5).toNat (-1)) 2 5 (I 2 5 + 1)) 119 3 0, up (up (up (up (up (up (up (up (up (up (up I 12 (I 2 5).toNat l) 13 (I 2 5).toNat 0) 14 (I 2 5).toNat (-1)) 2 5 (I 2 5 + 1)) 119 3 0) 240 0 0) 246 (I 2 5).toNat l) 241 (86 + (I 2 5).toNat) 0) 241 (98 + (I 2 5).toNat) 0) 240 8 (I 2 5 + 1)) 240 3 0, ?_, ?_, ?_⟩
    · rw [e_115]
      simp only [s_156, s_50, Option.bind_some, b01]
      rw [if_neg (by omega), if_neg (by omega), if_pos (by omega), if_pos (by omega), if_pos (by omega), if_pos (by omega), wr_id (by omega) (by omega)]
    · rw [e_184]
      simp only [s_158, Option.bind_some, b01, up_c, up_j, up_s, Nat.reduceEqDiff, not_false_eq_true, e0.1]
      have w86 : (wr (86 + I 2 5)).toNat = 86 + (I 2 5).toNat := by rw [wr_id (by omega) (by omega)]; omega
      have x86 : 0 ≤ wr (86 + I 2 5) ∧ wr (86 + I 2 5) < 110 := by rw [wr_id (by omega) (by omega)]; omega
      have w98 : (wr (98 + I 2 5)).toNat = 98 + (I 2 5).toNat := by rw [wr_id (by omega) (by omega)]; omega
      have x98 : 0 ≤ wr (98 + I 2 5) ∧ wr (98 + I 2 5) < 110 := by rw [wr_id (by omega) (by omega)]; omega
      rw [if_neg (by omega), if_neg (by omega), if_pos (by omega), if_pos x86, if_pos x98, w86, w98, wr_id (z := I 2 5 + 1) (by omega) (by omega), wr_id (by omega) (by omega), Int.add_sub_cancel]
    · have hA : Ag [12, 13, 14, 241, 246] [(2, 5), (119, 3), (240, 0), (240, 8), (240, 3)] I (up (up (up (up (up (up (up (up (up (up (up I 12 (I 2 5).toNat l) 13 (I 2 5).toNat 0) 14 (I 2 5).toNat (-1)) 2 5 (I 2 5 + 1)) 119 3 0) 240 0 0) 246 (I 2 5).toNat l) 241 (86 + (I 2 5).toNat) 0) 241 (98 + (I 2 5).toNat) 0) 240 8 (I 2 5 + 1)) 240 3 0) := by
        repeat first | exact Ag_rf | refine Ag_up rfl ?_ | refine Ag_uf rfl ?_
      refine ⟨⟨?_, ?_, RLaw_cg (ag_f hA 21 4 rfl rfl) (fun k h1 h2 => ag_cs hA 22 26 (by decide) k h1 h2) (ag_f hA 250 0 rfl rfl) (fun l _ => ⟨congrFun (ag_c hA 251 rfl rfl) l, congrFun (ag_c hA 252 rfl rfl) l, congrFun (ag_c hA 253 rfl rfl) l, congrFun (ag_c hA 254 rfl rfl) l⟩) (fun i _ => ⟨congrFun (ag_c hA 255 rfl rfl) i, congrFun (ag_c hA 256 rfl rfl) i⟩) h.1.2.2.1, ?_, RBird_cg (ag_f hA 34 4 rfl rfl) (fun k h1 h2 => ag_cs hA 35 37 (by decide) k h1 h2) (ag_f hA 240 38 rfl rfl) (fun b _ => ⟨congrFun (ag_c hA 259 rfl rfl) b, congrFun (ag_c hA 260 rfl rfl) b⟩) h.1.2.2.2.2.1, ?_, RRow_cg (ag_f hA 44 2 rfl rfl) (ag_c hA 45 rfl rfl) (ag_f hA 240 47 rfl rfl) (ag_c hA 266 rfl rfl) h.1.2.2.2.2.2.2.1, RRow_cg (ag_f hA 46 2 rfl rfl) (ag_c hA 47 rfl rfl) (ag_f hA 240 51 rfl rfl) (ag_c hA 269 rfl rfl) h.1.2.2.2.2.2.2.2.1, RDots_cg (ag_c hA 48 rfl rfl) (ag_c hA 49 rfl rfl) (ag_c hA 272 rfl rfl) (ag_c hA 273 rfl rfl) h.1.2.2.2.2.2.2.2.2.1, RPl_cg (ag_f hA 50 2 rfl rfl) (ag_c hA 51 rfl rfl) (ag_f hA 240 57 rfl rfl) (ag_f hA 240 58 rfl rfl) (ag_f hA 240 59 rfl rfl) h.1.2.2.2.2.2.2.2.2.2.1, RRow_cg (ag_f hA 52 2 rfl rfl) (ag_c hA 53 rfl rfl) (ag_f hA 240 62 rfl rfl) (ag_c hA 276 rfl rfl) h.1.2.2.2.2.2.2.2.2.2.2.1, RLegs_cg (ag_f hA 54 2 rfl rfl) (ag_c hA 55 rfl rfl) (ag_f hA 240 64 rfl rfl) (ag_c hA 277 rfl rfl) h.1.2.2.2.2.2.2.2.2.2.2.2.1, RRow_cg (ag_f hA 56 2 rfl rfl) (ag_c hA 57 rfl rfl) (ag_f hA 240 66 rfl rfl) (ag_c hA 278 rfl rfl) h.1.2.2.2.2.2.2.2.2.2.2.2.2.1, RRow_cg (ag_f hA 58 2 rfl rfl) (ag_c hA 59 rfl rfl) (ag_f hA 240 69 rfl rfl) (ag_c hA 280 rfl rfl) h.1.2.2.2.2.2.2.2.2.2.2.2.2.2⟩, ?_, RTape_cg (ag_f hA 213 1 rfl rfl) (ag_c hA 214 rfl rfl) (ag_f hA 240 14 rfl rfl) (ag_c hA 248 rfl rfl) h.2.2.1, RFlt_cg (ag_f hA 213 7 rfl rfl) (ag_f hA 213 8 rfl rfl) (ag_f hA 240 34 rfl rfl) (ag_f hA 240 35 rfl rfl) h.2.2.2.1, RBox_cg (ag_f hA 238 1 rfl rfl) (ag_c hA 239 rfl rfl) h.2.2.2.2.1, RMisc_cg (ag_f hA 240 5 rfl rfl) (ag_c hA 249 rfl rfl) (ag_f hA 44 1 rfl rfl) (ag_f hA 46 1 rfl rfl) (ag_f hA 50 1 rfl rfl) (ag_f hA 52 1 rfl rfl) (ag_f hA 54 1 rfl rfl) (ag_f hA 56 1 rfl rfl) (ag_f hA 58 1 rfl rfl) h.2.2.2.2.2.1, RPic_cg (ag_f hA 0 2 rfl rfl) (ag_f hA 240 73 rfl rfl) (fun k h1 h2 => ag_cs hA 61 118 (by decide) k h1 h2) (ag_c hA 282 rfl rfl) h.2.2.2.2.2.2⟩
      · unfold RFirm
        obtain ⟨a1, a2, a3, a4, a5, a6, a7, a8, a9⟩ := r1
        simp only [Nat.reduceAdd] at a7 a8 a9
        simp only [up_c, up_s, Nat.reduceAdd, Nat.reduceEqDiff, not_false_eq_true]
        simp (disch := omega) only [up_c, up_j, up_s, true_and, and_true]
        refine ⟨by omega, by omega, by omega, by omega, by omega, by omega, fun q hq => ?_, fun q hq => ?_, fun q hq => ?_⟩
        · by_cases hq2 : q = (I 2 5).toNat
          · subst hq2
            try simp (disch := omega) only [up_c, up_j, up_s, true_and, and_true]
            first | omega | (have := a7 (I 2 5).toNat (by omega); omega)
          · try simp (disch := omega) only [up_c, up_j, up_s, true_and, and_true]
            have := a7 q (by omega); omega
        · by_cases hq2 : q = (I 2 5).toNat
          · subst hq2
            try simp (disch := omega) only [up_c, up_j, up_s, true_and, and_true]
            first | omega | (have := a8 (I 2 5).toNat (by omega); omega)
          · try simp (disch := omega) only [up_c, up_j, up_s, true_and, and_true]
            have := a8 q (by omega); omega
        · by_cases hq2 : q = (I 2 5).toNat
          · subst hq2
            try simp (disch := omega) only [up_c, up_j, up_s, true_and, and_true]
            first | omega | (have := a9 (I 2 5).toNat (by omega); omega)
          · try simp (disch := omega) only [up_c, up_j, up_s, true_and, and_true]
            have := a9 q (by omega); omega
      · have rb := h.1.2.1
        unfold RBook at rb ⊢
        simp only [Nat.reduceAdd] at rb
        simp only [up, Nat.reduceAdd, Nat.reduceEqDiff, false_and, true_and, and_true, and_false, if_false, if_true, reduceIte]
        refine ⟨by omega, fun i hi => ?_⟩
        have := rb.2 i hi
        omega
      · have ro := h.1.2.2.2.1
        unfold ROrd at ro ⊢
        simp only [Nat.reduceAdd] at ro
        simp only [up, Nat.reduceAdd, Nat.reduceEqDiff, false_and, true_and, and_true, and_false, if_false, if_true, reduceIte]
        refine ⟨by omega, fun l hl => ?_⟩
        obtain ⟨o1, o2, o3⟩ := ro.2 l hl
        exact ⟨o1, by omega, ROw_mono o3 (by omega) (by omega)⟩
      · have ro := h.1.2.2.2.2.2.1
        unfold RAft at ro ⊢
        simp only [Nat.reduceAdd] at ro
        simp only [up, Nat.reduceAdd, Nat.reduceEqDiff, false_and, true_and, and_true, and_false, if_false, if_true, reduceIte]
        refine ⟨by omega, fun l hl => ?_, ro.2.2⟩
        have := ro.2.1 l hl
        omega
      · have rp := h.2.1
        refine ⟨?_, ?_, fun k hk => ?_⟩
        · simp only [up, Nat.reduceAdd, Nat.reduceEqDiff, false_and, true_and, and_true, and_false, if_false, if_true, reduceIte]; exact rp.1
        · simp only [up, Nat.reduceAdd, Nat.reduceEqDiff, false_and, true_and, and_true, and_false, if_false, if_true, reduceIte]; omega
        · simp only [up, Nat.reduceAdd, Nat.reduceEqDiff, false_and, true_and, and_true, and_false, if_false, if_true, reduceIte] at hk; omega
  · refine Pair_of h (I1 := I) (I2 := up I 240 0 0) (r := -1) ?_ ?_ Ag_0
    · rw [e_115]
      simp only [s_156, s_50, Option.bind_some, b01]
      (repeat' split) <;> first | rfl | (exfalso; omega)
    · rw [e_184]
      simp only [s_158, Option.bind_some, b01, up_c, up_j, up_s, Nat.reduceEqDiff, not_false_eq_true, e0.1]
      (repeat' split) <;> first | rfl | (exfalso; omega)
