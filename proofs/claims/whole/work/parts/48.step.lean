/-! ONE CHANGE OF A FIRM, ON BOTH SIDES -/
theorem F_ink {K J : zI} {a : Nat} {hb x y : Int} {i : Nat} (h2 : a = 2 ∨ a = 200) (r : RFirm K J a hb) (hi : (i : Int) < K a 3) (hv : y = x ∧ 0 ≤ x ∧ x ≤ 99) : RFirm (up K (a + 2) i x) (up J 241 (4 + i) y) a hb := by
  obtain ⟨⟨f1, f1a, f1b⟩, ⟨f2, f2a, f2b⟩, ⟨f3, f3a, f3b⟩, f4, f5, ⟨f6, f6a, f6b⟩, f7, f8, f9⟩ := r
  refine ⟨?_, ?_, ?_, ?_, ?_, ?_, fun p hp => ?_, fun p hp => ?_, fun p hp => ?_⟩
  · simp (disch := omega) only [up_c, up_j, up_s]; omega
  · simp (disch := omega) only [up_c, up_j, up_s]; omega
  · simp (disch := omega) only [up_c, up_j, up_s]; omega
  · simp (disch := omega) only [up_c, up_j, up_s]; omega
  · simp (disch := omega) only [up_c, up_j, up_s]; omega
  · simp (disch := omega) only [up_c, up_j, up_s]; omega
  · simp (disch := omega) only [up_c, up_j] at hp
    have g := f7 p hp
    by_cases e : p = i
    · subst e
      simp (disch := omega) only [up_c, up_j, up_s]
      omega
    · simp (disch := omega) only [up_c, up_j]
      omega
  · simp (disch := omega) only [up_c, up_j] at hp
    have g := f8 p hp
    simp (disch := omega) only [up_c, up_j]
    omega
  · simp (disch := omega) only [up_c, up_j] at hp
    have g := f9 p hp
    simp (disch := omega) only [up_c, up_j]
    omega

theorem F_worn {K J : zI} {a : Nat} {hb x y : Int} {i : Nat} (h2 : a = 2 ∨ a = 200) (r : RFirm K J a hb) (hi : (i : Int) < K a 3) (hv : y = x ∧ 0 ≤ x ∧ x ≤ 99) : RFirm (up K (a + 3) i x) (up J 241 (18 + i) y) a hb := by
  obtain ⟨⟨f1, f1a, f1b⟩, ⟨f2, f2a, f2b⟩, ⟨f3, f3a, f3b⟩, f4, f5, ⟨f6, f6a, f6b⟩, f7, f8, f9⟩ := r
  refine ⟨?_, ?_, ?_, ?_, ?_, ?_, fun p hp => ?_, fun p hp => ?_, fun p hp => ?_⟩
  · simp (disch := omega) only [up_c, up_j, up_s]; omega
  · simp (disch := omega) only [up_c, up_j, up_s]; omega
  · simp (disch := omega) only [up_c, up_j, up_s]; omega
  · simp (disch := omega) only [up_c, up_j, up_s]; omega
  · simp (disch := omega) only [up_c, up_j, up_s]; omega
  · simp (disch := omega) only [up_c, up_j, up_s]; omega
  · simp (disch := omega) only [up_c, up_j] at hp
    have g := f7 p hp
    by_cases e : p = i
    · subst e
      simp (disch := omega) only [up_c, up_j, up_s]
      omega
    · simp (disch := omega) only [up_c, up_j]
      omega
  · simp (disch := omega) only [up_c, up_j] at hp
    have g := f8 p hp
    simp (disch := omega) only [up_c, up_j]
    omega
  · simp (disch := omega) only [up_c, up_j] at hp
    have g := f9 p hp
    simp (disch := omega) only [up_c, up_j]
    omega

theorem F_gone {K J : zI} {a : Nat} {hb x y : Int} {i : Nat} (h2 : a = 2 ∨ a = 200) (r : RFirm K J a hb) (hi : (i : Int) < K a 3) (hv : y = x ∧ 0 ≤ x ∧ x ≤ 1) : RFirm (up K (a + 4) i x) (up J 241 (32 + i) y) a hb := by
  obtain ⟨⟨f1, f1a, f1b⟩, ⟨f2, f2a, f2b⟩, ⟨f3, f3a, f3b⟩, f4, f5, ⟨f6, f6a, f6b⟩, f7, f8, f9⟩ := r
  refine ⟨?_, ?_, ?_, ?_, ?_, ?_, fun p hp => ?_, fun p hp => ?_, fun p hp => ?_⟩
  · simp (disch := omega) only [up_c, up_j, up_s]; omega
  · simp (disch := omega) only [up_c, up_j, up_s]; omega
  · simp (disch := omega) only [up_c, up_j, up_s]; omega
  · simp (disch := omega) only [up_c, up_j, up_s]; omega
  · simp (disch := omega) only [up_c, up_j, up_s]; omega
  · simp (disch := omega) only [up_c, up_j, up_s]; omega
  · simp (disch := omega) only [up_c, up_j] at hp
    have g := f7 p hp
    by_cases e : p = i
    · subst e
      simp (disch := omega) only [up_c, up_j, up_s]
      omega
    · simp (disch := omega) only [up_c, up_j]
      omega
  · simp (disch := omega) only [up_c, up_j] at hp
    have g := f8 p hp
    simp (disch := omega) only [up_c, up_j]
    omega
  · simp (disch := omega) only [up_c, up_j] at hp
    have g := f9 p hp
    simp (disch := omega) only [up_c, up_j]
    omega

theorem F_holds {K J : zI} {a : Nat} {hb x y : Int} {i : Nat} (h2 : a = 2 ∨ a = 200) (r : RFirm K J a hb) (hi : (i : Int) < K a 4) (hv : y = x + 1 ∧ -1 ≤ x ∧ x < K a 3) : RFirm (up K (a + 6) i x) (up J 241 (46 + i) y) a hb := by
  obtain ⟨⟨f1, f1a, f1b⟩, ⟨f2, f2a, f2b⟩, ⟨f3, f3a, f3b⟩, f4, f5, ⟨f6, f6a, f6b⟩, f7, f8, f9⟩ := r
  refine ⟨?_, ?_, ?_, ?_, ?_, ?_, fun p hp => ?_, fun p hp => ?_, fun p hp => ?_⟩
  · simp (disch := omega) only [up_c, up_j, up_s]; omega
  · simp (disch := omega) only [up_c, up_j, up_s]; omega
  · simp (disch := omega) only [up_c, up_j, up_s]; omega
  · simp (disch := omega) only [up_c, up_j, up_s]; omega
  · simp (disch := omega) only [up_c, up_j, up_s]; omega
  · simp (disch := omega) only [up_c, up_j, up_s]; omega
  · simp (disch := omega) only [up_c, up_j] at hp
    have g := f7 p hp
    simp (disch := omega) only [up_c, up_j]
    omega
  · simp (disch := omega) only [up_c, up_j] at hp
    have g := f8 p hp
    by_cases e : p = i
    · subst e
      simp (disch := omega) only [up_c, up_j, up_s]
      omega
    · simp (disch := omega) only [up_c, up_j]
      omega
  · simp (disch := omega) only [up_c, up_j] at hp
    have g := f9 p hp
    simp (disch := omega) only [up_c, up_j]
    omega

theorem F_at {K J : zI} {a : Nat} {hb x y : Int} {i : Nat} (h2 : a = 2 ∨ a = 200) (r : RFirm K J a hb) (hi : (i : Int) < K a 4) (hv : y = x + 1 ∧ -1 ≤ x ∧ x < K a 5) : RFirm (up K (a + 7) i x) (up J 241 (56 + i) y) a hb := by
  obtain ⟨⟨f1, f1a, f1b⟩, ⟨f2, f2a, f2b⟩, ⟨f3, f3a, f3b⟩, f4, f5, ⟨f6, f6a, f6b⟩, f7, f8, f9⟩ := r
  refine ⟨?_, ?_, ?_, ?_, ?_, ?_, fun p hp => ?_, fun p hp => ?_, fun p hp => ?_⟩
  · simp (disch := omega) only [up_c, up_j, up_s]; omega
  · simp (disch := omega) only [up_c, up_j, up_s]; omega
  · simp (disch := omega) only [up_c, up_j, up_s]; omega
  · simp (disch := omega) only [up_c, up_j, up_s]; omega
  · simp (disch := omega) only [up_c, up_j, up_s]; omega
  · simp (disch := omega) only [up_c, up_j, up_s]; omega
  · simp (disch := omega) only [up_c, up_j] at hp
    have g := f7 p hp
    simp (disch := omega) only [up_c, up_j]
    omega
  · simp (disch := omega) only [up_c, up_j] at hp
    have g := f8 p hp
    by_cases e : p = i
    · subst e
      simp (disch := omega) only [up_c, up_j, up_s]
      omega
    · simp (disch := omega) only [up_c, up_j]
      omega
  · simp (disch := omega) only [up_c, up_j] at hp
    have g := f9 p hp
    simp (disch := omega) only [up_c, up_j]
    omega

theorem F_blots {K J : zI} {a : Nat} {hb x y : Int} {i : Nat} (h2 : a = 2 ∨ a = 200) (r : RFirm K J a hb) (hi : (i : Int) < K a 4) (hv : y = x) : RFirm (up K (a + 8) i x) (up J 241 (66 + i) y) a hb := by
  obtain ⟨⟨f1, f1a, f1b⟩, ⟨f2, f2a, f2b⟩, ⟨f3, f3a, f3b⟩, f4, f5, ⟨f6, f6a, f6b⟩, f7, f8, f9⟩ := r
  refine ⟨?_, ?_, ?_, ?_, ?_, ?_, fun p hp => ?_, fun p hp => ?_, fun p hp => ?_⟩
  · simp (disch := omega) only [up_c, up_j, up_s]; omega
  · simp (disch := omega) only [up_c, up_j, up_s]; omega
  · simp (disch := omega) only [up_c, up_j, up_s]; omega
  · simp (disch := omega) only [up_c, up_j, up_s]; omega
  · simp (disch := omega) only [up_c, up_j, up_s]; omega
  · simp (disch := omega) only [up_c, up_j, up_s]; omega
  · simp (disch := omega) only [up_c, up_j] at hp
    have g := f7 p hp
    simp (disch := omega) only [up_c, up_j]
    omega
  · simp (disch := omega) only [up_c, up_j] at hp
    have g := f8 p hp
    by_cases e : p = i
    · subst e
      simp (disch := omega) only [up_c, up_j, up_s]
      omega
    · simp (disch := omega) only [up_c, up_j]
      omega
  · simp (disch := omega) only [up_c, up_j] at hp
    have g := f9 p hp
    simp (disch := omega) only [up_c, up_j]
    omega

theorem F_signed {K J : zI} {a : Nat} {hb x y : Int} {i : Nat} (h2 : a = 2 ∨ a = 200) (r : RFirm K J a hb) (hi : (i : Int) < K a 4) (hv : y = x) : RFirm (up K (a + 9) i x) (up J 241 (76 + i) y) a hb := by
  obtain ⟨⟨f1, f1a, f1b⟩, ⟨f2, f2a, f2b⟩, ⟨f3, f3a, f3b⟩, f4, f5, ⟨f6, f6a, f6b⟩, f7, f8, f9⟩ := r
  refine ⟨?_, ?_, ?_, ?_, ?_, ?_, fun p hp => ?_, fun p hp => ?_, fun p hp => ?_⟩
  · simp (disch := omega) only [up_c, up_j, up_s]; omega
  · simp (disch := omega) only [up_c, up_j, up_s]; omega
  · simp (disch := omega) only [up_c, up_j, up_s]; omega
  · simp (disch := omega) only [up_c, up_j, up_s]; omega
  · simp (disch := omega) only [up_c, up_j, up_s]; omega
  · simp (disch := omega) only [up_c, up_j, up_s]; omega
  · simp (disch := omega) only [up_c, up_j] at hp
    have g := f7 p hp
    simp (disch := omega) only [up_c, up_j]
    omega
  · simp (disch := omega) only [up_c, up_j] at hp
    have g := f8 p hp
    by_cases e : p = i
    · subst e
      simp (disch := omega) only [up_c, up_j, up_s]
      omega
    · simp (disch := omega) only [up_c, up_j]
      omega
  · simp (disch := omega) only [up_c, up_j] at hp
    have g := f9 p hp
    simp (disch := omega) only [up_c, up_j]
    omega

theorem F_writ {K J : zI} {a : Nat} {hb x y : Int} {i : Nat} (h2 : a = 2 ∨ a = 200) (r : RFirm K J a hb) (hi : (i : Int) < K a 5) (hv : y = x ∧ 0 ≤ x ∧ x ≤ K (a + 10) i) : RFirm (up K (a + 11) i x) (up J 241 (86 + i) y) a hb := by
  obtain ⟨⟨f1, f1a, f1b⟩, ⟨f2, f2a, f2b⟩, ⟨f3, f3a, f3b⟩, f4, f5, ⟨f6, f6a, f6b⟩, f7, f8, f9⟩ := r
  refine ⟨?_, ?_, ?_, ?_, ?_, ?_, fun p hp => ?_, fun p hp => ?_, fun p hp => ?_⟩
  · simp (disch := omega) only [up_c, up_j, up_s]; omega
  · simp (disch := omega) only [up_c, up_j, up_s]; omega
  · simp (disch := omega) only [up_c, up_j, up_s]; omega
  · simp (disch := omega) only [up_c, up_j, up_s]; omega
  · simp (disch := omega) only [up_c, up_j, up_s]; omega
  · simp (disch := omega) only [up_c, up_j, up_s]; omega
  · simp (disch := omega) only [up_c, up_j] at hp
    have g := f7 p hp
    simp (disch := omega) only [up_c, up_j]
    omega
  · simp (disch := omega) only [up_c, up_j] at hp
    have g := f8 p hp
    simp (disch := omega) only [up_c, up_j]
    omega
  · simp (disch := omega) only [up_c, up_j] at hp
    have g := f9 p hp
    by_cases e : p = i
    · subst e
      simp (disch := omega) only [up_c, up_j, up_s]
      omega
    · simp (disch := omega) only [up_c, up_j]
      omega

theorem F_by {K J : zI} {a : Nat} {hb x y : Int} {i : Nat} (h2 : a = 2 ∨ a = 200) (r : RFirm K J a hb) (hi : (i : Int) < K a 5) (hv : y = x + 1 ∧ -1 ≤ x ∧ x < K a 4) : RFirm (up K (a + 12) i x) (up J 241 (98 + i) y) a hb := by
  obtain ⟨⟨f1, f1a, f1b⟩, ⟨f2, f2a, f2b⟩, ⟨f3, f3a, f3b⟩, f4, f5, ⟨f6, f6a, f6b⟩, f7, f8, f9⟩ := r
  refine ⟨?_, ?_, ?_, ?_, ?_, ?_, fun p hp => ?_, fun p hp => ?_, fun p hp => ?_⟩
  · simp (disch := omega) only [up_c, up_j, up_s]; omega
  · simp (disch := omega) only [up_c, up_j, up_s]; omega
  · simp (disch := omega) only [up_c, up_j, up_s]; omega
  · simp (disch := omega) only [up_c, up_j, up_s]; omega
  · simp (disch := omega) only [up_c, up_j, up_s]; omega
  · simp (disch := omega) only [up_c, up_j, up_s]; omega
  · simp (disch := omega) only [up_c, up_j] at hp
    have g := f7 p hp
    simp (disch := omega) only [up_c, up_j]
    omega
  · simp (disch := omega) only [up_c, up_j] at hp
    have g := f8 p hp
    simp (disch := omega) only [up_c, up_j]
    omega
  · simp (disch := omega) only [up_c, up_j] at hp
    have g := f9 p hp
    by_cases e : p = i
    · subst e
      simp (disch := omega) only [up_c, up_j, up_s]
      omega
    · simp (disch := omega) only [up_c, up_j]
      omega

theorem F_draw {K J : zI} {a : Nat} {hb x y : Int} (h2 : a = 2 ∨ a = 200) (r : RFirm K J a hb) (hv : y = x) : RFirm (up K a 0 x) (up J 241 1 y) a hb := by
  obtain ⟨⟨f1, f1a, f1b⟩, ⟨f2, f2a, f2b⟩, ⟨f3, f3a, f3b⟩, f4, f5, ⟨f6, f6a, f6b⟩, f7, f8, f9⟩ := r
  refine ⟨?_, ?_, ?_, ?_, ?_, ?_, fun p hp => ?_, fun p hp => ?_, fun p hp => ?_⟩
  · simp (disch := omega) only [up_c, up_j, up_s]; omega
  · simp (disch := omega) only [up_c, up_j, up_s]; omega
  · simp (disch := omega) only [up_c, up_j, up_s]; omega
  · simp (disch := omega) only [up_c, up_j, up_s]; omega
  · simp (disch := omega) only [up_c, up_j, up_s]; omega
  · simp (disch := omega) only [up_c, up_j, up_s]; omega
  · simp (disch := omega) only [up_c, up_j] at hp
    have g := f7 p hp
    simp (disch := omega) only [up_c, up_j]
    omega
  · simp (disch := omega) only [up_c, up_j] at hp
    have g := f8 p hp
    simp (disch := omega) only [up_c, up_j]
    omega
  · simp (disch := omega) only [up_c, up_j] at hp
    have g := f9 p hp
    simp (disch := omega) only [up_c, up_j]
    omega

theorem F_lift {K J : zI} {a : Nat} {hb x y : Int} (h2 : a = 2 ∨ a = 200) (r : RFirm K J a hb) (hv : y = x) : RFirm (up K a 1 x) (up J 241 3 y) a hb := by
  obtain ⟨⟨f1, f1a, f1b⟩, ⟨f2, f2a, f2b⟩, ⟨f3, f3a, f3b⟩, f4, f5, ⟨f6, f6a, f6b⟩, f7, f8, f9⟩ := r
  refine ⟨?_, ?_, ?_, ?_, ?_, ?_, fun p hp => ?_, fun p hp => ?_, fun p hp => ?_⟩
  · simp (disch := omega) only [up_c, up_j, up_s]; omega
  · simp (disch := omega) only [up_c, up_j, up_s]; omega
  · simp (disch := omega) only [up_c, up_j, up_s]; omega
  · simp (disch := omega) only [up_c, up_j, up_s]; omega
  · simp (disch := omega) only [up_c, up_j, up_s]; omega
  · simp (disch := omega) only [up_c, up_j, up_s]; omega
  · simp (disch := omega) only [up_c, up_j] at hp
    have g := f7 p hp
    simp (disch := omega) only [up_c, up_j]
    omega
  · simp (disch := omega) only [up_c, up_j] at hp
    have g := f8 p hp
    simp (disch := omega) only [up_c, up_j]
    omega
  · simp (disch := omega) only [up_c, up_j] at hp
    have g := f9 p hp
    simp (disch := omega) only [up_c, up_j]
    omega

theorem F_hour {K J : zI} {a : Nat} {hb hb2 x y : Int} (h2 : a = 2 ∨ a = 200) (r : RFirm K J a hb) (hv : y = x ∧ 0 ≤ x ∧ x ≤ hb2) : RFirm (up K a 2 x) (up J 241 0 y) a hb2 := by
  obtain ⟨⟨f1, f1a, f1b⟩, ⟨f2, f2a, f2b⟩, ⟨f3, f3a, f3b⟩, f4, f5, ⟨f6, f6a, f6b⟩, f7, f8, f9⟩ := r
  refine ⟨?_, ?_, ?_, ?_, ?_, ?_, fun p hp => ?_, fun p hp => ?_, fun p hp => ?_⟩
  · simp (disch := omega) only [up_c, up_j, up_s]; omega
  · simp (disch := omega) only [up_c, up_j, up_s]; omega
  · simp (disch := omega) only [up_c, up_j, up_s]; omega
  · simp (disch := omega) only [up_c, up_j, up_s]; omega
  · simp (disch := omega) only [up_c, up_j, up_s]; omega
  · simp (disch := omega) only [up_c, up_j, up_s]; omega
  · simp (disch := omega) only [up_c, up_j] at hp
    have g := f7 p hp
    simp (disch := omega) only [up_c, up_j]
    omega
  · simp (disch := omega) only [up_c, up_j] at hp
    have g := f8 p hp
    simp (disch := omega) only [up_c, up_j]
    omega
  · simp (disch := omega) only [up_c, up_j] at hp
    have g := f9 p hp
    simp (disch := omega) only [up_c, up_j]
    omega
