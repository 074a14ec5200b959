/-! AT THE START THE TWO STAND BESIDE EACH OTHER -/
theorem hz_0 : hz h_4 := ⟨hn_4, rfl, rfl⟩
def ic : List (Nat × Nat) := [(2, 3), (2, 4), (2, 5), (240, 6), (240, 7), (240, 8), (250, 0), (21, 4), (240, 36), (29, 4), (240, 38), (34, 4), (240, 41), (39, 4), (240, 47), (44, 2), (240, 51), (46, 2), (240, 59), (50, 2), (240, 57), (240, 58), (240, 62), (52, 2), (240, 64), (54, 2), (240, 66), (56, 2), (240, 69), (58, 2), (119, 2), (119, 3), (240, 3), (240, 14), (213, 1), (240, 73), (0, 2), (240, 5)]
theorem ic_all : (ic.all fun q => decide (zi h_4 q.1 q.2 = 0)) = true := by decide +kernel
theorem ic_at {k j : Nat} (h : (k, j) ∈ ic) : zi h_4 k j = 0 := of_decide_eq_true (List.all_eq_true.mp ic_all _ h)
theorem i_firm : zi h_4 241 1 = zi h_4 2 0 ∧ zi h_4 241 3 = zi h_4 2 1 ∧ (zi h_4 241 0 = zi h_4 2 2 ∧ 0 ≤ zi h_4 2 2 ∧ zi h_4 2 2 ≤ 9999) := by decide +kernel
theorem i_book : zi h_4 241 2 = zi h_4 15 4 ∧ 0 ≤ zi h_4 15 4 ∧ zi h_4 15 4 ≤ 150 := by decide +kernel
theorem i_bk : ((List.range 150).all fun i => decide (zi h_4 247 (4 * i) = zi h_4 16 i ∧ zi h_4 247 (4 * i + 1) = zi h_4 17 i ∧ zi h_4 247 (4 * i + 2) = zi h_4 18 i ∧ zi h_4 247 (4 * i + 3) = zi h_4 19 i)) = true := by decide +kernel
theorem i_bird : ((List.range 8).all fun b => decide (zi h_4 259 b = 0 ∧ zi h_4 260 b + 5 = 5)) = true := by decide +kernel
theorem i_aft : ((List.range 12).all fun b => decide (zi h_4 261 b = 0)) = true := by decide +kernel
theorem i_dots : ((List.range 3).all fun j => decide ((zi h_4 272 j = zi h_4 48 j ∧ 0 ≤ zi h_4 48 j ∧ zi h_4 48 j ≤ 99) ∧ (zi h_4 273 j = zi h_4 49 j ∧ 0 ≤ zi h_4 49 j ∧ zi h_4 49 j ≤ 99))) = true := by decide +kernel
theorem i_flt : zi h_4 240 34 = zi h_4 213 7 ∧ zi h_4 240 35 = zi h_4 213 8 := by decide +kernel
theorem i_box : zi h_4 238 1 = 4095 ∧ zi h_4 239 4095 = 0 := by decide +kernel
theorem i_wd : ((List.range 138).all fun j => decide (zi h_4 249 j = zwd.getD j 0)) = true := by decide +kernel
theorem i_cap : zi h_4 44 1 = 10 ∧ zi h_4 46 1 = 4 ∧ zi h_4 50 1 = 7 ∧ zi h_4 52 1 = 12 ∧ zi h_4 54 1 = 10 ∧ zi h_4 56 1 = 8 ∧ zi h_4 58 1 = 6 := by decide +kernel
theorem i_row {c f : Nat} {arr : Nat} {lim lo hi : Int} (hl : 0 ≤ lim) (h1 : (c, 2) ∈ ic) (h2 : (240, f) ∈ ic) : RRow (zi h_4) (zi h_4) c f arr lim lo hi := by
  have a := ic_at h1
  have b := ic_at h2
  exact ⟨by omega, by omega, by omega, fun j hj => by omega⟩
theorem Rl_0 : Rl (zi h_4) := by
  have m : ∀ {k j : Nat}, ic.contains (k, j) = true → zi h_4 k j = 0 := fun h => ic_at (List.contains_iff_mem.mp h)
  have f3 : zi h_4 2 3 = 0 := m (by decide)
  have f4 : zi h_4 2 4 = 0 := m (by decide)
  have f5 : zi h_4 2 5 = 0 := m (by decide)
  have g6 : zi h_4 240 6 = 0 := m (by decide)
  have g7 : zi h_4 240 7 = 0 := m (by decide)
  have g8 : zi h_4 240 8 = 0 := m (by decide)
  obtain ⟨i1, i2, i3⟩ := i_firm
  refine ⟨⟨?_, ?_, ?_, ?_, ?_, ?_, i_row (by decide) (by decide) (by decide), i_row (by decide) (by decide) (by decide), ?_, ?_, i_row (by decide) (by decide) (by decide), ⟨i_row (by decide) (by decide) (by decide), ?_⟩, i_row (by decide) (by decide) (by decide), i_row (by decide) (by decide) (by decide)⟩, ?_, ?_, i_flt, ?_, ?_, ?_⟩
  · exact ⟨⟨by omega, by omega, by omega⟩, ⟨by omega, by omega, by omega⟩, ⟨by omega, by omega, by omega⟩, i1, i2, i3, fun q hq => by omega, fun q hq => by omega, fun q hq => by omega⟩
  · exact ⟨i_book, fun i hi => of_decide_eq_true (List.all_eq_true.mp i_bk i (List.mem_range.mpr hi))⟩
  · have a : zi h_4 250 0 = 0 := m (by decide)
    have b : zi h_4 21 4 = 0 := m (by decide)
    refine ⟨⟨a.trans b.symm, by show 0 ≤ zi h_4 21 4; omega, by show zi h_4 21 4 ≤ 16; omega⟩, fun l hl => ?_⟩
    have hl : (l : Int) < zi h_4 21 4 := hl
    omega
  · have a : zi h_4 240 36 = 0 := m (by decide)
    have b : zi h_4 29 4 = 0 := m (by decide)
    exact ⟨⟨a.trans b.symm, by omega, by omega⟩, fun l hl => by omega⟩
  · have a : zi h_4 240 38 = 0 := m (by decide)
    have b : zi h_4 34 4 = 0 := m (by decide)
    refine ⟨⟨a.trans b.symm, by omega, by omega⟩, fun l hl => by omega, fun q hq => ?_⟩
    have := of_decide_eq_true (List.all_eq_true.mp i_bird q (List.mem_range.mpr hq))
    rw [b]
    exact this
  · have a : zi h_4 240 41 = 0 := m (by decide)
    have b : zi h_4 39 4 = 0 := m (by decide)
    refine ⟨⟨a.trans b.symm, by omega, by omega⟩, fun l hl => by omega, fun q hq => ?_⟩
    have := of_decide_eq_true (List.all_eq_true.mp i_aft q (List.mem_range.mpr hq))
    rw [b]
    exact this
  · exact fun j hj => of_decide_eq_true (List.all_eq_true.mp i_dots j (List.mem_range.mpr hj))
  · have a : zi h_4 50 2 = 0 := m (by decide)
    have b : zi h_4 240 59 = 0 := m (by decide)
    have c : zi h_4 240 57 = 0 := m (by decide)
    have d : zi h_4 240 58 = 0 := m (by decide)
    refine ⟨by omega, by omega, b.trans a.symm, fun j hj => by omega, ⟨by omega, by omega, by omega, by omega⟩, fun v h1 h2 => ?_⟩
    rw [a, c, d]
    show zbit 0 0 v = false
    unfold zbit
    split <;> simp
  · intro j hj
    have a : zi h_4 54 2 = 0 := m (by decide)
    omega
  · have a : zi h_4 119 2 = 0 := m (by decide)
    have b : zi h_4 119 3 = 0 := m (by decide)
    have c : zi h_4 240 3 = 0 := m (by decide)
    exact ⟨by omega, ⟨c.trans b.symm, by omega, by omega⟩, fun k hk => by omega⟩
  · have a : zi h_4 213 1 = 0 := m (by decide)
    have b : zi h_4 240 14 = 0 := m (by decide)
    exact ⟨⟨b.trans a.symm, by omega, by omega⟩, fun k hk => by omega⟩
  · obtain ⟨b1, b2⟩ := i_box
    refine ⟨by omega, fun s h1 h2 => ?_⟩
    have e : s = 4095 := by omega
    subst e
    rw [b2]
    have : zWf 4096 4095 = 0 := by rw [zWf, if_pos rfl]
    exact this.symm
  · have a : zi h_4 240 5 = 0 := m (by decide)
    exact ⟨a, fun j hj => of_decide_eq_true (List.all_eq_true.mp i_wd j (List.mem_range.mpr hj)), i_cap⟩
  · have a : zi h_4 240 73 = 0 := m (by decide)
    have b : zi h_4 0 2 = 0 := m (by decide)
    exact ⟨a.trans b.symm, Or.inl b, fun h => by omega⟩
