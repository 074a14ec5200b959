/-! A DESK OVER ANOTHER -/
def vD (c j : Nat) : Prop := (c = 2 ∧ j < 6) ∨ (3 ≤ c ∧ c ≤ 6 ∧ j < 14) ∨ (7 ≤ c ∧ c ≤ 11 ∧ j < 10) ∨ (12 ≤ c ∧ c ≤ 14 ∧ j < 12) ∨ (c = 15 ∧ j = 4) ∨ (16 ≤ c ∧ c ≤ 19 ∧ j < 150) ∨ (c = 21 ∧ j = 4) ∨ (22 ≤ c ∧ c ≤ 25 ∧ j < 16) ∨ (c = 26 ∧ j < 400) ∨ ((c = 29 ∨ c = 34 ∨ c = 39) ∧ j = 4) ∨ ((30 ≤ c ∧ c ≤ 33 ∨ 35 ≤ c ∧ c ≤ 38 ∨ 40 ≤ c ∧ c ≤ 43) ∧ j < 16) ∨ ((c = 44 ∨ c = 46 ∨ c = 50 ∨ c = 52 ∨ c = 54 ∨ c = 56 ∨ c = 58) ∧ j = 2) ∨ ((c = 45 ∨ c = 47 ∨ c = 51 ∨ c = 53 ∨ c = 55 ∨ c = 57 ∨ c = 59) ∧ j < 12) ∨ ((c = 48 ∨ c = 49) ∧ j < 3)
def vM (c j : Nat) : Prop := (c = 241 ∧ j < 110) ∨ (c = 240 ∧ (j = 6 ∨ j = 7 ∨ j = 8 ∨ j = 36 ∨ j = 38 ∨ j = 41 ∨ j = 47 ∨ j = 51 ∨ j = 57 ∨ j = 58 ∨ j = 59 ∨ j = 62 ∨ j = 64 ∨ j = 66 ∨ j = 69)) ∨ (c = 244 ∧ j < 14) ∨ ((c = 245 ∨ c = 266 ∨ c = 277) ∧ j < 10) ∨ ((c = 246 ∨ c = 261 ∨ c = 276) ∧ j < 12) ∨ ((c = 259 ∨ c = 260 ∨ c = 278) ∧ j < 8) ∨ (c = 258 ∧ j < 64) ∨ (c = 269 ∧ j < 4) ∨ ((c = 272 ∨ c = 273) ∧ j < 3) ∨ (c = 280 ∧ j < 6) ∨ (c = 247 ∧ j < 600) ∨ (c = 250 ∧ j = 0) ∨ ((c = 251 ∨ c = 252 ∨ c = 253 ∨ c = 254) ∧ j < 16) ∨ ((c = 255 ∨ c = 256) ∧ j < 400)
theorem s_86 {d a b : Nat} {I : zI} (ha : zText a) (hb : zText b) (hd : a + 4 < b ∨ b + 4 < a) : ∃ K' : zI, cl (d + 1) 86 [.inr (some a), .inr (some b)] I = some (0, K') ∧ (∀ k j, ¬ (a ≤ k ∧ k ≤ a + 4) → K' k j = I k j) ∧ K' a 4 = I b 4 ∧ (∀ k j, 1 ≤ k → k ≤ 4 → j < 16 → K' (a + k) j = I (b + k) j) := by
  refine ⟨_, e_86 ha hb, fun k j hk => ?_, ?_, fun k j h1 h2 hj => ?_⟩
  · simp (disch := omega) only [up_c, cp_c]
  · simp (disch := omega) only [up_c, up_s, cp_c]
  · have : k = 1 ∨ k = 2 ∨ k = 3 ∨ k = 4 := by omega
    rcases this with rfl | rfl | rfl | rfl <;> simp (disch := omega) only [up_c, cp_c, cp_in]
theorem s_83 {d a b : Nat} {I : zI} (ha : zRow a) (hb : zRow b) (hd : a + 1 < b ∨ b + 1 < a) : ∃ K' : zI, cl (d + 1) 83 [.inr (some a), .inr (some b)] I = some (0, K') ∧ (∀ k j, ¬ (k = a ∧ j = 2) ∧ k ≠ a + 1 → K' k j = I k j) ∧ K' a 2 = I b 2 ∧ (∀ j, j < 12 → K' (a + 1) j = I (b + 1) j) := by
  refine ⟨_, e_83 ha hb, fun k j hk => ?_, ?_, fun j hj => ?_⟩
  · have e : ∀ (J : zI) (x : Int), up J a 2 x k j = J k j := fun J x => if_neg hk.1
    rw [e, cp_c hk.2]
  · rw [up_s, cp_c (by omega)]
  · rw [up_c (by omega), cp_in hj]
theorem desk_out {d : Nat} {I : zI} : ∃ K' : zI, cl (d + 3) 9 [.inr (some 60), .inr (some 1)] I = some (0, K') ∧ (∀ k j, ¬ (61 ≤ k ∧ k ≤ 118) → K' k j = I k j) ∧ (∀ k j, (k = 103 ∨ k = 105 ∨ k = 109 ∨ k = 111 ∨ k = 113 ∨ k = 115 ∨ k = 117) → j ≠ 2 → K' k j = I k j) ∧ ∀ c j, vD c j → K' (59 + c) j = I (0 + c) j := by
  obtain ⟨K1, x1, f1, m1, m14, m10, m12⟩ := s_21 (d := d + 1) (I := I) fi_61 fi_2 (by omega)
  obtain ⟨K2, x2, f2, g2, g2b⟩ : ∃ K2 : zI, cl (d + 2) 2 [.inr (some 74), .inr (some 15)] K1 = some (0, K2) ∧ (∀ k j, ¬ (74 ≤ k ∧ k ≤ 78) → K2 k j = K1 k j) ∧ K2 74 4 = K1 15 4 ∧ (∀ k j, 16 ≤ k → k ≤ 19 → j < 150 → K2 (59 + k) j = K1 (0 + k) j) := by
    refine ⟨_, e_2, fun k j hk => ?_, ?_, fun k j h1 h2 hj => ?_⟩
    · simp (disch := omega) only [up_c, cp_c]
    · simp (disch := omega) only [up_c, up_s, cp_c]
    · have : k = 16 ∨ k = 17 ∨ k = 18 ∨ k = 19 := by omega
      rcases this with rfl | rfl | rfl | rfl <;> simp (disch := omega) only [up_c, cp_c, cp_in]
  obtain ⟨K3, x3, f3, g3, g3b, g3c⟩ : ∃ K3 : zI, cl (d + 2) 39 [.inr (some 79), .inr (some 20)] K2 = some (0, K3) ∧ (∀ k j, ¬ (79 ≤ k ∧ k ≤ 85) → K3 k j = K2 k j) ∧ K3 80 4 = K2 21 4 ∧ (∀ k j, 22 ≤ k → k ≤ 25 → j < 16 → K3 (59 + k) j = K2 (0 + k) j) ∧ (∀ j, j < 400 → K3 85 j = K2 26 j) := by
    obtain ⟨Kx, y1, y2, y3, y4⟩ := s_86 (d := d) (I := K2) tx_80 tx_21 (by omega)
    have E := e_39b (d := d + 1) (I := K2)
    rw [y1, Option.bind_some] at E
    dsimp only at E
    refine ⟨_, E, fun k j hk => ?_, ?_, fun k j h1 h2 hj => ?_, fun j hj => ?_⟩
    · rw [up_c (by omega), cp_c (by omega), y2 k j (by omega)]
    · rw [up_c (by decide), cp_c (by decide), y3]
    · have : k = 22 ∨ k = 23 ∨ k = 24 ∨ k = 25 := by omega
      rcases this with rfl | rfl | rfl | rfl
      · rw [up_c (by decide), cp_c (by decide)]; exact y4 1 j (by decide) (by decide) hj
      · rw [up_c (by decide), cp_c (by decide)]; exact y4 2 j (by decide) (by decide) hj
      · rw [up_c (by decide), cp_c (by decide)]; exact y4 3 j (by decide) (by decide) hj
      · rw [up_c (by decide), cp_c (by decide)]; exact y4 4 j (by decide) (by decide) hj
    · rw [up_c (by decide), cp_in hj, y2 26 j (by decide)]
  obtain ⟨K4, x4, f4, g4, g4b⟩ := s_86 (d := d + 1) (I := K3) tx_88 tx_29 (by omega)
  obtain ⟨K5, x5, f5, g5, g5b⟩ := s_86 (d := d + 1) (I := K4) tx_93 tx_34 (by omega)
  obtain ⟨K6, x6, f6, g6, g6b⟩ := s_86 (d := d + 1) (I := K5) tx_98 tx_39 (by omega)
  obtain ⟨K7, x7, f7, g7, g7b⟩ := s_83 (d := d + 1) (I := K6) r_103 r_44 (by omega)
  obtain ⟨K8, x8, f8, g8, g8b⟩ := s_83 (d := d + 1) (I := K7) r_105 r_46 (by omega)
  obtain ⟨Kd, fd, gd, gdb, hd⟩ : ∃ Kd : zI, (∀ k j, ¬ (107 ≤ k ∧ k ≤ 108) → Kd k j = K8 k j) ∧ (∀ j, j < 3 → Kd 107 j = K8 48 j) ∧ (∀ j, j < 3 → Kd 108 j = K8 49 j) ∧ Kd = cp (cp K8 48 107 0 0 3) 49 108 0 0 3 := by
    refine ⟨_, fun k j hk => ?_, fun j hj => ?_, fun j hj => ?_, rfl⟩
    · rw [cp_c (by omega), cp_c (by omega)]
    · rw [cp_c (by decide), cp_in hj]
    · rw [cp_in hj, cp_c (by decide)]
  obtain ⟨K9, x9, f9, g9, g9b⟩ := s_83 (d := d + 1) (I := Kd) r_109 r_50 (by omega)
  obtain ⟨K10, x10, f10, g10, g10b⟩ := s_83 (d := d + 1) (I := K9) r_111 r_52 (by omega)
  obtain ⟨K11, x11, f11, g11, g11b⟩ := s_83 (d := d + 1) (I := K10) r_113 r_54 (by omega)
  obtain ⟨K12, x12, f12, g12, g12b⟩ := s_83 (d := d + 1) (I := K11) r_115 r_56 (by omega)
  obtain ⟨K13, x13, f13, g13, g13b⟩ := s_83 (d := d + 1) (I := K12) r_117 r_58 (by omega)
  have E := e_9 (d := d + 2) (I := I)
  rw [x1, Option.bind_some] at E; dsimp only at E
  rw [x2, Option.bind_some] at E; dsimp only at E
  rw [x3, Option.bind_some] at E; dsimp only at E
  rw [x4, Option.bind_some] at E; dsimp only at E
  rw [x5, Option.bind_some] at E; dsimp only at E
  rw [x6, Option.bind_some] at E; dsimp only at E
  rw [x7, Option.bind_some] at E; dsimp only at E
  rw [x8, Option.bind_some] at E; dsimp only at E
  rw [← hd] at E
  rw [x9, Option.bind_some] at E; dsimp only at E
  rw [x10, Option.bind_some] at E; dsimp only at E
  rw [x11, Option.bind_some] at E; dsimp only at E
  rw [x12, Option.bind_some] at E; dsimp only at E
  rw [x13, Option.bind_some] at E; dsimp only at E
  refine ⟨K13, E, fun k j hk => ?_, fun k j hk hj => ?_, fun c j hv => ?_⟩
  · simp (disch := omega) only [f1, f2, f3, f4, f5, f6, f7, f8, fd, f9, f10, f11, f12, f13]
  · rcases hk with rfl | rfl | rfl | rfl | rfl | rfl | rfl <;> simp (disch := omega) only [f1, f2, f3, f4, f5, f6, f7, f8, fd, f9, f10, f11, f12, f13]
  · unfold vD at hv
    rcases hv with ⟨rfl, hj⟩ | ⟨h1, h2, hj⟩ | ⟨h1, h2, hj⟩ | ⟨h1, h2, hj⟩ | ⟨rfl, rfl⟩ | ⟨h1, h2, hj⟩ | ⟨rfl, rfl⟩ | ⟨h1, h2, hj⟩ | ⟨rfl, hj⟩ | ⟨rfl | rfl | rfl, rfl⟩ | ⟨hc, hj⟩ | ⟨hc, rfl⟩ | ⟨hc, hj⟩ | ⟨rfl | rfl, hj⟩
    · simp (disch := omega) only [f2, f3, f4, f5, f6, f7, f8, fd, f9, f10, f11, f12, f13]; exact m1 j hj
    · simp (disch := omega) only [f2, f3, f4, f5, f6, f7, f8, fd, f9, f10, f11, f12, f13]; have := m14 (c - 2) j (by omega) (by omega) hj; rw [show 61 + (c - 2) = 59 + c by omega, show 2 + (c - 2) = 0 + c by omega] at this; exact this
    · simp (disch := omega) only [f2, f3, f4, f5, f6, f7, f8, fd, f9, f10, f11, f12, f13]; have := m10 (c - 2) j (by omega) (by omega) hj; rw [show 61 + (c - 2) = 59 + c by omega, show 2 + (c - 2) = 0 + c by omega] at this; exact this
    · simp (disch := omega) only [f2, f3, f4, f5, f6, f7, f8, fd, f9, f10, f11, f12, f13]; have := m12 (c - 2) j (by omega) (by omega) hj; rw [show 61 + (c - 2) = 59 + c by omega, show 2 + (c - 2) = 0 + c by omega] at this; exact this
    · simp (disch := omega) only [f3, f4, f5, f6, f7, f8, fd, f9, f10, f11, f12, f13]; rw [show 59 + 15 = 74 from rfl, g2]; simp (disch := omega) only [f1]
    · simp (disch := omega) only [f3, f4, f5, f6, f7, f8, fd, f9, f10, f11, f12, f13]; rw [g2b c j h1 h2 hj]; simp (disch := omega) only [f1]
    · simp (disch := omega) only [f4, f5, f6, f7, f8, fd, f9, f10, f11, f12, f13]; rw [show 59 + 21 = 80 from rfl, g3]; simp (disch := omega) only [f1, f2]
    · simp (disch := omega) only [f4, f5, f6, f7, f8, fd, f9, f10, f11, f12, f13]; rw [g3b c j h1 h2 hj]; simp (disch := omega) only [f1, f2]
    · simp (disch := omega) only [f4, f5, f6, f7, f8, fd, f9, f10, f11, f12, f13]; rw [show 59 + 26 = 85 from rfl, g3c j hj]; simp (disch := omega) only [f1, f2]
    · simp (disch := omega) only [f5, f6, f7, f8, fd, f9, f10, f11, f12, f13]; rw [show 59 + 29 = 88 from rfl, g4]; simp (disch := omega) only [f1, f2, f3]
    · simp (disch := omega) only [f6, f7, f8, fd, f9, f10, f11, f12, f13]; rw [show 59 + 34 = 93 from rfl, g5]; simp (disch := omega) only [f1, f2, f3, f4]
    · simp (disch := omega) only [f7, f8, fd, f9, f10, f11, f12, f13]; rw [show 59 + 39 = 98 from rfl, g6]; simp (disch := omega) only [f1, f2, f3, f4, f5]
    · rcases hc with ⟨h1, h2⟩ | ⟨h1, h2⟩ | ⟨h1, h2⟩
      · simp (disch := omega) only [f5, f6, f7, f8, fd, f9, f10, f11, f12, f13]; have := g4b (c - 29) j (by omega) (by omega) hj; rw [show 88 + (c - 29) = 59 + c by omega, show 29 + (c - 29) = 0 + c by omega] at this; rw [this]; simp (disch := omega) only [f1, f2, f3]
      · simp (disch := omega) only [f6, f7, f8, fd, f9, f10, f11, f12, f13]; have := g5b (c - 34) j (by omega) (by omega) hj; rw [show 93 + (c - 34) = 59 + c by omega, show 34 + (c - 34) = 0 + c by omega] at this; rw [this]; simp (disch := omega) only [f1, f2, f3, f4]
      · simp (disch := omega) only [f7, f8, fd, f9, f10, f11, f12, f13]; have := g6b (c - 39) j (by omega) (by omega) hj; rw [show 98 + (c - 39) = 59 + c by omega, show 39 + (c - 39) = 0 + c by omega] at this; rw [this]; simp (disch := omega) only [f1, f2, f3, f4, f5]
    · rcases hc with rfl | rfl | rfl | rfl | rfl | rfl | rfl
      · simp (disch := omega) only [f8, fd, f9, f10, f11, f12, f13]; rw [show 59 + 44 = 103 from rfl, g7]; simp (disch := omega) only [f1, f2, f3, f4, f5, f6]
      · simp (disch := omega) only [fd, f9, f10, f11, f12, f13]; rw [show 59 + 46 = 105 from rfl, g8]; simp (disch := omega) only [f1, f2, f3, f4, f5, f6, f7]
      · simp (disch := omega) only [f10, f11, f12, f13]; rw [show 59 + 50 = 109 from rfl, g9]; simp (disch := omega) only [f1, f2, f3, f4, f5, f6, f7, f8, fd]
      · simp (disch := omega) only [f11, f12, f13]; rw [show 59 + 52 = 111 from rfl, g10]; simp (disch := omega) only [f1, f2, f3, f4, f5, f6, f7, f8, fd, f9]
      · simp (disch := omega) only [f12, f13]; rw [show 59 + 54 = 113 from rfl, g11]; simp (disch := omega) only [f1, f2, f3, f4, f5, f6, f7, f8, fd, f9, f10]
      · simp (disch := omega) only [f13]; rw [show 59 + 56 = 115 from rfl, g12]; simp (disch := omega) only [f1, f2, f3, f4, f5, f6, f7, f8, fd, f9, f10, f11]
      · rw [show 59 + 58 = 117 from rfl, g13]; simp (disch := omega) only [f1, f2, f3, f4, f5, f6, f7, f8, fd, f9, f10, f11, f12]
    · rcases hc with rfl | rfl | rfl | rfl | rfl | rfl | rfl
      · simp (disch := omega) only [f8, fd, f9, f10, f11, f12, f13]; rw [show 59 + 45 = 103 + 1 from rfl, g7b j hj]; simp (disch := omega) only [f1, f2, f3, f4, f5, f6]
      · simp (disch := omega) only [fd, f9, f10, f11, f12, f13]; rw [show 59 + 47 = 105 + 1 from rfl, g8b j hj]; simp (disch := omega) only [f1, f2, f3, f4, f5, f6, f7]
      · simp (disch := omega) only [f10, f11, f12, f13]; rw [show 59 + 51 = 109 + 1 from rfl, g9b j hj]; simp (disch := omega) only [f1, f2, f3, f4, f5, f6, f7, f8, fd]
      · simp (disch := omega) only [f11, f12, f13]; rw [show 59 + 53 = 111 + 1 from rfl, g10b j hj]; simp (disch := omega) only [f1, f2, f3, f4, f5, f6, f7, f8, fd, f9]
      · simp (disch := omega) only [f12, f13]; rw [show 59 + 55 = 113 + 1 from rfl, g11b j hj]; simp (disch := omega) only [f1, f2, f3, f4, f5, f6, f7, f8, fd, f9, f10]
      · simp (disch := omega) only [f13]; rw [show 59 + 57 = 115 + 1 from rfl, g12b j hj]; simp (disch := omega) only [f1, f2, f3, f4, f5, f6, f7, f8, fd, f9, f10, f11]
      · rw [show 59 + 59 = 117 + 1 from rfl, g13b j hj]; simp (disch := omega) only [f1, f2, f3, f4, f5, f6, f7, f8, fd, f9, f10, f11, f12]
    · simp (disch := omega) only [f9, f10, f11, f12, f13]; rw [show 59 + 48 = 107 from rfl, gd j hj]; simp (disch := omega) only [f1, f2, f3, f4, f5, f6, f7, f8]
    · simp (disch := omega) only [f9, f10, f11, f12, f13]; rw [show 59 + 49 = 108 from rfl, gdb j hj]; simp (disch := omega) only [f1, f2, f3, f4, f5, f6, f7, f8]
theorem desk_in {d : Nat} {I : zI} : ∃ K' : zI, cl (d + 3) 9 [.inr (some 1), .inr (some 60)] I = some (0, K') ∧ (∀ k j, ¬ (2 ≤ k ∧ k ≤ 59) → K' k j = I k j) ∧ (∀ k j, (k = 44 ∨ k = 46 ∨ k = 50 ∨ k = 52 ∨ k = 54 ∨ k = 56 ∨ k = 58) → j ≠ 2 → K' k j = I k j) ∧ ∀ c j, vD c j → K' (0 + c) j = I (59 + c) j := by
  obtain ⟨K1, x1, f1, m1, m14, m10, m12⟩ := s_21 (d := d + 1) (I := I) fi_2 fi_61 (by omega)
  obtain ⟨K2, x2, f2, g2, g2b⟩ : ∃ K2 : zI, cl (d + 2) 2 [.inr (some 15), .inr (some 74)] K1 = some (0, K2) ∧ (∀ k j, ¬ (15 ≤ k ∧ k ≤ 19) → K2 k j = K1 k j) ∧ K2 15 4 = K1 74 4 ∧ (∀ k j, 16 ≤ k → k ≤ 19 → j < 150 → K2 (0 + k) j = K1 (59 + k) j) := by
    refine ⟨_, e_2b, fun k j hk => ?_, ?_, fun k j h1 h2 hj => ?_⟩
    · simp (disch := omega) only [up_c, cp_c]
    · simp (disch := omega) only [up_c, up_s, cp_c]
    · have : k = 16 ∨ k = 17 ∨ k = 18 ∨ k = 19 := by omega
      rcases this with rfl | rfl | rfl | rfl <;> simp (disch := omega) only [up_c, cp_c, cp_in]
  obtain ⟨K3, x3, f3, g3, g3b, g3c⟩ : ∃ K3 : zI, cl (d + 2) 39 [.inr (some 20), .inr (some 79)] K2 = some (0, K3) ∧ (∀ k j, ¬ (20 ≤ k ∧ k ≤ 26) → K3 k j = K2 k j) ∧ K3 21 4 = K2 80 4 ∧ (∀ k j, 22 ≤ k → k ≤ 25 → j < 16 → K3 (0 + k) j = K2 (59 + k) j) ∧ (∀ j, j < 400 → K3 26 j = K2 85 j) := by
    obtain ⟨Kx, y1, y2, y3, y4⟩ := s_86 (d := d) (I := K2) tx_21 tx_80 (by omega)
    have E := e_39c (d := d + 1) (I := K2)
    rw [y1, Option.bind_some] at E
    dsimp only at E
    refine ⟨_, E, fun k j hk => ?_, ?_, fun k j h1 h2 hj => ?_, fun j hj => ?_⟩
    · rw [up_c (by omega), cp_c (by omega), y2 k j (by omega)]
    · rw [up_c (by decide), cp_c (by decide), y3]
    · have : k = 22 ∨ k = 23 ∨ k = 24 ∨ k = 25 := by omega
      rcases this with rfl | rfl | rfl | rfl
      · rw [up_c (by decide), cp_c (by decide)]; exact y4 1 j (by decide) (by decide) hj
      · rw [up_c (by decide), cp_c (by decide)]; exact y4 2 j (by decide) (by decide) hj
      · rw [up_c (by decide), cp_c (by decide)]; exact y4 3 j (by decide) (by decide) hj
      · rw [up_c (by decide), cp_c (by decide)]; exact y4 4 j (by decide) (by decide) hj
    · rw [up_c (by decide), cp_in hj, y2 85 j (by decide)]
  obtain ⟨K4, x4, f4, g4, g4b⟩ := s_86 (d := d + 1) (I := K3) tx_29 tx_88 (by omega)
  obtain ⟨K5, x5, f5, g5, g5b⟩ := s_86 (d := d + 1) (I := K4) tx_34 tx_93 (by omega)
  obtain ⟨K6, x6, f6, g6, g6b⟩ := s_86 (d := d + 1) (I := K5) tx_39 tx_98 (by omega)
  obtain ⟨K7, x7, f7, g7, g7b⟩ := s_83 (d := d + 1) (I := K6) r_44 r_103 (by omega)
  obtain ⟨K8, x8, f8, g8, g8b⟩ := s_83 (d := d + 1) (I := K7) r_46 r_105 (by omega)
  obtain ⟨Kd, fd, gd, gdb, hd⟩ : ∃ Kd : zI, (∀ k j, ¬ (48 ≤ k ∧ k ≤ 49) → Kd k j = K8 k j) ∧ (∀ j, j < 3 → Kd 48 j = K8 107 j) ∧ (∀ j, j < 3 → Kd 49 j = K8 108 j) ∧ Kd = cp (cp K8 107 48 0 0 3) 108 49 0 0 3 := by
    refine ⟨_, fun k j hk => ?_, fun j hj => ?_, fun j hj => ?_, rfl⟩
    · rw [cp_c (by omega), cp_c (by omega)]
    · rw [cp_c (by decide), cp_in hj]
    · rw [cp_in hj, cp_c (by decide)]
  obtain ⟨K9, x9, f9, g9, g9b⟩ := s_83 (d := d + 1) (I := Kd) r_50 r_109 (by omega)
  obtain ⟨K10, x10, f10, g10, g10b⟩ := s_83 (d := d + 1) (I := K9) r_52 r_111 (by omega)
  obtain ⟨K11, x11, f11, g11, g11b⟩ := s_83 (d := d + 1) (I := K10) r_54 r_113 (by omega)
  obtain ⟨K12, x12, f12, g12, g12b⟩ := s_83 (d := d + 1) (I := K11) r_56 r_115 (by omega)
  obtain ⟨K13, x13, f13, g13, g13b⟩ := s_83 (d := d + 1) (I := K12) r_58 r_117 (by omega)
  have E := e_9b (d := d + 2) (I := I)
  rw [x1, Option.bind_some] at E; dsimp only at E
  rw [x2, Option.bind_some] at E; dsimp only at E
  rw [x3, Option.bind_some] at E; dsimp only at E
  rw [x4, Option.bind_some] at E; dsimp only at E
  rw [x5, Option.bind_some] at E; dsimp only at E
  rw [x6, Option.bind_some] at E; dsimp only at E
  rw [x7, Option.bind_some] at E; dsimp only at E
  rw [x8, Option.bind_some] at E; dsimp only at E
  rw [← hd] at E
  rw [x9, Option.bind_some] at E; dsimp only at E
  rw [x10, Option.bind_some] at E; dsimp only at E
  rw [x11, Option.bind_some] at E; dsimp only at E
  rw [x12, Option.bind_some] at E; dsimp only at E
  rw [x13, Option.bind_some] at E; dsimp only at E
  refine ⟨K13, E, fun k j hk => ?_, fun k j hk hj => ?_, fun c j hv => ?_⟩
  · simp (disch := omega) only [f1, f2, f3, f4, f5, f6, f7, f8, fd, f9, f10, f11, f12, f13]
  · rcases hk with rfl | rfl | rfl | rfl | rfl | rfl | rfl <;> simp (disch := omega) only [f1, f2, f3, f4, f5, f6, f7, f8, fd, f9, f10, f11, f12, f13]
  · unfold vD at hv
    rcases hv with ⟨rfl, hj⟩ | ⟨h1, h2, hj⟩ | ⟨h1, h2, hj⟩ | ⟨h1, h2, hj⟩ | ⟨rfl, rfl⟩ | ⟨h1, h2, hj⟩ | ⟨rfl, rfl⟩ | ⟨h1, h2, hj⟩ | ⟨rfl, hj⟩ | ⟨rfl | rfl | rfl, rfl⟩ | ⟨hc, hj⟩ | ⟨hc, rfl⟩ | ⟨hc, hj⟩ | ⟨rfl | rfl, hj⟩
    · simp (disch := omega) only [f2, f3, f4, f5, f6, f7, f8, fd, f9, f10, f11, f12, f13]; exact m1 j hj
    · simp (disch := omega) only [f2, f3, f4, f5, f6, f7, f8, fd, f9, f10, f11, f12, f13]; have := m14 (c - 2) j (by omega) (by omega) hj; rw [show 2 + (c - 2) = 0 + c by omega, show 61 + (c - 2) = 59 + c by omega] at this; exact this
    · simp (disch := omega) only [f2, f3, f4, f5, f6, f7, f8, fd, f9, f10, f11, f12, f13]; have := m10 (c - 2) j (by omega) (by omega) hj; rw [show 2 + (c - 2) = 0 + c by omega, show 61 + (c - 2) = 59 + c by omega] at this; exact this
    · simp (disch := omega) only [f2, f3, f4, f5, f6, f7, f8, fd, f9, f10, f11, f12, f13]; have := m12 (c - 2) j (by omega) (by omega) hj; rw [show 2 + (c - 2) = 0 + c by omega, show 61 + (c - 2) = 59 + c by omega] at this; exact this
    · simp (disch := omega) only [f3, f4, f5, f6, f7, f8, fd, f9, f10, f11, f12, f13]; rw [show 0 + 15 = 15 from rfl, g2]; simp (disch := omega) only [f1]
    · simp (disch := omega) only [f3, f4, f5, f6, f7, f8, fd, f9, f10, f11, f12, f13]; rw [g2b c j h1 h2 hj]; simp (disch := omega) only [f1]
    · simp (disch := omega) only [f4, f5, f6, f7, f8, fd, f9, f10, f11, f12, f13]; rw [show 0 + 21 = 21 from rfl, g3]; simp (disch := omega) only [f1, f2]
    · simp (disch := omega) only [f4, f5, f6, f7, f8, fd, f9, f10, f11, f12, f13]; rw [g3b c j h1 h2 hj]; simp (disch := omega) only [f1, f2]
    · simp (disch := omega) only [f4, f5, f6, f7, f8, fd, f9, f10, f11, f12, f13]; rw [show 0 + 26 = 26 from rfl, g3c j hj]; simp (disch := omega) only [f1, f2]
    · simp (disch := omega) only [f5, f6, f7, f8, fd, f9, f10, f11, f12, f13]; rw [show 0 + 29 = 29 from rfl, g4]; simp (disch := omega) only [f1, f2, f3]
    · simp (disch := omega) only [f6, f7, f8, fd, f9, f10, f11, f12, f13]; rw [show 0 + 34 = 34 from rfl, g5]; simp (disch := omega) only [f1, f2, f3, f4]
    · simp (disch := omega) only [f7, f8, fd, f9, f10, f11, f12, f13]; rw [show 0 + 39 = 39 from rfl, g6]; simp (disch := omega) only [f1, f2, f3, f4, f5]
    · rcases hc with ⟨h1, h2⟩ | ⟨h1, h2⟩ | ⟨h1, h2⟩
      · simp (disch := omega) only [f5, f6, f7, f8, fd, f9, f10, f11, f12, f13]; have := g4b (c - 29) j (by omega) (by omega) hj; rw [show 29 + (c - 29) = 0 + c by omega, show 88 + (c - 29) = 59 + c by omega] at this; rw [this]; simp (disch := omega) only [f1, f2, f3]
      · simp (disch := omega) only [f6, f7, f8, fd, f9, f10, f11, f12, f13]; have := g5b (c - 34) j (by omega) (by omega) hj; rw [show 34 + (c - 34) = 0 + c by omega, show 93 + (c - 34) = 59 + c by omega] at this; rw [this]; simp (disch := omega) only [f1, f2, f3, f4]
      · simp (disch := omega) only [f7, f8, fd, f9, f10, f11, f12, f13]; have := g6b (c - 39) j (by omega) (by omega) hj; rw [show 39 + (c - 39) = 0 + c by omega, show 98 + (c - 39) = 59 + c by omega] at this; rw [this]; simp (disch := omega) only [f1, f2, f3, f4, f5]
    · rcases hc with rfl | rfl | rfl | rfl | rfl | rfl | rfl
      · simp (disch := omega) only [f8, fd, f9, f10, f11, f12, f13]; rw [show 0 + 44 = 44 from rfl, g7]; simp (disch := omega) only [f1, f2, f3, f4, f5, f6]
      · simp (disch := omega) only [fd, f9, f10, f11, f12, f13]; rw [show 0 + 46 = 46 from rfl, g8]; simp (disch := omega) only [f1, f2, f3, f4, f5, f6, f7]
      · simp (disch := omega) only [f10, f11, f12, f13]; rw [show 0 + 50 = 50 from rfl, g9]; simp (disch := omega) only [f1, f2, f3, f4, f5, f6, f7, f8, fd]
      · simp (disch := omega) only [f11, f12, f13]; rw [show 0 + 52 = 52 from rfl, g10]; simp (disch := omega) only [f1, f2, f3, f4, f5, f6, f7, f8, fd, f9]
      · simp (disch := omega) only [f12, f13]; rw [show 0 + 54 = 54 from rfl, g11]; simp (disch := omega) only [f1, f2, f3, f4, f5, f6, f7, f8, fd, f9, f10]
      · simp (disch := omega) only [f13]; rw [show 0 + 56 = 56 from rfl, g12]; simp (disch := omega) only [f1, f2, f3, f4, f5, f6, f7, f8, fd, f9, f10, f11]
      · rw [show 0 + 58 = 58 from rfl, g13]; simp (disch := omega) only [f1, f2, f3, f4, f5, f6, f7, f8, fd, f9, f10, f11, f12]
    · rcases hc with rfl | rfl | rfl | rfl | rfl | rfl | rfl
      · simp (disch := omega) only [f8, fd, f9, f10, f11, f12, f13]; rw [show 0 + 45 = 44 + 1 from rfl, g7b j hj]; simp (disch := omega) only [f1, f2, f3, f4, f5, f6]
      · simp (disch := omega) only [fd, f9, f10, f11, f12, f13]; rw [show 0 + 47 = 46 + 1 from rfl, g8b j hj]; simp (disch := omega) only [f1, f2, f3, f4, f5, f6, f7]
      · simp (disch := omega) only [f10, f11, f12, f13]; rw [show 0 + 51 = 50 + 1 from rfl, g9b j hj]; simp (disch := omega) only [f1, f2, f3, f4, f5, f6, f7, f8, fd]
      · simp (disch := omega) only [f11, f12, f13]; rw [show 0 + 53 = 52 + 1 from rfl, g10b j hj]; simp (disch := omega) only [f1, f2, f3, f4, f5, f6, f7, f8, fd, f9]
      · simp (disch := omega) only [f12, f13]; rw [show 0 + 55 = 54 + 1 from rfl, g11b j hj]; simp (disch := omega) only [f1, f2, f3, f4, f5, f6, f7, f8, fd, f9, f10]
      · simp (disch := omega) only [f13]; rw [show 0 + 57 = 56 + 1 from rfl, g12b j hj]; simp (disch := omega) only [f1, f2, f3, f4, f5, f6, f7, f8, fd, f9, f10, f11]
      · rw [show 0 + 59 = 58 + 1 from rfl, g13b j hj]; simp (disch := omega) only [f1, f2, f3, f4, f5, f6, f7, f8, fd, f9, f10, f11, f12]
    · simp (disch := omega) only [f9, f10, f11, f12, f13]; rw [show 0 + 48 = 48 from rfl, gd j hj]; simp (disch := omega) only [f1, f2, f3, f4, f5, f6, f7, f8]
    · simp (disch := omega) only [f9, f10, f11, f12, f13]; rw [show 0 + 49 = 49 from rfl, gdb j hj]; simp (disch := omega) only [f1, f2, f3, f4, f5, f6, f7, f8]
