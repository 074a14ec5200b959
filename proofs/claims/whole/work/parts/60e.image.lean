/-! THE IMAGE -/
theorem kp_many {e : Nat} {t : Int} {J0 J : zI} (ht : t = 0 ∨ t = 1) (r : KP t 110 J0 J) : ∃ J' : zI, KP t 125 J0 J' ∧ cl (e + 2) 288 [.inr (some 240)] J = some (0, J') := by
  have E := e_288 (d := e + 1) (I := J)
  obtain ⟨v0, A0, x0, f0, r0⟩ := kp_st (e := e) (n := 110) (c := 240) (j := 6) ht (by decide) rfl r
  rw [x0, Option.bind_some] at E
  dsimp only at E
  obtain ⟨v1, A1, x1, f1, r1⟩ := kp_st (e := e) (n := 111) (c := 240) (j := 7) ht (by decide) rfl r0
  rw [up_j (by decide)] at x1
  rw [x1, Option.bind_some] at E
  dsimp only at E
  obtain ⟨v2, A2, x2, f2, r2⟩ := kp_st (e := e) (n := 112) (c := 240) (j := 8) ht (by decide) rfl r1
  rw [up_j (by decide)] at x2
  rw [x2, Option.bind_some] at E
  dsimp only at E
  obtain ⟨v3, A3, x3, f3, r3⟩ := kp_st (e := e) (n := 113) (c := 240) (j := 36) ht (by decide) rfl r2
  rw [up_j (by decide)] at x3
  rw [x3, Option.bind_some] at E
  dsimp only at E
  obtain ⟨v4, A4, x4, f4, r4⟩ := kp_st (e := e) (n := 114) (c := 240) (j := 38) ht (by decide) rfl r3
  rw [up_j (by decide)] at x4
  rw [x4, Option.bind_some] at E
  dsimp only at E
  obtain ⟨v5, A5, x5, f5, r5⟩ := kp_st (e := e) (n := 115) (c := 240) (j := 41) ht (by decide) rfl r4
  rw [up_j (by decide)] at x5
  rw [x5, Option.bind_some] at E
  dsimp only at E
  obtain ⟨v6, A6, x6, f6, r6⟩ := kp_st (e := e) (n := 116) (c := 240) (j := 47) ht (by decide) rfl r5
  rw [up_j (by decide)] at x6
  rw [x6, Option.bind_some] at E
  dsimp only at E
  obtain ⟨v7, A7, x7, f7, r7⟩ := kp_st (e := e) (n := 117) (c := 240) (j := 51) ht (by decide) rfl r6
  rw [up_j (by decide)] at x7
  rw [x7, Option.bind_some] at E
  dsimp only at E
  obtain ⟨v8, A8, x8, f8, r8⟩ := kp_st (e := e) (n := 118) (c := 240) (j := 57) ht (by decide) rfl r7
  rw [up_j (by decide)] at x8
  rw [x8, Option.bind_some] at E
  dsimp only at E
  obtain ⟨v9, A9, x9, f9, r9⟩ := kp_st (e := e) (n := 119) (c := 240) (j := 58) ht (by decide) rfl r8
  rw [up_j (by decide)] at x9
  rw [x9, Option.bind_some] at E
  dsimp only at E
  obtain ⟨v10, A10, x10, f10, r10⟩ := kp_st (e := e) (n := 120) (c := 240) (j := 59) ht (by decide) rfl r9
  rw [up_j (by decide)] at x10
  rw [x10, Option.bind_some] at E
  dsimp only at E
  obtain ⟨v11, A11, x11, f11, r11⟩ := kp_st (e := e) (n := 121) (c := 240) (j := 62) ht (by decide) rfl r10
  rw [up_j (by decide)] at x11
  rw [x11, Option.bind_some] at E
  dsimp only at E
  obtain ⟨v12, A12, x12, f12, r12⟩ := kp_st (e := e) (n := 122) (c := 240) (j := 64) ht (by decide) rfl r11
  rw [up_j (by decide)] at x12
  rw [x12, Option.bind_some] at E
  dsimp only at E
  obtain ⟨v13, A13, x13, f13, r13⟩ := kp_st (e := e) (n := 123) (c := 240) (j := 66) ht (by decide) rfl r12
  rw [up_j (by decide)] at x13
  rw [x13, Option.bind_some] at E
  dsimp only at E
  obtain ⟨v14, A14, x14, f14, r14⟩ := kp_st (e := e) (n := 124) (c := 240) (j := 69) ht (by decide) rfl r13
  rw [up_j (by decide)] at x14
  rw [x14, Option.bind_some] at E
  dsimp only at E
  exact ⟨_, r14, E⟩
theorem kp_told {e : Nat} {t : Int} {J0 J : zI} (ht : t = 0 ∨ t = 1) (r : KP t 125 J0 J) : ∃ J' : zI, KP t 309 J0 J' ∧ cl (e + 2) 289 [.inr (some 240)] J = some (0, J') := by
  obtain ⟨J0, r0, y0⟩ := kp_bd (e := e) ht 14 0 J (by decide) r
  obtain ⟨J1, r1, y1⟩ := kp_3a (e := e) ht 10 0 J0 (by decide) r0
  obtain ⟨J2, r2, y2⟩ := kp_3b (e := e) ht 12 0 J1 (by decide) r1
  obtain ⟨J3, r3, y3⟩ := kp_3c (e := e) ht 8 0 J2 (by decide) r2
  obtain ⟨J4, r4, y4⟩ := kp_or (e := e) ht 64 0 J3 (by decide) r3
  obtain ⟨J5, r5, y5⟩ := kp_sp (e := e) ht 4 0 J4 (by decide) r4
  obtain ⟨J6, r6, y6⟩ := kp_dt (e := e) ht 3 0 J5 (by decide) r5
  obtain ⟨J7, r7, y7⟩ := kp_hr (e := e) ht 6 0 J6 (by decide) r6
  refine ⟨J7, r7, ?_⟩
  rw [e_289]
  refine y0.trans ?_
  rw [e_289_2, if_neg (by decide)]
  refine y1.trans ?_
  rw [e_289_19, if_neg (by decide)]
  refine y2.trans ?_
  rw [e_289_56, if_neg (by decide)]
  refine y3.trans ?_
  rw [e_289_93, if_neg (by decide)]
  refine y4.trans ?_
  rw [e_289_130, if_neg (by decide)]
  refine y5.trans ?_
  rw [e_289_147, if_neg (by decide)]
  refine y6.trans ?_
  rw [e_289_164, if_neg (by decide)]
  refine y7.trans ?_
  rw [e_289_191, if_neg (by decide)]
theorem kp_ll {e : Nat} {t : Int} {J0 J : zI} (ht : t = 0 ∨ t = 1) (r : KP t 909 J0 J) : ∃ J' : zI, KP t 1774 J0 J' ∧ cl (e + 2) 287 [.inr (some 240)] J = some (0, J') := by
  obtain ⟨v0, A0, x0, f0, r0⟩ := kp_st (e := e) (n := 909) (c := 250) (j := 0) ht (by decide) rfl r
  obtain ⟨J1, r1, y1⟩ := kp_law (e := e) ht 16 0 _ (by decide) r0
  obtain ⟨J2, r2, y2⟩ := kp_code (e := e) ht 400 0 J1 (by decide) r1
  refine ⟨J2, r2, ?_⟩
  rw [e_287, x0, Option.bind_some]
  dsimp only
  refine y1.trans ?_
  rw [e_287_12, if_neg (by decide)]
  refine y2.trans ?_
  rw [e_287_59, if_neg (by decide)]
theorem kp_whole {e : Nat} {t : Int} {J0 : zI} (ht : t = 0 ∨ t = 1) (r : KP t 0 J0 J0) : ∃ J' : zI, KP t 1774 J0 J' ∧ zD (e + 4) 290 21 [some (.inr (some 240)), some (.inl t), some (.inl 0)] [] J0 = some (1, if t = 0 then up J' 240 3 0 else J') := by
  obtain ⟨J1, r1, y1⟩ := kp_now (e := e + 2) (x1 := t) ht 110 0 J0 (by decide) r
  obtain ⟨J2, r2, y2⟩ := kp_many (e := e + 1) ht r1
  obtain ⟨J3, r3, y3⟩ := kp_told (e := e + 1) ht r2
  obtain ⟨J4, r4, y4⟩ := kp_bk (e := e + 2) (x1 := t) ht 600 0 J3 (by decide) r3
  obtain ⟨J5, r5, y5⟩ := kp_ll (e := e + 1) ht r4
  have y2 : cl (e + 3) 288 [.inr (some 240)] J1 = some (0, J2) := y2
  have y3 : cl (e + 3) 289 [.inr (some 240)] J2 = some (0, J3) := y3
  have y5 : cl (e + 3) 287 [.inr (some 240)] J4 = some (0, J5) := y5
  refine ⟨J5, r5, y1.trans ?_⟩
  rw [e_290_21, if_neg (by decide), y2, Option.bind_some]
  dsimp only
  rw [y3, Option.bind_some]
  dsimp only
  refine y4.trans ?_
  rw [e_290_42, if_neg (by decide), y5, Option.bind_some]
  split <;> rfl
theorem vM_ok {c j : Nat} (h : vM c j) : zix c j < 1774 ∧ zps (zix c j) = (c, j) ∧ ∀ X : zI, img X c j = X 282 (zix c j) := by
  rcases h with ⟨rfl, h⟩ | ⟨rfl, h⟩ | ⟨rfl, h⟩ | ⟨rfl | rfl | rfl, h⟩ | ⟨rfl | rfl | rfl, h⟩ | ⟨rfl | rfl | rfl, h⟩ | ⟨rfl, h⟩ | ⟨rfl, h⟩ | ⟨rfl | rfl, h⟩ | ⟨rfl, h⟩ | ⟨rfl, h⟩ | ⟨rfl, rfl⟩ | ⟨rfl | rfl | rfl | rfl, h⟩ | ⟨rfl | rfl, h⟩
  · exact ⟨by show j < 1774; omega, by have q := zp_241 j h; show zps j = _; rw [← q]; first | rfl | (congr 1; omega), fun _ => rfl⟩
  · rcases h with rfl | rfl | rfl | rfl | rfl | rfl | rfl | rfl | rfl | rfl | rfl | rfl | rfl | rfl | rfl
    · exact ⟨by decide, rfl, fun _ => rfl⟩
    · exact ⟨by decide, rfl, fun _ => rfl⟩
    · exact ⟨by decide, rfl, fun _ => rfl⟩
    · exact ⟨by decide, rfl, fun _ => rfl⟩
    · exact ⟨by decide, rfl, fun _ => rfl⟩
    · exact ⟨by decide, rfl, fun _ => rfl⟩
    · exact ⟨by decide, rfl, fun _ => rfl⟩
    · exact ⟨by decide, rfl, fun _ => rfl⟩
    · exact ⟨by decide, rfl, fun _ => rfl⟩
    · exact ⟨by decide, rfl, fun _ => rfl⟩
    · exact ⟨by decide, rfl, fun _ => rfl⟩
    · exact ⟨by decide, rfl, fun _ => rfl⟩
    · exact ⟨by decide, rfl, fun _ => rfl⟩
    · exact ⟨by decide, rfl, fun _ => rfl⟩
    · exact ⟨by decide, rfl, fun _ => rfl⟩
  · exact ⟨by show 125 + j < 1774; omega, by have q := zp_244 j h; show zps (125 + j) = _; rw [← q]; first | rfl | (congr 1; omega), fun _ => rfl⟩
  · exact ⟨by show 139 + 3 * j < 1774; omega, by have q := zp_245 j h; show zps (139 + 3 * j) = _; rw [← q]; first | rfl | (congr 1; omega), fun _ => rfl⟩
  · exact ⟨by show 140 + 3 * j < 1774; omega, by have q := zp_266 j h; show zps (140 + 3 * j) = _; rw [← q]; first | rfl | (congr 1; omega), fun _ => rfl⟩
  · exact ⟨by show 141 + 3 * j < 1774; omega, by have q := zp_277 j h; show zps (141 + 3 * j) = _; rw [← q]; first | rfl | (congr 1; omega), fun _ => rfl⟩
  · exact ⟨by show 169 + 3 * j < 1774; omega, by have q := zp_246 j h; show zps (169 + 3 * j) = _; rw [← q]; first | rfl | (congr 1; omega), fun _ => rfl⟩
  · exact ⟨by show 170 + 3 * j < 1774; omega, by have q := zp_261 j h; show zps (170 + 3 * j) = _; rw [← q]; first | rfl | (congr 1; omega), fun _ => rfl⟩
  · exact ⟨by show 171 + 3 * j < 1774; omega, by have q := zp_276 j h; show zps (171 + 3 * j) = _; rw [← q]; first | rfl | (congr 1; omega), fun _ => rfl⟩
  · exact ⟨by show 205 + 3 * j < 1774; omega, by have q := zp_259 j h; show zps (205 + 3 * j) = _; rw [← q]; first | rfl | (congr 1; omega), fun _ => rfl⟩
  · exact ⟨by show 206 + 3 * j < 1774; omega, by have q := zp_260 j h; show zps (206 + 3 * j) = _; rw [← q]; first | rfl | (congr 1; omega), fun _ => rfl⟩
  · exact ⟨by show 207 + 3 * j < 1774; omega, by have q := zp_278 j h; show zps (207 + 3 * j) = _; rw [← q]; first | rfl | (congr 1; omega), fun _ => rfl⟩
  · exact ⟨by show 229 + j < 1774; omega, by have q := zp_258 j h; show zps (229 + j) = _; rw [← q]; first | rfl | (congr 1; omega), fun _ => rfl⟩
  · exact ⟨by show 293 + j < 1774; omega, by have q := zp_269 j h; show zps (293 + j) = _; rw [← q]; first | rfl | (congr 1; omega), fun _ => rfl⟩
  · exact ⟨by show 297 + 2 * j < 1774; omega, by have q := zp_272 j h; show zps (297 + 2 * j) = _; rw [← q]; first | rfl | (congr 1; omega), fun _ => rfl⟩
  · exact ⟨by show 298 + 2 * j < 1774; omega, by have q := zp_273 j h; show zps (298 + 2 * j) = _; rw [← q]; first | rfl | (congr 1; omega), fun _ => rfl⟩
  · exact ⟨by show 303 + j < 1774; omega, by have q := zp_280 j h; show zps (303 + j) = _; rw [← q]; first | rfl | (congr 1; omega), fun _ => rfl⟩
  · exact ⟨by show 309 + j < 1774; omega, by have q := zp_247 j h; show zps (309 + j) = _; rw [← q]; first | rfl | (congr 1; omega), fun _ => rfl⟩
  · exact ⟨by decide, rfl, fun _ => rfl⟩
  · exact ⟨by show 910 + 4 * j < 1774; omega, by have q := zp_251 j h; show zps (910 + 4 * j) = _; rw [← q]; first | rfl | (congr 1; omega), fun _ => rfl⟩
  · exact ⟨by show 911 + 4 * j < 1774; omega, by have q := zp_252 j h; show zps (911 + 4 * j) = _; rw [← q]; first | rfl | (congr 1; omega), fun _ => rfl⟩
  · exact ⟨by show 912 + 4 * j < 1774; omega, by have q := zp_253 j h; show zps (912 + 4 * j) = _; rw [← q]; first | rfl | (congr 1; omega), fun _ => rfl⟩
  · exact ⟨by show 913 + 4 * j < 1774; omega, by have q := zp_254 j h; show zps (913 + 4 * j) = _; rw [← q]; first | rfl | (congr 1; omega), fun _ => rfl⟩
  · exact ⟨by show 974 + 2 * j < 1774; omega, by have q := zp_255 j h; show zps (974 + 2 * j) = _; rw [← q]; first | rfl | (congr 1; omega), fun _ => rfl⟩
  · exact ⟨by show 975 + 2 * j < 1774; omega, by have q := zp_256 j h; show zps (975 + 2 * j) = _; rw [← q]; first | rfl | (congr 1; omega), fun _ => rfl⟩
def oC : List Nat := [61, 62, 63, 64, 65, 66, 67, 68, 69, 70, 71, 72, 73, 74, 75, 76, 77, 78, 79, 80, 81, 82, 83, 84, 85, 86, 87, 88, 89, 90, 91, 92, 93, 94, 95, 96, 97, 98, 99, 100, 101, 102, 103, 104, 105, 106, 107, 108, 109, 110, 111, 112, 113, 114, 115, 116, 117, 118, 282]
def iC : List Nat := [2, 3, 4, 5, 6, 7, 8, 9, 10, 11, 12, 13, 14, 15, 16, 17, 18, 19, 20, 21, 22, 23, 24, 25, 26, 27, 28, 29, 30, 31, 32, 33, 34, 35, 36, 37, 38, 39, 40, 41, 42, 43, 44, 45, 46, 47, 48, 49, 50, 51, 52, 53, 54, 55, 56, 57, 58, 59, 241, 244, 245, 246, 247, 250, 251, 252, 253, 254, 255, 256, 258, 259, 260, 261, 266, 269, 272, 273, 276, 277, 278, 280]
def iF : List (Nat × Nat) := [(119, 3), (240, 0), (240, 3), (240, 72), (240, 74), (240, 6), (240, 7), (240, 8), (240, 36), (240, 38), (240, 41), (240, 47), (240, 51), (240, 57), (240, 58), (240, 59), (240, 62), (240, 64), (240, 66), (240, 69)]
def zpr (k : Nat) : Bool := iC.contains (zps k).1 || iF.contains (zps k)
theorem zpr_c : ∀ h, h < 36 → ∀ l, l < 50 → (decide (1774 ≤ 50 * h + l) || zpr (50 * h + l)) = true := by decide +kernel
theorem zpr_k {k : Nat} (h : k < 1774) : zpr k = true := by
  have q := zpr_c (k / 50) (by omega) (k % 50) (by omega)
  rw [show 50 * (k / 50) + k % 50 = k by omega, decide_eq_false (show ¬ 1774 ≤ k by omega), Bool.false_or] at q
  exact q
def zK0 (t : Int) (J : zI) : zI := up (up (up (up J 240 0 0) 240 72 t) 240 73 1) 240 74 0
theorem zK0_o {t : Int} {J : zI} {c j : Nat} (h : ¬ (c = 240 ∧ (j = 0 ∨ j = 72 ∨ j = 73 ∨ j = 74))) : zK0 t J c j = J c j := by
  unfold zK0 up
  rw [if_neg (by omega), if_neg (by omega), if_neg (by omega), if_neg (by omega)]
theorem zK0_3 {t : Int} {J : zI} : zK0 t J 240 73 = 1 := by
  unfold zK0
  rw [up_j (by decide), up_s]
theorem KP_0 {t : Int} {J : zI} : KP t 0 (zK0 t J) (zK0 t J) := by
  refine ⟨up_s, ?_, fun _ => ⟨fun _ _ _ _ => rfl, fun k hk => absurd hk (by omega)⟩, fun _ => ⟨fun _ _ _ _ => rfl, fun k hk => absurd hk (by omega)⟩⟩
  unfold zK0
  rw [up_j (by decide), up_j (by decide), up_s]
theorem q_image {I : zI} {v : Int} (hv : v = 0 ∨ v = 1) (h : Rl I) : Pair 154 290 [.inl v] I := by
  refine Pair_two fun J hJ => ?_
  have E1 := e_154 (d := 59) (I := I) (x1 := v)
  have E2 := e_290 (d := 59) (I := J) (x1 := v)
  obtain ⟨pc1, pc2, pc3⟩ := h.2.2.2.2.2.2
  rcases hv with rfl | rfl
  · rw [if_pos rfl] at E1 E2
    rw [hJ 240 73 (by decide), pc1] at E2
    by_cases h0 : I 0 2 = 0
    · rw [if_pos h0] at E1 E2
      exact ⟨0, I, _, E1, E2, fun _ _ _ => rfl, fun k j hk => up_c (by omega), Rl_hIv h hJ (hIv_0 h hJ)⟩
    · rw [if_neg h0] at E1 E2
      rw [if_pos (Or.inl rfl)] at E2
      have h1 : I 0 2 = 1 := by omega
      obtain ⟨K1, x1, f1, l1, g1⟩ := desk_in (d := 56) (I := I)
      rw [x1, Option.bind_some] at E1
      dsimp only at E1
      rw [s_50, Option.bind_some] at E1
      dsimp only at E1
      obtain ⟨J', r, y⟩ := kp_whole (e := 56) (t := 0) (Or.inl rfl) (KP_0 (t := 0) (J := J))
      have E2 := E2.trans y
      rw [if_pos rfl] at E2
      obtain ⟨_, _, _, r4⟩ := r
      obtain ⟨r5, r6⟩ := r4 rfl
      have jo : ∀ c j, ¬ (c = 240 ∧ (j = 0 ∨ j = 3 ∨ j = 72 ∨ j = 73 ∨ j = 74)) → (∀ k, k < 1774 → zps k ≠ (c, j)) → up J' 240 3 0 c j = J c j := fun c j q1 q2 => by
        unfold up
        rw [if_neg (by omega), r5 c j (by omega) q2, zK0_o (by omega)]
      have j73 : up J' 240 3 0 240 73 = 1 := by
        rw [up_j (by decide), r5 240 73 (by decide) (fun k hk e => (zps_k hk).2.2.2 (by rw [e]; exact ⟨rfl, by decide⟩)), zK0_3]
      have zc : ∀ c j, c < 240 → ∀ k, k < 1774 → zps k ≠ (c, j) := fun c j hc k hk e => by
        have := (zps_k hk).2.1
        rw [e] at this
        dsimp only at this
        omega
      refine ⟨1, _, _, E1, E2, fun c j hc => by rw [up_c (by omega), f1 c j (by omega)], fun c j hc => jo c j (by omega) (zc c j hc), ?_⟩
      have hA : Ag iC iF I (mg (up K1 119 3 0) (up J' 240 3 0)) := by
        intro c j q1 q2
        have n2 : ¬ (2 ≤ c ∧ c ≤ 59) := fun e => by
          have chk : ∀ p : Nat, p < 60 → 2 ≤ p → iC.contains p = true := by decide +kernel
          rw [chk c (by omega) e.1] at q1
          cases q1
        have p1 : ∀ a b, iF.contains (a, b) = true → ¬ (c = a ∧ j = b) := fun a b hx e => by rw [e.1, e.2, hx] at q2; cases q2
        have p119 := p1 119 3 rfl
        have p0 := p1 240 0 rfl
        have p3 := p1 240 3 rfl
        have p72 := p1 240 72 rfl
        have p74 := p1 240 74 rfl
        by_cases hc : c < 240
        · rw [mg_l hc]
          unfold up
          rw [if_neg p119]
          exact f1 c j (by omega)
        · rw [mg_r (by omega)]
          by_cases e73 : c = 240 ∧ j = 73
          · rw [e73.1, e73.2, j73, pc1, h1]
          · rw [jo c j (by omega) (fun k hk e => by
              have := zpr_k hk
              rw [zpr, e] at this
              dsimp only at this
              rw [q1, q2] at this
              cases this)]
            exact hJ c j (by omega)
      have hD : RDk (mg (up K1 119 3 0) (up J' 240 3 0)) (mg (up K1 119 3 0) (up J' 240 3 0)) 2 15 20 29 34 39 44 46 48 50 52 54 56 58 := by
        refine RDk_p (t := 0) (s := 59) (K := I) (M := img I) (fun c j hc => ?_) (fun c j hc => ?_) (pc3 h1)
        · have hc2 : c < 60 ∧ c ≠ 119 := by
            rcases hc with ⟨a, _⟩ | ⟨a, b, _⟩ | ⟨a, b, _⟩ | ⟨a, b, _⟩ | ⟨a, _⟩ | ⟨a, b, _⟩ | ⟨a, _⟩ | ⟨a, b, _⟩ | ⟨a, _⟩ | ⟨a | a | a, _⟩ | ⟨⟨a, b⟩ | ⟨a, b⟩ | ⟨a, b⟩, _⟩ | ⟨a | a | a | a | a | a | a, _⟩ | ⟨a | a | a | a | a | a | a, _⟩ | ⟨a | a, _⟩ <;> omega
          rw [mg_l (by omega), up_c (by omega)]
          exact g1 c j hc
        · obtain ⟨z1, z2, z3⟩ := vM_ok hc
          have q := r6 _ z1
          have zk := zps_k z1
          rw [z2] at q zk
          dsimp only at q zk
          have n3 : ¬ (c = 240 ∧ j = 3) := fun e => zk.2.2.2 ⟨e.1, by omega⟩
          rw [mg_r zk.2.1, z3]
          unfold up
          rw [if_neg n3, q, zK0_o (by omega)]
          exact hJ 282 _ (by decide)
      refine ⟨hD, ?_, RTape_cg (ag_f hA 213 1 rfl rfl) (ag_c hA 214 rfl rfl) (ag_f hA 240 14 rfl rfl) (ag_c hA 248 rfl rfl) h.2.2.1, RFlt_cg (ag_f hA 213 7 rfl rfl) (ag_f hA 213 8 rfl rfl) (ag_f hA 240 34 rfl rfl) (ag_f hA 240 35 rfl rfl) h.2.2.2.1, RBox_cg (ag_f hA 238 1 rfl rfl) (ag_c hA 239 rfl rfl) h.2.2.2.2.1, ?_, RPic_cg (ag_f hA 0 2 rfl rfl) (ag_f hA 240 73 rfl rfl) (fun k h1 h2 => ag_cs hA 61 118 (by decide) k h1 h2) (ag_c hA 282 rfl rfl) h.2.2.2.2.2.2⟩
      · unfold RPast
        rw [mg_l (c := 119) (by decide), mg_r (c := 240) (by decide), up_s, up_s, up_j (by decide), f1 119 2 (by decide)]
        exact ⟨(h.2.1).1, ⟨rfl, by decide, by decide⟩, fun k hk => absurd hk (by omega)⟩
      · have lk : ∀ c, (c = 44 ∨ c = 46 ∨ c = 50 ∨ c = 52 ∨ c = 54 ∨ c = 56 ∨ c = 58) → mg (up K1 119 3 0) (up J' 240 3 0) c 1 = I c 1 := fun c hc => by
          rw [mg_l (by rcases hc with rfl | rfl | rfl | rfl | rfl | rfl | rfl <;> decide), up_c (by rcases hc with rfl | rfl | rfl | rfl | rfl | rfl | rfl <;> decide)]
          exact l1 c 1 hc (by decide)
        exact RMisc_cg (ag_f hA 240 5 rfl rfl) (ag_c hA 249 rfl rfl) (lk 44 (by decide)) (lk 46 (by decide)) (lk 50 (by decide)) (lk 52 (by decide)) (lk 54 (by decide)) (lk 56 (by decide)) (lk 58 (by decide)) h.2.2.2.2.2.1
  · rw [if_neg (by decide)] at E1 E2
    rw [if_pos (Or.inr rfl)] at E2
    obtain ⟨K1, x1, f1, l1, g1⟩ := desk_out (d := 56) (I := I)
    rw [x1, Option.bind_some] at E1
    dsimp only at E1
    obtain ⟨J', r, y⟩ := kp_whole (e := 56) (t := 1) (Or.inr rfl) (KP_0 (t := 1) (J := J))
    have E2 := E2.trans y
    rw [if_neg (by decide)] at E2
    obtain ⟨_, _, r4, _⟩ := r
    obtain ⟨r5, r6⟩ := r4 rfl
    have jo : ∀ c j, ¬ (c = 240 ∧ (j = 0 ∨ j = 72 ∨ j = 73 ∨ j = 74)) → c ≠ 282 → J' c j = J c j := fun c j q1 q2 => by
      rw [r5 c j (by omega) (by omega), zK0_o (by omega)]
    refine ⟨1, _, _, E1, E2, fun c j hc => by rw [up_c (by omega), f1 c j (by omega)], fun c j hc => jo c j (by omega) (by omega), ?_⟩
    have hA : Ag oC [(0, 2), (240, 0), (240, 72), (240, 73), (240, 74)] I (mg (up K1 0 2 1) J') := by
      intro c j q1 q2
      have n2 : ¬ (61 ≤ c ∧ c ≤ 118) := fun e => by
        have chk : ∀ p : Nat, p < 119 → 61 ≤ p → oC.contains p = true := by decide +kernel
        rw [chk c (by omega) e.1] at q1
        cases q1
      have n282 : c ≠ 282 := fun e => by rw [e] at q1; revert q1; decide
      have p02 : ¬ (c = 0 ∧ j = 2) := fun e => by rw [e.1, e.2] at q2; revert q2; decide
      have p0 : ¬ (c = 240 ∧ j = 0) := fun e => by rw [e.1, e.2] at q2; revert q2; decide
      have p72 : ¬ (c = 240 ∧ j = 72) := fun e => by rw [e.1, e.2] at q2; revert q2; decide
      have p73 : ¬ (c = 240 ∧ j = 73) := fun e => by rw [e.1, e.2] at q2; revert q2; decide
      have p74 : ¬ (c = 240 ∧ j = 74) := fun e => by rw [e.1, e.2] at q2; revert q2; decide
      by_cases hc : c < 240
      · rw [mg_l hc]
        unfold up
        rw [if_neg p02]
        exact f1 c j (by omega)
      · rw [mg_r (by omega), jo c j (by omega) n282]
        exact hJ c j (by omega)
    refine ⟨⟨RFirm_cg (ag_c hA 2 rfl rfl) (fun k h1 h2 => ag_cs hA 3 14 (by decide) k h1 h2) (ag_c hA 241 rfl rfl) (ag_c hA 244 rfl rfl) (ag_c hA 245 rfl rfl) (ag_c hA 246 rfl rfl) (ag_f hA 240 6 rfl rfl) (ag_f hA 240 7 rfl rfl) (ag_f hA 240 8 rfl rfl) h.1.1, RBook_cg (ag_f hA 15 4 rfl rfl) (fun k h1 h2 => ag_cs hA 16 19 (by decide) k h1 h2) (ag_f hA 241 2 rfl rfl) (ag_c hA 247 rfl rfl) h.1.2.1, RLaw_cg (ag_f hA 21 4 rfl rfl) (fun k h1 h2 => ag_cs hA 22 26 (by decide) k h1 h2) (ag_f hA 250 0 rfl rfl) (fun l _ => ⟨congrFun (ag_c hA 251 rfl rfl) l, congrFun (ag_c hA 252 rfl rfl) l, congrFun (ag_c hA 253 rfl rfl) l, congrFun (ag_c hA 254 rfl rfl) l⟩) (fun i _ => ⟨congrFun (ag_c hA 255 rfl rfl) i, congrFun (ag_c hA 256 rfl rfl) i⟩) h.1.2.2.1, ROrd_cg (ag_f hA 2 3 rfl rfl) (ag_f hA 2 4 rfl rfl) (ag_f hA 2 5 rfl rfl) (ag_f hA 29 4 rfl rfl) (fun k h1 h2 => ag_cs hA 30 33 (by decide) k h1 h2) (ag_f hA 240 36 rfl rfl) (fun j _ => congrFun (ag_c hA 258 rfl rfl) j) h.1.2.2.2.1, RBird_cg (ag_f hA 34 4 rfl rfl) (fun k h1 h2 => ag_cs hA 35 37 (by decide) k h1 h2) (ag_f hA 240 38 rfl rfl) (fun b _ => ⟨congrFun (ag_c hA 259 rfl rfl) b, congrFun (ag_c hA 260 rfl rfl) b⟩) h.1.2.2.2.2.1, RAft_cg (ag_f hA 2 5 rfl rfl) (ag_f hA 39 4 rfl rfl) (fun k h1 h2 => ag_cs hA 40 41 (by decide) k h1 h2) (ag_f hA 240 41 rfl rfl) (fun e _ => congrFun (ag_c hA 261 rfl rfl) e) h.1.2.2.2.2.2.1, RRow_cg (ag_f hA 44 2 rfl rfl) (ag_c hA 45 rfl rfl) (ag_f hA 240 47 rfl rfl) (ag_c hA 266 rfl rfl) h.1.2.2.2.2.2.2.1, RRow_cg (ag_f hA 46 2 rfl rfl) (ag_c hA 47 rfl rfl) (ag_f hA 240 51 rfl rfl) (ag_c hA 269 rfl rfl) h.1.2.2.2.2.2.2.2.1, RDots_cg (ag_c hA 48 rfl rfl) (ag_c hA 49 rfl rfl) (ag_c hA 272 rfl rfl) (ag_c hA 273 rfl rfl) h.1.2.2.2.2.2.2.2.2.1, RPl_cg (ag_f hA 50 2 rfl rfl) (ag_c hA 51 rfl rfl) (ag_f hA 240 57 rfl rfl) (ag_f hA 240 58 rfl rfl) (ag_f hA 240 59 rfl rfl) h.1.2.2.2.2.2.2.2.2.2.1, RRow_cg (ag_f hA 52 2 rfl rfl) (ag_c hA 53 rfl rfl) (ag_f hA 240 62 rfl rfl) (ag_c hA 276 rfl rfl) h.1.2.2.2.2.2.2.2.2.2.2.1, RLegs_cg (ag_f hA 54 2 rfl rfl) (ag_c hA 55 rfl rfl) (ag_f hA 240 64 rfl rfl) (ag_c hA 277 rfl rfl) h.1.2.2.2.2.2.2.2.2.2.2.2.1, RRow_cg (ag_f hA 56 2 rfl rfl) (ag_c hA 57 rfl rfl) (ag_f hA 240 66 rfl rfl) (ag_c hA 278 rfl rfl) h.1.2.2.2.2.2.2.2.2.2.2.2.2.1, RRow_cg (ag_f hA 58 2 rfl rfl) (ag_c hA 59 rfl rfl) (ag_f hA 240 69 rfl rfl) (ag_c hA 280 rfl rfl) h.1.2.2.2.2.2.2.2.2.2.2.2.2.2⟩, RPast_cg (ag_f hA 119 2 rfl rfl) (ag_f hA 119 3 rfl rfl) (fun k h1 h2 => ag_cs hA 121 199 (by decide) k h1 h2) (ag_c hA 242 rfl rfl) (ag_f hA 240 3 rfl rfl) (ag_c hA 244 rfl rfl) (ag_c hA 245 rfl rfl) (ag_c hA 246 rfl rfl) (ag_f hA 240 6 rfl rfl) (ag_f hA 240 7 rfl rfl) (ag_f hA 240 8 rfl rfl) h.2.1, RTape_cg (ag_f hA 213 1 rfl rfl) (ag_c hA 214 rfl rfl) (ag_f hA 240 14 rfl rfl) (ag_c hA 248 rfl rfl) h.2.2.1, RFlt_cg (ag_f hA 213 7 rfl rfl) (ag_f hA 213 8 rfl rfl) (ag_f hA 240 34 rfl rfl) (ag_f hA 240 35 rfl rfl) h.2.2.2.1, RBox_cg (ag_f hA 238 1 rfl rfl) (ag_c hA 239 rfl rfl) h.2.2.2.2.1, RMisc_cg (ag_f hA 240 5 rfl rfl) (ag_c hA 249 rfl rfl) (ag_f hA 44 1 rfl rfl) (ag_f hA 46 1 rfl rfl) (ag_f hA 50 1 rfl rfl) (ag_f hA 52 1 rfl rfl) (ag_f hA 54 1 rfl rfl) (ag_f hA 56 1 rfl rfl) (ag_f hA 58 1 rfl rfl) h.2.2.2.2.2.1, ?_⟩
    unfold RPic
    rw [mg_r (c := 240) (by decide), mg_l (c := 0) (by decide), up_s, r5 240 73 (by decide) (by decide), zK0_3]
    refine ⟨rfl, Or.inr rfl, fun _ => ?_⟩
    refine RDk_p (t := 59) (s := 0) (K := I) (M := I) (fun c j hc => ?_) (fun c j hc => ?_) h.1
    · have hc2 : c < 60 := by
        rcases hc with ⟨a, _⟩ | ⟨a, b, _⟩ | ⟨a, b, _⟩ | ⟨a, b, _⟩ | ⟨a, _⟩ | ⟨a, b, _⟩ | ⟨a, _⟩ | ⟨a, b, _⟩ | ⟨a, _⟩ | ⟨a | a | a, _⟩ | ⟨⟨a, b⟩ | ⟨a, b⟩ | ⟨a, b⟩, _⟩ | ⟨a | a | a | a | a | a | a, _⟩ | ⟨a | a | a | a | a | a | a, _⟩ | ⟨a | a, _⟩ <;> omega
      rw [mg_l (by omega), up_c (by omega)]
      exact g1 c j hc
    · obtain ⟨z1, z2, z3⟩ := vM_ok hc
      have q := r6 _ z1
      have zk := zps_k z1
      rw [z2] at q zk
      dsimp only at q zk
      have n0 : ¬ (c = 240 ∧ (j = 0 ∨ j = 72 ∨ j = 73 ∨ j = 74)) := fun e => zk.2.2.2 ⟨e.1, by omega⟩
      rw [z3, mg_r (by decide), q, zK0_o n0]
      exact hJ c j zk.2.1
