/-! THE TAPE -/
theorem um_of : ∀ k : Nat, k < 32 → (((Int32.ofInt (k : Int)).toUInt32 &&& Int32.toUInt32 31).toBitVec % 32).toNat = k := by decide +kernel
theorem ff_of : ∀ i : Nat, i < 32 → 8 ≤ i → (Int32.ofInt 255).toBitVec.getLsbD i = false := by decide +kernel
theorem by4 {x : Int} {s : Nat} (hs : s ≤ 24) : zand (zushr x (s : Int)) 255 = zand (zshr x (s : Int)) 255 := by
  unfold zand zushr zshr
  rw [Int32.ofInt_toInt, Int32.ofInt_toInt]
  refine congrArg Int32.toInt ?_
  refine Int32.toBitVec_inj.mp ?_
  rw [Int32.toBitVec_and, Int32.toBitVec_and]
  refine BitVec.eq_of_getLsbD_eq fun i hi => ?_
  rw [BitVec.getLsbD_and, BitVec.getLsbD_and]
  by_cases h8 : i < 8
  · congr 1
    rw [Int32.toBitVec_shiftRight]
    show (UInt32.toBitVec (_ >>> _)).getLsbD i = (BitVec.sshiftRight _ _).getLsbD i
    rw [UInt32.toBitVec_shiftRight, BitVec.ushiftRight_eq', um_of s (by omega), sm_of s (by omega), BitVec.getLsbD_ushiftRight, BitVec.getLsbD_sshiftRight]
    have : ¬ 32 ≤ i := by omega
    have h2 : s + i < 32 := by omega
    simp [this, h2]
  · rw [ff_of i hi (by omega), Bool.and_false, Bool.and_false]
theorem by_rg (z : Int) : 0 ≤ zand z 255 ∧ zand z 255 ≤ 255 := by
  unfold zand
  have h : (Int32.ofInt z &&& Int32.ofInt 255).toBitVec.toNat ≤ 255 := by
    rw [Int32.toBitVec_and, BitVec.toNat_and]
    exact Nat.le_trans Nat.and_le_right (by decide +kernel)
  rw [bv_to rfl (by omega)]
  omega
def RTp (K J : zI) (t : Nat) : Prop := K 213 1 = (t : Int) ∧ J 240 14 = (t : Int) ∧ ∀ j, j < t → J 248 j = K 214 j ∧ 0 ≤ K 214 j ∧ K 214 j ≤ 255
theorem type_in {d e : Nat} {x : Int} : ∀ (n t : Nat) (K J : zI), n ≤ 4 → t + n ≤ 400 → RTp K J t →
    ∃ K' J' : zI, RTp K' J' (t + n) ∧ (∀ c j, c ≠ 214 → ¬ (c = 213 ∧ j = 1) → K' c j = K c j) ∧ (∀ c j, c ≠ 248 → ¬ (c = 240 ∧ j = 14) → J' c j = J c j) ∧ zD (d + 1) 52 2 [some (.inr (some 213)), some (.inl x), some (.inl (8 * (n : Int) - 8))] [] K = some (0, K') ∧ zD (e + 1) 186 2 [some (.inr (some 240)), some (.inl x), some (.inl (8 * (n : Int) - 8))] [] J = some (0, J') := by
  intro n
  induction n with
  | zero =>
    intro t K J _ _ r
    refine ⟨K, J, r, fun _ _ _ _ => rfl, fun _ _ _ _ => rfl, ?_, ?_⟩
    · rw [e_52_2, if_pos (by omega)]
    · rw [e_186_2, if_pos (by omega)]
  | succ n ih =>
    intro t K J hn ht r
    obtain ⟨r1, r2, r3⟩ := r
    have es : 8 * ((n + 1 : Nat) : Int) - 8 = ((8 * n : Nat) : Int) := by omega
    have e1 : K 213 1 + 1 = ((t + 1 : Nat) : Int) := by omega
    have b4 := by4 (x := x) (s := 8 * n) (by omega)
    have br := by_rg (zshr x ((8 * n : Nat) : Int))
    obtain ⟨K', J', y1, y2, y3, y4, y5⟩ := ih (t + 1) (up (up K 214 t (zand (zshr x ((8 * n : Nat) : Int)) 255)) 213 1 ((t + 1 : Nat) : Int)) (up (up J 248 t (zand (zshr x ((8 * n : Nat) : Int)) 255)) 240 14 ((t + 1 : Nat) : Int)) (by omega) (by omega) ⟨up_s, up_s, fun j hj => by
      rw [up_c (k := 240) (by decide), up_c (k := 213) (by decide)]
      by_cases q : j = t
      · subst q
        rw [up_s, up_s]
        exact ⟨rfl, br⟩
      · rw [up_j q, up_j q]
        exact r3 j (by omega)⟩
    refine ⟨K', J', by rw [show t + (n + 1) = t + 1 + n by omega]; exact y1, fun c j q1 q2 => ?_, fun c j q1 q2 => ?_, ?_, ?_⟩
    · rw [y2 c j q1 q2]
      unfold up
      rw [if_neg q2, if_neg (fun e => q1 e.1)]
    · rw [y3 c j q1 q2]
      unfold up
      rw [if_neg q2, if_neg (fun e => q1 e.1)]
    · rw [e_52_2, es, if_neg (by omega), r1, if_neg (by omega), if_pos (by omega), if_pos (by omega), Int.toNat_natCast, b4, wr_id (z := (t : Int) + 1) (by omega) (by omega), ← zk1c, wr_id (by omega) (by omega), show ((8 * n : Nat) : Int) + -8 = 8 * (n : Int) - 8 by omega]
      exact y4
    · rw [e_186_2, es, if_neg (by omega), r2, if_pos (by omega), Int.toNat_natCast, wr_id (z := (t : Int) + 1) (by omega) (by omega), ← zk1c, wr_id (by omega) (by omega), show ((8 * n : Nat) : Int) + -8 = 8 * (n : Int) - 8 by omega]
      exact y5
theorem type_ok {d e t : Nat} {x : Int} {K J : zI} (ht : t + 4 ≤ 400) (r : RTp K J t) : ∃ K' J' : zI, RTp K' J' (t + 4) ∧ (∀ c j, c ≠ 214 → ¬ (c = 213 ∧ j = 1) → K' c j = K c j) ∧ (∀ c j, c ≠ 248 → ¬ (c = 240 ∧ j = 14) → J' c j = J c j) ∧ cl (d + 1) 52 [.inr (some 213), .inl x] K = some (0, K') ∧ cl (e + 1) 186 [.inr (some 240), .inl x] J = some (0, J') := by
  obtain ⟨K', J', y1, y2, y3, y4, y5⟩ := type_in (d := d) (e := e) (x := x) 4 t K J (by decide) ht r
  exact ⟨K', J', y1, y2, y3, by rw [e_52]; exact y4, by rw [e_186]; exact y5⟩
theorem q_feed {I : zI} {a b c d e : Int} (h : Rl I) : Pair 119 187 [.inl a, .inl b, .inl c, .inl d, .inl e] I := by
  refine Pair_two fun J hJ => ?_
  obtain ⟨⟨r1, r2, r3⟩, r4⟩ := h.2.2.1
  have E1 := e_119 (d := 59) (I := I) (x1 := a) (x2 := b) (x3 := c) (x4 := d) (x5 := e)
  have E2 := e_187 (d := 59) (I := J) (x1 := a) (x2 := b) (x3 := c) (x4 := d) (x5 := e)
  have j14 : J 240 14 = I 213 1 := by rw [hJ 240 14 (by decide), r1]
  by_cases hc : 380 < I 213 1
  · rw [if_pos hc] at E1
    rw [j14, if_pos hc] at E2
    exact ⟨-1, I, _, E1, E2, fun _ _ _ => rfl, fun k j hk => up_c (by omega), Rl_hIv h hJ (hIv_0 h hJ)⟩
  · rw [if_neg hc] at E1
    rw [j14, if_neg hc] at E2
    obtain ⟨t, ht⟩ : ∃ t : Nat, I 213 1 = t := ⟨(I 213 1).toNat, by omega⟩
    have R0 : RTp I (up J 240 0 0) t := ⟨ht, by rw [up_j (by decide), j14, ht], fun j hj => by
      rw [up_c (by decide), hJ 248 j (by decide)]
      exact r4 j (by omega)⟩
    obtain ⟨K1, J1, R1, k1, j1, x1, y1⟩ := type_ok (d := 58) (e := 58) (x := a) (by omega) R0
    obtain ⟨K2, J2, R2, k2, j2, x2, y2⟩ := type_ok (d := 58) (e := 58) (x := b) (by omega) R1
    obtain ⟨K3, J3, R3, k3, j3, x3, y3⟩ := type_ok (d := 58) (e := 58) (x := c) (by omega) R2
    obtain ⟨K4, J4, R4, k4, j4, x4, y4⟩ := type_ok (d := 58) (e := 58) (x := d) (by omega) R3
    obtain ⟨K5, J5, R5, k5, j5, x5, y5⟩ := type_ok (d := 58) (e := 58) (x := e) (by omega) R4
    rw [x1, Option.bind_some] at E1; dsimp only at E1; rw [x2, Option.bind_some] at E1; dsimp only at E1; rw [x3, Option.bind_some] at E1; dsimp only at E1; rw [x4, Option.bind_some] at E1; dsimp only at E1; rw [x5, Option.bind_some] at E1; dsimp only at E1; rw [R5.1] at E1
    rw [y1, Option.bind_some] at E2; dsimp only at E2; rw [y2, Option.bind_some] at E2; dsimp only at E2; rw [y3, Option.bind_some] at E2; dsimp only at E2; rw [y4, Option.bind_some] at E2; dsimp only at E2; rw [y5, Option.bind_some] at E2; dsimp only at E2; rw [R5.2.1] at E2
    have kk : ∀ c j, c ≠ 214 → ¬ (c = 213 ∧ j = 1) → K5 c j = I c j := fun c j q1 q2 => by rw [k5 c j q1 q2, k4 c j q1 q2, k3 c j q1 q2, k2 c j q1 q2, k1 c j q1 q2]
    have jj : ∀ c j, c ≠ 248 → ¬ (c = 240 ∧ (j = 0 ∨ j = 14)) → J5 c j = J c j := fun c j q1 q2 => by
      rw [j5 c j q1 (by omega), j4 c j q1 (by omega), j3 c j q1 (by omega), j2 c j q1 (by omega), j1 c j q1 (by omega)]
      exact if_neg (by omega)
    refine ⟨_, K5, J5, E1, E2, fun c j hc => kk c j (by omega) (by omega), fun c j hc => jj c j (by omega) (by omega), ?_⟩
    have hA : Ag [214, 248] [(213, 1), (240, 0), (240, 14)] I (mg K5 J5) := by
      intro c j q1 q2
      have n1 : c ≠ 214 := fun e => by rw [e] at q1; revert q1; decide
      have n2 : c ≠ 248 := fun e => by rw [e] at q1; revert q1; decide
      have p1 : ¬ (c = 213 ∧ j = 1) := fun e => by rw [e.1, e.2] at q2; revert q2; decide
      have p2 : ¬ (c = 240 ∧ j = 0) := fun e => by rw [e.1, e.2] at q2; revert q2; decide
      have p3 : ¬ (c = 240 ∧ j = 14) := fun e => by rw [e.1, e.2] at q2; revert q2; decide
      by_cases hc : c < 240
      · rw [mg_l hc]; exact kk c j n1 p1
      · rw [mg_r (by omega), jj c j n2 (by omega)]; exact hJ c j (by omega)
    refine ⟨⟨RFirm_cg (ag_c hA 2 rfl rfl) (fun k h1 h2 => ag_cs hA 3 14 (by decide) k h1 h2) (ag_c hA 241 rfl rfl) (ag_c hA 244 rfl rfl) (ag_c hA 245 rfl rfl) (ag_c hA 246 rfl rfl) (ag_f hA 240 6 rfl rfl) (ag_f hA 240 7 rfl rfl) (ag_f hA 240 8 rfl rfl) h.1.1, RBook_cg (ag_f hA 15 4 rfl rfl) (fun k h1 h2 => ag_cs hA 16 19 (by decide) k h1 h2) (ag_f hA 241 2 rfl rfl) (ag_c hA 247 rfl rfl) h.1.2.1, RLaw_cg (ag_f hA 21 4 rfl rfl) (fun k h1 h2 => ag_cs hA 22 26 (by decide) k h1 h2) (ag_f hA 250 0 rfl rfl) (fun l _ => ⟨congrFun (ag_c hA 251 rfl rfl) l, congrFun (ag_c hA 252 rfl rfl) l, congrFun (ag_c hA 253 rfl rfl) l, congrFun (ag_c hA 254 rfl rfl) l⟩) (fun i _ => ⟨congrFun (ag_c hA 255 rfl rfl) i, congrFun (ag_c hA 256 rfl rfl) i⟩) h.1.2.2.1, ROrd_cg (ag_f hA 2 3 rfl rfl) (ag_f hA 2 4 rfl rfl) (ag_f hA 2 5 rfl rfl) (ag_f hA 29 4 rfl rfl) (fun k h1 h2 => ag_cs hA 30 33 (by decide) k h1 h2) (ag_f hA 240 36 rfl rfl) (fun j _ => congrFun (ag_c hA 258 rfl rfl) j) h.1.2.2.2.1, RBird_cg (ag_f hA 34 4 rfl rfl) (fun k h1 h2 => ag_cs hA 35 37 (by decide) k h1 h2) (ag_f hA 240 38 rfl rfl) (fun b _ => ⟨congrFun (ag_c hA 259 rfl rfl) b, congrFun (ag_c hA 260 rfl rfl) b⟩) h.1.2.2.2.2.1, RAft_cg (ag_f hA 2 5 rfl rfl) (ag_f hA 39 4 rfl rfl) (fun k h1 h2 => ag_cs hA 40 41 (by decide) k h1 h2) (ag_f hA 240 41 rfl rfl) (fun e _ => congrFun (ag_c hA 261 rfl rfl) e) h.1.2.2.2.2.2.1, RRow_cg (ag_f hA 44 2 rfl rfl) (ag_c hA 45 rfl rfl) (ag_f hA 240 47 rfl rfl) (ag_c hA 266 rfl rfl) h.1.2.2.2.2.2.2.1, RRow_cg (ag_f hA 46 2 rfl rfl) (ag_c hA 47 rfl rfl) (ag_f hA 240 51 rfl rfl) (ag_c hA 269 rfl rfl) h.1.2.2.2.2.2.2.2.1, RDots_cg (ag_c hA 48 rfl rfl) (ag_c hA 49 rfl rfl) (ag_c hA 272 rfl rfl) (ag_c hA 273 rfl rfl) h.1.2.2.2.2.2.2.2.2.1, RPl_cg (ag_f hA 50 2 rfl rfl) (ag_c hA 51 rfl rfl) (ag_f hA 240 57 rfl rfl) (ag_f hA 240 58 rfl rfl) (ag_f hA 240 59 rfl rfl) h.1.2.2.2.2.2.2.2.2.2.1, RRow_cg (ag_f hA 52 2 rfl rfl) (ag_c hA 53 rfl rfl) (ag_f hA 240 62 rfl rfl) (ag_c hA 276 rfl rfl) h.1.2.2.2.2.2.2.2.2.2.2.1, RLegs_cg (ag_f hA 54 2 rfl rfl) (ag_c hA 55 rfl rfl) (ag_f hA 240 64 rfl rfl) (ag_c hA 277 rfl rfl) h.1.2.2.2.2.2.2.2.2.2.2.2.1, RRow_cg (ag_f hA 56 2 rfl rfl) (ag_c hA 57 rfl rfl) (ag_f hA 240 66 rfl rfl) (ag_c hA 278 rfl rfl) h.1.2.2.2.2.2.2.2.2.2.2.2.2.1, RRow_cg (ag_f hA 58 2 rfl rfl) (ag_c hA 59 rfl rfl) (ag_f hA 240 69 rfl rfl) (ag_c hA 280 rfl rfl) h.1.2.2.2.2.2.2.2.2.2.2.2.2.2⟩, RPast_cg (ag_f hA 119 2 rfl rfl) (ag_f hA 119 3 rfl rfl) (fun k h1 h2 => ag_cs hA 121 199 (by decide) k h1 h2) (ag_c hA 242 rfl rfl) (ag_f hA 240 3 rfl rfl) (ag_c hA 244 rfl rfl) (ag_c hA 245 rfl rfl) (ag_c hA 246 rfl rfl) (ag_f hA 240 6 rfl rfl) (ag_f hA 240 7 rfl rfl) (ag_f hA 240 8 rfl rfl) h.2.1, ?_, RFlt_cg (ag_f hA 213 7 rfl rfl) (ag_f hA 213 8 rfl rfl) (ag_f hA 240 34 rfl rfl) (ag_f hA 240 35 rfl rfl) h.2.2.2.1, RBox_cg (ag_f hA 238 1 rfl rfl) (ag_c hA 239 rfl rfl) h.2.2.2.2.1, RMisc_cg (ag_f hA 240 5 rfl rfl) (ag_c hA 249 rfl rfl) (ag_f hA 44 1 rfl rfl) (ag_f hA 46 1 rfl rfl) (ag_f hA 50 1 rfl rfl) (ag_f hA 52 1 rfl rfl) (ag_f hA 54 1 rfl rfl) (ag_f hA 56 1 rfl rfl) (ag_f hA 58 1 rfl rfl) h.2.2.2.2.2.1, RPic_cg (ag_f hA 0 2 rfl rfl) (ag_f hA 240 73 rfl rfl) (fun k h1 h2 => ag_cs hA 61 118 (by decide) k h1 h2) (ag_c hA 282 rfl rfl) h.2.2.2.2.2.2⟩
    unfold RTape
    rw [mg_r (by decide), mg_l (by decide), mg_r (by decide), mg_l (by decide), R5.1, R5.2.1]
    refine ⟨⟨rfl, by omega, by omega⟩, fun j hj => ?_⟩
    exact R5.2.2 j (by omega)
