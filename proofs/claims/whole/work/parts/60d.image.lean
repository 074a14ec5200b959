/-! THE MODEL'S IMAGE -/
def zps (k : Nat) : Nat × Nat := if k < 110 then (241, k) else if k < 125 then (240, ([6, 7, 8, 36, 38, 41, 47, 51, 57, 58, 59, 62, 64, 66, 69] : List Nat).getD (k - 110) 0) else if k < 139 then (244, k - 125) else if k < 169 then (if (k - 139) % 3 = 0 then 245 else if (k - 139) % 3 = 1 then 266 else 277, (k - 139) / 3) else if k < 205 then (if (k - 169) % 3 = 0 then 246 else if (k - 169) % 3 = 1 then 261 else 276, (k - 169) / 3) else if k < 229 then (if (k - 205) % 3 = 0 then 259 else if (k - 205) % 3 = 1 then 260 else 278, (k - 205) / 3) else if k < 293 then (258, k - 229) else if k < 297 then (269, k - 293) else if k < 303 then (if (k - 297) % 2 = 0 then 272 else 273, (k - 297) / 2) else if k < 309 then (280, k - 303) else if k < 909 then (247, k - 309) else if k = 909 then (250, 0) else if k < 974 then (251 + (k - 910) % 4, (k - 910) / 4) else (255 + (k - 974) % 2, (k - 974) / 2)
def zix (c j : Nat) : Nat := match c with
  | 241 => j
  | 240 => (match j with
    | 6 => 110
    | 7 => 111
    | 8 => 112
    | 36 => 113
    | 38 => 114
    | 41 => 115
    | 47 => 116
    | 51 => 117
    | 57 => 118
    | 58 => 119
    | 59 => 120
    | 62 => 121
    | 64 => 122
    | 66 => 123
    | 69 => 124
    | _ => 0)
  | 244 => 125 + j
  | 245 => 139 + 3 * j
  | 266 => 140 + 3 * j
  | 277 => 141 + 3 * j
  | 246 => 169 + 3 * j
  | 261 => 170 + 3 * j
  | 276 => 171 + 3 * j
  | 259 => 205 + 3 * j
  | 260 => 206 + 3 * j
  | 278 => 207 + 3 * j
  | 258 => 229 + j
  | 269 => 293 + j
  | 272 => 297 + 2 * j
  | 273 => 298 + 2 * j
  | 280 => 303 + j
  | 247 => 309 + j
  | 250 => 909
  | 251 => 910 + 4 * j
  | 252 => 911 + 4 * j
  | 253 => 912 + 4 * j
  | 254 => 913 + 4 * j
  | 255 => 974 + 2 * j
  | 256 => 975 + 2 * j
  | _ => 0
def zpq (k : Nat) : Bool := decide (zix (zps k).1 (zps k).2 = k) && (decide (240 ≤ (zps k).1) && (decide (¬ (zps k).1 = 282) && !(decide ((zps k).1 = 240) && ([0, 3, 5, 72, 73, 74] : List Nat).contains (zps k).2)))
theorem zps_c : ∀ h, h < 36 → ∀ l, l < 50 → (decide (1774 ≤ 50 * h + l) || zpq (50 * h + l)) = true := by decide +kernel
theorem zps_k {k : Nat} (h : k < 1774) : zix (zps k).1 (zps k).2 = k ∧ 240 ≤ (zps k).1 ∧ (zps k).1 ≠ 282 ∧ ¬ ((zps k).1 = 240 ∧ ((zps k).2 = 0 ∨ (zps k).2 = 3 ∨ (zps k).2 = 5 ∨ (zps k).2 = 72 ∨ (zps k).2 = 73 ∨ (zps k).2 = 74)) := by
  have q := zps_c (k / 50) (by omega) (k % 50) (by omega)
  rw [show 50 * (k / 50) + k % 50 = k by omega, decide_eq_false (show ¬ 1774 ≤ k by omega), Bool.false_or, zpq, Bool.and_eq_true, Bool.and_eq_true, Bool.and_eq_true, decide_eq_true_eq, decide_eq_true_eq, decide_eq_true_eq] at q
  obtain ⟨q1, q2, q3, q4⟩ := q
  refine ⟨q1, q2, q3, fun e => ?_⟩
  rw [decide_eq_true e.1, Bool.true_and] at q4
  have : ([0, 3, 5, 72, 73, 74] : List Nat).contains (zps k).2 = true := by
    rcases e.2 with y | y | y | y | y | y <;> rw [y] <;> rfl
  rw [this] at q4
  cases q4
theorem zps_inj {k n : Nat} (h : k < 1774) (h2 : n < 1774) (e : zps k = zps n) : k = n := by
  rw [← (zps_k h).1, ← (zps_k h2).1, e]
def KP (t : Int) (n : Nat) (J0 J : zI) : Prop := J 240 74 = (n : Int) ∧ J 240 72 = t ∧
  (t = 1 → (∀ c j, ¬ (c = 240 ∧ j = 74) → ¬ (c = 282 ∧ j < n) → J c j = J0 c j) ∧ ∀ k, k < n → J 282 k = J0 (zps k).1 (zps k).2) ∧
  (t = 0 → (∀ c j, ¬ (c = 240 ∧ j = 74) → (∀ k, k < n → zps k ≠ (c, j)) → J c j = J0 c j) ∧ ∀ k, k < n → J (zps k).1 (zps k).2 = J0 282 k)
theorem kp_st {e n c j : Nat} {t : Int} {J0 J : zI} (ht : t = 0 ∨ t = 1) (hn : n < 1774) (hp : zps n = (c, j)) (r : KP t n J0 J) : ∃ (v : Int) (J1 : zI), cl (e + 1) 286 [.inr (some 240), .inl (J c j)] J = some (v, J1) ∧ (∀ c' j', ¬ (c' = 240 ∧ j' = 74) → c' ≠ 282 → J1 c' j' = J c' j') ∧ KP t (n + 1) J0 (up J1 c j v) := by
  obtain ⟨r1, r2, r3, r4⟩ := r
  obtain ⟨p1, p2, p3, p4⟩ := zps_k hn
  rw [hp] at p1 p2 p3 p4
  dsimp only at p1 p2 p3 p4
  have wn : wr (wr (J 240 74 + 1) - 1) = (n : Int) := by rw [r1, wr_id (z := (n : Int) + 1) (by omega) (by omega), wr_id (by omega) (by omega)]; omega
  have E := e_286 (d := e) (I := J) (x1 := J c j)
  rw [wn, r2, r1, wr_id (z := (n : Int) + 1) (by omega) (by omega), ← zk1c] at E
  clear wn
  rcases ht with rfl | rfl
  · obtain ⟨q1, q2⟩ := r4 rfl
    rw [if_pos rfl, if_pos (by omega), Int.toNat_natCast] at E
    have fr : ∀ k, k < n → zps k ≠ (c, j) := fun k hk e => by
      have := zps_inj (by omega) hn (e.trans hp.symm)
      omega
    have j282 : J 282 n = J0 282 n := q1 282 n (by omega) (fun k hk e => (zps_k (k := k) (by omega)).2.2.1 (by rw [e]))
    refine ⟨_, _, E, fun c' j' h1 h2 => if_neg h1, ?_, ?_, fun e => absurd e (by decide), fun _ => ⟨fun c' j' h1 h2 => ?_, fun k hk => ?_⟩⟩
    · unfold up
      rw [if_neg (by omega), if_pos ⟨rfl, rfl⟩]
    · unfold up
      rw [if_neg (by omega), if_neg (by omega)]
      exact r2
    · have h3 : ¬ (c' = c ∧ j' = j) := fun e => h2 n (by omega) (by rw [hp, e.1, e.2])
      unfold up
      rw [if_neg h3, if_neg h1]
      exact q1 c' j' h1 fun k hk => h2 k (by omega)
    · by_cases e : k = n
      · rw [e, hp]
        dsimp only
        rw [up_s, j282]
      · have h3 : ¬ ((zps k).1 = c ∧ (zps k).2 = j) := fun y => fr k (by omega) (Prod.ext y.1 y.2)
        have h4 := (zps_k (k := k) (by omega)).2.2.2
        have h5 : ¬ ((zps k).1 = 240 ∧ (zps k).2 = 74) := fun y => h4 ⟨y.1, by omega⟩
        unfold up
        rw [if_neg h3, if_neg h5]
        exact q2 k (by omega)
  · obtain ⟨q1, q2⟩ := r3 rfl
    rw [if_neg (by decide), if_pos (by omega), Int.toNat_natCast] at E
    have hc : J c j = J0 c j := q1 c j (by omega) (by omega)
    refine ⟨_, _, E, fun c' j' h1 h2 => ?_, ?_, ?_, fun _ => ⟨fun c' j' h1 h2 => ?_, fun k hk => ?_⟩, fun e => absurd e (by decide)⟩
    · rw [up_c h2]; exact if_neg h1
    · unfold up
      rw [if_neg (by omega), if_neg (by omega), if_pos ⟨rfl, rfl⟩]
    · unfold up
      rw [if_neg (by omega), if_neg (by omega), if_neg (by omega)]
      exact r2
    · unfold up
      by_cases h3 : c' = c ∧ j' = j
      · rw [if_pos h3, h3.1, h3.2, hc]
      · rw [if_neg h3, if_neg (by omega), if_neg h1]
        exact q1 c' j' h1 (by omega)
    · rw [up_c (fun e => p3 e.symm)]
      by_cases e : k = n
      · rw [e, up_s, hp]
        exact hc
      · rw [up_j e, up_c (by decide)]
        exact q2 k (by omega)
theorem zp_251 : ∀ i, i < 16 → zps (910 + 4 * i + 0) = (251, i) := by decide +kernel
theorem zp_252 : ∀ i, i < 16 → zps (910 + 4 * i + 1) = (252, i) := by decide +kernel
theorem zp_253 : ∀ i, i < 16 → zps (910 + 4 * i + 2) = (253, i) := by decide +kernel
theorem zp_254 : ∀ i, i < 16 → zps (910 + 4 * i + 3) = (254, i) := by decide +kernel
theorem kp_law {e : Nat} {t : Int} {J0 : zI} (ht : t = 0 ∨ t = 1) : ∀ (m i : Nat) (J : zI), i + m = 16 → KP t (910 + 4 * i) J0 J → ∃ J' : zI, KP t (910 + 4 * 16) J0 J' ∧ zD (e + 2) 287 12 [some (.inr (some 240)), some (.inl ((i : Int)))] [] J = zD (e + 2) 287 12 [some (.inr (some 240)), some (.inl (((16 : Nat) : Int)))] [] J' := by
  intro m
  induction m with
  | zero =>
    intro i J hi r
    have e0 : i = 16 := by omega
    subst e0
    exact ⟨J, r, rfl⟩
  | succ m ih =>
    intro i J hi r
    have i48 : 0 ≤ (i : Int) ∧ (i : Int) < 48 := by omega
    have E := e_287_12 (d := e + 1) (I := J) (x1 := (i : Int))
    rw [if_pos (by omega)] at E
    simp only [if_pos i48, Int.toNat_natCast] at E
    rw [wr_id (z := (i : Int) + 1) (by omega) (by omega), ← zk1c] at E
    obtain ⟨v0, A0, x0, f0, r0⟩ := kp_st (e := e) (n := 910 + 4 * i + 0) ht (by omega) (zp_251 i (by omega)) r
    rw [x0, Option.bind_some] at E
    dsimp only at E
    obtain ⟨v1, A1, x1, f1, r1⟩ := kp_st (e := e) (n := 910 + 4 * i + 1) ht (by omega) (zp_252 i (by omega)) r0
    rw [up_c (by decide)] at x1
    rw [x1, Option.bind_some] at E
    dsimp only at E
    obtain ⟨v2, A2, x2, f2, r2⟩ := kp_st (e := e) (n := 910 + 4 * i + 2) ht (by omega) (zp_253 i (by omega)) r1
    rw [up_c (by decide)] at x2
    rw [x2, Option.bind_some] at E
    dsimp only at E
    obtain ⟨v3, A3, x3, f3, r3⟩ := kp_st (e := e) (n := 910 + 4 * i + 3) ht (by omega) (zp_254 i (by omega)) r2
    rw [up_c (by decide)] at x3
    rw [x3, Option.bind_some] at E
    dsimp only at E
    obtain ⟨J', a1, a2⟩ := ih (i + 1) _ (by omega) (show KP t (910 + 4 * (i + 1)) J0 _ from r3)
    exact ⟨J', a1, E.trans a2⟩
theorem zp_255 : ∀ i, i < 400 → zps (974 + 2 * i + 0) = (255, i) := by decide +kernel
theorem zp_256 : ∀ i, i < 400 → zps (974 + 2 * i + 1) = (256, i) := by decide +kernel
theorem kp_code {e : Nat} {t : Int} {J0 : zI} (ht : t = 0 ∨ t = 1) : ∀ (m i : Nat) (J : zI), i + m = 400 → KP t (974 + 2 * i) J0 J → ∃ J' : zI, KP t (974 + 2 * 400) J0 J' ∧ zD (e + 2) 287 59 [some (.inr (some 240)), some (.inl ((i : Int)))] [] J = zD (e + 2) 287 59 [some (.inr (some 240)), some (.inl (((400 : Nat) : Int)))] [] J' := by
  intro m
  induction m with
  | zero =>
    intro i J hi r
    have e0 : i = 400 := by omega
    subst e0
    exact ⟨J, r, rfl⟩
  | succ m ih =>
    intro i J hi r
    have i1200 : 0 ≤ (i : Int) ∧ (i : Int) < 1200 := by omega
    have E := e_287_59 (d := e + 1) (I := J) (x1 := (i : Int))
    rw [if_pos (by omega)] at E
    simp only [if_pos i1200, Int.toNat_natCast] at E
    rw [wr_id (z := (i : Int) + 1) (by omega) (by omega), ← zk1c] at E
    obtain ⟨v0, A0, x0, f0, r0⟩ := kp_st (e := e) (n := 974 + 2 * i + 0) ht (by omega) (zp_255 i (by omega)) r
    rw [x0, Option.bind_some] at E
    dsimp only at E
    obtain ⟨v1, A1, x1, f1, r1⟩ := kp_st (e := e) (n := 974 + 2 * i + 1) ht (by omega) (zp_256 i (by omega)) r0
    rw [up_c (by decide)] at x1
    rw [x1, Option.bind_some] at E
    dsimp only at E
    obtain ⟨J', a1, a2⟩ := ih (i + 1) _ (by omega) (show KP t (974 + 2 * (i + 1)) J0 _ from r1)
    exact ⟨J', a1, E.trans a2⟩
theorem zp_244 : ∀ i, i < 14 → zps (125 + 1 * i + 0) = (244, i) := by decide +kernel
theorem kp_bd {e : Nat} {t : Int} {J0 : zI} (ht : t = 0 ∨ t = 1) : ∀ (m i : Nat) (J : zI), i + m = 14 → KP t (125 + 1 * i) J0 J → ∃ J' : zI, KP t (125 + 1 * 14) J0 J' ∧ zD (e + 2) 289 2 [some (.inr (some 240)), some (.inl ((i : Int)))] [] J = zD (e + 2) 289 2 [some (.inr (some 240)), some (.inl (((14 : Nat) : Int)))] [] J' := by
  intro m
  induction m with
  | zero =>
    intro i J hi r
    have e0 : i = 14 := by omega
    subst e0
    exact ⟨J, r, rfl⟩
  | succ m ih =>
    intro i J hi r
    have i14 : 0 ≤ (i : Int) ∧ (i : Int) < 14 := by omega
    have E := e_289_2 (d := e + 1) (I := J) (x1 := (i : Int))
    rw [if_pos (by omega)] at E
    simp only [if_pos i14, Int.toNat_natCast] at E
    rw [wr_id (z := (i : Int) + 1) (by omega) (by omega), ← zk1c] at E
    obtain ⟨v0, A0, x0, f0, r0⟩ := kp_st (e := e) (n := 125 + 1 * i + 0) ht (by omega) (zp_244 i (by omega)) r
    rw [x0, Option.bind_some] at E
    dsimp only at E
    obtain ⟨J', a1, a2⟩ := ih (i + 1) _ (by omega) (show KP t (125 + 1 * (i + 1)) J0 _ from r0)
    exact ⟨J', a1, E.trans a2⟩
theorem zp_245 : ∀ i, i < 10 → zps (139 + 3 * i + 0) = (245, i) := by decide +kernel
theorem zp_266 : ∀ i, i < 10 → zps (139 + 3 * i + 1) = (266, i) := by decide +kernel
theorem zp_277 : ∀ i, i < 10 → zps (139 + 3 * i + 2) = (277, i) := by decide +kernel
theorem kp_3a {e : Nat} {t : Int} {J0 : zI} (ht : t = 0 ∨ t = 1) : ∀ (m i : Nat) (J : zI), i + m = 10 → KP t (139 + 3 * i) J0 J → ∃ J' : zI, KP t (139 + 3 * 10) J0 J' ∧ zD (e + 2) 289 19 [some (.inr (some 240)), some (.inl ((i : Int)))] [] J = zD (e + 2) 289 19 [some (.inr (some 240)), some (.inl (((10 : Nat) : Int)))] [] J' := by
  intro m
  induction m with
  | zero =>
    intro i J hi r
    have e0 : i = 10 := by omega
    subst e0
    exact ⟨J, r, rfl⟩
  | succ m ih =>
    intro i J hi r
    have i10 : 0 ≤ (i : Int) ∧ (i : Int) < 10 := by omega
    have E := e_289_19 (d := e + 1) (I := J) (x1 := (i : Int))
    rw [if_pos (by omega)] at E
    simp only [if_pos i10, Int.toNat_natCast] at E
    rw [wr_id (z := (i : Int) + 1) (by omega) (by omega), ← zk1c] at E
    obtain ⟨v0, A0, x0, f0, r0⟩ := kp_st (e := e) (n := 139 + 3 * i + 0) ht (by omega) (zp_245 i (by omega)) r
    rw [x0, Option.bind_some] at E
    dsimp only at E
    obtain ⟨v1, A1, x1, f1, r1⟩ := kp_st (e := e) (n := 139 + 3 * i + 1) ht (by omega) (zp_266 i (by omega)) r0
    rw [up_c (by decide)] at x1
    rw [x1, Option.bind_some] at E
    dsimp only at E
    obtain ⟨v2, A2, x2, f2, r2⟩ := kp_st (e := e) (n := 139 + 3 * i + 2) ht (by omega) (zp_277 i (by omega)) r1
    rw [up_c (by decide)] at x2
    rw [x2, Option.bind_some] at E
    dsimp only at E
    obtain ⟨J', a1, a2⟩ := ih (i + 1) _ (by omega) (show KP t (139 + 3 * (i + 1)) J0 _ from r2)
    exact ⟨J', a1, E.trans a2⟩
theorem zp_246 : ∀ i, i < 12 → zps (169 + 3 * i + 0) = (246, i) := by decide +kernel
theorem zp_261 : ∀ i, i < 12 → zps (169 + 3 * i + 1) = (261, i) := by decide +kernel
theorem zp_276 : ∀ i, i < 12 → zps (169 + 3 * i + 2) = (276, i) := by decide +kernel
theorem kp_3b {e : Nat} {t : Int} {J0 : zI} (ht : t = 0 ∨ t = 1) : ∀ (m i : Nat) (J : zI), i + m = 12 → KP t (169 + 3 * i) J0 J → ∃ J' : zI, KP t (169 + 3 * 12) J0 J' ∧ zD (e + 2) 289 56 [some (.inr (some 240)), some (.inl ((i : Int)))] [] J = zD (e + 2) 289 56 [some (.inr (some 240)), some (.inl (((12 : Nat) : Int)))] [] J' := by
  intro m
  induction m with
  | zero =>
    intro i J hi r
    have e0 : i = 12 := by omega
    subst e0
    exact ⟨J, r, rfl⟩
  | succ m ih =>
    intro i J hi r
    have i12 : 0 ≤ (i : Int) ∧ (i : Int) < 12 := by omega
    have i24 : 0 ≤ (i : Int) ∧ (i : Int) < 24 := by omega
    have E := e_289_56 (d := e + 1) (I := J) (x1 := (i : Int))
    rw [if_pos (by omega)] at E
    simp only [if_pos i12, if_pos i24, Int.toNat_natCast] at E
    rw [wr_id (z := (i : Int) + 1) (by omega) (by omega), ← zk1c] at E
    obtain ⟨v0, A0, x0, f0, r0⟩ := kp_st (e := e) (n := 169 + 3 * i + 0) ht (by omega) (zp_246 i (by omega)) r
    rw [x0, Option.bind_some] at E
    dsimp only at E
    obtain ⟨v1, A1, x1, f1, r1⟩ := kp_st (e := e) (n := 169 + 3 * i + 1) ht (by omega) (zp_261 i (by omega)) r0
    rw [up_c (by decide)] at x1
    rw [x1, Option.bind_some] at E
    dsimp only at E
    obtain ⟨v2, A2, x2, f2, r2⟩ := kp_st (e := e) (n := 169 + 3 * i + 2) ht (by omega) (zp_276 i (by omega)) r1
    rw [up_c (by decide)] at x2
    rw [x2, Option.bind_some] at E
    dsimp only at E
    obtain ⟨J', a1, a2⟩ := ih (i + 1) _ (by omega) (show KP t (169 + 3 * (i + 1)) J0 _ from r2)
    exact ⟨J', a1, E.trans a2⟩
theorem zp_259 : ∀ i, i < 8 → zps (205 + 3 * i + 0) = (259, i) := by decide +kernel
theorem zp_260 : ∀ i, i < 8 → zps (205 + 3 * i + 1) = (260, i) := by decide +kernel
theorem zp_278 : ∀ i, i < 8 → zps (205 + 3 * i + 2) = (278, i) := by decide +kernel
theorem kp_3c {e : Nat} {t : Int} {J0 : zI} (ht : t = 0 ∨ t = 1) : ∀ (m i : Nat) (J : zI), i + m = 8 → KP t (205 + 3 * i) J0 J → ∃ J' : zI, KP t (205 + 3 * 8) J0 J' ∧ zD (e + 2) 289 93 [some (.inr (some 240)), some (.inl ((i : Int)))] [] J = zD (e + 2) 289 93 [some (.inr (some 240)), some (.inl (((8 : Nat) : Int)))] [] J' := by
  intro m
  induction m with
  | zero =>
    intro i J hi r
    have e0 : i = 8 := by omega
    subst e0
    exact ⟨J, r, rfl⟩
  | succ m ih =>
    intro i J hi r
    have i8 : 0 ≤ (i : Int) ∧ (i : Int) < 8 := by omega
    have i16 : 0 ≤ (i : Int) ∧ (i : Int) < 16 := by omega
    have E := e_289_93 (d := e + 1) (I := J) (x1 := (i : Int))
    rw [if_pos (by omega)] at E
    simp only [if_pos i8, if_pos i16, Int.toNat_natCast] at E
    rw [wr_id (z := (i : Int) + 1) (by omega) (by omega), ← zk1c] at E
    obtain ⟨v0, A0, x0, f0, r0⟩ := kp_st (e := e) (n := 205 + 3 * i + 0) ht (by omega) (zp_259 i (by omega)) r
    rw [x0, Option.bind_some] at E
    dsimp only at E
    obtain ⟨v1, A1, x1, f1, r1⟩ := kp_st (e := e) (n := 205 + 3 * i + 1) ht (by omega) (zp_260 i (by omega)) r0
    rw [up_c (by decide)] at x1
    rw [x1, Option.bind_some] at E
    dsimp only at E
    obtain ⟨v2, A2, x2, f2, r2⟩ := kp_st (e := e) (n := 205 + 3 * i + 2) ht (by omega) (zp_278 i (by omega)) r1
    rw [up_c (by decide)] at x2
    rw [x2, Option.bind_some] at E
    dsimp only at E
    obtain ⟨J', a1, a2⟩ := ih (i + 1) _ (by omega) (show KP t (205 + 3 * (i + 1)) J0 _ from r2)
    exact ⟨J', a1, E.trans a2⟩
theorem zp_258 : ∀ i, i < 64 → zps (229 + 1 * i + 0) = (258, i) := by decide +kernel
theorem kp_or {e : Nat} {t : Int} {J0 : zI} (ht : t = 0 ∨ t = 1) : ∀ (m i : Nat) (J : zI), i + m = 64 → KP t (229 + 1 * i) J0 J → ∃ J' : zI, KP t (229 + 1 * 64) J0 J' ∧ zD (e + 2) 289 130 [some (.inr (some 240)), some (.inl ((i : Int)))] [] J = zD (e + 2) 289 130 [some (.inr (some 240)), some (.inl (((64 : Nat) : Int)))] [] J' := by
  intro m
  induction m with
  | zero =>
    intro i J hi r
    have e0 : i = 64 := by omega
    subst e0
    exact ⟨J, r, rfl⟩
  | succ m ih =>
    intro i J hi r
    have i128 : 0 ≤ (i : Int) ∧ (i : Int) < 128 := by omega
    have E := e_289_130 (d := e + 1) (I := J) (x1 := (i : Int))
    rw [if_pos (by omega)] at E
    simp only [if_pos i128, Int.toNat_natCast] at E
    rw [wr_id (z := (i : Int) + 1) (by omega) (by omega), ← zk1c] at E
    obtain ⟨v0, A0, x0, f0, r0⟩ := kp_st (e := e) (n := 229 + 1 * i + 0) ht (by omega) (zp_258 i (by omega)) r
    rw [x0, Option.bind_some] at E
    dsimp only at E
    obtain ⟨J', a1, a2⟩ := ih (i + 1) _ (by omega) (show KP t (229 + 1 * (i + 1)) J0 _ from r0)
    exact ⟨J', a1, E.trans a2⟩
theorem zp_269 : ∀ i, i < 4 → zps (293 + 1 * i + 0) = (269, i) := by decide +kernel
theorem kp_sp {e : Nat} {t : Int} {J0 : zI} (ht : t = 0 ∨ t = 1) : ∀ (m i : Nat) (J : zI), i + m = 4 → KP t (293 + 1 * i) J0 J → ∃ J' : zI, KP t (293 + 1 * 4) J0 J' ∧ zD (e + 2) 289 147 [some (.inr (some 240)), some (.inl ((i : Int)))] [] J = zD (e + 2) 289 147 [some (.inr (some 240)), some (.inl (((4 : Nat) : Int)))] [] J' := by
  intro m
  induction m with
  | zero =>
    intro i J hi r
    have e0 : i = 4 := by omega
    subst e0
    exact ⟨J, r, rfl⟩
  | succ m ih =>
    intro i J hi r
    have i4 : 0 ≤ (i : Int) ∧ (i : Int) < 4 := by omega
    have E := e_289_147 (d := e + 1) (I := J) (x1 := (i : Int))
    rw [if_pos (by omega)] at E
    simp only [if_pos i4, Int.toNat_natCast] at E
    rw [wr_id (z := (i : Int) + 1) (by omega) (by omega), ← zk1c] at E
    obtain ⟨v0, A0, x0, f0, r0⟩ := kp_st (e := e) (n := 293 + 1 * i + 0) ht (by omega) (zp_269 i (by omega)) r
    rw [x0, Option.bind_some] at E
    dsimp only at E
    obtain ⟨J', a1, a2⟩ := ih (i + 1) _ (by omega) (show KP t (293 + 1 * (i + 1)) J0 _ from r0)
    exact ⟨J', a1, E.trans a2⟩
theorem zp_272 : ∀ i, i < 3 → zps (297 + 2 * i + 0) = (272, i) := by decide +kernel
theorem zp_273 : ∀ i, i < 3 → zps (297 + 2 * i + 1) = (273, i) := by decide +kernel
theorem kp_dt {e : Nat} {t : Int} {J0 : zI} (ht : t = 0 ∨ t = 1) : ∀ (m i : Nat) (J : zI), i + m = 3 → KP t (297 + 2 * i) J0 J → ∃ J' : zI, KP t (297 + 2 * 3) J0 J' ∧ zD (e + 2) 289 164 [some (.inr (some 240)), some (.inl ((i : Int)))] [] J = zD (e + 2) 289 164 [some (.inr (some 240)), some (.inl (((3 : Nat) : Int)))] [] J' := by
  intro m
  induction m with
  | zero =>
    intro i J hi r
    have e0 : i = 3 := by omega
    subst e0
    exact ⟨J, r, rfl⟩
  | succ m ih =>
    intro i J hi r
    have i3 : 0 ≤ (i : Int) ∧ (i : Int) < 3 := by omega
    have E := e_289_164 (d := e + 1) (I := J) (x1 := (i : Int))
    rw [if_pos (by omega)] at E
    simp only [if_pos i3, Int.toNat_natCast] at E
    rw [wr_id (z := (i : Int) + 1) (by omega) (by omega), ← zk1c] at E
    obtain ⟨v0, A0, x0, f0, r0⟩ := kp_st (e := e) (n := 297 + 2 * i + 0) ht (by omega) (zp_272 i (by omega)) r
    rw [x0, Option.bind_some] at E
    dsimp only at E
    obtain ⟨v1, A1, x1, f1, r1⟩ := kp_st (e := e) (n := 297 + 2 * i + 1) ht (by omega) (zp_273 i (by omega)) r0
    rw [up_c (by decide)] at x1
    rw [x1, Option.bind_some] at E
    dsimp only at E
    obtain ⟨J', a1, a2⟩ := ih (i + 1) _ (by omega) (show KP t (297 + 2 * (i + 1)) J0 _ from r1)
    exact ⟨J', a1, E.trans a2⟩
theorem zp_280 : ∀ i, i < 6 → zps (303 + 1 * i + 0) = (280, i) := by decide +kernel
theorem kp_hr {e : Nat} {t : Int} {J0 : zI} (ht : t = 0 ∨ t = 1) : ∀ (m i : Nat) (J : zI), i + m = 6 → KP t (303 + 1 * i) J0 J → ∃ J' : zI, KP t (303 + 1 * 6) J0 J' ∧ zD (e + 2) 289 191 [some (.inr (some 240)), some (.inl ((i : Int)))] [] J = zD (e + 2) 289 191 [some (.inr (some 240)), some (.inl (((6 : Nat) : Int)))] [] J' := by
  intro m
  induction m with
  | zero =>
    intro i J hi r
    have e0 : i = 6 := by omega
    subst e0
    exact ⟨J, r, rfl⟩
  | succ m ih =>
    intro i J hi r
    have i6 : 0 ≤ (i : Int) ∧ (i : Int) < 6 := by omega
    have E := e_289_191 (d := e + 1) (I := J) (x1 := (i : Int))
    rw [if_pos (by omega)] at E
    simp only [if_pos i6, Int.toNat_natCast] at E
    rw [wr_id (z := (i : Int) + 1) (by omega) (by omega), ← zk1c] at E
    obtain ⟨v0, A0, x0, f0, r0⟩ := kp_st (e := e) (n := 303 + 1 * i + 0) ht (by omega) (zp_280 i (by omega)) r
    rw [x0, Option.bind_some] at E
    dsimp only at E
    obtain ⟨J', a1, a2⟩ := ih (i + 1) _ (by omega) (show KP t (303 + 1 * (i + 1)) J0 _ from r0)
    exact ⟨J', a1, E.trans a2⟩
theorem zp_241 : ∀ i, i < 110 → zps (0 + 1 * i + 0) = (241, i) := by decide +kernel
theorem kp_now {e : Nat} {t x1 : Int} {J0 : zI} (ht : t = 0 ∨ t = 1) : ∀ (m i : Nat) (J : zI), i + m = 110 → KP t (0 + 1 * i) J0 J → ∃ J' : zI, KP t (0 + 1 * 110) J0 J' ∧ zD (e + 2) 290 21 [some (.inr (some 240)), some (.inl x1), some (.inl ((i : Int)))] [] J = zD (e + 2) 290 21 [some (.inr (some 240)), some (.inl x1), some (.inl (((110 : Nat) : Int)))] [] J' := by
  intro m
  induction m with
  | zero =>
    intro i J hi r
    have e0 : i = 110 := by omega
    subst e0
    exact ⟨J, r, rfl⟩
  | succ m ih =>
    intro i J hi r
    have i110 : 0 ≤ (i : Int) ∧ (i : Int) < 110 := by omega
    have E := e_290_21 (d := e + 1) (I := J) (x1 := x1) (x2 := (i : Int))
    rw [if_pos (by omega)] at E
    simp only [if_pos i110, Int.toNat_natCast] at E
    rw [wr_id (z := (i : Int) + 1) (by omega) (by omega), ← zk1c] at E
    obtain ⟨v0, A0, x0, f0, r0⟩ := kp_st (e := e) (n := 0 + 1 * i + 0) ht (by omega) (zp_241 i (by omega)) r
    rw [x0, Option.bind_some] at E
    dsimp only at E
    obtain ⟨J', a1, a2⟩ := ih (i + 1) _ (by omega) (show KP t (0 + 1 * (i + 1)) J0 _ from r0)
    exact ⟨J', a1, E.trans a2⟩
theorem zp_247 : ∀ i, i < 600 → zps (309 + 1 * i + 0) = (247, i) := by decide +kernel
theorem kp_bk {e : Nat} {t x1 : Int} {J0 : zI} (ht : t = 0 ∨ t = 1) : ∀ (m i : Nat) (J : zI), i + m = 600 → KP t (309 + 1 * i) J0 J → ∃ J' : zI, KP t (309 + 1 * 600) J0 J' ∧ zD (e + 2) 290 42 [some (.inr (some 240)), some (.inl x1), some (.inl ((i : Int)))] [] J = zD (e + 2) 290 42 [some (.inr (some 240)), some (.inl x1), some (.inl (((600 : Nat) : Int)))] [] J' := by
  intro m
  induction m with
  | zero =>
    intro i J hi r
    have e0 : i = 600 := by omega
    subst e0
    exact ⟨J, r, rfl⟩
  | succ m ih =>
    intro i J hi r
    have i600 : 0 ≤ (i : Int) ∧ (i : Int) < 600 := by omega
    have E := e_290_42 (d := e + 1) (I := J) (x1 := x1) (x2 := (i : Int))
    rw [if_pos (by omega)] at E
    simp only [if_pos i600, Int.toNat_natCast] at E
    rw [wr_id (z := (i : Int) + 1) (by omega) (by omega), ← zk1c] at E
    obtain ⟨v0, A0, x0, f0, r0⟩ := kp_st (e := e) (n := 309 + 1 * i + 0) ht (by omega) (zp_247 i (by omega)) r
    rw [x0, Option.bind_some] at E
    dsimp only at E
    obtain ⟨J', a1, a2⟩ := ih (i + 1) _ (by omega) (show KP t (309 + 1 * (i + 1)) J0 _ from r0)
    exact ⟨J', a1, E.trans a2⟩
