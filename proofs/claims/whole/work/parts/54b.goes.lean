/-! IN THOUGHT -/
def tC : List Nat := [27, 28, 200, 201, 202, 203, 204, 205, 206, 207, 208, 209, 210, 211, 212, 215, 216, 217, 218, 219, 220, 221, 222, 223, 224, 225, 226, 227, 228, 229, 230, 231, 232, 233, 234, 235, 236, 237, 243, 257, 262, 263, 264, 265, 267, 268, 270, 271, 274, 275, 279, 281, 241]
def zth (i : Nat) (J : zI) : zI := fun c j => if c = 243 ∧ j < i then J 241 j else J c j
def ztb (i : Nat) (J : zI) : zI := fun c j => if c = 241 ∧ j < i then J 243 j else J c j
theorem zth_0 {J : zI} : zth 0 J = J := by
  funext c j
  exact if_neg fun e => by omega
theorem ztb_0 {J : zI} : ztb 0 J = J := by
  funext c j
  exact if_neg fun e => by omega
theorem zth_s {i : Nat} {J : zI} : zth (i + 1) J = up (zth i J) 243 i (J 241 i) := by
  funext c j
  unfold zth up
  by_cases e : c = 243 ∧ j = i
  · rw [if_pos e, if_pos ⟨e.1, by omega⟩, e.2]
  · rw [if_neg e]
    dsimp only
    by_cases q : c = 243 ∧ j < i
    · rw [if_pos q, if_pos ⟨q.1, by omega⟩]
    · rw [if_neg q, if_neg (fun q2 => q ⟨q2.1, by omega⟩)]
theorem ztb_s {i : Nat} {J : zI} : ztb (i + 1) J = up (ztb i J) 241 i (J 243 i) := by
  funext c j
  unfold ztb up
  by_cases e : c = 241 ∧ j = i
  · rw [if_pos e, if_pos ⟨e.1, by omega⟩, e.2]
  · rw [if_neg e]
    dsimp only
    by_cases q : c = 241 ∧ j < i
    · rw [if_pos q, if_pos ⟨q.1, by omega⟩]
    · rw [if_neg q, if_neg (fun q2 => q ⟨q2.1, by omega⟩)]
theorem s_168 {e : Nat} {J : zI} : cl (e + 1) 168 [.inr (some 240)] J = some (0, up (zth 110 J) 240 5 1) := by
  have key : ∀ (m i : Nat), i + m = 110 → zD (e + 1) 168 2 [some (.inr (some 240)), some (.inl (i : Int))] [] (zth i J) = some (0, up (zth 110 J) 240 5 1) := by
    intro m
    induction m with
    | zero =>
      intro i hi
      rw [e_168_2, if_neg (by omega), show i = 110 by omega]
    | succ m ih =>
      intro i hi
      have e1 : zth i J 241 i = J 241 i := if_neg fun e => absurd e.1 (by decide)
      have := ih (i + 1) (by omega)
      rw [zth_s] at this
      rw [e_168_2, if_pos (by omega), if_pos (by omega), if_pos (by omega), Int.toNat_natCast, e1, wr_id (by omega) (by omega), ← zk1c]
      exact this
  have := key 110 0 (by omega)
  rw [zth_0] at this
  rw [e_168]
  exact this
theorem s_169 {e : Nat} {J : zI} : cl (e + 1) 169 [.inr (some 240)] J = some (0, up (ztb 110 J) 240 5 0) := by
  have key : ∀ (m i : Nat), i + m = 110 → zD (e + 1) 169 2 [some (.inr (some 240)), some (.inl (i : Int))] [] (ztb i J) = some (0, up (ztb 110 J) 240 5 0) := by
    intro m
    induction m with
    | zero =>
      intro i hi
      rw [e_169_2, if_neg (by omega), show i = 110 by omega]
    | succ m ih =>
      intro i hi
      have e1 : ztb i J 243 i = J 243 i := if_neg fun e => absurd e.1 (by decide)
      have := ih (i + 1) (by omega)
      rw [ztb_s] at this
      rw [e_169_2, if_pos (by omega), if_pos (by omega), if_pos (by omega), Int.toNat_natCast, e1, wr_id (by omega) (by omega), ← zk1c]
      exact this
  have := key 110 0 (by omega)
  rw [ztb_0] at this
  rw [e_169]
  exact this
/-- the model's heap as a thought begins -/
def zJ1 (J : zI) : zI := up (zth 110 (up J 240 0 0)) 240 5 1
theorem zJ1_o {J : zI} {c j : Nat} (h1 : c ≠ 243) (h2 : ¬ (c = 240 ∧ (j = 0 ∨ j = 5))) : zJ1 J c j = J c j := by
  unfold zJ1 up zth
  rw [if_neg (by omega), if_neg (by omega)]
  exact if_neg (by omega)
theorem zJ1_3 {J : zI} {j : Nat} (h : j < 110) : zJ1 J 243 j = J 241 j := by
  unfold zJ1
  rw [up_c (by decide)]
  unfold zth
  rw [if_pos ⟨rfl, h⟩, up_c (by decide)]
theorem mind_ok {d : Nat} {I J : zI} (h : Rl I) (hJ : eqJ I J) : ∃ K1 : zI, cl (d + 1) 21 [.inr (some 200), .inr (some 2)] I = some (0, K1) ∧ (∀ k j, ¬ (200 ≤ k ∧ k ≤ 212) → K1 k j = I k j) ∧ zH 200 1 K1 (zJ1 J) ∧ RFirm K1 (zJ1 J) 200 9999 ∧ RBook K1 (zJ1 J) 15 := by
  obtain ⟨K1, c1, c2, c3, c4, c5, c6⟩ := s_21 (d := d) (I := I) fi_200 fi_2 (by omega)
  have j1 : ∀ c j, 240 ≤ c → c ≠ 243 → ¬ (c = 240 ∧ (j = 0 ∨ j = 5)) → zJ1 J c j = I c j := fun c j q1 q2 q3 => by rw [zJ1_o q2 q3]; exact hJ c j q1
  refine ⟨K1, c1, c2, ⟨?_, ?_, ?_, ?_, ?_, Or.inr rfl⟩, ?_, ?_⟩
  · exact RLaw_cg (c2 21 4 (by decide)) (fun k _ _ => funext fun j => c2 k j (by omega)) (j1 250 0 (by decide) (by decide) (by decide)) (fun l _ => ⟨j1 251 l (by decide) (by decide) (by omega), j1 252 l (by decide) (by decide) (by omega), j1 253 l (by decide) (by decide) (by omega), j1 254 l (by decide) (by decide) (by omega)⟩) (fun i _ => ⟨j1 255 i (by decide) (by decide) (by omega), j1 256 i (by decide) (by decide) (by omega)⟩) h.1.2.2.1
  · have r : ROrd K1 (zJ1 J) 2 29 := ROrd_cg (c2 2 3 (by decide)) (c2 2 4 (by decide)) (c2 2 5 (by decide)) (c2 29 4 (by decide)) (fun k _ _ => funext fun j => c2 k j (by omega)) (j1 240 36 (by decide) (by decide) (by decide)) (fun j _ => j1 258 j (by decide) (by decide) (by omega)) h.1.2.2.2.1
    unfold ROrd at r ⊢
    rw [c3 3 (by decide), c3 4 (by decide), c3 5 (by decide), ← c2 2 3 (by decide), ← c2 2 4 (by decide), ← c2 2 5 (by decide)]
    exact r
  · exact RBird_cg (c2 34 4 (by decide)) (fun k _ _ => funext fun j => c2 k j (by omega)) (j1 240 38 (by decide) (by decide) (by decide)) (fun b _ => ⟨j1 259 b (by decide) (by decide) (by omega), j1 260 b (by decide) (by decide) (by omega)⟩) h.1.2.2.2.2.1
  · have r : RAft K1 (zJ1 J) 2 39 := RAft_cg (c2 2 5 (by decide)) (c2 39 4 (by decide)) (fun k _ _ => funext fun j => c2 k j (by omega)) (j1 240 41 (by decide) (by decide) (by decide)) (fun e _ => j1 261 e (by decide) (by decide) (by omega)) h.1.2.2.2.2.2.1
    unfold RAft at r ⊢
    rw [c3 5 (by decide), ← c2 2 5 (by decide)]
    exact r
  · unfold zJ1; exact up_s
  · refine RFirm_pt (a := 2) (M := I) c3 c4 c5 c6 (fun j _ => j1 241 j (by decide) (by decide) (by omega)) (fun j => j1 244 j (by decide) (by decide) (by omega)) (fun j => j1 245 j (by decide) (by decide) (by omega)) (fun j => j1 246 j (by decide) (by decide) (by omega)) (j1 240 6 (by decide) (by decide) (by decide)) (j1 240 7 (by decide) (by decide) (by decide)) (j1 240 8 (by decide) (by decide) (by decide)) h.1.1
  · exact RBook_cg (c2 15 4 (by decide)) (fun k _ _ => funext fun j => c2 k j (by omega)) (j1 241 2 (by decide) (by decide) (by decide)) (funext fun j => j1 247 j (by decide) (by decide) (by omega)) h.1.2.1
theorem think_end {e : Nat} {hb : Int} {I J K1 K J2 : zI} (h : Rl I) (hJ : eqJ I J) (k1 : ∀ k j, ¬ (200 ≤ k ∧ k ≤ 212) → K1 k j = I k j) (g : zG 200 hb 1 K1 (zJ1 J) K J2) :
    ∃ J3 : zI, cl (e + 1) 169 [.inr (some 240)] J2 = some (0, J3) ∧ (∀ c j, 240 ≤ c → K c j = I c j) ∧ (∀ c j, c < 240 → J3 c j = J c j) ∧ Rl (mg K J3) := by
  obtain ⟨g1, _, _, g4, _, _⟩ := g
  have kI : ∀ c j, ¬ (200 ≤ c ∧ c ≤ 212) → c ≠ 27 → c ≠ 28 → K c j = I c j := fun c j q1 q2 q3 => by rw [g1 c j (by omega) (by omega) q2 q3, k1 c j q1]
  have j2 : ∀ c j, c ≠ 241 → c ≠ 262 → c ≠ 263 → J2 c j = zJ1 J c j := fun c j q1 q2 q3 => g4 c j q1 (by omega) q2 q3
  have jo : ∀ c j, c ≠ 241 → c ≠ 243 → c ≠ 262 → c ≠ 263 → ¬ (c = 240 ∧ (j = 0 ∨ j = 5)) → up (ztb 110 J2) 240 5 0 c j = J c j := fun c j q1 q2 q3 q4 q5 => by
    unfold up ztb
    rw [if_neg (by omega), if_neg (by omega), j2 c j q1 q3 q4, zJ1_o q2 q5]
  have j41 : ∀ j, j < 110 → up (ztb 110 J2) 240 5 0 241 j = I 241 j := fun j hj => by
    rw [up_c (by decide)]
    unfold ztb
    rw [if_pos ⟨rfl, hj⟩, j2 243 j (by decide) (by decide) (by decide), zJ1_3 hj]
    exact hJ 241 j (by decide)
  have m5 : I 240 5 = 0 := h.2.2.2.2.2.1.1
  refine ⟨_, s_169, fun c j hc => kI c j (by omega) (by omega) (by omega), fun c j hc => jo c j (by omega) (by omega) (by omega) (by omega) (by omega), ?_⟩
  have hA : Ag tC scrF I (mg K (up (ztb 110 J2) 240 5 0)) := by
    intro c j q1 q2
    have n : ∀ x, tC.contains x = true → c ≠ x := fun x hx e => by rw [e, hx] at q1; cases q1
    have n27 := n 27 (by decide)
    have n28 := n 28 (by decide)
    have n241 := n 241 (by decide)
    have n243 := n 243 (by decide)
    have n262 := n 262 (by decide)
    have n263 := n 263 (by decide)
    have n200 : ¬ (200 ≤ c ∧ c ≤ 212) := fun e => by
      have chk : ∀ p : Nat, p < 213 → 200 ≤ p → tC.contains p = true := by decide +kernel
      exact n c (chk c (by omega) e.1) rfl
    have p0 : ¬ (c = 240 ∧ j = 0) := fun e => by rw [e.1, e.2] at q2; revert q2; decide
    by_cases hc : c < 240
    · rw [mg_l hc]
      exact kI c j n200 n27 n28
    · rw [mg_r (by omega)]
      by_cases e5 : c = 240 ∧ j = 5
      · rw [e5.1, e5.2, m5]
        exact up_s
      · rw [jo c j n241 n243 n262 n263 (by omega)]
        exact hJ c j (by omega)
  refine ⟨⟨?_, ?_, RLaw_cg (ag_f hA 21 4 rfl rfl) (fun k h1 h2 => ag_cs hA 22 26 (by decide) k h1 h2) (ag_f hA 250 0 rfl rfl) (fun l _ => ⟨congrFun (ag_c hA 251 rfl rfl) l, congrFun (ag_c hA 252 rfl rfl) l, congrFun (ag_c hA 253 rfl rfl) l, congrFun (ag_c hA 254 rfl rfl) l⟩) (fun i _ => ⟨congrFun (ag_c hA 255 rfl rfl) i, congrFun (ag_c hA 256 rfl rfl) i⟩) h.1.2.2.1, ROrd_cg (ag_f hA 2 3 rfl rfl) (ag_f hA 2 4 rfl rfl) (ag_f hA 2 5 rfl rfl) (ag_f hA 29 4 rfl rfl) (fun k h1 h2 => ag_cs hA 30 33 (by decide) k h1 h2) (ag_f hA 240 36 rfl rfl) (fun j _ => congrFun (ag_c hA 258 rfl rfl) j) h.1.2.2.2.1, RBird_cg (ag_f hA 34 4 rfl rfl) (fun k h1 h2 => ag_cs hA 35 37 (by decide) k h1 h2) (ag_f hA 240 38 rfl rfl) (fun b _ => ⟨congrFun (ag_c hA 259 rfl rfl) b, congrFun (ag_c hA 260 rfl rfl) b⟩) h.1.2.2.2.2.1, RAft_cg (ag_f hA 2 5 rfl rfl) (ag_f hA 39 4 rfl rfl) (fun k h1 h2 => ag_cs hA 40 41 (by decide) k h1 h2) (ag_f hA 240 41 rfl rfl) (fun e _ => congrFun (ag_c hA 261 rfl rfl) e) h.1.2.2.2.2.2.1, RRow_cg (ag_f hA 44 2 rfl rfl) (ag_c hA 45 rfl rfl) (ag_f hA 240 47 rfl rfl) (ag_c hA 266 rfl rfl) h.1.2.2.2.2.2.2.1, RRow_cg (ag_f hA 46 2 rfl rfl) (ag_c hA 47 rfl rfl) (ag_f hA 240 51 rfl rfl) (ag_c hA 269 rfl rfl) h.1.2.2.2.2.2.2.2.1, RDots_cg (ag_c hA 48 rfl rfl) (ag_c hA 49 rfl rfl) (ag_c hA 272 rfl rfl) (ag_c hA 273 rfl rfl) h.1.2.2.2.2.2.2.2.2.1, RPl_cg (ag_f hA 50 2 rfl rfl) (ag_c hA 51 rfl rfl) (ag_f hA 240 57 rfl rfl) (ag_f hA 240 58 rfl rfl) (ag_f hA 240 59 rfl rfl) h.1.2.2.2.2.2.2.2.2.2.1, RRow_cg (ag_f hA 52 2 rfl rfl) (ag_c hA 53 rfl rfl) (ag_f hA 240 62 rfl rfl) (ag_c hA 276 rfl rfl) h.1.2.2.2.2.2.2.2.2.2.2.1, RLegs_cg (ag_f hA 54 2 rfl rfl) (ag_c hA 55 rfl rfl) (ag_f hA 240 64 rfl rfl) (ag_c hA 277 rfl rfl) h.1.2.2.2.2.2.2.2.2.2.2.2.1, RRow_cg (ag_f hA 56 2 rfl rfl) (ag_c hA 57 rfl rfl) (ag_f hA 240 66 rfl rfl) (ag_c hA 278 rfl rfl) h.1.2.2.2.2.2.2.2.2.2.2.2.2.1, RRow_cg (ag_f hA 58 2 rfl rfl) (ag_c hA 59 rfl rfl) (ag_f hA 240 69 rfl rfl) (ag_c hA 280 rfl rfl) h.1.2.2.2.2.2.2.2.2.2.2.2.2.2⟩, RPast_cg (ag_f hA 119 2 rfl rfl) (ag_f hA 119 3 rfl rfl) (fun k h1 h2 => ag_cs hA 121 199 (by decide) k h1 h2) (ag_c hA 242 rfl rfl) (ag_f hA 240 3 rfl rfl) (ag_c hA 244 rfl rfl) (ag_c hA 245 rfl rfl) (ag_c hA 246 rfl rfl) (ag_f hA 240 6 rfl rfl) (ag_f hA 240 7 rfl rfl) (ag_f hA 240 8 rfl rfl) h.2.1, RTape_cg (ag_f hA 213 1 rfl rfl) (ag_c hA 214 rfl rfl) (ag_f hA 240 14 rfl rfl) (ag_c hA 248 rfl rfl) h.2.2.1, RFlt_cg (ag_f hA 213 7 rfl rfl) (ag_f hA 213 8 rfl rfl) (ag_f hA 240 34 rfl rfl) (ag_f hA 240 35 rfl rfl) h.2.2.2.1, RBox_cg (ag_f hA 238 1 rfl rfl) (ag_c hA 239 rfl rfl) h.2.2.2.2.1, RMisc_cg (ag_f hA 240 5 rfl rfl) (ag_c hA 249 rfl rfl) (ag_f hA 44 1 rfl rfl) (ag_f hA 46 1 rfl rfl) (ag_f hA 50 1 rfl rfl) (ag_f hA 52 1 rfl rfl) (ag_f hA 54 1 rfl rfl) (ag_f hA 56 1 rfl rfl) (ag_f hA 58 1 rfl rfl) h.2.2.2.2.2.1, RPic_cg (ag_f hA 0 2 rfl rfl) (ag_f hA 240 73 rfl rfl) (fun k h1 h2 => ag_cs hA 61 118 (by decide) k h1 h2) (ag_c hA 282 rfl rfl) h.2.2.2.2.2.2⟩
  · refine RFirm_pt (a := 2) (M := I) (fun j _ => ?_) (fun p j _ _ _ => ?_) (fun p j _ _ _ => ?_) (fun p j _ _ _ => ?_) (fun j hj => ?_) (fun j => ?_) (fun j => ?_) (fun j => ?_) ?_ ?_ ?_ h.1.1
    · rw [mg_l (by decide)]; exact kI _ j (by omega) (by omega) (by omega)
    · rw [mg_l (by omega)]; exact kI _ j (by omega) (by omega) (by omega)
    · rw [mg_l (by omega)]; exact kI _ j (by omega) (by omega) (by omega)
    · rw [mg_l (by omega)]; exact kI _ j (by omega) (by omega) (by omega)
    · rw [mg_r (by decide)]; exact j41 j hj
    · exact congrFun (ag_c hA 244 rfl rfl) j
    · exact congrFun (ag_c hA 245 rfl rfl) j
    · exact congrFun (ag_c hA 246 rfl rfl) j
    · exact ag_f hA 240 6 rfl rfl
    · exact ag_f hA 240 7 rfl rfl
    · exact ag_f hA 240 8 rfl rfl
  · refine RBook_cg (ag_f hA 15 4 rfl rfl) (fun k h1 h2 => ag_cs hA 16 19 (by decide) k h1 h2) ?_ (ag_c hA 247 rfl rfl) h.1.2.1
    rw [mg_r (by decide)]; exact j41 2 (by decide)
theorem goes_in {d e n : Nat} {w1 w2 : Int} {K1 J1 : zI} (hH : zH 200 1 K1 J1) (hn : n ≤ 60) : ∀ (m i : Nat) (K J : zI), i + m = n → zG 200 (9999 + (i : Int)) 1 K1 J1 K J →
    ∃ K' J' : zI, zG 200 (9999 + (n : Int)) 1 K1 J1 K' J' ∧ zD (d + 8) 127 20 [some (.inr (some 0)), some (.inl (n : Int)), some (.inl w1), some (.inl (i : Int))] [] K = zD (d + 8) 127 20 [some (.inr (some 0)), some (.inl (n : Int)), some (.inl w1), some (.inl (n : Int))] [] K' ∧ zD (e + 10) 248 21 [some (.inr (some 240)), some (.inl (n : Int)), some (.inl w2), some (.inl (i : Int))] [] J = zD (e + 10) 248 21 [some (.inr (some 240)), some (.inl (n : Int)), some (.inl w2), some (.inl (n : Int))] [] J' := by
  intro m
  induction m with
  | zero =>
    intro i K J hi g
    have e : i = n := by omega
    subst e
    exact ⟨K, J, g, rfl, rfl⟩
  | succ m ih =>
    intro i K J hi g
    obtain ⟨r, K2, J2, z, z1, z2⟩ := hour_ok (d := d) (e := e) fi_200 (Or.inr rfl) hH (by omega) g
    rw [show 9999 + (i : Int) + 1 = 9999 + ((i + 1 : Nat) : Int) by omega] at z
    obtain ⟨K3, J3, g3, y1, y2⟩ := ih (i + 1) K2 J2 (by omega) z
    refine ⟨K3, J3, g3, ?_, ?_⟩
    · rw [e_127_20, if_pos (by omega), z1, Option.bind_some]
      dsimp only
      rw [wr_id (z := (i : Int) + 1) (by omega) (by omega), ← zk1c]
      exact y1
    · rw [e_248_21, if_pos (by omega), z2, Option.bind_some]
      dsimp only
      rw [wr_id (z := (i : Int) + 1) (by omega) (by omega), ← zk1c]
      exact y2
theorem goes_end {d e n : Nat} {w hb : Int} {I J K1 K J2 : zI} (h : Rl I) (hJ : eqJ I J) (k1 : ∀ k j, ¬ (200 ≤ k ∧ k ≤ 212) → K1 k j = I k j) (g : zG 200 hb 1 K1 (zJ1 J) K J2) (hw : 0 ≤ w ∧ w ≤ 3) :
    ∃ (r : Int) (J3 : zI), zD (d + 3) 127 20 [some (.inr (some 0)), some (.inl (n : Int)), some (.inl w), some (.inl (n : Int))] [] K = some (r, K) ∧ zD (e + 4) 248 21 [some (.inr (some 240)), some (.inl (n : Int)), some (.inl w), some (.inl (n : Int))] [] J2 = some (r, J3) ∧ (∀ c j, 240 ≤ c → K c j = I c j) ∧ (∀ c j, c < 240 → J3 c j = J c j) ∧ Rl (mg K J3) := by
  obtain ⟨J3, t1, t2, t3, t4⟩ := think_end (e := e + 2) h hJ k1 g
  have t1 : cl (e + 3) 169 [.inr (some 240)] J2 = some (0, J3) := t1
  have rf := g.2.2.2.2.1
  have rf0 := rf
  obtain ⟨⟨f1, f1a, f1b⟩, ⟨f2, f2a, f2b⟩, ⟨f3, f3a, f3b⟩, f4, f5, f6, f7, f8, f9⟩ := rf0
  have hw2 : w = 0 ∨ w = 1 ∨ w = 2 ∨ w = 3 := by omega
  rcases hw2 with rfl | rfl | rfl | rfl
  · refine ⟨zsm (K 211) (K 200 5).toNat, J3, ?_, ?_, t2, t3, t4⟩
    · rw [e_127_20, if_neg (by omega), if_pos rfl, s_30 fi_200 f3a f3b]
      rfl
    · have s : cl (e + 3) 247 [.inr (some 240), .inl 86, .inl (J2 240 8)] J2 = some (zsm (fun k => J2 241 (86 + k)) (J2 240 8).toNat, J2) := s_247 (b := 86) (by omega) (by omega)
      rw [e_248_21, if_neg (by omega), if_pos rfl, s, Option.bind_some]
      dsimp only
      rw [t1, Option.bind_some, f3]
      refine congrArg some (Prod.ext ?_ rfl)
      exact zsm_cg _ fun k hk => (f9 k (by omega)).2.1.1
  · refine ⟨zsm (K 208) (K 200 4).toNat, J3, ?_, ?_, t2, t3, t4⟩
    · rw [e_127_20, if_neg (by omega), if_neg (by decide), if_pos rfl, s_31 fi_200 f2a f2b]
      rfl
    · have s : cl (e + 3) 247 [.inr (some 240), .inl 66, .inl (J2 240 7)] J2 = some (zsm (fun k => J2 241 (66 + k)) (J2 240 7).toNat, J2) := s_247 (b := 66) (by omega) (by omega)
      rw [e_248_21, if_neg (by omega), if_neg (by decide), if_pos rfl, s, Option.bind_some]
      dsimp only
      rw [t1, Option.bind_some, f2]
      refine congrArg some (Prod.ext ?_ rfl)
      exact zsm_cg _ fun k hk => (f8 k (by omega)).2.2.2.1
  · refine ⟨K 200 1, J3, ?_, ?_, t2, t3, t4⟩
    · rw [e_127_20, if_neg (by omega), if_neg (by decide), if_neg (by decide), if_pos rfl]
    · rw [e_248_21, if_neg (by omega), if_neg (by decide), if_neg (by decide), if_pos rfl, t1, Option.bind_some, f5]
  · obtain ⟨m, m1, m2⟩ := zdp_lt (fun e => decide (¬ K (200 + 12) e = -1)) (n := (K 200 5).toNat) (by omega)
    refine ⟨(zpc 13 m : Int), J3, ?_, ?_, t2, t3, t4⟩
    · rw [e_127_20, if_neg (by omega), if_neg (by decide), if_neg (by decide), if_neg (by decide), s_28 fi_200 f3a f3b, Option.bind_some]
      dsimp only
      rw [m2, s_292 m1]
      rfl
    · rw [e_248_21, if_neg (by omega), if_neg (by decide), if_neg (by decide), if_neg (by decide), s_180 (by omega) (by omega), Option.bind_some]
      dsimp only
      rw [f3, zdp_done rf, m2, s_164 m1, Option.bind_some]
      dsimp only
      rw [t1]
      rfl
theorem q_goes {I : zI} {n w : Int} (h : Rl I) : Pair 127 248 [.inl n, .inl w] I := by
  refine Pair_two fun J hJ => ?_
  have E1 := e_127 (d := 59) (I := I) (x1 := n) (x2 := w)
  have E2 := e_248 (d := 59) (I := J) (x1 := n) (x2 := w)
  simp only [s_156, Option.bind_some, b01] at E1
  simp only [s_158, Option.bind_some, b01] at E2
  by_cases hc : (1 ≤ n ∧ n ≤ 60) ∧ 0 ≤ w ∧ w ≤ 3
  · obtain ⟨m, rfl⟩ : ∃ m : Nat, n = m := ⟨n.toNat, by omega⟩
    rw [if_neg (not_not_intro hc.1), if_neg (not_not_intro hc.2)] at E1 E2
    obtain ⟨K1, c1, k1, hH, r1, r2⟩ := mind_ok (d := 58) h hJ
    rw [c1, Option.bind_some] at E1
    rw [s_168, Option.bind_some] at E2
    obtain ⟨K2, J2, g2, y1, y2⟩ := goes_in (d := 52) (e := 50) (w1 := w) (w2 := w) hH (n := m) (by omega) m 0 K1 (zJ1 J) (by omega) (by
      have := zG_rf (th := 1) r1 r2
      simpa using this)
    obtain ⟨r, J3, z1, z2, z3, z4, z5⟩ := goes_end (d := 57) (e := 56) (n := m) h hJ k1 g2 hc.2
    exact ⟨r, K2, J3, (E1.trans y1).trans z1, (E2.trans y2).trans z2, z3, z4, z5⟩
  · refine ⟨-1, I, up J 240 0 0, ?_, ?_, fun _ _ _ => rfl, fun k j hk => up_c (by omega), Rl_hIv h hJ (hIv_0 h hJ)⟩
    · rw [E1]
      (repeat' split) <;> first | rfl | (exfalso; omega)
    · rw [E2]
      (repeat' split) <;> first | rfl | (exfalso; omega)
theorem done_in {d e x : Nat} {I J K1 : zI} (h : Rl I) (hJ : eqJ I J) (k1 : ∀ k j, ¬ (200 ≤ k ∧ k ≤ 212) → K1 k j = I k j) (hH : zH 200 1 K1 (zJ1 J)) (hx : (x : Int) < K1 200 5) : ∀ (m i : Nat) (K J2 : zI), i + m = 60 → zG 200 (9999 + (i : Int)) 1 K1 (zJ1 J) K J2 →
    ∃ (r : Int) (K' J3 : zI), zD (d + 8) 128 16 [some (.inr (some 0)), some (.inl (x : Int)), some (.inl (i : Int))] [] K = some (r, K') ∧ zD (e + 10) 249 13 [some (.inr (some 240)), some (.inl (x : Int)), some (.inl (i : Int))] [] J2 = some (r, J3) ∧ (∀ c j, 240 ≤ c → K' c j = I c j) ∧ (∀ c j, c < 240 → J3 c j = J c j) ∧ Rl (mg K' J3) := by
  intro m
  induction m with
  | zero =>
    intro i K J2 hi g
    have rf := g.2.2.2.2.1
    have n5 := g.2.1.2.2
    have f3 := rf.2.2.1
    have r9 := rf.2.2.2.2.2.2.2.2 x (by omega)
    have E1 := e_128_16 (d := d + 7) (I := K) (x1 := (x : Int)) (x2 := (i : Int))
    rw [if_neg (by omega), s_25 fi_200] at E1
    simp only [Option.bind_some, b01, Int.toNat_natCast] at E1
    have E2 := e_249_13 (d := e + 9) (I := J2) (x1 := (x : Int)) (x2 := (i : Int))
    rw [if_neg (by omega), s_178 (by omega) (by omega)] at E2
    simp only [Option.bind_some, b01, Int.toNat_natCast] at E2
    by_cases hd : K (200 + 12) x = -1
    · obtain ⟨r, K3, J3, z, z1, z2⟩ := hour_ok (d := d) (e := e) fi_200 (Or.inr rfl) hH (by omega) g
      -- one hour more, there alone: of the two heaps behind it, that one's
      have zz : zG 200 (9999 + (i : Int) + 1) 1 K1 (zJ1 J) K3 J3 := z
      obtain ⟨J4, t1, t2, t3, t4⟩ := think_end (e := e + 8) h hJ k1 zz
      have t1 : cl (e + 9) 169 [.inr (some 240)] J3 = some (0, J4) := t1
      have kI : ∀ c j, ¬ (200 ≤ c ∧ c ≤ 212) → c ≠ 27 → c ≠ 28 → K c j = K3 c j := fun c j q1 q2 q3 => by rw [g.1 c j (by omega) (by omega) q2 q3, z.1 c j (by omega) (by omega) q2 q3]
      rw [if_pos (fun q => q.2 hd)] at E1
      rw [if_pos (by omega), z2, Option.bind_some] at E2
      dsimp only at E2
      rw [wr_id (z := (i : Int) + 1) (by omega) (by omega), e_249_13 (I := J3), if_pos (by omega), t1, Option.bind_some, if_pos (by omega)] at E2
      refine ⟨-1, K, J4, E1, E2, fun c j hc => (kI c j (by omega) (by omega) (by omega)).trans (t2 c j hc), t3, ?_⟩
      refine Rl_scr (fun c j q1 q2 => ?_) t4
      have n : ∀ x, scrC.contains x = true → c ≠ x := fun x hx e => by rw [e, hx] at q1; cases q1
      by_cases hc : c < 240
      · rw [mg_l hc, mg_l hc]
        have n200 : ¬ (200 ≤ c ∧ c ≤ 212) := fun e => by
          have chk : ∀ p : Nat, p < 213 → 200 ≤ p → scrC.contains p = true := by decide +kernel
          exact n c (chk c (by omega) e.1) rfl
        exact kI c j n200 (n 27 (by decide)) (n 28 (by decide))
      · rw [mg_r (by omega), mg_r (by omega)]
    · obtain ⟨J4, t1, t2, t3, t4⟩ := think_end (e := e + 8) h hJ k1 g
      have t1 : cl (e + 9) 169 [.inr (some 240)] J2 = some (0, J4) := t1
      rw [if_neg (not_not_intro ⟨by omega, hd⟩)] at E1
      rw [if_neg (by omega), t1, Option.bind_some, if_neg (by omega), show (i : Int) = 60 by omega] at E2
      exact ⟨60, K, J4, E1, by rw [show (i : Int) = 60 by omega]; exact E2, t2, t3, t4⟩
  | succ m ih =>
    intro i K J2 hi g
    have rf := g.2.2.2.2.1
    have n5 := g.2.1.2.2
    have f3 := rf.2.2.1
    have r9 := rf.2.2.2.2.2.2.2.2 x (by omega)
    have E1 := e_128_16 (d := d + 7) (I := K) (x1 := (x : Int)) (x2 := (i : Int))
    rw [if_pos (by omega), s_25 fi_200] at E1
    simp only [Option.bind_some, b01, Int.toNat_natCast] at E1
    have E2 := e_249_13 (d := e + 9) (I := J2) (x1 := (x : Int)) (x2 := (i : Int))
    rw [if_neg (by omega), s_178 (by omega) (by omega)] at E2
    simp only [Option.bind_some, b01, Int.toNat_natCast] at E2
    by_cases hd : K (200 + 12) x = -1
    · obtain ⟨r, K3, J3, z, z1, z2⟩ := hour_ok (d := d) (e := e) fi_200 (Or.inr rfl) hH (by omega) g
      rw [show 9999 + (i : Int) + 1 = 9999 + ((i + 1 : Nat) : Int) by omega] at z
      obtain ⟨r2, K4, J4, y1, y2, y3, y4, y5⟩ := ih (i + 1) K3 J3 (by omega) z
      rw [if_pos (fun q => q.2 hd), z1, Option.bind_some] at E1
      dsimp only at E1
      rw [wr_id (z := (i : Int) + 1) (by omega) (by omega), ← zk1c] at E1
      rw [if_pos (by omega), z2, Option.bind_some] at E2
      dsimp only at E2
      rw [wr_id (z := (i : Int) + 1) (by omega) (by omega), ← zk1c] at E2
      exact ⟨r2, K4, J4, E1.trans y1, E2.trans y2, y3, y4, y5⟩
    · obtain ⟨J4, t1, t2, t3, t4⟩ := think_end (e := e + 8) h hJ k1 g
      have t1 : cl (e + 9) 169 [.inr (some 240)] J2 = some (0, J4) := t1
      rw [if_neg (not_not_intro ⟨by omega, hd⟩)] at E1
      rw [if_neg (by omega), t1, Option.bind_some, if_neg (by omega)] at E2
      exact ⟨(i : Int), K, J4, E1, E2, t2, t3, t4⟩
theorem q_done {I : zI} {x : Int} (h : Rl I) : Pair 128 249 [.inl x] I := by
  refine Pair_two fun J hJ => ?_
  have E1 := e_128 (d := 59) (I := I) (x1 := x)
  have E2 := e_249 (d := 59) (I := J) (x1 := x)
  simp only [s_24 fi_2, Option.bind_some, b01] at E1
  simp only [s_174, Option.bind_some, b01] at E2
  have g0 := hIv_0 h hJ
  have f3 := g0.1.2.2.1
  by_cases hc : 0 ≤ x ∧ x < I 2 5
  · obtain ⟨x, rfl⟩ : ∃ m : Nat, x = m := ⟨x.toNat, by omega⟩
    rw [if_neg (by omega)] at E1 E2
    obtain ⟨K1, c1, k1, hH, r1, r2⟩ := mind_ok (d := 58) h hJ
    rw [c1, Option.bind_some] at E1
    rw [s_168, Option.bind_some] at E2
    have n5 : K1 200 5 = I 2 5 := by
      have a := r1.2.2.1.1
      rw [zJ1_o (by decide) (by decide), hJ 240 8 (by decide)] at a
      rw [← a]
      exact h.1.1.2.2.1.1
    obtain ⟨r, K2, J3, z1, z2, z3, z4, z5⟩ := done_in (d := 52) (e := 50) h hJ k1 hH (x := x) (by omega) 60 0 K1 (zJ1 J) (by omega) (by
      have := zG_rf (th := 1) r1 r2
      simpa using this)
    exact ⟨r, K2, J3, E1.trans z1, E2.trans z2, z3, z4, z5⟩
  · rw [if_pos (by omega)] at E1 E2
    exact ⟨-1, I, _, E1, E2, fun _ _ _ => rfl, fun k j hk => up_c (by omega), Rl_hIv h hJ g0⟩
/-! a clerk -/
theorem Rl_ask {I J K' J' : zI} (h : Rl I) (hJ : eqJ I J) (hK : ∀ k j, k ≠ 27 → k ≠ 28 → K' k j = I k j) (hJ' : ∀ k j, k ≠ 262 → k ≠ 263 → ¬ (k = 240 ∧ j = 0) → J' k j = J k j) : Rl (mg K' J') := by
  refine Rl_scr (fun c j q1 q2 => ?_) h
  have n : ∀ x, scrC.contains x = true → c ≠ x := fun x hx e => by rw [e, hx] at q1; cases q1
  have p0 : ¬ (c = 240 ∧ j = 0) := fun e => by rw [e.1, e.2] at q2; revert q2; decide
  by_cases hc : c < 240
  · rw [mg_l hc]
    exact hK c j (n 27 (by decide)) (n 28 (by decide))
  · rw [mg_r (by omega), hJ' c j (n 262 (by decide)) (n 263 (by decide)) p0]
    exact hJ c j (by omega)
theorem q_who {I : zI} {c w : Int} (h : Rl I) : Pair 124 244 [.inl c, .inl w] I := by
  refine Pair_two fun J hJ => ?_
  have E1 := e_124 (d := 59) (I := I) (x1 := c) (x2 := w)
  have E2 := e_244 (d := 59) (I := J) (x1 := c) (x2 := w)
  simp only [s_23 fi_2, Option.bind_some, b01] at E1
  simp only [s_173, Option.bind_some, b01] at E2
  have g0 := hIv_0 h hJ
  have hH := zH_hIv (zH_0 h hJ) g0
  have rf := g0.1
  have f2 := rf.2.1
  have f1 := rf.1
  have f3 := rf.2.2.1
  have fin : ∀ r : Int, cl 60 124 [.inr (some 0), .inl c, .inl w] I = some (r, I) → cl 60 244 [.inr (some 240), .inl c, .inl w] J = some (r, up J 240 0 0) → ∃ (r : Int) (K' J' : zI), cl 60 124 (.inr (some 0) :: [.inl c, .inl w]) I = some (r, K') ∧ cl 60 244 (.inr (some 240) :: [.inl c, .inl w]) J = some (r, J') ∧ (∀ c j, 240 ≤ c → K' c j = I c j) ∧ (∀ c j, c < 240 → J' c j = J c j) ∧ Rl (mg K' J') := fun r a b => ⟨r, I, _, a, b, fun _ _ _ => rfl, fun k j hk => up_c (by omega), Rl_hIv h hJ g0⟩
  by_cases hc : 0 ≤ c ∧ c < I 2 4
  · rw [if_neg (by omega)] at E1 E2
    obtain ⟨c, rfl⟩ : ∃ m : Nat, c = m := ⟨c.toNat, by omega⟩
    have c8 := rf.2.2.2.2.2.2.2.1 c hc.2
    simp only [Nat.reduceAdd] at c8
    have i10 : 0 ≤ (c : Int) ∧ (c : Int) < 10 := by omega
    simp only [if_pos i10, Int.toNat_natCast] at E1 E2
    have asks : ∀ (v : Nat) (wl : Int), v ≤ 2 → wl = 10011 + (v : Int) → ∃ (r : Int) (K' J' : zI), cl 59 14 [.inr (some 1), .inr (some 2), .inl (c : Int), .inl wl] I = some (r, K') ∧ cl 59 (229 + v) [.inr (some 240), .inl (c : Int)] (up J 240 0 0) = some (r, J') ∧ (∀ c j, 240 ≤ c → K' c j = I c j) ∧ (∀ c j, c < 240 → J' c j = J c j) ∧ Rl (mg K' J') := by
      intro v wl hv hwl
      obtain ⟨r, K', J', a1, a2, _, _, a5, a6⟩ := ask_ok (d := 54) (e := 53) fi_2 (Or.inl rfl) rf hH.1 hH.2.2.1 hc.2 hv hwl
      refine ⟨r, K', J', a5, a6, fun c j hc => a1 c j (by omega) (by omega), fun c j hc => by rw [a2 c j (by omega) (by omega), up_c (by omega)], Rl_ask h hJ a1 (fun k j q1 q2 q3 => ?_)⟩
      rw [a2 k j q1 q2]
      exact if_neg q3
    by_cases w0 : w = 0
    · rw [if_pos w0] at E1 E2
      exact fin _ E1 (by rw [E2, c8.1.1])
    rw [if_neg w0] at E1 E2
    by_cases w1 : w = 1
    · rw [if_pos w1] at E1 E2
      rw [s_175 (by omega) (by omega) (by rw [Int.toNat_natCast]; omega) (by rw [Int.toNat_natCast]; omega), Option.bind_some, Int.toNat_natCast, c8.2.1.1, Int.add_sub_cancel] at E2
      exact fin _ E1 E2
    rw [if_neg w1] at E1 E2
    by_cases w2 : w = 2
    · rw [if_pos w2] at E1 E2
      rw [s_176 (by omega) (by omega) (by rw [Int.toNat_natCast]; omega) (by rw [Int.toNat_natCast]; omega), Option.bind_some, Int.toNat_natCast, c8.2.2.1.1, Int.add_sub_cancel] at E2
      exact fin _ E1 E2
    rw [if_neg w2] at E1 E2
    by_cases w3 : w = 3
    · rw [if_pos w3] at E1 E2
      rw [wr_o66 (q := c) (by omega), if_pos (by omega), Int.toNat_natCast, c8.2.2.2.1] at E2
      exact fin _ E1 E2
    rw [if_neg w3] at E1 E2
    by_cases w4 : w = 4
    · rw [if_pos w4] at E1 E2
      rw [wr_o76 (q := c) (by omega), if_pos (by omega), Int.toNat_natCast, c8.2.2.2.2] at E2
      exact fin _ E1 E2
    rw [if_neg w4] at E1 E2
    by_cases w5 : w = 5
    · rw [if_pos w5] at E1 E2
      obtain ⟨r, K', J', a1, a2, a3, a4, a5⟩ := asks 0 10011 (by decide) rfl
      have a2 : cl 59 229 [.inr (some 240), .inl (c : Int)] (up J 240 0 0) = some (r, J') := a2
      rw [a1, Option.bind_some] at E1
      rw [a2, Option.bind_some] at E2
      exact ⟨r, K', J', E1, E2, a3, a4, a5⟩
    rw [if_neg w5] at E1 E2
    by_cases w6 : w = 6
    · rw [if_pos w6] at E1 E2
      obtain ⟨r, K', J', a1, a2, a3, a4, a5⟩ := asks 1 10012 (by decide) rfl
      have a2 : cl 59 230 [.inr (some 240), .inl (c : Int)] (up J 240 0 0) = some (r, J') := a2
      rw [a1, Option.bind_some] at E1
      rw [a2, Option.bind_some] at E2
      exact ⟨r, K', J', E1, E2, a3, a4, a5⟩
    rw [if_neg w6] at E1 E2
    by_cases w7 : w = 7
    · rw [if_pos w7] at E1 E2
      obtain ⟨r, K', J', a1, a2, a3, a4, a5⟩ := asks 2 10013 (by decide) rfl
      have a2 : cl 59 231 [.inr (some 240), .inl (c : Int)] (up J 240 0 0) = some (r, J') := a2
      rw [a1, Option.bind_some] at E1
      rw [a2, Option.bind_some] at E2
      exact ⟨r, K', J', E1, E2, a3, a4, a5⟩
    · rw [if_neg w7] at E1 E2
      exact fin _ E1 E2
  · rw [if_pos (by omega)] at E1 E2
    exact fin _ E1 E2
