/-! ACTS, HOURS, WHAT GOES BACK -/

def zuC : List Nat := [2, 3, 7, 12, 4, 5, 6, 8, 9, 10, 11, 13, 14, 15, 16, 17, 18, 19, 27, 28, 119, 121, 122, 123, 124, 125, 126, 127, 128, 129, 130, 131, 132, 133, 134, 135, 136, 137, 138, 139, 140, 141, 142, 143, 144, 145, 146, 147, 148, 149, 150, 151, 152, 153, 154, 155, 156, 157, 158, 159, 160, 161, 162, 163, 164, 165, 166, 167, 168, 169, 170, 171, 172, 173, 174, 175, 176, 177, 178, 179, 180, 181, 182, 183, 184, 185, 186, 187, 188, 189, 190, 191, 192, 193, 194, 195, 196, 197, 198, 199, 241, 242, 247, 262, 263]
def zhF : List (Nat × Nat) := [(240, 0), (240, 3)]
/-- from the start of a call to where it stands: what is changed, and how both stand beside each other -/
def hIv (K0 J0 K J : zI) (hb : Int) : Prop :=
  RFirm K J 2 hb ∧ RBook K J 15 ∧ RPast2 K J ∧ (∀ c j, zuC.contains c = false → K c j = K0 c j) ∧ (K 2 3 = K0 2 3 ∧ K 2 4 = K0 2 4 ∧ K 2 5 = K0 2 5) ∧
  (∀ c j, c ≠ 241 → c ≠ 242 → c ≠ 247 → c ≠ 262 → c ≠ 263 → ¬ (c = 240 ∧ (j = 0 ∨ j = 3)) → J c j = J0 c j)
theorem zuC_n {c : Nat} (h : ¬ (2 ≤ c ∧ c ≤ 19)) (h1 : c ≠ 27) (h2 : c ≠ 28) (h3 : c ≠ 119) (h4 : ¬ (121 ≤ c ∧ c ≤ 199)) (h5 : c < 240) : zuC.contains c = false := by
  cases e : zuC.contains c with
  | false => rfl
  | true =>
    have m := List.contains_iff_mem.mp e
    simp only [zuC, List.mem_cons, List.not_mem_nil, or_false] at m
    omega
theorem zuC_f {c : Nat} (h : zuC.contains c = false) : ¬ (2 ≤ c ∧ c ≤ 19) ∧ c ≠ 27 ∧ c ≠ 28 ∧ c ≠ 119 ∧ ¬ (121 ≤ c ∧ c ≤ 199) := by
  have hall : ∀ x, x ∈ zuC → c ≠ x := fun x hx e => by
    rw [e, List.contains_iff_mem.mpr hx] at h
    cases h
  have chk : ∀ p : Nat, p < 200 → (2 ≤ p ∧ p ≤ 19 ∨ p = 27 ∨ p = 28 ∨ p = 119 ∨ 121 ≤ p ∧ p ≤ 199) → zuC.contains p = true := by decide +kernel
  have hn : ¬ (2 ≤ c ∧ c ≤ 19 ∨ c = 27 ∨ c = 28 ∨ c = 119 ∨ 121 ≤ c ∧ c ≤ 199) := fun q => by
    have := chk c (by omega) q
    rw [this] at h
    cases h
  omega
theorem RFirm_J {K J J' : zI} {a : Nat} {hb : Int} (h1 : ∀ j, J' 241 j = J 241 j) (h4 : ∀ j, J' 244 j = J 244 j) (h5 : ∀ j, J' 245 j = J 245 j) (h6 : ∀ j, J' 246 j = J 246 j) (n6 : J' 240 6 = J 240 6) (n7 : J' 240 7 = J 240 7) (n8 : J' 240 8 = J 240 8) (r : RFirm K J a hb) : RFirm K J' a hb :=
  RFirm_cg rfl (fun _ _ _ => rfl) (funext h1) (funext h4) (funext h5) (funext h6) n6 n7 n8 r
/-- the model's cells are those of I -/
def eqJ (I J : zI) : Prop := ∀ c j, 240 ≤ c → J c j = I c j
theorem hIv_0 {I J : zI} (h : Rl I) (hJ : eqJ I J) : hIv I J I (up J 240 0 0) 9999 := by
  have e : ∀ c j, 240 ≤ c → ¬ (c = 240 ∧ j = 0) → up J 240 0 0 c j = I c j := fun c j q1 q2 => by
    unfold up
    rw [if_neg q2]
    exact hJ c j q1
  have eb : ∀ c j, ¬ (c = 240 ∧ j = 0) → up J 240 0 0 c j = J c j := fun c j q2 => by
    unfold up
    rw [if_neg q2]
  refine ⟨?_, ?_, ?_, fun _ _ _ => rfl, ⟨rfl, rfl, rfl⟩, fun c j _ _ _ _ _ q => eb c j (by omega)⟩
  · exact RFirm_J (fun j => e 241 j (by decide) (by omega)) (fun j => e 244 j (by decide) (by omega)) (fun j => e 245 j (by decide) (by omega)) (fun j => e 246 j (by decide) (by omega)) (e 240 6 (by decide) (by omega)) (e 240 7 (by decide) (by omega)) (e 240 8 (by decide) (by omega)) h.1.1
  · exact RBook_cg rfl (fun _ _ _ => rfl) (e 241 2 (by decide) (by omega)) (funext fun j => e 247 j (by decide) (by omega)) h.1.2.1
  · refine RPast2_cg rfl rfl (fun _ _ _ _ => rfl) (fun j => e 242 j (by decide) (by omega)) (e 240 3 (by decide) (by omega)) (fun j => e 244 j (by decide) (by omega)) (fun j => e 245 j (by decide) (by omega)) (fun j => e 246 j (by decide) (by omega)) (e 240 6 (by decide) (by omega)) (e 240 7 (by decide) (by omega)) (e 240 8 (by decide) (by omega)) (show RPast2 I I from h.2.1)
theorem zH_0 {I J : zI} (h : Rl I) (hJ : eqJ I J) : zH 2 0 I J :=
  ⟨RLaw_cg rfl (fun _ _ _ => rfl) (hJ 250 0 (by decide)) (fun l _ => ⟨hJ 251 l (by decide), hJ 252 l (by decide), hJ 253 l (by decide), hJ 254 l (by decide)⟩) (fun i _ => ⟨hJ 255 i (by decide), hJ 256 i (by decide)⟩) h.1.2.2.1,
    ROrd_cg rfl rfl rfl rfl (fun _ _ _ => rfl) (hJ 240 36 (by decide)) (fun j _ => hJ 258 j (by decide)) h.1.2.2.2.1,
    RBird_cg rfl (fun _ _ _ => rfl) (hJ 240 38 (by decide)) (fun b _ => ⟨hJ 259 b (by decide), hJ 260 b (by decide)⟩) h.1.2.2.2.2.1,
    RAft_cg rfl rfl (fun _ _ _ => rfl) (hJ 240 41 (by decide)) (fun e _ => hJ 261 e (by decide)) h.1.2.2.2.2.2.1,
    (hJ 240 5 (by decide)).trans h.2.2.2.2.2.1.1, Or.inl rfl⟩
theorem zH_hIv {K0 J0 K J : zI} {hb : Int} (h : zH 2 0 K0 J0) (g : hIv K0 J0 K J hb) : zH 2 0 K J := by
  obtain ⟨_, _, _, g4, ⟨n3, n4, n5⟩, g6⟩ := g
  obtain ⟨hl, ho, hbd, haf, h5, ht⟩ := h
  have e : ∀ c j, (20 ≤ c ∧ c ≤ 26 ∨ 29 ≤ c ∧ c ≤ 43) → K c j = K0 c j := fun c j q => g4 c j (zuC_n (by omega) (by omega) (by omega) (by omega) (by omega) (by omega))
  have f : ∀ c j, (250 ≤ c ∧ c ≤ 261) → J c j = J0 c j := fun c j q => g6 c j (by omega) (by omega) (by omega) (by omega) (by omega) (by omega)
  have f0 : ∀ j, j ≠ 0 → j ≠ 3 → J 240 j = J0 240 j := fun j q1 q2 => g6 240 j (by decide) (by decide) (by decide) (by decide) (by decide) (by omega)
  exact ⟨RLaw_cg (e 21 4 (by decide)) (fun k _ _ => funext fun j => e k j (by omega)) (f 250 0 (by decide)) (fun l _ => ⟨f 251 l (by decide), f 252 l (by decide), f 253 l (by decide), f 254 l (by decide)⟩) (fun i _ => ⟨f 255 i (by decide), f 256 i (by decide)⟩) hl,
    ROrd_cg n3 n4 n5 (e 29 4 (by decide)) (fun k _ _ => funext fun j => e k j (by omega)) (f0 36 (by decide) (by decide)) (fun j _ => f 258 j (by decide)) ho,
    RBird_cg (e 34 4 (by decide)) (fun k _ _ => funext fun j => e k j (by omega)) (f0 38 (by decide) (by decide)) (fun b _ => ⟨f 259 b (by decide), f 260 b (by decide)⟩) hbd,
    RAft_cg n5 (e 39 4 (by decide)) (fun k _ _ => funext fun j => e k j (by omega)) (f0 41 (by decide) (by decide)) (fun e' _ => f 261 e' (by decide)) haf,
    (f0 5 (by decide) (by decide)).trans h5, ht⟩
theorem Rl_hIv {I J K' J' : zI} (h : Rl I) (hJ : eqJ I J) (g : hIv I J K' J' 9999) : Rl (mg K' J') := by
  obtain ⟨g1, g2, g3, g4, ⟨n3, n4, n5⟩, g6⟩ := g
  have hA : Ag zuC zhF I (mg K' J') := by
    intro c j q1 q2
    have q3 := zuC_f q1
    have m241 : c ≠ 241 := fun e => by rw [e] at q1; revert q1; decide
    have m242 : c ≠ 242 := fun e => by rw [e] at q1; revert q1; decide
    have m247 : c ≠ 247 := fun e => by rw [e] at q1; revert q1; decide
    have m262 : c ≠ 262 := fun e => by rw [e] at q1; revert q1; decide
    have m263 : c ≠ 263 := fun e => by rw [e] at q1; revert q1; decide
    have p4 : ¬ (c = 240 ∧ j = 0) := fun e => by rw [e.1, e.2] at q2; revert q2; decide
    have p5 : ¬ (c = 240 ∧ j = 3) := fun e => by rw [e.1, e.2] at q2; revert q2; decide
    by_cases hc : c < 240
    · rw [mg_l hc]
      exact g4 c j q1
    · rw [mg_r (by omega), g6 c j m241 m242 m247 m262 m263 (by omega)]
      exact hJ c j (by omega)
  refine ⟨⟨?_, ?_, RLaw_cg (ag_f hA 21 4 rfl rfl) (fun k h1 h2 => ag_cs hA 22 26 (by decide) k h1 h2) (ag_f hA 250 0 rfl rfl) (fun l _ => ⟨congrFun (ag_c hA 251 rfl rfl) l, congrFun (ag_c hA 252 rfl rfl) l, congrFun (ag_c hA 253 rfl rfl) l, congrFun (ag_c hA 254 rfl rfl) l⟩) (fun i _ => ⟨congrFun (ag_c hA 255 rfl rfl) i, congrFun (ag_c hA 256 rfl rfl) i⟩) h.1.2.2.1, ?_, RBird_cg (ag_f hA 34 4 rfl rfl) (fun k h1 h2 => ag_cs hA 35 37 (by decide) k h1 h2) (ag_f hA 240 38 rfl rfl) (fun b _ => ⟨congrFun (ag_c hA 259 rfl rfl) b, congrFun (ag_c hA 260 rfl rfl) b⟩) h.1.2.2.2.2.1, ?_, RRow_cg (ag_f hA 44 2 rfl rfl) (ag_c hA 45 rfl rfl) (ag_f hA 240 47 rfl rfl) (ag_c hA 266 rfl rfl) h.1.2.2.2.2.2.2.1, RRow_cg (ag_f hA 46 2 rfl rfl) (ag_c hA 47 rfl rfl) (ag_f hA 240 51 rfl rfl) (ag_c hA 269 rfl rfl) h.1.2.2.2.2.2.2.2.1, RDots_cg (ag_c hA 48 rfl rfl) (ag_c hA 49 rfl rfl) (ag_c hA 272 rfl rfl) (ag_c hA 273 rfl rfl) h.1.2.2.2.2.2.2.2.2.1, RPl_cg (ag_f hA 50 2 rfl rfl) (ag_c hA 51 rfl rfl) (ag_f hA 240 57 rfl rfl) (ag_f hA 240 58 rfl rfl) (ag_f hA 240 59 rfl rfl) h.1.2.2.2.2.2.2.2.2.2.1, RRow_cg (ag_f hA 52 2 rfl rfl) (ag_c hA 53 rfl rfl) (ag_f hA 240 62 rfl rfl) (ag_c hA 276 rfl rfl) h.1.2.2.2.2.2.2.2.2.2.2.1, RLegs_cg (ag_f hA 54 2 rfl rfl) (ag_c hA 55 rfl rfl) (ag_f hA 240 64 rfl rfl) (ag_c hA 277 rfl rfl) h.1.2.2.2.2.2.2.2.2.2.2.2.1, RRow_cg (ag_f hA 56 2 rfl rfl) (ag_c hA 57 rfl rfl) (ag_f hA 240 66 rfl rfl) (ag_c hA 278 rfl rfl) h.1.2.2.2.2.2.2.2.2.2.2.2.2.1, RRow_cg (ag_f hA 58 2 rfl rfl) (ag_c hA 59 rfl rfl) (ag_f hA 240 69 rfl rfl) (ag_c hA 280 rfl rfl) h.1.2.2.2.2.2.2.2.2.2.2.2.2.2⟩, ?_, RTape_cg (ag_f hA 213 1 rfl rfl) (ag_c hA 214 rfl rfl) (ag_f hA 240 14 rfl rfl) (ag_c hA 248 rfl rfl) h.2.2.1, RFlt_cg (ag_f hA 213 7 rfl rfl) (ag_f hA 213 8 rfl rfl) (ag_f hA 240 34 rfl rfl) (ag_f hA 240 35 rfl rfl) h.2.2.2.1, RBox_cg (ag_f hA 238 1 rfl rfl) (ag_c hA 239 rfl rfl) h.2.2.2.2.1, RMisc_cg (ag_f hA 240 5 rfl rfl) (ag_c hA 249 rfl rfl) (ag_f hA 44 1 rfl rfl) (ag_f hA 46 1 rfl rfl) (ag_f hA 50 1 rfl rfl) (ag_f hA 52 1 rfl rfl) (ag_f hA 54 1 rfl rfl) (ag_f hA 56 1 rfl rfl) (ag_f hA 58 1 rfl rfl) h.2.2.2.2.2.1, RPic_cg (ag_f hA 0 2 rfl rfl) (ag_f hA 240 73 rfl rfl) (fun k h1 h2 => ag_cs hA 61 118 (by decide) k h1 h2) (ag_c hA 282 rfl rfl) h.2.2.2.2.2.2⟩
  · exact RFirm_cg (mg_l (by decide)) (fun k _ _ => mg_l (by omega)) (mg_r (by decide)) (mg_r (by decide)) (mg_r (by decide)) (mg_r (by decide)) (by rw [mg_r (by decide)]) (by rw [mg_r (by decide)]) (by rw [mg_r (by decide)]) g1
  · exact RBook_cg (by rw [mg_l (by decide)]) (fun k _ _ => mg_l (by omega)) (by rw [mg_r (by decide)]) (mg_r (by decide)) g2
  · exact ROrd_cg (by rw [mg_l (by decide)]; exact n3) (by rw [mg_l (by decide)]; exact n4) (by rw [mg_l (by decide)]; exact n5) (ag_f hA 29 4 rfl rfl) (fun k h1 h2 => ag_cs hA 30 33 (by decide) k h1 h2) (ag_f hA 240 36 rfl rfl) (fun j _ => congrFun (ag_c hA 258 rfl rfl) j) h.1.2.2.2.1
  · exact RAft_cg (by rw [mg_l (by decide)]; exact n5) (ag_f hA 39 4 rfl rfl) (fun k h1 h2 => ag_cs hA 40 41 (by decide) k h1 h2) (ag_f hA 240 41 rfl rfl) (fun e _ => congrFun (ag_c hA 261 rfl rfl) e) h.1.2.2.2.2.2.1
  · exact RPast_mg g3
theorem hIv_keep {d e : Nat} {K0 J0 K J : zI} {hb : Int} (hbb : hb ≤ 9999) (g : hIv K0 J0 K J hb) : ∃ K' J' : zI, hIv K0 J0 K' J' hb ∧ (∀ c j, c ≠ 119 → ¬ (121 ≤ c ∧ c ≤ 199) → K' c j = K c j) ∧ (∀ c j, c ≠ 242 → ¬ (c = 240 ∧ j = 3) → J' c j = J c j) ∧ cl (d + 2) 48 [.inr (some 119), .inr (some 2), .inl (K 15 4)] K = some (0, K') ∧ cl (e + 1) 166 [.inr (some 240)] J = some (0, J') := by
  obtain ⟨g1, g2, g3, g4, ⟨n3, n4, n5⟩, g6⟩ := g
  obtain ⟨K', J', k1, k2, k3, k4, k5⟩ := keep_ok (d := d) (e := e) g1 hbb g2 g3
  refine ⟨K', J', ⟨?_, ?_, k3, fun c j q1 => ?_, ?_, fun c j q1 q2 q3 q4 q5 q6 => ?_⟩, k1, k2, k4, k5⟩
  · exact RFirm_cg (funext fun j => k1 2 j (by decide) (by omega)) (fun k _ _ => funext fun j => k1 k j (by omega) (by omega)) (funext fun j => k2 241 j (by decide) (by omega)) (funext fun j => k2 244 j (by decide) (by omega)) (funext fun j => k2 245 j (by decide) (by omega)) (funext fun j => k2 246 j (by decide) (by omega)) (k2 240 6 (by decide) (by omega)) (k2 240 7 (by decide) (by omega)) (k2 240 8 (by decide) (by omega)) g1
  · exact RBook_cg (k1 15 4 (by decide) (by omega)) (fun k _ _ => funext fun j => k1 k j (by omega) (by omega)) (k2 241 2 (by decide) (by omega)) (funext fun j => k2 247 j (by decide) (by omega)) g2
  · have q3 := zuC_f q1
    rw [k1 c j (by omega) (by omega)]
    exact g4 c j q1
  · rw [k1 2 3 (by decide) (by omega), k1 2 4 (by decide) (by omega), k1 2 5 (by decide) (by omega)]
    exact ⟨n3, n4, n5⟩
  · rw [k2 c j q2 (by omega)]
    exact g6 c j q1 q2 q3 q4 q5 q6
theorem hIv_zG {K0 J0 K J K' J' : zI} {hb hb2 : Int} (g : hIv K0 J0 K J hb) (z : zG 2 hb2 0 K J K' J') : hIv K0 J0 K' J' hb2 := by
  obtain ⟨g1, g2, g3, g4, ⟨n3, n4, n5⟩, g6⟩ := g
  obtain ⟨z1, ⟨z3, z4, z5⟩, _, z6, z7, z8⟩ := z
  have zJ : ∀ c j, c ≠ 241 → c ≠ 247 → c ≠ 262 → c ≠ 263 → J' c j = J c j := fun c j q1 q2 q3 q4 => z6 c j q1 (by omega) q3 q4
  have zK : ∀ c j, ¬ (2 ≤ c ∧ c ≤ 19) → c ≠ 27 → c ≠ 28 → K' c j = K c j := fun c j q1 q2 q3 => z1 c j (by omega) (by omega) q2 q3
  refine ⟨z7, z8, ?_, fun c j q1 => ?_, ⟨z3.trans n3, z4.trans n4, z5.trans n5⟩, fun c j q1 q2 q3 q4 q5 q6 => ?_⟩
  · exact RPast2_cg (zK 119 2 (by omega) (by decide) (by decide)) (zK 119 3 (by omega) (by decide) (by decide)) (fun k j _ _ => zK k j (by omega) (by omega) (by omega)) (fun j => zJ 242 j (by decide) (by decide) (by decide) (by decide)) (zJ 240 3 (by decide) (by decide) (by decide) (by decide)) (fun j => zJ 244 j (by decide) (by decide) (by decide) (by decide)) (fun j => zJ 245 j (by decide) (by decide) (by decide) (by decide)) (fun j => zJ 246 j (by decide) (by decide) (by decide) (by decide)) (zJ 240 6 (by decide) (by decide) (by decide) (by decide)) (zJ 240 7 (by decide) (by decide) (by decide) (by decide)) (zJ 240 8 (by decide) (by decide) (by decide) (by decide)) g3
  · have q3 := zuC_f q1
    rw [zK c j (by omega) (by omega) (by omega)]
    exact g4 c j q1
  · rw [zJ c j q1 q3 q4 q5]
    exact g6 c j q1 q2 q3 q4 q5 q6
theorem hIv_up {k i j : Nat} {hb x y : Int} {K0 J0 K J : zI} (hk : 2 ≤ k ∧ k ≤ 12 ∧ k ≠ 5 ∧ k ≠ 10) (hj : ¬ 2 = j) (g : hIv K0 J0 K J hb) (r : RFirm (up K (2 + k) i x) (up J 241 j y) 2 hb) : hIv K0 J0 (up K (2 + k) i x) (up J 241 j y) hb :=
  hIv_zG g (zG_up (Or.inl rfl) hk hj (zG_rf g.1 g.2.1) r)
theorem s_234 {e c : Nat} {K J : zI} {hb w v : Int} (rf : RFirm K J 2 hb) (hc : (c : Int) < K 2 4) : cl (e + 4) 234 [.inr (some 240), .inl w, .inl (c : Int), .inl v] J = some (zcb K 2 c w v, J) := by
  obtain ⟨⟨f1, f1a, f1b⟩, ⟨f2, f2a, f2b⟩, ⟨f3, f3a, f3b⟩, f4, f5, f6, f7, f8, f9⟩ := rf
  have c8 := f8 c hc
  simp only [Nat.reduceAdd] at f7 f8 f9 c8
  have h175 : cl (e + 3) 175 [.inr (some 240), .inl (c : Int)] J = some (K 8 c, J) := by
    rw [s_175 (by omega) (by omega) (by rw [Int.toNat_natCast]; omega) (by rw [Int.toNat_natCast]; omega), Int.toNat_natCast, c8.2.1.1, Int.add_sub_cancel]
  have h176 : cl (e + 3) 176 [.inr (some 240), .inl (c : Int)] J = some (K 9 c, J) := by
    rw [s_176 (by omega) (by omega) (by rw [Int.toNat_natCast]; omega) (by rw [Int.toNat_natCast]; omega), Int.toNat_natCast, c8.2.2.1.1, Int.add_sub_cancel]
  have hr46 : ∀ c : Nat, (c : Int) < J 240 7 → 0 ≤ J 241 (46 + c) ∧ J 241 (46 + c) ≤ 14 := fun p hp => by
    have := f8 p (by omega)
    omega
  rw [e_234]
  simp only [s_173, Option.bind_some, b01, h175, h176, s_172, s_174, e_234_76]
  rw [if_neg (by omega)]
  unfold zcb
  simp only [Nat.reduceAdd]
  by_cases w0 : w = 0
  · rw [if_pos w0, if_pos w0]
    by_cases hv : 0 ≤ v ∧ v < K 2 3
    · have v8 := f7 v.toNat (by omega)
      have ez : zfd (fun c => decide (J 241 (46 + c) - 1 = v)) (K 2 4).toNat 0 = zfd (fun e => decide (K 8 e = v)) (K 2 4).toNat 0 := zfd_cg _ _ fun j _ hj => by
        have := f8 j (by omega)
        rw [this.2.1.1, Int.add_sub_cancel]
      rw [if_neg (by omega), s_233 (by omega) (by omega) (by omega) ⟨hv.1, by omega⟩ hr46, f2, ez]
      simp only [Option.bind_some, b01]
      by_cases hcn2 : K 8 c = -1 ∧ (0 ≤ v ∧ v < K 2 3 ∧ v < 14) ∧ K 6 v.toNat = 0 ∧ zfd (fun e => decide (K 8 e = v)) (K 2 4).toNat 0 = -1
      · rw [if_neg (not_not_intro ⟨by omega, by omega, hcn2.2.2.2⟩), if_pos hcn2]
      · rw [if_pos (fun e => hcn2 ⟨by omega, by omega, by omega, e.2.2⟩), if_neg hcn2]
    · rw [if_pos (by omega), if_neg (fun e => hv ⟨e.2.1.1, e.2.1.2.1⟩)]
  rw [if_neg w0, if_neg w0]
  by_cases w2 : w = 2
  · have w1 : ¬ w = 1 := by omega
    rw [if_pos w2, if_neg w1, if_pos w2]
    by_cases hv : v = -1
    · rw [if_pos hv]
      by_cases q : K 9 c = -1
      · rw [if_pos q, if_pos (by omega)]
      · rw [if_neg q, if_neg (by omega), if_pos hv]
    · rw [if_neg hv, if_neg hv]
      by_cases hv2 : 0 ≤ v ∧ v < K 2 5
      · have v9 := f9 v.toNat (by omega)
        rw [if_neg (by omega), s_178 (by omega) (by omega)]
        simp only [Option.bind_some, b01, h176]
        by_cases hn : K 14 v.toNat = -1
        · rw [if_pos (show ¬ 0 < J 241 (98 + v.toNat) by omega)]
          by_cases q : K 9 c = v
          · rw [if_pos q, if_pos q]
          · rw [if_neg q, if_neg q, if_pos ⟨by omega, hn⟩]
        · rw [if_neg (show ¬ ¬ 0 < J 241 (98 + v.toNat) by omega)]
          by_cases q : K 9 c = v
          · rw [if_pos q]
          · rw [if_neg q, if_neg (fun e => hn e.2)]
      · rw [if_pos (by omega), if_neg (by omega), if_neg (by omega)]
  rw [if_neg w2]
  by_cases w1 : w = 1
  · rw [if_pos w1, if_pos w1]
    split <;> rfl
  rw [if_neg w1, if_neg w1, if_neg w2]
  by_cases q1 : K 8 c = -1
  · rw [if_pos q1]
    by_cases w3 : w = 3
    · rw [if_pos w3, if_neg (show ¬ ((0 ≤ K 8 c ∧ K 8 c < K 2 3 ∧ K 8 c < 14) ∧ K 4 (K 8 c).toNat < 99) by omega)]
    · rw [if_neg w3]
      by_cases w4 : w = 4
      · rw [if_pos w4, if_neg (show ¬ ((0 ≤ K 8 c ∧ K 8 c < K 2 3 ∧ K 8 c < 14) ∧ 0 < K 5 (K 8 c).toNat) by omega)]
      · rw [if_neg w4]
  · obtain ⟨q, hq⟩ : ∃ q : Nat, K 8 c = q := ⟨(K 8 c).toNat, by omega⟩
    have q8 := f7 q (by omega)
    have i4 : 0 ≤ ((4 + q : Nat) : Int) ∧ ((4 + q : Nat) : Int) < 110 := by omega
    have i18 : 0 ≤ ((18 + q : Nat) : Int) ∧ ((18 + q : Nat) : Int) < 110 := by omega
    have iq : 0 ≤ (q : Int) ∧ (q : Int) < K 2 3 ∧ (q : Int) < 14 := by omega
    rw [if_neg q1]
    simp only [hq, wr_o4 (q := q) (by omega), wr_o18 (q := q) (by omega), if_pos i4, if_pos i18, Int.toNat_natCast]
    by_cases w3 : w = 3
    · have w4 : ¬ w = 4 := by omega
      rw [if_pos w3, if_pos w3, if_neg w4]
      by_cases hi : K 4 q < 99
      · rw [if_pos (by omega), if_pos ⟨iq, hi⟩]
      · rw [if_neg (by omega), if_neg (fun e => hi e.2)]
    · rw [if_neg w3, if_neg w3]
      by_cases w4 : w = 4
      · rw [if_pos w4, if_pos w4]
        by_cases hi : 0 < K 5 q
        · rw [if_pos (by omega), if_pos ⟨iq, hi⟩]
        · rw [if_neg (by omega), if_neg (fun e => hi e.2)]
      · rw [if_neg w4, if_neg w4]
theorem zda_3 {K : zI} {c q : Nat} {v : Int} (hq : K 8 c = (q : Int)) (h1 : (q : Int) < K 2 3) (h2 : K 2 3 ≤ 14) : zda K 2 c 3 v = up K 4 q 99 := by
  unfold zda
  simp only [Nat.reduceAdd, hq, Int.toNat_natCast]
  rw [if_neg (by decide), if_neg (by decide), if_neg (by decide), if_pos trivial, if_pos (by omega)]
theorem zda_4 {K : zI} {c q : Nat} {v : Int} (hq : K 8 c = (q : Int)) (h1 : (q : Int) < K 2 3) (h2 : K 2 3 ≤ 14) : zda K 2 c 4 v = up K 5 q 0 := by
  unfold zda
  simp only [Nat.reduceAdd, hq, Int.toNat_natCast]
  rw [if_neg (by decide), if_neg (by decide), if_neg (by decide), if_neg (by decide), if_pos trivial, if_pos (by omega)]
theorem s_235_3 {e c q : Nat} {J : zI} {v : Int} (hc : c < 10) (hq : q < 14) (h : J 241 (46 + c) = (q : Int) + 1) : zD (e + 2) 235 34 [some (.inr (some 240)), some (.inl 3), some (.inl (c : Int)), some (.inl v)] [] J = some (1, up J 241 (4 + q) 99) := by
  have h175 : cl (e + 1) 175 [.inr (some 240), .inl (c : Int)] J = some ((q : Int), J) := by
    rw [s_175 (by omega) (by omega) (by rw [Int.toNat_natCast]; omega) (by rw [Int.toNat_natCast]; omega), Int.toNat_natCast, h, Int.add_sub_cancel]
  rw [e_235_34, if_neg (by decide), e_235_46, if_pos rfl, h175, Option.bind_some]
  dsimp only
  rw [wr_o4 (q := q) (by omega), if_pos (by omega), Int.toNat_natCast, e_235_58, if_neg (by decide)]
theorem s_235_4 {e c q : Nat} {J : zI} {v : Int} (hc : c < 10) (hq : q < 14) (h : J 241 (46 + c) = (q : Int) + 1) : zD (e + 2) 235 34 [some (.inr (some 240)), some (.inl 4), some (.inl (c : Int)), some (.inl v)] [] J = some (1, up J 241 (18 + q) 0) := by
  have h175 : cl (e + 1) 175 [.inr (some 240), .inl (c : Int)] J = some ((q : Int), J) := by
    rw [s_175 (by omega) (by omega) (by rw [Int.toNat_natCast]; omega) (by rw [Int.toNat_natCast]; omega), Int.toNat_natCast, h, Int.add_sub_cancel]
  rw [e_235_34, if_neg (by decide), e_235_46, if_neg (by decide), e_235_58, if_pos rfl, h175, Option.bind_some]
  dsimp only
  rw [wr_o18 (q := q) (by omega), if_pos (by omega), Int.toNat_natCast]
theorem q_act {I : zI} {w c v : Int} (h : Rl I) : Pair 117 235 [.inl w, .inl c, .inl v] I := by
  refine Pair_two fun J hJ => ?_
  have g0 := hIv_0 h hJ
  have E1 := e_117 (d := 59) (I := I) (x1 := w) (x2 := c) (x3 := v)
  have E2 := e_235 (d := 59) (I := J) (x1 := w) (x2 := c) (x3 := v)
  have rf := g0.1
  have f2 := rf.2.1
  have f3 := rf.1
  have f5 := rf.2.2.1
  by_cases hc : 0 ≤ c ∧ c < I 2 4
  · obtain ⟨c, rfl⟩ : ∃ n : Nat, c = n := ⟨c.toNat, by omega⟩
    have c8 := rf.2.2.2.2.2.2.2.1 c hc.2
    simp only [Nat.reduceAdd] at c8
    rw [s_32 fi_2 f2.2.1 f2.2.2 hc.2] at E1
    rw [s_234 rf hc.2] at E2
    simp only [Option.bind_some] at E1 E2
    by_cases hz : zcb I 2 c w v = 0
    · rw [if_pos hz] at E1 E2
      exact ⟨0, I, _, E1, E2, fun _ _ _ => rfl, fun k j hk => up_c (by omega), Rl_hIv h hJ g0⟩
    · rw [if_neg hz] at E1 E2
      obtain ⟨K1, J1, g1, k1, j1, m1, m2⟩ := hIv_keep (d := 57) (e := 58) (by decide) g0
      rw [m1, Option.bind_some] at E1; (try dsimp only at E1); rw [s_33 fi_2 (by rw [k1 2 4 (by decide) (by omega)]; exact f2.2.2) (by rw [k1 2 4 (by decide) (by omega)]; exact hc.2), Option.bind_some] at E1
      rw [m2, Option.bind_some] at E2
      dsimp only at E1 E2
      have hcK : (c : Int) < K1 2 4 := by rw [k1 2 4 (by decide) (by omega)]; exact hc.2
      have rf1 := g1.1
      have kk : ∀ k j, 2 ≤ k → k ≤ 14 → K1 k j = I k j := fun k j q1 q2 => k1 k j (by omega) (by omega)
      have i46 : 0 ≤ ((46 + c : Nat) : Int) ∧ ((46 + c : Nat) : Int) < 110 := by omega
      have i56 : 0 ≤ ((56 + c : Nat) : Int) ∧ ((56 + c : Nat) : Int) < 110 := by omega
      have c81 := rf1.2.2.2.2.2.2.2.1 c hcK
      simp only [Nat.reduceAdd] at c81
      have f31 := rf1.1
      have f51 := rf1.2.2.1
      have h175 : cl 59 175 [.inr (some 240), .inl (c : Int)] J1 = some (K1 8 c, J1) := by
        rw [s_175 (by omega) (by omega) (by rw [Int.toNat_natCast]; omega) (by rw [Int.toNat_natCast]; omega), Int.toNat_natCast, c81.2.1.1, Int.add_sub_cancel]
      -- what was changed
      have done : ∀ J' : zI, hIv I J (zda K1 2 c w v) J' 9999 → cl 60 235 [.inr (some 240), .inl w, .inl (c : Int), .inl v] J = some (1, J') → (∀ k j, k < 240 → J' k j = J1 k j) → ∃ (r : Int) (K' J' : zI), cl 60 117 (.inr (some 0) :: [.inl w, .inl (c : Int), .inl v]) I = some (r, K') ∧ cl 60 235 (.inr (some 240) :: [.inl w, .inl (c : Int), .inl v]) J = some (r, J') ∧ (∀ c j, 240 ≤ c → K' c j = I c j) ∧ (∀ c j, c < 240 → J' c j = J c j) ∧ Rl (mg K' J') := by
        intro J' g2 E3 hj
        refine ⟨1, _, J', E1, E3, fun k j hk => ?_, fun k j hk => ?_, Rl_hIv h hJ g2⟩
        · have z : ∀ k j, 240 ≤ k → zda K1 2 c w v k j = K1 k j := by
            intro k j hk
            unfold zda
            (repeat' split) <;> first | rfl | exact up_c (by omega)
          rw [z k j hk, k1 k j (by omega) (by omega)]
        · rw [hj k j hk, j1 k j (by omega) (by omega), up_c (by omega)]
      by_cases w0 : w = 0
      · subst w0
        simp only [Int.reduceEq, if_true, if_false, wr_o46 (q := c) (by omega), if_pos i46, Int.toNat_natCast, e_235_34, e_235_46, e_235_58] at E2
        unfold zcb at hz
        rw [if_pos rfl] at hz
        have hcn2 := Classical.byContradiction fun q => hz (if_neg q)
        clear hz
        rw [wr_id (z := v + 1) (by omega) (by omega)] at E2
        refine done _ ?_ E2 (fun k j hk => up_c (by omega))
        unfold zda
        rw [if_pos rfl]
        exact hIv_up (k := 6) (by decide) (by omega) g1 (F_holds (Or.inl rfl) rf1 hcK ⟨rfl, by omega, by rw [kk 2 3 (by decide) (by decide)]; omega⟩)
      by_cases w1 : w = 1
      · subst w1
        simp only [Int.reduceEq, if_true, if_false, wr_o46 (q := c) (by omega), if_pos i46, Int.toNat_natCast, e_235_34, e_235_46, e_235_58] at E2
        refine done _ ?_ E2 (fun k j hk => up_c (by omega))
        unfold zda
        rw [if_neg (by decide), if_pos rfl]
        exact hIv_up (k := 6) (by decide) (by omega) g1 (F_holds (Or.inl rfl) rf1 hcK ⟨rfl, by omega, by rw [kk 2 3 (by decide) (by decide)]; omega⟩)
      by_cases w2 : w = 2
      · subst w2
        unfold zcb at hz
        simp only [Int.reduceEq, if_true, if_false] at hz
        have hv : v = -1 ∨ (0 ≤ v ∧ v < I 2 5) := by
          by_cases q1 : I (2 + 7) c = v
          · rw [if_pos q1] at hz; exact absurd rfl hz
          · rw [if_neg q1] at hz
            by_cases q2 : v = -1
            · exact Or.inl q2
            · rw [if_neg q2] at hz
              have q3 := Classical.byContradiction fun q => hz (if_neg q)
              exact Or.inr ⟨q3.1.1, q3.1.2.1⟩
        simp only [Int.reduceEq, if_true, if_false, wr_o56 (q := c) (by omega), if_pos i56, Int.toNat_natCast, e_235_34, e_235_46, e_235_58] at E2
        rw [wr_id (z := v + 1) (by omega) (by omega)] at E2
        refine done _ ?_ E2 (fun k j hk => up_c (by omega))
        unfold zda
        rw [if_neg (by decide), if_neg (by decide), if_pos rfl]
        exact hIv_up (k := 7) (by decide) (by omega) g1 (F_at (Or.inl rfl) rf1 hcK ⟨rfl, by omega, by rw [kk 2 5 (by decide) (by decide)]; omega⟩)
      by_cases w3 : w = 3
      · subst w3
        unfold zcb at hz
        simp only [Int.reduceEq, if_true, if_false] at hz
        have hcn2 := Classical.byContradiction fun q => hz (if_neg q)
        clear hz
        simp only [Nat.reduceAdd] at hcn2
        obtain ⟨q, hq⟩ : ∃ q : Nat, I 8 c = q := ⟨(I 8 c).toNat, by omega⟩
        have i4 : 0 ≤ ((4 + q : Nat) : Int) ∧ ((4 + q : Nat) : Int) < 110 := by omega
        rw [if_neg (by decide), if_neg (by decide), s_235_3 (q := q) (by omega) (by omega) (by rw [c81.2.1.1, kk 8 c (by decide) (by decide), hq])] at E2
        refine done _ ?_ E2 (fun k j hk => up_c (by omega))
        rw [zda_3 (q := q) (by rw [kk 8 c (by decide) (by decide)]; exact hq) (by rw [kk 2 3 (by decide) (by decide)]; omega) (by rw [kk 2 3 (by decide) (by decide)]; omega)]
        exact hIv_up (k := 2) (by decide) (by omega) g1 (F_ink (Or.inl rfl) rf1 (by rw [kk 2 3 (by decide) (by decide)]; omega) ⟨rfl, by decide, by decide⟩)
      by_cases w4 : w = 4
      · subst w4
        unfold zcb at hz
        simp only [Int.reduceEq, if_true, if_false] at hz
        have hcn2 := Classical.byContradiction fun q => hz (if_neg q)
        clear hz
        simp only [Nat.reduceAdd] at hcn2
        obtain ⟨q, hq⟩ : ∃ q : Nat, I 8 c = q := ⟨(I 8 c).toNat, by omega⟩
        have i18 : 0 ≤ ((18 + q : Nat) : Int) ∧ ((18 + q : Nat) : Int) < 110 := by omega
        rw [if_neg (by decide), if_neg (by decide), s_235_4 (q := q) (by omega) (by omega) (by rw [c81.2.1.1, kk 8 c (by decide) (by decide), hq])] at E2
        refine done _ ?_ E2 (fun k j hk => up_c (by omega))
        rw [zda_4 (q := q) (by rw [kk 8 c (by decide) (by decide)]; exact hq) (by rw [kk 2 3 (by decide) (by decide)]; omega) (by rw [kk 2 3 (by decide) (by decide)]; omega)]
        exact hIv_up (k := 3) (by decide) (by omega) g1 (F_worn (Or.inl rfl) rf1 (by rw [kk 2 3 (by decide) (by decide)]; omega) ⟨rfl, by decide, by decide⟩)
      · unfold zcb at hz
        rw [if_neg w0, if_neg w1, if_neg w2, if_neg w3, if_neg w4] at hz
        exact absurd rfl hz
  · rw [e_32 fi_2, s_23 fi_2] at E1
    simp only [Option.bind_some, b01] at E1
    rw [if_pos (by omega)] at E1
    simp only [Option.bind_some, if_true] at E1
    rw [e_234, s_173] at E2
    simp only [Option.bind_some, b01] at E2
    rw [if_pos (by omega)] at E2
    simp only [Option.bind_some, if_true] at E2
    exact ⟨0, I, _, E1, E2, fun _ _ _ => rfl, fun k j hk => up_c (by omega), Rl_hIv h hJ g0⟩
theorem hours_in {d e n : Nat} {K0 J0 : zI} (hH : zH 2 0 K0 J0) (hn : n ≤ 60) : ∀ (m i : Nat) (x : Int) (K J : zI), i + m = n → (-2147483648 ≤ x ∧ x < 2147483648) → hIv K0 J0 K J (9999 - (m : Int)) →
    ∃ (r : Int) (K' J' : zI), hIv K0 J0 K' J' 9999 ∧ (∀ c j, 240 ≤ c → K' c j = K c j) ∧ (∀ c j, c < 240 → J' c j = J c j) ∧ zD (d + 8) 118 19 [some (.inr (some 0)), some (.inl (n : Int)), some (.inl x), some (.inl (i : Int))] [] K = some (r, K') ∧ zD (e + 10) 242 23 [some (.inr (some 240)), some (.inl (n : Int)), some (.inl x), some (.inl (i : Int))] [] J = some (r, J') := by
  intro m
  induction m with
  | zero =>
    intro i x K J hi hx g
    refine ⟨x, K, J, by simpa using g, fun _ _ _ => rfl, fun _ _ _ => rfl, ?_, ?_⟩
    · rw [e_118_19, if_neg (by omega)]
    · rw [e_242_23, if_neg (by omega)]
  | succ m ih =>
    intro i x K J hi hx g
    obtain ⟨K1, J1, g1, k1, j1, m1, m2⟩ := hIv_keep (d := d + 5) (e := e + 8) (by omega) g
    have m1 : cl (d + 7) 48 [.inr (some 119), .inr (some 2), .inl (K 15 4)] K = some (0, K1) := m1
    obtain ⟨r, K2, J2, z, z1, z2⟩ := hour_ok (d := d) (e := e) fi_2 (Or.inl rfl) (zH_hIv hH g1) (by omega) (zG_rf g1.1 g1.2.1)
    have g2 := hIv_zG g1 z
    rw [show 9999 - ((m + 1 : Nat) : Int) + 1 = 9999 - (m : Int) by omega] at g2
    obtain ⟨r2, K3, J3, g3, k3, j3, y1, y2⟩ := ih (i + 1) (wr (x + r)) K2 J2 (by omega) ⟨wr_lo _, wr_hi _⟩ g2
    refine ⟨r2, K3, J3, g3, fun c j hc => ?_, fun c j hc => ?_, ?_, ?_⟩
    · rw [k3 c j hc, z.1 c j (by omega) (by omega) (by omega) (by omega), k1 c j (by omega) (by omega)]
    · rw [j3 c j hc, z.2.2.2.1 c j (by omega) (by omega) (by omega) (by omega), j1 c j (by omega) (by omega)]
    · rw [e_118_19, if_pos (by omega), m1, Option.bind_some]; (try dsimp only); rw [z1, Option.bind_some]; (try dsimp only); rw [wr_id (z := (i : Int) + 1) (by omega) (by omega), ← zk1c]
      exact y1
    · rw [e_242_23, if_pos (by omega), m2, Option.bind_some]; (try dsimp only); rw [z2, Option.bind_some]; (try dsimp only); rw [wr_id (z := (i : Int) + 1) (by omega) (by omega), ← zk1c]
      exact y2
theorem q_hours {I : zI} {n : Int} (h : Rl I) : Pair 118 242 [.inl n] I := by
  refine Pair_two fun J hJ => ?_
  have g0 := hIv_0 h hJ
  have hH := zH_hIv (zH_0 h hJ) g0
  have E1 := e_118 (d := 59) (I := I) (x1 := n)
  have E2 := e_242 (d := 59) (I := J) (x1 := n)
  simp only [s_156, Option.bind_some, b01] at E1
  simp only [s_158, Option.bind_some, b01] at E2
  obtain ⟨f6, f6a, f6b⟩ := g0.1.2.2.2.2.2.1
  by_cases hn : 1 ≤ n ∧ n ≤ 60
  · rw [if_neg (not_not_intro hn), wr_id (z := 9999 - n) (by omega) (by omega)] at E1
    rw [if_neg (not_not_intro hn), f6, wr_id (z := I 2 2 + n) (by omega) (by omega)] at E2
    by_cases hh : 9999 - n < I 2 2
    · rw [if_pos hh] at E1
      rw [if_pos (by omega)] at E2
      exact ⟨-1, I, _, E1, E2, fun _ _ _ => rfl, fun k j hk => up_c (by omega), Rl_hIv h hJ g0⟩
    · rw [if_neg hh] at E1
      rw [if_neg (by omega)] at E2
      obtain ⟨m, rfl⟩ : ∃ m : Nat, n = m := ⟨n.toNat, by omega⟩
      have g1 : hIv I (up J 240 0 0) I (up J 240 0 0) (9999 - (m : Int)) := by
        obtain ⟨q1, q2, q3, q4, q5, q6⟩ := g0
        obtain ⟨y1, y2, y3, y4, y5, ⟨y6, y7, y8⟩, y9⟩ := q1
        exact ⟨⟨y1, y2, y3, y4, y5, ⟨y6, y7, by omega⟩, y9⟩, q2, q3, q4, q5, fun _ _ _ _ _ _ _ _ => rfl⟩
      obtain ⟨r, K', J', z1, z2, z3, z4, z5⟩ := hours_in (d := 52) (e := 50) hH (n := m) (by omega) m 0 0 I (up J 240 0 0) (by omega) (by decide) g1
      obtain ⟨q1, q2, q3, q4, q5, q6⟩ := z1
      refine ⟨r, K', J', E1.trans z4, E2.trans z5, z2, fun c j hc => by rw [z3 c j hc, up_c (by omega)], Rl_hIv h hJ ⟨q1, q2, q3, q4, q5, fun c j p1 p2 p3 p4 p5 p6 => ?_⟩⟩
      rw [q6 c j p1 p2 p3 p4 p5 p6]
      unfold up
      rw [if_neg (by omega)]
  · rw [if_pos hn] at E1 E2
    exact ⟨-1, I, _, E1, E2, fun _ _ _ => rfl, fun k j hk => up_c (by omega), Rl_hIv h hJ g0⟩
/-! going back -/
def zbk (s i : Nat) (J : zI) : zI := fun c j => if c = 241 ∧ j < i then J 242 (110 * s + j) else J c j
theorem zbk_0 {s : Nat} {J : zI} : zbk s 0 J = J := by
  funext c j
  exact if_neg fun e => by omega
theorem zbk_s {s i : Nat} {J : zI} : zbk s (i + 1) J = up (zbk s i J) 241 i (J 242 (110 * s + i)) := by
  funext c j
  unfold zbk up
  by_cases e : c = 241 ∧ j = i
  · rw [if_pos e, if_pos ⟨e.1, by omega⟩, e.2]
  · rw [if_neg e]
    dsimp only
    by_cases q : c = 241 ∧ j < i
    · rw [if_pos q, if_pos ⟨q.1, by omega⟩]
    · rw [if_neg q, if_neg (fun q2 => q ⟨q2.1, by omega⟩)]
theorem s_167_16 {e s : Nat} {J : zI} (hs : s ≤ 5) (h3 : J 240 3 = (s : Int)) : zD (e + 1) 167 16 [some (.inr (some 240)), some (.inl 0)] [] J = some (1, zbk s 110 J) := by
  have key : ∀ (m i : Nat), i + m = 110 → zD (e + 1) 167 16 [some (.inr (some 240)), some (.inl (i : Int))] [] (zbk s i J) = some (1, zbk s 110 J) := by
    intro m
    induction m with
    | zero =>
      intro i hi
      rw [e_167_16, if_neg (by omega), show i = 110 by omega]
    | succ m ih =>
      intro i hi
      have e3 : zbk s i J 240 3 = (s : Int) := (if_neg fun e => absurd e.1 (by decide)).trans h3
      have e1 : zbk s i J 242 (110 * s + i) = J 242 (110 * s + i) := if_neg fun e => absurd e.1 (by decide)
      have w : wr (wr (110 * (s : Int)) + (i : Int)) = ((110 * s + i : Nat) : Int) := by rw [wr_id (z := 110 * (s : Int)) (by omega) (by omega), wr_id (by omega) (by omega)]; omega
      have := ih (i + 1) (by omega)
      rw [zbk_s] at this
      rw [e_167_16, if_pos (by omega), e3, w, if_pos (by omega), if_pos (by omega), Int.toNat_natCast, Int.toNat_natCast, e1, wr_id (by omega) (by omega), ← zk1c]
      exact this
  have := key 110 0 (by omega)
  rw [zbk_0] at this
  exact this
theorem q_undo {I : zI} (h : Rl I) : Pair 153 167 [] I := by
  refine Pair_two fun J hJ => ?_
  have g0 := hIv_0 h hJ
  have E1 := e_153 (d := 59) (I := I)
  have E2 := e_167 (d := 59) (I := J)
  obtain ⟨g1, g2, g3, g4, g5, g6⟩ := g0
  obtain ⟨⟨p1, p2⟩, ⟨p3, p4, p5⟩, p6⟩ := g3
  have j3 : J 240 3 = I 119 3 := by rw [← p3, up_j (by decide)]
  by_cases hs : 0 < I 119 3
  · obtain ⟨o, ho⟩ : ∃ o : Nat, I 119 2 = o := ⟨(I 119 2).toNat, by omega⟩
    obtain ⟨s, hs1⟩ : ∃ s : Nat, I 119 3 = ((s + 1 : Nat) : Int) := ⟨(I 119 3).toNat - 1, by omega⟩
    rw [ho] at p1 p2 p6
    rw [hs1] at p6
    simp only [Int.toNat_natCast] at p6
    have hk : (o + s) % 6 < 6 := Nat.mod_lt _ (by decide)
    obtain ⟨b1, b2⟩ := fi_kept ((o + s) % 6) hk
    have hz : zrem (wr (wr (I 119 2 + I 119 3) - 1)) 6 = (((o + s) % 6 : Nat) : Int) := by
      rw [ho, hs1, wr_id (z := (o : Int) + ((s + 1 : Nat) : Int)) (by omega) (by omega), wr_id (by omega) (by omega), zrem_nn (by omega) (by omega) (by decide) (by decide)]
      omega
    obtain ⟨K1, c1, c2, c3, c4, c5, c6⟩ := s_21 (d := 57) (I := I) fi_2 b2 (by omega)
    have E3 := e_49 (d := 58) hs (by omega) (by omega) (by omega) b1 b2 hz
    have k119 : K1 119 3 = ((s + 1 : Nat) : Int) := by rw [c2 119 3 (by omega), hs1]
    have k199 : K1 199 ((o + s) % 6) = I 199 ((o + s) % 6) := c2 199 _ (by omega)
    rw [c1, Option.bind_some] at E3; (try dsimp only at E3); rw [k119, k199, wr_id (by omega) (by omega), show ((s + 1 : Nat) : Int) - 1 = (s : Int) by omega] at E3
    rw [E3, Option.bind_some] at E1; (try dsimp only at E1); rw [if_pos (Or.inr rfl)] at E1
    rw [if_neg (by omega), j3, hs1, wr_id (by omega) (by omega), show ((s + 1 : Nat) : Int) - 1 = (s : Int) by omega, s_167_16 (by omega) up_s] at E2
    obtain ⟨q1, q2, q3, q4⟩ := p6 s (by omega)
    have n6 := q1.1.1
    have n7 := q1.2.1.1
    have n8 := q1.2.2.1.1
    rw [rowv_c (by decide)] at n6 n7 n8
    have kK : ∀ c j, ¬ (2 ≤ c ∧ c ≤ 14) → ¬ (c = 15 ∧ j = 4) → ¬ (c = 119 ∧ j = 3) → up (up K1 15 4 (I 199 ((o + s) % 6))) 119 3 (s : Int) c j = I c j := fun c j y1 y2 y3 => by
      unfold up
      rw [if_neg y3, if_neg y2]
      exact c2 c j y1
    have kF : ∀ c j, 2 ≤ c → c ≤ 14 → up (up K1 15 4 (I 199 ((o + s) % 6))) 119 3 (s : Int) c j = K1 c j := fun c j y1 y2 => by
      rw [up_c (by omega), up_c (by omega)]
    have jJ : ∀ c j, ¬ c = 241 → ¬ (c = 240 ∧ (j = 0 ∨ j = 3)) → zbk s 110 (up (up J 240 0 0) 240 3 (s : Int)) c j = J c j := fun c j y1 y2 => by
      unfold zbk up
      rw [if_neg (fun e => y1 e.1), if_neg (by omega), if_neg (by omega)]
    have j41 : ∀ j, j < 110 → zbk s 110 (up (up J 240 0 0) 240 3 (s : Int)) 241 j = J 242 (110 * s + j) := fun j hj => by
      unfold zbk
      rw [if_pos ⟨rfl, hj⟩, up_c (by decide), up_c (by decide)]
    have up42 : ∀ j, up J 240 0 0 242 j = J 242 j := fun j => up_c (by decide)
    refine ⟨1, _, _, E1, E2, fun c j hc => kK c j (by omega) (by omega) (by omega), fun c j hc => jJ c j (by omega) (by omega), Rl_hIv h hJ ⟨?_, ?_, ?_, fun c j y1 => ?_, ?_, fun c j y1 y2 y3 y4 y5 y6 => jJ c j y1 y6⟩⟩
    · refine RFirm_pt (a := 121 + 13 * ((o + s) % 6)) (M := rowv (up J 240 0 0) s) (fun j hj => ?_) (fun p j y1 y2 y3 => ?_) (fun p j y1 y2 y3 => ?_) (fun p j y1 y2 y3 => ?_) (fun j hj => ?_) (fun j => ?_) (fun j => ?_) (fun j => ?_) ?_ ?_ ?_ q1
      · rw [kF 2 j (by decide) (by decide)]; exact c3 j hj
      · rw [kF _ j (by omega) (by omega)]; exact c4 p j y1 y2 y3
      · rw [kF _ j (by omega) (by omega)]; exact c5 p j y1 y2 y3
      · rw [kF _ j (by omega) (by omega)]; exact c6 p j y1 y2 y3
      · rw [j41 j hj, rowv_1, up42]
      · rw [jJ 244 j (by decide) (by omega), rowv_c (by decide), up_c (by decide)]
      · rw [jJ 245 j (by decide) (by omega), rowv_c (by decide), up_c (by decide)]
      · rw [jJ 246 j (by decide) (by omega), rowv_c (by decide), up_c (by decide)]
      · rw [jJ 240 6 (by decide) (by omega), rowv_c (by decide), up_j (by decide)]
      · rw [jJ 240 7 (by decide) (by omega), rowv_c (by decide), up_j (by decide)]
      · rw [jJ 240 8 (by decide) (by omega), rowv_c (by decide), up_j (by decide)]
    · obtain ⟨_, b4⟩ := g2
      refine ⟨?_, fun i hi => ?_⟩
      · rw [j41 2 (by decide), up_c (by decide), up_s]
        rw [up42] at q2 q3 q4
        omega
      · have b := b4 i hi
        rw [up_c (by decide), up_c (by decide), up_c (by decide), up_c (by decide)] at b
        rw [kK _ i (by omega) (by omega) (by omega), kK _ i (by omega) (by omega) (by omega), kK _ i (by omega) (by omega) (by omega), kK _ i (by omega) (by omega) (by omega), jJ 247 _ (by decide) (by omega), jJ 247 _ (by decide) (by omega), jJ 247 _ (by decide) (by omega), jJ 247 _ (by decide) (by omega)]
        exact b
    · unfold RPast2
      have y2 : up (up K1 15 4 (I 199 ((o + s) % 6))) 119 3 (s : Int) 119 2 = (o : Int) := by rw [up_j (by decide), up_c (by decide), c2 119 2 (by omega), ho]
      have y3 : zbk s 110 (up (up J 240 0 0) 240 3 (s : Int)) 240 3 = (s : Int) := (if_neg fun e => absurd e.1 (by decide)).trans up_s
      rw [y2, y3, up_s]
      simp only [Int.toNat_natCast]
      refine ⟨⟨p1, p2⟩, ⟨trivial, by omega, by omega⟩, fun k hk2 => ?_⟩
      have hm : (o + k) % 6 < 6 := Nat.mod_lt _ (by decide)
      obtain ⟨t1, t2⟩ := p6 k (by omega)
      refine ⟨RFirm_pt (fun j _ => kK _ j (by omega) (by omega) (by omega)) (fun p j _ _ _ => kK _ j (by omega) (by omega) (by omega)) (fun p j _ _ _ => kK _ j (by omega) (by omega) (by omega)) (fun p j _ _ _ => kK _ j (by omega) (by omega) (by omega)) (fun j hj => ?_) (fun j => ?_) (fun j => ?_) (fun j => ?_) ?_ ?_ ?_ t1, ?_⟩
      · rw [rowv_1, rowv_1, jJ 242 _ (by decide) (by omega), up42]
      · rw [rowv_c (by decide), rowv_c (by decide), jJ 244 j (by decide) (by omega), up_c (by decide)]
      · rw [rowv_c (by decide), rowv_c (by decide), jJ 245 j (by decide) (by omega), up_c (by decide)]
      · rw [rowv_c (by decide), rowv_c (by decide), jJ 246 j (by decide) (by omega), up_c (by decide)]
      · rw [rowv_c (by decide), rowv_c (by decide), jJ 240 6 (by decide) (by omega), up_j (by decide)]
      · rw [rowv_c (by decide), rowv_c (by decide), jJ 240 7 (by decide) (by omega), up_j (by decide)]
      · rw [rowv_c (by decide), rowv_c (by decide), jJ 240 8 (by decide) (by omega), up_j (by decide)]
      · rw [kK 199 _ (by omega) (by omega) (by omega), jJ 242 _ (by decide) (by omega)]
        rw [up42] at t2
        exact t2
    · have y := zuC_f y1
      exact kK c j (by omega) (by omega) (by omega)
    · rw [kF 2 3 (by decide) (by decide), kF 2 4 (by decide) (by decide), kF 2 5 (by decide) (by decide), c3 3 (by decide), c3 4 (by decide), c3 5 (by decide), ← n6, ← n7, ← n8]
      exact ⟨g1.1.1, g1.2.1.1, g1.2.2.1.1⟩
  · rw [e_49n hs, Option.bind_some] at E1; (try dsimp only at E1); rw [if_pos (Or.inl rfl)] at E1
    rw [if_pos (by omega)] at E2
    exact ⟨0, I, _, E1, E2, fun _ _ _ => rfl, fun k j hk => up_c (by omega), Rl_hIv h hJ ⟨g1, g2, ⟨⟨p1, p2⟩, ⟨p3, p4, p5⟩, p6⟩, g4, g5, g6⟩⟩
