/-! the model's words -/
def wmk (i : Nat) : Bool := decide ((wmp.getD i (0, 0)).2 = (wmp.getD i (0, 0)).1 + 1 + (wml.getD i []).length) && (((List.range (wml.getD i []).length).all fun j => decide (zwd.getD ((wmp.getD i (0, 0)).1 + 1 + j) 0 = (wml.getD i []).getD j 0) && decide (¬ zwd.getD ((wmp.getD i (0, 0)).1 + 1 + j) 0 = 32)) && (decide ((wmp.getD (i + 1) (0, 0)).1 = (wmp.getD i (0, 0)).2) && (decide ((wmp.getD i (0, 0)).2 ≤ 137) && decide (zwd.getD (wmp.getD i (0, 0)).2 0 = 32))))
theorem wmk_all : ((List.range 27).all wmk) = true := by decide +kernel
theorem s_193w {d p q i : Nat} {I : zI} (hi : i < 27) (hq : p ≤ q) (hq2 : q ≤ 400) (hz : ∀ j : Nat, j < 138 → I 249 j = zwd.getD j 0) (hl : ∀ j, p ≤ j → j < q → ¬ I 248 j = 32) :
    zD (d + 1) 193 4 [some (.inr (some 240)), some (.inl (p : Int)), some (.inl (q : Int)), some (.inl ((i : Int) - 1)), some (.inl ((wmp.getD i (0, 0)).1 : Int))] [] I =
      if eqw (I 248) p (q - p) (wml.getD i []) = true then some ((i : Int), I) else zD (d + 1) 193 4 [some (.inr (some 240)), some (.inl (p : Int)), some (.inl (q : Int)), some (.inl (((i + 1 : Nat) : Int) - 1)), some (.inl ((wmp.getD (i + 1) (0, 0)).1 : Int))] [] I := by
  have ck := List.all_eq_true.mp wmk_all i (List.mem_range.mpr hi)
  unfold wmk at ck
  simp only [Bool.and_eq_true, decide_eq_true_eq] at ck
  obtain ⟨c1, c2, c3, c4, c5⟩ := ck
  generalize wml.getD i [] = w at *
  generalize (wmp.getD (i + 1) (0, 0)).1 = s2 at *
  generalize (wmp.getD i (0, 0)).2 = e at *
  generalize (wmp.getD i (0, 0)).1 = s at *
  have c3 := c3.symm
  subst c3
  have c2' : ∀ j, j < w.length → zwd.getD (s + 1 + j) 0 = w.getD j 0 ∧ ¬ zwd.getD (s + 1 + j) 0 = 32 := fun j hj => by
    have := List.all_eq_true.mp c2 j (List.mem_range.mpr hj)
    simpa only [Bool.and_eq_true, decide_eq_true_eq] using this
  -- the way to the next space
  have away : zD (d + 1) 193 59 [some (.inr (some 240)), some (.inl (p : Int)), some (.inl (q : Int)), some (.inl (i : Int)), some (.inl ((s : Int) + 1))] [] I = zD (d + 1) 193 4 [some (.inr (some 240)), some (.inl (p : Int)), some (.inl (q : Int)), some (.inl (i : Int)), some (.inl (e : Int))] [] I := by
    have z := zloop (n := w.length) (P := fun j => zD (d + 1) 193 59 [some (.inr (some 240)), some (.inl (p : Int)), some (.inl (q : Int)), some (.inl (i : Int)), some (.inl ((s + 1 + j : Nat) : Int))] [] I) (R := zD (d + 1) 193 4 [some (.inr (some 240)), some (.inl (p : Int)), some (.inl (q : Int)), some (.inl (i : Int)), some (.inl (e : Int))] [] I) (fun j hj => ?_) ?_
    · exact z
    · show zD _ _ _ _ _ _ = zD _ _ _ _ _ _
      rw [e_193_59, if_pos (by omega), Int.toNat_natCast, hz _ (by omega), if_neg (c2' j hj).2, wr_id (by omega) (by omega)]
      rfl
    · show zD _ _ _ _ _ _ = zD _ _ _ _ _ _
      rw [show s + 1 + w.length = e by omega, e_193_59, if_pos (by omega), Int.toNat_natCast, hz _ (by omega), if_pos c5]
  have walk : ∀ (r j : Nat), j + r = q - p → j ≤ w.length → (∀ t, t < j → I 248 (p + t) = w.getD t 0) →
      zD (d + 1) 193 13 [some (.inr (some 240)), some (.inl (p : Int)), some (.inl (q : Int)), some (.inl (i : Int)), some (.inl (s : Int)), some (.inl (j : Int))] [] I =
        if eqw (I 248) p (q - p) w = true then some ((i : Int), I) else zD (d + 1) 193 4 [some (.inr (some 240)), some (.inl (p : Int)), some (.inl (q : Int)), some (.inl (i : Int)), some (.inl (e : Int))] [] I := by
    intro r
    induction r with
    | zero =>
      intro j hj hjw hm
      have e1 : ((s : Int) + 1 + (j : Int)).toNat = s + 1 + j := by omega
      rw [e_193_13, wr_id (z := (p : Int) + j) (by omega) (by omega), if_neg (by omega), e_193_38, wr_id (z := (p : Int) + j) (by omega) (by omega), if_pos (by omega), wr_id (z := (s : Int) + 1) (by omega) (by omega), wr_id (z := (s : Int) + 1 + j) (by omega) (by omega), if_pos (by omega), e1, hz _ (by omega)]
      by_cases hw : j = w.length
      · have he : s + 1 + j = e := by omega
        rw [he, if_pos c5, if_pos]
        unfold eqw
        rw [decide_eq_true (show q - p = w.length by omega), Bool.true_and, List.all_eq_true]
        exact fun t ht => decide_eq_true (hm t (by have := List.mem_range.mp ht; omega))
      · rw [if_neg (c2' j (by omega)).2, if_neg, away]
        unfold eqw
        rw [decide_eq_false (show ¬ q - p = w.length by omega), Bool.false_and]
        exact Bool.false_ne_true
    | succ r ih =>
      intro j hj hjw hm
      have e1 : ((s : Int) + 1 + (j : Int)).toNat = s + 1 + j := by omega
      have e2 : ((p : Int) + (j : Int)).toNat = p + j := by omega
      rw [e_193_13, wr_id (z := (p : Int) + j) (by omega) (by omega), if_pos (by omega), wr_id (z := (s : Int) + 1) (by omega) (by omega), wr_id (z := (s : Int) + 1 + j) (by omega) (by omega), if_pos (by omega), if_pos (by omega), e1, e2, hz _ (by omega)]
      by_cases hT : zwd.getD (s + 1 + j) 0 = I 248 (p + j)
      · have hjl : j < w.length := by
          rcases Nat.lt_or_ge j w.length with h | h
          · exact h
          · exfalso
            rw [show s + 1 + j = e by omega, c5] at hT
            exact hl (p + j) (by omega) (by omega) hT.symm
        rw [if_pos hT, wr_id (by omega) (by omega)]
        exact ih (j + 1) (by omega) hjl (fun t ht => by
          by_cases htj : t = j
          · rw [htj, ← hT, (c2' j hjl).1]
          · exact hm t (by omega))
      · rw [if_neg hT, e_193_38, wr_id (z := (p : Int) + j) (by omega) (by omega), if_neg (by omega), wr_id (z := (s : Int) + 1) (by omega) (by omega), away, if_neg]
        unfold eqw
        intro hE
        simp only [Bool.and_eq_true, decide_eq_true_eq] at hE
        have := of_decide_eq_true (List.all_eq_true.mp hE.2 j (List.mem_range.mpr (by omega)))
        exact hT ((c2' j (by omega)).1.trans this.symm)
  rw [e_193_4, if_pos (by omega), wr_id (by omega) (by omega), show (i : Int) - 1 + 1 = (i : Int) by omega, show ((i + 1 : Nat) : Int) - 1 = (i : Int) by omega]
  exact walk (q - p) 0 (by omega) (Nat.zero_le _) (fun t ht => by omega)
theorem s_193l {d p q : Nat} {I : zI} (hq : p ≤ q) (hq2 : q ≤ 400) (hz : ∀ j : Nat, j < 138 → I 249 j = zwd.getD j 0) (hl : ∀ j, p ≤ j → j < q → ¬ I 248 j = 32) : ∀ (r i : Nat), i + r = 27 →
    zD (d + 1) 193 4 [some (.inr (some 240)), some (.inl (p : Int)), some (.inl (q : Int)), some (.inl ((i : Int) - 1)), some (.inl ((wmp.getD i (0, 0)).1 : Int))] [] I = some (wfi (eqw (I 248) p (q - p)) (wml.drop i) (i : Int), I) := by
  intro r
  induction r with
  | zero =>
    intro i hi
    have hi : i = 27 := by omega
    subst hi
    rw [show ((wmp.getD 27 (0, 0)).1 : Int) = 137 from rfl, e_193_4, if_neg (by omega)]
    rfl
  | succ r ih =>
    intro i hi
    have hln : i < wml.length := by show i < 27; omega
    have hd : wml.drop i = wml.getD i [] :: wml.drop (i + 1) := by
      rw [List.drop_eq_getElem_cons hln, List.getD_eq_getElem?_getD, List.getElem?_eq_getElem hln]
      rfl
    rw [s_193w (by omega) hq hq2 hz hl, hd, wfi]
    by_cases h : eqw (I 248) p (q - p) (wml.getD i []) = true
    · rw [if_pos h, if_pos h]
    · rw [if_neg h, if_neg h, ih (i + 1) (by omega)]
      rfl
theorem s_193 {d p q : Nat} {I : zI} (hq : p ≤ q) (hq2 : q ≤ 400) (hz : ∀ j : Nat, j < 138 → I 249 j = zwd.getD j 0) (hl : ∀ j, p ≤ j → j < q → ¬ I 248 j = 32) : cl (d + 1) 193 [.inr (some 240), .inl (p : Int), .inl (q : Int)] I = some (wfi (eqw (I 248) p (q - p)) wml 0, I) := by
  rw [e_193]
  exact s_193l hq hq2 hz hl 27 0 rfl
/-! the class's word and the model's -/
theorem isB_t {c : Int} (h : isB c = true) : c = 32 ∨ c = 10 := by
  unfold isB at h
  rw [Bool.or_eq_true, decide_eq_true_eq, decide_eq_true_eq] at h
  exact h
theorem isB_i {c : Int} (h : c = 32 ∨ c = 10) : isB c = true := by
  unfold isB
  rw [Bool.or_eq_true, decide_eq_true_eq, decide_eq_true_eq]
  exact h
theorem wfi_cg {f g : List Int → Bool} : ∀ (L : List (List Int)) (k : Int), (∀ w ∈ L, f w = g w) → wfi f L k = wfi g L k
  | [], _, _ => rfl
  | w :: r, k, h => by rw [wfi, wfi, h w List.mem_cons_self, wfi_cg r (k + 1) fun w' hw => h w' (List.mem_cons_of_mem _ hw)]
theorem wfi_rg {f : List Int → Bool} : ∀ (L : List (List Int)) (k : Int), 0 ≤ k → wfi f L k = -1 ∨ (k ≤ wfi f L k ∧ wfi f L k < k + L.length)
  | [], _, _ => Or.inl rfl
  | w :: r, k, h => by
    rw [wfi]
    by_cases hw : f w = true
    · rw [if_pos hw, List.length_cons]
      exact Or.inr ⟨Int.le_refl _, by omega⟩
    · rw [if_neg hw, List.length_cons]
      rcases wfi_rg r (k + 1) (by omega) with g | g
      · exact Or.inl g
      · exact Or.inr (by omega)
theorem wsg_nn : ∀ i, i < 27 → 0 ≤ wsg.getD i 0 := by decide
theorem wfi_no {f : List Int → Bool} : ∀ (L : List (List Int)) (k : Int), (∀ w ∈ L, ¬ f w = true) → wfi f L k = -1
  | [], _, _ => rfl
  | w :: r, k, h => by rw [wfi, if_neg (h w List.mem_cons_self), wfi_no r (k + 1) fun w' hw => h w' (List.mem_cons_of_mem _ hw)]
theorem eqw_un {T : Nat → Int} {p m : Nat} {w w' : List Int} (h : eqw T p m w = true) (h' : eqw T p m w' = true) : w = w' := by
  unfold eqw at h h'
  simp only [Bool.and_eq_true, decide_eq_true_eq] at h h'
  have hlen : w.length = w'.length := by omega
  refine List.ext_getElem hlen fun j h1 h2 => ?_
  have a := of_decide_eq_true (List.all_eq_true.mp h.2 j (List.mem_range.mpr (by omega)))
  have b := of_decide_eq_true (List.all_eq_true.mp h'.2 j (List.mem_range.mpr (by omega)))
  rw [List.getD_eq_getElem?_getD, List.getElem?_eq_getElem h1] at a
  rw [List.getD_eq_getElem?_getD, List.getElem?_eq_getElem h2] at b
  exact a.symm.trans b
theorem wsg_all : (wcl.all fun w0 => decide (wfi (fun w => decide (w = w0)) wml 0 = (if wfi (fun w => decide (w = w0)) wcl 0 = -1 then -1 else wsg.getD (wfi (fun w => decide (w = w0)) wcl 0).toNat 0))) = true := by decide +kernel
theorem wml_in : (wml.all fun w => decide (w ∈ wcl)) = true := by decide +kernel
theorem wfi_to {T : Nat → Int} {p m : Nat} : wfi (eqw T p m) wml 0 = wto T p m := by
  unfold wto
  by_cases h : ∃ w0 ∈ wcl, eqw T p m w0 = true
  · obtain ⟨w0, hw, h0⟩ := h
    have e : ∀ w, eqw T p m w = decide (w = w0) := fun w => by
      by_cases hw0 : w = w0
      · rw [hw0, h0, decide_eq_true rfl]
      · rw [decide_eq_false hw0]
        exact Bool.eq_false_iff.mpr fun hx => hw0 (eqw_un hx h0)
    rw [wfi_cg wml 0 fun w _ => e w, wfi_cg wcl 0 fun w _ => e w]
    exact of_decide_eq_true (List.all_eq_true.mp wsg_all w0 hw)
  · have n1 : ∀ w ∈ wcl, ¬ eqw T p m w = true := fun w hw hx => h ⟨w, hw, hx⟩
    rw [wfi_no wcl 0 n1, if_pos rfl, wfi_no wml 0 fun w hw => n1 w (of_decide_eq_true (List.all_eq_true.mp wml_in w hw))]
/-! the model's next token -/
def sgn (c : Int) : Bool := ([59, 43, 45, 42, 47, 40, 41, 60, 61, 62] : List Int).contains c
def mkd (c : Int) : Int := if c = -2 then 0 else if c = -1 then 1 else if c < 10000 then 3 else if c < 20000 then 2 else if sgn (c - 20000) = true then 4 else 1
def mvl (c : Int) : Int := if c < 10000 then c else if c < 20000 then wsg.getD (c - 10000).toNat 0 else c - 20000
theorem s_189 {d n p : Nat} {J : zI} (h : J 240 14 = (n : Int)) (hn : n ≤ 400) : cl (d + 1) 189 [.inr (some 240), .inl (p : Int)] J = some (if p < n then J 248 p else -1, J) := by
  rw [e_189, h]
  by_cases hp : p < n
  · rw [if_pos (by omega), if_pos (by omega), if_pos hp, Int.toNat_natCast]
  · rw [if_neg (by omega), if_neg hp]
theorem s_190 {d : Nat} {J : zI} {c : Int} : cl (d + 2) 190 [.inr (some 240), .inl c] J = some (if isL c = true then 1 else 0, J) := by
  rw [e_190]
  simp only [s_158, Option.bind_some, b01]
  unfold isL
  by_cases h1 : 97 ≤ c ∧ c ≤ 122
  · rw [if_neg (not_not_intro h1), decide_eq_true h1]; rfl
  · rw [if_pos h1, decide_eq_false h1]
    by_cases h2 : 65 ≤ c ∧ c ≤ 90
    · rw [if_neg (not_not_intro h2), decide_eq_true h2]; rfl
    · rw [if_pos h2, decide_eq_false h2]; rfl
theorem s_191 {d : Nat} {J : zI} {c : Int} : cl (d + 2) 191 [.inr (some 240), .inl c] J = some (if isD c = true then 1 else 0, J) := by
  rw [e_191]
  simp only [s_158, Option.bind_some, b01]
  unfold isD
  by_cases h1 : 48 ≤ c ∧ c ≤ 57
  · simp [h1]
  · simp [h1]
theorem s_192 {d : Nat} {J : zI} {c : Int} : cl (d + 1) 192 [.inr (some 240), .inl c] J = some (if sgn c = true then 1 else 0, J) := by
  rw [e_192]
  have e : (sgn c = true) = (c = 59 ∨ c = 43 ∨ c = 45 ∨ c = 42 ∨ c = 47 ∨ c = 40 ∨ c = 41 ∨ c = 60 ∨ c = 61 ∨ c = 62) := by
    unfold sgn
    simp
  simp only [e]
  (repeat' split) <;> first | rfl | (exfalso; omega)
theorem s_194e {d : Nat} {J : zI} : cl (d + 1) 194 [.inr (some 240)] J = zD (d + 1) 194 0 [some (.inr (some 240))] [] J := by
  rw [e_194, e_194_0]
theorem s_194b {d n p : Nat} {J : zI} (h : J 240 14 = (n : Int)) (hn : n ≤ 400) (h15 : J 240 15 = (p : Int)) (hp : p ≤ n) :
    zD (d + 2) 194 0 [some (.inr (some 240))] [] J = zD (d + 2) 194 0 [some (.inr (some 240))] [] (up J 240 15 ((rend isB (J 248) n p : Nat) : Int)) := by
  have b1 : p ≤ rend isB (J 248) n p := (trn_le _ _).1
  have b2 : rend isB (J 248) n p ≤ n := by have := (trn_le (q := isB) (T := J 248) (n - p) p).2; unfold rend; omega
  have bin := trn_in (q := isB) (T := J 248) (n - p) p
  rw [show trn isB (J 248) (n - p) p = rend isB (J 248) n p from rfl] at bin
  generalize rend isB (J 248) n p = s at *
  have z := zloop (n := s - p) (P := fun k => zD (d + 2) 194 0 [some (.inr (some 240))] [] (up J 240 15 ((p + k : Nat) : Int))) (R := zD (d + 2) 194 0 [some (.inr (some 240))] [] (up J 240 15 ((s : Nat) : Int))) (fun k hk => ?_) ?_
  · have e0 : up J 240 15 ((p + 0 : Nat) : Int) = J := up_id h15
    rwa [e0] at z
  · show zD _ _ _ _ _ _ = zD _ _ _ _ _ _
    have hb := bin (p + k) (by omega) (by omega)
    have hb := isB_t hb
    have h1 : up J 240 15 ((p + k : Nat) : Int) 240 14 = (n : Int) := (up_j (by decide)).trans h
    have h2 : up J 240 15 ((p + k : Nat) : Int) 248 = J 248 := up_r (by decide)
    have hq := s_189 (d := d) (p := p + k) h1 hn
    rw [if_pos (by omega), h2] at hq
    have ww : wr (((p + k : Nat) : Int) + 1) = ((p + (k + 1) : Nat) : Int) := by rw [wr_id (by omega) (by omega)]; rfl
    have uu : ∀ x, up (up J 240 15 ((p + k : Nat) : Int)) 240 15 x = up J 240 15 x := fun x => by
      funext a b
      unfold up
      split <;> rfl
    rw [e_194_0, up_s, hq, Option.bind_some]
    dsimp only
    rw [up_s, ww, uu]
    rcases hb with hb | hb
    · rw [if_pos hb]
    · rw [if_neg (by omega), hq, Option.bind_some]
      dsimp only
      rw [if_pos hb, up_s, ww, uu]
  · show zD _ _ _ _ _ _ = zD _ _ _ _ _ _
    rw [show p + (s - p) = s by omega]
/-! the model's runs -/
def tAg : List (Nat × Nat) := [(240, 15), (240, 16), (240, 17), (240, 18)]
theorem s_194w {d n s : Nat} {J : zI} (h14 : J 240 14 = (n : Int)) (hn : n ≤ 400) (hz : ∀ j : Nat, j < 138 → J 249 j = zwd.getD j 0) (h15 : J 240 15 = ((s + 1 : Nat) : Int)) (h16 : J 240 16 = (s : Int)) (hs : s < n) (hL : isL (J 248 s) = true) :
    ∃ J', zD (d + 4) 194 51 [some (.inr (some 240))] [] J = some (0, J') ∧ Ag [] tAg J J' ∧ J' 240 15 = ((rend isL (J 248) n s : Nat) : Int) ∧ J' 240 16 = (s : Int) ∧ J' 240 17 = (if wto (J 248) s (rend isL (J 248) n s - s) = -1 then J 240 17 else 2) ∧ J' 240 18 = wto (J 248) s (rend isL (J 248) n s - s) := by
  have b1 := rend_1 (n := n) hs hL
  have b2 : rend isL (J 248) n s ≤ n := by have := (trn_le (q := isL) (T := J 248) (n - s) s).2; unfold rend; omega
  have bin := trn_in (q := isL) (T := J 248) (n - s) s
  have bout := trn_out (q := isL) (T := J 248) (n - s) s
  rw [show trn isL (J 248) (n - s) s = rend isL (J 248) n s from rfl] at bin bout
  generalize rend isL (J 248) n s = e at *
  have hU : ∀ x : Int, up J 240 15 x 240 14 = (n : Int) ∧ up J 240 15 x 248 = J 248 ∧ up J 240 15 x 249 = J 249 ∧ up J 240 15 x 240 16 = (s : Int) ∧ up J 240 15 x 240 17 = J 240 17 := fun x => ⟨(up_j (by decide)).trans h14, up_r (by decide), up_r (by decide), (up_j (by decide)).trans h16, up_j (by decide)⟩
  have uu : ∀ x y, up (up J 240 15 x) 240 15 y = up J 240 15 y := fun x y => by
    funext a b
    unfold up
    split <;> rfl
  have lp : zD (d + 4) 194 51 [some (.inr (some 240))] [] J = zD (d + 4) 194 51 [some (.inr (some 240))] [] (up J 240 15 (e : Int)) := by
    have z := zloop (n := e - (s + 1)) (P := fun k => zD (d + 4) 194 51 [some (.inr (some 240))] [] (up J 240 15 ((s + 1 + k : Nat) : Int))) (R := zD (d + 4) 194 51 [some (.inr (some 240))] [] (up J 240 15 (e : Int))) (fun k hk => ?_) ?_
    · have e0 : up J 240 15 ((s + 1 + 0 : Nat) : Int) = J := up_id h15
      rwa [e0] at z
    · show zD _ _ _ _ _ _ = zD _ _ _ _ _ _
      obtain ⟨u1, u2, u3, u4, u5⟩ := hU ((s + 1 + k : Nat) : Int)
      have hq := s_189 (d := d + 2) (p := s + 1 + k) u1 hn
      rw [if_pos (by omega), u2] at hq
      rw [e_194_51, up_s, hq, Option.bind_some]
      dsimp only
      rw [s_190, Option.bind_some]
      dsimp only
      rw [if_pos (bin (s + 1 + k) (by omega) (by omega)), if_neg (by decide), up_s, wr_id (by omega) (by omega), uu]
      rfl
    · show zD _ _ _ _ _ _ = zD _ _ _ _ _ _
      rw [show s + 1 + (e - (s + 1)) = e by omega]
  obtain ⟨u1, u2, u3, u4, u5⟩ := hU (e : Int)
  have hq := s_189 (d := d + 2) (p := e) u1 hn
  have hw : isL (if e < n then (up J 240 15 (e : Int)) 248 e else -1) ≠ true := by
    rw [u2]
    by_cases he : e < n
    · rw [if_pos he]; exact bout (by omega)
    · rw [if_neg he]; decide
  have h193 := s_193 (d := d + 2) (p := s) (q := e) (I := up J 240 15 (e : Int)) (by omega) (by omega) (by rw [u3]; exact hz) (fun j h1 h2 => by
    rw [u2]
    exact (lb_no (Or.inl (bin j h1 h2))).1)
  rw [wfi_to, u2] at h193
  rw [lp, e_194_51, up_s, hq, Option.bind_some]
  dsimp only
  rw [s_190, Option.bind_some]
  dsimp only
  rw [if_neg hw, if_pos rfl, u4, up_s, h193, Option.bind_some]
  dsimp only
  have hA : Ag [] tAg J (up J 240 15 (e : Int)) := Ag_uf (by decide) Ag_rf
  by_cases h1 : wto (J 248) s (e - s) = -1
  · rw [if_pos h1, if_pos h1]
    exact ⟨_, rfl, Ag_uf (by decide) hA, (up_j (by decide)).trans up_s, (up_j (by decide)).trans u4, (up_j (by decide)).trans u5, up_s⟩
  · rw [if_neg h1, if_neg h1]
    exact ⟨_, rfl, Ag_uf (by decide) (Ag_uf (by decide) hA), (up_j (by decide)).trans ((up_j (by decide)).trans up_s), (up_j (by decide)).trans ((up_j (by decide)).trans u4), up_s, (up_j (by decide)).trans up_s⟩
theorem s_194d {d n s e : Nat} (hn : n ≤ 400) (hen : e ≤ n) : ∀ (r k : Nat) (J : zI), s + k + r = e → 1 ≤ k → J 240 14 = (n : Int) → J 240 15 = ((s + k : Nat) : Int) → J 240 16 = (s : Int) → (0 ≤ J 240 18 ∧ J 240 18 ≤ 99999) → (k ≤ 4 → J 240 18 = dvl (J 248) s k) → (∀ j, s ≤ j → j < e → isD (J 248 j) = true) → (e < n → ¬ isD (J 248 e) = true) →
    ∃ J', zD (d + 4) 194 90 [some (.inr (some 240))] [] J = some (0, J') ∧ Ag [] tAg J J' ∧ J' 240 15 = (e : Int) ∧ J' 240 16 = (s : Int) ∧ J' 240 17 = (if e - s ≤ 4 then 3 else J 240 17) ∧ (e - s ≤ 4 → J' 240 18 = dvl (J 248) s (e - s))
  | 0, k, J, hk, h1, h14, h15, h16, hx, hv, hin, hout => by
    have hq := s_189 (d := d + 2) (p := s + k) h14 hn
    have hw : isD (if s + k < n then J 248 (s + k) else -1) ≠ true := by
      by_cases he : s + k < n
      · rw [if_pos he, show s + k = e by omega]; exact hout (by omega)
      · rw [if_neg he]; decide
    rw [e_194_90, h15, hq, Option.bind_some]
    dsimp only
    rw [s_191, Option.bind_some]
    dsimp only
    rw [if_neg hw, if_pos rfl]
    simp only [h15, h16, wr_id (z := ((s + k : Nat) : Int) - (s : Int)) (by omega) (by omega)]
    by_cases h4 : e - s ≤ 4
    · rw [if_pos (by omega), if_pos h4]
      refine ⟨_, rfl, Ag_uf (by decide) Ag_rf, (up_j (by decide)).trans (h15.trans (by omega)), (up_j (by decide)).trans h16, up_s, fun _ => ?_⟩
      rw [up_j (by decide), hv (by omega), show e - s = k by omega]
    · rw [if_neg (by omega), if_neg h4]
      exact ⟨_, rfl, Ag_rf, h15.trans (by omega), h16, rfl, fun h => absurd h h4⟩
  | r + 1, k, J, hk, h1, h14, h15, h16, hx, hv, hin, hout => by
    have hq := s_189 (d := d + 2) (p := s + k) h14 hn
    rw [if_pos (by omega)] at hq
    have hd := hin (s + k) (by omega) (by omega)
    obtain ⟨c1, c2⟩ := isD_rg hd
    have ww : wr (((s + k : Nat) : Int) + 1) = ((s + (k + 1) : Nat) : Int) := by rw [wr_id (by omega) (by omega)]; rfl
    rw [e_194_90, h15, hq, Option.bind_some]
    dsimp only
    rw [s_191, Option.bind_some]
    dsimp only
    rw [if_pos hd, if_neg (by decide), h15, hq, Option.bind_some]
    dsimp only
    rw [h15, ww]
    clear ww
    have go : ∀ x : Int, (0 ≤ x ∧ x ≤ 99999) → (k + 1 ≤ 4 → x = dvl (J 248) s (k + 1)) → ∃ J', zD (d + 4) 194 90 [some (.inr (some 240))] [] (up (up J 240 18 x) 240 15 ((s + (k + 1) : Nat) : Int)) = some (0, J') ∧ Ag [] tAg J J' ∧ J' 240 15 = (e : Int) ∧ J' 240 16 = (s : Int) ∧ J' 240 17 = (if e - s ≤ 4 then 3 else J 240 17) ∧ (e - s ≤ 4 → J' 240 18 = dvl (J 248) s (e - s)) := fun x hx1 hx2 => by
      have u14 : up (up J 240 18 x) 240 15 ((s + (k + 1) : Nat) : Int) 240 14 = (n : Int) := (up_j (by decide)).trans ((up_j (by decide)).trans h14)
      have u16 : up (up J 240 18 x) 240 15 ((s + (k + 1) : Nat) : Int) 240 16 = (s : Int) := (up_j (by decide)).trans ((up_j (by decide)).trans h16)
      have u17 : up (up J 240 18 x) 240 15 ((s + (k + 1) : Nat) : Int) 240 17 = J 240 17 := (up_j (by decide)).trans (up_j (by decide))
      have u18 : up (up J 240 18 x) 240 15 ((s + (k + 1) : Nat) : Int) 240 18 = x := (up_j (by decide)).trans up_s
      have u48 : up (up J 240 18 x) 240 15 ((s + (k + 1) : Nat) : Int) 248 = J 248 := (up_r (by decide)).trans (up_r (by decide))
      have ih := s_194d (d := d) hn hen r (k + 1) (up (up J 240 18 x) 240 15 ((s + (k + 1) : Nat) : Int)) (by omega) (by omega) u14 up_s u16 (by rw [u18]; exact hx1)
      rw [u17, u18, u48] at ih
      obtain ⟨J', i1, i2, i3⟩ := ih hx2 hin hout
      exact ⟨J', i1, Ag_tr (Ag_uf (by decide) (Ag_uf (by decide) Ag_rf)) i2, i3⟩
    by_cases h9 : J 240 18 < 10000
    · rw [if_pos h9, wr_id (z := 10 * J 240 18) (by omega) (by omega), wr_id (z := 10 * J 240 18 + J 248 (s + k)) (by omega) (by omega), wr_id (by omega) (by omega)]
      refine go _ (by omega) fun h4 => ?_
      rw [hv (by omega), dvl]
    · rw [if_neg h9]
      refine go _ (by omega) fun h4 => ?_
      have := dvl_9 (T := J 248) (p := s) (k := k) (by omega) fun j hj => hin (s + j) (by omega) (by omega)
      rw [← hv (by omega)] at this
      omega
theorem tkc_rg {T : Nat → Int} {n p : Nat} (hp : p < n) (hr : 0 ≤ T p ∧ T p ≤ 255) : tkc T n p = -1 ∨ (0 ≤ tkc T n p ∧ tkc T n p ≤ 9999) ∨ (10000 ≤ tkc T n p ∧ tkc T n p ≤ 10026) ∨ (20000 ≤ tkc T n p ∧ tkc T n p ≤ 20255) := by
  unfold tkc
  by_cases hL : isL (T p) = true
  · rw [if_pos hL]
    unfold wcd
    split
    · exact Or.inl rfl
    · rename_i h
      have := wfi_rg (f := eqw T p (rend isL T n p - p)) wcl 0 (Int.le_refl _)
      have hl : (wcl.length : Int) = 27 := rfl
      refine Or.inr (Or.inr (Or.inl ?_))
      omega
  · rw [if_neg hL]
    by_cases hD : isD (T p) = true
    · rw [if_pos hD]
      split
      · rename_i h4
        have hin := trn_in (q := isD) (T := T) (n - p) p
        exact Or.inr (Or.inl (dvl_9 h4 fun j hj => hin (p + j) (by omega) (by
          have : rend isD T n p = trn isD T (n - p) p := rfl
          omega)))
      · exact Or.inl rfl
    · rw [if_neg hD]
      refine Or.inr (Or.inr (Or.inr ?_))
      omega
/-- the model's next token is the k-th -/
theorem s_194 {d n k : Nat} {J : zI} (h14 : J 240 14 = (n : Int)) (hn : n ≤ 400) (hz : ∀ j : Nat, j < 138 → J 249 j = zwd.getD j 0) (hr : ∀ j, j < n → 0 ≤ J 248 j ∧ J 248 j ≤ 255) (h15 : J 240 15 = (tps (J 248) n k : Int)) (hp : tps (J 248) n k ≤ n) :
    ∃ J', cl (d + 5) 194 [.inr (some 240)] J = some (0, J') ∧ Ag [] tAg J J' ∧ J' 240 15 = (tps (J 248) n (k + 1) : Int) ∧ J' 240 16 = (tst (J 248) n k : Int) ∧ J' 240 17 = mkd (ttk (J 248) n k) ∧ (1 < mkd (ttk (J 248) n k) → J' 240 18 = mvl (ttk (J 248) n k)) := by
  have tst0 : tst (J 248) n k = rend isB (J 248) n (tps (J 248) n k) := rfl
  have tps1 : tps (J 248) n (k + 1) = if rend isB (J 248) n (tps (J 248) n k) < n then tke (J 248) n (rend isB (J 248) n (tps (J 248) n k)) else n := rfl
  have ttk1 : ttk (J 248) n k = if tst (J 248) n k < n then tkc (J 248) n (tst (J 248) n k) else -2 := rfl
  rw [tst0] at ttk1
  have bl := s_194b (d := d + 3) h14 hn h15 hp
  have b2 : rend isB (J 248) n (tps (J 248) n k) ≤ n := by have := (trn_le (q := isB) (T := J 248) (n - tps (J 248) n k) (tps (J 248) n k)).2; unfold rend; omega
  have bout := trn_out (q := isB) (T := J 248) (n - tps (J 248) n k) (tps (J 248) n k)
  rw [show trn isB (J 248) (n - tps (J 248) n k) (tps (J 248) n k) = rend isB (J 248) n (tps (J 248) n k) from rfl] at bout
  rw [s_194e, bl, tps1, ttk1, tst0]
  have hsn : rend isB (J 248) n (tps (J 248) n k) < n → ¬ (J 248 (rend isB (J 248) n (tps (J 248) n k)) = 32) ∧ ¬ (J 248 (rend isB (J 248) n (tps (J 248) n k)) = 10) := fun h => by
    have := bout (by omega)
    exact ⟨fun e => this (isB_i (Or.inl e)), fun e => this (isB_i (Or.inr e))⟩
  clear bl bout tps1 ttk1 tst0
  generalize rend isB (J 248) n (tps (J 248) n k) = s at *
  -- what is asked of J' in words of J's tape
  have hA1 : Ag [] tAg J (up J 240 15 (s : Int)) := Ag_uf (by decide) Ag_rf
  generalize hJ1 : up J 240 15 (s : Int) = J1 at *
  have a14 : J1 240 14 = (n : Int) := (ag_f hA1 240 14 (by decide) (by decide)).trans h14
  have a15 : J1 240 15 = (s : Int) := by rw [← hJ1, up_s]
  have a48 : J1 248 = J 248 := ag_c hA1 248 (by decide) (by decide)
  have a49 : J1 249 = J 249 := ag_c hA1 249 (by decide) (by decide)
  clear hJ1
  have hq := s_189 (d := d + 3) (p := s) a14 hn
  rw [a48] at hq
  rw [e_194_0, a15, hq, Option.bind_some]
  dsimp only
  have x32 : ¬ (if s < n then J 248 s else -1) = 32 := by
    split
    · exact (hsn (by assumption)).1
    · decide
  have x10 : ¬ (if s < n then J 248 s else -1) = 10 := by
    split
    · exact (hsn (by assumption)).2
    · decide
  rw [if_neg x32, a15, hq, Option.bind_some]
  dsimp only
  rw [if_neg x10, a15]
  have b14 : up (up J1 240 16 (s : Int)) 240 17 1 240 14 = (n : Int) := (up_j (by decide)).trans ((up_j (by decide)).trans a14)
  have b15 : up (up J1 240 16 (s : Int)) 240 17 1 240 15 = (s : Int) := (up_j (by decide)).trans ((up_j (by decide)).trans a15)
  have b16 : up (up J1 240 16 (s : Int)) 240 17 1 240 16 = (s : Int) := (up_j (by decide)).trans up_s
  have b17 : up (up J1 240 16 (s : Int)) 240 17 1 240 17 = 1 := up_s
  have b48 : up (up J1 240 16 (s : Int)) 240 17 1 248 = J 248 := (up_r (by decide)).trans ((up_r (by decide)).trans a48)
  have b49 : up (up J1 240 16 (s : Int)) 240 17 1 249 = J 249 := (up_r (by decide)).trans ((up_r (by decide)).trans a49)
  have hA2 : Ag [] tAg J (up (up J1 240 16 (s : Int)) 240 17 1) := Ag_uf (by decide) (Ag_uf (by decide) hA1)
  generalize up (up J1 240 16 (s : Int)) 240 17 1 = J2 at *
  have hq2 := s_189 (d := d + 3) (p := s) b14 hn
  rw [b48] at hq2
  rw [hq2, Option.bind_some]
  dsimp only
  by_cases hs : s < n
  · have hrs := hr s hs
    simp only [if_pos hs]
    rw [if_neg (show ¬ J 248 s = -1 by omega), b15, wr_id (by omega) (by omega)]
    have c14 : up (up J2 240 15 ((s : Int) + 1)) 240 18 (J 248 s) 240 14 = (n : Int) := (up_j (by decide)).trans ((up_j (by decide)).trans b14)
    have c15 : up (up J2 240 15 ((s : Int) + 1)) 240 18 (J 248 s) 240 15 = ((s + 1 : Nat) : Int) := (up_j (by decide)).trans up_s
    have c16 : up (up J2 240 15 ((s : Int) + 1)) 240 18 (J 248 s) 240 16 = (s : Int) := (up_j (by decide)).trans ((up_j (by decide)).trans b16)
    have c17 : up (up J2 240 15 ((s : Int) + 1)) 240 18 (J 248 s) 240 17 = 1 := (up_j (by decide)).trans ((up_j (by decide)).trans b17)
    have c18 : up (up J2 240 15 ((s : Int) + 1)) 240 18 (J 248 s) 240 18 = J 248 s := up_s
    have c48 : up (up J2 240 15 ((s : Int) + 1)) 240 18 (J 248 s) 248 = J 248 := (up_r (by decide)).trans ((up_r (by decide)).trans b48)
    have c49 : up (up J2 240 15 ((s : Int) + 1)) 240 18 (J 248 s) 249 = J 249 := (up_r (by decide)).trans ((up_r (by decide)).trans b49)
    have hA3 : Ag [] tAg J (up (up J2 240 15 ((s : Int) + 1)) 240 18 (J 248 s)) := Ag_uf (by decide) (Ag_uf (by decide) hA2)
    generalize up (up J2 240 15 ((s : Int) + 1)) 240 18 (J 248 s) = J3 at *
    rw [s_190, Option.bind_some]
    dsimp only
    by_cases hL : isL (J 248 s) = true
    · rw [if_pos hL, if_neg (by decide)]
      obtain ⟨J', w1, w2, w3, w4, w5, w6⟩ := s_194w (d := d + 1) c14 hn (by rw [c49]; exact hz) c15 c16 hs (by rw [c48]; exact hL)
      rw [c48] at w3 w5 w6
      refine ⟨J', w1, Ag_tr hA3 w2, ?_, w4, ?_⟩
      · rw [w3]
        unfold tke
        rw [if_pos hL]
      · rw [w5, w6, c17]
        unfold tkc
        rw [if_pos hL]
        unfold wto wcd
        have hg := wfi_rg (f := eqw (J 248) s (rend isL (J 248) n s - s)) wcl 0 (Int.le_refl _)
        have hl : (wcl.length : Int) = 27 := rfl
        by_cases hw : wfi (eqw (J 248) s (rend isL (J 248) n s - s)) wcl 0 = -1
        · rw [if_pos hw, if_pos rfl, if_pos hw]
          exact ⟨rfl, fun h => absurd h (by decide)⟩
        · rw [if_neg hw, if_neg hw]
          generalize wfi (eqw (J 248) s (rend isL (J 248) n s - s)) wcl 0 = v at *
          have hk : mkd (10000 + v) = 2 := by
            unfold mkd
            rw [if_neg (by omega), if_neg (by omega), if_neg (by omega), if_pos (by omega)]
          have hm : mvl (10000 + v) = wsg.getD v.toNat 0 := by
            unfold mvl
            rw [if_neg (by omega), if_pos (by omega), show 10000 + v - 10000 = v by omega]
          rw [hk, hm, if_neg]
          · exact ⟨rfl, fun _ => rfl⟩
          · have := wsg_nn v.toNat (by omega)
            omega
    · rw [if_neg hL, if_pos rfl, s_191, Option.bind_some]
      dsimp only
      by_cases hD : isD (J 248 s) = true
      · obtain ⟨c1, c2⟩ := isD_rg hD
        rw [if_pos hD, if_neg (by decide), wr_id (by omega) (by omega)]
        have e1 := rend_1 (n := n) hs hD
        have e2 : rend isD (J 248) n s ≤ n := by have := (trn_le (q := isD) (T := J 248) (n - s) s).2; unfold rend; omega
        have bin := trn_in (q := isD) (T := J 248) (n - s) s
        have bout := trn_out (q := isD) (T := J 248) (n - s) s
        rw [show trn isD (J 248) (n - s) s = rend isD (J 248) n s from rfl] at bin bout
        have d14 : up J3 240 18 (J 248 s - 48) 240 14 = (n : Int) := (up_j (by decide)).trans c14
        have d15 : up J3 240 18 (J 248 s - 48) 240 15 = ((s + 1 : Nat) : Int) := (up_j (by decide)).trans c15
        have d16 : up J3 240 18 (J 248 s - 48) 240 16 = (s : Int) := (up_j (by decide)).trans c16
        have d17 : up J3 240 18 (J 248 s - 48) 240 17 = 1 := (up_j (by decide)).trans c17
        have d48 : up J3 240 18 (J 248 s - 48) 248 = J 248 := (up_r (by decide)).trans c48
        have hv := s_194d (d := d + 1) hn e2 (rend isD (J 248) n s - (s + 1)) 1 (up J3 240 18 (J 248 s - 48)) (by omega) (Nat.le_refl _) d14 d15 d16 (by rw [up_s]; omega)
        rw [d17, d48, up_s] at hv
        obtain ⟨J', w1, w2, w3, w4, w5, w6⟩ := hv (fun _ => by
          rw [dvl, dvl]
          show _ = 10 * 0 + J 248 (s + 0) - 48
          rw [Nat.add_zero]
          omega) (fun j h1 h2 => bin j h1 h2) (fun h => bout (by omega))
        refine ⟨J', w1, Ag_tr (Ag_uf (by decide) hA3) w2, ?_, w4, ?_⟩
        · rw [w3]
          unfold tke
          rw [if_neg hL, if_pos hD]
        · unfold tkc
          rw [if_neg hL, if_pos hD, w5]
          by_cases h4 : rend isD (J 248) n s - s ≤ 4
          · rw [if_pos h4, if_pos h4, w6 h4]
            obtain ⟨v1, v2⟩ := dvl_9 (T := J 248) (p := s) h4 fun j hj => bin (s + j) (by omega) (by omega)
            have hk : mkd (dvl (J 248) s (rend isD (J 248) n s - s)) = 3 := by
              unfold mkd
              rw [if_neg (by omega), if_neg (by omega), if_pos (by omega)]
            have hm : mvl (dvl (J 248) s (rend isD (J 248) n s - s)) = dvl (J 248) s (rend isD (J 248) n s - s) := by
              unfold mvl
              rw [if_pos (by omega)]
            rw [hk, hm]
            exact ⟨rfl, fun _ => rfl⟩
          · rw [if_neg h4, if_neg h4]
            exact ⟨rfl, fun h => absurd h (by decide)⟩
      · rw [if_neg hD, if_pos rfl, s_192, Option.bind_some]
        dsimp only
        have hk : mkd (20000 + J 248 s) = if sgn (J 248 s) = true then 4 else 1 := by
          unfold mkd
          rw [if_neg (by omega), if_neg (by omega), if_neg (by omega), if_neg (by omega), show 20000 + J 248 s - 20000 = J 248 s by omega]
        have hm : mvl (20000 + J 248 s) = J 248 s := by
          unfold mvl
          rw [if_neg (by omega), if_neg (by omega)]
          omega
        have ht : tke (J 248) n s = s + 1 := by
          unfold tke
          rw [if_neg hL, if_neg hD]
        unfold tkc
        rw [if_neg hL, if_neg hD, hk, hm, ht]
        by_cases hg : sgn (J 248 s) = true
        · rw [if_pos hg, if_neg (by decide), if_pos hg]
          exact ⟨_, rfl, Ag_uf (by decide) hA3, (up_j (by decide)).trans c15, (up_j (by decide)).trans c16, up_s, fun _ => (up_j (by decide)).trans c18⟩
        · rw [if_neg hg, if_pos rfl, if_neg hg]
          exact ⟨_, rfl, hA3, c15, c16, c17, fun h => absurd h (by decide)⟩
  · rw [if_neg hs, if_pos rfl, if_neg hs, if_neg hs]
    refine ⟨_, rfl, Ag_uf (by decide) hA2, ?_, ?_, up_s, fun h => absurd h (by decide)⟩
    · rw [up_j (by decide), b15]; omega
    · rw [up_j (by decide), b16]
