/-! THE MODEL READS: sums -/
def Fr (z : Nat → Nat → Bool) (J J' : zI) : Prop := ∀ k j, z k j = false → J' k j = J k j
theorem Fr_rf {z : Nat → Nat → Bool} {J : zI} : Fr z J J := fun _ _ _ => rfl
theorem Fr_tr {z : Nat → Nat → Bool} {J J' J2 : zI} (h : Fr z J J') (h2 : Fr z J' J2) : Fr z J J2 := fun k j a => (h2 k j a).trans (h k j a)
theorem Fr_up {z : Nat → Nat → Bool} {J J' : zI} {k j : Nat} {x : Int} (hz : z k j = true) (h : Fr z J J') : Fr z J (up J' k j x) := fun a b e => by
  have ne : ¬ (a = k ∧ b = j) := fun q => by rw [q.1, q.2, hz] at e; cases e
  unfold up
  rw [if_neg ne]
  exact h a b e
theorem Fr_mono {z z' : Nat → Nat → Bool} {J J' : zI} (h : Fr z J J') (m : ∀ k j, z k j = true → z' k j = true) : Fr z' J J' := fun k j e => h k j (by
  cases hz : z k j with
  | false => rfl
  | true => rw [m k j hz] at e; cases e)
def zs1 (k j : Nat) : Bool := (k == 240 && (j == 15 || j == 16 || j == 17 || j == 18 || j == 28)) || ((k == 255 || k == 256) && decide (800 ≤ j))
def zsB (k j : Nat) : Bool := zs1 k j || (k == 240 && (j == 29 || j == 31 || j == 32 || j == 33)) || (k == 257) || ((k == 251 || k == 252 || k == 253 || k == 254) && decide (32 ≤ j)) || (k == 258 && decide (64 ≤ j)) || ((k == 259 || k == 260) && decide (8 ≤ j)) || (k == 261 && decide (12 ≤ j))
theorem zs1_B (k j : Nat) (h : zs1 k j = true) : zsB k j = true := by
  unfold zsB
  simp only [h, Bool.true_or]
def zs2 (k j : Nat) : Bool := zs1 k j || (k == 240 && (j == 29 || j == 31)) || (k == 257)
theorem zs1_2 (k j : Nat) (h : zs1 k j = true) : zs2 k j = true := by
  unfold zs2
  simp only [h, Bool.true_or]
theorem zs2_B {J J' : zI} (h : Fr zs2 J J') : Fr zsB J J' := Fr_mono h fun k j e => by
  unfold zs2 at e
  unfold zsB
  simp only [Bool.or_eq_true, Bool.and_eq_true] at e ⊢
  rcases e with (e | ⟨e1, e | e⟩) | e
  · exact Or.inl (Or.inl (Or.inl (Or.inl (Or.inl (Or.inl e)))))
  · exact Or.inl (Or.inl (Or.inl (Or.inl (Or.inl (Or.inr ⟨e1, Or.inl (Or.inl (Or.inl e))⟩)))))
  · exact Or.inl (Or.inl (Or.inl (Or.inl (Or.inl (Or.inr ⟨e1, Or.inl (Or.inl (Or.inr e))⟩)))))
  · exact Or.inl (Or.inl (Or.inl (Or.inl (Or.inr e))))
theorem zs1_tok (i : Nat) : zs1 255 (800 + i) = true ∧ zs1 256 (800 + i) = true := by
  have : decide (800 ≤ 800 + i) = true := decide_eq_true (by omega)
  unfold zs1
  rw [this]
  exact ⟨rfl, rfl⟩
theorem Fr_tAg {J J' : zI} (h : Ag [] tAg J J') : Fr zs1 J J' := fun k j e => h k j rfl (by
  cases hc : tAg.contains (k, j) with
  | false => rfl
  | true =>
    have := List.contains_iff_mem.mp hc
    simp [tAg] at this
    rcases this with ⟨rfl, rfl⟩ | ⟨rfl, rfl⟩ | ⟨rfl, rfl⟩ | ⟨rfl, rfl⟩ <;> cases e)
/-- the model's next token, wherever it reads -/
def mTK (tk st : Nat → Int) (ps : Nat → Nat) (J0 : zI) : Prop := ∀ (d k : Nat) (J : zI), Fr zsB J0 J → J 240 15 = (ps k : Int) → ∃ J', cl (d + 5) 194 [.inr (some 240)] J = some (0, J') ∧ Ag [] tAg J J' ∧ J' 240 15 = (ps (k + 1) : Int) ∧ J' 240 16 = st k ∧ J' 240 17 = mkd (tk k) ∧ (1 < mkd (tk k) → J' 240 18 = mvl (tk k))
def tRg (c : Int) : Prop := c = -2 ∨ c = -1 ∨ (0 ≤ c ∧ c ≤ 9999) ∨ (10000 ≤ c ∧ c ≤ 10026) ∨ (20000 ≤ c ∧ c ≤ 20255)
def MK (tk st : Nat → Int) (ps : Nat → Nat) (k : Nat) (c : List Int) (J : zI) : Prop := J 240 15 = (ps (k + 1) : Int) ∧ J 240 16 = st k ∧ J 240 17 = mkd (tk k) ∧ (1 < mkd (tk k) → J 240 18 = mvl (tk k)) ∧ J 240 28 = (c.length : Int) ∧ ∀ i, i < c.length → RTok (c.getD i 0) (J 255 (800 + i)) (J 256 (800 + i))
def MS (tk st : Nat → Int) (ps : Nat → Nat) (J0 : zI) (k : Nat) (c : List Int) (J : zI) : Prop := Fr zs1 J0 J ∧ MK tk st ps k c J
def MX (J0 : zI) (g p : Int) (J : zI) : Prop := Fr zsB J0 J ∧ J 240 32 = g ∧ J 240 33 = p
def MO (tk st : Nat → Int) (ps : Nat → Nat) (J0 : zI) (o : zO) (r : tR) : Prop := match r with
  | .inl e => ∃ J', o = some (-1, J') ∧ MX J0 e.1 (st e.2) J'
  | .inr q => ∃ J', o = some (0, J') ∧ MS tk st ps J0 q.1 q.2 J'
variable {tk st : Nat → Int} {ps : Nat → Nat} {cnt : Nat} {J0 : zI}
theorem mTK_fr {J : zI} (h : mTK tk st ps J0) (a : Fr zsB J0 J) : mTK tk st ps J := fun d k J' h1 h2 => h d k J' (Fr_tr a h1) h2
theorem MS_B {k : Nat} {c : List Int} {J : zI} (s : MS tk st ps J0 k c J) : Fr zsB J0 J := Fr_mono s.1 zs1_B
theorem MO_b {o : zO} {r : tR} {K : Int × zI → zO} {f : Nat → List Int → tR} (h : MO tk st ps J0 o r) (hK : ∀ k' c' J', r = .inr (k', c') → MS tk st ps J0 k' c' J' → MO tk st ps J0 (K (0, J')) (f k' c')) : MO tk st ps J0 (o.bind fun p => if p.1 = -1 then some (-1, p.2) else K p) (tB r f) := by
  cases r with
  | inl e =>
    obtain ⟨J', h1, h2⟩ := h
    exact ⟨J', by rw [h1]; rfl, h2⟩
  | inr q =>
    obtain ⟨J', h1, h2⟩ := h
    rw [h1]
    exact hK q.1 q.2 J' rfl h2
theorem MK_tAg {k : Nat} {c : List Int} {J J' : zI} (h : Ag [] tAg J J') (s : MK tk st ps k c J) (h1 : J' 240 15 = (ps (k + 1 + 1) : Int)) (h2 : J' 240 16 = st (k + 1)) (h3 : J' 240 17 = mkd (tk (k + 1))) (h4 : 1 < mkd (tk (k + 1)) → J' 240 18 = mvl (tk (k + 1))) : MK tk st ps (k + 1) c J' := by
  obtain ⟨-, -, -, -, s5, s6⟩ := s
  refine ⟨h1, h2, h3, h4, (ag_f h 240 28 (by decide) (by decide)).trans s5, fun i hi => ?_⟩
  rw [ag_c h 255 (by decide) (by decide), ag_c h 256 (by decide) (by decide)]
  exact s6 i hi
/-- on to the next token -/
theorem m_194 {d k : Nat} {c : List Int} {J : zI} (h : mTK tk st ps J0) (s : MS tk st ps J0 k c J) : ∃ J', cl (d + 5) 194 [.inr (some 240)] J = some (0, J') ∧ MS tk st ps J0 (k + 1) c J' := by
  obtain ⟨J', e1, e2, e3, e4, e5, e6⟩ := h d (k + 1) J (MS_B s) s.2.1
  exact ⟨J', e1, Fr_tr s.1 (Fr_tAg e2), MK_tAg e2 s.2 e3 e4 e5 e6⟩
theorem m_195 {d k : Nat} {c : List Int} {J : zI} {x : Int} (s : MK tk st ps k c J) (hF : Fr zsB J0 J) : ∃ J', cl (d + 1) 195 [.inr (some 240), .inl x] J = some (-1, J') ∧ MX J0 x (st k) J' := by
  refine ⟨up (up J 240 32 x) 240 33 (J 240 16), by rw [e_195], Fr_up rfl (Fr_up rfl hF), (up_j (by decide)).trans up_s, up_s.trans s.2.1⟩
theorem MO_195 {d k : Nat} {c : List Int} {J : zI} {x : Int} (s : MS tk st ps J0 k c J) : MO tk st ps J0 ((cl (d + 1) 195 [.inr (some 240), .inl x] J).bind fun p => some (p.1, p.2)) (.inl (x, k)) := by
  obtain ⟨J', h1, h2⟩ := m_195 (d := d) (x := x) s.2 (MS_B s)
  exact ⟨J', by rw [h1]; rfl, h2⟩
theorem mkd_no {c : Int} (h : tRg c) : (mkd c = 2 ↔ 10000 ≤ c ∧ c ≤ 10026) ∧ (mkd c = 3 ↔ 0 ≤ c ∧ c ≤ 9999) ∧ (mkd c = 4 ↔ 20000 ≤ c ∧ sgn (c - 20000) = true) ∧ (mkd c = 0 ↔ c = -2) := by
  unfold mkd
  unfold tRg at h
  by_cases a1 : c = -2
  · subst a1; exact ⟨by decide, by decide, by decide, by decide⟩
  · rw [if_neg a1]
    by_cases a2 : c = -1
    · subst a2; exact ⟨by decide, by decide, by decide, by decide⟩
    · rw [if_neg a2]
      by_cases a3 : c < 10000
      · rw [if_pos a3]
        refine ⟨⟨fun h => absurd h (by decide), fun h => ?_⟩, ⟨fun _ => by omega, fun _ => rfl⟩, ⟨fun h => absurd h (by decide), fun h => ?_⟩, ⟨fun h => absurd h (by decide), fun h => ?_⟩⟩ <;> exfalso <;> omega
      · rw [if_neg a3]
        by_cases a4 : c < 20000
        · rw [if_pos a4]
          refine ⟨⟨fun _ => by omega, fun _ => rfl⟩, ⟨fun h => absurd h (by decide), fun h => ?_⟩, ⟨fun h => absurd h (by decide), fun h => ?_⟩, ⟨fun h => absurd h (by decide), fun h => ?_⟩⟩ <;> exfalso <;> omega
        · rw [if_neg a4]
          by_cases a5 : sgn (c - 20000) = true
          · rw [if_pos a5]
            refine ⟨⟨fun h => absurd h (by decide), fun h => ?_⟩, ⟨fun h => absurd h (by decide), fun h => ?_⟩, ⟨fun h => ⟨by omega, a5⟩, fun _ => rfl⟩, ⟨fun h => absurd h (by decide), fun h => ?_⟩⟩ <;> exfalso <;> omega
          · rw [if_neg a5]
            refine ⟨⟨fun h => absurd h (by decide), fun h => ?_⟩, ⟨fun h => absurd h (by decide), fun h => ?_⟩, ⟨fun h => absurd h (by decide), fun h => absurd h.2 a5⟩, ⟨fun h => absurd h (by decide), fun h => ?_⟩⟩ <;> exfalso <;> omega
theorem wsg_inj : ∀ i, i < 27 → ∀ j, j < 27 → wsg.getD i 0 = wsg.getD j 0 → i = j := by decide +kernel
theorem mvl_w {c : Int} (h0 : 10000 ≤ c) (h1 : c ≤ 10026) : mvl c = wsg.getD (c - 10000).toNat 0 := by
  unfold mvl
  rw [if_neg (by omega), if_pos (by omega)]
theorem mvl_n {c : Int} (h1 : c ≤ 9999) : mvl c = c := by
  unfold mvl
  rw [if_pos (by omega)]
theorem mvl_s {c : Int} (h1 : 20000 ≤ c) : mvl c = c - 20000 := by
  unfold mvl
  rw [if_neg (by omega), if_neg (by omega)]
/-- is the token this word? -/
theorem m_196 {d k w : Nat} {c : List Int} {J : zI} {y : Int} (hR : tRg (tk k)) (s : MK tk st ps k c J) (hw : w < 27) (hy : y = wsg.getD w 0) : cl (d + 1) 196 [.inr (some 240), .inl y] J = some (if tk k = 10000 + (w : Int) then 1 else 0, J) := by
  obtain ⟨-, -, s3, s4, -, -⟩ := s
  obtain ⟨k2, -, -, -⟩ := mkd_no hR
  rw [e_196, s3]
  by_cases a : mkd (tk k) = 2
  · have hr := k2.mp a
    rw [if_pos a, s4 (by omega), mvl_w hr.1 hr.2, hy]
    by_cases b : tk k = 10000 + (w : Int)
    · rw [if_pos b, if_pos]
      rw [b, show (10000 + (w : Int) - 10000).toNat = w by omega]
    · rw [if_neg b, if_neg]
      intro e
      have := wsg_inj _ (by omega) w hw e
      omega
  · rw [if_neg a, if_neg]
    intro b
    exact a (k2.mpr (by omega))
theorem m_197 {d k : Nat} {c : List Int} {J : zI} {y : Int} (hR : tRg (tk k)) (s : MK tk st ps k c J) (hy : sgn y = true) (hy0 : 0 ≤ y) : cl (d + 1) 197 [.inr (some 240), .inl y] J = some (if tk k = 20000 + y then 1 else 0, J) := by
  obtain ⟨-, -, s3, s4, -, -⟩ := s
  obtain ⟨-, -, k4, -⟩ := mkd_no hR
  rw [e_197, s3]
  by_cases a : mkd (tk k) = 4
  · have hr := k4.mp a
    rw [if_pos a, s4 (by omega), mvl_s hr.1]
    by_cases b : tk k = 20000 + y
    · rw [if_pos b, if_pos (by omega)]
    · rw [if_neg b, if_neg (by omega)]
  · rw [if_neg a, if_neg]
    intro b
    refine a (k4.mpr ⟨by omega, ?_⟩)
    rw [b, show 20000 + y - 20000 = y by omega]
    exact hy
theorem MK_emit {k : Nat} {c : List Int} {J : zI} {x o g : Int} (s : MK tk st ps k c J) (hr : RTok x o g) : MK tk st ps k (c ++ [x]) (up (up (up J 255 (800 + c.length) o) 256 (800 + c.length) g) 240 28 ((c.length : Int) + 1)) := by
  obtain ⟨s1, s2, s3, s4, s5, s6⟩ := s
  have hu : ∀ j, ¬ j = 28 → up (up (up J 255 (800 + c.length) o) 256 (800 + c.length) g) 240 28 ((c.length : Int) + 1) 240 j = J 240 j := fun j hj => (up_j hj).trans ((up_c (by decide)).trans (up_c (by decide)))
  refine ⟨(hu _ (by decide)).trans s1, (hu _ (by decide)).trans s2, (hu _ (by decide)).trans s3, fun h => (hu _ (by decide)).trans (s4 h), ?_, fun i hi => ?_⟩
  · rw [up_s, List.length_append, List.length_singleton]; rfl
  · rw [List.length_append, List.length_singleton] at hi
    rw [up_c (by decide), up_c (by decide), up_c (a := 256) (k := 240) (by decide)]
    by_cases hic : i < c.length
    · rw [up_j (by omega), up_j (by omega), up_c (by decide), getD_l hic]
      exact s6 i hic
    · rw [show i = c.length by omega, up_s, up_s, getD_r]
      exact hr
theorem m_198e {d k : Nat} {c : List Int} {J : zI} {o g : Int} (s : MK tk st ps k c J) (hc : c.length < 400) : cl (d + 1) 198 [.inr (some 240), .inl o, .inl g] J = some (0, up (up (up J 255 (800 + c.length) o) 256 (800 + c.length) g) 240 28 ((c.length : Int) + 1)) := by
  have e1 : (800 + (c.length : Int)).toNat = 800 + c.length := by omega
  rw [e_198, s.2.2.2.2.1, wr_id (z := 800 + (c.length : Int)) (by omega) (by omega), if_pos (by omega), if_pos (by omega), e1, wr_id (by omega) (by omega)]
theorem m_198 {d k : Nat} {c : List Int} {J : zI} {x o g : Int} (s : MS tk st ps J0 k c J) (hc : c.length < 400) (hr : RTok x o g) : ∃ J', cl (d + 1) 198 [.inr (some 240), .inl o, .inl g] J = some (0, J') ∧ MS tk st ps J0 k (c ++ [x]) J' :=
  ⟨_, m_198e s.2 hc, Fr_up rfl (Fr_up (zs1_tok _).2 (Fr_up (zs1_tok _).1 s.1)), MK_emit s.2 hr⟩
theorem wsg_f : ∀ i, i < 27 → (i ≤ 10 → wsg.getD i 0 = (i : Int) + 7) ∧ (11 ≤ i → ¬ (7 ≤ wsg.getD i 0 ∧ wsg.getD i 0 ≤ 17)) := by decide +kernel
theorem m_200 {d k : Nat} {c : List Int} {J : zI} (h : mTK tk st ps J0) (hR : tRg (tk k)) (s : MS tk st ps J0 k c J) (hc : c.length < 400) : MO tk st ps J0 (cl (d + 6) 200 [.inr (some 240)] J) (tun tk k c) := by
  obtain ⟨k2, k3, k4, k0⟩ := mkd_no hR
  have s3 := s.2.2.2.1
  have s4 := s.2.2.2.2.1
  have fl : ¬ (0 ≤ tk k ∧ tk k ≤ 9999) → ¬ (0 ≤ tk k ∧ tk k ≤ 10010) → MO tk st ps J0 (zD (d + 6) 200 11 [some (.inr (some 240))] [] J) (tun tk k c) := fun a b => by
    unfold tun
    rw [if_neg b, e_200_11, s3, if_neg (fun e => a (k3.mp e))]
    exact MO_195 s
  rw [e_200, s3]
  by_cases a : mkd (tk k) = 2
  · have hr := k2.mp a
    obtain ⟨w1, w2⟩ := wsg_f (tk k - 10000).toNat (by omega)
    rw [if_pos a, s4 (by omega), mvl_w hr.1 hr.2, e_199, s_158, Option.bind_some]
    dsimp only
    by_cases b : tk k ≤ 10010
    · have w3 := w1 (by omega)
      rw [w3, if_pos (show 7 ≤ ((tk k - 10000).toNat : Int) + 7 ∧ ((tk k - 10000).toNat : Int) + 7 ≤ 17 by omega), if_pos (Or.inr rfl), Option.bind_some]
      dsimp only
      rw [if_neg (by decide), e_200_23, if_neg (by decide), if_neg (by decide), s4 (by omega), mvl_w hr.1 hr.2, w3, wr_id (by omega) (by omega)]
      obtain ⟨J1, q1, q2⟩ := m_198 (d := d + 4) (x := tk k) (o := 1) (g := ((tk k - 10000).toNat : Int) + 7 - 7) s hc (Or.inr (Or.inl ⟨rfl, by omega, by omega, by omega⟩))
      obtain ⟨J2, q3, q4⟩ := m_194 (d := d) h q2
      rw [q1, Option.bind_some]
      dsimp only
      rw [q3, Option.bind_some]
      unfold tun
      rw [if_pos (by omega)]
      exact ⟨J2, rfl, q4⟩
    · have w3 := w2 (by omega)
      rw [if_neg w3, if_pos (Or.inl rfl), Option.bind_some]
      dsimp only
      rw [if_pos rfl]
      exact fl (by omega) (by omega)
  · rw [if_neg a]
    by_cases b : mkd (tk k) = 3
    · have hr := k3.mp b
      rw [e_200_11, s3, if_pos b, e_200_23, if_pos rfl, if_pos rfl, s4 (by omega), mvl_n hr.2]
      obtain ⟨J1, q1, q2⟩ := m_198 (d := d + 4) (x := tk k) (o := 0) (g := tk k) s hc (Or.inl ⟨rfl, rfl, by omega, by omega⟩)
      obtain ⟨J2, q3, q4⟩ := m_194 (d := d) h q2
      rw [q1, Option.bind_some]
      dsimp only
      rw [q3, Option.bind_some]
      unfold tun
      rw [if_pos (by omega)]
      exact ⟨J2, rfl, q4⟩
    · have n1 : ¬ (0 ≤ tk k ∧ tk k ≤ 9999) := fun e => b (k3.mpr e)
      have n2 : ¬ (10000 ≤ tk k ∧ tk k ≤ 10026) := fun e => a (k2.mpr e)
      exact fl n1 (by omega)
/-- a pending sign -/
noncomputable def mE (d : Nat) (x : Int) (J : zI) (K : zI → zO) : zO := if x = -1 then K J else (cl (d + 7) 198 [.inr (some 240), .inl (if x = 20043 then 2 else 3), .inl 0] J).bind fun q => K q.2
noncomputable def mY (d : Nat) (x : Int) (o : zO) : zO := o.bind fun p => if p.1 = -1 then some (-1, p.2) else mE d x p.2 fun J => zD (d + 8) 202 6 [some (.inr (some 240))] [] J
theorem mE_ok {d k : Nat} {c : List Int} {J : zI} {x : Int} (s : MS tk st ps J0 k c J) (hx : x = -1 ∨ x = 20043 ∨ x = 20045) (hc : c.length + (tpd x).length ≤ 400) : ∃ J', (∀ K, mE d x J K = K J') ∧ MS tk st ps J0 k (c ++ tpd x) J' := by
  unfold mE tpd at *
  by_cases a : x = -1
  · simp only [if_pos a, List.append_nil]
    exact ⟨J, fun _ => rfl, s⟩
  · simp only [if_neg a] at hc ⊢
    rw [List.length_singleton] at hc
    have hr : RTok x (if x = 20043 then 2 else 3) 0 := by
      rcases hx with rfl | rfl | rfl
      · exact absurd rfl a
      · exact Or.inr (Or.inr (Or.inl ⟨rfl, rfl⟩))
      · exact Or.inr (Or.inr (Or.inr (Or.inl ⟨rfl, rfl⟩)))
    obtain ⟨J', q1, q2⟩ := m_198 (d := d + 6) s (by omega) hr
    exact ⟨J', fun K => by rw [q1]; rfl, q2⟩
theorem mY_b {d : Nat} {x : Int} {o : zO} {r : tR} {K : Int × zI → zO} {f : Nat → List Int → tR} (h : MO tk st ps J0 o r) (hK : ∀ k' c' J', r = .inr (k', c') → MS tk st ps J0 k' c' J' → MO tk st ps J0 (mY d x (K (0, J'))) (f k' c')) : MO tk st ps J0 (mY d x (o.bind fun p => if p.1 = -1 then some (-1, p.2) else K p)) (tB r f) := by
  cases r with
  | inl e =>
    obtain ⟨J', h1, h2⟩ := h
    exact ⟨J', by rw [h1]; rfl, h2⟩
  | inr q =>
    obtain ⟨J', h1, h2⟩ := h
    rw [h1]
    exact hK q.1 q.2 J' rfl h2
theorem m_202n {d k : Nat} {c : List Int} {J : zI} (hR : tRg (tk k)) (s : MS tk st ps J0 k c J) (n1 : ¬ tk k = 20043) (n2 : ¬ tk k = 20045) : zD (d + 8) 202 6 [some (.inr (some 240))] [] J = some (0, J) := by
  rw [e_202_6, m_197 hR s.2 rfl (by decide), if_neg (by omega), Option.bind_some]
  dsimp only
  rw [if_pos rfl, m_197 hR s.2 rfl (by decide), if_neg (by omega), Option.bind_some]
  rfl
theorem m_201n {d k : Nat} {c : List Int} {J : zI} (hR : tRg (tk k)) (s : MS tk st ps J0 k c J) (n1 : ¬ tk k = 20042) (n2 : ¬ tk k = 20047) : zD (d + 7) 201 6 [some (.inr (some 240))] [] J = some (0, J) := by
  rw [e_201_6, m_197 hR s.2 rfl (by decide), if_neg (by omega), Option.bind_some]
  dsimp only
  rw [if_pos rfl, m_197 hR s.2 rfl (by decide), if_neg (by omega), Option.bind_some]
  rfl
theorem mY_0 {d : Nat} {x : Int} {J : zI} : mY d x (some (0, J)) = mE d x J fun J => zD (d + 8) 202 6 [some (.inr (some 240))] [] J := rfl
theorem m_202l {d : Nat} (h : mTK tk st ps J0) (hR : ∀ k, tRg (tk k)) (h4 : cnt ≤ 400) (h5 : ∀ j, cnt ≤ j → tk j = -2) : ∀ (f : Nat) (x : Int) (k : Nat) (c : List Int) (J : zI), (x = -1 ∨ x = 20043 ∨ x = 20045) → MS tk st ps J0 k c J → c.length + (tpd x).length ≤ k → k ≤ cnt → cnt ≤ k + f →
    MO tk st ps J0 (mY d x (zD (d + 7) 201 6 [some (.inr (some 240))] [] J)) (tsl tk f x k c) := fun f => by
  have stop : ∀ (x : Int) (k : Nat) (c : List Int) (J : zI), (x = -1 ∨ x = 20043 ∨ x = 20045) → MS tk st ps J0 k c J → c.length + (tpd x).length ≤ k → k ≤ cnt → ¬ (tk k = 20043 ∨ tk k = 20045) → ¬ tk k = 20042 → ¬ tk k = 20047 → MO tk st ps J0 (mY d x (zD (d + 7) 201 6 [some (.inr (some 240))] [] J)) (.inr (k, c ++ tpd x)) := fun x k c J hx s hc hk n1 n2 n3 => by
    rw [m_201n (hR k) s n2 n3, mY_0]
    obtain ⟨J', q1, q2⟩ := mE_ok (d := d) s hx (by omega)
    rw [q1, m_202n (hR k) q2 (by omega) (by omega)]
    exact ⟨J', rfl, q2⟩
  have hin : ∀ k, ¬ tk k = -2 → k < cnt := fun k hk => by
    rcases Nat.lt_or_ge k cnt with g | g
    · exact g
    · exact absurd (h5 k g) hk
  induction f with
  | zero =>
    intro x k c J hx s hc hk hf
    have := h5 k (by omega)
    exact stop x k c J hx s hc hk (by omega) (by omega) (by omega)
  | succ f ih =>
    intro x k c J hx s hc hk hf
    rw [tsl]
    by_cases a1 : tk k = 20043 ∨ tk k = 20045
    · have hk1 := hin k (by omega)
      rw [if_pos a1, m_201n (hR k) s (by omega) (by omega), mY_0]
      obtain ⟨J1, q1, q2⟩ := mE_ok (d := d) s hx (by omega)
      rw [q1]
      obtain ⟨J2, q3, q4⟩ := m_194 (d := d + 2) h q2
      have go : zD (d + 8) 202 6 [some (.inr (some 240))] [] J1 = mY d (tk k) (cl (d + 7) 201 [.inr (some 240)] J2) := by
        have v : J1 240 18 = tk k - 20000 := by
          have hg : mkd (tk k) = 4 := (mkd_no (hR k)).2.2.1.mpr ⟨by omega, by rcases a1 with a | a <;> rw [a] <;> rfl⟩
          rw [q2.2.2.2.2.1 (by omega), mvl_s (by omega)]
        have E14 : zD (d + 8) 202 14 [some (.inr (some 240))] [] J1 = mY d (tk k) (cl (d + 7) 201 [.inr (some 240)] J2) := by
          rw [e_202_14, v]
          rcases a1 with a | a
          · rw [if_pos (by omega), q3, Option.bind_some, a]
            rfl
          · rw [if_neg (by omega), q3, Option.bind_some, a]
            rfl
        rw [e_202_6, m_197 (hR k) q2.2 rfl (by decide), Option.bind_some]
        dsimp only
        rcases a1 with a | a
        · rw [if_pos (show tk k = 20000 + 43 from a), if_neg (by decide), E14]
        · rw [if_neg (show ¬ tk k = 20000 + 43 by omega), if_pos rfl, m_197 (hR k) q2.2 rfl (by decide), Option.bind_some]
          dsimp only
          rw [if_pos (show tk k = 20000 + 45 from a), if_neg (by decide), E14]
      rw [go, e_201]
      have hl : (c ++ tpd x).length = c.length + (tpd x).length := List.length_append
      refine mY_b (m_200 (d := d) h (hR (k + 1)) q4 (by omega)) fun k' c' J' hr s' => ?_
      obtain ⟨l1, l2⟩ := tun_l h5 hr
      have hd : (tpd (tk k)).length = 1 := by unfold tpd; rw [if_neg (by omega)]; rfl
      have hk' : k + 2 ≤ k' := by
        unfold tun at hr
        split at hr
        · cases hr; omega
        · cases hr
      exact ih (tk k) k' c' J' (by omega) s' (by omega) l1 (by omega)
    · rw [if_neg a1]
      have mul : ∀ (y z : Int) (r : tR) (J1 : zI), (y = 20042 ∧ z = 4 ∨ y = 20047 ∧ z = 5) → MO tk st ps J0 (cl (d + 6) 200 [.inr (some 240)] J1) r → (∀ k' c', r = .inr (k', c') → k + 2 ≤ k' ∧ k' ≤ cnt ∧ c'.length + (k + 1) ≤ c.length + k') → MO tk st ps J0 (mY d x ((cl (d + 6) 200 [.inr (some 240)] J1).bind fun p => if p.1 = -1 then some (-1, p.2) else (cl (d + 6) 198 [.inr (some 240), .inl z, .inl 0] p.2).bind fun p => zD (d + 7) 201 6 [some (.inr (some 240))] [] p.2)) (tB r fun k' c' => tsl tk f x k' (c' ++ [y])) := fun y z r J1 hyz m hr => by
        refine mY_b m fun k' c' J' e s' => ?_
        obtain ⟨l0, l1, l2⟩ := hr k' c' e
        have hrt : RTok y z 0 := by
          rcases hyz with ⟨rfl, rfl⟩ | ⟨rfl, rfl⟩
          · exact Or.inr (Or.inr (Or.inr (Or.inr (Or.inl ⟨rfl, rfl⟩))))
          · exact Or.inr (Or.inr (Or.inr (Or.inr (Or.inr (Or.inl ⟨rfl, rfl⟩)))))
        obtain ⟨J2, q1, q2⟩ := m_198 (d := d + 5) s' (by omega) hrt
        dsimp only
        rw [q1, Option.bind_some]
        exact ih x k' _ J2 hx q2 (by rw [List.length_append, List.length_singleton]; omega) l1 (by omega)
      by_cases a2 : tk k = 20042
      · have hk1 := hin k (by omega)
        obtain ⟨J1, q1, q2⟩ := m_194 (d := d + 1) h s
        have E : zD (d + 7) 201 6 [some (.inr (some 240))] [] J = ((cl (d + 6) 200 [.inr (some 240)] J1).bind fun p => if p.1 = -1 then some (-1, p.2) else (cl (d + 6) 198 [.inr (some 240), .inl 4, .inl 0] p.2).bind fun p => zD (d + 7) 201 6 [some (.inr (some 240))] [] p.2) := by
          rw [e_201_6, m_197 (hR k) s.2 rfl (by decide), if_pos (by omega), Option.bind_some]
          dsimp only
          rw [if_neg (by decide), e_201_14, m_197 (hR k) s.2 rfl (by decide), if_pos (by omega), Option.bind_some]
          dsimp only
          rw [q1, Option.bind_some]
          dsimp only
          rw [if_neg (by decide), if_neg (by decide), e_201_39]
          rfl
        rw [if_pos a2, E]
        refine mul 20042 4 _ J1 (Or.inl ⟨rfl, rfl⟩) (m_200 (d := d) h (hR (k + 1)) q2 (by omega)) fun k' c' hr => ?_
        obtain ⟨l1, l2⟩ := tun_l h5 hr
        refine ⟨?_, l1, l2⟩
        unfold tun at hr
        split at hr
        · cases hr; omega
        · cases hr
      · rw [if_neg a2]
        by_cases a3 : tk k = 20047
        · have hk1 := hin k (by omega)
          obtain ⟨J1, q1, q2⟩ := m_194 (d := d + 1) h s
          have e3 := q2.2.2.2.1
          have e4 := q2.2.2.2.2.1
          obtain ⟨-, k3, -, -⟩ := mkd_no (hR (k + 1))
          have E : zD (d + 7) 201 6 [some (.inr (some 240))] [] J = if J1 240 17 = 3 then (if J1 240 18 = 0 then ((cl (d + 6) 195 [.inr (some 240), .inl 2] J1).bind fun p => some (p.1, p.2)) else ((cl (d + 6) 200 [.inr (some 240)] J1).bind fun p => if p.1 = -1 then some (-1, p.2) else (cl (d + 6) 198 [.inr (some 240), .inl 5, .inl 0] p.2).bind fun p => zD (d + 7) 201 6 [some (.inr (some 240))] [] p.2)) else ((cl (d + 6) 195 [.inr (some 240), .inl 1] J1).bind fun p => some (p.1, p.2)) := by
            rw [e_201_6, m_197 (hR k) s.2 rfl (by decide), if_neg (by omega), Option.bind_some]
            dsimp only
            rw [if_pos rfl, m_197 (hR k) s.2 rfl (by decide), if_pos (by omega), Option.bind_some]
            dsimp only
            rw [if_neg (by decide), e_201_14, m_197 (hR k) s.2 rfl (by decide), if_neg (by omega), Option.bind_some]
            dsimp only
            rw [q1, Option.bind_some]
            dsimp only
            rw [if_pos rfl, e_201_39]
            rfl
          rw [if_pos a3, E]
          have fl : ∀ g : Int, MO tk st ps J0 (mY d x ((cl (d + 6) 195 [.inr (some 240), .inl g] J1).bind fun p => some (p.1, p.2))) (.inl (g, k + 1)) := fun g => by
            obtain ⟨J', h1, h2⟩ := m_195 (d := d + 5) (x := g) q2.2 (MS_B q2)
            exact ⟨J', by rw [h1]; rfl, h2⟩
          by_cases b : mkd (tk (k + 1)) = 3
          · have hr := k3.mp b
            rw [if_pos (e3.trans b), e4 (by omega), mvl_n hr.2]
            unfold tpt
            rw [if_neg (show ¬ (tk (k + 1) < 0 ∨ 10000 ≤ tk (k + 1)) by omega)]
            by_cases z : tk (k + 1) = 0
            · rw [if_pos z, if_pos z]
              exact fl 2
            · rw [if_neg z, if_neg z]
              have m := m_200 (d := d) h (hR (k + 1)) q2 (by omega)
              unfold tun at m
              rw [if_pos (by omega)] at m
              have hk2 := hin (k + 1) (by omega)
              refine mul 20047 5 _ J1 (Or.inr ⟨rfl, rfl⟩) m fun k' c' hr' => ?_
              cases hr'
              rw [List.length_append, List.length_singleton]
              omega
          · have hr : ¬ (0 ≤ tk (k + 1) ∧ tk (k + 1) ≤ 9999) := fun e => b (k3.mpr e)
            rw [if_neg (fun e => b (e3.symm.trans e))]
            unfold tpt
            rw [if_pos (by omega)]
            exact fl 1
        · rw [if_neg a3]
          exact stop x k c J hx s hc hk a1 a2 a3
theorem m_202 {d k : Nat} {c : List Int} {J : zI} (h : mTK tk st ps J0) (hR : ∀ k, tRg (tk k)) (h4 : cnt ≤ 400) (h5 : ∀ j, cnt ≤ j → tk j = -2) (s : MS tk st ps J0 k c J) (hc : c.length ≤ k) (hk : k ≤ cnt) : MO tk st ps J0 (cl (d + 8) 202 [.inr (some 240)] J) (tsm tk cnt k c) := by
  have E : cl (d + 8) 202 [.inr (some 240)] J = mY d (-1) (cl (d + 7) 201 [.inr (some 240)] J) := by
    rw [e_202]
    rfl
  rw [E, e_201]
  unfold tsm
  by_cases hc4 : c.length < 400
  · refine mY_b (m_200 (d := d) h (hR k) s hc4) fun k' c' J' hr s' => ?_
    obtain ⟨l1, l2⟩ := tun_l h5 hr
    exact m_202l h hR h4 h5 (cnt - k') (-1) k' c' J' (Or.inl rfl) s' (by rw [show (tpd (-1)).length = 0 from rfl]; omega) l1 (by omega)
  · -- then the text is at its end
    have ht := h5 k (by omega)
    obtain ⟨-, k3, -, -⟩ := mkd_no (hR k)
    have s3 := s.2.2.2.1
    rw [ht] at s3
    have m : MO tk st ps J0 (cl (d + 6) 200 [.inr (some 240)] J) (.inl (1, k)) := by
      rw [e_200, s3, if_neg (by decide), e_200_11, s3, if_neg (by decide)]
      exact MO_195 s
    have hu : tun tk k c = .inl (1, k) := by
      unfold tun
      rw [if_neg (by omega)]
    rw [hu]
    refine mY_b m fun k' c' J' hr s' => ?_
    cases hr
theorem m_203 {d k : Nat} {c : List Int} {J : zI} (h : mTK tk st ps J0) (hR : ∀ k, tRg (tk k)) (h4 : cnt ≤ 400) (h5 : ∀ j, cnt ≤ j → tk j = -2) (s : MS tk st ps J0 k c J) (hc : c.length ≤ k) (hk : k ≤ cnt) : MO tk st ps J0 (cl (d + 9) 203 [.inr (some 240)] J) (tcp tk cnt k c) := by
  have hin : ∀ k, ¬ tk k = -2 → k < cnt := fun k hk => by
    rcases Nat.lt_or_ge k cnt with g | g
    · exact g
    · exact absurd (h5 k g) hk
  rw [e_203]
  unfold tcp
  refine MO_b (m_202 (d := d) h hR h4 h5 s hc hk) fun k1 c1 J1 hr s1 => ?_
  obtain ⟨l0, l1, l2⟩ := tsm_l h5 hr
  dsimp only
  have cmp : (tk k1 = 20060 ∨ tk k1 = 20061 ∨ tk k1 = 20062) → MO tk st ps J0 (zD (d + 9) 203 22 [some (.inr (some 240))] [] J1) (tB (tsm tk cnt (k1 + 1) c1) fun k2 c2 => .inr (k2, c2 ++ [tk k1])) := fun a => by
    have hk1 := hin k1 (by omega)
    have v : J1 240 18 = tk k1 - 20000 := by
      have hg : mkd (tk k1) = 4 := (mkd_no (hR k1)).2.2.1.mpr ⟨by omega, by rcases a with a | a | a <;> rw [a] <;> rfl⟩
      rw [s1.2.2.2.2.1 (by omega), mvl_s (by omega)]
    obtain ⟨J2, q3, q4⟩ := m_194 (d := d + 3) h s1
    have fin : ∀ z : Int, RTok (tk k1) z 0 → MO tk st ps J0 ((cl (d + 8) 202 [.inr (some 240)] J2).bind fun p => if p.1 = -1 then some (-1, p.2) else (cl (d + 8) 198 [.inr (some 240), .inl z, .inl 0] p.2).bind fun p => some (0, p.2)) (tB (tsm tk cnt (k1 + 1) c1) fun k2 c2 => .inr (k2, c2 ++ [tk k1])) := fun z hz => by
      refine MO_b (m_202 (d := d) h hR h4 h5 q4 (by omega) (by omega)) fun k2 c2 J3 hr2 s2 => ?_
      obtain ⟨m0, m1, m2⟩ := tsm_l h5 hr2
      dsimp only
      obtain ⟨J4, q5, q6⟩ := m_198 (d := d + 7) s2 (by omega) hz
      rw [q5, Option.bind_some]
      exact ⟨J4, rfl, q6⟩
    rw [e_203_22, v]
    rcases a with a | a | a
    · rw [if_pos (by omega), q3, Option.bind_some]
      exact fin 6 (by rw [a]; exact Or.inr (Or.inr (Or.inr (Or.inr (Or.inr (Or.inr (Or.inl ⟨rfl, rfl⟩)))))))
    · rw [if_neg (by omega), if_pos (by omega), q3, Option.bind_some]
      exact fin 7 (by rw [a]; exact Or.inr (Or.inr (Or.inr (Or.inr (Or.inr (Or.inr (Or.inr (Or.inl ⟨rfl, rfl⟩))))))))
    · rw [if_neg (by omega), if_neg (by omega), q3, Option.bind_some]
      exact fin 8 (by rw [a]; exact Or.inr (Or.inr (Or.inr (Or.inr (Or.inr (Or.inr (Or.inr (Or.inr (Or.inl ⟨rfl, rfl⟩)))))))))
  rw [m_197 (hR k1) s1.2 rfl (by decide), Option.bind_some]
  dsimp only
  by_cases a1 : tk k1 = 20060
  · rw [if_pos (show tk k1 = 20000 + 60 by omega), if_neg (by decide), if_pos (by omega)]
    exact cmp (by omega)
  · rw [if_neg (show ¬ tk k1 = 20000 + 60 by omega), if_pos rfl, m_197 (hR k1) s1.2 rfl (by decide), Option.bind_some]
    dsimp only
    by_cases a2 : tk k1 = 20061
    · rw [if_pos (show tk k1 = 20000 + 61 by omega), if_neg (by decide), if_pos (by omega)]
      exact cmp (by omega)
    · rw [if_neg (show ¬ tk k1 = 20000 + 61 by omega), if_pos rfl, m_197 (hR k1) s1.2 rfl (by decide), Option.bind_some]
      dsimp only
      by_cases a3 : tk k1 = 20062
      · rw [if_pos (show tk k1 = 20000 + 62 by omega), if_neg (by decide), if_pos (by omega)]
        exact cmp (by omega)
      · rw [if_neg (show ¬ tk k1 = 20000 + 62 by omega), if_pos rfl, if_neg (by omega)]
        exact MO_195 s1
