/-! THE MODEL READS: conditions, with its stack -/
def SC : List Int → zI → Prop
  | [], _ => True
  | x :: r, J => J 257 r.length = x ∧ SC r J
theorem SC_cg : ∀ (S : List Int) {J J' : zI}, (∀ i, i < S.length → J' 257 i = J 257 i) → SC S J → SC S J'
  | [], _, _, _, _ => trivial
  | x :: r, J, J', h, s => ⟨(h _ (by rw [List.length_cons]; omega)).trans s.1, SC_cg r (fun i hi => h i (by rw [List.length_cons]; omega)) s.2⟩
def MC (tk st : Nat → Int) (ps : Nat → Nat) (J0 : zI) (k : Nat) (c : List Int) (S : List Int) (op : Int) (J : zI) : Prop := Fr zs2 J0 J ∧ MK tk st ps k c J ∧ J 240 31 = (S.length : Int) ∧ SC S J ∧ J 240 29 = op
variable {tk st : Nat → Int} {ps : Nat → Nat} {cnt : Nat} {J0 : zI}
/-- no such one on top -/
def nt (x : Int) (S : List Int) : Prop := ∀ y r, S = y :: r → ¬ y = x
theorem MC_S {k k' : Nat} {c c' S : List Int} {op : Int} {J J' : zI} (h : MC tk st ps J0 k c S op J) (s : MS tk st ps J k' c' J') : MC tk st ps J0 k' c' S op J' := by
  obtain ⟨h1, h2, h3, h4, h5⟩ := h
  refine ⟨Fr_tr h1 (Fr_mono s.1 zs1_2), s.2, (s.1 240 31 rfl).trans h3, SC_cg S (fun i _ => s.1 257 i rfl) h4, (s.1 240 29 rfl).trans h5⟩
theorem MC_o {k : Nat} {c S : List Int} {op : Int} {J : zI} (h : MC tk st ps J0 k c S op J) : MS tk st ps J k c J := ⟨Fr_rf, h.2.1⟩
theorem MC_X {k : Nat} {c S : List Int} {op g p : Int} {J J' : zI} (h : MC tk st ps J0 k c S op J) (s : MX J g p J') : MX J0 g p J' := ⟨Fr_tr (zs2_B h.1) s.1, s.2⟩
theorem MK_j {k : Nat} {c : List Int} {J : zI} (s : MK tk st ps k c J) (j : Nat) (x : Int) (h : j = 29 ∨ j = 31) : MK tk st ps k c (up J 240 j x) := by
  obtain ⟨s1, s2, s3, s4, s5, s6⟩ := s
  exact ⟨(up_j (by omega)).trans s1, (up_j (by omega)).trans s2, (up_j (by omega)).trans s3, fun e => (up_j (by omega)).trans (s4 e), (up_j (by omega)).trans s5, fun i hi => by
    rw [up_c (by decide), up_c (by decide)]
    exact s6 i hi⟩
theorem MK_c {k : Nat} {c : List Int} {J : zI} (s : MK tk st ps k c J) (a j : Nat) (x : Int) (h1 : ¬ a = 240) (h2 : ¬ a = 255) (h3 : ¬ a = 256) : MK tk st ps k c (up J a j x) := by
  obtain ⟨s1, s2, s3, s4, s5, s6⟩ := s
  have e : ∀ b, up J a j x 240 b = J 240 b := fun b => up_c (fun q => h1 q.symm)
  exact ⟨(e _).trans s1, (e _).trans s2, (e _).trans s3, fun q => (e _).trans (s4 q), (e _).trans s5, fun i hi => by
    rw [up_c (fun q => h2 q.symm), up_c (fun q => h3 q.symm)]
    exact s6 i hi⟩
theorem c_194 {d k : Nat} {c S : List Int} {op : Int} {J : zI} (h : mTK tk st ps J0) (s : MC tk st ps J0 k c S op J) : ∃ J', cl (d + 5) 194 [.inr (some 240)] J = some (0, J') ∧ MC tk st ps J0 (k + 1) c S op J' := by
  obtain ⟨J', q1, q2⟩ := m_194 (d := d) (mTK_fr h (zs2_B s.1)) (MC_o s)
  exact ⟨J', q1, MC_S s q2⟩
theorem c_204 {d k : Nat} {c S : List Int} {op x : Int} {J : zI} (s : MC tk st ps J0 k c S op J) (hS : S.length < 40) : ∃ J', cl (d + 1) 204 [.inr (some 240), .inl x] J = some (0, J') ∧ MC tk st ps J0 k c (x :: S) op J' := by
  obtain ⟨h1, h2, h3, h4, h5⟩ := s
  refine ⟨up (up J 257 S.length x) 240 31 ((S.length : Int) + 1), ?_, Fr_up rfl (Fr_up rfl h1), MK_j (MK_c h2 257 _ _ (by decide) (by decide) (by decide)) _ _ (Or.inr rfl), ?_, ⟨(up_c (by decide)).trans up_s, SC_cg S (fun i hi => (up_c (by decide)).trans (up_j (by omega))) h4⟩, (up_j (by decide)).trans ((up_c (by decide)).trans h5)⟩
  · rw [e_204, h3, if_pos (by omega), Int.toNat_natCast, wr_id (by omega) (by omega)]
  · rw [up_s, List.length_cons]; rfl
theorem e205 {d : Nat} {J : zI} {x : Int} : zD (d + 1) 205 0 [some (.inr (some 240)), some (.inl x)] [] J = cl (d + 1) 205 [.inr (some 240), .inl x] J := by
  rw [e_205_0, e_205]
/-- nothing of the kind on top -/
theorem c_205n {d k : Nat} {c S : List Int} {op x : Int} {J : zI} (s : MC tk st ps J0 k c S op J) (hS : S.length ≤ 40) (ht : nt x S) : cl (d + 1) 205 [.inr (some 240), .inl x] J = some (0, J) := by
  obtain ⟨h1, h2, h3, h4, h5⟩ := s
  rw [e_205, h3]
  cases S with
  | nil => rw [if_neg (by rw [List.length_nil]; omega)]
  | cons y r =>
    have e1 : (((y :: r).length : Int) - 1).toNat = r.length := by rw [List.length_cons]; omega
    rw [List.length_cons] at hS e1 ⊢
    rw [if_pos (by omega), wr_id (z := ((r.length + 1 : Nat) : Int) - 1) (by omega) (by omega), if_pos (by omega), e1, h4.1, if_neg (ht y r rfl)]
/-- one off -/
theorem c_205p {d k : Nat} {c S : List Int} {op x t : Int} {J : zI} (s : MC tk st ps J0 k c (x :: S) op J) (hS : S.length < 40) (hc : c.length < 400) (hr : RTok t x 0) (ho : -100 ≤ op ∧ op ≤ 100) : ∃ J', cl (d + 2) 205 [.inr (some 240), .inl x] J = cl (d + 2) 205 [.inr (some 240), .inl x] J' ∧ MC tk st ps J0 k (c ++ [t]) S (if x = 9 then op - 1 else op) J' := by
  obtain ⟨h1, h2, h3, h4, h5⟩ := s
  have e1 : (((x :: S).length : Int) - 1).toNat = S.length := by rw [List.length_cons]; omega
  have h2' : MK tk st ps k c (up J 240 31 (S.length : Int)) := MK_j h2 _ _ (Or.inr rfl)
  have q1 := m_198e (d := d) (o := x) (g := 0) h2' hc
  have q2 := MK_emit h2' hr
  have q3 : Fr zs2 J0 (up (up (up (up J 240 31 (S.length : Int)) 255 (800 + c.length) x) 256 (800 + c.length) 0) 240 28 ((c.length : Int) + 1)) := Fr_up rfl (Fr_up (zs1_2 _ _ (zs1_tok _).2) (Fr_up (zs1_2 _ _ (zs1_tok _).1) (Fr_up rfl h1)))
  have q4 : up (up (up (up J 240 31 (S.length : Int)) 255 (800 + c.length) x) 256 (800 + c.length) 0) 240 28 ((c.length : Int) + 1) 240 31 = (S.length : Int) := (up_j (by decide)).trans ((up_c (by decide)).trans ((up_c (by decide)).trans up_s))
  have q5 : up (up (up (up J 240 31 (S.length : Int)) 255 (800 + c.length) x) 256 (800 + c.length) 0) 240 28 ((c.length : Int) + 1) 240 29 = op := (up_j (by decide)).trans ((up_c (by decide)).trans ((up_c (by decide)).trans ((up_j (by decide)).trans h5)))
  have q6 : SC S (up (up (up (up J 240 31 (S.length : Int)) 255 (800 + c.length) x) 256 (800 + c.length) 0) 240 28 ((c.length : Int) + 1)) := SC_cg S (fun i _ => (up_c (by decide)).trans ((up_c (by decide)).trans ((up_c (by decide)).trans (up_c (by decide))))) h4.2
  rw [e_205, h3, if_pos (by rw [List.length_cons]; omega), show wr (((x :: S).length : Int) - 1) = (S.length : Int) by rw [List.length_cons, wr_id (by omega) (by omega)]; omega, if_pos (by omega), Int.toNat_natCast, h4.1, if_pos rfl, q1, Option.bind_some]
  dsimp only
  generalize up (up (up (up J 240 31 (S.length : Int)) 255 (800 + c.length) x) 256 (800 + c.length) 0) 240 28 ((c.length : Int) + 1) = J1 at *
  by_cases hx : x = 9
  · rw [if_pos hx, if_pos hx, e205, q5, wr_id (by omega) (by omega)]
    exact ⟨_, rfl, Fr_up rfl q3, MK_j q2 _ _ (Or.inl rfl), (up_j (by decide)).trans q4, SC_cg S (fun i _ => up_c (by decide)) q6, up_s⟩
  · rw [if_neg hx, if_neg hx, e205]
    exact ⟨_, rfl, q3, q2, q4, q6, q5⟩
/-- all the nots on top -/
theorem c_205s {d k : Nat} : ∀ (j : Nat) (c S : List Int) (op : Int) (J : zI), MC tk st ps J0 k c (List.replicate j 9 ++ S) op J → j + S.length ≤ 40 → c.length + j ≤ 400 → nt 9 S → (-60 ≤ op - j ∧ op ≤ 60) → ∃ J', cl (d + 2) 205 [.inr (some 240), .inl 9] J = some (0, J') ∧ MC tk st ps J0 k (c ++ List.replicate j 10017) S (op - j) J'
  | 0, c, S, op, J, s, hS, hc, ht, ho => by
    refine ⟨J, c_205n (d := d + 1) s (by rw [List.length_append, List.length_replicate]; omega) ht, ?_⟩
    rw [show List.replicate 0 (10017 : Int) = [] from rfl, List.append_nil, show op - ((0 : Nat) : Int) = op by omega]
    exact s
  | j + 1, c, S, op, J, s, hS, hc, ht, ho => by
    have hl : (List.replicate j (9 : Int) ++ S).length = j + S.length := by rw [List.length_append, List.length_replicate]
    obtain ⟨J1, q1, q2⟩ := c_205p (d := d) (t := 10017) (x := 9) (S := List.replicate j 9 ++ S) s (by omega) (by omega) (Or.inr (Or.inr (Or.inr (Or.inr (Or.inr (Or.inr (Or.inr (Or.inr (Or.inr (Or.inl ⟨rfl, rfl⟩)))))))))) (by omega)
    rw [if_pos rfl] at q2
    obtain ⟨J2, q3, q4⟩ := c_205s (d := d) j (c ++ [10017]) S (op - 1) J1 q2 (by omega) (by rw [List.length_append, List.length_singleton]; omega) ht (by omega)
    refine ⟨J2, q1.trans q3, ?_⟩
    rw [List.replicate_succ, show op - ((j + 1 : Nat) : Int) = op - 1 - (j : Int) by omega, show c ++ 10017 :: List.replicate j 10017 = c ++ [10017] ++ List.replicate j 10017 by rw [List.append_assoc]; rfl]
    exact q4
noncomputable def m206 (d : Nat) (m x : Int) (J : zI) : zO := zD (d + 10) 206 7 [some (.inr (some 240)), some (.inl m), some (.inl x)] [] J
/-- how a condition ends -/
noncomputable def mZ (d : Nat) (m : Int) (J : zI) : zO := if m = 0 then some (0, J) else (cl (d + 9) 197 [.inr (some 240), .inl 41] J).bind fun p5 => if p5.1 = 0 then (cl (d + 9) 195 [.inr (some 240), .inl 1] p5.2).bind fun p8 => some (p8.1, p8.2) else (cl (d + 9) 205 [.inr (some 240), .inl 9] (up (up p5.2 240 31 (wr (p5.2 240 31 - 1))) 240 29 (wr (p5.2 240 29 - 1)))).bind fun p6 => (cl (d + 9) 194 [.inr (some 240)] p6.2).bind fun p7 => m206 d (wr (m - 1)) 0 p7.2
def tMQ (tk st : Nat → Int) (ps : Nat → Nat) (J0 : zI) (o : zO) (K : zI → zO) (j : Nat) (S : List Int) (op : Int) (r : tR) : Prop := match r with
  | .inl e => ∃ J', o = some (-1, J') ∧ MX J0 e.1 (st e.2) J'
  | .inr q => ∃ J', o = K J' ∧ MC tk st ps J0 q.1 (q.2 ++ List.replicate j 10017) S op J'
theorem c_196 {d k w : Nat} {c S : List Int} {op y : Int} {J : zI} (hR : ∀ k, tRg (tk k)) (s : MC tk st ps J0 k c S op J) (hw : w < 27) (hy : y = wsg.getD w 0) : cl (d + 1) 196 [.inr (some 240), .inl y] J = some (if tk k = 10000 + (w : Int) then 1 else 0, J) := m_196 (hR k) s.2.1 hw hy
theorem c_197 {d k : Nat} {c S : List Int} {op y : Int} {J : zI} (hR : ∀ k, tRg (tk k)) (s : MC tk st ps J0 k c S op J) (hy : sgn y = true) (hy0 : 0 ≤ y) : cl (d + 1) 197 [.inr (some 240), .inl y] J = some (if tk k = 20000 + y then 1 else 0, J) := m_197 (hR k) s.2.1 hy hy0
/-- 206 behind an operand, by the token that stands there -/
theorem c_206a {d k : Nat} {c S : List Int} {op m : Int} {J : zI} (hR : ∀ k, tRg (tk k)) (s : MC tk st ps J0 k c S op J) : m206 d m 0 J =
    if tk k = 10016 then (cl (d + 9) 205 [.inr (some 240), .inl 10] J).bind fun p13 => (cl (d + 9) 204 [.inr (some 240), .inl 10] p13.2).bind fun p14 => (cl (d + 9) 194 [.inr (some 240)] p14.2).bind fun p15 => m206 d m 1 p15.2
    else if tk k = 10015 then (cl (d + 9) 205 [.inr (some 240), .inl 10] J).bind fun p9 => (cl (d + 9) 205 [.inr (some 240), .inl 11] p9.2).bind fun p10 => (cl (d + 9) 204 [.inr (some 240), .inl 11] p10.2).bind fun p11 => (cl (d + 9) 194 [.inr (some 240)] p11.2).bind fun p12 => m206 d m 1 p12.2
    else (cl (d + 9) 205 [.inr (some 240), .inl 10] J).bind fun p3 => (cl (d + 9) 205 [.inr (some 240), .inl 11] p3.2).bind fun p4 => mZ d m p4.2 := by
  have x1 := c_196 (d := d + 8) (w := 16) (y := 5) hR s (by decide) rfl
  have x2 := c_196 (d := d + 8) (w := 15) (y := 4) hR s (by decide) rfl
  unfold m206
  rw [e_206_7, if_pos rfl, x1, Option.bind_some]
  dsimp only
  by_cases a1 : tk k = 10016
  · rw [if_pos (show tk k = 10000 + ((16 : Nat) : Int) from a1), if_neg (by decide), if_pos a1]
  · rw [if_neg (show ¬ tk k = 10000 + ((16 : Nat) : Int) from a1), if_pos rfl, if_neg a1, x2, Option.bind_some]
    dsimp only
    by_cases a2 : tk k = 10015
    · rw [if_pos (show tk k = 10000 + ((15 : Nat) : Int) from a2), if_neg (by decide), if_pos a2]
    · rw [if_neg (show ¬ tk k = 10000 + ((15 : Nat) : Int) from a2), if_pos rfl, if_neg a2]
      rfl
/-- an 'and' that waits goes first -/
theorem c_206p {d k : Nat} {c S : List Int} {op m : Int} {J : zI} (hR : ∀ k, tRg (tk k)) (s : MC tk st ps J0 k c (10 :: S) op J) (hS : S.length < 40) (hc : c.length < 400) (ht : nt 10 S) (ho : -100 ≤ op ∧ op ≤ 100) : ∃ J', m206 d m 0 J = m206 d m 0 J' ∧ MC tk st ps J0 k (c ++ [10016]) S op J' := by
  obtain ⟨J1, q1, q2⟩ := c_205p (d := d + 7) (t := 10016) s hS hc (Or.inr (Or.inr (Or.inr (Or.inr (Or.inr (Or.inr (Or.inr (Or.inr (Or.inr (Or.inr (Or.inl ⟨rfl, rfl⟩))))))))))) ho
  rw [if_neg (by decide)] at q2
  have q3 : cl (d + 9) 205 [.inr (some 240), .inl 10] J1 = some (0, J1) := c_205n (d := d + 8) q2 (by omega) ht
  refine ⟨J1, ?_, q2⟩
  rw [c_206a hR s, c_206a hR q2, q1]
/-- an 'or' that waits -/
theorem c_205o {d k : Nat} {c S : List Int} {op : Int} {J : zI} {p : Bool} (s : MC tk st ps J0 k c ((if p = true then [11] else []) ++ S) op J) (hS : S.length < 40) (hc : c.length + (tpo p).length ≤ 400) (ht : nt 11 S) (ho : -100 ≤ op ∧ op ≤ 100) : ∃ J', cl (d + 2) 205 [.inr (some 240), .inl 11] J = some (0, J') ∧ MC tk st ps J0 k (c ++ tpo p) S op J' := by
  cases p with
  | false =>
    rw [show tpo false = [] from rfl, List.append_nil]
    exact ⟨J, c_205n (d := d + 1) s (by show S.length ≤ 40; omega) ht, s⟩
  | true =>
    rw [show (tpo true).length = 1 from rfl] at hc
    obtain ⟨J1, q1, q2⟩ := c_205p (d := d) (t := 10015) (x := 11) (S := S) s hS (by omega) (Or.inr (Or.inr (Or.inr (Or.inr (Or.inr (Or.inr (Or.inr (Or.inr (Or.inr (Or.inr (Or.inr ⟨rfl, rfl⟩))))))))))) ho
    rw [if_neg (by decide)] at q2
    exact ⟨J1, q1.trans (c_205n (d := d + 1) q2 (by omega) ht), q2⟩
/-- what C says of 206 with an operand wanted -/
def cCl (tk st : Nat → Int) (ps : Nat → Nat) (cnt : Nat) (J0 : zI) (d r : Nat) : Prop := ∀ (m : Int) (k j : Nat) (c S : List Int) (J : zI), MC tk st ps J0 k c (List.replicate j 9 ++ S) (8 - (r : Int)) J → nt 9 S → j + S.length + 3 * r ≤ 26 → c.length + j ≤ k → k ≤ cnt → 0 ≤ m → m + r ≤ 8 → j + r ≤ 8 → tMQ tk st ps J0 (m206 d m 1 J) (m206 d m 0) j S (8 - (r : Int) - (j : Int)) (tcn tk cnt r k c)
theorem nt_c {x y : Int} {S : List Int} (h : ¬ y = x) : nt x (y :: S) := fun z r e => by
  injection e with e1 e2
  rw [← e1]
  exact h
theorem nt_o {x : Int} {p : Bool} {S : List Int} (h : ¬ 11 = x) (h2 : nt x S) : nt x ((if p = true then [11] else []) ++ S) := by
  cases p with
  | false => exact h2
  | true => exact nt_c h
theorem c_206l {d r : Nat} {m : Int} {S : List Int} (h : mTK tk st ps J0) (hR : ∀ k, tRg (tk k)) (h4 : cnt ≤ 400) (h5 : ∀ j, cnt ≤ j → tk j = -2) (hr8 : r ≤ 8) (hC : cCl tk st ps cnt J0 d r) (hS : S.length + 3 * r ≤ 24) (n10 : nt 10 S) (n11 : nt 11 S) (hm : 0 ≤ m) (hm2 : m + r ≤ 8) :
    ∀ (f : Nat) (p : Bool) (k : Nat) (c : List Int) (J : zI), MC tk st ps J0 k c ((if p = true then [11] else []) ++ S) (8 - (r : Int)) J → c.length + (tpo p).length ≤ k → k ≤ cnt → cnt ≤ k + f → tMQ tk st ps J0 (m206 d m 0 J) (mZ d m) 0 S (8 - (r : Int)) (tal tk (tcn tk cnt r) f p k c) := fun f => by
  have hin : ∀ k, ¬ tk k = -2 → k < cnt := fun k hk => by
    rcases Nat.lt_or_ge k cnt with g | g
    · exact g
    · exact absurd (h5 k g) hk
  have pl : ∀ p : Bool, ((if p = true then [11] else []) ++ S : List Int).length ≤ S.length + 1 := fun p => by cases p <;> simp
  have stop : ∀ (p : Bool) (k : Nat) (c : List Int) (J : zI), MC tk st ps J0 k c ((if p = true then [11] else []) ++ S) (8 - (r : Int)) J → c.length + (tpo p).length ≤ k → k ≤ cnt → ¬ tk k = 10016 → ¬ tk k = 10015 → tMQ tk st ps J0 (m206 d m 0 J) (mZ d m) 0 S (8 - (r : Int)) (.inr (k, c ++ tpo p)) := fun p k c J s hc hk n1 n2 => by
    rw [c_206a hR s, if_neg n1, if_neg n2, c_205n (d := d + 8) s (by have := pl p; omega) (nt_o (by decide) n10), Option.bind_some]
    obtain ⟨J1, q1, q2⟩ := c_205o (d := d + 7) s (by omega) (by omega) n11 (by omega)
    dsimp only
    rw [q1, Option.bind_some]
    refine ⟨J1, rfl, ?_⟩
    rw [show List.replicate 0 (10017 : Int) = [] from rfl, List.append_nil]
    exact q2
  induction f with
  | zero =>
    intro p k c J s hc hk hf
    have := h5 k (by omega)
    exact stop p k c J s hc hk (by omega) (by omega)
  | succ f ih =>
    intro p k c J s hc hk hf
    rw [tal]
    by_cases a1 : tk k = 10016
    · have hk1 := hin k (by omega)
      have hl := pl p
      rw [if_pos a1, c_206a hR s, if_pos a1, c_205n (d := d + 8) s (by omega) (nt_o (by decide) n10), Option.bind_some]
      dsimp only
      obtain ⟨J1, q1, q2⟩ := c_204 (d := d + 8) (x := 10) s (by omega)
      rw [q1, Option.bind_some]
      dsimp only
      obtain ⟨J2, q3, q4⟩ := c_194 (d := d + 4) h q2
      rw [q3, Option.bind_some]
      dsimp only
      have z := hC m (k + 1) 0 c (10 :: ((if p = true then [11] else []) ++ S)) J2 q4 (nt_c (by decide)) (by rw [List.length_cons]; omega) (by omega) (by omega) hm hm2 (by omega)
      have hG := tC_l (tk := tk) h5 r hr8 (k + 1) c
      cases e : tcn tk cnt r (k + 1) c with
      | inl e' =>
        rw [e] at z
        exact z
      | inr q =>
        rw [e] at z
        obtain ⟨J3, z1, z2⟩ := z
        obtain ⟨l0, l1, l2⟩ := hG q.1 q.2 e
        rw [show List.replicate 0 (10017 : Int) = [] from rfl, List.append_nil, show (8 : Int) - (r : Int) - ((0 : Nat) : Int) = 8 - (r : Int) by omega] at z2
        obtain ⟨J4, q5, q6⟩ := c_206p (d := d) (m := m) hR z2 (by omega) (by omega) (nt_o (by decide) n10) (by omega)
        rw [z1, q5]
        exact ih p q.1 (q.2 ++ [10016]) J4 q6 (by rw [List.length_append, List.length_singleton]; omega) l1 (by omega)
    · rw [if_neg a1]
      by_cases a2 : tk k = 10015
      · have hk1 := hin k (by omega)
        have hl := pl p
        rw [if_pos a2, c_206a hR s, if_neg a1, if_pos a2, c_205n (d := d + 8) s (by omega) (nt_o (by decide) n10), Option.bind_some]
        dsimp only
        obtain ⟨J0', p1, p2⟩ := c_205o (d := d + 7) s (by omega) (by omega) n11 (by omega)
        rw [p1, Option.bind_some]
        dsimp only
        obtain ⟨J1, q1, q2⟩ := c_204 (d := d + 8) (x := 11) p2 (by omega)
        rw [q1, Option.bind_some]
        dsimp only
        obtain ⟨J2, q3, q4⟩ := c_194 (d := d + 4) h q2
        rw [q3, Option.bind_some]
        dsimp only
        have z := hC m (k + 1) 0 (c ++ tpo p) (11 :: S) J2 q4 (nt_c (by decide)) (by rw [List.length_cons]; omega) (by rw [List.length_append]; omega) (by omega) hm hm2 (by omega)
        have hG := tC_l (tk := tk) h5 r hr8 (k + 1) (c ++ tpo p)
        cases e : tcn tk cnt r (k + 1) (c ++ tpo p) with
        | inl e' =>
          rw [e] at z
          exact z
        | inr q =>
          rw [e] at z
          obtain ⟨J3, z1, z2⟩ := z
          obtain ⟨l0, l1, l2⟩ := hG q.1 q.2 e
          rw [List.length_append] at l2
          rw [show List.replicate 0 (10017 : Int) = [] from rfl, List.append_nil, show (8 : Int) - (r : Int) - ((0 : Nat) : Int) = 8 - (r : Int) by omega] at z2
          rw [z1]
          exact ih true q.1 q.2 J3 z2 (by rw [show (tpo true).length = 1 from rfl]; omega) l1 (by omega)
      · rw [if_neg a2]
        exact stop p k c J s hc hk a1 a2
/-- an operand that begins with neither 'not' nor '(' -/
theorem c_206c {d k j : Nat} {c S : List Int} {m op : Int} {J : zI} (h : mTK tk st ps J0) (hR : ∀ k, tRg (tk k)) (h4 : cnt ≤ 400) (h5 : ∀ j, cnt ≤ j → tk j = -2) (s : MC tk st ps J0 k c (List.replicate j 9 ++ S) op J) (ht : nt 9 S) (hS : j + S.length ≤ 40) (hc : c.length + j ≤ k) (hk : k ≤ cnt) (ho : -60 ≤ op - j ∧ op ≤ 60) (n1 : ¬ tk k = 10017) (n2 : ¬ tk k = 20040) : tMQ tk st ps J0 (m206 d m 1 J) (m206 d m 0) j S (op - (j : Int)) (tcp tk cnt k c) := by
  have x1 := c_196 (d := d + 8) (w := 17) (y := 6) hR s (by decide) rfl
  have x2 := c_197 (d := d + 8) (y := 40) hR s rfl (by decide)
  have E : m206 d m 1 J = (cl (d + 9) 203 [.inr (some 240)] J).bind fun p18 => if p18.1 = -1 then some (-1, p18.2) else (cl (d + 9) 205 [.inr (some 240), .inl 9] p18.2).bind fun p19 => m206 d m 0 p19.2 := by
    unfold m206
    rw [e_206_7, if_neg (by decide), x1, Option.bind_some]
    dsimp only
    rw [if_neg (show ¬ tk k = 10000 + ((17 : Nat) : Int) from n1), if_pos rfl, x2, Option.bind_some]
    dsimp only
    rw [if_neg (show ¬ tk k = 20000 + 40 by omega), if_pos rfl]
  have z := m_203 (d := d) (mTK_fr h (zs2_B s.1)) hR h4 h5 (MC_o s) (by omega) hk
  have hG := tcp_G (tk := tk) (cnt := cnt) (k := k) (c := c) (lim := 0) (by omega) h5
  rw [E]
  cases e : tcp tk cnt k c with
  | inl e' =>
    rw [e] at z
    obtain ⟨J', z1, z2⟩ := z
    exact ⟨J', by rw [z1]; rfl, MC_X s z2⟩
  | inr q =>
    rw [e] at z
    obtain ⟨J', z1, z2⟩ := z
    obtain ⟨l0, l1, l2, -⟩ := hG q.1 q.2 e
    obtain ⟨J2, q1, q2⟩ := c_205s (d := d + 7) j q.2 S op J' (MC_S s z2) hS (by omega) ht ho
    refine ⟨J2, ?_, q2⟩
    rw [z1]
    show (cl (d + 9) 205 [.inr (some 240), .inl 9] J').bind _ = _
    rw [q1]
    rfl
theorem c_206 {d : Nat} (h : mTK tk st ps J0) (hR : ∀ k, tRg (tk k)) (h4 : cnt ≤ 400) (h5 : ∀ j, cnt ≤ j → tk j = -2) : ∀ r, r ≤ 8 → cCl tk st ps cnt J0 d r := fun r => by
  have hin : ∀ k, ¬ tk k = -2 → k < cnt := fun k hk => by
    rcases Nat.lt_or_ge k cnt with g | g
    · exact g
    · exact absurd (h5 k g) hk
  -- the way to the count of what is open
  have wayN : ∀ (k : Nat) (c S : List Int) (op m : Int) (J : zI), MC tk st ps J0 k c S op J → tk k = 10017 → m206 d m 1 J = zD (d + 10) 206 19 [some (.inr (some 240)), some (.inl m), some (.inl 1), some (.inl 1)] [] J := fun k c S op m J s a => by
    have x1 := c_196 (d := d + 8) (w := 17) (y := 6) hR s (by decide) rfl
    unfold m206
    rw [e_206_7, if_neg (by decide), x1, Option.bind_some]
    dsimp only
    rw [if_pos (show tk k = 10000 + ((17 : Nat) : Int) from a), if_neg (by decide)]
  have wayP : ∀ (k : Nat) (c S : List Int) (op m : Int) (J : zI), MC tk st ps J0 k c S op J → tk k = 20040 → m206 d m 1 J = zD (d + 10) 206 19 [some (.inr (some 240)), some (.inl m), some (.inl 1), some (.inl 0)] [] J := fun k c S op m J s a => by
    have x1 := c_196 (d := d + 8) (w := 17) (y := 6) hR s (by decide) rfl
    have x2 := c_197 (d := d + 8) (y := 40) hR s rfl (by decide)
    unfold m206
    rw [e_206_7, if_neg (by decide), x1, Option.bind_some]
    dsimp only
    rw [if_neg (show ¬ tk k = 10000 + ((17 : Nat) : Int) by omega), if_pos rfl, x2, Option.bind_some]
    dsimp only
    rw [if_pos (show tk k = 20000 + 40 from a), if_neg (by decide)]
  induction r with
  | zero =>
    intro _ m k j c S J s ht hS hc hk hm hm2 hj
    rw [tcn]
    by_cases a : tk k = 10017 ∨ tk k = 20040
    · have fl : ∀ z : Int, zD (d + 10) 206 19 [some (.inr (some 240)), some (.inl m), some (.inl 1), some (.inl z)] [] J = (cl (d + 9) 195 [.inr (some 240), .inl 3] J).bind fun p => some (p.1, p.2) := fun z => by
        rw [e_206_19, s.2.2.2.2, if_pos (by omega)]
      obtain ⟨J', q1, q2⟩ := m_195 (d := d + 8) (x := 3) s.2.1 (zs2_B s.1)
      rw [if_pos a]
      refine ⟨J', ?_, q2⟩
      rcases a with a | a
      · rw [wayN k c _ _ m J s a, fl, q1]; rfl
      · rw [wayP k c _ _ m J s a, fl, q1]; rfl
    · rw [if_neg a]
      exact c_206c h hR h4 h5 s ht (by omega) hc hk (by omega) (by omega) (by omega)
  | succ r ih =>
    intro hr8 m k j c S J s ht hS hc hk hm hm2 hj
    have ih := ih (by omega)
    have h29 := s.2.2.2.2
    have s' : MC tk st ps J0 k c (List.replicate j 9 ++ S) (8 - (r : Int)) (up J 240 29 (8 - (r : Int))) := ⟨Fr_up rfl s.1, MK_j s.2.1 _ _ (Or.inl rfl), (up_j (by decide)).trans s.2.2.1, SC_cg _ (fun i _ => up_c (by decide)) s.2.2.2.1, up_s⟩
    have hl : (List.replicate j (9 : Int) ++ S).length = j + S.length := by rw [List.length_append, List.length_replicate]
    rw [tcn]
    by_cases a1 : tk k = 10017
    · have hk1 := hin k (by omega)
      rw [if_pos a1, wayN k c _ _ m J s a1, e_206_19, h29, if_neg (by omega), if_neg (by decide), wr_8 (by omega), e_206_39, if_neg (by decide)]
      obtain ⟨J1, q1, q2⟩ := c_204 (d := d + 8) (x := 9) s' (by omega)
      rw [q1, Option.bind_some]
      dsimp only
      obtain ⟨J2, q3, q4⟩ := c_194 (d := d + 4) h q2
      rw [q3, Option.bind_some]
      have z := ih m (k + 1) (j + 1) c S J2 q4 ht (by omega) (by omega) (by omega) hm (by omega) (by omega)
      show tMQ tk st ps J0 (m206 d m 1 J2) _ _ _ _ _
      cases e : tcn tk cnt r (k + 1) c with
      | inl e' =>
        rw [e] at z
        exact z
      | inr q =>
        rw [e] at z
        obtain ⟨J3, z1, z2⟩ := z
        refine ⟨J3, z1, ?_⟩
        show MC tk st ps J0 q.1 (q.2 ++ [10017] ++ List.replicate j 10017) S (8 - ((r + 1 : Nat) : Int) - (j : Int)) J3
        rw [List.append_assoc, show (8 : Int) - ((r + 1 : Nat) : Int) - (j : Int) = 8 - (r : Int) - ((j + 1 : Nat) : Int) by omega]
        exact z2
    · rw [if_neg a1]
      by_cases a2 : tk k = 20040
      · have hk1 := hin k (by omega)
        rw [if_pos a2, wayP k c _ _ m J s a2, e_206_19, h29, if_neg (by omega), if_pos rfl, wr_8 (by omega), e_206_39, if_pos rfl]
        obtain ⟨J1, q1, q2⟩ := c_204 (d := d + 8) (x := 12) s' (by omega)
        rw [q1, Option.bind_some]
        dsimp only
        obtain ⟨J2, q3, q4⟩ := c_194 (d := d + 4) h q2
        rw [q3, Option.bind_some, wr_id (z := m + 1) (by omega) (by omega)]
        have z := ih (m + 1) (k + 1) 0 c (12 :: (List.replicate j 9 ++ S)) J2 q4 (nt_c (by decide)) (by rw [List.length_cons]; omega) (by omega) (by omega) (by omega) (by omega) (by omega)
        show tMQ tk st ps J0 (m206 d (m + 1) 1 J2) _ _ _ _ _
        unfold tA
        cases e : tcn tk cnt r (k + 1) c with
        | inl e' =>
          rw [e] at z
          exact z
        | inr q =>
          rw [e] at z
          obtain ⟨J3, z1, z2⟩ := z
          obtain ⟨l0, l1, l2⟩ := tC_l (tk := tk) h5 r (by omega) (k + 1) c q.1 q.2 e
          rw [show List.replicate 0 (10017 : Int) = [] from rfl, List.append_nil, show (8 : Int) - (r : Int) - ((0 : Nat) : Int) = 8 - (r : Int) by omega] at z2
          have y := c_206l (d := d) (m := m + 1) (S := 12 :: (List.replicate j 9 ++ S)) h hR h4 h5 (by omega) ih (by rw [List.length_cons]; omega) (nt_c (by decide)) (nt_c (by decide)) (by omega) (by omega) (cnt - q.1) false q.1 q.2 J3 z2 (by rw [show (tpo false).length = 0 from rfl]; omega) l1 (by omega)
          rw [z1]
          show tMQ tk st ps J0 _ _ _ _ _ (tB (tal tk (tcn tk cnt r) (cnt - q.1) false q.1 q.2) fun k' c' => if tk k' = 20041 then .inr (k' + 1, c') else .inl (1, k'))
          have hA := tA_l (tk := tk) h5 r (by omega) (k + 1) c
          unfold tA at hA
          rw [e] at hA
          have hA : ∀ k' c', tal tk (tcn tk cnt r) (cnt - q.1) false q.1 q.2 = .inr (k', c') → k + 1 ≤ k' ∧ k' ≤ cnt ∧ c'.length + (k + 1) ≤ c.length + k' := hA
          cases e2 : tal tk (tcn tk cnt r) (cnt - q.1) false q.1 q.2 with
          | inl e' =>
            rw [e2] at y
            exact y
          | inr q2 =>
            rw [e2] at y
            obtain ⟨J4, y1, y2⟩ := y
            obtain ⟨g0, g1, g2⟩ := hA q2.1 q2.2 e2
            rw [show List.replicate 0 (10017 : Int) = [] from rfl, List.append_nil] at y2
            have x3 := c_197 (d := d + 8) (y := 41) hR y2 rfl (by decide)
            rw [y1]
            unfold mZ
            rw [if_neg (by omega), x3, Option.bind_some]
            dsimp only [tB]
            by_cases a3 : tk q2.1 = 20041
            · have hk3 := hin q2.1 (by omega)
              have y3 : MC tk st ps J0 q2.1 q2.2 (List.replicate j 9 ++ S) (8 - ((r + 1 : Nat) : Int)) (up (up J4 240 31 ((List.replicate j (9 : Int) ++ S).length : Int)) 240 29 (8 - ((r + 1 : Nat) : Int))) := ⟨Fr_up rfl (Fr_up rfl y2.1), MK_j (MK_j y2.2.1 _ _ (Or.inr rfl)) _ _ (Or.inl rfl), (up_j (by decide)).trans up_s, SC_cg _ (fun i _ => (up_c (by decide)).trans (up_c (by decide))) y2.2.2.2.1.2, up_s⟩
              rw [if_pos (show tk q2.1 = 20000 + 41 from a3), if_neg (by decide), if_pos a3, show wr (J4 240 31 - 1) = ((List.replicate j (9 : Int) ++ S).length : Int) by rw [y2.2.2.1, List.length_cons, wr_id (by omega) (by omega)]; omega, show wr (J4 240 29 - 1) = 8 - ((r + 1 : Nat) : Int) by rw [y2.2.2.2.2, wr_id (by omega) (by omega)]; omega, wr_id (z := m + 1 - 1) (by omega) (by omega)]
              obtain ⟨J5, p1, p2⟩ := c_205s (d := d + 7) j q2.2 S _ _ y3 (by omega) (by omega) ht (by omega)
              rw [p1, Option.bind_some]
              dsimp only
              obtain ⟨J6, p3, p4⟩ := c_194 (d := d + 4) h p2
              rw [p3, Option.bind_some]
              dsimp only
              refine ⟨J6, ?_, p4⟩
              rw [show m + 1 - 1 = m by omega]
            · rw [if_neg (show ¬ tk q2.1 = 20000 + 41 from a3), if_pos rfl, if_neg a3]
              obtain ⟨J', p1, p2⟩ := m_195 (d := d + 8) (x := 1) y2.2.1 (zs2_B y2.1)
              exact ⟨J', by rw [p1]; rfl, p2⟩
      · rw [if_neg a2]
        exact c_206c h hR h4 h5 s ht (by omega) hc hk (by omega) a1 a2
/-- a condition as a whole -/
theorem m_206 {d k : Nat} {c : List Int} {J : zI} (h : mTK tk st ps J0) (hR : ∀ k, tRg (tk k)) (h4 : cnt ≤ 400) (h5 : ∀ j, cnt ≤ j → tk j = -2) (hF : Fr zs2 J0 J) (s : MK tk st ps k c J) (h29 : J 240 29 = 0) (hc : c.length ≤ k) (hk : k ≤ cnt) :
    match tA tk cnt (tcn tk cnt 8) k c with
    | .inl e => ∃ J', cl (d + 10) 206 [.inr (some 240)] J = some (-1, J') ∧ MX J0 e.1 (st e.2) J'
    | .inr q => ∃ J', cl (d + 10) 206 [.inr (some 240)] J = some (0, J') ∧ Fr zs2 J0 J' ∧ MK tk st ps q.1 q.2 J' ∧ J' 240 29 = 0 := by
  have E : cl (d + 10) 206 [.inr (some 240)] J = m206 d 0 1 (up J 240 31 0) := by rw [e_206]; rfl
  have s0 : MC tk st ps J0 k c (List.replicate 0 9 ++ []) (8 - ((8 : Nat) : Int)) (up J 240 31 0) := ⟨Fr_up rfl hF, MK_j s _ _ (Or.inr rfl), up_s, trivial, (up_j (by decide)).trans h29⟩
  have hC := c_206 (d := d) h hR h4 h5 8 (Nat.le_refl _)
  have nn : ∀ x : Int, nt x [] := fun x y r e => by cases e
  have z := hC 0 k 0 c [] _ s0 (nn 9) (by decide) (by omega) hk (Int.le_refl _) (by decide) (by decide)
  rw [E]
  unfold tA
  cases e : tcn tk cnt 8 k c with
  | inl e' =>
    rw [e] at z
    exact z
  | inr q =>
    rw [e] at z
    obtain ⟨J3, z1, z2⟩ := z
    obtain ⟨l0, l1, l2⟩ := tC_l (tk := tk) h5 8 (Nat.le_refl _) k c q.1 q.2 e
    rw [show List.replicate 0 (10017 : Int) = [] from rfl, List.append_nil, show (8 : Int) - ((8 : Nat) : Int) - ((0 : Nat) : Int) = 8 - ((8 : Nat) : Int) by omega] at z2
    have y := c_206l (d := d) (m := 0) (S := []) h hR h4 h5 (Nat.le_refl _) hC (by decide) (nn 10) (nn 11) (Int.le_refl _) (by decide) (cnt - q.1) false q.1 q.2 J3 z2 (by rw [show (tpo false).length = 0 from rfl]; omega) l1 (by omega)
    rw [z1]
    show match tal tk (tcn tk cnt 8) (cnt - q.1) false q.1 q.2 with
      | .inl e => _
      | .inr q => _
    cases e2 : tal tk (tcn tk cnt 8) (cnt - q.1) false q.1 q.2 with
    | inl e' =>
      rw [e2] at y
      exact y
    | inr q2 =>
      rw [e2] at y
      obtain ⟨J4, y1, y2⟩ := y
      rw [show List.replicate 0 (10017 : Int) = [] from rfl, List.append_nil] at y2
      exact ⟨J4, by rw [y1]; rfl, y2.1, y2.2.1, y2.2.2.2.2⟩
