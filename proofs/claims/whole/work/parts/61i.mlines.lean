/-! THE MODEL'S LINES -/
def LM (tk st : Nat → Int) (ps : Nat → Nat) (P : List tQ → zI → Prop) (J0 : zI) (k : Nat) (s : tZ) (J : zI) : Prop := Fr zsB J0 J ∧ MK tk st ps k s.1 J ∧ J 240 29 = 0 ∧ P s.2 J
def ML (tk st : Nat → Int) (ps : Nat → Nat) (P : List tQ → zI → Prop) (J0 : zI) (o : zO) (r : tS) : Prop := match r with
  | .inl e => ∃ J', o = some (-1, J') ∧ MX J0 e.1 (st e.2) J'
  | .inr q => ∃ J', o = some (0, J') ∧ LM tk st ps P J0 q.1 q.2 J'
/-- P lies outside what a token changes -/
def Pst (P : List tQ → zI → Prop) : Prop := ∀ ls J J', Fr zs1 J J' → P ls J → P ls J'
variable {tk st : Nat → Int} {ps : Nat → Nat} {cnt : Nat} {J0 : zI} {P : List tQ → zI → Prop}
theorem LM_S {k k' : Nat} {s : tZ} {c' : List Int} {J J' : zI} (hP : Pst P) (l : LM tk st ps P J0 k s J) (m : MS tk st ps J k' c' J') : LM tk st ps P J0 k' (c', s.2) J' :=
  ⟨Fr_tr l.1 (MS_B m), m.2, (m.1 240 29 rfl).trans l.2.2.1, hP _ _ _ m.1 l.2.2.2⟩
theorem LM_X {k : Nat} {s : tZ} {J J' : zI} {g p : Int} (l : LM tk st ps P J0 k s J) (x : MX J g p J') : MX J0 g p J' := ⟨Fr_tr l.1 x.1, x.2⟩
theorem LM_o {k : Nat} {s : tZ} {J : zI} (l : LM tk st ps P J0 k s J) : MS tk st ps J k s.1 J := ⟨Fr_rf, l.2.1⟩
/-- a number below lim -/
theorem m_210 {d k : Nat} {s : tZ} {J : zI} {lim : Int} (h : mTK tk st ps J0) (hR : ∀ k, tRg (tk k)) (hP : Pst P) (l : LM tk st ps P J0 k s J) (hl : -2000000 ≤ lim ∧ lim ≤ 20000) (r : tS) :
    (∃ e J', tN tk lim k r = .inl e ∧ cl (d + 6) 210 [.inr (some 240), .inl 0, .inl (lim - 1)] J = some (-1, J') ∧ MX J0 e.1 (st e.2) J') ∨
    (∃ J', (0 ≤ tk k ∧ tk k ≤ 9999 ∧ tk k < lim) ∧ tN tk lim k r = r ∧ cl (d + 6) 210 [.inr (some 240), .inl 0, .inl (lim - 1)] J = some (tk k, J') ∧ LM tk st ps P J0 (k + 1) s J' ∧ Fr zs1 J J') := by
  obtain ⟨k2, k3, k4, k0⟩ := mkd_no (hR k)
  have s3 := l.2.1.2.2.1
  have s4 := l.2.1.2.2.2.1
  unfold tN
  rw [e_210, s3]
  by_cases a : mkd (tk k) = 3
  · have hr := k3.mp a
    rw [if_pos a, s4 (by omega), mvl_n hr.2, s_158, Option.bind_some, if_neg (show ¬ (tk k < 0 ∨ 10000 ≤ tk k) by omega)]
    dsimp only
    by_cases b : tk k < lim
    · rw [if_pos (show 0 ≤ tk k ∧ tk k ≤ lim - 1 by omega), if_pos b, if_neg (show ¬ (1 : Int) = 0 by decide)]
      obtain ⟨J1, q1, q2⟩ := m_194 (d := d) (mTK_fr h l.1) (LM_o l)
      rw [q1, Option.bind_some]
      exact Or.inr ⟨J1, by omega, rfl, by rw [s4 (by omega), mvl_n hr.2], LM_S hP l q2, q2.1⟩
    · rw [if_neg (show ¬ (0 ≤ tk k ∧ tk k ≤ lim - 1) by omega), if_neg b, if_pos rfl]
      obtain ⟨J1, q1, q2⟩ := m_195 (d := d + 4) (x := 2) l.2.1 l.1
      rw [q1]
      exact Or.inl ⟨_, J1, rfl, rfl, q2⟩
  · have hr : ¬ (0 ≤ tk k ∧ tk k ≤ 9999) := fun e => a (k3.mpr e)
    rw [if_neg a, if_pos (show tk k < 0 ∨ 10000 ≤ tk k by omega)]
    obtain ⟨J1, q1, q2⟩ := m_195 (d := d + 4) (x := 1) l.2.1 l.1
    rw [q1]
    exact Or.inl ⟨_, J1, rfl, rfl, q2⟩
/-- a word and a number -/
theorem m_212 {d k w : Nat} {s : tZ} {J : zI} {x y lim : Int} (h : mTK tk st ps J0) (hR : ∀ k, tRg (tk k)) (hP : Pst P) (l : LM tk st ps P J0 k s J) (hl : -2000000 ≤ lim ∧ lim ≤ 20000) (hw : w < 27) (hy : y = wsg.getD w 0) (hx : x = 10000 + (w : Int)) (r : tS) :
    (∃ e J', tE tk x k (tN tk lim (k + 1) r) = .inl e ∧ cl (d + 7) 212 [.inr (some 240), .inl y, .inl 0, .inl (lim - 1)] J = some (-1, J') ∧ MX J0 e.1 (st e.2) J') ∨
    (∃ J', (0 ≤ tk (k + 1) ∧ tk (k + 1) ≤ 9999 ∧ tk (k + 1) < lim) ∧ tE tk x k (tN tk lim (k + 1) r) = r ∧ cl (d + 7) 212 [.inr (some 240), .inl y, .inl 0, .inl (lim - 1)] J = some (tk (k + 1), J') ∧ LM tk st ps P J0 (k + 1 + 1) s J' ∧ Fr zs1 J J') := by
  have x1 := m_196 (d := d + 5) (hR k) l.2.1 hw hy
  unfold tE
  rw [e_212, x1, Option.bind_some, ← hx]
  dsimp only
  by_cases a : tk k = x
  · rw [if_pos a, if_pos a, if_neg (show ¬ (1 : Int) = 0 by decide)]
    obtain ⟨J1, q1, q2⟩ := m_194 (d := d + 1) (mTK_fr h l.1) (LM_o l)
    rw [q1, Option.bind_some]
    dsimp only
    rcases m_210 (d := d) h hR hP (LM_S hP l q2) hl r with ⟨e, J2, e1, e2, e3⟩ | ⟨J2, e1, e2, e3, e4, e5⟩
    · exact Or.inl ⟨e, J2, e1, by rw [e2]; rfl, e3⟩
    · exact Or.inr ⟨J2, e1, e2, by rw [e3]; rfl, e4, Fr_tr q2.1 e5⟩
  · rw [if_neg a, if_neg a, if_pos rfl]
    obtain ⟨J1, q1, q2⟩ := m_195 (d := d + 5) (x := 1) l.2.1 l.1
    rw [q1]
    exact Or.inl ⟨_, J1, rfl, rfl, q2⟩
/-- the end of a line -/
theorem m_211 {d k : Nat} {s : tZ} {J : zI} {q : tQ} (h : mTK tk st ps J0) (hR : ∀ k, tRg (tk k)) (hP : Pst P) (hF : Fr zsB J0 J) (hK : MK tk st ps k s.1 J) (h29 : J 240 29 = 0) (hq : P (s.2 ++ [q]) J) : ML tk st ps P J0 (cl (d + 6) 211 [.inr (some 240), .inl 59] J) (tD tk s k q) := by
  have x1 := m_197 (d := d + 4) (y := 59) (hR k) hK rfl (by decide)
  have l : LM tk st ps P J0 k (s.1, s.2 ++ [q]) J := ⟨hF, hK, h29, hq⟩
  unfold tD tE
  rw [e_211, x1, Option.bind_some]
  dsimp only
  by_cases a : tk k = 20059
  · rw [if_pos (show tk k = 20000 + 59 from a), if_neg (by decide), if_pos a]
    obtain ⟨J1, q1, q2⟩ := m_194 (d := d) (mTK_fr h hF) (LM_o l)
    rw [q1, Option.bind_some]
    exact ⟨J1, rfl, LM_S hP l q2⟩
  · rw [if_neg (show ¬ tk k = 20000 + 59 from a), if_pos rfl, if_neg a]
    obtain ⟨J1, q1, q2⟩ := m_195 (d := d + 4) (x := 1) hK hF
    rw [q1]
    exact ⟨J1, rfl, q2⟩
/-! orders -/
def PO (ls : List tQ) (J : zI) : Prop := ∀ i, i < ls.length → J 258 (64 + 4 * i) = (ls.getD i tq0).1 ∧ J 258 (64 + 4 * i + 1) = (ls.getD i tq0).2.1 ∧ J 258 (64 + 4 * i + 2) = (ls.getD i tq0).2.2.2.2 ∧ ((ls.getD i tq0).2.2.2.1 = -1 ∨ J 258 (64 + 4 * i + 3) = (ls.getD i tq0).2.2.2.1)
theorem Pst_O : Pst PO := fun ls J J' h p i hi => by
  rw [h 258 (64 + 4 * i) rfl, h 258 (64 + 4 * i + 1) rfl, h 258 (64 + 4 * i + 2) rfl, h 258 (64 + 4 * i + 3) rfl]
  exact p i hi
theorem zsB_258 {j : Nat} (h : 64 ≤ j) : zsB 258 j = true := by
  unfold zsB
  rw [decide_eq_true h]
  simp
theorem up_258 {k i : Nat} {s : tZ} {J : zI} {x : Int} (l : LM tk st ps PO J0 k s J) (hi : 64 + 4 * s.2.length ≤ i) : LM tk st ps PO J0 k s (up J 258 i x) :=
  ⟨Fr_up (zsB_258 (by omega)) l.1, MK_c l.2.1 258 _ _ (by decide) (by decide) (by decide), (up_c (by decide)).trans l.2.2.1, fun j hj => by
    rw [up_j (by omega), up_j (by omega), up_j (by omega), up_j (by omega)]
    exact l.2.2.2 j hj⟩
theorem PO_1 {ls : List tQ} {J : zI} {q : tQ} (h : PO ls J) (h1 : J 258 (64 + 4 * ls.length) = q.1) (h2 : J 258 (64 + 4 * ls.length + 1) = q.2.1) (h3 : J 258 (64 + 4 * ls.length + 2) = q.2.2.2.2) (h4 : q.2.2.2.1 = -1 ∨ J 258 (64 + 4 * ls.length + 3) = q.2.2.2.1) : PO (ls ++ [q]) J := fun i hi => by
  rw [List.length_append, List.length_singleton] at hi
  by_cases hs : i < ls.length
  · rw [gQ_l hs]; exact h i hs
  · rw [show i = ls.length by omega, gQ_r]; exact ⟨h1, h2, h3, h4⟩
theorem wsg_o : ∀ i, i < 27 → ((20 ≤ i ∧ i ≤ 25) → wsg.getD i 0 = (i : Int)) ∧ (¬ (20 ≤ i ∧ i ≤ 25) → ¬ (20 ≤ wsg.getD i 0 ∧ wsg.getD i 0 ≤ 25)) := by decide +kernel
theorem wsg_l : ∀ i, i < 27 → ((11 ≤ i ∧ i ≤ 13) → wsg.getD i 0 = (i : Int) - 11) ∧ (¬ (11 ≤ i ∧ i ≤ 13) → ¬ (0 ≤ wsg.getD i 0 ∧ wsg.getD i 0 ≤ 2)) := by decide +kernel
theorem m_213 {d k : Nat} {s : tZ} {J : zI} (h : mTK tk st ps J0) (hR : ∀ k, tRg (tk k)) (hb : (0 ≤ J0 240 6 ∧ J0 240 6 ≤ 14) ∧ (0 ≤ J0 240 7 ∧ J0 240 7 ≤ 10) ∧ (0 ≤ J0 240 8 ∧ J0 240 8 ≤ 12)) (l : LM tk st ps PO J0 k s J) (hs : s.2.length < 16) : ML tk st ps PO J0 (cl (d + 8) 213 [.inr (some 240), .inl ((64 + 4 * s.2.length : Nat) : Int)] J) (tl1 tk (J0 240 6) (J0 240 7) (J0 240 8) k s) := by
  obtain ⟨b6, b7, b8⟩ := hb
  generalize hN : 64 + 4 * s.2.length = N at *
  have c0 : 0 ≤ (N : Int) ∧ (N : Int) < 128 := by omega
  have c1 : 0 ≤ (N : Int) + 1 ∧ (N : Int) + 1 < 128 := by omega
  have c2 : 0 ≤ (N : Int) + 2 ∧ (N : Int) + 2 < 128 := by omega
  have c3 : 0 ≤ (N : Int) + 3 ∧ (N : Int) + 3 < 128 := by omega
  have t1 : ((N : Int) + 1).toNat = N + 1 := by omega
  have t2 : ((N : Int) + 2).toNat = N + 2 := by omega
  have t3 : ((N : Int) + 3).toNat = N + 3 := by omega
  unfold tl1
  rw [e_213]
  simp only [if_pos c0, Int.toNat_natCast, up_s, wr_id (z := (N : Int) + 1) (by omega) (by omega), if_pos c1, t1, wr_id (z := (N : Int) + 2) (by omega) (by omega), if_pos c2, t2, wr_id (z := (N : Int) + 3) (by omega) (by omega), if_pos c3, t3]
  rcases m_212 (d := d) (w := 18) (x := 10018) (y := 18) (lim := 1000) h hR Pst_O l (by omega) (by decide) rfl rfl (tE tk 10019 (k + 1 + 1) (tN tk (J0 240 7) (k + 1 + 1 + 1) (if 10020 ≤ tk (k + 1 + 1 + 1 + 1) ∧ tk (k + 1 + 1 + 1 + 1) ≤ 10025 then
      (if tk (k + 1 + 1 + 1 + 1) = 10020 then tN tk (J0 240 6) (k + 1 + 1 + 1 + 1 + 1) (tD tk s (k + 1 + 1 + 1 + 1 + 1 + 1) (tk (k + 1), tk (k + 1 + 1 + 1), 0, tk (k + 1 + 1 + 1 + 1 + 1), 0))
      else if tk (k + 1 + 1 + 1 + 1) = 10022 then tN tk (J0 240 8) (k + 1 + 1 + 1 + 1 + 1) (tD tk s (k + 1 + 1 + 1 + 1 + 1 + 1) (tk (k + 1), tk (k + 1 + 1 + 1), 2, tk (k + 1 + 1 + 1 + 1 + 1), 2))
      else tD tk s (k + 1 + 1 + 1 + 1 + 1) (tk (k + 1), tk (k + 1 + 1 + 1), tac (tk (k + 1 + 1 + 1 + 1)), -1, tk (k + 1 + 1 + 1 + 1) - 10020))
    else .inl (1, k + 1 + 1 + 1 + 1)))) with ⟨e, J1, e1, e2, e3⟩ | ⟨J1, e0, e1, e2, l1, -⟩
  · rw [e1, show (999 : Int) = 1000 - 1 from rfl, e2, Option.bind_some]
    dsimp only
    rw [if_pos rfl]
    exact ⟨_, rfl, Fr_up (zsB_258 (by omega)) e3.1, (up_c (by decide)).trans e3.2.1, (up_c (by decide)).trans e3.2.2⟩
  rw [e1, show (999 : Int) = 1000 - 1 from rfl, e2, Option.bind_some]
  dsimp only
  have l1' : LM tk st ps PO J0 (k + 1 + 1) s (up J1 258 N (tk (k + 1))) := up_258 l1 (by omega)
  have v1 : up J1 258 N (tk (k + 1)) 258 N = tk (k + 1) := up_s
  have e7 : up J1 258 N (tk (k + 1)) 240 7 = J0 240 7 := l1'.1 240 7 rfl
  rw [if_neg (by omega), show J1 240 7 = J0 240 7 from l1.1 240 7 rfl, wr_id (z := J0 240 7 - 1) (by omega) (by omega)]
  clear e7 e2 l1
  generalize up J1 258 N (tk (k + 1)) = J1' at *
  rcases m_212 (d := d) (w := 19) (x := 10019) (y := 19) (lim := J0 240 7) h hR Pst_O l1' (by omega) (by decide) rfl rfl (if 10020 ≤ tk (k + 1 + 1 + 1 + 1) ∧ tk (k + 1 + 1 + 1 + 1) ≤ 10025 then
      (if tk (k + 1 + 1 + 1 + 1) = 10020 then tN tk (J0 240 6) (k + 1 + 1 + 1 + 1 + 1) (tD tk s (k + 1 + 1 + 1 + 1 + 1 + 1) (tk (k + 1), tk (k + 1 + 1 + 1), 0, tk (k + 1 + 1 + 1 + 1 + 1), 0))
      else if tk (k + 1 + 1 + 1 + 1) = 10022 then tN tk (J0 240 8) (k + 1 + 1 + 1 + 1 + 1) (tD tk s (k + 1 + 1 + 1 + 1 + 1 + 1) (tk (k + 1), tk (k + 1 + 1 + 1), 2, tk (k + 1 + 1 + 1 + 1 + 1), 2))
      else tD tk s (k + 1 + 1 + 1 + 1 + 1) (tk (k + 1), tk (k + 1 + 1 + 1), tac (tk (k + 1 + 1 + 1 + 1)), -1, tk (k + 1 + 1 + 1 + 1) - 10020))
    else .inl (1, k + 1 + 1 + 1 + 1)) with ⟨e, J2, f1, f2, f3⟩ | ⟨J2, f0, f1, f2, l2, g2⟩
  · rw [f1, f2, Option.bind_some]
    dsimp only
    rw [if_pos rfl]
    exact ⟨_, rfl, Fr_up (zsB_258 (by omega)) f3.1, (up_c (by decide)).trans f3.2.1, (up_c (by decide)).trans f3.2.2⟩
  rw [f1, f2, Option.bind_some]
  dsimp only
  have l2' : LM tk st ps PO J0 (k + 1 + 1 + 1 + 1) s (up J2 258 (N + 1) (tk (k + 1 + 1 + 1))) := up_258 l2 (by omega)
  have u1 : up J2 258 (N + 1) (tk (k + 1 + 1 + 1)) 258 N = tk (k + 1) := (up_j (by omega)).trans ((g2 258 N rfl).trans v1)
  have u2 : up J2 258 (N + 1) (tk (k + 1 + 1 + 1)) 258 (N + 1) = tk (k + 1 + 1 + 1) := up_s
  have s3 := l2.2.1.2.2.1
  have s4 := l2.2.1.2.2.2.1
  have s4' := l2'.2.1.2.2.2.1
  rw [if_neg (by omega)]
  clear f2 l2 g2 v1 l1'
  generalize up J2 258 (N + 1) (tk (k + 1 + 1 + 1)) = J2' at *
  generalize hkk : k + 1 + 1 + 1 + 1 = kk at *
  obtain ⟨k2, k3, k4, k0⟩ := mkd_no (hR kk)
  have flt : ¬ (10020 ≤ tk kk ∧ tk kk ≤ 10025) → ML tk st ps PO J0 ((cl (d + 7) 195 [.inr (some 240), .inl 1] J2').bind fun p => some (p.1, p.2)) (if 10020 ≤ tk kk ∧ tk kk ≤ 10025 then (if tk kk = 10020 then tN tk (J0 240 6) (kk + 1) (tD tk s (kk + 1 + 1) (tk (k + 1), tk (k + 1 + 1 + 1), 0, tk (kk + 1), 0)) else if tk kk = 10022 then tN tk (J0 240 8) (kk + 1) (tD tk s (kk + 1 + 1) (tk (k + 1), tk (k + 1 + 1 + 1), 2, tk (kk + 1), 2)) else tD tk s (kk + 1) (tk (k + 1), tk (k + 1 + 1 + 1), tac (tk kk), -1, tk kk - 10020)) else .inl (1, kk)) := fun n => by
    rw [if_neg n]
    obtain ⟨J3, q1, q2⟩ := m_195 (d := d + 6) (x := 1) l2'.2.1 l2'.1
    rw [q1]
    exact ⟨J3, rfl, q2⟩
  by_cases a : mkd (tk kk) = 2
  · have hr := k2.mp a
    have hv0 : J2 240 18 = wsg.getD (tk kk - 10000).toNat 0 := by rw [s4 (by omega), mvl_w hr.1 hr.2]
    have hv : J2' 240 18 = wsg.getD (tk kk - 10000).toNat 0 := by rw [s4' (by omega), mvl_w hr.1 hr.2]
    obtain ⟨y1, y2⟩ := wsg_o (tk kk - 10000).toNat (by omega)
    rw [if_pos (s3.trans a), hv0, s_158, Option.bind_some]
    dsimp only
    by_cases b : 10020 ≤ tk kk ∧ tk kk ≤ 10025
    · have hv2 : wsg.getD (tk kk - 10000).toNat 0 = tk kk - 10000 := by rw [y1 (by omega)]; omega
      rw [hv2] at hv ⊢
      rw [if_pos (show 20 ≤ tk kk - 10000 ∧ tk kk - 10000 ≤ 25 by omega), if_neg (by decide), if_pos b]
      obtain ⟨J3, q1, q2⟩ := m_194 (d := d + 2) (mTK_fr h l2'.1) (LM_o l2')
      have l3 := LM_S Pst_O l2' q2
      have u1 : J3 258 N = tk (k + 1) := (q2.1 258 N rfl).trans u1
      have u2 : J3 258 (N + 1) = tk (k + 1 + 1 + 1) := (q2.1 258 (N + 1) rfl).trans u2
      rw [q1, Option.bind_some]
      dsimp only
      simp only [hv, wr_id (z := tk kk - 10000 - 20) (by omega) (by omega)]
      have l3' : LM tk st ps PO J0 (kk + 1) s (up J3 258 (N + 2) (tk kk - 10000 - 20)) := up_258 l3 (by omega)
      have u1 : up J3 258 (N + 2) (tk kk - 10000 - 20) 258 N = tk (k + 1) := (up_j (by omega)).trans u1
      have u2 : up J3 258 (N + 2) (tk kk - 10000 - 20) 258 (N + 1) = tk (k + 1 + 1 + 1) := (up_j (by omega)).trans u2
      have u3 : up J3 258 (N + 2) (tk kk - 10000 - 20) 258 (N + 2) = tk kk - 10000 - 20 := up_s
      rw [show J3 240 6 = J0 240 6 from l3.1 240 6 rfl, show J3 240 8 = J0 240 8 from l3.1 240 8 rfl]
      clear q1 q2 l3 s3 s4 s4' hv hv0 l2'
      generalize up J3 258 (N + 2) (tk kk - 10000 - 20) = J3' at *
      -- a number, and the end
      have num : ∀ (lim : Int) (t w : Int), (0 ≤ lim ∧ lim ≤ 14) → w = tk kk - 10000 - 20 → ML tk st ps PO J0 ((cl (d + 7) 210 [.inr (some 240), .inl 0, .inl (lim - 1)] J3').bind fun p9 => if p9.1 = -1 then some (-1, up p9.2 258 (N + 3) p9.1) else (cl (d + 7) 211 [.inr (some 240), .inl 59] (up p9.2 258 (N + 3) p9.1)).bind fun p10 => some (p10.1, p10.2)) (tN tk lim (kk + 1) (tD tk s (kk + 1 + 1) (tk (k + 1), tk (k + 1 + 1 + 1), t, tk (kk + 1), w))) := fun lim t w hlim hw => by
        rcases m_210 (d := d + 1) (lim := lim) h hR Pst_O l3' (by omega) (tD tk s (kk + 1 + 1) (tk (k + 1), tk (k + 1 + 1 + 1), t, tk (kk + 1), w)) with ⟨e, J4, g1, g2, g3⟩ | ⟨J4, g0, g1, g2, l4, g4⟩
        · rw [g1, g2, Option.bind_some]
          dsimp only
          rw [if_pos rfl]
          exact ⟨_, rfl, Fr_up (zsB_258 (by omega)) g3.1, (up_c (by decide)).trans g3.2.1, (up_c (by decide)).trans g3.2.2⟩
        · rw [g1, g2, Option.bind_some]
          dsimp only
          rw [if_neg (by omega)]
          have l4' : LM tk st ps PO J0 (kk + 1 + 1) s (up J4 258 (N + 3) (tk (kk + 1))) := up_258 l4 (by omega)
          have fin := m_211 (d := d + 1) (q := (tk (k + 1), tk (k + 1 + 1 + 1), t, tk (kk + 1), w)) h hR Pst_O l4'.1 l4'.2.1 l4'.2.2.1 (PO_1 l4'.2.2.2 (by rw [hN]; exact (up_j (by omega)).trans ((g4 258 N rfl).trans u1)) (by rw [hN]; exact (up_j (by omega)).trans ((g4 258 (N + 1) rfl).trans u2)) (by rw [hN]; exact (up_j (by omega)).trans ((g4 258 (N + 2) rfl).trans (u3.trans hw.symm))) (Or.inr (by rw [hN]; exact up_s)))
          revert fin
          generalize cl (d + 7) 211 [.inr (some 240), .inl 59] (up J4 258 (N + 3) (tk (kk + 1))) = o
          generalize tD tk s (kk + 1 + 1) (tk (k + 1), tk (k + 1 + 1 + 1), t, tk (kk + 1), w) = r
          intro fin
          cases r with
          | inl e => obtain ⟨J5, x1, x2⟩ := fin; exact ⟨J5, by rw [x1]; rfl, x2⟩
          | inr e => obtain ⟨J5, x1, x2⟩ := fin; exact ⟨J5, by rw [x1]; rfl, x2⟩
      by_cases b1 : tk kk = 10020
      · rw [if_pos (show tk kk - 10000 - 20 = 0 by omega), if_pos b1, wr_id (z := J0 240 6 - 1) (by omega) (by omega)]
        exact num (J0 240 6) 0 0 (by omega) (by omega)
      · rw [if_neg (show ¬ tk kk - 10000 - 20 = 0 by omega), if_neg b1]
        by_cases b2 : tk kk = 10022
        · rw [if_pos (show tk kk - 10000 - 20 = 2 by omega), if_pos b2, wr_id (z := J0 240 8 - 1) (by omega) (by omega)]
          exact num (J0 240 8) 2 2 (by omega) (by omega)
        · rw [if_neg (show ¬ tk kk - 10000 - 20 = 2 by omega), if_neg b2, if_neg (by decide)]
          have l4' : LM tk st ps PO J0 (kk + 1) s (up J3' 258 (N + 3) 0) := up_258 l3' (by omega)
          have fin := m_211 (d := d + 1) (q := (tk (k + 1), tk (k + 1 + 1 + 1), tac (tk kk), -1, tk kk - 10020)) h hR Pst_O l4'.1 l4'.2.1 l4'.2.2.1 (PO_1 l4'.2.2.2 (by rw [hN]; exact (up_j (by omega)).trans u1) (by rw [hN]; exact (up_j (by omega)).trans u2) (by rw [hN]; exact (up_j (by omega)).trans (u3.trans (by show _ = tk kk - 10020; omega))) (Or.inl rfl))
          revert fin
          generalize cl (d + 7) 211 [.inr (some 240), .inl 59] (up J3' 258 (N + 3) 0) = o
          generalize tD tk s (kk + 1) (tk (k + 1), tk (k + 1 + 1 + 1), tac (tk kk), -1, tk kk - 10020) = r
          intro fin
          cases r with
          | inl e => obtain ⟨J5, x1, x2⟩ := fin; exact ⟨J5, by rw [x1]; rfl, x2⟩
          | inr e => obtain ⟨J5, x1, x2⟩ := fin; exact ⟨J5, by rw [x1]; rfl, x2⟩
    · have hv2 : ¬ (20 ≤ wsg.getD (tk kk - 10000).toNat 0 ∧ wsg.getD (tk kk - 10000).toNat 0 ≤ 25) := y2 (by omega)
      rw [if_neg hv2, if_pos rfl]
      exact flt b
  · rw [if_neg (fun e => a (s3.symm.trans e))]
    exact flt (fun e => a (k2.mpr (by omega)))
/-- an answer handed on -/
theorem ML_w {o : zO} {r : tS} (h : ML tk st ps P J0 o r) : ML tk st ps P J0 (o.bind fun p => some (p.1, p.2)) r := by
  cases r with
  | inl e => obtain ⟨J', x1, x2⟩ := h; exact ⟨J', by rw [x1]; rfl, x2⟩
  | inr e => obtain ⟨J', x1, x2⟩ := h; exact ⟨J', by rw [x1]; rfl, x2⟩
/-- a text's lines, where the model has a line's method z -/
def mLp (tk st : Nat → Int) (ps : Nat → Nat) (P : List tQ → zI → Prop) (J0 : zI) (o : zO) (r : Sum (Int × Nat) tZ) : Prop := match r with
  | .inl e => ∃ J', o = some (-1, J') ∧ MX J0 e.1 (st e.2) J'
  | .inr s => ∃ k' J', o = some ((s.2.length : Int), J') ∧ LM tk st ps P J0 k' s J'
theorem m_loop {bg : Int → Bool} {L : Nat → tZ → tS} {Z : Nat → zI → zO} (h5 : ∀ j, cnt ≤ j → tk j = -2) (bg2 : bg (-2) = false)
    (hend : ∀ i k s J, LM tk st ps P J0 k s J → i = s.2.length → tk k = -2 → Z i J = some ((i : Int), J))
    (hno : ∀ i k s J, LM tk st ps P J0 k s J → ¬ tk k = -2 → ¬ bg (tk k) = true → ∃ J', Z i J = some (-1, J') ∧ MX J0 1 (st k) J')
    (hfull : ∀ k s J, LM tk st ps P J0 k s J → bg (tk k) = true → ∃ J', Z 16 J = some (-1, J') ∧ MX J0 3 (st k) J')
    (hline : ∀ i k s J, LM tk st ps P J0 k s J → i = s.2.length → i < 16 → bg (tk k) = true → k < cnt → s.1.length ≤ k → match L k s with
      | .inl e => ∃ J', Z i J = some (-1, J') ∧ MX J0 e.1 (st e.2) J'
      | .inr q => ∃ J', Z i J = Z (i + 1) J' ∧ LM tk st ps P J0 q.1 q.2 J')
    (hL : ∀ k s q, k < cnt → s.1.length ≤ k → L k s = .inr q → k < q.1 ∧ q.1 ≤ cnt ∧ q.2.1.length ≤ q.1 ∧ q.2.2.length = s.2.length + 1) :
    ∀ (f i k : Nat) (s : tZ) (J : zI), i + f = 16 → s.2.length = i → s.1.length ≤ k → k ≤ cnt → LM tk st ps P J0 k s J → mLp tk st ps P J0 (Z i J) (tln tk bg L f k s) := fun f => by
  have hin : ∀ k, ¬ tk k = -2 → k < cnt := fun k hk => by
    rcases Nat.lt_or_ge k cnt with g | g
    · exact g
    · exact absurd (h5 k g) hk
  induction f with
  | zero =>
    intro i k s J hi hs hc hk l
    rw [tln_eq]
    by_cases a : tk k = -2
    · rw [if_pos a, hend i k s J l hs.symm a, ← hs]
      exact ⟨k, J, rfl, l⟩
    · rw [if_neg a]
      by_cases b : bg (tk k) = true
      · rw [if_pos b, show i = 16 by omega]
        exact hfull k s J l b
      · rw [if_neg b]
        exact hno i k s J l a b
  | succ f ih =>
    intro i k s J hi hs hc hk l
    rw [tln_eq]
    by_cases a : tk k = -2
    · rw [if_pos a, hend i k s J l hs.symm a, ← hs]
      exact ⟨k, J, rfl, l⟩
    · rw [if_neg a]
      by_cases b : bg (tk k) = true
      · rw [if_pos b]
        have z := hline i k s J l hs.symm (by omega) b (hin k a) hc
        have t := hL k s
        dsimp only
        cases e : L k s with
        | inl e' =>
          rw [e] at z
          exact z
        | inr q =>
          rw [e] at z
          obtain ⟨J', z1, z2⟩ := z
          obtain ⟨t0, t1, t2, t3⟩ := t q (hin k a) hc e
          rw [z1]
          exact ih (i + 1) q.1 q.2 J' (by omega) (by omega) t2 t1 z2
      · rw [if_neg b]
        exact hno i k s J l a b
