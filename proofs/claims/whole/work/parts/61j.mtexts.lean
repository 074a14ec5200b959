/-! THE MODEL'S TEXTS, line by line -/
variable {tk st : Nat → Int} {ps : Nat → Nat} {cnt : Nat} {J0 : zI} {P : List tQ → zI → Prop}
/-- the law's lines -/
def PL (ls : List tQ) (J : zI) : Prop := ∀ i, i < ls.length → J 251 (32 + i) = (ls.getD i tq0).1 - 10011 ∧ J 252 (32 + i) = (ls.getD i tq0).2.1 ∧ J 253 (32 + i) = (ls.getD i tq0).2.2.1 ∧ J 254 (32 + i) = (ls.getD i tq0).2.2.2.1
theorem PL_fr {ls : List tQ} {J J' : zI} (h : Fr zs2 J J') (p : PL ls J) : PL ls J' := fun i hi => by
  rw [h 251 (32 + i) rfl, h 252 (32 + i) rfl, h 253 (32 + i) rfl, h 254 (32 + i) rfl]
  exact p i hi
theorem Pst_L : Pst PL := fun _ _ _ h p => PL_fr (Fr_mono h zs1_2) p
def PLi (i : Nat) (v1 v2 v3 : Int) (ls : List tQ) (J : zI) : Prop := PL ls J ∧ J 251 (32 + i) = v1 ∧ J 252 (32 + i) = v2 ∧ J 253 (32 + i) = v3
theorem PLi_fr {i : Nat} {v1 v2 v3 : Int} {ls : List tQ} {J J' : zI} (h : Fr zs2 J J') (p : PLi i v1 v2 v3 ls J) : PLi i v1 v2 v3 ls J' := by
  obtain ⟨p1, p2, p3, p4⟩ := p
  exact ⟨PL_fr h p1, (h 251 (32 + i) rfl).trans p2, (h 252 (32 + i) rfl).trans p3, (h 253 (32 + i) rfl).trans p4⟩
theorem Pst_Li {i : Nat} {v1 v2 v3 : Int} : Pst (PLi i v1 v2 v3) := fun _ _ _ h p => PLi_fr (Fr_mono h zs1_2) p
theorem zsB_25 {a j : Nat} (h : a = 251 ∨ a = 252 ∨ a = 253 ∨ a = 254) (hj : 32 ≤ j) : zsB a j = true := by
  unfold zsB
  rw [decide_eq_true hj]
  rcases h with rfl | rfl | rfl | rfl <;> simp
theorem PL_up {ls : List tQ} {J : zI} {a i : Nat} {x : Int} (hi : ls.length ≤ i) (p : PL ls J) : PL ls (up J a (32 + i) x) := fun j hj => by
  rw [up_j (by omega), up_j (by omega), up_j (by omega), up_j (by omega)]
  exact p j hj
theorem m_207 {d k : Nat} {c : List Int} {J : zI} (hR : tRg (tk k)) (s : MK tk st ps k c J) : cl (d + 2) 207 [.inr (some 240)] J = some (if tbg 0 (tk k) = true then 1 else 0, J) := by
  obtain ⟨k2, -, -, -⟩ := mkd_no hR
  have e : tbg 0 (tk k) = decide (10011 ≤ tk k ∧ tk k ≤ 10013) := rfl
  rw [e_207, s.2.2.1, e]
  by_cases a : mkd (tk k) = 2
  · have hr := k2.mp a
    obtain ⟨y1, y2⟩ := wsg_l (tk k - 10000).toNat (by omega)
    rw [if_pos a, s.2.2.2.1 (by omega), mvl_w hr.1 hr.2, s_158, Option.bind_some]
    dsimp only
    by_cases b : 10011 ≤ tk k ∧ tk k ≤ 10013
    · rw [if_pos (show 0 ≤ wsg.getD (tk k - 10000).toNat 0 ∧ wsg.getD (tk k - 10000).toNat 0 ≤ 2 by rw [y1 (by omega)]; omega), if_neg (by decide), if_pos (decide_eq_true b)]
    · rw [if_neg (y2 (by omega)), if_pos rfl, if_neg (by rw [decide_eq_true_eq]; exact b)]
  · rw [if_neg a, if_neg]
    rw [decide_eq_true_eq]
    intro b
    exact a (k2.mpr (by omega))
theorem m_208 {d : Nat} (h : mTK tk st ps J0) (hR : ∀ k, tRg (tk k)) (h4 : cnt ≤ 400) (h5 : ∀ j, cnt ≤ j → tk j = -2) {k : Nat} {s : tZ} {J : zI} (hs : s.2.length = 0) (hc : s.1.length ≤ k) (hk : k ≤ cnt) (l : LM tk st ps PL J0 k s J) : mLp tk st ps PL J0 (cl (d + 11) 208 [.inr (some 240)] J) (tln tk (tbg 0) (tl0 tk cnt) 16 k s) := by
  rw [e_208]
  refine m_loop (Z := fun i J => zD (d + 11) 208 2 [some (.inr (some 240)), some (.inl (i : Int))] [] J) (L := tl0 tk cnt) (bg := tbg 0) h5 rfl (fun i k s J l hi a => ?_) (fun i k s J l a b => ?_) (fun k s J l b => ?_) (fun i k s J l hi hi16 b hk hc => ?_) (fun k s q hk hc e => ?_) 16 0 k s J rfl hs hc hk l
  · show zD _ _ _ _ _ _ = _
    rw [e_208_2, m_207 (d := d + 8) (hR k) l.2.1, a, Option.bind_some]
    dsimp only
    rw [if_pos (show (if tbg 0 (-2) = true then (1 : Int) else 0) = 0 from rfl), if_pos (show J 240 17 = 0 from l.2.1.2.2.1.trans (by rw [a]; rfl))]
  · show ∃ J', zD _ _ _ _ _ _ = _ ∧ _
    have k0 := (mkd_no (hR k)).2.2.2
    rw [e_208_2, m_207 (d := d + 8) (hR k) l.2.1, if_neg b, Option.bind_some]
    dsimp only
    rw [if_pos rfl, if_neg (fun e => a (k0.mp (l.2.1.2.2.1.symm.trans e)))]
    obtain ⟨J1, q1, q2⟩ := m_195 (d := d + 9) (x := 1) l.2.1 l.1
    exact ⟨J1, by rw [q1]; rfl, q2⟩
  · show ∃ J', zD _ _ _ _ _ _ = _ ∧ _
    rw [e_208_2, m_207 (d := d + 8) (hR k) l.2.1, if_pos b, Option.bind_some]
    dsimp only
    rw [if_neg (show ¬ (1 : Int) = 0 by decide), if_pos (show ((16 : Nat) : Int) = 16 from rfl)]
    obtain ⟨J1, q1, q2⟩ := m_195 (d := d + 9) (x := 3) l.2.1 l.1
    exact ⟨J1, by rw [q1]; rfl, q2⟩
  · have c32 : 0 ≤ ((32 + i : Nat) : Int) ∧ ((32 + i : Nat) : Int) < 48 := by omega
    have hw : 10011 ≤ tk k ∧ tk k ≤ 10013 := of_decide_eq_true b
    have v18 : J 240 18 = tk k - 10011 := by
      rw [l.2.1.2.2.2.1 (by rw [(mkd_no (hR k)).1.mpr (by omega)]; decide), mvl_w (by omega) (by omega), (wsg_l (tk k - 10000).toNat (by omega)).1 (by omega)]
      omega
    have E0 : zD (d + 11) 208 2 [some (.inr (some 240)), some (.inl (i : Int))] [] J = (cl (d + 10) 194 [.inr (some 240)] (up J 251 (32 + i) (J 240 18))).bind fun p3 => (cl (d + 10) 202 [.inr (some 240)] (up p3.2 252 (32 + i) (p3.2 240 28))).bind fun p4 => if p4.1 = -1 then some (-1, p4.2) else (cl (d + 10) 196 [.inr (some 240), .inl 3] (up p4.2 253 (32 + i) (p4.2 240 28))).bind fun p5 => if p5.1 = 0 then zD (d + 11) 208 54 [some (.inr (some 240)), some (.inl (i : Int)), some (.inl ((32 + i : Nat) : Int))] [] p5.2 else (cl (d + 10) 194 [.inr (some 240)] p5.2).bind fun p6 => (cl (d + 10) 206 [.inr (some 240)] p6.2).bind fun p7 => if p7.1 = -1 then some (-1, p7.2) else zD (d + 11) 208 54 [some (.inr (some 240)), some (.inl (i : Int)), some (.inl ((32 + i : Nat) : Int))] [] p7.2 := by
      rw [e_208_2, m_207 (d := d + 8) (hR k) l.2.1, if_pos b, Option.bind_some]
      dsimp only
      rw [if_neg (by decide), if_neg (by omega)]
      simp only [wr_32 hi16, if_pos c32, Int.toNat_natCast]
    show match tl0 tk cnt k s with
      | .inl e => ∃ J', zD (d + 11) 208 2 [some (.inr (some 240)), some (.inl (i : Int))] [] J = some (-1, J') ∧ MX J0 e.1 (st e.2) J'
      | .inr q => ∃ J', zD (d + 11) 208 2 [some (.inr (some 240)), some (.inl (i : Int))] [] J = zD (d + 11) 208 2 [some (.inr (some 240)), some (.inl ((i + 1 : Nat) : Int))] [] J' ∧ LM tk st ps PL J0 q.1 q.2 J'
    rw [E0, v18]
    have l1 : LM tk st ps (PLi i (tk k - 10011) (J 252 (32 + i)) (J 253 (32 + i))) J0 k s (up J 251 (32 + i) (tk k - 10011)) := ⟨Fr_up (zsB_25 (Or.inl rfl) (by omega)) l.1, MK_c l.2.1 251 _ _ (by decide) (by decide) (by decide), (up_c (by decide)).trans l.2.2.1, PL_up (by omega) l.2.2.2, up_s, up_c (by decide), up_c (by decide)⟩
    generalize up J 251 (32 + i) (tk k - 10011) = J1 at *
    obtain ⟨J2, q1, q2⟩ := m_194 (d := d + 5) (mTK_fr h l1.1) (LM_o l1)
    have l2 := LM_S Pst_Li l1 q2
    rw [q1, Option.bind_some]
    dsimp only
    rw [show J2 240 28 = (s.1.length : Int) from q2.2.2.2.2.2.1]
    have l3 : LM tk st ps (PLi i (tk k - 10011) (s.1.length : Int) (J 253 (32 + i))) J0 (k + 1) s (up J2 252 (32 + i) (s.1.length : Int)) := ⟨Fr_up (zsB_25 (Or.inr (Or.inl rfl)) (by omega)) l2.1, MK_c l2.2.1 252 _ _ (by decide) (by decide) (by decide), (up_c (by decide)).trans l2.2.2.1, PL_up (by omega) l2.2.2.2.1, (up_c (by decide)).trans l2.2.2.2.2.1, up_s, (up_c (by decide)).trans l2.2.2.2.2.2.2⟩
    clear q1 q2 l1 l2
    generalize up J2 252 (32 + i) (s.1.length : Int) = J3 at *
    have z := m_202 (d := d + 2) (mTK_fr h l3.1) hR h4 h5 (LM_o l3) (by omega) (by omega)
    unfold tl0
    cases e1 : tsm tk cnt (k + 1) s.1 with
    | inl e =>
      rw [e1] at z
      obtain ⟨J4, q1, q2⟩ := z
      exact ⟨J4, by rw [q1]; rfl, LM_X l3 q2⟩
    | inr q =>
      obtain ⟨m0, m1, m2⟩ := tsm_l h5 e1
      rw [e1] at z
      obtain ⟨J4, q1, q2⟩ := z
      have l4 := LM_S Pst_Li l3 q2
      rw [q1, Option.bind_some]
      dsimp only
      rw [if_neg (show ¬ (0 : Int) = -1 by decide), show J4 240 28 = (q.2.length : Int) from q2.2.2.2.2.2.1]
      have l5 : LM tk st ps (PLi i (tk k - 10011) (s.1.length : Int) (q.2.length : Int)) J0 q.1 (q.2, s.2) (up J4 253 (32 + i) (q.2.length : Int)) := ⟨Fr_up (zsB_25 (Or.inr (Or.inr (Or.inl rfl))) (by omega)) l4.1, MK_c l4.2.1 253 _ _ (by decide) (by decide) (by decide), (up_c (by decide)).trans l4.2.2.1, PL_up (by show s.2.length ≤ i; omega) l4.2.2.2.1, (up_c (by decide)).trans l4.2.2.2.2.1, (up_c (by decide)).trans l4.2.2.2.2.2.1, up_s⟩
      clear q1 q2 l3 l4
      generalize up J4 253 (32 + i) (q.2.length : Int) = J5 at *
      have x1 := m_196 (d := d + 9) (w := 14) (y := 3) (hR q.1) l5.2.1 (by decide) rfl
      have fin : ∀ (w : Nat × List Int) (J8 : zI), LM tk st ps (PLi i (tk k - 10011) (s.1.length : Int) (q.2.length : Int)) J0 w.1 (w.2, s.2) J8 → match tE tk 20059 w.1 (.inr (w.1 + 1, (w.2, s.2 ++ [(tk k, (s.1.length : Int), (q.2.length : Int), (w.2.length : Int), 0)]))) with
          | .inl e => ∃ J', zD (d + 11) 208 54 [some (.inr (some 240)), some (.inl (i : Int)), some (.inl ((32 + i : Nat) : Int))] [] J8 = some (-1, J') ∧ MX J0 e.1 (st e.2) J'
          | .inr q => ∃ J', zD (d + 11) 208 54 [some (.inr (some 240)), some (.inl (i : Int)), some (.inl ((32 + i : Nat) : Int))] [] J8 = zD (d + 11) 208 2 [some (.inr (some 240)), some (.inl ((i + 1 : Nat) : Int))] [] J' ∧ LM tk st ps PL J0 q.1 q.2 J' := fun w J8 l8 => by
        have l9 : LM tk st ps PL J0 w.1 (w.2, s.2 ++ [(tk k, (s.1.length : Int), (q.2.length : Int), (w.2.length : Int), 0)]) (up J8 254 (32 + i) (w.2.length : Int)) := ⟨Fr_up (zsB_25 (Or.inr (Or.inr (Or.inr rfl))) (by omega)) l8.1, MK_c l8.2.1 254 _ _ (by decide) (by decide) (by decide), (up_c (by decide)).trans l8.2.2.1, fun j hj => by
          have hj : j < s.2.length + 1 := by
            have : (s.2 ++ [(tk k, (s.1.length : Int), (q.2.length : Int), (w.2.length : Int), (0 : Int))]).length = s.2.length + 1 := by rw [List.length_append, List.length_singleton]
            rw [this] at hj
            exact hj
          by_cases hjs : j < s.2.length
          · rw [gQ_l hjs]
            exact PL_up (by show s.2.length ≤ i; omega) l8.2.2.2.1 j hjs
          · rw [show j = s.2.length by omega, gQ_r, ← hi]
            exact ⟨(up_c (by decide)).trans l8.2.2.2.2.1, (up_c (by decide)).trans l8.2.2.2.2.2.1, (up_c (by decide)).trans l8.2.2.2.2.2.2, up_s⟩⟩
        have x2 := m_197 (d := d + 9) (y := 59) (hR w.1) l9.2.1 rfl (by decide)
        rw [e_208_54, if_pos c32, Int.toNat_natCast, show J8 240 28 = (w.2.length : Int) from l8.2.1.2.2.2.2.1, x2, Option.bind_some]
        dsimp only
        unfold tE
        by_cases a : tk w.1 = 20059
        · rw [if_pos (show tk w.1 = 20000 + 59 from a), if_pos a, if_neg (show ¬ (1 : Int) = 0 by decide)]
          obtain ⟨J9, p1, p2⟩ := m_194 (d := d + 5) (mTK_fr h l9.1) (LM_o l9)
          rw [p1, Option.bind_some]
          dsimp only
          rw [wr_id (z := (i : Int) + 1) (by omega) (by omega)]
          exact ⟨J9, rfl, LM_S Pst_L l9 p2⟩
        · rw [if_neg (show ¬ tk w.1 = 20000 + 59 from a), if_pos rfl, if_neg a]
          obtain ⟨J9, p1, p2⟩ := m_195 (d := d + 9) (x := 1) l9.2.1 l9.1
          exact ⟨J9, by rw [p1]; rfl, p2⟩
      rw [x1, Option.bind_some]
      dsimp only
      by_cases a : tk q.1 = 10014
      · have hk1 : q.1 < cnt := by
          rcases Nat.lt_or_ge q.1 cnt with g | g
          · exact g
          · have := h5 q.1 g; omega
        rw [if_pos (show tk q.1 = 10000 + ((14 : Nat) : Int) from a), if_pos a, if_neg (show ¬ (1 : Int) = 0 by decide)]
        obtain ⟨J6, p1, p2⟩ := m_194 (d := d + 5) (mTK_fr h l5.1) (LM_o l5)
        have l6 := LM_S Pst_Li l5 p2
        rw [p1, Option.bind_some]
        dsimp only
        have y := m_206 (d := d) (cnt := cnt) (mTK_fr h l6.1) hR h4 h5 Fr_rf l6.2.1 l6.2.2.1 (by show q.2.length ≤ q.1 + 1; omega) (by omega)
        have y : match tA tk cnt (tcn tk cnt 8) (q.1 + 1) q.2 with
          | .inl e => ∃ J', cl (d + 10) 206 [.inr (some 240)] J6 = some (-1, J') ∧ MX J6 e.1 (st e.2) J'
          | .inr q => ∃ J', cl (d + 10) 206 [.inr (some 240)] J6 = some (0, J') ∧ Fr zs2 J6 J' ∧ MK tk st ps q.1 q.2 J' ∧ J' 240 29 = 0 := y
        cases e2 : tA tk cnt (tcn tk cnt 8) (q.1 + 1) q.2 with
        | inl e =>
          rw [e2] at y
          obtain ⟨J7, y1, y2⟩ := y
          exact ⟨J7, by rw [y1]; rfl, LM_X l6 y2⟩
        | inr w =>
          rw [e2] at y
          obtain ⟨J7, y1, y2, y3, y4⟩ := y
          rw [y1, Option.bind_some]
          dsimp only
          rw [if_neg (by decide)]
          exact fin w J7 ⟨Fr_tr l6.1 (zs2_B y2), y3, y4, PLi_fr y2 l6.2.2.2⟩
      · rw [if_neg (show ¬ tk q.1 = 10000 + ((14 : Nat) : Int) from a), if_neg a, if_pos rfl]
        exact fin q J5 l5
  · exact tLk_l h5 (x := 0) (nq := 0) (nc := 0) (nd := 0) hk hc e
/-! orders, birds, what comes behind what -/
theorem k17 {k : Nat} {c : List Int} {J : zI} (hR : ∀ k, tRg (tk k)) (s : MK tk st ps k c J) (a : ¬ tk k = -2) : ¬ J 240 17 = 0 := fun e => a ((mkd_no (hR k)).2.2.2.mp (s.2.2.1.symm.trans e))
theorem m_214 {d : Nat} (h : mTK tk st ps J0) (hR : ∀ k, tRg (tk k)) (h5 : ∀ j, cnt ≤ j → tk j = -2) (hb : (0 ≤ J0 240 6 ∧ J0 240 6 ≤ 14) ∧ (0 ≤ J0 240 7 ∧ J0 240 7 ≤ 10) ∧ (0 ≤ J0 240 8 ∧ J0 240 8 ≤ 12)) {k : Nat} {s : tZ} {J : zI} (hs : s.2.length = 0) (hc : s.1.length ≤ k) (hk : k ≤ cnt) (l : LM tk st ps PO J0 k s J) : mLp tk st ps PO J0 (cl (d + 9) 214 [.inr (some 240)] J) (tln tk (tbg 1) (tl1 tk (J0 240 6) (J0 240 7) (J0 240 8)) 16 k s) := by
  have x1 : ∀ {k : Nat} {c : List Int} {J : zI}, MK tk st ps k c J → cl (d + 8) 196 [.inr (some 240), .inl 18] J = some (if tk k = 10018 then 1 else 0, J) := fun {k c J} s => m_196 (d := d + 7) (w := 18) (y := 18) (hR k) s (by decide) rfl
  have hbg : ∀ t, tbg 1 t = decide (t = 10018) := fun t => rfl
  rw [e_214]
  refine m_loop (Z := fun i J => zD (d + 9) 214 2 [some (.inr (some 240)), some (.inl (i : Int))] [] J) (L := tl1 tk (J0 240 6) (J0 240 7) (J0 240 8)) (bg := tbg 1) h5 rfl (fun i k s J l hi a => ?_) (fun i k s J l a b => ?_) (fun k s J l b => ?_) (fun i k s J l hi hi16 b hk hc => ?_) (fun k s q hk hc e => ?_) 16 0 k s J rfl hs hc hk l
  · show zD _ _ _ _ _ _ = _
    rw [e_214_2, x1 l.2.1, a, Option.bind_some]
    dsimp only
    rw [if_pos (show (if (-2 : Int) = 10018 then (1 : Int) else 0) = 0 from rfl), if_pos (show J 240 17 = 0 from l.2.1.2.2.1.trans (by rw [a]; rfl))]
  · show ∃ J', zD _ _ _ _ _ _ = _ ∧ _
    rw [hbg, decide_eq_true_eq] at b
    rw [e_214_2, x1 l.2.1, if_neg b, Option.bind_some]
    dsimp only
    rw [if_pos rfl, if_neg (k17 hR l.2.1 a)]
    obtain ⟨J1, q1, q2⟩ := m_195 (d := d + 7) (x := 1) l.2.1 l.1
    exact ⟨J1, by rw [q1]; rfl, q2⟩
  · show ∃ J', zD _ _ _ _ _ _ = _ ∧ _
    rw [hbg, decide_eq_true_eq] at b
    rw [e_214_2, x1 l.2.1, if_pos b, Option.bind_some]
    dsimp only
    rw [if_neg (show ¬ (1 : Int) = 0 by decide), if_pos (show ((16 : Nat) : Int) = 16 from rfl)]
    obtain ⟨J1, q1, q2⟩ := m_195 (d := d + 7) (x := 3) l.2.1 l.1
    exact ⟨J1, by rw [q1]; rfl, q2⟩
  · have b' := b
    rw [hbg, decide_eq_true_eq] at b'
    have z := m_213 (d := d) h hR hb l (by omega)
    rw [← hi] at z
    have E0 : zD (d + 9) 214 2 [some (.inr (some 240)), some (.inl (i : Int))] [] J = (cl (d + 8) 213 [.inr (some 240), .inl ((64 + 4 * i : Nat) : Int)] J).bind fun p3 => if p3.1 = -1 then some (-1, p3.2) else zD (d + 9) 214 2 [some (.inr (some 240)), some (.inl ((i + 1 : Nat) : Int))] [] p3.2 := by
      rw [e_214_2, x1 l.2.1, if_pos b', Option.bind_some]
      dsimp only
      rw [if_neg (by decide), if_neg (by omega), wr_id (z := 4 * (i : Int)) (by omega) (by omega), wr_id (z := 64 + 4 * (i : Int)) (by omega) (by omega), wr_id (z := (i : Int) + 1) (by omega) (by omega)]
      rfl
    show match tl1 tk (J0 240 6) (J0 240 7) (J0 240 8) k s with
      | .inl e => ∃ J', zD (d + 9) 214 2 [some (.inr (some 240)), some (.inl (i : Int))] [] J = some (-1, J') ∧ MX J0 e.1 (st e.2) J'
      | .inr q => ∃ J', zD (d + 9) 214 2 [some (.inr (some 240)), some (.inl (i : Int))] [] J = zD (d + 9) 214 2 [some (.inr (some 240)), some (.inl ((i + 1 : Nat) : Int))] [] J' ∧ LM tk st ps PO J0 q.1 q.2 J'
    rw [E0]
    cases e : tl1 tk (J0 240 6) (J0 240 7) (J0 240 8) k s with
    | inl e' => rw [e] at z; obtain ⟨J', z1, z2⟩ := z; exact ⟨J', by rw [z1]; rfl, z2⟩
    | inr q => rw [e] at z; obtain ⟨J', z1, z2⟩ := z; exact ⟨J', by rw [z1]; rfl, z2⟩
  · exact tLk_l h5 (x := 1) (nq := J0 240 6) (nc := J0 240 7) (nd := J0 240 8) hk hc e
theorem zlast_cg' {f f' s s' : Nat → Int} {b df : Int} : ∀ n : Nat, (∀ i, i < n → f i = f' i ∧ s i = s' i) → zlast f s b df n = zlast f' s' b df n
  | 0, _ => rfl
  | n + 1, h => by
    obtain ⟨h1, h2⟩ := h n (by omega)
    rw [zlast, zlast, h1, h2, zlast_cg' n fun i hi => h i (by omega)]
theorem zset_cg' {f f' s s' : Nat → Int} {b : Int} : ∀ n : Nat, (∀ i, i < n → f i = f' i ∧ s i = s' i) → zset f s b n = zset f' s' b n
  | 0, _ => rfl
  | n + 1, h => by
    obtain ⟨h1, h2⟩ := h n (by omega)
    rw [zset, zset, h1, h2, zset_cg' n fun i hi => h i (by omega)]
def PB (ls : List tQ) (J : zI) : Prop := ∀ b : Nat, b < 8 → J 259 (8 + b) = zlast (fun i => (ls.getD i tq0).1) (fun i => (ls.getD i tq0).2.1) b 0 ls.length ∧ J 260 (8 + b) + 5 = zlast (fun i => (ls.getD i tq0).1) (fun i => (ls.getD i tq0).2.2.1) b 5 ls.length
theorem Pst_B : Pst PB := fun ls J J' h p b hb => by
  rw [h 259 (8 + b) rfl, h 260 (8 + b) rfl]
  exact p b hb
def PA (ls : List tQ) (J : zI) : Prop := ∀ e : Nat, e < 12 → J 261 (12 + e) = zset (fun i => (ls.getD i tq0).1) (fun i => (ls.getD i tq0).2.1) e ls.length
theorem Pst_A : Pst PA := fun ls J J' h p b hb => by
  rw [h 261 (12 + b) rfl]
  exact p b hb
theorem zsB_8 {a j : Nat} (h : a = 259 ∨ a = 260) (hj : 8 ≤ j) : zsB a j = true := by
  unfold zsB
  rw [decide_eq_true hj]
  rcases h with rfl | rfl <;> simp
theorem zsB_12 {j : Nat} (hj : 12 ≤ j) : zsB 261 j = true := by
  unfold zsB
  rw [decide_eq_true hj]
  simp
theorem m_215 {d k : Nat} {s : tZ} {J : zI} (h : mTK tk st ps J0) (hR : ∀ k, tRg (tk k)) (l : LM tk st ps PB J0 k s J) : ML tk st ps PB J0 (cl (d + 8) 215 [.inr (some 240)] J) (tl2 tk k s) := by
  unfold tl2
  rw [e_215]
  rcases m_212 (d := d) (w := 8) (x := 10008) (y := 15) (lim := 8) h hR Pst_B l (by omega) (by decide) rfl rfl (tE tk 10003 (k + 1 + 1) (tN tk 10 (k + 1 + 1 + 1) (tE tk 10004 (k + 1 + 1 + 1 + 1) (tN tk 10 (k + 1 + 1 + 1 + 1 + 1) (tD tk s (k + 1 + 1 + 1 + 1 + 1 + 1) (tk (k + 1), tk (k + 1 + 1 + 1), tk (k + 1 + 1 + 1 + 1 + 1), 0, 0)))))) with ⟨e, J1, e1, e2, e3⟩ | ⟨J1, e0, e1, e2, l1, -⟩
  · rw [e1, show (7 : Int) = 8 - 1 from rfl, e2]
    exact ⟨J1, rfl, e3⟩
  rw [e1, show (7 : Int) = 8 - 1 from rfl, e2, Option.bind_some]
  dsimp only
  rw [if_neg (show ¬ tk (k + 1) = -1 by omega)]
  rcases m_212 (d := d) (w := 3) (x := 10003) (y := 10) (lim := 10) h hR Pst_B l1 (by omega) (by decide) rfl rfl (tE tk 10004 (k + 1 + 1 + 1 + 1) (tN tk 10 (k + 1 + 1 + 1 + 1 + 1) (tD tk s (k + 1 + 1 + 1 + 1 + 1 + 1) (tk (k + 1), tk (k + 1 + 1 + 1), tk (k + 1 + 1 + 1 + 1 + 1), 0, 0)))) with ⟨e, J2, f1, f2, f3⟩ | ⟨J2, f0, f1, f2, l2, -⟩
  · rw [f1, show (9 : Int) = 10 - 1 from rfl, f2]
    exact ⟨J2, rfl, f3⟩
  rw [f1, show (9 : Int) = 10 - 1 from rfl, f2, Option.bind_some]
  dsimp only
  rw [if_neg (show ¬ tk (k + 1 + 1 + 1) = -1 by omega)]
  rcases m_212 (d := d) (w := 4) (x := 10004) (y := 11) (lim := 10) h hR Pst_B l2 (by omega) (by decide) rfl rfl (tD tk s (k + 1 + 1 + 1 + 1 + 1 + 1) (tk (k + 1), tk (k + 1 + 1 + 1), tk (k + 1 + 1 + 1 + 1 + 1), 0, 0)) with ⟨e, J3, g1, g2, g3⟩ | ⟨J3, g0, g1, g2, l3, -⟩
  · rw [g1, g2]
    exact ⟨J3, rfl, g3⟩
  have hc8 : 0 ≤ 8 + tk (k + 1) ∧ 8 + tk (k + 1) < 16 := by omega
  have t8 : (8 + tk (k + 1)).toNat = 8 + (tk (k + 1)).toNat := by omega
  rw [g1, g2, Option.bind_some]
  dsimp only
  rw [if_neg (show ¬ tk (k + 1 + 1 + 1 + 1 + 1) = -1 by omega), wr_id (z := 8 + tk (k + 1)) (by omega) (by omega), if_pos hc8, if_pos hc8, t8, wr_id (z := tk (k + 1 + 1 + 1 + 1 + 1) - 5) (by omega) (by omega)]
  refine ML_w (m_211 (d := d + 1) h hR Pst_B ?_ ?_ ?_ ?_)
  · exact Fr_up (zsB_8 (Or.inr rfl) (by omega)) (Fr_up (zsB_8 (Or.inl rfl) (by omega)) l3.1)
  · exact MK_c (MK_c l3.2.1 259 _ _ (by decide) (by decide) (by decide)) 260 _ _ (by decide) (by decide) (by decide)
  · exact (up_c (by decide)).trans ((up_c (by decide)).trans l3.2.2.1)
  · intro b hb
    obtain ⟨p1, p2⟩ := l3.2.2.2 b hb
    rw [List.length_append, List.length_singleton, zlast, zlast, gQ_r]
    have cg1 : zlast (fun i => ((s.2 ++ [(tk (k + 1), tk (k + 1 + 1 + 1), tk (k + 1 + 1 + 1 + 1 + 1), (0 : Int), (0 : Int))]).getD i tq0).1) (fun i => ((s.2 ++ [(tk (k + 1), tk (k + 1 + 1 + 1), tk (k + 1 + 1 + 1 + 1 + 1), (0 : Int), (0 : Int))]).getD i tq0).2.1) b 0 s.2.length = zlast (fun i => (s.2.getD i tq0).1) (fun i => (s.2.getD i tq0).2.1) b 0 s.2.length := zlast_cg' _ fun i hi => by
      rw [gQ_l hi]; exact ⟨rfl, rfl⟩
    have cg2 : zlast (fun i => ((s.2 ++ [(tk (k + 1), tk (k + 1 + 1 + 1), tk (k + 1 + 1 + 1 + 1 + 1), (0 : Int), (0 : Int))]).getD i tq0).1) (fun i => ((s.2 ++ [(tk (k + 1), tk (k + 1 + 1 + 1), tk (k + 1 + 1 + 1 + 1 + 1), (0 : Int), (0 : Int))]).getD i tq0).2.2.1) b 5 s.2.length = zlast (fun i => (s.2.getD i tq0).1) (fun i => (s.2.getD i tq0).2.2.1) b 5 s.2.length := zlast_cg' _ fun i hi => by
      rw [gQ_l hi]; exact ⟨rfl, rfl⟩
    rw [cg1, cg2, ← p1, ← p2]
    by_cases hbb : tk (k + 1) = (b : Int)
    · rw [if_pos hbb, if_pos hbb, hbb, Int.toNat_natCast, up_s, up_c (by decide), up_s]
      dsimp only
      omega
    · rw [if_neg hbb, if_neg hbb, up_c (by decide), up_j (by omega), up_j (by omega), up_c (by decide)]
      exact ⟨rfl, rfl⟩
theorem m_217 {d k : Nat} {s : tZ} {J : zI} (h : mTK tk st ps J0) (hR : ∀ k, tRg (tk k)) (hb : 0 ≤ J0 240 8 ∧ J0 240 8 ≤ 12) (l : LM tk st ps PA J0 k s J) : ML tk st ps PA J0 (cl (d + 8) 217 [.inr (some 240)] J) (tl3 tk (J0 240 8) k s) := by
  unfold tl3
  rw [e_217, show J 240 8 = J0 240 8 from l.1 240 8 rfl, wr_id (z := J0 240 8 - 1) (by omega) (by omega)]
  rcases m_212 (d := d) (w := 9) (x := 10009) (y := 16) (lim := J0 240 8) h hR Pst_A l (by omega) (by decide) rfl rfl (tE tk 10026 (k + 1 + 1) (tN tk (tk (k + 1)) (k + 1 + 1 + 1) (tD tk s (k + 1 + 1 + 1 + 1) (tk (k + 1), tk (k + 1 + 1 + 1), 0, 0, 0)))) with ⟨e, J1, e1, e2, e3⟩ | ⟨J1, e0, e1, e2, l1, -⟩
  · rw [e1, e2]
    exact ⟨J1, rfl, e3⟩
  rw [e1, e2, Option.bind_some]
  dsimp only
  rw [if_neg (show ¬ tk (k + 1) = -1 by omega), wr_id (z := tk (k + 1) - 1) (by omega) (by omega)]
  rcases m_212 (d := d) (w := 26) (x := 10026) (y := 26) (lim := tk (k + 1)) h hR Pst_A l1 (by omega) (by decide) rfl rfl (tD tk s (k + 1 + 1 + 1 + 1) (tk (k + 1), tk (k + 1 + 1 + 1), 0, 0, 0)) with ⟨e, J2, f1, f2, f3⟩ | ⟨J2, f0, f1, f2, l2, -⟩
  · rw [f1, f2]
    exact ⟨J2, rfl, f3⟩
  have hc12 : 0 ≤ 12 + tk (k + 1) ∧ 12 + tk (k + 1) < 24 := by omega
  have t12 : (12 + tk (k + 1)).toNat = 12 + (tk (k + 1)).toNat := by omega
  rw [f1, f2, Option.bind_some]
  dsimp only
  rw [if_neg (show ¬ tk (k + 1 + 1 + 1) = -1 by omega), wr_id (z := 12 + tk (k + 1)) (by omega) (by omega), if_pos hc12, if_pos hc12, t12]
  refine ML_w (m_211 (d := d + 1) h hR Pst_A ?_ ?_ ?_ ?_)
  · exact Fr_up (zsB_12 (by omega)) l2.1
  · exact MK_c l2.2.1 261 _ _ (by decide) (by decide) (by decide)
  · exact (up_c (by decide)).trans l2.2.2.1
  · intro b hb
    have p1 := l2.2.2.2 b hb
    rw [List.length_append, List.length_singleton, zset, gQ_r]
    have cg1 : zset (fun i => ((s.2 ++ [(tk (k + 1), tk (k + 1 + 1 + 1), (0 : Int), (0 : Int), (0 : Int))]).getD i tq0).1) (fun i => ((s.2 ++ [(tk (k + 1), tk (k + 1 + 1 + 1), (0 : Int), (0 : Int), (0 : Int))]).getD i tq0).2.1) b s.2.length = zset (fun i => (s.2.getD i tq0).1) (fun i => (s.2.getD i tq0).2.1) b s.2.length := zset_cg' _ fun i hi => by
      rw [gQ_l hi]; exact ⟨rfl, rfl⟩
    rw [cg1, ← p1]
    by_cases hbb : tk (k + 1) = (b : Int)
    · rw [if_pos hbb, hbb, Int.toNat_natCast, up_s]
    · rw [if_neg hbb, up_j (by omega)]
theorem m_216 {d : Nat} (h : mTK tk st ps J0) (hR : ∀ k, tRg (tk k)) (h5 : ∀ j, cnt ≤ j → tk j = -2) {k : Nat} {s : tZ} {J : zI} (hs : s.2.length = 0) (hc : s.1.length ≤ k) (hk : k ≤ cnt) (l : LM tk st ps PB J0 k s J) : mLp tk st ps PB J0 (zD (d + 9) 216 23 [some (.inr (some 240)), some (.inl 0)] [] J) (tln tk (tbg 2) (tl2 tk) 16 k s) := by
  have x1 : ∀ {k : Nat} {c : List Int} {J : zI}, MK tk st ps k c J → cl (d + 8) 196 [.inr (some 240), .inl 15] J = some (if tk k = 10008 then 1 else 0, J) := fun {k c J} s => m_196 (d := d + 7) (w := 8) (y := 15) (hR k) s (by decide) rfl
  have hbg : ∀ t, tbg 2 t = decide (t = 10008) := fun t => rfl
  refine m_loop (Z := fun i J => zD (d + 9) 216 23 [some (.inr (some 240)), some (.inl (i : Int))] [] J) (L := tl2 tk) (bg := tbg 2) h5 rfl (fun i k s J l hi a => ?_) (fun i k s J l a b => ?_) (fun k s J l b => ?_) (fun i k s J l hi hi16 b hk hc => ?_) (fun k s q hk hc e => ?_) 16 0 k s J rfl hs hc hk l
  · show zD _ _ _ _ _ _ = _
    rw [e_216_23, x1 l.2.1, a, Option.bind_some]
    dsimp only
    rw [if_pos (show (if (-2 : Int) = 10008 then (1 : Int) else 0) = 0 from rfl), if_pos (show J 240 17 = 0 from l.2.1.2.2.1.trans (by rw [a]; rfl))]
  · show ∃ J', zD _ _ _ _ _ _ = _ ∧ _
    rw [hbg, decide_eq_true_eq] at b
    rw [e_216_23, x1 l.2.1, if_neg b, Option.bind_some]
    dsimp only
    rw [if_pos rfl, if_neg (k17 hR l.2.1 a)]
    obtain ⟨J1, q1, q2⟩ := m_195 (d := d + 7) (x := 1) l.2.1 l.1
    exact ⟨J1, by rw [q1]; rfl, q2⟩
  · show ∃ J', zD _ _ _ _ _ _ = _ ∧ _
    rw [hbg, decide_eq_true_eq] at b
    rw [e_216_23, x1 l.2.1, if_pos b, Option.bind_some]
    dsimp only
    rw [if_neg (show ¬ (1 : Int) = 0 by decide), if_pos (show ((16 : Nat) : Int) = 16 from rfl)]
    obtain ⟨J1, q1, q2⟩ := m_195 (d := d + 7) (x := 3) l.2.1 l.1
    exact ⟨J1, by rw [q1]; rfl, q2⟩
  · have b' := b
    rw [hbg, decide_eq_true_eq] at b'
    have z := m_215 (d := d) h hR l
    have E0 : zD (d + 9) 216 23 [some (.inr (some 240)), some (.inl (i : Int))] [] J = (cl (d + 8) 215 [.inr (some 240)] J).bind fun p3 => if p3.1 = -1 then some (-1, p3.2) else zD (d + 9) 216 23 [some (.inr (some 240)), some (.inl ((i + 1 : Nat) : Int))] [] p3.2 := by
      rw [e_216_23, x1 l.2.1, if_pos b', Option.bind_some]
      dsimp only
      rw [if_neg (by decide), if_neg (by omega), wr_id (z := (i : Int) + 1) (by omega) (by omega)]
      rfl
    show match tl2 tk k s with
      | .inl e => ∃ J', zD (d + 9) 216 23 [some (.inr (some 240)), some (.inl (i : Int))] [] J = some (-1, J') ∧ MX J0 e.1 (st e.2) J'
      | .inr q => ∃ J', zD (d + 9) 216 23 [some (.inr (some 240)), some (.inl (i : Int))] [] J = zD (d + 9) 216 23 [some (.inr (some 240)), some (.inl ((i + 1 : Nat) : Int))] [] J' ∧ LM tk st ps PB J0 q.1 q.2 J'
    rw [E0]
    cases e : tl2 tk k s with
    | inl e' => rw [e] at z; obtain ⟨J', z1, z2⟩ := z; exact ⟨J', by rw [z1]; rfl, z2⟩
    | inr q => rw [e] at z; obtain ⟨J', z1, z2⟩ := z; exact ⟨J', by rw [z1]; rfl, z2⟩
  · exact tLk_l h5 (x := 2) (nq := 0) (nc := 0) (nd := 0) hk hc e
theorem m_218 {d : Nat} (h : mTK tk st ps J0) (hR : ∀ k, tRg (tk k)) (h5 : ∀ j, cnt ≤ j → tk j = -2) (hb : 0 ≤ J0 240 8 ∧ J0 240 8 ≤ 12) {k : Nat} {s : tZ} {J : zI} (hs : s.2.length = 0) (hc : s.1.length ≤ k) (hk : k ≤ cnt) (l : LM tk st ps PA J0 k s J) : mLp tk st ps PA J0 (zD (d + 9) 218 16 [some (.inr (some 240)), some (.inl 0)] [] J) (tln tk (tbg 3) (tl3 tk (J0 240 8)) 16 k s) := by
  have x1 : ∀ {k : Nat} {c : List Int} {J : zI}, MK tk st ps k c J → cl (d + 8) 196 [.inr (some 240), .inl 16] J = some (if tk k = 10009 then 1 else 0, J) := fun {k c J} s => m_196 (d := d + 7) (w := 9) (y := 16) (hR k) s (by decide) rfl
  have hbg : ∀ t, tbg 3 t = decide (t = 10009) := fun t => rfl
  refine m_loop (Z := fun i J => zD (d + 9) 218 16 [some (.inr (some 240)), some (.inl (i : Int))] [] J) (L := tl3 tk (J0 240 8)) (bg := tbg 3) h5 rfl (fun i k s J l hi a => ?_) (fun i k s J l a b => ?_) (fun k s J l b => ?_) (fun i k s J l hi hi16 b hk hc => ?_) (fun k s q hk hc e => ?_) 16 0 k s J rfl hs hc hk l
  · show zD _ _ _ _ _ _ = _
    rw [e_218_16, x1 l.2.1, a, Option.bind_some]
    dsimp only
    rw [if_pos (show (if (-2 : Int) = 10009 then (1 : Int) else 0) = 0 from rfl), if_pos (show J 240 17 = 0 from l.2.1.2.2.1.trans (by rw [a]; rfl))]
  · show ∃ J', zD _ _ _ _ _ _ = _ ∧ _
    rw [hbg, decide_eq_true_eq] at b
    rw [e_218_16, x1 l.2.1, if_neg b, Option.bind_some]
    dsimp only
    rw [if_pos rfl, if_neg (k17 hR l.2.1 a)]
    obtain ⟨J1, q1, q2⟩ := m_195 (d := d + 7) (x := 1) l.2.1 l.1
    exact ⟨J1, by rw [q1]; rfl, q2⟩
  · show ∃ J', zD _ _ _ _ _ _ = _ ∧ _
    rw [hbg, decide_eq_true_eq] at b
    rw [e_218_16, x1 l.2.1, if_pos b, Option.bind_some]
    dsimp only
    rw [if_neg (show ¬ (1 : Int) = 0 by decide), if_pos (show ((16 : Nat) : Int) = 16 from rfl)]
    obtain ⟨J1, q1, q2⟩ := m_195 (d := d + 7) (x := 3) l.2.1 l.1
    exact ⟨J1, by rw [q1]; rfl, q2⟩
  · have b' := b
    rw [hbg, decide_eq_true_eq] at b'
    have z := m_217 (d := d) h hR hb l
    have E0 : zD (d + 9) 218 16 [some (.inr (some 240)), some (.inl (i : Int))] [] J = (cl (d + 8) 217 [.inr (some 240)] J).bind fun p3 => if p3.1 = -1 then some (-1, p3.2) else zD (d + 9) 218 16 [some (.inr (some 240)), some (.inl ((i + 1 : Nat) : Int))] [] p3.2 := by
      rw [e_218_16, x1 l.2.1, if_pos b', Option.bind_some]
      dsimp only
      rw [if_neg (by decide), if_neg (by omega), wr_id (z := (i : Int) + 1) (by omega) (by omega)]
      rfl
    show match tl3 tk (J0 240 8) k s with
      | .inl e => ∃ J', zD (d + 9) 218 16 [some (.inr (some 240)), some (.inl (i : Int))] [] J = some (-1, J') ∧ MX J0 e.1 (st e.2) J'
      | .inr q => ∃ J', zD (d + 9) 218 16 [some (.inr (some 240)), some (.inl (i : Int))] [] J = zD (d + 9) 218 16 [some (.inr (some 240)), some (.inl ((i + 1 : Nat) : Int))] [] J' ∧ LM tk st ps PA J0 q.1 q.2 J'
    rw [E0]
    cases e : tl3 tk (J0 240 8) k s with
    | inl e' => rw [e] at z; obtain ⟨J', z1, z2⟩ := z; exact ⟨J', by rw [z1]; rfl, z2⟩
    | inr q => rw [e] at z; obtain ⟨J', z1, z2⟩ := z; exact ⟨J', by rw [z1]; rfl, z2⟩
  · exact tLk_l h5 (x := 3) (nq := 0) (nc := 0) (nd := J0 240 8) hk hc e
