/-! THE LINES: what they tell (the fifth: the model's word of an order) -/
abbrev tQ := Int × Int × Int × Int × Int
abbrev tZ := List Int × List tQ
abbrev tS := Sum (Int × Nat) (Nat × tZ)
def tq0 : tQ := (0, 0, 0, 0, 0)
def tE (tk : Nat → Int) (x : Int) (k : Nat) (r : tS) : tS := if tk k = x then r else .inl (1, k)
def tN (tk : Nat → Int) (lim : Int) (k : Nat) (r : tS) : tS := if tk k < 0 ∨ 10000 ≤ tk k then .inl (1, k) else if tk k < lim then r else .inl (2, k)
def tD (tk : Nat → Int) (s : tZ) (k : Nat) (q : tQ) : tS := tE tk 20059 k (.inr (k + 1, (s.1, s.2 ++ [q])))
def tl0 (tk : Nat → Int) (cnt : Nat) (k : Nat) (s : tZ) : tS := match tsm tk cnt (k + 1) s.1 with
  | .inl e => .inl e
  | .inr q => (match (if tk q.1 = 10014 then tA tk cnt (tcn tk cnt 8) (q.1 + 1) q.2 else (.inr q : tR)) with
    | .inl e => .inl e
    | .inr w => tE tk 20059 w.1 (.inr (w.1 + 1, (w.2, s.2 ++ [(tk k, (s.1.length : Int), (q.2.length : Int), (w.2.length : Int), 0)]))))
def tac (t : Int) : Int := if t = 10020 then 0 else if t = 10021 then 1 else if t = 10022 then 2 else if t = 10023 then 2 else if t = 10024 then 3 else if t = 10025 then 4 else -1
def tl1 (tk : Nat → Int) (nq nc nd : Int) (k : Nat) (s : tZ) : tS :=
  tE tk 10018 k (tN tk 1000 (k + 1) (tE tk 10019 (k + 1 + 1) (tN tk nc (k + 1 + 1 + 1)
    (if 10020 ≤ tk (k + 1 + 1 + 1 + 1) ∧ tk (k + 1 + 1 + 1 + 1) ≤ 10025 then
      (if tk (k + 1 + 1 + 1 + 1) = 10020 then tN tk nq (k + 1 + 1 + 1 + 1 + 1) (tD tk s (k + 1 + 1 + 1 + 1 + 1 + 1) (tk (k + 1), tk (k + 1 + 1 + 1), 0, tk (k + 1 + 1 + 1 + 1 + 1), 0))
      else if tk (k + 1 + 1 + 1 + 1) = 10022 then tN tk nd (k + 1 + 1 + 1 + 1 + 1) (tD tk s (k + 1 + 1 + 1 + 1 + 1 + 1) (tk (k + 1), tk (k + 1 + 1 + 1), 2, tk (k + 1 + 1 + 1 + 1 + 1), 2))
      else tD tk s (k + 1 + 1 + 1 + 1 + 1) (tk (k + 1), tk (k + 1 + 1 + 1), tac (tk (k + 1 + 1 + 1 + 1)), -1, tk (k + 1 + 1 + 1 + 1) - 10020))
    else .inl (1, k + 1 + 1 + 1 + 1)))))
def tl2 (tk : Nat → Int) (k : Nat) (s : tZ) : tS :=
  tE tk 10008 k (tN tk 8 (k + 1) (tE tk 10003 (k + 1 + 1) (tN tk 10 (k + 1 + 1 + 1) (tE tk 10004 (k + 1 + 1 + 1 + 1) (tN tk 10 (k + 1 + 1 + 1 + 1 + 1) (tD tk s (k + 1 + 1 + 1 + 1 + 1 + 1) (tk (k + 1), tk (k + 1 + 1 + 1), tk (k + 1 + 1 + 1 + 1 + 1), 0, 0)))))))
def tl3 (tk : Nat → Int) (nd : Int) (k : Nat) (s : tZ) : tS :=
  tE tk 10009 k (tN tk nd (k + 1) (tE tk 10026 (k + 1 + 1) (tN tk (tk (k + 1)) (k + 1 + 1 + 1) (tD tk s (k + 1 + 1 + 1 + 1) (tk (k + 1), tk (k + 1 + 1 + 1), 0, 0, 0)))))
def tbg (x t : Int) : Bool := if x = 0 then decide (10011 ≤ t ∧ t ≤ 10013) else if x = 1 then decide (t = 10018) else if x = 2 then decide (t = 10008) else decide (t = 10009)
def tLn (a : Nat) (ls : List tQ) (I : zI) : Prop := I a 4 = (ls.length : Int) ∧ ∀ i, i < ls.length → I (a + 1) i = (ls.getD i tq0).1 ∧ I (a + 2) i = (ls.getD i tq0).2.1 ∧ I (a + 3) i = (ls.getD i tq0).2.2.1 ∧ I (a + 4) i = (ls.getD i tq0).2.2.2.1
theorem gQ_l {a b : List tQ} {i : Nat} (h : i < a.length) : (a ++ b).getD i tq0 = a.getD i tq0 := by
  rw [List.getD_eq_getElem?_getD, List.getD_eq_getElem?_getD, List.getElem?_append_left h]
theorem gQ_r {a : List tQ} {x : tQ} : (a ++ [x]).getD a.length tq0 = x := by
  rw [List.getD_eq_getElem?_getD, List.getElem?_append_right (Nat.le_refl _), Nat.sub_self]
  rfl
def LQ (a : Nat) (I0 : zI) (k : Nat) (s : tZ) (I : zI) : Prop := Ag tcB tfS I0 I ∧ CS I k s.1 I ∧ tLn a s.2 I
def CL (st : Nat → Int) (a : Nat) (I0 : zI) (o : zO) (r : tS) : Prop := match r with
  | .inl e => ∃ I', o = some (0, I') ∧ CX I0 e.1 (st e.2) I'
  | .inr q => ∃ I', o = some (1, I') ∧ LQ a I0 q.1 q.2 I'
theorem tfS_C {I0 I : zI} (h : Ag tcB tfS I0 I) : Ag tcB tfC I0 I := Ag_mono h (by decide) (by decide)
theorem tfS_B {I0 I : zI} (h : Ag [223] tfS I0 I) : Ag tcB tfS I0 I := Ag_mono h (by decide) (by decide)
variable {tk st : Nat → Int} {cnt : Nat} {n : Int} {I0 : zI}
theorem tLn_ag {a : Nat} {ls : List tQ} {I I' : zI} (ha : a = 218 ∨ a = 226) (h : Ag [223] tfS I I') (l : tLn a ls I) : tLn a ls I' := by
  unfold tLn at *
  rcases ha with rfl | rfl
  · rw [ag_c h 218 (by decide) (by decide), ag_c h (218 + 1) (by decide) (by decide), ag_c h (218 + 2) (by decide) (by decide), ag_c h (218 + 3) (by decide) (by decide), ag_c h (218 + 4) (by decide) (by decide)]
    exact l
  · rw [ag_c h 226 (by decide) (by decide), ag_c h (226 + 1) (by decide) (by decide), ag_c h (226 + 2) (by decide) (by decide), ag_c h (226 + 3) (by decide) (by decide), ag_c h (226 + 4) (by decide) (by decide)]
    exact l
theorem CS_0 {k : Nat} {c : List Int} {I I' : zI} (s : CS I k c I') : CS I' k c I' := ⟨Ag_rf, s.2⟩
theorem LQ_step {a k k' : Nat} {s : tZ} {c' : List Int} {I I' : zI} (ha : a = 218 ∨ a = 226) (h : LQ a I0 k s I) (c : CS I k' c' I') : LQ a I0 k' (c', s.2) I' :=
  ⟨Ag_tr h.1 (tfS_B c.1), CS_0 c, tLn_ag ha c.1 h.2.2⟩
theorem LQ_TK {a k : Nat} {s : tZ} {I : zI} (h : tTK tk st cnt n I0) (l : LQ a I0 k s I) : tTK tk st cnt n I := tTK_ag h (tfS_C l.1)
theorem LQ_X {a k : Nat} {s : tZ} {I I' : zI} {g p : Int} (l : LQ a I0 k s I) (x : CX I g p I') : CX I0 g p I' := ⟨Ag_tr (tfS_C l.1) x.1, x.2⟩
theorem CL_E {d a k : Nat} {s : tZ} {I : zI} {x : Int} {r : tS} {K : Int × zI → zO} (ha : a = 218 ∨ a = 226) (h : tTK tk st cnt n I0) (l : LQ a I0 k s I) (hk : k ≤ 3999) (hK : ∀ I1, LQ a I0 (k + 1) s I1 → CL st a I0 (K (1, I1)) r) : CL st a I0 ((cl (d + 2) 65 [.inr (some 213), .inl x] I).bind fun p => if p.1 = 0 then some (0, p.2) else K p) (tE tk x k r) := by
  have z := s_65 (d := d) (x := x) (LQ_TK h l) l.2.1 hk
  unfold tex at z
  unfold tE
  by_cases b : tk k = x
  · rw [if_pos b] at z ⊢
    obtain ⟨I', q1, q2⟩ := z
    rw [q1]
    exact hK I' (LQ_step ha l q2)
  · rw [if_neg b] at z ⊢
    obtain ⟨I', q1, q2⟩ := z
    rw [q1]
    exact ⟨I', rfl, LQ_X l q2⟩
theorem s_66 {d k : Nat} {c : List Int} {I : zI} {lim : Int} (h : tTK tk st cnt n I0) (s : CS I0 k c I) (hk : k ≤ 3999) : if tk k < 0 ∨ 10000 ≤ tk k then (∃ I', cl (d + 2) 66 [.inr (some 213), .inl lim] I = some (0, I') ∧ CX I0 1 (st k) I') else if tk k < lim then (∃ I', cl (d + 2) 66 [.inr (some 213), .inl lim] I = some (1, I') ∧ CS I0 (k + 1) c I' ∧ I' 213 6 = tk k) else (∃ I', cl (d + 2) 66 [.inr (some 213), .inl lim] I = some (0, I') ∧ CX I0 2 (st k) I') := by
  have E := e_66 (d := d + 1) (I := I) (x1 := lim)
  rw [s_63 h s, Option.bind_some] at E
  dsimp only at E
  by_cases a : tk k < 0
  · rw [if_pos a] at E
    rw [if_pos (Or.inl a), E]
    exact CO_64 (x := 1) h s
  · rw [if_neg a] at E
    by_cases b : tk k < 10000
    · rw [if_pos b] at E
      rw [if_neg (show ¬ (tk k < 0 ∨ 10000 ≤ tk k) by omega)]
      by_cases e : tk k < lim
      · rw [if_pos e] at E
        rw [if_pos e, E]
        have s' : CS I0 k c (up I 213 6 (tk k)) := ⟨Ag_uf (by decide) s.1, (up_j (by decide)).trans s.2.1, (up_c (by decide)).trans s.2.2.1, fun i hi => (up_c (by decide)).trans (s.2.2.2 i hi)⟩
        have s2 := CS_n s' (by omega)
        rw [show up I 213 6 (tk k) 213 5 = I 213 5 from up_j (by decide)] at s2
        exact ⟨_, rfl, s2, (up_j (by decide)).trans up_s⟩
      · rw [if_neg e] at E
        rw [if_neg e, E]
        exact CO_64 (x := 2) h s
    · rw [if_neg b] at E
      rw [if_pos (show tk k < 0 ∨ 10000 ≤ tk k by omega), E]
      exact CO_64 (x := 1) h s
theorem CL_N {d a k : Nat} {s : tZ} {I : zI} {lim : Int} {r : tS} {K : Int × zI → zO} (ha : a = 218 ∨ a = 226) (h : tTK tk st cnt n I0) (l : LQ a I0 k s I) (hk : k ≤ 3999) (hK : ∀ I1, LQ a I0 (k + 1) s I1 → I1 213 6 = tk k → CL st a I0 (K (1, I1)) r) : CL st a I0 ((cl (d + 2) 66 [.inr (some 213), .inl lim] I).bind fun p => if p.1 = 0 then some (0, p.2) else K p) (tN tk lim k r) := by
  have z := s_66 (d := d) (lim := lim) (LQ_TK h l) l.2.1 hk
  unfold tN
  by_cases b : tk k < 0 ∨ 10000 ≤ tk k
  · rw [if_pos b] at z ⊢
    obtain ⟨I', q1, q2⟩ := z
    rw [q1]
    exact ⟨I', rfl, LQ_X l q2⟩
  · rw [if_neg b] at z ⊢
    by_cases e : tk k < lim
    · rw [if_pos e] at z ⊢
      obtain ⟨I', q1, q2, q3⟩ := z
      rw [q1]
      exact hK I' (LQ_step ha l q2) q3
    · rw [if_neg e] at z ⊢
      obtain ⟨I', q1, q2⟩ := z
      rw [q1]
      exact ⟨I', rfl, LQ_X l q2⟩
/-- a line is written down -/
theorem s_85q {d a k : Nat} {s : tZ} {I : zI} {x1 x2 x3 x4 : Int} (x5 : Int) (ha : a = 218 ∨ a = 226) (l : LQ a I0 k s I) (hl : s.2.length < 16) : ∃ I', cl (d + 1) 85 [.inr (some a), .inl x1, .inl x2, .inl x3, .inl x4] I = some (0, I') ∧ LQ a I0 k (s.1, s.2 ++ [(x1, x2, x3, x4, x5)]) I' ∧ (I' 213 = I 213 ∧ I' 217 = I 217) := by
  obtain ⟨l1, ⟨l2, l3, l4, l5⟩, l6, l7⟩ := l
  refine ⟨up (up (up (up (up I (a + 1) s.2.length x1) (a + 2) s.2.length x2) (a + 3) s.2.length x3) (a + 4) s.2.length x4) a 4 ((s.2.length : Int) + 1), ?_, ⟨?_, ⟨Ag_rf, ?_, ?_, fun i hi => ?_⟩, ?_, fun i hi => ?_⟩, ?_, ?_⟩
  · have E : cl (d + 1) 85 [.inr (some a), .inl x1, .inl x2, .inl x3, .inl x4] I = some (0, up (up (up (up (up I (a + 1) (I a 4).toNat x1) (a + 2) (I a 4).toNat x2) (a + 3) (I a 4).toNat x3) (a + 4) (I a 4).toNat x4) a 4 (wr (I a 4 + 1))) := by
      have hc : 0 ≤ I a 4 ∧ I a 4 < 16 := by omega
      rcases ha with rfl | rfl
      · rw [e_85 tx_218, if_neg (by omega), if_pos (by omega), if_pos hc, if_pos hc, if_pos hc, if_pos hc]
      · rw [e_85 tx_226, if_neg (by omega), if_pos (by omega), if_pos hc, if_pos hc, if_pos hc, if_pos hc]
    rw [E, l6, Int.toNat_natCast, wr_id (by omega) (by omega)]
  · rcases ha with rfl | rfl <;> exact Ag_up (by decide) (Ag_up (by decide) (Ag_up (by decide) (Ag_up (by decide) (Ag_up (by decide) l1))))
  · rw [up_c (by omega), up_c (by omega), up_c (by omega), up_c (by omega), up_c (by omega)]
    exact l3
  · rw [up_c (by omega), up_c (by omega), up_c (by omega), up_c (by omega), up_c (by omega)]
    exact l4
  · rw [up_c (by omega), up_c (by omega), up_c (by omega), up_c (by omega), up_c (by omega)]
    exact l5 i hi
  · rw [up_s, List.length_append, List.length_singleton]; rfl
  · rw [List.length_append, List.length_singleton] at hi
    by_cases hs : i < s.2.length
    · have hne : ¬ i = s.2.length := by omega
      obtain ⟨p1, p2, p3, p4⟩ := l7 i hs
      refine ⟨?_, ?_, ?_, ?_⟩
      · rw [up_c (by omega), up_c (by omega), up_c (by omega), up_c (by omega), up_j hne, gQ_l hs]; exact p1
      · rw [up_c (by omega), up_c (by omega), up_c (by omega), up_j hne, up_c (by omega), gQ_l hs]; exact p2
      · rw [up_c (by omega), up_c (by omega), up_j hne, up_c (by omega), up_c (by omega), gQ_l hs]; exact p3
      · rw [up_c (by omega), up_j hne, up_c (by omega), up_c (by omega), up_c (by omega), gQ_l hs]; exact p4
    · rw [show i = s.2.length by omega, gQ_r]
      refine ⟨?_, ?_, ?_, ?_⟩
      · rw [up_c (by omega), up_c (by omega), up_c (by omega), up_c (by omega), up_s]
      · rw [up_c (by omega), up_c (by omega), up_c (by omega), up_s]
      · rw [up_c (by omega), up_c (by omega), up_s]
      · rw [up_c (by omega), up_s]
  · rw [up_r (by omega), up_r (by omega), up_r (by omega), up_r (by omega), up_r (by omega)]
  · rw [up_r (by omega), up_r (by omega), up_r (by omega), up_r (by omega), up_r (by omega)]
/-- .. and its end is wanted -/
theorem CL_D {d a k : Nat} {s : tZ} {I : zI} {x1 x2 x3 x4 : Int} (x5 : Int) (ha : a = 218 ∨ a = 226) (h : tTK tk st cnt n I0) (l : LQ a I0 k s I) (hl : s.2.length < 16) (hk : k ≤ 3999) : CL st a I0 ((cl (d + 2) 85 [.inr (some a), .inl x1, .inl x2, .inl x3, .inl x4] I).bind fun p => (cl (d + 2) 65 [.inr (some 213), .inl 20059] p.2).bind fun q => if q.1 = 0 ∨ q.1 = 1 then some (q.1, q.2) else none) (tD tk s k (x1, x2, x3, x4, x5)) := by
  obtain ⟨I1, q1, q2, -⟩ := s_85q (d := d + 1) (x1 := x1) (x2 := x2) (x3 := x3) (x4 := x4) x5 ha l hl
  rw [q1, Option.bind_some]
  dsimp only
  have z := s_65 (d := d) (x := 20059) (LQ_TK h q2) q2.2.1 hk
  unfold tD tE
  unfold tex at z
  by_cases b : tk k = 20059
  · rw [if_pos b] at z ⊢
    obtain ⟨I', p1, p2⟩ := z
    rw [p1]
    exact ⟨I', rfl, LQ_step ha q2 p2⟩
  · rw [if_neg b] at z ⊢
    obtain ⟨I', p1, p2⟩ := z
    rw [p1]
    exact ⟨I', rfl, LQ_X q2 p2⟩
theorem CL_64 {d a k : Nat} {s : tZ} {I : zI} {x : Int} (h : tTK tk st cnt n I0) (l : LQ a I0 k s I) : CL st a I0 ((cl (d + 1) 64 [.inr (some 213), .inl x] I).bind fun p => if p.1 = 0 ∨ p.1 = 1 then some (p.1, p.2) else none) (.inl (x, k)) := by
  obtain ⟨I', q1, q2⟩ := s_64 (d := d) (x := x) (LQ_TK h l) l.2.1
  exact ⟨I', by rw [q1]; rfl, LQ_X l q2⟩
theorem s_69 {d k : Nat} {s : tZ} {I : zI} (h : tTK tk st cnt n I0) (l : LQ 226 I0 k s I) (hl : s.2.length < 16) (hk : k ≤ 3000) : CL st 226 I0 (cl (d + 3) 69 [.inr (some 213)] I) (tl2 tk k s) := by
  have ha : (226 : Nat) = 218 ∨ (226 : Nat) = 226 := Or.inr rfl
  rw [e_69]
  unfold tl2
  refine CL_E ha h l (by omega) fun I1 l1 => ?_
  refine CL_N ha h l1 (by omega) fun I2 l2 v2 => ?_
  refine CL_E ha h l2 (by omega) fun I3 l3 => ?_
  refine CL_N ha h l3 (by omega) fun I4 l4 v4 => ?_
  refine CL_E ha h l4 (by omega) fun I5 l5 => ?_
  refine CL_N ha h l5 (by omega) fun I6 l6 v6 => ?_
  dsimp only
  rw [v2, v4, v6]
  exact CL_D 0 ha h l6 hl (by omega)
theorem s_70 {d k : Nat} {s : tZ} {I : zI} (h : tTK tk st cnt n I0) (l : LQ 226 I0 k s I) (hl : s.2.length < 16) (hk : k ≤ 3000) : CL st 226 I0 (cl (d + 3) 70 [.inr (some 213), .inr (some 2)] I) (tl3 tk (I0 2 5) k s) := by
  have ha : (226 : Nat) = 218 ∨ (226 : Nat) = 226 := Or.inr rfl
  rw [e_70]
  unfold tl3
  refine CL_E ha h l (by omega) fun I1 l1 => ?_
  dsimp only
  rw [show I1 2 5 = I0 2 5 from ag_f l1.1 2 5 (by decide) (by decide)]
  refine CL_N ha h l1 (by omega) fun I2 l2 v2 => ?_
  refine CL_E ha h l2 (by omega) fun I3 l3 => ?_
  dsimp only
  rw [v2]
  refine CL_N ha h l3 (by omega) fun I4 l4 v4 => ?_
  dsimp only
  rw [v4]
  exact CL_D 0 ha h l4 hl (by omega)
theorem s_68 {d : Nat} {I : zI} {x : Int} : cl (d + 1) 68 [.inl x] I = some (tac x, I) := by
  rw [e_68]
  unfold tac
  (repeat' split) <;> first | rfl | (exfalso; omega)
theorem s_67 {d k : Nat} {s : tZ} {I : zI} (h : tTK tk st cnt n I0) (l : LQ 226 I0 k s I) (hl : s.2.length < 16) (hk : k ≤ 3000) : CL st 226 I0 (cl (d + 3) 67 [.inr (some 213), .inr (some 2)] I) (tl1 tk (I0 2 3) (I0 2 4) (I0 2 5) k s) := by
  have ha : (226 : Nat) = 218 ∨ (226 : Nat) = 226 := Or.inr rfl
  rw [e_67]
  unfold tl1
  refine CL_E ha h l (by omega) fun I1 l1 => ?_
  refine CL_N ha h l1 (by omega) fun I2 l2 v2 => ?_
  refine CL_E ha h l2 (by omega) fun I3 l3 => ?_
  dsimp only
  rw [show I3 2 4 = I0 2 4 from ag_f l3.1 2 4 (by decide) (by decide)]
  refine CL_N ha h l3 (by omega) fun I4 l4 v4 => ?_
  dsimp only
  rw [s_63 (LQ_TK h l4) l4.2.1, Option.bind_some]
  dsimp only
  by_cases a1 : tk (k + 1 + 1 + 1 + 1) < 10020
  · rw [if_pos a1, if_neg (show ¬ (10020 ≤ tk (k + 1 + 1 + 1 + 1) ∧ tk (k + 1 + 1 + 1 + 1) ≤ 10025) by omega)]
    exact CL_64 h l4
  · rw [if_neg a1]
    by_cases a2 : 10025 < tk (k + 1 + 1 + 1 + 1)
    · rw [if_pos a2, if_neg (show ¬ (10020 ≤ tk (k + 1 + 1 + 1 + 1) ∧ tk (k + 1 + 1 + 1 + 1) ≤ 10025) by omega)]
      exact CL_64 h l4
    · have l5 : LQ 226 I0 (k + 1 + 1 + 1 + 1 + 1) s (up I4 213 5 (wr (I4 213 5 + 1))) := LQ_step ha l4 (CS_n l4.2.1 (by omega))
      rw [if_neg a2, if_pos (show 10020 ≤ tk (k + 1 + 1 + 1 + 1) ∧ tk (k + 1 + 1 + 1 + 1) ≤ 10025 by omega), v2, v4]
      generalize up I4 213 5 (wr (I4 213 5 + 1)) = I5 at *
      by_cases b1 : tk (k + 1 + 1 + 1 + 1) = 10020
      · rw [if_pos b1, if_pos b1, e_67_54, if_pos b1, show I5 2 3 = I0 2 3 from ag_f l5.1 2 3 (by decide) (by decide)]
        refine CL_N ha h l5 (by omega) fun I6 l6 v6 => ?_
        dsimp only
        rw [s_68, Option.bind_some, b1, v6]
        exact CL_D 0 ha h l6 hl (by omega)
      · rw [if_neg b1, if_neg b1]
        by_cases b2 : tk (k + 1 + 1 + 1 + 1) = 10022
        · rw [if_pos b2, if_pos b2, e_67_54, if_neg b1, show I5 2 5 = I0 2 5 from ag_f l5.1 2 5 (by decide) (by decide)]
          refine CL_N ha h l5 (by omega) fun I6 l6 v6 => ?_
          dsimp only
          rw [s_68, Option.bind_some, b2, v6]
          exact CL_D 2 ha h l6 hl (by omega)
        · rw [if_neg b2, if_neg b2, s_68, Option.bind_some]
          exact CL_D _ ha h l5 hl (by omega)
theorem s_71 {d k : Nat} {s : tZ} {I : zI} (h : tTK tk st cnt n I0) (l : LQ 218 I0 k s I) (hl : s.2.length < 16) (hc : s.1.length ≤ k) (hk : k < cnt) : CL st 218 I0 (cl (d + 30) 71 [.inr (some 213)] I) (tl0 tk cnt k s) := by
  have ha : (218 : Nat) = 218 ∨ (218 : Nat) = 226 := Or.inl rfl
  have h2 := h.2.1
  have h5 : ∀ j, cnt ≤ j → tk j = -2 := fun j hj => (h.2.2.2.2 j hj).1
  have T := LQ_TK h l
  rw [e_71, s_63 T l.2.1, Option.bind_some]
  dsimp only
  unfold tl0
  have z := s_72 (d := d + 25) T (CS_n l.2.1 (by omega)) (by omega)
  rw [l.2.1.2.2.1]
  cases e1 : tsm tk cnt (k + 1) s.1 with
  | inl e =>
    rw [e1] at z
    obtain ⟨I', q1, q2⟩ := z
    exact ⟨I', by rw [q1]; rfl, LQ_X l q2⟩
  | inr q =>
    rw [e1] at z
    obtain ⟨I1, q1, q2⟩ := z
    have l1 := LQ_step ha l q2
    obtain ⟨m0, m1, m2⟩ := tsm_l h5 e1
    rw [q1, Option.bind_some]
    dsimp only
    rw [if_neg (by decide), s_63 (LQ_TK h l1) l1.2.1, Option.bind_some]
    dsimp only
    rw [show I1 217 2 = (q.2.length : Int) from q2.2.2.1]
    have fin : ∀ (w : Nat × List Int) (I2 : zI), LQ 218 I0 w.1 (w.2, s.2) I2 → w.1 ≤ cnt → CL st 218 I0 (zD (d + 30) 71 38 [some (.inr (some 213)), some (.inl (tk k)), some (.inl (s.1.length : Int)), some (.inl (q.2.length : Int))] [] I2) (tE tk 20059 w.1 (.inr (w.1 + 1, (w.2, s.2 ++ [(tk k, (s.1.length : Int), (q.2.length : Int), (w.2.length : Int), 0)])))) := fun w I2 l2 hw => by
      rw [e_71_38, show I2 217 2 = (w.2.length : Int) from l2.2.1.2.2.1]
      exact CL_D (d := d + 27) 0 ha h l2 hl (by omega)
    by_cases a : tk q.1 = 10014
    · have hk1 := tk_in h (k := q.1) (by omega)
      rw [if_pos a, if_pos a]
      have y := s_75 (d := d + 26) (r := 8) (Nat.le_refl _) (LQ_TK h l1) (fun k c I s hc hk => s_76 (LQ_TK h l1) 8 (d + 28) k c I (Nat.le_refl _) (by omega) s hc hk) (CS_n l1.2.1 (by omega)) (by show q.2.length ≤ q.1 + 1; omega) (by omega)
      have y : CO st I1 (cl (d + 29) 75 [.inr (some 213), .inl 0] (up I1 213 5 (wr (I1 213 5 + 1)))) (tA tk cnt (tcn tk cnt 8) (q.1 + 1) q.2) := y
      cases e2 : tA tk cnt (tcn tk cnt 8) (q.1 + 1) q.2 with
      | inl e =>
        rw [e2] at y
        obtain ⟨I', p1, p2⟩ := y
        exact ⟨I', by rw [p1]; rfl, LQ_X l1 p2⟩
      | inr w =>
        rw [e2] at y
        obtain ⟨I2, p1, p2⟩ := y
        obtain ⟨g0, g1, g2⟩ := tA_l h5 8 (Nat.le_refl _) _ _ _ _ e2
        rw [p1, Option.bind_some]
        dsimp only
        rw [if_neg (by decide)]
        exact fin w I2 (LQ_step (s := (q.2, s.2)) ha l1 p2) g1
    · rw [if_neg a, if_neg a]
      exact fin q I1 l1 m1
/-- which lines are wanted -/
def tLk (tk : Nat → Int) (cnt : Nat) (x nq nc nd : Int) (k : Nat) (s : tZ) : tS := if x = 0 then tl0 tk cnt k s else if x = 1 then tl1 tk nq nc nd k s else if x = 2 then tl2 tk k s else tl3 tk nd k s
def tak (x : Int) : Nat := if x = 0 then 218 else 226
/-- the codes told so far are no more than the tokens read; a line takes some -/
theorem tE_inr {x : Int} {k : Nat} {r : tS} {q : Nat × tZ} (h : tE tk x k r = .inr q) : tk k = x ∧ r = .inr q := by
  unfold tE at h
  split at h
  · rename_i e; exact ⟨e, h⟩
  · cases h
theorem tN_inr {x : Int} {k : Nat} {r : tS} {q : Nat × tZ} (h : tN tk x k r = .inr q) : (0 ≤ tk k ∧ tk k ≤ 9999 ∧ tk k < x) ∧ r = .inr q := by
  unfold tN at h
  split at h
  · cases h
  · split at h
    · exact ⟨by omega, h⟩
    · cases h
theorem tD_inr {s : tZ} {k : Nat} {x : tQ} {q : Nat × tZ} (h : tD tk s k x = .inr q) : tk k = 20059 ∧ q = (k + 1, (s.1, s.2 ++ [x])) := by
  unfold tD at h
  obtain ⟨e, h⟩ := tE_inr h
  cases h
  exact ⟨e, rfl⟩
theorem tLk_l (h5 : ∀ j, cnt ≤ j → tk j = -2) {x nq nc nd : Int} {k : Nat} {s : tZ} {q : Nat × tZ} (hk : k < cnt) (hc : s.1.length ≤ k) (h : tLk tk cnt x nq nc nd k s = .inr q) : k < q.1 ∧ q.1 ≤ cnt ∧ q.2.1.length ≤ q.1 ∧ q.2.2.length = s.2.length + 1 := by
  have hin : ∀ k, tk k = 20059 → k < cnt := fun k e => by
    rcases Nat.lt_or_ge k cnt with g | g
    · exact g
    · have := h5 k g; omega
  unfold tLk at h
  by_cases x0 : x = 0
  · rw [if_pos x0] at h
    unfold tl0 at h
    cases e1 : tsm tk cnt (k + 1) s.1 with
    | inl e => rw [e1] at h; cases h
    | inr q1 =>
      obtain ⟨m0, m1, m2⟩ := tsm_l h5 e1
      rw [e1] at h
      dsimp only at h
      have fin : ∀ w : Nat × List Int, k < w.1 → w.2.length ≤ w.1 → tE tk 20059 w.1 (.inr (w.1 + 1, (w.2, s.2 ++ [(tk k, (s.1.length : Int), (q1.2.length : Int), (w.2.length : Int), 0)]))) = .inr q → k < q.1 ∧ q.1 ≤ cnt ∧ q.2.1.length ≤ q.1 ∧ q.2.2.length = s.2.length + 1 := fun w g1 g2 e => by
        obtain ⟨e3, e4⟩ := tE_inr e
        have := hin _ e3
        cases e4
        exact ⟨by show k < w.1 + 1; omega, by show w.1 + 1 ≤ cnt; omega, by show w.2.length ≤ w.1 + 1; omega, by rw [List.length_append, List.length_singleton]⟩
      by_cases a : tk q1.1 = 10014
      · rw [if_pos a] at h
        cases e2 : tA tk cnt (tcn tk cnt 8) (q1.1 + 1) q1.2 with
        | inl e => rw [e2] at h; cases h
        | inr w =>
          obtain ⟨g0, g1, g2⟩ := tA_l h5 8 (Nat.le_refl _) _ _ _ _ e2
          rw [e2] at h
          exact fin w (by omega) (by omega) h
      · rw [if_neg a] at h
        exact fin q1 (by omega) (by omega) h
  · rw [if_neg x0] at h
    have dn : ∀ (j : Nat) (y : tQ), k ≤ j → tD tk s j y = .inr q → k < q.1 ∧ q.1 ≤ cnt ∧ q.2.1.length ≤ q.1 ∧ q.2.2.length = s.2.length + 1 := fun j y hj e => by
      obtain ⟨e1, e2⟩ := tD_inr e
      have := hin _ e1
      rw [e2]
      exact ⟨by show k < j + 1; omega, by show j + 1 ≤ cnt; omega, by show s.1.length ≤ j + 1; omega, by rw [List.length_append, List.length_singleton]⟩
    by_cases x1 : x = 1
    · rw [if_pos x1] at h
      unfold tl1 at h
      obtain ⟨-, h⟩ := tE_inr h
      obtain ⟨-, h⟩ := tN_inr h
      obtain ⟨-, h⟩ := tE_inr h
      obtain ⟨-, h⟩ := tN_inr h
      split at h
      · split at h
        · obtain ⟨-, h⟩ := tN_inr h
          exact dn _ _ (by omega) h
        · split at h
          · obtain ⟨-, h⟩ := tN_inr h
            exact dn _ _ (by omega) h
          · exact dn _ _ (by omega) h
      · cases h
    · rw [if_neg x1] at h
      by_cases x2 : x = 2
      · rw [if_pos x2] at h
        unfold tl2 at h
        obtain ⟨-, h⟩ := tE_inr h
        obtain ⟨-, h⟩ := tN_inr h
        obtain ⟨-, h⟩ := tE_inr h
        obtain ⟨-, h⟩ := tN_inr h
        obtain ⟨-, h⟩ := tE_inr h
        obtain ⟨-, h⟩ := tN_inr h
        exact dn _ _ (by omega) h
      · rw [if_neg x2] at h
        unfold tl3 at h
        obtain ⟨-, h⟩ := tE_inr h
        obtain ⟨-, h⟩ := tN_inr h
        obtain ⟨-, h⟩ := tE_inr h
        obtain ⟨-, h⟩ := tN_inr h
        exact dn _ _ (by omega) h
theorem s_54 {d k : Nat} {c : List Int} {I : zI} {x : Int} (h : tTK tk st cnt n I0) (s : CS I0 k c I) : cl (d + 2) 54 [.inr (some 213), .inl x] I = some (if tbg x (tk k) = true then 1 else 0, I) := by
  rw [e_54, s_63 h s, Option.bind_some]
  dsimp only
  unfold tbg
  by_cases x0 : x = 0
  · rw [if_pos x0, if_pos x0]
    by_cases a : 10011 ≤ tk k ∧ tk k ≤ 10013
    · rw [if_pos (decide_eq_true a)]
      (repeat' split) <;> first | rfl | (exfalso; omega)
    · rw [if_neg (by omega), if_neg (by omega), if_neg (by omega), if_neg (by rw [decide_eq_true_eq]; exact a)]
  · rw [if_neg x0, if_neg x0]
    by_cases x1 : x = 1
    · rw [if_pos x1, if_pos x1]
      by_cases a : tk k = 10018
      · rw [if_pos a, if_pos (decide_eq_true a)]
      · rw [if_neg a, if_neg (by rw [decide_eq_true_eq]; exact a)]
    · rw [if_neg x1, if_neg x1]
      by_cases x2 : x = 2
      · rw [if_pos x2, if_pos x2]
        by_cases a : tk k = 10008
        · rw [if_pos a, if_pos (decide_eq_true a)]
        · rw [if_neg a, if_neg (by rw [decide_eq_true_eq]; exact a)]
      · rw [if_neg x2, if_neg x2]
        by_cases a : tk k = 10009
        · rw [if_pos a, if_pos (decide_eq_true a)]
        · rw [if_neg a, if_neg (by rw [decide_eq_true_eq]; exact a)]
theorem tln_eq {σ : Type} {bg : Int → Bool} {L : Nat → σ → Sum (Int × Nat) (Nat × σ)} {f k : Nat} {s : σ} : tln tk bg L f k s = if tk k = -2 then .inr s else if bg (tk k) = true then (match f with
    | 0 => .inl (3, k)
    | f + 1 => (match L k s with
      | .inl e => .inl e
      | .inr q => tln tk bg L f q.1 q.2)) else .inl (1, k) := by
  cases f <;> rfl
/-- 53's lines -/
theorem s_53l {d : Nat} {x : Int} (h : tTK tk st cnt n I0) (hx : 0 ≤ x ∧ x ≤ 3) : ∀ (f i k : Nat) (s : tZ) (I : zI), i + f = 16 → s.2.length = i → s.1.length ≤ k → k ≤ cnt → LQ (tak x) I0 k s I →
    match tln tk (tbg x) (tLk tk cnt x (I0 2 3) (I0 2 4) (I0 2 5)) f k s with
    | .inl e => ∃ I', zD (d + 31) 53 27 [some (.inr (some 213)), some (.inl x), some (.inr (some 2)), some (.inl (i : Int))] [] I = some (0, I') ∧ CX I0 e.1 (st e.2) I'
    | .inr s' => ∃ k' I', zD (d + 31) 53 27 [some (.inr (some 213)), some (.inl x), some (.inr (some 2)), some (.inl (i : Int))] [] I = some (1, I') ∧ LQ (tak x) I0 k' s' I' := fun f => by
  have h2 := h.2.1
  have h5 : ∀ j, cnt ≤ j → tk j = -2 := fun j hj => (h.2.2.2.2 j hj).1
  have hin : ∀ k, ¬ tk k = -2 → k < cnt := fun k hk => tk_in h hk
  have bg2 : ∀ t, tbg x t = true → ¬ t = -2 := fun t ht e => by
    rw [e] at ht
    unfold tbg at ht
    (repeat' split at ht) <;> simp at ht
  induction f with
  | zero =>
    intro i k s I hi hs hc hk l
    rw [tln_eq, e_53_27, if_neg (show ¬ 16 < (i : Int) by omega), s_63 (LQ_TK h l) l.2.1, Option.bind_some]
    dsimp only
    by_cases a : tk k = -2
    · rw [if_pos a, if_pos a]
      exact ⟨k, I, rfl, l⟩
    · rw [if_neg a, if_neg a, s_54 (d := d + 28) (LQ_TK h l) l.2.1, Option.bind_some]
      dsimp only
      by_cases b : tbg x (tk k) = true
      · rw [if_pos b, if_pos b, if_neg (show ¬ (1 : Int) = 0 by decide), if_pos (show (i : Int) = 16 by omega)]
        exact CL_64 h l
      · rw [if_neg b, if_neg b, if_pos rfl]
        exact CL_64 h l
  | succ f ih =>
    intro i k s I hi hs hc hk l
    rw [tln_eq, e_53_27, if_neg (show ¬ 16 < (i : Int) by omega), s_63 (LQ_TK h l) l.2.1, Option.bind_some]
    dsimp only
    by_cases a : tk k = -2
    · rw [if_pos a, if_pos a]
      exact ⟨k, I, rfl, l⟩
    · have hk1 := hin k a
      rw [if_neg a, if_neg a, s_54 (d := d + 28) (LQ_TK h l) l.2.1, Option.bind_some]
      dsimp only
      by_cases b : tbg x (tk k) = true
      · rw [if_pos b, if_pos b, if_neg (show ¬ (1 : Int) = 0 by decide), if_neg (show ¬ (i : Int) = 16 by omega)]
        -- the line, whichever it is
        have gen : ∀ (o : zO), CL st (tak x) I0 o (tLk tk cnt x (I0 2 3) (I0 2 4) (I0 2 5) k s) → (∀ e, tLk tk cnt x (I0 2 3) (I0 2 4) (I0 2 5) k s = .inl e → ∃ I', (o.bind fun p => if p.1 = 0 then some (0, p.2) else zD (d + 31) 53 27 [some (.inr (some 213)), some (.inl x), some (.inr (some 2)), some (.inl (wr ((i : Int) + 1)))] [] p.2) = some (0, I') ∧ CX I0 e.1 (st e.2) I') ∧ (∀ q, tLk tk cnt x (I0 2 3) (I0 2 4) (I0 2 5) k s = .inr q → match tln tk (tbg x) (tLk tk cnt x (I0 2 3) (I0 2 4) (I0 2 5)) f q.1 q.2 with
          | .inl e => ∃ I', (o.bind fun p => if p.1 = 0 then some (0, p.2) else zD (d + 31) 53 27 [some (.inr (some 213)), some (.inl x), some (.inr (some 2)), some (.inl (wr ((i : Int) + 1)))] [] p.2) = some (0, I') ∧ CX I0 e.1 (st e.2) I'
          | .inr s' => ∃ k' I', (o.bind fun p => if p.1 = 0 then some (0, p.2) else zD (d + 31) 53 27 [some (.inr (some 213)), some (.inl x), some (.inr (some 2)), some (.inl (wr ((i : Int) + 1)))] [] p.2) = some (1, I') ∧ LQ (tak x) I0 k' s' I') := fun o ho => by
          refine ⟨fun e' e => ?_, fun q e => ?_⟩
          · rw [e] at ho
            obtain ⟨I', q1, q2⟩ := ho
            exact ⟨I', by rw [q1]; rfl, q2⟩
          · rw [e] at ho
            obtain ⟨I', q1, q2⟩ := ho
            obtain ⟨t0, t1, t2, t3⟩ := tLk_l h5 hk1 hc e
            rw [q1, wr_p1 (by omega)]
            exact ih (i + 1) q.1 q.2 I' (by omega) (by omega) t2 t1 q2
        rcases (show x = 0 ∨ x = 1 ∨ x = 2 ∨ x = 3 by omega) with rfl | rfl | rfl | rfl
        · rw [if_pos rfl]
          have G := gen _ (s_71 (d := d) h l (by omega) hc hk1)
          cases e : tLk tk cnt 0 (I0 2 3) (I0 2 4) (I0 2 5) k s with
          | inl e' => exact G.1 e' e
          | inr q => exact G.2 q e
        · rw [if_neg (by decide), if_pos rfl]
          have G := gen _ (s_67 (d := d + 27) h l (by omega) (by omega))
          cases e : tLk tk cnt 1 (I0 2 3) (I0 2 4) (I0 2 5) k s with
          | inl e' => exact G.1 e' e
          | inr q => exact G.2 q e
        · rw [if_neg (by decide), if_neg (by decide), if_pos rfl]
          have G := gen _ (s_69 (d := d + 27) h l (by omega) (by omega))
          cases e : tLk tk cnt 2 (I0 2 3) (I0 2 4) (I0 2 5) k s with
          | inl e' => exact G.1 e' e
          | inr q => exact G.2 q e
        · rw [if_neg (by decide), if_neg (by decide), if_neg (by decide)]
          have G := gen _ (s_70 (d := d + 27) h l (by omega) (by omega))
          cases e : tLk tk cnt 3 (I0 2 3) (I0 2 4) (I0 2 5) k s with
          | inl e' => exact G.1 e' e
          | inr q => exact G.2 q e
      · rw [if_neg b, if_neg b, if_pos rfl]
        exact CL_64 h l
