/-! WHAT THE LINES ARE LIKE; THE SAME TOKENS OVER BOTH TAPES -/
theorem tln_inv {σ : Type} {tk : Nat → Int} {bg : Int → Bool} {L : Nat → σ → Sum (Int × Nat) (Nat × σ)} {Q : σ → Prop} (hL : ∀ k s q, Q s → bg (tk k) = true → L k s = .inr q → Q q.2) : ∀ (f k : Nat) (s s' : σ), Q s → tln tk bg L f k s = .inr s' → Q s' := fun f => by
  induction f with
  | zero =>
    intro k s s' h e
    rw [tln_eq] at e
    split at e
    · injection e with e; rw [← e]; exact h
    · split at e <;> cases e
  | succ f ih =>
    intro k s s' h e
    rw [tln_eq] at e
    split at e
    · injection e with e; rw [← e]; exact h
    · split at e
      · rename_i hb
        dsimp only at e
        cases el : L k s with
        | inl e' => rw [el] at e; cases e
        | inr q =>
          rw [el] at e
          exact ih q.1 q.2 s' (hL k s q h hb el) e
      · cases e
theorem tln_len {tk : Nat → Int} {bg : Int → Bool} {L : Nat → tZ → tS} (hL : ∀ k s q, bg (tk k) = true → L k s = .inr q → q.2.2.length = s.2.length + 1) : ∀ (f k : Nat) (s s' : tZ), s.2.length + f ≤ 16 → tln tk bg L f k s = .inr s' → s'.2.length ≤ 16 := fun f => by
  induction f with
  | zero =>
    intro k s s' h e
    rw [tln_eq] at e
    split at e
    · injection e with e; rw [← e]; omega
    · split at e <;> cases e
  | succ f ih =>
    intro k s s' h e
    rw [tln_eq] at e
    split at e
    · injection e with e; rw [← e]; omega
    · split at e
      · rename_i hb
        dsimp only at e
        cases el : L k s with
        | inl e' => rw [el] at e; cases e
        | inr q =>
          rw [el] at e
          have := hL k s q hb el
          exact ih q.1 q.2 s' (by omega) e
      · cases e
theorem tln_cl {tk : Nat → Int} {cnt : Nat} {bg : Int → Bool} {L : Nat → tZ → tS} (h5 : ∀ j, cnt ≤ j → tk j = -2) (hL : ∀ k s q, k < cnt → s.1.length ≤ k → L k s = .inr q → q.1 ≤ cnt ∧ q.2.1.length ≤ q.1) : ∀ (f k : Nat) (s s' : tZ), s.1.length ≤ k → k ≤ cnt → tln tk bg L f k s = .inr s' → s'.1.length ≤ cnt := fun f => by
  have hin : ∀ k, ¬ tk k = -2 → k < cnt := fun k hk => by
    rcases Nat.lt_or_ge k cnt with g | g
    · exact g
    · exact absurd (h5 k g) hk
  induction f with
  | zero =>
    intro k s s' h h2 e
    rw [tln_eq] at e
    split at e
    · injection e with e; rw [← e]; omega
    · split at e <;> cases e
  | succ f ih =>
    intro k s s' h h2 e
    rw [tln_eq] at e
    split at e
    · injection e with e; rw [← e]; omega
    · rename_i ha
      split at e
      · dsimp only at e
        cases el : L k s with
        | inl e' => rw [el] at e; cases e
        | inr q =>
          rw [el] at e
          obtain ⟨g1, g2⟩ := hL k s q (hin k ha) h el
          exact ih q.1 q.2 s' g2 g1 e
      · cases e
variable {tk st : Nat → Int} {cnt : Nat}
/-- a line of the law in the codes -/
def tLO (c : List Int) (q : tQ) : Prop := ∃ c0 e1 e2 r : List Int, c = c0 ++ (e1 ++ (e2 ++ r)) ∧ (10011 ≤ q.1 ∧ q.1 ≤ 10013) ∧ q.2.1 = (c0.length : Int) ∧ q.2.2.1 = ((c0.length + e1.length : Nat) : Int) ∧ q.2.2.2.1 = ((c0.length + e1.length + e2.length : Nat) : Int) ∧ ztl e1 [] = some [false] ∧ (e2 = [] ∨ ztl e2 [] = some [true])
theorem tLO_app {c x : List Int} {q : tQ} (h : tLO c q) : tLO (c ++ x) q := by
  obtain ⟨c0, e1, e2, r, h1, h2⟩ := h
  exact ⟨c0, e1, e2, r ++ x, by rw [h1]; simp only [List.append_assoc], h2⟩
def Q0 (s : tZ) : Prop := tqu s.1 ∧ ∀ i, i < s.2.length → tLO s.1 (s.2.getD i tq0)
theorem gQ_all {ls : List tQ} {x : tQ} {A : tQ → Prop} (h : ∀ i, i < ls.length → A (ls.getD i tq0)) (hx : A x) : ∀ i, i < (ls ++ [x]).length → A ((ls ++ [x]).getD i tq0) := fun i hi => by
  rw [List.length_append, List.length_singleton] at hi
  by_cases hs : i < ls.length
  · rw [gQ_l hs]; exact h i hs
  · rw [show i = ls.length by omega, gQ_r]; exact hx
theorem Q0_L (h5 : ∀ j, cnt ≤ j → tk j = -2) (k : Nat) (s : tZ) (q : Nat × tZ) (h : Q0 s) (hb : tbg 0 (tk k) = true) (e : tl0 tk cnt k s = .inr q) : Q0 q.2 := by
  have hw : 10011 ≤ tk k ∧ tk k ≤ 10013 := of_decide_eq_true hb
  obtain ⟨h1, h2⟩ := h
  unfold tl0 at e
  cases e1 : tsm tk cnt (k + 1) s.1 with
  | inl e' => rw [e1] at e; cases e
  | inr a =>
    obtain ⟨-, -, -, a4, x, a5, a6⟩ := tsm_G (tk := tk) (cnt := cnt) (k := k + 1) (c := s.1) (lim := 0) (by omega) h5 a.1 a.2 e1
    have a6 := a6 [] (Nat.le_refl _)
    rw [e1] at e
    dsimp only at e
    by_cases c : tk a.1 = 10014
    · rw [if_pos c] at e
      cases e2 : tA tk cnt (tcn tk cnt 8) (a.1 + 1) a.2 with
      | inl e' => rw [e2] at e; cases e
      | inr w =>
        obtain ⟨-, -, -, b4, y, b5, b6⟩ := tA_G (tk := tk) (cnt := cnt) (lim := 0) (fun k c => tC_G h5 8 2 k c (by omega)) w.1 w.2 e2
        have b6 := b6 [] (Nat.le_refl _)
        rw [e2] at e
        obtain ⟨-, e3⟩ := tE_inr e
        injection e3 with e3
        rw [← e3]
        refine ⟨b4 (a4 h1), gQ_all (A := tLO w.2) (fun i hi => ?_) ?_⟩
        · rw [b5, a5]
          exact tLO_app (tLO_app (h2 i hi))
        · refine ⟨s.1, x, y, [], ?_, hw, rfl, ?_, ?_, a6, Or.inr b6⟩
          · rw [b5, a5, List.append_nil, List.append_assoc]
          · show ((a.2.length : Nat) : Int) = _
            rw [a5, List.length_append]
          · show ((w.2.length : Nat) : Int) = _
            rw [b5, a5, List.length_append, List.length_append]
    · rw [if_neg c] at e
      obtain ⟨-, e3⟩ := tE_inr e
      injection e3 with e3
      rw [← e3]
      refine ⟨a4 h1, gQ_all (A := tLO a.2) (fun i hi => ?_) ?_⟩
      · rw [a5]
        exact tLO_app (h2 i hi)
      · refine ⟨s.1, x, [], [], ?_, hw, rfl, ?_, ?_, a6, Or.inl rfl⟩
        · rw [a5, List.append_nil, List.append_nil]
        · show ((a.2.length : Nat) : Int) = _
          rw [a5, List.length_append]
        · show ((a.2.length : Nat) : Int) = _
          rw [a5, List.length_append]
          rfl
def A1 (nq nc nd : Int) (q : tQ) : Prop := (0 ≤ q.2.1 ∧ q.2.1 < nc) ∧ ((q.2.2.2.2 = 0 ∧ q.2.2.1 = 0 ∧ 0 ≤ q.2.2.2.1 ∧ q.2.2.2.1 < nq) ∨ (q.2.2.2.2 = 1 ∧ q.2.2.1 = 1) ∨ (q.2.2.2.2 = 2 ∧ q.2.2.1 = 2 ∧ 0 ≤ q.2.2.2.1 ∧ q.2.2.2.1 < nd) ∨ (q.2.2.2.2 = 3 ∧ q.2.2.1 = 2 ∧ q.2.2.2.1 = -1) ∨ (q.2.2.2.2 = 4 ∧ q.2.2.1 = 3) ∨ (q.2.2.2.2 = 5 ∧ q.2.2.1 = 4))
def QA (A : tQ → Prop) (s : tZ) : Prop := s.1 = [] ∧ ∀ i, i < s.2.length → A (s.2.getD i tq0)
theorem QA_D {A : tQ → Prop} {s : tZ} {k : Nat} {x : tQ} {q : Nat × tZ} (h : QA A s) (hx : A x) (e : tD tk s k x = .inr q) : QA A q.2 := by
  obtain ⟨-, e2⟩ := tD_inr e
  rw [e2]
  exact ⟨h.1, gQ_all h.2 hx⟩
theorem QA_1 {nq nc nd : Int} (k : Nat) (s : tZ) (q : Nat × tZ) (h : QA (A1 nq nc nd) s) (e : tl1 tk nq nc nd k s = .inr q) : QA (A1 nq nc nd) q.2 := by
  unfold tl1 at e
  obtain ⟨-, e⟩ := tE_inr e
  obtain ⟨-, e⟩ := tN_inr e
  obtain ⟨-, e⟩ := tE_inr e
  obtain ⟨v2, e⟩ := tN_inr e
  have c2 : 0 ≤ tk (k + 1 + 1 + 1) ∧ tk (k + 1 + 1 + 1) < nc := by omega
  split at e
  · rename_i hr
    split at e
    · obtain ⟨v3, e⟩ := tN_inr e
      exact QA_D h ⟨c2, Or.inl ⟨rfl, rfl, v3.1, v3.2.2⟩⟩ e
    · rename_i n0
      split at e
      · obtain ⟨v3, e⟩ := tN_inr e
        exact QA_D h ⟨c2, Or.inr (Or.inr (Or.inl ⟨rfl, rfl, v3.1, v3.2.2⟩))⟩ e
      · rename_i n2
        refine QA_D h ⟨c2, ?_⟩ e
        rcases (show tk (k + 1 + 1 + 1 + 1) = 10021 ∨ tk (k + 1 + 1 + 1 + 1) = 10023 ∨ tk (k + 1 + 1 + 1 + 1) = 10024 ∨ tk (k + 1 + 1 + 1 + 1) = 10025 by omega) with g | g | g | g <;> rw [g]
        · exact Or.inr (Or.inl ⟨rfl, rfl⟩)
        · exact Or.inr (Or.inr (Or.inr (Or.inl ⟨rfl, rfl, rfl⟩)))
        · exact Or.inr (Or.inr (Or.inr (Or.inr (Or.inl ⟨rfl, rfl⟩))))
        · exact Or.inr (Or.inr (Or.inr (Or.inr (Or.inr ⟨rfl, rfl⟩))))
  · cases e
def A2 (q : tQ) : Prop := (0 ≤ q.2.1 ∧ q.2.1 ≤ 9) ∧ (0 ≤ q.2.2.1 ∧ q.2.2.1 ≤ 9)
theorem QA_2 (k : Nat) (s : tZ) (q : Nat × tZ) (h : QA A2 s) (e : tl2 tk k s = .inr q) : QA A2 q.2 := by
  unfold tl2 at e
  obtain ⟨-, e⟩ := tE_inr e
  obtain ⟨-, e⟩ := tN_inr e
  obtain ⟨-, e⟩ := tE_inr e
  obtain ⟨v2, e⟩ := tN_inr e
  obtain ⟨-, e⟩ := tE_inr e
  obtain ⟨v3, e⟩ := tN_inr e
  exact QA_D h ⟨⟨v2.1, by show tk (k + 1 + 1 + 1) ≤ 9; omega⟩, ⟨v3.1, by show tk (k + 1 + 1 + 1 + 1 + 1) ≤ 9; omega⟩⟩ e
def A3 (nd : Int) (q : tQ) : Prop := 0 ≤ q.2.1 ∧ q.2.1 < q.1 ∧ q.1 < nd
theorem QA_3 {nd : Int} (k : Nat) (s : tZ) (q : Nat × tZ) (h : QA (A3 nd) s) (e : tl3 tk nd k s = .inr q) : QA (A3 nd) q.2 := by
  unfold tl3 at e
  obtain ⟨-, e⟩ := tE_inr e
  obtain ⟨v1, e⟩ := tN_inr e
  obtain ⟨-, e⟩ := tE_inr e
  obtain ⟨v2, e⟩ := tN_inr e
  exact QA_D h ⟨v2.1, v2.2.2, v1.2.2⟩ e
theorem tLk_1 {x nq nc nd : Int} {k : Nat} {s : tZ} {q : Nat × tZ} (h : tLk tk cnt x nq nc nd k s = .inr q) : q.2.2.length = s.2.length + 1 := by
  have dn : ∀ (j : Nat) (y : tQ), tD tk s j y = .inr q → q.2.2.length = s.2.length + 1 := fun j y e => by
    obtain ⟨-, e2⟩ := tD_inr e
    rw [e2]
    show (s.2 ++ [y]).length = _
    rw [List.length_append, List.length_singleton]
  unfold tLk at h
  by_cases x0 : x = 0
  · rw [if_pos x0] at h
    unfold tl0 at h
    cases e1 : tsm tk cnt (k + 1) s.1 with
    | inl e => rw [e1] at h; cases h
    | inr q1 =>
      rw [e1] at h
      dsimp only at h
      cases e2 : (if tk q1.1 = 10014 then tA tk cnt (tcn tk cnt 8) (q1.1 + 1) q1.2 else (.inr q1 : tR)) with
      | inl e => rw [e2] at h; cases h
      | inr w =>
        rw [e2] at h
        obtain ⟨-, e4⟩ := tE_inr h
        injection e4 with e4
        rw [← e4]
        show (s.2 ++ [_]).length = _
        rw [List.length_append, List.length_singleton]
  · rw [if_neg x0] at h
    by_cases x1 : x = 1
    · rw [if_pos x1] at h
      unfold tl1 at h
      obtain ⟨-, h⟩ := tE_inr h
      obtain ⟨-, h⟩ := tN_inr h
      obtain ⟨-, h⟩ := tE_inr h
      obtain ⟨-, h⟩ := tN_inr h
      split at h
      · split at h
        · obtain ⟨-, h⟩ := tN_inr h
          exact dn _ _ h
        · split at h
          · obtain ⟨-, h⟩ := tN_inr h
            exact dn _ _ h
          · exact dn _ _ h
      · cases h
    · rw [if_neg x1] at h
      by_cases x2 : x = 2
      · rw [if_pos x2] at h
        unfold tl2 at h
        obtain ⟨-, h⟩ := tE_inr h
        obtain ⟨-, h⟩ := tN_inr h
        obtain ⟨-, h⟩ := tE_inr h
        obtain ⟨-, h⟩ := tN_inr h
        obtain ⟨-, h⟩ := tE_inr h
        obtain ⟨-, h⟩ := tN_inr h
        exact dn _ _ h
      · rw [if_neg x2] at h
        unfold tl3 at h
        obtain ⟨-, h⟩ := tE_inr h
        obtain ⟨-, h⟩ := tN_inr h
        obtain ⟨-, h⟩ := tE_inr h
        obtain ⟨-, h⟩ := tN_inr h
        exact dn _ _ h
theorem ztc_ztl {f : Nat → Int} : ∀ (e : List Int) (i : Nat) (ts : List Bool), (∀ j, j < e.length → f (i + j) = e.getD j 0) → ztc f e.length i ts = ztl e ts
  | [], i, ts, _ => rfl
  | t :: r, i, ts, h => by
    have h0 : f i = t := h 0 (by rw [List.length_cons]; omega)
    rw [List.length_cons, ztc, ztl, h0]
    cases ztk t ts with
    | none => rfl
    | some x =>
      exact ztc_ztl r (i + 1) x fun j hj => by
        rw [show i + 1 + j = i + (j + 1) by omega]
        exact h (j + 1) (by rw [List.length_cons]; omega)
/-! the same tokens over tapes that are alike -/
theorem trn_cg {q : Int → Bool} {T U : Nat → Int} : ∀ (f p : Nat), (∀ j, p ≤ j → j < p + f → T j = U j) → trn q T f p = trn q U f p
  | 0, _, _ => rfl
  | f + 1, p, h => by
    rw [trn, trn, h p (Nat.le_refl _) (by omega), trn_cg f (p + 1) fun j h1 h2 => h j (by omega) (by omega)]
theorem rend_cg {q : Int → Bool} {T U : Nat → Int} {n p : Nat} (h : ∀ j, j < n → T j = U j) : rend q T n p = rend q U n p := trn_cg _ _ fun j h1 h2 => h j (by omega)
theorem eqw_cg {T U : Nat → Int} {p m : Nat} {w : List Int} (h : ∀ j, j < m → T (p + j) = U (p + j)) : eqw T p m w = eqw U p m w := by
  unfold eqw
  rw [any_all fun j hj => by rw [h j hj]]
theorem dvl_cg {T U : Nat → Int} {p : Nat} : ∀ k, (∀ j, j < k → T (p + j) = U (p + j)) → dvl T p k = dvl U p k
  | 0, _ => rfl
  | k + 1, h => by rw [dvl, dvl, dvl_cg k fun j hj => h j (by omega), h k (by omega)]
theorem rend_n {q : Int → Bool} {T : Nat → Int} {n p : Nat} (hp : p ≤ n) : p ≤ rend q T n p ∧ rend q T n p ≤ n := by
  have := trn_le (q := q) (T := T) (n - p) p
  unfold rend
  omega
theorem tkc_cg {T U : Nat → Int} {n p : Nat} (h : ∀ j, j < n → T j = U j) (hp : p < n) : tkc T n p = tkc U n p := by
  have l1 := rend_n (q := isL) (T := U) (n := n) (p := p) (by omega)
  have l2 := rend_n (q := isD) (T := U) (n := n) (p := p) (by omega)
  unfold tkc
  rw [h p hp, rend_cg (q := isL) h, rend_cg (q := isD) h]
  have e1 : wcd T p (rend isL U n p - p) = wcd U p (rend isL U n p - p) := by
    unfold wcd
    have : wfi (eqw T p (rend isL U n p - p)) wcl 0 = wfi (eqw U p (rend isL U n p - p)) wcl 0 := wfi_cg wcl 0 fun w _ => eqw_cg fun j hj => h _ (by omega)
    rw [this]
  rw [e1, dvl_cg (rend isD U n p - p) fun j hj => h _ (by omega)]
theorem tke_cg {T U : Nat → Int} {n p : Nat} (h : ∀ j, j < n → T j = U j) (hp : p < n) : tke T n p = tke U n p := by
  unfold tke
  rw [h p hp, rend_cg (q := isL) h, rend_cg (q := isD) h]
theorem tps_cg {T U : Nat → Int} {n : Nat} (h : ∀ j, j < n → T j = U j) : ∀ k, tps T n k = tps U n k
  | 0 => rfl
  | k + 1 => by
    rw [tps, tps, tps_cg h k, rend_cg (q := isB) h]
    by_cases hs : rend isB U n (tps U n k) < n
    · rw [if_pos hs, if_pos hs, tke_cg h hs]
    · rw [if_neg hs, if_neg hs]
theorem tst_cg {T U : Nat → Int} {n : Nat} (h : ∀ j, j < n → T j = U j) (k : Nat) : tst T n k = tst U n k := by
  unfold tst
  rw [tps_cg h k, rend_cg (q := isB) h]
theorem ttk_cg {T U : Nat → Int} {n : Nat} (h : ∀ j, j < n → T j = U j) (k : Nat) : ttk T n k = ttk U n k := by
  unfold ttk
  rw [tst_cg h k]
  by_cases hs : tst U n k < n
  · rw [if_pos hs, if_pos hs, tkc_cg h hs]
  · rw [if_neg hs, if_neg hs]
theorem tps_le {T : Nat → Int} {n : Nat} : ∀ k, tps T n k ≤ n
  | 0 => Nat.zero_le _
  | k + 1 => by
    rw [tps]
    split
    · rename_i hs; exact (tke_gt hs).2
    · exact Nat.le_refl _
theorem tst_le {T : Nat → Int} {n k : Nat} : tps T n k ≤ tst T n k ∧ tst T n k ≤ n := rend_n (tps_le k)
theorem tst_end {T : Nat → Int} {n c : Nat} (h : ¬ tst T n c < n) : ∀ j, c ≤ j → tst T n j = n := fun j hj => by
  obtain ⟨i, rfl⟩ : ∃ i, j = c + i := ⟨j - c, by omega⟩
  clear hj
  induction i with
  | zero =>
    have := (tst_le (T := T) (n := n) (k := c)).2
    show tst T n c = n
    omega
  | succ i ih =>
    have e : tps T n (c + (i + 1)) = n := by
      show (if rend isB T n (tps T n (c + i)) < n then _ else n) = n
      have : rend isB T n (tps T n (c + i)) = n := ih
      rw [this, if_neg (Nat.lt_irrefl n)]
    have := tst_le (T := T) (n := n) (k := c + (i + 1))
    omega
theorem ttk_end {T : Nat → Int} {n j : Nat} (h : tst T n j = n) : ttk T n j = -2 := by
  unfold ttk
  rw [if_neg (by omega)]
theorem ttk_rg {T : Nat → Int} {n : Nat} (hr : ∀ j, j < n → 0 ≤ T j ∧ T j ≤ 255) (k : Nat) : tRg (ttk T n k) := by
  unfold ttk
  by_cases hs : tst T n k < n
  · rw [if_pos hs]
    rcases tkc_rg hs (hr _ hs) with g | g | g | g
    · exact Or.inr (Or.inl g)
    · exact Or.inr (Or.inr (Or.inl g))
    · exact Or.inr (Or.inr (Or.inr (Or.inl g)))
    · exact Or.inr (Or.inr (Or.inr (Or.inr g)))
  · rw [if_neg hs]
    exact Or.inl rfl
/-! what stays, whatever the text was -/
def zT (k j : Nat) : Prop := (k = 213 ∧ (j = 1 ∨ (4 ≤ j ∧ j ≤ 8))) ∨ (215 ≤ k ∧ k ≤ 223) ∨ (226 ≤ k ∧ k ≤ 230) ∨ (k = 240 ∧ (j = 0 ∨ (14 ≤ j ∧ j ≤ 18) ∨ (27 ≤ j ∧ j ≤ 29) ∨ (31 ≤ j ∧ j ≤ 35))) ∨ k = 257 ∨ (251 ≤ k ∧ k ≤ 254 ∧ 32 ≤ j) ∨ (255 ≤ k ∧ k ≤ 256 ∧ 800 ≤ j) ∨ (k = 258 ∧ 64 ≤ j) ∨ (259 ≤ k ∧ k ≤ 260 ∧ 8 ≤ j) ∨ (k = 261 ∧ 12 ≤ j)
theorem zsB_no {k j : Nat} (h : ¬ zT k j) : zsB k j = false := by
  unfold zT at h
  cases e : zsB k j with
  | false => rfl
  | true =>
    exfalso
    apply h
    unfold zsB zs1 at e
    simp only [Bool.or_eq_true, Bool.and_eq_true, beq_iff_eq, decide_eq_true_eq] at e
    omega
theorem Rl_tF {I I' : zI} (h : Rl I) (hA : ∀ k j, ¬ zT k j → I' k j = I k j) (htape : RTape I') (hflt : RFlt I') : Rl I' :=
  ⟨⟨RFirm_cg (funext fun j => hA 2 j (by unfold zT; omega)) (fun k h1 h2 => funext fun j => hA k j (by unfold zT; omega)) (funext fun j => hA 241 j (by unfold zT; omega)) (funext fun j => hA 244 j (by unfold zT; omega)) (funext fun j => hA 245 j (by unfold zT; omega)) (funext fun j => hA 246 j (by unfold zT; omega)) (hA 240 6 (by unfold zT; omega)) (hA 240 7 (by unfold zT; omega)) (hA 240 8 (by unfold zT; omega)) h.1.1, RBook_cg (hA 15 4 (by unfold zT; omega)) (fun k h1 h2 => funext fun j => hA k j (by unfold zT; omega)) (hA 241 2 (by unfold zT; omega)) (funext fun j => hA 247 j (by unfold zT; omega)) h.1.2.1, RLaw_cg (hA 21 4 (by unfold zT; omega)) (fun k h1 h2 => funext fun j => hA k j (by unfold zT; omega)) (hA 250 0 (by unfold zT; omega)) (fun l hl => ⟨hA 251 l (by unfold zT; omega), hA 252 l (by unfold zT; omega), hA 253 l (by unfold zT; omega), hA 254 l (by unfold zT; omega)⟩) (fun i hi => ⟨hA 255 i (by unfold zT; omega), hA 256 i (by unfold zT; omega)⟩) h.1.2.2.1, ROrd_cg (hA 2 3 (by unfold zT; omega)) (hA 2 4 (by unfold zT; omega)) (hA 2 5 (by unfold zT; omega)) (hA 29 4 (by unfold zT; omega)) (fun k h1 h2 => funext fun j => hA k j (by unfold zT; omega)) (hA 240 36 (by unfold zT; omega)) (fun j hj => hA 258 j (by unfold zT; omega)) h.1.2.2.2.1, RBird_cg (hA 34 4 (by unfold zT; omega)) (fun k h1 h2 => funext fun j => hA k j (by unfold zT; omega)) (hA 240 38 (by unfold zT; omega)) (fun b hb => ⟨hA 259 b (by unfold zT; omega), hA 260 b (by unfold zT; omega)⟩) h.1.2.2.2.2.1, RAft_cg (hA 2 5 (by unfold zT; omega)) (hA 39 4 (by unfold zT; omega)) (fun k h1 h2 => funext fun j => hA k j (by unfold zT; omega)) (hA 240 41 (by unfold zT; omega)) (fun e he => hA 261 e (by unfold zT; omega)) h.1.2.2.2.2.2.1, RRow_cg (hA 44 2 (by unfold zT; omega)) (funext fun j => hA 45 j (by unfold zT; omega)) (hA 240 47 (by unfold zT; omega)) (funext fun j => hA 266 j (by unfold zT; omega)) h.1.2.2.2.2.2.2.1, RRow_cg (hA 46 2 (by unfold zT; omega)) (funext fun j => hA 47 j (by unfold zT; omega)) (hA 240 51 (by unfold zT; omega)) (funext fun j => hA 269 j (by unfold zT; omega)) h.1.2.2.2.2.2.2.2.1, RDots_cg (funext fun j => hA 48 j (by unfold zT; omega)) (funext fun j => hA 49 j (by unfold zT; omega)) (funext fun j => hA 272 j (by unfold zT; omega)) (funext fun j => hA 273 j (by unfold zT; omega)) h.1.2.2.2.2.2.2.2.2.1, RPl_cg (hA 50 2 (by unfold zT; omega)) (funext fun j => hA 51 j (by unfold zT; omega)) (hA 240 57 (by unfold zT; omega)) (hA 240 58 (by unfold zT; omega)) (hA 240 59 (by unfold zT; omega)) h.1.2.2.2.2.2.2.2.2.2.1, RRow_cg (hA 52 2 (by unfold zT; omega)) (funext fun j => hA 53 j (by unfold zT; omega)) (hA 240 62 (by unfold zT; omega)) (funext fun j => hA 276 j (by unfold zT; omega)) h.1.2.2.2.2.2.2.2.2.2.2.1, RLegs_cg (hA 54 2 (by unfold zT; omega)) (funext fun j => hA 55 j (by unfold zT; omega)) (hA 240 64 (by unfold zT; omega)) (funext fun j => hA 277 j (by unfold zT; omega)) h.1.2.2.2.2.2.2.2.2.2.2.2.1, RRow_cg (hA 56 2 (by unfold zT; omega)) (funext fun j => hA 57 j (by unfold zT; omega)) (hA 240 66 (by unfold zT; omega)) (funext fun j => hA 278 j (by unfold zT; omega)) h.1.2.2.2.2.2.2.2.2.2.2.2.2.1, RRow_cg (hA 58 2 (by unfold zT; omega)) (funext fun j => hA 59 j (by unfold zT; omega)) (hA 240 69 (by unfold zT; omega)) (funext fun j => hA 280 j (by unfold zT; omega)) h.1.2.2.2.2.2.2.2.2.2.2.2.2.2⟩, RPast_cg (hA 119 2 (by unfold zT; omega)) (hA 119 3 (by unfold zT; omega)) (fun k h1 h2 => funext fun j => hA k j (by unfold zT; omega)) (funext fun j => hA 242 j (by unfold zT; omega)) (hA 240 3 (by unfold zT; omega)) (funext fun j => hA 244 j (by unfold zT; omega)) (funext fun j => hA 245 j (by unfold zT; omega)) (funext fun j => hA 246 j (by unfold zT; omega)) (hA 240 6 (by unfold zT; omega)) (hA 240 7 (by unfold zT; omega)) (hA 240 8 (by unfold zT; omega)) h.2.1, htape, hflt, RBox_cg (hA 238 1 (by unfold zT; omega)) (funext fun j => hA 239 j (by unfold zT; omega)) h.2.2.2.2.1, RMisc_cg (hA 240 5 (by unfold zT; omega)) (funext fun j => hA 249 j (by unfold zT; omega)) (hA 44 1 (by unfold zT; omega)) (hA 46 1 (by unfold zT; omega)) (hA 50 1 (by unfold zT; omega)) (hA 52 1 (by unfold zT; omega)) (hA 54 1 (by unfold zT; omega)) (hA 56 1 (by unfold zT; omega)) (hA 58 1 (by unfold zT; omega)) h.2.2.2.2.2.1, RPic_cg (hA 0 2 (by unfold zT; omega)) (hA 240 73 (by unfold zT; omega)) (fun k h1 h2 => funext fun j => hA k j (by unfold zT; omega)) (funext fun j => hA 282 j (by unfold zT; omega)) h.2.2.2.2.2.2⟩
theorem Rl_t0 {I I' : zI} (h : Rl I) (hA : ∀ k j, ¬ zT k j → ¬ ((20 ≤ k ∧ k ≤ 26) ∨ (250 ≤ k ∧ k ≤ 256)) → I' k j = I k j) (hlaw : RLaw I' I' 20) (htape : RTape I') (hflt : RFlt I') : Rl I' :=
  ⟨⟨RFirm_cg (funext fun j => hA 2 j (by unfold zT; omega) (by omega)) (fun k h1 h2 => funext fun j => hA k j (by unfold zT; omega) (by omega)) (funext fun j => hA 241 j (by unfold zT; omega) (by omega)) (funext fun j => hA 244 j (by unfold zT; omega) (by omega)) (funext fun j => hA 245 j (by unfold zT; omega) (by omega)) (funext fun j => hA 246 j (by unfold zT; omega) (by omega)) (hA 240 6 (by unfold zT; omega) (by omega)) (hA 240 7 (by unfold zT; omega) (by omega)) (hA 240 8 (by unfold zT; omega) (by omega)) h.1.1, RBook_cg (hA 15 4 (by unfold zT; omega) (by omega)) (fun k h1 h2 => funext fun j => hA k j (by unfold zT; omega) (by omega)) (hA 241 2 (by unfold zT; omega) (by omega)) (funext fun j => hA 247 j (by unfold zT; omega) (by omega)) h.1.2.1, hlaw, ROrd_cg (hA 2 3 (by unfold zT; omega) (by omega)) (hA 2 4 (by unfold zT; omega) (by omega)) (hA 2 5 (by unfold zT; omega) (by omega)) (hA 29 4 (by unfold zT; omega) (by omega)) (fun k h1 h2 => funext fun j => hA k j (by unfold zT; omega) (by omega)) (hA 240 36 (by unfold zT; omega) (by omega)) (fun j hj => hA 258 j (by unfold zT; omega) (by omega)) h.1.2.2.2.1, RBird_cg (hA 34 4 (by unfold zT; omega) (by omega)) (fun k h1 h2 => funext fun j => hA k j (by unfold zT; omega) (by omega)) (hA 240 38 (by unfold zT; omega) (by omega)) (fun b hb => ⟨hA 259 b (by unfold zT; omega) (by omega), hA 260 b (by unfold zT; omega) (by omega)⟩) h.1.2.2.2.2.1, RAft_cg (hA 2 5 (by unfold zT; omega) (by omega)) (hA 39 4 (by unfold zT; omega) (by omega)) (fun k h1 h2 => funext fun j => hA k j (by unfold zT; omega) (by omega)) (hA 240 41 (by unfold zT; omega) (by omega)) (fun e he => hA 261 e (by unfold zT; omega) (by omega)) h.1.2.2.2.2.2.1, RRow_cg (hA 44 2 (by unfold zT; omega) (by omega)) (funext fun j => hA 45 j (by unfold zT; omega) (by omega)) (hA 240 47 (by unfold zT; omega) (by omega)) (funext fun j => hA 266 j (by unfold zT; omega) (by omega)) h.1.2.2.2.2.2.2.1, RRow_cg (hA 46 2 (by unfold zT; omega) (by omega)) (funext fun j => hA 47 j (by unfold zT; omega) (by omega)) (hA 240 51 (by unfold zT; omega) (by omega)) (funext fun j => hA 269 j (by unfold zT; omega) (by omega)) h.1.2.2.2.2.2.2.2.1, RDots_cg (funext fun j => hA 48 j (by unfold zT; omega) (by omega)) (funext fun j => hA 49 j (by unfold zT; omega) (by omega)) (funext fun j => hA 272 j (by unfold zT; omega) (by omega)) (funext fun j => hA 273 j (by unfold zT; omega) (by omega)) h.1.2.2.2.2.2.2.2.2.1, RPl_cg (hA 50 2 (by unfold zT; omega) (by omega)) (funext fun j => hA 51 j (by unfold zT; omega) (by omega)) (hA 240 57 (by unfold zT; omega) (by omega)) (hA 240 58 (by unfold zT; omega) (by omega)) (hA 240 59 (by unfold zT; omega) (by omega)) h.1.2.2.2.2.2.2.2.2.2.1, RRow_cg (hA 52 2 (by unfold zT; omega) (by omega)) (funext fun j => hA 53 j (by unfold zT; omega) (by omega)) (hA 240 62 (by unfold zT; omega) (by omega)) (funext fun j => hA 276 j (by unfold zT; omega) (by omega)) h.1.2.2.2.2.2.2.2.2.2.2.1, RLegs_cg (hA 54 2 (by unfold zT; omega) (by omega)) (funext fun j => hA 55 j (by unfold zT; omega) (by omega)) (hA 240 64 (by unfold zT; omega) (by omega)) (funext fun j => hA 277 j (by unfold zT; omega) (by omega)) h.1.2.2.2.2.2.2.2.2.2.2.2.1, RRow_cg (hA 56 2 (by unfold zT; omega) (by omega)) (funext fun j => hA 57 j (by unfold zT; omega) (by omega)) (hA 240 66 (by unfold zT; omega) (by omega)) (funext fun j => hA 278 j (by unfold zT; omega) (by omega)) h.1.2.2.2.2.2.2.2.2.2.2.2.2.1, RRow_cg (hA 58 2 (by unfold zT; omega) (by omega)) (funext fun j => hA 59 j (by unfold zT; omega) (by omega)) (hA 240 69 (by unfold zT; omega) (by omega)) (funext fun j => hA 280 j (by unfold zT; omega) (by omega)) h.1.2.2.2.2.2.2.2.2.2.2.2.2.2⟩, RPast_cg (hA 119 2 (by unfold zT; omega) (by omega)) (hA 119 3 (by unfold zT; omega) (by omega)) (fun k h1 h2 => funext fun j => hA k j (by unfold zT; omega) (by omega)) (funext fun j => hA 242 j (by unfold zT; omega) (by omega)) (hA 240 3 (by unfold zT; omega) (by omega)) (funext fun j => hA 244 j (by unfold zT; omega) (by omega)) (funext fun j => hA 245 j (by unfold zT; omega) (by omega)) (funext fun j => hA 246 j (by unfold zT; omega) (by omega)) (hA 240 6 (by unfold zT; omega) (by omega)) (hA 240 7 (by unfold zT; omega) (by omega)) (hA 240 8 (by unfold zT; omega) (by omega)) h.2.1, htape, hflt, RBox_cg (hA 238 1 (by unfold zT; omega) (by omega)) (funext fun j => hA 239 j (by unfold zT; omega) (by omega)) h.2.2.2.2.1, RMisc_cg (hA 240 5 (by unfold zT; omega) (by omega)) (funext fun j => hA 249 j (by unfold zT; omega) (by omega)) (hA 44 1 (by unfold zT; omega) (by omega)) (hA 46 1 (by unfold zT; omega) (by omega)) (hA 50 1 (by unfold zT; omega) (by omega)) (hA 52 1 (by unfold zT; omega) (by omega)) (hA 54 1 (by unfold zT; omega) (by omega)) (hA 56 1 (by unfold zT; omega) (by omega)) (hA 58 1 (by unfold zT; omega) (by omega)) h.2.2.2.2.2.1, RPic_cg (hA 0 2 (by unfold zT; omega) (by omega)) (hA 240 73 (by unfold zT; omega) (by omega)) (fun k h1 h2 => funext fun j => hA k j (by unfold zT; omega) (by omega)) (funext fun j => hA 282 j (by unfold zT; omega) (by omega)) h.2.2.2.2.2.2⟩
theorem Rl_t1 {I I' : zI} (h : Rl I) (hA : ∀ k j, ¬ zT k j → ¬ ((29 ≤ k ∧ k ≤ 33) ∨ (k = 119 ∧ j = 3) ∨ k = 258 ∨ (k = 240 ∧ (j = 36 ∨ j = 3))) → I' k j = I k j) (hord : ROrd I' I' 2 29) (hpast : RPast I') (htape : RTape I') (hflt : RFlt I') : Rl I' :=
  ⟨⟨RFirm_cg (funext fun j => hA 2 j (by unfold zT; omega) (by omega)) (fun k h1 h2 => funext fun j => hA k j (by unfold zT; omega) (by omega)) (funext fun j => hA 241 j (by unfold zT; omega) (by omega)) (funext fun j => hA 244 j (by unfold zT; omega) (by omega)) (funext fun j => hA 245 j (by unfold zT; omega) (by omega)) (funext fun j => hA 246 j (by unfold zT; omega) (by omega)) (hA 240 6 (by unfold zT; omega) (by omega)) (hA 240 7 (by unfold zT; omega) (by omega)) (hA 240 8 (by unfold zT; omega) (by omega)) h.1.1, RBook_cg (hA 15 4 (by unfold zT; omega) (by omega)) (fun k h1 h2 => funext fun j => hA k j (by unfold zT; omega) (by omega)) (hA 241 2 (by unfold zT; omega) (by omega)) (funext fun j => hA 247 j (by unfold zT; omega) (by omega)) h.1.2.1, RLaw_cg (hA 21 4 (by unfold zT; omega) (by omega)) (fun k h1 h2 => funext fun j => hA k j (by unfold zT; omega) (by omega)) (hA 250 0 (by unfold zT; omega) (by omega)) (fun l hl => ⟨hA 251 l (by unfold zT; omega) (by omega), hA 252 l (by unfold zT; omega) (by omega), hA 253 l (by unfold zT; omega) (by omega), hA 254 l (by unfold zT; omega) (by omega)⟩) (fun i hi => ⟨hA 255 i (by unfold zT; omega) (by omega), hA 256 i (by unfold zT; omega) (by omega)⟩) h.1.2.2.1, hord, RBird_cg (hA 34 4 (by unfold zT; omega) (by omega)) (fun k h1 h2 => funext fun j => hA k j (by unfold zT; omega) (by omega)) (hA 240 38 (by unfold zT; omega) (by omega)) (fun b hb => ⟨hA 259 b (by unfold zT; omega) (by omega), hA 260 b (by unfold zT; omega) (by omega)⟩) h.1.2.2.2.2.1, RAft_cg (hA 2 5 (by unfold zT; omega) (by omega)) (hA 39 4 (by unfold zT; omega) (by omega)) (fun k h1 h2 => funext fun j => hA k j (by unfold zT; omega) (by omega)) (hA 240 41 (by unfold zT; omega) (by omega)) (fun e he => hA 261 e (by unfold zT; omega) (by omega)) h.1.2.2.2.2.2.1, RRow_cg (hA 44 2 (by unfold zT; omega) (by omega)) (funext fun j => hA 45 j (by unfold zT; omega) (by omega)) (hA 240 47 (by unfold zT; omega) (by omega)) (funext fun j => hA 266 j (by unfold zT; omega) (by omega)) h.1.2.2.2.2.2.2.1, RRow_cg (hA 46 2 (by unfold zT; omega) (by omega)) (funext fun j => hA 47 j (by unfold zT; omega) (by omega)) (hA 240 51 (by unfold zT; omega) (by omega)) (funext fun j => hA 269 j (by unfold zT; omega) (by omega)) h.1.2.2.2.2.2.2.2.1, RDots_cg (funext fun j => hA 48 j (by unfold zT; omega) (by omega)) (funext fun j => hA 49 j (by unfold zT; omega) (by omega)) (funext fun j => hA 272 j (by unfold zT; omega) (by omega)) (funext fun j => hA 273 j (by unfold zT; omega) (by omega)) h.1.2.2.2.2.2.2.2.2.1, RPl_cg (hA 50 2 (by unfold zT; omega) (by omega)) (funext fun j => hA 51 j (by unfold zT; omega) (by omega)) (hA 240 57 (by unfold zT; omega) (by omega)) (hA 240 58 (by unfold zT; omega) (by omega)) (hA 240 59 (by unfold zT; omega) (by omega)) h.1.2.2.2.2.2.2.2.2.2.1, RRow_cg (hA 52 2 (by unfold zT; omega) (by omega)) (funext fun j => hA 53 j (by unfold zT; omega) (by omega)) (hA 240 62 (by unfold zT; omega) (by omega)) (funext fun j => hA 276 j (by unfold zT; omega) (by omega)) h.1.2.2.2.2.2.2.2.2.2.2.1, RLegs_cg (hA 54 2 (by unfold zT; omega) (by omega)) (funext fun j => hA 55 j (by unfold zT; omega) (by omega)) (hA 240 64 (by unfold zT; omega) (by omega)) (funext fun j => hA 277 j (by unfold zT; omega) (by omega)) h.1.2.2.2.2.2.2.2.2.2.2.2.1, RRow_cg (hA 56 2 (by unfold zT; omega) (by omega)) (funext fun j => hA 57 j (by unfold zT; omega) (by omega)) (hA 240 66 (by unfold zT; omega) (by omega)) (funext fun j => hA 278 j (by unfold zT; omega) (by omega)) h.1.2.2.2.2.2.2.2.2.2.2.2.2.1, RRow_cg (hA 58 2 (by unfold zT; omega) (by omega)) (funext fun j => hA 59 j (by unfold zT; omega) (by omega)) (hA 240 69 (by unfold zT; omega) (by omega)) (funext fun j => hA 280 j (by unfold zT; omega) (by omega)) h.1.2.2.2.2.2.2.2.2.2.2.2.2.2⟩, hpast, htape, hflt, RBox_cg (hA 238 1 (by unfold zT; omega) (by omega)) (funext fun j => hA 239 j (by unfold zT; omega) (by omega)) h.2.2.2.2.1, RMisc_cg (hA 240 5 (by unfold zT; omega) (by omega)) (funext fun j => hA 249 j (by unfold zT; omega) (by omega)) (hA 44 1 (by unfold zT; omega) (by omega)) (hA 46 1 (by unfold zT; omega) (by omega)) (hA 50 1 (by unfold zT; omega) (by omega)) (hA 52 1 (by unfold zT; omega) (by omega)) (hA 54 1 (by unfold zT; omega) (by omega)) (hA 56 1 (by unfold zT; omega) (by omega)) (hA 58 1 (by unfold zT; omega) (by omega)) h.2.2.2.2.2.1, RPic_cg (hA 0 2 (by unfold zT; omega) (by omega)) (hA 240 73 (by unfold zT; omega) (by omega)) (fun k h1 h2 => funext fun j => hA k j (by unfold zT; omega) (by omega)) (funext fun j => hA 282 j (by unfold zT; omega) (by omega)) h.2.2.2.2.2.2⟩
theorem Rl_t2 {I I' : zI} (h : Rl I) (hA : ∀ k j, ¬ zT k j → ¬ ((34 ≤ k ∧ k ≤ 38) ∨ k = 259 ∨ k = 260 ∨ (k = 240 ∧ j = 38)) → I' k j = I k j) (hbird : RBird I' I' 34) (htape : RTape I') (hflt : RFlt I') : Rl I' :=
  ⟨⟨RFirm_cg (funext fun j => hA 2 j (by unfold zT; omega) (by omega)) (fun k h1 h2 => funext fun j => hA k j (by unfold zT; omega) (by omega)) (funext fun j => hA 241 j (by unfold zT; omega) (by omega)) (funext fun j => hA 244 j (by unfold zT; omega) (by omega)) (funext fun j => hA 245 j (by unfold zT; omega) (by omega)) (funext fun j => hA 246 j (by unfold zT; omega) (by omega)) (hA 240 6 (by unfold zT; omega) (by omega)) (hA 240 7 (by unfold zT; omega) (by omega)) (hA 240 8 (by unfold zT; omega) (by omega)) h.1.1, RBook_cg (hA 15 4 (by unfold zT; omega) (by omega)) (fun k h1 h2 => funext fun j => hA k j (by unfold zT; omega) (by omega)) (hA 241 2 (by unfold zT; omega) (by omega)) (funext fun j => hA 247 j (by unfold zT; omega) (by omega)) h.1.2.1, RLaw_cg (hA 21 4 (by unfold zT; omega) (by omega)) (fun k h1 h2 => funext fun j => hA k j (by unfold zT; omega) (by omega)) (hA 250 0 (by unfold zT; omega) (by omega)) (fun l hl => ⟨hA 251 l (by unfold zT; omega) (by omega), hA 252 l (by unfold zT; omega) (by omega), hA 253 l (by unfold zT; omega) (by omega), hA 254 l (by unfold zT; omega) (by omega)⟩) (fun i hi => ⟨hA 255 i (by unfold zT; omega) (by omega), hA 256 i (by unfold zT; omega) (by omega)⟩) h.1.2.2.1, ROrd_cg (hA 2 3 (by unfold zT; omega) (by omega)) (hA 2 4 (by unfold zT; omega) (by omega)) (hA 2 5 (by unfold zT; omega) (by omega)) (hA 29 4 (by unfold zT; omega) (by omega)) (fun k h1 h2 => funext fun j => hA k j (by unfold zT; omega) (by omega)) (hA 240 36 (by unfold zT; omega) (by omega)) (fun j hj => hA 258 j (by unfold zT; omega) (by omega)) h.1.2.2.2.1, hbird, RAft_cg (hA 2 5 (by unfold zT; omega) (by omega)) (hA 39 4 (by unfold zT; omega) (by omega)) (fun k h1 h2 => funext fun j => hA k j (by unfold zT; omega) (by omega)) (hA 240 41 (by unfold zT; omega) (by omega)) (fun e he => hA 261 e (by unfold zT; omega) (by omega)) h.1.2.2.2.2.2.1, RRow_cg (hA 44 2 (by unfold zT; omega) (by omega)) (funext fun j => hA 45 j (by unfold zT; omega) (by omega)) (hA 240 47 (by unfold zT; omega) (by omega)) (funext fun j => hA 266 j (by unfold zT; omega) (by omega)) h.1.2.2.2.2.2.2.1, RRow_cg (hA 46 2 (by unfold zT; omega) (by omega)) (funext fun j => hA 47 j (by unfold zT; omega) (by omega)) (hA 240 51 (by unfold zT; omega) (by omega)) (funext fun j => hA 269 j (by unfold zT; omega) (by omega)) h.1.2.2.2.2.2.2.2.1, RDots_cg (funext fun j => hA 48 j (by unfold zT; omega) (by omega)) (funext fun j => hA 49 j (by unfold zT; omega) (by omega)) (funext fun j => hA 272 j (by unfold zT; omega) (by omega)) (funext fun j => hA 273 j (by unfold zT; omega) (by omega)) h.1.2.2.2.2.2.2.2.2.1, RPl_cg (hA 50 2 (by unfold zT; omega) (by omega)) (funext fun j => hA 51 j (by unfold zT; omega) (by omega)) (hA 240 57 (by unfold zT; omega) (by omega)) (hA 240 58 (by unfold zT; omega) (by omega)) (hA 240 59 (by unfold zT; omega) (by omega)) h.1.2.2.2.2.2.2.2.2.2.1, RRow_cg (hA 52 2 (by unfold zT; omega) (by omega)) (funext fun j => hA 53 j (by unfold zT; omega) (by omega)) (hA 240 62 (by unfold zT; omega) (by omega)) (funext fun j => hA 276 j (by unfold zT; omega) (by omega)) h.1.2.2.2.2.2.2.2.2.2.2.1, RLegs_cg (hA 54 2 (by unfold zT; omega) (by omega)) (funext fun j => hA 55 j (by unfold zT; omega) (by omega)) (hA 240 64 (by unfold zT; omega) (by omega)) (funext fun j => hA 277 j (by unfold zT; omega) (by omega)) h.1.2.2.2.2.2.2.2.2.2.2.2.1, RRow_cg (hA 56 2 (by unfold zT; omega) (by omega)) (funext fun j => hA 57 j (by unfold zT; omega) (by omega)) (hA 240 66 (by unfold zT; omega) (by omega)) (funext fun j => hA 278 j (by unfold zT; omega) (by omega)) h.1.2.2.2.2.2.2.2.2.2.2.2.2.1, RRow_cg (hA 58 2 (by unfold zT; omega) (by omega)) (funext fun j => hA 59 j (by unfold zT; omega) (by omega)) (hA 240 69 (by unfold zT; omega) (by omega)) (funext fun j => hA 280 j (by unfold zT; omega) (by omega)) h.1.2.2.2.2.2.2.2.2.2.2.2.2.2⟩, RPast_cg (hA 119 2 (by unfold zT; omega) (by omega)) (hA 119 3 (by unfold zT; omega) (by omega)) (fun k h1 h2 => funext fun j => hA k j (by unfold zT; omega) (by omega)) (funext fun j => hA 242 j (by unfold zT; omega) (by omega)) (hA 240 3 (by unfold zT; omega) (by omega)) (funext fun j => hA 244 j (by unfold zT; omega) (by omega)) (funext fun j => hA 245 j (by unfold zT; omega) (by omega)) (funext fun j => hA 246 j (by unfold zT; omega) (by omega)) (hA 240 6 (by unfold zT; omega) (by omega)) (hA 240 7 (by unfold zT; omega) (by omega)) (hA 240 8 (by unfold zT; omega) (by omega)) h.2.1, htape, hflt, RBox_cg (hA 238 1 (by unfold zT; omega) (by omega)) (funext fun j => hA 239 j (by unfold zT; omega) (by omega)) h.2.2.2.2.1, RMisc_cg (hA 240 5 (by unfold zT; omega) (by omega)) (funext fun j => hA 249 j (by unfold zT; omega) (by omega)) (hA 44 1 (by unfold zT; omega) (by omega)) (hA 46 1 (by unfold zT; omega) (by omega)) (hA 50 1 (by unfold zT; omega) (by omega)) (hA 52 1 (by unfold zT; omega) (by omega)) (hA 54 1 (by unfold zT; omega) (by omega)) (hA 56 1 (by unfold zT; omega) (by omega)) (hA 58 1 (by unfold zT; omega) (by omega)) h.2.2.2.2.2.1, RPic_cg (hA 0 2 (by unfold zT; omega) (by omega)) (hA 240 73 (by unfold zT; omega) (by omega)) (fun k h1 h2 => funext fun j => hA k j (by unfold zT; omega) (by omega)) (funext fun j => hA 282 j (by unfold zT; omega) (by omega)) h.2.2.2.2.2.2⟩
theorem Rl_t3 {I I' : zI} (h : Rl I) (hA : ∀ k j, ¬ zT k j → ¬ ((39 ≤ k ∧ k ≤ 43) ∨ k = 261 ∨ (k = 240 ∧ j = 41)) → I' k j = I k j) (haft : RAft I' I' 2 39) (htape : RTape I') (hflt : RFlt I') : Rl I' :=
  ⟨⟨RFirm_cg (funext fun j => hA 2 j (by unfold zT; omega) (by omega)) (fun k h1 h2 => funext fun j => hA k j (by unfold zT; omega) (by omega)) (funext fun j => hA 241 j (by unfold zT; omega) (by omega)) (funext fun j => hA 244 j (by unfold zT; omega) (by omega)) (funext fun j => hA 245 j (by unfold zT; omega) (by omega)) (funext fun j => hA 246 j (by unfold zT; omega) (by omega)) (hA 240 6 (by unfold zT; omega) (by omega)) (hA 240 7 (by unfold zT; omega) (by omega)) (hA 240 8 (by unfold zT; omega) (by omega)) h.1.1, RBook_cg (hA 15 4 (by unfold zT; omega) (by omega)) (fun k h1 h2 => funext fun j => hA k j (by unfold zT; omega) (by omega)) (hA 241 2 (by unfold zT; omega) (by omega)) (funext fun j => hA 247 j (by unfold zT; omega) (by omega)) h.1.2.1, RLaw_cg (hA 21 4 (by unfold zT; omega) (by omega)) (fun k h1 h2 => funext fun j => hA k j (by unfold zT; omega) (by omega)) (hA 250 0 (by unfold zT; omega) (by omega)) (fun l hl => ⟨hA 251 l (by unfold zT; omega) (by omega), hA 252 l (by unfold zT; omega) (by omega), hA 253 l (by unfold zT; omega) (by omega), hA 254 l (by unfold zT; omega) (by omega)⟩) (fun i hi => ⟨hA 255 i (by unfold zT; omega) (by omega), hA 256 i (by unfold zT; omega) (by omega)⟩) h.1.2.2.1, ROrd_cg (hA 2 3 (by unfold zT; omega) (by omega)) (hA 2 4 (by unfold zT; omega) (by omega)) (hA 2 5 (by unfold zT; omega) (by omega)) (hA 29 4 (by unfold zT; omega) (by omega)) (fun k h1 h2 => funext fun j => hA k j (by unfold zT; omega) (by omega)) (hA 240 36 (by unfold zT; omega) (by omega)) (fun j hj => hA 258 j (by unfold zT; omega) (by omega)) h.1.2.2.2.1, RBird_cg (hA 34 4 (by unfold zT; omega) (by omega)) (fun k h1 h2 => funext fun j => hA k j (by unfold zT; omega) (by omega)) (hA 240 38 (by unfold zT; omega) (by omega)) (fun b hb => ⟨hA 259 b (by unfold zT; omega) (by omega), hA 260 b (by unfold zT; omega) (by omega)⟩) h.1.2.2.2.2.1, haft, RRow_cg (hA 44 2 (by unfold zT; omega) (by omega)) (funext fun j => hA 45 j (by unfold zT; omega) (by omega)) (hA 240 47 (by unfold zT; omega) (by omega)) (funext fun j => hA 266 j (by unfold zT; omega) (by omega)) h.1.2.2.2.2.2.2.1, RRow_cg (hA 46 2 (by unfold zT; omega) (by omega)) (funext fun j => hA 47 j (by unfold zT; omega) (by omega)) (hA 240 51 (by unfold zT; omega) (by omega)) (funext fun j => hA 269 j (by unfold zT; omega) (by omega)) h.1.2.2.2.2.2.2.2.1, RDots_cg (funext fun j => hA 48 j (by unfold zT; omega) (by omega)) (funext fun j => hA 49 j (by unfold zT; omega) (by omega)) (funext fun j => hA 272 j (by unfold zT; omega) (by omega)) (funext fun j => hA 273 j (by unfold zT; omega) (by omega)) h.1.2.2.2.2.2.2.2.2.1, RPl_cg (hA 50 2 (by unfold zT; omega) (by omega)) (funext fun j => hA 51 j (by unfold zT; omega) (by omega)) (hA 240 57 (by unfold zT; omega) (by omega)) (hA 240 58 (by unfold zT; omega) (by omega)) (hA 240 59 (by unfold zT; omega) (by omega)) h.1.2.2.2.2.2.2.2.2.2.1, RRow_cg (hA 52 2 (by unfold zT; omega) (by omega)) (funext fun j => hA 53 j (by unfold zT; omega) (by omega)) (hA 240 62 (by unfold zT; omega) (by omega)) (funext fun j => hA 276 j (by unfold zT; omega) (by omega)) h.1.2.2.2.2.2.2.2.2.2.2.1, RLegs_cg (hA 54 2 (by unfold zT; omega) (by omega)) (funext fun j => hA 55 j (by unfold zT; omega) (by omega)) (hA 240 64 (by unfold zT; omega) (by omega)) (funext fun j => hA 277 j (by unfold zT; omega) (by omega)) h.1.2.2.2.2.2.2.2.2.2.2.2.1, RRow_cg (hA 56 2 (by unfold zT; omega) (by omega)) (funext fun j => hA 57 j (by unfold zT; omega) (by omega)) (hA 240 66 (by unfold zT; omega) (by omega)) (funext fun j => hA 278 j (by unfold zT; omega) (by omega)) h.1.2.2.2.2.2.2.2.2.2.2.2.2.1, RRow_cg (hA 58 2 (by unfold zT; omega) (by omega)) (funext fun j => hA 59 j (by unfold zT; omega) (by omega)) (hA 240 69 (by unfold zT; omega) (by omega)) (funext fun j => hA 280 j (by unfold zT; omega) (by omega)) h.1.2.2.2.2.2.2.2.2.2.2.2.2.2⟩, RPast_cg (hA 119 2 (by unfold zT; omega) (by omega)) (hA 119 3 (by unfold zT; omega) (by omega)) (fun k h1 h2 => funext fun j => hA k j (by unfold zT; omega) (by omega)) (funext fun j => hA 242 j (by unfold zT; omega) (by omega)) (hA 240 3 (by unfold zT; omega) (by omega)) (funext fun j => hA 244 j (by unfold zT; omega) (by omega)) (funext fun j => hA 245 j (by unfold zT; omega) (by omega)) (funext fun j => hA 246 j (by unfold zT; omega) (by omega)) (hA 240 6 (by unfold zT; omega) (by omega)) (hA 240 7 (by unfold zT; omega) (by omega)) (hA 240 8 (by unfold zT; omega) (by omega)) h.2.1, htape, hflt, RBox_cg (hA 238 1 (by unfold zT; omega) (by omega)) (funext fun j => hA 239 j (by unfold zT; omega) (by omega)) h.2.2.2.2.1, RMisc_cg (hA 240 5 (by unfold zT; omega) (by omega)) (funext fun j => hA 249 j (by unfold zT; omega) (by omega)) (hA 44 1 (by unfold zT; omega) (by omega)) (hA 46 1 (by unfold zT; omega) (by omega)) (hA 50 1 (by unfold zT; omega) (by omega)) (hA 52 1 (by unfold zT; omega) (by omega)) (hA 54 1 (by unfold zT; omega) (by omega)) (hA 56 1 (by unfold zT; omega) (by omega)) (hA 58 1 (by unfold zT; omega) (by omega)) h.2.2.2.2.2.1, RPic_cg (hA 0 2 (by unfold zT; omega) (by omega)) (hA 240 73 (by unfold zT; omega) (by omega)) (fun k h1 h2 => funext fun j => hA k j (by unfold zT; omega) (by omega)) (funext fun j => hA 282 j (by unfold zT; omega) (by omega)) h.2.2.2.2.2.2⟩
