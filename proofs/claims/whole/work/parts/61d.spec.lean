/-! WHAT A TEXT SAYS, as a function of its tokens: a fault and its token, or the next token and the law's codes -/
abbrev tR := Sum (Int × Nat) (Nat × List Int)
def tB (r : tR) (f : Nat → List Int → tR) : tR := match r with
  | .inl e => .inl e
  | .inr q => f q.1 q.2
def tun (tk : Nat → Int) (k : Nat) (c : List Int) : tR := if 0 ≤ tk k ∧ tk k ≤ 10010 then .inr (k + 1, c ++ [tk k]) else .inl (1, k)
def tpt (tk : Nat → Int) (k : Nat) (c : List Int) : tR := if tk k < 0 ∨ 10000 ≤ tk k then .inl (1, k) else if tk k = 0 then .inl (2, k) else .inr (k + 1, c ++ [tk k])
def tpd (x : Int) : List Int := if x = -1 then [] else [x]
def tsl (tk : Nat → Int) : Nat → Int → Nat → List Int → tR
  | 0, x, k, c => .inr (k, c ++ tpd x)
  | f + 1, x, k, c =>
    if tk k = 20043 ∨ tk k = 20045 then tB (tun tk (k + 1) (c ++ tpd x)) fun k' c' => tsl tk f (tk k) k' c'
    else if tk k = 20042 then tB (tun tk (k + 1) c) fun k' c' => tsl tk f x k' (c' ++ [20042])
    else if tk k = 20047 then tB (tpt tk (k + 1) c) fun k' c' => tsl tk f x k' (c' ++ [20047])
    else .inr (k, c ++ tpd x)
def tsm (tk : Nat → Int) (cnt k : Nat) (c : List Int) : tR := tB (tun tk k c) fun k' c' => tsl tk (cnt - k') (-1) k' c'
def tcp (tk : Nat → Int) (cnt k : Nat) (c : List Int) : tR := tB (tsm tk cnt k c) fun k' c' =>
  if tk k' = 20060 ∨ tk k' = 20061 ∨ tk k' = 20062 then tB (tsm tk cnt (k' + 1) c') fun k2 c2 => .inr (k2, c2 ++ [tk k']) else .inl (1, k')
def tpo (p : Bool) : List Int := if p = true then [10015] else []
def tal (tk : Nat → Int) (C : Nat → List Int → tR) : Nat → Bool → Nat → List Int → tR
  | 0, p, k, c => .inr (k, c ++ tpo p)
  | f + 1, p, k, c =>
    if tk k = 10016 then tB (C (k + 1) c) fun k' c' => tal tk C f p k' (c' ++ [10016])
    else if tk k = 10015 then tB (C (k + 1) (c ++ tpo p)) fun k' c' => tal tk C f true k' c'
    else .inr (k, c ++ tpo p)
def tA (tk : Nat → Int) (cnt : Nat) (C : Nat → List Int → tR) (k : Nat) (c : List Int) : tR := tB (C k c) fun k' c' => tal tk C (cnt - k') false k' c'
def tcn (tk : Nat → Int) (cnt : Nat) : Nat → Nat → List Int → tR
  | 0, k, c => if tk k = 10017 ∨ tk k = 20040 then .inl (3, k) else tcp tk cnt k c
  | r + 1, k, c =>
    if tk k = 10017 then tB (tcn tk cnt r (k + 1) c) fun k' c' => .inr (k', c' ++ [10017])
    else if tk k = 20040 then tB (tA tk cnt (tcn tk cnt r) (k + 1) c) fun k' c' => if tk k' = 20041 then .inr (k' + 1, c') else .inl (1, k')
    else tcp tk cnt k c
/-- the lines of a text, so many at most; s: what they have told so far -/
def tln {σ : Type} (tk : Nat → Int) (bg : Int → Bool) (L : Nat → σ → Sum (Int × Nat) (Nat × σ)) : Nat → Nat → σ → Sum (Int × Nat) σ
  | f, k, s => if tk k = -2 then .inr s else if bg (tk k) = true then (match f with
    | 0 => .inl (3, k)
    | f + 1 => (match L k s with
      | .inl e => .inl e
      | .inr q => tln tk bg L f q.1 q.2)) else .inl (1, k)
/-! what comes out of them -/
def ztl : List Int → List Bool → Option (List Bool)
  | [], ts => some ts
  | t :: r, ts => (ztk t ts).bind fun ts => ztl r ts
theorem ztl_app : ∀ (a b : List Int) (ts : List Bool), ztl (a ++ b) ts = (ztl a ts).bind fun ts => ztl b ts
  | [], b, ts => rfl
  | t :: r, b, ts => by
    rw [List.cons_append, ztl, ztl]
    cases h : ztk t ts with
    | none => rfl
    | some x => exact ztl_app r b x
/-- every 20047 has its number before it -/
def tqu (c : List Int) : Prop := ∀ i, i < c.length → c.getD i 0 = 20047 → 0 < i ∧ 0 < c.getD (i - 1) 0 ∧ c.getD (i - 1) 0 < 10000
theorem getD_l {a b : List Int} {i : Nat} (h : i < a.length) : (a ++ b).getD i 0 = a.getD i 0 := by
  rw [List.getD_eq_getElem?_getD, List.getD_eq_getElem?_getD, List.getElem?_append_left h]
theorem getD_r {a : List Int} {x : Int} : (a ++ [x]).getD a.length 0 = x := by
  rw [List.getD_eq_getElem?_getD, List.getElem?_append_right (Nat.le_refl _), Nat.sub_self]
  rfl
theorem tqu_1 {c : List Int} {x : Int} (h : tqu c) (hx : ¬ x = 20047) : tqu (c ++ [x]) := fun i hi he => by
  rw [List.length_append, List.length_singleton] at hi
  by_cases hic : i < c.length
  · rw [getD_l hic] at he
    rw [getD_l (by omega)]
    exact h i hic he
  · rw [show i = c.length by omega, getD_r] at he
    exact absurd he hx
theorem tqu_2 {c : List Int} {x : Int} (h : tqu c) (h0 : 0 < x) (h1 : x < 10000) : tqu (c ++ [x] ++ [20047]) := fun i hi he => by
  rw [List.length_append, List.length_singleton] at hi
  by_cases hic : i < (c ++ [x]).length
  · rw [getD_l hic] at he
    rw [getD_l (by omega)]
    exact tqu_1 h (by omega) i hic he
  · have hl : (c ++ [x]).length = c.length + 1 := by rw [List.length_append, List.length_singleton]
    rw [getD_l (by omega), show i - 1 = c.length by omega, getD_r]
    omega
/-- what a piece leaves: codes behind the old ones, no more than tokens, typed -/
def tG (cnt : Nat) (a : List Bool) (lim : Nat) (b : List Bool) (s : Nat) (k : Nat) (c : List Int) (r : tR) : Prop := ∀ k' c', r = .inr (k', c') → k ≤ k' ∧ k' ≤ cnt ∧ c'.length + k ≤ c.length + s + k' ∧ (tqu c → tqu c') ∧ ∃ e, c' = c ++ e ∧ ∀ ts : List Bool, ts.length ≤ lim → ztl e (a ++ ts) = some (b ++ ts)
theorem tB_inr {r : tR} {f : Nat → List Int → tR} {k' : Nat} {c' : List Int} (h : tB r f = .inr (k', c')) : ∃ k1 c1, r = .inr (k1, c1) ∧ f k1 c1 = .inr (k', c') := by
  cases r with
  | inl e => cases h
  | inr q => exact ⟨q.1, q.2, rfl, h⟩
theorem tG_b {cnt : Nat} {a b b2 : List Bool} {lim s s1 s2 k : Nat} {c : List Int} {r : tR} {f : Nat → List Int → tR} (h1 : tG cnt a lim b s1 k c r) (h2 : ∀ k1 c1, r = .inr (k1, c1) → k ≤ k1 → k1 ≤ cnt → tG cnt b lim b2 s2 k1 c1 (f k1 c1)) (hs : s1 + s2 ≤ s) : tG cnt a lim b2 s k c (tB r f) := fun k' c' h => by
  obtain ⟨k1, c1, e1, e2⟩ := tB_inr h
  obtain ⟨g1, g2, g3, g4, x, g5, g6⟩ := h1 k1 c1 e1
  obtain ⟨q1, q2, q3, q4, y, q5, q6⟩ := h2 k1 c1 e1 g1 g2 k' c' e2
  refine ⟨by omega, q2, by omega, fun h => q4 (g4 h), x ++ y, by rw [q5, g5, List.append_assoc], fun ts hts => ?_⟩
  rw [ztl_app, g6 ts hts, Option.bind_some, q6 ts hts]
theorem tG_end {cnt : Nat} {a b : List Bool} {lim s k j : Nat} {c e : List Int} (hk : k + j ≤ cnt) (hl : e.length ≤ s + j) (hq : tqu c → tqu (c ++ e)) (ht : ∀ ts : List Bool, ts.length ≤ lim → ztl e (a ++ ts) = some (b ++ ts)) : tG cnt a lim b s k c (.inr (k + j, c ++ e)) := fun k' c' h => by
  cases h
  exact ⟨by omega, hk, by rw [List.length_append]; omega, hq, e, rfl, ht⟩
theorem tG_inl {cnt : Nat} {a b : List Bool} {lim s k : Nat} {c : List Int} {e : Int × Nat} : tG cnt a lim b s k c (.inl e) := fun k' c' h => by cases h
theorem tG_pre {cnt : Nat} {a a2 b : List Bool} {lim s s2 k j : Nat} {c e : List Int} {r : tR} (hl : e.length ≤ j) (hq : tqu c → tqu (c ++ e)) (ht : ∀ ts : List Bool, ts.length ≤ lim → ztl e (a ++ ts) = some (a2 ++ ts)) (h : tG cnt a2 lim b s k (c ++ e) r) (hs : s + j ≤ s2) : tG cnt a lim b s2 k c r := fun k' c' h' => by
  obtain ⟨q1, q2, q3, q4, y, q5, q6⟩ := h k' c' h'
  rw [List.length_append] at q3
  refine ⟨q1, q2, by omega, fun h => q4 (hq h), e ++ y, by rw [q5, List.append_assoc], fun ts hts => ?_⟩
  rw [ztl_app, ht ts hts, Option.bind_some, q6 ts hts]
theorem tG_tok {cnt : Nat} {a b : List Bool} {lim s k : Nat} {c : List Int} {r : tR} (h : tG cnt a lim b s (k + 1) c r) : tG cnt a lim b (s + 1) k c r := fun k' c' h' => by
  obtain ⟨q1, q2, q3, q4, y⟩ := h k' c' h'
  exact ⟨by omega, q2, by omega, q4, y⟩
theorem ztk_u {t : Int} {ts : List Bool} (h : t ≤ 10010) (hl : ts.length < 64) : ztk t ts = some (false :: ts) := by
  unfold ztk
  rw [if_pos h, if_pos hl]
theorem ztl_u {t : Int} {ts : List Bool} (h : t ≤ 10010) (hl : ts.length < 64) : ztl [t] ts = some (false :: ts) := by
  rw [ztl, ztk_u h hl]
  rfl
theorem tun_G {tk : Nat → Int} {cnt k : Nat} {c : List Int} {lim : Nat} (hl : lim ≤ 63) (h2 : ∀ j, cnt ≤ j → tk j = -2) : tG cnt [] lim [false] 0 k c (tun tk k c) := by
  unfold tun
  split
  · rename_i h
    have hk : k < cnt := by
      rcases Nat.lt_or_ge k cnt with g | g
      · exact g
      · have := h2 k g; omega
    exact tG_end (by omega) (by rw [List.length_singleton]; omega) (fun q => tqu_1 q (by omega)) fun ts hts => ztl_u h.2 (by first | omega | (simp; omega))
  · exact tG_inl
def tpb (x : Int) : List Bool := if x = -1 then [] else [false]
theorem ztk_op {t : Int} {r : List Bool} (h : t = 20043 ∨ t = 20045 ∨ t = 20042 ∨ t = 20047) : ztk t (false :: false :: r) = some (false :: r) := by
  rcases h with rfl | rfl | rfl | rfl <;> rfl
theorem ztl_pd {x : Int} (hx : x = -1 ∨ x = 20043 ∨ x = 20045) {ts : List Bool} : ztl (tpd x) ([false] ++ tpb x ++ ts) = some ([false] ++ ts) := by
  rcases hx with rfl | rfl | rfl <;> rfl
theorem tqu_pd {x : Int} (hx : x = -1 ∨ x = 20043 ∨ x = 20045) {c : List Int} (h : tqu c) : tqu (c ++ tpd x) := by
  rcases hx with rfl | rfl | rfl
  · rw [show tpd (-1) = [] from rfl, List.append_nil]; exact h
  · exact tqu_1 h (by decide)
  · exact tqu_1 h (by decide)
theorem tpd_len (x : Int) : (tpd x).length ≤ 1 := by unfold tpd; split <;> simp
theorem tpb_len (x : Int) : (tpb x).length = (tpd x).length := by unfold tpd tpb; split <;> rfl
theorem tsl_G {tk : Nat → Int} {cnt lim : Nat} (hl : lim ≤ 60) (h2 : ∀ j, cnt ≤ j → tk j = -2) : ∀ (f : Nat) (x : Int) (k : Nat) (c : List Int), (x = -1 ∨ x = 20043 ∨ x = 20045) → k ≤ cnt → tG cnt ([false] ++ tpb x) lim [false] (tpd x).length k c (tsl tk f x k c)
  | 0, x, k, c, hx, hk => tG_end (j := 0) hk (Nat.le_refl _) (tqu_pd hx) fun ts _ => ztl_pd hx
  | f + 1, x, k, c, hx, hk => by
    rw [tsl]
    by_cases a1 : tk k = 20043 ∨ tk k = 20045
    · rw [if_pos a1]
      have hy : ¬ tk k = -1 := by omega
      have u := tun_G (tk := tk) (cnt := cnt) (k := k + 1) (c := c ++ tpd x) (lim := 63) (Nat.le_refl _) h2
      refine tG_pre (j := (tpd x).length) (s := 0) (Nat.le_refl _) (tqu_pd hx) (a2 := [false]) (fun ts _ => ztl_pd hx) ?_ (by omega)
      intro k' c' h
      obtain ⟨k1, c1, e1, e2⟩ := tB_inr h
      obtain ⟨g1, g2, g3, g4, y, g5, g6⟩ := u k1 c1 e1
      obtain ⟨q1, q2, q3, q4, z, q5, q6⟩ := tsl_G hl h2 f (tk k) k1 c1 (by omega) g2 k' c' e2
      have hb : tpb (tk k) = [false] := by unfold tpb; rw [if_neg hy]
      have hd : (tpd (tk k)).length = 1 := by unfold tpd; rw [if_neg hy]; rfl
      rw [hb] at q6
      rw [hd] at q3
      refine ⟨by omega, q2, by omega, fun h => q4 (g4 h), y ++ z, by rw [q5, g5, List.append_assoc], fun ts hts => ?_⟩
      rw [ztl_app]
      have := g6 ([false] ++ ts) (by rw [List.length_append, List.length_singleton]; omega)
      rw [List.nil_append] at this
      rw [this, Option.bind_some]
      exact q6 ts hts
    · rw [if_neg a1]
      have mul : ∀ (y : Int) (r : tR), (y = 20042 ∨ y = 20047) → tG cnt [] 62 [false] 0 (k + 1) c r → (∀ k1 c1, r = .inr (k1, c1) → tqu c → y = 20042 ∨ tqu (c1 ++ [20047])) → tG cnt ([false] ++ tpb x) lim [false] (tpd x).length k c (tB r fun k' c' => tsl tk f x k' (c' ++ [y])) := fun y r hy u hq => by
        intro k' c' h
        obtain ⟨k1, c1, e1, e2⟩ := tB_inr h
        obtain ⟨g1, g2, g3, g4, z, g5, g6⟩ := u k1 c1 e1
        obtain ⟨q1, q2, q3, q4, w, q5, q6⟩ := tsl_G hl h2 f x k1 (c1 ++ [y]) hx g2 k' c' e2
        rw [List.length_append, List.length_singleton] at q3
        refine ⟨by omega, q2, by omega, fun hc0 => q4 ?_, z ++ ([y] ++ w), by rw [q5, g5, List.append_assoc, List.append_assoc], fun ts hts => ?_⟩
        · rcases hy with rfl | rfl
          · exact tqu_1 (g4 hc0) (by decide)
          · exact (hq k1 c1 e1 hc0).resolve_left (by decide)
        · have hbl : (tpb x).length ≤ 1 := by rw [tpb_len]; exact tpd_len x
          rw [ztl_app]
          have := g6 ([false] ++ tpb x ++ ts) (by rw [List.length_append, List.length_append, List.length_singleton]; omega)
          rw [List.nil_append] at this
          rw [this, Option.bind_some, ztl_app]
          have z1 : ztl [y] ([false] ++ ([false] ++ tpb x ++ ts)) = some ([false] ++ tpb x ++ ts) := by
            rw [ztl]
            show (ztk y (false :: false :: (tpb x ++ ts))).bind _ = _
            rw [ztk_op (by omega)]
            rfl
          rw [z1, Option.bind_some]
          exact q6 ts hts
      by_cases a2 : tk k = 20042
      · rw [if_pos a2]
        exact mul 20042 _ (Or.inl rfl) (tun_G (by omega) h2) fun _ _ _ _ => Or.inl rfl
      · rw [if_neg a2]
        by_cases a3 : tk k = 20047
        · rw [if_pos a3]
          refine mul 20047 _ (Or.inr rfl) ?_ ?_
          · unfold tpt
            split
            · exact tG_inl
            · rename_i h
              split
              · exact tG_inl
              · have hk1 : k + 1 < cnt := by
                  rcases Nat.lt_or_ge (k + 1) cnt with g | g
                  · exact g
                  · have := h2 (k + 1) g; omega
                exact tG_end (by omega) (by rw [List.length_singleton]; omega) (fun q => tqu_1 q (by omega)) fun ts hts => ztl_u (by omega) (by first | omega | (simp; omega))
          · intro k1 c1 he hq
            unfold tpt at he
            split at he
            · cases he
            · split at he
              · cases he
              · cases he
                exact Or.inr (tqu_2 hq (by omega) (by omega))
        · rw [if_neg a3]
          exact tG_end (j := 0) hk (Nat.le_refl _) (tqu_pd hx) fun ts _ => ztl_pd hx
theorem tsm_G {tk : Nat → Int} {cnt k lim : Nat} {c : List Int} (hl : lim ≤ 60) (h2 : ∀ j, cnt ≤ j → tk j = -2) : tG cnt [] lim [false] 0 k c (tsm tk cnt k c) := by
  unfold tsm
  exact tG_b (s1 := 0) (s2 := 0) (tun_G (by omega) h2) (fun k1 c1 _ _ hk => tsl_G hl h2 (cnt - k1) (-1) k1 c1 (Or.inl rfl) hk) (Nat.le_refl _)
theorem tcp_G {tk : Nat → Int} {cnt k lim : Nat} {c : List Int} (hl : lim ≤ 59) (h2 : ∀ j, cnt ≤ j → tk j = -2) : tG cnt [] lim [true] 0 k c (tcp tk cnt k c) := by
  unfold tcp
  refine tG_b (s1 := 0) (s2 := 0) (tsm_G (by omega) h2) (fun k1 c1 _ _ hk => ?_) (Nat.le_refl _)
  by_cases a : tk k1 = 20060 ∨ tk k1 = 20061 ∨ tk k1 = 20062
  · rw [if_pos a]
    intro k' c' h
    obtain ⟨k3, c3, e1, e2⟩ := tB_inr h
    cases e2
    obtain ⟨g1, g2, g3, g4, z, g5, g6⟩ := tsm_G (tk := tk) (cnt := cnt) (k := k1 + 1) (c := c1) (lim := 60) (Nat.le_refl _) h2 _ _ e1
    refine ⟨by omega, g2, by rw [List.length_append, List.length_singleton]; omega, fun h => tqu_1 (g4 h) (by omega), z ++ [tk k1], by rw [g5, List.append_assoc], fun ts hts => ?_⟩
    rw [ztl_app]
    have := g6 ([false] ++ ts) (by rw [List.length_append, List.length_singleton]; omega)
    rw [List.nil_append] at this
    rw [this, Option.bind_some, ztl]
    rcases a with a | a | a <;> rw [a] <;> rfl
  · rw [if_neg a]
    exact tG_inl
def tpc (p : Bool) : List Bool := if p = true then [true] else []
theorem tpo_len (p : Bool) : (tpo p).length ≤ 1 := by unfold tpo; split <;> simp
theorem ztl_po {p : Bool} {ts : List Bool} : ztl (tpo p) ([true] ++ tpc p ++ ts) = some ([true] ++ ts) := by cases p <;> rfl
theorem tqu_po {p : Bool} {c : List Int} (h : tqu c) : tqu (c ++ tpo p) := by
  cases p
  · rw [show tpo false = [] from rfl, List.append_nil]; exact h
  · exact tqu_1 h (by decide)
theorem tal_G {tk : Nat → Int} {cnt lim : Nat} {C : Nat → List Int → tR} (hC : ∀ k c, tG cnt [] (lim + 2) [true] 0 k c (C k c)) : ∀ (f : Nat) (p : Bool) (k : Nat) (c : List Int), k ≤ cnt → tG cnt ([true] ++ tpc p) lim [true] (tpo p).length k c (tal tk C f p k c)
  | 0, p, k, c, hk => tG_end (j := 0) hk (Nat.le_refl _) tqu_po fun ts _ => ztl_po
  | f + 1, p, k, c, hk => by
    rw [tal]
    by_cases a1 : tk k = 10016
    · rw [if_pos a1]
      intro k' c' h
      obtain ⟨k1, c1, e1, e2⟩ := tB_inr h
      obtain ⟨g1, g2, g3, g4, z, g5, g6⟩ := hC (k + 1) c k1 c1 e1
      obtain ⟨q1, q2, q3, q4, w, q5, q6⟩ := tal_G hC f p k1 (c1 ++ [10016]) g2 k' c' e2
      rw [List.length_append, List.length_singleton] at q3
      refine ⟨by omega, q2, by omega, fun h => q4 (tqu_1 (g4 h) (by decide)), z ++ ([10016] ++ w), by rw [q5, g5, List.append_assoc, List.append_assoc], fun ts hts => ?_⟩
      rw [ztl_app]
      have := g6 ([true] ++ tpc p ++ ts) (by
        rw [List.length_append, List.length_append, List.length_singleton]
        have : (tpc p).length ≤ 1 := by cases p <;> decide
        omega)
      rw [List.nil_append] at this
      rw [this, Option.bind_some, ztl_app]
      have z1 : ztl [10016] ([true] ++ ([true] ++ tpc p ++ ts)) = some ([true] ++ tpc p ++ ts) := by cases p <;> rfl
      rw [z1, Option.bind_some]
      exact q6 ts hts
    · rw [if_neg a1]
      by_cases a2 : tk k = 10015
      · rw [if_pos a2]
        refine tG_pre (j := (tpo p).length) (s := 0) (Nat.le_refl _) tqu_po (a2 := [true]) (fun ts _ => ztl_po) ?_ (by omega)
        intro k' c' h
        obtain ⟨k1, c1, e1, e2⟩ := tB_inr h
        obtain ⟨g1, g2, g3, g4, z, g5, g6⟩ := hC (k + 1) (c ++ tpo p) k1 c1 e1
        obtain ⟨q1, q2, q3, q4, w, q5, q6⟩ := tal_G hC f true k1 c1 g2 k' c' e2
        rw [show (tpo true).length = 1 from rfl] at q3
        refine ⟨by omega, q2, by omega, fun h => q4 (g4 h), z ++ w, by rw [q5, g5, List.append_assoc], fun ts hts => ?_⟩
        rw [ztl_app]
        have := g6 ([true] ++ ts) (by rw [List.length_append, List.length_singleton]; omega)
        rw [List.nil_append] at this
        rw [this, Option.bind_some]
        exact q6 ts hts
      · rw [if_neg a2]
        exact tG_end (j := 0) hk (Nat.le_refl _) tqu_po fun ts _ => ztl_po
theorem tA_G {tk : Nat → Int} {cnt lim k : Nat} {c : List Int} {C : Nat → List Int → tR} (hC : ∀ k c, tG cnt [] (lim + 2) [true] 0 k c (C k c)) : tG cnt [] lim [true] 0 k c (tA tk cnt C k c) := by
  unfold tA
  refine tG_b (s1 := 0) (s2 := 0) (b := [true]) ?_ (fun k1 c1 _ _ hk => tal_G hC (cnt - k1) false k1 c1 hk) (Nat.le_refl _)
  intro k' c' h
  obtain ⟨q1, q2, q3, q4, w, q5, q6⟩ := hC k c k' c' h
  exact ⟨q1, q2, q3, q4, w, q5, fun ts hts => q6 ts (by omega)⟩
theorem tC_G {tk : Nat → Int} {cnt : Nat} (h2 : ∀ j, cnt ≤ j → tk j = -2) : ∀ (r lim : Nat) (k : Nat) (c : List Int), lim + 2 * r ≤ 59 → tG cnt [] lim [true] 0 k c (tcn tk cnt r k c)
  | 0, lim, k, c, hl => by
    rw [tcn]
    split
    · exact tG_inl
    · exact tcp_G (by omega) h2
  | r + 1, lim, k, c, hl => by
    rw [tcn]
    by_cases a1 : tk k = 10017
    · rw [if_pos a1]
      intro k' c' h
      obtain ⟨k1, c1, e1, e2⟩ := tB_inr h
      cases e2
      obtain ⟨g1, g2, g3, g4, z, g5, g6⟩ := tC_G h2 r lim (k + 1) c (by omega) _ _ e1
      refine ⟨by omega, g2, by rw [List.length_append, List.length_singleton]; omega, fun h => tqu_1 (g4 h) (by decide), z ++ [10017], by rw [g5, List.append_assoc], fun ts hts => ?_⟩
      rw [ztl_app, g6 ts hts]
      rfl
    · rw [if_neg a1]
      by_cases a2 : tk k = 20040
      · rw [if_pos a2]
        intro k' c' h
        obtain ⟨k1, c1, e1, e2⟩ := tB_inr h
        obtain ⟨g1, g2, g3, g4, z⟩ := tA_G (tk := tk) (fun k c => tC_G h2 r (lim + 2) k c (by omega)) k1 c1 e1
        by_cases a3 : tk k1 = 20041
        · rw [if_pos a3] at e2
          cases e2
          have hk : k1 < cnt := by
            rcases Nat.lt_or_ge k1 cnt with g | g
            · exact g
            · have := h2 k1 g; omega
          exact ⟨by omega, by omega, by omega, g4, z⟩
        · rw [if_neg a3] at e2
          cases e2
      · rw [if_neg a2]
        exact tcp_G (by omega) h2
