/-! THE CLASS READS -/
def tfC : List (Nat × Nat) := [(213, 5), (213, 6), (213, 7), (213, 8), (217, 2)]
def tfS : List (Nat × Nat) := [(213, 5), (213, 6), (217, 2)]
def tcB : List Nat := [218, 219, 220, 221, 222, 223, 226, 227, 228, 229, 230]
def tTK (tk st : Nat → Int) (cnt : Nat) (n : Int) (I : zI) : Prop := I 213 4 = (cnt : Int) ∧ cnt ≤ 400 ∧ I 213 1 = n ∧ (∀ j, j < cnt → I 215 j = tk j ∧ I 216 j = st j) ∧ ∀ j, cnt ≤ j → tk j = -2 ∧ st j = n
def CS (I0 : zI) (k : Nat) (c : List Int) (I : zI) : Prop := Ag [223] tfS I0 I ∧ I 213 5 = (k : Int) ∧ I 217 2 = (c.length : Int) ∧ ∀ i, i < c.length → I 223 i = c.getD i 0
def CX (I0 : zI) (g p : Int) (I : zI) : Prop := Ag tcB tfC I0 I ∧ I 213 7 = g ∧ I 213 8 = p
def CO (st : Nat → Int) (I0 : zI) (o : zO) (r : tR) : Prop := match r with
  | .inl e => ∃ I', o = some (0, I') ∧ CX I0 e.1 (st e.2) I'
  | .inr q => ∃ I', o = some (1, I') ∧ CS I0 q.1 q.2 I'
theorem tfC_mono {I0 I : zI} (h : Ag [223] tfS I0 I) : Ag tcB tfC I0 I := Ag_mono h (by decide) (by decide)
theorem wr_m1 {f : Nat} (h : f ≤ 4000) : wr (((f + 1 : Nat) : Int) + -1) = (f : Int) := by rw [wr_id (by omega) (by omega)]; omega
theorem wr_8 {r : Nat} (h : r ≤ 8) : wr (8 - ((r + 1 : Nat) : Int) + 1) = 8 - (r : Int) := by rw [wr_id (by omega) (by omega)]; omega
theorem wr_p1 {i : Nat} (h : i ≤ 4000) : wr ((i : Int) + 1) = ((i + 1 : Nat) : Int) := by rw [wr_id (by omega) (by omega)]; rfl
theorem wr_32 {i : Nat} (h : i < 16) : wr (32 + (i : Int)) = ((32 + i : Nat) : Int) := by rw [wr_id (by omega) (by omega)]; omega
variable {tk st : Nat → Int} {cnt : Nat} {n : Int} {I0 : zI}
theorem tTK_ag {I : zI} (h : tTK tk st cnt n I0) (a : Ag tcB tfC I0 I) : tTK tk st cnt n I := by
  unfold tTK at *
  rw [ag_c a 215 (by decide) (by decide), ag_c a 216 (by decide) (by decide), ag_f a 213 4 (by decide) (by decide), ag_f a 213 1 (by decide) (by decide)]
  exact h
theorem CO_b {o : zO} {r : tR} {K : Int × zI → zO} {f : Nat → List Int → tR} (h : CO st I0 o r) (hK : ∀ k' c' I', r = .inr (k', c') → CS I0 k' c' I' → CO st I0 (K (1, I')) (f k' c')) : CO st I0 (o.bind fun p => if p.1 = 0 then some (0, p.2) else K p) (tB r f) := by
  cases r with
  | inl e =>
    obtain ⟨I', h1, h2⟩ := h
    exact ⟨I', by rw [h1]; rfl, h2⟩
  | inr q =>
    obtain ⟨I', h1, h2⟩ := h
    rw [h1]
    exact hK q.1 q.2 I' rfl h2
theorem s_63 {d k : Nat} {c : List Int} {I : zI} (h : tTK tk st cnt n I0) (s : CS I0 k c I) : cl (d + 1) 63 [.inr (some 213)] I = some (tk k, I) := by
  obtain ⟨h1, h2, h3, h4, h5⟩ := tTK_ag h (tfC_mono s.1)
  rw [e_63, s.2.1, h1, if_neg (by omega)]
  by_cases hk : k < cnt
  · rw [if_pos (by omega), if_pos (by omega), if_pos (by omega), Int.toNat_natCast, (h4 k hk).1]
  · rw [if_neg (by omega), (h5 k (by omega)).1]
theorem s_64 {d k : Nat} {c : List Int} {I : zI} {x : Int} (h : tTK tk st cnt n I0) (s : CS I0 k c I) : ∃ I', cl (d + 1) 64 [.inr (some 213), .inl x] I = some (0, I') ∧ CX I0 x (st k) I' := by
  obtain ⟨h1, h2, h3, h4, h5⟩ := tTK_ag h (tfC_mono s.1)
  refine ⟨up (up I 213 7 x) 213 8 (st k), ?_, Ag_uf (by decide) (Ag_uf (by decide) (tfC_mono s.1)), (up_j (by decide)).trans up_s, up_s⟩
  rw [e_64, s.2.1, h1, h3, if_neg (by omega)]
  by_cases hk : k < cnt
  · rw [if_pos (by omega), if_pos (by omega), if_pos (by omega), Int.toNat_natCast, (h4 k hk).2]
  · rw [if_neg (by omega), (h5 k (by omega)).2]
theorem CO_64 {d k : Nat} {c : List Int} {I : zI} {x : Int} (h : tTK tk st cnt n I0) (s : CS I0 k c I) : CO st I0 ((cl (d + 1) 64 [.inr (some 213), .inl x] I).bind fun p => if p.1 = 0 ∨ p.1 = 1 then some (p.1, p.2) else none) (.inl (x, k)) := by
  obtain ⟨I', h1, h2⟩ := s_64 (d := d) (x := x) h s
  exact ⟨I', by rw [h1]; rfl, h2⟩
theorem s_41 {d k : Nat} {c : List Int} {I : zI} {x : Int} (s : CS I0 k c I) (hc : c.length < 400) : ∃ I', cl (d + 1) 41 [.inr (some 217), .inl x] I = some (0, I') ∧ CS I0 k (c ++ [x]) I' := by
  obtain ⟨s1, s2, s3, s4⟩ := s
  refine ⟨up (up I 223 c.length x) 217 2 ((c.length : Int) + 1), ?_, Ag_uf (by decide) (Ag_up (by decide) s1), (up_c (by decide)).trans ((up_c (by decide)).trans s2), ?_, fun i hi => ?_⟩
  · rw [e_41, s3, if_neg (by omega), if_pos (by omega), if_pos (by omega), Int.toNat_natCast, wr_id (by omega) (by omega)]
  · rw [up_s, List.length_append, List.length_singleton]; rfl
  · rw [List.length_append, List.length_singleton] at hi
    rw [up_c (by decide)]
    by_cases hic : i < c.length
    · rw [up_j (by omega), getD_l hic, s4 i hic]
    · rw [show i = c.length by omega, up_s, getD_r]
theorem CS_n {k : Nat} {c : List Int} {I : zI} (s : CS I0 k c I) (hk : k < 4000) : CS I0 (k + 1) c (up I 213 5 (wr (I 213 5 + 1))) := by
  obtain ⟨s1, s2, s3, s4⟩ := s
  refine ⟨Ag_uf (by decide) s1, ?_, (up_c (by decide)).trans s3, fun i hi => (up_c (by decide)).trans (s4 i hi)⟩
  rw [up_s, s2, wr_id (by omega) (by omega)]
  rfl
theorem tk_in {k : Nat} (h : tTK tk st cnt n I0) (hk : ¬ tk k = -2) : k < cnt := by
  rcases Nat.lt_or_ge k cnt with g | g
  · exact g
  · exact absurd (h.2.2.2.2 k g).1 hk
theorem s_73 {d k : Nat} {c : List Int} {I : zI} (h : tTK tk st cnt n I0) (s : CS I0 k c I) (hc : c.length ≤ k) : CO st I0 (cl (d + 2) 73 [.inr (some 213)] I) (tun tk k c) := by
  have h2 := h.2.1
  rw [e_73, s_63 h s, Option.bind_some]
  dsimp only
  unfold tun
  by_cases a : tk k < 0
  · rw [if_pos a, if_neg (by omega)]
    exact CO_64 h s
  · rw [if_neg a]
    by_cases b : 10010 < tk k
    · rw [if_pos b, if_neg (by omega)]
      exact CO_64 h s
    · have hk := tk_in h (k := k) (by omega)
      rw [if_neg b, if_pos (by omega)]
      obtain ⟨I', q1, q2⟩ := s_41 (d := d) (x := tk k) s (by omega)
      rw [q1, Option.bind_some]
      exact ⟨_, rfl, CS_n q2 (by omega)⟩
theorem s_74 {d k : Nat} {c : List Int} {I : zI} (h : tTK tk st cnt n I0) (s : CS I0 k c I) (hc : c.length ≤ k) : CO st I0 (cl (d + 2) 74 [.inr (some 213)] I) (tpt tk k c) := by
  have h2 := h.2.1
  rw [e_74, s_63 h s, Option.bind_some]
  dsimp only
  unfold tpt
  by_cases a : tk k < 0
  · rw [if_pos a, if_pos (Or.inl a)]
    exact CO_64 h s
  · rw [if_neg a]
    by_cases b : tk k < 10000
    · rw [if_pos b, if_neg (show ¬ (tk k < 0 ∨ 10000 ≤ tk k) by omega)]
      by_cases e : tk k = 0
      · rw [if_pos e, if_pos e]
        exact CO_64 h s
      · have hk := tk_in h (k := k) (by omega)
        rw [if_neg e, if_neg e]
        obtain ⟨I', q1, q2⟩ := s_41 (d := d) (x := tk k) s (by omega)
        rw [q1, Option.bind_some]
        exact ⟨_, rfl, CS_n q2 (by omega)⟩
    · rw [if_neg b, if_pos (show tk k < 0 ∨ 10000 ≤ tk k by omega)]
      exact CO_64 h s
theorem s_72e {d k : Nat} {c : List Int} {I : zI} {x : Int} (s : CS I0 k c I) (hc : c.length + (tpd x).length ≤ 400) : CO st I0 (if x = -1 then some (1, I) else (cl (d + 1) 41 [.inr (some 217), .inl x] I).bind fun p => some (1, p.2)) (.inr (k, c ++ tpd x)) := by
  unfold tpd at *
  by_cases hx : x = -1
  · rw [if_pos hx, if_pos hx, List.append_nil]
    exact ⟨I, rfl, s⟩
  · rw [if_neg hx] at hc
    rw [List.length_singleton] at hc
    rw [if_neg hx, if_neg hx]
    obtain ⟨I', q1, q2⟩ := s_41 (d := d) (x := x) s (by omega)
    rw [q1, Option.bind_some]
    exact ⟨I', rfl, q2⟩
theorem tun_l {k : Nat} {c : List Int} (h2 : ∀ j, cnt ≤ j → tk j = -2) {k' : Nat} {c' : List Int} (h : tun tk k c = .inr (k', c')) : k' ≤ cnt ∧ c'.length + k ≤ c.length + k' := by
  obtain ⟨g1, g2, g3, -, -⟩ := tun_G (tk := tk) (cnt := cnt) (lim := 0) (by omega) h2 k' c' h
  omega
theorem tpt_l {k : Nat} {c : List Int} (h2 : ∀ j, cnt ≤ j → tk j = -2) {k' : Nat} {c' : List Int} (h : tpt tk k c = .inr (k', c')) : k' ≤ cnt ∧ k' = k + 1 ∧ c'.length = c.length + 1 := by
  unfold tpt at h
  split at h
  · cases h
  · split at h
    · cases h
    · cases h
      have hk : k < cnt := by
        rcases Nat.lt_or_ge k cnt with g | g
        · exact g
        · have := h2 k g; omega
      exact ⟨by omega, rfl, by rw [List.length_append, List.length_singleton]⟩
theorem s_72l {d : Nat} (h : tTK tk st cnt n I0) : ∀ (f : Nat) (x : Int) (k : Nat) (c : List Int) (I : zI), f ≤ 400 → CS I0 k c I → c.length + (tpd x).length ≤ k → k ≤ cnt → CO st I0 (zD (d + 3) 72 13 [some (.inr (some 213)), some (.inl x), some (.inl (f : Int))] [] I) (tsl tk f x k c)
  | 0, x, k, c, I, _, s, hc, hk => by
    have h2 := h.2.1
    rw [e_72_13, if_neg (by omega)]
    exact s_72e s (by omega)
  | f + 1, x, k, c, I, hf, s, hc, hk => by
    have h2 := h.2.1
    have h5 : ∀ j, cnt ≤ j → tk j = -2 := fun j hj => (h.2.2.2.2 j hj).1
    rw [e_72_13, if_pos (by omega), s_63 h s, Option.bind_some, tsl]
    dsimp only
    have pm : (tk k = 20043 ∨ tk k = 20045) → CO st I0 (zD (d + 3) 72 31 [some (.inr (some 213)), some (.inl x), some (.inl ((f + 1 : Nat) : Int)), some (.inl (tk k))] [] I) (tB (tun tk (k + 1) (c ++ tpd x)) fun k' c' => tsl tk f (tk k) k' c') := fun a => by
      have hk1 := tk_in h (k := k) (by omega)
      have E : ∃ I', zD (d + 3) 72 31 [some (.inr (some 213)), some (.inl x), some (.inl ((f + 1 : Nat) : Int)), some (.inl (tk k))] [] I = zD (d + 3) 72 52 [some (.inr (some 213)), some (.inl (tk k)), some (.inl ((f + 1 : Nat) : Int)), some (.inl (tk k))] [] I' ∧ CS I0 (k + 1) (c ++ tpd x) I' := by
        have sn := CS_n s (by omega)
        rw [e_72_31]
        unfold tpd at *
        by_cases hx : x = -1
        · rw [if_pos hx, if_pos hx, List.append_nil]
          rcases a with a | a
          · rw [if_pos a]; exact ⟨_, rfl, sn⟩
          · rw [if_neg (by omega), if_pos a]; exact ⟨_, rfl, sn⟩
        · rw [if_neg hx] at hc ⊢
          rw [List.length_singleton] at hc
          obtain ⟨I', q1, q2⟩ := s_41 (d := d + 1) (x := x) sn (by omega)
          rw [if_neg hx, q1, Option.bind_some]
          rcases a with a | a
          · rw [if_pos a]; exact ⟨_, rfl, q2⟩
          · rw [if_neg (by omega), if_pos a]; exact ⟨_, rfl, q2⟩
      obtain ⟨I', E1, E2⟩ := E
      rw [E1, e_72_52, if_neg (by omega)]
      refine CO_b (s_73 (d := d) h E2 (by rw [List.length_append]; omega)) fun k' c' I2 hr s2 => ?_
      obtain ⟨l1, l2⟩ := tun_l h5 hr
      rw [List.length_append] at l2
      dsimp only
      rw [e_72_64, if_neg (by omega), if_neg (by omega), wr_m1 (by omega)]
      have hd : (tpd (tk k)).length = 1 := by unfold tpd; rw [if_neg (by omega)]; rfl
      exact s_72l h f (tk k) k' c' I2 (by omega) s2 (by omega) l1
    by_cases a1 : tk k = 20043 ∨ tk k = 20045
    · rw [if_pos a1]
      have := pm a1
      rcases a1 with a | a
      · rw [if_pos a]; exact this
      · rw [if_neg (by omega), if_pos a]; exact this
    · rw [if_neg a1, if_neg (by omega), if_neg (by omega)]
      by_cases a2 : tk k = 20042
      · have hk1 := tk_in h (k := k) (by omega)
        rw [if_pos a2, if_pos a2, e_72_31, if_neg (by omega), if_neg (by omega), e_72_52, if_neg (by omega)]
        refine CO_b (s_73 (d := d) h (CS_n s (by omega)) (by omega)) fun k' c' I2 hr s2 => ?_
        obtain ⟨l1, l2⟩ := tun_l h5 hr
        dsimp only
        obtain ⟨I3, q1, q2⟩ := s_41 (d := d + 1) (x := tk k) s2 (by omega)
        rw [e_72_64, if_pos a2, q1, Option.bind_some, wr_m1 (by omega)]
        rw [a2] at q2
        exact s_72l h f x k' _ I3 (by omega) q2 (by rw [List.length_append, List.length_singleton]; omega) l1
      · rw [if_neg a2, if_neg a2]
        by_cases a3 : tk k = 20047
        · have hk1 := tk_in h (k := k) (by omega)
          rw [if_pos a3, if_pos a3, e_72_31, if_neg (by omega), if_neg (by omega), e_72_52, if_pos a3]
          refine CO_b (s_74 (d := d) h (CS_n s (by omega)) (by omega)) fun k' c' I2 hr s2 => ?_
          obtain ⟨l1, l2, l3⟩ := tpt_l h5 hr
          dsimp only
          obtain ⟨I3, q1, q2⟩ := s_41 (d := d + 1) (x := tk k) s2 (by omega)
          rw [e_72_64, if_neg (by omega), if_pos a3, q1, Option.bind_some, wr_m1 (by omega)]
          rw [a3] at q2
          exact s_72l h f x k' _ I3 (by omega) q2 (by rw [List.length_append, List.length_singleton]; omega) l1
        · rw [if_neg a3, if_neg a3]
          exact s_72e (d := d + 1) s (by omega)
theorem s_72 {d k : Nat} {c : List Int} {I : zI} (h : tTK tk st cnt n I0) (s : CS I0 k c I) (hc : c.length ≤ k) : CO st I0 (cl (d + 4) 72 [.inr (some 213)] I) (tsm tk cnt k c) := by
  have h2 := h.2.1
  have h5 : ∀ j, cnt ≤ j → tk j = -2 := fun j hj => (h.2.2.2.2 j hj).1
  rw [e_72]
  unfold tsm
  refine CO_b (s_73 (d := d + 1) h s hc) fun k' c' I2 hr s2 => ?_
  obtain ⟨l1, l2⟩ := tun_l h5 hr
  dsimp only
  rw [(tTK_ag h (tfC_mono s2.1)).1, s2.2.1, wr_id (by omega) (by omega), show (cnt : Int) - (k' : Int) = ((cnt - k' : Nat) : Int) by omega]
  exact s_72l (d := d + 1) h (cnt - k') (-1) k' c' I2 (by omega) s2 (by rw [show (tpd (-1)).length = 0 from rfl]; omega) l1
theorem tsm_l {k : Nat} {c : List Int} (h2 : ∀ j, cnt ≤ j → tk j = -2) {k' : Nat} {c' : List Int} (h : tsm tk cnt k c = .inr (k', c')) : k ≤ k' ∧ k' ≤ cnt ∧ c'.length + k ≤ c.length + k' := by
  obtain ⟨g1, g2, g3, -, -⟩ := tsm_G (tk := tk) (cnt := cnt) (lim := 0) (by omega) h2 k' c' h
  omega
/-- 76 where there is no 'not' and no '(' -/
theorem s_76c {d k : Nat} {c : List Int} {I : zI} {x : Int} (h : tTK tk st cnt n I0) (s : CS I0 k c I) (hc : c.length ≤ k) (n1 : ¬ tk k = 10017) (n2 : ¬ tk k = 20040) : CO st I0 (cl (d + 5) 76 [.inr (some 213), .inl x] I) (tcp tk cnt k c) := by
  have h2 := h.2.1
  have h5 : ∀ j, cnt ≤ j → tk j = -2 := fun j hj => (h.2.2.2.2 j hj).1
  rw [e_76, s_63 h s, Option.bind_some]
  dsimp only
  rw [if_neg n1, if_neg n2]
  unfold tcp
  refine CO_b (s_72 (d := d) h s hc) fun k1 c1 I1 hr s1 => ?_
  obtain ⟨l0, l1, l2⟩ := tsm_l h5 hr
  dsimp only
  rw [s_63 h s1, Option.bind_some]
  dsimp only
  have cmp : (tk k1 = 20060 ∨ tk k1 = 20061 ∨ tk k1 = 20062) → CO st I0 (zD (d + 5) 76 74 [some (.inr (some 213)), some (.inl x), some (.inl (tk k)), some (.inl (tk k1))] [] I1) (tB (tsm tk cnt (k1 + 1) c1) fun k2 c2 => .inr (k2, c2 ++ [tk k1])) := fun a => by
    have hk1 := tk_in h (k := k1) (by omega)
    rw [e_76_74]
    refine CO_b (s_72 (d := d) h (CS_n s1 (by omega)) (by omega)) fun k2 c2 I2 hr2 s2 => ?_
    obtain ⟨m0, m1, m2⟩ := tsm_l h5 hr2
    dsimp only
    obtain ⟨I3, q1, q2⟩ := s_41 (d := d + 3) (x := tk k1) s2 (by omega)
    rw [q1, Option.bind_some]
    exact ⟨I3, rfl, q2⟩
  by_cases a1 : tk k1 = 20060
  · rw [if_pos a1, if_pos (by omega)]; exact cmp (by omega)
  · rw [if_neg a1]
    by_cases a2 : tk k1 = 20061
    · rw [if_pos a2, if_pos (by omega)]; exact cmp (by omega)
    · rw [if_neg a2]
      by_cases a3 : tk k1 = 20062
      · rw [if_pos a3, if_pos (by omega)]; exact cmp (by omega)
      · rw [if_neg a3, if_neg (by omega)]
        exact CO_64 h s1
theorem s_75e {d k : Nat} {c : List Int} {I : zI} {p : Bool} (s : CS I0 k c I) (hc : c.length + (tpo p).length ≤ 400) : CO st I0 (if (if p = true then (1 : Int) else 0) = 0 then some (1, I) else (cl (d + 1) 41 [.inr (some 217), .inl 10015] I).bind fun q => some (1, q.2)) (.inr (k, c ++ tpo p)) := by
  cases p with
  | false =>
    rw [show tpo false = [] from rfl, List.append_nil]
    exact ⟨I, rfl, s⟩
  | true =>
    rw [show (tpo true).length = 1 from rfl] at hc
    obtain ⟨I', q1, q2⟩ := s_41 (d := d) (x := 10015) s (by omega)
    rw [q1]
    exact ⟨I', rfl, q2⟩
theorem s_75l {d : Nat} {C : Nat → List Int → tR} {x : Int} (h : tTK tk st cnt n I0) (hC : ∀ k c I, CS I0 k c I → c.length ≤ k → k ≤ cnt → CO st I0 (cl (d + 2) 76 [.inr (some 213), .inl x] I) (C k c)) (hG : ∀ k c k' c', C k c = .inr (k', c') → k ≤ k' ∧ k' ≤ cnt ∧ c'.length + k ≤ c.length + k') : ∀ (f : Nat) (p : Bool) (k : Nat) (c : List Int) (I : zI), f ≤ 400 → CS I0 k c I → c.length + (tpo p).length ≤ k → k ≤ cnt →
    CO st I0 (zD (d + 3) 75 14 [some (.inr (some 213)), some (.inl x), some (.inl (if p = true then 1 else 0)), some (.inl (f : Int))] [] I) (tal tk C f p k c)
  | 0, p, k, c, I, _, s, hc, hk => by
    have h2 := h.2.1
    rw [e_75_14, if_neg (by omega)]
    exact s_75e s (by omega)
  | f + 1, p, k, c, I, hf, s, hc, hk => by
    have h2 := h.2.1
    rw [e_75_14, if_pos (by omega), s_63 h s, Option.bind_some, tal]
    dsimp only
    by_cases a1 : tk k = 10016
    · have hk1 := tk_in h (k := k) (by omega)
      rw [if_pos a1, if_pos a1, e_75_26, if_neg (by omega), e_75_43]
      refine CO_b (hC (k + 1) c _ (CS_n s (by omega)) (by omega) (by omega)) fun k1 c1 I1 hr s1 => ?_
      obtain ⟨l0, l1, l2⟩ := hG _ _ _ _ hr
      dsimp only
      obtain ⟨I2, q1, q2⟩ := s_41 (d := d + 1) (x := 10016) s1 (by omega)
      rw [if_pos a1, q1, Option.bind_some, wr_m1 (by omega)]
      exact s_75l h hC hG f p k1 _ I2 (by omega) q2 (by rw [List.length_append, List.length_singleton]; omega) l1
    · rw [if_neg a1, if_neg a1]
      by_cases a2 : tk k = 10015
      · have hk1 := tk_in h (k := k) (by omega)
        rw [if_pos a2, if_pos a2, e_75_26, if_pos a2]
        have E : ∃ I', (if (if p = true then (1 : Int) else 0) = 0 then zD (d + 3) 75 43 [some (.inr (some 213)), some (.inl x), some (.inl 1), some (.inl ((f + 1 : Nat) : Int)), some (.inl (tk k))] [] (up I 213 5 (wr (I 213 5 + 1))) else (cl (d + 2) 41 [.inr (some 217), .inl 10015] (up I 213 5 (wr (I 213 5 + 1)))).bind fun p5 => zD (d + 3) 75 43 [some (.inr (some 213)), some (.inl x), some (.inl 1), some (.inl ((f + 1 : Nat) : Int)), some (.inl (tk k))] [] p5.2) = zD (d + 3) 75 43 [some (.inr (some 213)), some (.inl x), some (.inl 1), some (.inl ((f + 1 : Nat) : Int)), some (.inl (tk k))] [] I' ∧ CS I0 (k + 1) (c ++ tpo p) I' := by
          have sn := CS_n s (by omega)
          cases p with
          | false =>
            rw [show tpo false = [] from rfl, List.append_nil]
            exact ⟨_, rfl, sn⟩
          | true =>
            rw [show (tpo true).length = 1 from rfl] at hc
            obtain ⟨I', q1, q2⟩ := s_41 (d := d + 1) (x := 10015) sn (by omega)
            rw [q1]
            exact ⟨I', rfl, q2⟩
        obtain ⟨I', E1, E2⟩ := E
        rw [E1, e_75_43]
        refine CO_b (hC (k + 1) _ _ E2 (by rw [List.length_append]; omega) (by omega)) fun k1 c1 I1 hr s1 => ?_
        obtain ⟨l0, l1, l2⟩ := hG _ _ _ _ hr
        rw [List.length_append] at l2
        dsimp only
        rw [if_neg (by omega), wr_m1 (by omega)]
        exact s_75l h hC hG f true k1 c1 I1 (by omega) s1 (by rw [show (tpo true).length = 1 from rfl]; omega) l1
      · rw [if_neg a2, if_neg a2]
        exact s_75e (d := d + 1) s (by omega)
theorem tC_l (h2 : ∀ j, cnt ≤ j → tk j = -2) (r : Nat) (hr : r ≤ 8) (k : Nat) (c : List Int) (k' : Nat) (c' : List Int) (h : tcn tk cnt r k c = .inr (k', c')) : k ≤ k' ∧ k' ≤ cnt ∧ c'.length + k ≤ c.length + k' := by
  obtain ⟨g1, g2, g3, -, -⟩ := tC_G h2 r 0 k c (by omega) k' c' h
  omega
theorem tA_l (h2 : ∀ j, cnt ≤ j → tk j = -2) (r : Nat) (hr : r ≤ 8) (k : Nat) (c : List Int) (k' : Nat) (c' : List Int) (h : tA tk cnt (tcn tk cnt r) k c = .inr (k', c')) : k ≤ k' ∧ k' ≤ cnt ∧ c'.length + k ≤ c.length + k' := by
  obtain ⟨g1, g2, g3, -, -⟩ := tA_G (lim := 0) (fun k c => tC_G h2 r 2 k c (by omega)) k' c' h
  omega
theorem s_75 {d r : Nat} (hr8 : r ≤ 8) (h : tTK tk st cnt n I0) (hC : ∀ k c I, CS I0 k c I → c.length ≤ k → k ≤ cnt → CO st I0 (cl (d + 2) 76 [.inr (some 213), .inl (8 - (r : Int))] I) (tcn tk cnt r k c)) {k : Nat} {c : List Int} {I : zI} (s : CS I0 k c I) (hc : c.length ≤ k) (hk : k ≤ cnt) : CO st I0 (cl (d + 3) 75 [.inr (some 213), .inl (8 - (r : Int))] I) (tA tk cnt (tcn tk cnt r) k c) := by
  have h2 := h.2.1
  have h5 : ∀ j, cnt ≤ j → tk j = -2 := fun j hj => (h.2.2.2.2 j hj).1
  have hG := tC_l (tk := tk) h5 r hr8
  rw [e_75]
  unfold tA
  refine CO_b (hC k c I s hc hk) fun k1 c1 I1 e1 s1 => ?_
  obtain ⟨l0, l1, l2⟩ := hG _ _ _ _ e1
  dsimp only
  rw [(tTK_ag h (tfC_mono s1.1)).1, s1.2.1, wr_id (by omega) (by omega), show (cnt : Int) - (k1 : Int) = ((cnt - k1 : Nat) : Int) by omega]
  exact s_75l h hC hG (cnt - k1) false k1 c1 I1 (by omega) s1 (by rw [show (tpo false).length = 0 from rfl]; omega) l1
def tex (tk : Nat → Int) (x : Int) (k : Nat) (c : List Int) : tR := if tk k = x then .inr (k + 1, c) else .inl (1, k)
theorem s_65 {d k : Nat} {c : List Int} {I : zI} {x : Int} (h : tTK tk st cnt n I0) (s : CS I0 k c I) (hk : k ≤ 3999) : CO st I0 (cl (d + 2) 65 [.inr (some 213), .inl x] I) (tex tk x k c) := by
  rw [e_65, s_63 h s, Option.bind_some]
  dsimp only
  unfold tex
  by_cases a : tk k = x
  · rw [if_pos a, if_pos a]
    exact ⟨_, rfl, CS_n s (by omega)⟩
  · rw [if_neg a, if_neg a]
    exact CO_64 h s
theorem s_76 (h : tTK tk st cnt n I0) : ∀ (r D k : Nat) (c : List Int) (I : zI), r ≤ 8 → 2 * r + 5 ≤ D → CS I0 k c I → c.length ≤ k → k ≤ cnt → CO st I0 (cl D 76 [.inr (some 213), .inl (8 - (r : Int))] I) (tcn tk cnt r k c)
  | 0, D, k, c, I, hr, hD, s, hc, hk => by
    obtain ⟨d, rfl⟩ : ∃ d, D = d + 5 := ⟨D - 5, by omega⟩
    rw [tcn]
    by_cases a : tk k = 10017 ∨ tk k = 20040
    · have E : cl (d + 5) 76 [.inr (some 213), .inl (8 - ((0 : Nat) : Int))] I = zD (d + 5) 76 9 [some (.inr (some 213)), some (.inl (8 - ((0 : Nat) : Int))), some (.inl (tk k))] [] I := by
        rw [e_76, s_63 h s, Option.bind_some]
        dsimp only
        rcases a with a | a
        · rw [if_pos a]
        · rw [if_neg (by omega), if_pos a]
      rw [if_pos a, E, e_76_9, if_neg (by omega)]
      exact CO_64 h s
    · rw [if_neg a]
      exact s_76c h s hc (by omega) (by omega)
  | r + 1, D, k, c, I, hr, hD, s, hc, hk => by
    have h2 := h.2.1
    have h5 : ∀ j, cnt ≤ j → tk j = -2 := fun j hj => (h.2.2.2.2 j hj).1
    obtain ⟨d, rfl⟩ : ∃ d, D = d + 7 := ⟨D - 7, by omega⟩
    rw [tcn]
    by_cases a1 : tk k = 10017
    · have hk1 := tk_in h (k := k) (by omega)
      have E : cl (d + 7) 76 [.inr (some 213), .inl (8 - ((r + 1 : Nat) : Int))] I = zD (d + 7) 76 9 [some (.inr (some 213)), some (.inl (8 - ((r + 1 : Nat) : Int))), some (.inl (tk k))] [] I := by
        rw [e_76, s_63 h s, Option.bind_some]
        dsimp only
        rw [if_pos a1]
      rw [if_pos a1, E, e_76_9, if_pos (by omega), if_neg (by omega), wr_8 (by omega)]
      refine CO_b (s_76 h r (d + 6) (k + 1) c _ (by omega) (by omega) (CS_n s (by omega)) (by omega) (by omega)) fun k1 c1 I1 e1 s1 => ?_
      obtain ⟨l0, l1, l2⟩ := tC_l h5 r (by omega) _ _ _ _ e1
      dsimp only
      obtain ⟨I2, q1, q2⟩ := s_41 (d := d + 5) (x := 10017) s1 (by omega)
      rw [q1, Option.bind_some]
      exact ⟨I2, rfl, q2⟩
    · rw [if_neg a1]
      by_cases a2 : tk k = 20040
      · have hk1 := tk_in h (k := k) (by omega)
        have E : cl (d + 7) 76 [.inr (some 213), .inl (8 - ((r + 1 : Nat) : Int))] I = zD (d + 7) 76 9 [some (.inr (some 213)), some (.inl (8 - ((r + 1 : Nat) : Int))), some (.inl (tk k))] [] I := by
          rw [e_76, s_63 h s, Option.bind_some]
          dsimp only
          rw [if_neg a1, if_pos a2]
        rw [if_pos a2, E, e_76_9, if_pos (by omega), if_pos a2, wr_8 (by omega)]
        refine CO_b (s_75 (d := d + 3) (by omega) h (fun k c I s hc hk => s_76 h r (d + 5) k c I (by omega) (by omega) s hc hk) (CS_n s (by omega)) (by omega) (by omega)) fun k1 c1 I1 e1 s1 => ?_
        obtain ⟨l0, l1, l2⟩ := tA_l h5 r (by omega) _ _ _ _ e1
        dsimp only
        have x := s_65 (d := d + 4) (x := 20041) h s1 (by omega)
        unfold tex at x
        by_cases a3 : tk k1 = 20041
        · rw [if_pos a3] at x ⊢
          obtain ⟨I2, q1, q2⟩ := x
          rw [q1, Option.bind_some]
          exact ⟨I2, rfl, q2⟩
        · rw [if_neg a3] at x ⊢
          obtain ⟨I2, q1, q2⟩ := x
          rw [q1, Option.bind_some]
          exact ⟨I2, rfl, q2⟩
      · rw [if_neg a2]
        exact s_76c (d := d + 2) h s hc a1 a2
