/-! THE TEXT'S TOKENS (a draft: nothing of it tried) -/
theorem s_297 {d : Nat} {I : zI} : cl (d + 5) 297 [.inr (some 1000002)] I = some (136, I) := by
  unfold cl zC
  rw [if_pos rfl, if_pos ⟨rfl, by omega⟩]
theorem s_298 {d : Nat} {I : zI} {x : Int} (h0 : 0 ≤ x) (h1 : x < 136) : cl (d + 5) 298 [.inr (some 1000002), .inl x] I = some ((kS_b.getD x.toNat 0).toInt, I) := by
  unfold cl zC
  rw [if_neg (by decide), if_pos rfl]
  show (if _ then _ else _) = _
  rw [if_pos ⟨rfl, by omega, h0, h1⟩]
def isL (c : Int) : Bool := decide (97 ≤ c ∧ c ≤ 122) || decide (65 ≤ c ∧ c ≤ 90)
def isD (c : Int) : Bool := decide (48 ≤ c ∧ c ≤ 57)
theorem s_61 {d : Nat} {I : zI} {c : Int} : cl (d + 1) 61 [.inl c] I = some (if isL c = true then 1 else 0, I) := by
  rw [e_61]
  unfold isL
  (repeat' split) <;> first | rfl | (exfalso; simp at *; omega)
theorem s_62 {d : Nat} {I : zI} {c : Int} : cl (d + 1) 62 [.inl c] I = some (if isD c = true then 1 else 0, I) := by
  rw [e_62]
  unfold isD
  (repeat' split) <;> first | rfl | (exfalso; simp at *; omega)
/-- the words, in the class's order and in the model's: where each begins and ends in its own list -/
def wcl : List (List Int) := [[104, 97, 110, 100], [105, 110, 107], [119, 111, 114, 110], [119, 105, 108, 100], [102, 105, 110, 101], [108, 101, 102, 116], [115, 105, 103, 110, 101, 100], [108, 105, 102, 116, 101, 100], [98, 105, 114, 100], [100, 101, 101, 100], [104, 111, 117, 114], [119, 114, 105, 116, 101, 115], [98, 108, 111, 116, 115], [108, 105, 102, 116, 115], [119, 104, 101, 110], [111, 114], [97, 110, 100], [110, 111, 116], [97, 116], [99, 108, 101, 114, 107], [116, 97, 107, 101], [100, 114, 111, 112], [119, 114, 105, 116, 101], [114, 101, 115, 116], [100, 105, 112], [99, 117, 116], [97, 102, 116, 101, 114]]
def wcp : List (Nat × Nat) := [(0, 4), (5, 8), (9, 13), (14, 18), (19, 23), (24, 28), (29, 35), (36, 42), (43, 47), (48, 52), (53, 57), (58, 64), (65, 70), (71, 76), (77, 81), (82, 84), (85, 88), (89, 92), (93, 95), (96, 101), (102, 106), (107, 111), (112, 117), (118, 122), (123, 126), (127, 130), (131, 136), (137, 137)]
def wml : List (List Int) := [[119, 114, 105, 116, 101, 115], [98, 108, 111, 116, 115], [108, 105, 102, 116, 115], [119, 104, 101, 110], [111, 114], [97, 110, 100], [110, 111, 116], [104, 97, 110, 100], [105, 110, 107], [119, 111, 114, 110], [119, 105, 108, 100], [102, 105, 110, 101], [108, 101, 102, 116], [115, 105, 103, 110, 101, 100], [108, 105, 102, 116, 101, 100], [98, 105, 114, 100], [100, 101, 101, 100], [104, 111, 117, 114], [97, 116], [99, 108, 101, 114, 107], [116, 97, 107, 101], [100, 114, 111, 112], [119, 114, 105, 116, 101], [114, 101, 115, 116], [100, 105, 112], [99, 117, 116], [97, 102, 116, 101, 114]]
def wmp : List (Nat × Nat) := [(0, 7), (7, 13), (13, 19), (19, 24), (24, 27), (27, 31), (31, 35), (35, 40), (40, 44), (44, 49), (49, 54), (54, 59), (59, 64), (64, 71), (71, 78), (78, 83), (83, 88), (88, 93), (93, 96), (96, 102), (102, 107), (107, 112), (112, 118), (118, 123), (123, 127), (127, 131), (131, 137), (137, 137)]
/-- the class's word i is the model's word -/
def wsg : List Int := [7, 8, 9, 10, 11, 12, 13, 14, 15, 16, 17, 0, 1, 2, 3, 4, 5, 6, 18, 19, 20, 21, 22, 23, 24, 25, 26]
def wck (i : Nat) : Bool := decide ((wcp.getD i (0, 0)).2 = (wcp.getD i (0, 0)).1 + (wcl.getD i []).length) && (((List.range (wcl.getD i []).length).all fun j => decide ((kS_b.getD ((wcp.getD i (0, 0)).1 + j) 0).toInt = (wcl.getD i []).getD j 0) && decide (¬ (kS_b.getD ((wcp.getD i (0, 0)).1 + j) 0).toInt = 32)) && (decide ((wcp.getD (i + 1) (0, 0)).1 = (wcp.getD i (0, 0)).2 + 1) && (decide ((wcp.getD i (0, 0)).2 ≤ 136) && (decide ((wcp.getD i (0, 0)).2 = 136) || decide ((kS_b.getD (wcp.getD i (0, 0)).2 0).toInt = 32)))))
theorem wck_all : ((List.range 27).all wck) = true := by decide +kernel
def eqw (T : Nat → Int) (p m : Nat) (w : List Int) : Bool := decide (m = w.length) && (List.range m).all fun j => decide (T (p + j) = w.getD j 0)
def wfi (f : List Int → Bool) : List (List Int) → Int → Int
  | [], _ => -1
  | w :: r, k => if f w = true then k else wfi f r (k + 1)
/-- what the one finds, the other finds -/
def wto (T : Nat → Int) (p m : Nat) : Int := if wfi (eqw T p m) wcl 0 = -1 then -1 else wsg.getD (wfi (eqw T p m) wcl 0).toNat 0
theorem s_60 {d p s m : Nat} {I : zI} (hp : (p : Int) + m ≤ I 213 1) (hn : I 213 1 ≤ 400) (hs : s + m ≤ 136) : cl (d + 7) 60 [.inr (some 213), .inl (p : Int), .inl (s : Int), .inl (m : Int)] I =
    some (if ((List.range m).all fun j => decide (I 214 (p + j) = (kS_b.getD (s + j) 0).toInt)) = true then 1 else 0, I) := by
  rw [e_60]
  have key : ∀ (r k : Nat), k + r = m → ((∀ j, k ≤ j → j < m → I 214 (p + j) = (kS_b.getD (s + j) 0).toInt) → zD (d + 7) 60 2 [some (.inr (some 213)), some (.inl (p : Int)), some (.inl (s : Int)), some (.inl (m : Int)), some (.inl (k : Int))] [] I = some (1, I)) ∧ (¬ (∀ j, k ≤ j → j < m → I 214 (p + j) = (kS_b.getD (s + j) 0).toInt) → zD (d + 7) 60 2 [some (.inr (some 213)), some (.inl (p : Int)), some (.inl (s : Int)), some (.inl (m : Int)), some (.inl (k : Int))] [] I = some (0, I)) := by
    intro r
    induction r with
    | zero =>
      intro k hk
      rw [e_60_2, if_neg (by omega)]
      exact ⟨fun _ => rfl, fun h => absurd (fun j h1 h2 => by omega) h⟩
    | succ r ih =>
      intro k hk
      have e1 : ((p : Int) + (k : Int)).toNat = p + k := by omega
      have e2 : ((s : Int) + (k : Int)).toNat = s + k := by omega
      rw [e_60_2, if_pos (by omega), wr_id (z := (p : Int) + k) (by omega) (by omega), if_pos (by omega), s_297, Option.bind_some]
      dsimp only
      rw [wr_id (z := (s : Int) + k) (by omega) (by omega), if_pos (by omega), if_pos (by omega), s_298 (by omega) (by omega), Option.bind_some]
      dsimp only
      rw [e1, e2, wr_id (z := (k : Int) + 1) (by omega) (by omega), ← zk1c]
      obtain ⟨i1, i2⟩ := ih (k + 1) (by omega)
      by_cases h : I 214 (p + k) = (kS_b.getD (s + k) 0).toInt
      · rw [if_pos h]
        refine ⟨fun g => i1 fun j h1 h2 => g j (by omega) h2, fun g => i2 fun q => g fun j h1 h2 => ?_⟩
        by_cases hj : j = k
        · rw [hj]; exact h
        · exact q j (by omega) h2
      · rw [if_neg h]
        exact ⟨fun g => absurd (g k (Nat.le_refl _) (by omega)) h, fun _ => rfl⟩
  obtain ⟨k1, k2⟩ := key m 0 (by omega)
  by_cases h : ((List.range m).all fun j => decide (I 214 (p + j) = (kS_b.getD (s + j) 0).toInt)) = true
  · rw [if_pos h]
    exact k1 fun j _ hj => of_decide_eq_true (List.all_eq_true.mp h j (List.mem_range.mpr hj))
  · rw [if_neg h]
    exact k2 fun g => h (List.all_eq_true.mpr fun j hj => decide_eq_true (g j (Nat.zero_le _) (List.mem_range.mp hj)))
theorem any_all {n : Nat} {f g : Nat → Bool} (h : ∀ j, j < n → f j = g j) : (List.range n).all f = (List.range n).all g := by
  refine Bool.eq_iff_iff.mpr ?_
  rw [List.all_eq_true, List.all_eq_true]
  exact ⟨fun q j hj => (h j (List.mem_range.mp hj)) ▸ q j hj, fun q j hj => (h j (List.mem_range.mp hj)).symm ▸ q j hj⟩
theorem eqw_S {T : Nat → Int} {p m s e : Nat} {w : List Int} (he : e = s + w.length) (hw : ∀ j, j < w.length → (kS_b.getD (s + j) 0).toInt = w.getD j 0) : eqw T p m w = (decide (m = e - s) && (List.range m).all fun j => decide (T (p + j) = (kS_b.getD (s + j) 0).toInt)) := by
  unfold eqw
  by_cases hm : m = w.length
  · rw [decide_eq_true hm, decide_eq_true (show m = e - s by omega), Bool.true_and, Bool.true_and]
    exact any_all fun j hj => by rw [hw j (by omega)]
  · rw [decide_eq_false hm, decide_eq_false (show ¬ m = e - s by omega), Bool.false_and, Bool.false_and]
theorem s_59w {d p m i : Nat} {I : zI} (hi : i < 27) (hp : (p : Int) + m ≤ I 213 1) (hn : I 213 1 ≤ 400) :
    zD (d + 8) 59 27 [some (.inr (some 213)), some (.inl (p : Int)), some (.inl (m : Int)), some (.inl (i : Int)), some (.inl ((wcp.getD i (0, 0)).1 : Int)), some (.inl ((wcp.getD i (0, 0)).1 : Int))] [] I =
      if eqw (I 214) p m (wcl.getD i []) = true then some (10000 + (i : Int), I) else zD (d + 8) 59 27 [some (.inr (some 213)), some (.inl (p : Int)), some (.inl (m : Int)), some (.inl ((i + 1 : Nat) : Int)), some (.inl ((wcp.getD (i + 1) (0, 0)).1 : Int)), some (.inl ((wcp.getD (i + 1) (0, 0)).1 : Int))] [] I := by
  have ck := List.all_eq_true.mp wck_all i (List.mem_range.mpr hi)
  unfold wck at ck
  simp only [Bool.and_eq_true, decide_eq_true_eq] at ck
  obtain ⟨c1, c2, c3, c4, c5⟩ := ck
  generalize wcl.getD i [] = w at *
  generalize (wcp.getD (i + 1) (0, 0)).1 = s2 at *
  generalize (wcp.getD i (0, 0)).2 = e at *
  generalize (wcp.getD i (0, 0)).1 = s at *
  have c2' : ∀ j, j < w.length → (kS_b.getD (s + j) 0).toInt = w.getD j 0 ∧ ¬ (kS_b.getD (s + j) 0).toInt = 32 := fun j hj => by
    have := List.all_eq_true.mp c2 j (List.mem_range.mpr hj)
    simpa only [Bool.and_eq_true, decide_eq_true_eq] using this
  have rn : zD (d + 8) 59 27 [some (.inr (some 213)), some (.inl (p : Int)), some (.inl (m : Int)), some (.inl (i : Int)), some (.inl (s : Int)), some (.inl (s : Int))] [] I = zD (d + 8) 59 40 [some (.inr (some 213)), some (.inl (p : Int)), some (.inl (m : Int)), some (.inl (i : Int)), some (.inl (s : Int)), some (.inl (e : Int))] [] I := by
    refine zloop (n := w.length) (P := fun k => zD (d + 8) 59 27 [some (.inr (some 213)), some (.inl (p : Int)), some (.inl (m : Int)), some (.inl (i : Int)), some (.inl (s : Int)), some (.inl ((s + k : Nat) : Int))] [] I) (fun k hk => ?_) ?_
    · show zD _ _ _ _ _ _ = zD _ _ _ _ _ _
      have e1 : (((s + k : Nat) : Int)).toNat = s + k := by omega
      rw [e_59_27, s_297, Option.bind_some]
      dsimp only
      rw [if_neg (by omega), s_297, Option.bind_some]
      dsimp only
      rw [if_neg (by omega), s_298 (by omega) (by omega), Option.bind_some]
      dsimp only
      rw [e1, if_neg (c2' k hk).2, wr_id (by omega) (by omega)]
      rfl
    · show zD _ _ _ _ _ _ = zD _ _ _ _ _ _
      have e1 : s + w.length = e := by omega
      rw [e1, e_59_27, s_297, Option.bind_some]
      dsimp only
      rw [if_neg (by omega), s_297, Option.bind_some]
      dsimp only
      by_cases h : (e : Int) = 136
      · rw [if_pos h]
      · have h5 : (kS_b.getD e 0).toInt = 32 := by
          rw [Bool.or_eq_true, decide_eq_true_eq, decide_eq_true_eq] at c5
          exact c5.resolve_left (by omega)
        rw [if_neg h, s_298 (by omega) (by omega), Option.bind_some]
        dsimp only
        rw [Int.toNat_natCast, if_pos h5]
  rw [rn, e_59_40, wr_id (z := (e : Int) - s) (by omega) (by omega), eqw_S c1 fun j hj => (c2' j hj).1]
  have nx : (wr ((i : Int) + 1)) = ((i + 1 : Nat) : Int) := by rw [wr_id (by omega) (by omega)]; rfl
  have ne : (wr ((e : Int) + 1)) = (s2 : Int) := by rw [wr_id (by omega) (by omega)]; omega
  rw [nx, ne]
  by_cases hm : m = e - s
  · rw [if_pos (show (e : Int) - s = m by omega), s_60 hp hn (by omega), Option.bind_some, decide_eq_true hm, Bool.true_and]
    dsimp only
    by_cases hq : ((List.range m).all fun j => decide (I 214 (p + j) = (kS_b.getD (s + j) 0).toInt)) = true
    · rw [if_pos hq, if_neg (by decide), if_pos hq, wr_id (by omega) (by omega)]
    · rw [if_neg hq, if_pos rfl, if_neg hq]
  · rw [if_neg (show ¬ (e : Int) - s = m by omega), decide_eq_false hm, Bool.false_and, if_neg Bool.false_ne_true]
theorem s_59l {d p m : Nat} {I : zI} (hp : (p : Int) + m ≤ I 213 1) (hn : I 213 1 ≤ 400) : ∀ (r i : Nat), i + r = 27 →
    zD (d + 8) 59 27 [some (.inr (some 213)), some (.inl (p : Int)), some (.inl (m : Int)), some (.inl (i : Int)), some (.inl ((wcp.getD i (0, 0)).1 : Int)), some (.inl ((wcp.getD i (0, 0)).1 : Int))] [] I =
      some (if wfi (eqw (I 214) p m) (wcl.drop i) (i : Int) = -1 then -1 else 10000 + wfi (eqw (I 214) p m) (wcl.drop i) (i : Int), I) := by
  intro r
  induction r with
  | zero =>
    intro i hi
    have hi : i = 27 := by omega
    subst hi
    rw [show ((wcp.getD 27 (0, 0)).1 : Int) = 137 from rfl, e_59_27, s_297, Option.bind_some]
    rfl
  | succ r ih =>
    intro i hi
    have hl : i < wcl.length := by show i < 27; omega
    have hd : wcl.drop i = wcl.getD i [] :: wcl.drop (i + 1) := by
      rw [List.drop_eq_getElem_cons hl, List.getD_eq_getElem?_getD, List.getElem?_eq_getElem hl]
      rfl
    rw [s_59w (by omega) hp hn, hd, wfi]
    by_cases h : eqw (I 214) p m (wcl.getD i []) = true
    · rw [if_pos h, if_pos h, if_neg (by omega)]
    · rw [if_neg h, if_neg h, ih (i + 1) (by omega)]
      rfl
/-! runs of letters, of digits; the code of the token that stands at p, and where it ends -/
def trn (q : Int → Bool) (T : Nat → Int) : Nat → Nat → Nat
  | 0, p => p
  | f + 1, p => if q (T p) = true then trn q T f (p + 1) else p
theorem trn_le {q : Int → Bool} {T : Nat → Int} : ∀ (f p : Nat), p ≤ trn q T f p ∧ trn q T f p ≤ p + f
  | 0, p => ⟨Nat.le_refl _, Nat.le_refl _⟩
  | f + 1, p => by
    have h := trn_le (q := q) (T := T) f (p + 1)
    rw [trn]
    split <;> omega
theorem trn_in {q : Int → Bool} {T : Nat → Int} : ∀ (f p j : Nat), p ≤ j → j < trn q T f p → q (T j) = true
  | 0, p, j, h1, h2 => by rw [trn] at h2; omega
  | f + 1, p, j, h1, h2 => by
    rw [trn] at h2
    split at h2
    · rename_i h
      by_cases hj : j = p
      · rw [hj]; exact h
      · exact trn_in f (p + 1) j (by omega) h2
    · omega
theorem trn_out {q : Int → Bool} {T : Nat → Int} : ∀ (f p : Nat), trn q T f p < p + f → ¬ q (T (trn q T f p)) = true
  | 0, p, h => by rw [trn] at h; omega
  | f + 1, p, h => by
    rw [trn] at h ⊢
    split at h
    · rename_i hq
      rw [if_pos hq]
      exact trn_out f (p + 1) (by omega)
    · rename_i hq
      rw [if_neg hq]
      exact hq
def rend (q : Int → Bool) (T : Nat → Int) (n p : Nat) : Nat := trn q T (n - p) p
theorem rend_1 {q : Int → Bool} {T : Nat → Int} {n p : Nat} (hp : p < n) (h : q (T p) = true) : p + 1 ≤ rend q T n p := by
  unfold rend
  obtain ⟨f, hf⟩ : ∃ f, n - p = f + 1 := ⟨n - p - 1, by omega⟩
  rw [hf, trn, if_pos h]
  exact (trn_le f (p + 1)).1
def wcd (T : Nat → Int) (p m : Nat) : Int := if wfi (eqw T p m) wcl 0 = -1 then -1 else 10000 + wfi (eqw T p m) wcl 0
def dvl (T : Nat → Int) (p : Nat) : Nat → Int
  | 0 => 0
  | k + 1 => 10 * dvl T p k + T (p + k) - 48
def tkc (T : Nat → Int) (n p : Nat) : Int :=
  if isL (T p) = true then wcd T p (rend isL T n p - p)
  else if isD (T p) = true then (if rend isD T n p - p ≤ 4 then dvl T p (rend isD T n p - p) else -1)
  else 20000 + T p
def tke (T : Nat → Int) (n p : Nat) : Nat :=
  if isL (T p) = true then rend isL T n p
  else if isD (T p) = true then rend isD T n p
  else p + 1
theorem s_59 {d n p : Nat} {I : zI} (hI : I 213 1 = (n : Int)) (hn : n ≤ 400) (hp : p < n) (hL : isL (I 214 p) = true) : cl (d + 9) 59 [.inr (some 213), .inl (p : Int)] I = some (wcd (I 214) p (rend isL (I 214) n p - p), I) := by
  have h1 := rend_1 hp hL
  have h2 : rend isL (I 214) n p ≤ n := by have := (trn_le (q := isL) (T := I 214) (n - p) p).2; unfold rend; omega
  have hin := trn_in (q := isL) (T := I 214) (n - p) p
  have hout := trn_out (q := isL) (T := I 214) (n - p) p
  rw [show trn isL (I 214) (n - p) p = rend isL (I 214) n p from rfl] at hin hout
  generalize rend isL (I 214) n p = e at *
  rw [e_59]
  have lp : zD (d + 9) 59 2 [some (.inr (some 213)), some (.inl (p : Int)), some (.inl 1)] [] I = zD (d + 9) 59 27 [some (.inr (some 213)), some (.inl (p : Int)), some (.inl ((e - p : Nat) : Int)), some (.inl 0), some (.inl 0), some (.inl 0)] [] I := by
    refine zloop (n := e - p - 1) (P := fun k => zD (d + 9) 59 2 [some (.inr (some 213)), some (.inl (p : Int)), some (.inl ((k + 1 : Nat) : Int))] [] I) (fun k hk => ?_) ?_
    · show zD _ _ _ _ _ _ = zD _ _ _ _ _ _
      have e1 : ((p : Int) + ((k + 1 : Nat) : Int)).toNat = p + k + 1 := by omega
      rw [e_59_2, if_pos (by omega), wr_id (z := (p : Int) + ((k + 1 : Nat) : Int)) (by omega) (by omega), hI, if_pos (by omega), if_pos (by omega), s_61, Option.bind_some]
      dsimp only
      rw [e1, if_pos (hin (p + k + 1) (by omega) (by omega)), if_neg (by decide), wr_id (by omega) (by omega)]
      rfl
    · show zD _ _ _ _ _ _ = zD _ _ _ _ _ _
      have e1 : ((p : Int) + ((e - p - 1 + 1 : Nat) : Int)).toNat = e := by omega
      have e2 : ((e - p - 1 + 1 : Nat) : Int) = ((e - p : Nat) : Int) := by omega
      by_cases h4 : e - p - 1 + 1 < 400
      · rw [e_59_2, if_pos (by omega), wr_id (z := (p : Int) + ((e - p - 1 + 1 : Nat) : Int)) (by omega) (by omega), hI]
        by_cases h5 : e < n
        · rw [if_pos (by omega), if_pos (by omega), s_61, Option.bind_some]
          dsimp only
          rw [e1, if_neg (hout (by omega)), if_pos rfl, e2]
        · rw [if_neg (by omega), e2]
      · rw [e_59_2, if_neg (by omega), e2]
  rw [lp]
  exact s_59l (d := d + 1) (m := e - p) (by omega) (by omega) 27 0 rfl
theorem isD_rg {c : Int} (h : isD c = true) : 48 ≤ c ∧ c ≤ 57 := of_decide_eq_true h
theorem dvl_rg {T : Nat → Int} {p : Nat} : ∀ k : Nat, (∀ j, j < k → isD (T (p + j)) = true) → 0 ≤ dvl T p k ∧ dvl T p k + 1 ≤ (10 : Int) ^ k
  | 0, _ => ⟨Int.le_refl _, by rw [dvl]; decide⟩
  | k + 1, h => by
    obtain ⟨h1, h2⟩ := dvl_rg k fun j hj => h j (by omega)
    obtain ⟨c1, c2⟩ := isD_rg (h k (by omega))
    rw [dvl, Int.pow_succ]
    generalize (10 : Int) ^ k = X at *
    constructor <;> omega
theorem dvl_9 {T : Nat → Int} {p k : Nat} (hk : k ≤ 4) (h : ∀ j, j < k → isD (T (p + j)) = true) : 0 ≤ dvl T p k ∧ dvl T p k ≤ 9999 := by
  obtain ⟨h1, h2⟩ := dvl_rg k h
  refine ⟨h1, ?_⟩
  rcases (show k = 0 ∨ k = 1 ∨ k = 2 ∨ k = 3 ∨ k = 4 by omega) with rfl | rfl | rfl | rfl | rfl <;> simp at h2 <;> omega
theorem s_58 {d n p : Nat} {I : zI} (hI : I 213 1 = (n : Int)) (hn : n ≤ 400) (hp : p < n) : cl (d + 2) 58 [.inr (some 213), .inl (p : Int)] I = some (if rend isD (I 214) n p - p ≤ 4 then dvl (I 214) p (rend isD (I 214) n p - p) else -1, I) := by
  have h1 : p ≤ rend isD (I 214) n p := (trn_le _ _).1
  have h2 : rend isD (I 214) n p ≤ n := by have := (trn_le (q := isD) (T := I 214) (n - p) p).2; unfold rend; omega
  have hin := trn_in (q := isD) (T := I 214) (n - p) p
  have hout := trn_out (q := isD) (T := I 214) (n - p) p
  rw [show trn isD (I 214) (n - p) p = rend isD (I 214) n p from rfl] at hin hout
  generalize rend isD (I 214) n p = e at *
  rw [e_58]
  have st : ∀ K : Nat, K ≤ 4 → p + K ≤ e → zD (d + 2) 58 4 [some (.inr (some 213)), some (.inl (p : Int)), some (.inl 0), some (.inl (p : Int))] [] I = zD (d + 2) 58 4 [some (.inr (some 213)), some (.inl (p : Int)), some (.inl (dvl (I 214) p K)), some (.inl ((p + K : Nat) : Int))] [] I := by
    intro K hK hKe
    refine zloop (n := K) (P := fun k => zD (d + 2) 58 4 [some (.inr (some 213)), some (.inl (p : Int)), some (.inl (dvl (I 214) p k)), some (.inl ((p + k : Nat) : Int))] [] I) (fun k hk => ?_) rfl
    show zD _ _ _ _ _ _ = zD _ _ _ _ _ _
    have hc : 0 ≤ ((p + k : Nat) : Int) ∧ ((p + k : Nat) : Int) < 400 := by omega
    have hd := hin (p + k) (by omega) (by omega)
    obtain ⟨c1, c2⟩ := isD_rg hd
    obtain ⟨v1, v2⟩ := dvl_9 (T := I 214) (p := p) (k := k) (by omega) fun j hj => hin (p + j) (by omega) (by omega)
    rw [e_58_4, hI, if_pos (by omega), if_pos (by omega), if_pos hc, Int.toNat_natCast, s_62, Option.bind_some]
    dsimp only
    rw [if_pos hd, if_neg (by decide), wr_id (z := ((p + k : Nat) : Int) - p) (by omega) (by omega), if_pos (by omega), if_pos hc, dvl]
    rw [wr_id (z := dvl (I 214) p k * 10) (by omega) (by omega), wr_id (z := dvl (I 214) p k * 10 + I 214 (p + k)) (by omega) (by omega), wr_id (by omega) (by omega), wr_id (by omega) (by omega), show dvl (I 214) p k * 10 + I 214 (p + k) - 48 = 10 * dvl (I 214) p k + I 214 (p + k) - 48 by omega]
    rfl
  by_cases h4 : e - p ≤ 4
  · have hs := st (e - p) h4 (by omega)
    rw [show p + (e - p) = e by omega] at hs
    rw [if_pos h4, hs, e_58_4, hI]
    by_cases h5 : e < n
    · have hc : 0 ≤ (e : Int) ∧ (e : Int) < 400 := by omega
      rw [if_pos (by omega), if_pos (by omega), if_pos hc, Int.toNat_natCast, s_62, Option.bind_some]
      dsimp only
      rw [if_neg (hout (by omega)), if_pos rfl]
    · rw [if_neg (by omega)]
  · have hs := st 4 (Nat.le_refl _) (by omega)
    have hc : 0 ≤ ((p + 4 : Nat) : Int) ∧ ((p + 4 : Nat) : Int) < 400 := by omega
    rw [if_neg h4, hs, e_58_4, hI, if_pos (by omega), if_pos (by omega), if_pos hc, Int.toNat_natCast, s_62, Option.bind_some]
    dsimp only
    rw [if_pos (hin (p + 4) (by omega) (by omega)), if_neg (by decide), wr_id (z := ((p + 4 : Nat) : Int) - p) (by omega) (by omega), if_neg (by omega)]
theorem s_57 {d n p : Nat} {I : zI} (hI : I 213 1 = (n : Int)) (hn : n ≤ 400) (hp : p < n) (hr : 0 ≤ I 214 p ∧ I 214 p ≤ 255) : cl (d + 10) 57 [.inr (some 213), .inl (p : Int)] I = some (tkc (I 214) n p, I) := by
  have hc : 0 ≤ (p : Int) ∧ (p : Int) < 400 := by omega
  rw [e_57]
  simp only [if_pos hc, Int.toNat_natCast, s_61, Option.bind_some, b01]
  unfold tkc
  by_cases hL : isL (I 214 p) = true
  · rw [if_neg (not_not_intro hL), if_pos hL, s_59 hI hn hp hL, Option.bind_some]
  · rw [if_pos hL, if_neg hL, s_62]
    simp only [Option.bind_some, b01]
    by_cases hD : isD (I 214 p) = true
    · rw [if_neg (not_not_intro hD), if_pos hD, s_58 (d := d + 7) hI hn hp, Option.bind_some]
    · rw [if_pos hD, if_neg hD, wr_id (by omega) (by omega)]
/-- does the byte at p go on what the byte before it began? -/
def gon (T : Nat → Int) (p : Nat) : Bool := decide (0 < p) && ((isL (T p) && isL (T (p - 1))) || (isD (T p) && isD (T (p - 1))))
theorem s_56 {d p : Nat} {I : zI} (hp : p < 400) : cl (d + 2) 56 [.inr (some 213), .inl (p : Int)] I = some (if gon (I 214) p = true then 1 else 0, I) := by
  have hc : 0 ≤ (p : Int) ∧ (p : Int) < 400 := by omega
  rw [e_56]
  unfold gon
  by_cases h0 : 0 < p
  · have hc1 : 0 ≤ (p : Int) - 1 ∧ (p : Int) - 1 < 400 := by omega
    have e1 : ((p : Int) - 1).toNat = p - 1 := by omega
    have E16 := e_56_16 (d := d + 1) (I := I) (x1 := (p : Int))
    simp only [if_pos hc, wr_id (z := (p : Int) - 1) (by omega) (by omega), if_pos hc1, e1, Int.toNat_natCast, s_62, Option.bind_some, b01] at E16
    rw [if_pos (by omega)]
    simp only [if_pos hc, wr_id (z := (p : Int) - 1) (by omega) (by omega), if_pos hc1, e1, Int.toNat_natCast, s_61, Option.bind_some, b01, E16, decide_eq_true h0, Bool.true_and]
    by_cases a1 : isL (I 214 p) = true <;> by_cases a2 : isL (I 214 (p - 1)) = true <;> by_cases a3 : isD (I 214 p) = true <;> by_cases a4 : isD (I 214 (p - 1)) = true <;> simp [a1, a2, a3, a4]
  · rw [if_neg (by omega), decide_eq_false h0, Bool.false_and]
    rfl
/-! the tokens in their order: where the k-th one may begin, where it begins, its code (-2: none) -/
def isB (c : Int) : Bool := decide (c = 32) || decide (c = 10)
def tps (T : Nat → Int) (n : Nat) : Nat → Nat
  | 0 => 0
  | k + 1 => if rend isB T n (tps T n k) < n then tke T n (rend isB T n (tps T n k)) else n
def tst (T : Nat → Int) (n k : Nat) : Nat := rend isB T n (tps T n k)
def ttk (T : Nat → Int) (n k : Nat) : Int := if tst T n k < n then tkc T n (tst T n k) else -2
theorem tke_gt {T : Nat → Int} {n p : Nat} (hp : p < n) : p + 1 ≤ tke T n p ∧ tke T n p ≤ n := by
  unfold tke
  split
  · rename_i h
    exact ⟨rend_1 hp h, by have := (trn_le (q := isL) (T := T) (n - p) p).2; unfold rend; omega⟩
  · split
    · rename_i h
      exact ⟨rend_1 hp h, by have := (trn_le (q := isD) (T := T) (n - p) p).2; unfold rend; omega⟩
    · exact ⟨Nat.le_refl _, hp⟩
theorem lb_no {c : Int} (h : isL c = true ∨ isD c = true) : ¬ c = 32 ∧ ¬ c = 10 := by
  unfold isL isD at h
  simp only [Bool.or_eq_true, decide_eq_true_eq] at h
  omega
/-- the bytes of a token behind its first go on it; the byte behind it doesn't -/
theorem tke_in {T : Nat → Int} {n p x : Nat} (hp : p < n) (h1 : p + 1 ≤ x) (h2 : x < tke T n p) : gon T x = true ∧ ¬ T x = 32 ∧ ¬ T x = 10 := by
  unfold tke at h2
  split at h2
  · have a := trn_in (q := isL) (T := T) (n - p) p
    have a1 := a x (by omega) h2
    have a2 := a (x - 1) (by omega) (by have : rend isL T n p = trn isL T (n - p) p := rfl; omega)
    exact ⟨by unfold gon; simp [a1, a2]; omega, lb_no (Or.inl a1)⟩
  · split at h2
    · have a := trn_in (q := isD) (T := T) (n - p) p
      have a1 := a x (by omega) h2
      have a2 := a (x - 1) (by omega) (by have : rend isD T n p = trn isD T (n - p) p := rfl; omega)
      exact ⟨by unfold gon; simp [a1, a2]; omega, lb_no (Or.inr a1)⟩
    · omega
theorem LD {c : Int} (h : isL c = true) : ¬ isD c = true := by
  unfold isL at h
  unfold isD
  simp only [Bool.or_eq_true, decide_eq_true_eq] at h ⊢
  omega
theorem tke_out {T : Nat → Int} {n p : Nat} (hp : p < n) (h : tke T n p < n) : ¬ gon T (tke T n p) = true := by
  have hg := tke_gt (T := T) hp
  have last : (isL (T p) = true → isL (T (tke T n p - 1)) = true) ∧ (¬ isL (T p) = true → isD (T p) = true → isD (T (tke T n p - 1)) = true) ∧ (¬ isL (T p) = true → ¬ isD (T p) = true → tke T n p = p + 1) := by
    refine ⟨fun a => ?_, fun a b => ?_, fun a b => by unfold tke; rw [if_neg a, if_neg b]⟩
    · have e : tke T n p = trn isL T (n - p) p := by unfold tke; rw [if_pos a]; rfl
      exact trn_in (q := isL) (T := T) (n - p) p _ (by omega) (by omega)
    · have e : tke T n p = trn isD T (n - p) p := by unfold tke; rw [if_neg a, if_pos b]; rfl
      exact trn_in (q := isD) (T := T) (n - p) p _ (by omega) (by omega)
  have stop : (isL (T p) = true → ¬ isL (T (tke T n p)) = true) ∧ (¬ isL (T p) = true → isD (T p) = true → ¬ isD (T (tke T n p)) = true) := by
    refine ⟨fun a => ?_, fun a b => ?_⟩
    · have e : tke T n p = trn isL T (n - p) p := by unfold tke; rw [if_pos a]; rfl
      rw [e]
      exact trn_out (n - p) p (by omega)
    · have e : tke T n p = trn isD T (n - p) p := by unfold tke; rw [if_neg a, if_pos b]; rfl
      rw [e]
      exact trn_out (n - p) p (by omega)
  intro hgon
  unfold gon at hgon
  simp only [Bool.and_eq_true, Bool.or_eq_true, decide_eq_true_eq] at hgon
  obtain ⟨-, g⟩ := hgon
  by_cases a : isL (T p) = true
  · rcases g with g | g
    · exact stop.1 a g.1
    · exact LD (last.1 a) g.2
  · by_cases b : isD (T p) = true
    · rcases g with g | g
      · exact LD g.2 (last.2.1 a b)
      · exact stop.2 a b g.1
    · rw [last.2.2 a b, Nat.add_sub_cancel] at g
      rcases g with g | g
      · exact a g.2
      · exact b g.2
/-- class 55 from the k-th token's spot on -/
theorem s_55l {d n : Nat} : ∀ (f k : Nat) (I : zI), n < tps (I 214) n k + f → k ≤ tps (I 214) n k → tps (I 214) n k ≤ n → I 213 1 = (n : Int) → n ≤ 400 → I 213 4 = (k : Int) → (∀ j, j < n → 0 ≤ I 214 j ∧ I 214 j ≤ 255) → (tps (I 214) n k < n → ¬ gon (I 214) (tps (I 214) n k) = true) →
    ∃ (cnt : Nat) (J : zI), zD (d + 11) 55 5 [some (.inr (some 213)), some (.inl (tps (I 214) n k : Int))] [] I = some (0, J) ∧ Ag [215, 216] [(213, 4)] I J ∧ J 213 4 = (cnt : Int) ∧ k ≤ cnt ∧ cnt ≤ n ∧ (∀ j, j < k → J 215 j = I 215 j ∧ J 216 j = I 216 j) ∧ (∀ j, k ≤ j → j < cnt → J 215 j = ttk (I 214) n j ∧ J 216 j = (tst (I 214) n j : Int) ∧ tst (I 214) n j < n) ∧ ¬ tst (I 214) n cnt < n
  | 0, k, I, h, _, hp, _, _, _, _, _ => absurd h (by omega)
  | f + 1, k, I, hf, hk, hp, hI, hn, h4, hr, hg => by
    have tst0 : tst (I 214) n k = rend isB (I 214) n (tps (I 214) n k) := rfl
    have tps1 : tps (I 214) n (k + 1) = if rend isB (I 214) n (tps (I 214) n k) < n then tke (I 214) n (rend isB (I 214) n (tps (I 214) n k)) else n := rfl
    have ttk1 : ttk (I 214) n k = if tst (I 214) n k < n then tkc (I 214) n (tst (I 214) n k) else -2 := rfl
    rw [tst0] at ttk1
    generalize hpp : tps (I 214) n k = p at *
    have b1 : p ≤ rend isB (I 214) n p := (trn_le _ _).1
    have b2 : rend isB (I 214) n p ≤ n := by have := (trn_le (q := isB) (T := I 214) (n - p) p).2; unfold rend; omega
    have bin := trn_in (q := isB) (T := I 214) (n - p) p
    have bout := trn_out (q := isB) (T := I 214) (n - p) p
    rw [show trn isB (I 214) (n - p) p = rend isB (I 214) n p from rfl] at bin bout
    have skip : zD (d + 11) 55 5 [some (.inr (some 213)), some (.inl (p : Int))] [] I = zD (d + 11) 55 5 [some (.inr (some 213)), some (.inl ((rend isB (I 214) n p : Nat) : Int))] [] I := by
      generalize rend isB (I 214) n p = s at *
      have z := zloop (n := s - p) (P := fun j => zD (d + 11) 55 5 [some (.inr (some 213)), some (.inl ((p + j : Nat) : Int))] [] I) (R := zD (d + 11) 55 5 [some (.inr (some 213)), some (.inl (s : Int))] [] I) (fun j hj => ?_) ?_
      · exact z
      · show zD _ _ _ _ _ _ = zD _ _ _ _ _ _
        have hc : 0 ≤ ((p + j : Nat) : Int) ∧ ((p + j : Nat) : Int) < 400 := by omega
        have hb := bin (p + j) (by omega) (by omega)
        unfold isB at hb
        rw [Bool.or_eq_true, decide_eq_true_eq, decide_eq_true_eq] at hb
        rw [e_55_5, hI, h4, if_pos (by omega), if_pos (by omega), if_pos (by omega)]
        simp only [if_pos hc, Int.toNat_natCast]
        rw [wr_id (z := ((p + j : Nat) : Int) + 1) (by omega) (by omega)]
        rcases hb with hb | hb
        · rw [if_pos hb]; rfl
        · rw [if_neg (by omega), if_pos hb]; rfl
      · show zD _ _ _ _ _ _ = zD _ _ _ _ _ _
        rw [show p + (s - p) = s by omega]
    have hgs : rend isB (I 214) n p < n → ¬ gon (I 214) (rend isB (I 214) n p) = true := fun hlt => by
      by_cases hs : rend isB (I 214) n p = p
      · rw [hs] at hlt ⊢; exact hg hlt
      · intro g
        unfold gon at g
        simp only [Bool.and_eq_true, Bool.or_eq_true, decide_eq_true_eq] at g
        have hb := bin (rend isB (I 214) n p - 1) (by omega) (by omega)
        unfold isB at hb
        rw [Bool.or_eq_true, decide_eq_true_eq, decide_eq_true_eq] at hb
        rcases g.2 with g | g
        · obtain ⟨t1, t2⟩ := lb_no (Or.inl g.2)
          exact hb.elim t1 t2
        · obtain ⟨t1, t2⟩ := lb_no (Or.inr g.2)
          exact hb.elim t1 t2
    rw [skip]
    generalize rend isB (I 214) n p = s at *
    by_cases hs : s < n
    · rw [if_pos hs] at tps1 ttk1
      have hc : 0 ≤ (s : Int) ∧ (s : Int) < 400 := by omega
      have hk4 : 0 ≤ (k : Int) ∧ (k : Int) < 400 := by omega
      have hb := bout (by omega)
      unfold isB at hb
      rw [Bool.or_eq_true, decide_eq_true_eq, decide_eq_true_eq] at hb
      obtain ⟨g1, g2⟩ := tke_gt (T := I 214) hs
      have gin := fun x => tke_in (T := I 214) (x := x) hs
      have gout := tke_out (T := I 214) hs
      rw [e_55_5, hI, h4, if_pos (by omega), if_pos (by omega), if_pos (by omega)]
      simp only [if_pos hc, Int.toNat_natCast]
      rw [if_neg (by omega), if_neg (by omega), s_56 (d := d + 8) (by omega), Option.bind_some]
      dsimp only
      rw [if_neg (hgs hs), if_pos rfl]
      simp only [h4, if_pos hk4, Int.toNat_natCast]
      have hI1 : up I 216 k (s : Int) 213 1 = (n : Int) := (up_c (by decide)).trans hI
      have hT1 : up I 216 k (s : Int) 214 = I 214 := up_r (by decide)
      rw [s_57 (d := d) hI1 hn hs (by rw [hT1]; exact hr s hs), Option.bind_some, hT1]
      dsimp only
      rw [show up I 216 k (s : Int) 213 4 = (k : Int) from (up_c (by decide)).trans h4]
      rw [wr_id (z := (s : Int) + 1) (by omega) (by omega), wr_id (z := (k : Int) + 1) (by omega) (by omega)]
      generalize hJ : up (up (up I 216 k (s : Int)) 215 k (tkc (I 214) n s)) 213 4 ((k : Int) + 1) = J
      have hJT : J 214 = I 214 := by rw [← hJ, up_r (by decide), up_r (by decide), up_r (by decide)]
      have hJ1 : J 213 1 = (n : Int) := by rw [← hJ, up_j (by decide), up_c (by decide), up_c (by decide), hI]
      have hJ4 : J 213 4 = ((k + 1 : Nat) : Int) := by rw [← hJ, up_s]; rfl
      have hJk : J 215 k = tkc (I 214) n s ∧ J 216 k = (s : Int) := by
        rw [← hJ]
        exact ⟨(up_c (by decide)).trans up_s, (up_c (by decide)).trans ((up_c (by decide)).trans up_s)⟩
      have hJo : ∀ j, j < k → J 215 j = I 215 j ∧ J 216 j = I 216 j := fun j hj => by
        rw [← hJ]
        exact ⟨(up_c (by decide)).trans ((up_j (by omega)).trans (up_c (by decide))), (up_c (by decide)).trans ((up_c (by decide)).trans (up_j (by omega)))⟩
      have hJA : Ag [215, 216] [(213, 4)] I J := by
        rw [← hJ]
        exact Ag_uf (by decide) (Ag_up (by decide) (Ag_up (by decide) Ag_rf))
      have rest : zD (d + 11) 55 5 [some (.inr (some 213)), some (.inl ((s : Int) + 1))] [] J = zD (d + 11) 55 5 [some (.inr (some 213)), some (.inl ((tke (I 214) n s : Nat) : Int))] [] J := by
        generalize tke (I 214) n s = e at *
        have z := zloop (n := e - (s + 1)) (P := fun j => zD (d + 11) 55 5 [some (.inr (some 213)), some (.inl ((s + 1 + j : Nat) : Int))] [] J) (R := zD (d + 11) 55 5 [some (.inr (some 213)), some (.inl (e : Int))] [] J) (fun j hj => ?_) ?_
        · exact z
        · show zD _ _ _ _ _ _ = zD _ _ _ _ _ _
          have hc2 : 0 ≤ ((s + 1 + j : Nat) : Int) ∧ ((s + 1 + j : Nat) : Int) < 400 := by omega
          obtain ⟨q1, q2, q3⟩ := gin (s + 1 + j) (by omega) (by omega)
          rw [e_55_5, hJ1, hJ4, if_pos (by omega), if_pos (by omega), if_pos (by omega)]
          simp only [if_pos hc2, Int.toNat_natCast, hJT]
          rw [if_neg q2, if_neg q3, s_56 (d := d + 8) (by omega), Option.bind_some]
          dsimp only
          rw [hJT, if_pos q1, if_neg (by decide), wr_id (by omega) (by omega)]
          rfl
        · show zD _ _ _ _ _ _ = zD _ _ _ _ _ _
          rw [show s + 1 + (e - (s + 1)) = e by omega]
      have ih := s_55l (d := d) (n := n) f (k + 1) J
      rw [hJT, tps1] at ih
      obtain ⟨cnt, J2, i1, i2, i3, i4, i5, i6, i7, i8⟩ := ih (by omega) (by omega) g2 hJ1 hn hJ4 hr gout
      refine ⟨cnt, J2, rest.trans i1, Ag_tr hJA i2, i3, by omega, i5, fun j hj => ?_, fun j h1 h2 => ?_, i8⟩
      · obtain ⟨a1, a2⟩ := i6 j (by omega)
        obtain ⟨a3, a4⟩ := hJo j hj
        exact ⟨a1.trans a3, a2.trans a4⟩
      · by_cases hjk : j = k
        · subst hjk
          obtain ⟨a1, a2⟩ := i6 j (by omega)
          rw [a1, a2, hJk.1, hJk.2, ttk1, tst0]
          exact ⟨rfl, rfl, hs⟩
        · exact i7 j (by omega) h2
    · rw [e_55_5, hI, if_neg (by omega)]
      exact ⟨k, I, rfl, Ag_rf, h4, Nat.le_refl _, by omega, fun _ _ => ⟨rfl, rfl⟩, fun j h1 h2 => absurd h2 (by omega), by rw [tst0]; exact hs⟩
/-- class 55 -/
theorem s_55 {d n : Nat} {I : zI} (hI : I 213 1 = (n : Int)) (hn : n ≤ 400) (hr : ∀ j, j < n → 0 ≤ I 214 j ∧ I 214 j ≤ 255) : ∃ (cnt : Nat) (J : zI), cl (d + 11) 55 [.inr (some 213)] I = some (0, J) ∧ Ag [215, 216] [(213, 4)] I J ∧ J 213 4 = (cnt : Int) ∧ cnt ≤ n ∧ (∀ j, j < cnt → J 215 j = ttk (I 214) n j ∧ J 216 j = (tst (I 214) n j : Int) ∧ tst (I 214) n j < n) ∧ ¬ tst (I 214) n cnt < n := by
  have hT : up I 213 4 0 214 = I 214 := up_r (by decide)
  have h := s_55l (d := d) (n := n) (n + 1) 0 (up I 213 4 0)
  rw [hT] at h
  obtain ⟨cnt, J, i1, i2, i3, i4, i5, i6, i7, i8⟩ := h (by show n < 0 + (n + 1); omega) (Nat.zero_le _) (Nat.zero_le _) ((up_j (by decide)).trans hI) hn up_s hr (fun _ => by
    show ¬ gon (I 214) 0 = true
    unfold gon
    rw [decide_eq_false (Nat.lt_irrefl 0), Bool.false_and]
    exact Bool.false_ne_true)
  refine ⟨cnt, J, ?_, Ag_tr (Ag_uf (by decide) Ag_rf) i2, i3, i5, fun j hj => i7 j (Nat.zero_le _) hj, i8⟩
  rw [e_55]
  exact i1
