/-! A FLOCK -/
theorem wr_ad (a b : Int) : wr (wr a + b) = wr (a + b) := by
  unfold wr
  exact Int.bmod_add_bmod
def zS (f : Nat → Int) : Nat → Int
  | 0 => 0
  | n + 1 => zS f n + f n
theorem zsm_S (f : Nat → Int) : ∀ n, zsm f n = wr (zS f n)
  | 0 => (show (0 : Int) = wr 0 from by decide +kernel)
  | n + 1 => by rw [zsm, zS, zsm_S f n, wr_ad]
theorem zsm_w (f : Nat → Int) (n : Nat) : wr (zsm f n) = zsm f n := by
  rw [zsm_S, wr_wr]
theorem zS_cg {f g : Nat → Int} : ∀ n, (∀ j, j < n → f j = g j) → zS f n = zS g n
  | 0, _ => rfl
  | n + 1, h => by rw [zS, zS, zS_cg n fun j hj => h j (by omega), h n (by omega)]
theorem zS_sh (f : Nat → Int) : ∀ n, zS f (n + 1) = f 0 + zS (fun j => f (j + 1)) n
  | 0 => by simp [zS]
  | n + 1 => by
    rw [zS, zS_sh f n]
    simp only [zS]
    omega
theorem zS_rev : ∀ (n : Nat) (f : Nat → Int), zS (fun j => f (n - 1 - j)) n = zS f n
  | 0, _ => rfl
  | n + 1, f => by
    have h := zS_rev n f
    rw [zS_sh (fun j => f (n + 1 - 1 - j)) n]
    have e : zS (fun j => f (n + 1 - 1 - (j + 1))) n = zS f n := by
      rw [← h]
      exact zS_cg n fun j hj => by congr 1; omega
    rw [e, zS]
    simp only [Nat.add_sub_cancel, Nat.sub_zero]
    omega
theorem zS_tr (f : Nat → Int) (k : Nat) : ∀ n, zS (fun i => if i < k then f i else 0) n = zS f (min k n)
  | 0 => by rw [Nat.min_zero]; rfl
  | n + 1 => by
    rw [zS, zS_tr f k n]
    by_cases h : n < k
    · rw [if_pos h, show min k n = n by omega, show min k (n + 1) = n + 1 by omega, zS]
    · rw [if_neg h, show min k n = k by omega, show min k (n + 1) = k by omega, Int.add_zero]
/-- row by row (of m + 1) -/
def zfl : Nat → Nat → Int
  | 0, _ => 1
  | m + 1, v => zsm (zfl m) (m + 1 - v)
/-! the class -/
theorem fc_33 {d s i : Nat} {x1 x2 : Int} {K : zI} (hs : s ≤ 12) (hi : i + 1 ≤ s) : zD (d + 1) 88 33 [some (.inr (some 231)), some (.inl x1), some (.inl x2), some (.inl (s : Int)), some (.inl (i : Int)), some (.inl 0)] [] (up K 233 i 0) = zD (d + 1) 88 23 [some (.inr (some 231)), some (.inl x1), some (.inl x2), some (.inl (s : Int)), some (.inl ((i + 1 : Nat) : Int))] [] (up K 233 i (zsm (K 232) (s - 1 - i))) := by
  have wS : wr (wr ((s : Int) - 2) - (i : Int)) = (s : Int) - 2 - (i : Int) := by
    rw [wr_id (z := (s : Int) - 2) (by omega) (by omega), wr_id (by omega) (by omega)]
  refine zloop (n := s - 1 - i) (P := fun j => zD (d + 1) 88 33 [some (.inr (some 231)), some (.inl x1), some (.inl x2), some (.inl (s : Int)), some (.inl (i : Int)), some (.inl (j : Int))] [] (up K 233 i (zsm (K 232) j))) (fun j hj => ?_) ?_
  · show zD _ _ _ _ _ _ = zD _ _ _ _ _ _
    rw [e_88_33, wS]
    clear wS
    rw [if_neg (by omega), if_pos (by omega), if_pos (by omega), if_pos (by omega), Int.toNat_natCast, Int.toNat_natCast, up_s, up_c (by decide), wr_id (z := (j : Int) + 1) (by omega) (by omega), ← zk1c, zsm]
    congr 1
    funext a b
    unfold up
    split <;> rfl
  · show zD _ _ _ _ _ _ = _
    rw [e_88_33, wS]
    clear wS
    rw [if_pos (by omega), wr_id (z := (i : Int) + 1) (by omega) (by omega), ← zk1c]
theorem fc_23 {d s : Nat} {x1 x2 : Int} (hs : s + 2 ≤ 12) {K0 : zI} (hf : ∀ v, v < s + 1 → K0 232 v = zfl s v) : ∀ (m i : Nat) (K : zI), i + m = s + 2 → (∀ c j, c ≠ 233 → K c j = K0 c j) → (∀ j, j < i → K 233 j = zfl (s + 1) j) →
    ∃ K' : zI, (∀ c j, c ≠ 232 → c ≠ 233 → K' c j = K0 c j) ∧ (∀ v, v < s + 2 → K' 232 v = zfl (s + 1) v) ∧ zD (d + 1) 88 23 [some (.inr (some 231)), some (.inl x1), some (.inl x2), some (.inl ((s + 2 : Nat) : Int)), some (.inl (i : Int))] [] K = zD (d + 1) 88 18 [some (.inr (some 231)), some (.inl x1), some (.inl x2), some (.inl ((s + 3 : Nat) : Int))] [] K' := by
  intro m
  induction m with
  | zero =>
    intro i K hi hK hR
    refine ⟨cp K 233 232 0 0 (s + 2), fun c j q1 q2 => by rw [cp_c q1]; exact hK c j q2, fun v hv => by rw [cp_in hv]; exact hR v (by omega), ?_⟩
    rw [e_88_23, if_neg (by omega), if_pos (by omega), Int.toNat_natCast, wr_id (by omega) (by omega), ← zk1c]
  | succ m ih =>
    intro i K hi hK hR
    obtain ⟨K', a1, a2, a3⟩ := ih (i + 1) (up K 233 i (zsm (K 232) (s + 2 - 1 - i))) (by omega) (fun c j hc => by rw [up_c hc]; exact hK c j hc) (fun j hj => by
      by_cases q : j = i
      · rw [q, up_s, zfl, show s + 2 - 1 - i = s + 1 - i by omega]
        exact zsm_cg _ fun k hk => by rw [hK 232 k (by decide)]; exact hf k (by omega)
      · rw [up_j q]; exact hR j (by omega))
    refine ⟨K', a1, a2, ?_⟩
    rw [e_88_23, if_pos (by omega), if_pos (by omega), Int.toNat_natCast, fc_33 (s := s + 2) (by omega) (by omega)]
    exact a3
theorem fc_18 {d n : Nat} {x2 : Int} (hn : n ≤ 12) {K0 : zI} : ∀ (m s : Nat) (K : zI), s + 1 + m = n → (∀ c j, c ≠ 232 → c ≠ 233 → K c j = K0 c j) → (∀ v, v < s + 1 → K 232 v = zfl s v) →
    ∃ K' : zI, (∀ c j, c ≠ 232 → c ≠ 233 → K' c j = K0 c j) ∧ (∀ v, v < n → K' 232 v = zfl (n - 1) v) ∧ zD (d + 1) 88 18 [some (.inr (some 231)), some (.inl (n : Int)), some (.inl x2), some (.inl ((s + 2 : Nat) : Int))] [] K = zD (d + 1) 88 18 [some (.inr (some 231)), some (.inl (n : Int)), some (.inl x2), some (.inl ((n + 1 : Nat) : Int))] [] K' := by
  intro m
  induction m with
  | zero =>
    intro s K hs hK hR
    refine ⟨K, hK, fun v hv => by rw [show n - 1 = s by omega]; exact hR v (by omega), by rw [show s + 2 = n + 1 by omega]⟩
  | succ m ih =>
    intro s K hs hK hR
    obtain ⟨K1, a1, a2, a3⟩ := fc_23 (d := d) (x1 := (n : Int)) (x2 := x2) (s := s) (by omega) (K0 := K) hR (s + 2) 0 K (by omega) (fun _ _ _ => rfl) (fun j hj => by omega)
    obtain ⟨K', b1, b2, b3⟩ := ih (s + 1) K1 (by omega) (fun c j q1 q2 => by rw [a1 c j q1 q2]; exact hK c j q1 q2) a2
    refine ⟨K', b1, b2, ?_⟩
    rw [e_88_18, if_neg (by omega)]
    exact a3.trans b3
/-- how many, of those with k first -/
def zfa (n : Nat) (k : Int) : Int := if n = 0 then 1 else if k < 0 then zsm (zfl (n - 1)) n else zfl (n - 1) k.toNat
theorem fc_ok {d n : Nat} {k : Int} {K : zI} (hn : n ≤ 12) (hk : -1 ≤ k ∧ k ≤ (n : Int) - 1) : ∃ K' : zI, (∀ c j, c ≠ 232 → c ≠ 233 → K' c j = K c j) ∧ cl (d + 1) 88 [.inr (some 231), .inl (n : Int), .inl k] K = some (zfa n k, K') := by
  rw [e_88]
  unfold zfa
  by_cases h0 : n = 0
  · refine ⟨K, fun _ _ _ _ => rfl, ?_⟩
    rw [if_neg (by omega), if_pos (by omega), if_pos h0]
  rw [if_pos (by omega), if_neg (by omega), if_neg h0]
  obtain ⟨K', a1, a2, a3⟩ := fc_18 (d := d) (x2 := k) hn (K0 := K) (n - 1) 0 (up K 232 0 1) (by omega) (fun c j q1 q2 => up_c q1) (fun v hv => by rw [show v = 0 by omega, up_s]; rfl)
  refine ⟨K', a1, a3.trans ?_⟩
  rw [e_88_18, if_pos (by omega)]
  by_cases hk0 : k < 0
  · rw [if_pos hk0, if_pos hk0]
    refine zloop (n := n) (P := fun j => zD (d + 1) 88 79 [some (.inr (some 231)), some (.inl (n : Int)), some (.inl k), some (.inl (zsm (zfl (n - 1)) j)), some (.inl (j : Int))] [] K') (fun j hj => ?_) ?_
    · show zD _ _ _ _ _ _ = zD _ _ _ _ _ _
      rw [e_88_79, if_pos (by omega), if_pos (by omega), Int.toNat_natCast, a2 j hj, wr_id (z := (j : Int) + 1) (by omega) (by omega), ← zk1c, zsm]
    · show zD _ _ _ _ _ _ = _
      rw [e_88_79, if_neg (by omega)]
  · rw [if_neg hk0, if_neg hk0, if_pos (by omega), if_pos (by omega), a2 k.toNat (by omega)]
/-! the model -/
/-- row m, as the model has it (rows before the last go the other way) -/
def zfm (n m v : Nat) : Int := if (n - m) % 2 = 0 then zfl (m - 1) v else zfl (m - 1) (m - 1 - v)
theorem zfm_up {n m v : Nat} (hm : 2 ≤ m) (hn : m ≤ n) (hv : v < m) (hu : (n - m) % 2 = 0) : zsm (fun j => if v ≤ j then zfm n (m - 1) j else 0) (m - 1) = zfm n m v := by
  have hd : ¬ (n - (m - 1)) % 2 = 0 := by omega
  unfold zfm
  rw [if_pos hu]
  obtain ⟨p, rfl⟩ : ∃ p, m = p + 2 := ⟨m - 2, by omega⟩
  show _ = zsm (zfl p) (p + 1 - v)
  rw [zsm_S, zsm_S]
  congr 1
  rw [show p + 2 - 1 = p + 1 by omega]
  have e : zS (fun j => if v ≤ j then (if (n - (p + 1)) % 2 = 0 then zfl (p + 1 - 1) j else zfl (p + 1 - 1) (p + 1 - 1 - j)) else 0) (p + 1) = zS (fun j => (fun i => if i < p + 1 - v then zfl p i else 0) (p + 1 - 1 - j)) (p + 1) := by
    refine zS_cg _ fun j hj => ?_
    rw [if_neg (show ¬ (n - (p + 1)) % 2 = 0 by omega)]
    simp only [Nat.add_sub_cancel]
    by_cases q : v ≤ j
    · rw [if_pos q, if_pos (by omega)]
    · rw [if_neg q, if_neg (by omega)]
  rw [e, zS_rev (p + 1) (fun i => if i < p + 1 - v then zfl p i else 0), zS_tr, show min (p + 1 - v) (p + 1) = p + 1 - v by omega]
theorem zfm_dn {n m v : Nat} (hm : 2 ≤ m) (hn : m ≤ n) (hv : v < m) (hu : ¬ (n - m) % 2 = 0) : zsm (fun j => if j < v then zfm n (m - 1) j else 0) (m - 1) = zfm n m v := by
  have hd : (n - (m - 1)) % 2 = 0 := by omega
  unfold zfm
  rw [if_neg hu]
  obtain ⟨p, rfl⟩ : ∃ p, m = p + 2 := ⟨m - 2, by omega⟩
  show _ = zsm (zfl p) (p + 1 - (p + 1 - v))
  rw [zsm_S, zsm_S]
  congr 1
  rw [show p + 2 - 1 = p + 1 by omega]
  have e : zS (fun j => if j < v then (if (n - (p + 1)) % 2 = 0 then zfl (p + 1 - 1) j else zfl (p + 1 - 1) (p + 1 - 1 - j)) else 0) (p + 1) = zS (fun i => if i < v then zfl p i else 0) (p + 1) := by
    refine zS_cg _ fun j hj => ?_
    rw [if_pos (show (n - (p + 1)) % 2 = 0 by omega)]
    rfl
  rw [e, zS_tr, show min v (p + 1) = p + 1 - (p + 1 - v) by omega]
theorem fm_55 {e n m v : Nat} {x2 : Int} {J : zI} (hm : 1 ≤ m) (hmn : m ≤ n) (hn : n ≤ 12) (hv : v < m) {u : Int} (hu : u = (if (n - m) % 2 = 0 then 1 else 0)) (hR : ∀ j, j < m - 1 → J 265 (12 * (m - 2) + j) = zfm n (m - 1) j) :
    zD (e + 1) 251 55 [some (.inr (some 240)), some (.inl (n : Int)), some (.inl x2), some (.inl (m : Int)), some (.inl u), some (.inl (v : Int)), some (.inl (if m = 1 then 1 else 0)), some (.inl 0)] [] J = zD (e + 1) 251 43 [some (.inr (some 240)), some (.inl (n : Int)), some (.inl x2), some (.inl (m : Int)), some (.inl u), some (.inl ((v + 1 : Nat) : Int))] [] (up J 265 (12 * (m - 1) + v) (zfm n m v)) := by
  have w1 : wr (wr (12 * wr ((m : Int) - 1)) + (v : Int)) = ((12 * (m - 1) + v : Nat) : Int) := by
    rw [wr_id (z := (m : Int) - 1) (by omega) (by omega), wr_id (z := 12 * ((m : Int) - 1)) (by omega) (by omega), wr_id (by omega) (by omega)]
    omega
  have last : ∀ z : Int, z = zfm n m v → zD (e + 1) 251 55 [some (.inr (some 240)), some (.inl (n : Int)), some (.inl x2), some (.inl (m : Int)), some (.inl u), some (.inl (v : Int)), some (.inl z), some (.inl ((m - 1 : Nat) : Int))] [] J = zD (e + 1) 251 43 [some (.inr (some 240)), some (.inl (n : Int)), some (.inl x2), some (.inl (m : Int)), some (.inl u), some (.inl ((v + 1 : Nat) : Int))] [] (up J 265 (12 * (m - 1) + v) (zfm n m v)) := by
    intro z hz
    rw [e_251_55, w1]
    clear w1
    rw [wr_id (z := (m : Int) - 1) (by omega) (by omega), if_neg (by omega), if_pos (by omega), Int.toNat_natCast, hz, wr_id (by omega) (by omega), ← zk1c]
  clear w1
  by_cases h1 : m = 1
  · subst h1
    rw [if_pos rfl]
    refine last 1 ?_
    unfold zfm
    split <;> rfl
  rw [if_neg h1]
  by_cases hup : (n - m) % 2 = 0
  · rw [if_pos hup] at hu
    subst hu
    refine zloop (n := m - 1) (P := fun j => zD (e + 1) 251 55 [some (.inr (some 240)), some (.inl (n : Int)), some (.inl x2), some (.inl (m : Int)), some (.inl 1), some (.inl (v : Int)), some (.inl (zsm (fun j => if v ≤ j then zfm n (m - 1) j else 0) j)), some (.inl (j : Int))] [] J) (fun j hj => ?_) ?_
    · show zD _ _ _ _ _ _ = zD _ _ _ _ _ _
      have w2 : wr (wr (12 * wr ((m : Int) - 2)) + (j : Int)) = ((12 * (m - 2) + j : Nat) : Int) := by
        rw [wr_id (z := (m : Int) - 2) (by omega) (by omega), wr_id (z := 12 * ((m : Int) - 2)) (by omega) (by omega), wr_id (by omega) (by omega)]
        omega
      rw [e_251_55, e_251_69, w2]
      clear w2
      rw [wr_id (z := (m : Int) - 1) (by omega) (by omega), if_pos (by omega), if_neg (by decide), wr_id (z := (j : Int) + 1) (by omega) (by omega), ← zk1c, Int.toNat_natCast, hR j hj, zsm]
      by_cases q : v ≤ j
      · rw [if_neg (by omega), if_pos (by omega), if_pos q]
      · rw [if_pos (by omega), if_neg q, Int.add_zero, zsm_w]
    · exact last _ (zfm_up (by omega) hmn hv hup)
  · rw [if_neg hup] at hu
    subst hu
    refine zloop (n := m - 1) (P := fun j => zD (e + 1) 251 55 [some (.inr (some 240)), some (.inl (n : Int)), some (.inl x2), some (.inl (m : Int)), some (.inl 0), some (.inl (v : Int)), some (.inl (zsm (fun j => if j < v then zfm n (m - 1) j else 0) j)), some (.inl (j : Int))] [] J) (fun j hj => ?_) ?_
    · show zD _ _ _ _ _ _ = zD _ _ _ _ _ _
      have w2 : wr (wr (12 * wr ((m : Int) - 2)) + (j : Int)) = ((12 * (m - 2) + j : Nat) : Int) := by
        rw [wr_id (z := (m : Int) - 2) (by omega) (by omega), wr_id (z := 12 * ((m : Int) - 2)) (by omega) (by omega), wr_id (by omega) (by omega)]
        omega
      rw [e_251_55, e_251_69, w2]
      clear w2
      rw [wr_id (z := (m : Int) - 1) (by omega) (by omega), if_pos (by omega), if_pos rfl, wr_id (z := (j : Int) + 1) (by omega) (by omega), ← zk1c, Int.toNat_natCast, hR j hj, zsm]
      by_cases q : j < v
      · rw [if_pos (by omega), if_pos (by omega), if_pos q]
      · rw [if_neg (by omega), if_neg q, Int.add_zero, zsm_w]
    · exact last _ (zfm_dn (by omega) hmn hv hup)
theorem fm_43 {e n m : Nat} {x2 : Int} {J0 : zI} (hm : 1 ≤ m) (hmn : m ≤ n) (hn : n ≤ 12) {u : Int} (hu : u = (if (n - m) % 2 = 0 then 1 else 0)) (hR : ∀ j, j < m - 1 → J0 265 (12 * (m - 2) + j) = zfm n (m - 1) j) : ∀ (k v : Nat) (J : zI), v + k = m → (∀ c j, ¬ (c = 265 ∧ 12 * (m - 1) ≤ j) → J c j = J0 c j) → (∀ j, j < v → J 265 (12 * (m - 1) + j) = zfm n m j) →
    ∃ J' : zI, (∀ c j, ¬ (c = 265 ∧ 12 * (m - 1) ≤ j) → J' c j = J0 c j) ∧ (∀ j, j < m → J' 265 (12 * (m - 1) + j) = zfm n m j) ∧ zD (e + 1) 251 43 [some (.inr (some 240)), some (.inl (n : Int)), some (.inl x2), some (.inl (m : Int)), some (.inl u), some (.inl (v : Int))] [] J = zD (e + 1) 251 28 [some (.inr (some 240)), some (.inl (n : Int)), some (.inl x2), some (.inl ((m + 1 : Nat) : Int))] [] J' := by
  intro k
  induction k with
  | zero =>
    intro v J hv hJ hV
    refine ⟨J, hJ, fun j hj => hV j (by omega), ?_⟩
    rw [e_251_43, if_neg (by omega), wr_id (by omega) (by omega), ← zk1c]
  | succ k ih =>
    intro v J hv hJ hV
    obtain ⟨J', a1, a2, a3⟩ := ih (v + 1) (up J 265 (12 * (m - 1) + v) (zfm n m v)) (by omega) (fun c j q => by
      unfold up
      rw [if_neg (by omega)]
      exact hJ c j q) (fun j hj => by
      by_cases q : j = v
      · rw [q, up_s]
      · rw [up_j (by omega)]; exact hV j (by omega))
    refine ⟨J', a1, a2, ?_⟩
    have h55 := fm_55 (e := e) (x2 := x2) (J := J) hm hmn hn (v := v) (by omega) hu (fun j hj => by rw [hJ 265 _ (by omega)]; exact hR j hj)
    rw [e_251_43, if_pos (by omega)]
    by_cases h1 : m = 1
    · rw [if_pos h1] at h55
      rw [if_pos (by omega)]
      exact h55.trans a3
    · rw [if_neg h1] at h55
      rw [if_neg (by omega)]
      exact h55.trans a3
theorem fm_28 {e n : Nat} {x2 : Int} (hn : n ≤ 12) {J0 : zI} : ∀ (k m : Nat) (J : zI), m + k = n → (∀ c j, c ≠ 265 → J c j = J0 c j) → (0 < m → ∀ j, j < m → J 265 (12 * (m - 1) + j) = zfm n m j) →
    ∃ J' : zI, (∀ c j, c ≠ 265 → J' c j = J0 c j) ∧ (0 < n → ∀ j, j < n → J' 265 (12 * (n - 1) + j) = zfm n n j) ∧ zD (e + 1) 251 28 [some (.inr (some 240)), some (.inl (n : Int)), some (.inl x2), some (.inl ((m + 1 : Nat) : Int))] [] J = zD (e + 1) 251 28 [some (.inr (some 240)), some (.inl (n : Int)), some (.inl x2), some (.inl ((n + 1 : Nat) : Int))] [] J' := by
  intro k
  induction k with
  | zero =>
    intro m J hm hJ hR
    have e : m = n := by omega
    subst e
    exact ⟨J, hJ, hR, rfl⟩
  | succ k ih =>
    intro m J hm hJ hR
    obtain ⟨J1, a1, a2, a3⟩ := fm_43 (e := e) (x2 := x2) (m := m + 1) (J0 := J) (by omega) (by omega) hn rfl (fun j hj => by
      have := hR (by omega) j (by omega)
      rw [show m + 1 - 2 = m - 1 by omega, show m + 1 - 1 = m by omega]
      exact this) (m + 1) 0 J (by omega) (fun _ _ _ => rfl) (fun j hj => by omega)
    obtain ⟨J', b1, b2, b3⟩ := ih (m + 1) J1 (by omega) (fun c j hc => by rw [a1 c j (by omega)]; exact hJ c j hc) (fun _ => a2)
    refine ⟨J', b1, b2, ?_⟩
    rw [e_251_28, if_neg (by omega), wr_id (z := (n : Int) - ((m + 1 : Nat) : Int)) (by omega) (by omega), zrem_nn (by omega) (by omega) (by decide) (by decide)]
    by_cases hu : (n - (m + 1)) % 2 = 0
    · rw [if_pos hu] at a3
      rw [if_pos (by omega)]
      exact a3.trans b3
    · rw [if_neg hu] at a3
      rw [if_neg (by omega)]
      exact a3.trans b3
theorem fm_ok {e n : Nat} {k : Int} {J : zI} (hn : n ≤ 12) (h0 : 0 < n) (hk : -1 ≤ k ∧ k ≤ (n : Int) - 1) : ∃ J' : zI, (∀ c j, c ≠ 265 → J' c j = J c j) ∧ zD (e + 1) 251 28 [some (.inr (some 240)), some (.inl (n : Int)), some (.inl k), some (.inl 1)] [] J = some (zfa n k, J') := by
  obtain ⟨J', a1, a2, a3⟩ := fm_28 (e := e) (x2 := k) hn (J0 := J) n 0 J (by omega) (fun _ _ _ => rfl) (fun h => absurd h (by decide))
  refine ⟨J', a1, a3.trans ?_⟩
  have a2 := a2 h0
  have zz : ∀ j, zfm n n j = zfl (n - 1) j := fun j => if_pos (by omega)
  unfold zfa
  rw [e_251_28, if_pos (by omega), if_neg (show ¬ n = 0 by omega)]
  by_cases hk0 : k = -1
  · rw [if_pos hk0, if_pos (by omega)]
    refine zloop (n := n) (P := fun j => zD (e + 1) 251 117 [some (.inr (some 240)), some (.inl (n : Int)), some (.inl k), some (.inl (zsm (zfl (n - 1)) j)), some (.inl (j : Int))] [] J') (fun j hj => ?_) ?_
    · show zD _ _ _ _ _ _ = zD _ _ _ _ _ _
      have w1 : wr (wr (12 * wr ((n : Int) - 1)) + (j : Int)) = ((12 * (n - 1) + j : Nat) : Int) := by
        rw [wr_id (z := (n : Int) - 1) (by omega) (by omega), wr_id (z := 12 * ((n : Int) - 1)) (by omega) (by omega), wr_id (by omega) (by omega)]
        omega
      rw [e_251_117, w1]
      clear w1
      rw [if_pos (by omega), if_pos (by omega), Int.toNat_natCast, a2 j hj, zz, wr_id (z := (j : Int) + 1) (by omega) (by omega), ← zk1c, zsm]
    · show zD _ _ _ _ _ _ = _
      rw [e_251_117, if_neg (by omega)]
  · obtain ⟨q, rfl⟩ : ∃ q : Nat, k = q := ⟨k.toNat, by omega⟩
    have w1 : wr (wr (12 * wr ((n : Int) - 1)) + (q : Int)) = ((12 * (n - 1) + q : Nat) : Int) := by
      rw [wr_id (z := (n : Int) - 1) (by omega) (by omega), wr_id (z := 12 * ((n : Int) - 1)) (by omega) (by omega), wr_id (by omega) (by omega)]
      omega
    rw [w1]
    clear w1
    rw [if_neg hk0, if_pos (by omega), if_neg (show ¬ (q : Int) < 0 by omega), Int.toNat_natCast, Int.toNat_natCast, a2 q (by omega), zz]
theorem q_flock {I : zI} {n k : Int} (h : Rl I) : Pair 130 251 [.inl n, .inl k] I := by
  have E1 := e_130 (d := 59) (I := I) (x1 := n) (x2 := k)
  simp only [s_156, Option.bind_some, b01] at E1
  by_cases hn : 0 ≤ n ∧ n ≤ 12
  · obtain ⟨n, rfl⟩ : ∃ q : Nat, n = q := ⟨n.toNat, by omega⟩
    have E2 := fun J : zI => e_251 (d := 59) (I := J) (x1 := (n : Int)) (x2 := k)
    simp only [s_158, Option.bind_some, b01] at E2
    rw [if_neg (not_not_intro hn), wr_id (z := (n : Int) - 1) (by omega) (by omega)] at E1
    by_cases hk : -1 ≤ k ∧ k ≤ (n : Int) - 1
    · rw [if_neg (not_not_intro hk)] at E1
      obtain ⟨K', a1, a2⟩ := fc_ok (d := 58) (K := I) (n := n) (by omega) hk
      rw [a2, Option.bind_some] at E1
      have E2 := E2 K'
      rw [if_neg (not_not_intro hn), wr_id (z := (n : Int) - 1) (by omega) (by omega)] at E2
      have hK : Ag scrC scrF I K' := fun c j q1 q2 => a1 c j (fun e => by rw [e] at q1; revert q1; decide) (fun e => by rw [e] at q1; revert q1; decide)
      by_cases h0 : n = 0
      · subst h0
        refine ⟨_, K', up K' 240 0 0, E1, ?_, Rl_scr (Ag_tr hK Ag_0) h⟩
        rw [E2, if_pos (by omega), if_pos (by decide)]
        rfl
      · obtain ⟨J', b1, b2⟩ := fm_ok (e := 59) (J := up K' 240 0 0) (n := n) (by omega) (by omega) hk
        refine ⟨_, K', J', E1, ?_, Rl_scr (Ag_tr hK (Ag_tr Ag_0 fun c j q1 q2 => b1 c j (fun e => by rw [e] at q1; revert q1; decide))) h⟩
        rw [E2]
        by_cases hk1 : k = -1
        · rw [if_pos hk1, if_neg (by omega)]
          exact b2
        · rw [if_neg hk1, if_neg (by omega), if_neg (by omega)]
          exact b2
    · rw [if_pos hk] at E1
      refine Pair_of h E1 ?_ Ag_0
      rw [E2, if_neg (not_not_intro hn), wr_id (z := (n : Int) - 1) (by omega) (by omega), if_neg (by omega), if_pos (by omega)]
  · rw [if_pos hn] at E1
    refine Pair_of h E1 ?_ Ag_0
    rw [e_251, s_158]
    simp only [Option.bind_some, b01]
    rw [if_pos hn]
