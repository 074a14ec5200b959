/-! WHAT THE LAW TELLS, HERE AND THERE -/
/-- what lies on the stacks of both (true: a condition) -/
def zst (K J : zI) : List Bool → Prop
  | [] => True
  | b :: r => K 28 r.length = J 263 r.length ∧ (b = true → K 28 r.length = 0 ∨ K 28 r.length = 1) ∧ zst K J r
theorem zst_cg {K J K' J' : zI} : ∀ (ts : List Bool), (∀ j, j < ts.length → K' 28 j = K 28 j ∧ J' 263 j = J 263 j) → zst K J ts → zst K' J' ts
  | [], _, _ => trivial
  | b :: r, h, s => by
    have e := h r.length (by rw [List.length_cons]; omega)
    exact ⟨by rw [e.1, e.2]; exact s.1, fun q => by rw [e.1]; exact s.2.1 q, zst_cg r (fun j hj => h j (by rw [List.length_cons]; omega)) s.2.2⟩
theorem zst_push {K J : zI} {ts : List Bool} {b : Bool} {v : Int} (hv : b = true → v = 0 ∨ v = 1) (s : zst K J ts) : zst (up K 28 ts.length v) (up J 263 ts.length v) (b :: ts) :=
  ⟨by rw [up_s, up_s], fun q => by rw [up_s]; exact hv q, zst_cg ts (fun j hj => ⟨up_j (by omega), up_j (by omega)⟩) s⟩
def zfc (K J : zI) : Prop := ∀ j, j < 11 → K 27 j = J 262 j
theorem ztk_push {t : Int} {ts ts1 : List Bool} (ht : t ≤ 10010) (h : ztk t ts = some ts1) : ts.length < 64 ∧ ts1 = false :: ts := by
  unfold ztk at h
  rw [if_pos ht] at h
  by_cases q : ts.length < 64
  · rw [if_pos q] at h
    injection h with h
    exact ⟨q, h.symm⟩
  · rw [if_neg q] at h
    cases h
theorem ztk_not {t : Int} {ts ts1 : List Bool} (ht : t = 10017) (h : ztk t ts = some ts1) : ∃ r, ts = true :: r ∧ ts1 = true :: r := by
  unfold ztk at h
  rw [if_neg (by omega), if_pos ht] at h
  split at h
  · injection h with h
    exact ⟨_, rfl, h.symm⟩
  · cases h
theorem ztk_bb {t : Int} {ts ts1 : List Bool} (ht : t = 10015 ∨ t = 10016) (h : ztk t ts = some ts1) : ∃ r, ts = true :: true :: r ∧ ts1 = true :: r := by
  unfold ztk at h
  rw [if_neg (by omega), if_neg (by omega), if_pos ht] at h
  split at h
  · injection h with h
    exact ⟨_, rfl, h.symm⟩
  · cases h
theorem ztk_cmp {t : Int} {ts ts1 : List Bool} (ht : t = 20060 ∨ t = 20061 ∨ t = 20062) (h : ztk t ts = some ts1) : ∃ r, ts = false :: false :: r ∧ ts1 = true :: r := by
  unfold ztk at h
  rw [if_neg (by omega), if_neg (by omega), if_neg (by omega), if_pos ht] at h
  split at h
  · injection h with h
    exact ⟨_, rfl, h.symm⟩
  · cases h
theorem ztk_ar {t : Int} {ts ts1 : List Bool} (ht : t = 20043 ∨ t = 20045 ∨ t = 20042 ∨ t = 20047) (h : ztk t ts = some ts1) : ∃ r, ts = false :: false :: r ∧ ts1 = false :: r := by
  unfold ztk at h
  rw [if_neg (by omega), if_neg (by omega), if_neg (by omega), if_neg (by omega)] at h
  split at h
  · injection h with h
    exact ⟨_, rfl, h.symm⟩
  · cases h
/-! a token of the class -/
theorem s_42 {d : Nat} {I : zI} {x : Int} (h1 : 10000 ≤ x) (h2 : x < 10011) : cl (d + 1) 42 [.inr (some 20), .inl x] I = some (I 27 (x - 10000).toNat, I) := by
  rw [e_42, wr_id (z := x - 10000) (by omega) (by omega), if_neg (by omega), if_pos (by omega), if_pos (by omega)]
theorem w_push {d : Nat} {K : zI} {w1 : Option zV} {x2 t v : Int} {m i : Nat} (hi : i < 400) (h2 : (i : Int) < x2) (hm : m < 64) (ht : K 26 i = t) (hv : (0 ≤ t ∧ t < 10000 ∧ v = t) ∨ (10000 ≤ t ∧ t < 10011 ∧ v = K 27 (t - 10000).toNat)) : zD (d + 2) 45 6 [some (.inr (some 20)), w1, some (.inl x2), some (.inl (m : Int)), some (.inl (i : Int))] [] K = zD (d + 2) 45 6 [some (.inr (some 20)), w1, some (.inl x2), some (.inl ((m + 1 : Nat) : Int)), some (.inl ((i + 1 : Nat) : Int))] [] (up K 28 m v) := by
  rw [e_45_6, if_pos h2, if_pos (by omega), if_pos (by omega)]
  simp only [Int.toNat_natCast, ht]
  rcases hv with ⟨a, b, rfl⟩ | ⟨a, b, rfl⟩
  · rw [if_neg (by omega), if_neg (by omega), if_pos (by omega), if_pos b, if_pos (by omega), wr_id (z := (m : Int) + 1) (by omega) (by omega), wr_id (z := (i : Int) + 1) (by omega) (by omega)]
    rfl
  · rw [if_neg (by omega), if_neg (by omega), if_pos (by omega), if_neg (by omega), s_42 a b, Option.bind_some, if_pos (by omega), wr_id (z := (m : Int) + 1) (by omega) (by omega), wr_id (z := (i : Int) + 1) (by omega) (by omega)]
    rfl
theorem w_not {d : Nat} {K : zI} {w1 : Option zV} {x2 : Int} {m i : Nat} (hi : i < 400) (h2 : (i : Int) < x2) (hm : m < 64) (ht : K 26 i = 10017) : zD (d + 2) 45 6 [some (.inr (some 20)), w1, some (.inl x2), some (.inl ((m + 1 : Nat) : Int)), some (.inl (i : Int))] [] K = zD (d + 2) 45 6 [some (.inr (some 20)), w1, some (.inl x2), some (.inl ((m + 1 : Nat) : Int)), some (.inl ((i + 1 : Nat) : Int))] [] (up K 28 m (if K 28 m = 0 then 1 else 0)) := by
  rw [e_45_6, if_pos h2, if_pos (by omega), if_pos (by omega)]
  simp only [Int.toNat_natCast, ht]
  have e : wr (((m + 1 : Nat) : Int) - 1) = m := by rw [wr_id (by omega) (by omega)]; omega
  have hm2 : 0 ≤ (m : Int) ∧ (m : Int) < 64 := by omega
  rw [if_pos trivial, if_neg (by omega), wr_id (z := (i : Int) + 1) (by omega) (by omega)]
  simp only [e, if_pos hm2, Int.toNat_natCast]
  by_cases q : K 28 m = 0
  · simp only [if_pos q]; rfl
  · simp only [if_neg q]; rfl
theorem w_bin {d : Nat} {K : zI} {w1 : Option zV} {x2 t : Int} {m i : Nat} (hi : i < 400) (h2 : (i : Int) < x2) (hm : m + 2 ≤ 64) (ht : K 26 i = t) (h3 : ¬ t = 10017) (h4 : 10010 < t) : zD (d + 2) 45 6 [some (.inr (some 20)), w1, some (.inl x2), some (.inl ((m + 2 : Nat) : Int)), some (.inl (i : Int))] [] K = (cl (d + 1) 46 [.inl t, .inl (K 28 m), .inl (K 28 (m + 1))] K).bind fun p => zD (d + 2) 45 6 [some (.inr (some 20)), w1, some (.inl x2), some (.inl ((m + 1 : Nat) : Int)), some (.inl ((i + 1 : Nat) : Int))] [] (up p.2 28 m p.1) := by
  rw [e_45_6, if_pos h2, if_pos (by omega), if_pos (by omega)]
  simp only [Int.toNat_natCast, ht]
  have e1 : wr (((m + 2 : Nat) : Int) + (-1)) = ((m + 1 : Nat) : Int) := by rw [wr_id (by omega) (by omega)]; omega
  have e2 : wr (((m + 1 : Nat) : Int) - 1) = (m : Int) := by rw [wr_id (by omega) (by omega)]; omega
  have i1 : 0 ≤ (m : Int) ∧ (m : Int) < 64 := by omega
  have i2 : 0 ≤ ((m + 1 : Nat) : Int) ∧ ((m + 1 : Nat) : Int) < 64 := by omega
  rw [if_neg h3, if_pos h4, if_neg (by omega), wr_id (z := (i : Int) + 1) (by omega) (by omega)]
  simp only [e1, e2, if_pos i1, if_pos i2, Int.toNat_natCast]
  rfl
/-! .. of the model -/
theorem m_x {x3 : Int} (h : 0 ≤ x3) (h2 : x3 ≤ 400) : wr (wr (400 * 0) + x3) = x3 := by
  rw [wr_id (z := 400 * 0) (by omega) (by omega), wr_id (by omega) (by omega)]
  omega
theorem m_push {e : Nat} {J : zI} {w2 : Option zV} {x3 v : Int} {m i : Nat} (h2 : (i : Int) < x3) (h3 : x3 ≤ 400) (hm : m < 64) (hv : (J 255 i = 0 ∧ v = J 256 i) ∨ (J 255 i = 1 ∧ 0 ≤ J 256 i ∧ J 256 i < 11 ∧ v = J 262 (J 256 i).toNat)) : zD (e + 2) 224 8 [some (.inr (some 240)), some (.inl 0), w2, some (.inl x3), some (.inl (m : Int)), some (.inl (i : Int))] [] J = zD (e + 2) 224 8 [some (.inr (some 240)), some (.inl 0), w2, some (.inl x3), some (.inl ((m + 1 : Nat) : Int)), some (.inl ((i + 1 : Nat) : Int))] [] (up J 263 m v) := by
  have i1 : 0 ≤ (i : Int) ∧ (i : Int) < 1200 := by omega
  have i2 : 0 ≤ (m : Int) ∧ (m : Int) < 420 := by omega
  rw [e_224_8, m_x (by omega) h3, if_pos h2]
  simp only [if_pos i1, Int.toNat_natCast]
  rcases hv with ⟨a, rfl⟩ | ⟨a, b, c, rfl⟩
  · rw [if_pos a, e_224_26]
    simp only [if_pos i1, if_pos i2, Int.toNat_natCast, if_pos a]
    rw [wr_id (z := (m : Int) + 1) (by omega) (by omega), wr_id (z := (i : Int) + 1) (by omega) (by omega)]
    rfl
  · rw [if_neg (by omega), if_pos a, e_224_26]
    simp only [if_pos i1, if_pos i2, Int.toNat_natCast]
    rw [if_neg (by omega), if_pos ⟨b, c⟩, wr_id (z := (m : Int) + 1) (by omega) (by omega), wr_id (z := (i : Int) + 1) (by omega) (by omega)]
    rfl
theorem m_not {e : Nat} {J : zI} {w2 : Option zV} {x3 : Int} {m i : Nat} (h2 : (i : Int) < x3) (h3 : x3 ≤ 400) (hm : m < 64) (ht : J 255 i = 9) : zD (e + 2) 224 8 [some (.inr (some 240)), some (.inl 0), w2, some (.inl x3), some (.inl ((m + 1 : Nat) : Int)), some (.inl (i : Int))] [] J = zD (e + 2) 224 8 [some (.inr (some 240)), some (.inl 0), w2, some (.inl x3), some (.inl ((m + 1 : Nat) : Int)), some (.inl ((i + 1 : Nat) : Int))] [] (up J 263 m (wr (1 - J 263 m))) := by
  have i1 : 0 ≤ (i : Int) ∧ (i : Int) < 1200 := by omega
  have i2 : 0 ≤ (m : Int) ∧ (m : Int) < 420 := by omega
  have e1 : wr (((m + 1 : Nat) : Int) - 1) = (m : Int) := by rw [wr_id (by omega) (by omega)]; omega
  rw [e_224_8, m_x (by omega) h3, if_pos h2]
  simp only [if_pos i1, Int.toNat_natCast, ht, Int.reduceEq, if_false, if_true, e1, if_pos i2]
  rw [wr_id (z := (i : Int) + 1) (by omega) (by omega)]
  rfl
theorem m_bin {e : Nat} {J : zI} {w2 : Option zV} {x3 o : Int} {m i : Nat} (h2 : (i : Int) < x3) (h3 : x3 ≤ 400) (hm : m + 2 ≤ 64) (ht : J 255 i = o) (o0 : ¬ o = 0) (o1 : ¬ o = 1) (o9 : ¬ o = 9) : zD (e + 2) 224 8 [some (.inr (some 240)), some (.inl 0), w2, some (.inl x3), some (.inl ((m + 2 : Nat) : Int)), some (.inl (i : Int))] [] J = (cl (e + 1) 223 [.inr (some 240), .inl o, .inl (J 263 m), .inl (J 263 (m + 1))] J).bind fun p => zD (e + 2) 224 8 [some (.inr (some 240)), some (.inl 0), w2, some (.inl x3), some (.inl ((m + 1 : Nat) : Int)), some (.inl ((i + 1 : Nat) : Int))] [] (up p.2 263 m p.1) := by
  have i1 : 0 ≤ (i : Int) ∧ (i : Int) < 1200 := by omega
  have i2 : 0 ≤ (m : Int) ∧ (m : Int) < 420 := by omega
  have i3 : 0 ≤ ((m + 1 : Nat) : Int) ∧ ((m + 1 : Nat) : Int) < 420 := by omega
  have e1 : wr (((m + 2 : Nat) : Int) - 1) = ((m + 1 : Nat) : Int) := by rw [wr_id (by omega) (by omega)]; omega
  have e2 : wr (((m + 1 : Nat) : Int) - 1) = (m : Int) := by rw [wr_id (by omega) (by omega)]; omega
  rw [e_224_8, m_x (by omega) h3, if_pos h2]
  simp only [if_pos i1, Int.toNat_natCast, ht, if_neg o0, if_neg o1, if_neg o9, e1, e2, if_pos i2, if_pos i3]
  rw [wr_id (z := (i : Int) + 1) (by omega) (by omega)]
  rfl
/-! a token of both -/
theorem work_bn {d e : Nat} {K J : zI} {w1 w2 : Option zV} {x2 x3 t o v : Int} {i : Nat} {b b1 b2 : Bool} {r : List Bool} (hi : i < 400) (h2 : (i : Int) < x2) (h3 : (i : Int) < x3) (h4 : x3 ≤ 400) (hl : (b1 :: b2 :: r).length ≤ 64) (ht : K 26 i = t) (ho : J 255 i = o) (hs : zst K J (b1 :: b2 :: r)) (q1 : ¬ t = 10017) (q2 : 10010 < t) (o0 : ¬ o = 0) (o1 : ¬ o = 1) (o9 : ¬ o = 9) (hv : b = true → v = 0 ∨ v = 1)
    (hc : cl (d + 1) 46 [.inl t, .inl (K 28 r.length), .inl (K 28 (r.length + 1))] K = some (v, K)) (hm : cl (e + 1) 223 [.inr (some 240), .inl o, .inl (K 28 r.length), .inl (K 28 (r.length + 1))] J = some (v, J)) :
    ∃ K1 J1 : zI, (∀ c j, c ≠ 28 → K1 c j = K c j) ∧ (∀ c j, c ≠ 263 → J1 c j = J c j) ∧ zst K1 J1 (b :: r) ∧ (b :: r).length ≤ 64 ∧
      zD (d + 2) 45 6 [some (.inr (some 20)), w1, some (.inl x2), some (.inl ((b1 :: b2 :: r).length : Int)), some (.inl (i : Int))] [] K = zD (d + 2) 45 6 [some (.inr (some 20)), w1, some (.inl x2), some (.inl ((b :: r).length : Int)), some (.inl ((i + 1 : Nat) : Int))] [] K1 ∧
      zD (e + 2) 224 8 [some (.inr (some 240)), some (.inl 0), w2, some (.inl x3), some (.inl ((b1 :: b2 :: r).length : Int)), some (.inl (i : Int))] [] J = zD (e + 2) 224 8 [some (.inr (some 240)), some (.inl 0), w2, some (.inl x3), some (.inl ((b :: r).length : Int)), some (.inl ((i + 1 : Nat) : Int))] [] J1 := by
  have hl2 : r.length + 2 ≤ 64 := hl
  obtain ⟨s1, s2, s3, s4, s5⟩ := hs
  rw [List.length_cons] at s1
  refine ⟨up K 28 r.length v, up J 263 r.length v, fun c j hc => up_c hc, fun c j hc => up_c hc, zst_push hv s5, by rw [List.length_cons]; omega, ?_, ?_⟩
  · refine (w_bin (m := r.length) hi h2 hl2 ht q1 q2).trans ?_
    rw [hc]; rfl
  · refine (m_bin (m := r.length) h3 h4 hl2 ho o0 o1 o9).trans ?_
    rw [← s1, ← s3, hm]; rfl
theorem work_st {d e : Nat} {K J : zI} {w1 w2 : Option zV} {x2 x3 t : Int} {i : Nat} {ts ts1 : List Bool} (hi : i < 400) (h2 : (i : Int) < x2) (h3 : (i : Int) < x3) (h4 : x3 ≤ 400) (hl : ts.length ≤ 64) (ht : K 26 i = t) (hk : RTok t (J 255 i) (J 256 i)) (hz : ztk t ts = some ts1) (hs : zst K J ts) (hf : zfc K J) (hp : t = 20047 → ∀ b r, ts = b :: r → K 28 r.length ≠ 0) :
    ∃ K1 J1 : zI, (∀ c j, c ≠ 28 → K1 c j = K c j) ∧ (∀ c j, c ≠ 263 → J1 c j = J c j) ∧ zst K1 J1 ts1 ∧ ts1.length ≤ 64 ∧ (0 ≤ t → t < 10000 → ∃ r, ts1 = false :: r ∧ K1 28 r.length = t) ∧
      zD (d + 2) 45 6 [some (.inr (some 20)), w1, some (.inl x2), some (.inl (ts.length : Int)), some (.inl (i : Int))] [] K = zD (d + 2) 45 6 [some (.inr (some 20)), w1, some (.inl x2), some (.inl (ts1.length : Int)), some (.inl ((i + 1 : Nat) : Int))] [] K1 ∧
      zD (e + 2) 224 8 [some (.inr (some 240)), some (.inl 0), w2, some (.inl x3), some (.inl (ts.length : Int)), some (.inl (i : Int))] [] J = zD (e + 2) 224 8 [some (.inr (some 240)), some (.inl 0), w2, some (.inl x3), some (.inl (ts1.length : Int)), some (.inl ((i + 1 : Nat) : Int))] [] J1 := by
  have bin : ∀ {o v : Int} {b b1 b2 : Bool} {r : List Bool}, ts = b1 :: b2 :: r → ts1 = b :: r → J 255 i = o → ¬ t = 10017 → 10010 < t → ¬ o = 0 → ¬ o = 1 → ¬ o = 9 → (b = true → v = 0 ∨ v = 1) → cl (d + 1) 46 [.inl t, .inl (K 28 r.length), .inl (K 28 (r.length + 1))] K = some (v, K) → cl (e + 1) 223 [.inr (some 240), .inl o, .inl (K 28 r.length), .inl (K 28 (r.length + 1))] J = some (v, J) → ∃ K1 J1 : zI, (∀ c j, c ≠ 28 → K1 c j = K c j) ∧ (∀ c j, c ≠ 263 → J1 c j = J c j) ∧ zst K1 J1 ts1 ∧ ts1.length ≤ 64 ∧ (0 ≤ t → t < 10000 → ∃ r, ts1 = false :: r ∧ K1 28 r.length = t) ∧
      zD (d + 2) 45 6 [some (.inr (some 20)), w1, some (.inl x2), some (.inl (ts.length : Int)), some (.inl (i : Int))] [] K = zD (d + 2) 45 6 [some (.inr (some 20)), w1, some (.inl x2), some (.inl (ts1.length : Int)), some (.inl ((i + 1 : Nat) : Int))] [] K1 ∧
      zD (e + 2) 224 8 [some (.inr (some 240)), some (.inl 0), w2, some (.inl x3), some (.inl (ts.length : Int)), some (.inl (i : Int))] [] J = zD (e + 2) 224 8 [some (.inr (some 240)), some (.inl 0), w2, some (.inl x3), some (.inl (ts1.length : Int)), some (.inl ((i + 1 : Nat) : Int))] [] J1 := by
    intro o v b b1 b2 r e1 e2 ho q1 q2 o0 o1 o9 hv hc hm
    subst e1 e2
    obtain ⟨K1, J1, g1, g2, g3, g4, g5, g6⟩ := work_bn (w1 := w1) (w2 := w2) hi h2 h3 h4 hl ht ho hs q1 q2 o0 o1 o9 hv hc hm
    exact ⟨K1, J1, g1, g2, g3, g4, fun _ q => absurd q (by omega), g5, g6⟩
  rcases hk with ⟨a1, a2, a3, a4⟩ | ⟨a1, a2, a3, a4⟩ | ⟨a1, a2⟩ | ⟨a1, a2⟩ | ⟨a1, a2⟩ | ⟨a1, a2⟩ | ⟨a1, a2⟩ | ⟨a1, a2⟩ | ⟨a1, a2⟩ | ⟨a1, a2⟩ | ⟨a1, a2⟩ | ⟨a1, a2⟩
  · obtain ⟨l1, rfl⟩ := ztk_push (by omega) hz
    refine ⟨up K 28 ts.length t, up J 263 ts.length t, fun c j hc => up_c hc, fun c j hc => up_c hc, zst_push (fun q => by cases q) hs, by rw [List.length_cons]; omega, fun _ _ => ⟨ts, rfl, up_s⟩, ?_, ?_⟩
    · exact w_push hi h2 l1 ht (Or.inl ⟨by omega, by omega, rfl⟩)
    · exact m_push h3 h4 l1 (Or.inl ⟨a1, a2⟩)
  · obtain ⟨l1, rfl⟩ := ztk_push (by omega) hz
    have hv : K 27 (t - 10000).toNat = J 262 (J 256 i).toNat := by
      rw [show (t - 10000).toNat = (J 256 i).toNat by omega]
      exact hf _ (by omega)
    refine ⟨up K 28 ts.length (K 27 (t - 10000).toNat), up J 263 ts.length (K 27 (t - 10000).toNat), fun c j hc => up_c hc, fun c j hc => up_c hc, zst_push (fun q => by cases q) hs, by rw [List.length_cons]; omega, fun _ q => absurd q (by omega), ?_, ?_⟩
    · exact w_push hi h2 l1 ht (Or.inr ⟨by omega, by omega, rfl⟩)
    · exact m_push h3 h4 l1 (Or.inr ⟨a1, a3, a4, hv⟩)
  · obtain ⟨r, e1, e2⟩ := ztk_ar (by omega) hz
    refine bin (v := wr (K 28 r.length + K 28 (r.length + 1))) e1 e2 a1 (by omega) (by omega) (by decide) (by decide) (by decide) (fun q => by cases q) ?_ ?_
    · rw [e_46, a2]; simp only [Int.reduceEq, if_false, if_true]
    · rw [e_223]; simp only [Int.reduceEq, if_false, if_true]
  · obtain ⟨r, e1, e2⟩ := ztk_ar (by omega) hz
    refine bin (v := wr (K 28 r.length - K 28 (r.length + 1))) e1 e2 a1 (by omega) (by omega) (by decide) (by decide) (by decide) (fun q => by cases q) ?_ ?_
    · rw [e_46, a2]; simp only [Int.reduceEq, if_false, if_true]
    · rw [e_223]; simp only [Int.reduceEq, if_false, if_true]
  · obtain ⟨r, e1, e2⟩ := ztk_ar (by omega) hz
    refine bin (v := wr (K 28 r.length * K 28 (r.length + 1))) e1 e2 a1 (by omega) (by omega) (by decide) (by decide) (by decide) (fun q => by cases q) ?_ ?_
    · rw [e_46, a2]; simp only [Int.reduceEq, if_false, if_true]
    · rw [e_223]; simp only [Int.reduceEq, if_false, if_true]
  · obtain ⟨r, e1, e2⟩ := ztk_ar (by omega) hz
    have hn : ¬ K 28 (r.length + 1) = 0 := hp a2 false (false :: r) e1
    refine bin (v := zdiv (K 28 r.length) (K 28 (r.length + 1))) e1 e2 a1 (by omega) (by omega) (by decide) (by decide) (by decide) (fun q => by cases q) ?_ ?_
    · rw [e_46, a2]; simp only [Int.reduceEq, if_false, if_true, if_neg hn]
    · rw [e_223]; simp only [Int.reduceEq, if_false, if_true, if_neg hn]
  · obtain ⟨r, e1, e2⟩ := ztk_cmp (by omega) hz
    refine bin (v := if K 28 r.length < K 28 (r.length + 1) then 1 else 0) e1 e2 a1 (by omega) (by omega) (by decide) (by decide) (by decide) (fun q => by split <;> simp) ?_ ?_
    · rw [e_46, a2]; simp only [Int.reduceEq, if_false, if_true]; split <;> rfl
    · rw [e_223]; simp only [Int.reduceEq, if_false, if_true]; split <;> rfl
  · obtain ⟨r, e1, e2⟩ := ztk_cmp (by omega) hz
    refine bin (v := if K 28 r.length = K 28 (r.length + 1) then 1 else 0) e1 e2 a1 (by omega) (by omega) (by decide) (by decide) (by decide) (fun q => by split <;> simp) ?_ ?_
    · rw [e_46, a2]; simp only [Int.reduceEq, if_false, if_true]; split <;> rfl
    · rw [e_223]; simp only [Int.reduceEq, if_false, if_true]; split <;> rfl
  · obtain ⟨r, e1, e2⟩ := ztk_cmp (by omega) hz
    refine bin (v := if K 28 (r.length + 1) < K 28 r.length then 1 else 0) e1 e2 a1 (by omega) (by omega) (by decide) (by decide) (by decide) (fun q => by split <;> simp) ?_ ?_
    · rw [e_46, a2]; simp only [Int.reduceEq, if_false, if_true]; split <;> rfl
    · rw [e_223]; simp only [Int.reduceEq, if_false, if_true]; split <;> rfl
  · obtain ⟨r, rfl, rfl⟩ := ztk_not a2 hz
    have hl2 : r.length < 64 := hl
    have hv : wr (1 - J 263 r.length) = (if K 28 r.length = 0 then 1 else 0) := by
      rw [← hs.1]
      rcases hs.2.1 rfl with q | q <;> rw [q] <;> decide +kernel
    refine ⟨up K 28 r.length (if K 28 r.length = 0 then 1 else 0), up J 263 r.length (if K 28 r.length = 0 then 1 else 0), fun c j hc => up_c hc, fun c j hc => up_c hc, zst_push (fun _ => by split <;> simp) hs.2.2, hl, fun _ q => absurd q (by omega), ?_, ?_⟩
    · exact w_not (m := r.length) hi h2 hl2 (by rw [ht, a2])
    · refine (m_not (m := r.length) h3 h4 hl2 a1).trans ?_
      rw [hv]
      rfl
  · obtain ⟨r, e1, e2⟩ := ztk_bb (by omega) hz
    have s := hs
    rw [e1] at s
    have x1 := s.2.1 rfl
    have x2 := s.2.2.2.1 rfl
    rw [List.length_cons] at x1
    refine bin (v := zand (K 28 r.length) (K 28 (r.length + 1))) e1 e2 a1 (by omega) (by omega) (by decide) (by decide) (by decide) (fun _ => ?_) ?_ ?_
    · rcases x1 with q | q <;> rcases x2 with p | p <;> rw [q, p] <;> decide +kernel
    · rw [e_46, a2]; simp only [Int.reduceEq, if_false, if_true]
    · rw [e_223]; simp only [Int.reduceEq, if_false, if_true]
      rcases x1 with q | q <;> rcases x2 with p | p <;> rw [q, p] <;> rfl
  · obtain ⟨r, e1, e2⟩ := ztk_bb (by omega) hz
    have s := hs
    rw [e1] at s
    have x1 := s.2.1 rfl
    have x2 := s.2.2.2.1 rfl
    rw [List.length_cons] at x1
    refine bin (v := zor (K 28 r.length) (K 28 (r.length + 1))) e1 e2 a1 (by omega) (by omega) (by decide) (by decide) (by decide) (fun _ => ?_) ?_ ?_
    · rcases x1 with q | q <;> rcases x2 with p | p <;> rw [q, p] <;> decide +kernel
    · rw [e_46, a2]; simp only [Int.reduceEq, if_false, if_true]
    · rw [e_223]; simp only [Int.reduceEq, if_false, if_true]
      rcases x1 with q | q <;> rcases x2 with p | p <;> rw [q, p] <;> rfl
theorem work_in {d e : Nat} {w1 w2 : Option zV} {x2 x3 : Int} {f : Nat → Int} (h4 : x3 ≤ 400) : ∀ (k i : Nat) (ts tf : List Bool) (K J : zI), i + k ≤ 400 → ((i + k : Nat) : Int) ≤ x2 → ((i + k : Nat) : Int) ≤ x3 → K 26 = f → ts.length ≤ 64 → (∀ i', i ≤ i' → i' < i + k → RTok (f i') (J 255 i') (J 256 i') ∧ (f i' = 20047 → 0 < f (i' - 1) ∧ f (i' - 1) < 10000)) → ztc f k i ts = some tf → zst K J ts → zfc K J → (0 < k → f i = 20047 → ∀ b r, ts = b :: r → K 28 r.length ≠ 0) →
    ∃ K' J' : zI, (∀ c j, c ≠ 28 → K' c j = K c j) ∧ (∀ c j, c ≠ 263 → J' c j = J c j) ∧ zst K' J' tf ∧
      zD (d + 2) 45 6 [some (.inr (some 20)), w1, some (.inl x2), some (.inl (ts.length : Int)), some (.inl (i : Int))] [] K = zD (d + 2) 45 6 [some (.inr (some 20)), w1, some (.inl x2), some (.inl (tf.length : Int)), some (.inl ((i + k : Nat) : Int))] [] K' ∧
      zD (e + 2) 224 8 [some (.inr (some 240)), some (.inl 0), w2, some (.inl x3), some (.inl (ts.length : Int)), some (.inl (i : Int))] [] J = zD (e + 2) 224 8 [some (.inr (some 240)), some (.inl 0), w2, some (.inl x3), some (.inl (tf.length : Int)), some (.inl ((i + k : Nat) : Int))] [] J' := by
  intro k
  induction k with
  | zero =>
    intro i ts tf K J _ _ _ _ _ _ hz hs _ _
    injection hz with hz
    subst hz
    exact ⟨K, J, fun _ _ _ => rfl, fun _ _ _ => rfl, hs, rfl, rfl⟩
  | succ k ih =>
    intro i ts tf K J h1 h2 h3 hK hl hT hz hs hf hp
    rw [ztc] at hz
    cases hq : ztk (f i) ts with
    | none => rw [hq] at hz; cases hz
    | some ts1 =>
      rw [hq, Option.bind_some] at hz
      have ti := hT i (by omega) (by omega)
      obtain ⟨K1, J1, g1, g2, g3, g4, g5, g6, g7⟩ := work_st (d := d) (e := e) (w1 := w1) (w2 := w2) (x2 := x2) (x3 := x3) (i := i) (ts := ts) (K := K) (J := J) (by omega) (by omega) (by omega) h4 hl (by rw [hK]) ti.1 hq hs hf (fun q => hp (by omega) q)
      have hK1 : K1 26 = f := by rw [← hK]; funext j; exact g1 26 j (by decide)
      have hf1 : zfc K1 J1 := fun j hj => by rw [g1 27 j (by decide), g2 262 j (by decide)]; exact hf j hj
      obtain ⟨K', J', a1, a2, a3, a4, a5⟩ := ih (i + 1) ts1 tf K1 J1 (by omega) (by omega) (by omega) hK1 g4 (fun i' q1 q2 => by rw [g2 255 i' (by decide), g2 256 i' (by decide)]; exact hT i' (by omega) (by omega)) hz g3 hf1 (fun k0 q b r e1 => by
        have t2 := (hT (i + 1) (by omega) (by omega)).2 q
        rw [Nat.add_sub_cancel] at t2
        obtain ⟨r', e2, e3⟩ := g5 (by omega) t2.2
        rw [e2] at e1
        injection e1 with _ e1
        rw [← e1, e3]
        omega)
      refine ⟨K', J', fun c j hc => by rw [a1 c j hc, g1 c j hc], fun c j hc => by rw [a2 c j hc, g2 c j hc], a3, ?_, ?_⟩
      · rw [g6, a4, show i + 1 + k = i + (k + 1) by omega]
      · rw [g7, a5, show i + 1 + k = i + (k + 1) by omega]
theorem work_ok {d e : Nat} {K J : zI} {fr to : Nat} {b : Bool} (h1 : fr ≤ to) (h2 : to ≤ 400) (hT : ∀ i, fr ≤ i → i < to → RTok (K 26 i) (J 255 i) (J 256 i) ∧ (K 26 i = 20047 → 0 < K 26 (i - 1) ∧ K 26 (i - 1) < 10000)) (hz : ztc (K 26) (to - fr) fr [] = some [b]) (hf : zfc K J) :
    ∃ (v : Int) (K' J' : zI), (∀ c j, c ≠ 28 → K' c j = K c j) ∧ (∀ c j, c ≠ 263 → J' c j = J c j) ∧ cl (d + 3) 45 [.inr (some 20), .inl (fr : Int), .inl (to : Int)] K = some (v, K') ∧ cl (e + 3) 224 [.inr (some 240), .inl 0, .inl (fr : Int), .inl (to : Int)] J = some (v, J') := by
  obtain ⟨K', J', a1, a2, a3, a4, a5⟩ := work_in (d := d + 1) (e := e + 1) (w1 := some (.inl (fr : Int))) (w2 := some (.inl (fr : Int))) (x2 := (to : Int)) (x3 := (to : Int)) (f := K 26) (by omega) (to - fr) fr [] [b] K J (by omega) (by omega) (by omega) rfl (by decide) (fun i' q1 q2 => hT i' q1 (by omega)) hz trivial hf (fun _ _ b r q => by cases q)
  rw [show fr + (to - fr) = to by omega] at a4 a5
  refine ⟨K' 28 0, K', J', a1, a2, ?_, ?_⟩
  · rw [e_45, s_295, Option.bind_some, show max (0 : Int) (fr : Int) = (fr : Int) by omega]
    refine a4.trans ?_
    rw [e_45_6, if_neg (by omega), if_pos (show (0 : Int) < (([b] : List Bool).length : Int) from Int.zero_lt_one)]
  · rw [e_224, m_x (by omega) (by omega)]
    refine a5.trans ?_
    rw [e_224_8, m_x (by omega) (by omega), if_neg (by omega)]
    exact congrArg (fun v => some (v, J')) a3.1.symm
theorem ln_E {d e : Nat} {K J : zI} {l : Nat} (r : RLine K J 20 l) (hf : zfc K J) : ∃ (v : Int) (K' J' : zI), (∀ c j, c ≠ 28 → K' c j = K c j) ∧ (∀ c j, c ≠ 263 → J' c j = J c j) ∧ cl (d + 3) 45 [.inr (some 20), .inl (K 23 l), .inl (K 24 l)] K = some (v, K') ∧ cl (e + 3) 224 [.inr (some 240), .inl 0, .inl (J 252 l), .inl (J 253 l)] J = some (v, J') := by
  obtain ⟨r1, r2, r3, r4, r5, r6, r7, r8⟩ := r
  simp only [Nat.reduceAdd] at r1 r2 r3 r4 r5 r6 r7 r8
  obtain ⟨v, K', J', a1, a2, a3, a4⟩ := work_ok (d := d) (e := e) (K := K) (J := J) (fr := (K 23 l).toNat) (to := (K 24 l).toNat) (b := false) (by omega) (by omega) (fun i q1 q2 => r6 i (by omega) (by omega)) (by rw [← r7]; congr 1; omega) hf
  rw [show (((K 23 l).toNat : Nat) : Int) = K 23 l by omega, show (((K 24 l).toNat : Nat) : Int) = K 24 l by omega] at a3 a4
  rw [r2, r3]
  exact ⟨v, K', J', a1, a2, a3, a4⟩
theorem ln_B {d e : Nat} {K J : zI} {l : Nat} (r : RLine K J 20 l) (hf : zfc K J) (hn : ¬ K 24 l = K 25 l) : ∃ (v : Int) (K' J' : zI), (∀ c j, c ≠ 28 → K' c j = K c j) ∧ (∀ c j, c ≠ 263 → J' c j = J c j) ∧ cl (d + 3) 45 [.inr (some 20), .inl (K 24 l), .inl (K 25 l)] K = some (v, K') ∧ cl (e + 3) 224 [.inr (some 240), .inl 0, .inl (J 253 l), .inl (J 254 l)] J = some (v, J') := by
  obtain ⟨r1, r2, r3, r4, r5, r6, r7, r8⟩ := r
  simp only [Nat.reduceAdd] at r1 r2 r3 r4 r5 r6 r7 r8
  rcases r8 with r8 | r8
  · exact absurd r8 hn
  obtain ⟨v, K', J', a1, a2, a3, a4⟩ := work_ok (d := d) (e := e) (K := K) (J := J) (fr := (K 24 l).toNat) (to := (K 25 l).toNat) (b := true) (by omega) (by omega) (fun i q1 q2 => r6 i (by omega) (by omega)) (by rw [← r8]; congr 1; omega) hf
  rw [show (((K 24 l).toNat : Nat) : Int) = K 24 l by omega, show (((K 25 l).toNat : Nat) : Int) = K 25 l by omega] at a3 a4
  rw [r3, r4]
  exact ⟨v, K', J', a1, a2, a3, a4⟩
/-- what is told without a line -/
def zdf (w : Nat) (K : zI) : Int := if w = 0 then wr (1 + K 27 4) else if w = 1 then wr (300 - wr (30 * K 27 0)) else wr (20 * K 27 3)
theorem zdf_cg {w : Nat} {K K' : zI} (h : ∀ c j, c ≠ 28 → K' c j = K c j) : zdf w K' = zdf w K := by
  unfold zdf
  rw [h 27 4 (by decide), h 27 0 (by decide), h 27 3 (by decide)]
theorem RLaw_w {K J K' J' : zI} (h : ∀ c j, c ≠ 28 → K' c j = K c j) (h2 : ∀ c j, c ≠ 263 → J' c j = J c j) (r : RLaw K J 20) : RLaw K' J' 20 :=
  RLaw_cg (h 21 4 (by decide)) (fun k h1 h3 => funext fun j => h k j (by omega)) (h2 250 0 (by decide)) (fun l _ => ⟨h2 251 l (by decide), h2 252 l (by decide), h2 253 l (by decide), h2 254 l (by decide)⟩) (fun i _ => ⟨h2 255 i (by decide), h2 256 i (by decide)⟩) r
theorem tell_in {d e w : Nat} {wl : Int} (hw : w ≤ 2) (hwl : wl = 10011 + (w : Int)) : ∀ (m l : Nat) (K J : zI), RLaw K J 20 → zfc K J → ((l + m : Nat) : Int) = K 21 4 →
    ∃ (r : Int) (K' J' : zI), (∀ c j, c ≠ 28 → K' c j = K c j) ∧ (∀ c j, c ≠ 263 → J' c j = J c j) ∧ zD (d + 4) 44 2 [some (.inr (some 20)), some (.inl wl), some (.inl (l : Int))] [] K = some (r, K') ∧
      ((zD (e + 4) 225 2 [some (.inr (some 240)), some (.inl (w : Int)), some (.inl (l : Int))] [] J = some (-1, J') ∧ r = zdf w K) ∨
        ∃ (l2 : Nat) (J1 : zI), l2 < 16 ∧ zD (e + 4) 225 2 [some (.inr (some 240)), some (.inl (w : Int)), some (.inl (l : Int))] [] J = some ((l2 : Int), J1) ∧ cl (e + 4) 224 [.inr (some 240), .inl 0, .inl (J1 252 l2), .inl (J1 253 l2)] J1 = some (r, J')) := by
  intro m
  induction m with
  | zero =>
    intro l K J hL hf hl
    refine ⟨zdf w K, K, J, fun _ _ _ => rfl, fun _ _ _ => rfl, ?_, Or.inl ⟨?_, rfl⟩⟩
    · rw [e_44_2, if_neg (by omega)]
      unfold zdf
      by_cases w0 : w = 0
      · rw [if_pos (by omega), if_pos w0, s_42 (by decide) (by decide)]
        rfl
      · by_cases w1 : w = 1
        · rw [if_neg (by omega), if_pos (by omega), if_neg w0, if_pos w1, s_42 (by decide) (by decide)]
          rfl
        · rw [if_neg (by omega), if_neg (by omega), if_neg w0, if_neg w1, s_42 (by decide) (by decide)]
          rfl
    · rw [e_225_2, if_neg (by have := hL.1.1; simp only [Nat.reduceAdd] at this; omega)]
  | succ m ih =>
    intro l K J hL hf hl
    have h0 := hL.1
    simp only [Nat.reduceAdd] at h0
    have hr := hL.2 l (by simp only [Nat.reduceAdd]; omega)
    have i16 : 0 ≤ (l : Int) ∧ (l : Int) < 16 := by omega
    have i48 : 0 ≤ (l : Int) ∧ (l : Int) < 48 := by omega
    have E1 := e_44_2 (d := d + 3) (I := K) (x1 := wl) (x2 := (l : Int))
    rw [if_pos (by omega)] at E1
    simp only [if_pos i16, Int.toNat_natCast] at E1
    have E2 := e_225_2 (d := e + 3) (I := J) (x1 := (w : Int)) (x2 := (l : Int))
    rw [if_pos (by omega)] at E2
    simp only [if_pos i48, Int.toNat_natCast] at E2
    rw [wr_id (z := (l : Int) + 1) (by omega) (by omega), ← zk1c] at E1 E2
    obtain ⟨⟨r1, r1b⟩, r2, r3, r4, _⟩ := id hr
    simp only [Nat.reduceAdd] at r1 r2 r3 r4
    by_cases hq : J 251 l = (w : Int)
    · rw [if_pos (by omega)] at E1
      rw [if_pos hq, r3, r4] at E2
      by_cases hn : K 24 l = K 25 l
      · rw [if_pos hn] at E1 E2
        obtain ⟨v, K', J', a1, a2, a3, a4⟩ := ln_E (d := d) (e := e + 1) hr hf
        refine ⟨v, K', J', a1, a2, by rw [E1, a3]; rfl, Or.inr ⟨l, J, by omega, E2, a4⟩⟩
      · rw [if_neg hn] at E1 E2
        obtain ⟨v, K1, J1, a1, a2, a3, a4⟩ := ln_B (d := d) (e := e) hr hf hn
        rw [r3, r4] at a4
        rw [a3, Option.bind_some] at E1
        rw [a4, Option.bind_some] at E2
        have hL1 := RLaw_w a1 a2 hL
        have hf1 : zfc K1 J1 := fun j hj => by rw [a1 27 j (by decide), a2 262 j (by decide)]; exact hf j hj
        by_cases hv : v = 0
        · rw [if_pos hv] at E1 E2
          obtain ⟨r, K', J', b1, b2, b3, b4⟩ := ih (l + 1) K1 J1 hL1 hf1 (by rw [a1 21 4 (by decide)]; omega)
          refine ⟨r, K', J', fun c j hc => by rw [b1 c j hc, a1 c j hc], fun c j hc => by rw [b2 c j hc, a2 c j hc], E1.trans b3, ?_⟩
          rw [E2, ← zdf_cg (w := w) a1]
          exact b4
        · rw [if_neg hv] at E1 E2
          obtain ⟨v2, K', J', b1, b2, b3, b4⟩ := ln_E (d := d) (e := e + 1) (hL1.2 l (by simp only [Nat.reduceAdd]; rw [a1 21 4 (by decide)]; omega)) hf1
          refine ⟨v2, K', J', fun c j hc => by rw [b1 c j hc, a1 c j hc], fun c j hc => by rw [b2 c j hc, a2 c j hc], ?_, Or.inr ⟨l, J1, by omega, E2, b4⟩⟩
          rw [E1, ← a1 24 l (by decide), b3]
          rfl
    · rw [if_neg (by omega)] at E1
      rw [if_neg hq] at E2
      obtain ⟨r, K', J', b1, b2, b3, b4⟩ := ih (l + 1) K J hL hf (by omega)
      refine ⟨r, K', J', b1, b2, E1.trans b3, ?_⟩
      rw [E2]
      exact b4
/-- what the law tells, and what the model's asks of it -/
theorem tell_ok {d e w : Nat} {wl wo mo : Int} {K J : zI} (hw : w ≤ 2) (hwl : wl = 10011 + (w : Int)) (hL : RLaw K J 20) (hf : zfc K J) (ho : wo = zdf w K) :
    ∃ (r : Int) (K' J' : zI), (∀ c j, c ≠ 28 → K' c j = K c j) ∧ (∀ c j, c ≠ 263 → J' c j = J c j) ∧ cl (d + 4) 44 [.inr (some 20), .inl wl] K = some (r, K') ∧ cl (e + 5) 228 [.inr (some 240), .inl (w : Int), .inl wo, .inl mo] J = some (if r < 0 then 0 else if mo < r then mo else r, J') := by
  have h0 := hL.1
  simp only [Nat.reduceAdd] at h0
  obtain ⟨r, K', J', b1, b2, b3, b4⟩ := tell_in (d := d) (e := e) hw hwl (K 21 4).toNat 0 K J hL hf (by omega)
  refine ⟨r, K', J', b1, b2, by rw [e_44]; exact b3, ?_⟩
  rw [e_228, e_225]
  rcases b4 with ⟨c1, c2⟩ | ⟨l2, J1, c1, c2, c3⟩
  · refine (congrArg (fun o => Option.bind o _) c1).trans ?_
    rw [Option.bind_some, if_pos rfl, s_159, ho, ← c2]
    rfl
  · refine (congrArg (fun o => Option.bind o _) c2).trans ?_
    have i48 : 0 ≤ (l2 : Int) ∧ (l2 : Int) < 48 := by omega
    rw [Option.bind_some, if_neg (by omega)]
    simp only [if_pos i48, Int.toNat_natCast]
    rw [c3, Option.bind_some, s_159]
    rfl
