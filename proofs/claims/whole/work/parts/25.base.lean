/-! WHAT THE SMALL METHODS ANSWER -/
theorem s_156 {d : Nat} {I : zI} {x lo hi : Int} : cl (d + 1) 156 [.inl x, .inl lo, .inl hi] I = some (if lo ≤ x ∧ x ≤ hi then 1 else 0, I) := by
  rw [e_156]
  (repeat' split) <;> first | rfl | (exfalso; omega)
theorem s_158 {d : Nat} {I : zI} {x lo hi : Int} : cl (d + 1) 158 [.inr (some 240), .inl x, .inl lo, .inl hi] I = some (if lo ≤ x ∧ x ≤ hi then 1 else 0, I) := by
  rw [e_158]
  (repeat' split) <;> first | rfl | (exfalso; omega)
theorem s_159 {d : Nat} {I : zI} {x lo hi : Int} : cl (d + 1) 159 [.inr (some 240), .inl x, .inl lo, .inl hi] I = some (if x < lo then lo else if hi < x then hi else x, I) := by
  rw [e_159]
  (repeat' split) <;> first | rfl | (exfalso; omega)
theorem s_160 {d : Nat} {I : zI} {x y : Int} : cl (d + 1) 160 [.inr (some 240), .inl x, .inl y] I = some (max x y, I) := by
  rw [e_160, Int.max_def]
  (repeat' split) <;> first | rfl | (exfalso; omega)
theorem s_161 {d : Nat} {I : zI} {x y : Int} : cl (d + 1) 161 [.inr (some 240), .inl x, .inl y] I = some (min x y, I) := by
  rw [e_161, Int.min_def]
  (repeat' split) <;> first | rfl | (exfalso; omega) | (congr 2; omega)
theorem s_162 {d : Nat} {I : zI} {x : Int} : cl (d + 1) 162 [.inr (some 240), .inl x] I = some (if x < 0 then wr (-x) else x, I) := by
  rw [e_162]
  (repeat' split) <;> rfl
theorem s_294 {d : Nat} {I : zI} {x : Int} : cl (d + 1) 294 [.inl x] I = some (if x < 0 then wr (-x) else x, I) := by
  rw [e_294]
  (repeat' split) <;> rfl
theorem s_295 {d : Nat} {I : zI} {x y : Int} : cl (d + 1) 295 [.inl x, .inl y] I = some (max x y, I) := by
  rw [e_295, Int.max_def]
  (repeat' split) <;> first | rfl | (exfalso; omega) | (congr 2; omega)
theorem s_296 {d : Nat} {I : zI} {x y : Int} : cl (d + 1) 296 [.inl x, .inl y] I = some (min x y, I) := by
  rw [e_296, Int.min_def]
  (repeat' split) <;> first | rfl | (exfalso; omega) | (congr 2; omega)
theorem s_22 {d a : Nat} {I : zI} {x : Int} (ha : zFirm a) : cl (d + 1) 22 [.inr (some a), .inl x] I = some (if 0 ≤ x ∧ x < I a 3 ∧ x < 14 then 1 else 0, I) := by
  rw [e_22 ha]
  (repeat' split) <;> first | rfl | (exfalso; omega)
theorem s_23 {d a : Nat} {I : zI} {x : Int} (ha : zFirm a) : cl (d + 1) 23 [.inr (some a), .inl x] I = some (if 0 ≤ x ∧ x < I a 4 ∧ x < 10 then 1 else 0, I) := by
  rw [e_23 ha]
  (repeat' split) <;> first | rfl | (exfalso; omega)
theorem s_24 {d a : Nat} {I : zI} {x : Int} (ha : zFirm a) : cl (d + 1) 24 [.inr (some a), .inl x] I = some (if 0 ≤ x ∧ x < I a 5 ∧ x < 12 then 1 else 0, I) := by
  rw [e_24 ha]
  (repeat' split) <;> first | rfl | (exfalso; omega)
theorem s_172 {d : Nat} {I : zI} {x : Int} : cl (d + 1) 172 [.inr (some 240), .inl x] I = some (if 0 ≤ x ∧ x < I 240 6 then 1 else 0, I) := by
  rw [e_172]
  (repeat' split) <;> first | rfl | (exfalso; omega)
theorem s_173 {d : Nat} {I : zI} {x : Int} : cl (d + 1) 173 [.inr (some 240), .inl x] I = some (if 0 ≤ x ∧ x < I 240 7 then 1 else 0, I) := by
  rw [e_173]
  (repeat' split) <;> first | rfl | (exfalso; omega)
theorem s_174 {d : Nat} {I : zI} {x : Int} : cl (d + 1) 174 [.inr (some 240), .inl x] I = some (if 0 ≤ x ∧ x < I 240 8 then 1 else 0, I) := by
  rw [e_174]
  (repeat' split) <;> first | rfl | (exfalso; omega)
theorem s_50 {d : Nat} {I : zI} : cl (d + 1) 50 [.inr (some 119)] I = some (0, up I 119 3 0) := e_50
theorem s_79 {d a : Nat} {I : zI} (ha : zRow a) : cl (d + 1) 79 [.inr (some a)] I = some (0, up I a 2 0) := e_79 ha
theorem s_78 {d a : Nat} {I : zI} {v lo hi : Int} (ha : zRow a) (h0 : 0 ≤ I a 2) (h1 : I a 1 ≤ 12) : cl (d + 2) 78 [.inr (some a), .inl v, .inl lo, .inl hi] I =
    if lo ≤ v ∧ v ≤ hi ∧ I a 2 < I a 1 then some (I a 2 + 1, up (up I (a + 1) (I a 2).toNat v) a 2 (I a 2 + 1)) else some (-1, I) := by
  rw [e_78 ha, s_156]
  simp only [Option.bind_some, b01]
  by_cases h : lo ≤ v ∧ v ≤ hi
  · by_cases h2 : I a 2 < I a 1
    · rw [if_neg (by simp [h]), if_neg (by omega), if_pos h2, if_pos (by omega), if_pos (by omega), wr_id (by omega) (by omega)]
    · rw [if_neg (by simp [h]), if_neg (by omega), if_neg h2, if_neg (by omega)]
  · rw [if_pos h, if_neg (by omega)]
/-- is v in a row, from place n on -/
def zhas (f : Nat → Int) (v : Int) : Nat → Nat → Bool
  | 0, _ => false
  | k + 1, n => decide (f n = v) || zhas f v k (n + 1)
theorem zhas_iff {f : Nat → Int} {v : Int} : ∀ (k n : Nat), zhas f v k n = true ↔ ∃ j, n ≤ j ∧ j < n + k ∧ f j = v
  | 0, n => by simp [zhas]; intro j h1 h2; omega
  | k + 1, n => by
    rw [zhas, Bool.or_eq_true, decide_eq_true_eq, zhas_iff k (n + 1)]
    constructor
    · rintro (h | ⟨j, h1, h2, h3⟩)
      · exact ⟨n, by omega, by omega, h⟩
      · exact ⟨j, by omega, by omega, h3⟩
    · rintro ⟨j, h1, h2, h3⟩
      by_cases hj : j = n
      · subst hj; exact Or.inl h3
      · exact Or.inr ⟨j, by omega, by omega, h3⟩
theorem s_80 {d a : Nat} {I : zI} {v : Int} (ha : zRow a) (h1 : I a 2 ≤ 12) : cl (d + 1) 80 [.inr (some a), .inl v] I = some (if zhas (I (a + 1)) v (I a 2).toNat 0 = true then 1 else 0, I) := by
  rw [e_80 ha]
  have key : ∀ (k n : Nat), (n : Int) + k = max (I a 2) n → zD (d + 1) 80 2 [some (.inr (some a)), some (.inl v), some (.inl (n : Int))] [] I = some (if zhas (I (a + 1)) v k n = true then 1 else 0, I) := by
    intro k
    induction k with
    | zero =>
      intro n hn
      rw [e_80_2 ha, if_neg (by omega)]
      rfl
    | succ k ih =>
      intro n hn
      rw [e_80_2 ha, if_pos (by omega), if_pos (by omega), Int.toNat_natCast, zhas]
      by_cases hv : I (a + 1) n = v
      · rw [if_pos hv]; simp [hv]
      · rw [if_neg hv, wr_id (by omega) (by omega)]
        have h := ih (n + 1) (by omega)
        rw [show ((n + 1 : Nat) : Int) = (n : Int) + 1 by omega] at h
        rw [h]
        simp [hv]
  have h := key (I a 2).toNat 0 (by omega)
  simpa using h
