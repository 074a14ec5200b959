/-! THE RELATION OF A DESK, CARRIED TO ANOTHER PLACE -/
theorem RFirm_p2 {I I' M M' : zI} {a a' : Nat} {hb : Int} (h0 : ∀ j, j < 6 → I' a' j = I a j) (h14 : ∀ k j, 1 ≤ k → k ≤ 4 → j < 14 → I' (a' + k) j = I (a + k) j) (h10 : ∀ k j, 5 ≤ k → k ≤ 9 → j < 10 → I' (a' + k) j = I (a + k) j) (h12 : ∀ k j, 10 ≤ k → k ≤ 12 → j < 12 → I' (a' + k) j = I (a + k) j)
    (m1 : ∀ j, j < 110 → M' 241 j = M 241 j) (m4 : ∀ j, j < 14 → M' 244 j = M 244 j) (m5 : ∀ j, j < 10 → M' 245 j = M 245 j) (m6 : ∀ j, j < 12 → M' 246 j = M 246 j) (n6 : M' 240 6 = M 240 6) (n7 : M' 240 7 = M 240 7) (n8 : M' 240 8 = M 240 8) (r : RFirm I M a hb) : RFirm I' M' a' hb := by
  obtain ⟨⟨f1, f1a, f1b⟩, ⟨f2, f2a, f2b⟩, ⟨f3, f3a, f3b⟩, f4, f5, f6, f7, f8, f9⟩ := r
  have e3 := h0 3 (by decide)
  have e4 := h0 4 (by decide)
  have e5 := h0 5 (by decide)
  refine ⟨?_, ?_, ?_, ?_, ?_, ?_, fun p hp => ?_, fun p hp => ?_, fun p hp => ?_⟩
  · rw [e3, n6]; exact ⟨f1, f1a, f1b⟩
  · rw [e4, n7]; exact ⟨f2, f2a, f2b⟩
  · rw [e5, n8]; exact ⟨f3, f3a, f3b⟩
  · rw [h0 0 (by decide), m1 1 (by decide)]; exact f4
  · rw [h0 1 (by decide), m1 3 (by decide)]; exact f5
  · rw [h0 2 (by decide), m1 0 (by decide)]; exact f6
  · rw [e3] at hp
    rw [h14 1 p (by decide) (by decide) (by omega), h14 2 p (by decide) (by decide) (by omega), h14 3 p (by decide) (by decide) (by omega), h14 4 p (by decide) (by decide) (by omega), m4 p (by omega), m1 (4 + p) (by omega), m1 (18 + p) (by omega), m1 (32 + p) (by omega)]
    exact f7 p hp
  · rw [e4] at hp
    rw [h10 5 p (by decide) (by decide) (by omega), h10 6 p (by decide) (by decide) (by omega), h10 7 p (by decide) (by decide) (by omega), h10 8 p (by decide) (by decide) (by omega), h10 9 p (by decide) (by decide) (by omega), e3, e5, m5 p (by omega), m1 (46 + p) (by omega), m1 (56 + p) (by omega), m1 (66 + p) (by omega), m1 (76 + p) (by omega)]
    exact f8 p hp
  · rw [e5] at hp
    rw [h12 10 p (by decide) (by decide) (by omega), h12 11 p (by decide) (by decide) (by omega), h12 12 p (by decide) (by decide) (by omega), e4, m6 p (by omega), m1 (86 + p) (by omega), m1 (98 + p) (by omega)]
    exact f9 p hp
theorem ztc_cg {f g : Nat → Int} : ∀ (k i : Nat) (ts : List Bool), (∀ j, i ≤ j → j < i + k → f j = g j) → ztc f k i ts = ztc g k i ts
  | 0, _, _, _ => rfl
  | k + 1, i, ts, h => by
    rw [ztc, ztc, h i (by omega) (by omega)]
    cases ztk (g i) ts with
    | none => rfl
    | some ts1 => exact ztc_cg k (i + 1) ts1 fun j h1 h2 => h j (by omega) (by omega)
theorem zlast_cg {f g s r : Nat → Int} {b df : Int} : ∀ n, (∀ j, j < n → f j = g j ∧ s j = r j) → zlast f s b df n = zlast g r b df n
  | 0, _ => rfl
  | n + 1, h => by rw [zlast, zlast, (h n (by omega)).1, (h n (by omega)).2, zlast_cg n fun j hj => h j (by omega)]
theorem zset_cg {f g s r : Nat → Int} {b : Int} : ∀ n, (∀ j, j < n → f j = g j ∧ s j = r j) → zset f s b n = zset g r b n
  | 0, _ => rfl
  | n + 1, h => by rw [zset, zset, (h n (by omega)).1, (h n (by omega)).2, zset_cg n fun j hj => h j (by omega)]
theorem zhas_cg {f g : Nat → Int} {v : Int} : ∀ (k n : Nat), (∀ j, n ≤ j → j < n + k → f j = g j) → zhas f v k n = zhas g v k n
  | 0, _, _ => rfl
  | k + 1, n, h => by rw [zhas, zhas, h n (by omega) (by omega), zhas_cg k (n + 1) fun j h1 h2 => h j (by omega) (by omega)]
theorem RRow_p {I I' M M' : zI} {c c' cnt arr : Nat} {lim lo hi : Int} (hl : lim ≤ 12) (h2 : I' c' 2 = I c 2) (h3 : ∀ j, j < 12 → I' (c' + 1) j = I (c + 1) j) (m1 : M' 240 cnt = M 240 cnt) (m2 : ∀ j : Nat, (j : Int) < lim → M' arr j = M arr j) (h : RRow I M c cnt arr lim lo hi) : RRow I' M' c' cnt arr lim lo hi := by
  obtain ⟨r1, r2, r3, r4⟩ := h
  refine ⟨by omega, by omega, by omega, fun j hj => ?_⟩
  rw [h2] at hj
  rw [h3 j (by omega), m2 j (by omega)]
  exact r4 j hj
theorem RDk_p {K K' M M' : zI} {t s : Nat} (hK : ∀ c j, vD c j → K' (t + c) j = K (s + c) j) (hM : ∀ c j, vM c j → M' c j = M c j) (r : RDk K M (s + 2) (s + 15) (s + 20) (s + 29) (s + 34) (s + 39) (s + 44) (s + 46) (s + 48) (s + 50) (s + 52) (s + 54) (s + 56) (s + 58)) : RDk K' M' (t + 2) (t + 15) (t + 20) (t + 29) (t + 34) (t + 39) (t + 44) (t + 46) (t + 48) (t + 50) (t + 52) (t + 54) (t + 56) (t + 58) := by
  obtain ⟨r1, r2, r3, r4, r5, r6, r7, r8, r9, r10, r11, r12, r13, r14⟩ := r
  have cnt : ∀ j, (j = 6 ∨ j = 7 ∨ j = 8 ∨ j = 36 ∨ j = 38 ∨ j = 41 ∨ j = 47 ∨ j = 51 ∨ j = 57 ∨ j = 58 ∨ j = 59 ∨ j = 62 ∨ j = 64 ∨ j = 66 ∨ j = 69) → M' 240 j = M 240 j := fun j hj => hM 240 j (Or.inr (Or.inl ⟨rfl, hj⟩))
  have row : ∀ c, (c = 44 ∨ c = 46 ∨ c = 50 ∨ c = 52 ∨ c = 54 ∨ c = 56 ∨ c = 58) → K' (t + c) 2 = K (s + c) 2 ∧ ∀ j, j < 12 → K' (t + c + 1) j = K (s + c + 1) j := fun c hc => ⟨hK c 2 (Or.inr (Or.inr (Or.inr (Or.inr (Or.inr (Or.inr (Or.inr (Or.inr (Or.inr (Or.inr (Or.inr (Or.inl ⟨hc, rfl⟩)))))))))))), fun j hj => hK (c + 1) j (Or.inr (Or.inr (Or.inr (Or.inr (Or.inr (Or.inr (Or.inr (Or.inr (Or.inr (Or.inr (Or.inr (Or.inr (Or.inl ⟨by rcases hc with rfl | rfl | rfl | rfl | rfl | rfl | rfl <;> decide, hj⟩)))))))))))))⟩
  have n3 : K' (t + 2) 3 = K (s + 2) 3 := hK 2 3 (Or.inl ⟨rfl, by omega⟩)
  have n4 : K' (t + 2) 4 = K (s + 2) 4 := hK 2 4 (Or.inl ⟨rfl, by omega⟩)
  have n5 : K' (t + 2) 5 = K (s + 2) 5 := hK 2 5 (Or.inl ⟨rfl, by omega⟩)
  refine ⟨?_, ?_, ?_, ?_, ?_, ?_, ?_, ?_, ?_, ?_, ?_, ?_, ?_, ?_⟩
  · refine RFirm_p2 (fun j hj => hK 2 j (Or.inl ⟨rfl, by omega⟩)) (fun k j h1 h2 hj => ?_) (fun k j h1 h2 hj => ?_) (fun k j h1 h2 hj => ?_) (fun j hj => hM 241 j (Or.inl ⟨rfl, by omega⟩)) (fun j hj => hM 244 j (Or.inr (Or.inr (Or.inl ⟨rfl, by omega⟩)))) (fun j hj => hM 245 j (Or.inr (Or.inr (Or.inr (Or.inl ⟨by decide, by omega⟩))))) (fun j hj => hM 246 j (Or.inr (Or.inr (Or.inr (Or.inr (Or.inl ⟨by decide, by omega⟩)))))) (cnt 6 (by decide)) (cnt 7 (by decide)) (cnt 8 (by decide)) r1
    · rw [Nat.add_assoc, Nat.add_assoc]; exact hK (2 + k) j (Or.inr (Or.inl ⟨by omega, by omega, hj⟩))
    · rw [Nat.add_assoc, Nat.add_assoc]; exact hK (2 + k) j (Or.inr (Or.inr (Or.inl ⟨by omega, by omega, hj⟩)))
    · rw [Nat.add_assoc, Nat.add_assoc]; exact hK (2 + k) j (Or.inr (Or.inr (Or.inr (Or.inl ⟨by omega, by omega, hj⟩))))
  · obtain ⟨b1, b2⟩ := r2
    have e4 := hK 15 4 (Or.inr (Or.inr (Or.inr (Or.inr (Or.inl ⟨rfl, rfl⟩)))))
    refine ⟨by rw [e4, hM 241 2 (Or.inl ⟨rfl, by omega⟩)]; exact b1, fun i hi => ?_⟩
    have b := b2 i hi
    rw [hM 247 _ (Or.inr (Or.inr (Or.inr (Or.inr (Or.inr (Or.inr (Or.inr (Or.inr (Or.inr (Or.inr (Or.inl ⟨rfl, by omega⟩))))))))))), hM 247 _ (Or.inr (Or.inr (Or.inr (Or.inr (Or.inr (Or.inr (Or.inr (Or.inr (Or.inr (Or.inr (Or.inl ⟨rfl, by omega⟩))))))))))), hM 247 _ (Or.inr (Or.inr (Or.inr (Or.inr (Or.inr (Or.inr (Or.inr (Or.inr (Or.inr (Or.inr (Or.inl ⟨rfl, by omega⟩))))))))))), hM 247 _ (Or.inr (Or.inr (Or.inr (Or.inr (Or.inr (Or.inr (Or.inr (Or.inr (Or.inr (Or.inr (Or.inl ⟨rfl, by omega⟩)))))))))))]
    have k1 := hK 16 i (Or.inr (Or.inr (Or.inr (Or.inr (Or.inr (Or.inl ⟨by decide, by decide, by omega⟩))))))
    have k2 := hK 17 i (Or.inr (Or.inr (Or.inr (Or.inr (Or.inr (Or.inl ⟨by decide, by decide, by omega⟩))))))
    have k3 := hK 18 i (Or.inr (Or.inr (Or.inr (Or.inr (Or.inr (Or.inl ⟨by decide, by decide, by omega⟩))))))
    have k4 := hK 19 i (Or.inr (Or.inr (Or.inr (Or.inr (Or.inr (Or.inl ⟨by decide, by decide, by omega⟩))))))
    rw [show t + 15 + 1 = t + 16 from rfl, show t + 15 + 2 = t + 17 from rfl, show t + 15 + 3 = t + 18 from rfl, show t + 15 + 4 = t + 19 from rfl, k1, k2, k3, k4]
    exact b
  · obtain ⟨b1, b2⟩ := r3
    have e4 : K' (t + 20 + 1) 4 = K (s + 20 + 1) 4 := hK 21 4 (Or.inr (Or.inr (Or.inr (Or.inr (Or.inr (Or.inr (Or.inl ⟨rfl, rfl⟩)))))))
    refine ⟨by rw [e4, hM 250 0 (Or.inr (Or.inr (Or.inr (Or.inr (Or.inr (Or.inr (Or.inr (Or.inr (Or.inr (Or.inr (Or.inr (Or.inl ⟨rfl, rfl⟩))))))))))))]; exact b1, fun l hl => ?_⟩
    rw [e4] at hl
    obtain ⟨q1, q2, q3, q4, q5, q6, q7, q8⟩ := b2 l hl
    have k2 : K' (t + 20 + 2) l = K (s + 20 + 2) l := hK 22 l (Or.inr (Or.inr (Or.inr (Or.inr (Or.inr (Or.inr (Or.inr (Or.inl ⟨by decide, by decide, by omega⟩))))))))
    have k3 : K' (t + 20 + 3) l = K (s + 20 + 3) l := hK 23 l (Or.inr (Or.inr (Or.inr (Or.inr (Or.inr (Or.inr (Or.inr (Or.inl ⟨by decide, by decide, by omega⟩))))))))
    have k4 : K' (t + 20 + 4) l = K (s + 20 + 4) l := hK 24 l (Or.inr (Or.inr (Or.inr (Or.inr (Or.inr (Or.inr (Or.inr (Or.inl ⟨by decide, by decide, by omega⟩))))))))
    have k5 : K' (t + 20 + 5) l = K (s + 20 + 5) l := hK 25 l (Or.inr (Or.inr (Or.inr (Or.inr (Or.inr (Or.inr (Or.inr (Or.inl ⟨by decide, by decide, by omega⟩))))))))
    have k6 : ∀ i, i < 400 → K' (t + 20 + 6) i = K (s + 20 + 6) i := fun i hi => hK 26 i (Or.inr (Or.inr (Or.inr (Or.inr (Or.inr (Or.inr (Or.inr (Or.inr (Or.inl ⟨rfl, by omega⟩)))))))))
    unfold RLine
    rw [k2, k3, k4, k5, hM 251 l (Or.inr (Or.inr (Or.inr (Or.inr (Or.inr (Or.inr (Or.inr (Or.inr (Or.inr (Or.inr (Or.inr (Or.inr (Or.inl ⟨by decide, by omega⟩))))))))))))), hM 252 l (Or.inr (Or.inr (Or.inr (Or.inr (Or.inr (Or.inr (Or.inr (Or.inr (Or.inr (Or.inr (Or.inr (Or.inr (Or.inl ⟨by decide, by omega⟩))))))))))))), hM 253 l (Or.inr (Or.inr (Or.inr (Or.inr (Or.inr (Or.inr (Or.inr (Or.inr (Or.inr (Or.inr (Or.inr (Or.inr (Or.inl ⟨by decide, by omega⟩))))))))))))), hM 254 l (Or.inr (Or.inr (Or.inr (Or.inr (Or.inr (Or.inr (Or.inr (Or.inr (Or.inr (Or.inr (Or.inr (Or.inr (Or.inl ⟨by decide, by omega⟩)))))))))))))]
    refine ⟨q1, q2, q3, q4, q5, fun i h1 h2 => ?_, ?_, ?_⟩
    · rw [k6 i (by omega), k6 (i - 1) (by omega), hM 255 i (Or.inr (Or.inr (Or.inr (Or.inr (Or.inr (Or.inr (Or.inr (Or.inr (Or.inr (Or.inr (Or.inr (Or.inr (Or.inr (⟨by decide, by omega⟩)))))))))))))), hM 256 i (Or.inr (Or.inr (Or.inr (Or.inr (Or.inr (Or.inr (Or.inr (Or.inr (Or.inr (Or.inr (Or.inr (Or.inr (Or.inr (⟨by decide, by omega⟩))))))))))))))]
      exact q6 i h1 h2
    · rw [ztc_cg _ _ _ fun j h1 h2 => k6 j (by omega)]
      exact q7
    · rcases q8 with q8 | q8
      · exact Or.inl q8
      · right
        rw [ztc_cg _ _ _ fun j h1 h2 => k6 j (by omega)]
        exact q8
  · obtain ⟨b1, b2⟩ := r4
    have e4 := hK 29 4 (Or.inr (Or.inr (Or.inr (Or.inr (Or.inr (Or.inr (Or.inr (Or.inr (Or.inr (Or.inl ⟨by decide, rfl⟩))))))))))
    refine ⟨by rw [e4, cnt 36 (by decide)]; exact b1, fun l hl => ?_⟩
    rw [e4] at hl
    have k1 : K' (t + 29 + 1) l = K (s + 29 + 1) l := hK 30 l (Or.inr (Or.inr (Or.inr (Or.inr (Or.inr (Or.inr (Or.inr (Or.inr (Or.inr (Or.inr (Or.inl ⟨by decide, by omega⟩)))))))))))
    have k2 : K' (t + 29 + 2) l = K (s + 29 + 2) l := hK 31 l (Or.inr (Or.inr (Or.inr (Or.inr (Or.inr (Or.inr (Or.inr (Or.inr (Or.inr (Or.inr (Or.inl ⟨by decide, by omega⟩)))))))))))
    have k3 : K' (t + 29 + 3) l = K (s + 29 + 3) l := hK 32 l (Or.inr (Or.inr (Or.inr (Or.inr (Or.inr (Or.inr (Or.inr (Or.inr (Or.inr (Or.inr (Or.inl ⟨by decide, by omega⟩)))))))))))
    have k4 : K' (t + 29 + 4) l = K (s + 29 + 4) l := hK 33 l (Or.inr (Or.inr (Or.inr (Or.inr (Or.inr (Or.inr (Or.inr (Or.inr (Or.inr (Or.inr (Or.inl ⟨by decide, by omega⟩)))))))))))
    rw [k1, k2, k3, k4, n3, n4, n5, hM 258 _ (Or.inr (Or.inr (Or.inr (Or.inr (Or.inr (Or.inr (Or.inl ⟨rfl, by omega⟩))))))), hM 258 _ (Or.inr (Or.inr (Or.inr (Or.inr (Or.inr (Or.inr (Or.inl ⟨rfl, by omega⟩))))))), hM 258 _ (Or.inr (Or.inr (Or.inr (Or.inr (Or.inr (Or.inr (Or.inl ⟨rfl, by omega⟩))))))), hM 258 _ (Or.inr (Or.inr (Or.inr (Or.inr (Or.inr (Or.inr (Or.inl ⟨rfl, by omega⟩)))))))]
    exact b2 l hl
  · obtain ⟨b1, b2, b3⟩ := r5
    have e4 := hK 34 4 (Or.inr (Or.inr (Or.inr (Or.inr (Or.inr (Or.inr (Or.inr (Or.inr (Or.inr (Or.inl ⟨by decide, rfl⟩))))))))))
    have k1 : ∀ l, l < 16 → K' (t + 34 + 1) l = K (s + 34 + 1) l := fun l hl => hK 35 l (Or.inr (Or.inr (Or.inr (Or.inr (Or.inr (Or.inr (Or.inr (Or.inr (Or.inr (Or.inr (Or.inl ⟨by decide, by omega⟩)))))))))))
    have k2 : ∀ l, l < 16 → K' (t + 34 + 2) l = K (s + 34 + 2) l := fun l hl => hK 36 l (Or.inr (Or.inr (Or.inr (Or.inr (Or.inr (Or.inr (Or.inr (Or.inr (Or.inr (Or.inr (Or.inl ⟨by decide, by omega⟩)))))))))))
    have k3 : ∀ l, l < 16 → K' (t + 34 + 3) l = K (s + 34 + 3) l := fun l hl => hK 37 l (Or.inr (Or.inr (Or.inr (Or.inr (Or.inr (Or.inr (Or.inr (Or.inr (Or.inr (Or.inr (Or.inl ⟨by decide, by omega⟩)))))))))))
    refine ⟨by rw [e4, cnt 38 (by decide)]; exact b1, fun l hl => ?_, fun b hb => ?_⟩
    · rw [e4] at hl
      rw [k2 l (by omega), k3 l (by omega)]
      exact b2 l hl
    · rw [e4, hM 259 b (Or.inr (Or.inr (Or.inr (Or.inr (Or.inr (Or.inl ⟨by decide, by omega⟩)))))), hM 260 b (Or.inr (Or.inr (Or.inr (Or.inr (Or.inr (Or.inl ⟨by decide, by omega⟩)))))), zlast_cg _ fun j hj => ⟨k1 j (by omega), k2 j (by omega)⟩, zlast_cg (s := K' (t + 34 + 3)) _ fun j hj => ⟨k1 j (by omega), k3 j (by omega)⟩]
      exact b3 b hb
  · obtain ⟨b1, b2, b3⟩ := r6
    have e4 := hK 39 4 (Or.inr (Or.inr (Or.inr (Or.inr (Or.inr (Or.inr (Or.inr (Or.inr (Or.inr (Or.inl ⟨by decide, rfl⟩))))))))))
    have k1 : ∀ l, l < 16 → K' (t + 39 + 1) l = K (s + 39 + 1) l := fun l hl => hK 40 l (Or.inr (Or.inr (Or.inr (Or.inr (Or.inr (Or.inr (Or.inr (Or.inr (Or.inr (Or.inr (Or.inl ⟨by decide, by omega⟩)))))))))))
    have k2 : ∀ l, l < 16 → K' (t + 39 + 2) l = K (s + 39 + 2) l := fun l hl => hK 41 l (Or.inr (Or.inr (Or.inr (Or.inr (Or.inr (Or.inr (Or.inr (Or.inr (Or.inr (Or.inr (Or.inl ⟨by decide, by omega⟩)))))))))))
    refine ⟨by rw [e4, cnt 41 (by decide)]; exact b1, fun l hl => ?_, fun b hb => ?_⟩
    · rw [e4] at hl
      rw [k2 l (by omega), k1 l (by omega), n5]
      exact b2 l hl
    · rw [e4, hM 261 b (Or.inr (Or.inr (Or.inr (Or.inr (Or.inl ⟨by decide, by omega⟩))))), zset_cg _ fun j hj => ⟨k1 j (by omega), k2 j (by omega)⟩]
      exact b3 b hb
  · exact RRow_p (by decide) (row 44 (by decide)).1 (row 44 (by decide)).2 (cnt 47 (by decide)) (fun j hj => hM 266 j (Or.inr (Or.inr (Or.inr (Or.inl ⟨by decide, by omega⟩))))) r7
  · exact RRow_p (by decide) (row 46 (by decide)).1 (row 46 (by decide)).2 (cnt 51 (by decide)) (fun j hj => hM 269 j (Or.inr (Or.inr (Or.inr (Or.inr (Or.inr (Or.inr (Or.inr (Or.inl ⟨rfl, by omega⟩))))))))) r8
  · intro j hj
    have k1 : K' (t + 48) j = K (s + 48) j := hK 48 j (Or.inr (Or.inr (Or.inr (Or.inr (Or.inr (Or.inr (Or.inr (Or.inr (Or.inr (Or.inr (Or.inr (Or.inr (Or.inr (⟨by decide, by omega⟩))))))))))))))
    have k2 : K' (t + 48 + 1) j = K (s + 48 + 1) j := hK 49 j (Or.inr (Or.inr (Or.inr (Or.inr (Or.inr (Or.inr (Or.inr (Or.inr (Or.inr (Or.inr (Or.inr (Or.inr (Or.inr (⟨by decide, by omega⟩))))))))))))))
    rw [k1, k2, hM 272 j (Or.inr (Or.inr (Or.inr (Or.inr (Or.inr (Or.inr (Or.inr (Or.inr (Or.inl ⟨by decide, by omega⟩))))))))), hM 273 j (Or.inr (Or.inr (Or.inr (Or.inr (Or.inr (Or.inr (Or.inr (Or.inr (Or.inl ⟨by decide, by omega⟩)))))))))]
    exact r9 j hj
  · obtain ⟨b1, b2, b3, b4, b5, b6⟩ := r10
    obtain ⟨k1, k2⟩ := row 50 (by decide)
    refine ⟨by omega, by omega, by rw [cnt 59 (by decide), k1]; exact b3, fun j hj => ?_, by rw [cnt 57 (by decide), cnt 58 (by decide)]; exact b5, fun v h1 h2 => ?_⟩
    · rw [k1] at hj
      rw [k2 j (by omega)]
      exact b4 j hj
    · rw [cnt 57 (by decide), cnt 58 (by decide), k1, zhas_cg _ _ fun j h1 h2 => k2 j (by omega)]
      exact b6 v h1 h2
  · exact RRow_p (by decide) (row 52 (by decide)).1 (row 52 (by decide)).2 (cnt 62 (by decide)) (fun j hj => hM 276 j (Or.inr (Or.inr (Or.inr (Or.inr (Or.inl ⟨by decide, by omega⟩)))))) r11
  · obtain ⟨b1, b2⟩ := r12
    obtain ⟨k1, k2⟩ := row 54 (by decide)
    refine ⟨RRow_p (by decide) k1 k2 (cnt 64 (by decide)) (fun j hj => hM 277 j (Or.inr (Or.inr (Or.inr (Or.inl ⟨by decide, by omega⟩))))) b1, fun j hj => ?_⟩
    rw [k1] at hj
    rw [k2 j (by have := b1.2.1; omega)]
    exact b2 j hj
  · exact RRow_p (by decide) (row 56 (by decide)).1 (row 56 (by decide)).2 (cnt 66 (by decide)) (fun j hj => hM 278 j (Or.inr (Or.inr (Or.inr (Or.inr (Or.inr (Or.inl ⟨by decide, by omega⟩))))))) r13
  · exact RRow_p (by decide) (row 58 (by decide)).1 (row 58 (by decide)).2 (cnt 69 (by decide)) (fun j hj => hM 280 j (Or.inr (Or.inr (Or.inr (Or.inr (Or.inr (Or.inr (Or.inr (Or.inr (Or.inr (Or.inl ⟨rfl, by omega⟩))))))))))) r14
