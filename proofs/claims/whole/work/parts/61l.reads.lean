/-! THE TEXT -/
def zCl (k j : Nat) : Prop := (k = 213 ∧ (4 ≤ j ∧ j ≤ 8)) ∨ (215 ≤ k ∧ k ≤ 223) ∨ (226 ≤ k ∧ k ≤ 230)
/-- the class reads -/
theorem c_53 {I : zI} {k : Int} {n : Nat} (hk : 0 ≤ k ∧ k ≤ 3) (hn : n ≤ 400) (h1 : I 213 1 = (n : Int)) (hr : ∀ j, j < n → 0 ≤ I 214 j ∧ I 214 j ≤ 255) : ∃ cnt : Nat, cnt ≤ 400 ∧ (∀ j, cnt ≤ j → ttk (I 214) n j = -2) ∧
    match tln (ttk (I 214) n) (tbg k) (tLk (ttk (I 214) n) cnt k (I 2 3) (I 2 4) (I 2 5)) 16 0 (([], []) : tZ) with
    | .inl e => ∃ I', cl 59 53 [.inr (some 213), .inl k, .inr (some 2)] I = some (0, I') ∧ (∀ a b, ¬ zCl a b → I' a b = I a b) ∧ I' 213 7 = e.1 ∧ I' 213 8 = (tst (I 214) n e.2 : Int)
    | .inr s => ∃ I', cl 59 53 [.inr (some 213), .inl k, .inr (some 2)] I = some (1, I') ∧ (∀ a b, ¬ zCl a b → I' a b = I a b) ∧ I' 213 7 = 0 ∧ I' 213 8 = -1 ∧ I' 217 2 = (s.1.length : Int) ∧ (∀ i, i < s.1.length → I' 223 i = s.1.getD i 0) ∧ tLn (tak k) s.2 I' := by
  have u214 : up (up I 213 7 0) 213 8 (-1) 214 = I 214 := (up_r (by decide)).trans (up_r (by decide))
  obtain ⟨cnt, K, q1, q2, q3, q4, q5, q6⟩ := s_55 (d := 47) (n := n) (I := up (up I 213 7 0) 213 8 (-1)) ((up_j (by decide)).trans ((up_j (by decide)).trans h1)) hn (by rw [u214]; exact hr)
  rw [u214] at q5 q6
  have hI0 : ∀ a b, ¬ zCl a b → up (up (up (up K 213 5 0) 218 4 0) 217 2 0) 226 4 0 a b = I a b := fun a b hz => by
    unfold zCl at hz
    have e1 : up (up (up (up K 213 5 0) 218 4 0) 217 2 0) 226 4 0 a b = K a b := by
      unfold up
      rw [if_neg (by omega), if_neg (by omega), if_neg (by omega), if_neg (by omega)]
    have e2 : K a b = up (up I 213 7 0) 213 8 (-1) a b := by
      refine q2 a b ?_ ?_
      · cases hc : List.contains [215, 216] a with
        | false => rfl
        | true =>
          have := List.contains_iff_mem.mp hc
          simp at this
          omega
      · cases hc : List.contains [(213, 4)] (a, b) with
        | false => rfl
        | true =>
          have := List.contains_iff_mem.mp hc
          simp at this
          omega
    rw [e1, e2]
    unfold up
    rw [if_neg (by omega), if_neg (by omega)]
  have f7 : up (up (up (up K 213 5 0) 218 4 0) 217 2 0) 226 4 0 213 7 = 0 := (up_c (by decide)).trans ((up_c (by decide)).trans ((up_c (by decide)).trans ((up_j (by decide)).trans ((ag_f q2 213 7 (by decide) (by decide)).trans ((up_j (by decide)).trans up_s)))))
  have f8 : up (up (up (up K 213 5 0) 218 4 0) 217 2 0) 226 4 0 213 8 = -1 := (up_c (by decide)).trans ((up_c (by decide)).trans ((up_c (by decide)).trans ((up_j (by decide)).trans ((ag_f q2 213 8 (by decide) (by decide)).trans up_s))))
  have T : tTK (ttk (I 214) n) (fun j => (tst (I 214) n j : Int)) cnt (n : Int) (up (up (up (up K 213 5 0) 218 4 0) 217 2 0) 226 4 0) := by
    refine ⟨(up_c (by decide)).trans ((up_c (by decide)).trans ((up_c (by decide)).trans ((up_j (by decide)).trans q3))), by omega, ?_, fun j hj => ?_, fun j hj => ?_⟩
    · exact (up_c (by decide)).trans ((up_c (by decide)).trans ((up_c (by decide)).trans ((up_j (by decide)).trans ((ag_f q2 213 1 (by decide) (by decide)).trans ((up_j (by decide)).trans ((up_j (by decide)).trans h1))))))
    · obtain ⟨a1, a2, -⟩ := q5 j hj
      exact ⟨(up_c (by decide)).trans ((up_c (by decide)).trans ((up_c (by decide)).trans ((up_c (by decide)).trans a1))), (up_c (by decide)).trans ((up_c (by decide)).trans ((up_c (by decide)).trans ((up_c (by decide)).trans a2)))⟩
    · have e := tst_end q6 j hj
      exact ⟨ttk_end e, by show (tst (I 214) n j : Int) = (n : Int); rw [e]⟩
  have L : LQ (tak k) (up (up (up (up K 213 5 0) 218 4 0) 217 2 0) 226 4 0) 0 ([], []) (up (up (up (up K 213 5 0) 218 4 0) 217 2 0) 226 4 0) := by
    refine ⟨Ag_rf, ⟨Ag_rf, ?_, ?_, fun i hi => absurd hi (Nat.not_lt_zero i)⟩, ?_, fun i hi => absurd hi (Nat.not_lt_zero i)⟩
    · exact (up_c (by decide)).trans ((up_c (by decide)).trans ((up_c (by decide)).trans up_s))
    · exact (up_c (by decide)).trans up_s
    · unfold tak
      split
      · exact (up_c (by decide)).trans ((up_c (by decide)).trans up_s)
      · exact up_s
  have z := s_53l (d := 28) T hk 16 0 0 ([], []) _ rfl rfl (Nat.le_refl _) (Nat.zero_le _) L
  rw [hI0 2 3 (by unfold zCl; omega), hI0 2 4 (by unfold zCl; omega), hI0 2 5 (by unfold zCl; omega)] at z
  refine ⟨cnt, by omega, fun j hj => ttk_end (tst_end q6 j hj), ?_⟩
  have E : cl 59 53 [.inr (some 213), .inl k, .inr (some 2)] I = zD 59 53 27 [some (.inr (some 213)), some (.inl k), some (.inr (some 2)), some (.inl 0)] [] (up (up (up (up K 213 5 0) 218 4 0) 217 2 0) 226 4 0) := by
    rw [e_53, s_156, Option.bind_some]
    dsimp only
    rw [if_pos hk, if_neg (by decide), q1, Option.bind_some]
    dsimp only
    rw [e_40, Option.bind_some]
  rw [E]
  revert z L T f7 f8 hI0
  generalize up (up (up (up K 213 5 0) 218 4 0) 217 2 0) 226 4 0 = I0
  intro hI0 f7 f8 T L z
  have fr : ∀ (I' : zI), Ag tcB tfC I0 I' → ∀ a b, ¬ zCl a b → I' a b = I a b := fun I' hA a b hz => by
    rw [← hI0 a b hz]
    unfold zCl at hz
    refine hA a b ?_ ?_
    · cases hc : List.contains tcB a with
      | false => rfl
      | true =>
        have := List.contains_iff_mem.mp hc
        simp [tcB] at this
        omega
    · cases hc : List.contains tfC (a, b) with
      | false => rfl
      | true =>
        have := List.contains_iff_mem.mp hc
        simp [tfC] at this
        omega
  cases e : tln (ttk (I 214) n) (tbg k) (tLk (ttk (I 214) n) cnt k (I 2 3) (I 2 4) (I 2 5)) 16 0 (([], []) : tZ) with
  | inl e' =>
    rw [e] at z
    obtain ⟨I', z1, z2, z3, z4⟩ := z
    exact ⟨I', z1, fr I' z2, z3, z4⟩
  | inr s =>
    rw [e] at z
    obtain ⟨k', I', z1, z2, ⟨-, -, z3, z4⟩, z5⟩ := z
    exact ⟨I', z1, fr I' (tfS_C z2), (ag_f z2 213 7 (by decide) (by decide)).trans f7, (ag_f z2 213 8 (by decide) (by decide)).trans f8, z3, z4, z5⟩
/-- the model's tokens are the class's -/
theorem mTK_of {J0 : zI} {T : Nat → Int} {n : Nat} (h14 : J0 240 14 = (n : Int)) (hn : n ≤ 400) (hz : ∀ j : Nat, j < 138 → J0 249 j = zwd.getD j 0) (hT : ∀ j, j < n → J0 248 j = T j) (hr : ∀ j, j < n → 0 ≤ T j ∧ T j ≤ 255) : mTK (ttk T n) (fun j => (tst T n j : Int)) (tps T n) J0 := fun d k J hF h15 => by
  have e48 : J 248 = J0 248 := funext fun j => hF 248 j rfl
  have e49 : J 249 = J0 249 := funext fun j => hF 249 j rfl
  have cg : ∀ j, j < n → J 248 j = T j := fun j hj => by rw [e48]; exact hT j hj
  obtain ⟨J', q1, q2, q3, q4, q5, q6⟩ := s_194 (d := d) (n := n) (k := k) (J := J) ((hF 240 14 rfl).trans h14) hn (by rw [e49]; exact hz) (fun j hj => by rw [cg j hj]; exact hr j hj) (by rw [h15, tps_cg cg k]) (tps_le k)
  rw [tps_cg cg] at q3
  rw [tst_cg cg] at q4
  rw [ttk_cg cg] at q5 q6
  exact ⟨J', q1, q2, q3, q4, q5, q6⟩
theorem MK_eq {tk st : Nat → Int} {ps : Nat → Nat} {k : Nat} {c : List Int} {J J' : zI} (h : ∀ j, J' 240 j = J 240 j) (h5 : J' 255 = J 255) (h6 : J' 256 = J 256) (s : MK tk st ps k c J) : MK tk st ps k c J' := by
  unfold MK at *
  rw [h, h, h, h, h, h5, h6]
  exact s
/-- the model's birds begin at nothing -/
theorem m_216s {d : Nat} : ∀ (r i : Nat) (J : zI), i + r = 8 → ∃ J', zD (d + 1) 216 2 [some (.inr (some 240)), some (.inl (i : Int))] [] J = zD (d + 1) 216 23 [some (.inr (some 240)), some (.inl 0)] [] J' ∧ (∀ a b, ¬ ((a = 259 ∨ a = 260) ∧ 8 ≤ b) → J' a b = J a b) ∧ (∀ b, b < i → J' 259 (8 + b) = J 259 (8 + b) ∧ J' 260 (8 + b) = J 260 (8 + b)) ∧ ∀ b, i ≤ b → b < 8 → J' 259 (8 + b) = 0 ∧ J' 260 (8 + b) = 0
  | 0, i, J, h => ⟨J, by rw [e_216_2, if_neg (by omega)], fun _ _ _ => rfl, fun _ _ => ⟨rfl, rfl⟩, fun b h1 h2 => by omega⟩
  | r + 1, i, J, h => by
    have hc : 0 ≤ 8 + (i : Int) ∧ 8 + (i : Int) < 16 := by omega
    have e8 : (8 + (i : Int)).toNat = 8 + i := by omega
    obtain ⟨J', q1, q2, q3, q4⟩ := m_216s (d := d) r (i + 1) (up (up J 259 (8 + i) 0) 260 (8 + i) 0) (by omega)
    refine ⟨J', ?_, fun a b hab => ?_, fun b hb => ?_, fun b h1 h2 => ?_⟩
    · rw [e_216_2, if_pos (by omega), wr_id (z := 8 + (i : Int)) (by omega) (by omega), if_pos hc, if_pos hc, e8, wr_id (z := (i : Int) + 1) (by omega) (by omega)]
      exact q1
    · rw [q2 a b hab]
      unfold up
      rw [if_neg (by omega), if_neg (by omega)]
    · obtain ⟨a1, a2⟩ := q3 b (by omega)
      rw [a1, a2, up_c (by decide), up_j (by omega), up_j (by omega), up_c (by decide)]
      exact ⟨rfl, rfl⟩
    · by_cases hb : b = i
      · obtain ⟨a1, a2⟩ := q3 b (by omega)
        rw [a1, a2, hb, up_c (by decide), up_s, up_s]
        exact ⟨rfl, rfl⟩
      · exact q4 b (by omega) h2
theorem m_218s {d : Nat} : ∀ (r i : Nat) (J : zI), i + r = 12 → ∃ J', zD (d + 1) 218 2 [some (.inr (some 240)), some (.inl (i : Int))] [] J = zD (d + 1) 218 16 [some (.inr (some 240)), some (.inl 0)] [] J' ∧ (∀ a b, ¬ (a = 261 ∧ 12 ≤ b) → J' a b = J a b) ∧ (∀ b, b < i → J' 261 (12 + b) = J 261 (12 + b)) ∧ ∀ b, i ≤ b → b < 12 → J' 261 (12 + b) = 0
  | 0, i, J, h => ⟨J, by rw [e_218_2, if_neg (by omega)], fun _ _ _ => rfl, fun _ _ => rfl, fun b h1 h2 => by omega⟩
  | r + 1, i, J, h => by
    have hc : 0 ≤ 12 + (i : Int) ∧ 12 + (i : Int) < 24 := by omega
    have e8 : (12 + (i : Int)).toNat = 12 + i := by omega
    obtain ⟨J', q1, q2, q3, q4⟩ := m_218s (d := d) r (i + 1) (up J 261 (12 + i) 0) (by omega)
    refine ⟨J', ?_, fun a b hab => ?_, fun b hb => ?_, fun b h1 h2 => ?_⟩
    · rw [e_218_2, if_pos (by omega), wr_id (z := 12 + (i : Int)) (by omega) (by omega), if_pos hc, e8, wr_id (z := (i : Int) + 1) (by omega) (by omega)]
      exact q1
    · rw [q2 a b hab]
      unfold up
      rw [if_neg (by omega)]
    · rw [q3 b (by omega), up_j (by omega)]
    · by_cases hb : b = i
      · rw [q3 b (by omega), hb, up_s]
      · exact q4 b (by omega) h2
/-- what the model's lines of text k leave -/
def tP (k : Int) : List tQ → zI → Prop := if k = 0 then PL else if k = 1 then PO else if k = 2 then PB else PA
/-- the model reads -/
theorem m_219 {J : zI} {k : Int} {T : Nat → Int} {n cnt : Nat} (hk : 0 ≤ k ∧ k ≤ 3) (h4 : cnt ≤ 400) (h5 : ∀ j, cnt ≤ j → ttk T n j = -2) (h14 : J 240 14 = (n : Int)) (hn : n ≤ 400) (hz : ∀ j : Nat, j < 138 → J 249 j = zwd.getD j 0) (hT : ∀ j, j < n → J 248 j = T j) (hr : ∀ j, j < n → 0 ≤ T j ∧ T j ≤ 255) (h15 : J 240 15 = 0) (h28 : J 240 28 = 0) (h29 : J 240 29 = 0) (hb : (0 ≤ J 240 6 ∧ J 240 6 ≤ 14) ∧ (0 ≤ J 240 7 ∧ J 240 7 ≤ 10) ∧ (0 ≤ J 240 8 ∧ J 240 8 ≤ 12)) :
    mLp (ttk T n) (fun j => (tst T n j : Int)) (tps T n) (tP k) (up J 240 27 0) (cl 59 219 [.inr (some 240), .inl k] J) (tln (ttk T n) (tbg k) (tLk (ttk T n) cnt k (J 240 6) (J 240 7) (J 240 8)) 16 0 (([], []) : tZ)) := by
  have hu : ∀ j, ¬ j = 27 → up J 240 27 0 240 j = J 240 j := fun j hj => up_j hj
  have M := mTK_of (J0 := up J 240 27 0) ((hu 14 (by decide)).trans h14) hn (by rw [up_r (by decide)]; exact hz) (by rw [up_r (by decide)]; exact hT) hr
  have hR : ∀ j, tRg (ttk T n j) := fun j => ttk_rg hr j
  obtain ⟨J3, q1, q2, q3, q4, q5, q6⟩ := M 53 0 (up J 240 27 0) Fr_rf ((hu 15 (by decide)).trans h15)
  have F3 : Fr zsB (up J 240 27 0) J3 := Fr_mono (Fr_tAg q2) zs1_B
  have K3 : MK (ttk T n) (fun j => (tst T n j : Int)) (tps T n) 0 [] J3 := ⟨q3, q4, q5, q6, (ag_f q2 240 28 (by decide) (by decide)).trans ((hu 28 (by decide)).trans h28), fun i hi => absurd hi (Nat.not_lt_zero i)⟩
  have Z3 : J3 240 29 = 0 := (ag_f q2 240 29 (by decide) (by decide)).trans ((hu 29 (by decide)).trans h29)
  rw [e_219, q1, Option.bind_some]
  dsimp only
  have go : ∀ {P : List tQ → zI → Prop} {o : zO} {r : Sum (Int × Nat) tZ}, mLp (ttk T n) (fun j => (tst T n j : Int)) (tps T n) P (up J 240 27 0) o r → mLp (ttk T n) (fun j => (tst T n j : Int)) (tps T n) P (up J 240 27 0) (o.bind fun p => some (p.1, p.2)) r := fun {P o r} m => by
    cases r with
    | inl e => obtain ⟨J', x1, x2⟩ := m; exact ⟨J', by rw [x1]; rfl, x2⟩
    | inr s => obtain ⟨k', J', x1, x2⟩ := m; exact ⟨k', J', by rw [x1]; rfl, x2⟩
  have hb' : (0 ≤ up J 240 27 0 240 6 ∧ up J 240 27 0 240 6 ≤ 14) ∧ (0 ≤ up J 240 27 0 240 7 ∧ up J 240 27 0 240 7 ≤ 10) ∧ (0 ≤ up J 240 27 0 240 8 ∧ up J 240 27 0 240 8 ≤ 12) := by
    rw [hu 6 (by decide), hu 7 (by decide), hu 8 (by decide)]
    exact hb
  rcases (show k = 0 ∨ k = 1 ∨ k = 2 ∨ k = 3 by omega) with rfl | rfl | rfl | rfl
  · rw [if_neg (by decide), if_neg (by decide), if_neg (by decide)]
    exact go (m_208 (d := 47) M hR h4 h5 (s := ([], [])) rfl (Nat.le_refl _) (Nat.zero_le _) ⟨F3, K3, Z3, fun i hi => absurd hi (Nat.not_lt_zero i)⟩)
  · rw [if_pos rfl]
    have m := m_214 (d := 49) M hR h5 hb' (s := ([], [])) (J := J3) rfl (Nat.le_refl _) (Nat.zero_le cnt) ⟨F3, K3, Z3, fun i hi => absurd hi (Nat.not_lt_zero i)⟩
    rw [hu 6 (by decide), hu 7 (by decide), hu 8 (by decide)] at m
    exact go m
  · rw [if_neg (by decide), if_pos rfl]
    obtain ⟨J4, p1, p2, -, p4⟩ := m_216s (d := 57) 8 0 J3 rfl
    have F4 : Fr zsB J3 J4 := fun a b hz => p2 a b (fun hab => by
      have : zsB a b = true := zsB_8 hab.1 hab.2
      rw [this] at hz
      cases hz)
    have m := m_216 (d := 49) M hR h5 (s := ([], [])) (J := J4) rfl (Nat.le_refl _) (Nat.zero_le cnt) ⟨Fr_tr F3 F4, MK_eq (fun j => p2 240 j (by omega)) (funext fun j => p2 255 j (by omega)) (funext fun j => p2 256 j (by omega)) K3, (p2 240 29 (by omega)).trans Z3, fun b hb => by
      obtain ⟨a1, a2⟩ := p4 b (Nat.zero_le _) hb
      rw [a1, a2]
      exact ⟨rfl, rfl⟩⟩
    rw [e_216]
    have p1 : zD 58 216 2 [some (.inr (some 240)), some (.inl 0)] [] J3 = zD 58 216 23 [some (.inr (some 240)), some (.inl 0)] [] J4 := p1
    rw [p1]
    exact go m
  · rw [if_neg (by decide), if_neg (by decide), if_pos rfl]
    obtain ⟨J4, p1, p2, -, p4⟩ := m_218s (d := 57) 12 0 J3 rfl
    have F4 : Fr zsB J3 J4 := fun a b hz => p2 a b (fun hab => by
      have : zsB a b = true := by rw [hab.1]; exact zsB_12 hab.2
      rw [this] at hz
      cases hz)
    have m := m_218 (d := 49) M hR h5 hb'.2.2 (s := ([], [])) (J := J4) rfl (Nat.le_refl _) (Nat.zero_le cnt) ⟨Fr_tr F3 F4, MK_eq (fun j => p2 240 j (by omega)) (funext fun j => p2 255 j (by omega)) (funext fun j => p2 256 j (by omega)) K3, (p2 240 29 (by omega)).trans Z3, fun b hb => p4 b (Nat.zero_le _) hb⟩
    rw [hu 8 (by decide)] at m
    rw [e_218]
    have p1 : zD 58 218 2 [some (.inr (some 240)), some (.inl 0)] [] J3 = zD 58 218 16 [some (.inr (some 240)), some (.inl 0)] [] J4 := p1
    rw [p1]
    exact go m
