/-! WORDS: its length and signs; AND NOW EVERY CALL -/
set_option maxHeartbeats 1000000 in
set_option maxRecDepth 100000 in
theorem ks_299 {g : kG} {d : Nat} {h : kH} {Q : Int32 → kH → Prop}  (q : Q 0 h) : Ev g 299 (d + 1) [.inr (some 1000002)] h Q := by
  refine Ev_wq (stops := []) (n := 1) (mc := 0) (ms := 0) 8 (by decide) me_299 (kcc (by decide)) rfl (by decide) ?_
  show wq g 299 (d) (some .byte) 0 0 kc_299 [] Q 8 0 0 0 [some (.inr (some 1000002))] [] h
  have h10 : ¬ (1 : Int32) = 0 := by decide
  simp [kc_299, wq, stp, stf, p1, p2, pr, lI, lR, sL, cz, krt, krv, kq_y, kq_c, kq_n, kf_c, kf_k, Int.reduceToNat, q]

set_option maxHeartbeats 1000000 in
set_option maxRecDepth 100000 in
theorem ks_300 {g : kG} {d : Nat} {h : kH} {Q : Int32 → kH → Prop}  (q : Q 1 h) : Ev g 300 (d + 1) [.inr (some 1000002)] h Q := by
  refine Ev_wq (stops := []) (n := 1) (mc := 0) (ms := 0) 10 (by decide) me_300 (kcc (by decide)) rfl (by decide) ?_
  show wq g 300 (d) (some .boolean) 0 0 kc_300 [] Q 10 0 0 0 [some (.inr (some 1000002))] [] h
  have h10 : ¬ (1 : Int32) = 0 := by decide
  simp [kc_300, wq, stp, stf, p1, p2, pr, lI, lR, sL, cz, krt, krv, kq_y, kq_c, kq_n, kf_c, kf_k, Int.reduceToNat, q]

set_option maxHeartbeats 1000000 in
set_option maxRecDepth 100000 in
theorem ks_303 {g : kG} {d : Nat} {h : kH} {Q : Int32 → kH → Prop} {x n : Int32} {z : Option Nat} (h1 : ¬ x < 0) (h2 : x < n) (q : Q x h) : Ev g 303 (d + 1) [.inl x, .inl n, .inr z] h Q := by
  refine Ev_wq (stops := []) (n := 3) (mc := 0) (ms := 0) 10 (by decide) me_303 (kcc (by decide)) rfl (by decide) ?_
  show wq g 303 (d) (some .int) 0 0 kc_303 [] Q 10 0 0 0 [some (.inl x), some (.inl n), some (.inr z)] [] h
  have h10 : ¬ (1 : Int32) = 0 := by decide
  simp only [kc_303, wq, stp, stf, p1, p2, pr, lI, lR, sL, cz, krt, Int.reduceToNat, List.map_cons, List.map_nil, List.getElem?_cons_zero, List.getElem?_cons_succ, List.length_cons, List.length_nil, List.take_succ_cons, List.take_zero, List.drop_succ_cons, List.drop_zero, List.reverse_cons, List.reverse_nil, List.nil_append, List.cons_append, Nat.reduceAdd, Nat.reduceLT, Nat.reduceLeDiff, Nat.reduceSub, Nat.reduceMul, Nat.reduceDiv, Nat.reduceMod, if_true, if_false, ite_true, ite_false, Nat.reduceEqDiff, reduceIte, reduceCtorEq, true_and]
  refine ⟨fun e => absurd e h1, fun _ => ⟨fun _ => ?_, fun e => absurd h2 e⟩⟩
  first | exact q | exact ⟨trivial, rfl, Nat.le_refl _, q⟩ | exact ⟨rfl, Nat.le_refl _, q⟩ | exact ⟨Nat.le_refl _, q⟩
set_option maxHeartbeats 1000000 in
set_option maxRecDepth 100000 in
theorem ks_301 {g : kG} {d : Nat} {h : kH} {Q : Int32 → kH → Prop} {x n : Int32} (h1 : ¬ x < 0) (h2 : x < n) (q : Q 0 h) : Ev g 301 (d + 2) [.inl x, .inl n] h Q := by
  refine Ev_wq (stops := []) (n := 2) (mc := 0) (ms := 0) 10 (by decide) me_301 (kcc (by decide)) rfl (by decide) ?_
  show wq g 301 (d + 1) none 0 0 kc_301 [] Q 10 0 0 0 [some (.inl x), some (.inl n)] [] h
  have h10 : ¬ (1 : Int32) = 0 := by decide
  simp [kc_301, wq, stp, stf, p1, p2, pr, lI, lR, sL, cz, krt, krv, kq_y, kq_c, kq_n, kf_c, kf_k, Int.reduceToNat]
  exact ks_303 h1 h2 q
theorem kS_char : ∀ j, j < 136 → ((kS_b.getD j 0 &&& Int32.ofInt 255).toUInt32 % 65536).toInt32 = kS_b.getD j 0 ∧ ∃ q, q < 65536 ∧ kS_b.getD j 0 = nI q := by
  have h : ((List.range 136).all fun j => decide (((kS_b.getD j 0 &&& Int32.ofInt 255).toUInt32 % 65536).toInt32 = kS_b.getD j 0) && decide (kS_b.getD j 0 = nI (kS_b.getD j 0).toNatClampNeg) && decide ((kS_b.getD j 0).toNatClampNeg < 65536)) = true := by decide +kernel
  intro j hj
  have h1 := List.all_eq_true.mp h j (List.mem_range.mpr hj)
  simp only [Bool.and_eq_true, decide_eq_true_eq] at h1
  exact ⟨h1.1.1, _, h1.2, h1.1.2⟩
set_option maxHeartbeats 1000000 in
set_option maxRecDepth 100000 in
theorem ks_302 {g : kG} {d : Nat} {h : kH} {Q : Int32 → kH → Prop} {x : Int32} (hx : vp_in x 136) (q : Q (kS_b.getD x.toNatClampNeg 0) h) : Ev g 302 (d + 3) [.inr (some 1000003), .inl x] h Q := by
  refine Ev_wq (stops := []) (n := 2) (mc := 0) (ms := 0) 14 (by decide) me_302 (kcc (by decide)) rfl (by decide) ?_
  show wq g 302 (d + 2) (some .char) 0 0 kc_302 [] Q 14 0 0 0 [some (.inr (some 1000003)), some (.inl x)] [] h
  have hx2 := vp_in_iff.mp hx
  have h1 : ¬ x < 0 := fun e => by have := Int32.lt_iff_toInt_lt.mp e; rw [t_0] at this; omega
  have h2 : x < Int32.ofNat 136 := Int32.lt_iff_toInt_lt.mpr (by rw [show (Int32.ofNat 136).toInt = 136 from rfl]; omega)
  have hc := kS_char x.toNatClampNeg (by show x.toInt.toNat < 136; omega)
  simp only [kc_302, wq, stp, stf, p1, p2, pr, lI, lR, sL, cz, krt, krv, kq_y, kq_c, kq_n, kf_c, kf_k, Int.reduceToNat, List.getElem?_cons_zero, List.getElem?_cons_succ, Nat.reduceDiv, Nat.reduceMod, Nat.reduceMul, Nat.reduceAdd, Nat.reduceLT, reduceIte, Nat.reduceEqDiff, List.take_succ_cons, List.take_zero, List.drop_succ_cons, List.drop_zero, List.reverse_cons, List.reverse_nil, List.nil_append, List.cons_append, List.length_cons, List.length_nil, true_and, Nat.reduceLeDiff, Nat.zero_le, Nat.le_refl]
  refine ks_301 h1 h2 ?_
  refine ⟨hx, ?_⟩
  rw [hc.1]
  exact ⟨hc.2, q⟩
set_option maxHeartbeats 1000000 in
set_option maxRecDepth 100000 in
theorem ks_298 {g : kG} {d : Nat} {h : kH} {Q : Int32 → kH → Prop} {x : Int32} (hx : vp_in x 136) (q : Q (kS_b.getD x.toNatClampNeg 0) h) : Ev g 298 (d + 4) [.inr (some 1000002), .inl x] h Q := by
  refine Ev_wq (stops := []) (n := 2) (mc := 0) (ms := 0) 9 (by decide) me_298 (kcc (by decide)) rfl (by decide) ?_
  show wq g 298 (d + 3) (some .char) 0 0 kc_298 [] Q 9 0 0 0 [some (.inr (some 1000002)), some (.inl x)] [] h
  have hx2 := vp_in_iff.mp hx
  have hc := kS_char x.toNatClampNeg (by show x.toInt.toNat < 136; omega)
  have h10 : ¬ (1 : Int32) = 0 := by decide
  simp only [kc_298, wq, stp, stf, p1, p2, pr, lI, lR, sL, cz, krt, krv, kq_y, kq_c, kq_n, kf_c, kf_k, Int.reduceToNat, List.getElem?_cons_zero, List.getElem?_cons_succ, Nat.reduceDiv, Nat.reduceMod, Nat.reduceMul, Nat.reduceAdd, Nat.reduceLT, reduceIte, Nat.reduceEqDiff, List.take_succ_cons, List.take_zero, List.drop_succ_cons, List.drop_zero, List.reverse_cons, List.reverse_nil, List.nil_append, List.cons_append, List.length_cons, List.length_nil, true_and, Nat.reduceLeDiff, Nat.zero_le, Nat.le_refl]
  refine ks_300 ⟨fun e => absurd e h10, fun _ => ?_⟩
  exact ks_302 hx ⟨hc.2, q⟩
set_option maxHeartbeats 1000000 in
set_option maxRecDepth 100000 in
theorem ks_297 {g : kG} {d : Nat} {h : kH} {Q : Int32 → kH → Prop} (q : Q 136 h) : Ev g 297 (d + 2) [.inr (some 1000002)] h Q := by
  refine Ev_wq (stops := []) (n := 1) (mc := 0) (ms := 0) 9 (by decide) me_297 (kcc (by decide)) rfl (by decide) ?_
  show wq g 297 (d + 1) (some .int) 0 0 kc_297 [] Q 9 0 0 0 [some (.inr (some 1000002))] [] h
  simp only [kc_297, wq, stp, stf, p1, p2, pr, lI, lR, sL, cz, krt, krv, kq_y, kq_c, kq_n, kf_c, kf_k, Int.reduceToNat, List.getElem?_cons_zero, List.getElem?_cons_succ, Nat.reduceDiv, Nat.reduceMod, Nat.reduceMul, Nat.reduceAdd, Nat.reduceLT, reduceIte, Nat.reduceEqDiff, List.take_succ_cons, List.take_zero, List.drop_succ_cons, List.drop_zero, List.reverse_cons, List.reverse_nil, List.nil_append, List.cons_append, List.length_cons, List.length_nil, true_and, Nat.reduceLeDiff, Nat.zero_le, Nat.le_refl]
  refine ks_299 ?_
  exact q
theorem zv_one {as : List kV} {a : Nat} (h : as.map zv = [.inr (some a)]) : as = [.inr (some a)] := by
  rcases as with _ | ⟨x | x, _ | ⟨y, r⟩⟩
  · cases h
  · cases h
  · cases h
  · have := List.cons.inj h
    have e : (Sum.inr x : zV) = .inr (some a) := this.1
    rw [Sum.inr.inj e]
  · cases h
theorem zR_ok {g : kG} {d z : Nat} {r : Int} {I' : zI} (hz4 : z < 304) (hk0 : kc_c z = (0, 0)) (ihd : ∀ (z : Nat) (as : List kV) (h : kH) (r : Int) (I' : zI), hz h → cl d z (as.map zv) (zi h) = some (r, I') → Ev g z d as h (zQ r I')) :
    ∀ (f i : Nat) (L : List (Option kV)) (st : List kV) (h : kH), hz h → zR (kT z) (cl d) (kC z) (kst z) f i (zLm L) (st.map zv) (zi h) = some (r, I') → Wz g z (d + 1) i 0 0 L st h (zQ r I')
  | 0, i, L, st, h, hh, e => by cases e
  | f + 1, i, L, st, h, hh, e => by
    unfold zR at e
    cases hc : (kC z)[i]? with
    | none => rw [hc] at e; cases e
    | some ins =>
      rw [hc] at e
      have hok : zok ins = true := by
        have h1 := List.all_eq_true.mp zok_all _ (kt_in (y := z) (by omega))
        exact List.all_eq_true.mp h1 ins (List.mem_of_getElem? hc)
      refine stp_ok (by omega) hc (K := fun c n i L st h => c = 0 ∧ n = 0 ∧ hz h ∧ (fun i L st I => zR (kT z) (cl d) (kC z) (kst z) f i (ztr (kst z) i L) st I) i (zLm L) (st.map zv) (zi h) = some (r, I')) ?_ ?_
      · rintro c n i L st h ⟨rfl, rfl, hh, e⟩
        have e : zR (kT z) (cl d) (kC z) (kst z) f i (ztr (kst z) i (zLm L)) (st.map zv) (zi h) = some (r, I') := e
        unfold ztr at e
        cases hs : stf (kst z) i with
        | none => rw [hs] at e; exact zR_ok hz4 hk0 ihd f i L st h hh e
        | some k =>
          rw [hs] at e
          have e2 : (zLm L).take k = zLm (L.take k) := by unfold zLm; rw [List.map_take]
          have e : zR (kT z) (cl d) (kC z) (kst z) f i ((zLm L).take k) (st.map zv) (zi h) = some (r, I') := e
          rw [e2] at e
          exact Wz_take (zR_ok hz4 hk0 ihd f i (L.take k) st h hh e)
      · rw [hk0]
        exact zs_ok hh hok ihd e
theorem cl_ok {g : kG} : ∀ (d z : Nat) (as : List kV) (h : kH) (r : Int) (I' : zI), hz h → cl d z (as.map zv) (zi h) = some (r, I') → Ev g z d as h (zQ r I') := by
  intro d
  induction d with
  | zero =>
    intro z as h r I' hh e
    unfold cl zC at e
    split at e
    · exact absurd (zite e).1.2 (by decide)
    · split at e
      · rw [← List.map_reverse] at e
        obtain ⟨x, s, -, e⟩ := z1_ok e
        exact absurd (zite e).1.2.1 (by decide)
      · obtain ⟨-, e⟩ := zite e
        cases e
  | succ d ih =>
    intro z as h r I' hh e
    unfold cl zC at e
    split at e
    · rename_i hz7
      obtain ⟨⟨h1, h5⟩, e⟩ := zite e
      cases e
      subst hz7
      rw [zv_one h1]
      obtain ⟨k, rfl⟩ : ∃ k, d = k + 1 := ⟨d - 1, by omega⟩
      exact ks_297 ⟨rfl, hh, rfl⟩
    · split at e
      · rename_i hz8
        subst hz8
        rw [← List.map_reverse] at e
        obtain ⟨x, s, hs, e⟩ := z1_ok e
        obtain ⟨⟨h1, h5, h6⟩, e⟩ := zite e
        have h1 := zv_one h1
        cases e
        have h2 : as = [.inr (some 1000002), .inl x] := by
          have := congrArg List.reverse hs
          rw [List.reverse_reverse, h1] at this
          exact this
        rw [h2]
        obtain ⟨k, rfl⟩ : ∃ k, d = k + 3 := ⟨d - 3, by omega⟩
        exact ks_298 (vp_in_iff.mpr h6) ⟨rfl, hh, rfl⟩
      · obtain ⟨h1, e⟩ := zite e
        unfold zgo at h1
        simp only [Bool.and_eq_true, decide_eq_true_eq, List.length_map] at h1
        obtain ⟨⟨h1, h2⟩, h3⟩ := h1
        obtain ⟨f, hf⟩ := zD_in e
        refine Ev_of h1 h3 (zR_ok h1 h2 ih f 0 (as.map some) [] h hh ?_)
        have e3 : zLm (as.map some) = (as.map zv).map some := by unfold zLm; simp
        rw [e3]
        exact hf
