/-! THE WHOLE WALK -/
theorem i32_b {v : Int32} : (if v = 0 then (0 : Int32) else 1).toInt = 0 ∨ (if v = 0 then (0 : Int32) else 1).toInt = 1 := by
  split
  · exact Or.inl rfl
  · exact Or.inr rfl
theorem la_b1 {g : kG} {d c n : Nat} {x v : Int32} {st : List kV} {h : kH} {Q : Int32 → kH → Prop} (i : Nat) (t1 t2 : Int) (e : (decide (kc_304[i]? = some (.ifCond .eq t1)) && (decide (kc_304[i + 1]? = some (.sipush 1)) && (decide (kc_304[i + 2]? = some (.goto t2)) && (decide (kc_304[i + 3]? = some (.sipush 0)) && (decide (t1.toNat = i + 3) && decide (t2.toNat = i + 4)))))) = true)
    (w : Wz g 304 (d + 1) (i + 4) c n (L4 x) (.inl (if v = 0 then 0 else 1) :: st) h Q) : Wz g 304 (d + 1) i c n (L4 x) (.inl v :: st) h Q := by
  simp only [Bool.and_eq_true, decide_eq_true_eq] at e
  obtain ⟨e0, e1, e2, e3, e4, e5⟩ := e
  have o1 : Int32.ofInt 1 = 1 := by decide
  have o0 : Int32.ofInt 0 = 0 := by decide
  have key : Wz g 304 (d + 1) i c n (L4 x) (.inl v :: st) h Q := by
    by_cases hv : v = 0
    · refine Wz_wqc [] 2 (by decide) me_304 mc_304 ?_
      show wq g 304 d (some .boolean) 283 25584 kc_304 [] Q 2 c n i (L4 x) (.inl v :: st) h
      simp only [if_pos hv] at w
      simp only [wq, stf, e0, e1, e2, e3, e4, sp_ifCond, sp_sipush, sp_goto, p1, cz, hv, true_implies, not_true_eq_false, false_implies, and_true, o0, Nat.add_assoc, Nat.reduceAdd]
      exact w
    · refine Wz_wqc [] 3 (by decide) me_304 mc_304 ?_
      show wq g 304 d (some .boolean) 283 25584 kc_304 [] Q 3 c n i (L4 x) (.inl v :: st) h
      simp only [if_neg hv] at w
      simp only [wq, stf, e0, e1, e2, e3, e4, e5, sp_ifCond, sp_sipush, sp_goto, p1, cz, hv, true_implies, not_false_eq_true, false_implies, true_and, o1, Nat.add_assoc, Nat.reduceAdd]
      exact w
  exact key
theorem lc_42 {g : kG} : lcT g 1036 := by
  intro x h Q c n hh hR hc hn hx nx
  refine la_ld 1036 (k := 1) (b := 0) (by decide +kernel) rfl ?_
  refine la_arg 1037 1 (by decide +kernel) (hx 1 (by decide) (by decide)) ?_
  refine la_b1 1042 1045 1046 (by decide +kernel) ?_
  refine la_call 1046 308202 (m := 1) (a := 0) (r := []) (by decide +kernel) hc hn (Nat.le_of_ble_eq_true rfl) rfl rfl (kO_0 hh) (Nat.le_of_ble_eq_true rfl) ?_
  refine Ev_mono (la_two hh rfl (q_image i32_b hR)) fun r1 h1 q => ?_
  obtain ⟨hh1, ev⟩ := q
  refine la_ld 1047 (k := 2) (b := 240) (by decide +kernel) rfl ?_
  refine la_arg 1048 1 (by decide +kernel) (hx 1 (by decide) (by decide)) ?_
  refine la_b1 1053 1056 1057 (by decide +kernel) ?_
  refine la_call 1057 580222 (m := 1) (a := 240) (r := [.inl r1]) (by decide +kernel) hc hn (Nat.le_of_ble_eq_true rfl) rfl rfl (kO_240 hh1) (Nat.le_of_ble_eq_true rfl) ?_
  refine Ev_mono ev fun r2 h2 q => ?_
  obtain ⟨e, hh2, hR2⟩ := q
  subst e
  exact la_end 1058 (by decide +kernel) (nx h2 hh2 hR2)
theorem swT_all {x : Int32} {k : Nat → Prop} : ∀ (ts : List Int) (lo : Int), (∀ t ∈ ts, k t.toNat) → swT x k ts lo
  | [], _, _ => trivial
  | t :: r, lo, h => ⟨fun _ => h t List.mem_cons_self, swT_all r (lo + 1) fun t' ht => h t' (List.mem_cons_of_mem _ ht)⟩
def lst : List Int := [22, 39, 66, 83, 100, 137, 174, 191, 248, 265, 282, 299, 326, 353, 380, 407, 434, 451, 478, 505, 522, 549, 566, 583, 610, 637, 674, 711, 748, 765, 782, 809, 826, 843, 860, 877, 914, 931, 958, 975, 1002, 1029, 1036, 1061]
theorem lc_all {g : kG} : ∀ t ∈ lst, lcT g t.toNat := by
  unfold lst
  simp only [List.forall_mem_cons]
  exact ⟨lc_0, lc_1, lc_2, lc_3, lc_4, lc_5, lc_6, lc_7, lc_8, lc_9, lc_10, lc_11, lc_12, lc_13, lc_14, lc_15, lc_16, lc_17, lc_18, lc_19, lc_20, lc_21, lc_22, lc_23, lc_24, lc_25, lc_26, lc_27, lc_28, lc_29, lc_30, lc_31, lc_32, lc_33, lc_34, lc_35, lc_36, lc_37, lc_38, lc_39, lc_40, lc_41, lc_42, lc_43, fun _ z => absurd z List.not_mem_nil⟩
theorem lp_end {g : kG} {c n : Nat} {x : Int32} {h : kH} {Q : Int32 → kH → Prop} (hc : c = 283) (hn : n ≤ 25584) (q : Q 1 h) : Wz g 304 61 1080 c n (L4 x) [] h Q := by
  have e0 : kc_304[1080]? = some (.sipush 1) := of_decide_eq_true (by decide +kernel)
  have e1 : kc_304[1081]? = some .ireturn := of_decide_eq_true (by decide +kernel)
  have o1 : Int32.ofInt 1 = 1 := by decide
  refine Wz_wqc [] 2 (by decide) me_304 mc_304 ?_
  show wq g 304 60 (some .boolean) 283 25584 kc_304 [] Q 2 c n 1080 (L4 x) [] h
  simp only [wq, stf, e0, e1, sp_sipush, sp_ireturn, krt, o1, Nat.reduceAdd]
  first
    | exact ⟨hc, hn, Or.inr rfl, q⟩
    | exact ⟨Or.inr rfl, hc, hn, q⟩
    | (refine ⟨?_, ?_, ?_, ?_⟩ <;> first | exact hc | exact hn | exact q | exact Or.inr trivial)
theorem lp_next {g : kG} {c n : Nat} {x : Int32} {h : kH} {Q : Int32 → kH → Prop} (w : Wz g 304 61 10 c n (L4 (x + Int32.ofInt 6)) [] h Q) : Wz g 304 61 1078 c n (L4 x) [] h Q := by
  have e0 : kc_304[1078]? = some (.iinc 3 6) := of_decide_eq_true (by decide +kernel)
  have e1 : kc_304[1079]? = some (.goto 10) := of_decide_eq_true (by decide +kernel)
  refine Wz_wqc [] 2 (by decide) me_304 mc_304 ?_
  show wq g 304 60 (some .boolean) 283 25584 kc_304 [] Q 2 c n 1078 (L4 x) [] h
  simp only [wq, stf, e0, e1, sp_iinc, sp_goto, lI, L4, sL, List.getElem?_cons_zero, List.getElem?_cons_succ, List.length_cons, List.length_nil, List.set_cons_zero, List.set_cons_succ, Nat.reduceAdd, Nat.reduceLT, if_true, ite_true, Int.reduceToNat]
  exact w
theorem lp {g : kG} {c n : Nat} {Q : Int32 → kH → Prop} (hL : gL g ≤ 3072) (hc : c = 283) (hn : n ≤ 25584) (hQ : ∀ h, Q 1 h) : ∀ (m k : Nat) (h : kH), 4000 ≤ k + m → k ≤ 5000 → hz h → Rl (zi h) → Wz g 304 61 10 c n (L4 (Int32.ofInt (k : Int))) [] h Q := by
  have e10 : kc_304[10]? = some (.iload 3) := of_decide_eq_true (by decide +kernel)
  have e11 : kc_304[11]? = some (.aload 0) := of_decide_eq_true (by decide +kernel)
  have e12 : kc_304[12]? = some .arraylength := of_decide_eq_true (by decide +kernel)
  have e13 : kc_304[13]? = some (.sipush 6) := of_decide_eq_true (by decide +kernel)
  have e14 : kc_304[14]? = some .isub := of_decide_eq_true (by decide +kernel)
  have e15 : kc_304[15]? = some (.if_icmp .gt 1080) := of_decide_eq_true (by decide +kernel)
  have e16 : kc_304[16]? = some (.aload 0) := of_decide_eq_true (by decide +kernel)
  have e17 : kc_304[17]? = some (.iload 3) := of_decide_eq_true (by decide +kernel)
  have e18 : kc_304[18]? = some .iaload := of_decide_eq_true (by decide +kernel)
  have e19 : kc_304[19]? = some (.sipush 63) := of_decide_eq_true (by decide +kernel)
  have e20 : kc_304[20]? = some .iand := of_decide_eq_true (by decide +kernel)
  have e21 : kc_304[21]? = some (.tableswitch 1078 0 43 lst.toArray) := of_decide_eq_true (by decide +kernel)
  have hN : Int32.ofNat (gL g) = Int32.ofInt ((gL g : Nat) : Int) := by first | rfl | simp
  have cmp : ∀ k : Nat, k ≤ 5000 → (Int32.ofNat (gL g) - Int32.ofInt 6 < Int32.ofInt (k : Int) ↔ (gL g : Int) - 6 < (k : Int)) := by
    intro k hk
    rw [hN, zi_sub, zi_lt (by omega) (by omega) (by omega) (by omega)]
  have head : ∀ (k : Nat) (h : kH), k ≤ 5000 → ((gL g : Int) - 6 < (k : Int) → Q 1 h) → (¬ (gL g : Int) - 6 < (k : Int) → Wz g 304 61 16 c n (L4 (Int32.ofInt (k : Int))) [] h Q) → Wz g 304 61 10 c n (L4 (Int32.ofInt (k : Int))) [] h Q := by
    intro k h hk w1 w2
    refine Wz_wqc [] 6 (by decide) me_304 mc_304 ?_
    show wq g 304 60 (some .boolean) 283 25584 kc_304 [] Q 6 c n 10 (L4 (Int32.ofInt (k : Int))) [] h
    simp only [wq, L4, stf, e10, e11, e12, e13, e14, e15, sp_aload, sp_iload, sp_sipush, sp_isub, sp_arraylength, sp_if_icmp, lR, lI, p2, pr, cz, List.getElem?_cons_zero, List.getElem?_cons_succ, Nat.reduceAdd, Nat.lt_irrefl, if_false, if_true, ite_false, ite_true, Int.reduceToNat, cmp k hk]
    exact ⟨fun q => lp_end hc hn (w1 q), w2⟩
  intro m
  induction m with
  | zero =>
    intro k h h1 h2 hh hR
    exact head k h h2 (fun _ => hQ h) (fun q => absurd (show (gL g : Int) - 6 < (k : Int) by omega) q)
  | succ m ih =>
    intro k h h1 h2 hh hR
    refine head k h h2 (fun _ => hQ h) (fun q => ?_)
    have hin : ∀ j : Int, 0 ≤ j → j ≤ 5 → vp_in (Int32.ofInt (k : Int) + Int32.ofInt j) (gL g) := fun j j0 j1 => by
      rw [zi_add]
      refine vp_in_iff.mpr ?_
      rw [zi_T (by omega) (by omega)]
      omega
    have hin0 : vp_in (Int32.ofInt (k : Int)) (gL g) := by
      refine vp_in_iff.mpr ?_
      rw [zi_T (by omega) (by omega)]
      omega
    have nx : ∀ h2, hz h2 → Rl (zi h2) → Wz g 304 61 1078 c n (L4 (Int32.ofInt (k : Int))) [] h2 Q := fun h2 hh2 hR2 => by
      refine lp_next ?_
      rw [zi_add, show (k : Int) + 6 = ((k + 6 : Nat) : Int) by omega]
      exact ih (k + 6) h2 (by omega) (by omega) hh2 hR2
    refine Wz_wqc [] 6 (by decide) me_304 mc_304 ?_
    show wq g 304 60 (some .boolean) 283 25584 kc_304 [] Q 6 c n 16 (L4 (Int32.ofInt (k : Int))) [] h
    have all : ∀ t ∈ lst, Wz g 304 61 t.toNat c n (L4 (Int32.ofInt (k : Int))) [] h Q := fun t ht => lc_all t ht (Int32.ofInt (k : Int)) h Q c n hh hR (by omega) hn hin nx
    have dft := nx h hh hR
    unfold L4 at all dft
    simp only [wq, L4, stf, e16, e17, e18, e19, e20, e21, sp_aload, sp_iload, sp_sipush, sp_iaload, sp_iand, sp_tableswitch, lR, lI, p1, p2, pr, List.getElem?_cons_zero, List.getElem?_cons_succ, Nat.reduceAdd, Nat.lt_irrefl, if_false, if_true, ite_false, ite_true, Int.reduceToNat]
    exact ⟨hin0, swT_all _ _ all, fun _ => dft⟩
theorem lw_go {g : kG} {Q : Int32 → kH → Prop} (hL : gL g ≤ 3072) (hQ : ∀ h, Q 1 h) : Wz g 304 61 0 0 0 [some (.inr (some 1000000))] [] h_0 Q := by
  have e0 : kc_304[0]? = some (.new 10) := rfl
  have e1 : kc_304[1]? = some .dup := rfl
  have e2 : kc_304[2]? = some (.invokespecial 222201) := rfl
  have e3 : kc_304[3]? = some (.astore 1) := rfl
  have e4 : kc_304[4]? = some (.new 11) := rfl
  have e5 : kc_304[5]? = some .dup := rfl
  have e6 : kc_304[6]? = some (.invokespecial 314221) := rfl
  have e7 : kc_304[7]? = some (.astore 2) := rfl
  have e8 : kc_304[8]? = some (.sipush 0) := rfl
  have e9 : kc_304[9]? = some (.istore 3) := rfl
  have n10 : kn_N 10 = 8 := rfl
  have n11 : kn_N 11 = 76 := rfl
  have c111 : kc_c 111 = (239, 11524) := by decide +kernel
  have c157 : kc_c 157 = (42, 13976) := by decide +kernel
  have hn0 : hn h_0 = 0 := rfl
  have k1 : kO (uN h_0 0 10) 0 10 := kO_nw h_0 10
  have k2 : kO (uN h_1 0 11) 240 11 := by
    have := kO_nw h_1 11
    rwa [hn_1] at this
  refine Wz_wqc [] 3 (by decide) me_304 mc_304 ?_
  show wq g 304 60 (some .boolean) 283 25584 kc_304 [] Q 3 0 0 0 [some (.inr (some 1000000))] [] h_0
  simp only [wq, stf, e0, e1, e2, sp_new, sp_dup, sp_invokespecial, hn0, n10, pr, kq_n, kq_y, kq_c, Nat.reduceAdd, Nat.reduceDiv, Nat.reduceMod, Nat.reduceMul, List.take_zero, List.drop_zero, List.reverse_nil, List.length_cons, List.length_nil, c111]
  refine ⟨by decide, by decide, by decide, by decide, k1, by decide, by decide, by decide, ?_⟩
  refine ks_X10_init (d := 56) k1 (by rw [hn_uN]; exact (by decide)) ?_
  refine Wz_wqc [] 4 (by decide) me_304 mc_304 ?_
  show wq g 304 60 (some .boolean) 283 25584 kc_304 [] Q 4 240 11532 3 [some (.inr (some 1000000))] [.inr (some 0)] h_1
  simp only [wq, stf, e3, e4, e5, e6, sp_astore, sp_new, sp_dup, sp_invokespecial, hn_1, n11, pr, kq_n, kq_y, kq_c, sL, Nat.reduceAdd, Nat.reduceDiv, Nat.reduceMod, Nat.reduceMul, Nat.reduceSub, Nat.reduceLT, Nat.lt_irrefl, List.take_zero, List.drop_zero, List.reverse_nil, List.length_cons, List.length_nil, List.replicate_zero, List.nil_append, List.cons_append, if_false, ite_false, c157]
  refine ⟨by decide, by decide, by decide, by decide, k2, by decide, by decide, by decide, ?_⟩
  refine ks_X11_init (d := 59) k2 (by rw [hn_uN, hn_1]; exact (by decide)) ?_
  refine Wz_wqc [] 3 (by decide) me_304 mc_304 ?_
  show wq g 304 60 (some .boolean) 283 25584 kc_304 [] Q 3 283 25584 7 [some (.inr (some 1000000)), some (.inr (some 0))] [.inr (some 240)] h_4
  simp only [wq, stf, e7, e8, e9, sp_astore, sp_sipush, sp_istore, p1, sL, Nat.reduceAdd, Nat.reduceSub, Nat.reduceLT, Nat.lt_irrefl, List.length_cons, List.length_nil, List.replicate_zero, List.nil_append, List.cons_append, if_false, ite_false]
  exact lp hL rfl (Nat.le_refl _) hQ 4000 0 h_4 (by decide) (by decide) hz_0 Rl_0
