/-! THE LAW'S LOOP -/
theorem mc_304 : kc_c 304 = (283, 25584) := by decide +kernel
def L4 (x : Int32) : List (Option kV) := [some (.inr (some 1000000)), some (.inr (some 0)), some (.inr (some 240)), some (.inl x)]
def ckA (i : Nat) (k : Int) : Bool := decide (kc_304[i]? = some (.aload 0)) && (decide (kc_304[i + 1]? = some (.iload 3)) && (decide (kc_304[i + 2]? = some (.sipush k)) && (decide (kc_304[i + 3]? = some .iadd) && decide (kc_304[i + 4]? = some .iaload))))
theorem la_arg {g : kG} {d c n : Nat} {x : Int32} {st : List kV} {h : kH} {Q : Int32 → kH → Prop} (i : Nat) (k : Int) (e : ckA i k = true) (hx : vp_in (x + Int32.ofInt k) (gL g)) (w : Wz g 304 (d + 1) (i + 5) c n (L4 x) (.inl (gs g (x + Int32.ofInt k).toNatClampNeg) :: st) h Q) : Wz g 304 (d + 1) i c n (L4 x) st h Q := by
  unfold ckA at e
  simp only [Bool.and_eq_true, decide_eq_true_eq] at e
  obtain ⟨e0, e1, e2, e3, e4⟩ := e
  refine Wz_wqc [] 5 (by decide) me_304 mc_304 ?_
  show wq g 304 d (some .boolean) 283 25584 kc_304 [] Q 5 c n i (L4 x) st h
  simp only [wq, L4, stf, Nat.add_assoc, Nat.reduceAdd, e0, e1, e2, e3, e4, sp_aload, sp_iload, sp_sipush, sp_iadd, sp_iaload, lR, lI, p2, List.getElem?_cons_zero, List.getElem?_cons_succ, Nat.lt_irrefl, if_false, if_true, ite_false, ite_true]
  exact ⟨hx, w⟩
theorem la_ld {g : kG} {d c n k b : Nat} {x : Int32} {st : List kV} {h : kH} {Q : Int32 → kH → Prop} (i : Nat) (e : decide (kc_304[i]? = some (.aload k)) = true) (hk : (L4 x)[k]? = some (some (.inr (some b)))) (w : Wz g 304 (d + 1) (i + 1) c n (L4 x) (.inr (some b) :: st) h Q) : Wz g 304 (d + 1) i c n (L4 x) st h Q := by
  have e := of_decide_eq_true e
  refine Wz_wqc [] 1 (by decide) me_304 mc_304 ?_
  show wq g 304 d (some .boolean) 283 25584 kc_304 [] Q 1 c n i (L4 x) st h
  simp only [wq, stf, e, sp_aload, lR, hk]
  exact w
theorem la_call {g : kG} {d c n m a : Nat} {x : Int32} {as st r : List kV} {h : kH} {Q : Int32 → kH → Prop} (i q : Nat) (e : (decide (kc_304[i]? = some (.invokevirtual q)) && (decide (kq_n q = m) && (decide (q % 2 = 0) && decide (¬ kq_c q = 99)))) = true) (hc : c ≤ 283) (hn' : n ≤ 25584) (hm : m ≤ st.length) (ha : (st.take m).reverse = as) (hd : st.drop m = .inr (some a) :: r) (ho : kO h a (kq_c q)) (hr : r.length ≤ 8)
    (w : Ev g (kq_y q) d (.inr (some a) :: as) h (fun x1 h1 => Wz g 304 (d + 1) (i + 1) c n (L4 x) (.inl x1 :: r) h1 Q)) : Wz g 304 (d + 1) i c n (L4 x) st h Q := by
  simp only [Bool.and_eq_true, decide_eq_true_eq] at e
  obtain ⟨e0, e1, e2, e3⟩ := e
  subst e1
  have e4 : ¬ q % 2 = 1 := by omega
  refine Wz_wqc [] 1 (by decide) me_304 mc_304 ?_
  show wq g 304 d (some .boolean) 283 25584 kc_304 [] Q 1 c n i (L4 x) st h
  simp only [wq, stf, e0, sp_invokevirtual, hd, pr, krv, if_neg e3, if_neg e4, ha]
  exact ⟨hc, hn', hm, ho, hr, w⟩
theorem la_end {g : kG} {d c n : Nat} {x y : Int32} {h : kH} {Q : Int32 → kH → Prop} (i : Nat) (e : decide (kc_304[i]? = some (.if_icmp .eq 1078)) = true) (w : Wz g 304 (d + 1) 1078 c n (L4 x) [] h Q) : Wz g 304 (d + 1) i c n (L4 x) [.inl y, .inl y] h Q := by
  have e := of_decide_eq_true e
  refine Wz_wqc [] 1 (by decide) me_304 mc_304 ?_
  show wq g 304 d (some .boolean) 283 25584 kc_304 [] Q 1 c n i (L4 x) [.inl y, .inl y] h
  simp only [wq, stf, e, sp_if_icmp, p2, cz, true_implies, not_true_eq_false, false_implies, and_true, Int.reduceToNat]
  exact w
theorem la_two {g : kG} {y1 y2 : Nat} {as : List kV} {zs : List zV} {h : kH} (hh : hz h) (hz' : as.map zv = zs) (P : Pair y1 y2 zs (zi h)) : Ev g y1 60 (.inr (some 0) :: as) h (fun r1 h1 => hz h1 ∧ Ev g y2 60 (.inr (some 240) :: as) h1 (fun r2 h2 => r2 = r1 ∧ hz h2 ∧ Rl (zi h2))) := by
  obtain ⟨r, I1, I2, e1, e2, hR⟩ := P
  subst hz'
  refine Ev_mono (cl_ok 60 y1 (.inr (some 0) :: as) h r I1 hh e1) fun x h1 q => ?_
  obtain ⟨q1, q2, q3⟩ := q
  subst q3
  refine ⟨q2, Ev_mono (cl_ok 60 y2 (.inr (some 240) :: as) h1 r I2 q2 e2) fun x2 h2 p => ?_⟩
  obtain ⟨p1, p2, p3⟩ := p
  subst p3
  exact ⟨Int32.toInt_inj.mp (p1.trans q1.symm), p2, hR⟩
theorem kO_0 {h : kH} (hh : hz h) : kO h 0 10 := zkd_O hh (by decide +kernel)
theorem kO_240 {h : kH} (hh : hz h) : kO h 240 11 := zkd_O hh (by decide +kernel)
abbrev lcT (g : kG) (s : Nat) : Prop := ∀ (x : Int32) (h : kH) (Q : Int32 → kH → Prop) (c n : Nat), hz h → Rl (zi h) → c ≤ 283 → n ≤ 25584 → (∀ k : Int, 0 ≤ k → k ≤ 5 → vp_in (x + Int32.ofInt k) (gL g)) → (∀ h2, hz h2 → Rl (zi h2) → Wz g 304 61 1078 c n (L4 x) [] h2 Q) → Wz g 304 61 s c n (L4 x) [] h Q
theorem lc_0 {g : kG} : lcT g 22 := by
  intro x h Q c n hh hR hc hn hx nx
  refine la_ld 22 (k := 1) (b := 0) (by decide +kernel) rfl ?_
  refine la_arg 23 1 (by decide +kernel) (hx 1 (by decide) (by decide)) ?_
  refine la_call 28 224202 (m := 1) (a := 0) (r := []) (by decide +kernel) hc hn (Nat.le_of_ble_eq_true rfl) rfl rfl (kO_0 hh) (Nat.le_of_ble_eq_true rfl) ?_
  refine Ev_mono (la_two hh rfl (q_state hR)) fun r1 h1 q => ?_
  obtain ⟨hh1, ev⟩ := q
  refine la_ld 29 (k := 2) (b := 240) (by decide +kernel) rfl ?_
  refine la_arg 30 1 (by decide +kernel) (hx 1 (by decide) (by decide)) ?_
  refine la_call 35 340222 (m := 1) (a := 240) (r := [.inl r1]) (by decide +kernel) hc hn (Nat.le_of_ble_eq_true rfl) rfl rfl (kO_240 hh1) (Nat.le_of_ble_eq_true rfl) ?_
  refine Ev_mono ev fun r2 h2 q => ?_
  obtain ⟨e, hh2, hR2⟩ := q
  subst e
  exact la_end 36 (by decide +kernel) (nx h2 hh2 hR2)
theorem lc_1 {g : kG} : lcT g 39 := by
  intro x h Q c n hh hR hc hn hx nx
  refine la_ld 39 (k := 1) (b := 0) (by decide +kernel) rfl ?_
  refine la_arg 40 1 (by decide +kernel) (hx 1 (by decide) (by decide)) ?_
  refine la_arg 45 2 (by decide +kernel) (hx 2 (by decide) (by decide)) ?_
  refine la_call 50 226204 (m := 2) (a := 0) (r := []) (by decide +kernel) hc hn (Nat.le_of_ble_eq_true rfl) rfl rfl (kO_0 hh) (Nat.le_of_ble_eq_true rfl) ?_
  refine Ev_mono (la_two hh rfl (q_quill hR)) fun r1 h1 q => ?_
  obtain ⟨hh1, ev⟩ := q
  refine la_ld 51 (k := 2) (b := 240) (by decide +kernel) rfl ?_
  refine la_arg 52 1 (by decide +kernel) (hx 1 (by decide) (by decide)) ?_
  refine la_arg 57 2 (by decide +kernel) (hx 2 (by decide) (by decide)) ?_
  refine la_call 62 364224 (m := 2) (a := 240) (r := [.inl r1]) (by decide +kernel) hc hn (Nat.le_of_ble_eq_true rfl) rfl rfl (kO_240 hh1) (Nat.le_of_ble_eq_true rfl) ?_
  refine Ev_mono ev fun r2 h2 q => ?_
  obtain ⟨e, hh2, hR2⟩ := q
  subst e
  exact la_end 63 (by decide +kernel) (nx h2 hh2 hR2)
theorem lc_2 {g : kG} : lcT g 66 := by
  intro x h Q c n hh hR hc hn hx nx
  refine la_ld 66 (k := 1) (b := 0) (by decide +kernel) rfl ?_
  refine la_arg 67 1 (by decide +kernel) (hx 1 (by decide) (by decide)) ?_
  refine la_call 72 228202 (m := 1) (a := 0) (r := []) (by decide +kernel) hc hn (Nat.le_of_ble_eq_true rfl) rfl rfl (kO_0 hh) (Nat.le_of_ble_eq_true rfl) ?_
  refine Ev_mono (la_two hh rfl (q_clerk hR)) fun r1 h1 q => ?_
  obtain ⟨hh1, ev⟩ := q
  refine la_ld 73 (k := 2) (b := 240) (by decide +kernel) rfl ?_
  refine la_arg 74 1 (by decide +kernel) (hx 1 (by decide) (by decide)) ?_
  refine la_call 79 366222 (m := 1) (a := 240) (r := [.inl r1]) (by decide +kernel) hc hn (Nat.le_of_ble_eq_true rfl) rfl rfl (kO_240 hh1) (Nat.le_of_ble_eq_true rfl) ?_
  refine Ev_mono ev fun r2 h2 q => ?_
  obtain ⟨e, hh2, hR2⟩ := q
  subst e
  exact la_end 80 (by decide +kernel) (nx h2 hh2 hR2)
theorem lc_3 {g : kG} : lcT g 83 := by
  intro x h Q c n hh hR hc hn hx nx
  refine la_ld 83 (k := 1) (b := 0) (by decide +kernel) rfl ?_
  refine la_arg 84 1 (by decide +kernel) (hx 1 (by decide) (by decide)) ?_
  refine la_call 89 230202 (m := 1) (a := 0) (r := []) (by decide +kernel) hc hn (Nat.le_of_ble_eq_true rfl) rfl rfl (kO_0 hh) (Nat.le_of_ble_eq_true rfl) ?_
  refine Ev_mono (la_two hh rfl (q_deed hR)) fun r1 h1 q => ?_
  obtain ⟨hh1, ev⟩ := q
  refine la_ld 90 (k := 2) (b := 240) (by decide +kernel) rfl ?_
  refine la_arg 91 1 (by decide +kernel) (hx 1 (by decide) (by decide)) ?_
  refine la_call 96 368222 (m := 1) (a := 240) (r := [.inl r1]) (by decide +kernel) hc hn (Nat.le_of_ble_eq_true rfl) rfl rfl (kO_240 hh1) (Nat.le_of_ble_eq_true rfl) ?_
  refine Ev_mono ev fun r2 h2 q => ?_
  obtain ⟨e, hh2, hR2⟩ := q
  subst e
  exact la_end 97 (by decide +kernel) (nx h2 hh2 hR2)
theorem lc_4 {g : kG} : lcT g 100 := by
  intro x h Q c n hh hR hc hn hx nx
  refine la_ld 100 (k := 1) (b := 0) (by decide +kernel) rfl ?_
  refine la_arg 101 1 (by decide +kernel) (hx 1 (by decide) (by decide)) ?_
  refine la_arg 106 2 (by decide +kernel) (hx 2 (by decide) (by decide)) ?_
  refine la_arg 111 3 (by decide +kernel) (hx 3 (by decide) (by decide)) ?_
  refine la_call 116 232206 (m := 3) (a := 0) (r := []) (by decide +kernel) hc hn (Nat.le_of_ble_eq_true rfl) rfl rfl (kO_0 hh) (Nat.le_of_ble_eq_true rfl) ?_
  refine Ev_mono (la_two hh rfl (q_set hR)) fun r1 h1 q => ?_
  obtain ⟨hh1, ev⟩ := q
  refine la_ld 117 (k := 2) (b := 240) (by decide +kernel) rfl ?_
  refine la_arg 118 1 (by decide +kernel) (hx 1 (by decide) (by decide)) ?_
  refine la_arg 123 2 (by decide +kernel) (hx 2 (by decide) (by decide)) ?_
  refine la_arg 128 3 (by decide +kernel) (hx 3 (by decide) (by decide)) ?_
  refine la_call 133 370226 (m := 3) (a := 240) (r := [.inl r1]) (by decide +kernel) hc hn (Nat.le_of_ble_eq_true rfl) rfl rfl (kO_240 hh1) (Nat.le_of_ble_eq_true rfl) ?_
  refine Ev_mono ev fun r2 h2 q => ?_
  obtain ⟨e, hh2, hR2⟩ := q
  subst e
  exact la_end 134 (by decide +kernel) (nx h2 hh2 hR2)
theorem lc_5 {g : kG} : lcT g 137 := by
  intro x h Q c n hh hR hc hn hx nx
  refine la_ld 137 (k := 1) (b := 0) (by decide +kernel) rfl ?_
  refine la_arg 138 1 (by decide +kernel) (hx 1 (by decide) (by decide)) ?_
  refine la_arg 143 2 (by decide +kernel) (hx 2 (by decide) (by decide)) ?_
  refine la_arg 148 3 (by decide +kernel) (hx 3 (by decide) (by decide)) ?_
  refine la_call 153 234206 (m := 3) (a := 0) (r := []) (by decide +kernel) hc hn (Nat.le_of_ble_eq_true rfl) rfl rfl (kO_0 hh) (Nat.le_of_ble_eq_true rfl) ?_
  refine Ev_mono (la_two hh rfl (q_act hR)) fun r1 h1 q => ?_
  obtain ⟨hh1, ev⟩ := q
  refine la_ld 154 (k := 2) (b := 240) (by decide +kernel) rfl ?_
  refine la_arg 155 1 (by decide +kernel) (hx 1 (by decide) (by decide)) ?_
  refine la_arg 160 2 (by decide +kernel) (hx 2 (by decide) (by decide)) ?_
  refine la_arg 165 3 (by decide +kernel) (hx 3 (by decide) (by decide)) ?_
  refine la_call 170 470226 (m := 3) (a := 240) (r := [.inl r1]) (by decide +kernel) hc hn (Nat.le_of_ble_eq_true rfl) rfl rfl (kO_240 hh1) (Nat.le_of_ble_eq_true rfl) ?_
  refine Ev_mono ev fun r2 h2 q => ?_
  obtain ⟨e, hh2, hR2⟩ := q
  subst e
  exact la_end 171 (by decide +kernel) (nx h2 hh2 hR2)
theorem lc_6 {g : kG} : lcT g 174 := by
  intro x h Q c n hh hR hc hn hx nx
  refine la_ld 174 (k := 1) (b := 0) (by decide +kernel) rfl ?_
  refine la_arg 175 1 (by decide +kernel) (hx 1 (by decide) (by decide)) ?_
  refine la_call 180 236202 (m := 1) (a := 0) (r := []) (by decide +kernel) hc hn (Nat.le_of_ble_eq_true rfl) rfl rfl (kO_0 hh) (Nat.le_of_ble_eq_true rfl) ?_
  refine Ev_mono (la_two hh rfl (q_hours hR)) fun r1 h1 q => ?_
  obtain ⟨hh1, ev⟩ := q
  refine la_ld 181 (k := 2) (b := 240) (by decide +kernel) rfl ?_
  refine la_arg 182 1 (by decide +kernel) (hx 1 (by decide) (by decide)) ?_
  refine la_call 187 484222 (m := 1) (a := 240) (r := [.inl r1]) (by decide +kernel) hc hn (Nat.le_of_ble_eq_true rfl) rfl rfl (kO_240 hh1) (Nat.le_of_ble_eq_true rfl) ?_
  refine Ev_mono ev fun r2 h2 q => ?_
  obtain ⟨e, hh2, hR2⟩ := q
  subst e
  exact la_end 188 (by decide +kernel) (nx h2 hh2 hR2)
theorem lc_7 {g : kG} : lcT g 191 := by
  intro x h Q c n hh hR hc hn hx nx
  refine la_ld 191 (k := 1) (b := 0) (by decide +kernel) rfl ?_
  refine la_arg 192 1 (by decide +kernel) (hx 1 (by decide) (by decide)) ?_
  refine la_arg 197 2 (by decide +kernel) (hx 2 (by decide) (by decide)) ?_
  refine la_arg 202 3 (by decide +kernel) (hx 3 (by decide) (by decide)) ?_
  refine la_arg 207 4 (by decide +kernel) (hx 4 (by decide) (by decide)) ?_
  refine la_arg 212 5 (by decide +kernel) (hx 5 (by decide) (by decide)) ?_
  refine la_call 217 238210 (m := 5) (a := 0) (r := []) (by decide +kernel) hc hn (Nat.le_of_ble_eq_true rfl) rfl rfl (kO_0 hh) (Nat.le_of_ble_eq_true rfl) ?_
  refine Ev_mono (la_two hh rfl (q_feed hR)) fun r1 h1 q => ?_
  obtain ⟨hh1, ev⟩ := q
  refine la_ld 218 (k := 2) (b := 240) (by decide +kernel) rfl ?_
  refine la_arg 219 1 (by decide +kernel) (hx 1 (by decide) (by decide)) ?_
  refine la_arg 224 2 (by decide +kernel) (hx 2 (by decide) (by decide)) ?_
  refine la_arg 229 3 (by decide +kernel) (hx 3 (by decide) (by decide)) ?_
  refine la_arg 234 4 (by decide +kernel) (hx 4 (by decide) (by decide)) ?_
  refine la_arg 239 5 (by decide +kernel) (hx 5 (by decide) (by decide)) ?_
  refine la_call 244 374230 (m := 5) (a := 240) (r := [.inl r1]) (by decide +kernel) hc hn (Nat.le_of_ble_eq_true rfl) rfl rfl (kO_240 hh1) (Nat.le_of_ble_eq_true rfl) ?_
  refine Ev_mono ev fun r2 h2 q => ?_
  obtain ⟨e, hh2, hR2⟩ := q
  subst e
  exact la_end 245 (by decide +kernel) (nx h2 hh2 hR2)
theorem lc_8 {g : kG} : lcT g 248 := by
  intro x h Q c n hh hR hc hn hx nx
  refine la_ld 248 (k := 1) (b := 0) (by decide +kernel) rfl ?_
  refine la_arg 249 1 (by decide +kernel) (hx 1 (by decide) (by decide)) ?_
  refine la_call 254 240202 (m := 1) (a := 0) (r := []) (by decide +kernel) hc hn (Nat.le_of_ble_eq_true rfl) rfl rfl (kO_0 hh) (Nat.le_of_ble_eq_true rfl) ?_
  refine Ev_mono (la_two hh rfl (q_end hR)) fun r1 h1 q => ?_
  obtain ⟨hh1, ev⟩ := q
  refine la_ld 255 (k := 2) (b := 240) (by decide +kernel) rfl ?_
  refine la_arg 256 1 (by decide +kernel) (hx 1 (by decide) (by decide)) ?_
  refine la_call 261 376222 (m := 1) (a := 240) (r := [.inl r1]) (by decide +kernel) hc hn (Nat.le_of_ble_eq_true rfl) rfl rfl (kO_240 hh1) (Nat.le_of_ble_eq_true rfl) ?_
  refine Ev_mono ev fun r2 h2 q => ?_
  obtain ⟨e, hh2, hR2⟩ := q
  subst e
  exact la_end 262 (by decide +kernel) (nx h2 hh2 hR2)
theorem lc_9 {g : kG} : lcT g 265 := by
  intro x h Q c n hh hR hc hn hx nx
  refine la_ld 265 (k := 1) (b := 0) (by decide +kernel) rfl ?_
  refine la_arg 266 1 (by decide +kernel) (hx 1 (by decide) (by decide)) ?_
  refine la_call 271 242202 (m := 1) (a := 0) (r := []) (by decide +kernel) hc hn (Nat.le_of_ble_eq_true rfl) rfl rfl (kO_0 hh) (Nat.le_of_ble_eq_true rfl) ?_
  refine Ev_mono (la_two hh rfl (q_text hR)) fun r1 h1 q => ?_
  obtain ⟨hh1, ev⟩ := q
  refine la_ld 272 (k := 2) (b := 240) (by decide +kernel) rfl ?_
  refine la_arg 273 1 (by decide +kernel) (hx 1 (by decide) (by decide)) ?_
  refine la_call 278 442222 (m := 1) (a := 240) (r := [.inl r1]) (by decide +kernel) hc hn (Nat.le_of_ble_eq_true rfl) rfl rfl (kO_240 hh1) (Nat.le_of_ble_eq_true rfl) ?_
  refine Ev_mono ev fun r2 h2 q => ?_
  obtain ⟨e, hh2, hR2⟩ := q
  subst e
  exact la_end 279 (by decide +kernel) (nx h2 hh2 hR2)
theorem lc_10 {g : kG} : lcT g 282 := by
  intro x h Q c n hh hR hc hn hx nx
  refine la_ld 282 (k := 1) (b := 0) (by decide +kernel) rfl ?_
  refine la_arg 283 1 (by decide +kernel) (hx 1 (by decide) (by decide)) ?_
  refine la_call 288 244202 (m := 1) (a := 0) (r := []) (by decide +kernel) hc hn (Nat.le_of_ble_eq_true rfl) rfl rfl (kO_0 hh) (Nat.le_of_ble_eq_true rfl) ?_
  refine Ev_mono (la_two hh rfl (q_fault hR)) fun r1 h1 q => ?_
  obtain ⟨hh1, ev⟩ := q
  refine la_ld 289 (k := 2) (b := 240) (by decide +kernel) rfl ?_
  refine la_arg 290 1 (by decide +kernel) (hx 1 (by decide) (by decide)) ?_
  refine la_call 295 444222 (m := 1) (a := 240) (r := [.inl r1]) (by decide +kernel) hc hn (Nat.le_of_ble_eq_true rfl) rfl rfl (kO_240 hh1) (Nat.le_of_ble_eq_true rfl) ?_
  refine Ev_mono ev fun r2 h2 q => ?_
  obtain ⟨e, hh2, hR2⟩ := q
  subst e
  exact la_end 296 (by decide +kernel) (nx h2 hh2 hR2)
theorem lc_11 {g : kG} : lcT g 299 := by
  intro x h Q c n hh hR hc hn hx nx
  refine la_ld 299 (k := 1) (b := 0) (by decide +kernel) rfl ?_
  refine la_arg 300 1 (by decide +kernel) (hx 1 (by decide) (by decide)) ?_
  refine la_arg 305 2 (by decide +kernel) (hx 2 (by decide) (by decide)) ?_
  refine la_call 310 246204 (m := 2) (a := 0) (r := []) (by decide +kernel) hc hn (Nat.le_of_ble_eq_true rfl) rfl rfl (kO_0 hh) (Nat.le_of_ble_eq_true rfl) ?_
  refine Ev_mono (la_two hh rfl (q_of hR)) fun r1 h1 q => ?_
  obtain ⟨hh1, ev⟩ := q
  refine la_ld 311 (k := 2) (b := 240) (by decide +kernel) rfl ?_
  refine la_arg 312 1 (by decide +kernel) (hx 1 (by decide) (by decide)) ?_
  refine la_arg 317 2 (by decide +kernel) (hx 2 (by decide) (by decide)) ?_
  refine la_call 322 486224 (m := 2) (a := 240) (r := [.inl r1]) (by decide +kernel) hc hn (Nat.le_of_ble_eq_true rfl) rfl rfl (kO_240 hh1) (Nat.le_of_ble_eq_true rfl) ?_
  refine Ev_mono ev fun r2 h2 q => ?_
  obtain ⟨e, hh2, hR2⟩ := q
  subst e
  exact la_end 323 (by decide +kernel) (nx h2 hh2 hR2)
theorem lc_12 {g : kG} : lcT g 326 := by
  intro x h Q c n hh hR hc hn hx nx
  refine la_ld 326 (k := 1) (b := 0) (by decide +kernel) rfl ?_
  refine la_arg 327 1 (by decide +kernel) (hx 1 (by decide) (by decide)) ?_
  refine la_arg 332 2 (by decide +kernel) (hx 2 (by decide) (by decide)) ?_
  refine la_call 337 248204 (m := 2) (a := 0) (r := []) (by decide +kernel) hc hn (Nat.le_of_ble_eq_true rfl) rfl rfl (kO_0 hh) (Nat.le_of_ble_eq_true rfl) ?_
  refine Ev_mono (la_two hh rfl (q_who hR)) fun r1 h1 q => ?_
  obtain ⟨hh1, ev⟩ := q
  refine la_ld 338 (k := 2) (b := 240) (by decide +kernel) rfl ?_
  refine la_arg 339 1 (by decide +kernel) (hx 1 (by decide) (by decide)) ?_
  refine la_arg 344 2 (by decide +kernel) (hx 2 (by decide) (by decide)) ?_
  refine la_call 349 488224 (m := 2) (a := 240) (r := [.inl r1]) (by decide +kernel) hc hn (Nat.le_of_ble_eq_true rfl) rfl rfl (kO_240 hh1) (Nat.le_of_ble_eq_true rfl) ?_
  refine Ev_mono ev fun r2 h2 q => ?_
  obtain ⟨e, hh2, hR2⟩ := q
  subst e
  exact la_end 350 (by decide +kernel) (nx h2 hh2 hR2)
theorem lc_13 {g : kG} : lcT g 353 := by
  intro x h Q c n hh hR hc hn hx nx
  refine la_ld 353 (k := 1) (b := 0) (by decide +kernel) rfl ?_
  refine la_arg 354 1 (by decide +kernel) (hx 1 (by decide) (by decide)) ?_
  refine la_arg 359 2 (by decide +kernel) (hx 2 (by decide) (by decide)) ?_
  refine la_call 364 250204 (m := 2) (a := 0) (r := []) (by decide +kernel) hc hn (Nat.le_of_ble_eq_true rfl) rfl rfl (kO_0 hh) (Nat.le_of_ble_eq_true rfl) ?_
  refine Ev_mono (la_two hh rfl (q_deedOf hR)) fun r1 h1 q => ?_
  obtain ⟨hh1, ev⟩ := q
  refine la_ld 365 (k := 2) (b := 240) (by decide +kernel) rfl ?_
  refine la_arg 366 1 (by decide +kernel) (hx 1 (by decide) (by decide)) ?_
  refine la_arg 371 2 (by decide +kernel) (hx 2 (by decide) (by decide)) ?_
  refine la_call 376 490224 (m := 2) (a := 240) (r := [.inl r1]) (by decide +kernel) hc hn (Nat.le_of_ble_eq_true rfl) rfl rfl (kO_240 hh1) (Nat.le_of_ble_eq_true rfl) ?_
  refine Ev_mono ev fun r2 h2 q => ?_
  obtain ⟨e, hh2, hR2⟩ := q
  subst e
  exact la_end 377 (by decide +kernel) (nx h2 hh2 hR2)
theorem lc_14 {g : kG} : lcT g 380 := by
  intro x h Q c n hh hR hc hn hx nx
  refine la_ld 380 (k := 1) (b := 0) (by decide +kernel) rfl ?_
  refine la_arg 381 1 (by decide +kernel) (hx 1 (by decide) (by decide)) ?_
  refine la_arg 386 2 (by decide +kernel) (hx 2 (by decide) (by decide)) ?_
  refine la_call 391 252204 (m := 2) (a := 0) (r := []) (by decide +kernel) hc hn (Nat.le_of_ble_eq_true rfl) rfl rfl (kO_0 hh) (Nat.le_of_ble_eq_true rfl) ?_
  refine Ev_mono (la_two hh rfl (q_book hR)) fun r1 h1 q => ?_
  obtain ⟨hh1, ev⟩ := q
  refine la_ld 392 (k := 2) (b := 240) (by decide +kernel) rfl ?_
  refine la_arg 393 1 (by decide +kernel) (hx 1 (by decide) (by decide)) ?_
  refine la_arg 398 2 (by decide +kernel) (hx 2 (by decide) (by decide)) ?_
  refine la_call 403 492224 (m := 2) (a := 240) (r := [.inl r1]) (by decide +kernel) hc hn (Nat.le_of_ble_eq_true rfl) rfl rfl (kO_240 hh1) (Nat.le_of_ble_eq_true rfl) ?_
  refine Ev_mono ev fun r2 h2 q => ?_
  obtain ⟨e, hh2, hR2⟩ := q
  subst e
  exact la_end 404 (by decide +kernel) (nx h2 hh2 hR2)
theorem lc_15 {g : kG} : lcT g 407 := by
  intro x h Q c n hh hR hc hn hx nx
  refine la_ld 407 (k := 1) (b := 0) (by decide +kernel) rfl ?_
  refine la_arg 408 1 (by decide +kernel) (hx 1 (by decide) (by decide)) ?_
  refine la_arg 413 2 (by decide +kernel) (hx 2 (by decide) (by decide)) ?_
  refine la_call 418 254204 (m := 2) (a := 0) (r := []) (by decide +kernel) hc hn (Nat.le_of_ble_eq_true rfl) rfl rfl (kO_0 hh) (Nat.le_of_ble_eq_true rfl) ?_
  refine Ev_mono (la_two hh rfl (q_goes hR)) fun r1 h1 q => ?_
  obtain ⟨hh1, ev⟩ := q
  refine la_ld 419 (k := 2) (b := 240) (by decide +kernel) rfl ?_
  refine la_arg 420 1 (by decide +kernel) (hx 1 (by decide) (by decide)) ?_
  refine la_arg 425 2 (by decide +kernel) (hx 2 (by decide) (by decide)) ?_
  refine la_call 430 496224 (m := 2) (a := 240) (r := [.inl r1]) (by decide +kernel) hc hn (Nat.le_of_ble_eq_true rfl) rfl rfl (kO_240 hh1) (Nat.le_of_ble_eq_true rfl) ?_
  refine Ev_mono ev fun r2 h2 q => ?_
  obtain ⟨e, hh2, hR2⟩ := q
  subst e
  exact la_end 431 (by decide +kernel) (nx h2 hh2 hR2)
theorem lc_16 {g : kG} : lcT g 434 := by
  intro x h Q c n hh hR hc hn hx nx
  refine la_ld 434 (k := 1) (b := 0) (by decide +kernel) rfl ?_
  refine la_arg 435 1 (by decide +kernel) (hx 1 (by decide) (by decide)) ?_
  refine la_call 440 256202 (m := 1) (a := 0) (r := []) (by decide +kernel) hc hn (Nat.le_of_ble_eq_true rfl) rfl rfl (kO_0 hh) (Nat.le_of_ble_eq_true rfl) ?_
  refine Ev_mono (la_two hh rfl (q_done hR)) fun r1 h1 q => ?_
  obtain ⟨hh1, ev⟩ := q
  refine la_ld 441 (k := 2) (b := 240) (by decide +kernel) rfl ?_
  refine la_arg 442 1 (by decide +kernel) (hx 1 (by decide) (by decide)) ?_
  refine la_call 447 498222 (m := 1) (a := 240) (r := [.inl r1]) (by decide +kernel) hc hn (Nat.le_of_ble_eq_true rfl) rfl rfl (kO_240 hh1) (Nat.le_of_ble_eq_true rfl) ?_
  refine Ev_mono ev fun r2 h2 q => ?_
  obtain ⟨e, hh2, hR2⟩ := q
  subst e
  exact la_end 448 (by decide +kernel) (nx h2 hh2 hR2)
theorem lc_17 {g : kG} : lcT g 451 := by
  intro x h Q c n hh hR hc hn hx nx
  refine la_ld 451 (k := 1) (b := 0) (by decide +kernel) rfl ?_
  refine la_arg 452 1 (by decide +kernel) (hx 1 (by decide) (by decide)) ?_
  refine la_arg 457 2 (by decide +kernel) (hx 2 (by decide) (by decide)) ?_
  refine la_call 462 258204 (m := 2) (a := 0) (r := []) (by decide +kernel) hc hn (Nat.le_of_ble_eq_true rfl) rfl rfl (kO_0 hh) (Nat.le_of_ble_eq_true rfl) ?_
  refine Ev_mono (la_two hh rfl (q_soon hR)) fun r1 h1 q => ?_
  obtain ⟨hh1, ev⟩ := q
  refine la_ld 463 (k := 2) (b := 240) (by decide +kernel) rfl ?_
  refine la_arg 464 1 (by decide +kernel) (hx 1 (by decide) (by decide)) ?_
  refine la_arg 469 2 (by decide +kernel) (hx 2 (by decide) (by decide)) ?_
  refine la_call 474 500224 (m := 2) (a := 240) (r := [.inl r1]) (by decide +kernel) hc hn (Nat.le_of_ble_eq_true rfl) rfl rfl (kO_240 hh1) (Nat.le_of_ble_eq_true rfl) ?_
  refine Ev_mono ev fun r2 h2 q => ?_
  obtain ⟨e, hh2, hR2⟩ := q
  subst e
  exact la_end 475 (by decide +kernel) (nx h2 hh2 hR2)
theorem lc_18 {g : kG} : lcT g 478 := by
  intro x h Q c n hh hR hc hn hx nx
  refine la_ld 478 (k := 1) (b := 0) (by decide +kernel) rfl ?_
  refine la_arg 479 1 (by decide +kernel) (hx 1 (by decide) (by decide)) ?_
  refine la_arg 484 2 (by decide +kernel) (hx 2 (by decide) (by decide)) ?_
  refine la_call 489 260204 (m := 2) (a := 0) (r := []) (by decide +kernel) hc hn (Nat.le_of_ble_eq_true rfl) rfl rfl (kO_0 hh) (Nat.le_of_ble_eq_true rfl) ?_
  refine Ev_mono (la_two hh rfl (q_flock hR)) fun r1 h1 q => ?_
  obtain ⟨hh1, ev⟩ := q
  refine la_ld 490 (k := 2) (b := 240) (by decide +kernel) rfl ?_
  refine la_arg 491 1 (by decide +kernel) (hx 1 (by decide) (by decide)) ?_
  refine la_arg 496 2 (by decide +kernel) (hx 2 (by decide) (by decide)) ?_
  refine la_call 501 502224 (m := 2) (a := 240) (r := [.inl r1]) (by decide +kernel) hc hn (Nat.le_of_ble_eq_true rfl) rfl rfl (kO_240 hh1) (Nat.le_of_ble_eq_true rfl) ?_
  refine Ev_mono ev fun r2 h2 q => ?_
  obtain ⟨e, hh2, hR2⟩ := q
  subst e
  exact la_end 502 (by decide +kernel) (nx h2 hh2 hR2)
theorem lc_19 {g : kG} : lcT g 505 := by
  intro x h Q c n hh hR hc hn hx nx
  refine la_ld 505 (k := 1) (b := 0) (by decide +kernel) rfl ?_
  refine la_arg 506 1 (by decide +kernel) (hx 1 (by decide) (by decide)) ?_
  refine la_call 511 262202 (m := 1) (a := 0) (r := []) (by decide +kernel) hc hn (Nat.le_of_ble_eq_true rfl) rfl rfl (kO_0 hh) (Nat.le_of_ble_eq_true rfl) ?_
  refine Ev_mono (la_two hh rfl (q_letters hR)) fun r1 h1 q => ?_
  obtain ⟨hh1, ev⟩ := q
  refine la_ld 512 (k := 2) (b := 240) (by decide +kernel) rfl ?_
  refine la_arg 513 1 (by decide +kernel) (hx 1 (by decide) (by decide)) ?_
  refine la_call 518 504222 (m := 1) (a := 240) (r := [.inl r1]) (by decide +kernel) hc hn (Nat.le_of_ble_eq_true rfl) rfl rfl (kO_240 hh1) (Nat.le_of_ble_eq_true rfl) ?_
  refine Ev_mono ev fun r2 h2 q => ?_
  obtain ⟨e, hh2, hR2⟩ := q
  subst e
  exact la_end 519 (by decide +kernel) (nx h2 hh2 hR2)
theorem lc_20 {g : kG} : lcT g 522 := by
  intro x h Q c n hh hR hc hn hx nx
  refine la_ld 522 (k := 1) (b := 0) (by decide +kernel) rfl ?_
  refine la_arg 523 1 (by decide +kernel) (hx 1 (by decide) (by decide)) ?_
  refine la_arg 528 2 (by decide +kernel) (hx 2 (by decide) (by decide)) ?_
  refine la_call 533 264204 (m := 2) (a := 0) (r := []) (by decide +kernel) hc hn (Nat.le_of_ble_eq_true rfl) rfl rfl (kO_0 hh) (Nat.le_of_ble_eq_true rfl) ?_
  refine Ev_mono (la_two hh rfl (q_page hR)) fun r1 h1 q => ?_
  obtain ⟨hh1, ev⟩ := q
  refine la_ld 534 (k := 2) (b := 240) (by decide +kernel) rfl ?_
  refine la_arg 535 1 (by decide +kernel) (hx 1 (by decide) (by decide)) ?_
  refine la_arg 540 2 (by decide +kernel) (hx 2 (by decide) (by decide)) ?_
  refine la_call 545 506224 (m := 2) (a := 240) (r := [.inl r1]) (by decide +kernel) hc hn (Nat.le_of_ble_eq_true rfl) rfl rfl (kO_240 hh1) (Nat.le_of_ble_eq_true rfl) ?_
  refine Ev_mono ev fun r2 h2 q => ?_
  obtain ⟨e, hh2, hR2⟩ := q
  subst e
  exact la_end 546 (by decide +kernel) (nx h2 hh2 hR2)
theorem lc_21 {g : kG} : lcT g 549 := by
  intro x h Q c n hh hR hc hn hx nx
  refine la_ld 549 (k := 1) (b := 0) (by decide +kernel) rfl ?_
  refine la_arg 550 1 (by decide +kernel) (hx 1 (by decide) (by decide)) ?_
  refine la_call 555 266202 (m := 1) (a := 0) (r := []) (by decide +kernel) hc hn (Nat.le_of_ble_eq_true rfl) rfl rfl (kO_0 hh) (Nat.le_of_ble_eq_true rfl) ?_
  refine Ev_mono (la_two hh rfl (q_stamp hR)) fun r1 h1 q => ?_
  obtain ⟨hh1, ev⟩ := q
  refine la_ld 556 (k := 2) (b := 240) (by decide +kernel) rfl ?_
  refine la_arg 557 1 (by decide +kernel) (hx 1 (by decide) (by decide)) ?_
  refine la_call 562 508222 (m := 1) (a := 240) (r := [.inl r1]) (by decide +kernel) hc hn (Nat.le_of_ble_eq_true rfl) rfl rfl (kO_240 hh1) (Nat.le_of_ble_eq_true rfl) ?_
  refine Ev_mono ev fun r2 h2 q => ?_
  obtain ⟨e, hh2, hR2⟩ := q
  subst e
  exact la_end 563 (by decide +kernel) (nx h2 hh2 hR2)
theorem lc_22 {g : kG} : lcT g 566 := by
  intro x h Q c n hh hR hc hn hx nx
  refine la_ld 566 (k := 1) (b := 0) (by decide +kernel) rfl ?_
  refine la_arg 567 1 (by decide +kernel) (hx 1 (by decide) (by decide)) ?_
  refine la_call 572 268202 (m := 1) (a := 0) (r := []) (by decide +kernel) hc hn (Nat.le_of_ble_eq_true rfl) rfl rfl (kO_0 hh) (Nat.le_of_ble_eq_true rfl) ?_
  refine Ev_mono (la_two hh rfl (q_stamps hR)) fun r1 h1 q => ?_
  obtain ⟨hh1, ev⟩ := q
  refine la_ld 573 (k := 2) (b := 240) (by decide +kernel) rfl ?_
  refine la_arg 574 1 (by decide +kernel) (hx 1 (by decide) (by decide)) ?_
  refine la_call 579 510222 (m := 1) (a := 240) (r := [.inl r1]) (by decide +kernel) hc hn (Nat.le_of_ble_eq_true rfl) rfl rfl (kO_240 hh1) (Nat.le_of_ble_eq_true rfl) ?_
  refine Ev_mono ev fun r2 h2 q => ?_
  obtain ⟨e, hh2, hR2⟩ := q
  subst e
  exact la_end 580 (by decide +kernel) (nx h2 hh2 hR2)
theorem lc_23 {g : kG} : lcT g 583 := by
  intro x h Q c n hh hR hc hn hx nx
  refine la_ld 583 (k := 1) (b := 0) (by decide +kernel) rfl ?_
  refine la_arg 584 1 (by decide +kernel) (hx 1 (by decide) (by decide)) ?_
  refine la_arg 589 2 (by decide +kernel) (hx 2 (by decide) (by decide)) ?_
  refine la_call 594 270204 (m := 2) (a := 0) (r := []) (by decide +kernel) hc hn (Nat.le_of_ble_eq_true rfl) rfl rfl (kO_0 hh) (Nat.le_of_ble_eq_true rfl) ?_
  refine Ev_mono (la_two hh rfl (q_scratch hR)) fun r1 h1 q => ?_
  obtain ⟨hh1, ev⟩ := q
  refine la_ld 595 (k := 2) (b := 240) (by decide +kernel) rfl ?_
  refine la_arg 596 1 (by decide +kernel) (hx 1 (by decide) (by decide)) ?_
  refine la_arg 601 2 (by decide +kernel) (hx 2 (by decide) (by decide)) ?_
  refine la_call 606 512224 (m := 2) (a := 240) (r := [.inl r1]) (by decide +kernel) hc hn (Nat.le_of_ble_eq_true rfl) rfl rfl (kO_240 hh1) (Nat.le_of_ble_eq_true rfl) ?_
  refine Ev_mono ev fun r2 h2 q => ?_
  obtain ⟨e, hh2, hR2⟩ := q
  subst e
  exact la_end 607 (by decide +kernel) (nx h2 hh2 hR2)
theorem lc_24 {g : kG} : lcT g 610 := by
  intro x h Q c n hh hR hc hn hx nx
  refine la_ld 610 (k := 1) (b := 0) (by decide +kernel) rfl ?_
  refine la_arg 611 1 (by decide +kernel) (hx 1 (by decide) (by decide)) ?_
  refine la_arg 616 2 (by decide +kernel) (hx 2 (by decide) (by decide)) ?_
  refine la_call 621 272204 (m := 2) (a := 0) (r := []) (by decide +kernel) hc hn (Nat.le_of_ble_eq_true rfl) rfl rfl (kO_0 hh) (Nat.le_of_ble_eq_true rfl) ?_
  refine Ev_mono (la_two hh rfl (q_threes hR)) fun r1 h1 q => ?_
  obtain ⟨hh1, ev⟩ := q
  refine la_ld 622 (k := 2) (b := 240) (by decide +kernel) rfl ?_
  refine la_arg 623 1 (by decide +kernel) (hx 1 (by decide) (by decide)) ?_
  refine la_arg 628 2 (by decide +kernel) (hx 2 (by decide) (by decide)) ?_
  refine la_call 633 514224 (m := 2) (a := 240) (r := [.inl r1]) (by decide +kernel) hc hn (Nat.le_of_ble_eq_true rfl) rfl rfl (kO_240 hh1) (Nat.le_of_ble_eq_true rfl) ?_
  refine Ev_mono ev fun r2 h2 q => ?_
  obtain ⟨e, hh2, hR2⟩ := q
  subst e
  exact la_end 634 (by decide +kernel) (nx h2 hh2 hR2)
theorem lc_25 {g : kG} : lcT g 637 := by
  intro x h Q c n hh hR hc hn hx nx
  refine la_ld 637 (k := 1) (b := 0) (by decide +kernel) rfl ?_
  refine la_arg 638 1 (by decide +kernel) (hx 1 (by decide) (by decide)) ?_
  refine la_arg 643 2 (by decide +kernel) (hx 2 (by decide) (by decide)) ?_
  refine la_arg 648 3 (by decide +kernel) (hx 3 (by decide) (by decide)) ?_
  refine la_call 653 274206 (m := 3) (a := 0) (r := []) (by decide +kernel) hc hn (Nat.le_of_ble_eq_true rfl) rfl rfl (kO_0 hh) (Nat.le_of_ble_eq_true rfl) ?_
  refine Ev_mono (la_two hh rfl (q_curve hR)) fun r1 h1 q => ?_
  obtain ⟨hh1, ev⟩ := q
  refine la_ld 654 (k := 2) (b := 240) (by decide +kernel) rfl ?_
  refine la_arg 655 1 (by decide +kernel) (hx 1 (by decide) (by decide)) ?_
  refine la_arg 660 2 (by decide +kernel) (hx 2 (by decide) (by decide)) ?_
  refine la_arg 665 3 (by decide +kernel) (hx 3 (by decide) (by decide)) ?_
  refine la_call 670 518226 (m := 3) (a := 240) (r := [.inl r1]) (by decide +kernel) hc hn (Nat.le_of_ble_eq_true rfl) rfl rfl (kO_240 hh1) (Nat.le_of_ble_eq_true rfl) ?_
  refine Ev_mono ev fun r2 h2 q => ?_
  obtain ⟨e, hh2, hR2⟩ := q
  subst e
  exact la_end 671 (by decide +kernel) (nx h2 hh2 hR2)
theorem lc_26 {g : kG} : lcT g 674 := by
  intro x h Q c n hh hR hc hn hx nx
  refine la_ld 674 (k := 1) (b := 0) (by decide +kernel) rfl ?_
  refine la_arg 675 1 (by decide +kernel) (hx 1 (by decide) (by decide)) ?_
  refine la_arg 680 2 (by decide +kernel) (hx 2 (by decide) (by decide)) ?_
  refine la_arg 685 3 (by decide +kernel) (hx 3 (by decide) (by decide)) ?_
  refine la_call 690 276206 (m := 3) (a := 0) (r := []) (by decide +kernel) hc hn (Nat.le_of_ble_eq_true rfl) rfl rfl (kO_0 hh) (Nat.le_of_ble_eq_true rfl) ?_
  refine Ev_mono (la_two hh rfl (q_quire hR)) fun r1 h1 q => ?_
  obtain ⟨hh1, ev⟩ := q
  refine la_ld 691 (k := 2) (b := 240) (by decide +kernel) rfl ?_
  refine la_arg 692 1 (by decide +kernel) (hx 1 (by decide) (by decide)) ?_
  refine la_arg 697 2 (by decide +kernel) (hx 2 (by decide) (by decide)) ?_
  refine la_arg 702 3 (by decide +kernel) (hx 3 (by decide) (by decide)) ?_
  refine la_call 707 520226 (m := 3) (a := 240) (r := [.inl r1]) (by decide +kernel) hc hn (Nat.le_of_ble_eq_true rfl) rfl rfl (kO_240 hh1) (Nat.le_of_ble_eq_true rfl) ?_
  refine Ev_mono ev fun r2 h2 q => ?_
  obtain ⟨e, hh2, hR2⟩ := q
  subst e
  exact la_end 708 (by decide +kernel) (nx h2 hh2 hR2)
theorem lc_27 {g : kG} : lcT g 711 := by
  intro x h Q c n hh hR hc hn hx nx
  refine la_ld 711 (k := 1) (b := 0) (by decide +kernel) rfl ?_
  refine la_arg 712 1 (by decide +kernel) (hx 1 (by decide) (by decide)) ?_
  refine la_arg 717 2 (by decide +kernel) (hx 2 (by decide) (by decide)) ?_
  refine la_arg 722 3 (by decide +kernel) (hx 3 (by decide) (by decide)) ?_
  refine la_call 727 278206 (m := 3) (a := 0) (r := []) (by decide +kernel) hc hn (Nat.le_of_ble_eq_true rfl) rfl rfl (kO_0 hh) (Nat.le_of_ble_eq_true rfl) ?_
  refine Ev_mono (la_two hh rfl (q_dot hR)) fun r1 h1 q => ?_
  obtain ⟨hh1, ev⟩ := q
  refine la_ld 728 (k := 2) (b := 240) (by decide +kernel) rfl ?_
  refine la_arg 729 1 (by decide +kernel) (hx 1 (by decide) (by decide)) ?_
  refine la_arg 734 2 (by decide +kernel) (hx 2 (by decide) (by decide)) ?_
  refine la_arg 739 3 (by decide +kernel) (hx 3 (by decide) (by decide)) ?_
  refine la_call 744 522226 (m := 3) (a := 240) (r := [.inl r1]) (by decide +kernel) hc hn (Nat.le_of_ble_eq_true rfl) rfl rfl (kO_240 hh1) (Nat.le_of_ble_eq_true rfl) ?_
  refine Ev_mono ev fun r2 h2 q => ?_
  obtain ⟨e, hh2, hR2⟩ := q
  subst e
  exact la_end 745 (by decide +kernel) (nx h2 hh2 hR2)
theorem lc_28 {g : kG} : lcT g 748 := by
  intro x h Q c n hh hR hc hn hx nx
  refine la_ld 748 (k := 1) (b := 0) (by decide +kernel) rfl ?_
  refine la_arg 749 1 (by decide +kernel) (hx 1 (by decide) (by decide)) ?_
  refine la_call 754 280202 (m := 1) (a := 0) (r := []) (by decide +kernel) hc hn (Nat.le_of_ble_eq_true rfl) rfl rfl (kO_0 hh) (Nat.le_of_ble_eq_true rfl) ?_
  refine Ev_mono (la_two hh rfl (q_dots hR)) fun r1 h1 q => ?_
  obtain ⟨hh1, ev⟩ := q
  refine la_ld 755 (k := 2) (b := 240) (by decide +kernel) rfl ?_
  refine la_arg 756 1 (by decide +kernel) (hx 1 (by decide) (by decide)) ?_
  refine la_call 761 526222 (m := 1) (a := 240) (r := [.inl r1]) (by decide +kernel) hc hn (Nat.le_of_ble_eq_true rfl) rfl rfl (kO_240 hh1) (Nat.le_of_ble_eq_true rfl) ?_
  refine Ev_mono ev fun r2 h2 q => ?_
  obtain ⟨e, hh2, hR2⟩ := q
  subst e
  exact la_end 762 (by decide +kernel) (nx h2 hh2 hR2)
theorem lc_29 {g : kG} : lcT g 765 := by
  intro x h Q c n hh hR hc hn hx nx
  refine la_ld 765 (k := 1) (b := 0) (by decide +kernel) rfl ?_
  refine la_arg 766 1 (by decide +kernel) (hx 1 (by decide) (by decide)) ?_
  refine la_call 771 282202 (m := 1) (a := 0) (r := []) (by decide +kernel) hc hn (Nat.le_of_ble_eq_true rfl) rfl rfl (kO_0 hh) (Nat.le_of_ble_eq_true rfl) ?_
  refine Ev_mono (la_two hh rfl (q_cut hR)) fun r1 h1 q => ?_
  obtain ⟨hh1, ev⟩ := q
  refine la_ld 772 (k := 2) (b := 240) (by decide +kernel) rfl ?_
  refine la_arg 773 1 (by decide +kernel) (hx 1 (by decide) (by decide)) ?_
  refine la_call 778 530222 (m := 1) (a := 240) (r := [.inl r1]) (by decide +kernel) hc hn (Nat.le_of_ble_eq_true rfl) rfl rfl (kO_240 hh1) (Nat.le_of_ble_eq_true rfl) ?_
  refine Ev_mono ev fun r2 h2 q => ?_
  obtain ⟨e, hh2, hR2⟩ := q
  subst e
  exact la_end 779 (by decide +kernel) (nx h2 hh2 hR2)
theorem lc_30 {g : kG} : lcT g 782 := by
  intro x h Q c n hh hR hc hn hx nx
  refine la_ld 782 (k := 1) (b := 0) (by decide +kernel) rfl ?_
  refine la_arg 783 1 (by decide +kernel) (hx 1 (by decide) (by decide)) ?_
  refine la_arg 788 2 (by decide +kernel) (hx 2 (by decide) (by decide)) ?_
  refine la_call 793 284204 (m := 2) (a := 0) (r := []) (by decide +kernel) hc hn (Nat.le_of_ble_eq_true rfl) rfl rfl (kO_0 hh) (Nat.le_of_ble_eq_true rfl) ?_
  refine Ev_mono (la_two hh rfl (q_planks hR)) fun r1 h1 q => ?_
  obtain ⟨hh1, ev⟩ := q
  refine la_ld 794 (k := 2) (b := 240) (by decide +kernel) rfl ?_
  refine la_arg 795 1 (by decide +kernel) (hx 1 (by decide) (by decide)) ?_
  refine la_arg 800 2 (by decide +kernel) (hx 2 (by decide) (by decide)) ?_
  refine la_call 805 534224 (m := 2) (a := 240) (r := [.inl r1]) (by decide +kernel) hc hn (Nat.le_of_ble_eq_true rfl) rfl rfl (kO_240 hh1) (Nat.le_of_ble_eq_true rfl) ?_
  refine Ev_mono ev fun r2 h2 q => ?_
  obtain ⟨e, hh2, hR2⟩ := q
  subst e
  exact la_end 806 (by decide +kernel) (nx h2 hh2 hR2)
theorem lc_31 {g : kG} : lcT g 809 := by
  intro x h Q c n hh hR hc hn hx nx
  refine la_ld 809 (k := 1) (b := 0) (by decide +kernel) rfl ?_
  refine la_arg 810 1 (by decide +kernel) (hx 1 (by decide) (by decide)) ?_
  refine la_call 815 286202 (m := 1) (a := 0) (r := []) (by decide +kernel) hc hn (Nat.le_of_ble_eq_true rfl) rfl rfl (kO_0 hh) (Nat.le_of_ble_eq_true rfl) ?_
  refine Ev_mono (la_two hh rfl (q_sign hR)) fun r1 h1 q => ?_
  obtain ⟨hh1, ev⟩ := q
  refine la_ld 816 (k := 2) (b := 240) (by decide +kernel) rfl ?_
  refine la_arg 817 1 (by decide +kernel) (hx 1 (by decide) (by decide)) ?_
  refine la_call 822 536222 (m := 1) (a := 240) (r := [.inl r1]) (by decide +kernel) hc hn (Nat.le_of_ble_eq_true rfl) rfl rfl (kO_240 hh1) (Nat.le_of_ble_eq_true rfl) ?_
  refine Ev_mono ev fun r2 h2 q => ?_
  obtain ⟨e, hh2, hR2⟩ := q
  subst e
  exact la_end 823 (by decide +kernel) (nx h2 hh2 hR2)
theorem lc_32 {g : kG} : lcT g 826 := by
  intro x h Q c n hh hR hc hn hx nx
  refine la_ld 826 (k := 1) (b := 0) (by decide +kernel) rfl ?_
  refine la_arg 827 1 (by decide +kernel) (hx 1 (by decide) (by decide)) ?_
  refine la_call 832 288202 (m := 1) (a := 0) (r := []) (by decide +kernel) hc hn (Nat.le_of_ble_eq_true rfl) rfl rfl (kO_0 hh) (Nat.le_of_ble_eq_true rfl) ?_
  refine Ev_mono (la_two hh rfl (q_read hR)) fun r1 h1 q => ?_
  obtain ⟨hh1, ev⟩ := q
  refine la_ld 833 (k := 2) (b := 240) (by decide +kernel) rfl ?_
  refine la_arg 834 1 (by decide +kernel) (hx 1 (by decide) (by decide)) ?_
  refine la_call 839 542222 (m := 1) (a := 240) (r := [.inl r1]) (by decide +kernel) hc hn (Nat.le_of_ble_eq_true rfl) rfl rfl (kO_240 hh1) (Nat.le_of_ble_eq_true rfl) ?_
  refine Ev_mono ev fun r2 h2 q => ?_
  obtain ⟨e, hh2, hR2⟩ := q
  subst e
  exact la_end 840 (by decide +kernel) (nx h2 hh2 hR2)
theorem lc_33 {g : kG} : lcT g 843 := by
  intro x h Q c n hh hR hc hn hx nx
  refine la_ld 843 (k := 1) (b := 0) (by decide +kernel) rfl ?_
  refine la_arg 844 1 (by decide +kernel) (hx 1 (by decide) (by decide)) ?_
  refine la_call 849 290202 (m := 1) (a := 0) (r := []) (by decide +kernel) hc hn (Nat.le_of_ble_eq_true rfl) rfl rfl (kO_0 hh) (Nat.le_of_ble_eq_true rfl) ?_
  refine Ev_mono (la_two hh rfl (q_leg hR)) fun r1 h1 q => ?_
  obtain ⟨hh1, ev⟩ := q
  refine la_ld 850 (k := 2) (b := 240) (by decide +kernel) rfl ?_
  refine la_arg 851 1 (by decide +kernel) (hx 1 (by decide) (by decide)) ?_
  refine la_call 856 544222 (m := 1) (a := 240) (r := [.inl r1]) (by decide +kernel) hc hn (Nat.le_of_ble_eq_true rfl) rfl rfl (kO_240 hh1) (Nat.le_of_ble_eq_true rfl) ?_
  refine Ev_mono ev fun r2 h2 q => ?_
  obtain ⟨e, hh2, hR2⟩ := q
  subst e
  exact la_end 857 (by decide +kernel) (nx h2 hh2 hR2)
theorem lc_34 {g : kG} : lcT g 860 := by
  intro x h Q c n hh hR hc hn hx nx
  refine la_ld 860 (k := 1) (b := 0) (by decide +kernel) rfl ?_
  refine la_arg 861 1 (by decide +kernel) (hx 1 (by decide) (by decide)) ?_
  refine la_call 866 292202 (m := 1) (a := 0) (r := []) (by decide +kernel) hc hn (Nat.le_of_ble_eq_true rfl) rfl rfl (kO_0 hh) (Nat.le_of_ble_eq_true rfl) ?_
  refine Ev_mono (la_two hh rfl (q_line hR)) fun r1 h1 q => ?_
  obtain ⟨hh1, ev⟩ := q
  refine la_ld 867 (k := 2) (b := 240) (by decide +kernel) rfl ?_
  refine la_arg 868 1 (by decide +kernel) (hx 1 (by decide) (by decide)) ?_
  refine la_call 873 546222 (m := 1) (a := 240) (r := [.inl r1]) (by decide +kernel) hc hn (Nat.le_of_ble_eq_true rfl) rfl rfl (kO_240 hh1) (Nat.le_of_ble_eq_true rfl) ?_
  refine Ev_mono ev fun r2 h2 q => ?_
  obtain ⟨e, hh2, hR2⟩ := q
  subst e
  exact la_end 874 (by decide +kernel) (nx h2 hh2 hR2)
theorem lc_35 {g : kG} : lcT g 877 := by
  intro x h Q c n hh hR hc hn hx nx
  refine la_ld 877 (k := 1) (b := 0) (by decide +kernel) rfl ?_
  refine la_arg 878 1 (by decide +kernel) (hx 1 (by decide) (by decide)) ?_
  refine la_arg 883 2 (by decide +kernel) (hx 2 (by decide) (by decide)) ?_
  refine la_arg 888 3 (by decide +kernel) (hx 3 (by decide) (by decide)) ?_
  refine la_call 893 294206 (m := 3) (a := 0) (r := []) (by decide +kernel) hc hn (Nat.le_of_ble_eq_true rfl) rfl rfl (kO_0 hh) (Nat.le_of_ble_eq_true rfl) ?_
  refine Ev_mono (la_two hh rfl (q_water hR)) fun r1 h1 q => ?_
  obtain ⟨hh1, ev⟩ := q
  refine la_ld 894 (k := 2) (b := 240) (by decide +kernel) rfl ?_
  refine la_arg 895 1 (by decide +kernel) (hx 1 (by decide) (by decide)) ?_
  refine la_arg 900 2 (by decide +kernel) (hx 2 (by decide) (by decide)) ?_
  refine la_arg 905 3 (by decide +kernel) (hx 3 (by decide) (by decide)) ?_
  refine la_call 910 550226 (m := 3) (a := 240) (r := [.inl r1]) (by decide +kernel) hc hn (Nat.le_of_ble_eq_true rfl) rfl rfl (kO_240 hh1) (Nat.le_of_ble_eq_true rfl) ?_
  refine Ev_mono ev fun r2 h2 q => ?_
  obtain ⟨e, hh2, hR2⟩ := q
  subst e
  exact la_end 911 (by decide +kernel) (nx h2 hh2 hR2)
theorem lc_36 {g : kG} : lcT g 914 := by
  intro x h Q c n hh hR hc hn hx nx
  refine la_ld 914 (k := 1) (b := 0) (by decide +kernel) rfl ?_
  refine la_arg 915 1 (by decide +kernel) (hx 1 (by decide) (by decide)) ?_
  refine la_call 920 296202 (m := 1) (a := 0) (r := []) (by decide +kernel) hc hn (Nat.le_of_ble_eq_true rfl) rfl rfl (kO_0 hh) (Nat.le_of_ble_eq_true rfl) ?_
  refine Ev_mono (la_two hh rfl (q_weight hR)) fun r1 h1 q => ?_
  obtain ⟨hh1, ev⟩ := q
  refine la_ld 921 (k := 2) (b := 240) (by decide +kernel) rfl ?_
  refine la_arg 922 1 (by decide +kernel) (hx 1 (by decide) (by decide)) ?_
  refine la_call 927 552222 (m := 1) (a := 240) (r := [.inl r1]) (by decide +kernel) hc hn (Nat.le_of_ble_eq_true rfl) rfl rfl (kO_240 hh1) (Nat.le_of_ble_eq_true rfl) ?_
  refine Ev_mono ev fun r2 h2 q => ?_
  obtain ⟨e, hh2, hR2⟩ := q
  subst e
  exact la_end 928 (by decide +kernel) (nx h2 hh2 hR2)
theorem lc_37 {g : kG} : lcT g 931 := by
  intro x h Q c n hh hR hc hn hx nx
  refine la_ld 931 (k := 1) (b := 0) (by decide +kernel) rfl ?_
  refine la_arg 932 1 (by decide +kernel) (hx 1 (by decide) (by decide)) ?_
  refine la_arg 937 2 (by decide +kernel) (hx 2 (by decide) (by decide)) ?_
  refine la_call 942 298204 (m := 2) (a := 0) (r := []) (by decide +kernel) hc hn (Nat.le_of_ble_eq_true rfl) rfl rfl (kO_0 hh) (Nat.le_of_ble_eq_true rfl) ?_
  refine Ev_mono (la_two hh rfl (q_lift hR)) fun r1 h1 q => ?_
  obtain ⟨hh1, ev⟩ := q
  refine la_ld 943 (k := 2) (b := 240) (by decide +kernel) rfl ?_
  refine la_arg 944 1 (by decide +kernel) (hx 1 (by decide) (by decide)) ?_
  refine la_arg 949 2 (by decide +kernel) (hx 2 (by decide) (by decide)) ?_
  refine la_call 954 554224 (m := 2) (a := 240) (r := [.inl r1]) (by decide +kernel) hc hn (Nat.le_of_ble_eq_true rfl) rfl rfl (kO_240 hh1) (Nat.le_of_ble_eq_true rfl) ?_
  refine Ev_mono ev fun r2 h2 q => ?_
  obtain ⟨e, hh2, hR2⟩ := q
  subst e
  exact la_end 955 (by decide +kernel) (nx h2 hh2 hR2)
theorem lc_38 {g : kG} : lcT g 958 := by
  intro x h Q c n hh hR hc hn hx nx
  refine la_ld 958 (k := 1) (b := 0) (by decide +kernel) rfl ?_
  refine la_arg 959 1 (by decide +kernel) (hx 1 (by decide) (by decide)) ?_
  refine la_call 964 300202 (m := 1) (a := 0) (r := []) (by decide +kernel) hc hn (Nat.le_of_ble_eq_true rfl) rfl rfl (kO_0 hh) (Nat.le_of_ble_eq_true rfl) ?_
  refine Ev_mono (la_two hh rfl (q_heir hR)) fun r1 h1 q => ?_
  obtain ⟨hh1, ev⟩ := q
  refine la_ld 965 (k := 2) (b := 240) (by decide +kernel) rfl ?_
  refine la_arg 966 1 (by decide +kernel) (hx 1 (by decide) (by decide)) ?_
  refine la_call 971 556222 (m := 1) (a := 240) (r := [.inl r1]) (by decide +kernel) hc hn (Nat.le_of_ble_eq_true rfl) rfl rfl (kO_240 hh1) (Nat.le_of_ble_eq_true rfl) ?_
  refine Ev_mono ev fun r2 h2 q => ?_
  obtain ⟨e, hh2, hR2⟩ := q
  subst e
  exact la_end 972 (by decide +kernel) (nx h2 hh2 hR2)
theorem lc_39 {g : kG} : lcT g 975 := by
  intro x h Q c n hh hR hc hn hx nx
  refine la_ld 975 (k := 1) (b := 0) (by decide +kernel) rfl ?_
  refine la_arg 976 1 (by decide +kernel) (hx 1 (by decide) (by decide)) ?_
  refine la_arg 981 2 (by decide +kernel) (hx 2 (by decide) (by decide)) ?_
  refine la_call 986 302204 (m := 2) (a := 0) (r := []) (by decide +kernel) hc hn (Nat.le_of_ble_eq_true rfl) rfl rfl (kO_0 hh) (Nat.le_of_ble_eq_true rfl) ?_
  refine Ev_mono (la_two hh rfl (q_seal hR)) fun r1 h1 q => ?_
  obtain ⟨hh1, ev⟩ := q
  refine la_ld 987 (k := 2) (b := 240) (by decide +kernel) rfl ?_
  refine la_arg 988 1 (by decide +kernel) (hx 1 (by decide) (by decide)) ?_
  refine la_arg 993 2 (by decide +kernel) (hx 2 (by decide) (by decide)) ?_
  refine la_call 998 560224 (m := 2) (a := 240) (r := [.inl r1]) (by decide +kernel) hc hn (Nat.le_of_ble_eq_true rfl) rfl rfl (kO_240 hh1) (Nat.le_of_ble_eq_true rfl) ?_
  refine Ev_mono ev fun r2 h2 q => ?_
  obtain ⟨e, hh2, hR2⟩ := q
  subst e
  exact la_end 999 (by decide +kernel) (nx h2 hh2 hR2)
theorem lc_40 {g : kG} : lcT g 1002 := by
  intro x h Q c n hh hR hc hn hx nx
  refine la_ld 1002 (k := 1) (b := 0) (by decide +kernel) rfl ?_
  refine la_arg 1003 1 (by decide +kernel) (hx 1 (by decide) (by decide)) ?_
  refine la_arg 1008 2 (by decide +kernel) (hx 2 (by decide) (by decide)) ?_
  refine la_call 1013 304204 (m := 2) (a := 0) (r := []) (by decide +kernel) hc hn (Nat.le_of_ble_eq_true rfl) rfl rfl (kO_0 hh) (Nat.le_of_ble_eq_true rfl) ?_
  refine Ev_mono (la_two hh rfl (q_game hR)) fun r1 h1 q => ?_
  obtain ⟨hh1, ev⟩ := q
  refine la_ld 1014 (k := 2) (b := 240) (by decide +kernel) rfl ?_
  refine la_arg 1015 1 (by decide +kernel) (hx 1 (by decide) (by decide)) ?_
  refine la_arg 1020 2 (by decide +kernel) (hx 2 (by decide) (by decide)) ?_
  refine la_call 1025 570224 (m := 2) (a := 240) (r := [.inl r1]) (by decide +kernel) hc hn (Nat.le_of_ble_eq_true rfl) rfl rfl (kO_240 hh1) (Nat.le_of_ble_eq_true rfl) ?_
  refine Ev_mono ev fun r2 h2 q => ?_
  obtain ⟨e, hh2, hR2⟩ := q
  subst e
  exact la_end 1026 (by decide +kernel) (nx h2 hh2 hR2)
theorem lc_41 {g : kG} : lcT g 1029 := by
  intro x h Q c n hh hR hc hn hx nx
  refine la_ld 1029 (k := 1) (b := 0) (by decide +kernel) rfl ?_
  refine la_call 1030 306200 (m := 0) (a := 0) (r := []) (by decide +kernel) hc hn (Nat.le_of_ble_eq_true rfl) rfl rfl (kO_0 hh) (Nat.le_of_ble_eq_true rfl) ?_
  refine Ev_mono (la_two hh rfl (q_undo hR)) fun r1 h1 q => ?_
  obtain ⟨hh1, ev⟩ := q
  refine la_ld 1031 (k := 2) (b := 240) (by decide +kernel) rfl ?_
  refine la_call 1032 334220 (m := 0) (a := 240) (r := [.inl r1]) (by decide +kernel) hc hn (Nat.le_of_ble_eq_true rfl) rfl rfl (kO_240 hh1) (Nat.le_of_ble_eq_true rfl) ?_
  refine Ev_mono ev fun r2 h2 q => ?_
  obtain ⟨e, hh2, hR2⟩ := q
  subst e
  exact la_end 1033 (by decide +kernel) (nx h2 hh2 hR2)
theorem lc_43 {g : kG} : lcT g 1061 := by
  intro x h Q c n hh hR hc hn hx nx
  refine la_ld 1061 (k := 1) (b := 0) (by decide +kernel) rfl ?_
  refine la_arg 1062 1 (by decide +kernel) (hx 1 (by decide) (by decide)) ?_
  refine la_call 1067 310202 (m := 1) (a := 0) (r := []) (by decide +kernel) hc hn (Nat.le_of_ble_eq_true rfl) rfl rfl (kO_0 hh) (Nat.le_of_ble_eq_true rfl) ?_
  refine Ev_mono (la_two hh rfl (q_look hR)) fun r1 h1 q => ?_
  obtain ⟨hh1, ev⟩ := q
  refine la_ld 1068 (k := 2) (b := 240) (by decide +kernel) rfl ?_
  refine la_arg 1069 1 (by decide +kernel) (hx 1 (by decide) (by decide)) ?_
  refine la_call 1074 582222 (m := 1) (a := 240) (r := [.inl r1]) (by decide +kernel) hc hn (Nat.le_of_ble_eq_true rfl) rfl rfl (kO_240 hh1) (Nat.le_of_ble_eq_true rfl) ?_
  refine Ev_mono ev fun r2 h2 q => ?_
  obtain ⟨e, hh2, hR2⟩ := q
  subst e
  exact la_end 1075 (by decide +kernel) (nx h2 hh2 hR2)
