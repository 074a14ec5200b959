/-! WHAT CAN BE UNDONE -/
set_option maxRecDepth 20000 in
theorem e_48 {d k b : Nat} {I : zI} {x2 : Int} (hk : ¬ (k : Int) < 0) (hk2 : (0 : Int) ≤ (k : Int)) (hk3 : (k : Int) < 6) (hb : zpt 120 k = some b) (fb : zFirm b) (hz : zrem (wr (I 119 2 + I 119 3)) 6 = (k : Int)) : cl (d + 1) 48 [(.inr (some 119)), (.inr (some 2)), (.inl x2)] I = (cl d 21 [(.inr (some b)), (.inr (some 2))] I).bind fun p => if p.2 119 3 < 6 then some (0, up (up p.2 199 k x2) 119 3 (wr (p.2 119 3 + 1))) else some (0, up (up p.2 199 k x2) 119 2 (zrem (wr (p.2 119 2 + 1)) 6)) := by
  unfold zFirm at fb
  rw [cl_D (n := 3) (by decide +kernel) rfl, zE me_48 (by decide +kernel : kst 48 = []) 49]
  simp only [kc_48, ze_x, zgo_s, zk1_x, zk2_n, zk2_s, stf_0, stf_s, zs_sipush, zs_iload, zs_aload, zs_istore, zs_astore, zs_iinc, zs_iadd, zs_isub, zs_imul, zs_iand, zs_ior, zs_ixor, zs_ishl, zs_ishr, zs_iushr, zs_idiv, zs_irem, zs_ineg, zs_dup, zs_dup2, zs_pop, zs_if_eq, zs_if_ne, zs_if_lt, zs_if_ge, zs_if_gt, zs_if_le, zs_ic_eq, zs_ic_ne, zs_ic_lt, zs_ic_ge, zs_ic_gt, zs_ic_le, zs_goto, zs_ifnonnull, zs_tableswitch, zs_lookupswitch, zs_getstatic, zs_ldc, zs_getfield, zs_checkcast, zs_putfield, zs_putfieldb, zs_iaload, zs_ialoadb, zs_iastore, zs_aaload, zs_arraylength, zs_arraylengthb, zs_swap, zs_is0, zs_is0v, zs_is1, zs_is1v, zs_is2, zs_is2v, zs_is3, zs_is3v, zs_is4, zs_is4v, zs_is5, zs_is5v, zs_is6, zs_is6v, zs_iv0, zs_iv0v, zs_iv1, zs_iv1v, zs_iv2, zs_iv2v, zs_iv3, zs_iv3v, zs_iv4, zs_iv4v, zs_iv5, zs_iv5v, zs_iv6, zs_iv6v, zs_ireturn, zs_return, zl_0, zl_s, zlr_0, zlr_s, zsL_0, zsL_s, zsL_n0, zsL_ns, zo_s, zsw_0, zsw_s, zlk_0, zlk_s, zret_i, zret_b0, zret_b1, zret_b, zret_n, zkr_p, zkr_S, up_s, up_c, up_j, cp_c, List.map_cons, List.map_nil, List.getElem?_cons_zero, List.getElem?_cons_succ, List.take_succ_cons, List.take_zero, List.length_cons, List.length_nil, Nat.reduceAdd, Nat.reduceMul, Nat.reduceMod, Nat.reduceLT, Nat.reduceLeDiff, Nat.reduceEqDiff, Nat.zero_le, Nat.le_refl, Int.reduceToNat, Int.reduceLE, Int.reduceLT, Int.reduceAdd, Int.reduceNeg, Int.reduceEq, Int.cast_ofNat_Int, Prod.mk.injEq, reduceIte, reduceCtorEq, if_true, if_false, or_true, true_or, or_false, false_or, and_self, and_true, true_and, not_false_eq_true, not_true_eq_false, Nat.succ_ne_self, Nat.add_eq_left, Nat.left_eq_add, Nat.add_left_cancel_iff, Nat.reduceSub, kfc_1280, kfc_1282, kfc_1284, kfc_1286, kfk_1280, kfk_1282, kfk_1284, kfk_1286, kqc_42063, kqn_42063, kqy_42063, zk_119, zp_119_0, zp_119_1, zk_120, zk_199, zk_2, zk_15, fb, hz, hk, hk2, hk3, hb, Int.toNat_natCast]

set_option maxRecDepth 20000 in
theorem e_49 {d k b : Nat} {I : zI} (h0 : 0 < I 119 3) (hk : ¬ (k : Int) < 0) (hk2 : (0 : Int) ≤ (k : Int)) (hk3 : (k : Int) < 6) (hb : zpt 120 k = some b) (fb : zFirm b) (hz : zrem (wr (wr (I 119 2 + I 119 3) - 1)) 6 = (k : Int)) : cl (d + 1) 49 [(.inr (some 119)), (.inr (some 2)), (.inr (some 15))] I = (cl d 21 [(.inr (some 2)), (.inr (some b))] I).bind fun p => some (1, up (up p.2 15 4 (p.2 199 k)) 119 3 (wr (p.2 119 3 - 1))) := by
  unfold zFirm at fb
  rw [cl_D (n := 3) (by decide +kernel) rfl, zE me_49 (by decide +kernel : kst 49 = []) 46]
  simp only [kc_49, ze_x, zgo_s, zk1_x, zk2_n, zk2_s, stf_0, stf_s, zs_sipush, zs_iload, zs_aload, zs_istore, zs_astore, zs_iinc, zs_iadd, zs_isub, zs_imul, zs_iand, zs_ior, zs_ixor, zs_ishl, zs_ishr, zs_iushr, zs_idiv, zs_irem, zs_ineg, zs_dup, zs_dup2, zs_pop, zs_if_eq, zs_if_ne, zs_if_lt, zs_if_ge, zs_if_gt, zs_if_le, zs_ic_eq, zs_ic_ne, zs_ic_lt, zs_ic_ge, zs_ic_gt, zs_ic_le, zs_goto, zs_ifnonnull, zs_tableswitch, zs_lookupswitch, zs_getstatic, zs_ldc, zs_getfield, zs_checkcast, zs_putfield, zs_putfieldb, zs_iaload, zs_ialoadb, zs_iastore, zs_aaload, zs_arraylength, zs_arraylengthb, zs_swap, zs_is0, zs_is0v, zs_is1, zs_is1v, zs_is2, zs_is2v, zs_is3, zs_is3v, zs_is4, zs_is4v, zs_is5, zs_is5v, zs_is6, zs_is6v, zs_iv0, zs_iv0v, zs_iv1, zs_iv1v, zs_iv2, zs_iv2v, zs_iv3, zs_iv3v, zs_iv4, zs_iv4v, zs_iv5, zs_iv5v, zs_iv6, zs_iv6v, zs_ireturn, zs_return, zl_0, zl_s, zlr_0, zlr_s, zsL_0, zsL_s, zsL_n0, zsL_ns, zo_s, zsw_0, zsw_s, zlk_0, zlk_s, zret_i, zret_b0, zret_b1, zret_b, zret_n, zkr_p, zkr_S, up_s, up_c, up_j, cp_c, List.map_cons, List.map_nil, List.getElem?_cons_zero, List.getElem?_cons_succ, List.take_succ_cons, List.take_zero, List.length_cons, List.length_nil, Nat.reduceAdd, Nat.reduceMul, Nat.reduceMod, Nat.reduceLT, Nat.reduceLeDiff, Nat.reduceEqDiff, Nat.zero_le, Nat.le_refl, Int.reduceToNat, Int.reduceLE, Int.reduceLT, Int.reduceAdd, Int.reduceNeg, Int.reduceEq, Int.cast_ofNat_Int, Prod.mk.injEq, reduceIte, reduceCtorEq, if_true, if_false, or_true, true_or, or_false, false_or, and_self, and_true, true_and, not_false_eq_true, not_true_eq_false, Nat.succ_ne_self, Nat.add_eq_left, Nat.left_eq_add, Nat.add_left_cancel_iff, Nat.reduceSub, kfc_1280, kfc_1282, kfc_1284, kfc_1286, kfc_8, kfk_1280, kfk_1282, kfk_1284, kfk_1286, kfk_8, kqc_42063, kqn_42063, kqy_42063, zk_119, zp_119_0, zp_119_1, zk_120, zk_199, zk_2, zk_15, fb, h0, hz, hk, hk2, hk3, hb, Int.toNat_natCast]

set_option maxRecDepth 20000 in
theorem e_49n {d : Nat} {I : zI} (h0 : ¬ 0 < I 119 3) : cl (d + 1) 49 [(.inr (some 119)), (.inr (some 2)), (.inr (some 15))] I = some (0, I) := by
  rw [cl_D (n := 3) (by decide +kernel) rfl, zE me_49 (by decide +kernel : kst 49 = []) 46]
  simp only [kc_49, ze_x, zgo_s, zk1_x, zk2_n, zk2_s, stf_0, stf_s, zs_sipush, zs_iload, zs_aload, zs_istore, zs_astore, zs_iinc, zs_iadd, zs_isub, zs_imul, zs_iand, zs_ior, zs_ixor, zs_ishl, zs_ishr, zs_iushr, zs_idiv, zs_irem, zs_ineg, zs_dup, zs_dup2, zs_pop, zs_if_eq, zs_if_ne, zs_if_lt, zs_if_ge, zs_if_gt, zs_if_le, zs_ic_eq, zs_ic_ne, zs_ic_lt, zs_ic_ge, zs_ic_gt, zs_ic_le, zs_goto, zs_ifnonnull, zs_tableswitch, zs_lookupswitch, zs_getstatic, zs_ldc, zs_getfield, zs_checkcast, zs_putfield, zs_putfieldb, zs_iaload, zs_ialoadb, zs_iastore, zs_aaload, zs_arraylength, zs_arraylengthb, zs_swap, zs_is0, zs_is0v, zs_is1, zs_is1v, zs_is2, zs_is2v, zs_is3, zs_is3v, zs_is4, zs_is4v, zs_is5, zs_is5v, zs_is6, zs_is6v, zs_iv0, zs_iv0v, zs_iv1, zs_iv1v, zs_iv2, zs_iv2v, zs_iv3, zs_iv3v, zs_iv4, zs_iv4v, zs_iv5, zs_iv5v, zs_iv6, zs_iv6v, zs_ireturn, zs_return, zl_0, zl_s, zlr_0, zlr_s, zsL_0, zsL_s, zsL_n0, zsL_ns, zo_s, zsw_0, zsw_s, zlk_0, zlk_s, zret_i, zret_b0, zret_b1, zret_b, zret_n, zkr_p, zkr_S, up_s, up_c, up_j, cp_c, List.map_cons, List.map_nil, List.getElem?_cons_zero, List.getElem?_cons_succ, List.take_succ_cons, List.take_zero, List.length_cons, List.length_nil, Nat.reduceAdd, Nat.reduceMul, Nat.reduceMod, Nat.reduceLT, Nat.reduceLeDiff, Nat.reduceEqDiff, Nat.zero_le, Nat.le_refl, Int.reduceToNat, Int.reduceLE, Int.reduceLT, Int.reduceAdd, Int.reduceNeg, Int.reduceEq, Int.cast_ofNat_Int, Prod.mk.injEq, reduceIte, reduceCtorEq, if_true, if_false, or_true, true_or, or_false, false_or, and_self, and_true, true_and, not_false_eq_true, not_true_eq_false, Nat.succ_ne_self, Nat.add_eq_left, Nat.left_eq_add, Nat.add_left_cancel_iff, Nat.reduceSub, kfc_1280, kfc_1282, kfc_1284, kfc_1286, kfc_8, kfk_1280, kfk_1282, kfk_1284, kfk_1286, kfk_8, kqc_42063, kqn_42063, kqy_42063, zk_119, h0]

/-- the two heaps as one: the class's cells, the model's -/
def mg (K J : zI) : zI := fun c j => if c < 240 then K c j else J c j
theorem mg_l {K J : zI} {c : Nat} (h : c < 240) : mg K J c = K c := funext fun _ => if_pos h
theorem mg_r {K J : zI} {c : Nat} (h : 240 ≤ c) : mg K J c = J c := funext fun _ => if_neg (by omega)
theorem Pair_two {y1 y2 : Nat} {as : List zV} {I : zI} (h : ∀ J : zI, (∀ c j, 240 ≤ c → J c j = I c j) → ∃ (r : Int) (K' J' : zI), cl 60 y1 (.inr (some 0) :: as) I = some (r, K') ∧ cl 60 y2 (.inr (some 240) :: as) J = some (r, J') ∧ (∀ c j, 240 ≤ c → K' c j = I c j) ∧ (∀ c j, c < 240 → J' c j = J c j) ∧ Rl (mg K' J')) : Pair y1 y2 as I := by
  obtain ⟨r, K1, _, e1, _, k1, _⟩ := h I (fun _ _ _ => rfl)
  obtain ⟨r', K', J', e1', e2', _, j', R⟩ := h K1 k1
  have e := e1'.symm.trans e1
  injection e with e
  injection e with ea eb
  subst ea eb
  refine ⟨r', K', J', e1', e2', ?_⟩
  have hj : J' = mg K' J' := by
    funext c j
    by_cases hc : c < 240
    · rw [mg_l hc]; exact j' c j hc
    · rw [mg_r (by omega)]
  rw [hj]; exact R
theorem RFirm_hb {I M : zI} {a : Nat} {hb hb2 : Int} (h : hb ≤ hb2) (r : RFirm I M a hb) : RFirm I M a hb2 := by
  obtain ⟨f1, f2, f3, f4, f5, ⟨f6, f6a, f6b⟩, f7⟩ := r
  exact ⟨f1, f2, f3, f4, f5, ⟨f6, f6a, by omega⟩, f7⟩
/-- the relation reads but the used places -/
theorem RFirm_pt {I I' M M' : zI} {a a' : Nat} {hb : Int} (h0 : ∀ j, j < 6 → I' a' j = I a j) (h14 : ∀ k j, 1 ≤ k → k ≤ 4 → j < 14 → I' (a' + k) j = I (a + k) j) (h10 : ∀ k j, 5 ≤ k → k ≤ 9 → j < 10 → I' (a' + k) j = I (a + k) j) (h12 : ∀ k j, 10 ≤ k → k ≤ 12 → j < 12 → I' (a' + k) j = I (a + k) j)
    (m1 : ∀ j, j < 110 → M' 241 j = M 241 j) (m4 : ∀ j, M' 244 j = M 244 j) (m5 : ∀ j, M' 245 j = M 245 j) (m6 : ∀ j, M' 246 j = M 246 j) (n6 : M' 240 6 = M 240 6) (n7 : M' 240 7 = M 240 7) (n8 : M' 240 8 = M 240 8) (r : RFirm I M a hb) : RFirm I' M' a' hb := by
  obtain ⟨⟨f1, f1a, f1b⟩, ⟨f2, f2a, f2b⟩, ⟨f3, f3a, f3b⟩, f4, f5, f6, f7, f8, f9⟩ := r
  have e3 := h0 3 (by decide)
  have e4 := h0 4 (by decide)
  have e5 := h0 5 (by decide)
  refine ⟨?_, ?_, ?_, ?_, ?_, ?_, fun p hp => ?_, fun p hp => ?_, fun p hp => ?_⟩
  · rw [e3, n6]; exact ⟨f1, f1a, f1b⟩
  · rw [e4, n7]; exact ⟨f2, f2a, f2b⟩
  · rw [e5, n8]; exact ⟨f3, f3a, f3b⟩
  · rw [h0 0 (by decide), m1 1 (by decide)]; exact f4
  · rw [h0 1 (by decide), m1 3 (by decide)]; exact f5
  · rw [h0 2 (by decide), m1 0 (by decide)]; exact f6
  · rw [e3] at hp
    rw [h14 1 p (by decide) (by decide) (by omega), h14 2 p (by decide) (by decide) (by omega), h14 3 p (by decide) (by decide) (by omega), h14 4 p (by decide) (by decide) (by omega), m4, m1 (4 + p) (by omega), m1 (18 + p) (by omega), m1 (32 + p) (by omega)]
    exact f7 p hp
  · rw [e4] at hp
    rw [h10 5 p (by decide) (by decide) (by omega), h10 6 p (by decide) (by decide) (by omega), h10 7 p (by decide) (by decide) (by omega), h10 8 p (by decide) (by decide) (by omega), h10 9 p (by decide) (by decide) (by omega), e3, e5, m5, m1 (46 + p) (by omega), m1 (56 + p) (by omega), m1 (66 + p) (by omega), m1 (76 + p) (by omega)]
    exact f8 p hp
  · rw [e5] at hp
    rw [h12 10 p (by decide) (by decide) (by omega), h12 11 p (by decide) (by decide) (by omega), h12 12 p (by decide) (by decide) (by omega), e4, m6, m1 (86 + p) (by omega), m1 (98 + p) (by omega)]
    exact f9 p hp
theorem cp_in {I : zI} {a b n j : Nat} (h : j < n) : cp I a b 0 0 n b j = I a j := by
  unfold cp
  rw [if_pos rfl]
  show (if 0 ≤ j ∧ j < 0 + n then I a (0 + (j - 0)) else I b j) = I a j
  rw [if_pos ⟨Nat.zero_le _, by omega⟩]
  congr 1
  omega
theorem s_21 {d a b : Nat} {I : zI} (ha : zFirm a) (hb : zFirm b) (hd : a + 12 < b ∨ b + 12 < a) : ∃ K' : zI, cl (d + 1) 21 [.inr (some a), .inr (some b)] I = some (0, K') ∧ (∀ k j, ¬ (a ≤ k ∧ k ≤ a + 12) → K' k j = I k j) ∧ (∀ j, j < 6 → K' a j = I b j) ∧ (∀ k j, 1 ≤ k → k ≤ 4 → j < 14 → K' (a + k) j = I (b + k) j) ∧ (∀ k j, 5 ≤ k → k ≤ 9 → j < 10 → K' (a + k) j = I (b + k) j) ∧ (∀ k j, 10 ≤ k → k ≤ 12 → j < 12 → K' (a + k) j = I (b + k) j) := by
  refine ⟨_, e_21 ha hb, fun k j hk => ?_, fun j hj => ?_, fun k j h1 h2 hj => ?_, fun k j h1 h2 hj => ?_, fun k j h1 h2 hj => ?_⟩
  · simp (disch := omega) only [up_c, cp_c]
  · have : j = 0 ∨ j = 1 ∨ j = 2 ∨ j = 3 ∨ j = 4 ∨ j = 5 := by omega
    rcases this with rfl | rfl | rfl | rfl | rfl | rfl <;> simp (disch := omega) only [up_c, up_j, up_s, cp_c]
  · have : k = 1 ∨ k = 2 ∨ k = 3 ∨ k = 4 := by omega
    rcases this with rfl | rfl | rfl | rfl <;> simp (disch := omega) only [up_c, cp_c, cp_in]
  · have : k = 5 ∨ k = 6 ∨ k = 7 ∨ k = 8 ∨ k = 9 := by omega
    rcases this with rfl | rfl | rfl | rfl | rfl <;> simp (disch := omega) only [up_c, cp_c, cp_in]
  · have : k = 10 ∨ k = 11 ∨ k = 12 := by omega
    rcases this with rfl | rfl | rfl <;> simp (disch := omega) only [up_c, cp_c, cp_in]
/-- what can be undone, over the two heaps -/
def RPast2 (K J : zI) : Prop :=
  (0 ≤ K 119 2 ∧ K 119 2 ≤ 5) ∧ (J 240 3 = K 119 3 ∧ 0 ≤ K 119 3 ∧ K 119 3 ≤ 6) ∧
  ∀ k : Nat, (k : Int) < K 119 3 → RFirm K (rowv J k) (121 + 13 * (((K 119 2).toNat + k) % 6)) 9999 ∧ (K 199 (((K 119 2).toNat + k) % 6) = J 242 (110 * k + 2) ∧ 0 ≤ J 242 (110 * k + 2) ∧ J 242 (110 * k + 2) ≤ 150)
theorem rowv_1 {J : zI} {k j : Nat} : rowv J k 241 j = J 242 (110 * k + j) := rfl
theorem rowv_c {J : zI} {k c j : Nat} (h : ¬ c = 241) : rowv J k c j = J c j := if_neg h
theorem RPast_mg {K J : zI} (r : RPast2 K J) : RPast (mg K J) := by
  unfold RPast
  rw [mg_l (c := 119) (by decide), mg_l (c := 199) (by decide), mg_r (c := 240) (by decide), mg_r (c := 242) (by decide)]
  refine ⟨r.1, r.2.1, fun k hk => ⟨?_, (r.2.2 k hk).2⟩⟩
  have hm : ((K 119 2).toNat + k) % 6 < 6 := Nat.mod_lt _ (by decide)
  have e : ∀ c, c < 240 → mg K J c = K c := fun c hc => mg_l hc
  refine RFirm_pt (fun j _ => by rw [e _ (by omega)]) (fun p j _ _ _ => by rw [e _ (by omega)]) (fun p j _ _ _ => by rw [e _ (by omega)]) (fun p j _ _ _ => by rw [e _ (by omega)]) (fun j _ => ?_) (fun j => ?_) (fun j => ?_) (fun j => ?_) ?_ ?_ ?_ (r.2.2 k hk).1
  · rw [rowv_1, rowv_1, mg_r (by decide)]
  · rw [rowv_c (by decide), rowv_c (by decide), mg_r (by decide)]
  · rw [rowv_c (by decide), rowv_c (by decide), mg_r (by decide)]
  · rw [rowv_c (by decide), rowv_c (by decide), mg_r (by decide)]
  · rw [rowv_c (by decide), rowv_c (by decide), mg_r (by decide)]
  · rw [rowv_c (by decide), rowv_c (by decide), mg_r (by decide)]
  · rw [rowv_c (by decide), rowv_c (by decide), mg_r (by decide)]
theorem RPast2_cg {K J K' J' : zI} (h2 : K' 119 2 = K 119 2) (h3 : K' 119 3 = K 119 3) (h : ∀ k j, 121 ≤ k → k ≤ 199 → K' k j = K k j) (m0 : ∀ j, J' 242 j = J 242 j) (m3 : J' 240 3 = J 240 3) (m4 : ∀ j, J' 244 j = J 244 j) (m5 : ∀ j, J' 245 j = J 245 j) (m6 : ∀ j, J' 246 j = J 246 j) (c6 : J' 240 6 = J 240 6) (c7 : J' 240 7 = J 240 7) (c8 : J' 240 8 = J 240 8) (r : RPast2 K J) : RPast2 K' J' := by
  unfold RPast2
  rw [h2, h3, m3]
  refine ⟨r.1, r.2.1, fun k hk => ⟨?_, ?_⟩⟩
  · have hm : ((K 119 2).toNat + k) % 6 < 6 := Nat.mod_lt _ (by decide)
    refine RFirm_pt (fun j _ => h _ _ (by omega) (by omega)) (fun p j _ _ _ => h _ _ (by omega) (by omega)) (fun p j _ _ _ => h _ _ (by omega) (by omega)) (fun p j _ _ _ => h _ _ (by omega) (by omega)) (fun j _ => ?_) (fun j => ?_) (fun j => ?_) (fun j => ?_) ?_ ?_ ?_ (r.2.2 k hk).1
    · rw [rowv_1, rowv_1, m0]
    · rw [rowv_c (by decide), rowv_c (by decide), m4]
    · rw [rowv_c (by decide), rowv_c (by decide), m5]
    · rw [rowv_c (by decide), rowv_c (by decide), m6]
    · rw [rowv_c (by decide), rowv_c (by decide), c6]
    · rw [rowv_c (by decide), rowv_c (by decide), c7]
    · rw [rowv_c (by decide), rowv_c (by decide), c8]
  · rw [h 199 _ (by decide) (by decide), m0]
    exact (r.2.2 k hk).2
/-! the model's rows -/
def zkp (s i : Nat) (J : zI) : zI := fun c j => if c = 242 ∧ 110 * s ≤ j ∧ j < 110 * s + i then J 241 (j - 110 * s) else J c j
def zsh (i : Nat) (J : zI) : zI := fun c j => if c = 242 ∧ j < i then J 242 (j + 110) else J c j
theorem zkp_0 {s : Nat} {J : zI} : zkp s 0 J = J := by
  funext c j
  exact if_neg fun e => by omega
theorem zsh_0 {J : zI} : zsh 0 J = J := by
  funext c j
  exact if_neg fun e => by omega
theorem zkp_s {s i : Nat} {J : zI} : zkp s (i + 1) J = up (zkp s i J) 242 (110 * s + i) (J 241 i) := by
  funext c j
  unfold zkp up
  by_cases e : c = 242 ∧ j = 110 * s + i
  · rw [if_pos e, if_pos ⟨e.1, by omega, by omega⟩, show j - 110 * s = i by omega]
  · rw [if_neg e]
    dsimp only
    by_cases q : c = 242 ∧ 110 * s ≤ j ∧ j < 110 * s + i
    · rw [if_pos q, if_pos ⟨q.1, q.2.1, by omega⟩]
    · rw [if_neg q, if_neg (fun q2 => q ⟨q2.1, q2.2.1, by omega⟩)]
theorem zsh_s {i : Nat} {J : zI} : zsh (i + 1) J = up (zsh i J) 242 i (J 242 (i + 110)) := by
  funext c j
  unfold zsh up
  by_cases e : c = 242 ∧ j = i
  · rw [if_pos e, if_pos ⟨e.1, by omega⟩, e.2]
  · rw [if_neg e]
    dsimp only
    by_cases q : c = 242 ∧ j < i
    · rw [if_pos q, if_pos ⟨q.1, by omega⟩]
    · rw [if_neg q, if_neg (fun q2 => q ⟨q2.1, by omega⟩)]
theorem s_166_32 {e s : Nat} {J : zI} (hs : s ≤ 5) (h3 : J 240 3 = (s : Int)) : zD (e + 1) 166 32 [some (.inr (some 240)), some (.inl 0)] [] J = some (0, up (zkp s 110 J) 240 3 ((s : Int) + 1)) := by
  have key : ∀ (m i : Nat), i + m = 110 → zD (e + 1) 166 32 [some (.inr (some 240)), some (.inl (i : Int))] [] (zkp s i J) = some (0, up (zkp s 110 J) 240 3 ((s : Int) + 1)) := by
    intro m
    induction m with
    | zero =>
      intro i hi
      have e3 : zkp s 110 J 240 3 = (s : Int) := (if_neg fun e => absurd e.1 (by decide)).trans h3
      rw [e_166_32, if_neg (by omega), show i = 110 by omega, e3, wr_id (by omega) (by omega)]
    | succ m ih =>
      intro i hi
      have e3 : zkp s i J 240 3 = (s : Int) := (if_neg fun e => absurd e.1 (by decide)).trans h3
      have e1 : zkp s i J 241 i = J 241 i := if_neg fun e => absurd e.1 (by decide)
      have w : wr (wr (110 * (s : Int)) + (i : Int)) = ((110 * s + i : Nat) : Int) := by rw [wr_id (z := 110 * (s : Int)) (by omega) (by omega), wr_id (by omega) (by omega)]; omega
      have := ih (i + 1) (by omega)
      rw [zkp_s] at this
      rw [e_166_32, if_pos (by omega), if_pos (by omega), e3, w, if_pos (by omega), Int.toNat_natCast, Int.toNat_natCast, e1, wr_id (by omega) (by omega), ← zk1c]
      exact this
  have := key 110 0 (by omega)
  rw [zkp_0] at this
  exact this
theorem s_166_12 {e : Nat} {J : zI} (h3 : J 240 3 = 5) : zD (e + 1) 166 12 [some (.inr (some 240)), some (.inl 0)] [] J = some (0, up (zkp 5 110 (zsh 550 J)) 240 3 6) := by
  have key : ∀ (m i : Nat), i + m = 550 → zD (e + 1) 166 12 [some (.inr (some 240)), some (.inl (i : Int))] [] (zsh i J) = some (0, up (zkp 5 110 (zsh 550 J)) 240 3 6) := by
    intro m
    induction m with
    | zero =>
      intro i hi
      have e3 : zsh i J 240 3 = 5 := (if_neg fun e => absurd e.1 (by decide)).trans h3
      rw [e_166_12, e3, if_neg (by rw [wr_id (by omega) (by omega)]; omega)]
      rw [show i = 550 by omega] at e3 ⊢
      exact s_166_32 (s := 5) (by decide) e3
    | succ m ih =>
      intro i hi
      have e3 : zsh i J 240 3 = 5 := (if_neg fun e => absurd e.1 (by decide)).trans h3
      have e1 : zsh i J 242 (i + 110) = J 242 (i + 110) := if_neg fun e => by omega
      have w : wr ((i : Int) + 110) = ((i + 110 : Nat) : Int) := by rw [wr_id (by omega) (by omega)]; omega
      have := ih (i + 1) (by omega)
      rw [zsh_s] at this
      rw [e_166_12, e3, if_pos (by rw [wr_id (by omega) (by omega)]; omega), w, if_pos (by omega), if_pos (by omega), Int.toNat_natCast, Int.toNat_natCast, e1, wr_id (by omega) (by omega), ← zk1c]
      exact this
  have := key 550 0 (by omega)
  rw [zsh_0] at this
  exact this
theorem keep_ok {d e : Nat} {hb : Int} {K J : zI} (rf : RFirm K J 2 hb) (hbb : hb ≤ 9999) (rb : RBook K J 15) (rp : RPast2 K J) :
    ∃ K' J' : zI, (∀ c j, c ≠ 119 → ¬ (121 ≤ c ∧ c ≤ 199) → K' c j = K c j) ∧ (∀ c j, c ≠ 242 → ¬ (c = 240 ∧ j = 3) → J' c j = J c j) ∧ RPast2 K' J' ∧ cl (d + 2) 48 [.inr (some 119), .inr (some 2), .inl (K 15 4)] K = some (0, K') ∧ cl (e + 1) 166 [.inr (some 240)] J = some (0, J') := by
  obtain ⟨⟨p1, p2⟩, ⟨p3, p4, p5⟩, p6⟩ := rp
  obtain ⟨o, ho⟩ : ∃ o : Nat, K 119 2 = o := ⟨(K 119 2).toNat, by omega⟩
  obtain ⟨s, hs⟩ : ∃ s : Nat, K 119 3 = s := ⟨(K 119 3).toNat, by omega⟩
  rw [ho] at p1 p2 p6
  rw [hs] at p3 p4 p5 p6
  simp only [Int.toNat_natCast] at p6
  have hk : (o + s) % 6 < 6 := Nat.mod_lt _ (by decide)
  obtain ⟨b1, b2⟩ := fi_kept ((o + s) % 6) hk
  have hz : zrem (wr (K 119 2 + K 119 3)) 6 = (((o + s) % 6 : Nat) : Int) := by
    rw [ho, hs, wr_id (by omega) (by omega), zrem_nn (by omega) (by omega) (by decide) (by decide)]
    omega
  obtain ⟨K1, c1, c2, c3, c4, c5, c6⟩ := s_21 (d := d) (I := K) b2 fi_2 (by omega)
  have E1 := e_48 (d := d + 1) (x2 := K 15 4) (by omega) (by omega) (by omega) b1 b2 hz
  rw [c1, Option.bind_some] at E1
  dsimp only at E1
  have k3 : K1 119 3 = (s : Int) := by rw [c2 119 3 (by omega), hs]
  have k2 : K1 119 2 = (o : Int) := by rw [c2 119 2 (by omega), ho]
  -- a kept firm that stays
  have old : ∀ (k k' : Nat) (J' : zI) (K' : zI), (k : Int) < (s : Int) → (o + k) % 6 ≠ (o + s) % 6 → (∀ c j, c ≠ 119 → c ≠ 199 → K' c j = K1 c j) → (∀ j, j < 110 → J' 242 (110 * k' + j) = J 242 (110 * k + j)) → (∀ c j, c ≠ 242 → ¬ (c = 240 ∧ j = 3) → J' c j = J c j) → RFirm K' (rowv J' k') (121 + 13 * ((o + k) % 6)) 9999 := by
    intro k k' J' K' hks hne hK hJ hJ2
    have hm : (o + k) % 6 < 6 := Nat.mod_lt _ (by decide)
    have q : ∀ c j, 121 + 13 * ((o + k) % 6) ≤ c → c ≤ 121 + 13 * ((o + k) % 6) + 12 → K' c j = K c j := fun c j q1 q2 => by rw [hK c j (by omega) (by omega), c2 c j (by omega)]
    refine RFirm_pt (M := rowv J k) (fun j _ => q _ j (by omega) (by omega)) (fun p j _ _ _ => q _ j (by omega) (by omega)) (fun p j _ _ _ => q _ j (by omega) (by omega)) (fun p j _ _ _ => q _ j (by omega) (by omega)) (fun j hj => hJ j hj) (fun j => ?_) (fun j => ?_) (fun j => ?_) ?_ ?_ ?_ (p6 k hks).1
    · exact hJ2 244 j (by decide) (by omega)
    · exact hJ2 245 j (by decide) (by omega)
    · exact hJ2 246 j (by decide) (by omega)
    · exact hJ2 240 6 (by decide) (by omega)
    · exact hJ2 240 7 (by decide) (by omega)
    · exact hJ2 240 8 (by decide) (by omega)
  -- the new one
  have new : ∀ (k' : Nat) (J' : zI) (K' : zI), (∀ c j, c ≠ 119 → c ≠ 199 → K' c j = K1 c j) → (∀ j, j < 110 → J' 242 (110 * k' + j) = J 241 j) → (∀ c j, c ≠ 242 → ¬ (c = 240 ∧ j = 3) → J' c j = J c j) → RFirm K' (rowv J' k') (121 + 13 * ((o + s) % 6)) 9999 := by
    intro k' J' K' hK hJ hJ2
    refine RFirm_pt (a := 2) (fun j hj => ?_) (fun p j h1 h2 h3 => ?_) (fun p j h1 h2 h3 => ?_) (fun p j h1 h2 h3 => ?_) (fun j hj => hJ j hj) (fun j => ?_) (fun j => ?_) (fun j => ?_) ?_ ?_ ?_ (RFirm_hb hbb rf)
    · rw [hK _ j (by omega) (by omega)]; exact c3 j hj
    · rw [hK _ j (by omega) (by omega)]; exact c4 p j h1 h2 h3
    · rw [hK _ j (by omega) (by omega)]; exact c5 p j h1 h2 h3
    · rw [hK _ j (by omega) (by omega)]; exact c6 p j h1 h2 h3
    · exact hJ2 244 j (by decide) (by omega)
    · exact hJ2 245 j (by decide) (by omega)
    · exact hJ2 246 j (by decide) (by omega)
    · exact hJ2 240 6 (by decide) (by omega)
    · exact hJ2 240 7 (by decide) (by omega)
    · exact hJ2 240 8 (by decide) (by omega)
  by_cases h6 : s < 6
  · rw [if_pos (by omega), k3, wr_id (by omega) (by omega)] at E1
    have E2 : cl (e + 1) 166 [.inr (some 240)] J = some (0, up (zkp s 110 J) 240 3 ((s : Int) + 1)) := by
      rw [e_166, if_neg (by omega)]
      exact s_166_32 (by omega) p3
    have jr : ∀ j, up (zkp s 110 J) 240 3 ((s : Int) + 1) 242 j = if 110 * s ≤ j ∧ j < 110 * s + 110 then J 241 (j - 110 * s) else J 242 j := by
      intro j
      rw [up_c (by decide)]
      unfold zkp
      simp only [true_and]
    have jo : ∀ c j, c ≠ 242 → ¬ (c = 240 ∧ j = 3) → up (zkp s 110 J) 240 3 ((s : Int) + 1) c j = J c j := by
      intro c j q1 q2
      unfold up
      rw [if_neg q2]
      exact if_neg fun e => q1 e.1
    refine ⟨_, _, fun c j q1 q2 => ?_, jo, ?_, E1, E2⟩
    · rw [up_c (by omega), up_c (by omega), c2 c j (by omega)]
    · have y2 : up (up K1 199 ((o + s) % 6) (K 15 4)) 119 3 ((s : Int) + 1) 119 2 = (o : Int) := by rw [up_j (by decide), up_c (by decide), k2]
      have y3 : up (up K1 199 ((o + s) % 6) (K 15 4)) 119 3 ((s : Int) + 1) 119 3 = (s : Int) + 1 := up_s
      unfold RPast2
      rw [y2, y3, up_s]
      simp only [Int.toNat_natCast]
      refine ⟨⟨p1, p2⟩, ⟨trivial, by omega, by omega⟩, fun k hk => ?_⟩
      have hKK : ∀ c j, c ≠ 119 → c ≠ 199 → up (up K1 199 ((o + s) % 6) (K 15 4)) 119 3 ((s : Int) + 1) c j = K1 c j := fun c j q1 q2 => by rw [up_c q1, up_c q2]
      by_cases e : k = s
      · subst e
        refine ⟨new k _ _ hKK (fun j hj => ?_) jo, ?_⟩
        · rw [jr, if_pos (by omega)]; congr 1; omega
        · rw [jr, if_pos (by omega), up_c (by decide), up_s, show 110 * k + 2 - 110 * k = 2 by omega]
          have := rb.1
          omega
      · refine ⟨old k k _ _ (by omega) (by omega) hKK (fun j hj => ?_) jo, ?_⟩
        · rw [jr, if_neg (by omega)]
        · rw [jr, if_neg (by omega), up_c (by decide), up_j (by omega), c2 199 _ (by omega)]
          exact (p6 k (by omega)).2
  · have s6 : s = 6 := by omega
    subst s6
    rw [if_neg (by omega), k2, wr_id (by omega) (by omega), zrem_nn (by omega) (by omega) (by decide) (by decide)] at E1
    have E2 : cl (e + 1) 166 [.inr (some 240)] J = some (0, up (zkp 5 110 (zsh 550 (up J 240 3 5))) 240 3 6) := by
      rw [e_166, p3, if_pos (by decide), show wr (((6 : Nat) : Int) - 1) = 5 from by decide +kernel]
      exact s_166_12 up_s
    have jr : ∀ j, j < 660 → up (zkp 5 110 (zsh 550 (up J 240 3 5))) 240 3 6 242 j = if j < 550 then J 242 (j + 110) else J 241 (j - 550) := by
      intro j hj
      rw [up_c (by decide)]
      unfold zkp
      by_cases h5 : j < 550
      · rw [if_neg (by omega), if_pos h5]
        unfold zsh
        rw [if_pos ⟨rfl, h5⟩, up_c (by decide)]
      · rw [if_pos ⟨rfl, by omega, by omega⟩, if_neg h5]
        unfold zsh
        rw [if_neg (fun e => absurd e.1 (by decide)), up_c (by decide)]
    have jo : ∀ c j, c ≠ 242 → ¬ (c = 240 ∧ j = 3) → up (zkp 5 110 (zsh 550 (up J 240 3 5))) 240 3 6 c j = J c j := by
      intro c j q1 q2
      unfold up zkp zsh
      rw [if_neg q2, if_neg (fun e => q1 e.1), if_neg (fun e => q1 e.1)]
      exact if_neg q2
    refine ⟨_, _, fun c j q1 q2 => ?_, jo, ?_, E1, E2⟩
    · rw [up_c (by omega), up_c (by omega), c2 c j (by omega)]
    · have y2 : up (up K1 199 ((o + 6) % 6) (K 15 4)) 119 2 (((o : Int) + 1) % 6) 119 2 = (((o + 1) % 6 : Nat) : Int) := by rw [up_s]; omega
      have y3 : up (up K1 199 ((o + 6) % 6) (K 15 4)) 119 2 (((o : Int) + 1) % 6) 119 3 = 6 := by rw [up_j (by decide), up_c (by decide), k3]; rfl
      unfold RPast2
      rw [y2, y3, up_s]
      simp only [Int.toNat_natCast]
      refine ⟨⟨by omega, by omega⟩, ⟨trivial, by decide, by decide⟩, fun k hk => ?_⟩
      have hKK : ∀ c j, c ≠ 119 → c ≠ 199 → up (up K1 199 ((o + 6) % 6) (K 15 4)) 119 2 (((o : Int) + 1) % 6) c j = K1 c j := fun c j q1 q2 => by rw [up_c q1, up_c q2]
      by_cases e : k = 5
      · subst e
        rw [show ((o + 1) % 6 + 5) % 6 = (o + 6) % 6 by omega]
        refine ⟨new 5 _ _ hKK (fun j hj => ?_) jo, ?_⟩
        · rw [jr _ (by omega), if_neg (by omega), show 110 * 5 + j - 550 = j by omega]
        · rw [jr _ (by omega), if_neg (by omega), up_c (by decide), up_s, show 110 * 5 + 2 - 550 = 2 by omega]
          have := rb.1
          omega
      · rw [show ((o + 1) % 6 + k) % 6 = (o + (k + 1)) % 6 by omega]
        refine ⟨old (k + 1) k _ _ (by omega) (by omega) hKK (fun j hj => ?_) jo, ?_⟩
        · rw [jr _ (by omega), if_pos (by omega)]; congr 1; omega
        · rw [jr _ (by omega), if_pos (by omega), up_c (by decide), up_j (by omega), c2 199 _ (by omega), show 110 * k + 2 + 110 = 110 * (k + 1) + 2 by omega]
          exact (p6 (k + 1) (by omega)).2
