set_option maxHeartbeats 40000000 in
set_option maxRecDepth 20000 in
theorem stp_ok {g : kG} {y d i c n : Nat} {L : List (Option kV)} {st : List kV} {h : kH} {Q : Int32 → kH → Prop} {K : kK_} {ins : Instr} (hy : y < 305) (hins : (kC y)[i]? = some ins)
    (hK : ∀ c n i L st h, K c n i L st h → Wz g y (d + 1) i c n L st h Q)
    (hs : stp g (kT y) (kc_c y).1 (kc_c y).2 (fun z as h1 Q1 => Ev g z d as h1 Q1) K Q c n i L st h ins) : Wz g y (d + 1) i c n L st h Q := by
  intro p e R s m args below meth c0 h0 Z H locs ls C hR hS hL hc
  have C' := C
  obtain ⟨hx, hb, hml, hown, hts, hnm, ⟨hfr, hlo, hce, hsl⟩, hG, hs0, hret⟩ := C'
  have hD : va_D (kA g) (kw g h) := kw_D hR.2
  have hA : ∀ q, s.heap.size ≤ q → kA g q := fun q hq => by show gb g ≤ q; omega
  have hKc : va_K (gD g) vwCl [(gI g, .int), (gF g, .object "QuillDesk$Firm")] s := hG.1
  have go : ∀ {c2 n2 i2 : Nat} {L2 : List (Option kV)} {st2 : List kV} {h2 : kH} {H2 : Heap} {locs2 : List Loc} {ls2 : Array Slot}, K c2 n2 i2 L2 st2 h2 → kRp g h2 H2 → va_S (kA g) s.heap H2 locs2 → kzL g ls2 (kL y) L2 → hn h2 = hn h0 + c2 → W p (gl g) e R s m args below meth c0 H2 locs2 c2 n2 Z (F0 m (kP y i2) ls2 (st2.map (kv g))) :=
    fun k a1 a2 a3 a4 => hK _ _ _ _ _ _ k p e R s m args below meth c0 h0 Z _ _ _ C a1 a2 a3 a4
  by_cases hnop : ins = .nop
  · subst hnop; exact hs.elim
  obtain ⟨pl, x, len, hd, hp, hr⟩ := ko_get hy hins hnop
  cases ins with
  | sipush v =>
    have k := go hs hR hS hL hc
    rw [hp] at k
    simp only [ko_r, Bool.or_eq_true, Bool.and_eq_true, decide_eq_true_eq] at hr
    rcases hr with (rfl | ⟨rfl, hr⟩) | ⟨rfl, hr⟩
    · exact lv_iconst hx hb hd rfl k
    · by_cases h0 : x = 0
      · subst h0
        exact lv_bipush hx hb hd (by simpa using hr) k
      · rw [if_neg h0] at hr
        simp only [ko_w, if_neg h0] at hd
        exact lv_ldc hx hb hown (hts _ (wd_in hr rfl)) hd k
    · by_cases h0 : x = 0
      · subst h0
        exact lv_sipush hx hb hd (by simpa using hr) k
      · rw [if_neg h0] at hr
        simp only [ko_w, if_neg h0] at hd
        exact lv_ldcw hx hb hown (hts _ (wd_in hr rfl)) hd k
  | iload q =>
    obtain ⟨v, hv, hs⟩ := lI_ok hs
    have k := go hs hR hS hL hc
    rw [hp] at k
    have hl : ls[q]? = some (.val (.int v)) := hL.2.2 q (.inl v) hv
    simp only [ko_r, Bool.or_eq_true, Bool.and_eq_true, decide_eq_true_eq] at hr
    rcases hr with ⟨rfl, hq⟩ | rfl
    · exact lv_iload_n hx hb hd (Nat.mod_eq_of_lt hq) hl k
    · exact lv_iload hx hb hd hl k
  | aload q =>
    obtain ⟨v, hv, hs⟩ := lR_ok hs
    have k := go hs hR hS hL hc
    rw [hp] at k
    have hl : ls[q]? = some (.val (kv g (.inr v))) := hL.2.2 q (.inr v) hv
    simp only [ko_r, Bool.or_eq_true, Bool.and_eq_true, decide_eq_true_eq] at hr
    rcases hr with ⟨rfl, hq⟩ | rfl
    · cases v with
      | none => exact lv_aload_nN hx hb hd (Nat.mod_eq_of_lt hq) hl k
      | some a => exact lv_aload_n hx hb hd (Nat.mod_eq_of_lt hq) hl k
    · cases v with
      | none => exact lv_aloadN hx hb hd hl k
      | some a => exact lv_aload hx hb hd hl k
  | istore q =>
    obtain ⟨v, r, rfl, hs⟩ := p1_ok hs
    simp only [ko_r, Bool.or_eq_true, Bool.and_eq_true, decide_eq_true_eq] at hr
    obtain ⟨hql, hr⟩ := hr
    have k := fun ls2 (hl2 : kzL g ls2 (kL y) (sL L q (.inl v))) => go hs hR hS hl2 hc
    rw [hp] at k
    rcases hr with ⟨rfl, hq⟩ | rfl
    · exact lv_istore_n hx hb hd (Nat.mod_eq_of_lt hq) (kpr_has hL) hql rfl fun ls2 hl2 => k ls2 (kz_store hl2)
    · exact lv_istore hx hb hd (kpr_has hL) hql rfl fun ls2 hl2 => k ls2 (kz_store hl2)
  | astore q =>
    rcases st with _ | ⟨v | v, r⟩
    · exact hs.elim
    · exact hs.elim
    simp only [ko_r, Bool.or_eq_true, Bool.and_eq_true, decide_eq_true_eq] at hr
    obtain ⟨hql, hr⟩ := hr
    have k := fun ls2 (hl2 : kzL g ls2 (kL y) (sL L q (.inr v))) => go hs hR hS hl2 hc
    rw [hp] at k
    rcases hr with ⟨rfl, hq⟩ | rfl
    · cases v with
      | none => exact lv_astore_nN hx hb hd (Nat.mod_eq_of_lt hq) (kpr_has hL) hql rfl fun ls2 hl2 => k ls2 (kz_store (v := .inr none) hl2)
      | some a => exact lv_astore_n hx hb hd (Nat.mod_eq_of_lt hq) (kpr_has hL) hql rfl fun ls2 hl2 => k ls2 (kz_store (v := .inr (some a)) hl2)
    · cases v with
      | none => exact lv_astoreN hx hb hd (kpr_has hL) hql rfl fun ls2 hl2 => k ls2 (kz_store (v := .inr none) hl2)
      | some a => exact lv_astore hx hb hd (kpr_has hL) hql rfl fun ls2 hl2 => k ls2 (kz_store (v := .inr (some a)) hl2)
  | iinc q w =>
    obtain ⟨v, hv, hs⟩ := lI_ok hs
    simp only [ko_r, Bool.and_eq_true, decide_eq_true_eq] at hr
    obtain ⟨hql, rfl⟩ := hr
    have k := fun ls2 (hl2 : kzL g ls2 (kL y) (sL L q (.inl (v + Int32.ofInt w)))) => go hs hR hS hl2 hc
    rw [hp] at k
    obtain ⟨j, hj⟩ := List.getElem?_of_mem (kpr_in (g := g) hv)
    exact lv_iinc hx hb hd (kpr_has hL) (k := j) hj rfl hql rfl fun ls2 hl2 => k ls2 (kz_store hl2)
  | iadd =>
    obtain ⟨a, b, r, rfl, hs⟩ := p2_ok hs
    have k := go hs hR hS hL hc
    rw [hp] at k
    simp only [ko_r, decide_eq_true_eq] at hr
    subst hr
    exact lv_iadd hx hb hd k
  | isub =>
    obtain ⟨a, b, r, rfl, hs⟩ := p2_ok hs
    have k := go hs hR hS hL hc
    rw [hp] at k
    simp only [ko_r, decide_eq_true_eq] at hr
    subst hr
    exact lv_isub hx hb hd k
  | imul =>
    obtain ⟨a, b, r, rfl, hs⟩ := p2_ok hs
    have k := go hs hR hS hL hc
    rw [hp] at k
    simp only [ko_r, decide_eq_true_eq] at hr
    subst hr
    exact lv_imul hx hb hd k
  | idiv =>
    obtain ⟨a, b, r, rfl, h1, hs⟩ := p2_ok hs
    have k := go hs hR hS hL hc
    rw [hp] at k
    simp only [ko_r, decide_eq_true_eq] at hr
    subst hr
    exact lv_idiv hx hb hd h1 k
  | irem =>
    obtain ⟨a, b, r, rfl, h1, hs⟩ := p2_ok hs
    have k := go hs hR hS hL hc
    rw [hp] at k
    simp only [ko_r, decide_eq_true_eq] at hr
    subst hr
    exact lv_irem hx hb hd h1 k
  | ineg =>
    obtain ⟨a, r, rfl, hs⟩ := p1_ok hs
    have k := go hs hR hS hL hc
    rw [hp] at k
    simp only [ko_r, decide_eq_true_eq] at hr
    subst hr
    exact lv_ineg hx hb hd k
  | iand =>
    obtain ⟨a, b, r, rfl, hs⟩ := p2_ok hs
    have k := go hs hR hS hL hc
    rw [hp] at k
    simp only [ko_r, decide_eq_true_eq] at hr
    subst hr
    exact lv_iand hx hb hd k
  | ior =>
    obtain ⟨a, b, r, rfl, hs⟩ := p2_ok hs
    have k := go hs hR hS hL hc
    rw [hp] at k
    simp only [ko_r, decide_eq_true_eq] at hr
    subst hr
    exact lv_ior hx hb hd k
  | ixor =>
    obtain ⟨a, b, r, rfl, hs⟩ := p2_ok hs
    have k := go hs hR hS hL hc
    rw [hp] at k
    simp only [ko_r, decide_eq_true_eq] at hr
    subst hr
    exact lv_ixor hx hb hd k
  | ishl =>
    obtain ⟨a, b, r, rfl, hs⟩ := p2_ok hs
    have k := go hs hR hS hL hc
    rw [hp] at k
    simp only [ko_r, decide_eq_true_eq] at hr
    subst hr
    exact lv_ishl hx hb hd k
  | ishr =>
    obtain ⟨a, b, r, rfl, hs⟩ := p2_ok hs
    have k := go hs hR hS hL hc
    rw [hp] at k
    simp only [ko_r, decide_eq_true_eq] at hr
    subst hr
    exact lv_ishr hx hb hd k
  | iushr =>
    obtain ⟨a, b, r, rfl, hs⟩ := p2_ok hs
    have k := go hs hR hS hL hc
    rw [hp] at k
    simp only [ko_r, decide_eq_true_eq] at hr
    subst hr
    exact lv_iushr hx hb hd rfl k
  | i2c =>
    obtain ⟨a, r, rfl, hs⟩ := p1_ok hs
    have k := go hs hR hS hL hc
    rw [hp] at k
    simp only [ko_r, decide_eq_true_eq] at hr
    subst hr
    exact lv_i2c hx hb hd rfl k
  | dup =>
    rcases st with _ | ⟨v, r⟩
    · exact hs.elim
    have k := go hs hR hS hL hc
    rw [hp] at k
    simp only [ko_r, decide_eq_true_eq] at hr
    subst hr
    exact lv_dup hx hb hd (kv_cat g v) k
  | dup2 =>
    rcases st with _ | ⟨v, _ | ⟨w, r⟩⟩
    · exact hs.elim
    · exact hs.elim
    have k := go hs hR hS hL hc
    rw [hp] at k
    simp only [ko_r, decide_eq_true_eq] at hr
    subst hr
    exact lv_dup2_11 hx hb hd (kv_cat g v) (kv_cat g w) k
  | pop =>
    rcases st with _ | ⟨v, r⟩
    · exact hs.elim
    have k := go hs hR hS hL hc
    rw [hp] at k
    simp only [ko_r, decide_eq_true_eq] at hr
    subst hr
    exact lv_pop hx hb hd (kv_cat g v) k
  | ifCond q t =>
    obtain ⟨a, r, rfl, hs1, hs2⟩ := p1_ok hs
    simp only [ko_r, decide_eq_true_eq] at hr
    subst hr
    have k1 := fun (z : cz q a 0) => go (hs1 z) hR hS hL hc
    have k2 := fun (z : ¬ cz q a 0) => go (hs2 z) hR hS hL hc
    rw [hp] at k2
    have ht : (kP y i : Int) + ((kP y t.toNat : Int) - (kP y i : Int)) = (kP y t.toNat : Int) := by omega
    cases q with
    | eq => exact lv_if_eq hx hb hd ht k1 k2
    | ne => exact lv_if_ne hx hb hd ht k1 (fun z => k2 (fun w => w z))
    | lt => exact lv_if_lt hx hb hd ht k1 k2
    | ge => exact lv_if_ge hx hb hd ht k1 k2
    | gt => exact lv_if_gt hx hb hd ht k1 k2
    | le => exact lv_if_le hx hb hd ht k1 k2
  | if_icmp q t =>
    obtain ⟨a, b, r, rfl, hs1, hs2⟩ := p2_ok hs
    simp only [ko_r, decide_eq_true_eq] at hr
    subst hr
    have k1 := fun (z : cz q a b) => go (hs1 z) hR hS hL hc
    have k2 := fun (z : ¬ cz q a b) => go (hs2 z) hR hS hL hc
    rw [hp] at k2
    have ht : (kP y i : Int) + ((kP y t.toNat : Int) - (kP y i : Int)) = (kP y t.toNat : Int) := by omega
    cases q with
    | eq => exact lv_icmp_eq hx hb hd ht k1 k2
    | ne => exact lv_icmp_ne hx hb hd ht k1 (fun z => k2 (fun w => w z))
    | lt => exact lv_icmp_lt hx hb hd ht k1 k2
    | ge => exact lv_icmp_ge hx hb hd ht k1 k2
    | gt => exact lv_icmp_gt hx hb hd ht k1 k2
    | le => exact lv_icmp_le hx hb hd ht k1 k2
  | goto t =>
    have k := go hs hR hS hL hc
    simp only [ko_r, decide_eq_true_eq] at hr
    subst hr
    have ht : (kP y i : Int) + ((kP y t.toNat : Int) - (kP y i : Int)) = (kP y t.toNat : Int) := by omega
    exact lv_goto hx hb hd ht k
  | ifnonnull t =>
    simp only [ko_r, decide_eq_true_eq] at hr
    subst hr
    have ht : (kP y i : Int) + ((kP y t.toNat : Int) - (kP y i : Int)) = (kP y t.toNat : Int) := by omega
    rcases st with _ | ⟨v | v, r⟩
    · exact hs.elim
    · exact hs.elim
    cases v with
    | none =>
      have k := go hs hR hS hL hc
      rw [hp] at k
      exact lv_ifnonnullN hx hb hd k
    | some a =>
      have k := go hs hR hS hL hc
      exact lv_ifnonnull hx hb hd ht k
  | tableswitch dt lo hi ts =>
    obtain ⟨a, r, rfl, hs1, hs2⟩ := p1_ok hs
    simp only [ko_r, Bool.and_eq_true, decide_eq_true_eq] at hr
    obtain ⟨⟨hlo1, hhi1⟩, hsz⟩ := hr
    by_cases hout : a.toInt < lo ∨ hi < a.toInt
    · have k := go (hs2 hout) hR hS hL hc
      exact lv_tableOut hx hb hd hout (by omega) k
    · have h1 : ¬ a.toInt < lo := fun q => hout (Or.inl q)
      have h2 : ¬ hi < a.toInt := fun q => hout (Or.inr q)
      have hj : (a.toInt - lo).toNat < ts.size := by omega
      have ht : ts.toList[(a.toInt - lo).toNat]? = some ts[(a.toInt - lo).toNat] := by rw [Array.getElem?_toList, Array.getElem?_eq_getElem hj]
      have k := go (sw_in ts.toList lo hs1 hlo1 (by rw [Array.length_toList]; omega) _ _ ht (by omega)) hR hS hL hc
      refine lv_tableIn hx hb hd h1 h2 (off := (kP y ts[(a.toInt - lo).toNat].toNat : Int) - (kP y i : Int)) ?_ (by omega) k
      rw [Array.getElem?_map, Array.getElem?_eq_getElem hj]
      rfl
  | lookupswitch dt ps =>
    obtain ⟨a, r, rfl, hs⟩ := p1_ok hs
    simp only [ko_r, Bool.and_eq_true, decide_eq_true_eq] at hr
    obtain ⟨hord, hbd⟩ := hr
    obtain ⟨tgt, ht, k⟩ := lk_in (fun z => W p (gl g) e R s m args below meth c0 H locs c n Z (F0 m z ls (r.map (kv g)))) (kP y) (kP y i) dt ps.toList hs (fun o ho => by simpa using List.all_eq_true.mp hbd o ho) (fun t k => go k hR hS hL hc) (fun k => go k hR hS hL hc)
    refine lv_lookup hx hb hd ?_ rfl (tgt := tgt) ?_ k
    · have e1 : (ps.map fun t => (t.1, (kP y t.2.toNat : Int) - (kP y i : Int))).toList = ps.toList.map fun t => (t.1, (kP y t.2.toNat : Int) - (kP y i : Int)) := Array.toList_map
      rw [e1, ← List.map_drop, List.zip_map, List.all_map]
      exact hord
    · rw [Array.toList_map]
      exact ht
  | getstatic q =>
    simp only [ko_r, Bool.and_eq_true, decide_eq_true_eq] at hr
    obtain ⟨rfl, hr⟩ := hr
    obtain ⟨a1, a2, a3, a4, a7, a8, a9, a10, a11, a12, a13⟩ := hG
    match q, hs, hr with
    | 0, hs, hr =>
      have k := go hs hR hS hL hc
      rw [hp] at k
      exact va_gets hx hb a8 hS hown (hts _ (wd_in hr rfl)) (fun _ z => z) hd k
    | 1, hs, hr =>
      have k := go hs hR hS hL hc
      rw [hp] at k
      exact va_getsN hx hb a9 hS hown (va_Nw.use rfl (a13 _ (kg_n_in hr rfl))) (fun _ z => z) hd k
    | 2, hs, hr =>
      have k := go hs hR hS hL hc
      rw [hp] at k
      exact va_gets hx hb a10 hS hown (hts _ (wd_in hr rfl)) (fun _ z => z) hd k
  | ldc q =>
    have k := go hs hR hS hL hc
    rw [hp] at k
    simp only [ko_r, Bool.and_eq_true, decide_eq_true_eq] at hr
    obtain ⟨⟨⟨rfl, -⟩, ho⟩, rfl⟩ := hr
    obtain ⟨a1, a2, a3, a4, a7, a8, a9, a10, a11, a12, a13⟩ := hG
    rw [ho] at hown
    exact va_ldcS hx hb hown a11 hd k
  | ldc_w q =>
    obtain ⟨a, r, rfl, rfl, hs2⟩ := pr_ok hs
    clear hs
    simp only [ko_r, Bool.and_eq_true, decide_eq_true_eq] at hr
    obtain ⟨rfl, hr⟩ := hr
    obtain ⟨a1, a2, a3, ⟨a4, a5, a6⟩, a7, a8, a9, a10, a11, a12, a13⟩ := hG
    match q, hs2, hr with
    | 0, hs2, hr =>
      have k := go hs2 hR hS hL hc
      rw [hp] at k
      exact vk_getf hx hb a6 hS hown (hts _ (wd_in hr rfl)) (fun _ z => z) hd k
    | 1, hs2, hr =>
      have k := go hs2 hR hS hL hc
      rw [hp] at k
      exact vk_getf hx hb a5 hS hown (hts _ (wd_in hr rfl)) (fun _ z => z) hd k
  | getfield q =>
    obtain ⟨a, r, rfl, ⟨ha, hka⟩, hs⟩ := pr_ok hs
    have k := go hs hR hS hL hc
    rw [hp] at k
    simp only [ko_r, Bool.and_eq_true, decide_eq_true_eq] at hr
    obtain ⟨⟨⟨⟨rfl, h1⟩, h2⟩, h3⟩, h4⟩ := hr
    have he : (kw g h)[a]? = some (ka g a, .inr (kf_c q, (List.range (kn_N (kf_c q))).map (fun i => kfv g h a (kf_c q) i))) := by rw [kw_get ha, ken_O hka]
    refine va_get hx hb hts (kn_in h1) hown hKc hR.1 a he (kn_cl h1) (kf_k q) h2 (hts _ (wd_in h4 rfl)) (fun _ z => z) (ken_fld h2) hd ?_
    rw [show kfv g h a (kf_c q) (kf_k q) = .int (hI h a (kf_k q)) by unfold kfv; rw [kn_prim h3]; rfl]
    exact k
  | checkcast q =>
    obtain ⟨a, r, rfl, ⟨ha, hka⟩, hs⟩ := pr_ok hs
    have k := go hs hR hS hL hc
    rw [hp] at k
    simp only [ko_r, Bool.and_eq_true, decide_eq_true_eq] at hr
    obtain ⟨⟨⟨⟨rfl, h1⟩, h2⟩, h3⟩, h4⟩ := hr
    have he : (kw g h)[a]? = some (ka g a, .inr (kf_c q, (List.range (kn_N (kf_c q))).map (fun i => kfv g h a (kf_c q) i))) := by rw [kw_get ha, ken_O hka]
    refine va_get hx hb hts (kn_in h1) hown hKc hR.1 a he (kn_cl h1) (kf_k q) h2 (hts _ (wd_in h4 rfl)) (fun _ z => z) (ken_fld h2) hd ?_
    have h3' : kr_t (kn_t (kf_c q) (kf_k q)) = true := (kn_kinds h1 h2).resolve_right (fun z => z.elim h3.1 h3.2)
    rw [show kfv g h a (kf_c q) (kf_k q) = va_rf ((hP h a (kf_k q)).map (ka g)) by unfold kfv; rw [if_pos h3']]
    exact k
  | putfield q =>
    rcases st with _ | ⟨v | v, _ | ⟨b | b, r⟩⟩
    · exact hs.elim
    · exact hs.elim
    · exact hs.elim
    · cases b with
      | none => exact hs.elim
      | some a =>
        obtain ⟨⟨ha, hka⟩, hv, hs⟩ := hs
        simp only [ko_r, Bool.and_eq_true, Bool.or_eq_true, decide_eq_true_eq] at hr
        obtain ⟨⟨⟨⟨⟨rfl, h1⟩, h2⟩, h3⟩, h4⟩, h5⟩ := hr
        have h3' : kn_t (kf_c q) (kf_k q) = .int ∨ kn_t (kf_c q) (kf_k q) = .boolean := by
          rw [h3]; split
          · exact Or.inr rfl
          · exact Or.inl rfl
        have hnar : narrow (kn_t (kf_c q) (kf_k q)) (.int v) = .int v ∧ fits (kn_t (kf_c q) (kf_k q)) (.int v) = true := by
          rw [h3]; split
          · rename_i hq
            rcases hv hq with rfl | rfl <;> exact ⟨by decide, by decide⟩
          · exact ⟨rfl, rfl⟩
        have he : (kw g h)[a]? = some (ka g a, .inr (kf_c q, (List.range (kn_N (kf_c q))).map (fun i => kfv g h a (kf_c q) i))) := by rw [kw_get ha, ken_O hka]
        have e1 : kfv g (uI h a (kf_k q) v) a (kf_c q) (kf_k q) = .int v := by unfold kfv; rw [kn_prim h3']; simp [uI, hI, u2]
        have e2 : ∀ j, j ≠ kf_k q → kfv g (uI h a (kf_k q) v) a (kf_c q) j = kfv g h a (kf_c q) j := fun j hj => by unfold kfv; simp [uI, hI, hP, u2, hj]
        have kk : ∀ (H1 : Heap) (locs1 : List Loc), va_P (gD g) vwCl ((kw g h).set a (ka g a, .inr (kf_c q, ((List.range (kn_N (kf_c q))).map (fun i => kfv g h a (kf_c q) i)).set (kf_k q) (.int v)))) H1 → va_D (kA g) ((kw g h).set a (ka g a, .inr (kf_c q, ((List.range (kn_N (kf_c q))).map (fun i => kfv g h a (kf_c q) i)).set (kf_k q) (.int v)))) → va_S (kA g) s.heap H1 locs1 → W p (gl g) e R s m args below meth c0 H1 locs1 c n Z (F0 m (kP y i + 3) ls (r.map (kv g))) := fun H1 locs1 hP1 _ hS1 => by
          have k := go hs (kw_st (h1 := uI h a (kf_k q) v) ha hR.2 rfl (by rw [ken_O (show hk (uI h a (kf_k q) v) a = (0, kf_c q) from hka), ken_fset h2 e1 e2]) (fun b hb => uI_ken hb) hP1) hS1 hL hc
          rw [hp] at k
          exact k
        rcases h5 with h5 | ⟨h5, h6⟩
        · exact va_put hx hb hts (kn_in h1) (kn_t (kf_c q)) (kn_ty h1) (kn_nm h1) hown hKc hR.1 hD hS a he (kn_cl h1) (kf_k q) h2 (hts _ (wd_in h4 rfl)) (fun _ z => z) h5 (kn_ty h1 _ h2) hnar.1 hnar.2 (by simpa using h2) hd kk
        · cases hfin : (kn_F (kf_c q) (kf_k q)).2.2.2 with
          | false => exact va_put hx hb hts (kn_in h1) (kn_t (kf_c q)) (kn_ty h1) (kn_nm h1) hown hKc hR.1 hD hS a he (kn_cl h1) (kf_k q) h2 (hts _ (wd_in h4 rfl)) (fun _ z => z) hfin (kn_ty h1 _ h2) hnar.1 hnar.2 (by simpa using h2) hd kk
          | true => exact va_putF hx hb hts (kn_in h1) (kn_t (kf_c q)) (kn_ty h1) (kn_nm h1) hown hKc hR.1 hD hS a he (kn_cl h1) (kf_k q) h2 (hts _ (wd_in h4 rfl)) (fun _ z => z) hfin ((hnm h5).trans h5) h6 (kn_ty h1 _ h2) hnar.1 hnar.2 (by simpa using h2) hd kk
    · exact hs.elim
    · exact hs.elim
    · exact hs.elim
  | putstatic q =>
    rcases st with _ | ⟨v | v, _ | ⟨b | b, r⟩⟩
    · exact hs.elim
    · exact hs.elim
    · exact hs.elim
    · exact hs.elim
    · exact hs.elim
    · exact hs.elim
    · cases b with
      | none => exact hs.elim
      | some a =>
        obtain ⟨⟨ha, hka⟩, hs⟩ := hs
        simp only [ko_r, Bool.and_eq_true, Bool.or_eq_true, decide_eq_true_eq] at hr
        obtain ⟨⟨⟨⟨⟨rfl, h1⟩, h2⟩, h3⟩, h4⟩, h5⟩ := hr
        have h3' : kr_t (kn_t (kf_c q) (kf_k q)) = true := h3
        have hnar := kr_fit h3' (v.map (ka g))
        have he : (kw g h)[a]? = some (ka g a, .inr (kf_c q, (List.range (kn_N (kf_c q))).map (fun i => kfv g h a (kf_c q) i))) := by rw [kw_get ha, ken_O hka]
        have e1 : kfv g (uP h a (kf_k q) v) a (kf_c q) (kf_k q) = va_rf (v.map (ka g)) := by unfold kfv; rw [if_pos h3']; simp [uP, hP, u2]
        have e2 : ∀ j, j ≠ kf_k q → kfv g (uP h a (kf_k q) v) a (kf_c q) j = kfv g h a (kf_c q) j := fun j hj => by unfold kfv; simp [uP, hI, hP, u2, hj]
        have kk : ∀ (H1 : Heap) (locs1 : List Loc), va_P (gD g) vwCl ((kw g h).set a (ka g a, .inr (kf_c q, ((List.range (kn_N (kf_c q))).map (fun i => kfv g h a (kf_c q) i)).set (kf_k q) (va_rf (v.map (ka g)))))) H1 → va_D (kA g) ((kw g h).set a (ka g a, .inr (kf_c q, ((List.range (kn_N (kf_c q))).map (fun i => kfv g h a (kf_c q) i)).set (kf_k q) (va_rf (v.map (ka g)))))) → va_S (kA g) s.heap H1 locs1 → W p (gl g) e R s m args below meth c0 H1 locs1 c n Z (F0 m (kP y i + 3) ls (r.map (kv g))) := fun H1 locs1 hP1 _ hS1 => by
          have k := go hs (kw_st (h1 := uP h a (kf_k q) v) ha hR.2 rfl (by rw [ken_O (show hk (uP h a (kf_k q) v) a = (0, kf_c q) from hka), ken_fset h2 e1 e2]) (fun b hb => uP_ken hb) hP1) hS1 hL hc
          rw [hp] at k
          exact k
        rcases h5 with h5 | ⟨h5, h6⟩
        · exact va_put hx hb hts (kn_in h1) (kn_t (kf_c q)) (kn_ty h1) (kn_nm h1) hown hKc hR.1 hD hS a he (kn_cl h1) (kf_k q) h2 (hts _ (wd_in h4 rfl)) (fun _ z => z) h5 (kn_ty h1 _ h2) hnar.1 hnar.2 (by simpa using h2) hd kk
        · cases hfin : (kn_F (kf_c q) (kf_k q)).2.2.2 with
          | false => exact va_put hx hb hts (kn_in h1) (kn_t (kf_c q)) (kn_ty h1) (kn_nm h1) hown hKc hR.1 hD hS a he (kn_cl h1) (kf_k q) h2 (hts _ (wd_in h4 rfl)) (fun _ z => z) hfin (kn_ty h1 _ h2) hnar.1 hnar.2 (by simpa using h2) hd kk
          | true => exact va_putF hx hb hts (kn_in h1) (kn_t (kf_c q)) (kn_ty h1) (kn_nm h1) hown hKc hR.1 hD hS a he (kn_cl h1) (kf_k q) h2 (hts _ (wd_in h4 rfl)) (fun _ z => z) hfin ((hnm h5).trans h5) h6 (kn_ty h1 _ h2) hnar.1 hnar.2 (by simpa using h2) hd kk
  | iaload =>
    rcases st with _ | ⟨v | v, _ | ⟨b | b, r⟩⟩
    · exact hs.elim
    · exact hs.elim
    · exact hs.elim
    · cases b with
      | none => exact hs.elim
      | some a =>
        simp only [ko_r, decide_eq_true_eq] at hr
        subst hr
        obtain ⟨a1, a2, a3, a4, a7, a8, a9, a10, a11, a12, a13⟩ := hG
        simp only [stp] at hs
        split at hs
        · obtain ⟨⟨ha, hka⟩, hi, hs⟩ := hs
          have k := go hs hR hS hL hc
          rw [hp] at k
          exact va_iald hx hb hKc hR.1 a 0 (by rw [kw_get ha, ken_J hka]) rfl hi hd k
        · split at hs
          · rename_i hz
            subst hz
            obtain ⟨hi, hs⟩ := hs
            have k := go hs hR hS hL hc
            rw [hp] at k
            exact va_ti hx hb a2 hS hi rfl hd k
          · obtain ⟨rfl, hi, hs⟩ := hs
            have k := go hs hR hS hL hc
            rw [hp] at k
            exact va_ti hx hb a3 hS hi rfl hd k
    · exact hs.elim
    · exact hs.elim
    · exact hs.elim
  | iastore =>
    rcases st with _ | ⟨w | w, _ | ⟨v | v, _ | ⟨b | b, r⟩⟩⟩
    · exact hs.elim
    · exact hs.elim
    · exact hs.elim
    · exact hs.elim
    · cases b with
      | none => exact hs.elim
      | some a =>
        simp only [ko_r, decide_eq_true_eq] at hr
        subst hr
        obtain ⟨⟨ha, hka⟩, hi, hs⟩ := hs
        refine va_iast hx hb hKc hR.1 hD hS a 0 (by rw [kw_get ha, ken_J hka]) rfl hi hd fun H1 locs1 hP1 _ hS1 => ?_
        have k := go hs (kw_st (h1 := uI h a v.toNatClampNeg w) ha hR.2 rfl (by rw [ken_J (show (hk (uI h a v.toNatClampNeg w) a).1 = 1 from hka), show hI (uI h a v.toNatClampNeg w) a = upd (hI h a) v.toNatClampNeg w by funext z; simp [uI, hI, u2, upd]]; rfl) (fun b hb => uI_ken hb) hP1) hS1 hL hc
        rw [hp] at k
        exact k
    all_goals exact hs.elim
  | aaload =>
    rcases st with _ | ⟨v | v, _ | ⟨b | b, r⟩⟩
    · exact hs.elim
    · exact hs.elim
    · exact hs.elim
    · cases b with
      | none => exact hs.elim
      | some a =>
        simp only [ko_r, decide_eq_true_eq] at hr
        subst hr
        obtain ⟨⟨ha, hka⟩, hi, hs⟩ := hs
        have k := go hs hR hS hL hc
        rw [hp] at k
        exact va_aldq (f := fun i => (hP h a i).map (ka g)) hx hb hKc hR.1 a 1 (by rw [kw_get ha, ken_U hka]) rfl hi hd k
    · exact hs.elim
    · exact hs.elim
    · exact hs.elim
  | aastore =>
    rcases st with _ | ⟨w | w, _ | ⟨v | v, _ | ⟨b | b, r⟩⟩⟩
    all_goals first | exact hs.elim | skip
    · cases w <;> exact hs.elim
    · cases w <;> exact hs.elim
    · cases w <;> exact hs.elim
    · cases w with
      | none => exact hs.elim
      | some w =>
        cases b with
        | none => exact hs.elim
        | some a =>
          simp only [ko_r, decide_eq_true_eq] at hr
          subst hr
          obtain ⟨⟨ha, hka⟩, hi, ⟨hw, hkw⟩, hs⟩ := hs
          refine va_astq (f := fun i => (hP h a i).map (ka g)) hx hb hKc hR.1 hD hS a 1 w 3 (by rw [kw_get ha, ken_U hka]) (r := (kn_R 3, kn_F 3, kn_N 3)) rfl (by rw [kw_get hw, ken_O hkw]) (kn_cl (by decide)) hi hd fun H1 locs1 hP1 _ hS1 => ?_
          have k := go hs (kw_st (h1 := uP h a v.toNatClampNeg (some w)) ha hR.2 rfl (by rw [ken_U (show (hk (uP h a v.toNatClampNeg (some w)) a).1 = 2 from hka), show (fun i => (hP (uP h a v.toNatClampNeg (some w)) a i).map (ka g)) = va_up (fun i => (hP h a i).map (ka g)) v.toNatClampNeg (some (ka g w)) by funext z; by_cases hz : z = v.toNatClampNeg <;> simp [uP, hP, u2, va_up, hz]]; rfl) (fun b hb => uP_ken hb) hP1) hS1 hL hc
          rw [hp] at k
          exact k
    all_goals (cases w <;> exact hs.elim)
  | baload =>
    rcases st with _ | ⟨v | v, _ | ⟨b | b, r⟩⟩
    · exact hs.elim
    · exact hs.elim
    · exact hs.elim
    · cases b with
      | none => exact hs.elim
      | some a =>
        simp only [ko_r, decide_eq_true_eq] at hr
        subst hr
        obtain ⟨a1, a2, a3, a4, a7, a8, a9, a10, a11, a12, a13⟩ := hG
        obtain ⟨rfl, hi, hs⟩ := hs
        have k := go hs hR hS hL hc
        rw [hp] at k
        exact va_tb hx hb a7 hS hi rfl hd k
    · exact hs.elim
    · exact hs.elim
    · exact hs.elim
  | arraylength =>
    obtain ⟨a, r, rfl, hs2⟩ := pr_ok hs
    clear hs
    simp only [ko_r, decide_eq_true_eq] at hr
    subst hr
    obtain ⟨a1, a2, a3, a4, a7, a8, a9, a10, a11, a12, a13⟩ := hG
    split at hs2
    · obtain ⟨⟨ha, hka⟩, hs2⟩ := hs2
      have k := go hs2 hR hS hL hc
      rw [hp] at k
      exact va_alen (x := (kl h a, .inl (hI h a))) hx hb hKc hR.1 a 0 (by rw [kw_get ha, ken_J hka]) rfl rfl hd k
    · split at hs2
      · rename_i hz
        subst hz
        have k := go hs2 hR hS hL hc
        rw [hp] at k
        exact va_tlen hx hb a2 hS rfl hd k
      · split at hs2
        · rename_i hz
          subst hz
          have k := go hs2 hR hS hL hc
          rw [hp] at k
          exact va_tlen hx hb a3 hS rfl hd k
        · obtain ⟨rfl, hs2⟩ := hs2
          have k := go hs2 hR hS hL hc
          rw [hp] at k
          exact va_tlen hx hb a7 hS rfl hd k
  | newarray t =>
    obtain ⟨v, r, rfl, hv, hvm, hm, hc1, hc2, hs2⟩ := p1_ok hs
    clear hs
    simp only [ko_r, Bool.and_eq_true, decide_eq_true_eq] at hr
    obtain ⟨rfl, rfl⟩ := hr
    refine va_newa (atype := .int) hx hb (hts _ ko_ac) (ty := .int) rfl hKc hR.1 hD hS hA (a0 := (v.toNatClampNeg, .inl (fun _ => 0))) (fun cA => rfl) hv rfl (by show v.toNatClampNeg * 4 ≤ _; omega) (by omega) (by omega) hd fun q cA H1 hK1 hP1 hD1 hS1 => ?_
    refine W_size fun hsz => ?_
    have hcA : cA = gI g := by
      have r1 := (hK1.2 2 (cA, .int) rfl).2
      have r2 := (hKc.2 0 (gI g, .int) rfl).2
      exact Option.some.inj (Eq.trans (Eq.symm r1) r2)
    subst hcA
    have hq := kq_new hm hP1 hD1 hs0 hc (by omega)
    subst hq
    have hR1 : kRp g (uN h 1 v.toNatClampNeg) H1 := by
      have e1 : ken g (uN h 1 v.toNatClampNeg) (hn h) = .inl (gI g, v.toNatClampNeg, .inl (fun _ => 0)) := by
        rw [ken_J (by simp [uN, hk])]; simp [kl, uN, hk, hI]
      rw [← e1, kw_push (h1 := uN h 1 v.toNatClampNeg) rfl (fun j hj => uN_ken hj)] at hP1
      exact ⟨hP1, by show hn h + 1 ≤ _; omega⟩
    have k := go hs2 hR1 hS1 hL (by show hn h + 1 = _; omega)
    rw [hp] at k
    exact k
  | anewarray t =>
    obtain ⟨v, r, rfl, hv, hvm, hm, hc1, hc2, hs2⟩ := p1_ok hs
    clear hs
    simp only [ko_r, Bool.and_eq_true, decide_eq_true_eq] at hr
    obtain ⟨rfl, hr⟩ := hr
    have hover : va_AO "QuillDesk$Firm" s := hG.2.2.2.2.2.2.2.2.2.1
    refine va_newq hx hb hown (hts _ (wd_in hr rfl)) hover hKc hR.1 hD hS hA hv rfl (by omega) (by omega) (by omega) hd fun q cA H1 hK1 hP1 hD1 hS1 => ?_
    refine W_size fun hsz => ?_
    have hcA : cA = gF g := by
      obtain ⟨-, -, -, -, -, r1⟩ := (hK1.2 2 (cA, .object "QuillDesk$Firm") rfl).2
      obtain ⟨-, -, -, -, -, r2⟩ := (hKc.2 1 (gF g, .object "QuillDesk$Firm") rfl).2
      exact Option.some.inj (r1.symm.trans r2)
    subst hcA
    have hq := kq_new hm hP1 hD1 hs0 hc (by omega)
    subst hq
    have hR1 : kRp g (uN h 2 v.toNatClampNeg) H1 := by
      have e1 : ken g (uN h 2 v.toNatClampNeg) (hn h) = .inl (gF g, v.toNatClampNeg, .inr (.inr (.inr (.inr (fun _ => none))))) := by
        rw [ken_U (by simp [uN, hk])]; simp [kl, uN, hk, hP]
      rw [← e1, kw_push (h1 := uN h 2 v.toNatClampNeg) rfl (fun j hj => uN_ken hj)] at hP1
      exact ⟨hP1, by show hn h + 1 ≤ _; omega⟩
    have k := go hs2 hR1 hS1 hL (by show hn h + 1 = _; omega)
    rw [hp] at k
    exact k
  | new q =>
    obtain ⟨hm, hc1, hc2, hs⟩ := hs
    simp only [ko_r, Bool.and_eq_true, decide_eq_true_eq] at hr
    obtain ⟨⟨rfl, h1⟩, h2⟩ := hr
    refine va_new (ci := q) (fs := (List.range (kn_N q)).map (fun i => kfv g (uN h 0 q) (hn h) q i)) hx hb hts (kn_in h1) (kn_t q) (kn_ty h1) hown (hts _ (wd_in h2 rfl)) (hts _ (kn_ins h1)) (hts _ (kn_ini h1)) hKc hR.1 hD hS hA (kn_cl h1) (fun j hj => kn_fresh h (kn_t q) hj (kn_kinds h1 hj) rfl) (by omega) (by omega) hd fun w H1 hP1 hD1 hS1 => ?_
    refine W_size fun hsz => ?_
    have hq := kq_new hm hP1 hD1 hs0 hc (by omega)
    subst hq
    have hR1 : kRp g (uN h 0 q) H1 := by
      have e1 : ken g (uN h 0 q) (hn h) = .inr (q, (List.range (kn_N q)).map (fun i => kfv g (uN h 0 q) (hn h) q i)) := ken_O (by simp [uN, hk])
      rw [← e1, kw_push (h1 := uN h 0 q) rfl (fun j hj => uN_ken hj)] at hP1
      exact ⟨hP1, by show hn h + 1 ≤ _; omega⟩
    have k := go hs hR1 hS1 hL (by show hn h + 1 = _; omega)
    rw [hp] at k
    exact k
  | monitorexit =>
    obtain ⟨a, r, rfl, hl, hs⟩ := pr_ok hs
    have k := go hs hR hS hL hc
    rw [hp] at k
    simp only [ko_r, Bool.and_eq_true, decide_eq_true_eq] at hr
    obtain ⟨rfl, hr⟩ := hr
    exact W.objInit hx hb hown (hts _ (wd_in hr rfl)) (hts _ ko_oi) (hts _ ko_oc) (g := F0 m (kP y i) ls (.ref (ka g a) :: r.map (kv g))) rfl (hL.1.trans hml.symm) rfl hd (by omega) (by show 2 * 0 + _ + 12 ≤ _; rw [kv_sum]; omega) k
  | swap =>
    rcases st with _ | ⟨w | w, _ | ⟨dp | dp, _ | ⟨b | b, _ | ⟨sp | sp, _ | ⟨a | a, r⟩⟩⟩⟩⟩
    all_goals first | exact hs.elim | skip
    all_goals (first | (cases b <;> exact hs.elim) | skip)
    cases b with
    | none => exact hs.elim
    | some b =>
      cases a with
      | none => exact hs.elim
      | some a =>
        obtain ⟨⟨ha, hka⟩, ⟨hb', hkb⟩, h1, h2, h3, h4, h5, h6, hs⟩ := hs
        simp only [ko_r, Bool.and_eq_true, decide_eq_true_eq] at hr
        obtain ⟨rfl, hr⟩ := hr
        refine va_copyi hx hb (hml.trans hL.1.symm) hown (hts _ (wd_in hr rfl)) (hts _ ko_an) (hts _ ko_as) (hts _ ko_ai) hKc hR.1 hD hS a b 0 0 (by rw [kw_get ha, ken_J hka]) (by rw [kw_get hb', ken_J hkb]) rfl rfl rfl h1 h2 h3 h4 h5 (fun _ _ => rfl) (by omega) (by rw [kv_sum, show nativeFrameWords "java/lang/System" "arraycopy" 5 = 7 by decide]; omega) hd fun H1 locs1 hP1 _ hS1 => ?_
        have k := go hs (kw_st (h1 := uC h a b sp.toNatClampNeg dp.toNatClampNeg w.toNatClampNeg) hb' hR.2 rfl (by rw [ken_J (show (hk (uC h a b sp.toNatClampNeg dp.toNatClampNeg w.toNatClampNeg) b).1 = 1 from hkb)]; simp [uC, hI, kl, hk]) (fun z hz => ken_congr rfl (by simp [uC, hI, hz]) rfl) hP1) hS1 hL hc
        rw [hp] at k
        exact k
  | invokestatic q =>
    obtain ⟨hcm, hnm2, hq, hq8, hs⟩ := hs
    simp only [ko_r, Bool.and_eq_true, decide_eq_true_eq] at hr
    obtain ⟨⟨⟨⟨⟨rfl, ho⟩, hzy⟩, hkd⟩, hcc⟩, hr⟩ := hr
    obtain ⟨ho1, ho2⟩ := ko_q_use ho
    obtain ⟨m1, m2, m3, m4, m5, -, -, m8, -⟩ := ko_mg hzy
    refine W_size fun hsz => ?_
    have hsz2 := k_size hR hS hs0 hc hsz
    have hcat := ks_cat g _ _ (kq_n q) st rfl rfl
    refine Ev_call (r := st.drop (kq_n q)) hzy C hR hS hL.1 hc hsz2 hs ?_ ?_
    · intro mc ms Pc Qc e1 e2 hM hbl hpre
      have hlen : ((st.take (kq_n q)).reverse.map (kv g)).length = kq_n q := by simp; omega
      have hrm : (kM (kq_y q) d).frames + 1 ≤ R.frames ∧ 8 + (kL (kq_y q) + 11) + (kM (kq_y q) d).locals ≤ R.locals := ⟨by show d + 1 ≤ _; omega, by show 8 + (kL (kq_y q) + 11) + 60 * d ≤ _; omega⟩
      have hf : c + mc ≤ R.cells ∧ n + ms ≤ R.slots := by rw [e1, e2, hcc]; exact ⟨by show c + 0 ≤ _; omega, by show n + 0 ≤ _; omega⟩
      rw [hcat]
      by_cases hN : (kN (kq_y q)).cls = "QuillDesk"
      · rw [if_pos hN] at hr
        simp only [Bool.or_eq_true, Bool.and_eq_true] at hr
        rcases hr with ⟨-, hr⟩ | hr
        · exact va_runSN ⟨hx, hb, hml, hown, hts⟩ hM ⟨va_cnB (kq_n q) hts (kws_good hzy) rfl e1.symm e2.symm (hG.2.2.2.2.2.2.2.2.2.2 _ (kg_n_in hr rfl)) (hts _ m4) ⟨m2.1, m2.2, ho1⟩ hrm, hts _ (m5 hkd), trivial⟩ ⟨hbl, hpre⟩ rfl hlen hL.1 rfl (lv_room (by rw [kv_sum]; exact hq8)) hd hf
        · exact va_runS ⟨hx, hb, hml, hown, hts⟩ hM ⟨callB_of (kq_n q) hts (kws_good hzy) rfl e1.symm e2.symm (hts _ m4) (hts _ (wd_in hr rfl)) ⟨m2.1, m2.2, ho1⟩ hrm, hts _ (m5 hkd)⟩ ⟨hbl, hpre⟩ rfl hlen hL.1 rfl (lv_room (by rw [kv_sum]; exact hq8)) hd hf
      · rw [if_neg hN] at hr
        exact va_runS ⟨hx, hb, hml, hown, hts⟩ hM ⟨callB_of (kq_n q) hts (kws_good hzy) rfl e1.symm e2.symm (hts _ m4) (hts _ (wd_in hr rfl)) ⟨m2.1, m2.2, ho1⟩ hrm, hts _ (m5 hkd)⟩ ⟨hbl, hpre⟩ rfl hlen hL.1 rfl (lv_room (by rw [kv_sum]; exact hq8)) hd hf
    · intro v h1 H1 locs1 hk hR1 hS1 hc1
      rw [hcc] at hc1 ⊢
      have k := go hk hR1 hS1 hL hc1
      rw [hp, kq_if ho2] at k
      by_cases ht : kT (kq_y q) = none
      · rw [if_pos ht] at k ⊢; exact k
      · rw [if_neg ht] at k ⊢; exact k
  | invokevirtual q =>
    obtain ⟨hcm, hnm2, hq, hs⟩ := hs
    obtain ⟨a, r, hst, hrv, hq8, hs⟩ := pr_ok hs
    simp only [ko_r, Bool.and_eq_true, decide_eq_true_eq] at hr
    obtain ⟨⟨⟨⟨⟨⟨⟨rfl, ho⟩, hzy⟩, hkd⟩, hcc⟩, hr⟩, hci⟩, hcn⟩ := hr
    obtain ⟨ho1, ho2⟩ := ko_q_use ho
    obtain ⟨m1, m2, m3, m4, -, m6, -, m8, -⟩ := ko_mg hzy
    obtain ⟨m6a, m6b⟩ := m6 hkd
    refine W_size fun hsz => ?_
    have hsz2 := k_size hR hS hs0 hc hsz
    have hcat := ks_cat g _ _ (kq_n q) st rfl rfl
    rw [hst] at hcat
    have hrecv : ∃ cell : Cell, H[ka g a]? = some cell ∧ cell.vm.isStatics = false ∧ s.vm.findClass (kN (kq_y q)).cls = some cell.cls := by
      unfold krv at hrv
      split at hrv
      · rename_i h99
        subst hrv
        obtain ⟨a1, a2, a3, ⟨⟨cell, b1, b2, b3, b4⟩, -, -⟩, -⟩ := hG
        refine ⟨cell, ?_, b2, ?_⟩
        · have hlt := (Array.getElem?_eq_some_iff.mp b1).1
          show H[gx g 2]? = _
          rw [hS.2.1 _ hlt b4]
          exact b1
        · rw [← hcn, km_ci, if_pos h99]; exact b3
      · rename_i h99
        have hc12 : kq_c q < 12 := by omega
        have z := va_recv (q0 := a) hKc hR.1 (kn_cl hc12) (by rw [kw_get hrv.1, ken_O hrv.2])
        rw [← hcn, km_ci, if_neg h99]
        exact z
    refine Ev_call (r := r) hzy C hR hS hL.1 hc hsz2 hs ?_ ?_
    · intro mc ms Pc Qc e1 e2 hM hbl hpre
      have hlen : ((st.take (kq_n q)).reverse.map (kv g)).length = kq_n q := by simp; omega
      have hrm : (kM (kq_y q) d).frames + 1 ≤ R.frames ∧ 8 + (kL (kq_y q) + 11) + (kM (kq_y q) d).locals ≤ R.locals := ⟨by show d + 1 ≤ _; omega, by show 8 + (kL (kq_y q) + 11) + 60 * d ≤ _; omega⟩
      have hf : c + mc ≤ R.cells ∧ n + ms ≤ R.slots := by rw [e1, e2, hcc]; exact ⟨by show c + 0 ≤ _; omega, by show n + 0 ≤ _; omega⟩
      rw [hcat]
      exact va_runV ⟨hx, hb, hml, hown, hts⟩ hM ⟨callB_of (kq_n q) hts (kws_good hzy) rfl e1.symm e2.symm (hts _ m4) (hts _ (wd_in hr rfl)) ⟨m2.1, m2.2, ho1⟩ hrm, hts _ m6a, hts _ m6b⟩ ⟨hbl, hrecv, hpre⟩ rfl hlen hL.1 rfl (lv_room (by rw [kv_sum]; exact hq8)) hd hf
    · intro v h1 H1 locs1 hk hR1 hS1 hc1
      rw [hcc] at hc1 ⊢
      have k := go hk hR1 hS1 hL hc1
      rw [hp, kq_if ho2] at k
      by_cases ht : kT (kq_y q) = none
      · rw [if_pos ht] at k ⊢; exact k
      · rw [if_neg ht] at k ⊢; exact k
  | invokespecial q =>
    obtain ⟨hq, hs⟩ := hs
    obtain ⟨a, r, hst, hrv, hq8, hf1, hf2, hs⟩ := pr_ok hs
    simp only [ko_r, Bool.and_eq_true, decide_eq_true_eq] at hr
    obtain ⟨⟨⟨⟨⟨⟨rfl, ho⟩, hzy⟩, hkd⟩, hr⟩, hci⟩, hcn⟩ := hr
    obtain ⟨ho1, ho2⟩ := ko_q_use ho
    obtain ⟨m1, m2, m3, m4, -, -, m7, m8, -⟩ := ko_mg hzy
    obtain ⟨m7a, m7b, m7c⟩ := m7 hkd
    refine W_size fun hsz => ?_
    have hsz2 := k_size hR hS hs0 hc hsz
    have hcat := ks_cat g _ _ (kq_n q) st rfl rfl
    rw [hst] at hcat
    refine Ev_call (r := r) hzy C hR hS hL.1 hc hsz2 hs ?_ ?_
    · intro mc ms Pc Qc e1 e2 hM hbl hpre
      have hlen : ((st.take (kq_n q)).reverse.map (kv g)).length = kq_n q := by simp; omega
      have hrm : (kM (kq_y q) d).frames + 1 ≤ R.frames ∧ 8 + (kL (kq_y q) + 11) + (kM (kq_y q) d).locals ≤ R.locals := ⟨by show d + 1 ≤ _; omega, by show 8 + (kL (kq_y q) + 11) + 60 * d ≤ _; omega⟩
      have hf : c + mc ≤ R.cells ∧ n + ms ≤ R.slots := by rw [e1, e2]; omega
      rw [hcat]
      have cw := callB_of (own := (kN y).cls) (index := x) (kq_n q) hts (kws_good hzy) rfl e1.symm e2.symm (hts _ m4) (hts _ (wd_in hr rfl)) ⟨m2.1, m2.2, ho1⟩ hrm
      rw [m7c] at cw
      exact va_runI ⟨hx, hb, hml, hown, hts⟩ hM ⟨cw, m7b, hts _ m7a⟩ ⟨hbl, hpre⟩ rfl hlen hL.1 rfl (lv_room (by rw [kv_sum]; exact hq8)) hd hf
    · intro v h1 H1 locs1 hk hR1 hS1 hc1
      have k := go hk hR1 hS1 hL hc1
      rw [hp] at k
      rw [if_pos m7c]
      exact k
  | ireturn =>
    rcases st with _ | ⟨v | v, _ | ⟨w, r⟩⟩
    · exact hs.elim
    · obtain ⟨h1, h2, h3, hs⟩ := hs
      simp only [ko_r, decide_eq_true_eq] at hr
      subst hr
      obtain ⟨ty, t1, t2⟩ := krt_ok h1
      exact (hret H locs c n ls (kP y i) v h hR hS hc h2 h3 hs).1 ⟨ty, t1, t2, hd⟩
    all_goals exact hs.elim
  | return_ =>
    rcases st with _ | ⟨w, r⟩
    · obtain ⟨h1, h2, h3, hs⟩ := hs
      simp only [ko_r, decide_eq_true_eq] at hr
      subst hr
      exact (hret H locs c n ls (kP y i) 0 h hR hS hc h2 h3 hs).2 ⟨h1, rfl, hd⟩
    · exact hs.elim
  | _ => exact hs.elim
/-! A STRETCH IS SOUND; A METHOD -/
theorem Wz_take {g : kG} {y d i c n k : Nat} {L : List (Option kV)} {st : List kV} {h : kH} {Q : Int32 → kH → Prop} (w : Wz g y d i c n (L.take k) st h Q) : Wz g y d i c n L st h Q :=
  fun p e R s m args below meth c0 h0 Z H locs ls C hR hS hL hc => w p e R s m args below meth c0 h0 Z H locs ls C hR hS (kz_take hL) hc
theorem wq_ok {g : kG} {y d : Nat} {stops : List (Nat × Nat)} {Q : Int32 → kH → Prop} {rt : Option FieldType} {mc ms : Nat} {cd : List Instr} (hy : y < 305) (e1 : kC y = cd) (e2 : kT y = rt) (e3 : kc_c y = (mc, ms)) :
    ∀ (f c n i : Nat) (L : List (Option kV)) (st : List kV) (h : kH), wq g y d rt mc ms cd stops Q f c n i L st h → Wz g y (d + 1) i c n L st h Q := by
  intro f
  induction f with
  | zero => exact fun c n i L st h w => w
  | succ f ih =>
    intro c n i L st h w
    unfold wq at w
    split at w
    · exact w.elim
    · rename_i ins hins
      refine stp_ok hy (by rw [e1]; exact hins) (K := fun c n i L st h => match stf stops i with
        | none => wq g y d rt mc ms cd stops Q f c n i L st h
        | some k => Wz g y (d + 1) i c n (L.take k) st h Q) ?_ (by rw [e2, e3]; exact w)
      intro c n i L st h q
      split at q
      · exact ih c n i L st h q
      · exact Wz_take q
theorem Met_of {l : Launch} {y : MethodName} {ws ws' : List Cond} {rm : Room} {Pc : Array Value → State → Prop} {Qc : Array Value → State → Outcome → State → Prop} {mc ms : Nat} {free : Addr → Prop} {cc : ByteArray} {maxL : Nat} {ret : Option FieldType}
    (hy : plainFor y = true) (hw : ws = Cond.code y cc maxL ret :: ws')
    (body : ∀ p e s m args below meth c s₁, BodyLoose p l y (headSpec ws rm) cc maxL ret e s m args below meth c s₁ → c.maxLocals = maxL → Pc args s →
      W p l e (headSpec ws rm).room s m args below meth c s.heap [] 0 0 (MQ below Qc args s mc ms free) (entryFrame m args maxL)) : Met l y ws rm Pc Qc mc ms free := by
  refine MetFree.of_bodySF (code := cc) (maxLocals := maxL) (ret := ret) hy (fun args s m h hn' => ?_) (fun p e s m args below meth c s₁ B hml hP _ => ?_)
  · obtain ⟨meth, c, h1, h2, h3, h4, h5, h6, -, -⟩ := Cond.code_spec hn' (atoms_spec (ws := ws) h _ (by rw [hw]; exact List.mem_cons_self))
    exact ⟨meth, c, h1, h2, h3, h4, h5, h6⟩
  · have hh0 : s₁.heap = s.heap := by rw [B.state]; rfl
    obtain ⟨t, a1, o, b1, b2, b3⟩ := body p e s m args below meth c s₁ B hml hP s₁ hh0 (Stand.of_body B)
    exact ⟨t, o, a1, b1, b2, ⟨b3.1, b3.2⟩⟩
set_option maxHeartbeats 4000000 in
theorem Ev_of {g : kG} {y d : Nat} {as : List kV} {h : kH} {Q : Int32 → kH → Prop} (hy : y < 304) (ha : as.length ≤ kL y) (w : Wz g y d 0 0 0 (as.map some) [] h Q) : Ev g y d as h Q := by
  obtain ⟨m1, m2, m3, m4, -, -, -, m8, m9⟩ := ko_mg hy
  refine Met_of (cc := kB y) (maxL := kL y) (ret := kT y) m1 rfl ?_
  intro p e s m args below meth c0 s₁ B hml hv
  obtain ⟨rfl, hG, hR, hsz⟩ := hv
  have hts : ∀ w ∈ kg_T, w.before (as.map (kv g)).toArray s = true := fun w hw => atoms_spec (ws := kws y) B.pre w (List.mem_cons_of_mem _ hw)
  have hown : s.vm.findClass (kN y).cls = some m.cls := findClass_of_methodNamed B.named
  have hin : meth.name = (kN y).name := (name_of_methodNamed B.named B.method).1
  have hcat : ∀ v ∈ as.map (kv g), v.category = 1 := fun v hv => by
    obtain ⟨u, -, rfl⟩ := List.mem_map.mp hv
    exact kv_cat g u
  have hlen : (lg_sl (as.map (kv g))).length ≤ kL y := by rw [lg_len _ hcat, List.length_map]; exact ha
  have hl := lv_entry (as.map (kv g)) (n := kL y) hlen
  rw [lg_entry_eq]
  generalize (lg_sl (as.map (kv g)) ++ List.replicate (kL y - (lg_sl (as.map (kv g))).length) Slot.unset).toArray = ls at hl ⊢
  have hL : kzL g ls (kL y) (as.map some) := by
    refine ⟨hl.1, hl.2.1, fun k v hk => ?_⟩
    rw [List.getElem?_map] at hk
    cases hq : as[k]? with
    | none => rw [hq] at hk; cases hk
    | some u =>
      rw [hq] at hk
      have hu : u = v := by simpa using hk
      subst hu
      have := lv_args_in (as.map (kv g)) 0 k (kv g u) hcat (by rw [List.getElem?_map, hq]; rfl)
      rw [Nat.zero_add] at this
      exact hl.2.2 (k, kv g u) this
  have hS : va_S (kA g) s.heap s.heap [] := va_S.rf
  have k := w p e (headSpec (kws y) (kM y d)).room s m (as.map (kv g)).toArray below meth c0 h (MQ below (kQc g y (hn h + (kc_c y).1) Q) (as.map (kv g)).toArray s (kc_c y).1 (kc_c y).2 (kA g)) s.heap [] ls
    ⟨B.exec, B.bytes, hml, hown, hts, fun _ => hin, ⟨Nat.le_refl _, Nat.le_refl _, Nat.le_refl _, Nat.le_refl _⟩, hG, hsz, ?_⟩ hR hS hL rfl
  · rw [m9] at k
    exact k
  · intro H locs c n ls pc x h1 hR1 hS1 hc1 ec en hq
    subst ec
    refine ⟨fun ⟨ty, t1, t2, hd⟩ => ?_, fun ⟨t1, t2, hd⟩ => ?_⟩
    · refine W.widen (Nat.le_refl _) en (W.zret B.exec B.bytes (B.returns.trans t1) t2 (fun t ht hW => ?_) hS1.2.2 hd B.notSynchronized)
      have hB : kBt g (hn h + (kc_c y).1) h1 t := ⟨by rw [ht]; exact hR1, hc1⟩
      have hF := hS1.F ht
      unfold kQc
      rw [t1]
      exact ⟨⟨x, h1, rfl, hq, hB⟩, hF⟩
    · subst t2
      refine W.widen (Nat.le_refl _) en (W.vret B.exec B.bytes (B.returns.trans t1) (fun t ht hW => ?_) hS1.2.2 hd B.notSynchronized)
      have hB : kBt g (hn h + (kc_c y).1) h1 t := ⟨by rw [ht]; exact hR1, hc1⟩
      have hF := hS1.F ht
      unfold kQc
      rw [t1]
      exact ⟨⟨h1, rfl, hq, hB⟩, hF⟩
