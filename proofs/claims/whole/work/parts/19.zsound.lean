/-! A METHOD THAT ANSWERS AS A FUNCTION COMES BACK SO ON THE MACHINE -/
def zv (v : kV) : zV := match v with
  | .inl x => .inl x.toInt
  | .inr r => .inr r
def zLm (L : List (Option kV)) : List (Option zV) := L.map (Option.map zv)
def zi (h : kH) : zI := fun k j => (hI h k j).toInt
def hz (h : kH) : Prop := hn h = 283 ∧ hk h = hk h_4 ∧ hP h = hP h_4
def zQ (r : Int) (I' : zI) : Int32 → kH → Prop := fun x h1 => x.toInt = r ∧ hz h1 ∧ zi h1 = I'
theorem Ev_mono {g : kG} {y d : Nat} {as : List kV} {h : kH} {Q Q' : Int32 → kH → Prop} (w : Ev g y d as h Q) (hQ : ∀ x h1, Q x h1 → Q' x h1) : Ev g y d as h Q' := by
  unfold Ev Met at *
  refine Jvm.Free.MetFree.mono w (fun _ _ p => p) (fun _ _ _ _ _ k => k) ?_
  intro a s o t _ q
  refine ⟨?_, q.2⟩
  have q1 := q.1
  unfold kQc at q1 ⊢
  cases ht : kT y with
  | none =>
    simp only [ht] at q1 ⊢
    obtain ⟨⟨u, e1, e2, e3⟩, e4⟩ := q1
    exact ⟨⟨u, e1, hQ _ _ e2, e3⟩, e4⟩
  | some ty =>
    simp only [ht] at q1 ⊢
    obtain ⟨⟨r, u, e1, e2, e3⟩, e4⟩ := q1
    exact ⟨⟨r, u, e1, hQ _ _ e2, e3⟩, e4⟩
/-! the shapes -/
theorem zl_ok {L : List (Option kV)} {k : Nat} {f : Int → zO} {w : Int × (Nat → Nat → Int)} (h : zl (zLm L) k f = some w) : ∃ x, L[k]? = some (some (.inl x)) ∧ f x.toInt = some w := by
  unfold zl zLm at h
  rw [List.getElem?_map] at h
  rcases e : L[k]? with _ | _ | x | x <;> rw [e] at h
  · cases h
  · cases h
  · exact ⟨x, rfl, h⟩
  · cases h
theorem zlr_ok {L : List (Option kV)} {k : Nat} {f : Option Nat → zO} {w : Int × (Nat → Nat → Int)} (h : zlr (zLm L) k f = some w) : ∃ x, L[k]? = some (some (.inr x)) ∧ f x = some w := by
  unfold zlr zLm at h
  rw [List.getElem?_map] at h
  rcases e : L[k]? with _ | _ | x | x <;> rw [e] at h
  · cases h
  · cases h
  · cases h
  · exact ⟨x, rfl, h⟩
theorem z1_ok {st : List kV} {f : Int → List zV → zO} {w : Int × (Nat → Nat → Int)} (h : z1 (st.map zv) f = some w) : ∃ x r, st = .inl x :: r ∧ f x.toInt (r.map zv) = some w := by
  rcases st with _ | ⟨x | x, r⟩
  · cases h
  · exact ⟨x, r, rfl, h⟩
  · cases h
theorem z2_ok {st : List kV} {f : Int → Int → List zV → zO} {w : Int × (Nat → Nat → Int)} (h : z2 (st.map zv) f = some w) : ∃ x y r, st = .inl y :: .inl x :: r ∧ f x.toInt y.toInt (r.map zv) = some w := by
  rcases st with _ | ⟨x | x, _ | ⟨y | y, r⟩⟩
  · cases h
  · cases h
  · exact ⟨y, x, r, rfl, h⟩
  · cases h
  · cases h
  · cases h
  · cases h
theorem zx_ok {st : List kV} {f : Option Nat → List zV → zO} {w : Int × (Nat → Nat → Int)} (h : zx (st.map zv) f = some w) : ∃ x r, st = .inr x :: r ∧ f x (r.map zv) = some w := by
  rcases st with _ | ⟨x | x, r⟩
  · cases h
  · cases h
  · exact ⟨x, r, rfl, h⟩
theorem zr_ok {st : List kV} {f : Nat → List zV → zO} {w : Int × (Nat → Nat → Int)} (h : zr (st.map zv) f = some w) : ∃ x r, st = .inr (some x) :: r ∧ f x (r.map zv) = some w := by
  rcases st with _ | ⟨x | _ | x, r⟩
  · cases h
  · cases h
  · cases h
  · exact ⟨x, r, rfl, h⟩
theorem zt_ok {st : List kV} {f : zV → List zV → zO} {w : Int × (Nat → Nat → Int)} (h : zt (st.map zv) f = some w) : ∃ x r, st = x :: r ∧ f (zv x) (r.map zv) = some w := by
  rcases st with _ | ⟨x, r⟩
  · cases h
  · exact ⟨x, r, rfl, h⟩
theorem zo_ok {a : Option Nat} {f : Nat → zO} {w : Int × (Nat → Nat → Int)} (h : zo a f = some w) : ∃ x, a = some x ∧ f x = some w := by
  cases a with
  | none => cases h
  | some x => exact ⟨x, rfl, h⟩
theorem zite {c : Prop} [hd : Decidable c] {A : zO} {w : Int × (Nat → Nat → Int)} (h : @ite _ c hd A none = some w) : c ∧ A = some w := by
  by_cases hc : c
  · exact ⟨hc, by rwa [if_pos hc] at h⟩
  · rw [if_neg hc] at h; cases h
theorem znit {c : Prop} [hd : Decidable c] {A : zO} {w : Int × (Nat → Nat → Int)} (h : @ite _ c hd none A = some w) : ¬ c ∧ A = some w := by
  by_cases hc : c
  · rw [if_pos hc] at h; cases h
  · exact ⟨hc, by rwa [if_neg hc] at h⟩
theorem zif_ok {q : ClassFile.Cond} {x y : Int32} {A B : zO} {w : Int × (Nat → Nat → Int)} (h : zif q x.toInt y.toInt A B = some w) : (cz q x y → A = some w) ∧ (¬ cz q x y → B = some w) := by
  cases q <;> simp only [zif] at h <;> simp only [cz, ← Int32.toInt_inj, Int32.lt_iff_toInt_lt, Int32.le_iff_toInt_le] <;> split at h <;> constructor <;> intro q <;> first | exact h | (exfalso; omega)
theorem zsw_ok {x : Int32} {k : Nat → zO} {d : zO} {w : Int × (Nat → Nat → Int)} {P : Nat → Prop} (hP : ∀ t, k t = some w → P t) : ∀ (ts : List Int) (lo : Int), zsw x.toInt k d ts lo = some w → -2147483648 ≤ lo → lo + (ts.length : Int) ≤ 2147483648 →
    swT x P ts lo ∧ (x.toInt < lo ∨ lo + (ts.length : Int) ≤ x.toInt → d = some w)
  | [], lo, h, _, _ => ⟨trivial, fun _ => h⟩
  | t :: r, lo, h, h1, h2 => by
    simp only [zsw] at h
    simp only [List.length_cons] at h2
    by_cases hx : x.toInt = lo
    · rw [if_pos hx] at h
      refine ⟨⟨fun _ => hP _ h, ?_⟩, fun q => ?_⟩
      · -- no later entry is asked
        have : ∀ (r : List Int) (l2 : Int), x.toInt < l2 → -2147483648 ≤ l2 → l2 + (r.length : Int) ≤ 2147483648 → swT x P r l2 := by
          intro r
          induction r with
          | nil => intro _ _ _ _; exact trivial
          | cons a r ih =>
            intro l2 q1 q2 q3
            simp only [List.length_cons] at q3
            refine ⟨fun e => ?_, ih (l2 + 1) (by omega) (by omega) (by omega)⟩
            exfalso
            have e2 : x.toInt = l2 := by rw [e, zi_T (by omega) (by omega)]
            omega
        exact this r (lo + 1) (by omega) (by omega) (by omega)
      · exfalso
        simp only [List.length_cons] at q
        omega
    · rw [if_neg hx] at h
      obtain ⟨a1, a2⟩ := zsw_ok hP r (lo + 1) h (by omega) (by omega)
      refine ⟨⟨fun e => ?_, a1⟩, fun q => a2 ?_⟩
      · exfalso
        exact hx (by rw [e, zi_T (by omega) (by omega)])
      · simp only [List.length_cons] at q
        omega
theorem zlk_ok {x : Int32} {k : Nat → zO} {d : zO} {w : Int × (Nat → Nat → Int)} {P : Nat → Prop} {Pd : Prop} (hP : ∀ t, k t = some w → P t) (hd : d = some w → Pd) : ∀ (ts : List (Int × Int)), zlk x.toInt k d ts = some w → (∀ o ∈ ts, -2147483648 ≤ o.1 ∧ o.1 < 2147483648) → lkT x P Pd ts
  | [], h, _ => hd h
  | t :: r, h, hb => by
    simp only [zlk] at h
    have hb1 := hb t List.mem_cons_self
    by_cases hx : x.toInt = t.1
    · rw [if_pos hx] at h
      exact ⟨fun _ => hP _ h, fun q => absurd (by rw [← hx, Int32.ofInt_toInt]) q⟩
    · rw [if_neg hx] at h
      exact ⟨fun e => absurd (by rw [e, zi_T hb1.1 hb1.2]) hx, fun _ => zlk_ok hP hd r h fun o ho => hb o (List.mem_cons_of_mem _ ho)⟩
theorem sL_0 (w : Option kV) (L : List (Option kV)) (v : kV) : sL (w :: L) 0 v = some v :: L := by simp [sL]
theorem sL_s (w : Option kV) (L : List (Option kV)) (k : Nat) (v : kV) : sL (w :: L) (k + 1) v = w :: sL L k v := by
  unfold sL
  simp only [List.length_cons, Nat.add_lt_add_iff_right, List.set_cons_succ, Nat.add_sub_add_right]
  split <;> rfl
theorem sL_ns (k : Nat) (v : kV) : sL [] (k + 1) v = none :: sL [] k v := by simp [sL, List.replicate_succ]
theorem zsL_m (L : List (Option kV)) (k : Nat) (v : kV) : zLm (sL L k v) = zsL (zLm L) k (zv v) := by
  induction k generalizing L with
  | zero =>
    cases L with
    | nil => rfl
    | cons w L => rw [sL_0]; rfl
  | succ k ih =>
    cases L with
    | nil =>
      rw [sL_ns]
      show none :: zLm (sL [] k v) = none :: zsL [] k (zv v)
      rw [ih]; rfl
    | cons w L =>
      rw [sL_s]
      show Option.map zv w :: zLm (sL L k v) = Option.map zv w :: zsL (zLm L) k (zv v)
      rw [ih]
/-! the ints -/
theorem t_add (x y : Int32) : (x + y).toInt = wr (x.toInt + y.toInt) := Int32.toInt_add x y
theorem t_sub (x y : Int32) : (x - y).toInt = wr (x.toInt - y.toInt) := Int32.toInt_sub x y
theorem t_mul (x y : Int32) : (x * y).toInt = wr (x.toInt * y.toInt) := Int32.toInt_mul x y
theorem t_neg (x : Int32) : (-x).toInt = wr (-x.toInt) := Int32.toInt_neg x
theorem t_div (x y : Int32) : (x / y).toInt = zdiv x.toInt y.toInt := by unfold zdiv; rw [Int32.ofInt_toInt, Int32.ofInt_toInt]
theorem t_rem (x y : Int32) : (x - x / y * y).toInt = zrem x.toInt y.toInt := by unfold zrem; rw [Int32.ofInt_toInt, Int32.ofInt_toInt]
theorem t_and (x y : Int32) : (x &&& y).toInt = zand x.toInt y.toInt := by unfold zand; rw [Int32.ofInt_toInt, Int32.ofInt_toInt]
theorem t_or (x y : Int32) : (x ||| y).toInt = zor x.toInt y.toInt := by unfold zor; rw [Int32.ofInt_toInt, Int32.ofInt_toInt]
theorem t_xor (x y : Int32) : (x ^^^ y).toInt = zxor x.toInt y.toInt := by unfold zxor; rw [Int32.ofInt_toInt, Int32.ofInt_toInt]
theorem t_shl (x y : Int32) : (x <<< (y &&& 31)).toInt = zshl x.toInt y.toInt := by unfold zshl; rw [Int32.ofInt_toInt, Int32.ofInt_toInt]
theorem t_shr (x y : Int32) : (x >>> (y &&& 31)).toInt = zshr x.toInt y.toInt := by unfold zshr; rw [Int32.ofInt_toInt, Int32.ofInt_toInt]
theorem t_ushr (x y : Int32) : ((x.toUInt32 >>> (y.toUInt32 &&& Int32.toUInt32 31)).toInt32).toInt = zushr x.toInt y.toInt := by unfold zushr; rw [Int32.ofInt_toInt, Int32.ofInt_toInt]
theorem t_0 : (0 : Int32).toInt = 0 := rfl
/-! the cells -/
theorem kd_len : kd_l.length = 283 := by decide +kernel
theorem kp_len : kp_l.length = 283 := by decide +kernel
theorem zkd_lt {a : Nat} {q : Nat × Nat} (h : zkd a = q) (hq : q.1 ≠ 9) : a < 283 := by
  by_cases ha : a < 283
  · exact ha
  · exfalso
    apply hq
    rw [← h]
    unfold zkd
    rw [List.getD_eq_getElem?_getD, List.getElem?_eq_none (by have := kd_len; have := kp_len; omega)]
    rfl
theorem zkd_h {h : kH} (hh : hz h) {a : Nat} (ha : a < 283) : hk h a = zkd a := by
  rw [hh.2.1, kd_at a ha]
  unfold zkd
  rw [List.getD_eq_getElem?_getD, List.getD_eq_getElem?_getD, List.getElem?_eq_getElem (show a < kd_l.length by rw [kd_len]; exact ha)]
  rfl
theorem zkd_O {h : kH} (hh : hz h) {a c : Nat} (e : zkd a = (0, c)) : kO h a c := by
  have ha := zkd_lt e (by show (0 : Nat) ≠ 9; decide)
  exact ⟨by rw [hh.1]; exact ha, by rw [zkd_h hh ha, e]⟩
theorem zkd_J {h : kH} (hh : hz h) {a : Nat} (e : (zkd a).1 = 1) : kJ h a ∧ kl h a = (zkd a).2 ∧ a < 1000000 := by
  have ha := zkd_lt (q := zkd a) rfl (by rw [e]; decide)
  exact ⟨⟨by rw [hh.1]; exact ha, by rw [zkd_h hh ha, e]⟩, by unfold kl; rw [zkd_h hh ha], by omega⟩
theorem zpt_h {h : kH} (hh : hz h) {a j b : Nat} (e : zpt a j = some b) : hP h a j = some b := by
  have hj : j < (kp_l.getD a []).length := by
    by_cases hj : j < (kp_l.getD a []).length
    · exact hj
    · exfalso
      unfold zpt at e
      rw [List.getD_eq_getElem?_getD (l := kp_l.getD a []), List.getElem?_eq_none (by omega)] at e
      cases e
  have ha : a < 283 := by
    by_cases ha : a < 283
    · exact ha
    · exfalso
      rw [List.getD_eq_getElem?_getD, List.getElem?_eq_none (by have := kd_len; have := kp_len; omega)] at hj
      exact Nat.not_lt_zero _ hj
  rw [hh.2.2, kp_at a j ha hj]
  exact e
theorem zi_up {h : kH} {k j : Nat} {x : Int32} : zi (uI h k j x) = up (zi h) k j x.toInt := by
  funext a b
  show (u2 (hI h) k j x a b).toInt = _
  unfold u2 up
  split <;> rfl
theorem zi_cp {h : kH} {a b s d n : Nat} : zi (uC h a b s d n) = cp (zi h) a b s d n := by
  funext x j
  show ((if x = b then va_cpy (hI h a) (hI h b) s d n else hI h x) j).toInt = (if x = b then va_cpy (zi h a) (zi h b) s d n else zi h x) j
  split
  · unfold va_cpy
    split <;> rfl
  · rfl
theorem hz_up {h : kH} (hh : hz h) (k j : Nat) (x : Int32) : hz (uI h k j x) := hh
theorem hz_cp {h : kH} (hh : hz h) (a b s d n : Nat) : hz (uC h a b s d n) := hh
theorem zin_ok {x : Int32} {n : Nat} (h : 0 ≤ x.toInt ∧ x.toInt < n) : vp_in x n := vp_in_iff.mpr h
def zok (ins : Instr) : Bool := match ins with
  | .sipush v => decide (-2147483648 ≤ v ∧ v < 2147483648)
  | .iinc _ w => decide (-2147483648 ≤ w ∧ w < 2147483648)
  | .tableswitch _ lo hi ts => decide (-2147483648 ≤ lo ∧ hi < 2147483648 ∧ (ts.toList.length : Int) = hi - lo + 1)
  | .lookupswitch _ ps => ps.toList.all fun o => decide (-2147483648 ≤ o.1 ∧ o.1 < 2147483648)
  | _ => true
theorem zok_all : (kt.all fun q => q.2.2.2.2.2.1.all zok) = true := by decide +kernel

theorem zs_ok {g : kG} {d : Nat} {rt : Option FieldType} {C : Nat → List zV → zI → zO} {KZ : zK} {r : Int} {I' : zI} {i : Nat} {L : List (Option kV)} {st : List kV} {h : kH} {ins : Instr} (hh : hz h) (hok : zok ins = true)
    (hC : ∀ (z : Nat) (as : List kV) (h : kH) (w : Int) (I1 : zI), hz h → C z (as.map zv) (zi h) = some (w, I1) → Ev g z d as h (zQ w I1))
    (hs : zs rt C KZ i (zLm L) (st.map zv) (zi h) ins = some (r, I')) :
    stp g rt 0 0 (fun z as h1 Q1 => Ev g z d as h1 Q1) (fun c n i L st h => c = 0 ∧ n = 0 ∧ hz h ∧ KZ i (zLm L) (st.map zv) (zi h) = some (r, I')) (zQ r I') 0 0 i L st h ins := by
  have bin : ∀ (f : Int32 → Int32 → Int32) (fz : Int → Int → Int), (∀ x y, (f x y).toInt = fz x.toInt y.toInt) → z2 (st.map zv) (fun x y r => KZ (i + 1) (zLm L) (.inl (fz x y) :: r) (zi h)) = some (r, I') →
      p2 st fun x y q => (0 : Nat) = 0 ∧ (0 : Nat) = 0 ∧ hz h ∧ KZ (i + 1) (zLm L) ((.inl (f x y) :: q : List kV).map zv) (zi h) = some (r, I') := by
    intro f fz hf hb
    have ht := z2_ok hb
    clear hb hs
    obtain ⟨x, y, q, rfl, hb⟩ := ht
    refine ⟨rfl, rfl, hh, ?_⟩
    rw [← hf x y] at hb
    exact hb
  cases ins with
  | sipush v =>
    have hv := of_decide_eq_true hok
    refine ⟨rfl, rfl, hh, ?_⟩
    have e : zv (.inl (Int32.ofInt v)) = .inl v := by show Sum.inl (Int32.ofInt v).toInt = _; rw [zi_T hv.1 hv.2]
    rw [List.map_cons, e]
    exact hs
  | iload k =>
    obtain ⟨x, hx, hs⟩ := zl_ok hs
    show lI L k _
    unfold lI
    rw [hx]
    exact ⟨rfl, rfl, hh, hs⟩
  | aload k =>
    obtain ⟨x, hx, hs⟩ := zlr_ok hs
    show lR L k _
    unfold lR
    rw [hx]
    exact ⟨rfl, rfl, hh, hs⟩
  | istore k =>
    have ht := z1_ok hs
    clear hs
    obtain ⟨x, q, rfl, hs⟩ := ht
    refine ⟨rfl, rfl, hh, ?_⟩
    rw [zsL_m]
    exact hs
  | astore k =>
    have ht := zx_ok hs
    clear hs
    obtain ⟨x, q, rfl, hs⟩ := ht
    refine ⟨rfl, rfl, hh, ?_⟩
    rw [zsL_m]
    exact hs
  | iinc k w =>
    have hw := of_decide_eq_true hok
    obtain ⟨x, hx, hs⟩ := zl_ok hs
    show lI L k _
    unfold lI
    rw [hx]
    refine ⟨rfl, rfl, hh, ?_⟩
    have e : zv (.inl (x + Int32.ofInt w)) = .inl (wr (x.toInt + w)) := by show Sum.inl (x + Int32.ofInt w).toInt = _; rw [t_add, zi_T hw.1 hw.2]
    rw [zsL_m, e]
    exact hs
  | iadd => exact bin _ _ t_add hs
  | isub => exact bin _ _ t_sub hs
  | imul => exact bin _ _ t_mul hs
  | iand => exact bin _ _ t_and hs
  | ior => exact bin _ _ t_or hs
  | ixor => exact bin _ _ t_xor hs
  | ishl => exact bin _ _ t_shl hs
  | ishr => exact bin _ _ t_shr hs
  | iushr => exact bin _ _ t_ushr hs
  | idiv =>
    have ht := z2_ok hs
    clear hs
    obtain ⟨x, y, q, rfl, hs⟩ := ht
    obtain ⟨h0, hs⟩ := znit hs
    refine ⟨fun e => h0 (by rw [e]; rfl), rfl, rfl, hh, ?_⟩
    rw [← t_div] at hs
    exact hs
  | irem =>
    have ht := z2_ok hs
    clear hs
    obtain ⟨x, y, q, rfl, hs⟩ := ht
    obtain ⟨h0, hs⟩ := znit hs
    refine ⟨fun e => h0 (by rw [e]; rfl), rfl, rfl, hh, ?_⟩
    rw [← t_rem] at hs
    exact hs
  | ineg =>
    have ht := z1_ok hs
    clear hs
    obtain ⟨x, q, rfl, hs⟩ := ht
    refine ⟨rfl, rfl, hh, ?_⟩
    rw [← t_neg] at hs
    exact hs
  | dup =>
    have ht := zt_ok hs
    clear hs
    obtain ⟨x, q, rfl, hs⟩ := ht
    exact ⟨rfl, rfl, hh, hs⟩
  | dup2 =>
    have ht := zt_ok hs
    clear hs
    obtain ⟨x, q, rfl, hs⟩ := ht
    have ht := zt_ok hs
    clear hs
    obtain ⟨y, q, rfl, hs⟩ := ht
    exact ⟨rfl, rfl, hh, hs⟩
  | pop =>
    have ht := zt_ok hs
    clear hs
    obtain ⟨x, q, rfl, hs⟩ := ht
    exact ⟨rfl, rfl, hh, hs⟩
  | ifCond q t =>
    have ht := z1_ok hs
    clear hs
    obtain ⟨x, q, rfl, hs⟩ := ht
    have hs := zif_ok (y := 0) hs
    exact ⟨fun e => ⟨rfl, rfl, hh, hs.1 e⟩, fun e => ⟨rfl, rfl, hh, hs.2 e⟩⟩
  | if_icmp q t =>
    have ht := z2_ok hs
    clear hs
    obtain ⟨x, y, q, rfl, hs⟩ := ht
    have hs := zif_ok hs
    exact ⟨fun e => ⟨rfl, rfl, hh, hs.1 e⟩, fun e => ⟨rfl, rfl, hh, hs.2 e⟩⟩
  | goto t => exact ⟨rfl, rfl, hh, hs⟩
  | ifnonnull t =>
    have ht := zr_ok hs
    clear hs
    obtain ⟨x, q, rfl, hs⟩ := ht
    exact ⟨rfl, rfl, hh, hs⟩
  | tableswitch dd lo hi ts =>
    have hv := of_decide_eq_true hok
    have ht := z1_ok hs
    clear hs
    obtain ⟨x, q, rfl, hs⟩ := ht
    have hs := zsw_ok (P := fun t => (0 : Nat) = 0 ∧ (0 : Nat) = 0 ∧ hz h ∧ KZ t (zLm L) (q.map zv) (zi h) = some (r, I')) (fun t ht => ⟨rfl, rfl, hh, ht⟩) ts.toList lo hs hv.1 (by omega)
    exact ⟨hs.1, fun e => ⟨rfl, rfl, hh, hs.2 (by omega)⟩⟩
  | lookupswitch dd ps =>
    have ht := z1_ok hs
    clear hs
    obtain ⟨x, q, rfl, hs⟩ := ht
    exact zlk_ok (P := fun t => (0 : Nat) = 0 ∧ (0 : Nat) = 0 ∧ hz h ∧ KZ t (zLm L) (q.map zv) (zi h) = some (r, I')) (fun t ht => ⟨rfl, rfl, hh, ht⟩) (fun ht => ⟨rfl, rfl, hh, ht⟩) ps.toList hs (fun o ho => of_decide_eq_true (List.all_eq_true.mp hok o ho))
  | getstatic q =>
    have ht := zite hs
    clear hs
    obtain ⟨e0, hs⟩ := ht
    subst e0
    exact ⟨rfl, rfl, hh, hs⟩
  | ldc q => exact ⟨rfl, rfl, hh, hs⟩
  | getfield q =>
    have ht := zr_ok hs
    clear hs
    obtain ⟨a, s, rfl, hs⟩ := ht
    obtain ⟨h1, hs⟩ := zite hs
    exact ⟨zkd_O hh h1, rfl, rfl, hh, hs⟩
  | checkcast q =>
    have ht := zr_ok hs
    clear hs
    obtain ⟨a, s, rfl, hs⟩ := ht
    obtain ⟨h1, hs⟩ := zite hs
    obtain ⟨b, hb, hs⟩ := zo_ok hs
    refine ⟨zkd_O hh h1, rfl, rfl, hh, ?_⟩
    rw [zpt_h hh hb]
    exact hs
  | putfield q =>
    have ht := z1_ok hs
    clear hs
    obtain ⟨x, s, rfl, hs⟩ := ht
    have ht := zr_ok hs
    clear hs
    obtain ⟨a, s, rfl, hs⟩ := ht
    obtain ⟨h1, hs⟩ := zite hs
    by_cases hq : q % 2 = 1
    · rw [if_pos hq] at hs
      obtain ⟨h2, hs⟩ := zite hs
      refine ⟨zkd_O hh h1, fun _ => ?_, rfl, rfl, hz_up hh _ _ _, ?_⟩
      · rcases h2 with h2 | h2
        · exact Or.inl (Int32.toInt_inj.mp h2)
        · exact Or.inr (Int32.toInt_inj.mp h2)
      · rw [zi_up]; exact hs
    · rw [if_neg hq] at hs
      refine ⟨zkd_O hh h1, fun e => absurd e hq, rfl, rfl, hz_up hh _ _ _, ?_⟩
      rw [zi_up]; exact hs
  | iaload =>
    have ht := z1_ok hs
    clear hs
    obtain ⟨x, s, rfl, hs⟩ := ht
    have ht := zr_ok hs
    clear hs
    obtain ⟨a, s, rfl, hs⟩ := ht
    by_cases ha : (zkd a).1 = 1
    · rw [if_pos ha] at hs
      obtain ⟨hx, hs⟩ := zite hs
      obtain ⟨h1, h2, h3⟩ := zkd_J hh ha
      show if a < 1000000 then _ else _
      rw [if_pos h3]
      exact ⟨h1, zin_ok (by rw [h2]; exact hx), rfl, rfl, hh, hs⟩
    · rw [if_neg ha] at hs
      have ht := zite hs
      clear hs
      obtain ⟨e0, hs⟩ := ht
      subst e0
      obtain ⟨hx, hs⟩ := zite hs
      show (1000001 : Nat) = 1000001 ∧ vp_in x 4 ∧ ((0 : Nat) = 0 ∧ (0 : Nat) = 0 ∧ hz h ∧ KZ _ _ _ _ = _)
      refine ⟨rfl, zin_ok hx, rfl, rfl, hh, ?_⟩
      have e : zv (.inl (kS_x.getD x.toNatClampNeg 0)) = .inl (zbx x.toInt.toNat) := by
        show Sum.inl (kS_x.getD x.toInt.toNat 0).toInt = Sum.inl (zbx x.toInt.toNat)
        have hlt : x.toInt.toNat < 4 := by omega
        generalize x.toInt.toNat = n at hlt
        match n, hlt with
        | 0, _ => rfl
        | 1, _ => rfl
        | 2, _ => rfl
        | 3, _ => rfl
      rw [List.map_cons, e]
      exact hs
  | iastore =>
    have ht := z1_ok hs
    clear hs
    obtain ⟨v, s, rfl, hs⟩ := ht
    have ht := z1_ok hs
    clear hs
    obtain ⟨x, s, rfl, hs⟩ := ht
    have ht := zr_ok hs
    clear hs
    obtain ⟨a, s, rfl, hs⟩ := ht
    obtain ⟨ha, hs⟩ := zite hs
    obtain ⟨hx, hs⟩ := zite hs
    obtain ⟨h1, h2, h3⟩ := zkd_J hh ha
    refine ⟨h1, zin_ok (by rw [h2]; exact hx), rfl, rfl, hz_up hh _ _ _, ?_⟩
    rw [zi_up]
    exact hs
  | aaload =>
    have ht := z1_ok hs
    clear hs
    obtain ⟨x, s, rfl, hs⟩ := ht
    have ht := zr_ok hs
    clear hs
    obtain ⟨a, s, rfl, hs⟩ := ht
    have ht := zite hs
    clear hs
    obtain ⟨e0, hs⟩ := ht
    subst e0
    obtain ⟨hx, hs⟩ := zite hs
    obtain ⟨b, hb, hs⟩ := zo_ok hs
    have e := zkd_h hh (a := 120) (by decide)
    have e2 : zkd 120 = (2, 6) := by decide +kernel
    refine ⟨⟨by rw [hh.1]; decide, by rw [e, e2]⟩, zin_ok (by show _ ∧ _ < ((hk h 120).2 : Int); rw [e, e2]; exact hx), rfl, rfl, hh, ?_⟩
    have e3 : hP h 120 x.toNatClampNeg = some b := zpt_h hh hb
    rw [e3]
    exact hs
  | arraylength =>
    have ht := zr_ok hs
    clear hs
    obtain ⟨a, s, rfl, hs⟩ := ht
    by_cases ha : (zkd a).1 = 1
    · rw [if_pos ha] at hs
      obtain ⟨h1, h2, h3⟩ := zkd_J hh ha
      show if a < 1000000 then _ else _
      rw [if_pos h3]
      refine ⟨h1, rfl, rfl, hh, ?_⟩
      have hlt : (zkd a).2 < 100000 := by
        have hall : (kd_l.all fun q => decide (q.2 < 100000)) = true := by decide +kernel
        have hm : a < kd_l.length := by rw [kd_len]; exact zkd_lt (q := zkd a) rfl (by rw [ha]; decide)
        have := List.all_eq_true.mp hall _ (List.getElem_mem hm)
        unfold zkd
        rw [List.getD_eq_getElem?_getD, List.getElem?_eq_getElem hm]
        exact of_decide_eq_true this
      have e : zv (.inl (Int32.ofNat (kl h a))) = .inl ((zkd a).2 : Int) := by
        show Sum.inl (Int32.ofNat (kl h a)).toInt = _
        rw [h2, zi_nat, zi_T (by omega) (by omega)]
      rw [List.map_cons, e]
      exact hs
    · rw [if_neg ha] at hs
      have ht := zite hs
      clear hs
      obtain ⟨e0, hs⟩ := ht
      subst e0
      show (0 : Nat) = 0 ∧ (0 : Nat) = 0 ∧ hz h ∧ KZ _ _ _ _ = _
      exact ⟨rfl, rfl, hh, hs⟩
  | swap =>
    have ht := z1_ok hs
    clear hs
    obtain ⟨w, s, rfl, hs⟩ := ht
    have ht := z1_ok hs
    clear hs
    obtain ⟨dp, s, rfl, hs⟩ := ht
    have ht := zr_ok hs
    clear hs
    obtain ⟨b, s, rfl, hs⟩ := ht
    have ht := z1_ok hs
    clear hs
    obtain ⟨sp, s, rfl, hs⟩ := ht
    have ht := zr_ok hs
    clear hs
    obtain ⟨a, s, rfl, hs⟩ := ht
    obtain ⟨⟨ha, hb⟩, hs⟩ := zite hs
    obtain ⟨⟨c1, c2, c3, c4, c5⟩, hs⟩ := zite hs
    obtain ⟨hl, hs⟩ := zite hs
    obtain ⟨a1, a2, a3⟩ := zkd_J hh ha
    obtain ⟨b1, b2, b3⟩ := zkd_J hh hb
    have nn : ∀ q : Int32, 0 ≤ q.toInt → ¬ q < 0 := fun q hq e => by
      have := Int32.lt_iff_toInt_lt.mp e
      rw [t_0] at this
      omega
    refine ⟨a1, b1, nn _ c1, nn _ c2, nn _ c3, ?_, ?_, by rwa [List.length_map] at hl, rfl, rfl, hz_cp hh _ _ _ _ _, ?_⟩
    · rw [a2]; show sp.toInt.toNat + w.toInt.toNat ≤ _; omega
    · rw [b2]; show dp.toInt.toNat + w.toInt.toNat ≤ _; omega
    · rw [zi_cp]; exact hs
  | invokestatic q =>
    obtain ⟨⟨h1, h2⟩, hs⟩ := zite hs
    rw [List.length_map] at h1
    rw [List.length_drop, List.length_map, ← List.length_drop] at h2
    refine ⟨Nat.le_refl _, Nat.le_refl _, h1, h2, ?_⟩
    rw [← List.map_take, ← List.map_reverse] at hs
    cases e : C (kq_y q) ((List.take (kq_n q) st).reverse.map zv) (zi h) with
    | none => rw [e] at hs; cases hs
    | some p =>
      rw [e] at hs
      refine Ev_mono (hC _ _ _ p.1 p.2 hh e) fun x h1 ⟨q1, q2, q3⟩ => ⟨rfl, rfl, q2, ?_⟩
      rw [q3]
      by_cases hq : q % 2 = 1
      · simp only [Option.bind_some, if_pos hq, ← List.map_drop] at hs ⊢
        exact hs
      · simp only [Option.bind_some, if_neg hq, ← List.map_drop, ← q1] at hs ⊢
        exact hs
  | invokevirtual q =>
    have hs : zr ((st.map zv).drop (kq_n q)) _ = some (r, I') := hs
    rw [← List.map_drop] at hs
    obtain ⟨a, s, hst, hs⟩ := zr_ok hs
    obtain ⟨⟨h1, h2⟩, hs⟩ := zite hs
    obtain ⟨h3, hs⟩ := zite (hd := zkr_dec _ _) hs
    rw [List.length_map] at h1 h2
    refine ⟨Nat.le_refl _, Nat.le_refl _, h1, ?_⟩
    rw [hst]
    refine ⟨?_, h2, ?_⟩
    · unfold zkr at h3
      unfold krv
      split at h3
      · rename_i h99; rw [if_pos h99]; exact h3
      · rename_i h99; rw [if_neg h99]; exact zkd_O hh h3
    · rw [← List.map_take, ← List.map_reverse] at hs
      cases e : C (kq_y q) ((.inr (some a) :: (List.take (kq_n q) st).reverse : List kV).map zv) (zi h) with
      | none => 
        have e : C (kq_y q) (.inr (some a) :: (List.take (kq_n q) st).reverse.map zv) (zi h) = none := e
        rw [e] at hs; cases hs
      | some p =>
        have e' : C (kq_y q) (.inr (some a) :: (List.take (kq_n q) st).reverse.map zv) (zi h) = some p := e
        rw [e'] at hs
        refine Ev_mono (hC _ _ _ p.1 p.2 hh e) fun x h1 ⟨q1, q2, q3⟩ => ⟨rfl, rfl, q2, ?_⟩
        rw [q3]
        by_cases hq : q % 2 = 1
        · simp only [Option.bind_some, if_pos hq] at hs ⊢
          exact hs
        · simp only [Option.bind_some, if_neg hq, ← q1] at hs ⊢
          exact hs
  | ireturn =>
    rcases st with _ | ⟨v | v, _ | ⟨w, s⟩⟩
    · cases hs
    · have hs : zret rt v.toInt (zi h) = some (r, I') := hs
      unfold zret at hs
      split at hs
      · cases hs
        exact ⟨trivial, rfl, Nat.le_refl _, rfl, hh, rfl⟩
      · obtain ⟨h2, hs⟩ := zite hs
        cases hs
        refine ⟨?_, rfl, Nat.le_refl _, rfl, hh, rfl⟩
        rcases h2 with h2 | h2
        · exact Or.inl (Int32.toInt_inj.mp h2)
        · exact Or.inr (Int32.toInt_inj.mp h2)
      · cases hs
    · cases hs
    · cases hs
    · cases hs
  | return_ =>
    rcases st with _ | ⟨w, s⟩
    · have hs : zret0 rt (zi h) = some (r, I') := hs
      unfold zret0 at hs
      split at hs
      · cases hs
        exact ⟨rfl, rfl, Nat.le_refl _, rfl, hh, rfl⟩
      · cases hs
    · cases hs
  | _ => cases hs
