/-! THE CLAIM OUT OF ONE WALK OF THE LAW'S BODY. Your part is whole_start (and what it stands on); all else here is the same for every law, but numbers. -/
def R_law : String := "QuillDeskLaw"
def lw_P (b : Addr) (xs : List Int32) (args : Array Value) (s : State) : Prop := args = #[.ref b] ∧ s.IntsAt b xs ∧ xs.length ≤ 3072 ∧ (Jvm.Cond.and given_1 narrow_1).before args s = true
def lw_Q (_ : Array Value) (s : State) (o : Outcome) (t : State) : Prop := o = .returned (some (.int 1)) ∧ Framed s o t [] 600000 7302250
def lw_Z (below : List Frame) (a : Array Value) (s : State) : State → Prop := fun t => ∃ o, t.status = .running ∧ Ended t below o ∧ lw_Q a s o t
/-- the law's own end, with 1 on the stack, nothing written that was there before, its room as the claim has it -/
theorem lw_ret {p : Program} {l : Launch} {e : Env} {s : State} {m : MethodId} {below : List Frame} {meth : Method} {c : Code} {b : Nat} (hx : p.tables.exec = Jvm.exec) (hb : c.code = code) (hr : meth.sig.returnType = ret) (hlocks : meth.locks = false) {pc : Nat} {H : Heap} {ls : Array Slot} (hdg : decode code pc = .ok (.ireturn, 1)) : W p l e room_1 s m #[Value.ref b] below meth c H [] 600000 7302250 (lw_Z below #[Value.ref b] s) (F0 m pc ls [.int 1]) := by
  intro T hT X
  obtain ⟨fs, hret, hrun, hended, hW, hframe⟩ := X.leave (v := some (.int 1)) (hlocks := hlocks) (fun h => by rw [hr] at h; cases h)
  have hmeth' : T.vm.method? m = some meth := X.method'
  refine ⟨T.setFrames fs, ?_, .returned (some (.int 1)), hrun, hended, rfl, ⟨_, rfl⟩, hW, hframe⟩
  jvm_step X.here [X.here.top, hx, hb, hdg, hmeth', hr, ret, narrow_b1]
  (try refine ⟨rfl, ?_⟩); (try refine ⟨rfl, ?_⟩)
  first | (intro acts; rw [hret _ acts rfl rfl rfl]) | rw [hret _ _ rfl rfl rfl]
  exact Steps.refl _
/-- what holds at the law's entry: the machine, the code, the tables' words (any of lw_tbl by 'hts w (by decide +kernel)'), the script of L ints xs at the cell b, what the Statement gives of the start (any of its parts by flat_of_before) -/
def lw_At (p : Program) (s : State) (m : MethodId) (meth : Method) (c : Code) (b L : Nat) (xs : Nat → Int32) : Prop :=
  p.tables.exec = Jvm.exec ∧ c.code = code ∧ meth.sig.returnType = ret ∧ c.maxLocals = 4 ∧ s.vm.findClass R_law = some m.cls ∧ (∀ w ∈ lw_tbl, w.before #[Value.ref b] s = true) ∧ va_X b L xs s s.heap ∧ b < s.heap.size ∧ meth.locks = false ∧ (Jvm.Cond.and given_1 narrow_1).before #[Value.ref b] s = true

theorem la_ref {args : Array Value} {s : State} {t : Term} (h : (Cond.isRef t).before args s = true) : t.eval args s none [] s = some .null ∨ ∃ a : Nat, t.eval args s none [] s = some (.ref a) := by
  cases hv : t.eval args s none [] s with
  | none => simp [Cond.before, Cond.holds, Cond.value, hv] at h
  | some w =>
    simp only [Cond.before, Cond.holds, Cond.value, hv] at h
    cases w with
    | null => exact Or.inl rfl
    | ref a => exact Or.inr ⟨a, rfl⟩
    | _ => simp at h
def bt : Term := .field (.string "QuillDesk$Reader" 111) "java/lang/String" "value" "[B"
def bxT : Term := .static "QuillDesk" "BOXES" "[I"
theorem mem_rg {X : List Cond} {f : Nat → Cond} {n : Nat} (h : ((List.range n).all fun j => decide (f j ∈ X)) = true) : ∀ j, j < n → f j ∈ X := fun j hj => of_decide_eq_true (List.all_eq_true.mp h j (List.mem_range.mpr hj))
theorem kG_of {p : Program} {s : State} {m : MethodId} {meth : Method} {c : Code} (l : Launch) {b L : Nat} {xs : Nat → Int32} (C0 : lw_At p s m meth c b L xs) : ∃ g : kG, gl g = l ∧ gL g = L ∧ ka g 1000000 = b ∧ gb g = s.heap.size ∧ kGx g s s.heap ∧ ∀ w ∈ kg_T, w.before #[Value.ref b] s = true := by
  obtain ⟨hx, hcode, hret, hml, hown, hts, ⟨scr, hX1, hX2, hX3, hX4, hX5⟩, hbl, hlk, hgv⟩ := C0
  have hs := flat_of_before _ hgv
  have hT : ∀ w ∈ kg_T, w.before #[Value.ref b] s = true := fun w hw => hts w (List.mem_filter.mp hw).1
  have tb : ∀ {w : Cond}, w ∈ tables_1 → w.before #[Value.ref b] s = true := fun hw => hts _ (List.mem_append_right _ hw)
  have hch : ∀ c : Nat, ∃ q : ClassId × (Nat → Nat), c < 12 → u_Kn s (kn_R c) (kn_F c) (kn_N c) q.1 q.2 := by
    intro c
    by_cases hc : c < 12
    · obtain ⟨cC, iS, h⟩ := u_known (s := s) (args := #[Value.ref b]) (C := kn_R c) (T := kn_F c) (N := kn_N c) (n := kn_N c) hT (kn_in hc) (hT _ (kn_ins hc))
      exact ⟨(cC, iS), fun _ => h⟩
    · obtain ⟨cC, iS, h⟩ := u_known (s := s) (args := #[Value.ref b]) (C := kn_R 0) (T := kn_F 0) (N := kn_N 0) (n := kn_N 0) hT (kn_in (by decide)) (hT _ (kn_ins (by decide)))
      exact ⟨(cC, iS), fun h => absurd h hc⟩
  obtain ⟨D, hD⟩ := Classical.axiomOfChoice hch
  obtain ⟨cI, kI, cpI, i1, i2, i3⟩ := Cond.arrayClass_spec (hT _ ko_ac)
  have hAO : (Cond.arrayOver (.object "QuillDesk$Firm")).before #[Value.ref b] s = true := tb (by decide +kernel)
  obtain ⟨cpF, cF, kF, f1, f2, f3, f4, f5⟩ := Cond.arrayOver_spec hAO
  obtain ⟨t3, ht3, hT3⟩ : ∃ t : Nat, bt.eval #[Value.ref b] s none [] s = some (.ref t) ∧ va_T .byte t 136 (fun j => .int (kS_b.getD j 0)) (fun q => s.heap.size ≤ q) s s.heap :=
    va_Tof (by decide) (hs _ (by decide +kernel)) (va_eqt (z := Int32.ofNat 136) (hs _ (by decide +kernel))) (fun j hj => va_eqt (hs _ (mem_rg (f := fun j => Cond.eq (.elem bt (.int (Int32.ofNat j))) (.int (kS_b.getD j 0))) (n := 136) (by decide +kernel) j hj))) (fun a ha => by omega)
  obtain ⟨t1, ht1, hT1⟩ : ∃ t : Nat, bxT.eval #[Value.ref b] s none [] s = some (.ref t) ∧ va_T .int t 4 (fun j => .int (kS_x.getD j 0)) (fun q => s.heap.size ≤ q) s s.heap :=
    va_Tof (by decide) (hs _ (by decide +kernel)) (va_eqt (z := Int32.ofNat 4) (hs _ (by decide +kernel))) (fun j hj => va_eqt (hs _ (mem_rg (f := fun j => Cond.eq (.elem bxT (.int (Int32.ofNat j))) (.int (kS_x.getD j 0))) (n := 4) (by decide +kernel) j hj))) (fun a ha => by omega)
  obtain ⟨t2, c2, cA2, kA2, q1, q2, q3, q4, q5, q6, -⟩ := Cond.exactly_spec (args := #[Value.ref b]) (first := s) (o := none) (s := s) (idx := []) (t := .string "QuillDesk$Reader" 111) (cls := "java/lang/String") (hs _ (by decide +kernel))
  have hz0 := la_ref (hs (Cond.isRef (.static "jdk/internal/util/Preconditions" "SIOOBE_FORMATTER" "Ljava/util/function/BiFunction;")) (by decide +kernel))
  obtain ⟨z, zz, hzv⟩ : ∃ (z : Option Nat) (zz : Nat), (Term.static "jdk/internal/util/Preconditions" "SIOOBE_FORMATTER" "Ljava/util/function/BiFunction;").eval #[Value.ref b] s none [] s = some (va_rf (z.map fun _ => zz)) := by
    rcases hz0 with h | ⟨a, h⟩
    · exact ⟨none, 0, h⟩
    · exact ⟨some 0, a, h⟩
  refine ⟨(l, (fun c => (D c).1, fun c => (D c).2), cI, cF, s.heap.size, (fun k => if k = 0 then b else if k = 1 then t1 else if k = 2 then t2 else if k = 3 then t3 else zz), L, xs, z.map fun _ => 1000004), rfl, rfl, rfl, rfl, ?_, hT⟩
  have hA : ∀ a : Nat, a < s.heap.size → ¬ s.heap.size ≤ a := fun a ha => by omega
  have hzm : (z.map fun _ => 1000004).map (ka (l, (fun c => (D c).1, fun c => (D c).2), cI, cF, s.heap.size, (fun k => if k = 0 then b else if k = 1 then t1 else if k = 2 then t2 else if k = 3 then t3 else zz), L, xs, z.map fun _ => 1000004)) = z.map fun _ => zz := by
    cases z with
    | none => rfl
    | some z =>
      show some (ka _ 1000004) = some zz
      unfold ka
      rw [if_neg (by decide)]
      rfl
  refine ⟨⟨fun c q hq => ?_, fun k q hq => ?_⟩, ?_, hT1, ⟨?_, ?_, ?_⟩, hT3, ?_, ?_, ?_, ?_, va_AO.of hAO, ?_⟩
  · have hc : c < 12 := (List.getElem?_eq_some_iff.mp hq).1
    rw [kn_cl hc] at hq
    cases hq
    exact hD c hc
  · rcases k with _ | _ | k
    · cases hq
      exact ⟨fun n z => ⟨fun k h => (by cases h), kI, i2, cpI, i3⟩, i1⟩
    · cases hq
      exact ⟨fun n z => ⟨fun k h => (by cases h), kF, f3, cpF, f4⟩, kF, cpF, f3, f4, f1, f5⟩
    · cases hq
  · exact ⟨scr, hX1, hX2, hX3, by show L ≤ _; rw [hX4]; exact Nat.le_refl _, by rw [hX4]; rfl, hX5, hA b hbl⟩
  · exact ⟨cA2, q3, q5, by rw [q6]; exact q2, hA t2 (Array.getElem?_eq_some_iff.mp q3).1⟩
  · exact vk_OFof q1 (va_eqt (hs _ (by decide +kernel))) hA
  · exact vk_OFof q1 ht3 hA
  · exact va_Zof (tb (by decide +kernel)) (tb (by decide +kernel)) (va_eqi (hs _ (by decide +kernel))) hA
  · exact va_Zof (tb (by decide +kernel)) (tb (by decide +kernel)) ht1 hA
  · show va_Z _ _ _ (va_rf _) _ _ _
    rw [show (gz _).map _ = z.map fun _ => zz from hzm]
    exact va_Zof (tb (by decide +kernel)) (tb (by decide +kernel)) hzv hA
  · exact vk_R.of (A := #[Value.ref b]) (tb (by decide +kernel)) q1
  · intro w hw
    have h1 : w ∈ tables_1 ∧ kg_n w = true := by rw [← kg_n_all] at hw; exact List.mem_filter.mp hw
    refine va_Nw.of (A := #[Value.ref b]) ?_ (tb h1.1)
    have h2 := h1.2
    unfold kg_n at h2
    split at h2
    · rfl
    · rfl
    · cases h2
