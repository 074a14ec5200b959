/-! ONE INSTRUCTION GOES ON IN ONE PLACE OR IS THE END -/
abbrev zK : Type := Nat → List (Option (Int ⊕ Option Nat)) → List (Int ⊕ Option Nat) → (Nat → Nat → Int) → Option (Int × (Nat → Nat → Int))
def zLin (f : zK → zO) : Prop := (∃ i L st I, ∀ K, f K = K i L st I) ∨ ∃ w, ∀ K, f K = w
theorem ln_K (i : Nat) (L : List (Option zV)) (st : List zV) (I : zI) : zLin (fun K => K i L st I) := Or.inl ⟨i, L, st, I, fun _ => rfl⟩
theorem ln_w (w : zO) : zLin (fun _ => w) := Or.inr ⟨w, fun _ => rfl⟩
theorem ln_ite {c : Prop} [hd : Decidable c] {A B : zK → zO} (hA : zLin A) (hB : zLin B) : zLin (fun K => @ite _ c hd (A K) (B K)) := by
  by_cases hc : c
  · simpa only [hc, if_true] using hA
  · simpa only [hc, if_false] using hB
theorem ln_zl {L : List (Option zV)} {k : Nat} {f : zK → Int → zO} (h : ∀ x, zLin (fun K => f K x)) : zLin (fun K => zl L k (f K)) := by
  unfold zl
  rcases L[k]? with _ | _ | x | x
  · exact ln_w none
  · exact ln_w none
  · exact h x
  · exact ln_w none
theorem ln_zlr {L : List (Option zV)} {k : Nat} {f : zK → Option Nat → zO} (h : ∀ x, zLin (fun K => f K x)) : zLin (fun K => zlr L k (f K)) := by
  unfold zlr
  rcases L[k]? with _ | _ | x | x
  · exact ln_w none
  · exact ln_w none
  · exact ln_w none
  · exact h x
theorem ln_z1 {st : List zV} {f : zK → Int → List zV → zO} (h : ∀ x r, zLin (fun K => f K x r)) : zLin (fun K => z1 st (f K)) := by
  unfold z1
  rcases st with _ | ⟨x | x, r⟩
  · exact ln_w none
  · exact h x r
  · exact ln_w none
theorem ln_z2 {st : List zV} {f : zK → Int → Int → List zV → zO} (h : ∀ x y r, zLin (fun K => f K x y r)) : zLin (fun K => z2 st (f K)) := by
  unfold z2
  rcases st with _ | ⟨x | x, _ | ⟨y | y, r⟩⟩
  · exact ln_w none
  · exact ln_w none
  · exact h y x r
  · exact ln_w none
  · exact ln_w none
  · exact ln_w none
  · exact ln_w none
theorem ln_zx {st : List zV} {f : zK → Option Nat → List zV → zO} (h : ∀ x r, zLin (fun K => f K x r)) : zLin (fun K => zx st (f K)) := by
  unfold zx
  rcases st with _ | ⟨x | x, r⟩
  · exact ln_w none
  · exact ln_w none
  · exact h x r
theorem ln_zr {st : List zV} {f : zK → Nat → List zV → zO} (h : ∀ x r, zLin (fun K => f K x r)) : zLin (fun K => zr st (f K)) := by
  unfold zr
  rcases st with _ | ⟨x | _ | x, r⟩
  · exact ln_w none
  · exact ln_w none
  · exact ln_w none
  · exact h x r
theorem ln_zt {st : List zV} {f : zK → zV → List zV → zO} (h : ∀ x r, zLin (fun K => f K x r)) : zLin (fun K => zt st (f K)) := by
  unfold zt
  rcases st with _ | ⟨x, r⟩
  · exact ln_w none
  · exact h x r
theorem ln_zo {a : Option Nat} {f : zK → Nat → zO} (h : ∀ x, zLin (fun K => f K x)) : zLin (fun K => zo a (f K)) := by
  unfold zo
  rcases a with _ | x
  · exact ln_w none
  · exact h x
theorem ln_zif {q : ClassFile.Cond} {x y : Int} {A B : zK → zO} (hA : zLin A) (hB : zLin B) : zLin (fun K => zif q x y (A K) (B K)) := by
  unfold zif
  cases q <;> first | exact ln_ite hA hB | exact ln_ite hB hA
theorem ln_zsw {x : Int} {k : zK → Nat → zO} {d : zK → zO} (hk : ∀ t, zLin (fun K => k K t)) (hd : zLin d) : ∀ (ts : List Int) (lo : Int), zLin (fun K => zsw x (k K) (d K) ts lo)
  | [], _ => hd
  | t :: r, lo => ln_ite (hk t.toNat) (ln_zsw hk hd r (lo + 1))
theorem ln_zlk {x : Int} {k : zK → Nat → zO} {d : zK → zO} (hk : ∀ t, zLin (fun K => k K t)) (hd : zLin d) : ∀ (ts : List (Int × Int)), zLin (fun K => zlk x (k K) (d K) ts)
  | [] => hd
  | t :: r => ln_ite (hk t.2.toNat) (ln_zlk hk hd r)
theorem ln_bind {c : zO} {f : zK → Int × (Nat → Nat → Int) → zO} (h : ∀ x, zLin (fun K => f K x)) : zLin (fun K => c.bind (f K)) := by
  cases c with
  | none => exact ln_w none
  | some x => exact h x
theorem zs_lin (rt : Option FieldType) (C : Nat → List zV → zI → zO) (i : Nat) (L : List (Option zV)) (st : List zV) (I : zI) (ins : Instr) : zLin (fun K => zs rt C K i L st I ins) := by
  cases ins <;> unfold zs <;> try exact ln_w _
  all_goals repeat' first
    | exact ln_K _ _ _ _
    | exact ln_w _
    | intro _
    | apply ln_zl
    | apply ln_zlr
    | apply ln_z1
    | apply ln_z2
    | apply ln_zx
    | apply ln_zr
    | apply ln_zt
    | apply ln_zo
    | apply ln_zif
    | apply ln_zsw
    | apply ln_zlk
    | apply ln_bind
    | apply ln_ite
    | refine @ln_ite _ (zkr_dec _ _) _ _ ?_ ?_
theorem zlim_cg {F G : Nat → zO} (h : ∀ x, (∃ f, F f = some x) ↔ ∃ f, G f = some x) : zlim F = zlim G := by
  have e : (fun x => ∃ f, F f = some x) = fun x => ∃ f, G f = some x := funext fun x => propext (h x)
  unfold zlim
  rw [e]
theorem zlim_in {F : Nat → zO} {x : Int × (Nat → Nat → Int)} (h : zlim F = some x) : ∃ f, F f = some x := by
  unfold zlim zch at h
  by_cases h1 : ∃ x, ∃ f, F f = some x
  · rw [dif_pos h1] at h
    have h2 := Classical.choose_spec h1
    rw [Option.some.inj h] at h2
    exact h2
  · rw [dif_neg h1] at h
    cases h
theorem zlim_no {F : Nat → zO} (h : ∀ f, F f = none) : zlim F = none := by
  cases e : zlim F with
  | none => rfl
  | some x =>
    obtain ⟨f, hf⟩ := zlim_in e
    rw [h] at hf; cases hf
theorem zlim_sh {F G : Nat → zO} (h0 : F 0 = none) (h : ∀ f, F (f + 1) = G f) : zlim F = zlim G := by
  refine zlim_cg fun x => ⟨fun ⟨f, hf⟩ => ?_, fun ⟨f, hf⟩ => ⟨f + 1, (h f).trans hf⟩⟩
  cases f with
  | zero => rw [h0] at hf; cases hf
  | succ f => exact ⟨f, (h f).symm.trans hf⟩
theorem zlim_c {F : Nat → zO} {w : zO} (h0 : F 0 = none) (h : ∀ f, F (f + 1) = w) : zlim F = w := by
  cases w with
  | none =>
    refine zlim_no fun f => ?_
    cases f with
    | zero => exact h0
    | succ f => exact h f
  | some x =>
    cases e : zlim F with
    | none =>
      exfalso
      unfold zlim zch at e
      rw [dif_pos ⟨x, 1, h 0⟩] at e
      cases e
    | some y =>
      obtain ⟨f, hf⟩ := zlim_in e
      cases f with
      | zero => rw [h0] at hf; cases hf
      | succ f => rw [h f] at hf; exact hf.symm
theorem zD_in {d y i : Nat} {L : List (Option zV)} {st : List zV} {I : zI} {x : Int × (Nat → Nat → Int)} (h : zD (d + 1) y i L st I = some x) : ∃ f, zR (kT y) (cl d) (kC y) (kst y) f i L st I = some x := zlim_in h
theorem zD_st (d y i : Nat) (L : List (Option zV)) (st : List zV) (I : zI) : zD (d + 1) y i L st I = match (kC y)[i]? with
    | none => none
    | some ins => zs (kT y) (cl d) (fun i L st I => zD (d + 1) y i (ztr (kst y) i L) st I) i L st I ins := by
  show zlim (fun f => zR (kT y) (cl d) (kC y) (kst y) f i L st I) = _
  cases e : (kC y)[i]? with
  | none =>
    refine zlim_no fun f => ?_
    cases f with
    | zero => rfl
    | succ f => simp only [zR, e]
  | some ins =>
    have h1 : ∀ f, zR (kT y) (cl d) (kC y) (kst y) (f + 1) i L st I = zs (kT y) (cl d) (fun i L st I => zR (kT y) (cl d) (kC y) (kst y) f i (ztr (kst y) i L) st I) i L st I ins := fun f => by
      conv => lhs; unfold zR
      simp only [e]
    have hl : (∃ i' L' st' I', ∀ K : zK, zs (kT y) (cl d) K i L st I ins = K i' L' st' I') ∨ ∃ w, ∀ K : zK, zs (kT y) (cl d) K i L st I ins = w := zs_lin (kT y) (cl d) i L st I ins
    rcases hl with ⟨i', L', st', I', h⟩ | ⟨w, h⟩
    · show _ = zs (kT y) (cl d) (fun i L st I => zD (d + 1) y i (ztr (kst y) i L) st I) i L st I ins
      rw [h]
      exact zlim_sh rfl fun f => by rw [h1, h]; rfl
    · show _ = zs (kT y) (cl d) (fun i L st I => zD (d + 1) y i (ztr (kst y) i L) st I) i L st I ins
      rw [h]
      exact zlim_c rfl fun f => by rw [h1, h]
/-- a stretch of the code, to the places listed or to the end -/
def ze (rt : Option FieldType) (C : Nat → List zV → zI → zO) (D : zK) (cd : List Instr) (stops : List (Nat × Nat)) : Nat → Nat → List (Option zV) → List zV → zI → zO
  | 0, i, L, st, I => D i L st I
  | f + 1, i, L, st, I => match cd[i]? with
    | none => none
    | some ins => zs rt C (fun i L st I => match stf stops i with
      | none => ze rt C D cd stops f i L st I
      | some k => D i (L.take k) st I) i L st I ins
theorem zD_ze (d y : Nat) : ∀ (f i : Nat) (L : List (Option zV)) (st : List zV) (I : zI), zD (d + 1) y i L st I = ze (kT y) (cl d) (zD (d + 1) y) (kC y) (kst y) f i L st I
  | 0, _, _, _, _ => rfl
  | f + 1, i, L, st, I => by
    rw [zD_st]
    unfold ze
    cases (kC y)[i]? with
    | none => rfl
    | some ins =>
      show zs (kT y) (cl d) (fun i L st I => zD (d + 1) y i (ztr (kst y) i L) st I) i L st I ins = zs (kT y) (cl d) _ i L st I ins
      congr 1
      funext i L st I
      unfold ztr
      cases stf (kst y) i with
      | none => exact zD_ze d y f i L st I
      | some k => rfl
theorem zE {y : Nat} {N : MethodName} {B : ByteArray} {ml : Nat} {rt : Option FieldType} {R : List (Nat × Nat × Nat × Nat)} {cd : List Instr} {K : Nat × Nat × Nat × Nat × Nat} {stops : List (Nat × Nat)} (hq : kt.getD y kQ0 = (N, B, ml, rt, R, cd, K)) (hs : kst y = stops) (f d i : Nat) (L : List (Option zV)) (st : List zV) (I : zI) :
    zD (d + 1) y i L st I = ze rt (cl d) (zD (d + 1) y) cd stops f i L st I := by
  have e1 : kC y = cd := by unfold kC; rw [hq]
  have e2 : kT y = rt := by unfold kT; rw [hq]
  have h := zD_ze d y f i L st I
  rw [e1, e2, hs] at h
  exact h
theorem cl_D {y n : Nat} (h : (decide (y < 304) && (decide (y ≠ 297) && decide (y ≠ 298)) && decide (kc_c y = (0, 0)) && decide (n ≤ kL y)) = true) {as : List zV} (hn : as.length = n) (d : Nat) (I : zI) : cl d y as I = zD d y 0 (as.map some) [] I := by
  simp only [Bool.and_eq_true, decide_eq_true_eq] at h
  unfold cl zC
  rw [if_neg h.1.1.2.1, if_neg h.1.1.2.2, if_pos]
  unfold zgo
  simp [h.1.1.1, h.1.2, hn, h.2]
