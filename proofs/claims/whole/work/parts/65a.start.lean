theorem whole_start {p : Program} {e : Env} {s : State} {m : MethodId} {below : List Frame} {meth : Method} {c : Code} (l : Launch) (hflags : l.flags = flags0) {b L : Nat} {xs : Nat → Int32} (hL : L ≤ 3072) (C0 : lw_At p s m meth c b L xs) : W p l e room_1 s m #[Value.ref b] below meth c s.heap [] 0 0 (lw_Z below #[Value.ref b] s) (entryFrame m ([Value.ref b] : List Value).toArray 4) := by
  obtain ⟨g, rfl, rfl, g3, g4, g5, g6⟩ := kG_of l C0
  obtain ⟨hx, hcode, hret, hml, hown, hts, hX, hbl, hlk, hgv⟩ := C0
  have eB : kB 304 = code := by unfold kB; rw [me_304]
  have eL : kL 304 = 4 := by unfold kL; rw [me_304]
  have eN : kN 304 = ⟨"QuillDeskLaw", "law", "([I)Z"⟩ := by unfold kN; rw [me_304]
  have eT : kT 304 = some .boolean := by unfold kT; rw [me_304]
  have hl := lv_entry ([Value.ref b]) (n := 4) (Nat.le_of_ble_eq_true rfl)
  rw [lg_entry_eq]
  generalize (lg_sl ([Value.ref b]) ++ List.replicate (4 - (lg_sl ([Value.ref b])).length) Slot.unset).toArray = ls at hl ⊢
  have hl : lv_has ls 4 [(0, .ref b)] := hl
  have hzl : kzL g ls (kL 304) [some (.inr (some 1000000))] := by
    rw [eL]
    refine ⟨hl.1, hl.2.1, fun k v hk => ?_⟩
    cases k with
    | zero =>
      have hv : v = .inr (some 1000000) := by simpa using hk.symm
      subst hv
      have : kv g (.inr (some 1000000)) = .ref b := by
        show Value.ref (ka g 1000000) = .ref b
        rw [g3]
      rw [this]
      exact hl.2.2 (0, .ref b) List.mem_cons_self
    | succ k => simp at hk
  have hk : kw g h_0 = [] := rfl
  refine lw_go (g := g) (Q := fun x _ => x = 1) hL (fun _ => rfl) p e room_1 s m #[Value.ref b] below meth c h_0 (lw_Z below #[Value.ref b] s) s.heap [] ls ?_ ⟨(by rw [hk]; intro k q hq; cases hq), by decide⟩ va_S.rf hzl rfl
  refine ⟨hx, hcode.trans eB.symm, hml.trans eL.symm, by rw [eN]; exact hown, g6, fun h => absurd h (by rw [eN]; decide), ⟨by decide, by decide, by rw [mc_304]; decide, by rw [mc_304]; decide⟩, g5, by rw [g4]; rfl, ?_⟩
  intro H locs c1 n1 ls1 pc x h1 hR hS hc hc2 hn2 hq
  refine ⟨fun hd => ?_, fun hd => ?_⟩
  · obtain ⟨ty, -, -, hdg⟩ := hd
    rw [eB] at hdg
    have hq : x = 1 := hq
    subst hq
    rw [mc_304] at hc2 hn2
    refine va_forget (fun q hq => by have := hS.2.2 q hq; have : gb g ≤ q.base := this; omega) ?_
    refine W.widen (k := 600000) (n := 7302250) (by omega) (by omega) ?_
    exact lw_ret hx hcode hret hlk hdg
  · rw [eT] at hd
    cases hd.1
