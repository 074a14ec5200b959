/-! ===== THE INTS OF THE CELLS AS WHOLE NUMBERS; A METHOD AS A FUNCTION (none: nothing is told of it) ===== -/
abbrev zV : Type := Int ⊕ Option Nat
abbrev zI : Type := Nat → Nat → Int
abbrev zO : Type := Option (Int × (Nat → Nat → Int))
def wr (z : Int) : Int := z.bmod 4294967296
def zkd (k : Nat) : Nat × Nat := kd_l.getD k (9, 0)
def zpt (k j : Nat) : Option Nat := (kp_l.getD k []).getD j none
def up (I : zI) (k j : Nat) (x : Int) : zI := fun a b => if a = k ∧ b = j then x else I a b
def cp (I : zI) (a b s d n : Nat) : zI := fun x => if x = b then va_cpy (I a) (I b) s d n else I x
def zdiv (x y : Int) : Int := (Int32.ofInt x / Int32.ofInt y).toInt
def zrem (x y : Int) : Int := (Int32.ofInt x - Int32.ofInt x / Int32.ofInt y * Int32.ofInt y).toInt
def zand (x y : Int) : Int := (Int32.ofInt x &&& Int32.ofInt y).toInt
def zor (x y : Int) : Int := (Int32.ofInt x ||| Int32.ofInt y).toInt
def zxor (x y : Int) : Int := (Int32.ofInt x ^^^ Int32.ofInt y).toInt
def zshl (x y : Int) : Int := (Int32.ofInt x <<< (Int32.ofInt y &&& 31)).toInt
def zshr (x y : Int) : Int := (Int32.ofInt x >>> (Int32.ofInt y &&& 31)).toInt
def zushr (x y : Int) : Int := ((Int32.ofInt x).toUInt32 >>> ((Int32.ofInt y).toUInt32 &&& Int32.toUInt32 31)).toInt32.toInt
def zbx (k : Nat) : Int := ([197, 394, 1556, 3112] : List Int).getD k 0
def zl (L : List (Option zV)) (k : Nat) (f : Int → zO) : zO := match L[k]? with
  | some (some (.inl x)) => f x
  | _ => none
def zlr (L : List (Option zV)) (k : Nat) (f : Option Nat → zO) : zO := match L[k]? with
  | some (some (.inr x)) => f x
  | _ => none
def z1 (st : List zV) (f : Int → List zV → zO) : zO := match st with
  | .inl x :: r => f x r
  | _ => none
def z2 (st : List zV) (f : Int → Int → List zV → zO) : zO := match st with
  | .inl y :: .inl x :: r => f x y r
  | _ => none
def zx (st : List zV) (f : Option Nat → List zV → zO) : zO := match st with
  | .inr a :: r => f a r
  | _ => none
def zr (st : List zV) (f : Nat → List zV → zO) : zO := match st with
  | .inr (some a) :: r => f a r
  | _ => none
def zt (st : List zV) (f : zV → List zV → zO) : zO := match st with
  | v :: r => f v r
  | _ => none
def zo (r : Option Nat) (f : Nat → zO) : zO := match r with
  | some a => f a
  | none => none
def zsL : List (Option zV) → Nat → zV → List (Option zV)
  | [], 0, v => [some v]
  | [], k + 1, v => none :: zsL [] k v
  | _ :: L, 0, v => some v :: L
  | w :: L, k + 1, v => w :: zsL L k v
def zif (q : ClassFile.Cond) (x y : Int) (A B : zO) : zO := match q with
  | .eq => if x = y then A else B
  | .ne => if x = y then B else A
  | .lt => if x < y then A else B
  | .ge => if x < y then B else A
  | .gt => if y < x then A else B
  | .le => if y < x then B else A
def zsw (x : Int) (k : Nat → zO) (d : zO) : List Int → Int → zO
  | [], _ => d
  | t :: r, lo => if x = lo then k t.toNat else zsw x k d r (lo + 1)
def zlk (x : Int) (k : Nat → zO) (d : zO) : List (Int × Int) → zO
  | [] => d
  | t :: r => if x = t.1 then k t.2.toNat else zlk x k d r
def zret (rt : Option FieldType) (x : Int) (I : zI) : zO := match rt with
  | some .int => some (x, I)
  | some .boolean => if x = 0 ∨ x = 1 then some (x, I) else none
  | _ => none
def zret0 (rt : Option FieldType) (I : zI) : zO := match rt with
  | none => some (0, I)
  | _ => none
def zkr (a c : Nat) : Prop := if c = 99 then a = 1000002 else zkd a = (0, c)
def zkr_dec (a c : Nat) : Decidable (zkr a c) := if h : c = 99 then (if h2 : a = 1000002 then isTrue (by unfold zkr; rw [if_pos h]; exact h2) else isFalse (by unfold zkr; rw [if_pos h]; exact h2)) else (if h2 : zkd a = (0, c) then isTrue (by unfold zkr; rw [if_neg h]; exact h2) else isFalse (by unfold zkr; rw [if_neg h]; exact h2))
/-- one instruction, and what comes behind it -/
def zs (rt : Option FieldType) (C : Nat → List zV → zI → zO) (K : Nat → List (Option zV) → List zV → zI → zO) (i : Nat) (L : List (Option zV)) (st : List zV) (I : zI) (ins : Instr) : zO := match ins with
  | .sipush v => K (i + 1) L (.inl v :: st) I
  | .iload k => zl L k fun x => K (i + 1) L (.inl x :: st) I
  | .aload k => zlr L k fun r => K (i + 1) L (.inr r :: st) I
  | .istore k => z1 st fun x r => K (i + 1) (zsL L k (.inl x)) r I
  | .astore k => zx st fun v r => K (i + 1) (zsL L k (.inr v)) r I
  | .iinc k w => zl L k fun x => K (i + 1) (zsL L k (.inl (wr (x + w)))) st I
  | .iadd => z2 st fun x y r => K (i + 1) L (.inl (wr (x + y)) :: r) I
  | .isub => z2 st fun x y r => K (i + 1) L (.inl (wr (x - y)) :: r) I
  | .imul => z2 st fun x y r => K (i + 1) L (.inl (wr (x * y)) :: r) I
  | .idiv => z2 st fun x y r => if y = 0 then none else K (i + 1) L (.inl (zdiv x y) :: r) I
  | .irem => z2 st fun x y r => if y = 0 then none else K (i + 1) L (.inl (zrem x y) :: r) I
  | .ineg => z1 st fun x r => K (i + 1) L (.inl (wr (-x)) :: r) I
  | .iand => z2 st fun x y r => K (i + 1) L (.inl (zand x y) :: r) I
  | .ior => z2 st fun x y r => K (i + 1) L (.inl (zor x y) :: r) I
  | .ixor => z2 st fun x y r => K (i + 1) L (.inl (zxor x y) :: r) I
  | .ishl => z2 st fun x y r => K (i + 1) L (.inl (zshl x y) :: r) I
  | .ishr => z2 st fun x y r => K (i + 1) L (.inl (zshr x y) :: r) I
  | .iushr => z2 st fun x y r => K (i + 1) L (.inl (zushr x y) :: r) I
  | .dup => zt st fun v r => K (i + 1) L (v :: v :: r) I
  | .dup2 => zt st fun v r => zt r fun w r => K (i + 1) L (v :: w :: v :: w :: r) I
  | .pop => zt st fun _ r => K (i + 1) L r I
  | .ifCond q t => z1 st fun x r => zif q x 0 (K t.toNat L r I) (K (i + 1) L r I)
  | .if_icmp q t => z2 st fun x y r => zif q x y (K t.toNat L r I) (K (i + 1) L r I)
  | .goto t => K t.toNat L st I
  | .ifnonnull t => zr st fun _ r => K t.toNat L r I
  | .tableswitch d lo _ ts => z1 st fun x r => zsw x (fun t => K t L r I) (K d.toNat L r I) ts.toList lo
  | .lookupswitch d ps => z1 st fun x r => zlk x (fun t => K t L r I) (K d.toNat L r I) ps.toList
  | .getstatic q => if q = 1 then K (i + 1) L (.inr (some 1000001) :: st) I else none
  | .ldc _ => K (i + 1) L (.inr (some 1000002) :: st) I
  | .getfield q => zr st fun a r => if zkd a = (0, kf_c q) then K (i + 1) L (.inl (I a (kf_k q)) :: r) I else none
  | .checkcast q => zr st fun a r => if zkd a = (0, kf_c q) then zo (zpt a (kf_k q)) fun b => K (i + 1) L (.inr (some b) :: r) I else none
  | .putfield q => z1 st fun x r => zr r fun a r => if zkd a = (0, kf_c q) then (if q % 2 = 1 then (if x = 0 ∨ x = 1 then K (i + 1) L r (up I a (kf_k q) x) else none) else K (i + 1) L r (up I a (kf_k q) x)) else none
  | .iaload => z1 st fun x r => zr r fun a r => if (zkd a).1 = 1 then (if 0 ≤ x ∧ x < (zkd a).2 then K (i + 1) L (.inl (I a x.toNat) :: r) I else none)
      else if a = 1000001 then (if 0 ≤ x ∧ x < 4 then K (i + 1) L (.inl (zbx x.toNat) :: r) I else none) else none
  | .iastore => z1 st fun v r => z1 r fun x r => zr r fun a r => if (zkd a).1 = 1 then (if 0 ≤ x ∧ x < (zkd a).2 then K (i + 1) L r (up I a x.toNat v) else none) else none
  | .aaload => z1 st fun x r => zr r fun a r => if a = 120 then (if 0 ≤ x ∧ x < 6 then zo (zpt 120 x.toNat) fun b => K (i + 1) L (.inr (some b) :: r) I else none) else none
  | .arraylength => zr st fun a r => if (zkd a).1 = 1 then K (i + 1) L (.inl (zkd a).2 :: r) I else if a = 1000001 then K (i + 1) L (.inl 4 :: r) I else none
  | .swap => z1 st fun w r => z1 r fun dp r => zr r fun b r => z1 r fun sp r => zr r fun a r =>
      if (zkd a).1 = 1 ∧ (zkd b).1 = 1 then (if 0 ≤ sp ∧ 0 ≤ dp ∧ 0 ≤ w ∧ sp + w ≤ (zkd a).2 ∧ dp + w ≤ (zkd b).2 then (if r.length ≤ 8 then K (i + 1) L r (cp I a b sp.toNat dp.toNat w.toNat) else none) else none) else none
  | .invokestatic q => if kq_n q ≤ st.length ∧ (st.drop (kq_n q)).length ≤ 8 then (C (kq_y q) (st.take (kq_n q)).reverse I).bind fun p => K (i + 1) L (if q % 2 = 1 then st.drop (kq_n q) else .inl p.1 :: st.drop (kq_n q)) p.2 else none
  | .invokevirtual q => zr (st.drop (kq_n q)) fun a r => if kq_n q ≤ st.length ∧ r.length ≤ 8 then (@ite _ (zkr a (kq_c q)) (zkr_dec a (kq_c q)) ((C (kq_y q) (.inr (some a) :: (st.take (kq_n q)).reverse) I).bind fun p => K (i + 1) L (if q % 2 = 1 then r else .inl p.1 :: r) p.2) none) else none
  | .ireturn => match st with
    | [.inl x] => zret rt x I
    | _ => none
  | .return_ => match st with
    | [] => zret0 rt I
    | _ => none
  | _ => none
def ztr (stops : List (Nat × Nat)) (i : Nat) (L : List (Option zV)) : List (Option zV) := match stf stops i with
  | none => L
  | some k => L.take k
/-- so many instructions at most -/
def zR (rt : Option FieldType) (C : Nat → List zV → zI → zO) (cd : List Instr) (stops : List (Nat × Nat)) : Nat → Nat → List (Option zV) → List zV → zI → zO
  | 0, _, _, _, _ => none
  | f + 1, i, L, st, I => match cd[i]? with
    | none => none
    | some ins => zs rt C (fun i L st I => zR rt C cd stops f i (ztr stops i L) st I) i L st I ins
noncomputable def zch (P : Int × (Nat → Nat → Int) → Prop) : zO := @dite _ (∃ x, P x) (Classical.propDecidable _) (fun h => some (Classical.choose h)) (fun _ => none)
noncomputable def zlim (F : Nat → zO) : zO := zch fun x => ∃ f, F f = some x
/-- where the walk of a method's code halts, and how many locals live there -/
def kst_l : List (List (Nat × Nat)) := [[], [], [], [], [(12, 3), (21, 5)], [(6, 4)], [], [(4, 3)], [], [], [(6, 3)], [(6, 3)], [(4, 4)], [], [], [(28, 5), (40, 5), (54, 5), (68, 5), (104, 3)], [(2, 4), (56, 5)], [(152, 7)], [], [(6, 7), (35, 10)], [], [], [], [], [], [], [], [(2, 3)], [(4, 3)], [(4, 4)], [(4, 3)], [(4, 3)], [], [(49, 5)], [], [], [], [(24, 4)], [], [], [], [], [], [], [(2, 3)], [(6, 5)], [], [], [], [], [], [], [(2, 3)], [(27, 4)], [], [(5, 2)], [(16, 2)], [], [(4, 4)], [(2, 3), (27, 6), (40, 6)], [(2, 5)], [], [], [], [], [], [], [(54, 5)], [], [], [], [(38, 4)], [(13, 3), (31, 4), (52, 4), (64, 4)], [], [], [(14, 4), (26, 5), (43, 5)], [(9, 3), (74, 4)], [], [], [], [(2, 3)], [(4, 3)], [], [], [], [], [], [], [(18, 4), (23, 5), (33, 6), (79, 5)], [(28, 8), (42, 10)], [(11, 6), (21, 7), (69, 7)], [(8, 5)], [(6, 5)], [(8, 6)], [(4, 3)], [(10, 7)], [], [(9, 7), (14, 8), (34, 11)], [(9, 5)], [(2, 5)], [(4, 3)], [(2, 2)], [(8, 4), (16, 6), (33, 5)], [(8, 6), (27, 8), (46, 8)], [(4, 4)], [(8, 5)], [(14, 5), (30, 7), (46, 10)], [(6, 4)], [(10, 7), (47, 7), (54, 9)], [], [(16, 4)], [], [], [], [], [], [(21, 5), (39, 5)], [], [(19, 4)], [], [], [], [], [], [], [], [], [(20, 4)], [(16, 3)], [], [], [], [], [], [], [], [], [], [], [], [], [], [], [], [], [], [], [], [], [], [], [], [], [], [], [], [], [], [], [], [], [], [], [(8, 5)], [(4, 4)], [], [(12, 2), (32, 2)], [(16, 2)], [(2, 2)], [(2, 2)], [], [], [], [], [], [], [], [], [], [(2, 3)], [(4, 3)], [], [], [(23, 3)], [], [(18, 4), (38, 4), (63, 4)], [(2, 3)], [], [], [], [], [], [], [(4, 5), (13, 6), (38, 6), (59, 5)], [(0, 1), (51, 1), (90, 1)], [], [], [], [], [], [(11, 1), (23, 2)], [(6, 1), (14, 1), (39, 2)], [(6, 1), (14, 1)], [(22, 1)], [], [(0, 2)], [(7, 3), (19, 4), (39, 4)], [], [(2, 2), (54, 3)], [(2, 3), (69, 3)], [], [], [], [], [(2, 2)], [], [(2, 2), (23, 2)], [], [(2, 2), (16, 2)], [], [(5, 4), (33, 4), (66, 4)], [(41, 3)], [], [], [(8, 6), (26, 6)], [(2, 3)], [], [(30, 4), (45, 4), (61, 4), (76, 4), (96, 4), (127, 4)], [], [], [], [], [], [], [(76, 5)], [(34, 4), (46, 3), (58, 3)], [], [(51, 6), (77, 6), (90, 6)], [(30, 4)], [], [(102, 5)], [(2, 2), (29, 3)], [(23, 4)], [], [], [(67, 5)], [], [(4, 5)], [(21, 4)], [(13, 3)], [(23, 6), (39, 7)], [(28, 4), (43, 6), (55, 8), (69, 8), (117, 5)], [], [(34, 4), (45, 6)], [], [(15, 4), (42, 6), (56, 7)], [(23, 6)], [(19, 6)], [(2, 3)], [(56, 8)], [], [], [], [], [], [], [], [(26, 5), (52, 5), (57, 6), (73, 8), (115, 5)], [], [(2, 5)], [(4, 4), (12, 6)], [(32, 4), (53, 4)], [], [(19, 6), (34, 8), (60, 8)], [(4, 5)], [(34, 6)], [], [(19, 4), (35, 6), (68, 7)], [], [(4, 5), (23, 7)], [(30, 4)], [], [(4, 5)], [], [(9, 4)], [(19, 4), (36, 4)], [], [(12, 2), (59, 2)], [], [(2, 2), (19, 2), (56, 2), (93, 2), (130, 2), (147, 2), (164, 2), (191, 2)], [(21, 3), (42, 3)], [], [], [], [], [], [], [], [], [], [], [], [], []]
def kst (y : Nat) : List (Nat × Nat) := kst_l.getD y []
def zgo (z n : Nat) : Bool := decide (z < 304) && decide (kc_c z = (0, 0)) && decide (n ≤ kL z)
/-- a call: of the text WORDS length() and charAt() are told here -/
def zC (Dd : Nat → Nat → List (Option zV) → List zV → zI → zO) (d z : Nat) (as : List zV) (I : zI) : zO :=
  if z = 297 then (if as = [.inr (some 1000002)] ∧ 5 ≤ d then some (136, I) else none)
  else if z = 298 then z1 as.reverse fun x r => if r = [.inr (some 1000002)] ∧ 5 ≤ d ∧ 0 ≤ x ∧ x < 136 then some ((kS_b.getD x.toNat 0).toInt, I) else none
  else if zgo z as.length = true then Dd z 0 (as.map some) [] I else none
noncomputable def zD : Nat → Nat → Nat → List (Option zV) → List zV → zI → zO
  | 0, _, _, _, _, _ => none
  | d + 1, y, i, L, st, I => zlim fun f => zR (kT y) (zC (zD d) d) (kC y) (kst y) f i L st I
noncomputable def cl (d z : Nat) (as : List zV) (I : zI) : zO := zC (zD d) d z as I
