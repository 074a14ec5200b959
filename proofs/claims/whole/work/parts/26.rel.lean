/-! THE TWO SIDES BESIDE EACH OTHER: cells of the class, cells of the model (M: the model's as they are, or as its image has them) -/
def zlast (f s : Nat → Int) (b df : Int) : Nat → Int
  | 0 => df
  | n + 1 => if f n = b then s n else zlast f s b df n
def zset (f s : Nat → Int) (b : Int) : Nat → Int
  | 0 => 0
  | n + 1 => if f n = b then zor (zset f s b n) (zshl 1 (s n)) else zset f s b n
def RRow (I M : zI) (c cnt arr : Nat) (lim lo hi : Int) : Prop :=
  0 ≤ I c 2 ∧ I c 2 ≤ lim ∧ M 240 cnt = I c 2 ∧ ∀ j : Nat, (j : Int) < I c 2 → M arr j = I (c + 1) j ∧ lo ≤ I (c + 1) j ∧ I (c + 1) j ≤ hi
def RFirm (I M : zI) (a : Nat) (hb : Int) : Prop :=
  (M 240 6 = I a 3 ∧ 0 ≤ I a 3 ∧ I a 3 ≤ 14) ∧ (M 240 7 = I a 4 ∧ 0 ≤ I a 4 ∧ I a 4 ≤ 10) ∧ (M 240 8 = I a 5 ∧ 0 ≤ I a 5 ∧ I a 5 ≤ 12) ∧
  M 241 1 = I a 0 ∧ M 241 3 = I a 1 ∧ (M 241 0 = I a 2 ∧ 0 ≤ I a 2 ∧ I a 2 ≤ hb) ∧
  (∀ q : Nat, (q : Int) < I a 3 → (M 244 q = I (a + 1) q ∧ 0 ≤ I (a + 1) q ∧ I (a + 1) q ≤ 7) ∧ (M 241 (4 + q) = I (a + 2) q ∧ 0 ≤ I (a + 2) q ∧ I (a + 2) q ≤ 99) ∧ (M 241 (18 + q) = I (a + 3) q ∧ 0 ≤ I (a + 3) q ∧ I (a + 3) q ≤ 99) ∧ (M 241 (32 + q) = I (a + 4) q ∧ 0 ≤ I (a + 4) q ∧ I (a + 4) q ≤ 1)) ∧
  (∀ c : Nat, (c : Int) < I a 4 → (M 245 c = I (a + 5) c ∧ 0 ≤ I (a + 5) c ∧ I (a + 5) c ≤ 9) ∧ (M 241 (46 + c) = I (a + 6) c + 1 ∧ -1 ≤ I (a + 6) c ∧ I (a + 6) c < I a 3) ∧ (M 241 (56 + c) = I (a + 7) c + 1 ∧ -1 ≤ I (a + 7) c ∧ I (a + 7) c < I a 5) ∧ M 241 (66 + c) = I (a + 8) c ∧ M 241 (76 + c) = I (a + 9) c) ∧
  (∀ e : Nat, (e : Int) < I a 5 → (M 246 e = I (a + 10) e ∧ 1 ≤ I (a + 10) e ∧ I (a + 10) e ≤ 99) ∧ (M 241 (86 + e) = I (a + 11) e ∧ 0 ≤ I (a + 11) e ∧ I (a + 11) e ≤ I (a + 10) e) ∧ (M 241 (98 + e) = I (a + 12) e + 1 ∧ -1 ≤ I (a + 12) e ∧ I (a + 12) e < I a 4))
def RBook (I M : zI) (b : Nat) : Prop :=
  (M 241 2 = I b 4 ∧ 0 ≤ I b 4 ∧ I b 4 ≤ 150) ∧ ∀ i : Nat, i < 150 → M 247 (4 * i) = I (b + 1) i ∧ M 247 (4 * i + 1) = I (b + 2) i ∧ M 247 (4 * i + 2) = I (b + 3) i ∧ M 247 (4 * i + 3) = I (b + 4) i
/-- a token of THE LAW, here and there -/
def RTok (t o g : Int) : Prop := (o = 0 ∧ t = g ∧ 0 ≤ g ∧ g < 10000) ∨ (o = 1 ∧ t = 10000 + g ∧ 0 ≤ g ∧ g < 11) ∨ (o = 2 ∧ t = 20043) ∨ (o = 3 ∧ t = 20045) ∨ (o = 4 ∧ t = 20042) ∨ (o = 5 ∧ t = 20047) ∨ (o = 6 ∧ t = 20060) ∨ (o = 7 ∧ t = 20061) ∨ (o = 8 ∧ t = 20062) ∨ (o = 9 ∧ t = 10017) ∨ (o = 10 ∧ t = 10016) ∨ (o = 11 ∧ t = 10015)
/-- what a token leaves of what lies on the stack (true: a condition) -/
def ztk (t : Int) (ts : List Bool) : Option (List Bool) :=
  if t ≤ 10010 then (if ts.length < 64 then some (false :: ts) else none)
  else if t = 10017 then (match ts with
    | true :: r => some (true :: r)
    | _ => none)
  else if t = 10015 ∨ t = 10016 then (match ts with
    | true :: true :: r => some (true :: r)
    | _ => none)
  else if t = 20060 ∨ t = 20061 ∨ t = 20062 then (match ts with
    | false :: false :: r => some (true :: r)
    | _ => none)
  else (match ts with
    | false :: false :: r => some (false :: r)
    | _ => none)
def ztc (f : Nat → Int) : Nat → Nat → List Bool → Option (List Bool)
  | 0, _, ts => some ts
  | k + 1, i, ts => (ztk (f i) ts).bind fun ts => ztc f k (i + 1) ts
def RLine (I M : zI) (lw l : Nat) : Prop :=
  (I (lw + 2) l = 10011 + M 251 l ∧ 0 ≤ M 251 l ∧ M 251 l ≤ 2) ∧ M 252 l = I (lw + 3) l ∧ M 253 l = I (lw + 4) l ∧ M 254 l = I (lw + 5) l ∧
  (0 ≤ I (lw + 3) l ∧ I (lw + 3) l ≤ I (lw + 4) l ∧ I (lw + 4) l ≤ I (lw + 5) l ∧ I (lw + 5) l ≤ 400) ∧
  (∀ i : Nat, I (lw + 3) l ≤ (i : Int) → (i : Int) < I (lw + 5) l → RTok (I (lw + 6) i) (M 255 i) (M 256 i) ∧ (I (lw + 6) i = 20047 → 0 < I (lw + 6) (i - 1) ∧ I (lw + 6) (i - 1) < 10000)) ∧
  ztc (I (lw + 6)) (I (lw + 4) l - I (lw + 3) l).toNat (I (lw + 3) l).toNat [] = some [false] ∧
  (I (lw + 4) l = I (lw + 5) l ∨ ztc (I (lw + 6)) (I (lw + 5) l - I (lw + 4) l).toNat (I (lw + 4) l).toNat [] = some [true])
def RLaw (I M : zI) (lw : Nat) : Prop :=
  (M 250 0 = I (lw + 1) 4 ∧ 0 ≤ I (lw + 1) 4 ∧ I (lw + 1) 4 ≤ 16) ∧ ∀ l : Nat, (l : Int) < I (lw + 1) 4 → RLine I M lw l
def ROw (t f w v nq nd : Int) : Prop := (w = 0 ∧ t = 0 ∧ f = v ∧ 0 ≤ v ∧ v < nq) ∨ (w = 1 ∧ t = 1) ∨ (w = 2 ∧ t = 2 ∧ f = v ∧ 0 ≤ v ∧ v < nd) ∨ (w = 3 ∧ t = 2 ∧ f = -1) ∨ (w = 4 ∧ t = 3) ∨ (w = 5 ∧ t = 4)
def ROrd (I M : zI) (a ob : Nat) : Prop :=
  (M 240 36 = I ob 4 ∧ 0 ≤ I ob 4 ∧ I ob 4 ≤ 16) ∧ ∀ l : Nat, (l : Int) < I ob 4 → M 258 (4 * l) = I (ob + 1) l ∧ (M 258 (4 * l + 1) = I (ob + 2) l ∧ 0 ≤ I (ob + 2) l ∧ I (ob + 2) l < I a 4) ∧ ROw (I (ob + 3) l) (I (ob + 4) l) (M 258 (4 * l + 2)) (M 258 (4 * l + 3)) (I a 3) (I a 5)
def RBird (I M : zI) (tb : Nat) : Prop :=
  (M 240 38 = I tb 4 ∧ 0 ≤ I tb 4 ∧ I tb 4 ≤ 16) ∧ (∀ l : Nat, (l : Int) < I tb 4 → (0 ≤ I (tb + 2) l ∧ I (tb + 2) l ≤ 9) ∧ (0 ≤ I (tb + 3) l ∧ I (tb + 3) l ≤ 9)) ∧
  ∀ b : Nat, b < 8 → M 259 b = zlast (I (tb + 1)) (I (tb + 2)) b 0 (I tb 4).toNat ∧ M 260 b + 5 = zlast (I (tb + 1)) (I (tb + 3)) b 5 (I tb 4).toNat
def RAft (I M : zI) (a tb : Nat) : Prop :=
  (M 240 41 = I tb 4 ∧ 0 ≤ I tb 4 ∧ I tb 4 ≤ 16) ∧ (∀ l : Nat, (l : Int) < I tb 4 → 0 ≤ I (tb + 2) l ∧ I (tb + 2) l < I (tb + 1) l ∧ I (tb + 1) l < I a 5) ∧
  ∀ e : Nat, e < 12 → M 261 e = zset (I (tb + 1)) (I (tb + 2)) e (I tb 4).toNat
def RDots (I M : zI) (x : Nat) : Prop := ∀ j : Nat, j < 3 → (M 272 j = I x j ∧ 0 ≤ I x j ∧ I x j ≤ 99) ∧ (M 273 j = I (x + 1) j ∧ 0 ≤ I (x + 1) j ∧ I (x + 1) j ≤ 99)
def zbit (s1 s2 : Int) (v : Nat) : Bool := if v < 30 then s1.toNat.testBit v else s2.toNat.testBit (v - 30)
def RPl (I M : zI) (c : Nat) : Prop :=
  0 ≤ I c 2 ∧ I c 2 ≤ 7 ∧ M 240 59 = I c 2 ∧ (∀ j : Nat, (j : Int) < I c 2 → 1 ≤ I (c + 1) j ∧ I (c + 1) j ≤ 59) ∧
  (0 ≤ M 240 57 ∧ M 240 57 < 1073741824 ∧ 0 ≤ M 240 58 ∧ M 240 58 < 1073741824) ∧
  ∀ v : Nat, 1 ≤ v → v ≤ 59 → zbit (M 240 57) (M 240 58) v = zhas (I (c + 1)) v (I c 2).toNat 0
def RLegs (I M : zI) (c : Nat) : Prop := RRow I M c 64 277 10 (-179) 179 ∧ ∀ j : Nat, (j : Int) < I c 2 → I (c + 1) j ≠ 0
def RDk (I M : zI) (a bk lw od bd af w st dx pl sg lg wt hr : Nat) : Prop :=
  RFirm I M a 9999 ∧ RBook I M bk ∧ RLaw I M lw ∧ ROrd I M a od ∧ RBird I M bd ∧ RAft I M a af ∧ RRow I M w 47 266 10 1 20 ∧ RRow I M st 51 269 4 1 30 ∧ RDots I M dx ∧ RPl I M pl ∧ RRow I M sg 62 276 12 0 9 ∧ RLegs I M lg ∧ RRow I M wt 66 278 8 1 9 ∧ RRow I M hr 69 280 6 1 50
/-- the k-th row that the model keeps, as if it were the present one -/
def rowv (I : zI) (k : Nat) : zI := fun c j => if c = 241 then I 242 (110 * k + j) else I c j
def RPast (I : zI) : Prop :=
  (0 ≤ I 119 2 ∧ I 119 2 ≤ 5) ∧ (I 240 3 = I 119 3 ∧ 0 ≤ I 119 3 ∧ I 119 3 ≤ 6) ∧
  ∀ k : Nat, (k : Int) < I 119 3 → RFirm I (rowv I k) (121 + 13 * (((I 119 2).toNat + k) % 6)) 9999 ∧ (I 199 (((I 119 2).toNat + k) % 6) = I 242 (110 * k + 2) ∧ 0 ≤ I 242 (110 * k + 2) ∧ I 242 (110 * k + 2) ≤ 150)
def RTape (I : zI) : Prop := (I 240 14 = I 213 1 ∧ 0 ≤ I 213 1 ∧ I 213 1 ≤ 400) ∧ ∀ j : Nat, (j : Int) < I 213 1 → I 248 j = I 214 j ∧ 0 ≤ I 214 j ∧ I 214 j ≤ 255
def RFlt (I : zI) : Prop := I 240 34 = I 213 7 ∧ I 240 35 = I 213 8
/-- the four lines of each box; how many boxes a set of lines closes; what a set is worth -/
def zbxs : List Nat := [197, 394, 1556, 3112]
def zcc (s : Nat) : Nat := (zbxs.filter fun b => s &&& b == b).length
def zbest (W : Nat → Int) (s : Nat) : Int := (List.range 12).foldl (fun r l => if s.testBit l then r else max r (if zcc (s ||| 1 <<< l) - zcc s > 0 then ((zcc (s ||| 1 <<< l) - zcc s : Nat) : Int) + W (s ||| 1 <<< l) else -W (s ||| 1 <<< l))) (-9)
def zWf : Nat → Nat → Int
  | 0, _ => 0
  | f + 1, s => if s = 4095 then 0 else zbest (zWf f) s
/-- what a set of drawn lines is worth for who is next -/
def zW (s : Nat) : Int := zWf 4096 s
def RBox (I : zI) : Prop := (0 ≤ I 238 1 ∧ I 238 1 ≤ 4095) ∧ ∀ s : Nat, I 238 1 ≤ (s : Int) → s ≤ 4095 → I 239 s = zW s
def zwd : List Int := [32, 119, 114, 105, 116, 101, 115, 32, 98, 108, 111, 116, 115, 32, 108, 105, 102, 116, 115, 32, 119, 104, 101, 110, 32, 111, 114, 32, 97, 110, 100, 32, 110, 111, 116, 32, 104, 97, 110, 100, 32, 105, 110, 107, 32, 119, 111, 114, 110, 32, 119, 105, 108, 100, 32, 102, 105, 110, 101, 32, 108, 101, 102, 116, 32, 115, 105, 103, 110, 101, 100, 32, 108, 105, 102, 116, 101, 100, 32, 98, 105, 114, 100, 32, 100, 101, 101, 100, 32, 104, 111, 117, 114, 32, 97, 116, 32, 99, 108, 101, 114, 107, 32, 116, 97, 107, 101, 32, 100, 114, 111, 112, 32, 119, 114, 105, 116, 101, 32, 114, 101, 115, 116, 32, 100, 105, 112, 32, 99, 117, 116, 32, 97, 102, 116, 101, 114, 32]
def RMisc (I : zI) : Prop := I 240 5 = 0 ∧ (∀ j : Nat, j < 138 → I 249 j = zwd.getD j 0) ∧ I 44 1 = 10 ∧ I 46 1 = 4 ∧ I 50 1 = 7 ∧ I 52 1 = 12 ∧ I 54 1 = 10 ∧ I 56 1 = 8 ∧ I 58 1 = 6
/-- the model's image as if it were the present -/
def img (I : zI) : zI := fun k j => match k with
  | 241 => I 282 j
  | 240 => (match j with
    | 6 => I 282 110
    | 7 => I 282 111
    | 8 => I 282 112
    | 36 => I 282 113
    | 38 => I 282 114
    | 41 => I 282 115
    | 47 => I 282 116
    | 51 => I 282 117
    | 57 => I 282 118
    | 58 => I 282 119
    | 59 => I 282 120
    | 62 => I 282 121
    | 64 => I 282 122
    | 66 => I 282 123
    | 69 => I 282 124
    | _ => 0)
  | 244 => I 282 (125 + j)
  | 245 => I 282 (139 + 3 * j)
  | 266 => I 282 (140 + 3 * j)
  | 277 => I 282 (141 + 3 * j)
  | 246 => I 282 (169 + 3 * j)
  | 261 => I 282 (170 + 3 * j)
  | 276 => I 282 (171 + 3 * j)
  | 259 => I 282 (205 + 3 * j)
  | 260 => I 282 (206 + 3 * j)
  | 278 => I 282 (207 + 3 * j)
  | 258 => I 282 (229 + j)
  | 269 => I 282 (293 + j)
  | 272 => I 282 (297 + 2 * j)
  | 273 => I 282 (298 + 2 * j)
  | 280 => I 282 (303 + j)
  | 247 => I 282 (309 + j)
  | 250 => I 282 909
  | 251 => I 282 (910 + 4 * j)
  | 252 => I 282 (911 + 4 * j)
  | 253 => I 282 (912 + 4 * j)
  | 254 => I 282 (913 + 4 * j)
  | 255 => I 282 (974 + 2 * j)
  | 256 => I 282 (975 + 2 * j)
  | _ => 0
def RPic (I : zI) : Prop := I 240 73 = I 0 2 ∧ (I 0 2 = 0 ∨ I 0 2 = 1) ∧ (I 0 2 = 1 → RDk I (img I) 61 74 79 88 93 98 103 105 107 109 111 113 115 117)
def Rl (I : zI) : Prop := RDk I I 2 15 20 29 34 39 44 46 48 50 52 54 56 58 ∧ RPast I ∧ RTape I ∧ RFlt I ∧ RBox I ∧ RMisc I ∧ RPic I
/-- the two answer alike, and stand beside each other then -/
def Pair (y1 y2 : Nat) (as : List zV) (I : zI) : Prop := ∃ (r : Int) (I1 I2 : zI), cl 60 y1 (.inr (some 0) :: as) I = some (r, I1) ∧ cl 60 y2 (.inr (some 240) :: as) I1 = some (r, I2) ∧ Rl I2
/-! what is changed, and what stays -/
def Ag (C : List Nat) (F : List (Nat × Nat)) (I I' : zI) : Prop := ∀ k j, C.contains k = false → F.contains (k, j) = false → I' k j = I k j
theorem Ag_rf {C : List Nat} {F : List (Nat × Nat)} {I : zI} : Ag C F I I := fun _ _ _ _ => rfl
theorem Ag_tr {C : List Nat} {F : List (Nat × Nat)} {I I' I2 : zI} (h : Ag C F I I') (h2 : Ag C F I' I2) : Ag C F I I2 := fun k j a b => (h2 k j a b).trans (h k j a b)
theorem Ag_up {C : List Nat} {F : List (Nat × Nat)} {I I' : zI} {k j : Nat} {x : Int} (hc : C.contains k = true) (h : Ag C F I I') : Ag C F I (up I' k j x) := fun a b h1 h2 => by
  rw [up_c (fun e => by rw [e, hc] at h1; cases h1)]
  exact h a b h1 h2
theorem Ag_uf {C : List Nat} {F : List (Nat × Nat)} {I I' : zI} {k j : Nat} {x : Int} (hc : F.contains (k, j) = true) (h : Ag C F I I') : Ag C F I (up I' k j x) := fun a b h1 h2 => by
  have e : ¬ (a = k ∧ b = j) := fun e => by rw [e.1, e.2, hc] at h2; cases h2
  unfold up
  rw [if_neg e]
  exact h a b h1 h2
theorem Ag_cp {C : List Nat} {F : List (Nat × Nat)} {I I' : zI} {a b s d n : Nat} (hc : C.contains b = true) (h : Ag C F I I') : Ag C F I (cp I' a b s d n) := fun x y h1 h2 => by
  rw [cp_c (fun e => by rw [e, hc] at h1; cases h1)]
  exact h x y h1 h2
theorem Ag_mono {C C' : List Nat} {F F' : List (Nat × Nat)} {I I' : zI} (h : Ag C F I I') (hC : (C.all fun k => C'.contains k) = true) (hF : (F.all fun q => C'.contains q.1 || F'.contains q) = true) : Ag C' F' I I' := fun k j h1 h2 => by
  refine h k j ?_ ?_
  · cases e : C.contains k with
    | false => rfl
    | true =>
      have := List.all_eq_true.mp hC k (List.contains_iff_mem.mp e)
      rw [h1] at this; cases this
  · cases e : F.contains (k, j) with
    | false => rfl
    | true =>
      have := List.all_eq_true.mp hF (k, j) (List.contains_iff_mem.mp e)
      simp only [h1, h2, Bool.or_false, Bool.false_eq_true] at this
theorem ag_c {C : List Nat} {F : List (Nat × Nat)} {I I' : zI} (h : Ag C F I I') (k : Nat) (hc : C.contains k = false) (hf : (F.all fun q => !(q.1 == k)) = true) : I' k = I k := by
  funext j
  refine h k j hc ?_
  cases e : F.contains (k, j) with
  | false => rfl
  | true =>
    have := List.all_eq_true.mp hf (k, j) (List.contains_iff_mem.mp e)
    simp at this
theorem ag_f {C : List Nat} {F : List (Nat × Nat)} {I I' : zI} (h : Ag C F I I') (k j : Nat) (hc : C.contains k = false) (hf : F.contains (k, j) = false) : I' k j = I k j := h k j hc hf
/-! each relation reads just its own cells -/
theorem RRow_cg {I I' M M' : zI} {c cnt arr : Nat} {lim lo hi : Int} (h2 : I' c 2 = I c 2) (h3 : I' (c + 1) = I (c + 1)) (m1 : M' 240 cnt = M 240 cnt) (m2 : M' arr = M arr) (h : RRow I M c cnt arr lim lo hi) : RRow I' M' c cnt arr lim lo hi := by
  unfold RRow at *
  rw [h2, h3, m1, m2]
  exact h
theorem RLegs_cg {I I' M M' : zI} {c : Nat} (h2 : I' c 2 = I c 2) (h3 : I' (c + 1) = I (c + 1)) (m1 : M' 240 64 = M 240 64) (m2 : M' 277 = M 277) (h : RLegs I M c) : RLegs I' M' c := by
  refine ⟨RRow_cg h2 h3 m1 m2 h.1, ?_⟩
  rw [h2, h3]
  exact h.2
theorem RFirm_cg {I I' M M' : zI} {a : Nat} {hb : Int} (h0 : I' a = I a) (h : ∀ k, a + 1 ≤ k → k ≤ a + 12 → I' k = I k) (m1 : M' 241 = M 241) (m2 : M' 244 = M 244) (m3 : M' 245 = M 245) (m4 : M' 246 = M 246) (m6 : M' 240 6 = M 240 6) (m7 : M' 240 7 = M 240 7) (m8 : M' 240 8 = M 240 8) (r : RFirm I M a hb) : RFirm I' M' a hb := by
  unfold RFirm at *
  rw [h0, h (a + 1) (by omega) (by omega), h (a + 2) (by omega) (by omega), h (a + 3) (by omega) (by omega), h (a + 4) (by omega) (by omega), h (a + 5) (by omega) (by omega), h (a + 6) (by omega) (by omega), h (a + 7) (by omega) (by omega), h (a + 8) (by omega) (by omega), h (a + 9) (by omega) (by omega), h (a + 10) (by omega) (by omega), h (a + 11) (by omega) (by omega), h (a + 12) (by omega) (by omega), m1, m2, m3, m4, m6, m7, m8]
  exact r
theorem RBook_cg {I I' M M' : zI} {b : Nat} (h0 : I' b 4 = I b 4) (h : ∀ k, b + 1 ≤ k → k ≤ b + 4 → I' k = I k) (m1 : M' 241 2 = M 241 2) (m2 : M' 247 = M 247) (r : RBook I M b) : RBook I' M' b := by
  unfold RBook at *
  rw [h0, h (b + 1) (by omega) (by omega), h (b + 2) (by omega) (by omega), h (b + 3) (by omega) (by omega), h (b + 4) (by omega) (by omega), m1, m2]
  exact r
theorem RLaw_cg {I I' M M' : zI} {lw : Nat} (h0 : I' (lw + 1) 4 = I (lw + 1) 4) (h : ∀ k, lw + 2 ≤ k → k ≤ lw + 6 → I' k = I k) (m0 : M' 250 0 = M 250 0) (ml : ∀ l, l < 16 → M' 251 l = M 251 l ∧ M' 252 l = M 252 l ∧ M' 253 l = M 253 l ∧ M' 254 l = M 254 l) (mo : ∀ i, i < 400 → M' 255 i = M 255 i ∧ M' 256 i = M 256 i) (r : RLaw I M lw) : RLaw I' M' lw := by
  unfold RLaw RLine at *
  rw [h0, h (lw + 2) (by omega) (by omega), h (lw + 3) (by omega) (by omega), h (lw + 4) (by omega) (by omega), h (lw + 5) (by omega) (by omega), h (lw + 6) (by omega) (by omega), m0]
  refine ⟨r.1, fun l hl => ?_⟩
  obtain ⟨e1, e2, e3, e4⟩ := ml l (by omega)
  have r2 := r.2 l hl
  rw [e1, e2, e3, e4]
  obtain ⟨a1, a2, a3, a4, a5, a6, a7⟩ := r2
  refine ⟨a1, a2, a3, a4, a5, fun i h1 h2 => ?_, a7⟩
  rw [(mo i (by omega)).1, (mo i (by omega)).2]
  exact a6 i h1 h2
theorem ROrd_cg {I I' M M' : zI} {a ob : Nat} (h3 : I' a 3 = I a 3) (h4 : I' a 4 = I a 4) (h5 : I' a 5 = I a 5) (h0 : I' ob 4 = I ob 4) (h : ∀ k, ob + 1 ≤ k → k ≤ ob + 4 → I' k = I k) (m0 : M' 240 36 = M 240 36) (m1 : ∀ j, j < 64 → M' 258 j = M 258 j) (r : ROrd I M a ob) : ROrd I' M' a ob := by
  unfold ROrd at *
  rw [h0, h3, h4, h5, h (ob + 1) (by omega) (by omega), h (ob + 2) (by omega) (by omega), h (ob + 3) (by omega) (by omega), h (ob + 4) (by omega) (by omega), m0]
  refine ⟨r.1, fun l hl => ?_⟩
  rw [m1 (4 * l) (by omega), m1 (4 * l + 1) (by omega), m1 (4 * l + 2) (by omega), m1 (4 * l + 3) (by omega)]
  exact r.2 l hl
theorem RBird_cg {I I' M M' : zI} {tb : Nat} (h0 : I' tb 4 = I tb 4) (h : ∀ k, tb + 1 ≤ k → k ≤ tb + 3 → I' k = I k) (m0 : M' 240 38 = M 240 38) (m1 : ∀ b, b < 8 → M' 259 b = M 259 b ∧ M' 260 b = M 260 b) (r : RBird I M tb) : RBird I' M' tb := by
  unfold RBird at *
  rw [h0, h (tb + 1) (by omega) (by omega), h (tb + 2) (by omega) (by omega), h (tb + 3) (by omega) (by omega), m0]
  refine ⟨r.1, r.2.1, fun b hb => ?_⟩
  rw [(m1 b hb).1, (m1 b hb).2]
  exact r.2.2 b hb
theorem RAft_cg {I I' M M' : zI} {a tb : Nat} (h5 : I' a 5 = I a 5) (h0 : I' tb 4 = I tb 4) (h : ∀ k, tb + 1 ≤ k → k ≤ tb + 2 → I' k = I k) (m0 : M' 240 41 = M 240 41) (m1 : ∀ e, e < 12 → M' 261 e = M 261 e) (r : RAft I M a tb) : RAft I' M' a tb := by
  unfold RAft at *
  rw [h0, h5, h (tb + 1) (by omega) (by omega), h (tb + 2) (by omega) (by omega), m0]
  refine ⟨r.1, r.2.1, fun e he => ?_⟩
  rw [m1 e he]
  exact r.2.2 e he
theorem RDots_cg {I I' M M' : zI} {x : Nat} (h0 : I' x = I x) (h1 : I' (x + 1) = I (x + 1)) (m1 : M' 272 = M 272) (m2 : M' 273 = M 273) (r : RDots I M x) : RDots I' M' x := by
  unfold RDots at *
  rw [h0, h1, m1, m2]
  exact r
theorem RPl_cg {I I' M M' : zI} {c : Nat} (h0 : I' c 2 = I c 2) (h1 : I' (c + 1) = I (c + 1)) (m1 : M' 240 57 = M 240 57) (m2 : M' 240 58 = M 240 58) (m3 : M' 240 59 = M 240 59) (r : RPl I M c) : RPl I' M' c := by
  unfold RPl at *
  rw [h0, h1, m1, m2, m3]
  exact r
theorem RPast_cg {I I' : zI} (h2 : I' 119 2 = I 119 2) (h3 : I' 119 3 = I 119 3) (h : ∀ k, 121 ≤ k → k ≤ 199 → I' k = I k) (m0 : I' 242 = I 242) (m3 : I' 240 3 = I 240 3) (m4 : I' 244 = I 244) (m5 : I' 245 = I 245) (m6 : I' 246 = I 246) (c6 : I' 240 6 = I 240 6) (c7 : I' 240 7 = I 240 7) (c8 : I' 240 8 = I 240 8) (r : RPast I) : RPast I' := by
  unfold RPast at *
  rw [h2, h3, m0, m3, h 199 (by omega) (by omega)]
  refine ⟨r.1, r.2.1, fun k hk => ⟨?_, (r.2.2 k hk).2⟩⟩
  have hm : ((I 119 2).toNat + k) % 6 < 6 := Nat.mod_lt _ (by decide)
  refine RFirm_cg (h _ (by omega) (by omega)) (fun q h1 h2 => h q (by omega) (by omega)) ?_ ?_ ?_ ?_ ?_ ?_ ?_ (r.2.2 k hk).1
  · funext j
    simp only [rowv, if_true, m0]
  · funext j
    simp only [rowv, m4, Nat.reduceEqDiff, reduceIte]
  · funext j
    simp only [rowv, m5, Nat.reduceEqDiff, reduceIte]
  · funext j
    simp only [rowv, m6, Nat.reduceEqDiff, reduceIte]
  · simp only [rowv, c6, Nat.reduceEqDiff, reduceIte]
  · simp only [rowv, c7, Nat.reduceEqDiff, reduceIte]
  · simp only [rowv, c8, Nat.reduceEqDiff, reduceIte]
theorem RTape_cg {I I' : zI} (h0 : I' 213 1 = I 213 1) (h1 : I' 214 = I 214) (m0 : I' 240 14 = I 240 14) (m1 : I' 248 = I 248) (r : RTape I) : RTape I' := by
  unfold RTape at *
  rw [h0, h1, m0, m1]
  exact r
theorem RFlt_cg {I I' : zI} (h0 : I' 213 7 = I 213 7) (h1 : I' 213 8 = I 213 8) (m0 : I' 240 34 = I 240 34) (m1 : I' 240 35 = I 240 35) (r : RFlt I) : RFlt I' := by
  unfold RFlt at *
  rw [h0, h1, m0, m1]
  exact r
theorem RBox_cg {I I' : zI} (h0 : I' 238 1 = I 238 1) (h1 : I' 239 = I 239) (r : RBox I) : RBox I' := by
  unfold RBox at *
  rw [h0, h1]
  exact r
theorem RMisc_cg {I I' : zI} (h0 : I' 240 5 = I 240 5) (h1 : I' 249 = I 249) (h2 : I' 44 1 = I 44 1) (h3 : I' 46 1 = I 46 1) (h4 : I' 50 1 = I 50 1) (h5 : I' 52 1 = I 52 1) (h6 : I' 54 1 = I 54 1) (h7 : I' 56 1 = I 56 1) (h8 : I' 58 1 = I 58 1) (r : RMisc I) : RMisc I' := by
  unfold RMisc at *
  rw [h0, h1, h2, h3, h4, h5, h6, h7, h8]
  exact r
theorem img_cg {I I' : zI} (h : I' 282 = I 282) : img I' = img I := by
  unfold img
  rw [h]
theorem RDk_cg {I I' M : zI} (h : ∀ k, 61 ≤ k → k ≤ 118 → I' k = I k) (r : RDk I M 61 74 79 88 93 98 103 105 107 109 111 113 115 117) : RDk I' M 61 74 79 88 93 98 103 105 107 109 111 113 115 117 := by
  obtain ⟨r1, r2, r3, r4, r5, r6, r7, r8, r9, r10, r11, r12, r13, r14⟩ := r
  have e : ∀ k, 61 ≤ k → k ≤ 118 → ∀ j, I' k j = I k j := fun k h1 h2 j => by rw [h k h1 h2]
  exact ⟨RFirm_cg (h 61 (by omega) (by omega)) (fun k _ _ => h k (by omega) (by omega)) rfl rfl rfl rfl rfl rfl rfl r1,
    RBook_cg (e 74 (by omega) (by omega) 4) (fun k _ _ => h k (by omega) (by omega)) rfl rfl r2,
    RLaw_cg (e 80 (by omega) (by omega) 4) (fun k _ _ => h k (by omega) (by omega)) rfl (fun _ _ => ⟨rfl, rfl, rfl, rfl⟩) (fun _ _ => ⟨rfl, rfl⟩) r3,
    ROrd_cg (e 61 (by omega) (by omega) 3) (e 61 (by omega) (by omega) 4) (e 61 (by omega) (by omega) 5) (e 88 (by omega) (by omega) 4) (fun k _ _ => h k (by omega) (by omega)) rfl (fun _ _ => rfl) r4,
    RBird_cg (e 93 (by omega) (by omega) 4) (fun k _ _ => h k (by omega) (by omega)) rfl (fun _ _ => ⟨rfl, rfl⟩) r5,
    RAft_cg (e 61 (by omega) (by omega) 5) (e 98 (by omega) (by omega) 4) (fun k _ _ => h k (by omega) (by omega)) rfl (fun _ _ => rfl) r6,
    RRow_cg (e 103 (by omega) (by omega) 2) (h 104 (by omega) (by omega)) rfl rfl r7,
    RRow_cg (e 105 (by omega) (by omega) 2) (h 106 (by omega) (by omega)) rfl rfl r8,
    RDots_cg (h 107 (by omega) (by omega)) (h 108 (by omega) (by omega)) rfl rfl r9,
    RPl_cg (e 109 (by omega) (by omega) 2) (h 110 (by omega) (by omega)) rfl rfl rfl r10,
    RRow_cg (e 111 (by omega) (by omega) 2) (h 112 (by omega) (by omega)) rfl rfl r11,
    RLegs_cg (e 113 (by omega) (by omega) 2) (h 114 (by omega) (by omega)) rfl rfl r12,
    RRow_cg (e 115 (by omega) (by omega) 2) (h 116 (by omega) (by omega)) rfl rfl r13,
    RRow_cg (e 117 (by omega) (by omega) 2) (h 118 (by omega) (by omega)) rfl rfl r14⟩
theorem RPic_cg {I I' : zI} (h0 : I' 0 2 = I 0 2) (m0 : I' 240 73 = I 240 73) (h : ∀ k, 61 ≤ k → k ≤ 118 → I' k = I k) (m1 : I' 282 = I 282) (r : RPic I) : RPic I' := by
  unfold RPic at *
  rw [h0, m0, img_cg m1]
  exact ⟨r.1, r.2.1, fun e => RDk_cg h (r.2.2 e)⟩
theorem ag_cs {C : List Nat} {F : List (Nat × Nat)} {I I' : zI} (h : Ag C F I I') (lo hi : Nat) (hd : (C.all (fun k => decide (k < lo) || decide (hi < k)) && F.all (fun q => decide (q.1 < lo) || decide (hi < q.1))) = true) (k : Nat) (h1 : lo ≤ k) (h2 : k ≤ hi) : I' k = I k := by
  rw [Bool.and_eq_true] at hd
  refine ag_c h k ?_ ?_
  · cases e : C.contains k with
    | false => rfl
    | true =>
      have := List.all_eq_true.mp hd.1 k (List.contains_iff_mem.mp e)
      simp at this
      omega
  · refine List.all_eq_true.mpr fun q hq => ?_
    have := List.all_eq_true.mp hd.2 q hq
    simp at this ⊢
    omega
