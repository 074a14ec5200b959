/-! THE MACHINE OVER ITS OWN INSTRUCTIONS: values, cells, one step told as a demand on what comes behind it -/
abbrev kV : Type := Int32 ⊕ Option Nat
/-- how many cells; what each is (0: an object of class c; 1: ints, so many; 2: references, so many); its ints; its references -/
abbrev kH : Type := Nat × (Nat → Nat × Nat) × (Nat → Nat → Int32) × (Nat → Nat → Option Nat)
abbrev kG : Type := Launch × va_G × ClassId × ClassId × Nat × (Nat → Nat) × Nat × (Nat → Int32) × Option Nat
def gl (g : kG) : Launch := g.1
def gD (g : kG) : va_G := g.2.1
def gI (g : kG) : ClassId := g.2.2.1
def gF (g : kG) : ClassId := g.2.2.2.1
def gb (g : kG) : Nat := g.2.2.2.2.1
def gx (g : kG) : Nat → Nat := g.2.2.2.2.2.1
def gL (g : kG) : Nat := g.2.2.2.2.2.2.1
def gs (g : kG) : Nat → Int32 := g.2.2.2.2.2.2.2.1
def gz (g : kG) : Option Nat := g.2.2.2.2.2.2.2.2
def hn (h : kH) : Nat := h.1
def hk (h : kH) : Nat → Nat × Nat := h.2.1
def hI (h : kH) : Nat → Nat → Int32 := h.2.2.1
def hP (h : kH) : Nat → Nat → Option Nat := h.2.2.2
def ka (g : kG) (k : Nat) : Nat := if k < 1000000 then gb g + k else gx g (k - 1000000)
def kv (g : kG) (v : kV) : Value := match v with
  | .inl x => .int x
  | .inr r => va_rf (r.map (ka g))
/-- is a field of that type a reference? -/
def kr_t (t : FieldType) : Bool := match t with
  | .object _ => true
  | .array _ => true
  | _ => false
def kfv (g : kG) (h : kH) (k c i : Nat) : Value := if kr_t (kn_t c i) = true then va_rf ((hP h k i).map (ka g)) else .int (hI h k i)
def ken (g : kG) (h : kH) (k : Nat) : va_E := match (hk h k).1 with
  | 0 => .inr ((hk h k).2, (List.range (kn_N (hk h k).2)).map (fun i => kfv g h k (hk h k).2 i))
  | 1 => .inl (gI g, (hk h k).2, .inl (hI h k))
  | _ => .inl (gF g, (hk h k).2, .inr (.inr (.inr (.inr (fun i => (hP h k i).map (ka g))))))
def kw (g : kG) (h : kH) : va_W := (List.range (hn h)).map fun k => (ka g k, ken g h k)
def kA (g : kG) : Nat → Prop := fun q => gb g ≤ q
def kS_b : List Int32 := [104, 97, 110, 100, 32, 105, 110, 107, 32, 119, 111, 114, 110, 32, 119, 105, 108, 100, 32, 102, 105, 110, 101, 32, 108, 101, 102, 116, 32, 115, 105, 103, 110, 101, 100, 32, 108, 105, 102, 116, 101, 100, 32, 98, 105, 114, 100, 32, 100, 101, 101, 100, 32, 104, 111, 117, 114, 32, 119, 114, 105, 116, 101, 115, 32, 98, 108, 111, 116, 115, 32, 108, 105, 102, 116, 115, 32, 119, 104, 101, 110, 32, 111, 114, 32, 97, 110, 100, 32, 110, 111, 116, 32, 97, 116, 32, 99, 108, 101, 114, 107, 32, 116, 97, 107, 101, 32, 100, 114, 111, 112, 32, 119, 114, 105, 116, 101, 32, 114, 101, 115, 116, 32, 100, 105, 112, 32, 99, 117, 116, 32, 97, 102, 116, 101, 114]
def kS_x : List Int32 := [197, 394, 1556, 3112]
def kS_t : String := "hand ink worn wild fine left signed lifted bird deed hour writes blots lifts when or and not at clerk take drop write rest dip cut after"
def kg_N : List Cond :=  [.methodLinkNest "QuillDesk$Reader" 54 ⟨"QuillDesk", "within", "(III)Z"⟩ "QuillDesk", .methodLinkNest "QuillDesk$Row" 28 ⟨"QuillDesk", "within", "(III)Z"⟩ "QuillDesk", .methodLinkNest "QuillDesk$Boxes" 19 ⟨"QuillDesk", "within", "(III)Z"⟩ "QuillDesk", .fieldLinkNest "QuillDesk$Boxes" 39 "QuillDesk" "BOXES" "[I" "QuillDesk"]
def kGx (g : kG) (U : State) (H : Heap) : Prop :=
  va_K (gD g) vwCl [(gI g, .int), (gF g, .object "QuillDesk$Firm")] U ∧
  va_T .int (gx g 0) (gL g) (fun j => .int (gs g j)) (kA g) U H ∧
  va_T .int (gx g 1) 4 (fun j => .int (kS_x.getD j 0)) (kA g) U H ∧
  (va_O "java/lang/String" (gx g 2) (kA g) U H ∧ va_OF "java/lang/String" "coder" "B" (.int 0) (gx g 2) (kA g) U H ∧ va_OF "java/lang/String" "value" "[B" (.ref (gx g 3)) (gx g 2) (kA g) U H) ∧
  va_T .byte (gx g 3) 136 (fun j => .int (kS_b.getD j 0)) (kA g) U H ∧
  va_Z "java/lang/String" "COMPACT_STRINGS" "Z" (.int 1) (kA g) U H ∧ va_Z "QuillDesk" "BOXES" "[I" (.ref (gx g 1)) (kA g) U H ∧
  va_Z "jdk/internal/util/Preconditions" "SIOOBE_FORMATTER" "Ljava/util/function/BiFunction;" (va_rf ((gz g).map (ka g))) (kA g) U H ∧
  vk_R "QuillDesk$Reader" 111 kS_t (gx g 2) U ∧ va_AO "QuillDesk$Firm" U ∧ ∀ w ∈ kg_N, va_Nw w U
def kRp (g : kG) (h : kH) (H : Heap) : Prop := va_P (gD g) vwCl (kw g h) H ∧ hn h ≤ 1000000
def kM (y d : Nat) : Room := { frames := d, cells := (kc_c y).1, slots := (kc_c y).2, locals := 60 * d }
def kws (y : Nat) : List Cond := Cond.code (kN y) (kB y) (kL y) (kT y) :: kg_T
def kPc (g : kG) (h : kH) (as : List kV) : Array Value → State → Prop := va_Pc (as.map (kv g)) (fun U => kGx g U U.heap ∧ kRp g h U.heap ∧ U.heap.size = gb g + hn h)
def kBt (g : kG) (n : Nat) (h : kH) (t : State) : Prop := kRp g h t.heap ∧ hn h = n
def kQc (g : kG) (y n : Nat) (Q : Int32 → kH → Prop) : Array Value → State → Outcome → State → Prop := match kT y with
  | none => va_Qv (fun h : kH => Q 0 h) (kBt g n) (kA g)
  | some _ => va_Qi (fun r (h : kH) => Q r h) (kBt g n) (kA g)
/-- METHOD y, called with the arguments as over the cells h, comes back with an answer and cells that are Q -/
def Ev (g : kG) (y d : Nat) (as : List kV) (h : kH) (Q : Int32 → kH → Prop) : Prop :=
  Met (gl g) (kN y) (kws y) (kM y d) (kPc g h as) (kQc g y (hn h + (kc_c y).1) Q) (kc_c y).1 (kc_c y).2 (kA g)
def kzL (g : kG) (ls : Array Slot) (nL : Nat) (L : List (Option kV)) : Prop := ls.size = nL ∧ lv_wf ls ∧ ∀ (k : Nat) (v : kV), L[k]? = some (some v) → ls[k]? = some (.val (kv g v))
def kCx (g : kG) (y d : Nat) (Q : Int32 → kH → Prop) (p : Program) (e : Env) (R : Room) (s : State) (m : MethodId) (args : Array Value) (below : List Frame) (meth : Method) (c0 : Code) (h0 : kH) (Z : State → Prop) : Prop :=
  p.tables.exec = Jvm.exec ∧ c0.code = kB y ∧ c0.maxLocals = kL y ∧ s.vm.findClass (kN y).cls = some m.cls ∧ (∀ w ∈ kg_T, w.before args s = true) ∧ ((kN y).name = "<init>" → meth.name = (kN y).name) ∧
  (d ≤ R.frames ∧ 60 * d ≤ R.locals ∧ (kc_c y).1 ≤ R.cells ∧ (kc_c y).2 ≤ R.slots) ∧ kGx g s s.heap ∧ s.heap.size = gb g + hn h0 ∧
  ∀ (H : Heap) (locs : List Loc) (c n : Nat) (ls : Array Slot) (pc : Nat) (x : Int32) (h1 : kH), kRp g h1 H → va_S (kA g) s.heap H locs → hn h1 = hn h0 + c → c = (kc_c y).1 → n ≤ (kc_c y).2 → Q x h1 →
    ((∃ ty, kT y = some ty ∧ narrow ty (.int x) = .int x ∧ decode (kB y) pc = .ok (.ireturn, 1)) → W p (gl g) e R s m args below meth c0 H locs c n Z (F0 m pc ls [.int x])) ∧
    ((kT y = none ∧ x = 0 ∧ decode (kB y) pc = .ok (.return_, 1)) → W p (gl g) e R s m args below meth c0 H locs c n Z (F0 m pc ls []))
/-- FROM instruction i of method y (depth d; c cells, n places made so far; locals L; stack st; cells h) it comes back with Q -/
def Wz (g : kG) (y d i c n : Nat) (L : List (Option kV)) (st : List kV) (h : kH) (Q : Int32 → kH → Prop) : Prop :=
  ∀ (p : Program) (e : Env) (R : Room) (s : State) (m : MethodId) (args : Array Value) (below : List Frame) (meth : Method) (c0 : Code) (h0 : kH) (Z : State → Prop) (H : Heap) (locs : List Loc) (ls : Array Slot),
    kCx g y d Q p e R s m args below meth c0 h0 Z → kRp g h H → va_S (kA g) s.heap H locs → kzL g ls (kL y) L → hn h = hn h0 + c →
    W p (gl g) e R s m args below meth c0 H locs c n Z (F0 m (kP y i) ls (st.map (kv g)))
/-! ===== one step ===== -/
abbrev kK_ : Type := Nat → Nat → Nat → List (Option kV) → List kV → kH → Prop
def sL (L : List (Option kV)) (k : Nat) (v : kV) : List (Option kV) := if k < L.length then L.set k (some v) else L ++ (List.replicate (k - L.length) none ++ [some v])
def u2 {α : Type} (f : Nat → Nat → α) (k j : Nat) (x : α) : Nat → Nat → α := fun a b => if a = k ∧ b = j then x else f a b
def uI (h : kH) (k j : Nat) (x : Int32) : kH := (hn h, hk h, u2 (hI h) k j x, hP h)
def uP (h : kH) (k j : Nat) (r : Option Nat) : kH := (hn h, hk h, hI h, u2 (hP h) k j r)
def uC (h : kH) (a b sp dp n : Nat) : kH := (hn h, hk h, (fun x => if x = b then va_cpy (hI h a) (hI h b) sp dp n else hI h x), hP h)
def uN (h : kH) (t w : Nat) : kH := (hn h + 1, (fun x => if x = hn h then (t, w) else hk h x), (fun x => if x = hn h then (fun _ => 0) else hI h x), (fun x => if x = hn h then (fun _ => none) else hP h x))
def kO (h : kH) (a c : Nat) : Prop := a < hn h ∧ hk h a = (0, c)
def kJ (h : kH) (a : Nat) : Prop := a < hn h ∧ (hk h a).1 = 1
def kU (h : kH) (a : Nat) : Prop := a < hn h ∧ (hk h a).1 = 2
def kl (h : kH) (a : Nat) : Nat := (hk h a).2
def krv (h : kH) (a c : Nat) : Prop := if c = 99 then a = 1000002 else kO h a c
def krt (rt : Option FieldType) (x : Int32) : Prop := match rt with
  | some .int => True
  | some .boolean => x = 0 ∨ x = 1
  | some .byte => x = 0 ∨ x = 1
  | some .char => ∃ q : Nat, q < 65536 ∧ x = nI q
  | _ => False
def cz (c : ClassFile.Cond) (x y : Int32) : Prop := match c with
  | .eq => x = y
  | .ne => ¬ x = y
  | .lt => x < y
  | .ge => y ≤ x
  | .gt => y < x
  | .le => x ≤ y
def swT (x : Int32) (k : Nat → Prop) : List Int → Int → Prop
  | [], _ => True
  | t :: r, lo => (x = Int32.ofInt lo → k t.toNat) ∧ swT x k r (lo + 1)
def lkT (x : Int32) (k : Nat → Prop) (d : Prop) : List (Int × Int) → Prop
  | [] => d
  | t :: r => (x = Int32.ofInt t.1 → k t.2.toNat) ∧ (¬ x = Int32.ofInt t.1 → lkT x k d r)
def lI (L : List (Option kV)) (k : Nat) (f : Int32 → Prop) : Prop := match L[k]? with
  | some (some (.inl x)) => f x
  | _ => False
def lR (L : List (Option kV)) (k : Nat) (f : Option Nat → Prop) : Prop := match L[k]? with
  | some (some (.inr r)) => f r
  | _ => False
def p1 (st : List kV) (f : Int32 → List kV → Prop) : Prop := match st with
  | .inl x :: r => f x r
  | _ => False
def p2 (st : List kV) (f : Int32 → Int32 → List kV → Prop) : Prop := match st with
  | .inl y :: .inl x :: r => f x y r
  | _ => False
def pr (st : List kV) (f : Nat → List kV → Prop) : Prop := match st with
  | .inr (some a) :: r => f a r
  | _ => False
def stp (g : kG) (rt : Option FieldType) (mc ms : Nat) (ev : Nat → List kV → kH → (Int32 → kH → Prop) → Prop) (K : kK_) (Q : Int32 → kH → Prop) (c n i : Nat) (L : List (Option kV)) (st : List kV) (h : kH) (ins : Instr) : Prop := match ins with
  | .sipush v => K c n (i + 1) L (.inl (Int32.ofInt v) :: st) h
  | .iload k => lI L k fun x => K c n (i + 1) L (.inl x :: st) h
  | .aload k => lR L k fun r => K c n (i + 1) L (.inr r :: st) h
  | .istore k => p1 st fun x r => K c n (i + 1) (sL L k (.inl x)) r h
  | .astore k => match st with
    | .inr v :: r => K c n (i + 1) (sL L k (.inr v)) r h
    | _ => False
  | .iinc k w => lI L k fun x => K c n (i + 1) (sL L k (.inl (x + Int32.ofInt w))) st h
  | .iadd => p2 st fun x y r => K c n (i + 1) L (.inl (x + y) :: r) h
  | .isub => p2 st fun x y r => K c n (i + 1) L (.inl (x - y) :: r) h
  | .imul => p2 st fun x y r => K c n (i + 1) L (.inl (x * y) :: r) h
  | .idiv => p2 st fun x y r => ¬ y = 0 ∧ K c n (i + 1) L (.inl (x / y) :: r) h
  | .irem => p2 st fun x y r => ¬ y = 0 ∧ K c n (i + 1) L (.inl (x - x / y * y) :: r) h
  | .ineg => p1 st fun x r => K c n (i + 1) L (.inl (-x) :: r) h
  | .iand => p2 st fun x y r => K c n (i + 1) L (.inl (x &&& y) :: r) h
  | .ior => p2 st fun x y r => K c n (i + 1) L (.inl (x ||| y) :: r) h
  | .ixor => p2 st fun x y r => K c n (i + 1) L (.inl (x ^^^ y) :: r) h
  | .ishl => p2 st fun x y r => K c n (i + 1) L (.inl (x <<< (y &&& 31)) :: r) h
  | .ishr => p2 st fun x y r => K c n (i + 1) L (.inl (x >>> (y &&& 31)) :: r) h
  | .iushr => p2 st fun x y r => K c n (i + 1) L (.inl (x.toUInt32 >>> (y.toUInt32 &&& Int32.toUInt32 31)).toInt32 :: r) h
  | .i2c => p1 st fun x r => K c n (i + 1) L (.inl (x.toUInt32 % 65536).toInt32 :: r) h
  | .dup => match st with
    | v :: r => K c n (i + 1) L (v :: v :: r) h
    | _ => False
  | .dup2 => match st with
    | v :: w :: r => K c n (i + 1) L (v :: w :: v :: w :: r) h
    | _ => False
  | .pop => match st with
    | _ :: r => K c n (i + 1) L r h
    | _ => False
  | .ifCond q t => p1 st fun x r => (cz q x 0 → K c n t.toNat L r h) ∧ (¬ cz q x 0 → K c n (i + 1) L r h)
  | .if_icmp q t => p2 st fun x y r => (cz q x y → K c n t.toNat L r h) ∧ (¬ cz q x y → K c n (i + 1) L r h)
  | .goto t => K c n t.toNat L st h
  | .ifnonnull t => match st with
    | .inr (some _) :: r => K c n t.toNat L r h
    | .inr none :: r => K c n (i + 1) L r h
    | _ => False
  | .tableswitch d lo hi ts => p1 st fun x r => swT x (fun t => K c n t L r h) ts.toList lo ∧ (x.toInt < lo ∨ hi < x.toInt → K c n d.toNat L r h)
  | .lookupswitch d ps => p1 st fun x r => lkT x (fun t => K c n t L r h) (K c n d.toNat L r h) ps.toList
  | .getstatic q => match q with
    | 0 => K c n (i + 1) L (.inl 1 :: st) h
    | 1 => K c n (i + 1) L (.inr (some 1000001) :: st) h
    | 2 => K c n (i + 1) L (.inr (gz g) :: st) h
    | _ => False
  | .ldc _ => K c n (i + 1) L (.inr (some 1000002) :: st) h
  | .ldc_w q => pr st fun a r => a = 1000002 ∧ match q with
    | 0 => K c n (i + 1) L (.inr (some 1000003) :: r) h
    | 1 => K c n (i + 1) L (.inl 0 :: r) h
    | _ => False
  | .getfield q => pr st fun a r => kO h a (kf_c q) ∧ K c n (i + 1) L (.inl (hI h a (kf_k q)) :: r) h
  | .checkcast q => pr st fun a r => kO h a (kf_c q) ∧ K c n (i + 1) L (.inr (hP h a (kf_k q)) :: r) h
  | .putfield q => match st with
    | .inl x :: .inr (some a) :: r => kO h a (kf_c q) ∧ (q % 2 = 1 → x = 0 ∨ x = 1) ∧ K c n (i + 1) L r (uI h a (kf_k q) x)
    | _ => False
  | .putstatic q => match st with
    | .inr v :: .inr (some a) :: r => kO h a (kf_c q) ∧ K c n (i + 1) L r (uP h a (kf_k q) v)
    | _ => False
  | .iaload => match st with
    | .inl x :: .inr (some a) :: r => if a < 1000000 then kJ h a ∧ vp_in x (kl h a) ∧ K c n (i + 1) L (.inl (hI h a x.toNatClampNeg) :: r) h
      else if a = 1000000 then vp_in x (gL g) ∧ K c n (i + 1) L (.inl (gs g x.toNatClampNeg) :: r) h
      else a = 1000001 ∧ vp_in x 4 ∧ K c n (i + 1) L (.inl (kS_x.getD x.toNatClampNeg 0) :: r) h
    | _ => False
  | .iastore => match st with
    | .inl v :: .inl x :: .inr (some a) :: r => kJ h a ∧ vp_in x (kl h a) ∧ K c n (i + 1) L r (uI h a x.toNatClampNeg v)
    | _ => False
  | .aaload => match st with
    | .inl x :: .inr (some a) :: r => kU h a ∧ vp_in x (kl h a) ∧ K c n (i + 1) L (.inr (hP h a x.toNatClampNeg) :: r) h
    | _ => False
  | .aastore => match st with
    | .inr (some v) :: .inl x :: .inr (some a) :: r => kU h a ∧ vp_in x (kl h a) ∧ kO h v 3 ∧ K c n (i + 1) L r (uP h a x.toNatClampNeg (some v))
    | _ => False
  | .baload => match st with
    | .inl x :: .inr (some a) :: r => a = 1000003 ∧ vp_in x 136 ∧ K c n (i + 1) L (.inl (kS_b.getD x.toNatClampNeg 0) :: r) h
    | _ => False
  | .arraylength => pr st fun a r => if a < 1000000 then kJ h a ∧ K c n (i + 1) L (.inl (Int32.ofNat (kl h a)) :: r) h
      else if a = 1000000 then K c n (i + 1) L (.inl (Int32.ofNat (gL g)) :: r) h
      else if a = 1000001 then K c n (i + 1) L (.inl (Int32.ofNat 4) :: r) h
      else a = 1000003 ∧ K c n (i + 1) L (.inl (Int32.ofNat 136) :: r) h
  | .newarray _ => p1 st fun x r => ¬ x < 0 ∧ x.toNatClampNeg ≤ 100000 ∧ hn h < 1000000 ∧ c + 1 ≤ mc ∧ n + x.toNatClampNeg ≤ ms ∧ K (c + 1) (n + x.toNatClampNeg) (i + 1) L (.inr (some (hn h)) :: r) (uN h 1 x.toNatClampNeg)
  | .anewarray _ => p1 st fun x r => ¬ x < 0 ∧ x.toNatClampNeg ≤ 100000 ∧ hn h < 1000000 ∧ c + 1 ≤ mc ∧ n + x.toNatClampNeg ≤ ms ∧ K (c + 1) (n + x.toNatClampNeg) (i + 1) L (.inr (some (hn h)) :: r) (uN h 2 x.toNatClampNeg)
  | .new q => hn h < 1000000 ∧ c + 1 ≤ mc ∧ n + kn_N q ≤ ms ∧ K (c + 1) (n + kn_N q) (i + 1) L (.inr (some (hn h)) :: st) (uN h 0 q)
  | .monitorexit => pr st fun _ r => r.length ≤ 8 ∧ K c n (i + 1) L r h
  | .swap => match st with
    | .inl w :: .inl dp :: .inr (some b) :: .inl sp :: .inr (some a) :: r => kJ h a ∧ kJ h b ∧ ¬ sp < 0 ∧ ¬ dp < 0 ∧ ¬ w < 0 ∧ sp.toNatClampNeg + w.toNatClampNeg ≤ kl h a ∧ dp.toNatClampNeg + w.toNatClampNeg ≤ kl h b ∧ r.length ≤ 8 ∧ K c n (i + 1) L r (uC h a b sp.toNatClampNeg dp.toNatClampNeg w.toNatClampNeg)
    | _ => False
  | .invokestatic q => c ≤ mc ∧ n ≤ ms ∧ kq_n q ≤ st.length ∧ (st.drop (kq_n q)).length ≤ 8 ∧ ev (kq_y q) (st.take (kq_n q)).reverse h (fun x h1 => K c n (i + 1) L (if q % 2 = 1 then st.drop (kq_n q) else .inl x :: st.drop (kq_n q)) h1)
  | .invokevirtual q => c ≤ mc ∧ n ≤ ms ∧ kq_n q ≤ st.length ∧ pr (st.drop (kq_n q)) fun a r => krv h a (kq_c q) ∧ r.length ≤ 8 ∧ ev (kq_y q) (.inr (some a) :: (st.take (kq_n q)).reverse) h (fun x h1 => K c n (i + 1) L (if q % 2 = 1 then r else .inl x :: r) h1)
  | .invokespecial q => kq_n q ≤ st.length ∧ pr (st.drop (kq_n q)) fun a r => kO h a (kq_c q) ∧ r.length ≤ 8 ∧ c + (kc_c (kq_y q)).1 ≤ mc ∧ n + (kc_c (kq_y q)).2 ≤ ms ∧ ev (kq_y q) (.inr (some a) :: (st.take (kq_n q)).reverse) h (fun _ h1 => K (c + (kc_c (kq_y q)).1) (n + (kc_c (kq_y q)).2) (i + 1) L r h1)
  | .ireturn => match st with
    | [.inl x] => krt rt x ∧ c = mc ∧ n ≤ ms ∧ Q x h
    | _ => False
  | .return_ => match st with
    | [] => rt = none ∧ c = mc ∧ n ≤ ms ∧ Q 0 h
    | _ => False
  | _ => False
def stf : List (Nat × Nat) → Nat → Option Nat
  | [], _ => none
  | q :: r, i => if q.1 = i then some q.2 else stf r i
/-- the demand of a stretch of the code: to the places that are listed (with how many locals), or to the end -/
def wq (g : kG) (y d : Nat) (rt : Option FieldType) (mc ms : Nat) (cd : List Instr) (stops : List (Nat × Nat)) (Q : Int32 → kH → Prop) : Nat → Nat → Nat → Nat → List (Option kV) → List kV → kH → Prop
  | 0, c, n, i, L, st, h => Wz g y (d + 1) i c n L st h Q
  | f + 1, c, n, i, L, st, h => match cd[i]? with
    | none => False
    | some ins => stp g rt mc ms (fun z as h1 Q1 => Ev g z d as h1 Q1) (fun c n i L st h => match stf stops i with
        | none => wq g y d rt mc ms cd stops Q f c n i L st h
        | some k => Wz g y (d + 1) i c n (L.take k) st h Q) Q c n i L st h ins
/-! what the demands rest on: the world as a list, locals, the tables' words -/
theorem ka_lt {g : kG} {k : Nat} (h : k < 1000000) : ka g k = gb g + k := if_pos h
theorem kw_get {g : kG} {h : kH} {k : Nat} (hk : k < hn h) : (kw g h)[k]? = some (ka g k, ken g h k) := by
  simp [kw, List.getElem?_map, List.getElem?_range hk]
theorem kw_of {g : kG} {h : kH} {k : Nat} {q : Nat × va_E} (e : (kw g h)[k]? = some q) : k < hn h ∧ q = (ka g k, ken g h k) := by
  have hl : k < (kw g h).length := (List.getElem?_eq_some_iff.mp e).1
  have hk : k < hn h := by simpa [kw] using hl
  exact ⟨hk, (Option.some.inj ((kw_get hk).symm.trans e)).symm⟩
theorem kw_D {g : kG} {h : kH} (hm : hn h ≤ 1000000) : va_D (kA g) (kw g h) := by
  refine ⟨fun i j p q hi hj hpq => ?_, fun k q hk => ?_⟩
  · obtain ⟨h1, rfl⟩ := kw_of hi
    obtain ⟨h2, rfl⟩ := kw_of hj
    have h3 : ka g i = ka g j := hpq
    rw [ka_lt (by omega), ka_lt (by omega)] at h3
    omega
  · obtain ⟨h1, rfl⟩ := kw_of hk
    show gb g ≤ ka g k
    rw [ka_lt (by omega)]
    omega
theorem ken_congr {g : kG} {h h1 : kH} {k : Nat} (e1 : hk h1 k = hk h k) (e2 : hI h1 k = hI h k) (e3 : hP h1 k = hP h k) : ken g h1 k = ken g h k := by
  simp only [ken, kfv, e1, e2, e3]
theorem kw_set {g : kG} {h h1 : kH} {k : Nat} (hk : k < hn h) (e0 : hn h1 = hn h) (e : ∀ j, j ≠ k → ken g h1 j = ken g h j) : (kw g h).set k (ka g k, ken g h1 k) = kw g h1 := by
  apply List.ext_getElem?
  intro j
  by_cases hj : j = k
  · subst hj
    rw [List.getElem?_set_self (by simpa [kw] using hk), kw_get (by omega)]
  · rw [List.getElem?_set_ne (Ne.symm hj)]
    by_cases hl : j < hn h
    · rw [kw_get hl, kw_get (by omega), e j hj]
    · rw [List.getElem?_eq_none (by simp [kw]; omega), List.getElem?_eq_none (by simp [kw]; omega)]
theorem kw_push {g : kG} {h h1 : kH} (e0 : hn h1 = hn h + 1) (e : ∀ j, j < hn h → ken g h1 j = ken g h j) : kw g h ++ [(ka g (hn h), ken g h1 (hn h))] = kw g h1 := by
  simp only [kw, e0, List.range_succ, List.map_append, List.map_cons, List.map_nil]
  congr 1
  exact List.map_congr_left fun j hj => by rw [e j (List.mem_range.mp hj)]
theorem kv_cat (g : kG) (v : kV) : (kv g v).category = 1 := by
  rcases v with x | r
  · rfl
  · cases r <;> rfl
theorem kv_sum (g : kG) (r : List kV) : ((r.map (kv g)).map fun v => v.category).sum = r.length := by
  induction r with
  | nil => rfl
  | cons v r ih =>
    simp only [List.map_cons, List.sum_cons, kv_cat, List.length_cons] at ih ⊢
    omega
theorem kg_warm {s U : State} (hW : s.WarmedH U.vm) (h : ∀ w ∈ kg_N, va_Nw w s) : ∀ w ∈ kg_N, va_Nw w U := by
  unfold kg_N at h ⊢
  simp only [List.forall_mem_cons] at h ⊢
  exact ⟨va_Nw.warmM hW h.1, va_Nw.warmM hW h.2.1, va_Nw.warmM hW h.2.2.1, va_Nw.warmF hW h.2.2.2.1, fun _ z => absurd z List.not_mem_nil⟩
theorem kg_same {u U : State} (hv : u.vm = U.vm) (h : ∀ w ∈ kg_N, va_Nw w u) : ∀ w ∈ kg_N, va_Nw w U := by
  unfold kg_N at h ⊢
  simp only [List.forall_mem_cons] at h ⊢
  exact ⟨va_Nw.same rfl hv h.1, va_Nw.same rfl hv h.2.1, va_Nw.same rfl hv h.2.2.1, va_Nw.same rfl hv h.2.2.2.1, fun _ z => absurd z List.not_mem_nil⟩
def kg_n (w : Cond) : Bool := match w with
  | .fieldLinkNest .. => true
  | .methodLinkNest .. => true
  | _ => false
theorem kg_n_all : tables_1.filter kg_n = kg_N := by decide +kernel
theorem kg_n_in {pl : Nat} {w : Cond} (h : wd pl w = true) (hn' : kg_n w = true) : w ∈ kg_N := by
  rw [← kg_n_all]
  exact List.mem_filter.mpr ⟨List.mem_of_getElem? (of_decide_eq_true h), hn'⟩
theorem kGx_call {g : kG} {s U : State} {H : Heap} {locs : List Loc} (hG : kGx g s s.heap) (hS : va_S (kA g) s.heap H locs) (hU : U.heap = H) (hW : s.WarmedH U.vm) : kGx g U U.heap := by
  obtain ⟨a1, a2, a3, ⟨a4, a5, a6⟩, a7, a8, a9, a10, a11, a12, a13⟩ := hG
  have hq : ∀ a : Nat, a < s.heap.size → ¬ kA g a → U.heap[a]? = s.heap[a]? := by rw [hU]; exact hS.2.1
  have hv : s.vm.Alike U.vm := hW.alike
  exact ⟨va_K.moved hv a1, va_T.moved hv (a2.kept hq), va_T.moved hv (a3.kept hq), ⟨va_O.moved hv (a4.kept hq), va_OF.moved hv (a5.kept hq), va_OF.moved hv (a6.kept hq)⟩, va_T.moved hv (a7.kept hq), va_Z.moved hv (a8.kept hq), va_Z.moved hv (a9.kept hq), va_Z.moved hv (a10.kept hq), vk_R.warm hW a11, va_AO.moved hv a12, kg_warm hW a13⟩
theorem kGx_blind {g : kG} {U : State} (f : JFrame) (mk : MethodId) (a : Array Value) (h : kGx g U U.heap) : kGx g (U.calling f mk a) (U.calling f mk a).heap := by
  obtain ⟨a1, a2, a3, ⟨a4, a5, a6⟩, a7, a8, a9, a10, a11, a12, a13⟩ := h
  have hv : U.vm.Alike (U.calling f mk a).vm := Vm.Alike.refl U.vm
  exact ⟨va_K.moved hv a1, va_T.moved hv a2, va_T.moved hv a3, ⟨va_O.moved hv a4, va_OF.moved hv a5, va_OF.moved hv a6⟩, va_T.moved hv a7, va_Z.moved hv a8, va_Z.moved hv a9, va_Z.moved hv a10, vk_R.same (u := U) (U := U.calling f mk a) rfl a11, va_AO.moved hv a12, kg_same (u := U) (U := U.calling f mk a) rfl a13⟩
theorem kPc_blind (g : kG) (h : kH) (as : List kV) : FrameBlind (kPc g h as) := fun a U f mk q => ⟨q.1, kGx_blind f mk a q.2.1, q.2.2.1, q.2.2.2⟩
/-! locals -/
theorem sL_get {L : List (Option kV)} {i k : Nat} {v w : kV} (h : (sL L i v)[k]? = some (some w)) : (k = i ∧ w = v) ∨ (k ≠ i ∧ L[k]? = some (some w)) := by
  unfold sL at h
  split at h
  · rename_i hi
    by_cases hk : k = i
    · subst hk
      rw [List.getElem?_set_self hi] at h
      exact Or.inl ⟨rfl, (Option.some.inj (Option.some.inj h)).symm⟩
    · rw [List.getElem?_set_ne (Ne.symm hk)] at h
      exact Or.inr ⟨hk, h⟩
  · rename_i hi
    by_cases hk : k < L.length
    · rw [List.getElem?_append_left hk] at h
      exact Or.inr ⟨by omega, h⟩
    · rw [List.getElem?_append_right (by omega)] at h
      by_cases h2 : k - L.length < i - L.length
      · rw [List.getElem?_append_left (by simpa using h2), List.getElem?_replicate] at h
        simp [h2] at h
      · rw [List.getElem?_append_right (by simpa using h2)] at h
        simp only [List.length_replicate] at h
        have h3 : k - L.length - (i - L.length) < 1 := (List.getElem?_eq_some_iff.mp h).1
        have h4 : k = i := by omega
        subst h4
        rw [Nat.sub_self] at h
        exact Or.inl ⟨rfl, (Option.some.inj (Option.some.inj h)).symm⟩
def kpr (g : kG) (L : List (Option kV)) : List (Nat × Value) := (List.range L.length).filterMap fun k => match L[k]? with
  | some (some v) => some (k, kv g v)
  | _ => none
theorem kpr_in {g : kG} {L : List (Option kV)} {k : Nat} {v : kV} (h : L[k]? = some (some v)) : (k, kv g v) ∈ kpr g L :=
  List.mem_filterMap.mpr ⟨k, List.mem_range.mpr (List.getElem?_eq_some_iff.mp h).1, by simp only [h]⟩
theorem kpr_has {g : kG} {ls : Array Slot} {nL : Nat} {L : List (Option kV)} (h : kzL g ls nL L) : lv_has ls nL (kpr g L) := by
  refine ⟨h.1, h.2.1, fun q hq => ?_⟩
  obtain ⟨k, -, hk⟩ := List.mem_filterMap.mp hq
  split at hk
  · rename_i v hv
    cases hk
    exact h.2.2 k v hv
  · cases hk
theorem kz_store {g : kG} {ls : Array Slot} {nL i : Nat} {L : List (Option kV)} {v : kV} (h : lv_has ls nL ((i, kv g v) :: (kpr g L).filter (fun q => !(q.1 == i) && !(q.1 + 1 == i && q.2.category == 2)))) : kzL g ls nL (sL L i v) := by
  refine ⟨h.1, h.2.1, fun k w hk => ?_⟩
  rcases sL_get hk with ⟨rfl, rfl⟩ | ⟨hne, hL⟩
  · exact h.2.2 (k, kv g w) List.mem_cons_self
  · refine h.2.2 (k, kv g w) (List.mem_cons_of_mem _ (List.mem_filter.mpr ⟨kpr_in hL, ?_⟩))
    simp [hne, kv_cat]
theorem kz_take {g : kG} {ls : Array Slot} {nL k : Nat} {L : List (Option kV)} (h : kzL g ls nL L) : kzL g ls nL (L.take k) := by
  refine ⟨h.1, h.2.1, fun j v hj => h.2.2 j v ?_⟩
  rw [List.getElem?_take] at hj
  split at hj
  · exact hj
  · cases hj
theorem lg_len (vs : List Value) (h : ∀ v ∈ vs, v.category = 1) : (lg_sl vs).length = vs.length := by
  induction vs with
  | nil => rfl
  | cons v vs ih =>
    have h1 : v.category = 1 := h v List.mem_cons_self
    have h2 := ih fun w hw => h w (List.mem_cons_of_mem _ hw)
    simp only [lg_sl, List.flatMap_cons] at h2 ⊢
    rw [if_neg (by omega), List.length_append, h2]
    simp
    omega
theorem lv_args_in : ∀ (vs : List Value) (i k : Nat) (v : Value), (∀ w ∈ vs, w.category = 1) → vs[k]? = some v → (i + k, v) ∈ lv_args i vs
  | [], i, k, v, _, h => by simp at h
  | w :: vs, i, 0, v, _, h => by
    simp only [List.getElem?_cons_zero, Option.some.injEq] at h
    subst h
    exact List.mem_cons_self
  | w :: vs, i, k + 1, v, hc, h => by
    simp only [List.getElem?_cons_succ] at h
    have h1 : w.category = 1 := hc w List.mem_cons_self
    have h2 := lv_args_in vs (i + 1) k v (fun z hz => hc z (List.mem_cons_of_mem _ hz)) h
    unfold lv_args
    rw [if_neg (by omega)]
    rw [show i + (k + 1) = i + 1 + k by omega]
    exact List.mem_cons_of_mem _ h2
/-! the tables -/
theorem ko_k_at {own : String} {init : Bool} {ml : Nat} {B : ByteArray} {pcs : Nat → Nat} {ir : Instr} : ∀ (R : List (Nat × Nat × Nat × Nat)) (C : List Instr) (i : Nat), ko_k own init ml B pcs R C = true → C[i]? = some ir → ir ≠ .nop → ∃ q, R[i]? = some q ∧ decode B q.1 = .ok (ko_w pcs q.1 q.2.2.1 q.2.2.2 ir, q.2.2.2) ∧ ko_r own init ml q.2.1 q.2.2.1 q.2.2.2 ir = true
  | _, [], i, _, h, _ => by simp at h
  | [], _ :: _, i, h, _, _ => by simp [ko_k] at h
  | q :: r, c :: s, 0, h, e, hn' => by
    simp only [List.getElem?_cons_zero, Option.some.injEq] at e
    subst e
    simp only [ko_k, Bool.and_eq_true, Bool.or_eq_true, decide_eq_true_eq] at h
    exact ⟨q, rfl, h.1.1.resolve_left hn', h.1.2⟩
  | q :: r, c :: s, i + 1, h, e, hn' => by
    simp only [List.getElem?_cons_succ] at e ⊢
    simp only [ko_k, Bool.and_eq_true] at h
    exact ko_k_at r s i h.2 e hn'
theorem ko_p_0 {z p : Nat} {R : List (Nat × Nat × Nat × Nat)} (h : ko_p z R p = true) : kpl R z 0 = p := by
  cases R with
  | nil => simpa [ko_p, kpl] using (of_decide_eq_true h).symm
  | cons q r =>
    simp only [ko_p, Bool.and_eq_true, decide_eq_true_eq] at h
    simpa [kpl] using h.1
theorem ko_p_at {z : Nat} : ∀ (R : List (Nat × Nat × Nat × Nat)) (p i : Nat) (q : Nat × Nat × Nat × Nat), ko_p z R p = true → R[i]? = some q → kpl R z (i + 1) = q.1 + q.2.2.2
  | [], _, i, q, _, h => by simp at h
  | q0 :: r, p, 0, q, h, e => by
    simp only [List.getElem?_cons_zero, Option.some.injEq] at e
    subst e
    simp only [ko_p, Bool.and_eq_true, decide_eq_true_eq] at h
    have h1 := ko_p_0 h.2
    rw [← h.1] at h1
    simpa [kpl] using h1
  | q0 :: r, p, i + 1, q, h, e => by
    simp only [List.getElem?_cons_succ] at e
    simp only [ko_p, Bool.and_eq_true] at h
    have h1 := ko_p_at r _ i q h.2 e
    simpa [kpl] using h1
theorem kt_len : kt.length = 305 := by decide +kernel
theorem kt_in {y : Nat} (hy : y < 305) : kt.getD y kQ0 ∈ kt := by
  have h : y < kt.length := by rw [kt_len]; exact hy
  rw [List.getD_eq_getElem?_getD, List.getElem?_eq_getElem h, Option.getD_some]
  exact List.getElem_mem h
theorem ko_get {y i : Nat} {ins : Instr} (hy : y < 305) (hins : (kC y)[i]? = some ins) (hnop : ins ≠ .nop) : ∃ (pl x len : Nat), decode (kB y) (kP y i) = .ok (ko_w (kP y) (kP y i) x len ins, len) ∧ kP y (i + 1) = kP y i + len ∧ ko_r (kN y).cls (decide ((kN y).name = "<init>")) (kL y) pl x len ins = true := by
  obtain ⟨h1, h2⟩ := kf_all _ (kt_in hy)
  obtain ⟨q, hq, hd, hr⟩ := ko_k_at (kR y) (kC y) i h2 hins hnop
  have hp : kP y i = q.1 := by
    unfold kP kpl
    rw [hq]
    rfl
  refine ⟨q.2.1, q.2.2.1, q.2.2.2, ?_, ?_, hr⟩
  · rw [hp]; exact hd
  · rw [hp]; exact ko_p_at (kR y) 0 i q h1 hq
theorem kn_kinds_all : ∀ c, c < 12 → ∀ j, j < kn_N c → kr_t (kn_t c j) = true ∨ kn_t c j = .int ∨ kn_t c j = .boolean := by decide +kernel
theorem kn_kinds {c : Nat} (h : c < 12) {j : Nat} (hj : j < kn_N c) : kr_t (kn_t c j) = true ∨ kn_t c j = .int ∨ kn_t c j = .boolean := kn_kinds_all c h j hj
theorem kg_good {w : Cond} (h : w ∈ kg_T) : (w.onTables && w.keeps) = true ∨ ∃ ty, w = .arrayClass ty := good_of_word (List.mem_filter.mp h).2
theorem ko_mg {y : Nat} (hy : y < 304) : plainFor (kN y) = true ∧ ((kN y).cls ≠ "java/lang/invoke/MethodHandle" ∧ (kN y).cls ≠ "java/lang/invoke/VarHandle") ∧ Cond.code (kN y) (kB y) (kL y) (kT y) ∈ kg_T ∧ Cond.initialized (kN y).cls ∈ kg_T ∧
    ((kK y).1 = 0 → Cond.static (kN y) ∈ kg_T) ∧ ((kK y).1 = 1 → Cond.instanceMethod (kN y) ∈ kg_T ∧ Cond.selects (kN y).cls (kN y) (kN y) ∈ kg_T) ∧ ((kK y).1 = 2 → Cond.instanceMethod (kN y) ∈ kg_T ∧ (kN y).name = "<init>" ∧ kT y = none) ∧ kL y ≤ 40 ∧ kP y 0 = 0 := by
  have h := km_all _ (kt_in (y := y) (by omega))
  have hcode := ke_all _ (kt_in (y := y) (by omega))
  have h3 : (kK y).1 < 3 := of_decide_eq_true (List.all_eq_true.mp kK_lt y (List.mem_range.mpr hy))
  unfold kP kN kB kL kT kR kK at *
  generalize kt.getD y kQ0 = q at h h3 hcode ⊢
  obtain ⟨N, B, ml, rt, R, C, K, c, i, t, v⟩ := q
  dsimp only at h3 ⊢
  have hcode := hcode.resolve_left (by show ¬ K = 3; omega)
  unfold kkM2 at h
  dsimp only at h hcode
  rw [if_neg (by omega)] at h
  simp only [Bool.and_eq_true, decide_eq_true_eq] at h
  obtain ⟨⟨⟨⟨⟨⟨⟨h1, h2⟩, h3⟩, -⟩, h5⟩, h6⟩, h7⟩, h8⟩ := h
  refine ⟨kk_plain h1, ⟨h2, h3⟩, hcode, wd_in h5 rfl, fun e => ?_, fun e => ?_, fun e => ?_, h7, h8⟩
  · subst e
    exact wd_in h6 rfl
  · subst e
    simp only [Bool.and_eq_true] at h6
    refine ⟨wd_in h6.1 rfl, ?_⟩
    have h9 := h6.2
    split at h9
    · exact wd_in h9 rfl
    · have h10 := of_decide_eq_true h9
      rw [Option.map_eq_some_iff] at h10
      obtain ⟨q, hq, hq2⟩ := h10
      refine List.mem_filter.mpr ⟨List.mem_append_left _ (List.mem_map.mpr ⟨q, List.mem_of_getElem? hq, ?_⟩), rfl⟩
      rw [hq2]
  · subst e
    simp only [Bool.and_eq_true, decide_eq_true_eq] at h6
    exact ⟨wd_in h6.1.1 rfl, h6.1.2, h6.2⟩
theorem kws_good {y : Nat} (hy : y < 304) : GoodIn kg_T (kws y) := by
  intro w hw
  rcases List.mem_cons.mp hw with rfl | h
  · exact ⟨(ko_mg hy).2.2.1, kg_good (ko_mg hy).2.2.1⟩
  · exact ⟨h, kg_good h⟩
theorem krt_ok {rt : Option FieldType} {x : Int32} (h : krt rt x) : ∃ ty, rt = some ty ∧ narrow ty (.int x) = .int x := by
  unfold krt at h
  split at h
  · exact ⟨_, rfl, rfl⟩
  · rcases h with rfl | rfl <;> exact ⟨_, rfl, by decide⟩
  · rcases h with rfl | rfl <;> exact ⟨_, rfl, by decide⟩
  · obtain ⟨q, hq, rfl⟩ := h
    exact ⟨_, rfl, (pk_charN hq).1⟩
  · exact h.elim
theorem W_size {p : Program} {l : Launch} {e : Env} {R : Room} {s : State} {m : MethodId} {args : Array Value} {below : List Frame} {meth : Method} {c : Code} {H : Heap} {locs : List Loc} {cells slots : Nat} {Q : State → Prop} {f : JFrame} (k : H.size ≤ s.heap.size + cells → W p l e R s m args below meth c H locs cells slots Q f) : W p l e R s m args below meth c H locs cells slots Q f :=
  fun T hT X => k (by have := X.heapSize; rwa [hT] at this) T hT X
theorem k_size {g : kG} {h h0 : kH} {s : State} {H : Heap} {locs : List Loc} {c : Nat} (hR : kRp g h H) (hS : va_S (kA g) s.heap H locs) (h1 : s.heap.size = gb g + hn h0) (h2 : hn h = hn h0 + c) (h3 : H.size ≤ s.heap.size + c) : H.size = gb g + hn h := by
  have h4 := hS.1
  by_cases hc : c = 0
  · omega
  · have h5 := (hR.1 (hn h - 1) _ (kw_get (by omega))).lt
    have h6 := hR.2
    have h7 : ka g (hn h - 1) < H.size := h5
    rw [ka_lt (by omega)] at h7
    omega
theorem p1_ok {st : List kV} {f : Int32 → List kV → Prop} (h : p1 st f) : ∃ x r, st = .inl x :: r ∧ f x r := by
  unfold p1 at h
  split at h
  · exact ⟨_, _, rfl, h⟩
  · exact h.elim
theorem p2_ok {st : List kV} {f : Int32 → Int32 → List kV → Prop} (h : p2 st f) : ∃ x y r, st = .inl y :: .inl x :: r ∧ f x y r := by
  unfold p2 at h
  split at h
  · exact ⟨_, _, _, rfl, h⟩
  · exact h.elim
theorem pr_ok {st : List kV} {f : Nat → List kV → Prop} (h : pr st f) : ∃ a r, st = .inr (some a) :: r ∧ f a r := by
  unfold pr at h
  split at h
  · exact ⟨_, _, rfl, h⟩
  · exact h.elim
theorem lI_ok {L : List (Option kV)} {k : Nat} {f : Int32 → Prop} (h : lI L k f) : ∃ x, L[k]? = some (some (.inl x)) ∧ f x := by
  unfold lI at h
  split at h
  · rename_i x hx
    exact ⟨x, hx, h⟩
  · exact h.elim
theorem lR_ok {L : List (Option kV)} {k : Nat} {f : Option Nat → Prop} (h : lR L k f) : ∃ r, L[k]? = some (some (.inr r)) ∧ f r := by
  unfold lR at h
  split at h
  · rename_i r hr
    exact ⟨r, hr, h⟩
  · exact h.elim
/-! ONE STEP IS SOUND -/
set_option maxHeartbeats 4000000 in
theorem Ev_call {g : kG} {y z d c n : Nat} {as : List kV} {r : List kV} {h h0 : kH} {Q : Int32 → kH → Prop} {Q1 : Int32 → kH → Prop} {p : Program} {e : Env} {R : Room} {s : State} {m : MethodId} {args : Array Value} {below : List Frame} {meth : Method} {c0 : Code} {Z : State → Prop} {H : Heap} {locs : List Loc} {ls : Array Slot} {pc : Nat} {st0 : List Value}
    (hz : z < 304) (C : kCx g y (d + 1) Q p e R s m args below meth c0 h0 Z) (hR : kRp g h H) (hS : va_S (kA g) s.heap H locs) (hL : ls.size = kL y) (hc : hn h = hn h0 + c) (hsz : H.size = gb g + hn h)
    (hE : Ev g z d as h Q1)
    (hrun : ∀ (mc ms : Nat) (Pc : Array Value → State → Prop) (Qc : Array Value → State → Outcome → State → Prop), mc = (kc_c z).1 → ms = (kc_c z).2 → Met (gl g) (kN z) (kws z) (kM z d) Pc Qc mc ms (kA g) → FrameBlind Pc → (∀ U : State, U.heap = H → s.WarmedH U.vm → Pc (as.map (kv g)).toArray U) →
      va_Run p (gl g) e R s m args below meth c0 H locs c n mc ms (F0 m pc ls st0) (r.map (kv g)) (Qc (as.map (kv g)).toArray) (kA g))
    (K : ∀ (v : Int32) (h1 : kH) (H1 : Heap) (locs1 : List Loc), Q1 v h1 → kRp g h1 H1 → va_S (kA g) s.heap H1 locs1 → hn h1 = hn h0 + (c + (kc_c z).1) → W p (gl g) e R s m args below meth c0 H1 locs1 (c + (kc_c z).1) (n + (kc_c z).2) Z (F0 m (pc + 3) ls (if kT z = none then r.map (kv g) else .int v :: r.map (kv g)))) :
    W p (gl g) e R s m args below meth c0 H locs c n Z (F0 m pc ls st0) := by
  obtain ⟨hx, hb, hml, hown, hts, hnm, hrm, hG, hs0, hret⟩ := C
  have hpre : ∀ U : State, U.heap = H → s.WarmedH U.vm → kPc g h as (as.map (kv g)).toArray U := fun U hU hW => ⟨rfl, kGx_call hG hS hU hW, by rw [hU]; exact hR, by rw [hU]; exact hsz⟩
  have run := hrun _ _ _ _ rfl rfl hE (kPc_blind g h as) hpre
  cases ht : kT z with
  | none =>
    simp only [kQc, ht] at run
    refine va_callv run hS (fun q _ h => h) (fun q h => h) fun u t H1 locs1 e1 hvm hq hB hle hkeep hS1 => ?_
    have hB1 : kRp g u H1 := by rw [← e1]; exact hB.1
    have k := K 0 u H1 locs1 hq hB1 hS1 (by rw [hB.2]; omega)
    rwa [if_pos ht] at k
  | some ty =>
    simp only [kQc, ht] at run
    refine va_calli run hS (fun q _ h => h) (fun q h => h) fun v u t H1 locs1 e1 hvm hq hB hle hkeep hS1 => ?_
    have hB1 : kRp g u H1 := by rw [← e1]; exact hB.1
    have k := K v u H1 locs1 hq hB1 hS1 (by rw [hB.2]; omega)
    rwa [if_neg (by rw [ht]; exact fun q => by cases q)] at k
theorem ko_q_use {q : Nat} (h : ko_q q = true) : (parseMethodDescriptor (kN (kq_y q)).desc).map (fun d => d.parameters.length) = some (kq_n q) ∧ q % 2 = if kT (kq_y q) = none then 1 else 0 := by
  simpa [ko_q] using h
theorem kq_if {α : Type} {q : Nat} (h : q % 2 = if kT (kq_y q) = none then 1 else 0) (a b : α) : (if q % 2 = 1 then a else b) = if kT (kq_y q) = none then a else b := by
  by_cases ht : kT (kq_y q) = none
  · rw [if_pos ht] at h; rw [if_pos h, if_pos ht]
  · rw [if_neg ht] at h; rw [if_neg (by omega), if_neg ht]
theorem sw_toInt {a : Int} (h1 : -2147483648 ≤ a) (h2 : a < 2147483648) {x : Int32} (h : x.toInt = a) : x = Int32.ofInt a := by
  rw [← h, Int32.ofInt_toInt]
theorem sw_in {x : Int32} {k : Nat → Prop} : ∀ (ts : List Int) (lo : Int), swT x k ts lo → -2147483648 ≤ lo → lo + (ts.length : Int) ≤ 2147483648 → ∀ (j : Nat) (t : Int), ts[j]? = some t → x.toInt = lo + j → k t.toNat
  | [], _, _, _, _, j, t, hj, _ => by simp at hj
  | a :: r, lo, h, h1, h2, 0, t, hj, hx => by
    simp only [List.getElem?_cons_zero, Option.some.injEq] at hj
    subst hj
    simp only [List.length_cons] at h2
    exact h.1 (sw_toInt (by omega) (by omega) (by simpa using hx))
  | a :: r, lo, h, h1, h2, j + 1, t, hj, hx => by
    simp only [List.getElem?_cons_succ] at hj
    simp only [List.length_cons] at h2
    exact sw_in r (lo + 1) h.2 (by omega) (by omega) j t hj (by omega)
theorem lk_in {x : Int32} {k : Nat → Prop} {d : Prop} (P : Nat → Prop) (pcs : Nat → Nat) (pc : Nat) (dt : Int) : ∀ (ts : List (Int × Int)), lkT x k d ts → (∀ o ∈ ts, -2147483648 ≤ o.1 ∧ o.1 < 2147483648) → (∀ t, k t → P (pcs t)) → (d → P (pcs dt.toNat)) →
    ∃ tgt : Nat, (pc : Int) + Op.lookupswitch.offset (ts.map fun t => (t.1, (pcs t.2.toNat : Int) - (pc : Int))) ((pcs dt.toNat : Int) - (pc : Int)) x.toInt = (tgt : Int) ∧ P tgt
  | [], h, _, _, hd => ⟨pcs dt.toNat, by rw [List.map_nil, Op.lookupswitch.offset_nil]; omega, hd h⟩
  | a :: r, h, hb, hk, hd => by
    have hb1 := hb a List.mem_cons_self
    by_cases hx : x = Int32.ofInt a.1
    · refine ⟨pcs a.2.toNat, ?_, hk _ (h.1 hx)⟩
      have h2 : x.toInt = a.1 := by rw [hx, Int32.toInt_ofInt_of_le] <;> omega
      rw [List.map_cons, Op.lookupswitch.offset_cons, if_pos h2.symm]
      omega
    · obtain ⟨tgt, h3, h4⟩ := lk_in P pcs pc dt r (h.2 hx) (fun o ho => hb o (List.mem_cons_of_mem _ ho)) hk hd
      refine ⟨tgt, ?_, h4⟩
      have h5 : ¬ a.1 = x.toInt := fun q => hx (sw_toInt hb1.1 hb1.2 q.symm)
      rw [← h3, List.map_cons, Op.lookupswitch.offset_cons, if_neg h5]
theorem vp_lt {x : Int32} {n : Nat} (h : vp_in x n) : x.toNatClampNeg < n := Nat.not_le.mp fun q => h (Or.inr q)
theorem ken_O {g : kG} {h : kH} {a c : Nat} (e : hk h a = (0, c)) : ken g h a = .inr (c, (List.range (kn_N c)).map (fun i => kfv g h a c i)) := by
  simp only [ken, e]
theorem ken_J {g : kG} {h : kH} {a : Nat} (e : (hk h a).1 = 1) : ken g h a = .inl (gI g, kl h a, .inl (hI h a)) := by
  simp only [ken, e, kl]
theorem ken_U {g : kG} {h : kH} {a : Nat} (e : (hk h a).1 = 2) : ken g h a = .inl (gF g, kl h a, .inr (.inr (.inr (.inr (fun i => (hP h a i).map (ka g)))))) := by
  simp only [ken, e, kl]
theorem ken_fld {g : kG} {h : kH} {a c k : Nat} (hk : k < kn_N c) : ((List.range (kn_N c)).map (fun i => kfv g h a c i))[k]? = some (kfv g h a c k) := by
  rw [List.getElem?_map, List.getElem?_range hk]
  rfl
theorem ken_fset {g : kG} {h h1 : kH} {a c k : Nat} (hk : k < kn_N c) {v : Value} (e1 : kfv g h1 a c k = v) (e2 : ∀ i, i ≠ k → kfv g h1 a c i = kfv g h a c i) : ((List.range (kn_N c)).map (fun i => kfv g h a c i)).set k v = (List.range (kn_N c)).map (fun i => kfv g h1 a c i) := by
  apply List.ext_getElem?
  intro j
  by_cases hj : j = k
  · subst hj
    rw [List.getElem?_set_self (by simpa using hk), ken_fld hk, e1]
  · rw [List.getElem?_set_ne (Ne.symm hj)]
    by_cases hl : j < kn_N c
    · rw [ken_fld hl, ken_fld hl, e2 j hj]
    · rw [List.getElem?_eq_none (by simp; omega), List.getElem?_eq_none (by simp; omega)]
theorem uI_ken {g : kG} {h : kH} {a j : Nat} {x : Int32} {b : Nat} (hb : b ≠ a) : ken g (uI h a j x) b = ken g h b :=
  ken_congr rfl (by funext q; simp [uI, hI, u2, hb]) rfl
theorem uP_ken {g : kG} {h : kH} {a j : Nat} {x : Option Nat} {b : Nat} (hb : b ≠ a) : ken g (uP h a j x) b = ken g h b :=
  ken_congr rfl rfl (by funext q; simp [uP, hP, u2, hb])
/-- a store into a cell: the world behind it -/
theorem kw_st {g : kG} {h h1 : kH} {a : Nat} {e : va_E} {H1 : Heap} (ha : a < hn h) (hm : hn h ≤ 1000000) (e0 : hn h1 = hn h) (e1 : ken g h1 a = e) (e2 : ∀ b, b ≠ a → ken g h1 b = ken g h b) (hP1 : va_P (gD g) vwCl ((kw g h).set a (ka g a, e)) H1) : kRp g h1 H1 := by
  subst e1
  rw [kw_set ha e0 e2] at hP1
  exact ⟨hP1, by rw [e0]; exact hm⟩
theorem kn_prim {c k : Nat} (h : kn_t c k = .int ∨ kn_t c k = .boolean) : kr_t (kn_t c k) = false := by
  rcases h with h | h <;> rw [h] <;> rfl
theorem kr_t_cases {t : FieldType} (h : kr_t t = true) : (∃ n, t = .object n) ∨ ∃ n, t = .array n := by
  unfold kr_t at h
  split at h
  · exact Or.inl ⟨_, rfl⟩
  · exact Or.inr ⟨_, rfl⟩
  · cases h
theorem kr_fit {t : FieldType} (h : kr_t t = true) (r : Option Nat) : narrow t (va_rf r) = va_rf r ∧ fits t (va_rf r) = true := by
  rcases kr_t_cases h with ⟨n, rfl⟩ | ⟨n, rfl⟩ <;> cases r <;> exact ⟨rfl, rfl⟩
theorem kn_fresh {g : kG} {w j : Nat} (h : kH) (ty : Nat → FieldType) (hj : j < kn_N w) (hp : kr_t (ty j) = true ∨ ty j = .int ∨ ty j = .boolean) (e : ty j = kn_t w j) : defaultValue (ty j) = vp_V ((List.range (kn_N w)).map (fun i => kfv g (uN h 0 w) (hn h) w i)) j := by
  unfold vp_V
  rw [List.getD_eq_getElem?_getD, ken_fld hj, Option.getD_some]
  unfold kfv
  rcases hp with hp | hp | hp
  · rw [← e, if_pos hp]
    have h1 : hP (uN h 0 w) (hn h) j = none := by simp [uN, hP]
    rw [h1]
    rcases kr_t_cases hp with ⟨n, hn'⟩ | ⟨n, hn'⟩ <;> rw [hn'] <;> rfl
  · rw [← e, hp, if_neg (by decide)]
    have h1 : hI (uN h 0 w) (hn h) j = 0 := by simp [uN, hI]
    rw [h1]; rfl
  · rw [← e, hp, if_neg (by decide)]
    have h1 : hI (uN h 0 w) (hn h) j = 0 := by simp [uN, hI]
    rw [h1]; rfl
theorem uN_ken {g : kG} {h : kH} {t w b : Nat} (hb : b < hn h) : ken g (uN h t w) b = ken g h b := by
  have hne : b ≠ hn h := by omega
  refine ken_congr ?_ ?_ ?_
  · simp [uN, hk, hne]
  · simp [uN, hI, hne]
  · simp [uN, hP, hne]
/-- a new cell stands at the next address -/
theorem kq_new {g : kG} {h h0 : kH} {s : State} {H1 : Heap} {c q : Nat} {e : va_E} (hm : hn h < 1000000) (hP1 : va_P (gD g) vwCl (kw g h ++ [(q, e)]) H1) (hD1 : va_D (kA g) (kw g h ++ [(q, e)])) (h1 : s.heap.size = gb g + hn h0) (h2 : hn h = hn h0 + c) (h3 : H1.size ≤ s.heap.size + (c + 1)) : q = ka g (hn h) := by
  have hlen : (kw g h).length = hn h := by simp [kw]
  have hlast : (kw g h ++ [(q, e)])[hn h]? = some (q, e) := by rw [List.getElem?_append_right (by omega), hlen, Nat.sub_self]; rfl
  have a1 : q < H1.size := (hP1 (hn h) _ hlast).lt
  have a2 : gb g ≤ q := hD1.2 (hn h) _ hlast
  rw [ka_lt (by omega)]
  have a3 : ∀ j, j < hn h → q ≠ gb g + j := by
    intro j hj hq
    have hjl : (kw g h ++ [(q, e)])[j]? = some (ka g j, ken g h j) := by rw [List.getElem?_append_left (by omega)]; exact kw_get hj
    have := hD1.1 j (hn h) _ _ hjl hlast (by show ka g j = q; rw [ka_lt (by omega)]; omega)
    omega
  have a4 : q < gb g + hn h + 1 := by omega
  by_cases hq : q = gb g + hn h
  · exact hq
  · exact absurd (show q = gb g + (q - gb g) by omega) (a3 (q - gb g) (by omega))
theorem ks_cat (g : kG) (as rest : List kV) (n : Nat) (st : List kV) (h1 : as = (st.take n).reverse) (h2 : rest = st.drop n) : st.map (kv g) = (as.map (kv g)).reverse ++ rest.map (kv g) := by
  subst h1; subst h2
  rw [← List.map_reverse, List.reverse_reverse, ← List.map_append, List.take_append_drop]
