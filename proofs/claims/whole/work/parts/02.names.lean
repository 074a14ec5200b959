/-! the classes: names, fields, types; the words that are good; what the tables hold -/
def RX0 : String := "QuillDesk$Book"
def TX0 : u_T := fun k => match k with
  | 0 => ("QuillDesk$Book", "hour", "[I", true)
  | 1 => ("QuillDesk$Book", "what", "[I", true)
  | 2 => ("QuillDesk$Book", "who", "[I", true)
  | 3 => ("QuillDesk$Book", "much", "[I", true)
  | _ => ("QuillDesk$Book", "size", "I", false)
def tyX0 : Nat → FieldType := fun k => match k with
  | 0 => .array .int
  | 1 => .array .int
  | 2 => .array .int
  | 3 => .array .int
  | _ => .int
theorem nmX0 : ∀ a, a < 5 → ∀ b, b < 5 → a ≠ b → (TX0 a).2.1 ≠ (TX0 b).2.1 := by decide +kernel
theorem tyX0_ok : ∀ k, k < 5 → parseFieldDescriptor (TX0 k).2.2.1 = some (tyX0 k) := by decide +kernel
def RX1 : String := "QuillDesk$Boxes"
def TX1 : u_T := fun k => match k with
  | 0 => ("QuillDesk$Boxes", "worths", "[I", true)
  | _ => ("QuillDesk$Boxes", "known", "I", false)
def tyX1 : Nat → FieldType := fun k => match k with
  | 0 => .array .int
  | _ => .int
theorem nmX1 : ∀ a, a < 2 → ∀ b, b < 2 → a ≠ b → (TX1 a).2.1 ≠ (TX1 b).2.1 := by decide +kernel
theorem tyX1_ok : ∀ k, k < 2 → parseFieldDescriptor (TX1 k).2.2.1 = some (tyX1 k) := by decide +kernel
def RX2 : String := "QuillDesk$Desk"
def TX2 : u_T := fun k => match k with
  | 0 => ("QuillDesk$Desk", "firm", "LQuillDesk$Firm;", true)
  | 1 => ("QuillDesk$Desk", "book", "LQuillDesk$Book;", true)
  | 2 => ("QuillDesk$Desk", "law", "LQuillDesk$Law;", true)
  | 3 => ("QuillDesk$Desk", "orders", "LQuillDesk$Text;", true)
  | 4 => ("QuillDesk$Desk", "birds", "LQuillDesk$Text;", true)
  | 5 => ("QuillDesk$Desk", "after", "LQuillDesk$Text;", true)
  | 6 => ("QuillDesk$Desk", "words", "LQuillDesk$Row;", true)
  | 7 => ("QuillDesk$Desk", "stampRow", "LQuillDesk$Row;", true)
  | 8 => ("QuillDesk$Desk", "dotX", "[I", true)
  | 9 => ("QuillDesk$Desk", "dotY", "[I", true)
  | 10 => ("QuillDesk$Desk", "places", "LQuillDesk$Row;", true)
  | 11 => ("QuillDesk$Desk", "signs", "LQuillDesk$Row;", true)
  | 12 => ("QuillDesk$Desk", "legs", "LQuillDesk$Row;", true)
  | 13 => ("QuillDesk$Desk", "weights", "LQuillDesk$Row;", true)
  | _ => ("QuillDesk$Desk", "heirs", "LQuillDesk$Row;", true)
def tyX2 : Nat → FieldType := fun k => match k with
  | 0 => .object "QuillDesk$Firm"
  | 1 => .object "QuillDesk$Book"
  | 2 => .object "QuillDesk$Law"
  | 3 => .object "QuillDesk$Text"
  | 4 => .object "QuillDesk$Text"
  | 5 => .object "QuillDesk$Text"
  | 6 => .object "QuillDesk$Row"
  | 7 => .object "QuillDesk$Row"
  | 8 => .array .int
  | 9 => .array .int
  | 10 => .object "QuillDesk$Row"
  | 11 => .object "QuillDesk$Row"
  | 12 => .object "QuillDesk$Row"
  | 13 => .object "QuillDesk$Row"
  | _ => .object "QuillDesk$Row"
theorem nmX2 : ∀ a, a < 15 → ∀ b, b < 15 → a ≠ b → (TX2 a).2.1 ≠ (TX2 b).2.1 := by decide +kernel
theorem tyX2_ok : ∀ k, k < 15 → parseFieldDescriptor (TX2 k).2.2.1 = some (tyX2 k) := by decide +kernel
def RX3 : String := "QuillDesk$Firm"
def TX3 : u_T := fun k => match k with
  | 0 => ("QuillDesk$Firm", "draws", "I", false)
  | 1 => ("QuillDesk$Firm", "lifted", "I", false)
  | 2 => ("QuillDesk$Firm", "hour", "I", false)
  | 3 => ("QuillDesk$Firm", "quills", "I", false)
  | 4 => ("QuillDesk$Firm", "clerks", "I", false)
  | 5 => ("QuillDesk$Firm", "deeds", "I", false)
  | 6 => ("QuillDesk$Firm", "bird", "[I", true)
  | 7 => ("QuillDesk$Firm", "ink", "[I", true)
  | 8 => ("QuillDesk$Firm", "worn", "[I", true)
  | 9 => ("QuillDesk$Firm", "gone", "[I", true)
  | 10 => ("QuillDesk$Firm", "hand", "[I", true)
  | 11 => ("QuillDesk$Firm", "holds", "[I", true)
  | 12 => ("QuillDesk$Firm", "at", "[I", true)
  | 13 => ("QuillDesk$Firm", "blots", "[I", true)
  | 14 => ("QuillDesk$Firm", "signed", "[I", true)
  | 15 => ("QuillDesk$Firm", "length", "[I", true)
  | 16 => ("QuillDesk$Firm", "written", "[I", true)
  | _ => ("QuillDesk$Firm", "by", "[I", true)
def tyX3 : Nat → FieldType := fun k => match k with
  | 0 => .int
  | 1 => .int
  | 2 => .int
  | 3 => .int
  | 4 => .int
  | 5 => .int
  | 6 => .array .int
  | 7 => .array .int
  | 8 => .array .int
  | 9 => .array .int
  | 10 => .array .int
  | 11 => .array .int
  | 12 => .array .int
  | 13 => .array .int
  | 14 => .array .int
  | 15 => .array .int
  | 16 => .array .int
  | _ => .array .int
theorem nmX3 : ∀ a, a < 18 → ∀ b, b < 18 → a ≠ b → (TX3 a).2.1 ≠ (TX3 b).2.1 := by decide +kernel
theorem tyX3_ok : ∀ k, k < 18 → parseFieldDescriptor (TX3 k).2.2.1 = some (tyX3 k) := by decide +kernel
def RX4 : String := "QuillDesk$Law"
def TX4 : u_T := fun k => match k with
  | 0 => ("QuillDesk$Law", "lines", "LQuillDesk$Text;", true)
  | 1 => ("QuillDesk$Law", "code", "[I", true)
  | 2 => ("QuillDesk$Law", "size", "I", false)
  | 3 => ("QuillDesk$Law", "facts", "[I", true)
  | _ => ("QuillDesk$Law", "stack", "[I", true)
def tyX4 : Nat → FieldType := fun k => match k with
  | 0 => .object "QuillDesk$Text"
  | 1 => .array .int
  | 2 => .int
  | 3 => .array .int
  | _ => .array .int
theorem nmX4 : ∀ a, a < 5 → ∀ b, b < 5 → a ≠ b → (TX4 a).2.1 ≠ (TX4 b).2.1 := by decide +kernel
theorem tyX4_ok : ∀ k, k < 5 → parseFieldDescriptor (TX4 k).2.2.1 = some (tyX4 k) := by decide +kernel
def RX5 : String := "QuillDesk$Past"
def TX5 : u_T := fun k => match k with
  | 0 => ("QuillDesk$Past", "firms", "[LQuillDesk$Firm;", true)
  | 1 => ("QuillDesk$Past", "notes", "[I", true)
  | 2 => ("QuillDesk$Past", "oldest", "I", false)
  | _ => ("QuillDesk$Past", "size", "I", false)
def tyX5 : Nat → FieldType := fun k => match k with
  | 0 => .array (.object "QuillDesk$Firm")
  | 1 => .array .int
  | 2 => .int
  | _ => .int
theorem nmX5 : ∀ a, a < 4 → ∀ b, b < 4 → a ≠ b → (TX5 a).2.1 ≠ (TX5 b).2.1 := by decide +kernel
theorem tyX5_ok : ∀ k, k < 4 → parseFieldDescriptor (TX5 k).2.2.1 = some (tyX5 k) := by decide +kernel
def RX6 : String := "QuillDesk$Reader"
def TX6 : u_T := fun k => match k with
  | 0 => ("QuillDesk$Reader", "tape", "[I", true)
  | 1 => ("QuillDesk$Reader", "length", "I", false)
  | 2 => ("QuillDesk$Reader", "kinds", "[I", true)
  | 3 => ("QuillDesk$Reader", "starts", "[I", true)
  | 4 => ("QuillDesk$Reader", "tokens", "I", false)
  | 5 => ("QuillDesk$Reader", "at", "I", false)
  | 6 => ("QuillDesk$Reader", "number", "I", false)
  | 7 => ("QuillDesk$Reader", "fault", "I", false)
  | 8 => ("QuillDesk$Reader", "faultPlace", "I", false)
  | 9 => ("QuillDesk$Reader", "law", "LQuillDesk$Law;", true)
  | _ => ("QuillDesk$Reader", "lines", "LQuillDesk$Text;", true)
def tyX6 : Nat → FieldType := fun k => match k with
  | 0 => .array .int
  | 1 => .int
  | 2 => .array .int
  | 3 => .array .int
  | 4 => .int
  | 5 => .int
  | 6 => .int
  | 7 => .int
  | 8 => .int
  | 9 => .object "QuillDesk$Law"
  | _ => .object "QuillDesk$Text"
theorem nmX6 : ∀ a, a < 11 → ∀ b, b < 11 → a ≠ b → (TX6 a).2.1 ≠ (TX6 b).2.1 := by decide +kernel
theorem tyX6_ok : ∀ k, k < 11 → parseFieldDescriptor (TX6 k).2.2.1 = some (tyX6 k) := by decide +kernel
def RX7 : String := "QuillDesk$Row"
def TX7 : u_T := fun k => match k with
  | 0 => ("QuillDesk$Row", "values", "[I", true)
  | 1 => ("QuillDesk$Row", "limit", "I", true)
  | _ => ("QuillDesk$Row", "size", "I", false)
def tyX7 : Nat → FieldType := fun k => match k with
  | 0 => .array .int
  | 1 => .int
  | _ => .int
theorem nmX7 : ∀ a, a < 3 → ∀ b, b < 3 → a ≠ b → (TX7 a).2.1 ≠ (TX7 b).2.1 := by decide +kernel
theorem tyX7_ok : ∀ k, k < 3 → parseFieldDescriptor (TX7 k).2.2.1 = some (tyX7 k) := by decide +kernel
def RX8 : String := "QuillDesk$Text"
def TX8 : u_T := fun k => match k with
  | 0 => ("QuillDesk$Text", "first", "[I", true)
  | 1 => ("QuillDesk$Text", "second", "[I", true)
  | 2 => ("QuillDesk$Text", "third", "[I", true)
  | 3 => ("QuillDesk$Text", "fourth", "[I", true)
  | _ => ("QuillDesk$Text", "size", "I", false)
def tyX8 : Nat → FieldType := fun k => match k with
  | 0 => .array .int
  | 1 => .array .int
  | 2 => .array .int
  | 3 => .array .int
  | _ => .int
theorem nmX8 : ∀ a, a < 5 → ∀ b, b < 5 → a ≠ b → (TX8 a).2.1 ≠ (TX8 b).2.1 := by decide +kernel
theorem tyX8_ok : ∀ k, k < 5 → parseFieldDescriptor (TX8 k).2.2.1 = some (tyX8 k) := by decide +kernel
def RX9 : String := "QuillDesk$Thought"
def TX9 : u_T := fun k => match k with
  | 0 => ("QuillDesk$Thought", "first", "[I", true)
  | 1 => ("QuillDesk$Thought", "second", "[I", true)
  | 2 => ("QuillDesk$Thought", "third", "[I", true)
  | 3 => ("QuillDesk$Thought", "sums", "[I", true)
  | 4 => ("QuillDesk$Thought", "ring", "[I", true)
  | _ => ("QuillDesk$Thought", "pieces", "[I", true)
def tyX9 : Nat → FieldType := fun k => match k with
  | 0 => .array .int
  | 1 => .array .int
  | 2 => .array .int
  | 3 => .array .int
  | 4 => .array .int
  | _ => .array .int
theorem nmX9 : ∀ a, a < 6 → ∀ b, b < 6 → a ≠ b → (TX9 a).2.1 ≠ (TX9 b).2.1 := by decide +kernel
theorem tyX9_ok : ∀ k, k < 6 → parseFieldDescriptor (TX9 k).2.2.1 = some (tyX9 k) := by decide +kernel
def RX10 : String := "QuillDesk"
def TX10 : u_T := fun k => match k with
  | 0 => ("QuillDesk", "desk", "LQuillDesk$Desk;", true)
  | 1 => ("QuillDesk", "picture", "LQuillDesk$Desk;", true)
  | 2 => ("QuillDesk", "pictured", "Z", false)
  | 3 => ("QuillDesk", "past", "LQuillDesk$Past;", true)
  | 4 => ("QuillDesk", "mind", "LQuillDesk$Firm;", true)
  | 5 => ("QuillDesk", "reader", "LQuillDesk$Reader;", true)
  | 6 => ("QuillDesk", "thought", "LQuillDesk$Thought;", true)
  | _ => ("QuillDesk", "boxes", "LQuillDesk$Boxes;", true)
def tyX10 : Nat → FieldType := fun k => match k with
  | 0 => .object "QuillDesk$Desk"
  | 1 => .object "QuillDesk$Desk"
  | 2 => .boolean
  | 3 => .object "QuillDesk$Past"
  | 4 => .object "QuillDesk$Firm"
  | 5 => .object "QuillDesk$Reader"
  | 6 => .object "QuillDesk$Thought"
  | _ => .object "QuillDesk$Boxes"
theorem nmX10 : ∀ a, a < 8 → ∀ b, b < 8 → a ≠ b → (TX10 a).2.1 ≠ (TX10 b).2.1 := by decide +kernel
theorem tyX10_ok : ∀ k, k < 8 → parseFieldDescriptor (TX10 k).2.2.1 = some (tyX10 k) := by decide +kernel
def RX11 : String := "QuillDeskModel"
def TX11 : u_T := fun k => match k with
  | 0 => ("QuillDeskModel", "told", "I", false)
  | 1 => ("QuillDeskModel", "now", "[I", true)
  | 2 => ("QuillDeskModel", "rows", "[I", true)
  | 3 => ("QuillDeskModel", "undoable", "I", false)
  | 4 => ("QuillDeskModel", "waiting", "[I", true)
  | 5 => ("QuillDeskModel", "isThought", "Z", false)
  | 6 => ("QuillDeskModel", "quills", "I", false)
  | 7 => ("QuillDeskModel", "clerks", "I", false)
  | 8 => ("QuillDeskModel", "deeds", "I", false)
  | 9 => ("QuillDeskModel", "birdOf", "[I", true)
  | 10 => ("QuillDeskModel", "hand", "[I", true)
  | 11 => ("QuillDeskModel", "lengthOf", "[I", true)
  | 12 => ("QuillDeskModel", "book", "[I", true)
  | 13 => ("QuillDeskModel", "tape", "[I", true)
  | 14 => ("QuillDeskModel", "taped", "I", false)
  | 15 => ("QuillDeskModel", "spot", "I", false)
  | 16 => ("QuillDeskModel", "from", "I", false)
  | 17 => ("QuillDeskModel", "token", "I", false)
  | 18 => ("QuillDeskModel", "value", "I", false)
  | 19 => ("QuillDeskModel", "words", "[I", true)
  | 20 => ("QuillDeskModel", "lineMany", "[I", true)
  | 21 => ("QuillDeskModel", "lineWord", "[I", true)
  | 22 => ("QuillDeskModel", "lineFrom", "[I", true)
  | 23 => ("QuillDeskModel", "lineWhen", "[I", true)
  | 24 => ("QuillDeskModel", "lineTo", "[I", true)
  | 25 => ("QuillDeskModel", "op", "[I", true)
  | 26 => ("QuillDeskModel", "arg", "[I", true)
  | 27 => ("QuillDeskModel", "which", "I", false)
  | 28 => ("QuillDeskModel", "codes", "I", false)
  | 29 => ("QuillDeskModel", "open", "I", false)
  | 30 => ("QuillDeskModel", "pending", "[I", true)
  | 31 => ("QuillDeskModel", "pendings", "I", false)
  | 32 => ("QuillDeskModel", "readFault", "I", false)
  | 33 => ("QuillDeskModel", "readPlace", "I", false)
  | 34 => ("QuillDeskModel", "faultKind", "I", false)
  | 35 => ("QuillDeskModel", "faultPlace", "I", false)
  | 36 => ("QuillDeskModel", "orderMany", "I", false)
  | 37 => ("QuillDeskModel", "orders", "[I", true)
  | 38 => ("QuillDeskModel", "birdMany", "I", false)
  | 39 => ("QuillDeskModel", "wildOf", "[I", true)
  | 40 => ("QuillDeskModel", "fineBut", "[I", true)
  | 41 => ("QuillDeskModel", "afterMany", "I", false)
  | 42 => ("QuillDeskModel", "afterOf", "[I", true)
  | 43 => ("QuillDeskModel", "asked", "[I", true)
  | 44 => ("QuillDeskModel", "stack", "[I", true)
  | 45 => ("QuillDeskModel", "doneBy", "[I", true)
  | 46 => ("QuillDeskModel", "flockBy", "[I", true)
  | 47 => ("QuillDeskModel", "wordMany", "I", false)
  | 48 => ("QuillDeskModel", "wordLong", "[I", true)
  | 49 => ("QuillDeskModel", "raggedBy", "[I", true)
  | 50 => ("QuillDeskModel", "pageLines", "[I", true)
  | 51 => ("QuillDeskModel", "stampMany", "I", false)
  | 52 => ("QuillDeskModel", "stampOf", "[I", true)
  | 53 => ("QuillDeskModel", "canPay", "[I", true)
  | 54 => ("QuillDeskModel", "threeOf", "[I", true)
  | 55 => ("QuillDeskModel", "dotX", "[I", true)
  | 56 => ("QuillDeskModel", "dotY", "[I", true)
  | 57 => ("QuillDeskModel", "cutSet1", "I", false)
  | 58 => ("QuillDeskModel", "cutSet2", "I", false)
  | 59 => ("QuillDeskModel", "cutMany", "I", false)
  | 60 => ("QuillDeskModel", "cutAt", "[I", true)
  | 61 => ("QuillDeskModel", "plankBy", "[I", true)
  | 62 => ("QuillDeskModel", "signMany", "I", false)
  | 63 => ("QuillDeskModel", "signOf", "[I", true)
  | 64 => ("QuillDeskModel", "legMany", "I", false)
  | 65 => ("QuillDeskModel", "legs", "[I", true)
  | 66 => ("QuillDeskModel", "weightMany", "I", false)
  | 67 => ("QuillDeskModel", "weights", "[I", true)
  | 68 => ("QuillDeskModel", "birdsLeft", "[I", true)
  | 69 => ("QuillDeskModel", "heirMany", "I", false)
  | 70 => ("QuillDeskModel", "heirs", "[I", true)
  | 71 => ("QuillDeskModel", "moreBy", "[I", true)
  | 72 => ("QuillDeskModel", "isTaking", "Z", false)
  | 73 => ("QuillDeskModel", "hasImage", "Z", false)
  | 74 => ("QuillDeskModel", "keptAt", "I", false)
  | _ => ("QuillDeskModel", "images", "[I", true)
def tyX11 : Nat → FieldType := fun k => match k with
  | 0 => .int
  | 1 => .array .int
  | 2 => .array .int
  | 3 => .int
  | 4 => .array .int
  | 5 => .boolean
  | 6 => .int
  | 7 => .int
  | 8 => .int
  | 9 => .array .int
  | 10 => .array .int
  | 11 => .array .int
  | 12 => .array .int
  | 13 => .array .int
  | 14 => .int
  | 15 => .int
  | 16 => .int
  | 17 => .int
  | 18 => .int
  | 19 => .array .int
  | 20 => .array .int
  | 21 => .array .int
  | 22 => .array .int
  | 23 => .array .int
  | 24 => .array .int
  | 25 => .array .int
  | 26 => .array .int
  | 27 => .int
  | 28 => .int
  | 29 => .int
  | 30 => .array .int
  | 31 => .int
  | 32 => .int
  | 33 => .int
  | 34 => .int
  | 35 => .int
  | 36 => .int
  | 37 => .array .int
  | 38 => .int
  | 39 => .array .int
  | 40 => .array .int
  | 41 => .int
  | 42 => .array .int
  | 43 => .array .int
  | 44 => .array .int
  | 45 => .array .int
  | 46 => .array .int
  | 47 => .int
  | 48 => .array .int
  | 49 => .array .int
  | 50 => .array .int
  | 51 => .int
  | 52 => .array .int
  | 53 => .array .int
  | 54 => .array .int
  | 55 => .array .int
  | 56 => .array .int
  | 57 => .int
  | 58 => .int
  | 59 => .int
  | 60 => .array .int
  | 61 => .array .int
  | 62 => .int
  | 63 => .array .int
  | 64 => .int
  | 65 => .array .int
  | 66 => .int
  | 67 => .array .int
  | 68 => .array .int
  | 69 => .int
  | 70 => .array .int
  | 71 => .array .int
  | 72 => .boolean
  | 73 => .boolean
  | 74 => .int
  | _ => .array .int
theorem nmX11 : ∀ a, a < 76 → ∀ b, b < 76 → a ≠ b → (TX11 a).2.1 ≠ (TX11 b).2.1 := by decide +kernel
theorem tyX11_ok : ∀ k, k < 76 → parseFieldDescriptor (TX11 k).2.2.1 = some (tyX11 k) := by decide +kernel
def kg_T : List Cond := lw_tbl.filter goodWord
def wd (pl : Nat) (w : Cond) : Bool := decide (tables_1[pl]? = some w)
theorem wd_in {pl : Nat} {w : Cond} (h : wd pl w = true) (hg : goodWord w = true) : w ∈ kg_T := by
  have h1 : tables_1[pl]? = some w := of_decide_eq_true h
  have h2 : w ∈ tables_1 := List.mem_of_getElem? h1
  exact List.mem_filter.mpr ⟨List.mem_append_right _ h2, hg⟩
theorem wd_lay {C : String} {T : u_T} {N : Nat} (pls : List Nat) (h : ((List.range N).all fun k => wd (pls.getD k 0) (u_lay C T k)) = true) (hg : ((List.range N).all fun k => goodWord (u_lay C T k)) = true) : ∀ w ∈ u_ws C T N, w ∈ kg_T := by
  intro w hw
  obtain ⟨k, hk, rfl⟩ := List.mem_map.mp hw
  exact wd_in (List.all_eq_true.mp h k hk) (List.all_eq_true.mp hg k hk)
theorem inX0 : ∀ w ∈ u_ws RX0 TX0 5, w ∈ kg_T := wd_lay [148, 150, 152, 154, 156] (by decide +kernel) (by decide +kernel)
theorem inX1 : ∀ w ∈ u_ws RX1 TX1 2, w ∈ kg_T := wd_lay [411, 413] (by decide +kernel) (by decide +kernel)
theorem inX2 : ∀ w ∈ u_ws RX2 TX2 15, w ∈ kg_T := wd_lay [272, 274, 276, 278, 280, 282, 284, 286, 288, 290, 292, 294, 296, 298, 300] (by decide +kernel) (by decide +kernel)
theorem inX3 : ∀ w ∈ u_ws RX3 TX3 18, w ∈ kg_T := wd_lay [93, 95, 97, 99, 101, 103, 105, 107, 109, 111, 113, 115, 117, 119, 121, 123, 125, 127] (by decide +kernel) (by decide +kernel)
theorem inX4 : ∀ w ∈ u_ws RX4 TX4 5, w ∈ kg_T := wd_lay [207, 209, 211, 213, 215] (by decide +kernel) (by decide +kernel)
theorem inX5 : ∀ w ∈ u_ws RX5 TX5 4, w ∈ kg_T := wd_lay [317, 319, 321, 323] (by decide +kernel) (by decide +kernel)
theorem inX6 : ∀ w ∈ u_ws RX6 TX6 11, w ∈ kg_T := wd_lay [354, 356, 358, 360, 362, 364, 366, 368, 370, 372, 374] (by decide +kernel) (by decide +kernel)
theorem inX7 : ∀ w ∈ u_ws RX7 TX7 3, w ∈ kg_T := wd_lay [235, 237, 239] (by decide +kernel) (by decide +kernel)
theorem inX8 : ∀ w ∈ u_ws RX8 TX8 5, w ∈ kg_T := wd_lay [188, 190, 192, 194, 196] (by decide +kernel) (by decide +kernel)
theorem inX9 : ∀ w ∈ u_ws RX9 TX9 6, w ∈ kg_T := wd_lay [390, 392, 394, 396, 398, 400] (by decide +kernel) (by decide +kernel)
theorem inX10 : ∀ w ∈ u_ws RX10 TX10 8, w ∈ kg_T := wd_lay [424, 426, 428, 430, 432, 434, 436, 438] (by decide +kernel) (by decide +kernel)
theorem inX11 : ∀ w ∈ u_ws RX11 TX11 76, w ∈ kg_T := wd_lay [1201, 1203, 1205, 1207, 1209, 1211, 1213, 1215, 1217, 1219, 1221, 1223, 1225, 1227, 1229, 1231, 1233, 1235, 1237, 1239, 1241, 1243, 1245, 1247, 1249, 1251, 1253, 1255, 1257, 1259, 1261, 1263, 1265, 1267, 1269, 1271, 1273, 1275, 1277, 1279, 1281, 1283, 1285, 1287, 1289, 1291, 1293, 1295, 1297, 1299, 1301, 1303, 1305, 1307, 1309, 1311, 1313, 1315, 1317, 1319, 1321, 1323, 1325, 1327, 1329, 1331, 1333, 1335, 1337, 1339, 1341, 1343, 1345, 1347, 1349, 1351] (by decide +kernel) (by decide +kernel)
abbrev vwCl : List vw_C := [(RX0, TX0, 5), (RX1, TX1, 2), (RX2, TX2, 15), (RX3, TX3, 18), (RX4, TX4, 5), (RX5, TX5, 4), (RX6, TX6, 11), (RX7, TX7, 3), (RX8, TX8, 5), (RX9, TX9, 6), (RX10, TX10, 8), (RX11, TX11, 76)]
/-- class number to its number of fields, its name, its fields, their types -/
def kn_N (c : Nat) : Nat := ([5, 2, 15, 18, 5, 4, 11, 3, 5, 6, 8, 76] : List Nat).getD c 0
def kn_R (c : Nat) : String := match c with
  | 0 => RX0
  | 1 => RX1
  | 2 => RX2
  | 3 => RX3
  | 4 => RX4
  | 5 => RX5
  | 6 => RX6
  | 7 => RX7
  | 8 => RX8
  | 9 => RX9
  | 10 => RX10
  | 11 => RX11
  | _ => ""
def kn_F (c : Nat) : u_T := match c with
  | 0 => TX0
  | 1 => TX1
  | 2 => TX2
  | 3 => TX3
  | 4 => TX4
  | 5 => TX5
  | 6 => TX6
  | 7 => TX7
  | 8 => TX8
  | 9 => TX9
  | 10 => TX10
  | _ => TX11
def kn_t (c : Nat) : Nat → FieldType := match c with
  | 0 => tyX0
  | 1 => tyX1
  | 2 => tyX2
  | 3 => tyX3
  | 4 => tyX4
  | 5 => tyX5
  | 6 => tyX6
  | 7 => tyX7
  | 8 => tyX8
  | 9 => tyX9
  | 10 => tyX10
  | _ => tyX11
theorem kn_cl {c : Nat} (h : c < 12) : vwCl[c]? = some (kn_R c, kn_F c, kn_N c) := by
  match c, h with
  | 0, _ => rfl
  | 1, _ => rfl
  | 2, _ => rfl
  | 3, _ => rfl
  | 4, _ => rfl
  | 5, _ => rfl
  | 6, _ => rfl
  | 7, _ => rfl
  | 8, _ => rfl
  | 9, _ => rfl
  | 10, _ => rfl
  | 11, _ => rfl
  | n + 12, h => omega
theorem kn_in {c : Nat} (h : c < 12) : ∀ w ∈ u_ws (kn_R c) (kn_F c) (kn_N c), w ∈ kg_T := by
  match c, h with
  | 0, _ => exact inX0
  | 1, _ => exact inX1
  | 2, _ => exact inX2
  | 3, _ => exact inX3
  | 4, _ => exact inX4
  | 5, _ => exact inX5
  | 6, _ => exact inX6
  | 7, _ => exact inX7
  | 8, _ => exact inX8
  | 9, _ => exact inX9
  | 10, _ => exact inX10
  | 11, _ => exact inX11
  | n + 12, h => omega
theorem kn_nm {c : Nat} (h : c < 12) : ∀ a, a < kn_N c → ∀ b, b < kn_N c → a ≠ b → (kn_F c a).2.1 ≠ (kn_F c b).2.1 := by
  match c, h with
  | 0, _ => exact nmX0
  | 1, _ => exact nmX1
  | 2, _ => exact nmX2
  | 3, _ => exact nmX3
  | 4, _ => exact nmX4
  | 5, _ => exact nmX5
  | 6, _ => exact nmX6
  | 7, _ => exact nmX7
  | 8, _ => exact nmX8
  | 9, _ => exact nmX9
  | 10, _ => exact nmX10
  | 11, _ => exact nmX11
  | n + 12, h => omega
theorem kn_ty {c : Nat} (h : c < 12) : ∀ k, k < kn_N c → parseFieldDescriptor (kn_F c k).2.2.1 = some (kn_t c k) := by
  match c, h with
  | 0, _ => exact tyX0_ok
  | 1, _ => exact tyX1_ok
  | 2, _ => exact tyX2_ok
  | 3, _ => exact tyX3_ok
  | 4, _ => exact tyX4_ok
  | 5, _ => exact tyX5_ok
  | 6, _ => exact tyX6_ok
  | 7, _ => exact tyX7_ok
  | 8, _ => exact tyX8_ok
  | 9, _ => exact tyX9_ok
  | 10, _ => exact tyX10_ok
  | 11, _ => exact tyX11_ok
  | n + 12, h => omega
