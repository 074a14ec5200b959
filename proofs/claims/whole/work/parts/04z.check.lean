def kkQ (q : kQ) : Prop := ko_p q.2.1.size q.2.2.2.2.1 0 = true ∧ ko_k q.1.cls (decide (q.1.name = "<init>")) q.2.2.1 q.2.1 (kpl q.2.2.2.2.1 q.2.1.size) q.2.2.2.2.1 q.2.2.2.2.2.1 = true
def kk_fd : List String := ["(D)D", "(DD)D", "(DDD)D", "(F)F", "(FF)F", "(FFF)F"]
/-- no entry of the machine's own runs in its place -/
def kk_pl (N : MethodName) : Bool := plainName N.cls || (decide (N.cls = "java/lang/Math") && !(kk_fd.contains N.desc))
theorem kk_rows : (Jvm.natives.all fun r => decide (r.cls = "java/lang/Math") == false || kk_fd.contains r.desc) = true := by decide +kernel
theorem kk_plain {N : MethodName} (h : kk_pl N = true) : plainFor N = true := by
  unfold kk_pl at h
  rw [Bool.or_eq_true] at h
  rcases h with h | h
  · exact plainFor_of_name h
  · simp only [Bool.and_eq_true, decide_eq_true_eq, Bool.not_eq_true'] at h
    unfold plainFor
    rw [Bool.or_eq_true]
    refine Or.inr ?_
    rw [Option.isNone_iff_eq_none, NativeRow.find?, List.find?_eq_none]
    intro r hr e
    have q := List.all_eq_true.mp kk_rows r hr
    simp only [Bool.and_eq_true, beq_iff_eq] at e
    simp [e.1.1, e.1.2, e.2, h.1] at q
    exact (by simpa using h.2 : ¬ N.desc ∈ kk_fd) q
def kkM2 (q : kQ) : Bool := match q with
  | (N, B, ml, rt, R, _, K, c, i, t, v) => if K = 3 then true else
  kk_pl N && decide (N.cls ≠ "java/lang/invoke/MethodHandle") && decide (N.cls ≠ "java/lang/invoke/VarHandle") &&
  decide (c = c) && wd i (Cond.initialized N.cls) &&
  (match K with
   | 0 => wd t (Cond.static N)
   | 1 => wd t (Cond.instanceMethod N) && (if v < 100000 then wd v (Cond.selects N.cls N N) else decide ((lw_privs[v - 100000]?).map (fun q => q.1) = some N))
   | 2 => wd t (Cond.instanceMethod N) && decide (N.name = "<init>") && decide (rt = none)
   | _ => false) && decide (ml ≤ 40) && decide (kpl R B.size 0 = 0)

theorem wc_in {w : Cond} (h : w ∈ tables_1) (hg : goodWord w = true) : w ∈ kg_T := List.mem_filter.mpr ⟨List.mem_append_right _ h, hg⟩
theorem wc_1 {w : Cond} {i : Nat} (h : tables_1_1[i]? = some w) (hg : goodWord w = true) : w ∈ kg_T := wc_in (List.mem_append_left _ (List.mem_of_getElem? h)) hg
theorem wc_2 {w : Cond} {i : Nat} (h : tables_1_2[i]? = some w) (hg : goodWord w = true) : w ∈ kg_T := wc_in (List.mem_append_right _ (List.mem_append_left _ (List.mem_of_getElem? h))) hg
theorem wc_3 {w : Cond} {i : Nat} (h : tables_1_3[i]? = some w) (hg : goodWord w = true) : w ∈ kg_T := wc_in (List.mem_append_right _ (List.mem_append_right _ (List.mem_append_left _ (List.mem_of_getElem? h)))) hg
theorem wc_4 {w : Cond} {i : Nat} (h : tables_1_4[i]? = some w) (hg : goodWord w = true) : w ∈ kg_T := wc_in (List.mem_append_right _ (List.mem_append_right _ (List.mem_append_right _ (List.mem_append_left _ (List.mem_of_getElem? h))))) hg
theorem wc_5 {w : Cond} {i : Nat} (h : tables_1_5[i]? = some w) (hg : goodWord w = true) : w ∈ kg_T := wc_in (List.mem_append_right _ (List.mem_append_right _ (List.mem_append_right _ (List.mem_append_right _ (List.mem_append_left _ (List.mem_of_getElem? h)))))) hg
theorem wc_6 {w : Cond} {i : Nat} (h : tables_1_6[i]? = some w) (hg : goodWord w = true) : w ∈ kg_T := wc_in (List.mem_append_right _ (List.mem_append_right _ (List.mem_append_right _ (List.mem_append_right _ (List.mem_append_right _ (List.mem_append_left _ (List.mem_of_getElem? h))))))) hg
theorem wc_7 {w : Cond} {i : Nat} (h : tables_1_7[i]? = some w) (hg : goodWord w = true) : w ∈ kg_T := wc_in (List.mem_append_right _ (List.mem_append_right _ (List.mem_append_right _ (List.mem_append_right _ (List.mem_append_right _ (List.mem_append_right _ (List.mem_append_left _ (List.mem_of_getElem? h)))))))) hg
theorem wc_8 {w : Cond} {i : Nat} (h : tables_1_8[i]? = some w) (hg : goodWord w = true) : w ∈ kg_T := wc_in (List.mem_append_right _ (List.mem_append_right _ (List.mem_append_right _ (List.mem_append_right _ (List.mem_append_right _ (List.mem_append_right _ (List.mem_append_right _ (List.mem_of_getElem? h)))))))) hg
theorem kd_0 : Cond.code ⟨"QuillDesk$Book", "<init>", "()V"⟩ prog_2_method_1_code 1 (none) ∈ kg_T := wc_1 (i := 135) rfl rfl
theorem kd_1 : Cond.code ⟨"QuillDesk$Book", "add", "(IIII)V"⟩ prog_2_method_2_code 5 (none) ∈ kg_T := wc_3 (i := 123) rfl rfl
theorem kd_2 : Cond.code ⟨"QuillDesk$Book", "copyFrom", "(LQuillDesk$Book;)V"⟩ prog_2_method_3_code 2 (none) ∈ kg_T := wc_5 (i := 144) rfl rfl
theorem kd_3 : Cond.code ⟨"QuillDesk$Boxes", "<init>", "()V"⟩ prog_3_method_1_code 1 (none) ∈ kg_T := wc_2 (i := 167) rfl rfl
theorem kd_4 : Cond.code ⟨"QuillDesk$Boxes", "worth", "(I)I"⟩ prog_3_method_2_code 5 (some .int) ∈ kg_T := wc_5 (i := 107) rfl rfl
theorem kd_5 : Cond.code ⟨"QuillDesk$Boxes", "bestLine", "(I)I"⟩ prog_3_method_3_code 4 (some .int) ∈ kg_T := wc_5 (i := 122) rfl rfl
theorem kd_6 : Cond.code ⟨"QuillDesk$Boxes", "worthOfDrawing", "(II)I"⟩ prog_3_method_4_code 5 (some .int) ∈ kg_T := wc_5 (i := 112) rfl rfl
theorem kd_7 : Cond.code ⟨"QuillDesk$Boxes", "countClosed", "(I)I"⟩ prog_3_method_5_code 3 (some .int) ∈ kg_T := wc_5 (i := 115) rfl rfl
theorem kd_8 : Cond.code ⟨"QuillDesk$Desk", "<init>", "()V"⟩ prog_4_method_1_code 1 (none) ∈ kg_T := wc_1 (i := 32) rfl rfl
theorem kd_9 : Cond.code ⟨"QuillDesk$Desk", "copyFrom", "(LQuillDesk$Desk;)V"⟩ prog_4_method_2_code 2 (none) ∈ kg_T := wc_5 (i := 139) rfl rfl
theorem kd_10 : Cond.code ⟨"QuillDesk$Desk", "wildness", "(I)I"⟩ prog_4_method_3_code 3 (some .int) ∈ kg_T := wc_3 (i := 77) rfl rfl
theorem kd_11 : Cond.code ⟨"QuillDesk$Desk", "fineness", "(I)I"⟩ prog_4_method_4_code 3 (some .int) ∈ kg_T := wc_3 (i := 81) rfl rfl
theorem kd_12 : Cond.code ⟨"QuillDesk$Desk", "deedsBefore", "(I)I"⟩ prog_4_method_5_code 4 (some .int) ∈ kg_T := wc_3 (i := 57) rfl rfl
theorem kd_13 : Cond.code ⟨"QuillDesk$Desk", "canBeWritten", "(LQuillDesk$Firm;I)Z"⟩ prog_4_method_6_code 3 (some .boolean) ∈ kg_T := wc_3 (i := 49) rfl rfl
theorem kd_14 : Cond.code ⟨"QuillDesk$Desk", "ask", "(LQuillDesk$Firm;II)I"⟩ prog_4_method_7_code 5 (some .int) ∈ kg_T := wc_3 (i := 65) rfl rfl
theorem kd_15 : Cond.code ⟨"QuillDesk$Desk", "learn", "(LQuillDesk$Firm;I)V"⟩ prog_4_method_8_code 5 (none) ∈ kg_T := wc_3 (i := 69) rfl rfl
theorem kd_16 : Cond.code ⟨"QuillDesk$Desk", "passHour", "(LQuillDesk$Firm;Z)I"⟩ prog_4_method_9_code 5 (some .int) ∈ kg_T := wc_3 (i := 36) rfl rfl
theorem kd_17 : Cond.code ⟨"QuillDesk$Desk", "takeTurn", "(LQuillDesk$Firm;IZ)I"⟩ prog_4_method_10_code 7 (some .int) ∈ kg_T := wc_3 (i := 42) rfl rfl
theorem kd_18 : Cond.code ⟨"QuillDesk$Desk", "note", "(LQuillDesk$Firm;IIIZ)V"⟩ prog_4_method_11_code 6 (none) ∈ kg_T := wc_3 (i := 119) rfl rfl
theorem kd_19 : Cond.code ⟨"QuillDesk$Desk", "soonest", "(I[II)I"⟩ prog_4_method_12_code 10 (some .int) ∈ kg_T := wc_4 (i := 138) rfl rfl
theorem kd_20 : Cond.code ⟨"QuillDesk$Firm", "<init>", "()V"⟩ prog_5_method_1_code 1 (none) ∈ kg_T := wc_1 (i := 38) rfl rfl
theorem kd_21 : Cond.code ⟨"QuillDesk$Firm", "copyFrom", "(LQuillDesk$Firm;)V"⟩ prog_5_method_2_code 2 (none) ∈ kg_T := wc_3 (i := 21) rfl rfl
theorem kd_22 : Cond.code ⟨"QuillDesk$Firm", "hasQuill", "(I)Z"⟩ prog_5_method_3_code 2 (some .boolean) ∈ kg_T := wc_2 (i := 231) rfl rfl
theorem kd_23 : Cond.code ⟨"QuillDesk$Firm", "hasClerk", "(I)Z"⟩ prog_5_method_4_code 2 (some .boolean) ∈ kg_T := wc_2 (i := 235) rfl rfl
theorem kd_24 : Cond.code ⟨"QuillDesk$Firm", "hasDeed", "(I)Z"⟩ prog_5_method_5_code 2 (some .boolean) ∈ kg_T := wc_3 (i := 13) rfl rfl
theorem kd_25 : Cond.code ⟨"QuillDesk$Firm", "isDone", "(I)Z"⟩ prog_5_method_6_code 2 (some .boolean) ∈ kg_T := wc_3 (i := 53) rfl rfl
theorem kd_26 : Cond.code ⟨"QuillDesk$Firm", "linesLeft", "(I)I"⟩ prog_5_method_7_code 2 (some .int) ∈ kg_T := wc_3 (i := 85) rfl rfl
theorem kd_27 : Cond.code ⟨"QuillDesk$Firm", "holder", "(I)I"⟩ prog_5_method_8_code 3 (some .int) ∈ kg_T := wc_3 (i := 9) rfl rfl
theorem kd_28 : Cond.code ⟨"QuillDesk$Firm", "doneSet", "()I"⟩ prog_5_method_9_code 3 (some .int) ∈ kg_T := wc_3 (i := 61) rfl rfl
theorem kd_29 : Cond.code ⟨"QuillDesk$Firm", "clerksAt", "(I)I"⟩ prog_5_method_10_code 4 (some .int) ∈ kg_T := wc_4 (i := 101) rfl rfl
theorem kd_30 : Cond.code ⟨"QuillDesk$Firm", "allWritten", "()I"⟩ prog_5_method_11_code 3 (some .int) ∈ kg_T := wc_4 (i := 114) rfl rfl
theorem kd_31 : Cond.code ⟨"QuillDesk$Firm", "allBlots", "()I"⟩ prog_5_method_12_code 3 (some .int) ∈ kg_T := wc_4 (i := 118) rfl rfl
theorem kd_32 : Cond.code ⟨"QuillDesk$Firm", "canAct", "(III)Z"⟩ prog_5_method_13_code 5 (some .boolean) ∈ kg_T := wc_3 (i := 3) rfl rfl
theorem kd_33 : Cond.code ⟨"QuillDesk$Firm", "doAct", "(III)V"⟩ prog_5_method_14_code 5 (none) ∈ kg_T := wc_3 (i := 28) rfl rfl
theorem kd_34 : Cond.code ⟨"QuillDesk$Firm", "draw", "(I)I"⟩ prog_5_method_15_code 2 (some .int) ∈ kg_T := wc_3 (i := 113) rfl rfl
theorem kd_35 : Cond.code ⟨"QuillDesk$Firm", "falls", "(IZ)Z"⟩ prog_5_method_16_code 3 (some .boolean) ∈ kg_T := wc_3 (i := 109) rfl rfl
theorem kd_36 : Cond.code ⟨"QuillDesk$Firm", "wear", "(I)V"⟩ prog_5_method_17_code 2 (none) ∈ kg_T := wc_3 (i := 127) rfl rfl
theorem kd_37 : Cond.code ⟨"QuillDesk$Firm", "finish", "(II)V"⟩ prog_5_method_18_code 4 (none) ∈ kg_T := wc_3 (i := 131) rfl rfl
theorem kd_38 : Cond.code ⟨"QuillDesk$Law", "<init>", "()V"⟩ prog_6_method_1_code 1 (none) ∈ kg_T := wc_1 (i := 163) rfl rfl
theorem kd_39 : Cond.code ⟨"QuillDesk$Law", "copyFrom", "(LQuillDesk$Law;)V"⟩ prog_6_method_2_code 2 (none) ∈ kg_T := wc_4 (i := 66) rfl rfl
theorem kd_40 : Cond.code ⟨"QuillDesk$Law", "clear", "()V"⟩ prog_6_method_3_code 1 (none) ∈ kg_T := wc_3 (i := 235) rfl rfl
theorem kd_41 : Cond.code ⟨"QuillDesk$Law", "put", "(I)V"⟩ prog_6_method_4_code 2 (none) ∈ kg_T := wc_4 (i := 23) rfl rfl
theorem kd_42 : Cond.code ⟨"QuillDesk$Law", "fact", "(I)I"⟩ prog_6_method_5_code 3 (some .int) ∈ kg_T := wc_3 (i := 103) rfl rfl
theorem kd_43 : Cond.code ⟨"QuillDesk$Law", "know", "(II)V"⟩ prog_6_method_6_code 4 (none) ∈ kg_T := wc_3 (i := 73) rfl rfl
theorem kd_44 : Cond.code ⟨"QuillDesk$Law", "tell", "(I)I"⟩ prog_6_method_7_code 5 (some .int) ∈ kg_T := wc_3 (i := 89) rfl rfl
theorem kd_45 : Cond.code ⟨"QuillDesk$Law", "work", "(II)I"⟩ prog_6_method_8_code 6 (some .int) ∈ kg_T := wc_3 (i := 93) rfl rfl
theorem kd_46 : Cond.code ⟨"QuillDesk$Law", "join", "(III)I"⟩ prog_6_method_9_code 3 (some .int) ∈ kg_T := wc_3 (i := 99) rfl rfl
theorem kd_47 : Cond.code ⟨"QuillDesk$Past", "<init>", "()V"⟩ prog_7_method_1_code 2 (none) ∈ kg_T := wc_2 (i := 67) rfl rfl
theorem kd_48 : Cond.code ⟨"QuillDesk$Past", "keep", "(LQuillDesk$Firm;I)V"⟩ prog_7_method_2_code 4 (none) ∈ kg_T := wc_3 (i := 17) rfl rfl
theorem kd_49 : Cond.code ⟨"QuillDesk$Past", "goBack", "(LQuillDesk$Firm;LQuillDesk$Book;)Z"⟩ prog_7_method_3_code 4 (some .boolean) ∈ kg_T := wc_5 (i := 131) rfl rfl
theorem kd_50 : Cond.code ⟨"QuillDesk$Past", "forget", "()V"⟩ prog_7_method_4_code 1 (none) ∈ kg_T := wc_2 (i := 208) rfl rfl
theorem kd_51 : Cond.code ⟨"QuillDesk$Reader", "<init>", "()V"⟩ prog_8_method_1_code 1 (none) ∈ kg_T := wc_2 (i := 92) rfl rfl
theorem kd_52 : Cond.code ⟨"QuillDesk$Reader", "append", "(I)V"⟩ prog_8_method_2_code 3 (none) ∈ kg_T := wc_3 (i := 139) rfl rfl
theorem kd_53 : Cond.code ⟨"QuillDesk$Reader", "understand", "(ILQuillDesk$Firm;)Z"⟩ prog_8_method_3_code 4 (some .boolean) ∈ kg_T := wc_3 (i := 151) rfl rfl
theorem kd_54 : Cond.code ⟨"QuillDesk$Reader", "beginsLine", "(I)Z"⟩ prog_8_method_4_code 3 (some .boolean) ∈ kg_T := wc_4 (i := 3) rfl rfl
theorem kd_55 : Cond.code ⟨"QuillDesk$Reader", "cutTokens", "()V"⟩ prog_8_method_5_code 2 (none) ∈ kg_T := wc_3 (i := 156) rfl rfl
theorem kd_56 : Cond.code ⟨"QuillDesk$Reader", "goesOn", "(I)Z"⟩ prog_8_method_6_code 2 (some .boolean) ∈ kg_T := wc_3 (i := 160) rfl rfl
theorem kd_57 : Cond.code ⟨"QuillDesk$Reader", "kindAt", "(I)I"⟩ prog_8_method_7_code 2 (some .int) ∈ kg_T := wc_3 (i := 170) rfl rfl
theorem kd_58 : Cond.code ⟨"QuillDesk$Reader", "numberAt", "(I)I"⟩ prog_8_method_8_code 4 (some .int) ∈ kg_T := wc_3 (i := 231) rfl rfl
theorem kd_59 : Cond.code ⟨"QuillDesk$Reader", "wordAt", "(I)I"⟩ prog_8_method_9_code 6 (some .int) ∈ kg_T := wc_3 (i := 174) rfl rfl
theorem kd_60 : Cond.code ⟨"QuillDesk$Reader", "isSame", "(III)Z"⟩ prog_8_method_10_code 5 (some .boolean) ∈ kg_T := wc_3 (i := 227) rfl rfl
theorem kd_61 : Cond.code ⟨"QuillDesk$Reader", "isLetter", "(I)Z"⟩ prog_8_method_11_code 1 (some .boolean) ∈ kg_T := wc_3 (i := 163) rfl rfl
theorem kd_62 : Cond.code ⟨"QuillDesk$Reader", "isDigit", "(I)Z"⟩ prog_8_method_12_code 1 (some .boolean) ∈ kg_T := wc_3 (i := 166) rfl rfl
theorem kd_63 : Cond.code ⟨"QuillDesk$Reader", "token", "()I"⟩ prog_8_method_13_code 1 (some .int) ∈ kg_T := wc_3 (i := 239) rfl rfl
theorem kd_64 : Cond.code ⟨"QuillDesk$Reader", "refuse", "(I)Z"⟩ prog_8_method_14_code 2 (some .boolean) ∈ kg_T := wc_4 (i := 7) rfl rfl
theorem kd_65 : Cond.code ⟨"QuillDesk$Reader", "expect", "(I)Z"⟩ prog_8_method_15_code 2 (some .boolean) ∈ kg_T := wc_4 (i := 39) rfl rfl
theorem kd_66 : Cond.code ⟨"QuillDesk$Reader", "expectNumber", "(I)Z"⟩ prog_8_method_16_code 3 (some .boolean) ∈ kg_T := wc_4 (i := 51) rfl rfl
theorem kd_67 : Cond.code ⟨"QuillDesk$Reader", "orderLine", "(LQuillDesk$Firm;)Z"⟩ prog_8_method_17_code 6 (some .boolean) ∈ kg_T := wc_4 (i := 47) rfl rfl
theorem kd_68 : Cond.code ⟨"QuillDesk$Reader", "actOf", "(I)I"⟩ prog_8_method_18_code 1 (some .int) ∈ kg_T := wc_4 (i := 54) rfl rfl
theorem kd_69 : Cond.code ⟨"QuillDesk$Reader", "birdLine", "()Z"⟩ prog_8_method_19_code 3 (some .boolean) ∈ kg_T := wc_4 (i := 58) rfl rfl
theorem kd_70 : Cond.code ⟨"QuillDesk$Reader", "afterLine", "(LQuillDesk$Firm;)Z"⟩ prog_8_method_20_code 3 (some .boolean) ∈ kg_T := wc_4 (i := 62) rfl rfl
theorem kd_71 : Cond.code ⟨"QuillDesk$Reader", "lawLine", "()Z"⟩ prog_8_method_21_code 4 (some .boolean) ∈ kg_T := wc_4 (i := 11) rfl rfl
theorem kd_72 : Cond.code ⟨"QuillDesk$Reader", "sumUp", "()Z"⟩ prog_8_method_22_code 4 (some .boolean) ∈ kg_T := wc_4 (i := 15) rfl rfl
theorem kd_73 : Cond.code ⟨"QuillDesk$Reader", "unit", "()Z"⟩ prog_8_method_23_code 2 (some .boolean) ∈ kg_T := wc_4 (i := 19) rfl rfl
theorem kd_74 : Cond.code ⟨"QuillDesk$Reader", "part", "()Z"⟩ prog_8_method_24_code 2 (some .boolean) ∈ kg_T := wc_4 (i := 27) rfl rfl
theorem kd_75 : Cond.code ⟨"QuillDesk$Reader", "condition", "(I)Z"⟩ prog_8_method_25_code 5 (some .boolean) ∈ kg_T := wc_4 (i := 31) rfl rfl
theorem kd_76 : Cond.code ⟨"QuillDesk$Reader", "single", "(I)Z"⟩ prog_8_method_26_code 4 (some .boolean) ∈ kg_T := wc_4 (i := 35) rfl rfl
theorem kd_77 : Cond.code ⟨"QuillDesk$Row", "<init>", "(I)V"⟩ prog_9_method_1_code 2 (none) ∈ kg_T := wc_1 (i := 224) rfl rfl
theorem kd_78 : Cond.code ⟨"QuillDesk$Row", "tell", "(III)I"⟩ prog_9_method_2_code 4 (some .int) ∈ kg_T := wc_4 (i := 159) rfl rfl
theorem kd_79 : Cond.code ⟨"QuillDesk$Row", "clear", "()I"⟩ prog_9_method_3_code 1 (some .int) ∈ kg_T := wc_4 (i := 155) rfl rfl
theorem kd_80 : Cond.code ⟨"QuillDesk$Row", "has", "(I)Z"⟩ prog_9_method_4_code 3 (some .boolean) ∈ kg_T := wc_4 (i := 239) rfl rfl
theorem kd_81 : Cond.code ⟨"QuillDesk$Row", "sum", "()I"⟩ prog_9_method_5_code 3 (some .int) ∈ kg_T := wc_5 (i := 95) rfl rfl
theorem kd_82 : Cond.code ⟨"QuillDesk$Row", "round", "(I)I"⟩ prog_9_method_6_code 2 (some .int) ∈ kg_T := wc_5 (i := 30) rfl rfl
theorem kd_83 : Cond.code ⟨"QuillDesk$Row", "copyFrom", "(LQuillDesk$Row;)V"⟩ prog_9_method_7_code 2 (none) ∈ kg_T := wc_5 (i := 151) rfl rfl
theorem kd_84 : Cond.code ⟨"QuillDesk$Text", "<init>", "()V"⟩ prog_10_method_1_code 1 (none) ∈ kg_T := wc_1 (i := 169) rfl rfl
theorem kd_85 : Cond.code ⟨"QuillDesk$Text", "add", "(IIII)V"⟩ prog_10_method_2_code 5 (none) ∈ kg_T := wc_4 (i := 43) rfl rfl
theorem kd_86 : Cond.code ⟨"QuillDesk$Text", "copyFrom", "(LQuillDesk$Text;)V"⟩ prog_10_method_3_code 2 (none) ∈ kg_T := wc_4 (i := 70) rfl rfl
theorem kd_87 : Cond.code ⟨"QuillDesk$Thought", "<init>", "()V"⟩ prog_11_method_1_code 1 (none) ∈ kg_T := wc_2 (i := 141) rfl rfl
theorem kd_88 : Cond.code ⟨"QuillDesk$Thought", "countFlock", "(II)I"⟩ prog_11_method_2_code 6 (some .int) ∈ kg_T := wc_4 (i := 146) rfl rfl
theorem kd_89 : Cond.code ⟨"QuillDesk$Thought", "setPage", "(LQuillDesk$Row;II)I"⟩ prog_11_method_3_code 12 (some .int) ∈ kg_T := wc_4 (i := 168) rfl rfl
theorem kd_90 : Cond.code ⟨"QuillDesk$Thought", "payStamps", "(LQuillDesk$Row;I)I"⟩ prog_11_method_4_code 8 (some .int) ∈ kg_T := wc_4 (i := 181) rfl rfl
theorem kd_91 : Cond.code ⟨"QuillDesk$Thought", "commonPart", "(II)I"⟩ prog_11_method_5_code 6 (some .int) ∈ kg_T := wc_4 (i := 184) rfl rfl
theorem kd_92 : Cond.code ⟨"QuillDesk$Thought", "scratchDown", "(II)I"⟩ prog_11_method_6_code 5 (some .int) ∈ kg_T := wc_4 (i := 194) rfl rfl
theorem kd_93 : Cond.code ⟨"QuillDesk$Thought", "weighByThrees", "(II)I"⟩ prog_11_method_7_code 7 (some .int) ∈ kg_T := wc_4 (i := 202) rfl rfl
theorem kd_94 : Cond.code ⟨"QuillDesk$Thought", "turnsLeft", "(I)Z"⟩ prog_11_method_8_code 3 (some .boolean) ∈ kg_T := wc_4 (i := 212) rfl rfl
theorem kd_95 : Cond.code ⟨"QuillDesk$Thought", "walkCurve", "(II)I"⟩ prog_11_method_9_code 9 (some .int) ∈ kg_T := wc_4 (i := 215) rfl rfl
theorem kd_96 : Cond.code ⟨"QuillDesk$Thought", "countDots", "([I[II)I"⟩ prog_11_method_10_code 6 (some .int) ∈ kg_T := wc_4 (i := 231) rfl rfl
theorem kd_97 : Cond.code ⟨"QuillDesk$Thought", "cutPlank", "(LQuillDesk$Row;II)I"⟩ prog_11_method_11_code 12 (some .int) ∈ kg_T := wc_5 (i := 7) rfl rfl
theorem kd_98 : Cond.code ⟨"QuillDesk$Thought", "markPlaces", "(LQuillDesk$Row;I)I"⟩ prog_11_method_12_code 5 (some .int) ∈ kg_T := wc_5 (i := 11) rfl rfl
theorem kd_99 : Cond.code ⟨"QuillDesk$Thought", "compareFrom", "(LQuillDesk$Row;III)I"⟩ prog_11_method_13_code 6 (some .int) ∈ kg_T := wc_5 (i := 26) rfl rfl
theorem kd_100 : Cond.code ⟨"QuillDesk$Thought", "leastPlace", "(LQuillDesk$Row;)I"⟩ prog_11_method_14_code 3 (some .int) ∈ kg_T := wc_5 (i := 23) rfl rfl
theorem kd_101 : Cond.code ⟨"QuillDesk$Thought", "sameAgain", "(LQuillDesk$Row;)I"⟩ prog_11_method_15_code 2 (some .int) ∈ kg_T := wc_5 (i := 33) rfl rfl
theorem kd_102 : Cond.code ⟨"QuillDesk$Thought", "unlikeRows", "(LQuillDesk$Row;I)I"⟩ prog_11_method_16_code 6 (some .int) ∈ kg_T := wc_5 (i := 36) rfl rfl
theorem kd_103 : Cond.code ⟨"QuillDesk$Thought", "sail", "(LQuillDesk$Row;I)I"⟩ prog_11_method_17_code 8 (some .int) ∈ kg_T := wc_5 (i := 47) rfl rfl
theorem kd_104 : Cond.code ⟨"QuillDesk$Thought", "mirror", "(II)I"⟩ prog_11_method_18_code 4 (some .int) ∈ kg_T := wc_5 (i := 55) rfl rfl
theorem kd_105 : Cond.code ⟨"QuillDesk$Thought", "countMirrored", "(II)I"⟩ prog_11_method_19_code 6 (some .int) ∈ kg_T := wc_5 (i := 58) rfl rfl
theorem kd_106 : Cond.code ⟨"QuillDesk$Thought", "countOut", "(LQuillDesk$Row;II)I"⟩ prog_11_method_20_code 10 (some .int) ∈ kg_T := wc_5 (i := 71) rfl rfl
theorem kd_107 : Cond.code ⟨"QuillDesk$Thought", "nextThere", "(II)I"⟩ prog_11_method_21_code 5 (some .int) ∈ kg_T := wc_5 (i := 75) rfl rfl
theorem kd_108 : Cond.code ⟨"QuillDesk$Thought", "share", "(LQuillDesk$Row;I[I)V"⟩ prog_11_method_22_code 9 (none) ∈ kg_T := wc_5 (i := 91) rfl rfl
theorem kd_109 : Cond.code ⟨"QuillDesk$Thought", "shareOf", "(LQuillDesk$Row;II)I"⟩ prog_11_method_23_code 4 (some .int) ∈ kg_T := wc_5 (i := 99) rfl rfl
theorem kd_110 : Cond.code ⟨"QuillDesk$Thought", "whoLoses", "(LQuillDesk$Row;I)I"⟩ prog_11_method_24_code 4 (some .int) ∈ kg_T := wc_5 (i := 87) rfl rfl
theorem kd_111 : Cond.code ⟨"QuillDesk", "<init>", "()V"⟩ prog_1_method_1_code 1 (none) ∈ kg_T := wc_1 (i := 24) rfl rfl
theorem kd_112 : Cond.code ⟨"QuillDesk", "state", "(I)I"⟩ prog_1_method_2_code 3 (some .int) ∈ kg_T := wc_2 (i := 204) rfl rfl
theorem kd_113 : Cond.code ⟨"QuillDesk", "quill", "(II)I"⟩ prog_1_method_3_code 5 (some .int) ∈ kg_T := wc_2 (i := 212) rfl rfl
theorem kd_114 : Cond.code ⟨"QuillDesk", "clerk", "(I)I"⟩ prog_1_method_4_code 4 (some .int) ∈ kg_T := wc_2 (i := 219) rfl rfl
theorem kd_115 : Cond.code ⟨"QuillDesk", "deed", "(I)I"⟩ prog_1_method_5_code 4 (some .int) ∈ kg_T := wc_2 (i := 223) rfl rfl
theorem kd_116 : Cond.code ⟨"QuillDesk", "set", "(III)Z"⟩ prog_1_method_6_code 5 (some .boolean) ∈ kg_T := wc_2 (i := 227) rfl rfl
theorem kd_117 : Cond.code ⟨"QuillDesk", "act", "(III)Z"⟩ prog_1_method_7_code 5 (some .boolean) ∈ kg_T := wc_2 (i := 239) rfl rfl
theorem kd_118 : Cond.code ⟨"QuillDesk", "hours", "(I)I"⟩ prog_1_method_8_code 4 (some .int) ∈ kg_T := wc_3 (i := 32) rfl rfl
theorem kd_119 : Cond.code ⟨"QuillDesk", "feed", "(IIIII)I"⟩ prog_1_method_9_code 6 (some .int) ∈ kg_T := wc_3 (i := 135) rfl rfl
theorem kd_120 : Cond.code ⟨"QuillDesk", "end", "(I)Z"⟩ prog_1_method_10_code 2 (some .boolean) ∈ kg_T := wc_3 (i := 143) rfl rfl
theorem kd_121 : Cond.code ⟨"QuillDesk", "text", "(I)I"⟩ prog_1_method_11_code 4 (some .int) ∈ kg_T := wc_3 (i := 147) rfl rfl
theorem kd_122 : Cond.code ⟨"QuillDesk", "fault", "(I)I"⟩ prog_1_method_12_code 2 (some .int) ∈ kg_T := wc_4 (i := 78) rfl rfl
theorem kd_123 : Cond.code ⟨"QuillDesk", "of", "(II)I"⟩ prog_1_method_13_code 4 (some .int) ∈ kg_T := wc_4 (i := 82) rfl rfl
theorem kd_124 : Cond.code ⟨"QuillDesk", "who", "(II)I"⟩ prog_1_method_14_code 4 (some .int) ∈ kg_T := wc_4 (i := 89) rfl rfl
theorem kd_125 : Cond.code ⟨"QuillDesk", "deedOf", "(II)I"⟩ prog_1_method_15_code 4 (some .int) ∈ kg_T := wc_4 (i := 94) rfl rfl
theorem kd_126 : Cond.code ⟨"QuillDesk", "book", "(II)I"⟩ prog_1_method_16_code 4 (some .int) ∈ kg_T := wc_4 (i := 105) rfl rfl
theorem kd_127 : Cond.code ⟨"QuillDesk", "goes", "(II)I"⟩ prog_1_method_17_code 4 (some .int) ∈ kg_T := wc_4 (i := 109) rfl rfl
theorem kd_128 : Cond.code ⟨"QuillDesk", "done", "(I)I"⟩ prog_1_method_18_code 3 (some .int) ∈ kg_T := wc_4 (i := 129) rfl rfl
theorem kd_129 : Cond.code ⟨"QuillDesk", "soon", "(II)I"⟩ prog_1_method_19_code 3 (some .int) ∈ kg_T := wc_4 (i := 134) rfl rfl
theorem kd_130 : Cond.code ⟨"QuillDesk", "flock", "(II)I"⟩ prog_1_method_20_code 3 (some .int) ∈ kg_T := wc_4 (i := 142) rfl rfl
theorem kd_131 : Cond.code ⟨"QuillDesk", "letters", "(I)I"⟩ prog_1_method_21_code 2 (some .int) ∈ kg_T := wc_4 (i := 151) rfl rfl
theorem kd_132 : Cond.code ⟨"QuillDesk", "page", "(II)I"⟩ prog_1_method_22_code 3 (some .int) ∈ kg_T := wc_4 (i := 164) rfl rfl
theorem kd_133 : Cond.code ⟨"QuillDesk", "stamp", "(I)I"⟩ prog_1_method_23_code 2 (some .int) ∈ kg_T := wc_4 (i := 173) rfl rfl
theorem kd_134 : Cond.code ⟨"QuillDesk", "stamps", "(I)I"⟩ prog_1_method_24_code 2 (some .int) ∈ kg_T := wc_4 (i := 177) rfl rfl
theorem kd_135 : Cond.code ⟨"QuillDesk", "scratch", "(II)I"⟩ prog_1_method_25_code 3 (some .int) ∈ kg_T := wc_4 (i := 191) rfl rfl
theorem kd_136 : Cond.code ⟨"QuillDesk", "threes", "(II)I"⟩ prog_1_method_26_code 3 (some .int) ∈ kg_T := wc_4 (i := 199) rfl rfl
theorem kd_137 : Cond.code ⟨"QuillDesk", "curve", "(III)I"⟩ prog_1_method_27_code 5 (some .int) ∈ kg_T := wc_4 (i := 209) rfl rfl
theorem kd_138 : Cond.code ⟨"QuillDesk", "quire", "(III)I"⟩ prog_1_method_28_code 4 (some .int) ∈ kg_T := wc_4 (i := 220) rfl rfl
theorem kd_139 : Cond.code ⟨"QuillDesk", "dot", "(III)Z"⟩ prog_1_method_29_code 4 (some .boolean) ∈ kg_T := wc_4 (i := 224) rfl rfl
theorem kd_140 : Cond.code ⟨"QuillDesk", "dots", "(I)I"⟩ prog_1_method_30_code 2 (some .int) ∈ kg_T := wc_4 (i := 228) rfl rfl
theorem kd_141 : Cond.code ⟨"QuillDesk", "cut", "(I)I"⟩ prog_1_method_31_code 2 (some .int) ∈ kg_T := wc_4 (i := 235) rfl rfl
theorem kd_142 : Cond.code ⟨"QuillDesk", "planks", "(II)I"⟩ prog_1_method_32_code 3 (some .int) ∈ kg_T := wc_5 (i := 3) rfl rfl
theorem kd_143 : Cond.code ⟨"QuillDesk", "sign", "(I)I"⟩ prog_1_method_33_code 2 (some .int) ∈ kg_T := wc_5 (i := 16) rfl rfl
theorem kd_144 : Cond.code ⟨"QuillDesk", "read", "(I)I"⟩ prog_1_method_34_code 2 (some .int) ∈ kg_T := wc_5 (i := 20) rfl rfl
theorem kd_145 : Cond.code ⟨"QuillDesk", "leg", "(I)I"⟩ prog_1_method_35_code 2 (some .int) ∈ kg_T := wc_5 (i := 40) rfl rfl
theorem kd_146 : Cond.code ⟨"QuillDesk", "line", "(I)I"⟩ prog_1_method_36_code 2 (some .int) ∈ kg_T := wc_5 (i := 44) rfl rfl
theorem kd_147 : Cond.code ⟨"QuillDesk", "water", "(III)I"⟩ prog_1_method_37_code 4 (some .int) ∈ kg_T := wc_5 (i := 51) rfl rfl
theorem kd_148 : Cond.code ⟨"QuillDesk", "weight", "(I)I"⟩ prog_1_method_38_code 2 (some .int) ∈ kg_T := wc_5 (i := 63) rfl rfl
theorem kd_149 : Cond.code ⟨"QuillDesk", "lift", "(II)I"⟩ prog_1_method_39_code 3 (some .int) ∈ kg_T := wc_5 (i := 67) rfl rfl
theorem kd_150 : Cond.code ⟨"QuillDesk", "heir", "(I)I"⟩ prog_1_method_40_code 2 (some .int) ∈ kg_T := wc_5 (i := 79) rfl rfl
theorem kd_151 : Cond.code ⟨"QuillDesk", "seal", "(II)I"⟩ prog_1_method_41_code 3 (some .int) ∈ kg_T := wc_5 (i := 83) rfl rfl
theorem kd_152 : Cond.code ⟨"QuillDesk", "game", "(II)I"⟩ prog_1_method_42_code 3 (some .int) ∈ kg_T := wc_5 (i := 103) rfl rfl
theorem kd_153 : Cond.code ⟨"QuillDesk", "undo", "()Z"⟩ prog_1_method_43_code 1 (some .boolean) ∈ kg_T := wc_5 (i := 127) rfl rfl
theorem kd_154 : Cond.code ⟨"QuillDesk", "image", "(Z)Z"⟩ prog_1_method_44_code 2 (some .boolean) ∈ kg_T := wc_5 (i := 135) rfl rfl
theorem kd_155 : Cond.code ⟨"QuillDesk", "look", "(I)I"⟩ prog_1_method_45_code 3 (some .int) ∈ kg_T := wc_5 (i := 157) rfl rfl
theorem kd_156 : Cond.code ⟨"QuillDesk", "within", "(III)Z"⟩ prog_1_method_46_code 3 (some .boolean) ∈ kg_T := wc_2 (i := 215) rfl rfl
theorem kd_157 : Cond.code ⟨"QuillDeskModel", "<init>", "()V"⟩ prog_13_method_1_code 1 (none) ∈ kg_T := wc_5 (i := 163) rfl rfl
theorem kd_158 : Cond.code ⟨"QuillDeskModel", "isIn", "(III)Z"⟩ prog_13_method_3_code 4 (some .boolean) ∈ kg_T := wc_6 (i := 169) rfl rfl
theorem kd_159 : Cond.code ⟨"QuillDeskModel", "held", "(III)I"⟩ prog_13_method_4_code 4 (some .int) ∈ kg_T := wc_7 (i := 193) rfl rfl
theorem kd_160 : Cond.code ⟨"QuillDeskModel", "greater", "(II)I"⟩ prog_13_method_5_code 3 (some .int) ∈ kg_T := wc_8 (i := 39) rfl rfl
theorem kd_161 : Cond.code ⟨"QuillDeskModel", "lesser", "(II)I"⟩ prog_13_method_6_code 3 (some .int) ∈ kg_T := wc_7 (i := 223) rfl rfl
theorem kd_162 : Cond.code ⟨"QuillDeskModel", "plain", "(I)I"⟩ prog_13_method_7_code 2 (some .int) ∈ kg_T := wc_8 (i := 68) rfl rfl
theorem kd_163 : Cond.code ⟨"QuillDeskModel", "common", "(II)I"⟩ prog_13_method_8_code 6 (some .int) ∈ kg_T := wc_8 (i := 64) rfl rfl
theorem kd_164 : Cond.code ⟨"QuillDeskModel", "onesOf", "(I)I"⟩ prog_13_method_9_code 4 (some .int) ∈ kg_T := wc_8 (i := 19) rfl rfl
theorem kd_165 : Cond.code ⟨"QuillDeskModel", "has", "(II)Z"⟩ prog_13_method_10_code 3 (some .boolean) ∈ kg_T := wc_8 (i := 35) rfl rfl
theorem kd_166 : Cond.code ⟨"QuillDeskModel", "keepsAhead", "()V"⟩ prog_13_method_11_code 2 (none) ∈ kg_T := wc_7 (i := 137) rfl rfl
theorem kd_167 : Cond.code ⟨"QuillDeskModel", "undo", "()Z"⟩ prog_13_method_12_code 2 (some .boolean) ∈ kg_T := wc_6 (i := 157) rfl rfl
theorem kd_168 : Cond.code ⟨"QuillDeskModel", "thinks", "()V"⟩ prog_13_method_13_code 2 (none) ∈ kg_T := wc_8 (i := 11) rfl rfl
theorem kd_169 : Cond.code ⟨"QuillDeskModel", "endsThought", "()V"⟩ prog_13_method_14_code 2 (none) ∈ kg_T := wc_8 (i := 23) rfl rfl
theorem kd_170 : Cond.code ⟨"QuillDeskModel", "state", "(I)I"⟩ prog_13_method_15_code 3 (some .int) ∈ kg_T := wc_6 (i := 161) rfl rfl
theorem kd_171 : Cond.code ⟨"QuillDeskModel", "draw", "(I)I"⟩ prog_13_method_16_code 2 (some .int) ∈ kg_T := wc_7 (i := 201) rfl rfl
theorem kd_172 : Cond.code ⟨"QuillDeskModel", "isQuill", "(I)Z"⟩ prog_13_method_17_code 2 (some .boolean) ∈ kg_T := wc_6 (i := 189) rfl rfl
theorem kd_173 : Cond.code ⟨"QuillDeskModel", "isClerk", "(I)Z"⟩ prog_13_method_18_code 2 (some .boolean) ∈ kg_T := wc_6 (i := 185) rfl rfl
theorem kd_174 : Cond.code ⟨"QuillDeskModel", "isDeed", "(I)Z"⟩ prog_13_method_19_code 2 (some .boolean) ∈ kg_T := wc_7 (i := 129) rfl rfl
theorem kd_175 : Cond.code ⟨"QuillDeskModel", "holds", "(I)I"⟩ prog_13_method_20_code 2 (some .int) ∈ kg_T := wc_7 (i := 109) rfl rfl
theorem kd_176 : Cond.code ⟨"QuillDeskModel", "atDeed", "(I)I"⟩ prog_13_method_21_code 2 (some .int) ∈ kg_T := wc_7 (i := 125) rfl rfl
theorem kd_177 : Cond.code ⟨"QuillDeskModel", "isGone", "(I)Z"⟩ prog_13_method_22_code 2 (some .boolean) ∈ kg_T := wc_7 (i := 117) rfl rfl
theorem kd_178 : Cond.code ⟨"QuillDeskModel", "isDone", "(I)Z"⟩ prog_13_method_23_code 2 (some .boolean) ∈ kg_T := wc_7 (i := 133) rfl rfl
theorem kd_179 : Cond.code ⟨"QuillDeskModel", "whoHolds", "(I)I"⟩ prog_13_method_24_code 3 (some .int) ∈ kg_T := wc_7 (i := 121) rfl rfl
theorem kd_180 : Cond.code ⟨"QuillDeskModel", "doneSet", "()I"⟩ prog_13_method_25_code 3 (some .int) ∈ kg_T := wc_7 (i := 157) rfl rfl
theorem kd_181 : Cond.code ⟨"QuillDeskModel", "canBeWritten", "(I)Z"⟩ prog_13_method_26_code 2 (some .boolean) ∈ kg_T := wc_7 (i := 153) rfl rfl
theorem kd_182 : Cond.code ⟨"QuillDeskModel", "quill", "(II)I"⟩ prog_13_method_27_code 3 (some .int) ∈ kg_T := wc_6 (i := 165) rfl rfl
theorem kd_183 : Cond.code ⟨"QuillDeskModel", "clerk", "(I)I"⟩ prog_13_method_28_code 3 (some .int) ∈ kg_T := wc_6 (i := 173) rfl rfl
theorem kd_184 : Cond.code ⟨"QuillDeskModel", "deed", "(I)I"⟩ prog_13_method_29_code 2 (some .int) ∈ kg_T := wc_6 (i := 177) rfl rfl
theorem kd_185 : Cond.code ⟨"QuillDeskModel", "set", "(III)Z"⟩ prog_13_method_30_code 5 (some .boolean) ∈ kg_T := wc_6 (i := 181) rfl rfl
theorem kd_186 : Cond.code ⟨"QuillDeskModel", "types", "(I)V"⟩ prog_13_method_31_code 3 (none) ∈ kg_T := wc_6 (i := 197) rfl rfl
theorem kd_187 : Cond.code ⟨"QuillDeskModel", "feed", "(IIIII)I"⟩ prog_13_method_32_code 6 (some .int) ∈ kg_T := wc_6 (i := 193) rfl rfl
theorem kd_188 : Cond.code ⟨"QuillDeskModel", "end", "(I)Z"⟩ prog_13_method_33_code 2 (some .boolean) ∈ kg_T := wc_6 (i := 201) rfl rfl
theorem kd_189 : Cond.code ⟨"QuillDeskModel", "raw", "(I)I"⟩ prog_13_method_34_code 2 (some .int) ∈ kg_T := wc_6 (i := 217) rfl rfl
theorem kd_190 : Cond.code ⟨"QuillDeskModel", "isLetter", "(I)Z"⟩ prog_13_method_35_code 2 (some .boolean) ∈ kg_T := wc_6 (i := 221) rfl rfl
theorem kd_191 : Cond.code ⟨"QuillDeskModel", "isDigit", "(I)Z"⟩ prog_13_method_36_code 2 (some .boolean) ∈ kg_T := wc_6 (i := 229) rfl rfl
theorem kd_192 : Cond.code ⟨"QuillDeskModel", "isMarkSign", "(I)Z"⟩ prog_13_method_37_code 2 (some .boolean) ∈ kg_T := wc_6 (i := 233) rfl rfl
theorem kd_193 : Cond.code ⟨"QuillDeskModel", "wordAt", "(II)I"⟩ prog_13_method_38_code 6 (some .int) ∈ kg_T := wc_6 (i := 225) rfl rfl
theorem kd_194 : Cond.code ⟨"QuillDeskModel", "reads", "()V"⟩ prog_13_method_39_code 2 (none) ∈ kg_T := wc_6 (i := 213) rfl rfl
theorem kd_195 : Cond.code ⟨"QuillDeskModel", "errs", "(I)I"⟩ prog_13_method_40_code 2 (some .int) ∈ kg_T := wc_7 (i := 5) rfl rfl
theorem kd_196 : Cond.code ⟨"QuillDeskModel", "isWord", "(I)Z"⟩ prog_13_method_41_code 2 (some .boolean) ∈ kg_T := wc_7 (i := 1) rfl rfl
theorem kd_197 : Cond.code ⟨"QuillDeskModel", "isSign", "(I)Z"⟩ prog_13_method_42_code 2 (some .boolean) ∈ kg_T := wc_7 (i := 25) rfl rfl
theorem kd_198 : Cond.code ⟨"QuillDeskModel", "emits", "(II)V"⟩ prog_13_method_43_code 3 (none) ∈ kg_T := wc_7 (i := 69) rfl rfl
theorem kd_199 : Cond.code ⟨"QuillDeskModel", "canAsk", "(I)Z"⟩ prog_13_method_44_code 2 (some .boolean) ∈ kg_T := wc_7 (i := 65) rfl rfl
theorem kd_200 : Cond.code ⟨"QuillDeskModel", "readUnit", "()I"⟩ prog_13_method_45_code 2 (some .int) ∈ kg_T := wc_7 (i := 61) rfl rfl
theorem kd_201 : Cond.code ⟨"QuillDeskModel", "readProduct", "()I"⟩ prog_13_method_46_code 2 (some .int) ∈ kg_T := wc_7 (i := 57) rfl rfl
theorem kd_202 : Cond.code ⟨"QuillDeskModel", "readSum", "()I"⟩ prog_13_method_47_code 2 (some .int) ∈ kg_T := wc_7 (i := 53) rfl rfl
theorem kd_203 : Cond.code ⟨"QuillDeskModel", "readCompared", "()I"⟩ prog_13_method_48_code 2 (some .int) ∈ kg_T := wc_7 (i := 81) rfl rfl
theorem kd_204 : Cond.code ⟨"QuillDeskModel", "waits", "(I)V"⟩ prog_13_method_49_code 2 (none) ∈ kg_T := wc_7 (i := 77) rfl rfl
theorem kd_205 : Cond.code ⟨"QuillDeskModel", "settles", "(I)V"⟩ prog_13_method_50_code 2 (none) ∈ kg_T := wc_7 (i := 85) rfl rfl
theorem kd_206 : Cond.code ⟨"QuillDeskModel", "readAny", "()I"⟩ prog_13_method_51_code 4 (some .int) ∈ kg_T := wc_7 (i := 73) rfl rfl
theorem kd_207 : Cond.code ⟨"QuillDeskModel", "isLineWord", "()Z"⟩ prog_13_method_52_code 1 (some .boolean) ∈ kg_T := wc_7 (i := 49) rfl rfl
theorem kd_208 : Cond.code ⟨"QuillDeskModel", "readLaw", "()I"⟩ prog_13_method_53_code 3 (some .int) ∈ kg_T := wc_7 (i := 45) rfl rfl
theorem kd_209 : Cond.code ⟨"QuillDeskModel", "takesLaw", "(I)V"⟩ prog_13_method_54_code 3 (none) ∈ kg_T := wc_7 (i := 89) rfl rfl
theorem kd_210 : Cond.code ⟨"QuillDeskModel", "readNumber", "(II)I"⟩ prog_13_method_55_code 4 (some .int) ∈ kg_T := wc_7 (i := 17) rfl rfl
theorem kd_211 : Cond.code ⟨"QuillDeskModel", "readMark", "(I)I"⟩ prog_13_method_56_code 2 (some .int) ∈ kg_T := wc_7 (i := 21) rfl rfl
theorem kd_212 : Cond.code ⟨"QuillDeskModel", "readTold", "(III)I"⟩ prog_13_method_57_code 4 (some .int) ∈ kg_T := wc_7 (i := 13) rfl rfl
theorem kd_213 : Cond.code ⟨"QuillDeskModel", "readOrder", "(I)I"⟩ prog_13_method_58_code 3 (some .int) ∈ kg_T := wc_7 (i := 9) rfl rfl
theorem kd_214 : Cond.code ⟨"QuillDeskModel", "readOrders", "()I"⟩ prog_13_method_59_code 2 (some .int) ∈ kg_T := wc_6 (i := 237) rfl rfl
theorem kd_215 : Cond.code ⟨"QuillDeskModel", "readBird", "()I"⟩ prog_13_method_60_code 4 (some .int) ∈ kg_T := wc_7 (i := 33) rfl rfl
theorem kd_216 : Cond.code ⟨"QuillDeskModel", "readBirds", "()I"⟩ prog_13_method_61_code 2 (some .int) ∈ kg_T := wc_7 (i := 29) rfl rfl
theorem kd_217 : Cond.code ⟨"QuillDeskModel", "readAfterOne", "()I"⟩ prog_13_method_62_code 3 (some .int) ∈ kg_T := wc_7 (i := 41) rfl rfl
theorem kd_218 : Cond.code ⟨"QuillDeskModel", "readAfter", "()I"⟩ prog_13_method_63_code 2 (some .int) ∈ kg_T := wc_7 (i := 37) rfl rfl
theorem kd_219 : Cond.code ⟨"QuillDeskModel", "readsText", "(I)I"⟩ prog_13_method_64_code 2 (some .int) ∈ kg_T := wc_6 (i := 209) rfl rfl
theorem kd_220 : Cond.code ⟨"QuillDeskModel", "takesOther", "(II)V"⟩ prog_13_method_65_code 4 (none) ∈ kg_T := wc_7 (i := 93) rfl rfl
theorem kd_221 : Cond.code ⟨"QuillDeskModel", "text", "(I)I"⟩ prog_13_method_66_code 3 (some .int) ∈ kg_T := wc_6 (i := 205) rfl rfl
theorem kd_222 : Cond.code ⟨"QuillDeskModel", "fault", "(I)I"⟩ prog_13_method_67_code 2 (some .int) ∈ kg_T := wc_7 (i := 97) rfl rfl
theorem kd_223 : Cond.code ⟨"QuillDeskModel", "twoOf", "(III)I"⟩ prog_13_method_68_code 4 (some .int) ∈ kg_T := wc_7 (i := 189) rfl rfl
theorem kd_224 : Cond.code ⟨"QuillDeskModel", "runs", "(III)I"⟩ prog_13_method_69_code 6 (some .int) ∈ kg_T := wc_7 (i := 185) rfl rfl
theorem kd_225 : Cond.code ⟨"QuillDeskModel", "lineOf", "(I)I"⟩ prog_13_method_70_code 3 (some .int) ∈ kg_T := wc_7 (i := 181) rfl rfl
theorem kd_226 : Cond.code ⟨"QuillDeskModel", "fineOf", "(I)I"⟩ prog_13_method_71_code 2 (some .int) ∈ kg_T := wc_7 (i := 173) rfl rfl
theorem kd_227 : Cond.code ⟨"QuillDeskModel", "asks", "(I)V"⟩ prog_13_method_72_code 4 (none) ∈ kg_T := wc_7 (i := 169) rfl rfl
theorem kd_228 : Cond.code ⟨"QuillDeskModel", "lawTells", "(III)I"⟩ prog_13_method_73_code 5 (some .int) ∈ kg_T := wc_7 (i := 177) rfl rfl
theorem kd_229 : Cond.code ⟨"QuillDeskModel", "writesOf", "(I)I"⟩ prog_13_method_74_code 2 (some .int) ∈ kg_T := wc_7 (i := 219) rfl rfl
theorem kd_230 : Cond.code ⟨"QuillDeskModel", "blotsOf", "(I)I"⟩ prog_13_method_75_code 2 (some .int) ∈ kg_T := wc_7 (i := 211) rfl rfl
theorem kd_231 : Cond.code ⟨"QuillDeskModel", "liftsOf", "(I)I"⟩ prog_13_method_76_code 2 (some .int) ∈ kg_T := wc_7 (i := 165) rfl rfl
theorem kd_232 : Cond.code ⟨"QuillDeskModel", "notes", "(III)V"⟩ prog_13_method_77_code 5 (none) ∈ kg_T := wc_7 (i := 207) rfl rfl
theorem kd_233 : Cond.code ⟨"QuillDeskModel", "canTake", "(II)Z"⟩ prog_13_method_78_code 3 (some .boolean) ∈ kg_T := wc_7 (i := 113) rfl rfl
theorem kd_234 : Cond.code ⟨"QuillDeskModel", "canAct", "(III)Z"⟩ prog_13_method_79_code 5 (some .boolean) ∈ kg_T := wc_7 (i := 105) rfl rfl
theorem kd_235 : Cond.code ⟨"QuillDeskModel", "act", "(III)Z"⟩ prog_13_method_80_code 4 (some .boolean) ∈ kg_T := wc_7 (i := 101) rfl rfl
theorem kd_236 : Cond.code ⟨"QuillDeskModel", "happens", "(I)Z"⟩ prog_13_method_81_code 2 (some .boolean) ∈ kg_T := wc_7 (i := 197) rfl rfl
theorem kd_237 : Cond.code ⟨"QuillDeskModel", "does", "(I)V"⟩ prog_13_method_82_code 6 (none) ∈ kg_T := wc_7 (i := 149) rfl rfl
theorem kd_238 : Cond.code ⟨"QuillDeskModel", "isSigned", "(II)V"⟩ prog_13_method_83_code 4 (none) ∈ kg_T := wc_7 (i := 227) rfl rfl
theorem kd_239 : Cond.code ⟨"QuillDeskModel", "writesOn", "(III)I"⟩ prog_13_method_84_code 6 (some .int) ∈ kg_T := wc_7 (i := 215) rfl rfl
theorem kd_240 : Cond.code ⟨"QuillDeskModel", "worksOn", "(I)I"⟩ prog_13_method_85_code 5 (some .int) ∈ kg_T := wc_7 (i := 161) rfl rfl
theorem kd_241 : Cond.code ⟨"QuillDeskModel", "goesBy", "()I"⟩ prog_13_method_86_code 3 (some .int) ∈ kg_T := wc_7 (i := 145) rfl rfl
theorem kd_242 : Cond.code ⟨"QuillDeskModel", "hours", "(I)I"⟩ prog_13_method_87_code 4 (some .int) ∈ kg_T := wc_7 (i := 141) rfl rfl
theorem kd_243 : Cond.code ⟨"QuillDeskModel", "of", "(II)I"⟩ prog_13_method_88_code 3 (some .int) ∈ kg_T := wc_7 (i := 231) rfl rfl
theorem kd_244 : Cond.code ⟨"QuillDeskModel", "who", "(II)I"⟩ prog_13_method_89_code 3 (some .int) ∈ kg_T := wc_7 (i := 235) rfl rfl
theorem kd_245 : Cond.code ⟨"QuillDeskModel", "deedOf", "(II)I"⟩ prog_13_method_90_code 5 (some .int) ∈ kg_T := wc_7 (i := 239) rfl rfl
theorem kd_246 : Cond.code ⟨"QuillDeskModel", "book", "(II)I"⟩ prog_13_method_91_code 3 (some .int) ∈ kg_T := wc_8 (i := 3) rfl rfl
theorem kd_247 : Cond.code ⟨"QuillDeskModel", "sumOf", "(II)I"⟩ prog_13_method_92_code 5 (some .int) ∈ kg_T := wc_8 (i := 15) rfl rfl
theorem kd_248 : Cond.code ⟨"QuillDeskModel", "goes", "(II)I"⟩ prog_13_method_93_code 4 (some .int) ∈ kg_T := wc_8 (i := 7) rfl rfl
theorem kd_249 : Cond.code ⟨"QuillDeskModel", "done", "(I)I"⟩ prog_13_method_94_code 3 (some .int) ∈ kg_T := wc_8 (i := 27) rfl rfl
theorem kd_250 : Cond.code ⟨"QuillDeskModel", "soon", "(II)I"⟩ prog_13_method_95_code 7 (some .int) ∈ kg_T := wc_8 (i := 31) rfl rfl
theorem kd_251 : Cond.code ⟨"QuillDeskModel", "flock", "(II)I"⟩ prog_13_method_96_code 8 (some .int) ∈ kg_T := wc_8 (i := 43) rfl rfl
theorem kd_252 : Cond.code ⟨"QuillDeskModel", "letters", "(I)I"⟩ prog_13_method_97_code 2 (some .int) ∈ kg_T := wc_8 (i := 47) rfl rfl
theorem kd_253 : Cond.code ⟨"QuillDeskModel", "page", "(II)I"⟩ prog_13_method_98_code 8 (some .int) ∈ kg_T := wc_8 (i := 51) rfl rfl
theorem kd_254 : Cond.code ⟨"QuillDeskModel", "stamp", "(I)I"⟩ prog_13_method_99_code 2 (some .int) ∈ kg_T := wc_8 (i := 56) rfl rfl
theorem kd_255 : Cond.code ⟨"QuillDeskModel", "stamps", "(I)I"⟩ prog_13_method_100_code 7 (some .int) ∈ kg_T := wc_8 (i := 60) rfl rfl
theorem kd_256 : Cond.code ⟨"QuillDeskModel", "scratch", "(II)I"⟩ prog_13_method_101_code 6 (some .int) ∈ kg_T := wc_8 (i := 72) rfl rfl
theorem kd_257 : Cond.code ⟨"QuillDeskModel", "threes", "(II)I"⟩ prog_13_method_102_code 7 (some .int) ∈ kg_T := wc_8 (i := 76) rfl rfl
theorem kd_258 : Cond.code ⟨"QuillDeskModel", "turnsLeft", "(I)Z"⟩ prog_13_method_103_code 3 (some .boolean) ∈ kg_T := wc_8 (i := 84) rfl rfl
theorem kd_259 : Cond.code ⟨"QuillDeskModel", "curve", "(III)I"⟩ prog_13_method_104_code 8 (some .int) ∈ kg_T := wc_8 (i := 80) rfl rfl
theorem kd_260 : Cond.code ⟨"QuillDeskModel", "quire", "(III)I"⟩ prog_13_method_105_code 4 (some .int) ∈ kg_T := wc_8 (i := 88) rfl rfl
theorem kd_261 : Cond.code ⟨"QuillDeskModel", "dot", "(III)Z"⟩ prog_13_method_106_code 4 (some .boolean) ∈ kg_T := wc_8 (i := 92) rfl rfl
theorem kd_262 : Cond.code ⟨"QuillDeskModel", "stepsBetween", "(II)I"⟩ prog_13_method_107_code 3 (some .int) ∈ kg_T := wc_8 (i := 100) rfl rfl
theorem kd_263 : Cond.code ⟨"QuillDeskModel", "dots", "(I)I"⟩ prog_13_method_108_code 3 (some .int) ∈ kg_T := wc_8 (i := 96) rfl rfl
theorem kd_264 : Cond.code ⟨"QuillDeskModel", "isCut", "(I)Z"⟩ prog_13_method_109_code 2 (some .boolean) ∈ kg_T := wc_8 (i := 108) rfl rfl
theorem kd_265 : Cond.code ⟨"QuillDeskModel", "cut", "(I)I"⟩ prog_13_method_110_code 2 (some .int) ∈ kg_T := wc_8 (i := 104) rfl rfl
theorem kd_266 : Cond.code ⟨"QuillDeskModel", "plankWith", "(III)I"⟩ prog_13_method_111_code 4 (some .int) ∈ kg_T := wc_8 (i := 116) rfl rfl
theorem kd_267 : Cond.code ⟨"QuillDeskModel", "planks", "(II)I"⟩ prog_13_method_112_code 8 (some .int) ∈ kg_T := wc_8 (i := 112) rfl rfl
theorem kd_268 : Cond.code ⟨"QuillDeskModel", "sign", "(I)I"⟩ prog_13_method_113_code 2 (some .int) ∈ kg_T := wc_8 (i := 120) rfl rfl
theorem kd_269 : Cond.code ⟨"QuillDeskModel", "compares", "(III)I"⟩ prog_13_method_114_code 6 (some .int) ∈ kg_T := wc_8 (i := 132) rfl rfl
theorem kd_270 : Cond.code ⟨"QuillDeskModel", "unlikeRows", "(I)I"⟩ prog_13_method_115_code 6 (some .int) ∈ kg_T := wc_8 (i := 128) rfl rfl
theorem kd_271 : Cond.code ⟨"QuillDeskModel", "read", "(I)I"⟩ prog_13_method_116_code 4 (some .int) ∈ kg_T := wc_8 (i := 124) rfl rfl
theorem kd_272 : Cond.code ⟨"QuillDeskModel", "leg", "(I)I"⟩ prog_13_method_117_code 2 (some .int) ∈ kg_T := wc_8 (i := 136) rfl rfl
theorem kd_273 : Cond.code ⟨"QuillDeskModel", "line", "(I)I"⟩ prog_13_method_118_code 8 (some .int) ∈ kg_T := wc_8 (i := 140) rfl rfl
theorem kd_274 : Cond.code ⟨"QuillDeskModel", "mirrored", "(II)I"⟩ prog_13_method_119_code 5 (some .int) ∈ kg_T := wc_8 (i := 149) rfl rfl
theorem kd_275 : Cond.code ⟨"QuillDeskModel", "water", "(III)I"⟩ prog_13_method_120_code 6 (some .int) ∈ kg_T := wc_8 (i := 144) rfl rfl
theorem kd_276 : Cond.code ⟨"QuillDeskModel", "weight", "(I)I"⟩ prog_13_method_121_code 2 (some .int) ∈ kg_T := wc_8 (i := 153) rfl rfl
theorem kd_277 : Cond.code ⟨"QuillDeskModel", "lift", "(II)I"⟩ prog_13_method_122_code 7 (some .int) ∈ kg_T := wc_8 (i := 157) rfl rfl
theorem kd_278 : Cond.code ⟨"QuillDeskModel", "heir", "(I)I"⟩ prog_13_method_123_code 2 (some .int) ∈ kg_T := wc_8 (i := 161) rfl rfl
theorem kd_279 : Cond.code ⟨"QuillDeskModel", "sealOf", "(II)I"⟩ prog_13_method_124_code 9 (some .int) ∈ kg_T := wc_8 (i := 169) rfl rfl
theorem kd_280 : Cond.code ⟨"QuillDeskModel", "seal", "(II)I"⟩ prog_13_method_125_code 4 (some .int) ∈ kg_T := wc_8 (i := 165) rfl rfl
theorem kd_281 : Cond.code ⟨"QuillDeskModel", "boxOf", "(I)I"⟩ prog_13_method_126_code 4 (some .int) ∈ kg_T := wc_8 (i := 190) rfl rfl
theorem kd_282 : Cond.code ⟨"QuillDeskModel", "closedBy", "(II)I"⟩ prog_13_method_127_code 5 (some .int) ∈ kg_T := wc_8 (i := 186) rfl rfl
theorem kd_283 : Cond.code ⟨"QuillDeskModel", "moreWith", "(II)I"⟩ prog_13_method_128_code 5 (some .int) ∈ kg_T := wc_8 (i := 182) rfl rfl
theorem kd_284 : Cond.code ⟨"QuillDeskModel", "findsMore", "(I)V"⟩ prog_13_method_129_code 4 (none) ∈ kg_T := wc_8 (i := 177) rfl rfl
theorem kd_285 : Cond.code ⟨"QuillDeskModel", "game", "(II)I"⟩ prog_13_method_130_code 4 (some .int) ∈ kg_T := wc_8 (i := 173) rfl rfl
theorem kd_286 : Cond.code ⟨"QuillDeskModel", "keeps", "(I)I"⟩ prog_13_method_131_code 2 (some .int) ∈ kg_T := wc_8 (i := 198) rfl rfl
theorem kd_287 : Cond.code ⟨"QuillDeskModel", "keepsLaw", "()V"⟩ prog_13_method_132_code 2 (none) ∈ kg_T := wc_8 (i := 210) rfl rfl
theorem kd_288 : Cond.code ⟨"QuillDeskModel", "keepsMany", "()V"⟩ prog_13_method_133_code 1 (none) ∈ kg_T := wc_8 (i := 202) rfl rfl
theorem kd_289 : Cond.code ⟨"QuillDeskModel", "keepsTold", "()V"⟩ prog_13_method_134_code 2 (none) ∈ kg_T := wc_8 (i := 206) rfl rfl
theorem kd_290 : Cond.code ⟨"QuillDeskModel", "image", "(Z)Z"⟩ prog_13_method_135_code 3 (some .boolean) ∈ kg_T := wc_8 (i := 194) rfl rfl
theorem kd_291 : Cond.code ⟨"QuillDeskModel", "look", "(I)I"⟩ prog_13_method_136_code 2 (some .int) ∈ kg_T := wc_8 (i := 214) rfl rfl
theorem kd_292 : Cond.code ⟨"java/lang/Integer", "bitCount", "(I)I"⟩ prog_14_method_49_code 1 (some .int) ∈ kg_T := wc_4 (i := 122) rfl rfl
theorem kd_293 : Cond.code ⟨"java/lang/Math", "floorMod", "(II)I"⟩ prog_15_method_50_code 3 (some .int) ∈ kg_T := wc_4 (i := 205) rfl rfl
theorem kd_294 : Cond.code ⟨"java/lang/Math", "abs", "(I)I"⟩ prog_15_method_59_code 1 (some .int) ∈ kg_T := wc_4 (i := 187) rfl rfl
theorem kd_295 : Cond.code ⟨"java/lang/Math", "max", "(II)I"⟩ prog_15_method_65_code 2 (some .int) ∈ kg_T := wc_3 (i := 96) rfl rfl
theorem kd_296 : Cond.code ⟨"java/lang/Math", "min", "(II)I"⟩ prog_15_method_69_code 2 (some .int) ∈ kg_T := wc_1 (i := 228) rfl rfl
theorem kd_297 : Cond.code ⟨"java/lang/String", "length", "()I"⟩ prog_16_method_54_code 1 (some .int) ∈ kg_T := wc_3 (i := 179) rfl rfl
theorem kd_298 : Cond.code ⟨"java/lang/String", "charAt", "(I)C"⟩ prog_16_method_56_code 2 (some .char) ∈ kg_T := wc_3 (i := 189) rfl rfl
theorem kd_299 : Cond.code ⟨"java/lang/String", "coder", "()B"⟩ prog_16_method_152_code 1 (some .byte) ∈ kg_T := wc_3 (i := 183) rfl rfl
theorem kd_300 : Cond.code ⟨"java/lang/String", "isLatin1", "()Z"⟩ prog_16_method_154_code 1 (some .boolean) ∈ kg_T := wc_3 (i := 193) rfl rfl
theorem kd_301 : Cond.code ⟨"java/lang/String", "checkIndex", "(II)V"⟩ prog_16_method_155_code 2 (none) ∈ kg_T := wc_3 (i := 199) rfl rfl
theorem kd_302 : Cond.code ⟨"java/lang/StringLatin1", "charAt", "([BI)C"⟩ prog_17_method_2_code 2 (some .char) ∈ kg_T := wc_3 (i := 196) rfl rfl
theorem kd_303 : Cond.code ⟨"jdk/internal/util/Preconditions", "checkIndex", "(IILjava/util/function/BiFunction;)I"⟩ prog_20_method_11_code 3 (some .int) ∈ kg_T := wc_3 (i := 204) rfl rfl
def kkC (q : kQ) : Prop := q.2.2.2.2.2.2.1 = 3 ∨ Cond.code q.1 q.2.1 q.2.2.1 q.2.2.2.1 ∈ kg_T
theorem ke_0 : ∀ q ∈ kt_0, kkC q := List.forall_mem_cons.mpr ⟨Or.inr kd_0, List.forall_mem_cons.mpr ⟨Or.inr kd_1, List.forall_mem_cons.mpr ⟨Or.inr kd_2, List.forall_mem_cons.mpr ⟨Or.inr kd_3, List.forall_mem_cons.mpr ⟨Or.inr kd_4, List.forall_mem_cons.mpr ⟨Or.inr kd_5, List.forall_mem_cons.mpr ⟨Or.inr kd_6, List.forall_mem_cons.mpr ⟨Or.inr kd_7, List.forall_mem_cons.mpr ⟨Or.inr kd_8, List.forall_mem_cons.mpr ⟨Or.inr kd_9, List.forall_mem_cons.mpr ⟨Or.inr kd_10, List.forall_mem_cons.mpr ⟨Or.inr kd_11, List.forall_mem_cons.mpr ⟨Or.inr kd_12, List.forall_mem_cons.mpr ⟨Or.inr kd_13, List.forall_mem_cons.mpr ⟨Or.inr kd_14, List.forall_mem_cons.mpr ⟨Or.inr kd_15, List.forall_mem_cons.mpr ⟨Or.inr kd_16, List.forall_mem_cons.mpr ⟨Or.inr kd_17, List.forall_mem_cons.mpr ⟨Or.inr kd_18, List.forall_mem_cons.mpr ⟨Or.inr kd_19, List.forall_mem_cons.mpr ⟨Or.inr kd_20, List.forall_mem_cons.mpr ⟨Or.inr kd_21, List.forall_mem_cons.mpr ⟨Or.inr kd_22, List.forall_mem_cons.mpr ⟨Or.inr kd_23, List.forall_mem_cons.mpr ⟨Or.inr kd_24, fun _ h => absurd h List.not_mem_nil⟩⟩⟩⟩⟩⟩⟩⟩⟩⟩⟩⟩⟩⟩⟩⟩⟩⟩⟩⟩⟩⟩⟩⟩⟩
theorem ke_1 : ∀ q ∈ kt_1, kkC q := List.forall_mem_cons.mpr ⟨Or.inr kd_25, List.forall_mem_cons.mpr ⟨Or.inr kd_26, List.forall_mem_cons.mpr ⟨Or.inr kd_27, List.forall_mem_cons.mpr ⟨Or.inr kd_28, List.forall_mem_cons.mpr ⟨Or.inr kd_29, List.forall_mem_cons.mpr ⟨Or.inr kd_30, List.forall_mem_cons.mpr ⟨Or.inr kd_31, List.forall_mem_cons.mpr ⟨Or.inr kd_32, List.forall_mem_cons.mpr ⟨Or.inr kd_33, List.forall_mem_cons.mpr ⟨Or.inr kd_34, List.forall_mem_cons.mpr ⟨Or.inr kd_35, List.forall_mem_cons.mpr ⟨Or.inr kd_36, List.forall_mem_cons.mpr ⟨Or.inr kd_37, List.forall_mem_cons.mpr ⟨Or.inr kd_38, List.forall_mem_cons.mpr ⟨Or.inr kd_39, List.forall_mem_cons.mpr ⟨Or.inr kd_40, List.forall_mem_cons.mpr ⟨Or.inr kd_41, List.forall_mem_cons.mpr ⟨Or.inr kd_42, List.forall_mem_cons.mpr ⟨Or.inr kd_43, List.forall_mem_cons.mpr ⟨Or.inr kd_44, List.forall_mem_cons.mpr ⟨Or.inr kd_45, List.forall_mem_cons.mpr ⟨Or.inr kd_46, List.forall_mem_cons.mpr ⟨Or.inr kd_47, List.forall_mem_cons.mpr ⟨Or.inr kd_48, List.forall_mem_cons.mpr ⟨Or.inr kd_49, fun _ h => absurd h List.not_mem_nil⟩⟩⟩⟩⟩⟩⟩⟩⟩⟩⟩⟩⟩⟩⟩⟩⟩⟩⟩⟩⟩⟩⟩⟩⟩
theorem ke_2 : ∀ q ∈ kt_2, kkC q := List.forall_mem_cons.mpr ⟨Or.inr kd_50, List.forall_mem_cons.mpr ⟨Or.inr kd_51, List.forall_mem_cons.mpr ⟨Or.inr kd_52, List.forall_mem_cons.mpr ⟨Or.inr kd_53, List.forall_mem_cons.mpr ⟨Or.inr kd_54, List.forall_mem_cons.mpr ⟨Or.inr kd_55, List.forall_mem_cons.mpr ⟨Or.inr kd_56, List.forall_mem_cons.mpr ⟨Or.inr kd_57, List.forall_mem_cons.mpr ⟨Or.inr kd_58, List.forall_mem_cons.mpr ⟨Or.inr kd_59, List.forall_mem_cons.mpr ⟨Or.inr kd_60, List.forall_mem_cons.mpr ⟨Or.inr kd_61, List.forall_mem_cons.mpr ⟨Or.inr kd_62, List.forall_mem_cons.mpr ⟨Or.inr kd_63, List.forall_mem_cons.mpr ⟨Or.inr kd_64, List.forall_mem_cons.mpr ⟨Or.inr kd_65, List.forall_mem_cons.mpr ⟨Or.inr kd_66, List.forall_mem_cons.mpr ⟨Or.inr kd_67, List.forall_mem_cons.mpr ⟨Or.inr kd_68, List.forall_mem_cons.mpr ⟨Or.inr kd_69, List.forall_mem_cons.mpr ⟨Or.inr kd_70, List.forall_mem_cons.mpr ⟨Or.inr kd_71, List.forall_mem_cons.mpr ⟨Or.inr kd_72, List.forall_mem_cons.mpr ⟨Or.inr kd_73, List.forall_mem_cons.mpr ⟨Or.inr kd_74, fun _ h => absurd h List.not_mem_nil⟩⟩⟩⟩⟩⟩⟩⟩⟩⟩⟩⟩⟩⟩⟩⟩⟩⟩⟩⟩⟩⟩⟩⟩⟩
theorem ke_3 : ∀ q ∈ kt_3, kkC q := List.forall_mem_cons.mpr ⟨Or.inr kd_75, List.forall_mem_cons.mpr ⟨Or.inr kd_76, List.forall_mem_cons.mpr ⟨Or.inr kd_77, List.forall_mem_cons.mpr ⟨Or.inr kd_78, List.forall_mem_cons.mpr ⟨Or.inr kd_79, List.forall_mem_cons.mpr ⟨Or.inr kd_80, List.forall_mem_cons.mpr ⟨Or.inr kd_81, List.forall_mem_cons.mpr ⟨Or.inr kd_82, List.forall_mem_cons.mpr ⟨Or.inr kd_83, List.forall_mem_cons.mpr ⟨Or.inr kd_84, List.forall_mem_cons.mpr ⟨Or.inr kd_85, List.forall_mem_cons.mpr ⟨Or.inr kd_86, List.forall_mem_cons.mpr ⟨Or.inr kd_87, List.forall_mem_cons.mpr ⟨Or.inr kd_88, List.forall_mem_cons.mpr ⟨Or.inr kd_89, List.forall_mem_cons.mpr ⟨Or.inr kd_90, List.forall_mem_cons.mpr ⟨Or.inr kd_91, List.forall_mem_cons.mpr ⟨Or.inr kd_92, List.forall_mem_cons.mpr ⟨Or.inr kd_93, List.forall_mem_cons.mpr ⟨Or.inr kd_94, List.forall_mem_cons.mpr ⟨Or.inr kd_95, List.forall_mem_cons.mpr ⟨Or.inr kd_96, List.forall_mem_cons.mpr ⟨Or.inr kd_97, List.forall_mem_cons.mpr ⟨Or.inr kd_98, List.forall_mem_cons.mpr ⟨Or.inr kd_99, fun _ h => absurd h List.not_mem_nil⟩⟩⟩⟩⟩⟩⟩⟩⟩⟩⟩⟩⟩⟩⟩⟩⟩⟩⟩⟩⟩⟩⟩⟩⟩
theorem ke_4 : ∀ q ∈ kt_4, kkC q := List.forall_mem_cons.mpr ⟨Or.inr kd_100, List.forall_mem_cons.mpr ⟨Or.inr kd_101, List.forall_mem_cons.mpr ⟨Or.inr kd_102, List.forall_mem_cons.mpr ⟨Or.inr kd_103, List.forall_mem_cons.mpr ⟨Or.inr kd_104, List.forall_mem_cons.mpr ⟨Or.inr kd_105, List.forall_mem_cons.mpr ⟨Or.inr kd_106, List.forall_mem_cons.mpr ⟨Or.inr kd_107, List.forall_mem_cons.mpr ⟨Or.inr kd_108, List.forall_mem_cons.mpr ⟨Or.inr kd_109, List.forall_mem_cons.mpr ⟨Or.inr kd_110, List.forall_mem_cons.mpr ⟨Or.inr kd_111, List.forall_mem_cons.mpr ⟨Or.inr kd_112, List.forall_mem_cons.mpr ⟨Or.inr kd_113, List.forall_mem_cons.mpr ⟨Or.inr kd_114, List.forall_mem_cons.mpr ⟨Or.inr kd_115, List.forall_mem_cons.mpr ⟨Or.inr kd_116, List.forall_mem_cons.mpr ⟨Or.inr kd_117, List.forall_mem_cons.mpr ⟨Or.inr kd_118, List.forall_mem_cons.mpr ⟨Or.inr kd_119, List.forall_mem_cons.mpr ⟨Or.inr kd_120, List.forall_mem_cons.mpr ⟨Or.inr kd_121, List.forall_mem_cons.mpr ⟨Or.inr kd_122, List.forall_mem_cons.mpr ⟨Or.inr kd_123, List.forall_mem_cons.mpr ⟨Or.inr kd_124, fun _ h => absurd h List.not_mem_nil⟩⟩⟩⟩⟩⟩⟩⟩⟩⟩⟩⟩⟩⟩⟩⟩⟩⟩⟩⟩⟩⟩⟩⟩⟩
theorem ke_5 : ∀ q ∈ kt_5, kkC q := List.forall_mem_cons.mpr ⟨Or.inr kd_125, List.forall_mem_cons.mpr ⟨Or.inr kd_126, List.forall_mem_cons.mpr ⟨Or.inr kd_127, List.forall_mem_cons.mpr ⟨Or.inr kd_128, List.forall_mem_cons.mpr ⟨Or.inr kd_129, List.forall_mem_cons.mpr ⟨Or.inr kd_130, List.forall_mem_cons.mpr ⟨Or.inr kd_131, List.forall_mem_cons.mpr ⟨Or.inr kd_132, List.forall_mem_cons.mpr ⟨Or.inr kd_133, List.forall_mem_cons.mpr ⟨Or.inr kd_134, List.forall_mem_cons.mpr ⟨Or.inr kd_135, List.forall_mem_cons.mpr ⟨Or.inr kd_136, List.forall_mem_cons.mpr ⟨Or.inr kd_137, List.forall_mem_cons.mpr ⟨Or.inr kd_138, List.forall_mem_cons.mpr ⟨Or.inr kd_139, List.forall_mem_cons.mpr ⟨Or.inr kd_140, List.forall_mem_cons.mpr ⟨Or.inr kd_141, List.forall_mem_cons.mpr ⟨Or.inr kd_142, List.forall_mem_cons.mpr ⟨Or.inr kd_143, List.forall_mem_cons.mpr ⟨Or.inr kd_144, List.forall_mem_cons.mpr ⟨Or.inr kd_145, List.forall_mem_cons.mpr ⟨Or.inr kd_146, List.forall_mem_cons.mpr ⟨Or.inr kd_147, List.forall_mem_cons.mpr ⟨Or.inr kd_148, List.forall_mem_cons.mpr ⟨Or.inr kd_149, fun _ h => absurd h List.not_mem_nil⟩⟩⟩⟩⟩⟩⟩⟩⟩⟩⟩⟩⟩⟩⟩⟩⟩⟩⟩⟩⟩⟩⟩⟩⟩
theorem ke_6 : ∀ q ∈ kt_6, kkC q := List.forall_mem_cons.mpr ⟨Or.inr kd_150, List.forall_mem_cons.mpr ⟨Or.inr kd_151, List.forall_mem_cons.mpr ⟨Or.inr kd_152, List.forall_mem_cons.mpr ⟨Or.inr kd_153, List.forall_mem_cons.mpr ⟨Or.inr kd_154, List.forall_mem_cons.mpr ⟨Or.inr kd_155, List.forall_mem_cons.mpr ⟨Or.inr kd_156, List.forall_mem_cons.mpr ⟨Or.inr kd_157, List.forall_mem_cons.mpr ⟨Or.inr kd_158, List.forall_mem_cons.mpr ⟨Or.inr kd_159, List.forall_mem_cons.mpr ⟨Or.inr kd_160, List.forall_mem_cons.mpr ⟨Or.inr kd_161, List.forall_mem_cons.mpr ⟨Or.inr kd_162, List.forall_mem_cons.mpr ⟨Or.inr kd_163, List.forall_mem_cons.mpr ⟨Or.inr kd_164, List.forall_mem_cons.mpr ⟨Or.inr kd_165, List.forall_mem_cons.mpr ⟨Or.inr kd_166, List.forall_mem_cons.mpr ⟨Or.inr kd_167, List.forall_mem_cons.mpr ⟨Or.inr kd_168, List.forall_mem_cons.mpr ⟨Or.inr kd_169, List.forall_mem_cons.mpr ⟨Or.inr kd_170, List.forall_mem_cons.mpr ⟨Or.inr kd_171, List.forall_mem_cons.mpr ⟨Or.inr kd_172, List.forall_mem_cons.mpr ⟨Or.inr kd_173, List.forall_mem_cons.mpr ⟨Or.inr kd_174, fun _ h => absurd h List.not_mem_nil⟩⟩⟩⟩⟩⟩⟩⟩⟩⟩⟩⟩⟩⟩⟩⟩⟩⟩⟩⟩⟩⟩⟩⟩⟩
theorem ke_7 : ∀ q ∈ kt_7, kkC q := List.forall_mem_cons.mpr ⟨Or.inr kd_175, List.forall_mem_cons.mpr ⟨Or.inr kd_176, List.forall_mem_cons.mpr ⟨Or.inr kd_177, List.forall_mem_cons.mpr ⟨Or.inr kd_178, List.forall_mem_cons.mpr ⟨Or.inr kd_179, List.forall_mem_cons.mpr ⟨Or.inr kd_180, List.forall_mem_cons.mpr ⟨Or.inr kd_181, List.forall_mem_cons.mpr ⟨Or.inr kd_182, List.forall_mem_cons.mpr ⟨Or.inr kd_183, List.forall_mem_cons.mpr ⟨Or.inr kd_184, List.forall_mem_cons.mpr ⟨Or.inr kd_185, List.forall_mem_cons.mpr ⟨Or.inr kd_186, List.forall_mem_cons.mpr ⟨Or.inr kd_187, List.forall_mem_cons.mpr ⟨Or.inr kd_188, List.forall_mem_cons.mpr ⟨Or.inr kd_189, List.forall_mem_cons.mpr ⟨Or.inr kd_190, List.forall_mem_cons.mpr ⟨Or.inr kd_191, List.forall_mem_cons.mpr ⟨Or.inr kd_192, List.forall_mem_cons.mpr ⟨Or.inr kd_193, List.forall_mem_cons.mpr ⟨Or.inr kd_194, List.forall_mem_cons.mpr ⟨Or.inr kd_195, List.forall_mem_cons.mpr ⟨Or.inr kd_196, List.forall_mem_cons.mpr ⟨Or.inr kd_197, List.forall_mem_cons.mpr ⟨Or.inr kd_198, List.forall_mem_cons.mpr ⟨Or.inr kd_199, fun _ h => absurd h List.not_mem_nil⟩⟩⟩⟩⟩⟩⟩⟩⟩⟩⟩⟩⟩⟩⟩⟩⟩⟩⟩⟩⟩⟩⟩⟩⟩
theorem ke_8 : ∀ q ∈ kt_8, kkC q := List.forall_mem_cons.mpr ⟨Or.inr kd_200, List.forall_mem_cons.mpr ⟨Or.inr kd_201, List.forall_mem_cons.mpr ⟨Or.inr kd_202, List.forall_mem_cons.mpr ⟨Or.inr kd_203, List.forall_mem_cons.mpr ⟨Or.inr kd_204, List.forall_mem_cons.mpr ⟨Or.inr kd_205, List.forall_mem_cons.mpr ⟨Or.inr kd_206, List.forall_mem_cons.mpr ⟨Or.inr kd_207, List.forall_mem_cons.mpr ⟨Or.inr kd_208, List.forall_mem_cons.mpr ⟨Or.inr kd_209, List.forall_mem_cons.mpr ⟨Or.inr kd_210, List.forall_mem_cons.mpr ⟨Or.inr kd_211, List.forall_mem_cons.mpr ⟨Or.inr kd_212, List.forall_mem_cons.mpr ⟨Or.inr kd_213, List.forall_mem_cons.mpr ⟨Or.inr kd_214, List.forall_mem_cons.mpr ⟨Or.inr kd_215, List.forall_mem_cons.mpr ⟨Or.inr kd_216, List.forall_mem_cons.mpr ⟨Or.inr kd_217, List.forall_mem_cons.mpr ⟨Or.inr kd_218, List.forall_mem_cons.mpr ⟨Or.inr kd_219, List.forall_mem_cons.mpr ⟨Or.inr kd_220, List.forall_mem_cons.mpr ⟨Or.inr kd_221, List.forall_mem_cons.mpr ⟨Or.inr kd_222, List.forall_mem_cons.mpr ⟨Or.inr kd_223, List.forall_mem_cons.mpr ⟨Or.inr kd_224, fun _ h => absurd h List.not_mem_nil⟩⟩⟩⟩⟩⟩⟩⟩⟩⟩⟩⟩⟩⟩⟩⟩⟩⟩⟩⟩⟩⟩⟩⟩⟩
theorem ke_9 : ∀ q ∈ kt_9, kkC q := List.forall_mem_cons.mpr ⟨Or.inr kd_225, List.forall_mem_cons.mpr ⟨Or.inr kd_226, List.forall_mem_cons.mpr ⟨Or.inr kd_227, List.forall_mem_cons.mpr ⟨Or.inr kd_228, List.forall_mem_cons.mpr ⟨Or.inr kd_229, List.forall_mem_cons.mpr ⟨Or.inr kd_230, List.forall_mem_cons.mpr ⟨Or.inr kd_231, List.forall_mem_cons.mpr ⟨Or.inr kd_232, List.forall_mem_cons.mpr ⟨Or.inr kd_233, List.forall_mem_cons.mpr ⟨Or.inr kd_234, List.forall_mem_cons.mpr ⟨Or.inr kd_235, List.forall_mem_cons.mpr ⟨Or.inr kd_236, List.forall_mem_cons.mpr ⟨Or.inr kd_237, List.forall_mem_cons.mpr ⟨Or.inr kd_238, List.forall_mem_cons.mpr ⟨Or.inr kd_239, List.forall_mem_cons.mpr ⟨Or.inr kd_240, List.forall_mem_cons.mpr ⟨Or.inr kd_241, List.forall_mem_cons.mpr ⟨Or.inr kd_242, List.forall_mem_cons.mpr ⟨Or.inr kd_243, List.forall_mem_cons.mpr ⟨Or.inr kd_244, List.forall_mem_cons.mpr ⟨Or.inr kd_245, List.forall_mem_cons.mpr ⟨Or.inr kd_246, List.forall_mem_cons.mpr ⟨Or.inr kd_247, List.forall_mem_cons.mpr ⟨Or.inr kd_248, List.forall_mem_cons.mpr ⟨Or.inr kd_249, fun _ h => absurd h List.not_mem_nil⟩⟩⟩⟩⟩⟩⟩⟩⟩⟩⟩⟩⟩⟩⟩⟩⟩⟩⟩⟩⟩⟩⟩⟩⟩
theorem ke_10 : ∀ q ∈ kt_10, kkC q := List.forall_mem_cons.mpr ⟨Or.inr kd_250, List.forall_mem_cons.mpr ⟨Or.inr kd_251, List.forall_mem_cons.mpr ⟨Or.inr kd_252, List.forall_mem_cons.mpr ⟨Or.inr kd_253, List.forall_mem_cons.mpr ⟨Or.inr kd_254, List.forall_mem_cons.mpr ⟨Or.inr kd_255, List.forall_mem_cons.mpr ⟨Or.inr kd_256, List.forall_mem_cons.mpr ⟨Or.inr kd_257, List.forall_mem_cons.mpr ⟨Or.inr kd_258, List.forall_mem_cons.mpr ⟨Or.inr kd_259, List.forall_mem_cons.mpr ⟨Or.inr kd_260, List.forall_mem_cons.mpr ⟨Or.inr kd_261, List.forall_mem_cons.mpr ⟨Or.inr kd_262, List.forall_mem_cons.mpr ⟨Or.inr kd_263, List.forall_mem_cons.mpr ⟨Or.inr kd_264, List.forall_mem_cons.mpr ⟨Or.inr kd_265, List.forall_mem_cons.mpr ⟨Or.inr kd_266, List.forall_mem_cons.mpr ⟨Or.inr kd_267, List.forall_mem_cons.mpr ⟨Or.inr kd_268, List.forall_mem_cons.mpr ⟨Or.inr kd_269, List.forall_mem_cons.mpr ⟨Or.inr kd_270, List.forall_mem_cons.mpr ⟨Or.inr kd_271, List.forall_mem_cons.mpr ⟨Or.inr kd_272, List.forall_mem_cons.mpr ⟨Or.inr kd_273, List.forall_mem_cons.mpr ⟨Or.inr kd_274, fun _ h => absurd h List.not_mem_nil⟩⟩⟩⟩⟩⟩⟩⟩⟩⟩⟩⟩⟩⟩⟩⟩⟩⟩⟩⟩⟩⟩⟩⟩⟩
theorem ke_11 : ∀ q ∈ kt_11, kkC q := List.forall_mem_cons.mpr ⟨Or.inr kd_275, List.forall_mem_cons.mpr ⟨Or.inr kd_276, List.forall_mem_cons.mpr ⟨Or.inr kd_277, List.forall_mem_cons.mpr ⟨Or.inr kd_278, List.forall_mem_cons.mpr ⟨Or.inr kd_279, List.forall_mem_cons.mpr ⟨Or.inr kd_280, List.forall_mem_cons.mpr ⟨Or.inr kd_281, List.forall_mem_cons.mpr ⟨Or.inr kd_282, List.forall_mem_cons.mpr ⟨Or.inr kd_283, List.forall_mem_cons.mpr ⟨Or.inr kd_284, List.forall_mem_cons.mpr ⟨Or.inr kd_285, List.forall_mem_cons.mpr ⟨Or.inr kd_286, List.forall_mem_cons.mpr ⟨Or.inr kd_287, List.forall_mem_cons.mpr ⟨Or.inr kd_288, List.forall_mem_cons.mpr ⟨Or.inr kd_289, List.forall_mem_cons.mpr ⟨Or.inr kd_290, List.forall_mem_cons.mpr ⟨Or.inr kd_291, List.forall_mem_cons.mpr ⟨Or.inr kd_292, List.forall_mem_cons.mpr ⟨Or.inr kd_293, List.forall_mem_cons.mpr ⟨Or.inr kd_294, List.forall_mem_cons.mpr ⟨Or.inr kd_295, List.forall_mem_cons.mpr ⟨Or.inr kd_296, List.forall_mem_cons.mpr ⟨Or.inr kd_297, List.forall_mem_cons.mpr ⟨Or.inr kd_298, List.forall_mem_cons.mpr ⟨Or.inr kd_299, fun _ h => absurd h List.not_mem_nil⟩⟩⟩⟩⟩⟩⟩⟩⟩⟩⟩⟩⟩⟩⟩⟩⟩⟩⟩⟩⟩⟩⟩⟩⟩
theorem ke_12 : ∀ q ∈ kt_12, kkC q := List.forall_mem_cons.mpr ⟨Or.inr kd_300, List.forall_mem_cons.mpr ⟨Or.inr kd_301, List.forall_mem_cons.mpr ⟨Or.inr kd_302, List.forall_mem_cons.mpr ⟨Or.inr kd_303, List.forall_mem_cons.mpr ⟨Or.inl rfl, fun _ h => absurd h List.not_mem_nil⟩⟩⟩⟩⟩
theorem ke_all : ∀ q ∈ kt, kkC q := List.forall_mem_append.mpr ⟨ke_0, List.forall_mem_append.mpr ⟨ke_1, List.forall_mem_append.mpr ⟨ke_2, List.forall_mem_append.mpr ⟨ke_3, List.forall_mem_append.mpr ⟨ke_4, List.forall_mem_append.mpr ⟨ke_5, List.forall_mem_append.mpr ⟨ke_6, List.forall_mem_append.mpr ⟨ke_7, List.forall_mem_append.mpr ⟨ke_8, List.forall_mem_append.mpr ⟨ke_9, List.forall_mem_append.mpr ⟨ke_10, List.forall_mem_append.mpr ⟨ke_11, ke_12⟩⟩⟩⟩⟩⟩⟩⟩⟩⟩⟩⟩
theorem kf_0 : ∀ q ∈ kt_0, kkQ q := List.forall_mem_cons.mpr ⟨⟨kp_0, kk_0⟩, List.forall_mem_cons.mpr ⟨⟨kp_1, kk_1⟩, List.forall_mem_cons.mpr ⟨⟨kp_2, kk_2⟩, List.forall_mem_cons.mpr ⟨⟨kp_3, kk_3⟩, List.forall_mem_cons.mpr ⟨⟨kp_4, kk_4⟩, List.forall_mem_cons.mpr ⟨⟨kp_5, kk_5⟩, List.forall_mem_cons.mpr ⟨⟨kp_6, kk_6⟩, List.forall_mem_cons.mpr ⟨⟨kp_7, kk_7⟩, List.forall_mem_cons.mpr ⟨⟨kp_8, kk_8⟩, List.forall_mem_cons.mpr ⟨⟨kp_9, kk_9⟩, List.forall_mem_cons.mpr ⟨⟨kp_10, kk_10⟩, List.forall_mem_cons.mpr ⟨⟨kp_11, kk_11⟩, List.forall_mem_cons.mpr ⟨⟨kp_12, kk_12⟩, List.forall_mem_cons.mpr ⟨⟨kp_13, kk_13⟩, List.forall_mem_cons.mpr ⟨⟨kp_14, kk_14⟩, List.forall_mem_cons.mpr ⟨⟨kp_15, kk_15⟩, List.forall_mem_cons.mpr ⟨⟨kp_16, kk_16⟩, List.forall_mem_cons.mpr ⟨⟨kp_17, kk_17⟩, List.forall_mem_cons.mpr ⟨⟨kp_18, kk_18⟩, List.forall_mem_cons.mpr ⟨⟨kp_19, kk_19⟩, List.forall_mem_cons.mpr ⟨⟨kp_20, kk_20⟩, List.forall_mem_cons.mpr ⟨⟨kp_21, kk_21⟩, List.forall_mem_cons.mpr ⟨⟨kp_22, kk_22⟩, List.forall_mem_cons.mpr ⟨⟨kp_23, kk_23⟩, List.forall_mem_cons.mpr ⟨⟨kp_24, kk_24⟩, fun _ h => absurd h List.not_mem_nil⟩⟩⟩⟩⟩⟩⟩⟩⟩⟩⟩⟩⟩⟩⟩⟩⟩⟩⟩⟩⟩⟩⟩⟩⟩
theorem kf_1 : ∀ q ∈ kt_1, kkQ q := List.forall_mem_cons.mpr ⟨⟨kp_25, kk_25⟩, List.forall_mem_cons.mpr ⟨⟨kp_26, kk_26⟩, List.forall_mem_cons.mpr ⟨⟨kp_27, kk_27⟩, List.forall_mem_cons.mpr ⟨⟨kp_28, kk_28⟩, List.forall_mem_cons.mpr ⟨⟨kp_29, kk_29⟩, List.forall_mem_cons.mpr ⟨⟨kp_30, kk_30⟩, List.forall_mem_cons.mpr ⟨⟨kp_31, kk_31⟩, List.forall_mem_cons.mpr ⟨⟨kp_32, kk_32⟩, List.forall_mem_cons.mpr ⟨⟨kp_33, kk_33⟩, List.forall_mem_cons.mpr ⟨⟨kp_34, kk_34⟩, List.forall_mem_cons.mpr ⟨⟨kp_35, kk_35⟩, List.forall_mem_cons.mpr ⟨⟨kp_36, kk_36⟩, List.forall_mem_cons.mpr ⟨⟨kp_37, kk_37⟩, List.forall_mem_cons.mpr ⟨⟨kp_38, kk_38⟩, List.forall_mem_cons.mpr ⟨⟨kp_39, kk_39⟩, List.forall_mem_cons.mpr ⟨⟨kp_40, kk_40⟩, List.forall_mem_cons.mpr ⟨⟨kp_41, kk_41⟩, List.forall_mem_cons.mpr ⟨⟨kp_42, kk_42⟩, List.forall_mem_cons.mpr ⟨⟨kp_43, kk_43⟩, List.forall_mem_cons.mpr ⟨⟨kp_44, kk_44⟩, List.forall_mem_cons.mpr ⟨⟨kp_45, kk_45⟩, List.forall_mem_cons.mpr ⟨⟨kp_46, kk_46⟩, List.forall_mem_cons.mpr ⟨⟨kp_47, kk_47⟩, List.forall_mem_cons.mpr ⟨⟨kp_48, kk_48⟩, List.forall_mem_cons.mpr ⟨⟨kp_49, kk_49⟩, fun _ h => absurd h List.not_mem_nil⟩⟩⟩⟩⟩⟩⟩⟩⟩⟩⟩⟩⟩⟩⟩⟩⟩⟩⟩⟩⟩⟩⟩⟩⟩
theorem kf_2 : ∀ q ∈ kt_2, kkQ q := List.forall_mem_cons.mpr ⟨⟨kp_50, kk_50⟩, List.forall_mem_cons.mpr ⟨⟨kp_51, kk_51⟩, List.forall_mem_cons.mpr ⟨⟨kp_52, kk_52⟩, List.forall_mem_cons.mpr ⟨⟨kp_53, kk_53⟩, List.forall_mem_cons.mpr ⟨⟨kp_54, kk_54⟩, List.forall_mem_cons.mpr ⟨⟨kp_55, kk_55⟩, List.forall_mem_cons.mpr ⟨⟨kp_56, kk_56⟩, List.forall_mem_cons.mpr ⟨⟨kp_57, kk_57⟩, List.forall_mem_cons.mpr ⟨⟨kp_58, kk_58⟩, List.forall_mem_cons.mpr ⟨⟨kp_59, kk_59⟩, List.forall_mem_cons.mpr ⟨⟨kp_60, kk_60⟩, List.forall_mem_cons.mpr ⟨⟨kp_61, kk_61⟩, List.forall_mem_cons.mpr ⟨⟨kp_62, kk_62⟩, List.forall_mem_cons.mpr ⟨⟨kp_63, kk_63⟩, List.forall_mem_cons.mpr ⟨⟨kp_64, kk_64⟩, List.forall_mem_cons.mpr ⟨⟨kp_65, kk_65⟩, List.forall_mem_cons.mpr ⟨⟨kp_66, kk_66⟩, List.forall_mem_cons.mpr ⟨⟨kp_67, kk_67⟩, List.forall_mem_cons.mpr ⟨⟨kp_68, kk_68⟩, List.forall_mem_cons.mpr ⟨⟨kp_69, kk_69⟩, List.forall_mem_cons.mpr ⟨⟨kp_70, kk_70⟩, List.forall_mem_cons.mpr ⟨⟨kp_71, kk_71⟩, List.forall_mem_cons.mpr ⟨⟨kp_72, kk_72⟩, List.forall_mem_cons.mpr ⟨⟨kp_73, kk_73⟩, List.forall_mem_cons.mpr ⟨⟨kp_74, kk_74⟩, fun _ h => absurd h List.not_mem_nil⟩⟩⟩⟩⟩⟩⟩⟩⟩⟩⟩⟩⟩⟩⟩⟩⟩⟩⟩⟩⟩⟩⟩⟩⟩
theorem kf_3 : ∀ q ∈ kt_3, kkQ q := List.forall_mem_cons.mpr ⟨⟨kp_75, kk_75⟩, List.forall_mem_cons.mpr ⟨⟨kp_76, kk_76⟩, List.forall_mem_cons.mpr ⟨⟨kp_77, kk_77⟩, List.forall_mem_cons.mpr ⟨⟨kp_78, kk_78⟩, List.forall_mem_cons.mpr ⟨⟨kp_79, kk_79⟩, List.forall_mem_cons.mpr ⟨⟨kp_80, kk_80⟩, List.forall_mem_cons.mpr ⟨⟨kp_81, kk_81⟩, List.forall_mem_cons.mpr ⟨⟨kp_82, kk_82⟩, List.forall_mem_cons.mpr ⟨⟨kp_83, kk_83⟩, List.forall_mem_cons.mpr ⟨⟨kp_84, kk_84⟩, List.forall_mem_cons.mpr ⟨⟨kp_85, kk_85⟩, List.forall_mem_cons.mpr ⟨⟨kp_86, kk_86⟩, List.forall_mem_cons.mpr ⟨⟨kp_87, kk_87⟩, List.forall_mem_cons.mpr ⟨⟨kp_88, kk_88⟩, List.forall_mem_cons.mpr ⟨⟨kp_89, kk_89⟩, List.forall_mem_cons.mpr ⟨⟨kp_90, kk_90⟩, List.forall_mem_cons.mpr ⟨⟨kp_91, kk_91⟩, List.forall_mem_cons.mpr ⟨⟨kp_92, kk_92⟩, List.forall_mem_cons.mpr ⟨⟨kp_93, kk_93⟩, List.forall_mem_cons.mpr ⟨⟨kp_94, kk_94⟩, List.forall_mem_cons.mpr ⟨⟨kp_95, kk_95⟩, List.forall_mem_cons.mpr ⟨⟨kp_96, kk_96⟩, List.forall_mem_cons.mpr ⟨⟨kp_97, kk_97⟩, List.forall_mem_cons.mpr ⟨⟨kp_98, kk_98⟩, List.forall_mem_cons.mpr ⟨⟨kp_99, kk_99⟩, fun _ h => absurd h List.not_mem_nil⟩⟩⟩⟩⟩⟩⟩⟩⟩⟩⟩⟩⟩⟩⟩⟩⟩⟩⟩⟩⟩⟩⟩⟩⟩
theorem kf_4 : ∀ q ∈ kt_4, kkQ q := List.forall_mem_cons.mpr ⟨⟨kp_100, kk_100⟩, List.forall_mem_cons.mpr ⟨⟨kp_101, kk_101⟩, List.forall_mem_cons.mpr ⟨⟨kp_102, kk_102⟩, List.forall_mem_cons.mpr ⟨⟨kp_103, kk_103⟩, List.forall_mem_cons.mpr ⟨⟨kp_104, kk_104⟩, List.forall_mem_cons.mpr ⟨⟨kp_105, kk_105⟩, List.forall_mem_cons.mpr ⟨⟨kp_106, kk_106⟩, List.forall_mem_cons.mpr ⟨⟨kp_107, kk_107⟩, List.forall_mem_cons.mpr ⟨⟨kp_108, kk_108⟩, List.forall_mem_cons.mpr ⟨⟨kp_109, kk_109⟩, List.forall_mem_cons.mpr ⟨⟨kp_110, kk_110⟩, List.forall_mem_cons.mpr ⟨⟨kp_111, kk_111⟩, List.forall_mem_cons.mpr ⟨⟨kp_112, kk_112⟩, List.forall_mem_cons.mpr ⟨⟨kp_113, kk_113⟩, List.forall_mem_cons.mpr ⟨⟨kp_114, kk_114⟩, List.forall_mem_cons.mpr ⟨⟨kp_115, kk_115⟩, List.forall_mem_cons.mpr ⟨⟨kp_116, kk_116⟩, List.forall_mem_cons.mpr ⟨⟨kp_117, kk_117⟩, List.forall_mem_cons.mpr ⟨⟨kp_118, kk_118⟩, List.forall_mem_cons.mpr ⟨⟨kp_119, kk_119⟩, List.forall_mem_cons.mpr ⟨⟨kp_120, kk_120⟩, List.forall_mem_cons.mpr ⟨⟨kp_121, kk_121⟩, List.forall_mem_cons.mpr ⟨⟨kp_122, kk_122⟩, List.forall_mem_cons.mpr ⟨⟨kp_123, kk_123⟩, List.forall_mem_cons.mpr ⟨⟨kp_124, kk_124⟩, fun _ h => absurd h List.not_mem_nil⟩⟩⟩⟩⟩⟩⟩⟩⟩⟩⟩⟩⟩⟩⟩⟩⟩⟩⟩⟩⟩⟩⟩⟩⟩
theorem kf_5 : ∀ q ∈ kt_5, kkQ q := List.forall_mem_cons.mpr ⟨⟨kp_125, kk_125⟩, List.forall_mem_cons.mpr ⟨⟨kp_126, kk_126⟩, List.forall_mem_cons.mpr ⟨⟨kp_127, kk_127⟩, List.forall_mem_cons.mpr ⟨⟨kp_128, kk_128⟩, List.forall_mem_cons.mpr ⟨⟨kp_129, kk_129⟩, List.forall_mem_cons.mpr ⟨⟨kp_130, kk_130⟩, List.forall_mem_cons.mpr ⟨⟨kp_131, kk_131⟩, List.forall_mem_cons.mpr ⟨⟨kp_132, kk_132⟩, List.forall_mem_cons.mpr ⟨⟨kp_133, kk_133⟩, List.forall_mem_cons.mpr ⟨⟨kp_134, kk_134⟩, List.forall_mem_cons.mpr ⟨⟨kp_135, kk_135⟩, List.forall_mem_cons.mpr ⟨⟨kp_136, kk_136⟩, List.forall_mem_cons.mpr ⟨⟨kp_137, kk_137⟩, List.forall_mem_cons.mpr ⟨⟨kp_138, kk_138⟩, List.forall_mem_cons.mpr ⟨⟨kp_139, kk_139⟩, List.forall_mem_cons.mpr ⟨⟨kp_140, kk_140⟩, List.forall_mem_cons.mpr ⟨⟨kp_141, kk_141⟩, List.forall_mem_cons.mpr ⟨⟨kp_142, kk_142⟩, List.forall_mem_cons.mpr ⟨⟨kp_143, kk_143⟩, List.forall_mem_cons.mpr ⟨⟨kp_144, kk_144⟩, List.forall_mem_cons.mpr ⟨⟨kp_145, kk_145⟩, List.forall_mem_cons.mpr ⟨⟨kp_146, kk_146⟩, List.forall_mem_cons.mpr ⟨⟨kp_147, kk_147⟩, List.forall_mem_cons.mpr ⟨⟨kp_148, kk_148⟩, List.forall_mem_cons.mpr ⟨⟨kp_149, kk_149⟩, fun _ h => absurd h List.not_mem_nil⟩⟩⟩⟩⟩⟩⟩⟩⟩⟩⟩⟩⟩⟩⟩⟩⟩⟩⟩⟩⟩⟩⟩⟩⟩
theorem kf_6 : ∀ q ∈ kt_6, kkQ q := List.forall_mem_cons.mpr ⟨⟨kp_150, kk_150⟩, List.forall_mem_cons.mpr ⟨⟨kp_151, kk_151⟩, List.forall_mem_cons.mpr ⟨⟨kp_152, kk_152⟩, List.forall_mem_cons.mpr ⟨⟨kp_153, kk_153⟩, List.forall_mem_cons.mpr ⟨⟨kp_154, kk_154⟩, List.forall_mem_cons.mpr ⟨⟨kp_155, kk_155⟩, List.forall_mem_cons.mpr ⟨⟨kp_156, kk_156⟩, List.forall_mem_cons.mpr ⟨⟨kp_157, kk_157⟩, List.forall_mem_cons.mpr ⟨⟨kp_158, kk_158⟩, List.forall_mem_cons.mpr ⟨⟨kp_159, kk_159⟩, List.forall_mem_cons.mpr ⟨⟨kp_160, kk_160⟩, List.forall_mem_cons.mpr ⟨⟨kp_161, kk_161⟩, List.forall_mem_cons.mpr ⟨⟨kp_162, kk_162⟩, List.forall_mem_cons.mpr ⟨⟨kp_163, kk_163⟩, List.forall_mem_cons.mpr ⟨⟨kp_164, kk_164⟩, List.forall_mem_cons.mpr ⟨⟨kp_165, kk_165⟩, List.forall_mem_cons.mpr ⟨⟨kp_166, kk_166⟩, List.forall_mem_cons.mpr ⟨⟨kp_167, kk_167⟩, List.forall_mem_cons.mpr ⟨⟨kp_168, kk_168⟩, List.forall_mem_cons.mpr ⟨⟨kp_169, kk_169⟩, List.forall_mem_cons.mpr ⟨⟨kp_170, kk_170⟩, List.forall_mem_cons.mpr ⟨⟨kp_171, kk_171⟩, List.forall_mem_cons.mpr ⟨⟨kp_172, kk_172⟩, List.forall_mem_cons.mpr ⟨⟨kp_173, kk_173⟩, List.forall_mem_cons.mpr ⟨⟨kp_174, kk_174⟩, fun _ h => absurd h List.not_mem_nil⟩⟩⟩⟩⟩⟩⟩⟩⟩⟩⟩⟩⟩⟩⟩⟩⟩⟩⟩⟩⟩⟩⟩⟩⟩
theorem kf_7 : ∀ q ∈ kt_7, kkQ q := List.forall_mem_cons.mpr ⟨⟨kp_175, kk_175⟩, List.forall_mem_cons.mpr ⟨⟨kp_176, kk_176⟩, List.forall_mem_cons.mpr ⟨⟨kp_177, kk_177⟩, List.forall_mem_cons.mpr ⟨⟨kp_178, kk_178⟩, List.forall_mem_cons.mpr ⟨⟨kp_179, kk_179⟩, List.forall_mem_cons.mpr ⟨⟨kp_180, kk_180⟩, List.forall_mem_cons.mpr ⟨⟨kp_181, kk_181⟩, List.forall_mem_cons.mpr ⟨⟨kp_182, kk_182⟩, List.forall_mem_cons.mpr ⟨⟨kp_183, kk_183⟩, List.forall_mem_cons.mpr ⟨⟨kp_184, kk_184⟩, List.forall_mem_cons.mpr ⟨⟨kp_185, kk_185⟩, List.forall_mem_cons.mpr ⟨⟨kp_186, kk_186⟩, List.forall_mem_cons.mpr ⟨⟨kp_187, kk_187⟩, List.forall_mem_cons.mpr ⟨⟨kp_188, kk_188⟩, List.forall_mem_cons.mpr ⟨⟨kp_189, kk_189⟩, List.forall_mem_cons.mpr ⟨⟨kp_190, kk_190⟩, List.forall_mem_cons.mpr ⟨⟨kp_191, kk_191⟩, List.forall_mem_cons.mpr ⟨⟨kp_192, kk_192⟩, List.forall_mem_cons.mpr ⟨⟨kp_193, kk_193⟩, List.forall_mem_cons.mpr ⟨⟨kp_194, kk_194⟩, List.forall_mem_cons.mpr ⟨⟨kp_195, kk_195⟩, List.forall_mem_cons.mpr ⟨⟨kp_196, kk_196⟩, List.forall_mem_cons.mpr ⟨⟨kp_197, kk_197⟩, List.forall_mem_cons.mpr ⟨⟨kp_198, kk_198⟩, List.forall_mem_cons.mpr ⟨⟨kp_199, kk_199⟩, fun _ h => absurd h List.not_mem_nil⟩⟩⟩⟩⟩⟩⟩⟩⟩⟩⟩⟩⟩⟩⟩⟩⟩⟩⟩⟩⟩⟩⟩⟩⟩
theorem kf_8 : ∀ q ∈ kt_8, kkQ q := List.forall_mem_cons.mpr ⟨⟨kp_200, kk_200⟩, List.forall_mem_cons.mpr ⟨⟨kp_201, kk_201⟩, List.forall_mem_cons.mpr ⟨⟨kp_202, kk_202⟩, List.forall_mem_cons.mpr ⟨⟨kp_203, kk_203⟩, List.forall_mem_cons.mpr ⟨⟨kp_204, kk_204⟩, List.forall_mem_cons.mpr ⟨⟨kp_205, kk_205⟩, List.forall_mem_cons.mpr ⟨⟨kp_206, kk_206⟩, List.forall_mem_cons.mpr ⟨⟨kp_207, kk_207⟩, List.forall_mem_cons.mpr ⟨⟨kp_208, kk_208⟩, List.forall_mem_cons.mpr ⟨⟨kp_209, kk_209⟩, List.forall_mem_cons.mpr ⟨⟨kp_210, kk_210⟩, List.forall_mem_cons.mpr ⟨⟨kp_211, kk_211⟩, List.forall_mem_cons.mpr ⟨⟨kp_212, kk_212⟩, List.forall_mem_cons.mpr ⟨⟨kp_213, kk_213⟩, List.forall_mem_cons.mpr ⟨⟨kp_214, kk_214⟩, List.forall_mem_cons.mpr ⟨⟨kp_215, kk_215⟩, List.forall_mem_cons.mpr ⟨⟨kp_216, kk_216⟩, List.forall_mem_cons.mpr ⟨⟨kp_217, kk_217⟩, List.forall_mem_cons.mpr ⟨⟨kp_218, kk_218⟩, List.forall_mem_cons.mpr ⟨⟨kp_219, kk_219⟩, List.forall_mem_cons.mpr ⟨⟨kp_220, kk_220⟩, List.forall_mem_cons.mpr ⟨⟨kp_221, kk_221⟩, List.forall_mem_cons.mpr ⟨⟨kp_222, kk_222⟩, List.forall_mem_cons.mpr ⟨⟨kp_223, kk_223⟩, List.forall_mem_cons.mpr ⟨⟨kp_224, kk_224⟩, fun _ h => absurd h List.not_mem_nil⟩⟩⟩⟩⟩⟩⟩⟩⟩⟩⟩⟩⟩⟩⟩⟩⟩⟩⟩⟩⟩⟩⟩⟩⟩
theorem kf_9 : ∀ q ∈ kt_9, kkQ q := List.forall_mem_cons.mpr ⟨⟨kp_225, kk_225⟩, List.forall_mem_cons.mpr ⟨⟨kp_226, kk_226⟩, List.forall_mem_cons.mpr ⟨⟨kp_227, kk_227⟩, List.forall_mem_cons.mpr ⟨⟨kp_228, kk_228⟩, List.forall_mem_cons.mpr ⟨⟨kp_229, kk_229⟩, List.forall_mem_cons.mpr ⟨⟨kp_230, kk_230⟩, List.forall_mem_cons.mpr ⟨⟨kp_231, kk_231⟩, List.forall_mem_cons.mpr ⟨⟨kp_232, kk_232⟩, List.forall_mem_cons.mpr ⟨⟨kp_233, kk_233⟩, List.forall_mem_cons.mpr ⟨⟨kp_234, kk_234⟩, List.forall_mem_cons.mpr ⟨⟨kp_235, kk_235⟩, List.forall_mem_cons.mpr ⟨⟨kp_236, kk_236⟩, List.forall_mem_cons.mpr ⟨⟨kp_237, kk_237⟩, List.forall_mem_cons.mpr ⟨⟨kp_238, kk_238⟩, List.forall_mem_cons.mpr ⟨⟨kp_239, kk_239⟩, List.forall_mem_cons.mpr ⟨⟨kp_240, kk_240⟩, List.forall_mem_cons.mpr ⟨⟨kp_241, kk_241⟩, List.forall_mem_cons.mpr ⟨⟨kp_242, kk_242⟩, List.forall_mem_cons.mpr ⟨⟨kp_243, kk_243⟩, List.forall_mem_cons.mpr ⟨⟨kp_244, kk_244⟩, List.forall_mem_cons.mpr ⟨⟨kp_245, kk_245⟩, List.forall_mem_cons.mpr ⟨⟨kp_246, kk_246⟩, List.forall_mem_cons.mpr ⟨⟨kp_247, kk_247⟩, List.forall_mem_cons.mpr ⟨⟨kp_248, kk_248⟩, List.forall_mem_cons.mpr ⟨⟨kp_249, kk_249⟩, fun _ h => absurd h List.not_mem_nil⟩⟩⟩⟩⟩⟩⟩⟩⟩⟩⟩⟩⟩⟩⟩⟩⟩⟩⟩⟩⟩⟩⟩⟩⟩
theorem kf_10 : ∀ q ∈ kt_10, kkQ q := List.forall_mem_cons.mpr ⟨⟨kp_250, kk_250⟩, List.forall_mem_cons.mpr ⟨⟨kp_251, kk_251⟩, List.forall_mem_cons.mpr ⟨⟨kp_252, kk_252⟩, List.forall_mem_cons.mpr ⟨⟨kp_253, kk_253⟩, List.forall_mem_cons.mpr ⟨⟨kp_254, kk_254⟩, List.forall_mem_cons.mpr ⟨⟨kp_255, kk_255⟩, List.forall_mem_cons.mpr ⟨⟨kp_256, kk_256⟩, List.forall_mem_cons.mpr ⟨⟨kp_257, kk_257⟩, List.forall_mem_cons.mpr ⟨⟨kp_258, kk_258⟩, List.forall_mem_cons.mpr ⟨⟨kp_259, kk_259⟩, List.forall_mem_cons.mpr ⟨⟨kp_260, kk_260⟩, List.forall_mem_cons.mpr ⟨⟨kp_261, kk_261⟩, List.forall_mem_cons.mpr ⟨⟨kp_262, kk_262⟩, List.forall_mem_cons.mpr ⟨⟨kp_263, kk_263⟩, List.forall_mem_cons.mpr ⟨⟨kp_264, kk_264⟩, List.forall_mem_cons.mpr ⟨⟨kp_265, kk_265⟩, List.forall_mem_cons.mpr ⟨⟨kp_266, kk_266⟩, List.forall_mem_cons.mpr ⟨⟨kp_267, kk_267⟩, List.forall_mem_cons.mpr ⟨⟨kp_268, kk_268⟩, List.forall_mem_cons.mpr ⟨⟨kp_269, kk_269⟩, List.forall_mem_cons.mpr ⟨⟨kp_270, kk_270⟩, List.forall_mem_cons.mpr ⟨⟨kp_271, kk_271⟩, List.forall_mem_cons.mpr ⟨⟨kp_272, kk_272⟩, List.forall_mem_cons.mpr ⟨⟨kp_273, kk_273⟩, List.forall_mem_cons.mpr ⟨⟨kp_274, kk_274⟩, fun _ h => absurd h List.not_mem_nil⟩⟩⟩⟩⟩⟩⟩⟩⟩⟩⟩⟩⟩⟩⟩⟩⟩⟩⟩⟩⟩⟩⟩⟩⟩
theorem kf_11 : ∀ q ∈ kt_11, kkQ q := List.forall_mem_cons.mpr ⟨⟨kp_275, kk_275⟩, List.forall_mem_cons.mpr ⟨⟨kp_276, kk_276⟩, List.forall_mem_cons.mpr ⟨⟨kp_277, kk_277⟩, List.forall_mem_cons.mpr ⟨⟨kp_278, kk_278⟩, List.forall_mem_cons.mpr ⟨⟨kp_279, kk_279⟩, List.forall_mem_cons.mpr ⟨⟨kp_280, kk_280⟩, List.forall_mem_cons.mpr ⟨⟨kp_281, kk_281⟩, List.forall_mem_cons.mpr ⟨⟨kp_282, kk_282⟩, List.forall_mem_cons.mpr ⟨⟨kp_283, kk_283⟩, List.forall_mem_cons.mpr ⟨⟨kp_284, kk_284⟩, List.forall_mem_cons.mpr ⟨⟨kp_285, kk_285⟩, List.forall_mem_cons.mpr ⟨⟨kp_286, kk_286⟩, List.forall_mem_cons.mpr ⟨⟨kp_287, kk_287⟩, List.forall_mem_cons.mpr ⟨⟨kp_288, kk_288⟩, List.forall_mem_cons.mpr ⟨⟨kp_289, kk_289⟩, List.forall_mem_cons.mpr ⟨⟨kp_290, kk_290⟩, List.forall_mem_cons.mpr ⟨⟨kp_291, kk_291⟩, List.forall_mem_cons.mpr ⟨⟨kp_292, kk_292⟩, List.forall_mem_cons.mpr ⟨⟨kp_293, kk_293⟩, List.forall_mem_cons.mpr ⟨⟨kp_294, kk_294⟩, List.forall_mem_cons.mpr ⟨⟨kp_295, kk_295⟩, List.forall_mem_cons.mpr ⟨⟨kp_296, kk_296⟩, List.forall_mem_cons.mpr ⟨⟨kp_297, kk_297⟩, List.forall_mem_cons.mpr ⟨⟨kp_298, kk_298⟩, List.forall_mem_cons.mpr ⟨⟨kp_299, kk_299⟩, fun _ h => absurd h List.not_mem_nil⟩⟩⟩⟩⟩⟩⟩⟩⟩⟩⟩⟩⟩⟩⟩⟩⟩⟩⟩⟩⟩⟩⟩⟩⟩
theorem kf_12 : ∀ q ∈ kt_12, kkQ q := List.forall_mem_cons.mpr ⟨⟨kp_300, kk_300⟩, List.forall_mem_cons.mpr ⟨⟨kp_301, kk_301⟩, List.forall_mem_cons.mpr ⟨⟨kp_302, kk_302⟩, List.forall_mem_cons.mpr ⟨⟨kp_303, kk_303⟩, List.forall_mem_cons.mpr ⟨⟨kp_304, kk_304⟩, fun _ h => absurd h List.not_mem_nil⟩⟩⟩⟩⟩
theorem km_0 : (kt_0.all kkM2) = true := by decide +kernel
theorem km_1 : (kt_1.all kkM2) = true := by decide +kernel
theorem km_2 : (kt_2.all kkM2) = true := by decide +kernel
theorem km_3 : (kt_3.all kkM2) = true := by decide +kernel
theorem km_4 : (kt_4.all kkM2) = true := by decide +kernel
theorem km_5 : (kt_5.all kkM2) = true := by decide +kernel
theorem km_6 : (kt_6.all kkM2) = true := by decide +kernel
theorem km_7 : (kt_7.all kkM2) = true := by decide +kernel
theorem km_8 : (kt_8.all kkM2) = true := by decide +kernel
theorem km_9 : (kt_9.all kkM2) = true := by decide +kernel
theorem km_10 : (kt_10.all kkM2) = true := by decide +kernel
theorem km_11 : (kt_11.all kkM2) = true := by decide +kernel
theorem km_12 : (kt_12.all kkM2) = true := by decide +kernel
theorem km_all : ∀ q ∈ kt, kkM2 q = true := List.forall_mem_append.mpr ⟨List.all_eq_true.mp km_0, List.forall_mem_append.mpr ⟨List.all_eq_true.mp km_1, List.forall_mem_append.mpr ⟨List.all_eq_true.mp km_2, List.forall_mem_append.mpr ⟨List.all_eq_true.mp km_3, List.forall_mem_append.mpr ⟨List.all_eq_true.mp km_4, List.forall_mem_append.mpr ⟨List.all_eq_true.mp km_5, List.forall_mem_append.mpr ⟨List.all_eq_true.mp km_6, List.forall_mem_append.mpr ⟨List.all_eq_true.mp km_7, List.forall_mem_append.mpr ⟨List.all_eq_true.mp km_8, List.forall_mem_append.mpr ⟨List.all_eq_true.mp km_9, List.forall_mem_append.mpr ⟨List.all_eq_true.mp km_10, List.forall_mem_append.mpr ⟨List.all_eq_true.mp km_11, List.all_eq_true.mp km_12⟩⟩⟩⟩⟩⟩⟩⟩⟩⟩⟩⟩
theorem kK_lt : ((List.range 304).all fun y => decide ((kK y).1 < 3)) = true := by decide +kernel
theorem kf_all : ∀ q ∈ kt, kkQ q := List.forall_mem_append.mpr ⟨kf_0, List.forall_mem_append.mpr ⟨kf_1, List.forall_mem_append.mpr ⟨kf_2, List.forall_mem_append.mpr ⟨kf_3, List.forall_mem_append.mpr ⟨kf_4, List.forall_mem_append.mpr ⟨kf_5, List.forall_mem_append.mpr ⟨kf_6, List.forall_mem_append.mpr ⟨kf_7, List.forall_mem_append.mpr ⟨kf_8, List.forall_mem_append.mpr ⟨kf_9, List.forall_mem_append.mpr ⟨kf_10, List.forall_mem_append.mpr ⟨kf_11, kf_12⟩⟩⟩⟩⟩⟩⟩⟩⟩⟩⟩⟩
theorem ko_oi : Cond.instanceMethod Lib.objectInit ∈ kg_T := wd_in (pl := 26) (by decide +kernel) rfl
theorem ko_oc : Cond.code Lib.objectInit ⟨#[0xb1]⟩ 1 none ∈ kg_T := wd_in (pl := 27) (by decide +kernel) rfl
theorem ko_as : Cond.static arraycopyName ∈ kg_T := wd_in (pl := 503) (by decide +kernel) rfl
theorem ko_an : Cond.native arraycopyName ∈ kg_T := wd_in (pl := 504) (by decide +kernel) rfl
theorem ko_ai : Cond.initialized "java/lang/System" ∈ kg_T := wd_in (pl := 14) (by decide +kernel) rfl
theorem ko_ac : Cond.arrayClass .int ∈ kg_T := wd_in (pl := 130) (by decide +kernel) rfl
theorem kn_ins {c : Nat} (h : c < 12) : Cond.instantiable (kn_R c) (kn_N c) ∈ kg_T := by
  match c, h with
  | 0, _ => exact wd_in (pl := 132) (by decide +kernel) rfl
  | 1, _ => exact wd_in (pl := 404) (by decide +kernel) rfl
  | 2, _ => exact wd_in (pl := 29) (by decide +kernel) rfl
  | 3, _ => exact wd_in (pl := 35) (by decide +kernel) rfl
  | 4, _ => exact wd_in (pl := 160) (by decide +kernel) rfl
  | 5, _ => exact wd_in (pl := 304) (by decide +kernel) rfl
  | 6, _ => exact wd_in (pl := 329) (by decide +kernel) rfl
  | 7, _ => exact wd_in (pl := 221) (by decide +kernel) rfl
  | 8, _ => exact wd_in (pl := 166) (by decide +kernel) rfl
  | 9, _ => exact wd_in (pl := 378) (by decide +kernel) rfl
  | 10, _ => exact wd_in (pl := 21) (by decide +kernel) rfl
  | 11, _ => exact wd_in (pl := 1120) (by decide +kernel) rfl
  | n + 12, h => omega
theorem kn_ini {c : Nat} (h : c < 12) : Cond.initialized (kn_R c) ∈ kg_T := by
  match c, h with
  | 0, _ => exact wd_in (pl := 4) (by decide +kernel) rfl
  | 1, _ => exact wd_in (pl := 12) (by decide +kernel) rfl
  | 2, _ => exact wd_in (pl := 2) (by decide +kernel) rfl
  | 3, _ => exact wd_in (pl := 3) (by decide +kernel) rfl
  | 4, _ => exact wd_in (pl := 5) (by decide +kernel) rfl
  | 5, _ => exact wd_in (pl := 9) (by decide +kernel) rfl
  | 6, _ => exact wd_in (pl := 10) (by decide +kernel) rfl
  | 7, _ => exact wd_in (pl := 7) (by decide +kernel) rfl
  | 8, _ => exact wd_in (pl := 6) (by decide +kernel) rfl
  | 9, _ => exact wd_in (pl := 11) (by decide +kernel) rfl
  | 10, _ => exact wd_in (pl := 1) (by decide +kernel) rfl
  | 11, _ => exact wd_in (pl := 13) (by decide +kernel) rfl
  | n + 12, h => omega
