section
-- ===== PART A: goes FIRST, ahead of the names: the tables' words, and 'selects' of the private methods out of them =====
/-- a private method of a class that the tables say can be made, by its rows of tables_1 -/
def lw_okq (q : MethodName × Nat) : Prop := (q.1.cls ≠ "java/lang/invoke/MethodHandle" ∧ q.1.cls ≠ "java/lang/invoke/VarHandle") ∧ Cond.instantiable q.1.cls q.2 ∈ tables_1 ∧ Cond.privateMethod q.1 ∈ tables_1 ∧ Cond.instanceMethod q.1 ∈ tables_1
theorem lw_p0 : lw_okq (⟨"QuillDesk$Desk", "takeTurn", "(LQuillDesk$Firm;IZ)I"⟩, 15) := ⟨⟨by decide +kernel, by decide +kernel⟩, List.mem_of_getElem? (i := 29) (by decide +kernel), List.mem_of_getElem? (i := 520) (by decide +kernel), List.mem_of_getElem? (i := 521) (by decide +kernel)⟩
theorem lw_p1 : lw_okq (⟨"QuillDesk$Desk", "learn", "(LQuillDesk$Firm;I)V"⟩, 15) := ⟨⟨by decide +kernel, by decide +kernel⟩, List.mem_of_getElem? (i := 29) (by decide +kernel), List.mem_of_getElem? (i := 547) (by decide +kernel), List.mem_of_getElem? (i := 548) (by decide +kernel)⟩
theorem lw_p2 : lw_okq (⟨"QuillDesk$Law", "work", "(II)I"⟩, 5) := ⟨⟨by decide +kernel, by decide +kernel⟩, List.mem_of_getElem? (i := 160) (by decide +kernel), List.mem_of_getElem? (i := 571) (by decide +kernel), List.mem_of_getElem? (i := 572) (by decide +kernel)⟩
theorem lw_p3 : lw_okq (⟨"QuillDesk$Desk", "note", "(LQuillDesk$Firm;IIIZ)V"⟩, 15) := ⟨⟨by decide +kernel, by decide +kernel⟩, List.mem_of_getElem? (i := 29) (by decide +kernel), List.mem_of_getElem? (i := 597) (by decide +kernel), List.mem_of_getElem? (i := 598) (by decide +kernel)⟩
theorem lw_p4 : lw_okq (⟨"QuillDesk$Reader", "cutTokens", "()V"⟩, 11) := ⟨⟨by decide +kernel, by decide +kernel⟩, List.mem_of_getElem? (i := 329) (by decide +kernel), List.mem_of_getElem? (i := 634) (by decide +kernel), List.mem_of_getElem? (i := 635) (by decide +kernel)⟩
theorem lw_p5 : lw_okq (⟨"QuillDesk$Reader", "goesOn", "(I)Z"⟩, 11) := ⟨⟨by decide +kernel, by decide +kernel⟩, List.mem_of_getElem? (i := 329) (by decide +kernel), List.mem_of_getElem? (i := 638) (by decide +kernel), List.mem_of_getElem? (i := 639) (by decide +kernel)⟩
theorem lw_p6 : lw_okq (⟨"QuillDesk$Reader", "kindAt", "(I)I"⟩, 11) := ⟨⟨by decide +kernel, by decide +kernel⟩, List.mem_of_getElem? (i := 329) (by decide +kernel), List.mem_of_getElem? (i := 648) (by decide +kernel), List.mem_of_getElem? (i := 649) (by decide +kernel)⟩
theorem lw_p7 : lw_okq (⟨"QuillDesk$Reader", "wordAt", "(I)I"⟩, 11) := ⟨⟨by decide +kernel, by decide +kernel⟩, List.mem_of_getElem? (i := 329) (by decide +kernel), List.mem_of_getElem? (i := 652) (by decide +kernel), List.mem_of_getElem? (i := 653) (by decide +kernel)⟩
theorem lw_p8 : lw_okq (⟨"QuillDesk$Reader", "isSame", "(III)Z"⟩, 11) := ⟨⟨by decide +kernel, by decide +kernel⟩, List.mem_of_getElem? (i := 329) (by decide +kernel), List.mem_of_getElem? (i := 705) (by decide +kernel), List.mem_of_getElem? (i := 706) (by decide +kernel)⟩
theorem lw_p9 : lw_okq (⟨"QuillDesk$Reader", "numberAt", "(I)I"⟩, 11) := ⟨⟨by decide +kernel, by decide +kernel⟩, List.mem_of_getElem? (i := 329) (by decide +kernel), List.mem_of_getElem? (i := 709) (by decide +kernel), List.mem_of_getElem? (i := 710) (by decide +kernel)⟩
theorem lw_p10 : lw_okq (⟨"QuillDesk$Reader", "token", "()I"⟩, 11) := ⟨⟨by decide +kernel, by decide +kernel⟩, List.mem_of_getElem? (i := 329) (by decide +kernel), List.mem_of_getElem? (i := 717) (by decide +kernel), List.mem_of_getElem? (i := 718) (by decide +kernel)⟩
theorem lw_p11 : lw_okq (⟨"QuillDesk$Reader", "beginsLine", "(I)Z"⟩, 11) := ⟨⟨by decide +kernel, by decide +kernel⟩, List.mem_of_getElem? (i := 329) (by decide +kernel), List.mem_of_getElem? (i := 721) (by decide +kernel), List.mem_of_getElem? (i := 722) (by decide +kernel)⟩
theorem lw_p12 : lw_okq (⟨"QuillDesk$Reader", "refuse", "(I)Z"⟩, 11) := ⟨⟨by decide +kernel, by decide +kernel⟩, List.mem_of_getElem? (i := 329) (by decide +kernel), List.mem_of_getElem? (i := 725) (by decide +kernel), List.mem_of_getElem? (i := 726) (by decide +kernel)⟩
theorem lw_p13 : lw_okq (⟨"QuillDesk$Reader", "lawLine", "()Z"⟩, 11) := ⟨⟨by decide +kernel, by decide +kernel⟩, List.mem_of_getElem? (i := 329) (by decide +kernel), List.mem_of_getElem? (i := 729) (by decide +kernel), List.mem_of_getElem? (i := 730) (by decide +kernel)⟩
theorem lw_p14 : lw_okq (⟨"QuillDesk$Reader", "sumUp", "()Z"⟩, 11) := ⟨⟨by decide +kernel, by decide +kernel⟩, List.mem_of_getElem? (i := 329) (by decide +kernel), List.mem_of_getElem? (i := 733) (by decide +kernel), List.mem_of_getElem? (i := 734) (by decide +kernel)⟩
theorem lw_p15 : lw_okq (⟨"QuillDesk$Reader", "unit", "()Z"⟩, 11) := ⟨⟨by decide +kernel, by decide +kernel⟩, List.mem_of_getElem? (i := 329) (by decide +kernel), List.mem_of_getElem? (i := 737) (by decide +kernel), List.mem_of_getElem? (i := 738) (by decide +kernel)⟩
def lw_privs_1 : List (MethodName × Nat) := [(⟨"QuillDesk$Desk", "takeTurn", "(LQuillDesk$Firm;IZ)I"⟩, 15), (⟨"QuillDesk$Desk", "learn", "(LQuillDesk$Firm;I)V"⟩, 15), (⟨"QuillDesk$Law", "work", "(II)I"⟩, 5), (⟨"QuillDesk$Desk", "note", "(LQuillDesk$Firm;IIIZ)V"⟩, 15), (⟨"QuillDesk$Reader", "cutTokens", "()V"⟩, 11), (⟨"QuillDesk$Reader", "goesOn", "(I)Z"⟩, 11), (⟨"QuillDesk$Reader", "kindAt", "(I)I"⟩, 11), (⟨"QuillDesk$Reader", "wordAt", "(I)I"⟩, 11), (⟨"QuillDesk$Reader", "isSame", "(III)Z"⟩, 11), (⟨"QuillDesk$Reader", "numberAt", "(I)I"⟩, 11), (⟨"QuillDesk$Reader", "token", "()I"⟩, 11), (⟨"QuillDesk$Reader", "beginsLine", "(I)Z"⟩, 11), (⟨"QuillDesk$Reader", "refuse", "(I)Z"⟩, 11), (⟨"QuillDesk$Reader", "lawLine", "()Z"⟩, 11), (⟨"QuillDesk$Reader", "sumUp", "()Z"⟩, 11), (⟨"QuillDesk$Reader", "unit", "()Z"⟩, 11)]
theorem lw_r1 : ∀ q ∈ lw_privs_1, lw_okq q := List.forall_mem_cons.mpr ⟨lw_p0, List.forall_mem_cons.mpr ⟨lw_p1, List.forall_mem_cons.mpr ⟨lw_p2, List.forall_mem_cons.mpr ⟨lw_p3, List.forall_mem_cons.mpr ⟨lw_p4, List.forall_mem_cons.mpr ⟨lw_p5, List.forall_mem_cons.mpr ⟨lw_p6, List.forall_mem_cons.mpr ⟨lw_p7, List.forall_mem_cons.mpr ⟨lw_p8, List.forall_mem_cons.mpr ⟨lw_p9, List.forall_mem_cons.mpr ⟨lw_p10, List.forall_mem_cons.mpr ⟨lw_p11, List.forall_mem_cons.mpr ⟨lw_p12, List.forall_mem_cons.mpr ⟨lw_p13, List.forall_mem_cons.mpr ⟨lw_p14, List.forall_mem_cons.mpr ⟨lw_p15, fun _ h => absurd h List.not_mem_nil⟩⟩⟩⟩⟩⟩⟩⟩⟩⟩⟩⟩⟩⟩⟩⟩
theorem lw_p16 : lw_okq (⟨"QuillDesk$Reader", "part", "()Z"⟩, 11) := ⟨⟨by decide +kernel, by decide +kernel⟩, List.mem_of_getElem? (i := 329) (by decide +kernel), List.mem_of_getElem? (i := 745) (by decide +kernel), List.mem_of_getElem? (i := 746) (by decide +kernel)⟩
theorem lw_p17 : lw_okq (⟨"QuillDesk$Reader", "condition", "(I)Z"⟩, 11) := ⟨⟨by decide +kernel, by decide +kernel⟩, List.mem_of_getElem? (i := 329) (by decide +kernel), List.mem_of_getElem? (i := 749) (by decide +kernel), List.mem_of_getElem? (i := 750) (by decide +kernel)⟩
theorem lw_p18 : lw_okq (⟨"QuillDesk$Reader", "single", "(I)Z"⟩, 11) := ⟨⟨by decide +kernel, by decide +kernel⟩, List.mem_of_getElem? (i := 329) (by decide +kernel), List.mem_of_getElem? (i := 753) (by decide +kernel), List.mem_of_getElem? (i := 754) (by decide +kernel)⟩
theorem lw_p19 : lw_okq (⟨"QuillDesk$Reader", "expect", "(I)Z"⟩, 11) := ⟨⟨by decide +kernel, by decide +kernel⟩, List.mem_of_getElem? (i := 329) (by decide +kernel), List.mem_of_getElem? (i := 757) (by decide +kernel), List.mem_of_getElem? (i := 758) (by decide +kernel)⟩
theorem lw_p20 : lw_okq (⟨"QuillDesk$Reader", "orderLine", "(LQuillDesk$Firm;)Z"⟩, 11) := ⟨⟨by decide +kernel, by decide +kernel⟩, List.mem_of_getElem? (i := 329) (by decide +kernel), List.mem_of_getElem? (i := 765) (by decide +kernel), List.mem_of_getElem? (i := 766) (by decide +kernel)⟩
theorem lw_p21 : lw_okq (⟨"QuillDesk$Reader", "expectNumber", "(I)Z"⟩, 11) := ⟨⟨by decide +kernel, by decide +kernel⟩, List.mem_of_getElem? (i := 329) (by decide +kernel), List.mem_of_getElem? (i := 769) (by decide +kernel), List.mem_of_getElem? (i := 770) (by decide +kernel)⟩
theorem lw_p22 : lw_okq (⟨"QuillDesk$Reader", "birdLine", "()Z"⟩, 11) := ⟨⟨by decide +kernel, by decide +kernel⟩, List.mem_of_getElem? (i := 329) (by decide +kernel), List.mem_of_getElem? (i := 776) (by decide +kernel), List.mem_of_getElem? (i := 777) (by decide +kernel)⟩
theorem lw_p23 : lw_okq (⟨"QuillDesk$Reader", "afterLine", "(LQuillDesk$Firm;)Z"⟩, 11) := ⟨⟨by decide +kernel, by decide +kernel⟩, List.mem_of_getElem? (i := 329) (by decide +kernel), List.mem_of_getElem? (i := 780) (by decide +kernel), List.mem_of_getElem? (i := 781) (by decide +kernel)⟩
theorem lw_p24 : lw_okq (⟨"QuillDesk$Thought", "markPlaces", "(LQuillDesk$Row;I)I"⟩, 6) := ⟨⟨by decide +kernel, by decide +kernel⟩, List.mem_of_getElem? (i := 378) (by decide +kernel), List.mem_of_getElem? (i := 969) (by decide +kernel), List.mem_of_getElem? (i := 970) (by decide +kernel)⟩
theorem lw_p25 : lw_okq (⟨"QuillDesk$Thought", "nextThere", "(II)I"⟩, 6) := ⟨⟨by decide +kernel, by decide +kernel⟩, List.mem_of_getElem? (i := 378) (by decide +kernel), List.mem_of_getElem? (i := 1033) (by decide +kernel), List.mem_of_getElem? (i := 1034) (by decide +kernel)⟩
theorem lw_p26 : lw_okq (⟨"QuillDesk$Thought", "share", "(LQuillDesk$Row;I[I)V"⟩, 6) := ⟨⟨by decide +kernel, by decide +kernel⟩, List.mem_of_getElem? (i := 378) (by decide +kernel), List.mem_of_getElem? (i := 1049) (by decide +kernel), List.mem_of_getElem? (i := 1050) (by decide +kernel)⟩
theorem lw_p27 : lw_okq (⟨"QuillDesk$Boxes", "worthOfDrawing", "(II)I"⟩, 2) := ⟨⟨by decide +kernel, by decide +kernel⟩, List.mem_of_getElem? (i := 404) (by decide +kernel), List.mem_of_getElem? (i := 1070) (by decide +kernel), List.mem_of_getElem? (i := 1071) (by decide +kernel)⟩
theorem lw_p28 : lw_okq (⟨"QuillDeskModel", "isIn", "(III)Z"⟩, 76) := ⟨⟨by decide +kernel, by decide +kernel⟩, List.mem_of_getElem? (i := 1120) (by decide +kernel), List.mem_of_getElem? (i := 1367) (by decide +kernel), List.mem_of_getElem? (i := 1368) (by decide +kernel)⟩
theorem lw_p29 : lw_okq (⟨"QuillDeskModel", "isClerk", "(I)Z"⟩, 76) := ⟨⟨by decide +kernel, by decide +kernel⟩, List.mem_of_getElem? (i := 1120) (by decide +kernel), List.mem_of_getElem? (i := 1383) (by decide +kernel), List.mem_of_getElem? (i := 1384) (by decide +kernel)⟩
theorem lw_p30 : lw_okq (⟨"QuillDeskModel", "isQuill", "(I)Z"⟩, 76) := ⟨⟨by decide +kernel, by decide +kernel⟩, List.mem_of_getElem? (i := 1120) (by decide +kernel), List.mem_of_getElem? (i := 1387) (by decide +kernel), List.mem_of_getElem? (i := 1388) (by decide +kernel)⟩
theorem lw_p31 : lw_okq (⟨"QuillDeskModel", "types", "(I)V"⟩, 76) := ⟨⟨by decide +kernel, by decide +kernel⟩, List.mem_of_getElem? (i := 1120) (by decide +kernel), List.mem_of_getElem? (i := 1395) (by decide +kernel), List.mem_of_getElem? (i := 1396) (by decide +kernel)⟩
def lw_privs_2 : List (MethodName × Nat) := [(⟨"QuillDesk$Reader", "part", "()Z"⟩, 11), (⟨"QuillDesk$Reader", "condition", "(I)Z"⟩, 11), (⟨"QuillDesk$Reader", "single", "(I)Z"⟩, 11), (⟨"QuillDesk$Reader", "expect", "(I)Z"⟩, 11), (⟨"QuillDesk$Reader", "orderLine", "(LQuillDesk$Firm;)Z"⟩, 11), (⟨"QuillDesk$Reader", "expectNumber", "(I)Z"⟩, 11), (⟨"QuillDesk$Reader", "birdLine", "()Z"⟩, 11), (⟨"QuillDesk$Reader", "afterLine", "(LQuillDesk$Firm;)Z"⟩, 11), (⟨"QuillDesk$Thought", "markPlaces", "(LQuillDesk$Row;I)I"⟩, 6), (⟨"QuillDesk$Thought", "nextThere", "(II)I"⟩, 6), (⟨"QuillDesk$Thought", "share", "(LQuillDesk$Row;I[I)V"⟩, 6), (⟨"QuillDesk$Boxes", "worthOfDrawing", "(II)I"⟩, 2), (⟨"QuillDeskModel", "isIn", "(III)Z"⟩, 76), (⟨"QuillDeskModel", "isClerk", "(I)Z"⟩, 76), (⟨"QuillDeskModel", "isQuill", "(I)Z"⟩, 76), (⟨"QuillDeskModel", "types", "(I)V"⟩, 76)]
theorem lw_r2 : ∀ q ∈ lw_privs_2, lw_okq q := List.forall_mem_cons.mpr ⟨lw_p16, List.forall_mem_cons.mpr ⟨lw_p17, List.forall_mem_cons.mpr ⟨lw_p18, List.forall_mem_cons.mpr ⟨lw_p19, List.forall_mem_cons.mpr ⟨lw_p20, List.forall_mem_cons.mpr ⟨lw_p21, List.forall_mem_cons.mpr ⟨lw_p22, List.forall_mem_cons.mpr ⟨lw_p23, List.forall_mem_cons.mpr ⟨lw_p24, List.forall_mem_cons.mpr ⟨lw_p25, List.forall_mem_cons.mpr ⟨lw_p26, List.forall_mem_cons.mpr ⟨lw_p27, List.forall_mem_cons.mpr ⟨lw_p28, List.forall_mem_cons.mpr ⟨lw_p29, List.forall_mem_cons.mpr ⟨lw_p30, List.forall_mem_cons.mpr ⟨lw_p31, fun _ h => absurd h List.not_mem_nil⟩⟩⟩⟩⟩⟩⟩⟩⟩⟩⟩⟩⟩⟩⟩⟩
theorem lw_p32 : lw_okq (⟨"QuillDeskModel", "readsText", "(I)I"⟩, 76) := ⟨⟨by decide +kernel, by decide +kernel⟩, List.mem_of_getElem? (i := 1120) (by decide +kernel), List.mem_of_getElem? (i := 1407) (by decide +kernel), List.mem_of_getElem? (i := 1408) (by decide +kernel)⟩
theorem lw_p33 : lw_okq (⟨"QuillDeskModel", "reads", "()V"⟩, 76) := ⟨⟨by decide +kernel, by decide +kernel⟩, List.mem_of_getElem? (i := 1120) (by decide +kernel), List.mem_of_getElem? (i := 1411) (by decide +kernel), List.mem_of_getElem? (i := 1412) (by decide +kernel)⟩
theorem lw_p34 : lw_okq (⟨"QuillDeskModel", "raw", "(I)I"⟩, 76) := ⟨⟨by decide +kernel, by decide +kernel⟩, List.mem_of_getElem? (i := 1120) (by decide +kernel), List.mem_of_getElem? (i := 1415) (by decide +kernel), List.mem_of_getElem? (i := 1416) (by decide +kernel)⟩
theorem lw_p35 : lw_okq (⟨"QuillDeskModel", "isLetter", "(I)Z"⟩, 76) := ⟨⟨by decide +kernel, by decide +kernel⟩, List.mem_of_getElem? (i := 1120) (by decide +kernel), List.mem_of_getElem? (i := 1419) (by decide +kernel), List.mem_of_getElem? (i := 1420) (by decide +kernel)⟩
theorem lw_p36 : lw_okq (⟨"QuillDeskModel", "wordAt", "(II)I"⟩, 76) := ⟨⟨by decide +kernel, by decide +kernel⟩, List.mem_of_getElem? (i := 1120) (by decide +kernel), List.mem_of_getElem? (i := 1423) (by decide +kernel), List.mem_of_getElem? (i := 1424) (by decide +kernel)⟩
theorem lw_p37 : lw_okq (⟨"QuillDeskModel", "isDigit", "(I)Z"⟩, 76) := ⟨⟨by decide +kernel, by decide +kernel⟩, List.mem_of_getElem? (i := 1120) (by decide +kernel), List.mem_of_getElem? (i := 1427) (by decide +kernel), List.mem_of_getElem? (i := 1428) (by decide +kernel)⟩
theorem lw_p38 : lw_okq (⟨"QuillDeskModel", "isMarkSign", "(I)Z"⟩, 76) := ⟨⟨by decide +kernel, by decide +kernel⟩, List.mem_of_getElem? (i := 1120) (by decide +kernel), List.mem_of_getElem? (i := 1431) (by decide +kernel), List.mem_of_getElem? (i := 1432) (by decide +kernel)⟩
theorem lw_p39 : lw_okq (⟨"QuillDeskModel", "readOrders", "()I"⟩, 76) := ⟨⟨by decide +kernel, by decide +kernel⟩, List.mem_of_getElem? (i := 1120) (by decide +kernel), List.mem_of_getElem? (i := 1435) (by decide +kernel), List.mem_of_getElem? (i := 1436) (by decide +kernel)⟩
theorem lw_p40 : lw_okq (⟨"QuillDeskModel", "isWord", "(I)Z"⟩, 76) := ⟨⟨by decide +kernel, by decide +kernel⟩, List.mem_of_getElem? (i := 1120) (by decide +kernel), List.mem_of_getElem? (i := 1439) (by decide +kernel), List.mem_of_getElem? (i := 1440) (by decide +kernel)⟩
theorem lw_p41 : lw_okq (⟨"QuillDeskModel", "errs", "(I)I"⟩, 76) := ⟨⟨by decide +kernel, by decide +kernel⟩, List.mem_of_getElem? (i := 1120) (by decide +kernel), List.mem_of_getElem? (i := 1443) (by decide +kernel), List.mem_of_getElem? (i := 1444) (by decide +kernel)⟩
theorem lw_p42 : lw_okq (⟨"QuillDeskModel", "readOrder", "(I)I"⟩, 76) := ⟨⟨by decide +kernel, by decide +kernel⟩, List.mem_of_getElem? (i := 1120) (by decide +kernel), List.mem_of_getElem? (i := 1447) (by decide +kernel), List.mem_of_getElem? (i := 1448) (by decide +kernel)⟩
theorem lw_p43 : lw_okq (⟨"QuillDeskModel", "readTold", "(III)I"⟩, 76) := ⟨⟨by decide +kernel, by decide +kernel⟩, List.mem_of_getElem? (i := 1120) (by decide +kernel), List.mem_of_getElem? (i := 1451) (by decide +kernel), List.mem_of_getElem? (i := 1452) (by decide +kernel)⟩
theorem lw_p44 : lw_okq (⟨"QuillDeskModel", "readNumber", "(II)I"⟩, 76) := ⟨⟨by decide +kernel, by decide +kernel⟩, List.mem_of_getElem? (i := 1120) (by decide +kernel), List.mem_of_getElem? (i := 1455) (by decide +kernel), List.mem_of_getElem? (i := 1456) (by decide +kernel)⟩
theorem lw_p45 : lw_okq (⟨"QuillDeskModel", "readMark", "(I)I"⟩, 76) := ⟨⟨by decide +kernel, by decide +kernel⟩, List.mem_of_getElem? (i := 1120) (by decide +kernel), List.mem_of_getElem? (i := 1459) (by decide +kernel), List.mem_of_getElem? (i := 1460) (by decide +kernel)⟩
theorem lw_p46 : lw_okq (⟨"QuillDeskModel", "isSign", "(I)Z"⟩, 76) := ⟨⟨by decide +kernel, by decide +kernel⟩, List.mem_of_getElem? (i := 1120) (by decide +kernel), List.mem_of_getElem? (i := 1463) (by decide +kernel), List.mem_of_getElem? (i := 1464) (by decide +kernel)⟩
theorem lw_p47 : lw_okq (⟨"QuillDeskModel", "readBirds", "()I"⟩, 76) := ⟨⟨by decide +kernel, by decide +kernel⟩, List.mem_of_getElem? (i := 1120) (by decide +kernel), List.mem_of_getElem? (i := 1467) (by decide +kernel), List.mem_of_getElem? (i := 1468) (by decide +kernel)⟩
def lw_privs_3 : List (MethodName × Nat) := [(⟨"QuillDeskModel", "readsText", "(I)I"⟩, 76), (⟨"QuillDeskModel", "reads", "()V"⟩, 76), (⟨"QuillDeskModel", "raw", "(I)I"⟩, 76), (⟨"QuillDeskModel", "isLetter", "(I)Z"⟩, 76), (⟨"QuillDeskModel", "wordAt", "(II)I"⟩, 76), (⟨"QuillDeskModel", "isDigit", "(I)Z"⟩, 76), (⟨"QuillDeskModel", "isMarkSign", "(I)Z"⟩, 76), (⟨"QuillDeskModel", "readOrders", "()I"⟩, 76), (⟨"QuillDeskModel", "isWord", "(I)Z"⟩, 76), (⟨"QuillDeskModel", "errs", "(I)I"⟩, 76), (⟨"QuillDeskModel", "readOrder", "(I)I"⟩, 76), (⟨"QuillDeskModel", "readTold", "(III)I"⟩, 76), (⟨"QuillDeskModel", "readNumber", "(II)I"⟩, 76), (⟨"QuillDeskModel", "readMark", "(I)I"⟩, 76), (⟨"QuillDeskModel", "isSign", "(I)Z"⟩, 76), (⟨"QuillDeskModel", "readBirds", "()I"⟩, 76)]
theorem lw_r3 : ∀ q ∈ lw_privs_3, lw_okq q := List.forall_mem_cons.mpr ⟨lw_p32, List.forall_mem_cons.mpr ⟨lw_p33, List.forall_mem_cons.mpr ⟨lw_p34, List.forall_mem_cons.mpr ⟨lw_p35, List.forall_mem_cons.mpr ⟨lw_p36, List.forall_mem_cons.mpr ⟨lw_p37, List.forall_mem_cons.mpr ⟨lw_p38, List.forall_mem_cons.mpr ⟨lw_p39, List.forall_mem_cons.mpr ⟨lw_p40, List.forall_mem_cons.mpr ⟨lw_p41, List.forall_mem_cons.mpr ⟨lw_p42, List.forall_mem_cons.mpr ⟨lw_p43, List.forall_mem_cons.mpr ⟨lw_p44, List.forall_mem_cons.mpr ⟨lw_p45, List.forall_mem_cons.mpr ⟨lw_p46, List.forall_mem_cons.mpr ⟨lw_p47, fun _ h => absurd h List.not_mem_nil⟩⟩⟩⟩⟩⟩⟩⟩⟩⟩⟩⟩⟩⟩⟩⟩
theorem lw_p48 : lw_okq (⟨"QuillDeskModel", "readBird", "()I"⟩, 76) := ⟨⟨by decide +kernel, by decide +kernel⟩, List.mem_of_getElem? (i := 1120) (by decide +kernel), List.mem_of_getElem? (i := 1471) (by decide +kernel), List.mem_of_getElem? (i := 1472) (by decide +kernel)⟩
theorem lw_p49 : lw_okq (⟨"QuillDeskModel", "readAfter", "()I"⟩, 76) := ⟨⟨by decide +kernel, by decide +kernel⟩, List.mem_of_getElem? (i := 1120) (by decide +kernel), List.mem_of_getElem? (i := 1475) (by decide +kernel), List.mem_of_getElem? (i := 1476) (by decide +kernel)⟩
theorem lw_p50 : lw_okq (⟨"QuillDeskModel", "readAfterOne", "()I"⟩, 76) := ⟨⟨by decide +kernel, by decide +kernel⟩, List.mem_of_getElem? (i := 1120) (by decide +kernel), List.mem_of_getElem? (i := 1479) (by decide +kernel), List.mem_of_getElem? (i := 1480) (by decide +kernel)⟩
theorem lw_p51 : lw_okq (⟨"QuillDeskModel", "readLaw", "()I"⟩, 76) := ⟨⟨by decide +kernel, by decide +kernel⟩, List.mem_of_getElem? (i := 1120) (by decide +kernel), List.mem_of_getElem? (i := 1483) (by decide +kernel), List.mem_of_getElem? (i := 1484) (by decide +kernel)⟩
theorem lw_p52 : lw_okq (⟨"QuillDeskModel", "isLineWord", "()Z"⟩, 76) := ⟨⟨by decide +kernel, by decide +kernel⟩, List.mem_of_getElem? (i := 1120) (by decide +kernel), List.mem_of_getElem? (i := 1487) (by decide +kernel), List.mem_of_getElem? (i := 1488) (by decide +kernel)⟩
theorem lw_p53 : lw_okq (⟨"QuillDeskModel", "readSum", "()I"⟩, 76) := ⟨⟨by decide +kernel, by decide +kernel⟩, List.mem_of_getElem? (i := 1120) (by decide +kernel), List.mem_of_getElem? (i := 1491) (by decide +kernel), List.mem_of_getElem? (i := 1492) (by decide +kernel)⟩
theorem lw_p54 : lw_okq (⟨"QuillDeskModel", "readProduct", "()I"⟩, 76) := ⟨⟨by decide +kernel, by decide +kernel⟩, List.mem_of_getElem? (i := 1120) (by decide +kernel), List.mem_of_getElem? (i := 1495) (by decide +kernel), List.mem_of_getElem? (i := 1496) (by decide +kernel)⟩
theorem lw_p55 : lw_okq (⟨"QuillDeskModel", "readUnit", "()I"⟩, 76) := ⟨⟨by decide +kernel, by decide +kernel⟩, List.mem_of_getElem? (i := 1120) (by decide +kernel), List.mem_of_getElem? (i := 1499) (by decide +kernel), List.mem_of_getElem? (i := 1500) (by decide +kernel)⟩
theorem lw_p56 : lw_okq (⟨"QuillDeskModel", "canAsk", "(I)Z"⟩, 76) := ⟨⟨by decide +kernel, by decide +kernel⟩, List.mem_of_getElem? (i := 1120) (by decide +kernel), List.mem_of_getElem? (i := 1503) (by decide +kernel), List.mem_of_getElem? (i := 1504) (by decide +kernel)⟩
theorem lw_p57 : lw_okq (⟨"QuillDeskModel", "emits", "(II)V"⟩, 76) := ⟨⟨by decide +kernel, by decide +kernel⟩, List.mem_of_getElem? (i := 1120) (by decide +kernel), List.mem_of_getElem? (i := 1507) (by decide +kernel), List.mem_of_getElem? (i := 1508) (by decide +kernel)⟩
theorem lw_p58 : lw_okq (⟨"QuillDeskModel", "readAny", "()I"⟩, 76) := ⟨⟨by decide +kernel, by decide +kernel⟩, List.mem_of_getElem? (i := 1120) (by decide +kernel), List.mem_of_getElem? (i := 1511) (by decide +kernel), List.mem_of_getElem? (i := 1512) (by decide +kernel)⟩
theorem lw_p59 : lw_okq (⟨"QuillDeskModel", "waits", "(I)V"⟩, 76) := ⟨⟨by decide +kernel, by decide +kernel⟩, List.mem_of_getElem? (i := 1120) (by decide +kernel), List.mem_of_getElem? (i := 1515) (by decide +kernel), List.mem_of_getElem? (i := 1516) (by decide +kernel)⟩
theorem lw_p60 : lw_okq (⟨"QuillDeskModel", "readCompared", "()I"⟩, 76) := ⟨⟨by decide +kernel, by decide +kernel⟩, List.mem_of_getElem? (i := 1120) (by decide +kernel), List.mem_of_getElem? (i := 1519) (by decide +kernel), List.mem_of_getElem? (i := 1520) (by decide +kernel)⟩
theorem lw_p61 : lw_okq (⟨"QuillDeskModel", "settles", "(I)V"⟩, 76) := ⟨⟨by decide +kernel, by decide +kernel⟩, List.mem_of_getElem? (i := 1120) (by decide +kernel), List.mem_of_getElem? (i := 1523) (by decide +kernel), List.mem_of_getElem? (i := 1524) (by decide +kernel)⟩
theorem lw_p62 : lw_okq (⟨"QuillDeskModel", "takesLaw", "(I)V"⟩, 76) := ⟨⟨by decide +kernel, by decide +kernel⟩, List.mem_of_getElem? (i := 1120) (by decide +kernel), List.mem_of_getElem? (i := 1527) (by decide +kernel), List.mem_of_getElem? (i := 1528) (by decide +kernel)⟩
theorem lw_p63 : lw_okq (⟨"QuillDeskModel", "takesOther", "(II)V"⟩, 76) := ⟨⟨by decide +kernel, by decide +kernel⟩, List.mem_of_getElem? (i := 1120) (by decide +kernel), List.mem_of_getElem? (i := 1531) (by decide +kernel), List.mem_of_getElem? (i := 1532) (by decide +kernel)⟩
def lw_privs_4 : List (MethodName × Nat) := [(⟨"QuillDeskModel", "readBird", "()I"⟩, 76), (⟨"QuillDeskModel", "readAfter", "()I"⟩, 76), (⟨"QuillDeskModel", "readAfterOne", "()I"⟩, 76), (⟨"QuillDeskModel", "readLaw", "()I"⟩, 76), (⟨"QuillDeskModel", "isLineWord", "()Z"⟩, 76), (⟨"QuillDeskModel", "readSum", "()I"⟩, 76), (⟨"QuillDeskModel", "readProduct", "()I"⟩, 76), (⟨"QuillDeskModel", "readUnit", "()I"⟩, 76), (⟨"QuillDeskModel", "canAsk", "(I)Z"⟩, 76), (⟨"QuillDeskModel", "emits", "(II)V"⟩, 76), (⟨"QuillDeskModel", "readAny", "()I"⟩, 76), (⟨"QuillDeskModel", "waits", "(I)V"⟩, 76), (⟨"QuillDeskModel", "readCompared", "()I"⟩, 76), (⟨"QuillDeskModel", "settles", "(I)V"⟩, 76), (⟨"QuillDeskModel", "takesLaw", "(I)V"⟩, 76), (⟨"QuillDeskModel", "takesOther", "(II)V"⟩, 76)]
theorem lw_r4 : ∀ q ∈ lw_privs_4, lw_okq q := List.forall_mem_cons.mpr ⟨lw_p48, List.forall_mem_cons.mpr ⟨lw_p49, List.forall_mem_cons.mpr ⟨lw_p50, List.forall_mem_cons.mpr ⟨lw_p51, List.forall_mem_cons.mpr ⟨lw_p52, List.forall_mem_cons.mpr ⟨lw_p53, List.forall_mem_cons.mpr ⟨lw_p54, List.forall_mem_cons.mpr ⟨lw_p55, List.forall_mem_cons.mpr ⟨lw_p56, List.forall_mem_cons.mpr ⟨lw_p57, List.forall_mem_cons.mpr ⟨lw_p58, List.forall_mem_cons.mpr ⟨lw_p59, List.forall_mem_cons.mpr ⟨lw_p60, List.forall_mem_cons.mpr ⟨lw_p61, List.forall_mem_cons.mpr ⟨lw_p62, List.forall_mem_cons.mpr ⟨lw_p63, fun _ h => absurd h List.not_mem_nil⟩⟩⟩⟩⟩⟩⟩⟩⟩⟩⟩⟩⟩⟩⟩⟩
theorem lw_p64 : lw_okq (⟨"QuillDeskModel", "canAct", "(III)Z"⟩, 76) := ⟨⟨by decide +kernel, by decide +kernel⟩, List.mem_of_getElem? (i := 1120) (by decide +kernel), List.mem_of_getElem? (i := 1543) (by decide +kernel), List.mem_of_getElem? (i := 1544) (by decide +kernel)⟩
theorem lw_p65 : lw_okq (⟨"QuillDeskModel", "holds", "(I)I"⟩, 76) := ⟨⟨by decide +kernel, by decide +kernel⟩, List.mem_of_getElem? (i := 1120) (by decide +kernel), List.mem_of_getElem? (i := 1547) (by decide +kernel), List.mem_of_getElem? (i := 1548) (by decide +kernel)⟩
theorem lw_p66 : lw_okq (⟨"QuillDeskModel", "canTake", "(II)Z"⟩, 76) := ⟨⟨by decide +kernel, by decide +kernel⟩, List.mem_of_getElem? (i := 1120) (by decide +kernel), List.mem_of_getElem? (i := 1551) (by decide +kernel), List.mem_of_getElem? (i := 1552) (by decide +kernel)⟩
theorem lw_p67 : lw_okq (⟨"QuillDeskModel", "isGone", "(I)Z"⟩, 76) := ⟨⟨by decide +kernel, by decide +kernel⟩, List.mem_of_getElem? (i := 1120) (by decide +kernel), List.mem_of_getElem? (i := 1555) (by decide +kernel), List.mem_of_getElem? (i := 1556) (by decide +kernel)⟩
theorem lw_p68 : lw_okq (⟨"QuillDeskModel", "whoHolds", "(I)I"⟩, 76) := ⟨⟨by decide +kernel, by decide +kernel⟩, List.mem_of_getElem? (i := 1120) (by decide +kernel), List.mem_of_getElem? (i := 1559) (by decide +kernel), List.mem_of_getElem? (i := 1560) (by decide +kernel)⟩
theorem lw_p69 : lw_okq (⟨"QuillDeskModel", "atDeed", "(I)I"⟩, 76) := ⟨⟨by decide +kernel, by decide +kernel⟩, List.mem_of_getElem? (i := 1120) (by decide +kernel), List.mem_of_getElem? (i := 1563) (by decide +kernel), List.mem_of_getElem? (i := 1564) (by decide +kernel)⟩
theorem lw_p70 : lw_okq (⟨"QuillDeskModel", "isDeed", "(I)Z"⟩, 76) := ⟨⟨by decide +kernel, by decide +kernel⟩, List.mem_of_getElem? (i := 1120) (by decide +kernel), List.mem_of_getElem? (i := 1567) (by decide +kernel), List.mem_of_getElem? (i := 1568) (by decide +kernel)⟩
theorem lw_p71 : lw_okq (⟨"QuillDeskModel", "isDone", "(I)Z"⟩, 76) := ⟨⟨by decide +kernel, by decide +kernel⟩, List.mem_of_getElem? (i := 1120) (by decide +kernel), List.mem_of_getElem? (i := 1571) (by decide +kernel), List.mem_of_getElem? (i := 1572) (by decide +kernel)⟩
theorem lw_p72 : lw_okq (⟨"QuillDeskModel", "keepsAhead", "()V"⟩, 76) := ⟨⟨by decide +kernel, by decide +kernel⟩, List.mem_of_getElem? (i := 1120) (by decide +kernel), List.mem_of_getElem? (i := 1575) (by decide +kernel), List.mem_of_getElem? (i := 1576) (by decide +kernel)⟩
theorem lw_p73 : lw_okq (⟨"QuillDeskModel", "goesBy", "()I"⟩, 76) := ⟨⟨by decide +kernel, by decide +kernel⟩, List.mem_of_getElem? (i := 1120) (by decide +kernel), List.mem_of_getElem? (i := 1583) (by decide +kernel), List.mem_of_getElem? (i := 1584) (by decide +kernel)⟩
theorem lw_p74 : lw_okq (⟨"QuillDeskModel", "does", "(I)V"⟩, 76) := ⟨⟨by decide +kernel, by decide +kernel⟩, List.mem_of_getElem? (i := 1120) (by decide +kernel), List.mem_of_getElem? (i := 1587) (by decide +kernel), List.mem_of_getElem? (i := 1588) (by decide +kernel)⟩
theorem lw_p75 : lw_okq (⟨"QuillDeskModel", "canBeWritten", "(I)Z"⟩, 76) := ⟨⟨by decide +kernel, by decide +kernel⟩, List.mem_of_getElem? (i := 1120) (by decide +kernel), List.mem_of_getElem? (i := 1591) (by decide +kernel), List.mem_of_getElem? (i := 1592) (by decide +kernel)⟩
theorem lw_p76 : lw_okq (⟨"QuillDeskModel", "doneSet", "()I"⟩, 76) := ⟨⟨by decide +kernel, by decide +kernel⟩, List.mem_of_getElem? (i := 1120) (by decide +kernel), List.mem_of_getElem? (i := 1595) (by decide +kernel), List.mem_of_getElem? (i := 1596) (by decide +kernel)⟩
theorem lw_p77 : lw_okq (⟨"QuillDeskModel", "worksOn", "(I)I"⟩, 76) := ⟨⟨by decide +kernel, by decide +kernel⟩, List.mem_of_getElem? (i := 1120) (by decide +kernel), List.mem_of_getElem? (i := 1599) (by decide +kernel), List.mem_of_getElem? (i := 1600) (by decide +kernel)⟩
theorem lw_p78 : lw_okq (⟨"QuillDeskModel", "liftsOf", "(I)I"⟩, 76) := ⟨⟨by decide +kernel, by decide +kernel⟩, List.mem_of_getElem? (i := 1120) (by decide +kernel), List.mem_of_getElem? (i := 1603) (by decide +kernel), List.mem_of_getElem? (i := 1604) (by decide +kernel)⟩
theorem lw_p79 : lw_okq (⟨"QuillDeskModel", "asks", "(I)V"⟩, 76) := ⟨⟨by decide +kernel, by decide +kernel⟩, List.mem_of_getElem? (i := 1120) (by decide +kernel), List.mem_of_getElem? (i := 1607) (by decide +kernel), List.mem_of_getElem? (i := 1608) (by decide +kernel)⟩
def lw_privs_5 : List (MethodName × Nat) := [(⟨"QuillDeskModel", "canAct", "(III)Z"⟩, 76), (⟨"QuillDeskModel", "holds", "(I)I"⟩, 76), (⟨"QuillDeskModel", "canTake", "(II)Z"⟩, 76), (⟨"QuillDeskModel", "isGone", "(I)Z"⟩, 76), (⟨"QuillDeskModel", "whoHolds", "(I)I"⟩, 76), (⟨"QuillDeskModel", "atDeed", "(I)I"⟩, 76), (⟨"QuillDeskModel", "isDeed", "(I)Z"⟩, 76), (⟨"QuillDeskModel", "isDone", "(I)Z"⟩, 76), (⟨"QuillDeskModel", "keepsAhead", "()V"⟩, 76), (⟨"QuillDeskModel", "goesBy", "()I"⟩, 76), (⟨"QuillDeskModel", "does", "(I)V"⟩, 76), (⟨"QuillDeskModel", "canBeWritten", "(I)Z"⟩, 76), (⟨"QuillDeskModel", "doneSet", "()I"⟩, 76), (⟨"QuillDeskModel", "worksOn", "(I)I"⟩, 76), (⟨"QuillDeskModel", "liftsOf", "(I)I"⟩, 76), (⟨"QuillDeskModel", "asks", "(I)V"⟩, 76)]
theorem lw_r5 : ∀ q ∈ lw_privs_5, lw_okq q := List.forall_mem_cons.mpr ⟨lw_p64, List.forall_mem_cons.mpr ⟨lw_p65, List.forall_mem_cons.mpr ⟨lw_p66, List.forall_mem_cons.mpr ⟨lw_p67, List.forall_mem_cons.mpr ⟨lw_p68, List.forall_mem_cons.mpr ⟨lw_p69, List.forall_mem_cons.mpr ⟨lw_p70, List.forall_mem_cons.mpr ⟨lw_p71, List.forall_mem_cons.mpr ⟨lw_p72, List.forall_mem_cons.mpr ⟨lw_p73, List.forall_mem_cons.mpr ⟨lw_p74, List.forall_mem_cons.mpr ⟨lw_p75, List.forall_mem_cons.mpr ⟨lw_p76, List.forall_mem_cons.mpr ⟨lw_p77, List.forall_mem_cons.mpr ⟨lw_p78, List.forall_mem_cons.mpr ⟨lw_p79, fun _ h => absurd h List.not_mem_nil⟩⟩⟩⟩⟩⟩⟩⟩⟩⟩⟩⟩⟩⟩⟩⟩
theorem lw_p80 : lw_okq (⟨"QuillDeskModel", "fineOf", "(I)I"⟩, 76) := ⟨⟨by decide +kernel, by decide +kernel⟩, List.mem_of_getElem? (i := 1120) (by decide +kernel), List.mem_of_getElem? (i := 1611) (by decide +kernel), List.mem_of_getElem? (i := 1612) (by decide +kernel)⟩
theorem lw_p81 : lw_okq (⟨"QuillDeskModel", "lawTells", "(III)I"⟩, 76) := ⟨⟨by decide +kernel, by decide +kernel⟩, List.mem_of_getElem? (i := 1120) (by decide +kernel), List.mem_of_getElem? (i := 1615) (by decide +kernel), List.mem_of_getElem? (i := 1616) (by decide +kernel)⟩
theorem lw_p82 : lw_okq (⟨"QuillDeskModel", "lineOf", "(I)I"⟩, 76) := ⟨⟨by decide +kernel, by decide +kernel⟩, List.mem_of_getElem? (i := 1120) (by decide +kernel), List.mem_of_getElem? (i := 1619) (by decide +kernel), List.mem_of_getElem? (i := 1620) (by decide +kernel)⟩
theorem lw_p83 : lw_okq (⟨"QuillDeskModel", "runs", "(III)I"⟩, 76) := ⟨⟨by decide +kernel, by decide +kernel⟩, List.mem_of_getElem? (i := 1120) (by decide +kernel), List.mem_of_getElem? (i := 1623) (by decide +kernel), List.mem_of_getElem? (i := 1624) (by decide +kernel)⟩
theorem lw_p84 : lw_okq (⟨"QuillDeskModel", "twoOf", "(III)I"⟩, 76) := ⟨⟨by decide +kernel, by decide +kernel⟩, List.mem_of_getElem? (i := 1120) (by decide +kernel), List.mem_of_getElem? (i := 1627) (by decide +kernel), List.mem_of_getElem? (i := 1628) (by decide +kernel)⟩
theorem lw_p85 : lw_okq (⟨"QuillDeskModel", "held", "(III)I"⟩, 76) := ⟨⟨by decide +kernel, by decide +kernel⟩, List.mem_of_getElem? (i := 1120) (by decide +kernel), List.mem_of_getElem? (i := 1631) (by decide +kernel), List.mem_of_getElem? (i := 1632) (by decide +kernel)⟩
theorem lw_p86 : lw_okq (⟨"QuillDeskModel", "happens", "(I)Z"⟩, 76) := ⟨⟨by decide +kernel, by decide +kernel⟩, List.mem_of_getElem? (i := 1120) (by decide +kernel), List.mem_of_getElem? (i := 1635) (by decide +kernel), List.mem_of_getElem? (i := 1636) (by decide +kernel)⟩
theorem lw_p87 : lw_okq (⟨"QuillDeskModel", "draw", "(I)I"⟩, 76) := ⟨⟨by decide +kernel, by decide +kernel⟩, List.mem_of_getElem? (i := 1120) (by decide +kernel), List.mem_of_getElem? (i := 1639) (by decide +kernel), List.mem_of_getElem? (i := 1640) (by decide +kernel)⟩
theorem lw_p88 : lw_okq (⟨"QuillDeskModel", "notes", "(III)V"⟩, 76) := ⟨⟨by decide +kernel, by decide +kernel⟩, List.mem_of_getElem? (i := 1120) (by decide +kernel), List.mem_of_getElem? (i := 1645) (by decide +kernel), List.mem_of_getElem? (i := 1646) (by decide +kernel)⟩
theorem lw_p89 : lw_okq (⟨"QuillDeskModel", "blotsOf", "(I)I"⟩, 76) := ⟨⟨by decide +kernel, by decide +kernel⟩, List.mem_of_getElem? (i := 1120) (by decide +kernel), List.mem_of_getElem? (i := 1649) (by decide +kernel), List.mem_of_getElem? (i := 1650) (by decide +kernel)⟩
theorem lw_p90 : lw_okq (⟨"QuillDeskModel", "writesOn", "(III)I"⟩, 76) := ⟨⟨by decide +kernel, by decide +kernel⟩, List.mem_of_getElem? (i := 1120) (by decide +kernel), List.mem_of_getElem? (i := 1653) (by decide +kernel), List.mem_of_getElem? (i := 1654) (by decide +kernel)⟩
theorem lw_p91 : lw_okq (⟨"QuillDeskModel", "writesOf", "(I)I"⟩, 76) := ⟨⟨by decide +kernel, by decide +kernel⟩, List.mem_of_getElem? (i := 1120) (by decide +kernel), List.mem_of_getElem? (i := 1657) (by decide +kernel), List.mem_of_getElem? (i := 1658) (by decide +kernel)⟩
theorem lw_p92 : lw_okq (⟨"QuillDeskModel", "lesser", "(II)I"⟩, 76) := ⟨⟨by decide +kernel, by decide +kernel⟩, List.mem_of_getElem? (i := 1120) (by decide +kernel), List.mem_of_getElem? (i := 1661) (by decide +kernel), List.mem_of_getElem? (i := 1662) (by decide +kernel)⟩
theorem lw_p93 : lw_okq (⟨"QuillDeskModel", "isSigned", "(II)V"⟩, 76) := ⟨⟨by decide +kernel, by decide +kernel⟩, List.mem_of_getElem? (i := 1120) (by decide +kernel), List.mem_of_getElem? (i := 1665) (by decide +kernel), List.mem_of_getElem? (i := 1666) (by decide +kernel)⟩
theorem lw_p94 : lw_okq (⟨"QuillDeskModel", "thinks", "()V"⟩, 76) := ⟨⟨by decide +kernel, by decide +kernel⟩, List.mem_of_getElem? (i := 1120) (by decide +kernel), List.mem_of_getElem? (i := 1689) (by decide +kernel), List.mem_of_getElem? (i := 1690) (by decide +kernel)⟩
theorem lw_p95 : lw_okq (⟨"QuillDeskModel", "sumOf", "(II)I"⟩, 76) := ⟨⟨by decide +kernel, by decide +kernel⟩, List.mem_of_getElem? (i := 1120) (by decide +kernel), List.mem_of_getElem? (i := 1693) (by decide +kernel), List.mem_of_getElem? (i := 1694) (by decide +kernel)⟩
def lw_privs_6 : List (MethodName × Nat) := [(⟨"QuillDeskModel", "fineOf", "(I)I"⟩, 76), (⟨"QuillDeskModel", "lawTells", "(III)I"⟩, 76), (⟨"QuillDeskModel", "lineOf", "(I)I"⟩, 76), (⟨"QuillDeskModel", "runs", "(III)I"⟩, 76), (⟨"QuillDeskModel", "twoOf", "(III)I"⟩, 76), (⟨"QuillDeskModel", "held", "(III)I"⟩, 76), (⟨"QuillDeskModel", "happens", "(I)Z"⟩, 76), (⟨"QuillDeskModel", "draw", "(I)I"⟩, 76), (⟨"QuillDeskModel", "notes", "(III)V"⟩, 76), (⟨"QuillDeskModel", "blotsOf", "(I)I"⟩, 76), (⟨"QuillDeskModel", "writesOn", "(III)I"⟩, 76), (⟨"QuillDeskModel", "writesOf", "(I)I"⟩, 76), (⟨"QuillDeskModel", "lesser", "(II)I"⟩, 76), (⟨"QuillDeskModel", "isSigned", "(II)V"⟩, 76), (⟨"QuillDeskModel", "thinks", "()V"⟩, 76), (⟨"QuillDeskModel", "sumOf", "(II)I"⟩, 76)]
theorem lw_r6 : ∀ q ∈ lw_privs_6, lw_okq q := List.forall_mem_cons.mpr ⟨lw_p80, List.forall_mem_cons.mpr ⟨lw_p81, List.forall_mem_cons.mpr ⟨lw_p82, List.forall_mem_cons.mpr ⟨lw_p83, List.forall_mem_cons.mpr ⟨lw_p84, List.forall_mem_cons.mpr ⟨lw_p85, List.forall_mem_cons.mpr ⟨lw_p86, List.forall_mem_cons.mpr ⟨lw_p87, List.forall_mem_cons.mpr ⟨lw_p88, List.forall_mem_cons.mpr ⟨lw_p89, List.forall_mem_cons.mpr ⟨lw_p90, List.forall_mem_cons.mpr ⟨lw_p91, List.forall_mem_cons.mpr ⟨lw_p92, List.forall_mem_cons.mpr ⟨lw_p93, List.forall_mem_cons.mpr ⟨lw_p94, List.forall_mem_cons.mpr ⟨lw_p95, fun _ h => absurd h List.not_mem_nil⟩⟩⟩⟩⟩⟩⟩⟩⟩⟩⟩⟩⟩⟩⟩⟩
theorem lw_p96 : lw_okq (⟨"QuillDeskModel", "onesOf", "(I)I"⟩, 76) := ⟨⟨by decide +kernel, by decide +kernel⟩, List.mem_of_getElem? (i := 1120) (by decide +kernel), List.mem_of_getElem? (i := 1697) (by decide +kernel), List.mem_of_getElem? (i := 1698) (by decide +kernel)⟩
theorem lw_p97 : lw_okq (⟨"QuillDeskModel", "endsThought", "()V"⟩, 76) := ⟨⟨by decide +kernel, by decide +kernel⟩, List.mem_of_getElem? (i := 1120) (by decide +kernel), List.mem_of_getElem? (i := 1701) (by decide +kernel), List.mem_of_getElem? (i := 1702) (by decide +kernel)⟩
theorem lw_p98 : lw_okq (⟨"QuillDeskModel", "has", "(II)Z"⟩, 76) := ⟨⟨by decide +kernel, by decide +kernel⟩, List.mem_of_getElem? (i := 1120) (by decide +kernel), List.mem_of_getElem? (i := 1713) (by decide +kernel), List.mem_of_getElem? (i := 1714) (by decide +kernel)⟩
theorem lw_p99 : lw_okq (⟨"QuillDeskModel", "greater", "(II)I"⟩, 76) := ⟨⟨by decide +kernel, by decide +kernel⟩, List.mem_of_getElem? (i := 1120) (by decide +kernel), List.mem_of_getElem? (i := 1717) (by decide +kernel), List.mem_of_getElem? (i := 1718) (by decide +kernel)⟩
theorem lw_p100 : lw_okq (⟨"QuillDeskModel", "common", "(II)I"⟩, 76) := ⟨⟨by decide +kernel, by decide +kernel⟩, List.mem_of_getElem? (i := 1120) (by decide +kernel), List.mem_of_getElem? (i := 1742) (by decide +kernel), List.mem_of_getElem? (i := 1743) (by decide +kernel)⟩
theorem lw_p101 : lw_okq (⟨"QuillDeskModel", "plain", "(I)I"⟩, 76) := ⟨⟨by decide +kernel, by decide +kernel⟩, List.mem_of_getElem? (i := 1120) (by decide +kernel), List.mem_of_getElem? (i := 1746) (by decide +kernel), List.mem_of_getElem? (i := 1747) (by decide +kernel)⟩
theorem lw_p102 : lw_okq (⟨"QuillDeskModel", "turnsLeft", "(I)Z"⟩, 76) := ⟨⟨by decide +kernel, by decide +kernel⟩, List.mem_of_getElem? (i := 1120) (by decide +kernel), List.mem_of_getElem? (i := 1762) (by decide +kernel), List.mem_of_getElem? (i := 1763) (by decide +kernel)⟩
theorem lw_p103 : lw_okq (⟨"QuillDeskModel", "stepsBetween", "(II)I"⟩, 76) := ⟨⟨by decide +kernel, by decide +kernel⟩, List.mem_of_getElem? (i := 1120) (by decide +kernel), List.mem_of_getElem? (i := 1778) (by decide +kernel), List.mem_of_getElem? (i := 1779) (by decide +kernel)⟩
theorem lw_p104 : lw_okq (⟨"QuillDeskModel", "isCut", "(I)Z"⟩, 76) := ⟨⟨by decide +kernel, by decide +kernel⟩, List.mem_of_getElem? (i := 1120) (by decide +kernel), List.mem_of_getElem? (i := 1786) (by decide +kernel), List.mem_of_getElem? (i := 1787) (by decide +kernel)⟩
theorem lw_p105 : lw_okq (⟨"QuillDeskModel", "plankWith", "(III)I"⟩, 76) := ⟨⟨by decide +kernel, by decide +kernel⟩, List.mem_of_getElem? (i := 1120) (by decide +kernel), List.mem_of_getElem? (i := 1794) (by decide +kernel), List.mem_of_getElem? (i := 1795) (by decide +kernel)⟩
theorem lw_p106 : lw_okq (⟨"QuillDeskModel", "unlikeRows", "(I)I"⟩, 76) := ⟨⟨by decide +kernel, by decide +kernel⟩, List.mem_of_getElem? (i := 1120) (by decide +kernel), List.mem_of_getElem? (i := 1806) (by decide +kernel), List.mem_of_getElem? (i := 1807) (by decide +kernel)⟩
theorem lw_p107 : lw_okq (⟨"QuillDeskModel", "compares", "(III)I"⟩, 76) := ⟨⟨by decide +kernel, by decide +kernel⟩, List.mem_of_getElem? (i := 1120) (by decide +kernel), List.mem_of_getElem? (i := 1810) (by decide +kernel), List.mem_of_getElem? (i := 1811) (by decide +kernel)⟩
theorem lw_p108 : lw_okq (⟨"QuillDeskModel", "mirrored", "(II)I"⟩, 76) := ⟨⟨by decide +kernel, by decide +kernel⟩, List.mem_of_getElem? (i := 1120) (by decide +kernel), List.mem_of_getElem? (i := 1827) (by decide +kernel), List.mem_of_getElem? (i := 1828) (by decide +kernel)⟩
theorem lw_p109 : lw_okq (⟨"QuillDeskModel", "sealOf", "(II)I"⟩, 76) := ⟨⟨by decide +kernel, by decide +kernel⟩, List.mem_of_getElem? (i := 1120) (by decide +kernel), List.mem_of_getElem? (i := 1847) (by decide +kernel), List.mem_of_getElem? (i := 1848) (by decide +kernel)⟩
theorem lw_p110 : lw_okq (⟨"QuillDeskModel", "findsMore", "(I)V"⟩, 76) := ⟨⟨by decide +kernel, by decide +kernel⟩, List.mem_of_getElem? (i := 1120) (by decide +kernel), List.mem_of_getElem? (i := 1855) (by decide +kernel), List.mem_of_getElem? (i := 1856) (by decide +kernel)⟩
theorem lw_p111 : lw_okq (⟨"QuillDeskModel", "moreWith", "(II)I"⟩, 76) := ⟨⟨by decide +kernel, by decide +kernel⟩, List.mem_of_getElem? (i := 1120) (by decide +kernel), List.mem_of_getElem? (i := 1860) (by decide +kernel), List.mem_of_getElem? (i := 1861) (by decide +kernel)⟩
def lw_privs_7 : List (MethodName × Nat) := [(⟨"QuillDeskModel", "onesOf", "(I)I"⟩, 76), (⟨"QuillDeskModel", "endsThought", "()V"⟩, 76), (⟨"QuillDeskModel", "has", "(II)Z"⟩, 76), (⟨"QuillDeskModel", "greater", "(II)I"⟩, 76), (⟨"QuillDeskModel", "common", "(II)I"⟩, 76), (⟨"QuillDeskModel", "plain", "(I)I"⟩, 76), (⟨"QuillDeskModel", "turnsLeft", "(I)Z"⟩, 76), (⟨"QuillDeskModel", "stepsBetween", "(II)I"⟩, 76), (⟨"QuillDeskModel", "isCut", "(I)Z"⟩, 76), (⟨"QuillDeskModel", "plankWith", "(III)I"⟩, 76), (⟨"QuillDeskModel", "unlikeRows", "(I)I"⟩, 76), (⟨"QuillDeskModel", "compares", "(III)I"⟩, 76), (⟨"QuillDeskModel", "mirrored", "(II)I"⟩, 76), (⟨"QuillDeskModel", "sealOf", "(II)I"⟩, 76), (⟨"QuillDeskModel", "findsMore", "(I)V"⟩, 76), (⟨"QuillDeskModel", "moreWith", "(II)I"⟩, 76)]
theorem lw_r7 : ∀ q ∈ lw_privs_7, lw_okq q := List.forall_mem_cons.mpr ⟨lw_p96, List.forall_mem_cons.mpr ⟨lw_p97, List.forall_mem_cons.mpr ⟨lw_p98, List.forall_mem_cons.mpr ⟨lw_p99, List.forall_mem_cons.mpr ⟨lw_p100, List.forall_mem_cons.mpr ⟨lw_p101, List.forall_mem_cons.mpr ⟨lw_p102, List.forall_mem_cons.mpr ⟨lw_p103, List.forall_mem_cons.mpr ⟨lw_p104, List.forall_mem_cons.mpr ⟨lw_p105, List.forall_mem_cons.mpr ⟨lw_p106, List.forall_mem_cons.mpr ⟨lw_p107, List.forall_mem_cons.mpr ⟨lw_p108, List.forall_mem_cons.mpr ⟨lw_p109, List.forall_mem_cons.mpr ⟨lw_p110, List.forall_mem_cons.mpr ⟨lw_p111, fun _ h => absurd h List.not_mem_nil⟩⟩⟩⟩⟩⟩⟩⟩⟩⟩⟩⟩⟩⟩⟩⟩
theorem lw_p112 : lw_okq (⟨"QuillDeskModel", "closedBy", "(II)I"⟩, 76) := ⟨⟨by decide +kernel, by decide +kernel⟩, List.mem_of_getElem? (i := 1120) (by decide +kernel), List.mem_of_getElem? (i := 1864) (by decide +kernel), List.mem_of_getElem? (i := 1865) (by decide +kernel)⟩
theorem lw_p113 : lw_okq (⟨"QuillDeskModel", "boxOf", "(I)I"⟩, 76) := ⟨⟨by decide +kernel, by decide +kernel⟩, List.mem_of_getElem? (i := 1120) (by decide +kernel), List.mem_of_getElem? (i := 1868) (by decide +kernel), List.mem_of_getElem? (i := 1869) (by decide +kernel)⟩
theorem lw_p114 : lw_okq (⟨"QuillDeskModel", "keeps", "(I)I"⟩, 76) := ⟨⟨by decide +kernel, by decide +kernel⟩, List.mem_of_getElem? (i := 1120) (by decide +kernel), List.mem_of_getElem? (i := 1876) (by decide +kernel), List.mem_of_getElem? (i := 1877) (by decide +kernel)⟩
theorem lw_p115 : lw_okq (⟨"QuillDeskModel", "keepsMany", "()V"⟩, 76) := ⟨⟨by decide +kernel, by decide +kernel⟩, List.mem_of_getElem? (i := 1120) (by decide +kernel), List.mem_of_getElem? (i := 1880) (by decide +kernel), List.mem_of_getElem? (i := 1881) (by decide +kernel)⟩
theorem lw_p116 : lw_okq (⟨"QuillDeskModel", "keepsTold", "()V"⟩, 76) := ⟨⟨by decide +kernel, by decide +kernel⟩, List.mem_of_getElem? (i := 1120) (by decide +kernel), List.mem_of_getElem? (i := 1884) (by decide +kernel), List.mem_of_getElem? (i := 1885) (by decide +kernel)⟩
theorem lw_p117 : lw_okq (⟨"QuillDeskModel", "keepsLaw", "()V"⟩, 76) := ⟨⟨by decide +kernel, by decide +kernel⟩, List.mem_of_getElem? (i := 1120) (by decide +kernel), List.mem_of_getElem? (i := 1888) (by decide +kernel), List.mem_of_getElem? (i := 1889) (by decide +kernel)⟩
def lw_privs_8 : List (MethodName × Nat) := [(⟨"QuillDeskModel", "closedBy", "(II)I"⟩, 76), (⟨"QuillDeskModel", "boxOf", "(I)I"⟩, 76), (⟨"QuillDeskModel", "keeps", "(I)I"⟩, 76), (⟨"QuillDeskModel", "keepsMany", "()V"⟩, 76), (⟨"QuillDeskModel", "keepsTold", "()V"⟩, 76), (⟨"QuillDeskModel", "keepsLaw", "()V"⟩, 76)]
theorem lw_r8 : ∀ q ∈ lw_privs_8, lw_okq q := List.forall_mem_cons.mpr ⟨lw_p112, List.forall_mem_cons.mpr ⟨lw_p113, List.forall_mem_cons.mpr ⟨lw_p114, List.forall_mem_cons.mpr ⟨lw_p115, List.forall_mem_cons.mpr ⟨lw_p116, List.forall_mem_cons.mpr ⟨lw_p117, fun _ h => absurd h List.not_mem_nil⟩⟩⟩⟩⟩⟩
def lw_privs : List (MethodName × Nat) := lw_privs_1 ++ (lw_privs_2 ++ (lw_privs_3 ++ (lw_privs_4 ++ (lw_privs_5 ++ (lw_privs_6 ++ (lw_privs_7 ++ (lw_privs_8)))))))
def lw_tbl : List Cond := k2_sels lw_privs ++ tables_1
theorem lw_privs_ok : ∀ q ∈ lw_privs, lw_okq q := by
  show ∀ q ∈ lw_privs_1 ++ (lw_privs_2 ++ (lw_privs_3 ++ (lw_privs_4 ++ (lw_privs_5 ++ (lw_privs_6 ++ (lw_privs_7 ++ (lw_privs_8))))))), lw_okq q
  exact List.forall_mem_append.mpr ⟨lw_r1, List.forall_mem_append.mpr ⟨lw_r2, List.forall_mem_append.mpr ⟨lw_r3, List.forall_mem_append.mpr ⟨lw_r4, List.forall_mem_append.mpr ⟨lw_r5, List.forall_mem_append.mpr ⟨lw_r6, List.forall_mem_append.mpr ⟨lw_r7, lw_r8⟩⟩⟩⟩⟩⟩⟩
end
section
/-! the classes: names, fields, types; the words that are good; what the tables hold -/
def RX0 : String := "QuillDesk$Book"
def TX0 : u_T := fun k => match k with
  | 0 => ("QuillDesk$Book", "hour", "[I", true)
  | 1 => ("QuillDesk$Book", "what", "[I", true)
  | 2 => ("QuillDesk$Book", "who", "[I", true)
  | 3 => ("QuillDesk$Book", "much", "[I", true)
  | _ => ("QuillDesk$Book", "size", "I", false)
def tyX0 : Nat → FieldType := fun k => match k with
  | 0 => .array .int
  | 1 => .array .int
  | 2 => .array .int
  | 3 => .array .int
  | _ => .int
theorem nmX0 : ∀ a, a < 5 → ∀ b, b < 5 → a ≠ b → (TX0 a).2.1 ≠ (TX0 b).2.1 := by decide +kernel
theorem tyX0_ok : ∀ k, k < 5 → parseFieldDescriptor (TX0 k).2.2.1 = some (tyX0 k) := by decide +kernel
def RX1 : String := "QuillDesk$Boxes"
def TX1 : u_T := fun k => match k with
  | 0 => ("QuillDesk$Boxes", "worths", "[I", true)
  | _ => ("QuillDesk$Boxes", "known", "I", false)
def tyX1 : Nat → FieldType := fun k => match k with
  | 0 => .array .int
  | _ => .int
theorem nmX1 : ∀ a, a < 2 → ∀ b, b < 2 → a ≠ b → (TX1 a).2.1 ≠ (TX1 b).2.1 := by decide +kernel
theorem tyX1_ok : ∀ k, k < 2 → parseFieldDescriptor (TX1 k).2.2.1 = some (tyX1 k) := by decide +kernel
def RX2 : String := "QuillDesk$Desk"
def TX2 : u_T := fun k => match k with
  | 0 => ("QuillDesk$Desk", "firm", "LQuillDesk$Firm;", true)
  | 1 => ("QuillDesk$Desk", "book", "LQuillDesk$Book;", true)
  | 2 => ("QuillDesk$Desk", "law", "LQuillDesk$Law;", true)
  | 3 => ("QuillDesk$Desk", "orders", "LQuillDesk$Text;", true)
  | 4 => ("QuillDesk$Desk", "birds", "LQuillDesk$Text;", true)
  | 5 => ("QuillDesk$Desk", "after", "LQuillDesk$Text;", true)
  | 6 => ("QuillDesk$Desk", "words", "LQuillDesk$Row;", true)
  | 7 => ("QuillDesk$Desk", "stampRow", "LQuillDesk$Row;", true)
  | 8 => ("QuillDesk$Desk", "dotX", "[I", true)
  | 9 => ("QuillDesk$Desk", "dotY", "[I", true)
  | 10 => ("QuillDesk$Desk", "places", "LQuillDesk$Row;", true)
  | 11 => ("QuillDesk$Desk", "signs", "LQuillDesk$Row;", true)
  | 12 => ("QuillDesk$Desk", "legs", "LQuillDesk$Row;", true)
  | 13 => ("QuillDesk$Desk", "weights", "LQuillDesk$Row;", true)
  | _ => ("QuillDesk$Desk", "heirs", "LQuillDesk$Row;", true)
def tyX2 : Nat → FieldType := fun k => match k with
  | 0 => .object "QuillDesk$Firm"
  | 1 => .object "QuillDesk$Book"
  | 2 => .object "QuillDesk$Law"
  | 3 => .object "QuillDesk$Text"
  | 4 => .object "QuillDesk$Text"
  | 5 => .object "QuillDesk$Text"
  | 6 => .object "QuillDesk$Row"
  | 7 => .object "QuillDesk$Row"
  | 8 => .array .int
  | 9 => .array .int
  | 10 => .object "QuillDesk$Row"
  | 11 => .object "QuillDesk$Row"
  | 12 => .object "QuillDesk$Row"
  | 13 => .object "QuillDesk$Row"
  | _ => .object "QuillDesk$Row"
theorem nmX2 : ∀ a, a < 15 → ∀ b, b < 15 → a ≠ b → (TX2 a).2.1 ≠ (TX2 b).2.1 := by decide +kernel
theorem tyX2_ok : ∀ k, k < 15 → parseFieldDescriptor (TX2 k).2.2.1 = some (tyX2 k) := by decide +kernel
def RX3 : String := "QuillDesk$Firm"
def TX3 : u_T := fun k => match k with
  | 0 => ("QuillDesk$Firm", "draws", "I", false)
  | 1 => ("QuillDesk$Firm", "lifted", "I", false)
  | 2 => ("QuillDesk$Firm", "hour", "I", false)
  | 3 => ("QuillDesk$Firm", "quills", "I", false)
  | 4 => ("QuillDesk$Firm", "clerks", "I", false)
  | 5 => ("QuillDesk$Firm", "deeds", "I", false)
  | 6 => ("QuillDesk$Firm", "bird", "[I", true)
  | 7 => ("QuillDesk$Firm", "ink", "[I", true)
  | 8 => ("QuillDesk$Firm", "worn", "[I", true)
  | 9 => ("QuillDesk$Firm", "gone", "[I", true)
  | 10 => ("QuillDesk$Firm", "hand", "[I", true)
  | 11 => ("QuillDesk$Firm", "holds", "[I", true)
  | 12 => ("QuillDesk$Firm", "at", "[I", true)
  | 13 => ("QuillDesk$Firm", "blots", "[I", true)
  | 14 => ("QuillDesk$Firm", "signed", "[I", true)
  | 15 => ("QuillDesk$Firm", "length", "[I", true)
  | 16 => ("QuillDesk$Firm", "written", "[I", true)
  | _ => ("QuillDesk$Firm", "by", "[I", true)
def tyX3 : Nat → FieldType := fun k => match k with
  | 0 => .int
  | 1 => .int
  | 2 => .int
  | 3 => .int
  | 4 => .int
  | 5 => .int
  | 6 => .array .int
  | 7 => .array .int
  | 8 => .array .int
  | 9 => .array .int
  | 10 => .array .int
  | 11 => .array .int
  | 12 => .array .int
  | 13 => .array .int
  | 14 => .array .int
  | 15 => .array .int
  | 16 => .array .int
  | _ => .array .int
theorem nmX3 : ∀ a, a < 18 → ∀ b, b < 18 → a ≠ b → (TX3 a).2.1 ≠ (TX3 b).2.1 := by decide +kernel
theorem tyX3_ok : ∀ k, k < 18 → parseFieldDescriptor (TX3 k).2.2.1 = some (tyX3 k) := by decide +kernel
def RX4 : String := "QuillDesk$Law"
def TX4 : u_T := fun k => match k with
  | 0 => ("QuillDesk$Law", "lines", "LQuillDesk$Text;", true)
  | 1 => ("QuillDesk$Law", "code", "[I", true)
  | 2 => ("QuillDesk$Law", "size", "I", false)
  | 3 => ("QuillDesk$Law", "facts", "[I", true)
  | _ => ("QuillDesk$Law", "stack", "[I", true)
def tyX4 : Nat → FieldType := fun k => match k with
  | 0 => .object "QuillDesk$Text"
  | 1 => .array .int
  | 2 => .int
  | 3 => .array .int
  | _ => .array .int
theorem nmX4 : ∀ a, a < 5 → ∀ b, b < 5 → a ≠ b → (TX4 a).2.1 ≠ (TX4 b).2.1 := by decide +kernel
theorem tyX4_ok : ∀ k, k < 5 → parseFieldDescriptor (TX4 k).2.2.1 = some (tyX4 k) := by decide +kernel
def RX5 : String := "QuillDesk$Past"
def TX5 : u_T := fun k => match k with
  | 0 => ("QuillDesk$Past", "firms", "[LQuillDesk$Firm;", true)
  | 1 => ("QuillDesk$Past", "notes", "[I", true)
  | 2 => ("QuillDesk$Past", "oldest", "I", false)
  | _ => ("QuillDesk$Past", "size", "I", false)
def tyX5 : Nat → FieldType := fun k => match k with
  | 0 => .array (.object "QuillDesk$Firm")
  | 1 => .array .int
  | 2 => .int
  | _ => .int
theorem nmX5 : ∀ a, a < 4 → ∀ b, b < 4 → a ≠ b → (TX5 a).2.1 ≠ (TX5 b).2.1 := by decide +kernel
theorem tyX5_ok : ∀ k, k < 4 → parseFieldDescriptor (TX5 k).2.2.1 = some (tyX5 k) := by decide +kernel
def RX6 : String := "QuillDesk$Reader"
def TX6 : u_T := fun k => match k with
  | 0 => ("QuillDesk$Reader", "tape", "[I", true)
  | 1 => ("QuillDesk$Reader", "length", "I", false)
  | 2 => ("QuillDesk$Reader", "kinds", "[I", true)
  | 3 => ("QuillDesk$Reader", "starts", "[I", true)
  | 4 => ("QuillDesk$Reader", "tokens", "I", false)
  | 5 => ("QuillDesk$Reader", "at", "I", false)
  | 6 => ("QuillDesk$Reader", "number", "I", false)
  | 7 => ("QuillDesk$Reader", "fault", "I", false)
  | 8 => ("QuillDesk$Reader", "faultPlace", "I", false)
  | 9 => ("QuillDesk$Reader", "law", "LQuillDesk$Law;", true)
  | _ => ("QuillDesk$Reader", "lines", "LQuillDesk$Text;", true)
def tyX6 : Nat → FieldType := fun k => match k with
  | 0 => .array .int
  | 1 => .int
  | 2 => .array .int
  | 3 => .array .int
  | 4 => .int
  | 5 => .int
  | 6 => .int
  | 7 => .int
  | 8 => .int
  | 9 => .object "QuillDesk$Law"
  | _ => .object "QuillDesk$Text"
theorem nmX6 : ∀ a, a < 11 → ∀ b, b < 11 → a ≠ b → (TX6 a).2.1 ≠ (TX6 b).2.1 := by decide +kernel
theorem tyX6_ok : ∀ k, k < 11 → parseFieldDescriptor (TX6 k).2.2.1 = some (tyX6 k) := by decide +kernel
def RX7 : String := "QuillDesk$Row"
def TX7 : u_T := fun k => match k with
  | 0 => ("QuillDesk$Row", "values", "[I", true)
  | 1 => ("QuillDesk$Row", "limit", "I", true)
  | _ => ("QuillDesk$Row", "size", "I", false)
def tyX7 : Nat → FieldType := fun k => match k with
  | 0 => .array .int
  | 1 => .int
  | _ => .int
theorem nmX7 : ∀ a, a < 3 → ∀ b, b < 3 → a ≠ b → (TX7 a).2.1 ≠ (TX7 b).2.1 := by decide +kernel
theorem tyX7_ok : ∀ k, k < 3 → parseFieldDescriptor (TX7 k).2.2.1 = some (tyX7 k) := by decide +kernel
def RX8 : String := "QuillDesk$Text"
def TX8 : u_T := fun k => match k with
  | 0 => ("QuillDesk$Text", "first", "[I", true)
  | 1 => ("QuillDesk$Text", "second", "[I", true)
  | 2 => ("QuillDesk$Text", "third", "[I", true)
  | 3 => ("QuillDesk$Text", "fourth", "[I", true)
  | _ => ("QuillDesk$Text", "size", "I", false)
def tyX8 : Nat → FieldType := fun k => match k with
  | 0 => .array .int
  | 1 => .array .int
  | 2 => .array .int
  | 3 => .array .int
  | _ => .int
theorem nmX8 : ∀ a, a < 5 → ∀ b, b < 5 → a ≠ b → (TX8 a).2.1 ≠ (TX8 b).2.1 := by decide +kernel
theorem tyX8_ok : ∀ k, k < 5 → parseFieldDescriptor (TX8 k).2.2.1 = some (tyX8 k) := by decide +kernel
def RX9 : String := "QuillDesk$Thought"
def TX9 : u_T := fun k => match k with
  | 0 => ("QuillDesk$Thought", "first", "[I", true)
  | 1 => ("QuillDesk$Thought", "second", "[I", true)
  | 2 => ("QuillDesk$Thought", "third", "[I", true)
  | 3 => ("QuillDesk$Thought", "sums", "[I", true)
  | 4 => ("QuillDesk$Thought", "ring", "[I", true)
  | _ => ("QuillDesk$Thought", "pieces", "[I", true)
def tyX9 : Nat → FieldType := fun k => match k with
  | 0 => .array .int
  | 1 => .array .int
  | 2 => .array .int
  | 3 => .array .int
  | 4 => .array .int
  | _ => .array .int
theorem nmX9 : ∀ a, a < 6 → ∀ b, b < 6 → a ≠ b → (TX9 a).2.1 ≠ (TX9 b).2.1 := by decide +kernel
theorem tyX9_ok : ∀ k, k < 6 → parseFieldDescriptor (TX9 k).2.2.1 = some (tyX9 k) := by decide +kernel
def RX10 : String := "QuillDesk"
def TX10 : u_T := fun k => match k with
  | 0 => ("QuillDesk", "desk", "LQuillDesk$Desk;", true)
  | 1 => ("QuillDesk", "picture", "LQuillDesk$Desk;", true)
  | 2 => ("QuillDesk", "pictured", "Z", false)
  | 3 => ("QuillDesk", "past", "LQuillDesk$Past;", true)
  | 4 => ("QuillDesk", "mind", "LQuillDesk$Firm;", true)
  | 5 => ("QuillDesk", "reader", "LQuillDesk$Reader;", true)
  | 6 => ("QuillDesk", "thought", "LQuillDesk$Thought;", true)
  | _ => ("QuillDesk", "boxes", "LQuillDesk$Boxes;", true)
def tyX10 : Nat → FieldType := fun k => match k with
  | 0 => .object "QuillDesk$Desk"
  | 1 => .object "QuillDesk$Desk"
  | 2 => .boolean
  | 3 => .object "QuillDesk$Past"
  | 4 => .object "QuillDesk$Firm"
  | 5 => .object "QuillDesk$Reader"
  | 6 => .object "QuillDesk$Thought"
  | _ => .object "QuillDesk$Boxes"
theorem nmX10 : ∀ a, a < 8 → ∀ b, b < 8 → a ≠ b → (TX10 a).2.1 ≠ (TX10 b).2.1 := by decide +kernel
theorem tyX10_ok : ∀ k, k < 8 → parseFieldDescriptor (TX10 k).2.2.1 = some (tyX10 k) := by decide +kernel
def RX11 : String := "QuillDeskModel"
def TX11 : u_T := fun k => match k with
  | 0 => ("QuillDeskModel", "told", "I", false)
  | 1 => ("QuillDeskModel", "now", "[I", true)
  | 2 => ("QuillDeskModel", "rows", "[I", true)
  | 3 => ("QuillDeskModel", "undoable", "I", false)
  | 4 => ("QuillDeskModel", "waiting", "[I", true)
  | 5 => ("QuillDeskModel", "isThought", "Z", false)
  | 6 => ("QuillDeskModel", "quills", "I", false)
  | 7 => ("QuillDeskModel", "clerks", "I", false)
  | 8 => ("QuillDeskModel", "deeds", "I", false)
  | 9 => ("QuillDeskModel", "birdOf", "[I", true)
  | 10 => ("QuillDeskModel", "hand", "[I", true)
  | 11 => ("QuillDeskModel", "lengthOf", "[I", true)
  | 12 => ("QuillDeskModel", "book", "[I", true)
  | 13 => ("QuillDeskModel", "tape", "[I", true)
  | 14 => ("QuillDeskModel", "taped", "I", false)
  | 15 => ("QuillDeskModel", "spot", "I", false)
  | 16 => ("QuillDeskModel", "from", "I", false)
  | 17 => ("QuillDeskModel", "token", "I", false)
  | 18 => ("QuillDeskModel", "value", "I", false)
  | 19 => ("QuillDeskModel", "words", "[I", true)
  | 20 => ("QuillDeskModel", "lineMany", "[I", true)
  | 21 => ("QuillDeskModel", "lineWord", "[I", true)
  | 22 => ("QuillDeskModel", "lineFrom", "[I", true)
  | 23 => ("QuillDeskModel", "lineWhen", "[I", true)
  | 24 => ("QuillDeskModel", "lineTo", "[I", true)
  | 25 => ("QuillDeskModel", "op", "[I", true)
  | 26 => ("QuillDeskModel", "arg", "[I", true)
  | 27 => ("QuillDeskModel", "which", "I", false)
  | 28 => ("QuillDeskModel", "codes", "I", false)
  | 29 => ("QuillDeskModel", "open", "I", false)
  | 30 => ("QuillDeskModel", "pending", "[I", true)
  | 31 => ("QuillDeskModel", "pendings", "I", false)
  | 32 => ("QuillDeskModel", "readFault", "I", false)
  | 33 => ("QuillDeskModel", "readPlace", "I", false)
  | 34 => ("QuillDeskModel", "faultKind", "I", false)
  | 35 => ("QuillDeskModel", "faultPlace", "I", false)
  | 36 => ("QuillDeskModel", "orderMany", "I", false)
  | 37 => ("QuillDeskModel", "orders", "[I", true)
  | 38 => ("QuillDeskModel", "birdMany", "I", false)
  | 39 => ("QuillDeskModel", "wildOf", "[I", true)
  | 40 => ("QuillDeskModel", "fineBut", "[I", true)
  | 41 => ("QuillDeskModel", "afterMany", "I", false)
  | 42 => ("QuillDeskModel", "afterOf", "[I", true)
  | 43 => ("QuillDeskModel", "asked", "[I", true)
  | 44 => ("QuillDeskModel", "stack", "[I", true)
  | 45 => ("QuillDeskModel", "doneBy", "[I", true)
  | 46 => ("QuillDeskModel", "flockBy", "[I", true)
  | 47 => ("QuillDeskModel", "wordMany", "I", false)
  | 48 => ("QuillDeskModel", "wordLong", "[I", true)
  | 49 => ("QuillDeskModel", "raggedBy", "[I", true)
  | 50 => ("QuillDeskModel", "pageLines", "[I", true)
  | 51 => ("QuillDeskModel", "stampMany", "I", false)
  | 52 => ("QuillDeskModel", "stampOf", "[I", true)
  | 53 => ("QuillDeskModel", "canPay", "[I", true)
  | 54 => ("QuillDeskModel", "threeOf", "[I", true)
  | 55 => ("QuillDeskModel", "dotX", "[I", true)
  | 56 => ("QuillDeskModel", "dotY", "[I", true)
  | 57 => ("QuillDeskModel", "cutSet1", "I", false)
  | 58 => ("QuillDeskModel", "cutSet2", "I", false)
  | 59 => ("QuillDeskModel", "cutMany", "I", false)
  | 60 => ("QuillDeskModel", "cutAt", "[I", true)
  | 61 => ("QuillDeskModel", "plankBy", "[I", true)
  | 62 => ("QuillDeskModel", "signMany", "I", false)
  | 63 => ("QuillDeskModel", "signOf", "[I", true)
  | 64 => ("QuillDeskModel", "legMany", "I", false)
  | 65 => ("QuillDeskModel", "legs", "[I", true)
  | 66 => ("QuillDeskModel", "weightMany", "I", false)
  | 67 => ("QuillDeskModel", "weights", "[I", true)
  | 68 => ("QuillDeskModel", "birdsLeft", "[I", true)
  | 69 => ("QuillDeskModel", "heirMany", "I", false)
  | 70 => ("QuillDeskModel", "heirs", "[I", true)
  | 71 => ("QuillDeskModel", "moreBy", "[I", true)
  | 72 => ("QuillDeskModel", "isTaking", "Z", false)
  | 73 => ("QuillDeskModel", "hasImage", "Z", false)
  | 74 => ("QuillDeskModel", "keptAt", "I", false)
  | _ => ("QuillDeskModel", "images", "[I", true)
def tyX11 : Nat → FieldType := fun k => match k with
  | 0 => .int
  | 1 => .array .int
  | 2 => .array .int
  | 3 => .int
  | 4 => .array .int
  | 5 => .boolean
  | 6 => .int
  | 7 => .int
  | 8 => .int
  | 9 => .array .int
  | 10 => .array .int
  | 11 => .array .int
  | 12 => .array .int
  | 13 => .array .int
  | 14 => .int
  | 15 => .int
  | 16 => .int
  | 17 => .int
  | 18 => .int
  | 19 => .array .int
  | 20 => .array .int
  | 21 => .array .int
  | 22 => .array .int
  | 23 => .array .int
  | 24 => .array .int
  | 25 => .array .int
  | 26 => .array .int
  | 27 => .int
  | 28 => .int
  | 29 => .int
  | 30 => .array .int
  | 31 => .int
  | 32 => .int
  | 33 => .int
  | 34 => .int
  | 35 => .int
  | 36 => .int
  | 37 => .array .int
  | 38 => .int
  | 39 => .array .int
  | 40 => .array .int
  | 41 => .int
  | 42 => .array .int
  | 43 => .array .int
  | 44 => .array .int
  | 45 => .array .int
  | 46 => .array .int
  | 47 => .int
  | 48 => .array .int
  | 49 => .array .int
  | 50 => .array .int
  | 51 => .int
  | 52 => .array .int
  | 53 => .array .int
  | 54 => .array .int
  | 55 => .array .int
  | 56 => .array .int
  | 57 => .int
  | 58 => .int
  | 59 => .int
  | 60 => .array .int
  | 61 => .array .int
  | 62 => .int
  | 63 => .array .int
  | 64 => .int
  | 65 => .array .int
  | 66 => .int
  | 67 => .array .int
  | 68 => .array .int
  | 69 => .int
  | 70 => .array .int
  | 71 => .array .int
  | 72 => .boolean
  | 73 => .boolean
  | 74 => .int
  | _ => .array .int
theorem nmX11 : ∀ a, a < 76 → ∀ b, b < 76 → a ≠ b → (TX11 a).2.1 ≠ (TX11 b).2.1 := by decide +kernel
theorem tyX11_ok : ∀ k, k < 76 → parseFieldDescriptor (TX11 k).2.2.1 = some (tyX11 k) := by decide +kernel
def kg_T : List Cond := lw_tbl.filter goodWord
def wd (pl : Nat) (w : Cond) : Bool := decide (tables_1[pl]? = some w)
theorem wd_in {pl : Nat} {w : Cond} (h : wd pl w = true) (hg : goodWord w = true) : w ∈ kg_T := by
  have h1 : tables_1[pl]? = some w := of_decide_eq_true h
  have h2 : w ∈ tables_1 := List.mem_of_getElem? h1
  exact List.mem_filter.mpr ⟨List.mem_append_right _ h2, hg⟩
theorem wd_lay {C : String} {T : u_T} {N : Nat} (pls : List Nat) (h : ((List.range N).all fun k => wd (pls.getD k 0) (u_lay C T k)) = true) (hg : ((List.range N).all fun k => goodWord (u_lay C T k)) = true) : ∀ w ∈ u_ws C T N, w ∈ kg_T := by
  intro w hw
  obtain ⟨k, hk, rfl⟩ := List.mem_map.mp hw
  exact wd_in (List.all_eq_true.mp h k hk) (List.all_eq_true.mp hg k hk)
theorem inX0 : ∀ w ∈ u_ws RX0 TX0 5, w ∈ kg_T := wd_lay [148, 150, 152, 154, 156] (by decide +kernel) (by decide +kernel)
theorem inX1 : ∀ w ∈ u_ws RX1 TX1 2, w ∈ kg_T := wd_lay [411, 413] (by decide +kernel) (by decide +kernel)
theorem inX2 : ∀ w ∈ u_ws RX2 TX2 15, w ∈ kg_T := wd_lay [272, 274, 276, 278, 280, 282, 284, 286, 288, 290, 292, 294, 296, 298, 300] (by decide +kernel) (by decide +kernel)
theorem inX3 : ∀ w ∈ u_ws RX3 TX3 18, w ∈ kg_T := wd_lay [93, 95, 97, 99, 101, 103, 105, 107, 109, 111, 113, 115, 117, 119, 121, 123, 125, 127] (by decide +kernel) (by decide +kernel)
theorem inX4 : ∀ w ∈ u_ws RX4 TX4 5, w ∈ kg_T := wd_lay [207, 209, 211, 213, 215] (by decide +kernel) (by decide +kernel)
theorem inX5 : ∀ w ∈ u_ws RX5 TX5 4, w ∈ kg_T := wd_lay [317, 319, 321, 323] (by decide +kernel) (by decide +kernel)
theorem inX6 : ∀ w ∈ u_ws RX6 TX6 11, w ∈ kg_T := wd_lay [354, 356, 358, 360, 362, 364, 366, 368, 370, 372, 374] (by decide +kernel) (by decide +kernel)
theorem inX7 : ∀ w ∈ u_ws RX7 TX7 3, w ∈ kg_T := wd_lay [235, 237, 239] (by decide +kernel) (by decide +kernel)
theorem inX8 : ∀ w ∈ u_ws RX8 TX8 5, w ∈ kg_T := wd_lay [188, 190, 192, 194, 196] (by decide +kernel) (by decide +kernel)
theorem inX9 : ∀ w ∈ u_ws RX9 TX9 6, w ∈ kg_T := wd_lay [390, 392, 394, 396, 398, 400] (by decide +kernel) (by decide +kernel)
theorem inX10 : ∀ w ∈ u_ws RX10 TX10 8, w ∈ kg_T := wd_lay [424, 426, 428, 430, 432, 434, 436, 438] (by decide +kernel) (by decide +kernel)
theorem inX11 : ∀ w ∈ u_ws RX11 TX11 76, w ∈ kg_T := wd_lay [1201, 1203, 1205, 1207, 1209, 1211, 1213, 1215, 1217, 1219, 1221, 1223, 1225, 1227, 1229, 1231, 1233, 1235, 1237, 1239, 1241, 1243, 1245, 1247, 1249, 1251, 1253, 1255, 1257, 1259, 1261, 1263, 1265, 1267, 1269, 1271, 1273, 1275, 1277, 1279, 1281, 1283, 1285, 1287, 1289, 1291, 1293, 1295, 1297, 1299, 1301, 1303, 1305, 1307, 1309, 1311, 1313, 1315, 1317, 1319, 1321, 1323, 1325, 1327, 1329, 1331, 1333, 1335, 1337, 1339, 1341, 1343, 1345, 1347, 1349, 1351] (by decide +kernel) (by decide +kernel)
abbrev vwCl : List vw_C := [(RX0, TX0, 5), (RX1, TX1, 2), (RX2, TX2, 15), (RX3, TX3, 18), (RX4, TX4, 5), (RX5, TX5, 4), (RX6, TX6, 11), (RX7, TX7, 3), (RX8, TX8, 5), (RX9, TX9, 6), (RX10, TX10, 8), (RX11, TX11, 76)]
/-- class number to its number of fields, its name, its fields, their types -/
def kn_N (c : Nat) : Nat := ([5, 2, 15, 18, 5, 4, 11, 3, 5, 6, 8, 76] : List Nat).getD c 0
def kn_R (c : Nat) : String := match c with
  | 0 => RX0
  | 1 => RX1
  | 2 => RX2
  | 3 => RX3
  | 4 => RX4
  | 5 => RX5
  | 6 => RX6
  | 7 => RX7
  | 8 => RX8
  | 9 => RX9
  | 10 => RX10
  | 11 => RX11
  | _ => ""
def kn_F (c : Nat) : u_T := match c with
  | 0 => TX0
  | 1 => TX1
  | 2 => TX2
  | 3 => TX3
  | 4 => TX4
  | 5 => TX5
  | 6 => TX6
  | 7 => TX7
  | 8 => TX8
  | 9 => TX9
  | 10 => TX10
  | _ => TX11
def kn_t (c : Nat) : Nat → FieldType := match c with
  | 0 => tyX0
  | 1 => tyX1
  | 2 => tyX2
  | 3 => tyX3
  | 4 => tyX4
  | 5 => tyX5
  | 6 => tyX6
  | 7 => tyX7
  | 8 => tyX8
  | 9 => tyX9
  | 10 => tyX10
  | _ => tyX11
theorem kn_cl {c : Nat} (h : c < 12) : vwCl[c]? = some (kn_R c, kn_F c, kn_N c) := by
  match c, h with
  | 0, _ => rfl
  | 1, _ => rfl
  | 2, _ => rfl
  | 3, _ => rfl
  | 4, _ => rfl
  | 5, _ => rfl
  | 6, _ => rfl
  | 7, _ => rfl
  | 8, _ => rfl
  | 9, _ => rfl
  | 10, _ => rfl
  | 11, _ => rfl
  | n + 12, h => omega
theorem kn_in {c : Nat} (h : c < 12) : ∀ w ∈ u_ws (kn_R c) (kn_F c) (kn_N c), w ∈ kg_T := by
  match c, h with
  | 0, _ => exact inX0
  | 1, _ => exact inX1
  | 2, _ => exact inX2
  | 3, _ => exact inX3
  | 4, _ => exact inX4
  | 5, _ => exact inX5
  | 6, _ => exact inX6
  | 7, _ => exact inX7
  | 8, _ => exact inX8
  | 9, _ => exact inX9
  | 10, _ => exact inX10
  | 11, _ => exact inX11
  | n + 12, h => omega
theorem kn_nm {c : Nat} (h : c < 12) : ∀ a, a < kn_N c → ∀ b, b < kn_N c → a ≠ b → (kn_F c a).2.1 ≠ (kn_F c b).2.1 := by
  match c, h with
  | 0, _ => exact nmX0
  | 1, _ => exact nmX1
  | 2, _ => exact nmX2
  | 3, _ => exact nmX3
  | 4, _ => exact nmX4
  | 5, _ => exact nmX5
  | 6, _ => exact nmX6
  | 7, _ => exact nmX7
  | 8, _ => exact nmX8
  | 9, _ => exact nmX9
  | 10, _ => exact nmX10
  | 11, _ => exact nmX11
  | n + 12, h => omega
theorem kn_ty {c : Nat} (h : c < 12) : ∀ k, k < kn_N c → parseFieldDescriptor (kn_F c k).2.2.1 = some (kn_t c k) := by
  match c, h with
  | 0, _ => exact tyX0_ok
  | 1, _ => exact tyX1_ok
  | 2, _ => exact tyX2_ok
  | 3, _ => exact tyX3_ok
  | 4, _ => exact tyX4_ok
  | 5, _ => exact tyX5_ok
  | 6, _ => exact tyX6_ok
  | 7, _ => exact tyX7_ok
  | 8, _ => exact tyX8_ok
  | 9, _ => exact tyX9_ok
  | 10, _ => exact tyX10_ok
  | 11, _ => exact tyX11_ok
  | n + 12, h => omega
end
section
/-! the code of each method: its own instructions (kc), and how the bytes bear them out (kr: place, word, instruction of the bytes, length) -/
/-- QuillDesk$Book.<init>()V -/
def kc_0 : List Instr := [.aload 0, .monitorexit, .aload 0, .sipush 150, .newarray .int, .putstatic 0, .aload 0, .sipush 150, .newarray .int, .putstatic 2, .aload 0, .sipush 150, .newarray .int, .putstatic 4, .aload 0, .sipush 150, .newarray .int, .putstatic 6, .aload 0, .sipush 0, .putfield 8, .return_]
def kr_0 : List (Nat × Nat × Nat × Nat) := [(0, 0, 0, 1), (1, 136, 3, 3), (4, 0, 0, 1), (5, 0, 0, 3), (8, 0, 0, 2), (10, 137, 9, 3), (13, 0, 0, 1), (14, 0, 0, 3), (17, 0, 0, 2), (19, 139, 15, 3), (22, 0, 0, 1), (23, 0, 0, 3), (26, 0, 0, 2), (28, 141, 18, 3), (31, 0, 0, 1), (32, 0, 0, 3), (35, 0, 0, 2), (37, 143, 21, 3), (40, 0, 0, 1), (41, 0, 0, 1), (42, 145, 24, 3), (45, 0, 0, 1)]
/-- QuillDesk$Book.add(IIII)V -/
def kc_1 : List Instr := [.aload 0, .getfield 8, .ifCond .lt 7, .aload 0, .getfield 8, .sipush 150, .if_icmp .lt 8, .return_, .aload 0, .checkcast 0, .aload 0, .getfield 8, .iload 1, .iastore, .aload 0, .checkcast 2, .aload 0, .getfield 8, .iload 2, .iastore, .aload 0, .checkcast 4, .aload 0, .getfield 8, .iload 3, .iastore, .aload 0, .checkcast 6, .aload 0, .getfield 8, .iload 4, .iastore, .aload 0, .dup, .getfield 8, .sipush 1, .iadd, .putfield 8, .return_]
def kr_1 : List (Nat × Nat × Nat × Nat) := [(0, 0, 0, 1), (1, 145, 24, 3), (4, 0, 0, 3), (7, 0, 0, 1), (8, 145, 24, 3), (11, 0, 0, 3), (14, 0, 0, 3), (17, 0, 0, 1), (18, 0, 0, 1), (19, 137, 9, 3), (22, 0, 0, 1), (23, 145, 24, 3), (26, 0, 0, 1), (27, 0, 0, 1), (28, 0, 0, 1), (29, 139, 15, 3), (32, 0, 0, 1), (33, 145, 24, 3), (36, 0, 0, 1), (37, 0, 0, 1), (38, 0, 0, 1), (39, 141, 18, 3), (42, 0, 0, 1), (43, 145, 24, 3), (46, 0, 0, 1), (47, 0, 0, 1), (48, 0, 0, 1), (49, 143, 21, 3), (52, 0, 0, 1), (53, 145, 24, 3), (56, 0, 0, 2), (58, 0, 0, 1), (59, 0, 0, 1), (60, 0, 0, 1), (61, 145, 24, 3), (64, 0, 0, 1), (65, 0, 0, 1), (66, 145, 24, 3), (69, 0, 0, 1)]
/-- QuillDesk$Book.copyFrom(LQuillDesk$Book;)V -/
def kc_2 : List Instr := [.aload 1, .checkcast 0, .sipush 0, .aload 0, .checkcast 0, .sipush 0, .sipush 150, .swap, .aload 1, .checkcast 2, .sipush 0, .aload 0, .checkcast 2, .sipush 0, .sipush 150, .swap, .aload 1, .checkcast 4, .sipush 0, .aload 0, .checkcast 4, .sipush 0, .sipush 150, .swap, .aload 1, .checkcast 6, .sipush 0, .aload 0, .checkcast 6, .sipush 0, .sipush 150, .swap, .aload 0, .aload 1, .getfield 8, .putfield 8, .return_]
def kr_2 : List (Nat × Nat × Nat × Nat) := [(0, 0, 0, 1), (1, 137, 9, 3), (4, 0, 0, 1), (5, 0, 0, 1), (6, 137, 9, 3), (9, 0, 0, 1), (10, 0, 0, 3), (13, 1105, 28, 3), (16, 0, 0, 1), (17, 139, 15, 3), (20, 0, 0, 1), (21, 0, 0, 1), (22, 139, 15, 3), (25, 0, 0, 1), (26, 0, 0, 3), (29, 1105, 28, 3), (32, 0, 0, 1), (33, 141, 18, 3), (36, 0, 0, 1), (37, 0, 0, 1), (38, 141, 18, 3), (41, 0, 0, 1), (42, 0, 0, 3), (45, 1105, 28, 3), (48, 0, 0, 1), (49, 143, 21, 3), (52, 0, 0, 1), (53, 0, 0, 1), (54, 143, 21, 3), (57, 0, 0, 1), (58, 0, 0, 3), (61, 1105, 28, 3), (64, 0, 0, 1), (65, 0, 0, 1), (66, 145, 24, 3), (69, 145, 24, 3), (72, 0, 0, 1)]
/-- QuillDesk$Boxes.<init>()V -/
def kc_3 : List Instr := [.aload 0, .monitorexit, .aload 0, .sipush 4096, .newarray .int, .putstatic 256, .aload 0, .sipush 4095, .putfield 258, .return_]
def kr_3 : List (Nat × Nat × Nat × Nat) := [(0, 0, 0, 1), (1, 408, 3, 3), (4, 0, 0, 1), (5, 0, 0, 3), (8, 0, 0, 2), (10, 409, 9, 3), (13, 0, 0, 1), (14, 0, 0, 3), (17, 410, 15, 3), (20, 0, 0, 1)]
/-- QuillDesk$Boxes.worth(I)I -/
def kc_4 : List Instr := [.iload 1, .sipush 0, .sipush 4095, .invokestatic 312206, .ifCond .ne 7, .sipush 0, .ireturn, .aload 0, .getfield 258, .sipush 1, .isub, .istore 2, .iload 2, .iload 1, .if_icmp .lt 49, .iload 2, .ifCond .lt 49, .sipush (-9), .istore 3, .sipush 0, .istore 4, .iload 4, .sipush 12, .if_icmp .ge 39, .iload 2, .iload 4, .ishr, .sipush 1, .iand, .ifCond .ne 37, .iload 3, .aload 0, .iload 2, .iload 4, .invokevirtual 12024, .invokestatic 591964, .istore 3, .iinc 4 1, .goto 21, .aload 0, .checkcast 256, .iload 2, .iload 3, .iastore, .aload 0, .iload 2, .putfield 258, .iinc 2 (-1), .goto 12, .aload 0, .checkcast 256, .iload 1, .iaload, .ireturn]
def kr_4 : List (Nat × Nat × Nat × Nat) := [(0, 0, 0, 1), (1, 0, 0, 1), (2, 0, 0, 3), (5, 1068, 19, 3), (8, 0, 0, 3), (11, 0, 0, 1), (12, 0, 0, 1), (13, 0, 0, 1), (14, 410, 15, 3), (17, 0, 0, 1), (18, 0, 0, 1), (19, 0, 0, 1), (20, 0, 0, 1), (21, 0, 0, 1), (22, 0, 0, 3), (25, 0, 0, 1), (26, 0, 0, 3), (29, 0, 0, 2), (31, 0, 0, 1), (32, 0, 0, 1), (33, 0, 0, 2), (35, 0, 0, 2), (37, 0, 0, 2), (39, 0, 0, 3), (42, 0, 0, 1), (43, 0, 0, 2), (45, 0, 0, 1), (46, 0, 0, 1), (47, 0, 0, 1), (48, 0, 0, 3), (51, 0, 0, 1), (52, 0, 0, 1), (53, 0, 0, 1), (54, 0, 0, 2), (56, 1069, 23, 3), (59, 1078, 27, 3), (62, 0, 0, 1), (63, 0, 0, 3), (66, 0, 0, 3), (69, 0, 0, 1), (70, 409, 9, 3), (73, 0, 0, 1), (74, 0, 0, 1), (75, 0, 0, 1), (76, 0, 0, 1), (77, 0, 0, 1), (78, 410, 15, 3), (81, 0, 0, 3), (84, 0, 0, 3), (87, 0, 0, 1), (88, 409, 9, 3), (91, 0, 0, 1), (92, 0, 0, 1), (93, 0, 0, 1)]
/-- QuillDesk$Boxes.bestLine(I)I -/
def kc_5 : List Instr := [.aload 0, .iload 1, .invokevirtual 8022, .istore 2, .sipush 0, .istore 3, .iload 3, .sipush 12, .if_icmp .ge 25, .iload 1, .iload 3, .ishr, .sipush 1, .iand, .ifCond .ne 23, .aload 0, .iload 1, .iload 3, .invokevirtual 12024, .iload 2, .if_icmp .ne 23, .iload 3, .ireturn, .iinc 3 1, .goto 6, .sipush (-1), .ireturn]
def kr_5 : List (Nat × Nat × Nat × Nat) := [(0, 0, 0, 1), (1, 0, 0, 1), (2, 1083, 32, 3), (5, 0, 0, 1), (6, 0, 0, 1), (7, 0, 0, 1), (8, 0, 0, 1), (9, 0, 0, 2), (11, 0, 0, 3), (14, 0, 0, 1), (15, 0, 0, 1), (16, 0, 0, 1), (17, 0, 0, 1), (18, 0, 0, 1), (19, 0, 0, 3), (22, 0, 0, 1), (23, 0, 0, 1), (24, 0, 0, 1), (25, 1069, 23, 3), (28, 0, 0, 1), (29, 0, 0, 3), (32, 0, 0, 1), (33, 0, 0, 1), (34, 0, 0, 3), (37, 0, 0, 3), (40, 0, 0, 1), (41, 0, 0, 1)]
/-- QuillDesk$Boxes.worthOfDrawing(II)I -/
def kc_6 : List Instr := [.iload 1, .sipush 1, .iload 2, .ishl, .ior, .istore 3, .iload 3, .ifCond .lt 11, .iload 3, .sipush 4096, .if_icmp .lt 13, .sipush 0, .ireturn, .iload 3, .invokestatic 14022, .iload 1, .invokestatic 14022, .isub, .istore 4, .iload 4, .ifCond .le 28, .iload 4, .aload 0, .checkcast 256, .iload 3, .iaload, .iadd, .goto 33, .aload 0, .checkcast 256, .iload 3, .iaload, .ineg, .ireturn]
def kr_6 : List (Nat × Nat × Nat × Nat) := [(0, 0, 0, 1), (1, 0, 0, 1), (2, 0, 0, 1), (3, 0, 0, 1), (4, 0, 0, 1), (5, 0, 0, 1), (6, 0, 0, 1), (7, 0, 0, 3), (10, 0, 0, 1), (11, 0, 0, 3), (14, 0, 0, 3), (17, 0, 0, 1), (18, 0, 0, 1), (19, 0, 0, 1), (20, 1073, 36, 3), (23, 0, 0, 1), (24, 1073, 36, 3), (27, 0, 0, 1), (28, 0, 0, 2), (30, 0, 0, 2), (32, 0, 0, 3), (35, 0, 0, 2), (37, 0, 0, 1), (38, 409, 9, 3), (41, 0, 0, 1), (42, 0, 0, 1), (43, 0, 0, 1), (44, 0, 0, 3), (47, 0, 0, 1), (48, 409, 9, 3), (51, 0, 0, 1), (52, 0, 0, 1), (53, 0, 0, 1), (54, 0, 0, 1)]
/-- QuillDesk$Boxes.countClosed(I)I -/
def kc_7 : List Instr := [.sipush 0, .istore 1, .sipush 0, .istore 2, .iload 2, .getstatic 1, .arraylength, .if_icmp .ge 25, .iload 1, .iload 0, .getstatic 1, .iload 2, .iaload, .iand, .getstatic 1, .iload 2, .iaload, .if_icmp .ne 20, .sipush 1, .goto 21, .sipush 0, .iadd, .istore 1, .iinc 2 1, .goto 4, .iload 1, .ireturn]
def kr_7 : List (Nat × Nat × Nat × Nat) := [(0, 0, 0, 1), (1, 0, 0, 1), (2, 0, 0, 1), (3, 0, 0, 1), (4, 0, 0, 1), (5, 1076, 39, 3), (8, 0, 0, 1), (9, 0, 0, 3), (12, 0, 0, 1), (13, 0, 0, 1), (14, 1076, 39, 3), (17, 0, 0, 1), (18, 0, 0, 1), (19, 0, 0, 1), (20, 1076, 39, 3), (23, 0, 0, 1), (24, 0, 0, 1), (25, 0, 0, 3), (28, 0, 0, 1), (29, 0, 0, 3), (32, 0, 0, 1), (33, 0, 0, 1), (34, 0, 0, 1), (35, 0, 0, 3), (38, 0, 0, 3), (41, 0, 0, 1), (42, 0, 0, 1)]
/-- QuillDesk$Desk.<init>()V -/
def kc_8 : List Instr := [.aload 0, .monitorexit, .aload 0, .new 3, .dup, .invokespecial 40061, .putstatic 512, .aload 0, .new 0, .dup, .invokespecial 1, .putstatic 514, .aload 0, .new 4, .dup, .invokespecial 76081, .putstatic 516, .aload 0, .new 8, .dup, .invokespecial 168161, .putstatic 518, .aload 0, .new 8, .dup, .invokespecial 168161, .putstatic 520, .aload 0, .new 8, .dup, .invokespecial 168161, .putstatic 522, .aload 0, .new 7, .dup, .sipush 10, .invokespecial 154143, .putstatic 524, .aload 0, .new 7, .dup, .sipush 4, .invokespecial 154143, .putstatic 526, .aload 0, .sipush 3, .newarray .int, .putstatic 528, .aload 0, .sipush 3, .newarray .int, .putstatic 530, .aload 0, .new 7, .dup, .sipush 7, .invokespecial 154143, .putstatic 532, .aload 0, .new 7, .dup, .sipush 12, .invokespecial 154143, .putstatic 534, .aload 0, .new 7, .dup, .sipush 10, .invokespecial 154143, .putstatic 536, .aload 0, .new 7, .dup, .sipush 8, .invokespecial 154143, .putstatic 538, .aload 0, .new 7, .dup, .sipush 6, .invokespecial 154143, .putstatic 540, .return_]
def kr_8 : List (Nat × Nat × Nat × Nat) := [(0, 0, 0, 1), (1, 33, 3, 3), (4, 0, 0, 1), (5, 34, 9, 3), (8, 0, 0, 1), (9, 36, 11, 3), (12, 242, 12, 3), (15, 0, 0, 1), (16, 131, 18, 3), (19, 0, 0, 1), (20, 133, 20, 3), (23, 244, 21, 3), (26, 0, 0, 1), (27, 159, 25, 3), (30, 0, 0, 1), (31, 161, 27, 3), (34, 246, 28, 3), (37, 0, 0, 1), (38, 218, 32, 3), (41, 0, 0, 1), (42, 219, 34, 3), (45, 248, 35, 3), (48, 0, 0, 1), (49, 218, 32, 3), (52, 0, 0, 1), (53, 219, 34, 3), (56, 250, 39, 3), (59, 0, 0, 1), (60, 218, 32, 3), (63, 0, 0, 1), (64, 219, 34, 3), (67, 252, 42, 3), (70, 0, 0, 1), (71, 220, 45, 3), (74, 0, 0, 1), (75, 0, 0, 2), (77, 222, 47, 3), (80, 254, 50, 3), (83, 0, 0, 1), (84, 220, 45, 3), (87, 0, 0, 1), (88, 0, 0, 1), (89, 222, 47, 3), (92, 256, 54, 3), (95, 0, 0, 1), (96, 0, 0, 1), (97, 0, 0, 2), (99, 258, 57, 3), (102, 0, 0, 1), (103, 0, 0, 1), (104, 0, 0, 2), (106, 260, 61, 3), (109, 0, 0, 1), (110, 220, 45, 3), (113, 0, 0, 1), (114, 0, 0, 2), (116, 222, 47, 3), (119, 262, 64, 3), (122, 0, 0, 1), (123, 220, 45, 3), (126, 0, 0, 1), (127, 0, 0, 2), (129, 222, 47, 3), (132, 264, 67, 3), (135, 0, 0, 1), (136, 220, 45, 3), (139, 0, 0, 1), (140, 0, 0, 2), (142, 222, 47, 3), (145, 266, 70, 3), (148, 0, 0, 1), (149, 220, 45, 3), (152, 0, 0, 1), (153, 0, 0, 2), (155, 222, 47, 3), (158, 268, 73, 3), (161, 0, 0, 1), (162, 220, 45, 3), (165, 0, 0, 1), (166, 0, 0, 2), (168, 222, 47, 3), (171, 270, 76, 3), (174, 0, 0, 1)]
/-- QuillDesk$Desk.copyFrom(LQuillDesk$Desk;)V -/
def kc_9 : List Instr := [.aload 0, .checkcast 512, .aload 1, .checkcast 512, .invokevirtual 42063, .aload 0, .checkcast 514, .aload 1, .checkcast 514, .invokevirtual 4003, .aload 0, .checkcast 516, .aload 1, .checkcast 516, .invokevirtual 78083, .aload 0, .checkcast 518, .aload 1, .checkcast 518, .invokevirtual 172163, .aload 0, .checkcast 520, .aload 1, .checkcast 520, .invokevirtual 172163, .aload 0, .checkcast 522, .aload 1, .checkcast 522, .invokevirtual 172163, .aload 0, .checkcast 524, .aload 1, .checkcast 524, .invokevirtual 166143, .aload 0, .checkcast 526, .aload 1, .checkcast 526, .invokevirtual 166143, .aload 1, .checkcast 528, .sipush 0, .aload 0, .checkcast 528, .sipush 0, .sipush 3, .swap, .aload 1, .checkcast 530, .sipush 0, .aload 0, .checkcast 530, .sipush 0, .sipush 3, .swap, .aload 0, .checkcast 532, .aload 1, .checkcast 532, .invokevirtual 166143, .aload 0, .checkcast 534, .aload 1, .checkcast 534, .invokevirtual 166143, .aload 0, .checkcast 536, .aload 1, .checkcast 536, .invokevirtual 166143, .aload 0, .checkcast 538, .aload 1, .checkcast 538, .invokevirtual 166143, .aload 0, .checkcast 540, .aload 1, .checkcast 540, .invokevirtual 166143, .return_]
def kr_9 : List (Nat × Nat × Nat × Nat) := [(0, 0, 0, 1), (1, 242, 12, 3), (4, 0, 0, 1), (5, 242, 12, 3), (8, 1100, 79, 3), (11, 0, 0, 1), (12, 244, 21, 3), (15, 0, 0, 1), (16, 244, 21, 3), (19, 1101, 83, 3), (22, 0, 0, 1), (23, 246, 28, 3), (26, 0, 0, 1), (27, 246, 28, 3), (30, 1106, 86, 3), (33, 0, 0, 1), (34, 248, 35, 3), (37, 0, 0, 1), (38, 248, 35, 3), (41, 1107, 89, 3), (44, 0, 0, 1), (45, 250, 39, 3), (48, 0, 0, 1), (49, 250, 39, 3), (52, 1107, 89, 3), (55, 0, 0, 1), (56, 252, 42, 3), (59, 0, 0, 1), (60, 252, 42, 3), (63, 1107, 89, 3), (66, 0, 0, 1), (67, 254, 50, 3), (70, 0, 0, 1), (71, 254, 50, 3), (74, 1108, 92, 3), (77, 0, 0, 1), (78, 256, 54, 3), (81, 0, 0, 1), (82, 256, 54, 3), (85, 1108, 92, 3), (88, 0, 0, 1), (89, 258, 57, 3), (92, 0, 0, 1), (93, 0, 0, 1), (94, 258, 57, 3), (97, 0, 0, 1), (98, 0, 0, 1), (99, 1113, 95, 3), (102, 0, 0, 1), (103, 260, 61, 3), (106, 0, 0, 1), (107, 0, 0, 1), (108, 260, 61, 3), (111, 0, 0, 1), (112, 0, 0, 1), (113, 1113, 95, 3), (116, 0, 0, 1), (117, 262, 64, 3), (120, 0, 0, 1), (121, 262, 64, 3), (124, 1108, 92, 3), (127, 0, 0, 1), (128, 264, 67, 3), (131, 0, 0, 1), (132, 264, 67, 3), (135, 1108, 92, 3), (138, 0, 0, 1), (139, 266, 70, 3), (142, 0, 0, 1), (143, 266, 70, 3), (146, 1108, 92, 3), (149, 0, 0, 1), (150, 268, 73, 3), (153, 0, 0, 1), (154, 268, 73, 3), (157, 1108, 92, 3), (160, 0, 0, 1), (161, 270, 76, 3), (164, 0, 0, 1), (165, 270, 76, 3), (168, 1108, 92, 3), (171, 0, 0, 1)]
/-- QuillDesk$Desk.wildness(I)I -/
def kc_10 : List Instr := [.aload 0, .checkcast 520, .getfield 2056, .sipush 1, .isub, .istore 2, .iload 2, .ifCond .lt 23, .aload 0, .checkcast 520, .checkcast 2048, .iload 2, .iaload, .iload 1, .if_icmp .ne 21, .aload 0, .checkcast 520, .checkcast 2050, .iload 2, .iaload, .ireturn, .iinc 2 (-1), .goto 6, .sipush 0, .ireturn]
def kr_10 : List (Nat × Nat × Nat × Nat) := [(0, 0, 0, 1), (1, 250, 39, 3), (4, 184, 101, 3), (7, 0, 0, 1), (8, 0, 0, 1), (9, 0, 0, 1), (10, 0, 0, 1), (11, 0, 0, 3), (14, 0, 0, 1), (15, 250, 39, 3), (18, 172, 105, 3), (21, 0, 0, 1), (22, 0, 0, 1), (23, 0, 0, 1), (24, 0, 0, 3), (27, 0, 0, 1), (28, 250, 39, 3), (31, 175, 108, 3), (34, 0, 0, 1), (35, 0, 0, 1), (36, 0, 0, 1), (37, 0, 0, 3), (40, 0, 0, 3), (43, 0, 0, 1), (44, 0, 0, 1)]
/-- QuillDesk$Desk.fineness(I)I -/
def kc_11 : List Instr := [.aload 0, .checkcast 520, .getfield 2056, .sipush 1, .isub, .istore 2, .iload 2, .ifCond .lt 23, .aload 0, .checkcast 520, .checkcast 2048, .iload 2, .iaload, .iload 1, .if_icmp .ne 21, .aload 0, .checkcast 520, .checkcast 2052, .iload 2, .iaload, .ireturn, .iinc 2 (-1), .goto 6, .sipush 5, .ireturn]
def kr_11 : List (Nat × Nat × Nat × Nat) := [(0, 0, 0, 1), (1, 250, 39, 3), (4, 184, 101, 3), (7, 0, 0, 1), (8, 0, 0, 1), (9, 0, 0, 1), (10, 0, 0, 1), (11, 0, 0, 3), (14, 0, 0, 1), (15, 250, 39, 3), (18, 172, 105, 3), (21, 0, 0, 1), (22, 0, 0, 1), (23, 0, 0, 1), (24, 0, 0, 3), (27, 0, 0, 1), (28, 250, 39, 3), (31, 178, 111, 3), (34, 0, 0, 1), (35, 0, 0, 1), (36, 0, 0, 1), (37, 0, 0, 3), (40, 0, 0, 3), (43, 0, 0, 1), (44, 0, 0, 1)]
/-- QuillDesk$Desk.deedsBefore(I)I -/
def kc_12 : List Instr := [.sipush 0, .istore 2, .sipush 0, .istore 3, .iload 3, .aload 0, .checkcast 522, .getfield 2056, .if_icmp .ge 28, .aload 0, .checkcast 522, .checkcast 2048, .iload 3, .iaload, .iload 1, .if_icmp .ne 26, .iload 2, .sipush 1, .aload 0, .checkcast 522, .checkcast 2050, .iload 3, .iaload, .ishl, .ior, .istore 2, .iinc 3 1, .goto 4, .iload 2, .ireturn]
def kr_12 : List (Nat × Nat × Nat × Nat) := [(0, 0, 0, 1), (1, 0, 0, 1), (2, 0, 0, 1), (3, 0, 0, 1), (4, 0, 0, 1), (5, 0, 0, 1), (6, 252, 42, 3), (9, 184, 101, 3), (12, 0, 0, 3), (15, 0, 0, 1), (16, 252, 42, 3), (19, 172, 105, 3), (22, 0, 0, 1), (23, 0, 0, 1), (24, 0, 0, 1), (25, 0, 0, 3), (28, 0, 0, 1), (29, 0, 0, 1), (30, 0, 0, 1), (31, 252, 42, 3), (34, 175, 108, 3), (37, 0, 0, 1), (38, 0, 0, 1), (39, 0, 0, 1), (40, 0, 0, 1), (41, 0, 0, 1), (42, 0, 0, 3), (45, 0, 0, 3), (48, 0, 0, 1), (49, 0, 0, 1)]
/-- QuillDesk$Desk.canBeWritten(LQuillDesk$Firm;I)Z -/
def kc_13 : List Instr := [.aload 1, .iload 2, .invokevirtual 48062, .ifCond .eq 19, .aload 1, .iload 2, .invokevirtual 50062, .ifCond .ne 19, .aload 0, .iload 2, .invokevirtual 24042, .aload 1, .invokevirtual 56060, .sipush (-1), .ixor, .iand, .ifCond .ne 19, .sipush 1, .goto 20, .sipush 0, .ireturn]
def kr_13 : List (Nat × Nat × Nat × Nat) := [(0, 0, 0, 1), (1, 0, 0, 1), (2, 525, 114, 3), (5, 0, 0, 3), (8, 0, 0, 1), (9, 0, 0, 1), (10, 530, 118, 3), (13, 0, 0, 3), (16, 0, 0, 1), (17, 0, 0, 1), (18, 534, 121, 3), (21, 0, 0, 1), (22, 538, 125, 3), (25, 0, 0, 1), (26, 0, 0, 1), (27, 0, 0, 1), (28, 0, 0, 3), (31, 0, 0, 1), (32, 0, 0, 3), (35, 0, 0, 1), (36, 0, 0, 1)]
/-- QuillDesk$Desk.ask(LQuillDesk$Firm;II)I -/
def kc_14 : List Instr := [.aload 1, .iload 2, .invokevirtual 46062, .ifCond .ne 6, .sipush 0, .ireturn, .aload 0, .aload 1, .iload 2, .invokevirtual 30045, .iload 3, .sipush 10011, .if_icmp .ne 15, .sipush 99, .goto 16, .sipush 1000, .istore 4, .sipush 0, .iload 4, .aload 0, .checkcast 516, .iload 3, .invokevirtual 88082, .invokestatic 593964, .invokestatic 591964, .ireturn]
def kr_14 : List (Nat × Nat × Nat × Nat) := [(0, 0, 0, 1), (1, 0, 0, 1), (2, 523, 129, 3), (5, 0, 0, 3), (8, 0, 0, 1), (9, 0, 0, 1), (10, 0, 0, 1), (11, 0, 0, 1), (12, 0, 0, 1), (13, 546, 132, 3), (16, 0, 0, 1), (17, 0, 0, 3), (20, 0, 0, 3), (23, 0, 0, 2), (25, 0, 0, 3), (28, 0, 0, 3), (31, 0, 0, 2), (33, 0, 0, 1), (34, 0, 0, 2), (36, 0, 0, 1), (37, 246, 28, 3), (40, 0, 0, 1), (41, 566, 136, 3), (44, 584, 139, 3), (47, 585, 145, 3), (50, 0, 0, 1)]
/-- QuillDesk$Desk.learn(LQuillDesk$Firm;I)V -/
def kc_15 : List Instr := [.aload 1, .checkcast 790, .iload 2, .iaload, .istore 3, .aload 1, .iload 3, .invokevirtual 44062, .istore 4, .aload 0, .checkcast 516, .sipush 10000, .aload 1, .checkcast 788, .iload 2, .iaload, .invokevirtual 86085, .aload 0, .checkcast 516, .sipush 10001, .iload 4, .ifCond .eq 27, .aload 1, .checkcast 782, .iload 3, .iaload, .goto 28, .sipush 0, .invokevirtual 86085, .aload 0, .checkcast 516, .sipush 10002, .iload 4, .ifCond .eq 39, .aload 1, .checkcast 784, .iload 3, .iaload, .goto 40, .sipush 0, .invokevirtual 86085, .aload 0, .checkcast 516, .sipush 10003, .iload 4, .ifCond .eq 53, .aload 0, .aload 1, .checkcast 780, .iload 3, .iaload, .invokevirtual 20042, .goto 54, .sipush 0, .invokevirtual 86085, .aload 0, .checkcast 516, .sipush 10004, .iload 4, .ifCond .eq 67, .aload 0, .aload 1, .checkcast 780, .iload 3, .iaload, .invokevirtual 22042, .goto 68, .sipush 0, .invokevirtual 86085, .aload 0, .checkcast 516, .sipush 10005, .aload 1, .aload 1, .checkcast 792, .iload 2, .iaload, .invokevirtual 52062, .invokevirtual 86085, .aload 0, .checkcast 516, .sipush 10006, .aload 1, .checkcast 796, .iload 2, .iaload, .invokevirtual 86085, .aload 0, .checkcast 516, .sipush 10007, .aload 1, .getfield 770, .invokevirtual 86085, .aload 0, .checkcast 516, .sipush 10008, .iload 4, .ifCond .eq 103, .aload 1, .checkcast 780, .iload 3, .iaload, .goto 104, .sipush 0, .invokevirtual 86085, .aload 0, .checkcast 516, .sipush 10009, .aload 1, .checkcast 792, .iload 2, .iaload, .invokevirtual 86085, .aload 0, .checkcast 516, .sipush 10010, .aload 1, .getfield 772, .invokevirtual 86085, .return_]
def kr_15 : List (Nat × Nat × Nat × Nat) := [(0, 0, 0, 1), (1, 76, 148, 3), (4, 0, 0, 1), (5, 0, 0, 1), (6, 0, 0, 1), (7, 0, 0, 1), (8, 0, 0, 1), (9, 524, 151, 3), (12, 0, 0, 2), (14, 0, 0, 1), (15, 246, 28, 3), (18, 0, 0, 3), (21, 0, 0, 1), (22, 73, 154, 3), (25, 0, 0, 1), (26, 0, 0, 1), (27, 550, 157, 3), (30, 0, 0, 1), (31, 246, 28, 3), (34, 0, 0, 3), (37, 0, 0, 2), (39, 0, 0, 3), (42, 0, 0, 1), (43, 64, 161, 3), (46, 0, 0, 1), (47, 0, 0, 1), (48, 0, 0, 3), (51, 0, 0, 1), (52, 550, 157, 3), (55, 0, 0, 1), (56, 246, 28, 3), (59, 0, 0, 3), (62, 0, 0, 2), (64, 0, 0, 3), (67, 0, 0, 1), (68, 67, 164, 3), (71, 0, 0, 1), (72, 0, 0, 1), (73, 0, 0, 3), (76, 0, 0, 1), (77, 550, 157, 3), (80, 0, 0, 1), (81, 246, 28, 3), (84, 0, 0, 3), (87, 0, 0, 2), (89, 0, 0, 3), (92, 0, 0, 1), (93, 0, 0, 1), (94, 61, 167, 3), (97, 0, 0, 1), (98, 0, 0, 1), (99, 554, 170, 3), (102, 0, 0, 3), (105, 0, 0, 1), (106, 550, 157, 3), (109, 0, 0, 1), (110, 246, 28, 3), (113, 0, 0, 3), (116, 0, 0, 2), (118, 0, 0, 3), (121, 0, 0, 1), (122, 0, 0, 1), (123, 61, 167, 3), (126, 0, 0, 1), (127, 0, 0, 1), (128, 558, 173, 3), (131, 0, 0, 3), (134, 0, 0, 1), (135, 550, 157, 3), (138, 0, 0, 1), (139, 246, 28, 3), (142, 0, 0, 3), (145, 0, 0, 1), (146, 0, 0, 1), (147, 79, 176, 3), (150, 0, 0, 1), (151, 0, 0, 1), (152, 562, 179, 3), (155, 550, 157, 3), (158, 0, 0, 1), (159, 246, 28, 3), (162, 0, 0, 3), (165, 0, 0, 1), (166, 85, 182, 3), (169, 0, 0, 1), (170, 0, 0, 1), (171, 550, 157, 3), (174, 0, 0, 1), (175, 246, 28, 3), (178, 0, 0, 3), (181, 0, 0, 1), (182, 43, 185, 3), (185, 550, 157, 3), (188, 0, 0, 1), (189, 246, 28, 3), (192, 0, 0, 3), (195, 0, 0, 2), (197, 0, 0, 3), (200, 0, 0, 1), (201, 61, 167, 3), (204, 0, 0, 1), (205, 0, 0, 1), (206, 0, 0, 3), (209, 0, 0, 1), (210, 550, 157, 3), (213, 0, 0, 1), (214, 246, 28, 3), (217, 0, 0, 3), (220, 0, 0, 1), (221, 79, 176, 3), (224, 0, 0, 1), (225, 0, 0, 1), (226, 550, 157, 3), (229, 0, 0, 1), (230, 246, 28, 3), (233, 0, 0, 3), (236, 0, 0, 1), (237, 47, 188, 3), (240, 550, 157, 3), (243, 0, 0, 1)]
/-- QuillDesk$Desk.passHour(LQuillDesk$Firm;Z)I -/
def kc_16 : List Instr := [.sipush 0, .istore 3, .iload 3, .aload 0, .checkcast 518, .getfield 2056, .if_icmp .ge 52, .aload 0, .checkcast 518, .checkcast 2048, .iload 3, .iaload, .aload 1, .getfield 772, .if_icmp .ne 50, .aload 1, .aload 0, .checkcast 518, .checkcast 2052, .iload 3, .iaload, .aload 0, .checkcast 518, .checkcast 2050, .iload 3, .iaload, .aload 0, .checkcast 518, .checkcast 2054, .iload 3, .iaload, .invokevirtual 64066, .ifCond .eq 50, .aload 1, .aload 0, .checkcast 518, .checkcast 2052, .iload 3, .iaload, .aload 0, .checkcast 518, .checkcast 2050, .iload 3, .iaload, .aload 0, .checkcast 518, .checkcast 2054, .iload 3, .iaload, .invokevirtual 66067, .iinc 3 1, .goto 2, .sipush 0, .istore 3, .sipush 0, .istore 4, .iload 4, .aload 1, .getfield 776, .if_icmp .ge 70, .iload 3, .aload 0, .aload 1, .iload 4, .iload 2, .invokevirtual 34046, .iadd, .istore 3, .iinc 4 1, .goto 56, .aload 1, .dup, .getfield 772, .sipush 1, .iadd, .putfield 772, .iload 3, .ireturn]
def kr_16 : List (Nat × Nat × Nat × Nat) := [(0, 0, 0, 1), (1, 0, 0, 1), (2, 0, 0, 1), (3, 0, 0, 1), (4, 248, 35, 3), (7, 184, 101, 3), (10, 0, 0, 3), (13, 0, 0, 1), (14, 248, 35, 3), (17, 172, 105, 3), (20, 0, 0, 1), (21, 0, 0, 1), (22, 0, 0, 1), (23, 47, 188, 3), (26, 0, 0, 3), (29, 0, 0, 1), (30, 0, 0, 1), (31, 248, 35, 3), (34, 178, 111, 3), (37, 0, 0, 1), (38, 0, 0, 1), (39, 0, 0, 1), (40, 248, 35, 3), (43, 175, 108, 3), (46, 0, 0, 1), (47, 0, 0, 1), (48, 0, 0, 1), (49, 248, 35, 3), (52, 182, 191, 3), (55, 0, 0, 1), (56, 0, 0, 1), (57, 517, 194, 3), (60, 0, 0, 3), (63, 0, 0, 1), (64, 0, 0, 1), (65, 248, 35, 3), (68, 178, 111, 3), (71, 0, 0, 1), (72, 0, 0, 1), (73, 0, 0, 1), (74, 248, 35, 3), (77, 175, 108, 3), (80, 0, 0, 1), (81, 0, 0, 1), (82, 0, 0, 1), (83, 248, 35, 3), (86, 182, 191, 3), (89, 0, 0, 1), (90, 0, 0, 1), (91, 518, 198, 3), (94, 0, 0, 3), (97, 0, 0, 3), (100, 0, 0, 1), (101, 0, 0, 1), (102, 0, 0, 1), (103, 0, 0, 2), (105, 0, 0, 2), (107, 0, 0, 1), (108, 53, 202, 3), (111, 0, 0, 3), (114, 0, 0, 1), (115, 0, 0, 1), (116, 0, 0, 1), (117, 0, 0, 2), (119, 0, 0, 1), (120, 519, 205, 3), (123, 0, 0, 1), (124, 0, 0, 1), (125, 0, 0, 3), (128, 0, 0, 3), (131, 0, 0, 1), (132, 0, 0, 1), (133, 47, 188, 3), (136, 0, 0, 1), (137, 0, 0, 1), (138, 47, 188, 3), (141, 0, 0, 1), (142, 0, 0, 1)]
/-- QuillDesk$Desk.takeTurn(LQuillDesk$Firm;IZ)I -/
def kc_17 : List Instr := [.aload 1, .iload 2, .invokevirtual 46062, .ifCond .ne 6, .sipush 0, .ireturn, .aload 1, .checkcast 790, .iload 2, .iaload, .istore 4, .aload 1, .checkcast 792, .iload 2, .iaload, .istore 5, .aload 1, .iload 4, .invokevirtual 44062, .ifCond .eq 29, .aload 1, .iload 5, .invokevirtual 48062, .ifCond .eq 29, .aload 0, .aload 1, .iload 5, .invokevirtual 26044, .ifCond .ne 31, .sipush 0, .ireturn, .aload 1, .aload 0, .aload 1, .iload 2, .sipush 10013, .invokevirtual 28046, .iload 3, .invokevirtual 70064, .ifCond .eq 65, .aload 1, .checkcast 786, .iload 4, .sipush 1, .iastore, .aload 1, .dup, .getfield 770, .sipush 1, .iadd, .putfield 770, .aload 1, .checkcast 790, .iload 2, .sipush (-1), .iastore, .aload 0, .aload 1, .sipush 2, .iload 2, .iload 4, .iload 3, .invokevirtual 36051, .sipush 0, .ireturn, .aload 1, .checkcast 782, .iload 4, .iaload, .ifCond .gt 72, .sipush 0, .ireturn, .aload 1, .aload 0, .aload 1, .iload 2, .sipush 10012, .invokevirtual 28046, .iload 3, .invokevirtual 70064, .ifCond .eq 109, .aload 1, .checkcast 794, .iload 2, .dup2, .iaload, .sipush 1, .iadd, .iastore, .aload 1, .checkcast 782, .iload 4, .dup2, .iaload, .sipush 1, .isub, .iastore, .aload 1, .iload 4, .invokevirtual 72063, .aload 0, .aload 1, .sipush 1, .iload 2, .iload 5, .iload 3, .invokevirtual 36051, .sipush 0, .ireturn, .aload 0, .aload 1, .iload 2, .sipush 10011, .invokevirtual 28046, .aload 1, .checkcast 782, .iload 4, .iaload, .aload 1, .iload 5, .invokevirtual 52062, .invokestatic 593964, .invokestatic 593964, .istore 6, .aload 1, .checkcast 800, .iload 5, .dup2, .iaload, .iload 6, .iadd, .iastore, .aload 1, .checkcast 782, .iload 4, .dup2, .iaload, .iload 6, .isub, .iastore, .aload 1, .iload 4, .invokevirtual 72063, .iload 6, .ifCond .le 152, .aload 0, .aload 1, .sipush 0, .iload 2, .iload 6, .iload 3, .invokevirtual 36051, .aload 1, .iload 5, .invokevirtual 52062, .ifCond .gt 167, .aload 1, .iload 5, .iload 2, .invokevirtual 74065, .aload 0, .aload 1, .sipush 3, .iload 2, .iload 5, .iload 3, .invokevirtual 36051, .iload 6, .ireturn]
def kr_17 : List (Nat × Nat × Nat × Nat) := [(0, 0, 0, 1), (1, 0, 0, 1), (2, 523, 129, 3), (5, 0, 0, 3), (8, 0, 0, 1), (9, 0, 0, 1), (10, 0, 0, 1), (11, 76, 148, 3), (14, 0, 0, 1), (15, 0, 0, 1), (16, 0, 0, 2), (18, 0, 0, 1), (19, 79, 176, 3), (22, 0, 0, 1), (23, 0, 0, 1), (24, 0, 0, 2), (26, 0, 0, 1), (27, 0, 0, 2), (29, 524, 151, 3), (32, 0, 0, 3), (35, 0, 0, 1), (36, 0, 0, 2), (38, 525, 114, 3), (41, 0, 0, 3), (44, 0, 0, 1), (45, 0, 0, 1), (46, 0, 0, 2), (48, 526, 209, 3), (51, 0, 0, 3), (54, 0, 0, 1), (55, 0, 0, 1), (56, 0, 0, 1), (57, 0, 0, 1), (58, 0, 0, 1), (59, 0, 0, 1), (60, 0, 0, 3), (63, 542, 213, 3), (66, 0, 0, 1), (67, 586, 217, 3), (70, 0, 0, 3), (73, 0, 0, 1), (74, 70, 221, 3), (77, 0, 0, 2), (79, 0, 0, 1), (80, 0, 0, 1), (81, 0, 0, 1), (82, 0, 0, 1), (83, 43, 185, 3), (86, 0, 0, 1), (87, 0, 0, 1), (88, 43, 185, 3), (91, 0, 0, 1), (92, 76, 148, 3), (95, 0, 0, 1), (96, 0, 0, 1), (97, 0, 0, 1), (98, 0, 0, 1), (99, 0, 0, 1), (100, 0, 0, 1), (101, 0, 0, 1), (102, 0, 0, 2), (104, 0, 0, 1), (105, 596, 224, 3), (108, 0, 0, 1), (109, 0, 0, 1), (110, 0, 0, 1), (111, 64, 161, 3), (114, 0, 0, 2), (116, 0, 0, 1), (117, 0, 0, 3), (120, 0, 0, 1), (121, 0, 0, 1), (122, 0, 0, 1), (123, 0, 0, 1), (124, 0, 0, 1), (125, 0, 0, 1), (126, 0, 0, 3), (129, 542, 213, 3), (132, 0, 0, 1), (133, 586, 217, 3), (136, 0, 0, 3), (139, 0, 0, 1), (140, 82, 228, 3), (143, 0, 0, 1), (144, 0, 0, 1), (145, 0, 0, 1), (146, 0, 0, 1), (147, 0, 0, 1), (148, 0, 0, 1), (149, 0, 0, 1), (150, 64, 161, 3), (153, 0, 0, 2), (155, 0, 0, 1), (156, 0, 0, 1), (157, 0, 0, 1), (158, 0, 0, 1), (159, 0, 0, 1), (160, 0, 0, 1), (161, 0, 0, 2), (163, 604, 231, 3), (166, 0, 0, 1), (167, 0, 0, 1), (168, 0, 0, 1), (169, 0, 0, 1), (170, 0, 0, 2), (172, 0, 0, 1), (173, 596, 224, 3), (176, 0, 0, 1), (177, 0, 0, 1), (178, 0, 0, 1), (179, 0, 0, 1), (180, 0, 0, 1), (181, 0, 0, 3), (184, 542, 213, 3), (187, 0, 0, 1), (188, 64, 161, 3), (191, 0, 0, 2), (193, 0, 0, 1), (194, 0, 0, 1), (195, 0, 0, 2), (197, 562, 179, 3), (200, 584, 139, 3), (203, 584, 139, 3), (206, 0, 0, 2), (208, 0, 0, 1), (209, 90, 234, 3), (212, 0, 0, 2), (214, 0, 0, 1), (215, 0, 0, 1), (216, 0, 0, 2), (218, 0, 0, 1), (219, 0, 0, 1), (220, 0, 0, 1), (221, 64, 161, 3), (224, 0, 0, 2), (226, 0, 0, 1), (227, 0, 0, 1), (228, 0, 0, 2), (230, 0, 0, 1), (231, 0, 0, 1), (232, 0, 0, 1), (233, 0, 0, 2), (235, 604, 231, 3), (238, 0, 0, 2), (240, 0, 0, 3), (243, 0, 0, 1), (244, 0, 0, 1), (245, 0, 0, 1), (246, 0, 0, 1), (247, 0, 0, 2), (249, 0, 0, 1), (250, 596, 224, 3), (253, 0, 0, 1), (254, 0, 0, 2), (256, 562, 179, 3), (259, 0, 0, 3), (262, 0, 0, 1), (263, 0, 0, 2), (265, 0, 0, 1), (266, 608, 237, 3), (269, 0, 0, 1), (270, 0, 0, 1), (271, 0, 0, 1), (272, 0, 0, 1), (273, 0, 0, 2), (275, 0, 0, 1), (276, 596, 224, 3), (279, 0, 0, 2), (281, 0, 0, 1)]
/-- QuillDesk$Desk.note(LQuillDesk$Firm;IIIZ)V -/
def kc_18 : List Instr := [.iload 5, .ifCond .ne 10, .aload 0, .checkcast 514, .aload 1, .getfield 772, .iload 2, .iload 3, .iload 4, .invokevirtual 2009, .return_]
def kr_18 : List (Nat × Nat × Nat × Nat) := [(0, 0, 0, 2), (2, 0, 0, 3), (5, 0, 0, 1), (6, 244, 21, 3), (9, 0, 0, 1), (10, 47, 188, 3), (13, 0, 0, 1), (14, 0, 0, 1), (15, 0, 0, 2), (17, 600, 240, 3), (20, 0, 0, 1)]
/-- QuillDesk$Desk.soonest(I[II)I -/
def kc_19 : List Instr := [.sipush 0, .istore 4, .sipush (-1), .istore 5, .sipush 0, .istore 6, .iload 6, .aload 0, .checkcast 512, .getfield 778, .if_icmp .ge 81, .iload 6, .aload 2, .arraylength, .if_icmp .ge 81, .aload 2, .iload 6, .sipush 0, .iastore, .aload 0, .checkcast 512, .iload 6, .invokevirtual 50062, .ifCond .ne 79, .iload 1, .ifCond .gt 27, .goto 79, .aload 0, .iload 6, .invokevirtual 24042, .istore 7, .sipush 0, .istore 8, .sipush 0, .istore 9, .iload 9, .iload 6, .if_icmp .ge 53, .iload 7, .iload 9, .ishr, .sipush 1, .iand, .sipush 1, .if_icmp .ne 51, .iload 8, .aload 2, .iload 9, .iaload, .invokestatic 591964, .istore 8, .iinc 9 1, .goto 35, .aload 2, .iload 6, .iload 8, .aload 0, .checkcast 512, .iload 6, .invokevirtual 52062, .iload 1, .iadd, .sipush 1, .isub, .iload 1, .idiv, .iadd, .iastore, .aload 2, .iload 6, .iaload, .iload 4, .if_icmp .le 79, .aload 2, .iload 6, .iaload, .istore 4, .iload 6, .istore 5, .iinc 6 1, .goto 6, .iload 3, .ifCond .ne 85, .iload 4, .goto 86, .iload 5, .ireturn]
def kr_19 : List (Nat × Nat × Nat × Nat) := [(0, 0, 0, 1), (1, 0, 0, 2), (3, 0, 0, 1), (4, 0, 0, 2), (6, 0, 0, 1), (7, 0, 0, 2), (9, 0, 0, 2), (11, 0, 0, 1), (12, 242, 12, 3), (15, 57, 244, 3), (18, 0, 0, 3), (21, 0, 0, 2), (23, 0, 0, 1), (24, 0, 0, 1), (25, 0, 0, 3), (28, 0, 0, 1), (29, 0, 0, 2), (31, 0, 0, 1), (32, 0, 0, 1), (33, 0, 0, 1), (34, 242, 12, 3), (37, 0, 0, 2), (39, 530, 118, 3), (42, 0, 0, 3), (45, 0, 0, 1), (46, 0, 0, 3), (49, 0, 0, 3), (52, 0, 0, 1), (53, 0, 0, 2), (55, 534, 121, 3), (58, 0, 0, 2), (60, 0, 0, 1), (61, 0, 0, 2), (63, 0, 0, 1), (64, 0, 0, 2), (66, 0, 0, 2), (68, 0, 0, 2), (70, 0, 0, 3), (73, 0, 0, 2), (75, 0, 0, 2), (77, 0, 0, 1), (78, 0, 0, 1), (79, 0, 0, 1), (80, 0, 0, 1), (81, 0, 0, 3), (84, 0, 0, 2), (86, 0, 0, 1), (87, 0, 0, 2), (89, 0, 0, 1), (90, 585, 145, 3), (93, 0, 0, 2), (95, 0, 0, 3), (98, 0, 0, 3), (101, 0, 0, 1), (102, 0, 0, 2), (104, 0, 0, 2), (106, 0, 0, 1), (107, 242, 12, 3), (110, 0, 0, 2), (112, 562, 179, 3), (115, 0, 0, 1), (116, 0, 0, 1), (117, 0, 0, 1), (118, 0, 0, 1), (119, 0, 0, 1), (120, 0, 0, 1), (121, 0, 0, 1), (122, 0, 0, 1), (123, 0, 0, 1), (124, 0, 0, 2), (126, 0, 0, 1), (127, 0, 0, 2), (129, 0, 0, 3), (132, 0, 0, 1), (133, 0, 0, 2), (135, 0, 0, 1), (136, 0, 0, 2), (138, 0, 0, 2), (140, 0, 0, 2), (142, 0, 0, 3), (145, 0, 0, 3), (148, 0, 0, 1), (149, 0, 0, 3), (152, 0, 0, 2), (154, 0, 0, 3), (157, 0, 0, 2), (159, 0, 0, 1)]
/-- QuillDesk$Firm.<init>()V -/
def kc_20 : List Instr := [.aload 0, .monitorexit, .aload 0, .sipush 14, .newarray .int, .putstatic 780, .aload 0, .sipush 14, .newarray .int, .putstatic 782, .aload 0, .sipush 14, .newarray .int, .putstatic 784, .aload 0, .sipush 14, .newarray .int, .putstatic 786, .aload 0, .sipush 10, .newarray .int, .putstatic 788, .aload 0, .sipush 10, .newarray .int, .putstatic 790, .aload 0, .sipush 10, .newarray .int, .putstatic 792, .aload 0, .sipush 10, .newarray .int, .putstatic 794, .aload 0, .sipush 10, .newarray .int, .putstatic 796, .aload 0, .sipush 12, .newarray .int, .putstatic 798, .aload 0, .sipush 12, .newarray .int, .putstatic 800, .aload 0, .sipush 12, .newarray .int, .putstatic 802, .return_]
def kr_20 : List (Nat × Nat × Nat × Nat) := [(0, 0, 0, 1), (1, 39, 3, 3), (4, 0, 0, 1), (5, 0, 0, 2), (7, 0, 0, 2), (9, 59, 9, 3), (12, 0, 0, 1), (13, 0, 0, 2), (15, 0, 0, 2), (17, 62, 15, 3), (20, 0, 0, 1), (21, 0, 0, 2), (23, 0, 0, 2), (25, 65, 18, 3), (28, 0, 0, 1), (29, 0, 0, 2), (31, 0, 0, 2), (33, 68, 21, 3), (36, 0, 0, 1), (37, 0, 0, 2), (39, 0, 0, 2), (41, 71, 24, 3), (44, 0, 0, 1), (45, 0, 0, 2), (47, 0, 0, 2), (49, 74, 27, 3), (52, 0, 0, 1), (53, 0, 0, 2), (55, 0, 0, 2), (57, 77, 30, 3), (60, 0, 0, 1), (61, 0, 0, 2), (63, 0, 0, 2), (65, 80, 33, 3), (68, 0, 0, 1), (69, 0, 0, 2), (71, 0, 0, 2), (73, 83, 36, 3), (76, 0, 0, 1), (77, 0, 0, 2), (79, 0, 0, 2), (81, 86, 39, 3), (84, 0, 0, 1), (85, 0, 0, 2), (87, 0, 0, 2), (89, 88, 42, 3), (92, 0, 0, 1), (93, 0, 0, 2), (95, 0, 0, 2), (97, 91, 45, 3), (100, 0, 0, 1)]
/-- QuillDesk$Firm.copyFrom(LQuillDesk$Firm;)V -/
def kc_21 : List Instr := [.aload 0, .aload 1, .getfield 768, .putfield 768, .aload 0, .aload 1, .getfield 770, .putfield 770, .aload 0, .aload 1, .getfield 772, .putfield 772, .aload 0, .aload 1, .getfield 774, .putfield 774, .aload 0, .aload 1, .getfield 776, .putfield 776, .aload 0, .aload 1, .getfield 778, .putfield 778, .aload 1, .checkcast 780, .sipush 0, .aload 0, .checkcast 780, .sipush 0, .sipush 14, .swap, .aload 1, .checkcast 782, .sipush 0, .aload 0, .checkcast 782, .sipush 0, .sipush 14, .swap, .aload 1, .checkcast 784, .sipush 0, .aload 0, .checkcast 784, .sipush 0, .sipush 14, .swap, .aload 1, .checkcast 786, .sipush 0, .aload 0, .checkcast 786, .sipush 0, .sipush 14, .swap, .aload 1, .checkcast 788, .sipush 0, .aload 0, .checkcast 788, .sipush 0, .sipush 10, .swap, .aload 1, .checkcast 790, .sipush 0, .aload 0, .checkcast 790, .sipush 0, .sipush 10, .swap, .aload 1, .checkcast 792, .sipush 0, .aload 0, .checkcast 792, .sipush 0, .sipush 10, .swap, .aload 1, .checkcast 794, .sipush 0, .aload 0, .checkcast 794, .sipush 0, .sipush 10, .swap, .aload 1, .checkcast 796, .sipush 0, .aload 0, .checkcast 796, .sipush 0, .sipush 10, .swap, .aload 1, .checkcast 798, .sipush 0, .aload 0, .checkcast 798, .sipush 0, .sipush 12, .swap, .aload 1, .checkcast 800, .sipush 0, .aload 0, .checkcast 800, .sipush 0, .sipush 12, .swap, .aload 1, .checkcast 802, .sipush 0, .aload 0, .checkcast 802, .sipush 0, .sipush 12, .swap, .return_]
def kr_21 : List (Nat × Nat × Nat × Nat) := [(0, 0, 0, 1), (1, 0, 0, 1), (2, 40, 48, 3), (5, 40, 48, 3), (8, 0, 0, 1), (9, 0, 0, 1), (10, 42, 52, 3), (13, 42, 52, 3), (16, 0, 0, 1), (17, 0, 0, 1), (18, 45, 55, 3), (21, 45, 55, 3), (24, 0, 0, 1), (25, 0, 0, 1), (26, 48, 58, 3), (29, 48, 58, 3), (32, 0, 0, 1), (33, 0, 0, 1), (34, 51, 61, 3), (37, 51, 61, 3), (40, 0, 0, 1), (41, 0, 0, 1), (42, 55, 64, 3), (45, 55, 64, 3), (48, 0, 0, 1), (49, 59, 9, 3), (52, 0, 0, 1), (53, 0, 0, 1), (54, 59, 9, 3), (57, 0, 0, 1), (58, 0, 0, 2), (60, 502, 67, 3), (63, 0, 0, 1), (64, 62, 15, 3), (67, 0, 0, 1), (68, 0, 0, 1), (69, 62, 15, 3), (72, 0, 0, 1), (73, 0, 0, 2), (75, 502, 67, 3), (78, 0, 0, 1), (79, 65, 18, 3), (82, 0, 0, 1), (83, 0, 0, 1), (84, 65, 18, 3), (87, 0, 0, 1), (88, 0, 0, 2), (90, 502, 67, 3), (93, 0, 0, 1), (94, 68, 21, 3), (97, 0, 0, 1), (98, 0, 0, 1), (99, 68, 21, 3), (102, 0, 0, 1), (103, 0, 0, 2), (105, 502, 67, 3), (108, 0, 0, 1), (109, 71, 24, 3), (112, 0, 0, 1), (113, 0, 0, 1), (114, 71, 24, 3), (117, 0, 0, 1), (118, 0, 0, 2), (120, 502, 67, 3), (123, 0, 0, 1), (124, 74, 27, 3), (127, 0, 0, 1), (128, 0, 0, 1), (129, 74, 27, 3), (132, 0, 0, 1), (133, 0, 0, 2), (135, 502, 67, 3), (138, 0, 0, 1), (139, 77, 30, 3), (142, 0, 0, 1), (143, 0, 0, 1), (144, 77, 30, 3), (147, 0, 0, 1), (148, 0, 0, 2), (150, 502, 67, 3), (153, 0, 0, 1), (154, 80, 33, 3), (157, 0, 0, 1), (158, 0, 0, 1), (159, 80, 33, 3), (162, 0, 0, 1), (163, 0, 0, 2), (165, 502, 67, 3), (168, 0, 0, 1), (169, 83, 36, 3), (172, 0, 0, 1), (173, 0, 0, 1), (174, 83, 36, 3), (177, 0, 0, 1), (178, 0, 0, 2), (180, 502, 67, 3), (183, 0, 0, 1), (184, 86, 39, 3), (187, 0, 0, 1), (188, 0, 0, 1), (189, 86, 39, 3), (192, 0, 0, 1), (193, 0, 0, 2), (195, 502, 67, 3), (198, 0, 0, 1), (199, 88, 42, 3), (202, 0, 0, 1), (203, 0, 0, 1), (204, 88, 42, 3), (207, 0, 0, 1), (208, 0, 0, 2), (210, 502, 67, 3), (213, 0, 0, 1), (214, 91, 45, 3), (217, 0, 0, 1), (218, 0, 0, 1), (219, 91, 45, 3), (222, 0, 0, 1), (223, 0, 0, 2), (225, 502, 67, 3), (228, 0, 0, 1)]
/-- QuillDesk$Firm.hasQuill(I)Z -/
def kc_22 : List Instr := [.iload 1, .ifCond .lt 11, .iload 1, .aload 0, .getfield 774, .if_icmp .ge 11, .iload 1, .sipush 14, .if_icmp .ge 11, .sipush 1, .goto 12, .sipush 0, .ireturn]
def kr_22 : List (Nat × Nat × Nat × Nat) := [(0, 0, 0, 1), (1, 0, 0, 3), (4, 0, 0, 1), (5, 0, 0, 1), (6, 48, 58, 3), (9, 0, 0, 3), (12, 0, 0, 1), (13, 0, 0, 2), (15, 0, 0, 3), (18, 0, 0, 1), (19, 0, 0, 3), (22, 0, 0, 1), (23, 0, 0, 1)]
/-- QuillDesk$Firm.hasClerk(I)Z -/
def kc_23 : List Instr := [.iload 1, .ifCond .lt 11, .iload 1, .aload 0, .getfield 776, .if_icmp .ge 11, .iload 1, .sipush 10, .if_icmp .ge 11, .sipush 1, .goto 12, .sipush 0, .ireturn]
def kr_23 : List (Nat × Nat × Nat × Nat) := [(0, 0, 0, 1), (1, 0, 0, 3), (4, 0, 0, 1), (5, 0, 0, 1), (6, 51, 61, 3), (9, 0, 0, 3), (12, 0, 0, 1), (13, 0, 0, 2), (15, 0, 0, 3), (18, 0, 0, 1), (19, 0, 0, 3), (22, 0, 0, 1), (23, 0, 0, 1)]
/-- QuillDesk$Firm.hasDeed(I)Z -/
def kc_24 : List Instr := [.iload 1, .ifCond .lt 11, .iload 1, .aload 0, .getfield 778, .if_icmp .ge 11, .iload 1, .sipush 12, .if_icmp .ge 11, .sipush 1, .goto 12, .sipush 0, .ireturn]
def kr_24 : List (Nat × Nat × Nat × Nat) := [(0, 0, 0, 1), (1, 0, 0, 3), (4, 0, 0, 1), (5, 0, 0, 1), (6, 55, 64, 3), (9, 0, 0, 3), (12, 0, 0, 1), (13, 0, 0, 2), (15, 0, 0, 3), (18, 0, 0, 1), (19, 0, 0, 3), (22, 0, 0, 1), (23, 0, 0, 1)]
/-- QuillDesk$Firm.isDone(I)Z -/
def kc_25 : List Instr := [.aload 0, .iload 1, .invokevirtual 48062, .ifCond .eq 12, .aload 0, .checkcast 802, .iload 1, .iaload, .sipush (-1), .if_icmp .eq 12, .sipush 1, .goto 13, .sipush 0, .ireturn]
def kr_25 : List (Nat × Nat × Nat × Nat) := [(0, 0, 0, 1), (1, 0, 0, 1), (2, 490, 73, 3), (5, 0, 0, 3), (8, 0, 0, 1), (9, 91, 45, 3), (12, 0, 0, 1), (13, 0, 0, 1), (14, 0, 0, 1), (15, 0, 0, 3), (18, 0, 0, 1), (19, 0, 0, 3), (22, 0, 0, 1), (23, 0, 0, 1)]
/-- QuillDesk$Firm.linesLeft(I)I -/
def kc_26 : List Instr := [.aload 0, .iload 1, .invokevirtual 48062, .ifCond .eq 14, .aload 0, .checkcast 798, .iload 1, .iaload, .aload 0, .checkcast 800, .iload 1, .iaload, .isub, .goto 15, .sipush 0, .ireturn]
def kr_26 : List (Nat × Nat × Nat × Nat) := [(0, 0, 0, 1), (1, 0, 0, 1), (2, 490, 73, 3), (5, 0, 0, 3), (8, 0, 0, 1), (9, 86, 39, 3), (12, 0, 0, 1), (13, 0, 0, 1), (14, 0, 0, 1), (15, 88, 42, 3), (18, 0, 0, 1), (19, 0, 0, 1), (20, 0, 0, 1), (21, 0, 0, 3), (24, 0, 0, 1), (25, 0, 0, 1)]
/-- QuillDesk$Firm.holder(I)I -/
def kc_27 : List Instr := [.sipush 0, .istore 2, .iload 2, .aload 0, .getfield 776, .if_icmp .ge 16, .aload 0, .checkcast 790, .iload 2, .iaload, .iload 1, .if_icmp .ne 14, .iload 2, .ireturn, .iinc 2 1, .goto 2, .sipush (-1), .ireturn]
def kr_27 : List (Nat × Nat × Nat × Nat) := [(0, 0, 0, 1), (1, 0, 0, 1), (2, 0, 0, 1), (3, 0, 0, 1), (4, 51, 61, 3), (7, 0, 0, 3), (10, 0, 0, 1), (11, 74, 27, 3), (14, 0, 0, 1), (15, 0, 0, 1), (16, 0, 0, 1), (17, 0, 0, 3), (20, 0, 0, 1), (21, 0, 0, 1), (22, 0, 0, 3), (25, 0, 0, 3), (28, 0, 0, 1), (29, 0, 0, 1)]
/-- QuillDesk$Firm.doneSet()I -/
def kc_28 : List Instr := [.sipush 0, .istore 1, .sipush 0, .istore 2, .iload 2, .aload 0, .getfield 778, .if_icmp .ge 22, .aload 0, .checkcast 802, .iload 2, .iaload, .sipush (-1), .if_icmp .eq 20, .iload 1, .sipush 1, .iload 2, .ishl, .ior, .istore 1, .iinc 2 1, .goto 4, .iload 1, .ireturn]
def kr_28 : List (Nat × Nat × Nat × Nat) := [(0, 0, 0, 1), (1, 0, 0, 1), (2, 0, 0, 1), (3, 0, 0, 1), (4, 0, 0, 1), (5, 0, 0, 1), (6, 55, 64, 3), (9, 0, 0, 3), (12, 0, 0, 1), (13, 91, 45, 3), (16, 0, 0, 1), (17, 0, 0, 1), (18, 0, 0, 1), (19, 0, 0, 3), (22, 0, 0, 1), (23, 0, 0, 1), (24, 0, 0, 1), (25, 0, 0, 1), (26, 0, 0, 1), (27, 0, 0, 1), (28, 0, 0, 3), (31, 0, 0, 3), (34, 0, 0, 1), (35, 0, 0, 1)]
/-- QuillDesk$Firm.clerksAt(I)I -/
def kc_29 : List Instr := [.sipush 0, .istore 2, .sipush 0, .istore 3, .iload 3, .aload 0, .getfield 776, .if_icmp .ge 22, .aload 0, .checkcast 792, .iload 3, .iaload, .iload 1, .if_icmp .ne 20, .iload 2, .sipush 1, .iload 3, .ishl, .ior, .istore 2, .iinc 3 1, .goto 4, .iload 2, .ireturn]
def kr_29 : List (Nat × Nat × Nat × Nat) := [(0, 0, 0, 1), (1, 0, 0, 1), (2, 0, 0, 1), (3, 0, 0, 1), (4, 0, 0, 1), (5, 0, 0, 1), (6, 51, 61, 3), (9, 0, 0, 3), (12, 0, 0, 1), (13, 77, 30, 3), (16, 0, 0, 1), (17, 0, 0, 1), (18, 0, 0, 1), (19, 0, 0, 3), (22, 0, 0, 1), (23, 0, 0, 1), (24, 0, 0, 1), (25, 0, 0, 1), (26, 0, 0, 1), (27, 0, 0, 1), (28, 0, 0, 3), (31, 0, 0, 3), (34, 0, 0, 1), (35, 0, 0, 1)]
/-- QuillDesk$Firm.allWritten()I -/
def kc_30 : List Instr := [.sipush 0, .istore 1, .sipush 0, .istore 2, .iload 2, .aload 0, .getfield 778, .if_icmp .ge 17, .iload 1, .aload 0, .checkcast 800, .iload 2, .iaload, .iadd, .istore 1, .iinc 2 1, .goto 4, .iload 1, .ireturn]
def kr_30 : List (Nat × Nat × Nat × Nat) := [(0, 0, 0, 1), (1, 0, 0, 1), (2, 0, 0, 1), (3, 0, 0, 1), (4, 0, 0, 1), (5, 0, 0, 1), (6, 55, 64, 3), (9, 0, 0, 3), (12, 0, 0, 1), (13, 0, 0, 1), (14, 88, 42, 3), (17, 0, 0, 1), (18, 0, 0, 1), (19, 0, 0, 1), (20, 0, 0, 1), (21, 0, 0, 3), (24, 0, 0, 3), (27, 0, 0, 1), (28, 0, 0, 1)]
/-- QuillDesk$Firm.allBlots()I -/
def kc_31 : List Instr := [.sipush 0, .istore 1, .sipush 0, .istore 2, .iload 2, .aload 0, .getfield 776, .if_icmp .ge 17, .iload 1, .aload 0, .checkcast 794, .iload 2, .iaload, .iadd, .istore 1, .iinc 2 1, .goto 4, .iload 1, .ireturn]
def kr_31 : List (Nat × Nat × Nat × Nat) := [(0, 0, 0, 1), (1, 0, 0, 1), (2, 0, 0, 1), (3, 0, 0, 1), (4, 0, 0, 1), (5, 0, 0, 1), (6, 51, 61, 3), (9, 0, 0, 3), (12, 0, 0, 1), (13, 0, 0, 1), (14, 80, 33, 3), (17, 0, 0, 1), (18, 0, 0, 1), (19, 0, 0, 1), (20, 0, 0, 1), (21, 0, 0, 3), (24, 0, 0, 3), (27, 0, 0, 1), (28, 0, 0, 1)]
/-- QuillDesk$Firm.canAct(III)Z -/
def kc_32 : List Instr := [.aload 0, .iload 2, .invokevirtual 46062, .ifCond .ne 6, .sipush 0, .ireturn, .aload 0, .checkcast 790, .iload 2, .iaload, .istore 4, .iload 1, .tableswitch 91 0 4 #[13, 34, 41, 64, 78], .iload 4, .sipush (-1), .if_icmp .ne 32, .aload 0, .iload 3, .invokevirtual 44062, .ifCond .eq 32, .aload 0, .checkcast 786, .iload 3, .iaload, .ifCond .ne 32, .aload 0, .iload 3, .invokevirtual 54062, .sipush (-1), .if_icmp .ne 32, .sipush 1, .goto 33, .sipush 0, .ireturn, .iload 4, .sipush (-1), .if_icmp .eq 39, .sipush 1, .goto 40, .sipush 0, .ireturn, .aload 0, .checkcast 792, .iload 2, .iaload, .iload 3, .if_icmp .eq 62, .iload 3, .sipush (-1), .if_icmp .eq 60, .aload 0, .iload 3, .invokevirtual 48062, .ifCond .eq 62, .aload 0, .checkcast 802, .iload 3, .iaload, .sipush (-1), .if_icmp .ne 62, .sipush 1, .goto 63, .sipush 0, .ireturn, .aload 0, .iload 4, .invokevirtual 44062, .ifCond .eq 76, .aload 0, .checkcast 782, .iload 4, .iaload, .sipush 99, .if_icmp .ge 76, .sipush 1, .goto 77, .sipush 0, .ireturn, .aload 0, .iload 4, .invokevirtual 44062, .ifCond .eq 89, .aload 0, .checkcast 784, .iload 4, .iaload, .ifCond .le 89, .sipush 1, .goto 90, .sipush 0, .ireturn, .sipush 0, .ireturn]
def kr_32 : List (Nat × Nat × Nat × Nat) := [(0, 0, 0, 1), (1, 0, 0, 1), (2, 484, 77, 3), (5, 0, 0, 3), (8, 0, 0, 1), (9, 0, 0, 1), (10, 0, 0, 1), (11, 74, 27, 3), (14, 0, 0, 1), (15, 0, 0, 1), (16, 0, 0, 2), (18, 0, 0, 1), (19, 0, 0, 33), (52, 0, 0, 2), (54, 0, 0, 1), (55, 0, 0, 3), (58, 0, 0, 1), (59, 0, 0, 1), (60, 485, 80, 3), (63, 0, 0, 3), (66, 0, 0, 1), (67, 68, 21, 3), (70, 0, 0, 1), (71, 0, 0, 1), (72, 0, 0, 3), (75, 0, 0, 1), (76, 0, 0, 1), (77, 486, 83, 3), (80, 0, 0, 1), (81, 0, 0, 3), (84, 0, 0, 1), (85, 0, 0, 3), (88, 0, 0, 1), (89, 0, 0, 1), (90, 0, 0, 2), (92, 0, 0, 1), (93, 0, 0, 3), (96, 0, 0, 1), (97, 0, 0, 3), (100, 0, 0, 1), (101, 0, 0, 1), (102, 0, 0, 1), (103, 77, 30, 3), (106, 0, 0, 1), (107, 0, 0, 1), (108, 0, 0, 1), (109, 0, 0, 3), (112, 0, 0, 1), (113, 0, 0, 1), (114, 0, 0, 3), (117, 0, 0, 1), (118, 0, 0, 1), (119, 490, 73, 3), (122, 0, 0, 3), (125, 0, 0, 1), (126, 91, 45, 3), (129, 0, 0, 1), (130, 0, 0, 1), (131, 0, 0, 1), (132, 0, 0, 3), (135, 0, 0, 1), (136, 0, 0, 3), (139, 0, 0, 1), (140, 0, 0, 1), (141, 0, 0, 1), (142, 0, 0, 2), (144, 485, 80, 3), (147, 0, 0, 3), (150, 0, 0, 1), (151, 62, 15, 3), (154, 0, 0, 2), (156, 0, 0, 1), (157, 0, 0, 2), (159, 0, 0, 3), (162, 0, 0, 1), (163, 0, 0, 3), (166, 0, 0, 1), (167, 0, 0, 1), (168, 0, 0, 1), (169, 0, 0, 2), (171, 485, 80, 3), (174, 0, 0, 3), (177, 0, 0, 1), (178, 65, 18, 3), (181, 0, 0, 2), (183, 0, 0, 1), (184, 0, 0, 3), (187, 0, 0, 1), (188, 0, 0, 3), (191, 0, 0, 1), (192, 0, 0, 1), (193, 0, 0, 1), (194, 0, 0, 1)]
/-- QuillDesk$Firm.doAct(III)V -/
def kc_33 : List Instr := [.aload 0, .iload 2, .invokevirtual 46062, .ifCond .ne 5, .return_, .aload 0, .checkcast 790, .iload 2, .iaload, .istore 4, .iload 1, .ifCond .ne 18, .aload 0, .checkcast 790, .iload 2, .iload 3, .iastore, .goto 61, .iload 1, .sipush 1, .if_icmp .ne 27, .aload 0, .checkcast 790, .iload 2, .sipush (-1), .iastore, .goto 61, .iload 1, .sipush 2, .if_icmp .ne 36, .aload 0, .checkcast 792, .iload 2, .iload 3, .iastore, .goto 61, .iload 1, .sipush 3, .if_icmp .ne 49, .aload 0, .iload 4, .invokevirtual 44062, .ifCond .eq 49, .aload 0, .checkcast 782, .iload 4, .sipush 99, .iastore, .goto 61, .iload 1, .sipush 4, .if_icmp .ne 61, .aload 0, .iload 4, .invokevirtual 44062, .ifCond .eq 61, .aload 0, .checkcast 784, .iload 4, .sipush 0, .iastore, .return_]
def kr_33 : List (Nat × Nat × Nat × Nat) := [(0, 0, 0, 1), (1, 0, 0, 1), (2, 484, 77, 3), (5, 0, 0, 3), (8, 0, 0, 1), (9, 0, 0, 1), (10, 74, 27, 3), (13, 0, 0, 1), (14, 0, 0, 1), (15, 0, 0, 2), (17, 0, 0, 1), (18, 0, 0, 3), (21, 0, 0, 1), (22, 74, 27, 3), (25, 0, 0, 1), (26, 0, 0, 1), (27, 0, 0, 1), (28, 0, 0, 3), (31, 0, 0, 1), (32, 0, 0, 1), (33, 0, 0, 3), (36, 0, 0, 1), (37, 74, 27, 3), (40, 0, 0, 1), (41, 0, 0, 1), (42, 0, 0, 1), (43, 0, 0, 3), (46, 0, 0, 1), (47, 0, 0, 1), (48, 0, 0, 3), (51, 0, 0, 1), (52, 77, 30, 3), (55, 0, 0, 1), (56, 0, 0, 1), (57, 0, 0, 1), (58, 0, 0, 3), (61, 0, 0, 1), (62, 0, 0, 1), (63, 0, 0, 3), (66, 0, 0, 1), (67, 0, 0, 2), (69, 485, 80, 3), (72, 0, 0, 3), (75, 0, 0, 1), (76, 62, 15, 3), (79, 0, 0, 2), (81, 0, 0, 2), (83, 0, 0, 1), (84, 0, 0, 3), (87, 0, 0, 1), (88, 0, 0, 1), (89, 0, 0, 3), (92, 0, 0, 1), (93, 0, 0, 2), (95, 485, 80, 3), (98, 0, 0, 3), (101, 0, 0, 1), (102, 65, 18, 3), (105, 0, 0, 2), (107, 0, 0, 1), (108, 0, 0, 1), (109, 0, 0, 1)]
/-- QuillDesk$Firm.draw(I)I -/
def kc_34 : List Instr := [.aload 0, .aload 0, .getfield 768, .sipush 1664525, .imul, .sipush 1013904223, .iadd, .putfield 768, .iload 1, .ifCond .le 17, .aload 0, .getfield 768, .sipush 8, .iushr, .iload 1, .irem, .goto 18, .sipush 0, .ireturn]
def kr_34 : List (Nat × Nat × Nat × Nat) := [(0, 0, 0, 1), (1, 0, 0, 1), (2, 40, 48, 3), (5, 594, 87, 2), (7, 0, 0, 1), (8, 595, 88, 2), (10, 0, 0, 1), (11, 40, 48, 3), (14, 0, 0, 1), (15, 0, 0, 3), (18, 0, 0, 1), (19, 40, 48, 3), (22, 0, 0, 2), (24, 0, 0, 1), (25, 0, 0, 1), (26, 0, 0, 1), (27, 0, 0, 3), (30, 0, 0, 1), (31, 0, 0, 1)]
/-- QuillDesk$Firm.falls(IZ)Z -/
def kc_35 : List Instr := [.iload 2, .ifCond .eq 9, .iload 1, .sipush 500, .if_icmp .lt 7, .sipush 1, .goto 8, .sipush 0, .ireturn, .iload 1, .ifCond .le 18, .aload 0, .sipush 1000, .invokevirtual 68062, .iload 1, .if_icmp .ge 18, .sipush 1, .goto 19, .sipush 0, .ireturn]
def kr_35 : List (Nat × Nat × Nat × Nat) := [(0, 0, 0, 1), (1, 0, 0, 3), (4, 0, 0, 1), (5, 0, 0, 3), (8, 0, 0, 3), (11, 0, 0, 1), (12, 0, 0, 3), (15, 0, 0, 1), (16, 0, 0, 1), (17, 0, 0, 1), (18, 0, 0, 3), (21, 0, 0, 1), (22, 0, 0, 3), (25, 590, 89, 3), (28, 0, 0, 1), (29, 0, 0, 3), (32, 0, 0, 1), (33, 0, 0, 3), (36, 0, 0, 1), (37, 0, 0, 1)]
/-- QuillDesk$Firm.wear(I)V -/
def kc_36 : List Instr := [.aload 0, .iload 1, .invokevirtual 44062, .ifCond .eq 18, .aload 0, .checkcast 784, .iload 1, .iaload, .sipush 99, .if_icmp .ge 18, .aload 0, .checkcast 784, .iload 1, .dup2, .iaload, .sipush 1, .iadd, .iastore, .return_]
def kr_36 : List (Nat × Nat × Nat × Nat) := [(0, 0, 0, 1), (1, 0, 0, 1), (2, 485, 80, 3), (5, 0, 0, 3), (8, 0, 0, 1), (9, 65, 18, 3), (12, 0, 0, 1), (13, 0, 0, 1), (14, 0, 0, 2), (16, 0, 0, 3), (19, 0, 0, 1), (20, 65, 18, 3), (23, 0, 0, 1), (24, 0, 0, 1), (25, 0, 0, 1), (26, 0, 0, 1), (27, 0, 0, 1), (28, 0, 0, 1), (29, 0, 0, 1)]
/-- QuillDesk$Firm.finish(II)V -/
def kc_37 : List Instr := [.aload 0, .iload 1, .invokevirtual 48062, .ifCond .eq 8, .aload 0, .iload 2, .invokevirtual 46062, .ifCond .ne 9, .return_, .aload 0, .checkcast 802, .iload 1, .iload 2, .iastore, .aload 0, .checkcast 796, .iload 2, .dup2, .iaload, .sipush 1, .iadd, .iastore, .sipush 0, .istore 3, .iload 3, .aload 0, .getfield 776, .if_icmp .ge 41, .aload 0, .checkcast 792, .iload 3, .iaload, .iload 1, .if_icmp .ne 39, .aload 0, .checkcast 792, .iload 3, .sipush (-1), .iastore, .iinc 3 1, .goto 24, .return_]
def kr_37 : List (Nat × Nat × Nat × Nat) := [(0, 0, 0, 1), (1, 0, 0, 1), (2, 490, 73, 3), (5, 0, 0, 3), (8, 0, 0, 1), (9, 0, 0, 1), (10, 484, 77, 3), (13, 0, 0, 3), (16, 0, 0, 1), (17, 0, 0, 1), (18, 91, 45, 3), (21, 0, 0, 1), (22, 0, 0, 1), (23, 0, 0, 1), (24, 0, 0, 1), (25, 83, 36, 3), (28, 0, 0, 1), (29, 0, 0, 1), (30, 0, 0, 1), (31, 0, 0, 1), (32, 0, 0, 1), (33, 0, 0, 1), (34, 0, 0, 1), (35, 0, 0, 1), (36, 0, 0, 1), (37, 0, 0, 1), (38, 51, 61, 3), (41, 0, 0, 3), (44, 0, 0, 1), (45, 77, 30, 3), (48, 0, 0, 1), (49, 0, 0, 1), (50, 0, 0, 1), (51, 0, 0, 3), (54, 0, 0, 1), (55, 77, 30, 3), (58, 0, 0, 1), (59, 0, 0, 1), (60, 0, 0, 1), (61, 0, 0, 3), (64, 0, 0, 3), (67, 0, 0, 1)]
/-- QuillDesk$Law.<init>()V -/
def kc_38 : List Instr := [.aload 0, .monitorexit, .aload 0, .new 8, .dup, .invokespecial 168161, .putstatic 1024, .aload 0, .sipush 400, .newarray .int, .putstatic 1026, .aload 0, .sipush 0, .putfield 1028, .aload 0, .sipush 11, .newarray .int, .putstatic 1030, .aload 0, .sipush 64, .newarray .int, .putstatic 1032, .return_]
def kr_38 : List (Nat × Nat × Nat × Nat) := [(0, 0, 0, 1), (1, 164, 3, 3), (4, 0, 0, 1), (5, 165, 9, 3), (8, 0, 0, 1), (9, 167, 11, 3), (12, 199, 12, 3), (15, 0, 0, 1), (16, 0, 0, 3), (19, 0, 0, 2), (21, 202, 18, 3), (24, 0, 0, 1), (25, 0, 0, 1), (26, 203, 22, 3), (29, 0, 0, 1), (30, 0, 0, 2), (32, 0, 0, 2), (34, 205, 26, 3), (37, 0, 0, 1), (38, 0, 0, 2), (40, 0, 0, 2), (42, 206, 29, 3), (45, 0, 0, 1)]
/-- QuillDesk$Law.copyFrom(LQuillDesk$Law;)V -/
def kc_39 : List Instr := [.aload 0, .checkcast 1024, .aload 1, .checkcast 1024, .invokevirtual 172163, .aload 1, .checkcast 1026, .sipush 0, .aload 0, .checkcast 1026, .sipush 0, .sipush 400, .swap, .aload 0, .aload 1, .getfield 1028, .putfield 1028, .return_]
def kr_39 : List (Nat × Nat × Nat × Nat) := [(0, 0, 0, 1), (1, 199, 12, 3), (4, 0, 0, 1), (5, 199, 12, 3), (8, 787, 32, 3), (11, 0, 0, 1), (12, 202, 18, 3), (15, 0, 0, 1), (16, 0, 0, 1), (17, 202, 18, 3), (20, 0, 0, 1), (21, 0, 0, 3), (24, 792, 36, 3), (27, 0, 0, 1), (28, 0, 0, 1), (29, 203, 22, 3), (32, 203, 22, 3), (35, 0, 0, 1)]
/-- QuillDesk$Law.clear()V -/
def kc_40 : List Instr := [.aload 0, .checkcast 1024, .sipush 0, .putfield 2056, .aload 0, .sipush 0, .putfield 1028, .return_]
def kr_40 : List (Nat × Nat × Nat × Nat) := [(0, 0, 0, 1), (1, 199, 12, 3), (4, 0, 0, 1), (5, 185, 42, 3), (8, 0, 0, 1), (9, 0, 0, 1), (10, 203, 22, 3), (13, 0, 0, 1)]
/-- QuillDesk$Law.put(I)V -/
def kc_41 : List Instr := [.aload 0, .getfield 1028, .ifCond .lt 19, .aload 0, .getfield 1028, .sipush 400, .if_icmp .ge 19, .aload 0, .checkcast 1026, .aload 0, .getfield 1028, .iload 1, .iastore, .aload 0, .dup, .getfield 1028, .sipush 1, .iadd, .putfield 1028, .return_]
def kr_41 : List (Nat × Nat × Nat × Nat) := [(0, 0, 0, 1), (1, 203, 22, 3), (4, 0, 0, 3), (7, 0, 0, 1), (8, 203, 22, 3), (11, 0, 0, 3), (14, 0, 0, 3), (17, 0, 0, 1), (18, 202, 18, 3), (21, 0, 0, 1), (22, 203, 22, 3), (25, 0, 0, 1), (26, 0, 0, 1), (27, 0, 0, 1), (28, 0, 0, 1), (29, 203, 22, 3), (32, 0, 0, 1), (33, 0, 0, 1), (34, 203, 22, 3), (37, 0, 0, 1)]
/-- QuillDesk$Law.fact(I)I -/
def kc_42 : List Instr := [.iload 1, .sipush 10000, .isub, .istore 2, .iload 2, .ifCond .lt 14, .iload 2, .sipush 11, .if_icmp .ge 14, .aload 0, .checkcast 1030, .iload 2, .iaload, .goto 15, .sipush 0, .ireturn]
def kr_42 : List (Nat × Nat × Nat × Nat) := [(0, 0, 0, 1), (1, 0, 0, 3), (4, 0, 0, 1), (5, 0, 0, 1), (6, 0, 0, 1), (7, 0, 0, 3), (10, 0, 0, 1), (11, 0, 0, 2), (13, 0, 0, 3), (16, 0, 0, 1), (17, 205, 26, 3), (20, 0, 0, 1), (21, 0, 0, 1), (22, 0, 0, 3), (25, 0, 0, 1), (26, 0, 0, 1)]
/-- QuillDesk$Law.know(II)V -/
def kc_43 : List Instr := [.iload 1, .sipush 10000, .isub, .istore 3, .iload 3, .ifCond .lt 14, .iload 3, .sipush 11, .if_icmp .ge 14, .aload 0, .checkcast 1030, .iload 3, .iload 2, .iastore, .return_]
def kr_43 : List (Nat × Nat × Nat × Nat) := [(0, 0, 0, 1), (1, 0, 0, 3), (4, 0, 0, 1), (5, 0, 0, 1), (6, 0, 0, 1), (7, 0, 0, 3), (10, 0, 0, 1), (11, 0, 0, 2), (13, 0, 0, 3), (16, 0, 0, 1), (17, 205, 26, 3), (20, 0, 0, 1), (21, 0, 0, 1), (22, 0, 0, 1), (23, 0, 0, 1)]
/-- QuillDesk$Law.tell(I)I -/
def kc_44 : List Instr := [.sipush 0, .istore 2, .iload 2, .aload 0, .checkcast 1024, .getfield 2056, .if_icmp .ge 45, .aload 0, .checkcast 1024, .checkcast 2052, .iload 2, .iaload, .istore 3, .aload 0, .checkcast 1024, .checkcast 2054, .iload 2, .iaload, .istore 4, .aload 0, .checkcast 1024, .checkcast 2048, .iload 2, .iaload, .iload 1, .if_icmp .ne 43, .iload 3, .iload 4, .if_icmp .eq 34, .aload 0, .iload 3, .iload 4, .invokevirtual 90084, .ifCond .eq 43, .aload 0, .aload 0, .checkcast 1024, .checkcast 2050, .iload 2, .iaload, .iload 3, .invokevirtual 90084, .ireturn, .iinc 2 1, .goto 2, .iload 1, .sipush 10011, .if_icmp .ne 54, .sipush 1, .aload 0, .sipush 10004, .invokevirtual 84082, .iadd, .ireturn, .iload 1, .sipush 10012, .if_icmp .ne 65, .sipush 300, .sipush 30, .aload 0, .sipush 10000, .invokevirtual 84082, .imul, .isub, .goto 70, .sipush 20, .aload 0, .sipush 10003, .invokevirtual 84082, .imul, .ireturn]
def kr_44 : List (Nat × Nat × Nat × Nat) := [(0, 0, 0, 1), (1, 0, 0, 1), (2, 0, 0, 1), (3, 0, 0, 1), (4, 199, 12, 3), (7, 185, 42, 3), (10, 0, 0, 3), (13, 0, 0, 1), (14, 199, 12, 3), (17, 179, 43, 3), (20, 0, 0, 1), (21, 0, 0, 1), (22, 0, 0, 1), (23, 0, 0, 1), (24, 199, 12, 3), (27, 181, 46, 3), (30, 0, 0, 1), (31, 0, 0, 1), (32, 0, 0, 2), (34, 0, 0, 1), (35, 199, 12, 3), (38, 173, 49, 3), (41, 0, 0, 1), (42, 0, 0, 1), (43, 0, 0, 1), (44, 0, 0, 3), (47, 0, 0, 1), (48, 0, 0, 2), (50, 0, 0, 3), (53, 0, 0, 1), (54, 0, 0, 1), (55, 0, 0, 2), (57, 570, 52, 3), (60, 0, 0, 3), (63, 0, 0, 1), (64, 0, 0, 1), (65, 199, 12, 3), (68, 176, 56, 3), (71, 0, 0, 1), (72, 0, 0, 1), (73, 0, 0, 1), (74, 570, 52, 3), (77, 0, 0, 1), (78, 0, 0, 3), (81, 0, 0, 3), (84, 0, 0, 1), (85, 0, 0, 3), (88, 0, 0, 3), (91, 0, 0, 1), (92, 0, 0, 1), (93, 0, 0, 3), (96, 580, 59, 3), (99, 0, 0, 1), (100, 0, 0, 1), (101, 0, 0, 1), (102, 0, 0, 3), (105, 0, 0, 3), (108, 0, 0, 3), (111, 0, 0, 2), (113, 0, 0, 1), (114, 0, 0, 3), (117, 580, 59, 3), (120, 0, 0, 1), (121, 0, 0, 1), (122, 0, 0, 3), (125, 0, 0, 2), (127, 0, 0, 1), (128, 0, 0, 3), (131, 580, 59, 3), (134, 0, 0, 1), (135, 0, 0, 1)]
/-- QuillDesk$Law.work(II)I -/
def kc_45 : List Instr := [.sipush 0, .istore 3, .sipush 0, .iload 1, .invokestatic 591964, .istore 4, .iload 4, .iload 2, .if_icmp .ge 84, .iload 4, .sipush 400, .if_icmp .ge 84, .aload 0, .checkcast 1026, .iload 4, .iaload, .istore 5, .iload 5, .sipush 10017, .if_icmp .ne 40, .iload 3, .sipush 1, .if_icmp .lt 82, .aload 0, .checkcast 1032, .iload 3, .sipush 1, .isub, .aload 0, .checkcast 1032, .iload 3, .sipush 1, .isub, .iaload, .ifCond .ne 37, .sipush 1, .goto 38, .sipush 0, .iastore, .goto 82, .iload 5, .sipush 10010, .if_icmp .le 66, .iload 3, .sipush 2, .if_icmp .lt 82, .iinc 3 (-1), .aload 0, .checkcast 1032, .iload 3, .sipush 1, .isub, .iload 5, .aload 0, .checkcast 1032, .iload 3, .sipush 1, .isub, .iaload, .aload 0, .checkcast 1032, .iload 3, .iaload, .invokestatic 92086, .iastore, .goto 82, .iload 3, .sipush 64, .if_icmp .ge 82, .aload 0, .checkcast 1032, .iload 3, .iload 5, .sipush 10000, .if_icmp .ge 77, .iload 5, .goto 80, .aload 0, .iload 5, .invokevirtual 84082, .iastore, .iinc 3 1, .iinc 4 1, .goto 6, .iload 3, .ifCond .le 91, .aload 0, .checkcast 1032, .sipush 0, .iaload, .goto 92, .sipush 0, .ireturn]
def kr_45 : List (Nat × Nat × Nat × Nat) := [(0, 0, 0, 1), (1, 0, 0, 1), (2, 0, 0, 1), (3, 0, 0, 1), (4, 574, 63, 3), (7, 0, 0, 2), (9, 0, 0, 2), (11, 0, 0, 1), (12, 0, 0, 3), (15, 0, 0, 2), (17, 0, 0, 3), (20, 0, 0, 3), (23, 0, 0, 1), (24, 202, 18, 3), (27, 0, 0, 2), (29, 0, 0, 1), (30, 0, 0, 2), (32, 0, 0, 2), (34, 0, 0, 3), (37, 0, 0, 3), (40, 0, 0, 1), (41, 0, 0, 1), (42, 0, 0, 3), (45, 0, 0, 1), (46, 206, 29, 3), (49, 0, 0, 1), (50, 0, 0, 1), (51, 0, 0, 1), (52, 0, 0, 1), (53, 206, 29, 3), (56, 0, 0, 1), (57, 0, 0, 1), (58, 0, 0, 1), (59, 0, 0, 1), (60, 0, 0, 3), (63, 0, 0, 1), (64, 0, 0, 3), (67, 0, 0, 1), (68, 0, 0, 1), (69, 0, 0, 3), (72, 0, 0, 2), (74, 0, 0, 3), (77, 0, 0, 3), (80, 0, 0, 1), (81, 0, 0, 1), (82, 0, 0, 3), (85, 0, 0, 3), (88, 0, 0, 1), (89, 206, 29, 3), (92, 0, 0, 1), (93, 0, 0, 1), (94, 0, 0, 1), (95, 0, 0, 2), (97, 0, 0, 1), (98, 206, 29, 3), (101, 0, 0, 1), (102, 0, 0, 1), (103, 0, 0, 1), (104, 0, 0, 1), (105, 0, 0, 1), (106, 206, 29, 3), (109, 0, 0, 1), (110, 0, 0, 1), (111, 577, 68, 3), (114, 0, 0, 1), (115, 0, 0, 3), (118, 0, 0, 1), (119, 0, 0, 2), (121, 0, 0, 3), (124, 0, 0, 1), (125, 206, 29, 3), (128, 0, 0, 1), (129, 0, 0, 2), (131, 0, 0, 3), (134, 0, 0, 3), (137, 0, 0, 2), (139, 0, 0, 3), (142, 0, 0, 1), (143, 0, 0, 2), (145, 580, 59, 3), (148, 0, 0, 1), (149, 0, 0, 3), (152, 0, 0, 3), (155, 0, 0, 3), (158, 0, 0, 1), (159, 0, 0, 3), (162, 0, 0, 1), (163, 206, 29, 3), (166, 0, 0, 1), (167, 0, 0, 1), (168, 0, 0, 3), (171, 0, 0, 1), (172, 0, 0, 1)]
/-- QuillDesk$Law.join(III)I -/
def kc_46 : List Instr := [.iload 0, .lookupswitch 51 #[(10015, 47), (10016, 43), (20042, 10), (20043, 2), (20045, 6), (20047, 14), (20060, 22), (20061, 29), (20062, 36)], .iload 1, .iload 2, .iadd, .ireturn, .iload 1, .iload 2, .isub, .ireturn, .iload 1, .iload 2, .imul, .ireturn, .iload 2, .ifCond .ne 18, .sipush 0, .goto 21, .iload 1, .iload 2, .idiv, .ireturn, .iload 1, .iload 2, .if_icmp .ge 27, .sipush 1, .goto 28, .sipush 0, .ireturn, .iload 1, .iload 2, .if_icmp .ne 34, .sipush 1, .goto 35, .sipush 0, .ireturn, .iload 1, .iload 2, .if_icmp .le 41, .sipush 1, .goto 42, .sipush 0, .ireturn, .iload 1, .iload 2, .iand, .ireturn, .iload 1, .iload 2, .ior, .ireturn, .sipush 0, .ireturn]
def kr_46 : List (Nat × Nat × Nat × Nat) := [(0, 0, 0, 1), (1, 0, 0, 83), (84, 0, 0, 1), (85, 0, 0, 1), (86, 0, 0, 1), (87, 0, 0, 1), (88, 0, 0, 1), (89, 0, 0, 1), (90, 0, 0, 1), (91, 0, 0, 1), (92, 0, 0, 1), (93, 0, 0, 1), (94, 0, 0, 1), (95, 0, 0, 1), (96, 0, 0, 1), (97, 0, 0, 3), (100, 0, 0, 1), (101, 0, 0, 3), (104, 0, 0, 1), (105, 0, 0, 1), (106, 0, 0, 1), (107, 0, 0, 1), (108, 0, 0, 1), (109, 0, 0, 1), (110, 0, 0, 3), (113, 0, 0, 1), (114, 0, 0, 3), (117, 0, 0, 1), (118, 0, 0, 1), (119, 0, 0, 1), (120, 0, 0, 1), (121, 0, 0, 3), (124, 0, 0, 1), (125, 0, 0, 3), (128, 0, 0, 1), (129, 0, 0, 1), (130, 0, 0, 1), (131, 0, 0, 1), (132, 0, 0, 3), (135, 0, 0, 1), (136, 0, 0, 3), (139, 0, 0, 1), (140, 0, 0, 1), (141, 0, 0, 1), (142, 0, 0, 1), (143, 0, 0, 1), (144, 0, 0, 1), (145, 0, 0, 1), (146, 0, 0, 1), (147, 0, 0, 1), (148, 0, 0, 1), (149, 0, 0, 1), (150, 0, 0, 1)]
/-- QuillDesk$Past.<init>()V -/
def kc_47 : List Instr := [.aload 0, .monitorexit, .aload 0, .sipush 6, .anewarray 0, .putstatic 1280, .sipush 0, .istore 1, .iload 1, .sipush 6, .if_icmp .ge 20, .aload 0, .checkcast 1280, .iload 1, .new 3, .dup, .invokespecial 40061, .aastore, .iinc 1 1, .goto 8, .aload 0, .sipush 6, .newarray .int, .putstatic 1282, .aload 0, .sipush 0, .putfield 1284, .aload 0, .sipush 0, .putfield 1286, .return_]
def kr_47 : List (Nat × Nat × Nat × Nat) := [(0, 0, 0, 1), (1, 308, 3, 3), (4, 0, 0, 1), (5, 0, 0, 2), (7, 309, 9, 3), (10, 312, 11, 3), (13, 0, 0, 1), (14, 0, 0, 1), (15, 0, 0, 1), (16, 0, 0, 2), (18, 0, 0, 3), (21, 0, 0, 1), (22, 312, 11, 3), (25, 0, 0, 1), (26, 309, 9, 3), (29, 0, 0, 1), (30, 311, 17, 3), (33, 0, 0, 1), (34, 0, 0, 3), (37, 0, 0, 3), (40, 0, 0, 1), (41, 0, 0, 2), (43, 0, 0, 2), (45, 313, 18, 3), (48, 0, 0, 1), (49, 0, 0, 1), (50, 314, 22, 3), (53, 0, 0, 1), (54, 0, 0, 1), (55, 315, 26, 3), (58, 0, 0, 1)]
/-- QuillDesk$Past.keep(LQuillDesk$Firm;I)V -/
def kc_48 : List Instr := [.aload 0, .getfield 1284, .aload 0, .getfield 1286, .iadd, .sipush 6, .irem, .istore 3, .iload 3, .ifCond .lt 15, .aload 0, .checkcast 1280, .iload 3, .aaload, .ifnonnull 16, .return_, .aload 0, .checkcast 1280, .iload 3, .aaload, .aload 1, .invokevirtual 42063, .aload 0, .checkcast 1282, .iload 3, .iload 2, .iastore, .aload 0, .getfield 1286, .sipush 6, .if_icmp .ge 38, .aload 0, .dup, .getfield 1286, .sipush 1, .iadd, .putfield 1286, .goto 46, .aload 0, .aload 0, .getfield 1284, .sipush 1, .iadd, .sipush 6, .irem, .putfield 1284, .return_]
def kr_48 : List (Nat × Nat × Nat × Nat) := [(0, 0, 0, 1), (1, 314, 22, 3), (4, 0, 0, 1), (5, 315, 26, 3), (8, 0, 0, 1), (9, 0, 0, 2), (11, 0, 0, 1), (12, 0, 0, 1), (13, 0, 0, 1), (14, 0, 0, 3), (17, 0, 0, 1), (18, 312, 11, 3), (21, 0, 0, 1), (22, 0, 0, 1), (23, 0, 0, 3), (26, 0, 0, 1), (27, 0, 0, 1), (28, 312, 11, 3), (31, 0, 0, 1), (32, 0, 0, 1), (33, 0, 0, 1), (34, 498, 29, 3), (37, 0, 0, 1), (38, 313, 18, 3), (41, 0, 0, 1), (42, 0, 0, 1), (43, 0, 0, 1), (44, 0, 0, 1), (45, 315, 26, 3), (48, 0, 0, 2), (50, 0, 0, 3), (53, 0, 0, 1), (54, 0, 0, 1), (55, 315, 26, 3), (58, 0, 0, 1), (59, 0, 0, 1), (60, 315, 26, 3), (63, 0, 0, 3), (66, 0, 0, 1), (67, 0, 0, 1), (68, 314, 22, 3), (71, 0, 0, 1), (72, 0, 0, 1), (73, 0, 0, 2), (75, 0, 0, 1), (76, 314, 22, 3), (79, 0, 0, 1)]
/-- QuillDesk$Past.goBack(LQuillDesk$Firm;LQuillDesk$Book;)Z -/
def kc_49 : List Instr := [.aload 0, .getfield 1286, .ifCond .gt 5, .sipush 0, .ireturn, .aload 0, .getfield 1284, .aload 0, .getfield 1286, .iadd, .sipush 1, .isub, .sipush 6, .irem, .istore 3, .iload 3, .ifCond .lt 22, .aload 0, .checkcast 1280, .iload 3, .aaload, .ifnonnull 24, .sipush 0, .ireturn, .aload 1, .aload 0, .checkcast 1280, .iload 3, .aaload, .invokevirtual 42063, .aload 2, .aload 0, .checkcast 1282, .iload 3, .iaload, .putfield 8, .aload 0, .dup, .getfield 1286, .sipush 1, .isub, .putfield 1286, .sipush 1, .ireturn]
def kr_49 : List (Nat × Nat × Nat × Nat) := [(0, 0, 0, 1), (1, 315, 26, 3), (4, 0, 0, 3), (7, 0, 0, 1), (8, 0, 0, 1), (9, 0, 0, 1), (10, 314, 22, 3), (13, 0, 0, 1), (14, 315, 26, 3), (17, 0, 0, 1), (18, 0, 0, 1), (19, 0, 0, 1), (20, 0, 0, 2), (22, 0, 0, 1), (23, 0, 0, 1), (24, 0, 0, 1), (25, 0, 0, 3), (28, 0, 0, 1), (29, 312, 11, 3), (32, 0, 0, 1), (33, 0, 0, 1), (34, 0, 0, 3), (37, 0, 0, 1), (38, 0, 0, 1), (39, 0, 0, 1), (40, 0, 0, 1), (41, 312, 11, 3), (44, 0, 0, 1), (45, 0, 0, 1), (46, 498, 29, 3), (49, 0, 0, 1), (50, 0, 0, 1), (51, 313, 18, 3), (54, 0, 0, 1), (55, 0, 0, 1), (56, 146, 33, 3), (59, 0, 0, 1), (60, 0, 0, 1), (61, 315, 26, 3), (64, 0, 0, 1), (65, 0, 0, 1), (66, 315, 26, 3), (69, 0, 0, 1), (70, 0, 0, 1)]
/-- QuillDesk$Past.forget()V -/
def kc_50 : List Instr := [.aload 0, .sipush 0, .putfield 1286, .return_]
def kr_50 : List (Nat × Nat × Nat × Nat) := [(0, 0, 0, 1), (1, 0, 0, 1), (2, 315, 26, 3), (5, 0, 0, 1)]
/-- QuillDesk$Reader.<init>()V -/
def kc_51 : List Instr := [.aload 0, .monitorexit, .aload 0, .sipush 400, .newarray .int, .putstatic 1536, .aload 0, .sipush 0, .putfield 1538, .aload 0, .sipush 400, .newarray .int, .putstatic 1540, .aload 0, .sipush 400, .newarray .int, .putstatic 1542, .aload 0, .sipush 0, .putfield 1544, .aload 0, .sipush 0, .putfield 1546, .aload 0, .sipush 0, .putfield 1548, .aload 0, .sipush 0, .putfield 1550, .aload 0, .sipush (-1), .putfield 1552, .aload 0, .new 4, .dup, .invokespecial 76081, .putstatic 1554, .aload 0, .new 8, .dup, .invokespecial 168161, .putstatic 1556, .return_]
def kr_51 : List (Nat × Nat × Nat × Nat) := [(0, 0, 0, 1), (1, 333, 3, 3), (4, 0, 0, 1), (5, 0, 0, 3), (8, 0, 0, 2), (10, 338, 9, 3), (13, 0, 0, 1), (14, 0, 0, 1), (15, 339, 15, 3), (18, 0, 0, 1), (19, 0, 0, 3), (22, 0, 0, 2), (24, 341, 19, 3), (27, 0, 0, 1), (28, 0, 0, 3), (31, 0, 0, 2), (33, 342, 22, 3), (36, 0, 0, 1), (37, 0, 0, 1), (38, 343, 25, 3), (41, 0, 0, 1), (42, 0, 0, 1), (43, 344, 28, 3), (46, 0, 0, 1), (47, 0, 0, 1), (48, 345, 31, 3), (51, 0, 0, 1), (52, 0, 0, 1), (53, 346, 34, 3), (56, 0, 0, 1), (57, 0, 0, 1), (58, 348, 37, 3), (61, 0, 0, 1), (62, 334, 40, 3), (65, 0, 0, 1), (66, 335, 42, 3), (69, 350, 43, 3), (72, 0, 0, 1), (73, 336, 47, 3), (76, 0, 0, 1), (77, 337, 49, 3), (80, 352, 50, 3), (83, 0, 0, 1)]
/-- QuillDesk$Reader.append(I)V -/
def kc_52 : List Instr := [.sipush 24, .istore 2, .iload 2, .ifCond .lt 29, .aload 0, .getfield 1538, .ifCond .lt 27, .aload 0, .getfield 1538, .sipush 400, .if_icmp .ge 27, .aload 0, .checkcast 1536, .aload 0, .getfield 1538, .iload 1, .iload 2, .iushr, .sipush 255, .iand, .iastore, .aload 0, .dup, .getfield 1538, .sipush 1, .iadd, .putfield 1538, .iinc 2 (-8), .goto 2, .return_]
def kr_52 : List (Nat × Nat × Nat × Nat) := [(0, 0, 0, 2), (2, 0, 0, 1), (3, 0, 0, 1), (4, 0, 0, 3), (7, 0, 0, 1), (8, 339, 15, 3), (11, 0, 0, 3), (14, 0, 0, 1), (15, 339, 15, 3), (18, 0, 0, 3), (21, 0, 0, 3), (24, 0, 0, 1), (25, 338, 9, 3), (28, 0, 0, 1), (29, 339, 15, 3), (32, 0, 0, 1), (33, 0, 0, 1), (34, 0, 0, 1), (35, 0, 0, 3), (38, 0, 0, 1), (39, 0, 0, 1), (40, 0, 0, 1), (41, 0, 0, 1), (42, 339, 15, 3), (45, 0, 0, 1), (46, 0, 0, 1), (47, 339, 15, 3), (50, 0, 0, 3), (53, 0, 0, 3), (56, 0, 0, 1)]
/-- QuillDesk$Reader.understand(ILQuillDesk$Firm;)Z -/
def kc_53 : List Instr := [.aload 0, .sipush 0, .putfield 1550, .aload 0, .sipush (-1), .putfield 1552, .iload 1, .sipush 0, .sipush 3, .invokestatic 312206, .ifCond .ne 13, .sipush 0, .ireturn, .aload 0, .invokevirtual 110121, .aload 0, .sipush 0, .putfield 1546, .aload 0, .checkcast 1554, .invokevirtual 80081, .aload 0, .checkcast 1556, .sipush 0, .putfield 2056, .sipush 0, .istore 3, .iload 3, .sipush 16, .if_icmp .gt 80, .aload 0, .invokevirtual 126120, .sipush (-2), .if_icmp .ne 36, .sipush 1, .ireturn, .aload 0, .iload 1, .invokevirtual 108122, .ifCond .ne 44, .aload 0, .sipush 1, .invokevirtual 128122, .ireturn, .iload 3, .sipush 16, .if_icmp .ne 51, .aload 0, .sipush 3, .invokevirtual 128122, .ireturn, .iload 1, .ifCond .ne 57, .aload 0, .invokevirtual 142120, .ifCond .eq 76, .goto 78, .iload 1, .sipush 1, .if_icmp .ne 65, .aload 0, .aload 2, .invokevirtual 134122, .ifCond .eq 76, .goto 78, .iload 1, .sipush 2, .if_icmp .ne 72, .aload 0, .invokevirtual 138120, .ifCond .eq 76, .goto 78, .aload 0, .aload 2, .invokevirtual 140122, .ifCond .ne 78, .sipush 0, .ireturn, .iinc 3 1, .goto 27, .sipush 0, .ireturn]
def kr_53 : List (Nat × Nat × Nat × Nat) := [(0, 0, 0, 1), (1, 0, 0, 1), (2, 346, 34, 3), (5, 0, 0, 1), (6, 0, 0, 1), (7, 348, 37, 3), (10, 0, 0, 1), (11, 0, 0, 1), (12, 0, 0, 1), (13, 632, 54, 3), (16, 0, 0, 3), (19, 0, 0, 1), (20, 0, 0, 1), (21, 0, 0, 1), (22, 633, 58, 3), (25, 0, 0, 1), (26, 0, 0, 1), (27, 344, 28, 3), (30, 0, 0, 1), (31, 350, 43, 3), (34, 712, 61, 3), (37, 0, 0, 1), (38, 352, 50, 3), (41, 0, 0, 1), (42, 186, 64, 3), (45, 0, 0, 1), (46, 0, 0, 1), (47, 0, 0, 1), (48, 0, 0, 2), (50, 0, 0, 3), (53, 0, 0, 1), (54, 716, 67, 3), (57, 0, 0, 2), (59, 0, 0, 3), (62, 0, 0, 1), (63, 0, 0, 1), (64, 0, 0, 1), (65, 0, 0, 1), (66, 720, 71, 3), (69, 0, 0, 3), (72, 0, 0, 1), (73, 0, 0, 1), (74, 724, 75, 3), (77, 0, 0, 1), (78, 0, 0, 1), (79, 0, 0, 2), (81, 0, 0, 3), (84, 0, 0, 1), (85, 0, 0, 1), (86, 724, 75, 3), (89, 0, 0, 1), (90, 0, 0, 1), (91, 0, 0, 3), (94, 0, 0, 1), (95, 728, 78, 3), (98, 0, 0, 3), (101, 0, 0, 3), (104, 0, 0, 1), (105, 0, 0, 1), (106, 0, 0, 3), (109, 0, 0, 1), (110, 0, 0, 1), (111, 764, 82, 3), (114, 0, 0, 3), (117, 0, 0, 3), (120, 0, 0, 1), (121, 0, 0, 1), (122, 0, 0, 3), (125, 0, 0, 1), (126, 775, 86, 3), (129, 0, 0, 3), (132, 0, 0, 3), (135, 0, 0, 1), (136, 0, 0, 1), (137, 779, 89, 3), (140, 0, 0, 3), (143, 0, 0, 1), (144, 0, 0, 1), (145, 0, 0, 3), (148, 0, 0, 3), (151, 0, 0, 1), (152, 0, 0, 1)]
/-- QuillDesk$Reader.beginsLine(I)Z -/
def kc_54 : List Instr := [.aload 0, .invokevirtual 126120, .istore 2, .iload 1, .tableswitch 32 0 2 #[5, 18, 25], .iload 2, .sipush 10011, .if_icmp .eq 14, .iload 2, .sipush 10012, .if_icmp .eq 14, .iload 2, .sipush 10013, .if_icmp .ne 16, .sipush 1, .goto 17, .sipush 0, .ireturn, .iload 2, .sipush 10018, .if_icmp .ne 23, .sipush 1, .goto 24, .sipush 0, .ireturn, .iload 2, .sipush 10008, .if_icmp .ne 30, .sipush 1, .goto 31, .sipush 0, .ireturn, .iload 2, .sipush 10009, .if_icmp .ne 37, .sipush 1, .goto 38, .sipush 0, .ireturn]
def kr_54 : List (Nat × Nat × Nat × Nat) := [(0, 0, 0, 1), (1, 716, 67, 3), (4, 0, 0, 1), (5, 0, 0, 1), (6, 0, 0, 26), (32, 0, 0, 1), (33, 0, 0, 3), (36, 0, 0, 3), (39, 0, 0, 1), (40, 0, 0, 3), (43, 0, 0, 3), (46, 0, 0, 1), (47, 0, 0, 3), (50, 0, 0, 3), (53, 0, 0, 1), (54, 0, 0, 3), (57, 0, 0, 1), (58, 0, 0, 1), (59, 0, 0, 1), (60, 0, 0, 3), (63, 0, 0, 3), (66, 0, 0, 1), (67, 0, 0, 3), (70, 0, 0, 1), (71, 0, 0, 1), (72, 0, 0, 1), (73, 0, 0, 3), (76, 0, 0, 3), (79, 0, 0, 1), (80, 0, 0, 3), (83, 0, 0, 1), (84, 0, 0, 1), (85, 0, 0, 1), (86, 0, 0, 3), (89, 0, 0, 3), (92, 0, 0, 1), (93, 0, 0, 3), (96, 0, 0, 1), (97, 0, 0, 1)]
/-- QuillDesk$Reader.cutTokens()V -/
def kc_55 : List Instr := [.aload 0, .sipush 0, .putfield 1544, .sipush 0, .istore 1, .iload 1, .aload 0, .getfield 1538, .if_icmp .ge 54, .iload 1, .sipush 400, .if_icmp .ge 54, .aload 0, .getfield 1544, .sipush 400, .if_icmp .ge 54, .aload 0, .checkcast 1536, .iload 1, .iaload, .sipush 32, .if_icmp .eq 52, .aload 0, .checkcast 1536, .iload 1, .iaload, .sipush 10, .if_icmp .eq 52, .aload 0, .iload 1, .invokevirtual 112122, .ifCond .ne 52, .aload 0, .checkcast 1542, .aload 0, .getfield 1544, .iload 1, .iastore, .aload 0, .checkcast 1540, .aload 0, .getfield 1544, .aload 0, .iload 1, .invokevirtual 114122, .iastore, .aload 0, .dup, .getfield 1544, .sipush 1, .iadd, .putfield 1544, .iinc 1 1, .goto 5, .return_]
def kr_55 : List (Nat × Nat × Nat × Nat) := [(0, 0, 0, 1), (1, 0, 0, 1), (2, 343, 25, 3), (5, 0, 0, 1), (6, 0, 0, 1), (7, 0, 0, 1), (8, 0, 0, 1), (9, 339, 15, 3), (12, 0, 0, 3), (15, 0, 0, 1), (16, 0, 0, 3), (19, 0, 0, 3), (22, 0, 0, 1), (23, 343, 25, 3), (26, 0, 0, 3), (29, 0, 0, 3), (32, 0, 0, 1), (33, 338, 9, 3), (36, 0, 0, 1), (37, 0, 0, 1), (38, 0, 0, 2), (40, 0, 0, 3), (43, 0, 0, 1), (44, 338, 9, 3), (47, 0, 0, 1), (48, 0, 0, 1), (49, 0, 0, 2), (51, 0, 0, 3), (54, 0, 0, 1), (55, 0, 0, 1), (56, 637, 92, 3), (59, 0, 0, 3), (62, 0, 0, 1), (63, 342, 22, 3), (66, 0, 0, 1), (67, 343, 25, 3), (70, 0, 0, 1), (71, 0, 0, 1), (72, 0, 0, 1), (73, 341, 19, 3), (76, 0, 0, 1), (77, 343, 25, 3), (80, 0, 0, 1), (81, 0, 0, 1), (82, 647, 95, 3), (85, 0, 0, 1), (86, 0, 0, 1), (87, 0, 0, 1), (88, 343, 25, 3), (91, 0, 0, 1), (92, 0, 0, 1), (93, 343, 25, 3), (96, 0, 0, 3), (99, 0, 0, 3), (102, 0, 0, 1)]
/-- QuillDesk$Reader.goesOn(I)Z -/
def kc_56 : List Instr := [.iload 1, .ifCond .le 32, .aload 0, .checkcast 1536, .iload 1, .iaload, .invokestatic 122122, .ifCond .eq 16, .aload 0, .checkcast 1536, .iload 1, .sipush 1, .isub, .iaload, .invokestatic 122122, .ifCond .ne 30, .aload 0, .checkcast 1536, .iload 1, .iaload, .invokestatic 124122, .ifCond .eq 32, .aload 0, .checkcast 1536, .iload 1, .sipush 1, .isub, .iaload, .invokestatic 124122, .ifCond .eq 32, .sipush 1, .goto 33, .sipush 0, .ireturn]
def kr_56 : List (Nat × Nat × Nat × Nat) := [(0, 0, 0, 1), (1, 0, 0, 3), (4, 0, 0, 1), (5, 338, 9, 3), (8, 0, 0, 1), (9, 0, 0, 1), (10, 641, 99, 3), (13, 0, 0, 3), (16, 0, 0, 1), (17, 338, 9, 3), (20, 0, 0, 1), (21, 0, 0, 1), (22, 0, 0, 1), (23, 0, 0, 1), (24, 641, 99, 3), (27, 0, 0, 3), (30, 0, 0, 1), (31, 338, 9, 3), (34, 0, 0, 1), (35, 0, 0, 1), (36, 644, 102, 3), (39, 0, 0, 3), (42, 0, 0, 1), (43, 338, 9, 3), (46, 0, 0, 1), (47, 0, 0, 1), (48, 0, 0, 1), (49, 0, 0, 1), (50, 644, 102, 3), (53, 0, 0, 3), (56, 0, 0, 1), (57, 0, 0, 3), (60, 0, 0, 1), (61, 0, 0, 1)]
/-- QuillDesk$Reader.kindAt(I)I -/
def kc_57 : List Instr := [.aload 0, .checkcast 1536, .iload 1, .iaload, .invokestatic 122122, .ifCond .eq 10, .aload 0, .iload 1, .invokevirtual 118122, .ireturn, .aload 0, .checkcast 1536, .iload 1, .iaload, .invokestatic 124122, .ifCond .eq 20, .aload 0, .iload 1, .invokevirtual 116122, .goto 26, .sipush 20000, .aload 0, .checkcast 1536, .iload 1, .iaload, .iadd, .ireturn]
def kr_57 : List (Nat × Nat × Nat × Nat) := [(0, 0, 0, 1), (1, 338, 9, 3), (4, 0, 0, 1), (5, 0, 0, 1), (6, 641, 99, 3), (9, 0, 0, 3), (12, 0, 0, 1), (13, 0, 0, 1), (14, 651, 105, 3), (17, 0, 0, 1), (18, 0, 0, 1), (19, 338, 9, 3), (22, 0, 0, 1), (23, 0, 0, 1), (24, 644, 102, 3), (27, 0, 0, 3), (30, 0, 0, 1), (31, 0, 0, 1), (32, 708, 108, 3), (35, 0, 0, 3), (38, 0, 0, 3), (41, 0, 0, 1), (42, 338, 9, 3), (45, 0, 0, 1), (46, 0, 0, 1), (47, 0, 0, 1), (48, 0, 0, 1)]
/-- QuillDesk$Reader.numberAt(I)I -/
def kc_58 : List Instr := [.sipush 0, .istore 2, .iload 1, .istore 3, .iload 3, .aload 0, .getfield 1538, .if_icmp .ge 37, .iload 3, .sipush 400, .if_icmp .ge 37, .aload 0, .checkcast 1536, .iload 3, .iaload, .invokestatic 124122, .ifCond .eq 37, .iload 3, .iload 1, .isub, .sipush 4, .if_icmp .lt 24, .sipush (-1), .ireturn, .iload 2, .sipush 10, .imul, .aload 0, .checkcast 1536, .iload 3, .iaload, .iadd, .sipush 48, .isub, .istore 2, .iinc 3 1, .goto 4, .iload 2, .ireturn]
def kr_58 : List (Nat × Nat × Nat × Nat) := [(0, 0, 0, 1), (1, 0, 0, 1), (2, 0, 0, 1), (3, 0, 0, 1), (4, 0, 0, 1), (5, 0, 0, 1), (6, 339, 15, 3), (9, 0, 0, 3), (12, 0, 0, 1), (13, 0, 0, 3), (16, 0, 0, 3), (19, 0, 0, 1), (20, 338, 9, 3), (23, 0, 0, 1), (24, 0, 0, 1), (25, 644, 102, 3), (28, 0, 0, 3), (31, 0, 0, 1), (32, 0, 0, 1), (33, 0, 0, 1), (34, 0, 0, 1), (35, 0, 0, 3), (38, 0, 0, 1), (39, 0, 0, 1), (40, 0, 0, 1), (41, 0, 0, 2), (43, 0, 0, 1), (44, 0, 0, 1), (45, 338, 9, 3), (48, 0, 0, 1), (49, 0, 0, 1), (50, 0, 0, 1), (51, 0, 0, 2), (53, 0, 0, 1), (54, 0, 0, 1), (55, 0, 0, 3), (58, 0, 0, 3), (61, 0, 0, 1), (62, 0, 0, 1)]
/-- QuillDesk$Reader.wordAt(I)I -/
def kc_59 : List Instr := [.sipush 1, .istore 2, .iload 2, .sipush 400, .if_icmp .ge 21, .iload 1, .iload 2, .iadd, .aload 0, .getfield 1538, .if_icmp .ge 21, .aload 0, .checkcast 1536, .iload 1, .iload 2, .iadd, .iaload, .invokestatic 122122, .ifCond .eq 21, .iinc 2 1, .goto 2, .sipush 0, .istore 3, .sipush 0, .istore 4, .sipush 0, .istore 5, .iload 5, .ldc 0, .invokevirtual 595980, .if_icmp .gt 62, .iload 5, .ldc 0, .invokevirtual 595980, .if_icmp .eq 40, .ldc 0, .iload 5, .invokevirtual 597982, .sipush 32, .if_icmp .ne 60, .iload 5, .iload 4, .isub, .iload 2, .if_icmp .ne 55, .aload 0, .iload 1, .iload 4, .iload 2, .invokevirtual 120126, .ifCond .eq 55, .sipush 10000, .iload 3, .iadd, .ireturn, .iinc 3 1, .iload 5, .sipush 1, .iadd, .istore 4, .iinc 5 1, .goto 27, .sipush (-1), .ireturn]
def kr_59 : List (Nat × Nat × Nat × Nat) := [(0, 0, 0, 1), (1, 0, 0, 1), (2, 0, 0, 1), (3, 0, 0, 3), (6, 0, 0, 3), (9, 0, 0, 1), (10, 0, 0, 1), (11, 0, 0, 1), (12, 0, 0, 1), (13, 339, 15, 3), (16, 0, 0, 3), (19, 0, 0, 1), (20, 338, 9, 3), (23, 0, 0, 1), (24, 0, 0, 1), (25, 0, 0, 1), (26, 0, 0, 1), (27, 641, 99, 3), (30, 0, 0, 3), (33, 0, 0, 3), (36, 0, 0, 3), (39, 0, 0, 1), (40, 0, 0, 1), (41, 0, 0, 1), (42, 0, 0, 2), (44, 0, 0, 1), (45, 0, 0, 2), (47, 0, 0, 2), (49, 655, 111, 2), (51, 656, 113, 3), (54, 0, 0, 3), (57, 0, 0, 2), (59, 655, 111, 2), (61, 656, 113, 3), (64, 0, 0, 3), (67, 655, 111, 2), (69, 0, 0, 2), (71, 666, 117, 3), (74, 0, 0, 2), (76, 0, 0, 3), (79, 0, 0, 2), (81, 0, 0, 2), (83, 0, 0, 1), (84, 0, 0, 1), (85, 0, 0, 3), (88, 0, 0, 1), (89, 0, 0, 1), (90, 0, 0, 2), (92, 0, 0, 1), (93, 704, 121, 3), (96, 0, 0, 3), (99, 0, 0, 3), (102, 0, 0, 1), (103, 0, 0, 1), (104, 0, 0, 1), (105, 0, 0, 3), (108, 0, 0, 2), (110, 0, 0, 1), (111, 0, 0, 1), (112, 0, 0, 2), (114, 0, 0, 3), (117, 0, 0, 3), (120, 0, 0, 1), (121, 0, 0, 1)]
/-- QuillDesk$Reader.isSame(III)Z -/
def kc_60 : List Instr := [.sipush 0, .istore 4, .iload 4, .iload 3, .if_icmp .ge 33, .iload 1, .iload 4, .iadd, .aload 0, .getfield 1538, .if_icmp .ge 29, .iload 2, .iload 4, .iadd, .ldc 0, .invokevirtual 595980, .if_icmp .ge 29, .aload 0, .checkcast 1536, .iload 1, .iload 4, .iadd, .iaload, .ldc 0, .iload 2, .iload 4, .iadd, .invokevirtual 597982, .if_icmp .eq 31, .sipush 0, .ireturn, .iinc 4 1, .goto 2, .sipush 1, .ireturn]
def kr_60 : List (Nat × Nat × Nat × Nat) := [(0, 0, 0, 1), (1, 0, 0, 2), (3, 0, 0, 2), (5, 0, 0, 1), (6, 0, 0, 3), (9, 0, 0, 1), (10, 0, 0, 2), (12, 0, 0, 1), (13, 0, 0, 1), (14, 339, 15, 3), (17, 0, 0, 3), (20, 0, 0, 1), (21, 0, 0, 2), (23, 0, 0, 1), (24, 655, 111, 2), (26, 656, 113, 3), (29, 0, 0, 3), (32, 0, 0, 1), (33, 338, 9, 3), (36, 0, 0, 1), (37, 0, 0, 2), (39, 0, 0, 1), (40, 0, 0, 1), (41, 655, 111, 2), (43, 0, 0, 1), (44, 0, 0, 2), (46, 0, 0, 1), (47, 666, 117, 3), (50, 0, 0, 3), (53, 0, 0, 1), (54, 0, 0, 1), (55, 0, 0, 3), (58, 0, 0, 3), (61, 0, 0, 1), (62, 0, 0, 1)]
/-- QuillDesk$Reader.isLetter(I)Z -/
def kc_61 : List Instr := [.iload 0, .sipush 97, .if_icmp .lt 6, .iload 0, .sipush 122, .if_icmp .le 12, .iload 0, .sipush 65, .if_icmp .lt 14, .iload 0, .sipush 90, .if_icmp .gt 14, .sipush 1, .goto 15, .sipush 0, .ireturn]
def kr_61 : List (Nat × Nat × Nat × Nat) := [(0, 0, 0, 1), (1, 0, 0, 2), (3, 0, 0, 3), (6, 0, 0, 1), (7, 0, 0, 2), (9, 0, 0, 3), (12, 0, 0, 1), (13, 0, 0, 2), (15, 0, 0, 3), (18, 0, 0, 1), (19, 0, 0, 2), (21, 0, 0, 3), (24, 0, 0, 1), (25, 0, 0, 3), (28, 0, 0, 1), (29, 0, 0, 1)]
/-- QuillDesk$Reader.isDigit(I)Z -/
def kc_62 : List Instr := [.iload 0, .sipush 48, .if_icmp .lt 8, .iload 0, .sipush 57, .if_icmp .gt 8, .sipush 1, .goto 9, .sipush 0, .ireturn]
def kr_62 : List (Nat × Nat × Nat × Nat) := [(0, 0, 0, 1), (1, 0, 0, 2), (3, 0, 0, 3), (6, 0, 0, 1), (7, 0, 0, 2), (9, 0, 0, 3), (12, 0, 0, 1), (13, 0, 0, 3), (16, 0, 0, 1), (17, 0, 0, 1)]
/-- QuillDesk$Reader.token()I -/
def kc_63 : List Instr := [.aload 0, .getfield 1546, .ifCond .lt 18, .aload 0, .getfield 1546, .aload 0, .getfield 1544, .if_icmp .ge 18, .aload 0, .getfield 1546, .sipush 400, .if_icmp .ge 18, .aload 0, .checkcast 1540, .aload 0, .getfield 1546, .iaload, .goto 19, .sipush (-2), .ireturn]
def kr_63 : List (Nat × Nat × Nat × Nat) := [(0, 0, 0, 1), (1, 344, 28, 3), (4, 0, 0, 3), (7, 0, 0, 1), (8, 344, 28, 3), (11, 0, 0, 1), (12, 343, 25, 3), (15, 0, 0, 3), (18, 0, 0, 1), (19, 344, 28, 3), (22, 0, 0, 3), (25, 0, 0, 3), (28, 0, 0, 1), (29, 341, 19, 3), (32, 0, 0, 1), (33, 344, 28, 3), (36, 0, 0, 1), (37, 0, 0, 3), (40, 0, 0, 2), (42, 0, 0, 1)]
/-- QuillDesk$Reader.refuse(I)Z -/
def kc_64 : List Instr := [.aload 0, .iload 1, .putfield 1550, .aload 0, .aload 0, .getfield 1546, .ifCond .lt 22, .aload 0, .getfield 1546, .aload 0, .getfield 1544, .if_icmp .ge 22, .aload 0, .getfield 1546, .sipush 400, .if_icmp .ge 22, .aload 0, .checkcast 1542, .aload 0, .getfield 1546, .iaload, .goto 24, .aload 0, .getfield 1538, .putfield 1552, .sipush 0, .ireturn]
def kr_64 : List (Nat × Nat × Nat × Nat) := [(0, 0, 0, 1), (1, 0, 0, 1), (2, 346, 34, 3), (5, 0, 0, 1), (6, 0, 0, 1), (7, 344, 28, 3), (10, 0, 0, 3), (13, 0, 0, 1), (14, 344, 28, 3), (17, 0, 0, 1), (18, 343, 25, 3), (21, 0, 0, 3), (24, 0, 0, 1), (25, 344, 28, 3), (28, 0, 0, 3), (31, 0, 0, 3), (34, 0, 0, 1), (35, 342, 22, 3), (38, 0, 0, 1), (39, 344, 28, 3), (42, 0, 0, 1), (43, 0, 0, 3), (46, 0, 0, 1), (47, 339, 15, 3), (50, 348, 37, 3), (53, 0, 0, 1), (54, 0, 0, 1)]
/-- QuillDesk$Reader.expect(I)Z -/
def kc_65 : List Instr := [.aload 0, .invokevirtual 126120, .iload 1, .if_icmp .eq 8, .aload 0, .sipush 1, .invokevirtual 128122, .ireturn, .aload 0, .dup, .getfield 1546, .sipush 1, .iadd, .putfield 1546, .sipush 1, .ireturn]
def kr_65 : List (Nat × Nat × Nat × Nat) := [(0, 0, 0, 1), (1, 716, 67, 3), (4, 0, 0, 1), (5, 0, 0, 3), (8, 0, 0, 1), (9, 0, 0, 1), (10, 724, 75, 3), (13, 0, 0, 1), (14, 0, 0, 1), (15, 0, 0, 1), (16, 344, 28, 3), (19, 0, 0, 1), (20, 0, 0, 1), (21, 344, 28, 3), (24, 0, 0, 1), (25, 0, 0, 1)]
/-- QuillDesk$Reader.expectNumber(I)Z -/
def kc_66 : List Instr := [.aload 0, .invokevirtual 126120, .istore 2, .iload 2, .ifCond .lt 8, .iload 2, .sipush 10000, .if_icmp .lt 12, .aload 0, .sipush 1, .invokevirtual 128122, .ireturn, .iload 2, .iload 1, .if_icmp .lt 19, .aload 0, .sipush 2, .invokevirtual 128122, .ireturn, .aload 0, .iload 2, .putfield 1548, .aload 0, .dup, .getfield 1546, .sipush 1, .iadd, .putfield 1546, .sipush 1, .ireturn]
def kr_66 : List (Nat × Nat × Nat × Nat) := [(0, 0, 0, 1), (1, 716, 67, 3), (4, 0, 0, 1), (5, 0, 0, 1), (6, 0, 0, 3), (9, 0, 0, 1), (10, 0, 0, 3), (13, 0, 0, 3), (16, 0, 0, 1), (17, 0, 0, 1), (18, 724, 75, 3), (21, 0, 0, 1), (22, 0, 0, 1), (23, 0, 0, 1), (24, 0, 0, 3), (27, 0, 0, 1), (28, 0, 0, 1), (29, 724, 75, 3), (32, 0, 0, 1), (33, 0, 0, 1), (34, 0, 0, 1), (35, 345, 31, 3), (38, 0, 0, 1), (39, 0, 0, 1), (40, 344, 28, 3), (43, 0, 0, 1), (44, 0, 0, 1), (45, 344, 28, 3), (48, 0, 0, 1), (49, 0, 0, 1)]
/-- QuillDesk$Reader.orderLine(LQuillDesk$Firm;)Z -/
def kc_67 : List Instr := [.aload 0, .sipush 10018, .invokevirtual 130122, .ifCond .eq 8, .aload 0, .sipush 1000, .invokevirtual 132122, .ifCond .ne 10, .sipush 0, .ireturn, .aload 0, .getfield 1548, .istore 2, .aload 0, .sipush 10019, .invokevirtual 130122, .ifCond .eq 22, .aload 0, .aload 1, .getfield 776, .invokevirtual 132122, .ifCond .ne 24, .sipush 0, .ireturn, .aload 0, .getfield 1548, .istore 3, .aload 0, .invokevirtual 126120, .istore 4, .iload 4, .sipush 10020, .if_icmp .lt 36, .iload 4, .sipush 10025, .if_icmp .le 40, .aload 0, .sipush 1, .invokevirtual 128122, .ireturn, .aload 0, .dup, .getfield 1546, .sipush 1, .iadd, .putfield 1546, .sipush (-1), .istore 5, .iload 4, .sipush 10020, .if_icmp .eq 54, .iload 4, .sipush 10022, .if_icmp .ne 70, .aload 0, .iload 4, .sipush 10020, .if_icmp .ne 61, .aload 1, .getfield 774, .goto 63, .aload 1, .getfield 778, .invokevirtual 132122, .ifCond .ne 67, .sipush 0, .ireturn, .aload 0, .getfield 1548, .istore 5, .aload 0, .checkcast 1556, .iload 2, .iload 3, .iload 4, .invokestatic 136122, .iload 5, .invokevirtual 170169, .aload 0, .sipush 20059, .invokevirtual 130122, .ireturn]
def kr_67 : List (Nat × Nat × Nat × Nat) := [(0, 0, 0, 1), (1, 0, 0, 3), (4, 756, 124, 3), (7, 0, 0, 3), (10, 0, 0, 1), (11, 0, 0, 3), (14, 768, 127, 3), (17, 0, 0, 3), (20, 0, 0, 1), (21, 0, 0, 1), (22, 0, 0, 1), (23, 345, 31, 3), (26, 0, 0, 1), (27, 0, 0, 1), (28, 0, 0, 3), (31, 756, 124, 3), (34, 0, 0, 3), (37, 0, 0, 1), (38, 0, 0, 1), (39, 54, 130, 3), (42, 768, 127, 3), (45, 0, 0, 3), (48, 0, 0, 1), (49, 0, 0, 1), (50, 0, 0, 1), (51, 345, 31, 3), (54, 0, 0, 1), (55, 0, 0, 1), (56, 716, 67, 3), (59, 0, 0, 2), (61, 0, 0, 2), (63, 0, 0, 3), (66, 0, 0, 3), (69, 0, 0, 2), (71, 0, 0, 3), (74, 0, 0, 3), (77, 0, 0, 1), (78, 0, 0, 1), (79, 724, 75, 3), (82, 0, 0, 1), (83, 0, 0, 1), (84, 0, 0, 1), (85, 344, 28, 3), (88, 0, 0, 1), (89, 0, 0, 1), (90, 344, 28, 3), (93, 0, 0, 1), (94, 0, 0, 2), (96, 0, 0, 2), (98, 0, 0, 3), (101, 0, 0, 3), (104, 0, 0, 2), (106, 0, 0, 3), (109, 0, 0, 3), (112, 0, 0, 1), (113, 0, 0, 2), (115, 0, 0, 3), (118, 0, 0, 3), (121, 0, 0, 1), (122, 50, 135, 3), (125, 0, 0, 3), (128, 0, 0, 1), (129, 58, 138, 3), (132, 768, 127, 3), (135, 0, 0, 3), (138, 0, 0, 1), (139, 0, 0, 1), (140, 0, 0, 1), (141, 345, 31, 3), (144, 0, 0, 2), (146, 0, 0, 1), (147, 352, 50, 3), (150, 0, 0, 1), (151, 0, 0, 1), (152, 0, 0, 2), (154, 772, 141, 3), (157, 0, 0, 2), (159, 760, 144, 3), (162, 0, 0, 1), (163, 0, 0, 3), (166, 756, 124, 3), (169, 0, 0, 1)]
/-- QuillDesk$Reader.actOf(I)I -/
def kc_68 : List Instr := [.iload 0, .tableswitch 14 10020 10025 #[2, 4, 10, 12, 6, 8], .sipush 0, .ireturn, .sipush 1, .ireturn, .sipush 3, .ireturn, .sipush 4, .ireturn, .sipush 2, .ireturn, .sipush 2, .ireturn, .sipush (-1), .ireturn]
def kr_68 : List (Nat × Nat × Nat × Nat) := [(0, 0, 0, 1), (1, 0, 0, 39), (40, 0, 0, 1), (41, 0, 0, 1), (42, 0, 0, 1), (43, 0, 0, 1), (44, 0, 0, 1), (45, 0, 0, 1), (46, 0, 0, 1), (47, 0, 0, 1), (48, 0, 0, 1), (49, 0, 0, 1), (50, 0, 0, 1), (51, 0, 0, 1), (52, 0, 0, 1), (53, 0, 0, 1)]
/-- QuillDesk$Reader.birdLine()Z -/
def kc_69 : List Instr := [.aload 0, .sipush 10008, .invokevirtual 130122, .ifCond .eq 8, .aload 0, .sipush 8, .invokevirtual 132122, .ifCond .ne 10, .sipush 0, .ireturn, .aload 0, .getfield 1548, .istore 1, .aload 0, .sipush 10003, .invokevirtual 130122, .ifCond .eq 21, .aload 0, .sipush 10, .invokevirtual 132122, .ifCond .ne 23, .sipush 0, .ireturn, .aload 0, .getfield 1548, .istore 2, .aload 0, .sipush 10004, .invokevirtual 130122, .ifCond .eq 34, .aload 0, .sipush 10, .invokevirtual 132122, .ifCond .ne 36, .sipush 0, .ireturn, .aload 0, .checkcast 1556, .iload 1, .iload 2, .aload 0, .getfield 1548, .sipush 0, .invokevirtual 170169, .aload 0, .sipush 20059, .invokevirtual 130122, .ireturn]
def kr_69 : List (Nat × Nat × Nat × Nat) := [(0, 0, 0, 1), (1, 0, 0, 3), (4, 756, 124, 3), (7, 0, 0, 3), (10, 0, 0, 1), (11, 0, 0, 2), (13, 768, 127, 3), (16, 0, 0, 3), (19, 0, 0, 1), (20, 0, 0, 1), (21, 0, 0, 1), (22, 345, 31, 3), (25, 0, 0, 1), (26, 0, 0, 1), (27, 0, 0, 3), (30, 756, 124, 3), (33, 0, 0, 3), (36, 0, 0, 1), (37, 0, 0, 2), (39, 768, 127, 3), (42, 0, 0, 3), (45, 0, 0, 1), (46, 0, 0, 1), (47, 0, 0, 1), (48, 345, 31, 3), (51, 0, 0, 1), (52, 0, 0, 1), (53, 0, 0, 3), (56, 756, 124, 3), (59, 0, 0, 3), (62, 0, 0, 1), (63, 0, 0, 2), (65, 768, 127, 3), (68, 0, 0, 3), (71, 0, 0, 1), (72, 0, 0, 1), (73, 0, 0, 1), (74, 352, 50, 3), (77, 0, 0, 1), (78, 0, 0, 1), (79, 0, 0, 1), (80, 345, 31, 3), (83, 0, 0, 1), (84, 760, 144, 3), (87, 0, 0, 1), (88, 0, 0, 3), (91, 756, 124, 3), (94, 0, 0, 1)]
/-- QuillDesk$Reader.afterLine(LQuillDesk$Firm;)Z -/
def kc_70 : List Instr := [.aload 0, .sipush 10009, .invokevirtual 130122, .ifCond .eq 9, .aload 0, .aload 1, .getfield 778, .invokevirtual 132122, .ifCond .ne 11, .sipush 0, .ireturn, .aload 0, .getfield 1548, .istore 2, .aload 0, .sipush 10026, .invokevirtual 130122, .ifCond .eq 22, .aload 0, .iload 2, .invokevirtual 132122, .ifCond .ne 24, .sipush 0, .ireturn, .aload 0, .checkcast 1556, .iload 2, .aload 0, .getfield 1548, .sipush 0, .sipush 0, .invokevirtual 170169, .aload 0, .sipush 20059, .invokevirtual 130122, .ireturn]
def kr_70 : List (Nat × Nat × Nat × Nat) := [(0, 0, 0, 1), (1, 0, 0, 3), (4, 756, 124, 3), (7, 0, 0, 3), (10, 0, 0, 1), (11, 0, 0, 1), (12, 58, 138, 3), (15, 768, 127, 3), (18, 0, 0, 3), (21, 0, 0, 1), (22, 0, 0, 1), (23, 0, 0, 1), (24, 345, 31, 3), (27, 0, 0, 1), (28, 0, 0, 1), (29, 0, 0, 3), (32, 756, 124, 3), (35, 0, 0, 3), (38, 0, 0, 1), (39, 0, 0, 1), (40, 768, 127, 3), (43, 0, 0, 3), (46, 0, 0, 1), (47, 0, 0, 1), (48, 0, 0, 1), (49, 352, 50, 3), (52, 0, 0, 1), (53, 0, 0, 1), (54, 345, 31, 3), (57, 0, 0, 1), (58, 0, 0, 1), (59, 760, 144, 3), (62, 0, 0, 1), (63, 0, 0, 3), (66, 756, 124, 3), (69, 0, 0, 1)]
/-- QuillDesk$Reader.lawLine()Z -/
def kc_71 : List Instr := [.aload 0, .invokevirtual 126120, .istore 1, .aload 0, .checkcast 1554, .getfield 1028, .istore 2, .aload 0, .dup, .getfield 1546, .sipush 1, .iadd, .putfield 1546, .aload 0, .invokevirtual 144120, .ifCond .ne 18, .sipush 0, .ireturn, .aload 0, .checkcast 1554, .getfield 1028, .istore 3, .aload 0, .invokevirtual 126120, .sipush 10014, .if_icmp .ne 38, .aload 0, .dup, .getfield 1546, .sipush 1, .iadd, .putfield 1546, .aload 0, .sipush 0, .invokevirtual 150122, .ifCond .ne 38, .sipush 0, .ireturn, .aload 0, .checkcast 1554, .checkcast 1024, .iload 1, .iload 2, .iload 3, .aload 0, .checkcast 1554, .getfield 1028, .invokevirtual 170169, .aload 0, .sipush 20059, .invokevirtual 130122, .ireturn]
def kr_71 : List (Nat × Nat × Nat × Nat) := [(0, 0, 0, 1), (1, 716, 67, 3), (4, 0, 0, 1), (5, 0, 0, 1), (6, 350, 43, 3), (9, 204, 148, 3), (12, 0, 0, 1), (13, 0, 0, 1), (14, 0, 0, 1), (15, 344, 28, 3), (18, 0, 0, 1), (19, 0, 0, 1), (20, 344, 28, 3), (23, 0, 0, 1), (24, 732, 149, 3), (27, 0, 0, 3), (30, 0, 0, 1), (31, 0, 0, 1), (32, 0, 0, 1), (33, 350, 43, 3), (36, 204, 148, 3), (39, 0, 0, 1), (40, 0, 0, 1), (41, 716, 67, 3), (44, 0, 0, 3), (47, 0, 0, 3), (50, 0, 0, 1), (51, 0, 0, 1), (52, 344, 28, 3), (55, 0, 0, 1), (56, 0, 0, 1), (57, 344, 28, 3), (60, 0, 0, 1), (61, 0, 0, 1), (62, 748, 152, 3), (65, 0, 0, 3), (68, 0, 0, 1), (69, 0, 0, 1), (70, 0, 0, 1), (71, 350, 43, 3), (74, 201, 155, 3), (77, 0, 0, 1), (78, 0, 0, 1), (79, 0, 0, 1), (80, 0, 0, 1), (81, 350, 43, 3), (84, 204, 148, 3), (87, 760, 144, 3), (90, 0, 0, 1), (91, 0, 0, 3), (94, 756, 124, 3), (97, 0, 0, 1)]
/-- QuillDesk$Reader.sumUp()Z -/
def kc_72 : List Instr := [.aload 0, .invokevirtual 146120, .ifCond .ne 5, .sipush 0, .ireturn, .sipush (-1), .istore 1, .aload 0, .getfield 1544, .aload 0, .getfield 1546, .isub, .istore 2, .iload 2, .ifCond .le 76, .aload 0, .invokevirtual 126120, .istore 3, .iload 3, .sipush 20043, .if_icmp .eq 31, .iload 3, .sipush 20045, .if_icmp .eq 31, .iload 3, .sipush 20042, .if_icmp .eq 31, .iload 3, .sipush 20047, .if_icmp .eq 31, .goto 76, .aload 0, .dup, .getfield 1546, .sipush 1, .iadd, .putfield 1546, .iload 3, .sipush 20043, .if_icmp .eq 43, .iload 3, .sipush 20045, .if_icmp .ne 52, .iload 1, .sipush (-1), .if_icmp .eq 50, .aload 0, .checkcast 1554, .iload 1, .invokevirtual 82083, .iload 3, .istore 1, .iload 3, .sipush 20047, .if_icmp .ne 59, .aload 0, .invokevirtual 148120, .ifCond .eq 62, .goto 64, .aload 0, .invokevirtual 146120, .ifCond .ne 64, .sipush 0, .ireturn, .iload 3, .sipush 20042, .if_icmp .eq 70, .iload 3, .sipush 20047, .if_icmp .ne 74, .aload 0, .checkcast 1554, .iload 3, .invokevirtual 82083, .iinc 2 (-1), .goto 13, .iload 1, .sipush (-1), .if_icmp .eq 83, .aload 0, .checkcast 1554, .iload 1, .invokevirtual 82083, .sipush 1, .ireturn]
def kr_72 : List (Nat × Nat × Nat × Nat) := [(0, 0, 0, 1), (1, 736, 156, 3), (4, 0, 0, 3), (7, 0, 0, 1), (8, 0, 0, 1), (9, 0, 0, 1), (10, 0, 0, 1), (11, 0, 0, 1), (12, 343, 25, 3), (15, 0, 0, 1), (16, 344, 28, 3), (19, 0, 0, 1), (20, 0, 0, 1), (21, 0, 0, 1), (22, 0, 0, 3), (25, 0, 0, 1), (26, 716, 67, 3), (29, 0, 0, 1), (30, 0, 0, 1), (31, 0, 0, 3), (34, 0, 0, 3), (37, 0, 0, 1), (38, 0, 0, 3), (41, 0, 0, 3), (44, 0, 0, 1), (45, 0, 0, 3), (48, 0, 0, 3), (51, 0, 0, 1), (52, 0, 0, 3), (55, 0, 0, 3), (58, 0, 0, 3), (61, 0, 0, 1), (62, 0, 0, 1), (63, 344, 28, 3), (66, 0, 0, 1), (67, 0, 0, 1), (68, 344, 28, 3), (71, 0, 0, 1), (72, 0, 0, 3), (75, 0, 0, 3), (78, 0, 0, 1), (79, 0, 0, 3), (82, 0, 0, 3), (85, 0, 0, 1), (86, 0, 0, 1), (87, 0, 0, 3), (90, 0, 0, 1), (91, 350, 43, 3), (94, 0, 0, 1), (95, 740, 159, 3), (98, 0, 0, 1), (99, 0, 0, 1), (100, 0, 0, 1), (101, 0, 0, 3), (104, 0, 0, 3), (107, 0, 0, 1), (108, 744, 163, 3), (111, 0, 0, 3), (114, 0, 0, 3), (117, 0, 0, 1), (118, 736, 156, 3), (121, 0, 0, 3), (124, 0, 0, 1), (125, 0, 0, 1), (126, 0, 0, 1), (127, 0, 0, 3), (130, 0, 0, 3), (133, 0, 0, 1), (134, 0, 0, 3), (137, 0, 0, 3), (140, 0, 0, 1), (141, 350, 43, 3), (144, 0, 0, 1), (145, 740, 159, 3), (148, 0, 0, 3), (151, 0, 0, 3), (154, 0, 0, 1), (155, 0, 0, 1), (156, 0, 0, 3), (159, 0, 0, 1), (160, 350, 43, 3), (163, 0, 0, 1), (164, 740, 159, 3), (167, 0, 0, 1), (168, 0, 0, 1)]
/-- QuillDesk$Reader.unit()Z -/
def kc_73 : List Instr := [.aload 0, .invokevirtual 126120, .istore 1, .iload 1, .ifCond .lt 8, .iload 1, .sipush 10010, .if_icmp .le 12, .aload 0, .sipush 1, .invokevirtual 128122, .ireturn, .aload 0, .checkcast 1554, .iload 1, .invokevirtual 82083, .aload 0, .dup, .getfield 1546, .sipush 1, .iadd, .putfield 1546, .sipush 1, .ireturn]
def kr_73 : List (Nat × Nat × Nat × Nat) := [(0, 0, 0, 1), (1, 716, 67, 3), (4, 0, 0, 1), (5, 0, 0, 1), (6, 0, 0, 3), (9, 0, 0, 1), (10, 0, 0, 3), (13, 0, 0, 3), (16, 0, 0, 1), (17, 0, 0, 1), (18, 724, 75, 3), (21, 0, 0, 1), (22, 0, 0, 1), (23, 350, 43, 3), (26, 0, 0, 1), (27, 740, 159, 3), (30, 0, 0, 1), (31, 0, 0, 1), (32, 344, 28, 3), (35, 0, 0, 1), (36, 0, 0, 1), (37, 344, 28, 3), (40, 0, 0, 1), (41, 0, 0, 1)]
/-- QuillDesk$Reader.part()Z -/
def kc_74 : List Instr := [.aload 0, .invokevirtual 126120, .istore 1, .iload 1, .ifCond .lt 8, .iload 1, .sipush 10000, .if_icmp .lt 12, .aload 0, .sipush 1, .invokevirtual 128122, .ireturn, .iload 1, .ifCond .ne 18, .aload 0, .sipush 2, .invokevirtual 128122, .ireturn, .aload 0, .checkcast 1554, .iload 1, .invokevirtual 82083, .aload 0, .dup, .getfield 1546, .sipush 1, .iadd, .putfield 1546, .sipush 1, .ireturn]
def kr_74 : List (Nat × Nat × Nat × Nat) := [(0, 0, 0, 1), (1, 716, 67, 3), (4, 0, 0, 1), (5, 0, 0, 1), (6, 0, 0, 3), (9, 0, 0, 1), (10, 0, 0, 3), (13, 0, 0, 3), (16, 0, 0, 1), (17, 0, 0, 1), (18, 724, 75, 3), (21, 0, 0, 1), (22, 0, 0, 1), (23, 0, 0, 3), (26, 0, 0, 1), (27, 0, 0, 1), (28, 724, 75, 3), (31, 0, 0, 1), (32, 0, 0, 1), (33, 350, 43, 3), (36, 0, 0, 1), (37, 740, 159, 3), (40, 0, 0, 1), (41, 0, 0, 1), (42, 344, 28, 3), (45, 0, 0, 1), (46, 0, 0, 1), (47, 344, 28, 3), (50, 0, 0, 1), (51, 0, 0, 1)]
/-- QuillDesk$Reader.condition(I)Z -/
def kc_75 : List Instr := [.aload 0, .iload 1, .invokevirtual 152122, .ifCond .ne 6, .sipush 0, .ireturn, .sipush 0, .istore 2, .aload 0, .getfield 1544, .aload 0, .getfield 1546, .isub, .istore 3, .iload 3, .ifCond .le 58, .aload 0, .invokevirtual 126120, .istore 4, .iload 4, .sipush 10016, .if_icmp .eq 26, .iload 4, .sipush 10015, .if_icmp .eq 26, .goto 58, .aload 0, .dup, .getfield 1546, .sipush 1, .iadd, .putfield 1546, .iload 4, .sipush 10015, .if_icmp .ne 43, .iload 2, .ifCond .eq 41, .aload 0, .checkcast 1554, .sipush 10015, .invokevirtual 82083, .sipush 1, .istore 2, .aload 0, .iload 1, .invokevirtual 152122, .ifCond .ne 49, .sipush 0, .ireturn, .iload 4, .sipush 10016, .if_icmp .ne 56, .aload 0, .checkcast 1554, .sipush 10016, .invokevirtual 82083, .iinc 3 (-1), .goto 14, .iload 2, .ifCond .eq 64, .aload 0, .checkcast 1554, .sipush 10015, .invokevirtual 82083, .sipush 1, .ireturn]
def kr_75 : List (Nat × Nat × Nat × Nat) := [(0, 0, 0, 1), (1, 0, 0, 1), (2, 752, 166, 3), (5, 0, 0, 3), (8, 0, 0, 1), (9, 0, 0, 1), (10, 0, 0, 1), (11, 0, 0, 1), (12, 0, 0, 1), (13, 343, 25, 3), (16, 0, 0, 1), (17, 344, 28, 3), (20, 0, 0, 1), (21, 0, 0, 1), (22, 0, 0, 1), (23, 0, 0, 3), (26, 0, 0, 1), (27, 716, 67, 3), (30, 0, 0, 2), (32, 0, 0, 2), (34, 0, 0, 3), (37, 0, 0, 3), (40, 0, 0, 2), (42, 0, 0, 3), (45, 0, 0, 3), (48, 0, 0, 3), (51, 0, 0, 1), (52, 0, 0, 1), (53, 344, 28, 3), (56, 0, 0, 1), (57, 0, 0, 1), (58, 344, 28, 3), (61, 0, 0, 2), (63, 0, 0, 3), (66, 0, 0, 3), (69, 0, 0, 1), (70, 0, 0, 3), (73, 0, 0, 1), (74, 350, 43, 3), (77, 0, 0, 3), (80, 740, 159, 3), (83, 0, 0, 1), (84, 0, 0, 1), (85, 0, 0, 1), (86, 0, 0, 1), (87, 752, 166, 3), (90, 0, 0, 3), (93, 0, 0, 1), (94, 0, 0, 1), (95, 0, 0, 2), (97, 0, 0, 3), (100, 0, 0, 3), (103, 0, 0, 1), (104, 350, 43, 3), (107, 0, 0, 3), (110, 740, 159, 3), (113, 0, 0, 3), (116, 0, 0, 3), (119, 0, 0, 1), (120, 0, 0, 3), (123, 0, 0, 1), (124, 350, 43, 3), (127, 0, 0, 3), (130, 740, 159, 3), (133, 0, 0, 1), (134, 0, 0, 1)]
/-- QuillDesk$Reader.single(I)Z -/
def kc_76 : List Instr := [.aload 0, .invokevirtual 126120, .istore 2, .iload 2, .sipush 10017, .if_icmp .eq 9, .iload 2, .sipush 20040, .if_icmp .ne 53, .iload 1, .sipush 8, .if_icmp .lt 16, .aload 0, .sipush 3, .invokevirtual 128122, .ireturn, .aload 0, .dup, .getfield 1546, .sipush 1, .iadd, .putfield 1546, .iload 2, .sipush 20040, .if_icmp .ne 39, .aload 0, .iload 1, .sipush 1, .iadd, .invokevirtual 150122, .ifCond .eq 37, .aload 0, .sipush 20041, .invokevirtual 130122, .ifCond .eq 37, .sipush 1, .goto 38, .sipush 0, .ireturn, .aload 0, .iload 1, .sipush 1, .iadd, .invokevirtual 152122, .ifCond .ne 47, .sipush 0, .ireturn, .aload 0, .checkcast 1554, .sipush 10017, .invokevirtual 82083, .sipush 1, .ireturn, .aload 0, .invokevirtual 144120, .ifCond .ne 58, .sipush 0, .ireturn, .aload 0, .invokevirtual 126120, .istore 3, .iload 3, .sipush 20060, .if_icmp .eq 74, .iload 3, .sipush 20061, .if_icmp .eq 74, .iload 3, .sipush 20062, .if_icmp .eq 74, .aload 0, .sipush 1, .invokevirtual 128122, .ireturn, .aload 0, .dup, .getfield 1546, .sipush 1, .iadd, .putfield 1546, .aload 0, .invokevirtual 144120, .ifCond .ne 85, .sipush 0, .ireturn, .aload 0, .checkcast 1554, .iload 3, .invokevirtual 82083, .sipush 1, .ireturn]
def kr_76 : List (Nat × Nat × Nat × Nat) := [(0, 0, 0, 1), (1, 716, 67, 3), (4, 0, 0, 1), (5, 0, 0, 1), (6, 0, 0, 3), (9, 0, 0, 3), (12, 0, 0, 1), (13, 0, 0, 3), (16, 0, 0, 3), (19, 0, 0, 1), (20, 0, 0, 2), (22, 0, 0, 3), (25, 0, 0, 1), (26, 0, 0, 1), (27, 724, 75, 3), (30, 0, 0, 1), (31, 0, 0, 1), (32, 0, 0, 1), (33, 344, 28, 3), (36, 0, 0, 1), (37, 0, 0, 1), (38, 344, 28, 3), (41, 0, 0, 1), (42, 0, 0, 3), (45, 0, 0, 3), (48, 0, 0, 1), (49, 0, 0, 1), (50, 0, 0, 1), (51, 0, 0, 1), (52, 748, 152, 3), (55, 0, 0, 3), (58, 0, 0, 1), (59, 0, 0, 3), (62, 756, 124, 3), (65, 0, 0, 3), (68, 0, 0, 1), (69, 0, 0, 3), (72, 0, 0, 1), (73, 0, 0, 1), (74, 0, 0, 1), (75, 0, 0, 1), (76, 0, 0, 1), (77, 0, 0, 1), (78, 752, 166, 3), (81, 0, 0, 3), (84, 0, 0, 1), (85, 0, 0, 1), (86, 0, 0, 1), (87, 350, 43, 3), (90, 0, 0, 3), (93, 740, 159, 3), (96, 0, 0, 1), (97, 0, 0, 1), (98, 0, 0, 1), (99, 732, 149, 3), (102, 0, 0, 3), (105, 0, 0, 1), (106, 0, 0, 1), (107, 0, 0, 1), (108, 716, 67, 3), (111, 0, 0, 1), (112, 0, 0, 1), (113, 0, 0, 3), (116, 0, 0, 3), (119, 0, 0, 1), (120, 0, 0, 3), (123, 0, 0, 3), (126, 0, 0, 1), (127, 0, 0, 3), (130, 0, 0, 3), (133, 0, 0, 1), (134, 0, 0, 1), (135, 724, 75, 3), (138, 0, 0, 1), (139, 0, 0, 1), (140, 0, 0, 1), (141, 344, 28, 3), (144, 0, 0, 1), (145, 0, 0, 1), (146, 344, 28, 3), (149, 0, 0, 1), (150, 732, 149, 3), (153, 0, 0, 3), (156, 0, 0, 1), (157, 0, 0, 1), (158, 0, 0, 1), (159, 350, 43, 3), (162, 0, 0, 1), (163, 740, 159, 3), (166, 0, 0, 1), (167, 0, 0, 1)]
/-- QuillDesk$Row.<init>(I)V -/
def kc_77 : List Instr := [.aload 0, .monitorexit, .aload 0, .sipush 12, .newarray .int, .putstatic 1792, .aload 0, .iload 1, .sipush 12, .invokestatic 593964, .putfield 1794, .aload 0, .sipush 0, .putfield 1796, .return_]
def kr_77 : List (Nat × Nat × Nat × Nat) := [(0, 0, 0, 1), (1, 225, 3, 3), (4, 0, 0, 1), (5, 0, 0, 2), (7, 0, 0, 2), (9, 229, 9, 3), (12, 0, 0, 1), (13, 0, 0, 1), (14, 0, 0, 2), (16, 226, 15, 3), (19, 231, 21, 3), (22, 0, 0, 1), (23, 0, 0, 1), (24, 232, 25, 3), (27, 0, 0, 1)]
/-- QuillDesk$Row.tell(III)I -/
def kc_78 : List Instr := [.iload 1, .iload 2, .iload 3, .invokestatic 312206, .ifCond .eq 13, .aload 0, .getfield 1796, .ifCond .lt 13, .aload 0, .getfield 1796, .aload 0, .getfield 1794, .if_icmp .lt 15, .sipush (-1), .ireturn, .aload 0, .checkcast 1792, .aload 0, .getfield 1796, .iload 1, .iastore, .aload 0, .dup, .getfield 1796, .sipush 1, .iadd, .putfield 1796, .aload 0, .getfield 1796, .ireturn]
def kr_78 : List (Nat × Nat × Nat × Nat) := [(0, 0, 0, 1), (1, 0, 0, 1), (2, 0, 0, 1), (3, 880, 28, 3), (6, 0, 0, 3), (9, 0, 0, 1), (10, 232, 25, 3), (13, 0, 0, 3), (16, 0, 0, 1), (17, 232, 25, 3), (20, 0, 0, 1), (21, 231, 21, 3), (24, 0, 0, 3), (27, 0, 0, 1), (28, 0, 0, 1), (29, 0, 0, 1), (30, 229, 9, 3), (33, 0, 0, 1), (34, 232, 25, 3), (37, 0, 0, 1), (38, 0, 0, 1), (39, 0, 0, 1), (40, 0, 0, 1), (41, 232, 25, 3), (44, 0, 0, 1), (45, 0, 0, 1), (46, 232, 25, 3), (49, 0, 0, 1), (50, 232, 25, 3), (53, 0, 0, 1)]
/-- QuillDesk$Row.clear()I -/
def kc_79 : List Instr := [.aload 0, .sipush 0, .putfield 1796, .sipush 0, .ireturn]
def kr_79 : List (Nat × Nat × Nat × Nat) := [(0, 0, 0, 1), (1, 0, 0, 1), (2, 232, 25, 3), (5, 0, 0, 1), (6, 0, 0, 1)]
/-- QuillDesk$Row.has(I)Z -/
def kc_80 : List Instr := [.sipush 0, .istore 2, .iload 2, .aload 0, .getfield 1796, .if_icmp .ge 16, .aload 0, .checkcast 1792, .iload 2, .iaload, .iload 1, .if_icmp .ne 14, .sipush 1, .ireturn, .iinc 2 1, .goto 2, .sipush 0, .ireturn]
def kr_80 : List (Nat × Nat × Nat × Nat) := [(0, 0, 0, 1), (1, 0, 0, 1), (2, 0, 0, 1), (3, 0, 0, 1), (4, 232, 25, 3), (7, 0, 0, 3), (10, 0, 0, 1), (11, 229, 9, 3), (14, 0, 0, 1), (15, 0, 0, 1), (16, 0, 0, 1), (17, 0, 0, 3), (20, 0, 0, 1), (21, 0, 0, 1), (22, 0, 0, 3), (25, 0, 0, 3), (28, 0, 0, 1), (29, 0, 0, 1)]
/-- QuillDesk$Row.sum()I -/
def kc_81 : List Instr := [.sipush 0, .istore 1, .sipush 0, .istore 2, .iload 2, .aload 0, .getfield 1796, .if_icmp .ge 17, .iload 1, .aload 0, .checkcast 1792, .iload 2, .iaload, .iadd, .istore 1, .iinc 2 1, .goto 4, .iload 1, .ireturn]
def kr_81 : List (Nat × Nat × Nat × Nat) := [(0, 0, 0, 1), (1, 0, 0, 1), (2, 0, 0, 1), (3, 0, 0, 1), (4, 0, 0, 1), (5, 0, 0, 1), (6, 232, 25, 3), (9, 0, 0, 3), (12, 0, 0, 1), (13, 0, 0, 1), (14, 229, 9, 3), (17, 0, 0, 1), (18, 0, 0, 1), (19, 0, 0, 1), (20, 0, 0, 1), (21, 0, 0, 3), (24, 0, 0, 3), (27, 0, 0, 1), (28, 0, 0, 1)]
/-- QuillDesk$Row.round(I)I -/
def kc_82 : List Instr := [.aload 0, .getfield 1796, .ifCond .le 13, .iload 1, .ifCond .lt 13, .aload 0, .checkcast 1792, .iload 1, .aload 0, .getfield 1796, .irem, .iaload, .goto 14, .sipush 0, .ireturn]
def kr_82 : List (Nat × Nat × Nat × Nat) := [(0, 0, 0, 1), (1, 232, 25, 3), (4, 0, 0, 3), (7, 0, 0, 1), (8, 0, 0, 3), (11, 0, 0, 1), (12, 229, 9, 3), (15, 0, 0, 1), (16, 0, 0, 1), (17, 232, 25, 3), (20, 0, 0, 1), (21, 0, 0, 1), (22, 0, 0, 3), (25, 0, 0, 1), (26, 0, 0, 1)]
/-- QuillDesk$Row.copyFrom(LQuillDesk$Row;)V -/
def kc_83 : List Instr := [.aload 1, .checkcast 1792, .sipush 0, .aload 0, .checkcast 1792, .sipush 0, .sipush 12, .swap, .aload 0, .aload 1, .getfield 1796, .putfield 1796, .return_]
def kr_83 : List (Nat × Nat × Nat × Nat) := [(0, 0, 0, 1), (1, 229, 9, 3), (4, 0, 0, 1), (5, 0, 0, 1), (6, 229, 9, 3), (9, 0, 0, 1), (10, 0, 0, 2), (12, 1112, 32, 3), (15, 0, 0, 1), (16, 0, 0, 1), (17, 232, 25, 3), (20, 232, 25, 3), (23, 0, 0, 1)]
/-- QuillDesk$Text.<init>()V -/
def kc_84 : List Instr := [.aload 0, .monitorexit, .aload 0, .sipush 16, .newarray .int, .putstatic 2048, .aload 0, .sipush 16, .newarray .int, .putstatic 2050, .aload 0, .sipush 16, .newarray .int, .putstatic 2052, .aload 0, .sipush 16, .newarray .int, .putstatic 2054, .aload 0, .sipush 0, .putfield 2056, .return_]
def kr_84 : List (Nat × Nat × Nat × Nat) := [(0, 0, 0, 1), (1, 170, 3, 3), (4, 0, 0, 1), (5, 0, 0, 2), (7, 0, 0, 2), (9, 171, 9, 3), (12, 0, 0, 1), (13, 0, 0, 2), (15, 0, 0, 2), (17, 174, 15, 3), (20, 0, 0, 1), (21, 0, 0, 2), (23, 0, 0, 2), (25, 177, 18, 3), (28, 0, 0, 1), (29, 0, 0, 2), (31, 0, 0, 2), (33, 180, 21, 3), (36, 0, 0, 1), (37, 0, 0, 1), (38, 183, 24, 3), (41, 0, 0, 1)]
/-- QuillDesk$Text.add(IIII)V -/
def kc_85 : List Instr := [.aload 0, .getfield 2056, .ifCond .lt 7, .aload 0, .getfield 2056, .sipush 16, .if_icmp .lt 8, .return_, .aload 0, .checkcast 2048, .aload 0, .getfield 2056, .iload 1, .iastore, .aload 0, .checkcast 2050, .aload 0, .getfield 2056, .iload 2, .iastore, .aload 0, .checkcast 2052, .aload 0, .getfield 2056, .iload 3, .iastore, .aload 0, .checkcast 2054, .aload 0, .getfield 2056, .iload 4, .iastore, .aload 0, .dup, .getfield 2056, .sipush 1, .iadd, .putfield 2056, .return_]
def kr_85 : List (Nat × Nat × Nat × Nat) := [(0, 0, 0, 1), (1, 183, 24, 3), (4, 0, 0, 3), (7, 0, 0, 1), (8, 183, 24, 3), (11, 0, 0, 2), (13, 0, 0, 3), (16, 0, 0, 1), (17, 0, 0, 1), (18, 171, 9, 3), (21, 0, 0, 1), (22, 183, 24, 3), (25, 0, 0, 1), (26, 0, 0, 1), (27, 0, 0, 1), (28, 174, 15, 3), (31, 0, 0, 1), (32, 183, 24, 3), (35, 0, 0, 1), (36, 0, 0, 1), (37, 0, 0, 1), (38, 177, 18, 3), (41, 0, 0, 1), (42, 183, 24, 3), (45, 0, 0, 1), (46, 0, 0, 1), (47, 0, 0, 1), (48, 180, 21, 3), (51, 0, 0, 1), (52, 183, 24, 3), (55, 0, 0, 2), (57, 0, 0, 1), (58, 0, 0, 1), (59, 0, 0, 1), (60, 183, 24, 3), (63, 0, 0, 1), (64, 0, 0, 1), (65, 183, 24, 3), (68, 0, 0, 1)]
/-- QuillDesk$Text.copyFrom(LQuillDesk$Text;)V -/
def kc_86 : List Instr := [.aload 1, .checkcast 2048, .sipush 0, .aload 0, .checkcast 2048, .sipush 0, .sipush 16, .swap, .aload 1, .checkcast 2050, .sipush 0, .aload 0, .checkcast 2050, .sipush 0, .sipush 16, .swap, .aload 1, .checkcast 2052, .sipush 0, .aload 0, .checkcast 2052, .sipush 0, .sipush 16, .swap, .aload 1, .checkcast 2054, .sipush 0, .aload 0, .checkcast 2054, .sipush 0, .sipush 16, .swap, .aload 0, .aload 1, .getfield 2056, .putfield 2056, .return_]
def kr_86 : List (Nat × Nat × Nat × Nat) := [(0, 0, 0, 1), (1, 171, 9, 3), (4, 0, 0, 1), (5, 0, 0, 1), (6, 171, 9, 3), (9, 0, 0, 1), (10, 0, 0, 2), (12, 791, 28, 3), (15, 0, 0, 1), (16, 174, 15, 3), (19, 0, 0, 1), (20, 0, 0, 1), (21, 174, 15, 3), (24, 0, 0, 1), (25, 0, 0, 2), (27, 791, 28, 3), (30, 0, 0, 1), (31, 177, 18, 3), (34, 0, 0, 1), (35, 0, 0, 1), (36, 177, 18, 3), (39, 0, 0, 1), (40, 0, 0, 2), (42, 791, 28, 3), (45, 0, 0, 1), (46, 180, 21, 3), (49, 0, 0, 1), (50, 0, 0, 1), (51, 180, 21, 3), (54, 0, 0, 1), (55, 0, 0, 2), (57, 791, 28, 3), (60, 0, 0, 1), (61, 0, 0, 1), (62, 183, 24, 3), (65, 183, 24, 3), (68, 0, 0, 1)]
/-- QuillDesk$Thought.<init>()V -/
def kc_87 : List Instr := [.aload 0, .monitorexit, .aload 0, .sipush 13, .newarray .int, .putstatic 2304, .aload 0, .sipush 13, .newarray .int, .putstatic 2306, .aload 0, .sipush 13, .newarray .int, .putstatic 2308, .aload 0, .sipush 1001, .newarray .int, .putstatic 2310, .aload 0, .sipush 40, .newarray .int, .putstatic 2312, .aload 0, .sipush 81, .newarray .int, .putstatic 2314, .return_]
def kr_87 : List (Nat × Nat × Nat × Nat) := [(0, 0, 0, 1), (1, 382, 3, 3), (4, 0, 0, 1), (5, 0, 0, 2), (7, 0, 0, 2), (9, 383, 9, 3), (12, 0, 0, 1), (13, 0, 0, 2), (15, 0, 0, 2), (17, 385, 15, 3), (20, 0, 0, 1), (21, 0, 0, 2), (23, 0, 0, 2), (25, 386, 18, 3), (28, 0, 0, 1), (29, 0, 0, 3), (32, 0, 0, 2), (34, 387, 21, 3), (37, 0, 0, 1), (38, 0, 0, 2), (40, 0, 0, 2), (42, 388, 24, 3), (45, 0, 0, 1), (46, 0, 0, 2), (48, 0, 0, 2), (50, 389, 27, 3), (53, 0, 0, 1)]
/-- QuillDesk$Thought.countFlock(II)I -/
def kc_88 : List Instr := [.iload 1, .ifCond .le 5, .iload 1, .sipush 12, .if_icmp .le 11, .iload 1, .ifCond .ne 9, .sipush 1, .goto 10, .sipush 0, .ireturn, .aload 0, .checkcast 2304, .sipush 0, .sipush 1, .iastore, .sipush 2, .istore 3, .iload 3, .iload 1, .if_icmp .gt 65, .sipush 0, .istore 4, .iload 4, .iload 3, .if_icmp .ge 55, .aload 0, .checkcast 2306, .iload 4, .sipush 0, .iastore, .sipush 0, .istore 5, .iload 5, .iload 3, .sipush 2, .isub, .iload 4, .isub, .if_icmp .gt 53, .aload 0, .checkcast 2306, .iload 4, .dup2, .iaload, .aload 0, .checkcast 2304, .iload 5, .iaload, .iadd, .iastore, .iinc 5 1, .goto 33, .iinc 4 1, .goto 23, .aload 0, .checkcast 2306, .sipush 0, .aload 0, .checkcast 2304, .sipush 0, .iload 3, .swap, .iinc 3 1, .goto 18, .iload 2, .ifCond .lt 75, .iload 2, .iload 1, .if_icmp .ge 75, .aload 0, .checkcast 2304, .iload 2, .iaload, .ireturn, .sipush 0, .istore 3, .sipush 0, .istore 4, .iload 4, .iload 1, .if_icmp .ge 91, .iload 3, .aload 0, .checkcast 2304, .iload 4, .iaload, .iadd, .istore 3, .iinc 4 1, .goto 79, .iload 3, .ireturn]
def kr_88 : List (Nat × Nat × Nat × Nat) := [(0, 0, 0, 1), (1, 0, 0, 3), (4, 0, 0, 1), (5, 0, 0, 2), (7, 0, 0, 3), (10, 0, 0, 1), (11, 0, 0, 3), (14, 0, 0, 1), (15, 0, 0, 3), (18, 0, 0, 1), (19, 0, 0, 1), (20, 0, 0, 1), (21, 383, 9, 3), (24, 0, 0, 1), (25, 0, 0, 1), (26, 0, 0, 1), (27, 0, 0, 1), (28, 0, 0, 1), (29, 0, 0, 1), (30, 0, 0, 1), (31, 0, 0, 3), (34, 0, 0, 1), (35, 0, 0, 2), (37, 0, 0, 2), (39, 0, 0, 1), (40, 0, 0, 3), (43, 0, 0, 1), (44, 385, 15, 3), (47, 0, 0, 2), (49, 0, 0, 1), (50, 0, 0, 1), (51, 0, 0, 1), (52, 0, 0, 2), (54, 0, 0, 2), (56, 0, 0, 1), (57, 0, 0, 1), (58, 0, 0, 1), (59, 0, 0, 2), (61, 0, 0, 1), (62, 0, 0, 3), (65, 0, 0, 1), (66, 385, 15, 3), (69, 0, 0, 2), (71, 0, 0, 1), (72, 0, 0, 1), (73, 0, 0, 1), (74, 383, 9, 3), (77, 0, 0, 2), (79, 0, 0, 1), (80, 0, 0, 1), (81, 0, 0, 1), (82, 0, 0, 3), (85, 0, 0, 3), (88, 0, 0, 3), (91, 0, 0, 3), (94, 0, 0, 1), (95, 385, 15, 3), (98, 0, 0, 1), (99, 0, 0, 1), (100, 383, 9, 3), (103, 0, 0, 1), (104, 0, 0, 1), (105, 867, 30, 3), (108, 0, 0, 3), (111, 0, 0, 3), (114, 0, 0, 1), (115, 0, 0, 3), (118, 0, 0, 1), (119, 0, 0, 1), (120, 0, 0, 3), (123, 0, 0, 1), (124, 383, 9, 3), (127, 0, 0, 1), (128, 0, 0, 1), (129, 0, 0, 1), (130, 0, 0, 1), (131, 0, 0, 1), (132, 0, 0, 1), (133, 0, 0, 2), (135, 0, 0, 2), (137, 0, 0, 1), (138, 0, 0, 3), (141, 0, 0, 1), (142, 0, 0, 1), (143, 383, 9, 3), (146, 0, 0, 2), (148, 0, 0, 1), (149, 0, 0, 1), (150, 0, 0, 1), (151, 0, 0, 3), (154, 0, 0, 3), (157, 0, 0, 1), (158, 0, 0, 1)]
/-- QuillDesk$Thought.setPage(LQuillDesk$Row;II)I -/
def kc_89 : List Instr := [.aload 1, .getfield 1796, .istore 4, .iload 4, .ifCond .le 8, .iload 4, .sipush 12, .if_icmp .le 10, .sipush 0, .ireturn, .aload 0, .checkcast 2304, .astore 5, .aload 0, .checkcast 2306, .astore 6, .aload 5, .iload 4, .sipush 0, .iastore, .aload 6, .iload 4, .sipush 0, .iastore, .iload 4, .sipush 1, .isub, .istore 7, .iload 7, .ifCond .lt 114, .aload 5, .iload 7, .sipush 1000000, .iastore, .aload 6, .iload 7, .sipush 0, .iastore, .sipush (-1), .istore 8, .iload 7, .istore 9, .iload 9, .iload 4, .if_icmp .ge 112, .iload 8, .sipush 1, .aload 1, .checkcast 1792, .iload 9, .iaload, .iadd, .iadd, .istore 8, .iload 8, .iload 2, .if_icmp .le 58, .goto 112, .aload 5, .iload 9, .sipush 1, .iadd, .iaload, .iload 9, .iload 4, .sipush 1, .isub, .if_icmp .ne 70, .sipush 0, .goto 77, .iload 2, .iload 8, .isub, .iload 2, .iload 8, .isub, .imul, .iadd, .istore 10, .sipush 1, .aload 6, .iload 9, .sipush 1, .iadd, .iaload, .iadd, .istore 11, .iload 10, .aload 5, .iload 7, .iaload, .if_icmp .lt 102, .iload 10, .aload 5, .iload 7, .iaload, .if_icmp .ne 110, .iload 11, .aload 6, .iload 7, .iaload, .if_icmp .ge 110, .aload 5, .iload 7, .iload 10, .iastore, .aload 6, .iload 7, .iload 11, .iastore, .iinc 9 1, .goto 42, .iinc 7 (-1), .goto 28, .iload 3, .ifCond .ne 120, .aload 5, .sipush 0, .iaload, .goto 123, .aload 6, .sipush 0, .iaload, .ireturn]
def kr_89 : List (Nat × Nat × Nat × Nat) := [(0, 0, 0, 1), (1, 233, 36, 3), (4, 0, 0, 2), (6, 0, 0, 2), (8, 0, 0, 3), (11, 0, 0, 2), (13, 0, 0, 2), (15, 0, 0, 3), (18, 0, 0, 1), (19, 0, 0, 1), (20, 0, 0, 1), (21, 383, 9, 3), (24, 0, 0, 2), (26, 0, 0, 1), (27, 385, 15, 3), (30, 0, 0, 2), (32, 0, 0, 2), (34, 0, 0, 2), (36, 0, 0, 1), (37, 0, 0, 1), (38, 0, 0, 2), (40, 0, 0, 2), (42, 0, 0, 1), (43, 0, 0, 1), (44, 0, 0, 2), (46, 0, 0, 1), (47, 0, 0, 1), (48, 0, 0, 2), (50, 0, 0, 2), (52, 0, 0, 3), (55, 0, 0, 2), (57, 0, 0, 2), (59, 889, 42, 2), (61, 0, 0, 1), (62, 0, 0, 2), (64, 0, 0, 2), (66, 0, 0, 1), (67, 0, 0, 1), (68, 0, 0, 1), (69, 0, 0, 2), (71, 0, 0, 2), (73, 0, 0, 2), (75, 0, 0, 2), (77, 0, 0, 2), (79, 0, 0, 3), (82, 0, 0, 2), (84, 0, 0, 1), (85, 0, 0, 1), (86, 230, 43, 3), (89, 0, 0, 2), (91, 0, 0, 1), (92, 0, 0, 1), (93, 0, 0, 1), (94, 0, 0, 2), (96, 0, 0, 2), (98, 0, 0, 1), (99, 0, 0, 3), (102, 0, 0, 3), (105, 0, 0, 2), (107, 0, 0, 2), (109, 0, 0, 1), (110, 0, 0, 1), (111, 0, 0, 1), (112, 0, 0, 2), (114, 0, 0, 2), (116, 0, 0, 1), (117, 0, 0, 1), (118, 0, 0, 3), (121, 0, 0, 1), (122, 0, 0, 3), (125, 0, 0, 1), (126, 0, 0, 2), (128, 0, 0, 1), (129, 0, 0, 1), (130, 0, 0, 2), (132, 0, 0, 1), (133, 0, 0, 1), (134, 0, 0, 1), (135, 0, 0, 2), (137, 0, 0, 1), (138, 0, 0, 2), (140, 0, 0, 2), (142, 0, 0, 1), (143, 0, 0, 1), (144, 0, 0, 1), (145, 0, 0, 1), (146, 0, 0, 2), (148, 0, 0, 2), (150, 0, 0, 2), (152, 0, 0, 2), (154, 0, 0, 1), (155, 0, 0, 3), (158, 0, 0, 2), (160, 0, 0, 2), (162, 0, 0, 2), (164, 0, 0, 1), (165, 0, 0, 3), (168, 0, 0, 2), (170, 0, 0, 2), (172, 0, 0, 2), (174, 0, 0, 1), (175, 0, 0, 3), (178, 0, 0, 2), (180, 0, 0, 2), (182, 0, 0, 2), (184, 0, 0, 1), (185, 0, 0, 2), (187, 0, 0, 2), (189, 0, 0, 2), (191, 0, 0, 1), (192, 0, 0, 3), (195, 0, 0, 3), (198, 0, 0, 3), (201, 0, 0, 3), (204, 0, 0, 1), (205, 0, 0, 3), (208, 0, 0, 2), (210, 0, 0, 1), (211, 0, 0, 1), (212, 0, 0, 3), (215, 0, 0, 2), (217, 0, 0, 1), (218, 0, 0, 1), (219, 0, 0, 1)]
/-- QuillDesk$Thought.payStamps(LQuillDesk$Row;I)I -/
def kc_90 : List Instr := [.sipush 0, .istore 3, .sipush 0, .istore 4, .aload 0, .checkcast 2310, .sipush 0, .sipush 1, .iastore, .sipush 1, .istore 5, .iload 5, .sipush 1000, .if_icmp .gt 60, .aload 0, .checkcast 2310, .iload 5, .sipush 0, .iastore, .sipush 0, .istore 6, .iload 6, .aload 1, .getfield 1796, .if_icmp .ge 50, .aload 1, .checkcast 1792, .iload 6, .iaload, .istore 7, .iload 7, .ifCond .le 48, .iload 7, .iload 5, .if_icmp .gt 48, .aload 0, .checkcast 2310, .iload 5, .iload 7, .isub, .iaload, .sipush 1, .if_icmp .ne 48, .aload 0, .checkcast 2310, .iload 5, .sipush 1, .iastore, .iinc 6 1, .goto 21, .aload 0, .checkcast 2310, .iload 5, .iaload, .ifCond .ne 58, .iinc 3 1, .iload 5, .istore 4, .iinc 5 1, .goto 11, .iload 2, .sipush 1, .if_icmp .ne 65, .iload 3, .ireturn, .sipush 0, .istore 5, .sipush 0, .istore 6, .iload 6, .aload 1, .getfield 1796, .if_icmp .ge 82, .iload 5, .aload 1, .checkcast 1792, .iload 6, .iaload, .invokestatic 182184, .istore 5, .iinc 6 1, .goto 69, .iload 5, .sipush 1, .if_icmp .ne 87, .iload 4, .goto 88, .sipush (-1), .ireturn]
def kr_90 : List (Nat × Nat × Nat × Nat) := [(0, 0, 0, 1), (1, 0, 0, 1), (2, 0, 0, 1), (3, 0, 0, 2), (5, 0, 0, 1), (6, 387, 21, 3), (9, 0, 0, 1), (10, 0, 0, 1), (11, 0, 0, 1), (12, 0, 0, 1), (13, 0, 0, 2), (15, 0, 0, 2), (17, 0, 0, 3), (20, 0, 0, 3), (23, 0, 0, 1), (24, 387, 21, 3), (27, 0, 0, 2), (29, 0, 0, 1), (30, 0, 0, 1), (31, 0, 0, 1), (32, 0, 0, 2), (34, 0, 0, 2), (36, 0, 0, 1), (37, 233, 36, 3), (40, 0, 0, 3), (43, 0, 0, 1), (44, 230, 43, 3), (47, 0, 0, 2), (49, 0, 0, 1), (50, 0, 0, 2), (52, 0, 0, 2), (54, 0, 0, 3), (57, 0, 0, 2), (59, 0, 0, 2), (61, 0, 0, 3), (64, 0, 0, 1), (65, 387, 21, 3), (68, 0, 0, 2), (70, 0, 0, 2), (72, 0, 0, 1), (73, 0, 0, 1), (74, 0, 0, 1), (75, 0, 0, 3), (78, 0, 0, 1), (79, 387, 21, 3), (82, 0, 0, 2), (84, 0, 0, 1), (85, 0, 0, 1), (86, 0, 0, 3), (89, 0, 0, 3), (92, 0, 0, 1), (93, 387, 21, 3), (96, 0, 0, 2), (98, 0, 0, 1), (99, 0, 0, 3), (102, 0, 0, 3), (105, 0, 0, 2), (107, 0, 0, 2), (109, 0, 0, 3), (112, 0, 0, 3), (115, 0, 0, 1), (116, 0, 0, 1), (117, 0, 0, 3), (120, 0, 0, 1), (121, 0, 0, 1), (122, 0, 0, 1), (123, 0, 0, 2), (125, 0, 0, 1), (126, 0, 0, 2), (128, 0, 0, 2), (130, 0, 0, 1), (131, 233, 36, 3), (134, 0, 0, 3), (137, 0, 0, 2), (139, 0, 0, 1), (140, 230, 43, 3), (143, 0, 0, 2), (145, 0, 0, 1), (146, 902, 46, 3), (149, 0, 0, 2), (151, 0, 0, 3), (154, 0, 0, 3), (157, 0, 0, 2), (159, 0, 0, 1), (160, 0, 0, 3), (163, 0, 0, 2), (165, 0, 0, 3), (168, 0, 0, 1), (169, 0, 0, 1)]
/-- QuillDesk$Thought.commonPart(II)I -/
def kc_91 : List Instr := [.iload 0, .invokestatic 589962, .istore 2, .iload 1, .invokestatic 589962, .istore 3, .sipush 0, .istore 4, .iload 4, .sipush 64, .if_icmp .ge 23, .iload 3, .ifCond .eq 23, .iload 2, .iload 3, .irem, .istore 5, .iload 3, .istore 2, .iload 5, .istore 3, .iinc 4 1, .goto 8, .iload 2, .ireturn]
def kr_91 : List (Nat × Nat × Nat × Nat) := [(0, 0, 0, 1), (1, 905, 50, 3), (4, 0, 0, 1), (5, 0, 0, 1), (6, 905, 50, 3), (9, 0, 0, 1), (10, 0, 0, 1), (11, 0, 0, 2), (13, 0, 0, 2), (15, 0, 0, 2), (17, 0, 0, 3), (20, 0, 0, 1), (21, 0, 0, 3), (24, 0, 0, 1), (25, 0, 0, 1), (26, 0, 0, 1), (27, 0, 0, 2), (29, 0, 0, 1), (30, 0, 0, 1), (31, 0, 0, 2), (33, 0, 0, 1), (34, 0, 0, 3), (37, 0, 0, 3), (40, 0, 0, 1), (41, 0, 0, 1)]
/-- QuillDesk$Thought.scratchDown(II)I -/
def kc_92 : List Instr := [.iload 0, .istore 2, .iload 0, .istore 3, .sipush 0, .istore 4, .iload 2, .sipush 1, .if_icmp .le 32, .iload 4, .sipush 1000000, .if_icmp .ge 32, .iload 2, .sipush 2, .irem, .ifCond .ne 20, .iload 2, .sipush 2, .idiv, .goto 25, .sipush 3, .iload 2, .imul, .sipush 1, .iadd, .istore 2, .iload 3, .iload 2, .invokestatic 591964, .istore 3, .iinc 4 1, .goto 6, .iload 1, .ifCond .ne 36, .iload 4, .goto 37, .iload 3, .ireturn]
def kr_92 : List (Nat × Nat × Nat × Nat) := [(0, 0, 0, 1), (1, 0, 0, 1), (2, 0, 0, 1), (3, 0, 0, 1), (4, 0, 0, 1), (5, 0, 0, 2), (7, 0, 0, 1), (8, 0, 0, 1), (9, 0, 0, 3), (12, 0, 0, 2), (14, 889, 42, 2), (16, 0, 0, 3), (19, 0, 0, 1), (20, 0, 0, 1), (21, 0, 0, 1), (22, 0, 0, 3), (25, 0, 0, 1), (26, 0, 0, 1), (27, 0, 0, 1), (28, 0, 0, 3), (31, 0, 0, 1), (32, 0, 0, 1), (33, 0, 0, 1), (34, 0, 0, 1), (35, 0, 0, 1), (36, 0, 0, 1), (37, 0, 0, 1), (38, 0, 0, 1), (39, 915, 56, 3), (42, 0, 0, 1), (43, 0, 0, 3), (46, 0, 0, 3), (49, 0, 0, 1), (50, 0, 0, 3), (53, 0, 0, 2), (55, 0, 0, 3), (58, 0, 0, 1), (59, 0, 0, 1)]
/-- QuillDesk$Thought.weighByThrees(II)I -/
def kc_93 : List Instr := [.iload 0, .istore 2, .sipush 0, .istore 3, .sipush 0, .istore 4, .sipush 0, .istore 5, .iload 5, .sipush 32, .if_icmp .ge 45, .iload 2, .ifCond .eq 45, .iload 2, .sipush 1, .iadd, .sipush 3, .invokestatic 587964, .sipush 1, .isub, .istore 6, .iload 1, .sipush 10, .iload 5, .iadd, .if_icmp .ne 28, .iload 6, .ireturn, .iload 2, .iload 6, .isub, .sipush 3, .idiv, .istore 2, .iinc 3 1, .iload 4, .iload 6, .ifCond .ne 40, .sipush 0, .goto 41, .sipush 1, .iadd, .istore 4, .iinc 5 1, .goto 8, .iload 1, .ifCond .ne 49, .iload 3, .ireturn, .iload 1, .sipush 1, .if_icmp .ne 54, .iload 4, .goto 55, .sipush (-2), .ireturn]
def kr_93 : List (Nat × Nat × Nat × Nat) := [(0, 0, 0, 1), (1, 0, 0, 1), (2, 0, 0, 1), (3, 0, 0, 1), (4, 0, 0, 1), (5, 0, 0, 2), (7, 0, 0, 1), (8, 0, 0, 2), (10, 0, 0, 2), (12, 0, 0, 2), (14, 0, 0, 3), (17, 0, 0, 1), (18, 0, 0, 3), (21, 0, 0, 1), (22, 0, 0, 1), (23, 0, 0, 1), (24, 0, 0, 1), (25, 923, 59, 3), (28, 0, 0, 1), (29, 0, 0, 1), (30, 0, 0, 2), (32, 0, 0, 1), (33, 0, 0, 2), (35, 0, 0, 2), (37, 0, 0, 1), (38, 0, 0, 3), (41, 0, 0, 2), (43, 0, 0, 1), (44, 0, 0, 1), (45, 0, 0, 2), (47, 0, 0, 1), (48, 0, 0, 1), (49, 0, 0, 1), (50, 0, 0, 1), (51, 0, 0, 3), (54, 0, 0, 2), (56, 0, 0, 2), (58, 0, 0, 3), (61, 0, 0, 1), (62, 0, 0, 3), (65, 0, 0, 1), (66, 0, 0, 1), (67, 0, 0, 2), (69, 0, 0, 3), (72, 0, 0, 3), (75, 0, 0, 1), (76, 0, 0, 3), (79, 0, 0, 1), (80, 0, 0, 1), (81, 0, 0, 1), (82, 0, 0, 1), (83, 0, 0, 3), (86, 0, 0, 2), (88, 0, 0, 3), (91, 0, 0, 2), (93, 0, 0, 1)]
/-- QuillDesk$Thought.turnsLeft(I)Z -/
def kc_94 : List Instr := [.iload 0, .istore 1, .sipush 0, .istore 2, .iload 2, .sipush 32, .if_icmp .ge 19, .iload 1, .ifCond .eq 19, .iload 1, .sipush 2, .irem, .ifCond .ne 19, .iload 1, .sipush 2, .idiv, .istore 1, .iinc 2 1, .goto 4, .iload 1, .sipush 4, .irem, .sipush 1, .if_icmp .ne 26, .sipush 1, .goto 27, .sipush 0, .ireturn]
def kr_94 : List (Nat × Nat × Nat × Nat) := [(0, 0, 0, 1), (1, 0, 0, 1), (2, 0, 0, 1), (3, 0, 0, 1), (4, 0, 0, 1), (5, 0, 0, 2), (7, 0, 0, 3), (10, 0, 0, 1), (11, 0, 0, 3), (14, 0, 0, 1), (15, 0, 0, 1), (16, 0, 0, 1), (17, 0, 0, 3), (20, 0, 0, 1), (21, 0, 0, 1), (22, 0, 0, 1), (23, 0, 0, 1), (24, 0, 0, 3), (27, 0, 0, 3), (30, 0, 0, 1), (31, 0, 0, 1), (32, 0, 0, 1), (33, 0, 0, 1), (34, 0, 0, 3), (37, 0, 0, 1), (38, 0, 0, 3), (41, 0, 0, 1), (42, 0, 0, 1)]
/-- QuillDesk$Thought.walkCurve(II)I -/
def kc_95 : List Instr := [.sipush 0, .istore 2, .sipush 0, .istore 3, .sipush 1, .istore 4, .sipush 0, .istore 5, .sipush 1, .istore 6, .iload 6, .iload 0, .if_icmp .gt 42, .iload 2, .iload 4, .iadd, .istore 2, .iload 3, .iload 5, .iadd, .istore 3, .iload 4, .istore 7, .iload 6, .invokestatic 188182, .istore 8, .iload 8, .ifCond .eq 31, .iload 5, .ineg, .goto 32, .iload 5, .istore 4, .iload 8, .ifCond .eq 37, .iload 7, .goto 39, .iload 7, .ineg, .istore 5, .iinc 6 1, .goto 10, .iload 1, .ifCond .ne 46, .iload 2, .goto 47, .iload 3, .ireturn]
def kr_95 : List (Nat × Nat × Nat × Nat) := [(0, 0, 0, 1), (1, 0, 0, 1), (2, 0, 0, 1), (3, 0, 0, 1), (4, 0, 0, 1), (5, 0, 0, 2), (7, 0, 0, 1), (8, 0, 0, 2), (10, 0, 0, 1), (11, 0, 0, 2), (13, 0, 0, 2), (15, 0, 0, 1), (16, 0, 0, 3), (19, 0, 0, 1), (20, 0, 0, 2), (22, 0, 0, 1), (23, 0, 0, 1), (24, 0, 0, 1), (25, 0, 0, 2), (27, 0, 0, 1), (28, 0, 0, 1), (29, 0, 0, 2), (31, 0, 0, 2), (33, 0, 0, 2), (35, 936, 62, 3), (38, 0, 0, 2), (40, 0, 0, 2), (42, 0, 0, 3), (45, 0, 0, 2), (47, 0, 0, 1), (48, 0, 0, 3), (51, 0, 0, 2), (53, 0, 0, 2), (55, 0, 0, 2), (57, 0, 0, 3), (60, 0, 0, 2), (62, 0, 0, 3), (65, 0, 0, 2), (67, 0, 0, 1), (68, 0, 0, 2), (70, 0, 0, 3), (73, 0, 0, 3), (76, 0, 0, 1), (77, 0, 0, 3), (80, 0, 0, 1), (81, 0, 0, 3), (84, 0, 0, 1), (85, 0, 0, 1)]
/-- QuillDesk$Thought.countDots([I[II)I -/
def kc_96 : List Instr := [.aload 0, .arraylength, .sipush 3, .if_icmp .lt 8, .aload 1, .arraylength, .sipush 3, .if_icmp .ge 10, .sipush 0, .ireturn, .aload 0, .sipush 1, .iaload, .aload 0, .sipush 0, .iaload, .isub, .aload 1, .sipush 1, .iaload, .aload 1, .sipush 0, .iaload, .isub, .invokestatic 182184, .istore 3, .aload 0, .sipush 1, .iaload, .aload 0, .sipush 0, .iaload, .isub, .aload 1, .sipush 2, .iaload, .aload 1, .sipush 0, .iaload, .isub, .imul, .aload 0, .sipush 2, .iaload, .aload 0, .sipush 0, .iaload, .isub, .aload 1, .sipush 1, .iaload, .aload 1, .sipush 0, .iaload, .isub, .imul, .isub, .invokestatic 589962, .istore 4, .iload 2, .ifCond .ne 65, .iload 3, .sipush 1, .iadd, .ireturn, .iload 2, .sipush 2, .if_icmp .eq 70, .iload 4, .ifCond .ne 72, .iload 4, .ireturn, .iload 3, .aload 0, .sipush 2, .iaload, .aload 0, .sipush 1, .iaload, .isub, .aload 1, .sipush 2, .iaload, .aload 1, .sipush 1, .iaload, .isub, .invokestatic 182184, .iadd, .aload 0, .sipush 0, .iaload, .aload 0, .sipush 2, .iaload, .isub, .aload 1, .sipush 0, .iaload, .aload 1, .sipush 2, .iaload, .isub, .invokestatic 182184, .iadd, .istore 5, .iload 4, .iload 5, .isub, .sipush 2, .iadd, .sipush 2, .idiv, .ireturn]
def kr_96 : List (Nat × Nat × Nat × Nat) := [(0, 0, 0, 1), (1, 0, 0, 1), (2, 0, 0, 1), (3, 0, 0, 3), (6, 0, 0, 1), (7, 0, 0, 1), (8, 0, 0, 1), (9, 0, 0, 3), (12, 0, 0, 1), (13, 0, 0, 1), (14, 0, 0, 1), (15, 0, 0, 1), (16, 0, 0, 1), (17, 0, 0, 1), (18, 0, 0, 1), (19, 0, 0, 1), (20, 0, 0, 1), (21, 0, 0, 1), (22, 0, 0, 1), (23, 0, 0, 1), (24, 0, 0, 1), (25, 0, 0, 1), (26, 0, 0, 1), (27, 0, 0, 1), (28, 902, 46, 3), (31, 0, 0, 1), (32, 0, 0, 1), (33, 0, 0, 1), (34, 0, 0, 1), (35, 0, 0, 1), (36, 0, 0, 1), (37, 0, 0, 1), (38, 0, 0, 1), (39, 0, 0, 1), (40, 0, 0, 1), (41, 0, 0, 1), (42, 0, 0, 1), (43, 0, 0, 1), (44, 0, 0, 1), (45, 0, 0, 1), (46, 0, 0, 1), (47, 0, 0, 1), (48, 0, 0, 1), (49, 0, 0, 1), (50, 0, 0, 1), (51, 0, 0, 1), (52, 0, 0, 1), (53, 0, 0, 1), (54, 0, 0, 1), (55, 0, 0, 1), (56, 0, 0, 1), (57, 0, 0, 1), (58, 0, 0, 1), (59, 0, 0, 1), (60, 0, 0, 1), (61, 0, 0, 1), (62, 0, 0, 1), (63, 905, 50, 3), (66, 0, 0, 2), (68, 0, 0, 1), (69, 0, 0, 3), (72, 0, 0, 1), (73, 0, 0, 1), (74, 0, 0, 1), (75, 0, 0, 1), (76, 0, 0, 1), (77, 0, 0, 1), (78, 0, 0, 3), (81, 0, 0, 2), (83, 0, 0, 3), (86, 0, 0, 2), (88, 0, 0, 1), (89, 0, 0, 1), (90, 0, 0, 1), (91, 0, 0, 1), (92, 0, 0, 1), (93, 0, 0, 1), (94, 0, 0, 1), (95, 0, 0, 1), (96, 0, 0, 1), (97, 0, 0, 1), (98, 0, 0, 1), (99, 0, 0, 1), (100, 0, 0, 1), (101, 0, 0, 1), (102, 0, 0, 1), (103, 0, 0, 1), (104, 902, 46, 3), (107, 0, 0, 1), (108, 0, 0, 1), (109, 0, 0, 1), (110, 0, 0, 1), (111, 0, 0, 1), (112, 0, 0, 1), (113, 0, 0, 1), (114, 0, 0, 1), (115, 0, 0, 1), (116, 0, 0, 1), (117, 0, 0, 1), (118, 0, 0, 1), (119, 0, 0, 1), (120, 0, 0, 1), (121, 0, 0, 1), (122, 902, 46, 3), (125, 0, 0, 1), (126, 0, 0, 2), (128, 0, 0, 2), (130, 0, 0, 2), (132, 0, 0, 1), (133, 0, 0, 1), (134, 0, 0, 1), (135, 0, 0, 1), (136, 0, 0, 1), (137, 0, 0, 1)]
/-- QuillDesk$Thought.cutPlank(LQuillDesk$Row;II)I -/
def kc_97 : List Instr := [.aload 0, .aload 1, .iload 2, .invokevirtual 196184, .istore 4, .sipush (-1), .istore 5, .sipush 1, .istore 6, .iload 6, .iload 4, .if_icmp .gt 90, .sipush 0, .istore 7, .iload 7, .iload 6, .iadd, .iload 4, .if_icmp .gt 88, .iload 7, .iload 6, .iadd, .istore 8, .iload 6, .sipush 1, .if_icmp .ne 28, .sipush 0, .goto 29, .sipush 1000000, .istore 9, .iload 7, .sipush 1, .iadd, .istore 10, .iload 10, .iload 8, .if_icmp .ge 77, .aload 0, .checkcast 2314, .iload 7, .sipush 9, .imul, .iload 10, .iadd, .iaload, .aload 0, .checkcast 2314, .iload 10, .sipush 9, .imul, .iload 8, .iadd, .iaload, .iadd, .aload 0, .checkcast 2304, .iload 8, .iaload, .iadd, .aload 0, .checkcast 2304, .iload 7, .iaload, .isub, .istore 11, .iload 11, .iload 9, .if_icmp .ge 75, .iload 11, .istore 9, .aload 0, .checkcast 2304, .iload 10, .iaload, .istore 5, .iinc 10 1, .goto 34, .aload 0, .checkcast 2314, .iload 7, .sipush 9, .imul, .iload 8, .iadd, .iload 9, .iastore, .iinc 7 1, .goto 14, .iinc 6 1, .goto 9, .iload 4, .sipush 2, .if_icmp .ge 99, .iload 3, .ifCond .ne 97, .sipush 0, .goto 98, .sipush (-1), .ireturn, .iload 3, .ifCond .ne 106, .aload 0, .checkcast 2314, .iload 4, .iaload, .goto 107, .iload 5, .ireturn]
def kr_97 : List (Nat × Nat × Nat × Nat) := [(0, 0, 0, 1), (1, 0, 0, 1), (2, 0, 0, 1), (3, 968, 66, 3), (6, 0, 0, 2), (8, 0, 0, 1), (9, 0, 0, 2), (11, 0, 0, 1), (12, 0, 0, 2), (14, 0, 0, 2), (16, 0, 0, 2), (18, 0, 0, 3), (21, 0, 0, 1), (22, 0, 0, 2), (24, 0, 0, 2), (26, 0, 0, 2), (28, 0, 0, 1), (29, 0, 0, 2), (31, 0, 0, 3), (34, 0, 0, 2), (36, 0, 0, 2), (38, 0, 0, 1), (39, 0, 0, 2), (41, 0, 0, 2), (43, 0, 0, 1), (44, 0, 0, 3), (47, 0, 0, 1), (48, 0, 0, 3), (51, 889, 42, 2), (53, 0, 0, 2), (55, 0, 0, 2), (57, 0, 0, 1), (58, 0, 0, 1), (59, 0, 0, 2), (61, 0, 0, 2), (63, 0, 0, 2), (65, 0, 0, 3), (68, 0, 0, 1), (69, 389, 27, 3), (72, 0, 0, 2), (74, 0, 0, 2), (76, 0, 0, 1), (77, 0, 0, 2), (79, 0, 0, 1), (80, 0, 0, 1), (81, 0, 0, 1), (82, 389, 27, 3), (85, 0, 0, 2), (87, 0, 0, 2), (89, 0, 0, 1), (90, 0, 0, 2), (92, 0, 0, 1), (93, 0, 0, 1), (94, 0, 0, 1), (95, 0, 0, 1), (96, 383, 9, 3), (99, 0, 0, 2), (101, 0, 0, 1), (102, 0, 0, 1), (103, 0, 0, 1), (104, 383, 9, 3), (107, 0, 0, 2), (109, 0, 0, 1), (110, 0, 0, 1), (111, 0, 0, 2), (113, 0, 0, 2), (115, 0, 0, 2), (117, 0, 0, 3), (120, 0, 0, 2), (122, 0, 0, 2), (124, 0, 0, 1), (125, 383, 9, 3), (128, 0, 0, 2), (130, 0, 0, 1), (131, 0, 0, 2), (133, 0, 0, 3), (136, 0, 0, 3), (139, 0, 0, 1), (140, 389, 27, 3), (143, 0, 0, 2), (145, 0, 0, 2), (147, 0, 0, 1), (148, 0, 0, 2), (150, 0, 0, 1), (151, 0, 0, 2), (153, 0, 0, 1), (154, 0, 0, 3), (157, 0, 0, 3), (160, 0, 0, 3), (163, 0, 0, 3), (166, 0, 0, 2), (168, 0, 0, 1), (169, 0, 0, 3), (172, 0, 0, 1), (173, 0, 0, 3), (176, 0, 0, 1), (177, 0, 0, 3), (180, 0, 0, 1), (181, 0, 0, 1), (182, 0, 0, 1), (183, 0, 0, 3), (186, 0, 0, 1), (187, 389, 27, 3), (190, 0, 0, 2), (192, 0, 0, 1), (193, 0, 0, 3), (196, 0, 0, 2), (198, 0, 0, 1)]
/-- QuillDesk$Thought.markPlaces(LQuillDesk$Row;I)I -/
def kc_98 : List Instr := [.sipush 0, .istore 3, .aload 0, .checkcast 2304, .sipush 0, .sipush 0, .iastore, .sipush 1, .istore 4, .iload 4, .iload 2, .if_icmp .ge 27, .iload 3, .sipush 7, .if_icmp .ge 27, .aload 1, .iload 4, .invokevirtual 160142, .ifCond .eq 25, .iinc 3 1, .aload 0, .checkcast 2304, .iload 3, .iload 4, .iastore, .iinc 4 1, .goto 9, .iinc 3 1, .aload 0, .checkcast 2304, .iload 3, .iload 2, .iastore, .iload 3, .ireturn]
def kr_98 : List (Nat × Nat × Nat × Nat) := [(0, 0, 0, 1), (1, 0, 0, 1), (2, 0, 0, 1), (3, 383, 9, 3), (6, 0, 0, 1), (7, 0, 0, 1), (8, 0, 0, 1), (9, 0, 0, 1), (10, 0, 0, 2), (12, 0, 0, 2), (14, 0, 0, 1), (15, 0, 0, 3), (18, 0, 0, 1), (19, 0, 0, 2), (21, 0, 0, 3), (24, 0, 0, 1), (25, 0, 0, 2), (27, 972, 70, 3), (30, 0, 0, 3), (33, 0, 0, 3), (36, 0, 0, 1), (37, 383, 9, 3), (40, 0, 0, 1), (41, 0, 0, 2), (43, 0, 0, 1), (44, 0, 0, 3), (47, 0, 0, 3), (50, 0, 0, 3), (53, 0, 0, 1), (54, 383, 9, 3), (57, 0, 0, 1), (58, 0, 0, 1), (59, 0, 0, 1), (60, 0, 0, 1), (61, 0, 0, 1)]
/-- QuillDesk$Thought.compareFrom(LQuillDesk$Row;III)I -/
def kc_99 : List Instr := [.sipush 0, .istore 4, .iload 4, .iload 3, .if_icmp .ge 23, .aload 0, .iload 1, .iload 4, .iadd, .invokevirtual 164142, .aload 0, .iload 2, .iload 4, .iadd, .invokevirtual 164142, .isub, .istore 5, .iload 5, .ifCond .eq 21, .iload 5, .ireturn, .iinc 4 1, .goto 2, .sipush 0, .ireturn]
def kr_99 : List (Nat × Nat × Nat × Nat) := [(0, 0, 0, 1), (1, 0, 0, 2), (3, 0, 0, 2), (5, 0, 0, 1), (6, 0, 0, 3), (9, 0, 0, 1), (10, 0, 0, 1), (11, 0, 0, 2), (13, 0, 0, 1), (14, 987, 73, 3), (17, 0, 0, 1), (18, 0, 0, 1), (19, 0, 0, 2), (21, 0, 0, 1), (22, 987, 73, 3), (25, 0, 0, 1), (26, 0, 0, 2), (28, 0, 0, 2), (30, 0, 0, 3), (33, 0, 0, 2), (35, 0, 0, 1), (36, 0, 0, 3), (39, 0, 0, 3), (42, 0, 0, 1), (43, 0, 0, 1)]
/-- QuillDesk$Thought.leastPlace(LQuillDesk$Row;)I -/
def kc_100 : List Instr := [.sipush 0, .istore 1, .sipush 1, .istore 2, .iload 2, .aload 0, .getfield 1796, .if_icmp .ge 19, .aload 0, .iload 2, .iload 1, .aload 0, .getfield 1796, .invokestatic 198188, .ifCond .ge 17, .iload 2, .istore 1, .iinc 2 1, .goto 4, .iload 1, .ireturn]
def kr_100 : List (Nat × Nat × Nat × Nat) := [(0, 0, 0, 1), (1, 0, 0, 1), (2, 0, 0, 1), (3, 0, 0, 1), (4, 0, 0, 1), (5, 0, 0, 1), (6, 233, 36, 3), (9, 0, 0, 3), (12, 0, 0, 1), (13, 0, 0, 1), (14, 0, 0, 1), (15, 0, 0, 1), (16, 233, 36, 3), (19, 984, 76, 3), (22, 0, 0, 3), (25, 0, 0, 1), (26, 0, 0, 1), (27, 0, 0, 3), (30, 0, 0, 3), (33, 0, 0, 1), (34, 0, 0, 1)]
/-- QuillDesk$Thought.sameAgain(LQuillDesk$Row;)I -/
def kc_101 : List Instr := [.sipush 1, .istore 1, .iload 1, .aload 0, .getfield 1796, .if_icmp .ge 17, .aload 0, .iload 1, .sipush 0, .aload 0, .getfield 1796, .invokestatic 198188, .ifCond .ne 15, .iload 1, .ireturn, .iinc 1 1, .goto 2, .aload 0, .getfield 1796, .ireturn]
def kr_101 : List (Nat × Nat × Nat × Nat) := [(0, 0, 0, 1), (1, 0, 0, 1), (2, 0, 0, 1), (3, 0, 0, 1), (4, 233, 36, 3), (7, 0, 0, 3), (10, 0, 0, 1), (11, 0, 0, 1), (12, 0, 0, 1), (13, 0, 0, 1), (14, 233, 36, 3), (17, 984, 76, 3), (20, 0, 0, 3), (23, 0, 0, 1), (24, 0, 0, 1), (25, 0, 0, 3), (28, 0, 0, 3), (31, 0, 0, 1), (32, 233, 36, 3), (35, 0, 0, 1)]
/-- QuillDesk$Thought.unlikeRows(LQuillDesk$Row;I)I -/
def kc_102 : List Instr := [.iload 1, .ifCond .ne 4, .sipush 1, .ireturn, .sipush 0, .istore 2, .sipush 0, .istore 3, .iload 3, .aload 0, .getfield 1796, .if_icmp .ge 43, .sipush 0, .istore 4, .sipush 0, .istore 5, .iload 5, .iload 3, .if_icmp .ge 33, .iload 4, .ifCond .ne 33, .aload 0, .iload 3, .iload 5, .iload 1, .invokestatic 198188, .ifCond .ne 29, .sipush 1, .goto 30, .sipush 0, .istore 4, .iinc 5 1, .goto 16, .iload 2, .iload 4, .ifCond .eq 38, .sipush 0, .goto 39, .sipush 1, .iadd, .istore 2, .iinc 3 1, .goto 8, .iload 2, .ireturn]
def kr_102 : List (Nat × Nat × Nat × Nat) := [(0, 0, 0, 1), (1, 0, 0, 3), (4, 0, 0, 1), (5, 0, 0, 1), (6, 0, 0, 1), (7, 0, 0, 1), (8, 0, 0, 1), (9, 0, 0, 1), (10, 0, 0, 1), (11, 0, 0, 1), (12, 233, 36, 3), (15, 0, 0, 3), (18, 0, 0, 1), (19, 0, 0, 2), (21, 0, 0, 1), (22, 0, 0, 2), (24, 0, 0, 2), (26, 0, 0, 1), (27, 0, 0, 3), (30, 0, 0, 2), (32, 0, 0, 3), (35, 0, 0, 1), (36, 0, 0, 1), (37, 0, 0, 2), (39, 0, 0, 1), (40, 984, 76, 3), (43, 0, 0, 3), (46, 0, 0, 1), (47, 0, 0, 3), (50, 0, 0, 1), (51, 0, 0, 2), (53, 0, 0, 3), (56, 0, 0, 3), (59, 0, 0, 1), (60, 0, 0, 2), (62, 0, 0, 3), (65, 0, 0, 1), (66, 0, 0, 3), (69, 0, 0, 1), (70, 0, 0, 1), (71, 0, 0, 1), (72, 0, 0, 3), (75, 0, 0, 3), (78, 0, 0, 1), (79, 0, 0, 1)]
/-- QuillDesk$Thought.sail(LQuillDesk$Row;I)I -/
def kc_103 : List Instr := [.sipush 0, .istore 2, .sipush 0, .istore 3, .sipush 0, .istore 4, .sipush 0, .istore 5, .iload 5, .aload 0, .getfield 1796, .if_icmp .ge 58, .aload 0, .checkcast 1792, .iload 5, .iaload, .ifCond .le 19, .sipush 1, .goto 20, .sipush (-1), .istore 6, .aload 0, .checkcast 1792, .iload 5, .iaload, .invokestatic 589962, .istore 7, .iload 7, .ifCond .le 56, .iload 2, .iload 6, .iadd, .istore 2, .iload 2, .sipush 180, .if_icmp .lt 40, .sipush (-180), .istore 2, .iinc 3 1, .goto 46, .iload 2, .sipush (-180), .if_icmp .ge 46, .sipush 179, .istore 2, .iinc 3 (-1), .iload 4, .iload 2, .ifCond .ne 51, .sipush 1, .goto 52, .sipush 0, .iadd, .istore 4, .iinc 7 (-1), .goto 27, .iinc 5 1, .goto 8, .iload 1, .ifCond .ne 62, .iload 2, .ireturn, .iload 1, .sipush 1, .if_icmp .ne 67, .iload 3, .goto 68, .iload 4, .ireturn]
def kr_103 : List (Nat × Nat × Nat × Nat) := [(0, 0, 0, 1), (1, 0, 0, 1), (2, 0, 0, 1), (3, 0, 0, 1), (4, 0, 0, 1), (5, 0, 0, 2), (7, 0, 0, 1), (8, 0, 0, 2), (10, 0, 0, 2), (12, 0, 0, 1), (13, 233, 36, 3), (16, 0, 0, 3), (19, 0, 0, 1), (20, 230, 43, 3), (23, 0, 0, 2), (25, 0, 0, 1), (26, 0, 0, 3), (29, 0, 0, 1), (30, 0, 0, 3), (33, 0, 0, 1), (34, 0, 0, 2), (36, 0, 0, 1), (37, 230, 43, 3), (40, 0, 0, 2), (42, 0, 0, 1), (43, 905, 50, 3), (46, 0, 0, 2), (48, 0, 0, 2), (50, 0, 0, 3), (53, 0, 0, 1), (54, 0, 0, 2), (56, 0, 0, 1), (57, 0, 0, 1), (58, 0, 0, 1), (59, 0, 0, 3), (62, 0, 0, 3), (65, 0, 0, 3), (68, 0, 0, 1), (69, 0, 0, 3), (72, 0, 0, 3), (75, 0, 0, 1), (76, 0, 0, 3), (79, 0, 0, 3), (82, 0, 0, 3), (85, 0, 0, 1), (86, 0, 0, 3), (89, 0, 0, 2), (91, 0, 0, 1), (92, 0, 0, 3), (95, 0, 0, 1), (96, 0, 0, 3), (99, 0, 0, 1), (100, 0, 0, 1), (101, 0, 0, 2), (103, 0, 0, 3), (106, 0, 0, 3), (109, 0, 0, 3), (112, 0, 0, 3), (115, 0, 0, 1), (116, 0, 0, 3), (119, 0, 0, 1), (120, 0, 0, 1), (121, 0, 0, 1), (122, 0, 0, 1), (123, 0, 0, 3), (126, 0, 0, 1), (127, 0, 0, 3), (130, 0, 0, 2), (132, 0, 0, 1)]
/-- QuillDesk$Thought.mirror(II)I -/
def kc_104 : List Instr := [.sipush 0, .istore 2, .sipush 0, .istore 3, .iload 3, .iload 1, .if_icmp .ge 19, .iload 2, .sipush 1, .ishl, .iload 0, .iload 3, .ishr, .sipush 1, .iand, .ior, .istore 2, .iinc 3 1, .goto 4, .iload 2, .ireturn]
def kr_104 : List (Nat × Nat × Nat × Nat) := [(0, 0, 0, 1), (1, 0, 0, 1), (2, 0, 0, 1), (3, 0, 0, 1), (4, 0, 0, 1), (5, 0, 0, 1), (6, 0, 0, 3), (9, 0, 0, 1), (10, 0, 0, 1), (11, 0, 0, 1), (12, 0, 0, 1), (13, 0, 0, 1), (14, 0, 0, 1), (15, 0, 0, 1), (16, 0, 0, 1), (17, 0, 0, 1), (18, 0, 0, 1), (19, 0, 0, 3), (22, 0, 0, 3), (25, 0, 0, 1), (26, 0, 0, 1)]
/-- QuillDesk$Thought.countMirrored(II)I -/
def kc_105 : List Instr := [.iload 1, .sipush 2, .idiv, .istore 2, .sipush 0, .istore 3, .sipush 0, .istore 4, .iload 4, .sipush 1, .iload 1, .iload 2, .isub, .ishl, .if_icmp .ge 36, .iload 4, .iload 2, .ishl, .iload 4, .iload 2, .ishl, .iload 1, .invokestatic 208184, .ior, .istore 5, .iload 3, .iload 5, .iload 0, .if_icmp .gt 31, .sipush 1, .goto 32, .sipush 0, .iadd, .istore 3, .iinc 4 1, .goto 8, .iload 3, .ireturn]
def kr_105 : List (Nat × Nat × Nat × Nat) := [(0, 0, 0, 1), (1, 0, 0, 1), (2, 0, 0, 1), (3, 0, 0, 1), (4, 0, 0, 1), (5, 0, 0, 1), (6, 0, 0, 1), (7, 0, 0, 2), (9, 0, 0, 2), (11, 0, 0, 1), (12, 0, 0, 1), (13, 0, 0, 1), (14, 0, 0, 1), (15, 0, 0, 1), (16, 0, 0, 3), (19, 0, 0, 2), (21, 0, 0, 1), (22, 0, 0, 1), (23, 0, 0, 2), (25, 0, 0, 1), (26, 0, 0, 1), (27, 0, 0, 1), (28, 1019, 80, 3), (31, 0, 0, 1), (32, 0, 0, 2), (34, 0, 0, 1), (35, 0, 0, 2), (37, 0, 0, 1), (38, 0, 0, 3), (41, 0, 0, 1), (42, 0, 0, 3), (45, 0, 0, 1), (46, 0, 0, 1), (47, 0, 0, 1), (48, 0, 0, 3), (51, 0, 0, 3), (54, 0, 0, 1), (55, 0, 0, 1)]
/-- QuillDesk$Thought.countOut(LQuillDesk$Row;II)I -/
def kc_106 : List Instr := [.iload 2, .sipush 1, .if_icmp .le 6, .iload 2, .sipush 40, .if_icmp .le 12, .iload 3, .ifCond .ne 10, .sipush 0, .goto 11, .sipush (-1), .ireturn, .sipush 0, .istore 4, .iload 4, .iload 2, .if_icmp .ge 24, .aload 0, .checkcast 2312, .iload 4, .sipush 1, .iastore, .iinc 4 1, .goto 14, .sipush 0, .istore 4, .sipush (-1), .istore 5, .iload 2, .istore 6, .iload 6, .sipush 1, .if_icmp .le 73, .aload 1, .getfield 1796, .ifCond .le 40, .aload 1, .iload 4, .invokevirtual 164142, .goto 41, .sipush 1, .istore 7, .iload 4, .istore 8, .sipush 0, .istore 9, .iload 9, .iload 7, .if_icmp .ge 56, .aload 0, .iload 8, .iload 2, .invokevirtual 214184, .istore 8, .iinc 9 1, .goto 46, .aload 0, .checkcast 2312, .iload 8, .sipush 0, .iastore, .iload 5, .sipush (-1), .if_icmp .ne 66, .iload 8, .istore 5, .aload 0, .iload 8, .iload 2, .invokevirtual 214184, .istore 4, .iinc 6 (-1), .goto 30, .iload 3, .ifCond .ne 77, .iload 4, .goto 78, .iload 5, .ireturn]
def kr_106 : List (Nat × Nat × Nat × Nat) := [(0, 0, 0, 1), (1, 0, 0, 1), (2, 0, 0, 3), (5, 0, 0, 1), (6, 0, 0, 2), (8, 0, 0, 3), (11, 0, 0, 1), (12, 0, 0, 3), (15, 0, 0, 1), (16, 0, 0, 3), (19, 0, 0, 1), (20, 0, 0, 1), (21, 0, 0, 1), (22, 0, 0, 2), (24, 0, 0, 2), (26, 0, 0, 1), (27, 0, 0, 3), (30, 0, 0, 1), (31, 388, 24, 3), (34, 0, 0, 2), (36, 0, 0, 1), (37, 0, 0, 1), (38, 0, 0, 3), (41, 0, 0, 3), (44, 0, 0, 1), (45, 0, 0, 2), (47, 0, 0, 1), (48, 0, 0, 2), (50, 0, 0, 1), (51, 0, 0, 2), (53, 0, 0, 2), (55, 0, 0, 1), (56, 0, 0, 3), (59, 0, 0, 1), (60, 233, 36, 3), (63, 0, 0, 3), (66, 0, 0, 1), (67, 0, 0, 2), (69, 987, 73, 3), (72, 0, 0, 3), (75, 0, 0, 1), (76, 0, 0, 2), (78, 0, 0, 2), (80, 0, 0, 2), (82, 0, 0, 1), (83, 0, 0, 2), (85, 0, 0, 2), (87, 0, 0, 2), (89, 0, 0, 3), (92, 0, 0, 1), (93, 0, 0, 2), (95, 0, 0, 1), (96, 1032, 83, 3), (99, 0, 0, 2), (101, 0, 0, 3), (104, 0, 0, 3), (107, 0, 0, 1), (108, 388, 24, 3), (111, 0, 0, 2), (113, 0, 0, 1), (114, 0, 0, 1), (115, 0, 0, 2), (117, 0, 0, 1), (118, 0, 0, 3), (121, 0, 0, 2), (123, 0, 0, 2), (125, 0, 0, 1), (126, 0, 0, 2), (128, 0, 0, 1), (129, 1032, 83, 3), (132, 0, 0, 2), (134, 0, 0, 3), (137, 0, 0, 3), (140, 0, 0, 1), (141, 0, 0, 3), (144, 0, 0, 2), (146, 0, 0, 3), (149, 0, 0, 2), (151, 0, 0, 1)]
/-- QuillDesk$Thought.nextThere(II)I -/
def kc_107 : List Instr := [.iload 2, .ifCond .gt 4, .sipush 0, .ireturn, .sipush 1, .istore 3, .iload 3, .iload 2, .if_icmp .gt 30, .iload 1, .iload 3, .iadd, .iload 2, .irem, .istore 4, .iload 4, .ifCond .lt 28, .iload 4, .sipush 40, .if_icmp .ge 28, .aload 0, .checkcast 2312, .iload 4, .iaload, .sipush 1, .if_icmp .ne 28, .iload 4, .ireturn, .iinc 3 1, .goto 6, .sipush 0, .ireturn]
def kr_107 : List (Nat × Nat × Nat × Nat) := [(0, 0, 0, 1), (1, 0, 0, 3), (4, 0, 0, 1), (5, 0, 0, 1), (6, 0, 0, 1), (7, 0, 0, 1), (8, 0, 0, 1), (9, 0, 0, 1), (10, 0, 0, 3), (13, 0, 0, 1), (14, 0, 0, 1), (15, 0, 0, 1), (16, 0, 0, 1), (17, 0, 0, 1), (18, 0, 0, 2), (20, 0, 0, 2), (22, 0, 0, 3), (25, 0, 0, 2), (27, 0, 0, 2), (29, 0, 0, 3), (32, 0, 0, 1), (33, 388, 24, 3), (36, 0, 0, 2), (38, 0, 0, 1), (39, 0, 0, 1), (40, 0, 0, 3), (43, 0, 0, 2), (45, 0, 0, 1), (46, 0, 0, 3), (49, 0, 0, 3), (52, 0, 0, 1), (53, 0, 0, 1)]
/-- QuillDesk$Thought.share(LQuillDesk$Row;I[I)V -/
def kc_108 : List Instr := [.aload 1, .invokevirtual 162140, .istore 4, .iload 4, .ifCond .gt 6, .return_, .iload 2, .istore 5, .sipush 0, .istore 6, .iload 6, .aload 1, .getfield 1796, .if_icmp .ge 45, .aload 3, .iload 6, .iload 2, .aload 1, .checkcast 1792, .iload 6, .iaload, .imul, .iload 4, .idiv, .iastore, .aload 0, .checkcast 2308, .iload 6, .iload 2, .aload 1, .checkcast 1792, .iload 6, .iaload, .imul, .iload 4, .irem, .iastore, .iload 5, .aload 3, .iload 6, .iaload, .isub, .istore 5, .iinc 6 1, .goto 10, .sipush 0, .istore 6, .iload 6, .iload 5, .if_icmp .ge 85, .sipush 0, .istore 7, .sipush 1, .istore 8, .iload 8, .aload 1, .getfield 1796, .if_icmp .ge 71, .aload 0, .checkcast 2308, .iload 8, .iaload, .aload 0, .checkcast 2308, .iload 7, .iaload, .if_icmp .le 69, .iload 8, .istore 7, .iinc 8 1, .goto 54, .aload 3, .iload 7, .dup2, .iaload, .sipush 1, .iadd, .iastore, .aload 0, .checkcast 2308, .iload 7, .sipush (-1), .iastore, .iinc 6 1, .goto 47, .return_]
def kr_108 : List (Nat × Nat × Nat × Nat) := [(0, 0, 0, 1), (1, 1052, 86, 3), (4, 0, 0, 2), (6, 0, 0, 2), (8, 0, 0, 3), (11, 0, 0, 1), (12, 0, 0, 1), (13, 0, 0, 2), (15, 0, 0, 1), (16, 0, 0, 2), (18, 0, 0, 2), (20, 0, 0, 1), (21, 233, 36, 3), (24, 0, 0, 3), (27, 0, 0, 1), (28, 0, 0, 2), (30, 0, 0, 1), (31, 0, 0, 1), (32, 230, 43, 3), (35, 0, 0, 2), (37, 0, 0, 1), (38, 0, 0, 1), (39, 0, 0, 2), (41, 0, 0, 1), (42, 0, 0, 1), (43, 0, 0, 1), (44, 386, 18, 3), (47, 0, 0, 2), (49, 0, 0, 1), (50, 0, 0, 1), (51, 230, 43, 3), (54, 0, 0, 2), (56, 0, 0, 1), (57, 0, 0, 1), (58, 0, 0, 2), (60, 0, 0, 1), (61, 0, 0, 1), (62, 0, 0, 2), (64, 0, 0, 1), (65, 0, 0, 2), (67, 0, 0, 1), (68, 0, 0, 1), (69, 0, 0, 2), (71, 0, 0, 3), (74, 0, 0, 3), (77, 0, 0, 1), (78, 0, 0, 2), (80, 0, 0, 2), (82, 0, 0, 2), (84, 0, 0, 3), (87, 0, 0, 1), (88, 0, 0, 2), (90, 0, 0, 1), (91, 0, 0, 2), (93, 0, 0, 2), (95, 0, 0, 1), (96, 233, 36, 3), (99, 0, 0, 3), (102, 0, 0, 1), (103, 386, 18, 3), (106, 0, 0, 2), (108, 0, 0, 1), (109, 0, 0, 1), (110, 386, 18, 3), (113, 0, 0, 2), (115, 0, 0, 1), (116, 0, 0, 3), (119, 0, 0, 2), (121, 0, 0, 2), (123, 0, 0, 3), (126, 0, 0, 3), (129, 0, 0, 1), (130, 0, 0, 2), (132, 0, 0, 1), (133, 0, 0, 1), (134, 0, 0, 1), (135, 0, 0, 1), (136, 0, 0, 1), (137, 0, 0, 1), (138, 386, 18, 3), (141, 0, 0, 2), (143, 0, 0, 1), (144, 0, 0, 1), (145, 0, 0, 3), (148, 0, 0, 3), (151, 0, 0, 1)]
/-- QuillDesk$Thought.shareOf(LQuillDesk$Row;II)I -/
def kc_109 : List Instr := [.aload 0, .aload 1, .iload 2, .aload 0, .checkcast 2304, .invokevirtual 216187, .iload 3, .ifCond .lt 17, .iload 3, .aload 1, .getfield 1796, .if_icmp .ge 17, .aload 0, .checkcast 2304, .iload 3, .iaload, .goto 18, .sipush (-1), .ireturn]
def kr_109 : List (Nat × Nat × Nat × Nat) := [(0, 0, 0, 1), (1, 0, 0, 1), (2, 0, 0, 1), (3, 0, 0, 1), (4, 383, 9, 3), (7, 1048, 90, 3), (10, 0, 0, 1), (11, 0, 0, 3), (14, 0, 0, 1), (15, 0, 0, 1), (16, 233, 36, 3), (19, 0, 0, 3), (22, 0, 0, 1), (23, 383, 9, 3), (26, 0, 0, 1), (27, 0, 0, 1), (28, 0, 0, 3), (31, 0, 0, 1), (32, 0, 0, 1)]
/-- QuillDesk$Thought.whoLoses(LQuillDesk$Row;I)I -/
def kc_110 : List Instr := [.aload 0, .aload 1, .iload 2, .aload 0, .checkcast 2304, .invokevirtual 216187, .aload 0, .aload 1, .iload 2, .sipush 1, .iadd, .aload 0, .checkcast 2306, .invokevirtual 216187, .sipush 0, .istore 3, .iload 3, .aload 1, .getfield 1796, .if_icmp .ge 33, .aload 0, .checkcast 2306, .iload 3, .iaload, .aload 0, .checkcast 2304, .iload 3, .iaload, .if_icmp .ge 31, .iload 3, .ireturn, .iinc 3 1, .goto 16, .sipush (-1), .ireturn]
def kr_110 : List (Nat × Nat × Nat × Nat) := [(0, 0, 0, 1), (1, 0, 0, 1), (2, 0, 0, 1), (3, 0, 0, 1), (4, 383, 9, 3), (7, 1048, 90, 3), (10, 0, 0, 1), (11, 0, 0, 1), (12, 0, 0, 1), (13, 0, 0, 1), (14, 0, 0, 1), (15, 0, 0, 1), (16, 385, 15, 3), (19, 1048, 90, 3), (22, 0, 0, 1), (23, 0, 0, 1), (24, 0, 0, 1), (25, 0, 0, 1), (26, 233, 36, 3), (29, 0, 0, 3), (32, 0, 0, 1), (33, 385, 15, 3), (36, 0, 0, 1), (37, 0, 0, 1), (38, 0, 0, 1), (39, 383, 9, 3), (42, 0, 0, 1), (43, 0, 0, 1), (44, 0, 0, 3), (47, 0, 0, 1), (48, 0, 0, 1), (49, 0, 0, 3), (52, 0, 0, 3), (55, 0, 0, 1), (56, 0, 0, 1)]
/-- QuillDesk.<init>()V -/
def kc_111 : List Instr := [.aload 0, .monitorexit, .aload 0, .new 2, .dup, .invokespecial 16041, .putstatic 2560, .aload 0, .new 2, .dup, .invokespecial 16041, .putstatic 2562, .aload 0, .sipush 0, .putfield 2565, .aload 0, .new 5, .dup, .invokespecial 94101, .putstatic 2566, .aload 0, .new 3, .dup, .invokespecial 40061, .putstatic 2568, .aload 0, .new 6, .dup, .invokespecial 102121, .putstatic 2570, .aload 0, .new 9, .dup, .invokespecial 174181, .putstatic 2572, .aload 0, .new 1, .dup, .invokespecial 6021, .putstatic 2574, .return_]
def kr_111 : List (Nat × Nat × Nat × Nat) := [(0, 0, 0, 1), (1, 25, 3, 3), (4, 0, 0, 1), (5, 28, 9, 3), (8, 0, 0, 1), (9, 30, 11, 3), (12, 416, 12, 3), (15, 0, 0, 1), (16, 28, 9, 3), (19, 0, 0, 1), (20, 30, 11, 3), (23, 417, 16, 3), (26, 0, 0, 1), (27, 0, 0, 1), (28, 418, 19, 3), (31, 0, 0, 1), (32, 303, 23, 3), (35, 0, 0, 1), (36, 305, 25, 3), (39, 419, 26, 3), (42, 0, 0, 1), (43, 326, 30, 3), (46, 0, 0, 1), (47, 327, 32, 3), (50, 420, 33, 3), (53, 0, 0, 1), (54, 328, 37, 3), (57, 0, 0, 1), (58, 330, 39, 3), (61, 421, 40, 3), (64, 0, 0, 1), (65, 377, 44, 3), (68, 0, 0, 1), (69, 379, 46, 3), (72, 422, 47, 3), (75, 0, 0, 1), (76, 403, 51, 3), (79, 0, 0, 1), (80, 405, 53, 3), (83, 423, 54, 3), (86, 0, 0, 1)]
/-- QuillDesk.state(I)I -/
def kc_112 : List Instr := [.aload 0, .checkcast 2560, .checkcast 512, .getfield 768, .istore 2, .aload 0, .checkcast 2560, .checkcast 512, .iload 1, .putfield 768, .aload 0, .checkcast 2566, .invokevirtual 100101, .iload 2, .ireturn]
def kr_112 : List (Nat × Nat × Nat × Nat) := [(0, 0, 0, 1), (1, 416, 12, 3), (4, 243, 58, 3), (7, 41, 61, 3), (10, 0, 0, 1), (11, 0, 0, 1), (12, 416, 12, 3), (15, 243, 58, 3), (18, 0, 0, 1), (19, 41, 61, 3), (22, 0, 0, 1), (23, 419, 26, 3), (26, 445, 65, 3), (29, 0, 0, 1), (30, 0, 0, 1)]
/-- QuillDesk.quill(II)I -/
def kc_113 : List Instr := [.aload 0, .checkcast 2560, .checkcast 512, .astore 3, .aload 3, .getfield 774, .istore 4, .iload 1, .sipush 0, .sipush 7, .invokestatic 312206, .ifCond .eq 22, .iload 2, .sipush 0, .sipush 99, .invokestatic 312206, .ifCond .eq 22, .iload 4, .ifCond .lt 22, .iload 4, .sipush 14, .if_icmp .lt 24, .sipush (-1), .ireturn, .aload 3, .checkcast 780, .iload 4, .iload 1, .iastore, .aload 3, .checkcast 782, .iload 4, .iload 2, .iastore, .aload 3, .checkcast 784, .iload 4, .sipush 0, .iastore, .aload 3, .checkcast 786, .iload 4, .sipush 0, .iastore, .aload 3, .iload 4, .sipush 1, .iadd, .putfield 774, .aload 0, .checkcast 2566, .invokevirtual 100101, .iload 4, .ireturn]
def kr_113 : List (Nat × Nat × Nat × Nat) := [(0, 0, 0, 1), (1, 416, 12, 3), (4, 243, 58, 3), (7, 0, 0, 1), (8, 0, 0, 1), (9, 49, 68, 3), (12, 0, 0, 2), (14, 0, 0, 1), (15, 0, 0, 1), (16, 0, 0, 2), (18, 453, 71, 3), (21, 0, 0, 3), (24, 0, 0, 1), (25, 0, 0, 1), (26, 0, 0, 2), (28, 453, 71, 3), (31, 0, 0, 3), (34, 0, 0, 2), (36, 0, 0, 3), (39, 0, 0, 2), (41, 0, 0, 2), (43, 0, 0, 3), (46, 0, 0, 1), (47, 0, 0, 1), (48, 0, 0, 1), (49, 60, 75, 3), (52, 0, 0, 2), (54, 0, 0, 1), (55, 0, 0, 1), (56, 0, 0, 1), (57, 63, 79, 3), (60, 0, 0, 2), (62, 0, 0, 1), (63, 0, 0, 1), (64, 0, 0, 1), (65, 66, 82, 3), (68, 0, 0, 2), (70, 0, 0, 1), (71, 0, 0, 1), (72, 0, 0, 1), (73, 69, 85, 3), (76, 0, 0, 2), (78, 0, 0, 1), (79, 0, 0, 1), (80, 0, 0, 1), (81, 0, 0, 2), (83, 0, 0, 1), (84, 0, 0, 1), (85, 49, 68, 3), (88, 0, 0, 1), (89, 419, 26, 3), (92, 445, 65, 3), (95, 0, 0, 2), (97, 0, 0, 1)]
/-- QuillDesk.clerk(I)I -/
def kc_114 : List Instr := [.aload 0, .checkcast 2560, .checkcast 512, .astore 2, .aload 2, .getfield 776, .istore 3, .iload 1, .sipush 0, .sipush 9, .invokestatic 312206, .ifCond .eq 17, .iload 3, .ifCond .lt 17, .iload 3, .sipush 10, .if_icmp .lt 19, .sipush (-1), .ireturn, .aload 2, .checkcast 788, .iload 3, .iload 1, .iastore, .aload 2, .checkcast 790, .iload 3, .sipush (-1), .iastore, .aload 2, .checkcast 792, .iload 3, .sipush (-1), .iastore, .aload 2, .checkcast 794, .iload 3, .sipush 0, .iastore, .aload 2, .checkcast 796, .iload 3, .sipush 0, .iastore, .aload 2, .iload 3, .sipush 1, .iadd, .putfield 776, .aload 0, .checkcast 2566, .invokevirtual 100101, .iload 3, .ireturn]
def kr_114 : List (Nat × Nat × Nat × Nat) := [(0, 0, 0, 1), (1, 416, 12, 3), (4, 243, 58, 3), (7, 0, 0, 1), (8, 0, 0, 1), (9, 52, 88, 3), (12, 0, 0, 1), (13, 0, 0, 1), (14, 0, 0, 1), (15, 0, 0, 2), (17, 453, 71, 3), (20, 0, 0, 3), (23, 0, 0, 1), (24, 0, 0, 3), (27, 0, 0, 1), (28, 0, 0, 2), (30, 0, 0, 3), (33, 0, 0, 1), (34, 0, 0, 1), (35, 0, 0, 1), (36, 72, 91, 3), (39, 0, 0, 1), (40, 0, 0, 1), (41, 0, 0, 1), (42, 0, 0, 1), (43, 75, 94, 3), (46, 0, 0, 1), (47, 0, 0, 1), (48, 0, 0, 1), (49, 0, 0, 1), (50, 78, 97, 3), (53, 0, 0, 1), (54, 0, 0, 1), (55, 0, 0, 1), (56, 0, 0, 1), (57, 81, 100, 3), (60, 0, 0, 1), (61, 0, 0, 1), (62, 0, 0, 1), (63, 0, 0, 1), (64, 84, 103, 3), (67, 0, 0, 1), (68, 0, 0, 1), (69, 0, 0, 1), (70, 0, 0, 1), (71, 0, 0, 1), (72, 0, 0, 1), (73, 0, 0, 1), (74, 52, 88, 3), (77, 0, 0, 1), (78, 419, 26, 3), (81, 445, 65, 3), (84, 0, 0, 1), (85, 0, 0, 1)]
/-- QuillDesk.deed(I)I -/
def kc_115 : List Instr := [.aload 0, .checkcast 2560, .checkcast 512, .astore 2, .aload 2, .getfield 778, .istore 3, .iload 1, .sipush 1, .sipush 99, .invokestatic 312206, .ifCond .eq 17, .iload 3, .ifCond .lt 17, .iload 3, .sipush 12, .if_icmp .lt 19, .sipush (-1), .ireturn, .aload 2, .checkcast 798, .iload 3, .iload 1, .iastore, .aload 2, .checkcast 800, .iload 3, .sipush 0, .iastore, .aload 2, .checkcast 802, .iload 3, .sipush (-1), .iastore, .aload 2, .iload 3, .sipush 1, .iadd, .putfield 778, .aload 0, .checkcast 2566, .invokevirtual 100101, .iload 3, .ireturn]
def kr_115 : List (Nat × Nat × Nat × Nat) := [(0, 0, 0, 1), (1, 416, 12, 3), (4, 243, 58, 3), (7, 0, 0, 1), (8, 0, 0, 1), (9, 56, 106, 3), (12, 0, 0, 1), (13, 0, 0, 1), (14, 0, 0, 1), (15, 0, 0, 2), (17, 453, 71, 3), (20, 0, 0, 3), (23, 0, 0, 1), (24, 0, 0, 3), (27, 0, 0, 1), (28, 0, 0, 2), (30, 0, 0, 3), (33, 0, 0, 1), (34, 0, 0, 1), (35, 0, 0, 1), (36, 87, 109, 3), (39, 0, 0, 1), (40, 0, 0, 1), (41, 0, 0, 1), (42, 0, 0, 1), (43, 89, 112, 3), (46, 0, 0, 1), (47, 0, 0, 1), (48, 0, 0, 1), (49, 0, 0, 1), (50, 92, 115, 3), (53, 0, 0, 1), (54, 0, 0, 1), (55, 0, 0, 1), (56, 0, 0, 1), (57, 0, 0, 1), (58, 0, 0, 1), (59, 0, 0, 1), (60, 56, 106, 3), (63, 0, 0, 1), (64, 419, 26, 3), (67, 445, 65, 3), (70, 0, 0, 1), (71, 0, 0, 1)]
/-- QuillDesk.set(III)Z -/
def kc_116 : List Instr := [.aload 0, .checkcast 2560, .checkcast 512, .astore 4, .iload 1, .ifCond .ne 21, .aload 4, .iload 2, .invokevirtual 44062, .ifCond .eq 21, .iload 3, .sipush 0, .sipush 99, .invokestatic 312206, .ifCond .eq 21, .aload 4, .checkcast 782, .iload 2, .iload 3, .iastore, .goto 59, .iload 1, .sipush 1, .if_icmp .ne 39, .aload 4, .iload 2, .invokevirtual 44062, .ifCond .eq 39, .iload 3, .sipush 0, .sipush 99, .invokestatic 312206, .ifCond .eq 39, .aload 4, .checkcast 784, .iload 2, .iload 3, .iastore, .goto 59, .iload 1, .sipush 2, .if_icmp .ne 57, .aload 4, .iload 2, .invokevirtual 46062, .ifCond .eq 57, .iload 3, .sipush 0, .sipush 9, .invokestatic 312206, .ifCond .eq 57, .aload 4, .checkcast 788, .iload 2, .iload 3, .iastore, .goto 59, .sipush 0, .ireturn, .aload 0, .checkcast 2566, .invokevirtual 100101, .sipush 1, .ireturn]
def kr_116 : List (Nat × Nat × Nat × Nat) := [(0, 0, 0, 1), (1, 416, 12, 3), (4, 243, 58, 3), (7, 0, 0, 2), (9, 0, 0, 1), (10, 0, 0, 3), (13, 0, 0, 2), (15, 0, 0, 1), (16, 468, 118, 3), (19, 0, 0, 3), (22, 0, 0, 1), (23, 0, 0, 1), (24, 0, 0, 2), (26, 453, 71, 3), (29, 0, 0, 3), (32, 0, 0, 2), (34, 63, 79, 3), (37, 0, 0, 1), (38, 0, 0, 1), (39, 0, 0, 1), (40, 0, 0, 3), (43, 0, 0, 1), (44, 0, 0, 1), (45, 0, 0, 3), (48, 0, 0, 2), (50, 0, 0, 1), (51, 468, 118, 3), (54, 0, 0, 3), (57, 0, 0, 1), (58, 0, 0, 1), (59, 0, 0, 2), (61, 453, 71, 3), (64, 0, 0, 3), (67, 0, 0, 2), (69, 66, 82, 3), (72, 0, 0, 1), (73, 0, 0, 1), (74, 0, 0, 1), (75, 0, 0, 3), (78, 0, 0, 1), (79, 0, 0, 1), (80, 0, 0, 3), (83, 0, 0, 2), (85, 0, 0, 1), (86, 472, 122, 3), (89, 0, 0, 3), (92, 0, 0, 1), (93, 0, 0, 1), (94, 0, 0, 2), (96, 453, 71, 3), (99, 0, 0, 3), (102, 0, 0, 2), (104, 72, 91, 3), (107, 0, 0, 1), (108, 0, 0, 1), (109, 0, 0, 1), (110, 0, 0, 3), (113, 0, 0, 1), (114, 0, 0, 1), (115, 0, 0, 1), (116, 419, 26, 3), (119, 445, 65, 3), (122, 0, 0, 1), (123, 0, 0, 1)]
/-- QuillDesk.act(III)Z -/
def kc_117 : List Instr := [.aload 0, .checkcast 2560, .checkcast 512, .astore 4, .aload 4, .iload 1, .iload 2, .iload 3, .invokevirtual 64066, .ifCond .ne 12, .sipush 0, .ireturn, .aload 0, .checkcast 2566, .aload 4, .aload 0, .checkcast 2560, .checkcast 514, .getfield 8, .invokevirtual 96105, .aload 4, .iload 1, .iload 2, .iload 3, .invokevirtual 66067, .sipush 1, .ireturn]
def kr_117 : List (Nat × Nat × Nat × Nat) := [(0, 0, 0, 1), (1, 416, 12, 3), (4, 243, 58, 3), (7, 0, 0, 2), (9, 0, 0, 2), (11, 0, 0, 1), (12, 0, 0, 1), (13, 0, 0, 1), (14, 480, 125, 3), (17, 0, 0, 3), (20, 0, 0, 1), (21, 0, 0, 1), (22, 0, 0, 1), (23, 419, 26, 3), (26, 0, 0, 2), (28, 0, 0, 1), (29, 416, 12, 3), (32, 245, 128, 3), (35, 147, 132, 3), (38, 494, 137, 3), (41, 0, 0, 2), (43, 0, 0, 1), (44, 0, 0, 1), (45, 0, 0, 1), (46, 505, 141, 3), (49, 0, 0, 1), (50, 0, 0, 1)]
/-- QuillDesk.hours(I)I -/
def kc_118 : List Instr := [.iload 1, .sipush 1, .sipush 60, .invokestatic 312206, .ifCond .eq 13, .aload 0, .checkcast 2560, .checkcast 512, .getfield 772, .sipush 9999, .iload 1, .isub, .if_icmp .le 15, .sipush (-1), .ireturn, .sipush 0, .istore 2, .sipush 0, .istore 3, .iload 3, .iload 1, .if_icmp .ge 44, .aload 0, .checkcast 2566, .aload 0, .checkcast 2560, .checkcast 512, .aload 0, .checkcast 2560, .checkcast 514, .getfield 8, .invokevirtual 96105, .iload 2, .aload 0, .checkcast 2560, .aload 0, .checkcast 2560, .checkcast 512, .sipush 0, .invokevirtual 32044, .iadd, .istore 2, .iinc 3 1, .goto 19, .iload 2, .ireturn]
def kr_118 : List (Nat × Nat × Nat × Nat) := [(0, 0, 0, 1), (1, 0, 0, 1), (2, 0, 0, 2), (4, 453, 71, 3), (7, 0, 0, 3), (10, 0, 0, 1), (11, 416, 12, 3), (14, 243, 58, 3), (17, 46, 145, 3), (20, 0, 0, 3), (23, 0, 0, 1), (24, 0, 0, 1), (25, 0, 0, 3), (28, 0, 0, 1), (29, 0, 0, 1), (30, 0, 0, 1), (31, 0, 0, 1), (32, 0, 0, 1), (33, 0, 0, 1), (34, 0, 0, 1), (35, 0, 0, 1), (36, 0, 0, 3), (39, 0, 0, 1), (40, 419, 26, 3), (43, 0, 0, 1), (44, 416, 12, 3), (47, 243, 58, 3), (50, 0, 0, 1), (51, 416, 12, 3), (54, 245, 128, 3), (57, 147, 132, 3), (60, 494, 137, 3), (63, 0, 0, 1), (64, 0, 0, 1), (65, 416, 12, 3), (68, 0, 0, 1), (69, 416, 12, 3), (72, 243, 58, 3), (75, 0, 0, 1), (76, 513, 148, 3), (79, 0, 0, 1), (80, 0, 0, 1), (81, 0, 0, 3), (84, 0, 0, 3), (87, 0, 0, 1), (88, 0, 0, 1)]
/-- QuillDesk.feed(IIIII)I -/
def kc_119 : List Instr := [.aload 0, .checkcast 2570, .getfield 1538, .sipush 380, .if_icmp .le 7, .sipush (-1), .ireturn, .aload 0, .checkcast 2570, .iload 1, .invokevirtual 104123, .aload 0, .checkcast 2570, .iload 2, .invokevirtual 104123, .aload 0, .checkcast 2570, .iload 3, .invokevirtual 104123, .aload 0, .checkcast 2570, .iload 4, .invokevirtual 104123, .aload 0, .checkcast 2570, .iload 5, .invokevirtual 104123, .aload 0, .checkcast 2570, .getfield 1538, .ireturn]
def kr_119 : List (Nat × Nat × Nat × Nat) := [(0, 0, 0, 1), (1, 421, 40, 3), (4, 340, 152, 3), (7, 0, 0, 3), (10, 0, 0, 3), (13, 0, 0, 1), (14, 0, 0, 1), (15, 0, 0, 1), (16, 421, 40, 3), (19, 0, 0, 1), (20, 616, 154, 3), (23, 0, 0, 1), (24, 421, 40, 3), (27, 0, 0, 1), (28, 616, 154, 3), (31, 0, 0, 1), (32, 421, 40, 3), (35, 0, 0, 1), (36, 616, 154, 3), (39, 0, 0, 1), (40, 421, 40, 3), (43, 0, 0, 2), (45, 616, 154, 3), (48, 0, 0, 1), (49, 421, 40, 3), (52, 0, 0, 2), (54, 616, 154, 3), (57, 0, 0, 1), (58, 421, 40, 3), (61, 340, 152, 3), (64, 0, 0, 1)]
/-- QuillDesk.end(I)Z -/
def kc_120 : List Instr := [.iload 1, .sipush 0, .aload 0, .checkcast 2570, .getfield 1538, .invokestatic 312206, .ifCond .ne 9, .sipush 0, .ireturn, .aload 0, .checkcast 2570, .iload 1, .putfield 1538, .sipush 1, .ireturn]
def kr_120 : List (Nat × Nat × Nat × Nat) := [(0, 0, 0, 1), (1, 0, 0, 1), (2, 0, 0, 1), (3, 421, 40, 3), (6, 340, 152, 3), (9, 453, 71, 3), (12, 0, 0, 3), (15, 0, 0, 1), (16, 0, 0, 1), (17, 0, 0, 1), (18, 421, 40, 3), (21, 0, 0, 1), (22, 340, 152, 3), (25, 0, 0, 1), (26, 0, 0, 1)]
/-- QuillDesk.text(I)I -/
def kc_121 : List Instr := [.aload 0, .checkcast 2570, .iload 1, .aload 0, .checkcast 2560, .checkcast 512, .invokevirtual 106124, .istore 2, .aload 0, .checkcast 2570, .sipush 0, .putfield 1538, .iload 2, .ifCond .ne 16, .sipush (-1), .ireturn, .iload 1, .ifCond .ne 31, .aload 0, .checkcast 2560, .checkcast 516, .aload 0, .checkcast 2570, .checkcast 1554, .invokevirtual 78083, .aload 0, .checkcast 2560, .checkcast 516, .checkcast 1024, .getfield 2056, .ireturn, .iload 1, .sipush 1, .if_icmp .ne 38, .aload 0, .checkcast 2560, .checkcast 518, .goto 48, .iload 1, .sipush 2, .if_icmp .ne 45, .aload 0, .checkcast 2560, .checkcast 520, .goto 48, .aload 0, .checkcast 2560, .checkcast 522, .astore 3, .aload 3, .aload 0, .checkcast 2570, .checkcast 1556, .invokevirtual 172163, .iload 1, .sipush 1, .if_icmp .ne 60, .aload 0, .checkcast 2566, .invokevirtual 100101, .aload 3, .getfield 2056, .ireturn]
def kr_121 : List (Nat × Nat × Nat × Nat) := [(0, 0, 0, 1), (1, 421, 40, 3), (4, 0, 0, 1), (5, 0, 0, 1), (6, 416, 12, 3), (9, 243, 58, 3), (12, 628, 158, 3), (15, 0, 0, 1), (16, 0, 0, 1), (17, 421, 40, 3), (20, 0, 0, 1), (21, 340, 152, 3), (24, 0, 0, 1), (25, 0, 0, 3), (28, 0, 0, 1), (29, 0, 0, 1), (30, 0, 0, 1), (31, 0, 0, 3), (34, 0, 0, 1), (35, 416, 12, 3), (38, 247, 162, 3), (41, 0, 0, 1), (42, 421, 40, 3), (45, 351, 166, 3), (48, 783, 167, 3), (51, 0, 0, 1), (52, 416, 12, 3), (55, 247, 162, 3), (58, 200, 173, 3), (61, 187, 177, 3), (64, 0, 0, 1), (65, 0, 0, 1), (66, 0, 0, 1), (67, 0, 0, 3), (70, 0, 0, 1), (71, 416, 12, 3), (74, 249, 180, 3), (77, 0, 0, 3), (80, 0, 0, 1), (81, 0, 0, 1), (82, 0, 0, 3), (85, 0, 0, 1), (86, 416, 12, 3), (89, 251, 183, 3), (92, 0, 0, 3), (95, 0, 0, 1), (96, 416, 12, 3), (99, 253, 186, 3), (102, 0, 0, 1), (103, 0, 0, 1), (104, 0, 0, 1), (105, 421, 40, 3), (108, 353, 189, 3), (111, 793, 190, 3), (114, 0, 0, 1), (115, 0, 0, 1), (116, 0, 0, 3), (119, 0, 0, 1), (120, 419, 26, 3), (123, 445, 65, 3), (126, 0, 0, 1), (127, 187, 177, 3), (130, 0, 0, 1)]
/-- QuillDesk.fault(I)I -/
def kc_122 : List Instr := [.iload 1, .ifCond .ne 6, .aload 0, .checkcast 2570, .getfield 1550, .ireturn, .iload 1, .sipush 1, .if_icmp .ne 13, .aload 0, .checkcast 2570, .getfield 1552, .goto 14, .sipush (-1), .ireturn]
def kr_122 : List (Nat × Nat × Nat × Nat) := [(0, 0, 0, 1), (1, 0, 0, 3), (4, 0, 0, 1), (5, 421, 40, 3), (8, 347, 193, 3), (11, 0, 0, 1), (12, 0, 0, 1), (13, 0, 0, 1), (14, 0, 0, 3), (17, 0, 0, 1), (18, 421, 40, 3), (21, 349, 196, 3), (24, 0, 0, 3), (27, 0, 0, 1), (28, 0, 0, 1)]
/-- QuillDesk.of(II)I -/
def kc_123 : List Instr := [.aload 0, .checkcast 2560, .checkcast 512, .astore 3, .aload 3, .iload 1, .invokevirtual 44062, .ifCond .ne 10, .sipush (-2), .ireturn, .iload 2, .tableswitch 52 0 6 #[12, 17, 22, 27, 32, 36, 44], .aload 3, .checkcast 780, .iload 1, .iaload, .ireturn, .aload 3, .checkcast 782, .iload 1, .iaload, .ireturn, .aload 3, .checkcast 784, .iload 1, .iaload, .ireturn, .aload 3, .checkcast 786, .iload 1, .iaload, .ireturn, .aload 3, .iload 1, .invokevirtual 54062, .ireturn, .aload 0, .checkcast 2560, .aload 3, .checkcast 780, .iload 1, .iaload, .invokevirtual 20042, .ireturn, .aload 0, .checkcast 2560, .aload 3, .checkcast 780, .iload 1, .iaload, .invokevirtual 22042, .ireturn, .sipush (-2), .ireturn]
def kr_123 : List (Nat × Nat × Nat × Nat) := [(0, 0, 0, 1), (1, 416, 12, 3), (4, 243, 58, 3), (7, 0, 0, 1), (8, 0, 0, 1), (9, 0, 0, 1), (10, 468, 118, 3), (13, 0, 0, 3), (16, 0, 0, 2), (18, 0, 0, 1), (19, 0, 0, 1), (20, 0, 0, 44), (64, 0, 0, 1), (65, 60, 75, 3), (68, 0, 0, 1), (69, 0, 0, 1), (70, 0, 0, 1), (71, 0, 0, 1), (72, 63, 79, 3), (75, 0, 0, 1), (76, 0, 0, 1), (77, 0, 0, 1), (78, 0, 0, 1), (79, 66, 82, 3), (82, 0, 0, 1), (83, 0, 0, 1), (84, 0, 0, 1), (85, 0, 0, 1), (86, 69, 85, 3), (89, 0, 0, 1), (90, 0, 0, 1), (91, 0, 0, 1), (92, 0, 0, 1), (93, 0, 0, 1), (94, 803, 199, 3), (97, 0, 0, 1), (98, 0, 0, 1), (99, 416, 12, 3), (102, 0, 0, 1), (103, 60, 75, 3), (106, 0, 0, 1), (107, 0, 0, 1), (108, 804, 203, 3), (111, 0, 0, 1), (112, 0, 0, 1), (113, 416, 12, 3), (116, 0, 0, 1), (117, 60, 75, 3), (120, 0, 0, 1), (121, 0, 0, 1), (122, 805, 206, 3), (125, 0, 0, 1), (126, 0, 0, 2), (128, 0, 0, 1)]
/-- QuillDesk.who(II)I -/
def kc_124 : List Instr := [.aload 0, .checkcast 2560, .checkcast 512, .astore 3, .aload 3, .iload 1, .invokevirtual 46062, .ifCond .ne 10, .sipush (-2), .ireturn, .iload 2, .tableswitch 58 0 7 #[12, 17, 22, 27, 32, 37, 44, 51], .aload 3, .checkcast 788, .iload 1, .iaload, .ireturn, .aload 3, .checkcast 790, .iload 1, .iaload, .ireturn, .aload 3, .checkcast 792, .iload 1, .iaload, .ireturn, .aload 3, .checkcast 794, .iload 1, .iaload, .ireturn, .aload 3, .checkcast 796, .iload 1, .iaload, .ireturn, .aload 0, .checkcast 2560, .aload 3, .iload 1, .sipush 10011, .invokevirtual 28046, .ireturn, .aload 0, .checkcast 2560, .aload 3, .iload 1, .sipush 10012, .invokevirtual 28046, .ireturn, .aload 0, .checkcast 2560, .aload 3, .iload 1, .sipush 10013, .invokevirtual 28046, .ireturn, .sipush (-2), .ireturn]
def kr_124 : List (Nat × Nat × Nat × Nat) := [(0, 0, 0, 1), (1, 416, 12, 3), (4, 243, 58, 3), (7, 0, 0, 1), (8, 0, 0, 1), (9, 0, 0, 1), (10, 472, 122, 3), (13, 0, 0, 3), (16, 0, 0, 2), (18, 0, 0, 1), (19, 0, 0, 1), (20, 0, 0, 48), (68, 0, 0, 1), (69, 72, 91, 3), (72, 0, 0, 1), (73, 0, 0, 1), (74, 0, 0, 1), (75, 0, 0, 1), (76, 75, 94, 3), (79, 0, 0, 1), (80, 0, 0, 1), (81, 0, 0, 1), (82, 0, 0, 1), (83, 78, 97, 3), (86, 0, 0, 1), (87, 0, 0, 1), (88, 0, 0, 1), (89, 0, 0, 1), (90, 81, 100, 3), (93, 0, 0, 1), (94, 0, 0, 1), (95, 0, 0, 1), (96, 0, 0, 1), (97, 84, 103, 3), (100, 0, 0, 1), (101, 0, 0, 1), (102, 0, 0, 1), (103, 0, 0, 1), (104, 416, 12, 3), (107, 0, 0, 1), (108, 0, 0, 1), (109, 0, 0, 3), (112, 810, 209, 3), (115, 0, 0, 1), (116, 0, 0, 1), (117, 416, 12, 3), (120, 0, 0, 1), (121, 0, 0, 1), (122, 0, 0, 3), (125, 810, 209, 3), (128, 0, 0, 1), (129, 0, 0, 1), (130, 416, 12, 3), (133, 0, 0, 1), (134, 0, 0, 1), (135, 0, 0, 3), (138, 810, 209, 3), (141, 0, 0, 1), (142, 0, 0, 2), (144, 0, 0, 1)]
/-- QuillDesk.deedOf(II)I -/
def kc_125 : List Instr := [.aload 0, .checkcast 2560, .checkcast 512, .astore 3, .aload 3, .iload 1, .invokevirtual 48062, .ifCond .ne 10, .sipush (-2), .ireturn, .iload 2, .tableswitch 46 0 5 #[12, 17, 22, 27, 32, 42], .aload 3, .checkcast 798, .iload 1, .iaload, .ireturn, .aload 3, .checkcast 800, .iload 1, .iaload, .ireturn, .aload 3, .checkcast 802, .iload 1, .iaload, .ireturn, .aload 0, .checkcast 2560, .iload 1, .invokevirtual 24042, .ireturn, .aload 0, .checkcast 2560, .aload 3, .iload 1, .invokevirtual 26044, .ifCond .eq 40, .sipush 1, .goto 41, .sipush 0, .ireturn, .aload 3, .iload 1, .invokevirtual 58062, .ireturn, .sipush (-2), .ireturn]
def kr_125 : List (Nat × Nat × Nat × Nat) := [(0, 0, 0, 1), (1, 416, 12, 3), (4, 243, 58, 3), (7, 0, 0, 1), (8, 0, 0, 1), (9, 0, 0, 1), (10, 815, 213, 3), (13, 0, 0, 3), (16, 0, 0, 2), (18, 0, 0, 1), (19, 0, 0, 1), (20, 0, 0, 40), (60, 0, 0, 1), (61, 87, 109, 3), (64, 0, 0, 1), (65, 0, 0, 1), (66, 0, 0, 1), (67, 0, 0, 1), (68, 89, 112, 3), (71, 0, 0, 1), (72, 0, 0, 1), (73, 0, 0, 1), (74, 0, 0, 1), (75, 92, 115, 3), (78, 0, 0, 1), (79, 0, 0, 1), (80, 0, 0, 1), (81, 0, 0, 1), (82, 416, 12, 3), (85, 0, 0, 1), (86, 816, 216, 3), (89, 0, 0, 1), (90, 0, 0, 1), (91, 416, 12, 3), (94, 0, 0, 1), (95, 0, 0, 1), (96, 817, 219, 3), (99, 0, 0, 3), (102, 0, 0, 1), (103, 0, 0, 3), (106, 0, 0, 1), (107, 0, 0, 1), (108, 0, 0, 1), (109, 0, 0, 1), (110, 818, 223, 3), (113, 0, 0, 1), (114, 0, 0, 2), (116, 0, 0, 1)]
/-- QuillDesk.book(II)I -/
def kc_126 : List Instr := [.aload 0, .checkcast 2560, .checkcast 514, .astore 3, .iload 1, .ifCond .lt 13, .iload 1, .aload 3, .getfield 8, .if_icmp .ge 13, .iload 1, .sipush 150, .if_icmp .lt 15, .sipush (-1), .ireturn, .iload 2, .tableswitch 37 0 3 #[17, 22, 27, 32], .aload 3, .checkcast 0, .iload 1, .iaload, .ireturn, .aload 3, .checkcast 2, .iload 1, .iaload, .ireturn, .aload 3, .checkcast 4, .iload 1, .iaload, .ireturn, .aload 3, .checkcast 6, .iload 1, .iaload, .ireturn, .sipush (-1), .ireturn]
def kr_126 : List (Nat × Nat × Nat × Nat) := [(0, 0, 0, 1), (1, 416, 12, 3), (4, 245, 128, 3), (7, 0, 0, 1), (8, 0, 0, 1), (9, 0, 0, 3), (12, 0, 0, 1), (13, 0, 0, 1), (14, 147, 132, 3), (17, 0, 0, 3), (20, 0, 0, 1), (21, 0, 0, 3), (24, 0, 0, 3), (27, 0, 0, 1), (28, 0, 0, 1), (29, 0, 0, 1), (30, 0, 0, 30), (60, 0, 0, 1), (61, 138, 226, 3), (64, 0, 0, 1), (65, 0, 0, 1), (66, 0, 0, 1), (67, 0, 0, 1), (68, 140, 228, 3), (71, 0, 0, 1), (72, 0, 0, 1), (73, 0, 0, 1), (74, 0, 0, 1), (75, 142, 231, 3), (78, 0, 0, 1), (79, 0, 0, 1), (80, 0, 0, 1), (81, 0, 0, 1), (82, 144, 234, 3), (85, 0, 0, 1), (86, 0, 0, 1), (87, 0, 0, 1), (88, 0, 0, 1), (89, 0, 0, 1)]
/-- QuillDesk.goes(II)I -/
def kc_127 : List Instr := [.iload 1, .sipush 1, .sipush 60, .invokestatic 312206, .ifCond .eq 10, .iload 2, .sipush 0, .sipush 3, .invokestatic 312206, .ifCond .ne 12, .sipush (-1), .ireturn, .aload 0, .checkcast 2568, .aload 0, .checkcast 2560, .checkcast 512, .invokevirtual 42063, .sipush 0, .istore 3, .iload 3, .iload 1, .if_icmp .ge 32, .aload 0, .checkcast 2560, .aload 0, .checkcast 2568, .sipush 1, .invokevirtual 32044, .pop, .iinc 3 1, .goto 20, .iload 2, .tableswitch 46 0 2 #[34, 38, 42], .aload 0, .checkcast 2568, .invokevirtual 60060, .ireturn, .aload 0, .checkcast 2568, .invokevirtual 62060, .ireturn, .aload 0, .checkcast 2568, .getfield 770, .ireturn, .aload 0, .checkcast 2568, .invokevirtual 56060, .invokestatic 585962, .ireturn]
def kr_127 : List (Nat × Nat × Nat × Nat) := [(0, 0, 0, 1), (1, 0, 0, 1), (2, 0, 0, 2), (4, 453, 71, 3), (7, 0, 0, 3), (10, 0, 0, 1), (11, 0, 0, 1), (12, 0, 0, 1), (13, 453, 71, 3), (16, 0, 0, 3), (19, 0, 0, 1), (20, 0, 0, 1), (21, 0, 0, 1), (22, 420, 33, 3), (25, 0, 0, 1), (26, 416, 12, 3), (29, 243, 58, 3), (32, 830, 237, 3), (35, 0, 0, 1), (36, 0, 0, 1), (37, 0, 0, 1), (38, 0, 0, 1), (39, 0, 0, 3), (42, 0, 0, 1), (43, 416, 12, 3), (46, 0, 0, 1), (47, 420, 33, 3), (50, 0, 0, 1), (51, 513, 148, 3), (54, 0, 0, 1), (55, 0, 0, 3), (58, 0, 0, 3), (61, 0, 0, 1), (62, 0, 0, 26), (88, 0, 0, 1), (89, 420, 33, 3), (92, 831, 240, 3), (95, 0, 0, 1), (96, 0, 0, 1), (97, 420, 33, 3), (100, 835, 244, 3), (103, 0, 0, 1), (104, 0, 0, 1), (105, 420, 33, 3), (108, 44, 247, 3), (111, 0, 0, 1), (112, 0, 0, 1), (113, 420, 33, 3), (116, 839, 250, 3), (119, 840, 253, 3), (122, 0, 0, 1)]
/-- QuillDesk.done(I)I -/
def kc_128 : List Instr := [.aload 0, .checkcast 2560, .checkcast 512, .iload 1, .invokevirtual 48062, .ifCond .ne 8, .sipush (-1), .ireturn, .aload 0, .checkcast 2568, .aload 0, .checkcast 2560, .checkcast 512, .invokevirtual 42063, .sipush 0, .istore 2, .iload 2, .sipush 60, .if_icmp .ge 35, .aload 0, .checkcast 2568, .iload 1, .invokevirtual 50062, .ifCond .eq 26, .iload 2, .ireturn, .aload 0, .checkcast 2560, .aload 0, .checkcast 2568, .sipush 1, .invokevirtual 32044, .pop, .iinc 2 1, .goto 16, .aload 0, .checkcast 2568, .iload 1, .invokevirtual 50062, .ifCond .eq 42, .sipush 60, .goto 43, .sipush (-1), .ireturn]
def kr_128 : List (Nat × Nat × Nat × Nat) := [(0, 0, 0, 1), (1, 416, 12, 3), (4, 243, 58, 3), (7, 0, 0, 1), (8, 815, 213, 3), (11, 0, 0, 3), (14, 0, 0, 1), (15, 0, 0, 1), (16, 0, 0, 1), (17, 420, 33, 3), (20, 0, 0, 1), (21, 416, 12, 3), (24, 243, 58, 3), (27, 830, 237, 3), (30, 0, 0, 1), (31, 0, 0, 1), (32, 0, 0, 1), (33, 0, 0, 2), (35, 0, 0, 3), (38, 0, 0, 1), (39, 420, 33, 3), (42, 0, 0, 1), (43, 850, 258, 3), (46, 0, 0, 3), (49, 0, 0, 1), (50, 0, 0, 1), (51, 0, 0, 1), (52, 416, 12, 3), (55, 0, 0, 1), (56, 420, 33, 3), (59, 0, 0, 1), (60, 513, 148, 3), (63, 0, 0, 1), (64, 0, 0, 3), (67, 0, 0, 3), (70, 0, 0, 1), (71, 420, 33, 3), (74, 0, 0, 1), (75, 850, 258, 3), (78, 0, 0, 3), (81, 0, 0, 2), (83, 0, 0, 3), (86, 0, 0, 1), (87, 0, 0, 1)]
/-- QuillDesk.soon(II)I -/
def kc_129 : List Instr := [.iload 1, .sipush 1, .sipush 99, .invokestatic 312206, .ifCond .eq 10, .iload 2, .sipush 0, .sipush 1, .invokestatic 312206, .ifCond .ne 12, .sipush (-1), .ireturn, .aload 0, .checkcast 2560, .iload 1, .aload 0, .checkcast 2572, .checkcast 2304, .iload 2, .invokevirtual 38046, .ireturn]
def kr_129 : List (Nat × Nat × Nat × Nat) := [(0, 0, 0, 1), (1, 0, 0, 1), (2, 0, 0, 2), (4, 453, 71, 3), (7, 0, 0, 3), (10, 0, 0, 1), (11, 0, 0, 1), (12, 0, 0, 1), (13, 453, 71, 3), (16, 0, 0, 3), (19, 0, 0, 1), (20, 0, 0, 1), (21, 0, 0, 1), (22, 416, 12, 3), (25, 0, 0, 1), (26, 0, 0, 1), (27, 422, 47, 3), (30, 384, 261, 3), (33, 0, 0, 1), (34, 855, 264, 3), (37, 0, 0, 1)]
/-- QuillDesk.flock(II)I -/
def kc_130 : List Instr := [.iload 1, .sipush 0, .sipush 12, .invokestatic 312206, .ifCond .eq 12, .iload 2, .sipush (-1), .iload 1, .sipush 1, .isub, .invokestatic 312206, .ifCond .ne 14, .sipush (-1), .ireturn, .aload 0, .checkcast 2572, .iload 1, .iload 2, .invokevirtual 176184, .ireturn]
def kr_130 : List (Nat × Nat × Nat × Nat) := [(0, 0, 0, 1), (1, 0, 0, 1), (2, 0, 0, 2), (4, 453, 71, 3), (7, 0, 0, 3), (10, 0, 0, 1), (11, 0, 0, 1), (12, 0, 0, 1), (13, 0, 0, 1), (14, 0, 0, 1), (15, 453, 71, 3), (18, 0, 0, 3), (21, 0, 0, 1), (22, 0, 0, 1), (23, 0, 0, 1), (24, 422, 47, 3), (27, 0, 0, 1), (28, 0, 0, 1), (29, 863, 268, 3), (32, 0, 0, 1)]
/-- QuillDesk.letters(I)I -/
def kc_131 : List Instr := [.iload 1, .sipush (-1), .if_icmp .ne 8, .aload 0, .checkcast 2560, .checkcast 524, .invokevirtual 158140, .goto 15, .aload 0, .checkcast 2560, .checkcast 524, .iload 1, .sipush 1, .sipush 20, .invokevirtual 156146, .ireturn]
def kr_131 : List (Nat × Nat × Nat × Nat) := [(0, 0, 0, 1), (1, 0, 0, 1), (2, 0, 0, 3), (5, 0, 0, 1), (6, 416, 12, 3), (9, 255, 272, 3), (12, 872, 276, 3), (15, 0, 0, 3), (18, 0, 0, 1), (19, 416, 12, 3), (22, 255, 272, 3), (25, 0, 0, 1), (26, 0, 0, 1), (27, 0, 0, 2), (29, 876, 281, 3), (32, 0, 0, 1)]
/-- QuillDesk.page(II)I -/
def kc_132 : List Instr := [.iload 1, .sipush 20, .sipush 60, .invokestatic 312206, .ifCond .eq 10, .iload 2, .sipush 0, .sipush 1, .invokestatic 312206, .ifCond .ne 12, .sipush (-1), .ireturn, .aload 0, .checkcast 2572, .aload 0, .checkcast 2560, .checkcast 524, .iload 1, .iload 2, .invokevirtual 178186, .ireturn]
def kr_132 : List (Nat × Nat × Nat × Nat) := [(0, 0, 0, 1), (1, 0, 0, 2), (3, 0, 0, 2), (5, 453, 71, 3), (8, 0, 0, 3), (11, 0, 0, 1), (12, 0, 0, 1), (13, 0, 0, 1), (14, 453, 71, 3), (17, 0, 0, 3), (20, 0, 0, 1), (21, 0, 0, 1), (22, 0, 0, 1), (23, 422, 47, 3), (26, 0, 0, 1), (27, 416, 12, 3), (30, 255, 272, 3), (33, 0, 0, 1), (34, 0, 0, 1), (35, 885, 285, 3), (38, 0, 0, 1)]
/-- QuillDesk.stamp(I)I -/
def kc_133 : List Instr := [.iload 1, .sipush (-1), .if_icmp .ne 8, .aload 0, .checkcast 2560, .checkcast 526, .invokevirtual 158140, .goto 15, .aload 0, .checkcast 2560, .checkcast 526, .iload 1, .sipush 1, .sipush 30, .invokevirtual 156146, .ireturn]
def kr_133 : List (Nat × Nat × Nat × Nat) := [(0, 0, 0, 1), (1, 0, 0, 1), (2, 0, 0, 3), (5, 0, 0, 1), (6, 416, 12, 3), (9, 257, 289, 3), (12, 872, 276, 3), (15, 0, 0, 3), (18, 0, 0, 1), (19, 416, 12, 3), (22, 257, 289, 3), (25, 0, 0, 1), (26, 0, 0, 1), (27, 0, 0, 2), (29, 876, 281, 3), (32, 0, 0, 1)]
/-- QuillDesk.stamps(I)I -/
def kc_134 : List Instr := [.iload 1, .sipush 0, .sipush 1, .invokestatic 312206, .ifCond .ne 7, .sipush (-1), .ireturn, .aload 0, .checkcast 2572, .aload 0, .checkcast 2560, .checkcast 526, .iload 1, .invokevirtual 180184, .ireturn]
def kr_134 : List (Nat × Nat × Nat × Nat) := [(0, 0, 0, 1), (1, 0, 0, 1), (2, 0, 0, 1), (3, 453, 71, 3), (6, 0, 0, 3), (9, 0, 0, 1), (10, 0, 0, 1), (11, 0, 0, 1), (12, 422, 47, 3), (15, 0, 0, 1), (16, 416, 12, 3), (19, 257, 289, 3), (22, 0, 0, 1), (23, 898, 292, 3), (26, 0, 0, 1)]
/-- QuillDesk.scratch(II)I -/
def kc_135 : List Instr := [.iload 1, .sipush 1, .sipush 9999, .invokestatic 312206, .ifCond .eq 10, .iload 2, .sipush 0, .sipush 1, .invokestatic 312206, .ifCond .ne 12, .sipush (-1), .ireturn, .iload 1, .iload 2, .invokestatic 184184, .ireturn]
def kr_135 : List (Nat × Nat × Nat × Nat) := [(0, 0, 0, 1), (1, 0, 0, 1), (2, 0, 0, 3), (5, 453, 71, 3), (8, 0, 0, 3), (11, 0, 0, 1), (12, 0, 0, 1), (13, 0, 0, 1), (14, 453, 71, 3), (17, 0, 0, 3), (20, 0, 0, 1), (21, 0, 0, 1), (22, 0, 0, 1), (23, 0, 0, 1), (24, 912, 296, 3), (27, 0, 0, 1)]
/-- QuillDesk.threes(II)I -/
def kc_136 : List Instr := [.iload 1, .sipush (-9999), .sipush 9999, .invokestatic 312206, .ifCond .eq 7, .iload 2, .ifCond .ge 9, .sipush (-2), .ireturn, .iload 1, .iload 2, .invokestatic 186184, .ireturn]
def kr_136 : List (Nat × Nat × Nat × Nat) := [(0, 0, 0, 1), (1, 0, 0, 3), (4, 0, 0, 3), (7, 453, 71, 3), (10, 0, 0, 3), (13, 0, 0, 1), (14, 0, 0, 3), (17, 0, 0, 2), (19, 0, 0, 1), (20, 0, 0, 1), (21, 0, 0, 1), (22, 920, 299, 3), (25, 0, 0, 1)]
/-- QuillDesk.curve(III)I -/
def kc_137 : List Instr := [.iload 1, .sipush 0, .sipush 12, .invokestatic 312206, .ifCond .ne 7, .sipush (-10000), .ireturn, .sipush 1, .iload 1, .ishl, .istore 4, .iload 3, .sipush 2, .if_icmp .ne 30, .iload 2, .sipush 1, .iload 4, .sipush 1, .isub, .invokestatic 312206, .ifCond .eq 28, .iload 2, .invokestatic 188182, .ifCond .eq 26, .sipush 1, .goto 29, .sipush 0, .goto 29, .sipush (-10000), .ireturn, .iload 3, .sipush 0, .sipush 1, .invokestatic 312206, .ifCond .eq 40, .iload 2, .sipush 0, .iload 4, .invokestatic 312206, .ifCond .ne 42, .sipush (-10000), .ireturn, .iload 2, .iload 3, .invokestatic 190184, .ireturn]
def kr_137 : List (Nat × Nat × Nat × Nat) := [(0, 0, 0, 1), (1, 0, 0, 1), (2, 0, 0, 2), (4, 453, 71, 3), (7, 0, 0, 3), (10, 0, 0, 3), (13, 0, 0, 1), (14, 0, 0, 1), (15, 0, 0, 1), (16, 0, 0, 1), (17, 0, 0, 2), (19, 0, 0, 1), (20, 0, 0, 1), (21, 0, 0, 3), (24, 0, 0, 1), (25, 0, 0, 1), (26, 0, 0, 2), (28, 0, 0, 1), (29, 0, 0, 1), (30, 453, 71, 3), (33, 0, 0, 3), (36, 0, 0, 1), (37, 930, 302, 3), (40, 0, 0, 3), (43, 0, 0, 1), (44, 0, 0, 3), (47, 0, 0, 1), (48, 0, 0, 3), (51, 0, 0, 3), (54, 0, 0, 1), (55, 0, 0, 1), (56, 0, 0, 1), (57, 0, 0, 1), (58, 453, 71, 3), (61, 0, 0, 3), (64, 0, 0, 1), (65, 0, 0, 1), (66, 0, 0, 2), (68, 453, 71, 3), (71, 0, 0, 3), (74, 0, 0, 3), (77, 0, 0, 1), (78, 0, 0, 1), (79, 0, 0, 1), (80, 933, 305, 3), (83, 0, 0, 1)]
/-- QuillDesk.quire(III)I -/
def kc_138 : List Instr := [.iload 1, .sipush 1, .sipush 12, .invokestatic 312206, .ifCond .eq 12, .iload 2, .sipush 1, .sipush 4, .iload 1, .imul, .invokestatic 312206, .ifCond .ne 14, .sipush (-1), .ireturn, .iload 3, .tableswitch 55 0 2 #[16, 24, 36], .sipush 4, .iload 1, .imul, .sipush 1, .iadd, .iload 2, .isub, .ireturn, .iload 2, .sipush 2, .irem, .ifCond .ne 32, .iload 2, .sipush 1, .isub, .goto 35, .iload 2, .sipush 1, .iadd, .ireturn, .iload 2, .sipush 2, .iload 1, .imul, .if_icmp .gt 47, .iload 2, .sipush 1, .isub, .sipush 2, .idiv, .goto 54, .sipush 4, .iload 1, .imul, .iload 2, .isub, .sipush 2, .idiv, .ireturn, .sipush (-1), .ireturn]
def kr_138 : List (Nat × Nat × Nat × Nat) := [(0, 0, 0, 1), (1, 0, 0, 1), (2, 0, 0, 2), (4, 453, 71, 3), (7, 0, 0, 3), (10, 0, 0, 1), (11, 0, 0, 1), (12, 0, 0, 1), (13, 0, 0, 1), (14, 0, 0, 1), (15, 453, 71, 3), (18, 0, 0, 3), (21, 0, 0, 1), (22, 0, 0, 1), (23, 0, 0, 1), (24, 0, 0, 28), (52, 0, 0, 1), (53, 0, 0, 1), (54, 0, 0, 1), (55, 0, 0, 1), (56, 0, 0, 1), (57, 0, 0, 1), (58, 0, 0, 1), (59, 0, 0, 1), (60, 0, 0, 1), (61, 0, 0, 1), (62, 0, 0, 1), (63, 0, 0, 3), (66, 0, 0, 1), (67, 0, 0, 1), (68, 0, 0, 1), (69, 0, 0, 3), (72, 0, 0, 1), (73, 0, 0, 1), (74, 0, 0, 1), (75, 0, 0, 1), (76, 0, 0, 1), (77, 0, 0, 1), (78, 0, 0, 1), (79, 0, 0, 1), (80, 0, 0, 3), (83, 0, 0, 1), (84, 0, 0, 1), (85, 0, 0, 1), (86, 0, 0, 1), (87, 0, 0, 1), (88, 0, 0, 3), (91, 0, 0, 1), (92, 0, 0, 1), (93, 0, 0, 1), (94, 0, 0, 1), (95, 0, 0, 1), (96, 0, 0, 1), (97, 0, 0, 1), (98, 0, 0, 1), (99, 0, 0, 1), (100, 0, 0, 1)]
/-- QuillDesk.dot(III)Z -/
def kc_139 : List Instr := [.iload 1, .sipush 0, .sipush 2, .invokestatic 312206, .ifCond .eq 15, .iload 2, .sipush 0, .sipush 99, .invokestatic 312206, .ifCond .eq 15, .iload 3, .sipush 0, .sipush 99, .invokestatic 312206, .ifCond .ne 17, .sipush 0, .ireturn, .aload 0, .checkcast 2560, .checkcast 528, .iload 1, .iload 2, .iastore, .aload 0, .checkcast 2560, .checkcast 530, .iload 1, .iload 3, .iastore, .sipush 1, .ireturn]
def kr_139 : List (Nat × Nat × Nat × Nat) := [(0, 0, 0, 1), (1, 0, 0, 1), (2, 0, 0, 1), (3, 453, 71, 3), (6, 0, 0, 3), (9, 0, 0, 1), (10, 0, 0, 1), (11, 0, 0, 2), (13, 453, 71, 3), (16, 0, 0, 3), (19, 0, 0, 1), (20, 0, 0, 1), (21, 0, 0, 2), (23, 453, 71, 3), (26, 0, 0, 3), (29, 0, 0, 1), (30, 0, 0, 1), (31, 0, 0, 1), (32, 416, 12, 3), (35, 259, 308, 3), (38, 0, 0, 1), (39, 0, 0, 1), (40, 0, 0, 1), (41, 0, 0, 1), (42, 416, 12, 3), (45, 261, 311, 3), (48, 0, 0, 1), (49, 0, 0, 1), (50, 0, 0, 1), (51, 0, 0, 1), (52, 0, 0, 1)]
/-- QuillDesk.dots(I)I -/
def kc_140 : List Instr := [.iload 1, .sipush 0, .sipush 2, .invokestatic 312206, .ifCond .ne 7, .sipush (-1), .ireturn, .aload 0, .checkcast 2560, .checkcast 528, .aload 0, .checkcast 2560, .checkcast 530, .iload 1, .invokestatic 192186, .ireturn]
def kr_140 : List (Nat × Nat × Nat × Nat) := [(0, 0, 0, 1), (1, 0, 0, 1), (2, 0, 0, 1), (3, 453, 71, 3), (6, 0, 0, 3), (9, 0, 0, 1), (10, 0, 0, 1), (11, 0, 0, 1), (12, 416, 12, 3), (15, 259, 308, 3), (18, 0, 0, 1), (19, 416, 12, 3), (22, 261, 311, 3), (25, 0, 0, 1), (26, 949, 314, 3), (29, 0, 0, 1)]
/-- QuillDesk.cut(I)I -/
def kc_141 : List Instr := [.iload 1, .sipush (-1), .if_icmp .ne 8, .aload 0, .checkcast 2560, .checkcast 532, .invokevirtual 158140, .ireturn, .aload 0, .checkcast 2560, .checkcast 532, .iload 1, .invokevirtual 160142, .ifCond .eq 16, .sipush (-1), .goto 23, .aload 0, .checkcast 2560, .checkcast 532, .iload 1, .sipush 1, .sipush 59, .invokevirtual 156146, .ireturn]
def kr_141 : List (Nat × Nat × Nat × Nat) := [(0, 0, 0, 1), (1, 0, 0, 1), (2, 0, 0, 3), (5, 0, 0, 1), (6, 416, 12, 3), (9, 263, 318, 3), (12, 872, 276, 3), (15, 0, 0, 1), (16, 0, 0, 1), (17, 416, 12, 3), (20, 263, 318, 3), (23, 0, 0, 1), (24, 956, 321, 3), (27, 0, 0, 3), (30, 0, 0, 1), (31, 0, 0, 3), (34, 0, 0, 1), (35, 416, 12, 3), (38, 263, 318, 3), (41, 0, 0, 1), (42, 0, 0, 1), (43, 0, 0, 2), (45, 876, 281, 3), (48, 0, 0, 1)]
/-- QuillDesk.planks(II)I -/
def kc_142 : List Instr := [.iload 1, .sipush 1, .sipush 60, .invokestatic 312206, .ifCond .eq 10, .iload 2, .sipush 0, .sipush 1, .invokestatic 312206, .ifCond .ne 12, .sipush (-1), .ireturn, .aload 0, .checkcast 2572, .aload 0, .checkcast 2560, .checkcast 532, .iload 1, .iload 2, .invokevirtual 194186, .ireturn]
def kr_142 : List (Nat × Nat × Nat × Nat) := [(0, 0, 0, 1), (1, 0, 0, 1), (2, 0, 0, 2), (4, 453, 71, 3), (7, 0, 0, 3), (10, 0, 0, 1), (11, 0, 0, 1), (12, 0, 0, 1), (13, 453, 71, 3), (16, 0, 0, 3), (19, 0, 0, 1), (20, 0, 0, 1), (21, 0, 0, 1), (22, 422, 47, 3), (25, 0, 0, 1), (26, 416, 12, 3), (29, 263, 318, 3), (32, 0, 0, 1), (33, 0, 0, 1), (34, 964, 324, 3), (37, 0, 0, 1)]
/-- QuillDesk.sign(I)I -/
def kc_143 : List Instr := [.iload 1, .sipush (-1), .if_icmp .ne 8, .aload 0, .checkcast 2560, .checkcast 534, .invokevirtual 158140, .goto 15, .aload 0, .checkcast 2560, .checkcast 534, .iload 1, .sipush 0, .sipush 9, .invokevirtual 156146, .ireturn]
def kr_143 : List (Nat × Nat × Nat × Nat) := [(0, 0, 0, 1), (1, 0, 0, 1), (2, 0, 0, 3), (5, 0, 0, 1), (6, 416, 12, 3), (9, 265, 327, 3), (12, 872, 276, 3), (15, 0, 0, 3), (18, 0, 0, 1), (19, 416, 12, 3), (22, 265, 327, 3), (25, 0, 0, 1), (26, 0, 0, 1), (27, 0, 0, 2), (29, 876, 281, 3), (32, 0, 0, 1)]
/-- QuillDesk.read(I)I -/
def kc_144 : List Instr := [.iload 1, .lookupswitch 12 #[(0, 2), (1, 7)], .aload 0, .checkcast 2560, .checkcast 534, .invokestatic 200182, .ireturn, .aload 0, .checkcast 2560, .checkcast 534, .invokestatic 202182, .ireturn, .iload 1, .sipush 100, .sipush 112, .invokestatic 312206, .ifCond .eq 25, .aload 0, .checkcast 2560, .checkcast 534, .iload 1, .sipush 100, .isub, .invokestatic 204184, .goto 26, .sipush (-1), .ireturn]
def kr_144 : List (Nat × Nat × Nat × Nat) := [(0, 0, 0, 1), (1, 0, 0, 27), (28, 0, 0, 1), (29, 416, 12, 3), (32, 265, 327, 3), (35, 981, 330, 3), (38, 0, 0, 1), (39, 0, 0, 1), (40, 416, 12, 3), (43, 265, 327, 3), (46, 991, 334, 3), (49, 0, 0, 1), (50, 0, 0, 1), (51, 0, 0, 2), (53, 0, 0, 2), (55, 453, 71, 3), (58, 0, 0, 3), (61, 0, 0, 1), (62, 416, 12, 3), (65, 265, 327, 3), (68, 0, 0, 1), (69, 0, 0, 2), (71, 0, 0, 1), (72, 994, 337, 3), (75, 0, 0, 3), (78, 0, 0, 1), (79, 0, 0, 1)]
/-- QuillDesk.leg(I)I -/
def kc_145 : List Instr := [.iload 1, .ifCond .ne 7, .aload 0, .checkcast 2560, .checkcast 536, .invokevirtual 158140, .goto 14, .aload 0, .checkcast 2560, .checkcast 536, .iload 1, .sipush (-179), .sipush 179, .invokevirtual 156146, .ireturn]
def kr_145 : List (Nat × Nat × Nat × Nat) := [(0, 0, 0, 1), (1, 0, 0, 3), (4, 0, 0, 1), (5, 416, 12, 3), (8, 267, 340, 3), (11, 872, 276, 3), (14, 0, 0, 3), (17, 0, 0, 1), (18, 416, 12, 3), (21, 267, 340, 3), (24, 0, 0, 1), (25, 0, 0, 3), (28, 0, 0, 3), (31, 876, 281, 3), (34, 0, 0, 1)]
/-- QuillDesk.line(I)I -/
def kc_146 : List Instr := [.iload 1, .sipush 0, .sipush 2, .invokestatic 312206, .ifCond .ne 7, .sipush (-10000), .ireturn, .aload 0, .checkcast 2560, .checkcast 536, .iload 1, .invokestatic 206184, .ireturn]
def kr_146 : List (Nat × Nat × Nat × Nat) := [(0, 0, 0, 1), (1, 0, 0, 1), (2, 0, 0, 1), (3, 453, 71, 3), (6, 0, 0, 3), (9, 0, 0, 3), (12, 0, 0, 1), (13, 0, 0, 1), (14, 416, 12, 3), (17, 267, 340, 3), (20, 0, 0, 1), (21, 1005, 343, 3), (24, 0, 0, 1)]
/-- QuillDesk.water(III)I -/
def kc_147 : List Instr := [.iload 1, .sipush 0, .sipush 65535, .invokestatic 312206, .ifCond .eq 15, .iload 2, .sipush 1, .sipush 16, .invokestatic 312206, .ifCond .eq 15, .iload 3, .sipush 0, .sipush 1, .invokestatic 312206, .ifCond .ne 17, .sipush (-1), .ireturn, .iload 3, .ifCond .ne 23, .iload 1, .iload 2, .invokestatic 208184, .goto 26, .iload 1, .iload 2, .invokestatic 210184, .ireturn]
def kr_147 : List (Nat × Nat × Nat × Nat) := [(0, 0, 0, 1), (1, 0, 0, 1), (2, 1012, 346, 3), (5, 453, 71, 3), (8, 0, 0, 3), (11, 0, 0, 1), (12, 0, 0, 1), (13, 0, 0, 2), (15, 453, 71, 3), (18, 0, 0, 3), (21, 0, 0, 1), (22, 0, 0, 1), (23, 0, 0, 1), (24, 453, 71, 3), (27, 0, 0, 3), (30, 0, 0, 1), (31, 0, 0, 1), (32, 0, 0, 1), (33, 0, 0, 3), (36, 0, 0, 1), (37, 0, 0, 1), (38, 1013, 347, 3), (41, 0, 0, 3), (44, 0, 0, 1), (45, 0, 0, 1), (46, 1016, 350, 3), (49, 0, 0, 1)]
/-- QuillDesk.weight(I)I -/
def kc_148 : List Instr := [.iload 1, .sipush (-1), .if_icmp .ne 8, .aload 0, .checkcast 2560, .checkcast 538, .invokevirtual 158140, .goto 15, .aload 0, .checkcast 2560, .checkcast 538, .iload 1, .sipush 1, .sipush 9, .invokevirtual 156146, .ireturn]
def kr_148 : List (Nat × Nat × Nat × Nat) := [(0, 0, 0, 1), (1, 0, 0, 1), (2, 0, 0, 3), (5, 0, 0, 1), (6, 416, 12, 3), (9, 269, 353, 3), (12, 872, 276, 3), (15, 0, 0, 3), (18, 0, 0, 1), (19, 416, 12, 3), (22, 269, 353, 3), (25, 0, 0, 1), (26, 0, 0, 1), (27, 0, 0, 2), (29, 876, 281, 3), (32, 0, 0, 1)]
/-- QuillDesk.lift(II)I -/
def kc_149 : List Instr := [.iload 1, .sipush 1, .sipush 40, .invokestatic 312206, .ifCond .eq 10, .iload 2, .sipush 0, .sipush 1, .invokestatic 312206, .ifCond .ne 12, .sipush (-1), .ireturn, .aload 0, .checkcast 2572, .aload 0, .checkcast 2560, .checkcast 538, .iload 1, .iload 2, .invokevirtual 212186, .ireturn]
def kr_149 : List (Nat × Nat × Nat × Nat) := [(0, 0, 0, 1), (1, 0, 0, 1), (2, 0, 0, 2), (4, 453, 71, 3), (7, 0, 0, 3), (10, 0, 0, 1), (11, 0, 0, 1), (12, 0, 0, 1), (13, 453, 71, 3), (16, 0, 0, 3), (19, 0, 0, 1), (20, 0, 0, 1), (21, 0, 0, 1), (22, 422, 47, 3), (25, 0, 0, 1), (26, 416, 12, 3), (29, 269, 353, 3), (32, 0, 0, 1), (33, 0, 0, 1), (34, 1028, 356, 3), (37, 0, 0, 1)]
/-- QuillDesk.heir(I)I -/
def kc_150 : List Instr := [.iload 1, .sipush (-1), .if_icmp .ne 8, .aload 0, .checkcast 2560, .checkcast 540, .invokevirtual 158140, .goto 15, .aload 0, .checkcast 2560, .checkcast 540, .iload 1, .sipush 1, .sipush 50, .invokevirtual 156146, .ireturn]
def kr_150 : List (Nat × Nat × Nat × Nat) := [(0, 0, 0, 1), (1, 0, 0, 1), (2, 0, 0, 3), (5, 0, 0, 1), (6, 416, 12, 3), (9, 271, 359, 3), (12, 872, 276, 3), (15, 0, 0, 3), (18, 0, 0, 1), (19, 416, 12, 3), (22, 271, 359, 3), (25, 0, 0, 1), (26, 0, 0, 1), (27, 0, 0, 2), (29, 876, 281, 3), (32, 0, 0, 1)]
/-- QuillDesk.seal(II)I -/
def kc_151 : List Instr := [.iload 1, .sipush 0, .sipush 200, .invokestatic 312206, .ifCond .eq 15, .iload 2, .sipush (-1), .aload 0, .checkcast 2560, .checkcast 540, .getfield 1796, .sipush 1, .isub, .invokestatic 312206, .ifCond .ne 17, .sipush (-1), .ireturn, .iload 2, .sipush (-1), .if_icmp .ne 28, .aload 0, .checkcast 2572, .aload 0, .checkcast 2560, .checkcast 540, .iload 1, .invokevirtual 220184, .goto 36, .aload 0, .checkcast 2572, .aload 0, .checkcast 2560, .checkcast 540, .iload 1, .iload 2, .invokevirtual 218186, .ireturn]
def kr_151 : List (Nat × Nat × Nat × Nat) := [(0, 0, 0, 1), (1, 0, 0, 1), (2, 0, 0, 3), (5, 453, 71, 3), (8, 0, 0, 3), (11, 0, 0, 1), (12, 0, 0, 1), (13, 0, 0, 1), (14, 416, 12, 3), (17, 271, 359, 3), (20, 234, 362, 3), (23, 0, 0, 1), (24, 0, 0, 1), (25, 453, 71, 3), (28, 0, 0, 3), (31, 0, 0, 1), (32, 0, 0, 1), (33, 0, 0, 1), (34, 0, 0, 1), (35, 0, 0, 3), (38, 0, 0, 1), (39, 422, 47, 3), (42, 0, 0, 1), (43, 416, 12, 3), (46, 271, 359, 3), (49, 0, 0, 1), (50, 1044, 363, 3), (53, 0, 0, 3), (56, 0, 0, 1), (57, 422, 47, 3), (60, 0, 0, 1), (61, 416, 12, 3), (64, 271, 359, 3), (67, 0, 0, 1), (68, 0, 0, 1), (69, 1056, 366, 3), (72, 0, 0, 1)]
/-- QuillDesk.game(II)I -/
def kc_152 : List Instr := [.iload 1, .sipush 0, .sipush 4095, .invokestatic 312206, .ifCond .eq 10, .iload 2, .sipush 0, .sipush 1, .invokestatic 312206, .ifCond .ne 12, .sipush (-10), .ireturn, .iload 2, .ifCond .ne 19, .aload 0, .checkcast 2574, .iload 1, .invokevirtual 8022, .goto 23, .aload 0, .checkcast 2574, .iload 1, .invokevirtual 10022, .ireturn]
def kr_152 : List (Nat × Nat × Nat × Nat) := [(0, 0, 0, 1), (1, 0, 0, 1), (2, 0, 0, 3), (5, 453, 71, 3), (8, 0, 0, 3), (11, 0, 0, 1), (12, 0, 0, 1), (13, 0, 0, 1), (14, 453, 71, 3), (17, 0, 0, 3), (20, 0, 0, 2), (22, 0, 0, 1), (23, 0, 0, 1), (24, 0, 0, 3), (27, 0, 0, 1), (28, 423, 54, 3), (31, 0, 0, 1), (32, 1064, 369, 3), (35, 0, 0, 3), (38, 0, 0, 1), (39, 423, 54, 3), (42, 0, 0, 1), (43, 1079, 372, 3), (46, 0, 0, 1)]
/-- QuillDesk.undo()Z -/
def kc_153 : List Instr := [.aload 0, .checkcast 2566, .aload 0, .checkcast 2560, .checkcast 512, .aload 0, .checkcast 2560, .checkcast 514, .invokevirtual 98104, .ireturn]
def kr_153 : List (Nat × Nat × Nat × Nat) := [(0, 0, 0, 1), (1, 419, 26, 3), (4, 0, 0, 1), (5, 416, 12, 3), (8, 243, 58, 3), (11, 0, 0, 1), (12, 416, 12, 3), (15, 245, 128, 3), (18, 1088, 375, 3), (21, 0, 0, 1)]
/-- QuillDesk.image(Z)Z -/
def kc_154 : List Instr := [.iload 1, .ifCond .eq 12, .aload 0, .checkcast 2562, .aload 0, .checkcast 2560, .invokevirtual 18043, .aload 0, .sipush 1, .putfield 2565, .sipush 1, .ireturn, .aload 0, .getfield 2564, .ifCond .ne 17, .sipush 0, .ireturn, .aload 0, .checkcast 2560, .aload 0, .checkcast 2562, .invokevirtual 18043, .aload 0, .checkcast 2566, .invokevirtual 100101, .sipush 1, .ireturn]
def kr_154 : List (Nat × Nat × Nat × Nat) := [(0, 0, 0, 1), (1, 0, 0, 3), (4, 0, 0, 1), (5, 417, 16, 3), (8, 0, 0, 1), (9, 416, 12, 3), (12, 1096, 379, 3), (15, 0, 0, 1), (16, 0, 0, 1), (17, 418, 19, 3), (20, 0, 0, 1), (21, 0, 0, 1), (22, 0, 0, 1), (23, 418, 19, 3), (26, 0, 0, 3), (29, 0, 0, 1), (30, 0, 0, 1), (31, 0, 0, 1), (32, 416, 12, 3), (35, 0, 0, 1), (36, 417, 16, 3), (39, 1096, 379, 3), (42, 0, 0, 1), (43, 419, 26, 3), (46, 445, 65, 3), (49, 0, 0, 1), (50, 0, 0, 1)]
/-- QuillDesk.look(I)I -/
def kc_155 : List Instr := [.aload 0, .checkcast 2560, .checkcast 512, .astore 2, .iload 1, .tableswitch 57 0 12 #[6, 9, 12, 15, 18, 21, 24, 29, 32, 38, 43, 48, 53], .aload 2, .getfield 774, .ireturn, .aload 2, .getfield 776, .ireturn, .aload 2, .getfield 778, .ireturn, .aload 2, .getfield 770, .ireturn, .aload 2, .invokevirtual 56060, .ireturn, .aload 2, .getfield 772, .ireturn, .aload 0, .checkcast 2560, .checkcast 514, .getfield 8, .ireturn, .aload 2, .getfield 768, .ireturn, .aload 0, .checkcast 2560, .checkcast 516, .checkcast 1024, .getfield 2056, .ireturn, .aload 0, .checkcast 2560, .checkcast 518, .getfield 2056, .ireturn, .aload 0, .checkcast 2560, .checkcast 520, .getfield 2056, .ireturn, .aload 0, .checkcast 2560, .checkcast 522, .getfield 2056, .ireturn, .aload 0, .checkcast 2566, .getfield 1286, .ireturn, .sipush (-100000), .ireturn]
def kr_155 : List (Nat × Nat × Nat × Nat) := [(0, 0, 0, 1), (1, 416, 12, 3), (4, 243, 58, 3), (7, 0, 0, 1), (8, 0, 0, 1), (9, 0, 0, 67), (76, 0, 0, 1), (77, 49, 68, 3), (80, 0, 0, 1), (81, 0, 0, 1), (82, 52, 88, 3), (85, 0, 0, 1), (86, 0, 0, 1), (87, 56, 106, 3), (90, 0, 0, 1), (91, 0, 0, 1), (92, 44, 247, 3), (95, 0, 0, 1), (96, 0, 0, 1), (97, 839, 250, 3), (100, 0, 0, 1), (101, 0, 0, 1), (102, 46, 145, 3), (105, 0, 0, 1), (106, 0, 0, 1), (107, 416, 12, 3), (110, 245, 128, 3), (113, 147, 132, 3), (116, 0, 0, 1), (117, 0, 0, 1), (118, 41, 61, 3), (121, 0, 0, 1), (122, 0, 0, 1), (123, 416, 12, 3), (126, 247, 162, 3), (129, 200, 173, 3), (132, 187, 177, 3), (135, 0, 0, 1), (136, 0, 0, 1), (137, 416, 12, 3), (140, 249, 180, 3), (143, 187, 177, 3), (146, 0, 0, 1), (147, 0, 0, 1), (148, 416, 12, 3), (151, 251, 183, 3), (154, 187, 177, 3), (157, 0, 0, 1), (158, 0, 0, 1), (159, 416, 12, 3), (162, 253, 186, 3), (165, 187, 177, 3), (168, 0, 0, 1), (169, 0, 0, 1), (170, 419, 26, 3), (173, 316, 382, 3), (176, 0, 0, 1), (177, 1118, 383, 3), (180, 0, 0, 1)]
/-- QuillDesk.within(III)Z -/
def kc_156 : List Instr := [.iload 0, .iload 1, .if_icmp .lt 8, .iload 0, .iload 2, .if_icmp .gt 8, .sipush 1, .goto 9, .sipush 0, .ireturn]
def kr_156 : List (Nat × Nat × Nat × Nat) := [(0, 0, 0, 1), (1, 0, 0, 1), (2, 0, 0, 3), (5, 0, 0, 1), (6, 0, 0, 1), (7, 0, 0, 3), (10, 0, 0, 1), (11, 0, 0, 3), (14, 0, 0, 1), (15, 0, 0, 1)]
/-- QuillDeskModel.<init>()V -/
def kc_157 : List Instr := [.aload 0, .monitorexit, .aload 0, .sipush 110, .newarray .int, .putstatic 2818, .aload 0, .sipush 660, .newarray .int, .putstatic 2820, .aload 0, .sipush 110, .newarray .int, .putstatic 2824, .aload 0, .sipush 14, .newarray .int, .putstatic 2834, .aload 0, .sipush 10, .newarray .int, .putstatic 2836, .aload 0, .sipush 12, .newarray .int, .putstatic 2838, .aload 0, .sipush 600, .newarray .int, .putstatic 2840, .aload 0, .sipush 400, .newarray .int, .putstatic 2842, .aload 0, .sipush 138, .newarray .int, .dup, .sipush 0, .sipush 32, .iastore, .dup, .sipush 1, .sipush 119, .iastore, .dup, .sipush 2, .sipush 114, .iastore, .dup, .sipush 3, .sipush 105, .iastore, .dup, .sipush 4, .sipush 116, .iastore, .dup, .sipush 5, .sipush 101, .iastore, .dup, .sipush 6, .sipush 115, .iastore, .dup, .sipush 7, .sipush 32, .iastore, .dup, .sipush 8, .sipush 98, .iastore, .dup, .sipush 9, .sipush 108, .iastore, .dup, .sipush 10, .sipush 111, .iastore, .dup, .sipush 11, .sipush 116, .iastore, .dup, .sipush 12, .sipush 115, .iastore, .dup, .sipush 13, .sipush 32, .iastore, .dup, .sipush 14, .sipush 108, .iastore, .dup, .sipush 15, .sipush 105, .iastore, .dup, .sipush 16, .sipush 102, .iastore, .dup, .sipush 17, .sipush 116, .iastore, .dup, .sipush 18, .sipush 115, .iastore, .dup, .sipush 19, .sipush 32, .iastore, .dup, .sipush 20, .sipush 119, .iastore, .dup, .sipush 21, .sipush 104, .iastore, .dup, .sipush 22, .sipush 101, .iastore, .dup, .sipush 23, .sipush 110, .iastore, .dup, .sipush 24, .sipush 32, .iastore, .dup, .sipush 25, .sipush 111, .iastore, .dup, .sipush 26, .sipush 114, .iastore, .dup, .sipush 27, .sipush 32, .iastore, .dup, .sipush 28, .sipush 97, .iastore, .dup, .sipush 29, .sipush 110, .iastore, .dup, .sipush 30, .sipush 100, .iastore, .dup, .sipush 31, .sipush 32, .iastore, .dup, .sipush 32, .sipush 110, .iastore, .dup, .sipush 33, .sipush 111, .iastore, .dup, .sipush 34, .sipush 116, .iastore, .dup, .sipush 35, .sipush 32, .iastore, .dup, .sipush 36, .sipush 104, .iastore, .dup, .sipush 37, .sipush 97, .iastore, .dup, .sipush 38, .sipush 110, .iastore, .dup, .sipush 39, .sipush 100, .iastore, .dup, .sipush 40, .sipush 32, .iastore, .dup, .sipush 41, .sipush 105, .iastore, .dup, .sipush 42, .sipush 110, .iastore, .dup, .sipush 43, .sipush 107, .iastore, .dup, .sipush 44, .sipush 32, .iastore, .dup, .sipush 45, .sipush 119, .iastore, .dup, .sipush 46, .sipush 111, .iastore, .dup, .sipush 47, .sipush 114, .iastore, .dup, .sipush 48, .sipush 110, .iastore, .dup, .sipush 49, .sipush 32, .iastore, .dup, .sipush 50, .sipush 119, .iastore, .dup, .sipush 51, .sipush 105, .iastore, .dup, .sipush 52, .sipush 108, .iastore, .dup, .sipush 53, .sipush 100, .iastore, .dup, .sipush 54, .sipush 32, .iastore, .dup, .sipush 55, .sipush 102, .iastore, .dup, .sipush 56, .sipush 105, .iastore, .dup, .sipush 57, .sipush 110, .iastore, .dup, .sipush 58, .sipush 101, .iastore, .dup, .sipush 59, .sipush 32, .iastore, .dup, .sipush 60, .sipush 108, .iastore, .dup, .sipush 61, .sipush 101, .iastore, .dup, .sipush 62, .sipush 102, .iastore, .dup, .sipush 63, .sipush 116, .iastore, .dup, .sipush 64, .sipush 32, .iastore, .dup, .sipush 65, .sipush 115, .iastore, .dup, .sipush 66, .sipush 105, .iastore, .dup, .sipush 67, .sipush 103, .iastore, .dup, .sipush 68, .sipush 110, .iastore, .dup, .sipush 69, .sipush 101, .iastore, .dup, .sipush 70, .sipush 100, .iastore, .dup, .sipush 71, .sipush 32, .iastore, .dup, .sipush 72, .sipush 108, .iastore, .dup, .sipush 73, .sipush 105, .iastore, .dup, .sipush 74, .sipush 102, .iastore, .dup, .sipush 75, .sipush 116, .iastore, .dup, .sipush 76, .sipush 101, .iastore, .dup, .sipush 77, .sipush 100, .iastore, .dup, .sipush 78, .sipush 32, .iastore, .dup, .sipush 79, .sipush 98, .iastore, .dup, .sipush 80, .sipush 105, .iastore, .dup, .sipush 81, .sipush 114, .iastore, .dup, .sipush 82, .sipush 100, .iastore, .dup, .sipush 83, .sipush 32, .iastore, .dup, .sipush 84, .sipush 100, .iastore, .dup, .sipush 85, .sipush 101, .iastore, .dup, .sipush 86, .sipush 101, .iastore, .dup, .sipush 87, .sipush 100, .iastore, .dup, .sipush 88, .sipush 32, .iastore, .dup, .sipush 89, .sipush 104, .iastore, .dup, .sipush 90, .sipush 111, .iastore, .dup, .sipush 91, .sipush 117, .iastore, .dup, .sipush 92, .sipush 114, .iastore, .dup, .sipush 93, .sipush 32, .iastore, .dup, .sipush 94, .sipush 97, .iastore, .dup, .sipush 95, .sipush 116, .iastore, .dup, .sipush 96, .sipush 32, .iastore, .dup, .sipush 97, .sipush 99, .iastore, .dup, .sipush 98, .sipush 108, .iastore, .dup, .sipush 99, .sipush 101, .iastore, .dup, .sipush 100, .sipush 114, .iastore, .dup, .sipush 101, .sipush 107, .iastore, .dup, .sipush 102, .sipush 32, .iastore, .dup, .sipush 103, .sipush 116, .iastore, .dup, .sipush 104, .sipush 97, .iastore, .dup, .sipush 105, .sipush 107, .iastore, .dup, .sipush 106, .sipush 101, .iastore, .dup, .sipush 107, .sipush 32, .iastore, .dup, .sipush 108, .sipush 100, .iastore, .dup, .sipush 109, .sipush 114, .iastore, .dup, .sipush 110, .sipush 111, .iastore, .dup, .sipush 111, .sipush 112, .iastore, .dup, .sipush 112, .sipush 32, .iastore, .dup, .sipush 113, .sipush 119, .iastore, .dup, .sipush 114, .sipush 114, .iastore, .dup, .sipush 115, .sipush 105, .iastore, .dup, .sipush 116, .sipush 116, .iastore, .dup, .sipush 117, .sipush 101, .iastore, .dup, .sipush 118, .sipush 32, .iastore, .dup, .sipush 119, .sipush 114, .iastore, .dup, .sipush 120, .sipush 101, .iastore, .dup, .sipush 121, .sipush 115, .iastore, .dup, .sipush 122, .sipush 116, .iastore, .dup, .sipush 123, .sipush 32, .iastore, .dup, .sipush 124, .sipush 100, .iastore, .dup, .sipush 125, .sipush 105, .iastore, .dup, .sipush 126, .sipush 112, .iastore, .dup, .sipush 127, .sipush 32, .iastore, .dup, .sipush 128, .sipush 99, .iastore, .dup, .sipush 129, .sipush 117, .iastore, .dup, .sipush 130, .sipush 116, .iastore, .dup, .sipush 131, .sipush 32, .iastore, .dup, .sipush 132, .sipush 97, .iastore, .dup, .sipush 133, .sipush 102, .iastore, .dup, .sipush 134, .sipush 116, .iastore, .dup, .sipush 135, .sipush 101, .iastore, .dup, .sipush 136, .sipush 114, .iastore, .dup, .sipush 137, .sipush 32, .iastore, .putstatic 2854, .aload 0, .sipush 2, .newarray .int, .putstatic 2856, .aload 0, .sipush 48, .newarray .int, .putstatic 2858, .aload 0, .sipush 48, .newarray .int, .putstatic 2860, .aload 0, .sipush 48, .newarray .int, .putstatic 2862, .aload 0, .sipush 48, .newarray .int, .putstatic 2864, .aload 0, .sipush 1200, .newarray .int, .putstatic 2866, .aload 0, .sipush 1200, .newarray .int, .putstatic 2868, .aload 0, .sipush 40, .newarray .int, .putstatic 2876, .aload 0, .sipush (-1), .putfield 2886, .aload 0, .sipush 128, .newarray .int, .putstatic 2890, .aload 0, .sipush 16, .newarray .int, .putstatic 2894, .aload 0, .sipush 16, .newarray .int, .putstatic 2896, .aload 0, .sipush 24, .newarray .int, .putstatic 2900, .aload 0, .sipush 11, .newarray .int, .putstatic 2902, .aload 0, .sipush 420, .newarray .int, .putstatic 2904, .aload 0, .sipush 12, .newarray .int, .putstatic 2906, .aload 0, .sipush 144, .newarray .int, .putstatic 2908, .aload 0, .sipush 10, .newarray .int, .putstatic 2912, .aload 0, .sipush 11, .newarray .int, .putstatic 2914, .aload 0, .sipush 11, .newarray .int, .putstatic 2916, .aload 0, .sipush 4, .newarray .int, .putstatic 2920, .aload 0, .sipush 2001, .newarray .int, .putstatic 2922, .aload 0, .sipush 12, .newarray .int, .putstatic 2924, .aload 0, .sipush 3, .newarray .int, .putstatic 2926, .aload 0, .sipush 3, .newarray .int, .putstatic 2928, .aload 0, .sipush 9, .newarray .int, .putstatic 2936, .aload 0, .sipush 81, .newarray .int, .putstatic 2938, .aload 0, .sipush 12, .newarray .int, .putstatic 2942, .aload 0, .sipush 10, .newarray .int, .putstatic 2946, .aload 0, .sipush 8, .newarray .int, .putstatic 2950, .aload 0, .sipush 40, .newarray .int, .putstatic 2952, .aload 0, .sipush 6, .newarray .int, .putstatic 2956, .aload 0, .sipush 4096, .newarray .int, .putstatic 2958, .aload 0, .sipush 2200, .newarray .int, .putstatic 2966, .return_]
def kr_157 : List (Nat × Nat × Nat × Nat) := [(0, 0, 0, 1), (1, 1124, 1, 3), (4, 0, 0, 1), (5, 0, 0, 2), (7, 0, 0, 2), (9, 1126, 7, 3), (12, 0, 0, 1), (13, 0, 0, 3), (16, 0, 0, 2), (18, 1127, 13, 3), (21, 0, 0, 1), (22, 0, 0, 2), (24, 0, 0, 2), (26, 1129, 16, 3), (29, 0, 0, 1), (30, 0, 0, 2), (32, 0, 0, 2), (34, 1134, 19, 3), (37, 0, 0, 1), (38, 0, 0, 2), (40, 0, 0, 2), (42, 1135, 22, 3), (45, 0, 0, 1), (46, 0, 0, 2), (48, 0, 0, 2), (50, 1136, 25, 3), (53, 0, 0, 1), (54, 0, 0, 3), (57, 0, 0, 2), (59, 1137, 28, 3), (62, 0, 0, 1), (63, 0, 0, 3), (66, 0, 0, 2), (68, 1138, 31, 3), (71, 0, 0, 1), (72, 0, 0, 3), (75, 0, 0, 2), (77, 0, 0, 1), (78, 0, 0, 1), (79, 0, 0, 2), (81, 0, 0, 1), (82, 0, 0, 1), (83, 0, 0, 1), (84, 0, 0, 2), (86, 0, 0, 1), (87, 0, 0, 1), (88, 0, 0, 1), (89, 0, 0, 2), (91, 0, 0, 1), (92, 0, 0, 1), (93, 0, 0, 1), (94, 0, 0, 2), (96, 0, 0, 1), (97, 0, 0, 1), (98, 0, 0, 1), (99, 0, 0, 2), (101, 0, 0, 1), (102, 0, 0, 1), (103, 0, 0, 1), (104, 0, 0, 2), (106, 0, 0, 1), (107, 0, 0, 1), (108, 0, 0, 2), (110, 0, 0, 2), (112, 0, 0, 1), (113, 0, 0, 1), (114, 0, 0, 2), (116, 0, 0, 2), (118, 0, 0, 1), (119, 0, 0, 1), (120, 0, 0, 2), (122, 0, 0, 2), (124, 0, 0, 1), (125, 0, 0, 1), (126, 0, 0, 2), (128, 0, 0, 2), (130, 0, 0, 1), (131, 0, 0, 1), (132, 0, 0, 2), (134, 0, 0, 2), (136, 0, 0, 1), (137, 0, 0, 1), (138, 0, 0, 2), (140, 0, 0, 2), (142, 0, 0, 1), (143, 0, 0, 1), (144, 0, 0, 2), (146, 0, 0, 2), (148, 0, 0, 1), (149, 0, 0, 1), (150, 0, 0, 2), (152, 0, 0, 2), (154, 0, 0, 1), (155, 0, 0, 1), (156, 0, 0, 2), (158, 0, 0, 2), (160, 0, 0, 1), (161, 0, 0, 1), (162, 0, 0, 2), (164, 0, 0, 2), (166, 0, 0, 1), (167, 0, 0, 1), (168, 0, 0, 2), (170, 0, 0, 2), (172, 0, 0, 1), (173, 0, 0, 1), (174, 0, 0, 2), (176, 0, 0, 2), (178, 0, 0, 1), (179, 0, 0, 1), (180, 0, 0, 2), (182, 0, 0, 2), (184, 0, 0, 1), (185, 0, 0, 1), (186, 0, 0, 2), (188, 0, 0, 2), (190, 0, 0, 1), (191, 0, 0, 1), (192, 0, 0, 2), (194, 0, 0, 2), (196, 0, 0, 1), (197, 0, 0, 1), (198, 0, 0, 2), (200, 0, 0, 2), (202, 0, 0, 1), (203, 0, 0, 1), (204, 0, 0, 2), (206, 0, 0, 2), (208, 0, 0, 1), (209, 0, 0, 1), (210, 0, 0, 2), (212, 0, 0, 2), (214, 0, 0, 1), (215, 0, 0, 1), (216, 0, 0, 2), (218, 0, 0, 2), (220, 0, 0, 1), (221, 0, 0, 1), (222, 0, 0, 2), (224, 0, 0, 2), (226, 0, 0, 1), (227, 0, 0, 1), (228, 0, 0, 2), (230, 0, 0, 2), (232, 0, 0, 1), (233, 0, 0, 1), (234, 0, 0, 2), (236, 0, 0, 2), (238, 0, 0, 1), (239, 0, 0, 1), (240, 0, 0, 2), (242, 0, 0, 2), (244, 0, 0, 1), (245, 0, 0, 1), (246, 0, 0, 2), (248, 0, 0, 2), (250, 0, 0, 1), (251, 0, 0, 1), (252, 0, 0, 2), (254, 0, 0, 2), (256, 0, 0, 1), (257, 0, 0, 1), (258, 0, 0, 2), (260, 0, 0, 2), (262, 0, 0, 1), (263, 0, 0, 1), (264, 0, 0, 2), (266, 0, 0, 2), (268, 0, 0, 1), (269, 0, 0, 1), (270, 0, 0, 2), (272, 0, 0, 2), (274, 0, 0, 1), (275, 0, 0, 1), (276, 0, 0, 2), (278, 0, 0, 2), (280, 0, 0, 1), (281, 0, 0, 1), (282, 0, 0, 2), (284, 0, 0, 2), (286, 0, 0, 1), (287, 0, 0, 1), (288, 0, 0, 2), (290, 0, 0, 2), (292, 0, 0, 1), (293, 0, 0, 1), (294, 0, 0, 2), (296, 0, 0, 2), (298, 0, 0, 1), (299, 0, 0, 1), (300, 0, 0, 2), (302, 0, 0, 2), (304, 0, 0, 1), (305, 0, 0, 1), (306, 0, 0, 2), (308, 0, 0, 2), (310, 0, 0, 1), (311, 0, 0, 1), (312, 0, 0, 2), (314, 0, 0, 2), (316, 0, 0, 1), (317, 0, 0, 1), (318, 0, 0, 2), (320, 0, 0, 2), (322, 0, 0, 1), (323, 0, 0, 1), (324, 0, 0, 2), (326, 0, 0, 2), (328, 0, 0, 1), (329, 0, 0, 1), (330, 0, 0, 2), (332, 0, 0, 2), (334, 0, 0, 1), (335, 0, 0, 1), (336, 0, 0, 2), (338, 0, 0, 2), (340, 0, 0, 1), (341, 0, 0, 1), (342, 0, 0, 2), (344, 0, 0, 2), (346, 0, 0, 1), (347, 0, 0, 1), (348, 0, 0, 2), (350, 0, 0, 2), (352, 0, 0, 1), (353, 0, 0, 1), (354, 0, 0, 2), (356, 0, 0, 2), (358, 0, 0, 1), (359, 0, 0, 1), (360, 0, 0, 2), (362, 0, 0, 2), (364, 0, 0, 1), (365, 0, 0, 1), (366, 0, 0, 2), (368, 0, 0, 2), (370, 0, 0, 1), (371, 0, 0, 1), (372, 0, 0, 2), (374, 0, 0, 2), (376, 0, 0, 1), (377, 0, 0, 1), (378, 0, 0, 2), (380, 0, 0, 2), (382, 0, 0, 1), (383, 0, 0, 1), (384, 0, 0, 2), (386, 0, 0, 2), (388, 0, 0, 1), (389, 0, 0, 1), (390, 0, 0, 2), (392, 0, 0, 2), (394, 0, 0, 1), (395, 0, 0, 1), (396, 0, 0, 2), (398, 0, 0, 2), (400, 0, 0, 1), (401, 0, 0, 1), (402, 0, 0, 2), (404, 0, 0, 2), (406, 0, 0, 1), (407, 0, 0, 1), (408, 0, 0, 2), (410, 0, 0, 2), (412, 0, 0, 1), (413, 0, 0, 1), (414, 0, 0, 2), (416, 0, 0, 2), (418, 0, 0, 1), (419, 0, 0, 1), (420, 0, 0, 2), (422, 0, 0, 2), (424, 0, 0, 1), (425, 0, 0, 1), (426, 0, 0, 2), (428, 0, 0, 2), (430, 0, 0, 1), (431, 0, 0, 1), (432, 0, 0, 2), (434, 0, 0, 2), (436, 0, 0, 1), (437, 0, 0, 1), (438, 0, 0, 2), (440, 0, 0, 2), (442, 0, 0, 1), (443, 0, 0, 1), (444, 0, 0, 2), (446, 0, 0, 2), (448, 0, 0, 1), (449, 0, 0, 1), (450, 0, 0, 2), (452, 0, 0, 2), (454, 0, 0, 1), (455, 0, 0, 1), (456, 0, 0, 2), (458, 0, 0, 2), (460, 0, 0, 1), (461, 0, 0, 1), (462, 0, 0, 2), (464, 0, 0, 2), (466, 0, 0, 1), (467, 0, 0, 1), (468, 0, 0, 2), (470, 0, 0, 2), (472, 0, 0, 1), (473, 0, 0, 1), (474, 0, 0, 2), (476, 0, 0, 2), (478, 0, 0, 1), (479, 0, 0, 1), (480, 0, 0, 2), (482, 0, 0, 2), (484, 0, 0, 1), (485, 0, 0, 1), (486, 0, 0, 2), (488, 0, 0, 2), (490, 0, 0, 1), (491, 0, 0, 1), (492, 0, 0, 2), (494, 0, 0, 2), (496, 0, 0, 1), (497, 0, 0, 1), (498, 0, 0, 2), (500, 0, 0, 2), (502, 0, 0, 1), (503, 0, 0, 1), (504, 0, 0, 2), (506, 0, 0, 2), (508, 0, 0, 1), (509, 0, 0, 1), (510, 0, 0, 2), (512, 0, 0, 2), (514, 0, 0, 1), (515, 0, 0, 1), (516, 0, 0, 2), (518, 0, 0, 2), (520, 0, 0, 1), (521, 0, 0, 1), (522, 0, 0, 2), (524, 0, 0, 2), (526, 0, 0, 1), (527, 0, 0, 1), (528, 0, 0, 2), (530, 0, 0, 2), (532, 0, 0, 1), (533, 0, 0, 1), (534, 0, 0, 2), (536, 0, 0, 2), (538, 0, 0, 1), (539, 0, 0, 1), (540, 0, 0, 2), (542, 0, 0, 2), (544, 0, 0, 1), (545, 0, 0, 1), (546, 0, 0, 2), (548, 0, 0, 2), (550, 0, 0, 1), (551, 0, 0, 1), (552, 0, 0, 2), (554, 0, 0, 2), (556, 0, 0, 1), (557, 0, 0, 1), (558, 0, 0, 2), (560, 0, 0, 2), (562, 0, 0, 1), (563, 0, 0, 1), (564, 0, 0, 2), (566, 0, 0, 2), (568, 0, 0, 1), (569, 0, 0, 1), (570, 0, 0, 2), (572, 0, 0, 2), (574, 0, 0, 1), (575, 0, 0, 1), (576, 0, 0, 2), (578, 0, 0, 2), (580, 0, 0, 1), (581, 0, 0, 1), (582, 0, 0, 2), (584, 0, 0, 2), (586, 0, 0, 1), (587, 0, 0, 1), (588, 0, 0, 2), (590, 0, 0, 2), (592, 0, 0, 1), (593, 0, 0, 1), (594, 0, 0, 2), (596, 0, 0, 2), (598, 0, 0, 1), (599, 0, 0, 1), (600, 0, 0, 2), (602, 0, 0, 2), (604, 0, 0, 1), (605, 0, 0, 1), (606, 0, 0, 2), (608, 0, 0, 2), (610, 0, 0, 1), (611, 0, 0, 1), (612, 0, 0, 2), (614, 0, 0, 2), (616, 0, 0, 1), (617, 0, 0, 1), (618, 0, 0, 2), (620, 0, 0, 2), (622, 0, 0, 1), (623, 0, 0, 1), (624, 0, 0, 2), (626, 0, 0, 2), (628, 0, 0, 1), (629, 0, 0, 1), (630, 0, 0, 2), (632, 0, 0, 2), (634, 0, 0, 1), (635, 0, 0, 1), (636, 0, 0, 2), (638, 0, 0, 2), (640, 0, 0, 1), (641, 0, 0, 1), (642, 0, 0, 2), (644, 0, 0, 2), (646, 0, 0, 1), (647, 0, 0, 1), (648, 0, 0, 2), (650, 0, 0, 2), (652, 0, 0, 1), (653, 0, 0, 1), (654, 0, 0, 2), (656, 0, 0, 2), (658, 0, 0, 1), (659, 0, 0, 1), (660, 0, 0, 2), (662, 0, 0, 2), (664, 0, 0, 1), (665, 0, 0, 1), (666, 0, 0, 2), (668, 0, 0, 2), (670, 0, 0, 1), (671, 0, 0, 1), (672, 0, 0, 2), (674, 0, 0, 2), (676, 0, 0, 1), (677, 0, 0, 1), (678, 0, 0, 2), (680, 0, 0, 2), (682, 0, 0, 1), (683, 0, 0, 1), (684, 0, 0, 2), (686, 0, 0, 2), (688, 0, 0, 1), (689, 0, 0, 1), (690, 0, 0, 2), (692, 0, 0, 2), (694, 0, 0, 1), (695, 0, 0, 1), (696, 0, 0, 2), (698, 0, 0, 2), (700, 0, 0, 1), (701, 0, 0, 1), (702, 0, 0, 2), (704, 0, 0, 2), (706, 0, 0, 1), (707, 0, 0, 1), (708, 0, 0, 2), (710, 0, 0, 2), (712, 0, 0, 1), (713, 0, 0, 1), (714, 0, 0, 2), (716, 0, 0, 2), (718, 0, 0, 1), (719, 0, 0, 1), (720, 0, 0, 2), (722, 0, 0, 2), (724, 0, 0, 1), (725, 0, 0, 1), (726, 0, 0, 2), (728, 0, 0, 2), (730, 0, 0, 1), (731, 0, 0, 1), (732, 0, 0, 2), (734, 0, 0, 2), (736, 0, 0, 1), (737, 0, 0, 1), (738, 0, 0, 2), (740, 0, 0, 2), (742, 0, 0, 1), (743, 0, 0, 1), (744, 0, 0, 2), (746, 0, 0, 2), (748, 0, 0, 1), (749, 0, 0, 1), (750, 0, 0, 2), (752, 0, 0, 2), (754, 0, 0, 1), (755, 0, 0, 1), (756, 0, 0, 2), (758, 0, 0, 2), (760, 0, 0, 1), (761, 0, 0, 1), (762, 0, 0, 2), (764, 0, 0, 2), (766, 0, 0, 1), (767, 0, 0, 1), (768, 0, 0, 2), (770, 0, 0, 2), (772, 0, 0, 1), (773, 0, 0, 1), (774, 0, 0, 2), (776, 0, 0, 2), (778, 0, 0, 1), (779, 0, 0, 1), (780, 0, 0, 2), (782, 0, 0, 2), (784, 0, 0, 1), (785, 0, 0, 1), (786, 0, 0, 2), (788, 0, 0, 2), (790, 0, 0, 1), (791, 0, 0, 1), (792, 0, 0, 2), (794, 0, 0, 2), (796, 0, 0, 1), (797, 0, 0, 1), (798, 0, 0, 2), (800, 0, 0, 2), (802, 0, 0, 1), (803, 0, 0, 1), (804, 0, 0, 2), (806, 0, 0, 2), (808, 0, 0, 1), (809, 0, 0, 1), (810, 0, 0, 2), (812, 0, 0, 2), (814, 0, 0, 1), (815, 0, 0, 1), (816, 0, 0, 2), (818, 0, 0, 2), (820, 0, 0, 1), (821, 0, 0, 1), (822, 0, 0, 2), (824, 0, 0, 2), (826, 0, 0, 1), (827, 0, 0, 1), (828, 0, 0, 2), (830, 0, 0, 2), (832, 0, 0, 1), (833, 0, 0, 1), (834, 0, 0, 2), (836, 0, 0, 2), (838, 0, 0, 1), (839, 0, 0, 1), (840, 0, 0, 3), (843, 0, 0, 2), (845, 0, 0, 1), (846, 0, 0, 1), (847, 0, 0, 3), (850, 0, 0, 2), (852, 0, 0, 1), (853, 0, 0, 1), (854, 0, 0, 3), (857, 0, 0, 2), (859, 0, 0, 1), (860, 0, 0, 1), (861, 0, 0, 3), (864, 0, 0, 2), (866, 0, 0, 1), (867, 0, 0, 1), (868, 0, 0, 3), (871, 0, 0, 2), (873, 0, 0, 1), (874, 0, 0, 1), (875, 0, 0, 3), (878, 0, 0, 2), (880, 0, 0, 1), (881, 0, 0, 1), (882, 0, 0, 3), (885, 0, 0, 2), (887, 0, 0, 1), (888, 0, 0, 1), (889, 0, 0, 3), (892, 0, 0, 2), (894, 0, 0, 1), (895, 0, 0, 1), (896, 0, 0, 3), (899, 0, 0, 2), (901, 0, 0, 1), (902, 0, 0, 1), (903, 0, 0, 3), (906, 0, 0, 2), (908, 0, 0, 1), (909, 1144, 34, 3), (912, 0, 0, 1), (913, 0, 0, 1), (914, 0, 0, 2), (916, 1145, 37, 3), (919, 0, 0, 1), (920, 0, 0, 2), (922, 0, 0, 2), (924, 1146, 40, 3), (927, 0, 0, 1), (928, 0, 0, 2), (930, 0, 0, 2), (932, 1147, 43, 3), (935, 0, 0, 1), (936, 0, 0, 2), (938, 0, 0, 2), (940, 1148, 46, 3), (943, 0, 0, 1), (944, 0, 0, 2), (946, 0, 0, 2), (948, 1149, 49, 3), (951, 0, 0, 1), (952, 0, 0, 3), (955, 0, 0, 2), (957, 1150, 52, 3), (960, 0, 0, 1), (961, 0, 0, 3), (964, 0, 0, 2), (966, 1151, 55, 3), (969, 0, 0, 1), (970, 0, 0, 2), (972, 0, 0, 2), (974, 1155, 58, 3), (977, 0, 0, 1), (978, 0, 0, 1), (979, 1160, 61, 3), (982, 0, 0, 1), (983, 0, 0, 3), (986, 0, 0, 2), (988, 1162, 65, 3), (991, 0, 0, 1), (992, 0, 0, 2), (994, 0, 0, 2), (996, 1164, 68, 3), (999, 0, 0, 1), (1000, 0, 0, 2), (1002, 0, 0, 2), (1004, 1165, 71, 3), (1007, 0, 0, 1), (1008, 0, 0, 2), (1010, 0, 0, 2), (1012, 1167, 74, 3), (1015, 0, 0, 1), (1016, 0, 0, 2), (1018, 0, 0, 2), (1020, 1168, 77, 3), (1023, 0, 0, 1), (1024, 0, 0, 3), (1027, 0, 0, 2), (1029, 1169, 80, 3), (1032, 0, 0, 1), (1033, 0, 0, 2), (1035, 0, 0, 2), (1037, 1170, 83, 3), (1040, 0, 0, 1), (1041, 0, 0, 3), (1044, 0, 0, 2), (1046, 1171, 86, 3), (1049, 0, 0, 1), (1050, 0, 0, 2), (1052, 0, 0, 2), (1054, 1173, 89, 3), (1057, 0, 0, 1), (1058, 0, 0, 2), (1060, 0, 0, 2), (1062, 1174, 92, 3), (1065, 0, 0, 1), (1066, 0, 0, 2), (1068, 0, 0, 2), (1070, 1175, 95, 3), (1073, 0, 0, 1), (1074, 0, 0, 1), (1075, 0, 0, 2), (1077, 1177, 98, 3), (1080, 0, 0, 1), (1081, 0, 0, 3), (1084, 0, 0, 2), (1086, 1178, 101, 3), (1089, 0, 0, 1), (1090, 0, 0, 2), (1092, 0, 0, 2), (1094, 1179, 104, 3), (1097, 0, 0, 1), (1098, 0, 0, 1), (1099, 0, 0, 2), (1101, 1180, 107, 3), (1104, 0, 0, 1), (1105, 0, 0, 1), (1106, 0, 0, 2), (1108, 1181, 110, 3), (1111, 0, 0, 1), (1112, 0, 0, 2), (1114, 0, 0, 2), (1116, 1185, 113, 3), (1119, 0, 0, 1), (1120, 0, 0, 2), (1122, 0, 0, 2), (1124, 1186, 116, 3), (1127, 0, 0, 1), (1128, 0, 0, 2), (1130, 0, 0, 2), (1132, 1188, 119, 3), (1135, 0, 0, 1), (1136, 0, 0, 2), (1138, 0, 0, 2), (1140, 1190, 122, 3), (1143, 0, 0, 1), (1144, 0, 0, 2), (1146, 0, 0, 2), (1148, 1192, 125, 3), (1151, 0, 0, 1), (1152, 0, 0, 2), (1154, 0, 0, 2), (1156, 1193, 128, 3), (1159, 0, 0, 1), (1160, 0, 0, 2), (1162, 0, 0, 2), (1164, 1195, 131, 3), (1167, 0, 0, 1), (1168, 0, 0, 3), (1171, 0, 0, 2), (1173, 1196, 134, 3), (1176, 0, 0, 1), (1177, 0, 0, 3), (1180, 0, 0, 2), (1182, 1200, 137, 3), (1185, 0, 0, 1)]
/-- QuillDeskModel.isIn(III)Z -/
def kc_158 : List Instr := [.iload 1, .iload 2, .if_icmp .lt 8, .iload 1, .iload 3, .if_icmp .gt 8, .sipush 1, .goto 9, .sipush 0, .ireturn]
def kr_158 : List (Nat × Nat × Nat × Nat) := [(0, 0, 0, 1), (1, 0, 0, 1), (2, 0, 0, 3), (5, 0, 0, 1), (6, 0, 0, 1), (7, 0, 0, 3), (10, 0, 0, 1), (11, 0, 0, 3), (14, 0, 0, 1), (15, 0, 0, 1)]
/-- QuillDeskModel.held(III)I -/
def kc_159 : List Instr := [.iload 1, .iload 2, .if_icmp .ge 5, .iload 2, .goto 11, .iload 1, .iload 3, .if_icmp .le 10, .iload 3, .goto 11, .iload 1, .ireturn]
def kr_159 : List (Nat × Nat × Nat × Nat) := [(0, 0, 0, 1), (1, 0, 0, 1), (2, 0, 0, 3), (5, 0, 0, 1), (6, 0, 0, 3), (9, 0, 0, 1), (10, 0, 0, 1), (11, 0, 0, 3), (14, 0, 0, 1), (15, 0, 0, 3), (18, 0, 0, 1), (19, 0, 0, 1)]
/-- QuillDeskModel.greater(II)I -/
def kc_160 : List Instr := [.iload 1, .iload 2, .if_icmp .le 5, .iload 1, .goto 6, .iload 2, .ireturn]
def kr_160 : List (Nat × Nat × Nat × Nat) := [(0, 0, 0, 1), (1, 0, 0, 1), (2, 0, 0, 3), (5, 0, 0, 1), (6, 0, 0, 3), (9, 0, 0, 1), (10, 0, 0, 1)]
/-- QuillDeskModel.lesser(II)I -/
def kc_161 : List Instr := [.iload 1, .iload 2, .if_icmp .ge 5, .iload 1, .goto 6, .iload 2, .ireturn]
def kr_161 : List (Nat × Nat × Nat × Nat) := [(0, 0, 0, 1), (1, 0, 0, 1), (2, 0, 0, 3), (5, 0, 0, 1), (6, 0, 0, 3), (9, 0, 0, 1), (10, 0, 0, 1)]
/-- QuillDeskModel.plain(I)I -/
def kc_162 : List Instr := [.iload 1, .ifCond .ge 5, .iload 1, .ineg, .goto 6, .iload 1, .ireturn]
def kr_162 : List (Nat × Nat × Nat × Nat) := [(0, 0, 0, 1), (1, 0, 0, 3), (4, 0, 0, 1), (5, 0, 0, 1), (6, 0, 0, 3), (9, 0, 0, 1), (10, 0, 0, 1)]
/-- QuillDeskModel.common(II)I -/
def kc_163 : List Instr := [.aload 0, .iload 1, .invokevirtual 324222, .istore 3, .aload 0, .iload 2, .invokevirtual 324222, .istore 4, .iload 4, .ifCond .eq 19, .iload 3, .iload 4, .irem, .istore 5, .iload 4, .istore 3, .iload 5, .istore 4, .goto 8, .iload 3, .ireturn]
def kr_163 : List (Nat × Nat × Nat × Nat) := [(0, 0, 0, 1), (1, 0, 0, 1), (2, 1745, 143, 3), (5, 0, 0, 1), (6, 0, 0, 1), (7, 0, 0, 1), (8, 1745, 143, 3), (11, 0, 0, 2), (13, 0, 0, 2), (15, 0, 0, 3), (18, 0, 0, 1), (19, 0, 0, 2), (21, 0, 0, 1), (22, 0, 0, 2), (24, 0, 0, 2), (26, 0, 0, 1), (27, 0, 0, 2), (29, 0, 0, 2), (31, 0, 0, 3), (34, 0, 0, 1), (35, 0, 0, 1)]
/-- QuillDeskModel.onesOf(I)I -/
def kc_164 : List Instr := [.sipush 0, .istore 2, .iload 1, .istore 3, .iload 3, .ifCond .eq 17, .iload 2, .sipush 1, .iadd, .istore 2, .iload 3, .iload 3, .sipush 1, .isub, .iand, .istore 3, .goto 4, .iload 2, .ireturn]
def kr_164 : List (Nat × Nat × Nat × Nat) := [(0, 0, 0, 1), (1, 0, 0, 1), (2, 0, 0, 1), (3, 0, 0, 1), (4, 0, 0, 1), (5, 0, 0, 3), (8, 0, 0, 1), (9, 0, 0, 1), (10, 0, 0, 1), (11, 0, 0, 1), (12, 0, 0, 1), (13, 0, 0, 1), (14, 0, 0, 1), (15, 0, 0, 1), (16, 0, 0, 1), (17, 0, 0, 1), (18, 0, 0, 3), (21, 0, 0, 1), (22, 0, 0, 1)]
/-- QuillDeskModel.has(II)Z -/
def kc_165 : List Instr := [.iload 1, .iload 2, .ishr, .sipush 1, .iand, .sipush 1, .if_icmp .ne 9, .sipush 1, .goto 10, .sipush 0, .ireturn]
def kr_165 : List (Nat × Nat × Nat × Nat) := [(0, 0, 0, 1), (1, 0, 0, 1), (2, 0, 0, 1), (3, 0, 0, 1), (4, 0, 0, 1), (5, 0, 0, 1), (6, 0, 0, 3), (9, 0, 0, 1), (10, 0, 0, 3), (13, 0, 0, 1), (14, 0, 0, 1)]
/-- QuillDeskModel.keepsAhead()V -/
def kc_166 : List Instr := [.aload 0, .getfield 2822, .sipush 6, .if_icmp .ne 30, .aload 0, .aload 0, .getfield 2822, .sipush 1, .isub, .putfield 2822, .sipush 0, .istore 1, .iload 1, .sipush 110, .aload 0, .getfield 2822, .imul, .if_icmp .ge 30, .aload 0, .checkcast 2820, .iload 1, .aload 0, .checkcast 2820, .iload 1, .sipush 110, .iadd, .iaload, .iastore, .iinc 1 1, .goto 12, .sipush 0, .istore 1, .iload 1, .sipush 110, .if_icmp .ge 50, .aload 0, .checkcast 2820, .sipush 110, .aload 0, .getfield 2822, .imul, .iload 1, .iadd, .aload 0, .checkcast 2818, .iload 1, .iaload, .iastore, .iinc 1 1, .goto 32, .aload 0, .aload 0, .getfield 2822, .sipush 1, .iadd, .putfield 2822, .return_]
def kr_166 : List (Nat × Nat × Nat × Nat) := [(0, 0, 0, 1), (1, 1128, 147, 3), (4, 0, 0, 2), (6, 0, 0, 3), (9, 0, 0, 1), (10, 0, 0, 1), (11, 1128, 147, 3), (14, 0, 0, 1), (15, 0, 0, 1), (16, 1128, 147, 3), (19, 0, 0, 1), (20, 0, 0, 1), (21, 0, 0, 1), (22, 0, 0, 2), (24, 0, 0, 1), (25, 1128, 147, 3), (28, 0, 0, 1), (29, 0, 0, 3), (32, 0, 0, 1), (33, 1127, 13, 3), (36, 0, 0, 1), (37, 0, 0, 1), (38, 1127, 13, 3), (41, 0, 0, 1), (42, 0, 0, 2), (44, 0, 0, 1), (45, 0, 0, 1), (46, 0, 0, 1), (47, 0, 0, 3), (50, 0, 0, 3), (53, 0, 0, 1), (54, 0, 0, 1), (55, 0, 0, 1), (56, 0, 0, 2), (58, 0, 0, 3), (61, 0, 0, 1), (62, 1127, 13, 3), (65, 0, 0, 2), (67, 0, 0, 1), (68, 1128, 147, 3), (71, 0, 0, 1), (72, 0, 0, 1), (73, 0, 0, 1), (74, 0, 0, 1), (75, 1126, 7, 3), (78, 0, 0, 1), (79, 0, 0, 1), (80, 0, 0, 1), (81, 0, 0, 3), (84, 0, 0, 3), (87, 0, 0, 1), (88, 0, 0, 1), (89, 1128, 147, 3), (92, 0, 0, 1), (93, 0, 0, 1), (94, 1128, 147, 3), (97, 0, 0, 1)]
/-- QuillDeskModel.undo()Z -/
def kc_167 : List Instr := [.aload 0, .sipush 0, .putfield 2816, .aload 0, .getfield 2822, .ifCond .ne 8, .sipush 0, .ireturn, .aload 0, .aload 0, .getfield 2822, .sipush 1, .isub, .putfield 2822, .sipush 0, .istore 1, .iload 1, .sipush 110, .if_icmp .ge 34, .aload 0, .checkcast 2818, .iload 1, .aload 0, .checkcast 2820, .sipush 110, .aload 0, .getfield 2822, .imul, .iload 1, .iadd, .iaload, .iastore, .iinc 1 1, .goto 16, .sipush 1, .ireturn]
def kr_167 : List (Nat × Nat × Nat × Nat) := [(0, 0, 0, 1), (1, 0, 0, 1), (2, 1125, 140, 3), (5, 0, 0, 1), (6, 1128, 147, 3), (9, 0, 0, 3), (12, 0, 0, 1), (13, 0, 0, 1), (14, 0, 0, 1), (15, 0, 0, 1), (16, 1128, 147, 3), (19, 0, 0, 1), (20, 0, 0, 1), (21, 1128, 147, 3), (24, 0, 0, 1), (25, 0, 0, 1), (26, 0, 0, 1), (27, 0, 0, 2), (29, 0, 0, 3), (32, 0, 0, 1), (33, 1126, 7, 3), (36, 0, 0, 1), (37, 0, 0, 1), (38, 1127, 13, 3), (41, 0, 0, 2), (43, 0, 0, 1), (44, 1128, 147, 3), (47, 0, 0, 1), (48, 0, 0, 1), (49, 0, 0, 1), (50, 0, 0, 1), (51, 0, 0, 1), (52, 0, 0, 3), (55, 0, 0, 3), (58, 0, 0, 1), (59, 0, 0, 1)]
/-- QuillDeskModel.thinks()V -/
def kc_168 : List Instr := [.sipush 0, .istore 1, .iload 1, .sipush 110, .if_icmp .ge 15, .aload 0, .checkcast 2824, .iload 1, .aload 0, .checkcast 2818, .iload 1, .iaload, .iastore, .iinc 1 1, .goto 2, .aload 0, .sipush 1, .putfield 2827, .return_]
def kr_168 : List (Nat × Nat × Nat × Nat) := [(0, 0, 0, 1), (1, 0, 0, 1), (2, 0, 0, 1), (3, 0, 0, 2), (5, 0, 0, 3), (8, 0, 0, 1), (9, 1129, 16, 3), (12, 0, 0, 1), (13, 0, 0, 1), (14, 1126, 7, 3), (17, 0, 0, 1), (18, 0, 0, 1), (19, 0, 0, 1), (20, 0, 0, 3), (23, 0, 0, 3), (26, 0, 0, 1), (27, 0, 0, 1), (28, 1130, 150, 3), (31, 0, 0, 1)]
/-- QuillDeskModel.endsThought()V -/
def kc_169 : List Instr := [.sipush 0, .istore 1, .iload 1, .sipush 110, .if_icmp .ge 15, .aload 0, .checkcast 2818, .iload 1, .aload 0, .checkcast 2824, .iload 1, .iaload, .iastore, .iinc 1 1, .goto 2, .aload 0, .sipush 0, .putfield 2827, .return_]
def kr_169 : List (Nat × Nat × Nat × Nat) := [(0, 0, 0, 1), (1, 0, 0, 1), (2, 0, 0, 1), (3, 0, 0, 2), (5, 0, 0, 3), (8, 0, 0, 1), (9, 1126, 7, 3), (12, 0, 0, 1), (13, 0, 0, 1), (14, 1129, 16, 3), (17, 0, 0, 1), (18, 0, 0, 1), (19, 0, 0, 1), (20, 0, 0, 3), (23, 0, 0, 3), (26, 0, 0, 1), (27, 0, 0, 1), (28, 1130, 150, 3), (31, 0, 0, 1)]
/-- QuillDeskModel.state(I)I -/
def kc_170 : List Instr := [.aload 0, .sipush 0, .putfield 2816, .aload 0, .checkcast 2818, .sipush 1, .iaload, .istore 2, .aload 0, .checkcast 2818, .sipush 1, .iload 1, .iastore, .aload 0, .sipush 0, .putfield 2822, .iload 2, .ireturn]
def kr_170 : List (Nat × Nat × Nat × Nat) := [(0, 0, 0, 1), (1, 0, 0, 1), (2, 1125, 140, 3), (5, 0, 0, 1), (6, 1126, 7, 3), (9, 0, 0, 1), (10, 0, 0, 1), (11, 0, 0, 1), (12, 0, 0, 1), (13, 1126, 7, 3), (16, 0, 0, 1), (17, 0, 0, 1), (18, 0, 0, 1), (19, 0, 0, 1), (20, 0, 0, 1), (21, 1128, 147, 3), (24, 0, 0, 1), (25, 0, 0, 1)]
/-- QuillDeskModel.draw(I)I -/
def kc_171 : List Instr := [.aload 0, .checkcast 2818, .sipush 1, .sipush 1664525, .aload 0, .checkcast 2818, .sipush 1, .iaload, .imul, .sipush 1013904223, .iadd, .iastore, .aload 0, .checkcast 2818, .sipush 1, .iaload, .sipush 8, .iushr, .iload 1, .irem, .ireturn]
def kr_171 : List (Nat × Nat × Nat × Nat) := [(0, 0, 0, 1), (1, 1126, 7, 3), (4, 0, 0, 1), (5, 1642, 154, 2), (7, 0, 0, 1), (8, 1126, 7, 3), (11, 0, 0, 1), (12, 0, 0, 1), (13, 0, 0, 1), (14, 1643, 155, 2), (16, 0, 0, 1), (17, 0, 0, 1), (18, 0, 0, 1), (19, 1126, 7, 3), (22, 0, 0, 1), (23, 0, 0, 1), (24, 0, 0, 2), (26, 0, 0, 1), (27, 0, 0, 1), (28, 0, 0, 1), (29, 0, 0, 1)]
/-- QuillDeskModel.isQuill(I)Z -/
def kc_172 : List Instr := [.iload 1, .ifCond .lt 8, .iload 1, .aload 0, .getfield 2828, .if_icmp .ge 8, .sipush 1, .goto 9, .sipush 0, .ireturn]
def kr_172 : List (Nat × Nat × Nat × Nat) := [(0, 0, 0, 1), (1, 0, 0, 3), (4, 0, 0, 1), (5, 0, 0, 1), (6, 1131, 156, 3), (9, 0, 0, 3), (12, 0, 0, 1), (13, 0, 0, 3), (16, 0, 0, 1), (17, 0, 0, 1)]
/-- QuillDeskModel.isClerk(I)Z -/
def kc_173 : List Instr := [.iload 1, .ifCond .lt 8, .iload 1, .aload 0, .getfield 2830, .if_icmp .ge 8, .sipush 1, .goto 9, .sipush 0, .ireturn]
def kr_173 : List (Nat × Nat × Nat × Nat) := [(0, 0, 0, 1), (1, 0, 0, 3), (4, 0, 0, 1), (5, 0, 0, 1), (6, 1132, 159, 3), (9, 0, 0, 3), (12, 0, 0, 1), (13, 0, 0, 3), (16, 0, 0, 1), (17, 0, 0, 1)]
/-- QuillDeskModel.isDeed(I)Z -/
def kc_174 : List Instr := [.iload 1, .ifCond .lt 8, .iload 1, .aload 0, .getfield 2832, .if_icmp .ge 8, .sipush 1, .goto 9, .sipush 0, .ireturn]
def kr_174 : List (Nat × Nat × Nat × Nat) := [(0, 0, 0, 1), (1, 0, 0, 3), (4, 0, 0, 1), (5, 0, 0, 1), (6, 1133, 162, 3), (9, 0, 0, 3), (12, 0, 0, 1), (13, 0, 0, 3), (16, 0, 0, 1), (17, 0, 0, 1)]
/-- QuillDeskModel.holds(I)I -/
def kc_175 : List Instr := [.aload 0, .checkcast 2818, .sipush 46, .iload 1, .iadd, .iaload, .sipush 1, .isub, .ireturn]
def kr_175 : List (Nat × Nat × Nat × Nat) := [(0, 0, 0, 1), (1, 1126, 7, 3), (4, 0, 0, 2), (6, 0, 0, 1), (7, 0, 0, 1), (8, 0, 0, 1), (9, 0, 0, 1), (10, 0, 0, 1), (11, 0, 0, 1)]
/-- QuillDeskModel.atDeed(I)I -/
def kc_176 : List Instr := [.aload 0, .checkcast 2818, .sipush 56, .iload 1, .iadd, .iaload, .sipush 1, .isub, .ireturn]
def kr_176 : List (Nat × Nat × Nat × Nat) := [(0, 0, 0, 1), (1, 1126, 7, 3), (4, 0, 0, 2), (6, 0, 0, 1), (7, 0, 0, 1), (8, 0, 0, 1), (9, 0, 0, 1), (10, 0, 0, 1), (11, 0, 0, 1)]
/-- QuillDeskModel.isGone(I)Z -/
def kc_177 : List Instr := [.aload 0, .checkcast 2818, .sipush 32, .iload 1, .iadd, .iaload, .sipush 1, .if_icmp .ne 10, .sipush 1, .goto 11, .sipush 0, .ireturn]
def kr_177 : List (Nat × Nat × Nat × Nat) := [(0, 0, 0, 1), (1, 1126, 7, 3), (4, 0, 0, 2), (6, 0, 0, 1), (7, 0, 0, 1), (8, 0, 0, 1), (9, 0, 0, 1), (10, 0, 0, 3), (13, 0, 0, 1), (14, 0, 0, 3), (17, 0, 0, 1), (18, 0, 0, 1)]
/-- QuillDeskModel.isDone(I)Z -/
def kc_178 : List Instr := [.aload 0, .checkcast 2818, .sipush 98, .iload 1, .iadd, .iaload, .ifCond .le 9, .sipush 1, .goto 10, .sipush 0, .ireturn]
def kr_178 : List (Nat × Nat × Nat × Nat) := [(0, 0, 0, 1), (1, 1126, 7, 3), (4, 0, 0, 2), (6, 0, 0, 1), (7, 0, 0, 1), (8, 0, 0, 1), (9, 0, 0, 3), (12, 0, 0, 1), (13, 0, 0, 3), (16, 0, 0, 1), (17, 0, 0, 1)]
/-- QuillDeskModel.whoHolds(I)I -/
def kc_179 : List Instr := [.sipush 0, .istore 2, .iload 2, .aload 0, .getfield 2830, .if_icmp .ge 15, .aload 0, .iload 2, .invokevirtual 350222, .iload 1, .if_icmp .ne 13, .iload 2, .ireturn, .iinc 2 1, .goto 2, .sipush (-1), .ireturn]
def kr_179 : List (Nat × Nat × Nat × Nat) := [(0, 0, 0, 1), (1, 0, 0, 1), (2, 0, 0, 1), (3, 0, 0, 1), (4, 1132, 159, 3), (7, 0, 0, 3), (10, 0, 0, 1), (11, 0, 0, 1), (12, 1546, 165, 3), (15, 0, 0, 1), (16, 0, 0, 3), (19, 0, 0, 1), (20, 0, 0, 1), (21, 0, 0, 3), (24, 0, 0, 3), (27, 0, 0, 1), (28, 0, 0, 1)]
/-- QuillDeskModel.doneSet()I -/
def kc_180 : List Instr := [.sipush 0, .istore 1, .sipush 0, .istore 2, .iload 2, .aload 0, .getfield 2832, .if_icmp .ge 20, .aload 0, .iload 2, .invokevirtual 356222, .ifCond .eq 18, .iload 1, .sipush 1, .iload 2, .ishl, .ior, .istore 1, .iinc 2 1, .goto 4, .iload 1, .ireturn]
def kr_180 : List (Nat × Nat × Nat × Nat) := [(0, 0, 0, 1), (1, 0, 0, 1), (2, 0, 0, 1), (3, 0, 0, 1), (4, 0, 0, 1), (5, 0, 0, 1), (6, 1133, 162, 3), (9, 0, 0, 3), (12, 0, 0, 1), (13, 0, 0, 1), (14, 1570, 168, 3), (17, 0, 0, 3), (20, 0, 0, 1), (21, 0, 0, 1), (22, 0, 0, 1), (23, 0, 0, 1), (24, 0, 0, 1), (25, 0, 0, 1), (26, 0, 0, 3), (29, 0, 0, 3), (32, 0, 0, 1), (33, 0, 0, 1)]
/-- QuillDeskModel.canBeWritten(I)Z -/
def kc_181 : List Instr := [.aload 0, .iload 1, .invokevirtual 356222, .ifCond .ne 16, .aload 0, .checkcast 2900, .iload 1, .iaload, .aload 0, .invokevirtual 360220, .sipush (-1), .ixor, .iand, .ifCond .ne 16, .sipush 1, .goto 17, .sipush 0, .ireturn]
def kr_181 : List (Nat × Nat × Nat × Nat) := [(0, 0, 0, 1), (1, 0, 0, 1), (2, 1570, 168, 3), (5, 0, 0, 3), (8, 0, 0, 1), (9, 1167, 74, 3), (12, 0, 0, 1), (13, 0, 0, 1), (14, 0, 0, 1), (15, 1594, 172, 3), (18, 0, 0, 1), (19, 0, 0, 1), (20, 0, 0, 1), (21, 0, 0, 3), (24, 0, 0, 1), (25, 0, 0, 3), (28, 0, 0, 1), (29, 0, 0, 1)]
/-- QuillDeskModel.quill(II)I -/
def kc_182 : List Instr := [.aload 0, .sipush 0, .putfield 2816, .aload 0, .iload 1, .sipush 0, .sipush 7, .invokevirtual 316226, .ifCond .eq 19, .aload 0, .iload 2, .sipush 0, .sipush 99, .invokevirtual 316226, .ifCond .eq 19, .aload 0, .getfield 2828, .sipush 14, .if_icmp .ne 21, .sipush (-1), .ireturn, .aload 0, .checkcast 2834, .aload 0, .getfield 2828, .iload 1, .iastore, .aload 0, .checkcast 2818, .sipush 4, .aload 0, .getfield 2828, .iadd, .iload 2, .iastore, .aload 0, .checkcast 2818, .sipush 18, .aload 0, .getfield 2828, .iadd, .sipush 0, .iastore, .aload 0, .checkcast 2818, .sipush 32, .aload 0, .getfield 2828, .iadd, .sipush 0, .iastore, .aload 0, .aload 0, .getfield 2828, .sipush 1, .iadd, .putfield 2828, .aload 0, .sipush 0, .putfield 2822, .aload 0, .getfield 2828, .sipush 1, .isub, .ireturn]
def kr_182 : List (Nat × Nat × Nat × Nat) := [(0, 0, 0, 1), (1, 0, 0, 1), (2, 1125, 140, 3), (5, 0, 0, 1), (6, 0, 0, 1), (7, 0, 0, 1), (8, 0, 0, 2), (10, 1366, 176, 3), (13, 0, 0, 3), (16, 0, 0, 1), (17, 0, 0, 1), (18, 0, 0, 1), (19, 0, 0, 2), (21, 1366, 176, 3), (24, 0, 0, 3), (27, 0, 0, 1), (28, 1131, 156, 3), (31, 0, 0, 2), (33, 0, 0, 3), (36, 0, 0, 1), (37, 0, 0, 1), (38, 0, 0, 1), (39, 1134, 19, 3), (42, 0, 0, 1), (43, 1131, 156, 3), (46, 0, 0, 1), (47, 0, 0, 1), (48, 0, 0, 1), (49, 1126, 7, 3), (52, 0, 0, 1), (53, 0, 0, 1), (54, 1131, 156, 3), (57, 0, 0, 1), (58, 0, 0, 1), (59, 0, 0, 1), (60, 0, 0, 1), (61, 1126, 7, 3), (64, 0, 0, 2), (66, 0, 0, 1), (67, 1131, 156, 3), (70, 0, 0, 1), (71, 0, 0, 1), (72, 0, 0, 1), (73, 0, 0, 1), (74, 1126, 7, 3), (77, 0, 0, 2), (79, 0, 0, 1), (80, 1131, 156, 3), (83, 0, 0, 1), (84, 0, 0, 1), (85, 0, 0, 1), (86, 0, 0, 1), (87, 0, 0, 1), (88, 1131, 156, 3), (91, 0, 0, 1), (92, 0, 0, 1), (93, 1131, 156, 3), (96, 0, 0, 1), (97, 0, 0, 1), (98, 1128, 147, 3), (101, 0, 0, 1), (102, 1131, 156, 3), (105, 0, 0, 1), (106, 0, 0, 1), (107, 0, 0, 1)]
/-- QuillDeskModel.clerk(I)I -/
def kc_183 : List Instr := [.aload 0, .sipush 0, .putfield 2816, .aload 0, .iload 1, .sipush 0, .sipush 9, .invokevirtual 316226, .ifCond .eq 13, .aload 0, .getfield 2830, .sipush 10, .if_icmp .ne 15, .sipush (-1), .ireturn, .aload 0, .checkcast 2836, .aload 0, .getfield 2830, .iload 1, .iastore, .sipush 46, .istore 2, .iload 2, .sipush 86, .if_icmp .ge 39, .aload 0, .checkcast 2818, .iload 2, .aload 0, .getfield 2830, .iadd, .sipush 0, .iastore, .iload 2, .sipush 10, .iadd, .istore 2, .goto 23, .aload 0, .aload 0, .getfield 2830, .sipush 1, .iadd, .putfield 2830, .aload 0, .sipush 0, .putfield 2822, .aload 0, .getfield 2830, .sipush 1, .isub, .ireturn]
def kr_183 : List (Nat × Nat × Nat × Nat) := [(0, 0, 0, 1), (1, 0, 0, 1), (2, 1125, 140, 3), (5, 0, 0, 1), (6, 0, 0, 1), (7, 0, 0, 1), (8, 0, 0, 2), (10, 1366, 176, 3), (13, 0, 0, 3), (16, 0, 0, 1), (17, 1132, 159, 3), (20, 0, 0, 2), (22, 0, 0, 3), (25, 0, 0, 1), (26, 0, 0, 1), (27, 0, 0, 1), (28, 1135, 22, 3), (31, 0, 0, 1), (32, 1132, 159, 3), (35, 0, 0, 1), (36, 0, 0, 1), (37, 0, 0, 2), (39, 0, 0, 1), (40, 0, 0, 1), (41, 0, 0, 2), (43, 0, 0, 3), (46, 0, 0, 1), (47, 1126, 7, 3), (50, 0, 0, 1), (51, 0, 0, 1), (52, 1132, 159, 3), (55, 0, 0, 1), (56, 0, 0, 1), (57, 0, 0, 1), (58, 0, 0, 1), (59, 0, 0, 2), (61, 0, 0, 1), (62, 0, 0, 1), (63, 0, 0, 3), (66, 0, 0, 1), (67, 0, 0, 1), (68, 1132, 159, 3), (71, 0, 0, 1), (72, 0, 0, 1), (73, 1132, 159, 3), (76, 0, 0, 1), (77, 0, 0, 1), (78, 1128, 147, 3), (81, 0, 0, 1), (82, 1132, 159, 3), (85, 0, 0, 1), (86, 0, 0, 1), (87, 0, 0, 1)]
/-- QuillDeskModel.deed(I)I -/
def kc_184 : List Instr := [.aload 0, .sipush 0, .putfield 2816, .aload 0, .iload 1, .sipush 1, .sipush 99, .invokevirtual 316226, .ifCond .eq 13, .aload 0, .getfield 2832, .sipush 12, .if_icmp .ne 15, .sipush (-1), .ireturn, .aload 0, .checkcast 2838, .aload 0, .getfield 2832, .iload 1, .iastore, .aload 0, .checkcast 2818, .sipush 86, .aload 0, .getfield 2832, .iadd, .sipush 0, .iastore, .aload 0, .checkcast 2818, .sipush 98, .aload 0, .getfield 2832, .iadd, .sipush 0, .iastore, .aload 0, .aload 0, .getfield 2832, .sipush 1, .iadd, .putfield 2832, .aload 0, .sipush 0, .putfield 2822, .aload 0, .getfield 2832, .sipush 1, .isub, .ireturn]
def kr_184 : List (Nat × Nat × Nat × Nat) := [(0, 0, 0, 1), (1, 0, 0, 1), (2, 1125, 140, 3), (5, 0, 0, 1), (6, 0, 0, 1), (7, 0, 0, 1), (8, 0, 0, 2), (10, 1366, 176, 3), (13, 0, 0, 3), (16, 0, 0, 1), (17, 1133, 162, 3), (20, 0, 0, 2), (22, 0, 0, 3), (25, 0, 0, 1), (26, 0, 0, 1), (27, 0, 0, 1), (28, 1136, 25, 3), (31, 0, 0, 1), (32, 1133, 162, 3), (35, 0, 0, 1), (36, 0, 0, 1), (37, 0, 0, 1), (38, 1126, 7, 3), (41, 0, 0, 2), (43, 0, 0, 1), (44, 1133, 162, 3), (47, 0, 0, 1), (48, 0, 0, 1), (49, 0, 0, 1), (50, 0, 0, 1), (51, 1126, 7, 3), (54, 0, 0, 2), (56, 0, 0, 1), (57, 1133, 162, 3), (60, 0, 0, 1), (61, 0, 0, 1), (62, 0, 0, 1), (63, 0, 0, 1), (64, 0, 0, 1), (65, 1133, 162, 3), (68, 0, 0, 1), (69, 0, 0, 1), (70, 1133, 162, 3), (73, 0, 0, 1), (74, 0, 0, 1), (75, 1128, 147, 3), (78, 0, 0, 1), (79, 1133, 162, 3), (82, 0, 0, 1), (83, 0, 0, 1), (84, 0, 0, 1)]
/-- QuillDeskModel.set(III)Z -/
def kc_185 : List Instr := [.aload 0, .sipush 0, .putfield 2816, .iload 1, .sipush 2, .if_icmp .ne 20, .aload 0, .iload 2, .invokevirtual 346222, .ifCond .eq 18, .aload 0, .iload 3, .sipush 0, .sipush 9, .invokevirtual 316226, .ifCond .eq 18, .sipush 1, .goto 39, .sipush 0, .goto 39, .aload 0, .iload 1, .sipush 0, .sipush 1, .invokevirtual 316226, .ifCond .eq 38, .aload 0, .iload 2, .invokevirtual 344222, .ifCond .eq 38, .aload 0, .iload 3, .sipush 0, .sipush 99, .invokevirtual 316226, .ifCond .eq 38, .sipush 1, .goto 39, .sipush 0, .istore 4, .iload 4, .ifCond .ne 44, .sipush 0, .ireturn, .iload 1, .ifCond .ne 53, .aload 0, .checkcast 2818, .sipush 4, .iload 2, .iadd, .iload 3, .iastore, .iload 1, .sipush 1, .if_icmp .ne 63, .aload 0, .checkcast 2818, .sipush 18, .iload 2, .iadd, .iload 3, .iastore, .iload 1, .sipush 2, .if_icmp .ne 71, .aload 0, .checkcast 2836, .iload 2, .iload 3, .iastore, .aload 0, .sipush 0, .putfield 2822, .sipush 1, .ireturn]
def kr_185 : List (Nat × Nat × Nat × Nat) := [(0, 0, 0, 1), (1, 0, 0, 1), (2, 1125, 140, 3), (5, 0, 0, 1), (6, 0, 0, 1), (7, 0, 0, 3), (10, 0, 0, 1), (11, 0, 0, 1), (12, 1382, 180, 3), (15, 0, 0, 3), (18, 0, 0, 1), (19, 0, 0, 1), (20, 0, 0, 1), (21, 0, 0, 2), (23, 1366, 176, 3), (26, 0, 0, 3), (29, 0, 0, 1), (30, 0, 0, 3), (33, 0, 0, 1), (34, 0, 0, 3), (37, 0, 0, 1), (38, 0, 0, 1), (39, 0, 0, 1), (40, 0, 0, 1), (41, 1366, 176, 3), (44, 0, 0, 3), (47, 0, 0, 1), (48, 0, 0, 1), (49, 1386, 183, 3), (52, 0, 0, 3), (55, 0, 0, 1), (56, 0, 0, 1), (57, 0, 0, 1), (58, 0, 0, 2), (60, 1366, 176, 3), (63, 0, 0, 3), (66, 0, 0, 1), (67, 0, 0, 3), (70, 0, 0, 1), (71, 0, 0, 2), (73, 0, 0, 2), (75, 0, 0, 3), (78, 0, 0, 1), (79, 0, 0, 1), (80, 0, 0, 1), (81, 0, 0, 3), (84, 0, 0, 1), (85, 1126, 7, 3), (88, 0, 0, 1), (89, 0, 0, 1), (90, 0, 0, 1), (91, 0, 0, 1), (92, 0, 0, 1), (93, 0, 0, 1), (94, 0, 0, 1), (95, 0, 0, 3), (98, 0, 0, 1), (99, 1126, 7, 3), (102, 0, 0, 2), (104, 0, 0, 1), (105, 0, 0, 1), (106, 0, 0, 1), (107, 0, 0, 1), (108, 0, 0, 1), (109, 0, 0, 1), (110, 0, 0, 3), (113, 0, 0, 1), (114, 1135, 22, 3), (117, 0, 0, 1), (118, 0, 0, 1), (119, 0, 0, 1), (120, 0, 0, 1), (121, 0, 0, 1), (122, 1128, 147, 3), (125, 0, 0, 1), (126, 0, 0, 1)]
/-- QuillDeskModel.types(I)V -/
def kc_186 : List Instr := [.sipush 24, .istore 2, .iload 2, .ifCond .lt 22, .aload 0, .checkcast 2842, .aload 0, .getfield 2844, .iload 1, .iload 2, .ishr, .sipush 255, .iand, .iastore, .aload 0, .aload 0, .getfield 2844, .sipush 1, .iadd, .putfield 2844, .iinc 2 (-8), .goto 2, .return_]
def kr_186 : List (Nat × Nat × Nat × Nat) := [(0, 0, 0, 2), (2, 0, 0, 1), (3, 0, 0, 1), (4, 0, 0, 3), (7, 0, 0, 1), (8, 1138, 31, 3), (11, 0, 0, 1), (12, 1139, 186, 3), (15, 0, 0, 1), (16, 0, 0, 1), (17, 0, 0, 1), (18, 0, 0, 3), (21, 0, 0, 1), (22, 0, 0, 1), (23, 0, 0, 1), (24, 0, 0, 1), (25, 1139, 186, 3), (28, 0, 0, 1), (29, 0, 0, 1), (30, 1139, 186, 3), (33, 0, 0, 3), (36, 0, 0, 3), (39, 0, 0, 1)]
/-- QuillDeskModel.feed(IIIII)I -/
def kc_187 : List Instr := [.aload 0, .sipush 0, .putfield 2816, .aload 0, .getfield 2844, .sipush 380, .if_icmp .le 9, .sipush (-1), .ireturn, .aload 0, .iload 1, .invokevirtual 372223, .aload 0, .iload 2, .invokevirtual 372223, .aload 0, .iload 3, .invokevirtual 372223, .aload 0, .iload 4, .invokevirtual 372223, .aload 0, .iload 5, .invokevirtual 372223, .aload 0, .getfield 2844, .ireturn]
def kr_187 : List (Nat × Nat × Nat × Nat) := [(0, 0, 0, 1), (1, 0, 0, 1), (2, 1125, 140, 3), (5, 0, 0, 1), (6, 1139, 186, 3), (9, 0, 0, 3), (12, 0, 0, 3), (15, 0, 0, 1), (16, 0, 0, 1), (17, 0, 0, 1), (18, 0, 0, 1), (19, 1394, 189, 3), (22, 0, 0, 1), (23, 0, 0, 1), (24, 1394, 189, 3), (27, 0, 0, 1), (28, 0, 0, 1), (29, 1394, 189, 3), (32, 0, 0, 1), (33, 0, 0, 2), (35, 1394, 189, 3), (38, 0, 0, 1), (39, 0, 0, 2), (41, 1394, 189, 3), (44, 0, 0, 1), (45, 1139, 186, 3), (48, 0, 0, 1)]
/-- QuillDeskModel.end(I)Z -/
def kc_188 : List Instr := [.aload 0, .sipush 0, .putfield 2816, .aload 0, .iload 1, .sipush 0, .aload 0, .getfield 2844, .invokevirtual 316226, .ifCond .ne 12, .sipush 0, .ireturn, .aload 0, .iload 1, .putfield 2844, .sipush 1, .ireturn]
def kr_188 : List (Nat × Nat × Nat × Nat) := [(0, 0, 0, 1), (1, 0, 0, 1), (2, 1125, 140, 3), (5, 0, 0, 1), (6, 0, 0, 1), (7, 0, 0, 1), (8, 0, 0, 1), (9, 1139, 186, 3), (12, 1366, 176, 3), (15, 0, 0, 3), (18, 0, 0, 1), (19, 0, 0, 1), (20, 0, 0, 1), (21, 0, 0, 1), (22, 1139, 186, 3), (25, 0, 0, 1), (26, 0, 0, 1)]
/-- QuillDeskModel.raw(I)I -/
def kc_189 : List Instr := [.iload 1, .aload 0, .getfield 2844, .if_icmp .ge 9, .aload 0, .checkcast 2842, .iload 1, .iaload, .goto 10, .sipush (-1), .ireturn]
def kr_189 : List (Nat × Nat × Nat × Nat) := [(0, 0, 0, 1), (1, 0, 0, 1), (2, 1139, 186, 3), (5, 0, 0, 3), (8, 0, 0, 1), (9, 1138, 31, 3), (12, 0, 0, 1), (13, 0, 0, 1), (14, 0, 0, 3), (17, 0, 0, 1), (18, 0, 0, 1)]
/-- QuillDeskModel.isLetter(I)Z -/
def kc_190 : List Instr := [.aload 0, .iload 1, .sipush 97, .sipush 122, .invokevirtual 316226, .ifCond .ne 12, .aload 0, .iload 1, .sipush 65, .sipush 90, .invokevirtual 316226, .ifCond .eq 14, .sipush 1, .goto 15, .sipush 0, .ireturn]
def kr_190 : List (Nat × Nat × Nat × Nat) := [(0, 0, 0, 1), (1, 0, 0, 1), (2, 0, 0, 2), (4, 0, 0, 2), (6, 1366, 176, 3), (9, 0, 0, 3), (12, 0, 0, 1), (13, 0, 0, 1), (14, 0, 0, 2), (16, 0, 0, 2), (18, 1366, 176, 3), (21, 0, 0, 3), (24, 0, 0, 1), (25, 0, 0, 3), (28, 0, 0, 1), (29, 0, 0, 1)]
/-- QuillDeskModel.isDigit(I)Z -/
def kc_191 : List Instr := [.aload 0, .iload 1, .sipush 48, .sipush 57, .invokevirtual 316226, .ireturn]
def kr_191 : List (Nat × Nat × Nat × Nat) := [(0, 0, 0, 1), (1, 0, 0, 1), (2, 0, 0, 2), (4, 0, 0, 2), (6, 1366, 176, 3), (9, 0, 0, 1)]
/-- QuillDeskModel.isMarkSign(I)Z -/
def kc_192 : List Instr := [.iload 1, .sipush 59, .if_icmp .eq 30, .iload 1, .sipush 43, .if_icmp .eq 30, .iload 1, .sipush 45, .if_icmp .eq 30, .iload 1, .sipush 42, .if_icmp .eq 30, .iload 1, .sipush 47, .if_icmp .eq 30, .iload 1, .sipush 40, .if_icmp .eq 30, .iload 1, .sipush 41, .if_icmp .eq 30, .iload 1, .sipush 60, .if_icmp .eq 30, .iload 1, .sipush 61, .if_icmp .eq 30, .iload 1, .sipush 62, .if_icmp .ne 32, .sipush 1, .goto 33, .sipush 0, .ireturn]
def kr_192 : List (Nat × Nat × Nat × Nat) := [(0, 0, 0, 1), (1, 0, 0, 2), (3, 0, 0, 3), (6, 0, 0, 1), (7, 0, 0, 2), (9, 0, 0, 3), (12, 0, 0, 1), (13, 0, 0, 2), (15, 0, 0, 3), (18, 0, 0, 1), (19, 0, 0, 2), (21, 0, 0, 3), (24, 0, 0, 1), (25, 0, 0, 2), (27, 0, 0, 3), (30, 0, 0, 1), (31, 0, 0, 2), (33, 0, 0, 3), (36, 0, 0, 1), (37, 0, 0, 2), (39, 0, 0, 3), (42, 0, 0, 1), (43, 0, 0, 2), (45, 0, 0, 3), (48, 0, 0, 1), (49, 0, 0, 2), (51, 0, 0, 3), (54, 0, 0, 1), (55, 0, 0, 2), (57, 0, 0, 3), (60, 0, 0, 1), (61, 0, 0, 3), (64, 0, 0, 1), (65, 0, 0, 1)]
/-- QuillDeskModel.wordAt(II)I -/
def kc_193 : List Instr := [.sipush (-1), .istore 3, .sipush 0, .istore 4, .iload 4, .sipush 137, .if_icmp .ge 71, .sipush 0, .istore 5, .iload 3, .sipush 1, .iadd, .istore 3, .iload 1, .iload 5, .iadd, .iload 2, .if_icmp .ge 38, .aload 0, .checkcast 2854, .iload 4, .sipush 1, .iadd, .iload 5, .iadd, .iaload, .aload 0, .checkcast 2842, .iload 1, .iload 5, .iadd, .iaload, .if_icmp .ne 38, .iload 5, .sipush 1, .iadd, .istore 5, .goto 13, .iload 1, .iload 5, .iadd, .iload 2, .if_icmp .ne 55, .aload 0, .checkcast 2854, .iload 4, .sipush 1, .iadd, .iload 5, .iadd, .iaload, .sipush 32, .if_icmp .ne 55, .iload 3, .ireturn, .iload 4, .sipush 1, .iadd, .istore 4, .aload 0, .checkcast 2854, .iload 4, .iaload, .sipush 32, .if_icmp .eq 70, .iload 4, .sipush 1, .iadd, .istore 4, .goto 59, .goto 4, .sipush (-1), .ireturn]
def kr_193 : List (Nat × Nat × Nat × Nat) := [(0, 0, 0, 1), (1, 0, 0, 1), (2, 0, 0, 1), (3, 0, 0, 2), (5, 0, 0, 2), (7, 0, 0, 3), (10, 0, 0, 3), (13, 0, 0, 1), (14, 0, 0, 2), (16, 0, 0, 1), (17, 0, 0, 1), (18, 0, 0, 1), (19, 0, 0, 1), (20, 0, 0, 1), (21, 0, 0, 2), (23, 0, 0, 1), (24, 0, 0, 1), (25, 0, 0, 3), (28, 0, 0, 1), (29, 1144, 34, 3), (32, 0, 0, 2), (34, 0, 0, 1), (35, 0, 0, 1), (36, 0, 0, 2), (38, 0, 0, 1), (39, 0, 0, 1), (40, 0, 0, 1), (41, 1138, 31, 3), (44, 0, 0, 1), (45, 0, 0, 2), (47, 0, 0, 1), (48, 0, 0, 1), (49, 0, 0, 3), (52, 0, 0, 2), (54, 0, 0, 1), (55, 0, 0, 1), (56, 0, 0, 2), (58, 0, 0, 3), (61, 0, 0, 1), (62, 0, 0, 2), (64, 0, 0, 1), (65, 0, 0, 1), (66, 0, 0, 3), (69, 0, 0, 1), (70, 1144, 34, 3), (73, 0, 0, 2), (75, 0, 0, 1), (76, 0, 0, 1), (77, 0, 0, 2), (79, 0, 0, 1), (80, 0, 0, 1), (81, 0, 0, 2), (83, 0, 0, 3), (86, 0, 0, 1), (87, 0, 0, 1), (88, 0, 0, 2), (90, 0, 0, 1), (91, 0, 0, 1), (92, 0, 0, 2), (94, 0, 0, 1), (95, 1144, 34, 3), (98, 0, 0, 2), (100, 0, 0, 1), (101, 0, 0, 2), (103, 0, 0, 3), (106, 0, 0, 2), (108, 0, 0, 1), (109, 0, 0, 1), (110, 0, 0, 2), (112, 0, 0, 3), (115, 0, 0, 3), (118, 0, 0, 1), (119, 0, 0, 1)]
/-- QuillDeskModel.reads()V -/
def kc_194 : List Instr := [.aload 0, .aload 0, .getfield 2846, .invokevirtual 378222, .sipush 32, .if_icmp .eq 12, .aload 0, .aload 0, .getfield 2846, .invokevirtual 378222, .sipush 10, .if_icmp .ne 19, .aload 0, .aload 0, .getfield 2846, .sipush 1, .iadd, .putfield 2846, .goto 0, .aload 0, .aload 0, .getfield 2846, .putfield 2848, .aload 0, .sipush 1, .putfield 2850, .aload 0, .aload 0, .getfield 2846, .invokevirtual 378222, .istore 1, .iload 1, .sipush (-1), .if_icmp .ne 38, .aload 0, .sipush 0, .putfield 2850, .return_, .aload 0, .aload 0, .getfield 2846, .sipush 1, .iadd, .putfield 2846, .aload 0, .iload 1, .putfield 2852, .aload 0, .iload 1, .invokevirtual 380222, .ifCond .eq 81, .aload 0, .aload 0, .aload 0, .getfield 2846, .invokevirtual 378222, .invokevirtual 380222, .ifCond .eq 65, .aload 0, .aload 0, .getfield 2846, .sipush 1, .iadd, .putfield 2846, .goto 51, .aload 0, .aload 0, .aload 0, .getfield 2848, .aload 0, .getfield 2846, .invokevirtual 386224, .putfield 2852, .aload 0, .getfield 2852, .sipush (-1), .if_icmp .eq 142, .aload 0, .sipush 2, .putfield 2850, .goto 142, .aload 0, .iload 1, .invokevirtual 382222, .ifCond .eq 135, .aload 0, .iload 1, .sipush 48, .isub, .putfield 2852, .aload 0, .aload 0, .aload 0, .getfield 2846, .invokevirtual 378222, .invokevirtual 382222, .ifCond .eq 124, .aload 0, .aload 0, .getfield 2852, .sipush 10000, .if_icmp .ge 114, .sipush 10, .aload 0, .getfield 2852, .imul, .aload 0, .aload 0, .getfield 2846, .invokevirtual 378222, .iadd, .sipush 48, .isub, .goto 116, .aload 0, .getfield 2852, .putfield 2852, .aload 0, .aload 0, .getfield 2846, .sipush 1, .iadd, .putfield 2846, .goto 90, .aload 0, .getfield 2846, .aload 0, .getfield 2848, .isub, .sipush 5, .if_icmp .ge 142, .aload 0, .sipush 3, .putfield 2850, .goto 142, .aload 0, .iload 1, .invokevirtual 384222, .ifCond .eq 142, .aload 0, .sipush 4, .putfield 2850, .return_]
def kr_194 : List (Nat × Nat × Nat × Nat) := [(0, 0, 0, 1), (1, 0, 0, 1), (2, 1140, 193, 3), (5, 1414, 196, 3), (8, 0, 0, 2), (10, 0, 0, 3), (13, 0, 0, 1), (14, 0, 0, 1), (15, 1140, 193, 3), (18, 1414, 196, 3), (21, 0, 0, 2), (23, 0, 0, 3), (26, 0, 0, 1), (27, 0, 0, 1), (28, 1140, 193, 3), (31, 0, 0, 1), (32, 0, 0, 1), (33, 1140, 193, 3), (36, 0, 0, 3), (39, 0, 0, 1), (40, 0, 0, 1), (41, 1140, 193, 3), (44, 1141, 199, 3), (47, 0, 0, 1), (48, 0, 0, 1), (49, 1142, 202, 3), (52, 0, 0, 1), (53, 0, 0, 1), (54, 1140, 193, 3), (57, 1414, 196, 3), (60, 0, 0, 1), (61, 0, 0, 1), (62, 0, 0, 1), (63, 0, 0, 3), (66, 0, 0, 1), (67, 0, 0, 1), (68, 1142, 202, 3), (71, 0, 0, 1), (72, 0, 0, 1), (73, 0, 0, 1), (74, 1140, 193, 3), (77, 0, 0, 1), (78, 0, 0, 1), (79, 1140, 193, 3), (82, 0, 0, 1), (83, 0, 0, 1), (84, 1143, 205, 3), (87, 0, 0, 1), (88, 0, 0, 1), (89, 1418, 208, 3), (92, 0, 0, 3), (95, 0, 0, 1), (96, 0, 0, 1), (97, 0, 0, 1), (98, 1140, 193, 3), (101, 1414, 196, 3), (104, 1418, 208, 3), (107, 0, 0, 3), (110, 0, 0, 1), (111, 0, 0, 1), (112, 1140, 193, 3), (115, 0, 0, 1), (116, 0, 0, 1), (117, 1140, 193, 3), (120, 0, 0, 3), (123, 0, 0, 1), (124, 0, 0, 1), (125, 0, 0, 1), (126, 1141, 199, 3), (129, 0, 0, 1), (130, 1140, 193, 3), (133, 1422, 211, 3), (136, 1143, 205, 3), (139, 0, 0, 1), (140, 1143, 205, 3), (143, 0, 0, 1), (144, 0, 0, 3), (147, 0, 0, 1), (148, 0, 0, 1), (149, 1142, 202, 3), (152, 0, 0, 3), (155, 0, 0, 1), (156, 0, 0, 1), (157, 1426, 215, 3), (160, 0, 0, 3), (163, 0, 0, 1), (164, 0, 0, 1), (165, 0, 0, 2), (167, 0, 0, 1), (168, 1143, 205, 3), (171, 0, 0, 1), (172, 0, 0, 1), (173, 0, 0, 1), (174, 1140, 193, 3), (177, 1414, 196, 3), (180, 1426, 215, 3), (183, 0, 0, 3), (186, 0, 0, 1), (187, 0, 0, 1), (188, 1143, 205, 3), (191, 0, 0, 3), (194, 0, 0, 3), (197, 0, 0, 2), (199, 0, 0, 1), (200, 1143, 205, 3), (203, 0, 0, 1), (204, 0, 0, 1), (205, 0, 0, 1), (206, 1140, 193, 3), (209, 1414, 196, 3), (212, 0, 0, 1), (213, 0, 0, 2), (215, 0, 0, 1), (216, 0, 0, 3), (219, 0, 0, 1), (220, 1143, 205, 3), (223, 1143, 205, 3), (226, 0, 0, 1), (227, 0, 0, 1), (228, 1140, 193, 3), (231, 0, 0, 1), (232, 0, 0, 1), (233, 1140, 193, 3), (236, 0, 0, 3), (239, 0, 0, 1), (240, 1140, 193, 3), (243, 0, 0, 1), (244, 1141, 199, 3), (247, 0, 0, 1), (248, 0, 0, 1), (249, 0, 0, 3), (252, 0, 0, 1), (253, 0, 0, 1), (254, 1142, 202, 3), (257, 0, 0, 3), (260, 0, 0, 1), (261, 0, 0, 1), (262, 1430, 218, 3), (265, 0, 0, 3), (268, 0, 0, 1), (269, 0, 0, 1), (270, 1142, 202, 3), (273, 0, 0, 1)]
/-- QuillDeskModel.errs(I)I -/
def kc_195 : List Instr := [.aload 0, .iload 1, .putfield 2880, .aload 0, .aload 0, .getfield 2848, .putfield 2882, .sipush (-1), .ireturn]
def kr_195 : List (Nat × Nat × Nat × Nat) := [(0, 0, 0, 1), (1, 0, 0, 1), (2, 1157, 221, 3), (5, 0, 0, 1), (6, 0, 0, 1), (7, 1141, 199, 3), (10, 1158, 224, 3), (13, 0, 0, 1), (14, 0, 0, 1)]
/-- QuillDeskModel.isWord(I)Z -/
def kc_196 : List Instr := [.aload 0, .getfield 2850, .sipush 2, .if_icmp .ne 10, .aload 0, .getfield 2852, .iload 1, .if_icmp .ne 10, .sipush 1, .goto 11, .sipush 0, .ireturn]
def kr_196 : List (Nat × Nat × Nat × Nat) := [(0, 0, 0, 1), (1, 1142, 202, 3), (4, 0, 0, 1), (5, 0, 0, 3), (8, 0, 0, 1), (9, 1143, 205, 3), (12, 0, 0, 1), (13, 0, 0, 3), (16, 0, 0, 1), (17, 0, 0, 3), (20, 0, 0, 1), (21, 0, 0, 1)]
/-- QuillDeskModel.isSign(I)Z -/
def kc_197 : List Instr := [.aload 0, .getfield 2850, .sipush 4, .if_icmp .ne 10, .aload 0, .getfield 2852, .iload 1, .if_icmp .ne 10, .sipush 1, .goto 11, .sipush 0, .ireturn]
def kr_197 : List (Nat × Nat × Nat × Nat) := [(0, 0, 0, 1), (1, 1142, 202, 3), (4, 0, 0, 1), (5, 0, 0, 3), (8, 0, 0, 1), (9, 1143, 205, 3), (12, 0, 0, 1), (13, 0, 0, 3), (16, 0, 0, 1), (17, 0, 0, 3), (20, 0, 0, 1), (21, 0, 0, 1)]
/-- QuillDeskModel.emits(II)V -/
def kc_198 : List Instr := [.aload 0, .checkcast 2866, .sipush 800, .aload 0, .getfield 2872, .iadd, .iload 1, .iastore, .aload 0, .checkcast 2868, .sipush 800, .aload 0, .getfield 2872, .iadd, .iload 2, .iastore, .aload 0, .aload 0, .getfield 2872, .sipush 1, .iadd, .putfield 2872, .return_]
def kr_198 : List (Nat × Nat × Nat × Nat) := [(0, 0, 0, 1), (1, 1150, 52, 3), (4, 0, 0, 3), (7, 0, 0, 1), (8, 1153, 227, 3), (11, 0, 0, 1), (12, 0, 0, 1), (13, 0, 0, 1), (14, 0, 0, 1), (15, 1151, 55, 3), (18, 0, 0, 3), (21, 0, 0, 1), (22, 1153, 227, 3), (25, 0, 0, 1), (26, 0, 0, 1), (27, 0, 0, 1), (28, 0, 0, 1), (29, 0, 0, 1), (30, 1153, 227, 3), (33, 0, 0, 1), (34, 0, 0, 1), (35, 1153, 227, 3), (38, 0, 0, 1)]
/-- QuillDeskModel.canAsk(I)Z -/
def kc_199 : List Instr := [.aload 0, .iload 1, .sipush 7, .sipush 17, .invokevirtual 316226, .ireturn]
def kr_199 : List (Nat × Nat × Nat × Nat) := [(0, 0, 0, 1), (1, 0, 0, 1), (2, 0, 0, 2), (4, 0, 0, 2), (6, 1366, 176, 3), (9, 0, 0, 1)]
/-- QuillDeskModel.readUnit()I -/
def kc_200 : List Instr := [.aload 0, .getfield 2850, .sipush 2, .if_icmp .ne 11, .aload 0, .aload 0, .getfield 2852, .invokevirtual 398222, .ifCond .eq 11, .sipush 1, .goto 12, .sipush 0, .istore 1, .iload 1, .ifCond .ne 23, .aload 0, .getfield 2850, .sipush 3, .if_icmp .eq 23, .aload 0, .sipush 1, .invokevirtual 390222, .ireturn, .aload 0, .iload 1, .ifCond .eq 28, .sipush 1, .goto 29, .sipush 0, .iload 1, .ifCond .eq 36, .aload 0, .getfield 2852, .sipush 7, .isub, .goto 38, .aload 0, .getfield 2852, .invokevirtual 396225, .aload 0, .invokevirtual 388221, .sipush 0, .ireturn]
def kr_200 : List (Nat × Nat × Nat × Nat) := [(0, 0, 0, 1), (1, 1142, 202, 3), (4, 0, 0, 1), (5, 0, 0, 3), (8, 0, 0, 1), (9, 0, 0, 1), (10, 1143, 205, 3), (13, 1502, 230, 3), (16, 0, 0, 3), (19, 0, 0, 1), (20, 0, 0, 3), (23, 0, 0, 1), (24, 0, 0, 1), (25, 0, 0, 1), (26, 0, 0, 3), (29, 0, 0, 1), (30, 1142, 202, 3), (33, 0, 0, 1), (34, 0, 0, 3), (37, 0, 0, 1), (38, 0, 0, 1), (39, 1442, 233, 3), (42, 0, 0, 1), (43, 0, 0, 1), (44, 0, 0, 1), (45, 0, 0, 3), (48, 0, 0, 1), (49, 0, 0, 3), (52, 0, 0, 1), (53, 0, 0, 1), (54, 0, 0, 3), (57, 0, 0, 1), (58, 1143, 205, 3), (61, 0, 0, 2), (63, 0, 0, 1), (64, 0, 0, 3), (67, 0, 0, 1), (68, 1143, 205, 3), (71, 1506, 236, 3), (74, 0, 0, 1), (75, 1410, 240, 3), (78, 0, 0, 1), (79, 0, 0, 1)]
/-- QuillDeskModel.readProduct()I -/
def kc_201 : List Instr := [.aload 0, .invokevirtual 400220, .sipush (-1), .if_icmp .ne 6, .sipush (-1), .ireturn, .aload 0, .sipush 42, .invokevirtual 394222, .ifCond .ne 14, .aload 0, .sipush 47, .invokevirtual 394222, .ifCond .eq 54, .aload 0, .sipush 42, .invokevirtual 394222, .istore 1, .aload 0, .invokevirtual 388221, .iload 1, .ifCond .ne 30, .aload 0, .getfield 2850, .sipush 3, .if_icmp .eq 30, .aload 0, .sipush 1, .invokevirtual 390222, .ireturn, .iload 1, .ifCond .ne 39, .aload 0, .getfield 2852, .ifCond .ne 39, .aload 0, .sipush 2, .invokevirtual 390222, .ireturn, .aload 0, .invokevirtual 400220, .sipush (-1), .if_icmp .ne 45, .sipush (-1), .ireturn, .aload 0, .iload 1, .ifCond .eq 50, .sipush 4, .goto 51, .sipush 5, .sipush 0, .invokevirtual 396225, .goto 6, .sipush 0, .ireturn]
def kr_201 : List (Nat × Nat × Nat × Nat) := [(0, 0, 0, 1), (1, 1498, 243, 3), (4, 0, 0, 1), (5, 0, 0, 3), (8, 0, 0, 1), (9, 0, 0, 1), (10, 0, 0, 1), (11, 0, 0, 2), (13, 1462, 246, 3), (16, 0, 0, 3), (19, 0, 0, 1), (20, 0, 0, 2), (22, 1462, 246, 3), (25, 0, 0, 3), (28, 0, 0, 1), (29, 0, 0, 2), (31, 1462, 246, 3), (34, 0, 0, 1), (35, 0, 0, 1), (36, 1410, 240, 3), (39, 0, 0, 1), (40, 0, 0, 3), (43, 0, 0, 1), (44, 1142, 202, 3), (47, 0, 0, 1), (48, 0, 0, 3), (51, 0, 0, 1), (52, 0, 0, 1), (53, 1442, 233, 3), (56, 0, 0, 1), (57, 0, 0, 1), (58, 0, 0, 3), (61, 0, 0, 1), (62, 1143, 205, 3), (65, 0, 0, 3), (68, 0, 0, 1), (69, 0, 0, 1), (70, 1442, 233, 3), (73, 0, 0, 1), (74, 0, 0, 1), (75, 1498, 243, 3), (78, 0, 0, 1), (79, 0, 0, 3), (82, 0, 0, 1), (83, 0, 0, 1), (84, 0, 0, 1), (85, 0, 0, 1), (86, 0, 0, 3), (89, 0, 0, 1), (90, 0, 0, 3), (93, 0, 0, 1), (94, 0, 0, 1), (95, 1506, 236, 3), (98, 0, 0, 3), (101, 0, 0, 1), (102, 0, 0, 1)]
/-- QuillDeskModel.readSum()I -/
def kc_202 : List Instr := [.aload 0, .invokevirtual 402220, .sipush (-1), .if_icmp .ne 6, .sipush (-1), .ireturn, .aload 0, .sipush 43, .invokevirtual 394222, .ifCond .ne 14, .aload 0, .sipush 45, .invokevirtual 394222, .ifCond .eq 35, .aload 0, .getfield 2852, .sipush 43, .if_icmp .ne 20, .sipush 2, .goto 21, .sipush 3, .istore 1, .aload 0, .invokevirtual 388221, .aload 0, .invokevirtual 402220, .sipush (-1), .if_icmp .ne 30, .sipush (-1), .ireturn, .aload 0, .iload 1, .sipush 0, .invokevirtual 396225, .goto 6, .sipush 0, .ireturn]
def kr_202 : List (Nat × Nat × Nat × Nat) := [(0, 0, 0, 1), (1, 1494, 249, 3), (4, 0, 0, 1), (5, 0, 0, 3), (8, 0, 0, 1), (9, 0, 0, 1), (10, 0, 0, 1), (11, 0, 0, 2), (13, 1462, 246, 3), (16, 0, 0, 3), (19, 0, 0, 1), (20, 0, 0, 2), (22, 1462, 246, 3), (25, 0, 0, 3), (28, 0, 0, 1), (29, 1143, 205, 3), (32, 0, 0, 2), (34, 0, 0, 3), (37, 0, 0, 1), (38, 0, 0, 3), (41, 0, 0, 1), (42, 0, 0, 1), (43, 0, 0, 1), (44, 1410, 240, 3), (47, 0, 0, 1), (48, 1494, 249, 3), (51, 0, 0, 1), (52, 0, 0, 3), (55, 0, 0, 1), (56, 0, 0, 1), (57, 0, 0, 1), (58, 0, 0, 1), (59, 0, 0, 1), (60, 1506, 236, 3), (63, 0, 0, 3), (66, 0, 0, 1), (67, 0, 0, 1)]
/-- QuillDeskModel.readCompared()I -/
def kc_203 : List Instr := [.aload 0, .invokevirtual 404220, .sipush (-1), .if_icmp .ne 6, .sipush (-1), .ireturn, .aload 0, .sipush 60, .invokevirtual 394222, .ifCond .ne 22, .aload 0, .sipush 61, .invokevirtual 394222, .ifCond .ne 22, .aload 0, .sipush 62, .invokevirtual 394222, .ifCond .ne 22, .aload 0, .sipush 1, .invokevirtual 390222, .ireturn, .aload 0, .getfield 2852, .sipush 60, .if_icmp .ne 28, .sipush 6, .goto 35, .aload 0, .getfield 2852, .sipush 61, .if_icmp .ne 34, .sipush 7, .goto 35, .sipush 8, .istore 1, .aload 0, .invokevirtual 388221, .aload 0, .invokevirtual 404220, .sipush (-1), .if_icmp .ne 44, .sipush (-1), .ireturn, .aload 0, .iload 1, .sipush 0, .invokevirtual 396225, .sipush 0, .ireturn]
def kr_203 : List (Nat × Nat × Nat × Nat) := [(0, 0, 0, 1), (1, 1490, 252, 3), (4, 0, 0, 1), (5, 0, 0, 3), (8, 0, 0, 1), (9, 0, 0, 1), (10, 0, 0, 1), (11, 0, 0, 2), (13, 1462, 246, 3), (16, 0, 0, 3), (19, 0, 0, 1), (20, 0, 0, 2), (22, 1462, 246, 3), (25, 0, 0, 3), (28, 0, 0, 1), (29, 0, 0, 2), (31, 1462, 246, 3), (34, 0, 0, 3), (37, 0, 0, 1), (38, 0, 0, 1), (39, 1442, 233, 3), (42, 0, 0, 1), (43, 0, 0, 1), (44, 1143, 205, 3), (47, 0, 0, 2), (49, 0, 0, 3), (52, 0, 0, 2), (54, 0, 0, 3), (57, 0, 0, 1), (58, 1143, 205, 3), (61, 0, 0, 2), (63, 0, 0, 3), (66, 0, 0, 2), (68, 0, 0, 3), (71, 0, 0, 2), (73, 0, 0, 1), (74, 0, 0, 1), (75, 1410, 240, 3), (78, 0, 0, 1), (79, 1490, 252, 3), (82, 0, 0, 1), (83, 0, 0, 3), (86, 0, 0, 1), (87, 0, 0, 1), (88, 0, 0, 1), (89, 0, 0, 1), (90, 0, 0, 1), (91, 1506, 236, 3), (94, 0, 0, 1), (95, 0, 0, 1)]
/-- QuillDeskModel.waits(I)V -/
def kc_204 : List Instr := [.aload 0, .checkcast 2876, .aload 0, .getfield 2878, .iload 1, .iastore, .aload 0, .aload 0, .getfield 2878, .sipush 1, .iadd, .putfield 2878, .return_]
def kr_204 : List (Nat × Nat × Nat × Nat) := [(0, 0, 0, 1), (1, 1155, 58, 3), (4, 0, 0, 1), (5, 1156, 255, 3), (8, 0, 0, 1), (9, 0, 0, 1), (10, 0, 0, 1), (11, 0, 0, 1), (12, 1156, 255, 3), (15, 0, 0, 1), (16, 0, 0, 1), (17, 1156, 255, 3), (20, 0, 0, 1)]
/-- QuillDeskModel.settles(I)V -/
def kc_205 : List Instr := [.aload 0, .getfield 2878, .ifCond .le 32, .aload 0, .checkcast 2876, .aload 0, .getfield 2878, .sipush 1, .isub, .iaload, .iload 1, .if_icmp .ne 32, .aload 0, .aload 0, .getfield 2878, .sipush 1, .isub, .putfield 2878, .aload 0, .iload 1, .sipush 0, .invokevirtual 396225, .iload 1, .sipush 9, .if_icmp .ne 0, .aload 0, .aload 0, .getfield 2874, .sipush 1, .isub, .putfield 2874, .goto 0, .return_]
def kr_205 : List (Nat × Nat × Nat × Nat) := [(0, 0, 0, 1), (1, 1156, 255, 3), (4, 0, 0, 3), (7, 0, 0, 1), (8, 1155, 58, 3), (11, 0, 0, 1), (12, 1156, 255, 3), (15, 0, 0, 1), (16, 0, 0, 1), (17, 0, 0, 1), (18, 0, 0, 1), (19, 0, 0, 3), (22, 0, 0, 1), (23, 0, 0, 1), (24, 1156, 255, 3), (27, 0, 0, 1), (28, 0, 0, 1), (29, 1156, 255, 3), (32, 0, 0, 1), (33, 0, 0, 1), (34, 0, 0, 1), (35, 1506, 236, 3), (38, 0, 0, 1), (39, 0, 0, 2), (41, 0, 0, 3), (44, 0, 0, 1), (45, 0, 0, 1), (46, 1154, 258, 3), (49, 0, 0, 1), (50, 0, 0, 1), (51, 1154, 258, 3), (54, 0, 0, 3), (57, 0, 0, 1)]
/-- QuillDeskModel.readAny()I -/
def kc_206 : List Instr := [.sipush 0, .istore 1, .aload 0, .sipush 0, .putfield 2878, .sipush 1, .istore 2, .iload 2, .ifCond .eq 61, .aload 0, .sipush 6, .invokevirtual 392222, .istore 3, .iload 3, .ifCond .ne 19, .aload 0, .sipush 40, .invokevirtual 394222, .ifCond .eq 49, .aload 0, .getfield 2874, .sipush 8, .if_icmp .ne 27, .aload 0, .sipush 3, .invokevirtual 390222, .ireturn, .aload 0, .aload 0, .getfield 2874, .sipush 1, .iadd, .putfield 2874, .iload 3, .ifCond .ne 39, .iload 1, .sipush 1, .iadd, .istore 1, .aload 0, .iload 3, .ifCond .eq 44, .sipush 9, .goto 45, .sipush 12, .invokevirtual 408223, .aload 0, .invokevirtual 388221, .goto 7, .aload 0, .invokevirtual 406220, .sipush (-1), .if_icmp .ne 55, .sipush (-1), .ireturn, .aload 0, .sipush 9, .invokevirtual 410223, .sipush 0, .istore 2, .goto 7, .aload 0, .sipush 5, .invokevirtual 392222, .ifCond .eq 76, .aload 0, .sipush 10, .invokevirtual 410223, .aload 0, .sipush 10, .invokevirtual 408223, .aload 0, .invokevirtual 388221, .sipush 1, .istore 2, .goto 7, .aload 0, .sipush 4, .invokevirtual 392222, .ifCond .eq 94, .aload 0, .sipush 10, .invokevirtual 410223, .aload 0, .sipush 11, .invokevirtual 410223, .aload 0, .sipush 11, .invokevirtual 408223, .aload 0, .invokevirtual 388221, .sipush 1, .istore 2, .goto 7, .aload 0, .sipush 10, .invokevirtual 410223, .aload 0, .sipush 11, .invokevirtual 410223, .iload 1, .ifCond .ne 104, .sipush 0, .ireturn, .aload 0, .sipush 41, .invokevirtual 394222, .ifCond .ne 112, .aload 0, .sipush 1, .invokevirtual 390222, .ireturn, .aload 0, .aload 0, .getfield 2878, .sipush 1, .isub, .putfield 2878, .iload 1, .sipush 1, .isub, .istore 1, .aload 0, .aload 0, .getfield 2874, .sipush 1, .isub, .putfield 2874, .aload 0, .sipush 9, .invokevirtual 410223, .aload 0, .invokevirtual 388221, .goto 7]
def kr_206 : List (Nat × Nat × Nat × Nat) := [(0, 0, 0, 1), (1, 0, 0, 1), (2, 0, 0, 1), (3, 0, 0, 1), (4, 1156, 255, 3), (7, 0, 0, 1), (8, 0, 0, 1), (9, 0, 0, 1), (10, 0, 0, 3), (13, 0, 0, 1), (14, 0, 0, 2), (16, 1438, 261, 3), (19, 0, 0, 1), (20, 0, 0, 1), (21, 0, 0, 3), (24, 0, 0, 1), (25, 0, 0, 2), (27, 1462, 246, 3), (30, 0, 0, 3), (33, 0, 0, 1), (34, 1154, 258, 3), (37, 0, 0, 2), (39, 0, 0, 3), (42, 0, 0, 1), (43, 0, 0, 1), (44, 1442, 233, 3), (47, 0, 0, 1), (48, 0, 0, 1), (49, 0, 0, 1), (50, 1154, 258, 3), (53, 0, 0, 1), (54, 0, 0, 1), (55, 1154, 258, 3), (58, 0, 0, 1), (59, 0, 0, 3), (62, 0, 0, 1), (63, 0, 0, 1), (64, 0, 0, 1), (65, 0, 0, 1), (66, 0, 0, 1), (67, 0, 0, 1), (68, 0, 0, 3), (71, 0, 0, 2), (73, 0, 0, 3), (76, 0, 0, 2), (78, 1514, 264, 3), (81, 0, 0, 1), (82, 1410, 240, 3), (85, 0, 0, 3), (88, 0, 0, 1), (89, 1518, 267, 3), (92, 0, 0, 1), (93, 0, 0, 3), (96, 0, 0, 1), (97, 0, 0, 1), (98, 0, 0, 1), (99, 0, 0, 2), (101, 1522, 270, 3), (104, 0, 0, 1), (105, 0, 0, 1), (106, 0, 0, 3), (109, 0, 0, 1), (110, 0, 0, 1), (111, 1438, 261, 3), (114, 0, 0, 3), (117, 0, 0, 1), (118, 0, 0, 2), (120, 1522, 270, 3), (123, 0, 0, 1), (124, 0, 0, 2), (126, 1514, 264, 3), (129, 0, 0, 1), (130, 1410, 240, 3), (133, 0, 0, 1), (134, 0, 0, 1), (135, 0, 0, 3), (138, 0, 0, 1), (139, 0, 0, 1), (140, 1438, 261, 3), (143, 0, 0, 3), (146, 0, 0, 1), (147, 0, 0, 2), (149, 1522, 270, 3), (152, 0, 0, 1), (153, 0, 0, 2), (155, 1522, 270, 3), (158, 0, 0, 1), (159, 0, 0, 2), (161, 1514, 264, 3), (164, 0, 0, 1), (165, 1410, 240, 3), (168, 0, 0, 1), (169, 0, 0, 1), (170, 0, 0, 3), (173, 0, 0, 1), (174, 0, 0, 2), (176, 1522, 270, 3), (179, 0, 0, 1), (180, 0, 0, 2), (182, 1522, 270, 3), (185, 0, 0, 1), (186, 0, 0, 3), (189, 0, 0, 1), (190, 0, 0, 1), (191, 0, 0, 1), (192, 0, 0, 2), (194, 1462, 246, 3), (197, 0, 0, 3), (200, 0, 0, 1), (201, 0, 0, 1), (202, 1442, 233, 3), (205, 0, 0, 1), (206, 0, 0, 1), (207, 0, 0, 1), (208, 1156, 255, 3), (211, 0, 0, 1), (212, 0, 0, 1), (213, 1156, 255, 3), (216, 0, 0, 1), (217, 0, 0, 1), (218, 0, 0, 1), (219, 0, 0, 1), (220, 0, 0, 1), (221, 0, 0, 1), (222, 1154, 258, 3), (225, 0, 0, 1), (226, 0, 0, 1), (227, 1154, 258, 3), (230, 0, 0, 1), (231, 0, 0, 2), (233, 1522, 270, 3), (236, 0, 0, 1), (237, 1410, 240, 3), (240, 0, 0, 3)]
/-- QuillDeskModel.isLineWord()Z -/
def kc_207 : List Instr := [.aload 0, .getfield 2850, .sipush 2, .if_icmp .ne 13, .aload 0, .aload 0, .getfield 2852, .sipush 0, .sipush 2, .invokevirtual 316226, .ifCond .eq 13, .sipush 1, .goto 14, .sipush 0, .ireturn]
def kr_207 : List (Nat × Nat × Nat × Nat) := [(0, 0, 0, 1), (1, 1142, 202, 3), (4, 0, 0, 1), (5, 0, 0, 3), (8, 0, 0, 1), (9, 0, 0, 1), (10, 1143, 205, 3), (13, 0, 0, 1), (14, 0, 0, 1), (15, 1366, 176, 3), (18, 0, 0, 3), (21, 0, 0, 1), (22, 0, 0, 3), (25, 0, 0, 1), (26, 0, 0, 1)]
/-- QuillDeskModel.readLaw()I -/
def kc_208 : List Instr := [.sipush 0, .istore 1, .aload 0, .invokevirtual 414220, .ifCond .eq 75, .iload 1, .sipush 16, .if_icmp .ne 12, .aload 0, .sipush 3, .invokevirtual 390222, .ireturn, .sipush 32, .iload 1, .iadd, .istore 2, .aload 0, .checkcast 2858, .iload 2, .aload 0, .getfield 2852, .iastore, .aload 0, .invokevirtual 388221, .aload 0, .checkcast 2860, .iload 2, .aload 0, .getfield 2872, .iastore, .aload 0, .invokevirtual 404220, .sipush (-1), .if_icmp .ne 36, .sipush (-1), .ireturn, .aload 0, .checkcast 2862, .iload 2, .aload 0, .getfield 2872, .iastore, .aload 0, .sipush 3, .invokevirtual 392222, .ifCond .eq 54, .aload 0, .invokevirtual 388221, .aload 0, .invokevirtual 412220, .sipush (-1), .if_icmp .ne 54, .sipush (-1), .ireturn, .aload 0, .checkcast 2864, .iload 2, .aload 0, .getfield 2872, .iastore, .aload 0, .sipush 59, .invokevirtual 394222, .ifCond .ne 68, .aload 0, .sipush 1, .invokevirtual 390222, .ireturn, .aload 0, .invokevirtual 388221, .iload 1, .sipush 1, .iadd, .istore 1, .goto 2, .aload 0, .getfield 2850, .ifCond .ne 80, .iload 1, .goto 83, .aload 0, .sipush 1, .invokevirtual 390222, .ireturn]
def kr_208 : List (Nat × Nat × Nat × Nat) := [(0, 0, 0, 1), (1, 0, 0, 1), (2, 0, 0, 1), (3, 1486, 273, 3), (6, 0, 0, 3), (9, 0, 0, 1), (10, 0, 0, 2), (12, 0, 0, 3), (15, 0, 0, 1), (16, 0, 0, 1), (17, 1442, 233, 3), (20, 0, 0, 1), (21, 0, 0, 2), (23, 0, 0, 1), (24, 0, 0, 1), (25, 0, 0, 1), (26, 0, 0, 1), (27, 1146, 40, 3), (30, 0, 0, 1), (31, 0, 0, 1), (32, 1143, 205, 3), (35, 0, 0, 1), (36, 0, 0, 1), (37, 1410, 240, 3), (40, 0, 0, 1), (41, 1147, 43, 3), (44, 0, 0, 1), (45, 0, 0, 1), (46, 1153, 227, 3), (49, 0, 0, 1), (50, 0, 0, 1), (51, 1490, 252, 3), (54, 0, 0, 1), (55, 0, 0, 3), (58, 0, 0, 1), (59, 0, 0, 1), (60, 0, 0, 1), (61, 1148, 46, 3), (64, 0, 0, 1), (65, 0, 0, 1), (66, 1153, 227, 3), (69, 0, 0, 1), (70, 0, 0, 1), (71, 0, 0, 1), (72, 1438, 261, 3), (75, 0, 0, 3), (78, 0, 0, 1), (79, 1410, 240, 3), (82, 0, 0, 1), (83, 1510, 277, 3), (86, 0, 0, 1), (87, 0, 0, 3), (90, 0, 0, 1), (91, 0, 0, 1), (92, 0, 0, 1), (93, 1149, 49, 3), (96, 0, 0, 1), (97, 0, 0, 1), (98, 1153, 227, 3), (101, 0, 0, 1), (102, 0, 0, 1), (103, 0, 0, 2), (105, 1462, 246, 3), (108, 0, 0, 3), (111, 0, 0, 1), (112, 0, 0, 1), (113, 1442, 233, 3), (116, 0, 0, 1), (117, 0, 0, 1), (118, 1410, 240, 3), (121, 0, 0, 1), (122, 0, 0, 1), (123, 0, 0, 1), (124, 0, 0, 1), (125, 0, 0, 3), (128, 0, 0, 1), (129, 1142, 202, 3), (132, 0, 0, 3), (135, 0, 0, 1), (136, 0, 0, 3), (139, 0, 0, 1), (140, 0, 0, 1), (141, 1442, 233, 3), (144, 0, 0, 1)]
/-- QuillDeskModel.takesLaw(I)V -/
def kc_209 : List Instr := [.sipush 0, .istore 2, .iload 2, .iload 1, .if_icmp .ge 67, .aload 0, .checkcast 2858, .sipush 16, .aload 0, .getfield 2870, .imul, .iload 2, .iadd, .aload 0, .checkcast 2858, .sipush 32, .iload 2, .iadd, .iaload, .iastore, .aload 0, .checkcast 2860, .sipush 16, .aload 0, .getfield 2870, .imul, .iload 2, .iadd, .aload 0, .checkcast 2860, .sipush 32, .iload 2, .iadd, .iaload, .iastore, .aload 0, .checkcast 2862, .sipush 16, .aload 0, .getfield 2870, .imul, .iload 2, .iadd, .aload 0, .checkcast 2862, .sipush 32, .iload 2, .iadd, .iaload, .iastore, .aload 0, .checkcast 2864, .sipush 16, .aload 0, .getfield 2870, .imul, .iload 2, .iadd, .aload 0, .checkcast 2864, .sipush 32, .iload 2, .iadd, .iaload, .iastore, .iinc 2 1, .goto 2, .sipush 0, .istore 2, .iload 2, .aload 0, .getfield 2872, .if_icmp .ge 105, .aload 0, .checkcast 2866, .sipush 400, .aload 0, .getfield 2870, .imul, .iload 2, .iadd, .aload 0, .checkcast 2866, .sipush 800, .iload 2, .iadd, .iaload, .iastore, .aload 0, .checkcast 2868, .sipush 400, .aload 0, .getfield 2870, .imul, .iload 2, .iadd, .aload 0, .checkcast 2868, .sipush 800, .iload 2, .iadd, .iaload, .iastore, .iinc 2 1, .goto 69, .aload 0, .checkcast 2856, .aload 0, .getfield 2870, .iload 1, .iastore, .return_]
def kr_209 : List (Nat × Nat × Nat × Nat) := [(0, 0, 0, 1), (1, 0, 0, 1), (2, 0, 0, 1), (3, 0, 0, 1), (4, 0, 0, 3), (7, 0, 0, 1), (8, 1146, 40, 3), (11, 0, 0, 2), (13, 0, 0, 1), (14, 1152, 280, 3), (17, 0, 0, 1), (18, 0, 0, 1), (19, 0, 0, 1), (20, 0, 0, 1), (21, 1146, 40, 3), (24, 0, 0, 2), (26, 0, 0, 1), (27, 0, 0, 1), (28, 0, 0, 1), (29, 0, 0, 1), (30, 0, 0, 1), (31, 1147, 43, 3), (34, 0, 0, 2), (36, 0, 0, 1), (37, 1152, 280, 3), (40, 0, 0, 1), (41, 0, 0, 1), (42, 0, 0, 1), (43, 0, 0, 1), (44, 1147, 43, 3), (47, 0, 0, 2), (49, 0, 0, 1), (50, 0, 0, 1), (51, 0, 0, 1), (52, 0, 0, 1), (53, 0, 0, 1), (54, 1148, 46, 3), (57, 0, 0, 2), (59, 0, 0, 1), (60, 1152, 280, 3), (63, 0, 0, 1), (64, 0, 0, 1), (65, 0, 0, 1), (66, 0, 0, 1), (67, 1148, 46, 3), (70, 0, 0, 2), (72, 0, 0, 1), (73, 0, 0, 1), (74, 0, 0, 1), (75, 0, 0, 1), (76, 0, 0, 1), (77, 1149, 49, 3), (80, 0, 0, 2), (82, 0, 0, 1), (83, 1152, 280, 3), (86, 0, 0, 1), (87, 0, 0, 1), (88, 0, 0, 1), (89, 0, 0, 1), (90, 1149, 49, 3), (93, 0, 0, 2), (95, 0, 0, 1), (96, 0, 0, 1), (97, 0, 0, 1), (98, 0, 0, 1), (99, 0, 0, 3), (102, 0, 0, 3), (105, 0, 0, 1), (106, 0, 0, 1), (107, 0, 0, 1), (108, 0, 0, 1), (109, 1153, 227, 3), (112, 0, 0, 3), (115, 0, 0, 1), (116, 1150, 52, 3), (119, 0, 0, 3), (122, 0, 0, 1), (123, 1152, 280, 3), (126, 0, 0, 1), (127, 0, 0, 1), (128, 0, 0, 1), (129, 0, 0, 1), (130, 1150, 52, 3), (133, 0, 0, 3), (136, 0, 0, 1), (137, 0, 0, 1), (138, 0, 0, 1), (139, 0, 0, 1), (140, 0, 0, 1), (141, 1151, 55, 3), (144, 0, 0, 3), (147, 0, 0, 1), (148, 1152, 280, 3), (151, 0, 0, 1), (152, 0, 0, 1), (153, 0, 0, 1), (154, 0, 0, 1), (155, 1151, 55, 3), (158, 0, 0, 3), (161, 0, 0, 1), (162, 0, 0, 1), (163, 0, 0, 1), (164, 0, 0, 1), (165, 0, 0, 3), (168, 0, 0, 3), (171, 0, 0, 1), (172, 1145, 37, 3), (175, 0, 0, 1), (176, 1152, 280, 3), (179, 0, 0, 1), (180, 0, 0, 1), (181, 0, 0, 1)]
/-- QuillDeskModel.readNumber(II)I -/
def kc_210 : List Instr := [.aload 0, .getfield 2850, .sipush 3, .if_icmp .eq 8, .aload 0, .sipush 1, .invokevirtual 390222, .ireturn, .aload 0, .aload 0, .getfield 2852, .iload 1, .iload 2, .invokevirtual 316226, .ifCond .ne 19, .aload 0, .sipush 2, .invokevirtual 390222, .ireturn, .aload 0, .getfield 2852, .istore 3, .aload 0, .invokevirtual 388221, .iload 3, .ireturn]
def kr_210 : List (Nat × Nat × Nat × Nat) := [(0, 0, 0, 1), (1, 1142, 202, 3), (4, 0, 0, 1), (5, 0, 0, 3), (8, 0, 0, 1), (9, 0, 0, 1), (10, 1442, 233, 3), (13, 0, 0, 1), (14, 0, 0, 1), (15, 0, 0, 1), (16, 1143, 205, 3), (19, 0, 0, 1), (20, 0, 0, 1), (21, 1366, 176, 3), (24, 0, 0, 3), (27, 0, 0, 1), (28, 0, 0, 1), (29, 1442, 233, 3), (32, 0, 0, 1), (33, 0, 0, 1), (34, 1143, 205, 3), (37, 0, 0, 1), (38, 0, 0, 1), (39, 1410, 240, 3), (42, 0, 0, 1), (43, 0, 0, 1)]
/-- QuillDeskModel.readMark(I)I -/
def kc_211 : List Instr := [.aload 0, .iload 1, .invokevirtual 394222, .ifCond .ne 8, .aload 0, .sipush 1, .invokevirtual 390222, .ireturn, .aload 0, .invokevirtual 388221, .sipush 0, .ireturn]
def kr_211 : List (Nat × Nat × Nat × Nat) := [(0, 0, 0, 1), (1, 0, 0, 1), (2, 1462, 246, 3), (5, 0, 0, 3), (8, 0, 0, 1), (9, 0, 0, 1), (10, 1442, 233, 3), (13, 0, 0, 1), (14, 0, 0, 1), (15, 1410, 240, 3), (18, 0, 0, 1), (19, 0, 0, 1)]
/-- QuillDeskModel.readTold(III)I -/
def kc_212 : List Instr := [.aload 0, .iload 1, .invokevirtual 392222, .ifCond .ne 8, .aload 0, .sipush 1, .invokevirtual 390222, .ireturn, .aload 0, .invokevirtual 388221, .aload 0, .iload 2, .iload 3, .invokevirtual 420224, .ireturn]
def kr_212 : List (Nat × Nat × Nat × Nat) := [(0, 0, 0, 1), (1, 0, 0, 1), (2, 1438, 261, 3), (5, 0, 0, 3), (8, 0, 0, 1), (9, 0, 0, 1), (10, 1442, 233, 3), (13, 0, 0, 1), (14, 0, 0, 1), (15, 1410, 240, 3), (18, 0, 0, 1), (19, 0, 0, 1), (20, 0, 0, 1), (21, 1454, 283, 3), (24, 0, 0, 1)]
/-- QuillDeskModel.readOrder(I)I -/
def kc_213 : List Instr := [.aload 0, .checkcast 2890, .iload 1, .aload 0, .sipush 18, .sipush 0, .sipush 999, .invokevirtual 424226, .iastore, .aload 0, .checkcast 2890, .iload 1, .iaload, .sipush (-1), .if_icmp .ne 17, .sipush (-1), .ireturn, .aload 0, .checkcast 2890, .iload 1, .sipush 1, .iadd, .aload 0, .sipush 19, .sipush 0, .aload 0, .getfield 2830, .sipush 1, .isub, .invokevirtual 424226, .iastore, .aload 0, .checkcast 2890, .iload 1, .sipush 1, .iadd, .iaload, .sipush (-1), .if_icmp .ne 41, .sipush (-1), .ireturn, .aload 0, .getfield 2850, .sipush 2, .if_icmp .ne 52, .aload 0, .aload 0, .getfield 2852, .sipush 20, .sipush 25, .invokevirtual 316226, .ifCond .ne 56, .aload 0, .sipush 1, .invokevirtual 390222, .ireturn, .aload 0, .getfield 2852, .sipush 20, .isub, .istore 2, .aload 0, .invokevirtual 388221, .aload 0, .checkcast 2890, .iload 1, .sipush 2, .iadd, .iload 2, .iastore, .aload 0, .checkcast 2890, .iload 1, .sipush 3, .iadd, .iload 2, .ifCond .ne 85, .aload 0, .sipush 0, .aload 0, .getfield 2828, .sipush 1, .isub, .invokevirtual 420224, .goto 97, .iload 2, .sipush 2, .if_icmp .ne 96, .aload 0, .sipush 0, .aload 0, .getfield 2832, .sipush 1, .isub, .invokevirtual 420224, .goto 97, .sipush 0, .iastore, .aload 0, .checkcast 2890, .iload 1, .sipush 3, .iadd, .iaload, .sipush (-1), .if_icmp .ne 108, .sipush (-1), .goto 111, .aload 0, .sipush 59, .invokevirtual 422222, .ireturn]
def kr_213 : List (Nat × Nat × Nat × Nat) := [(0, 0, 0, 1), (1, 1162, 65, 3), (4, 0, 0, 1), (5, 0, 0, 1), (6, 0, 0, 2), (8, 0, 0, 1), (9, 0, 0, 3), (12, 1450, 286, 3), (15, 0, 0, 1), (16, 0, 0, 1), (17, 1162, 65, 3), (20, 0, 0, 1), (21, 0, 0, 1), (22, 0, 0, 1), (23, 0, 0, 3), (26, 0, 0, 1), (27, 0, 0, 1), (28, 0, 0, 1), (29, 1162, 65, 3), (32, 0, 0, 1), (33, 0, 0, 1), (34, 0, 0, 1), (35, 0, 0, 1), (36, 0, 0, 2), (38, 0, 0, 1), (39, 0, 0, 1), (40, 1132, 159, 3), (43, 0, 0, 1), (44, 0, 0, 1), (45, 1450, 286, 3), (48, 0, 0, 1), (49, 0, 0, 1), (50, 1162, 65, 3), (53, 0, 0, 1), (54, 0, 0, 1), (55, 0, 0, 1), (56, 0, 0, 1), (57, 0, 0, 1), (58, 0, 0, 3), (61, 0, 0, 1), (62, 0, 0, 1), (63, 0, 0, 1), (64, 1142, 202, 3), (67, 0, 0, 1), (68, 0, 0, 3), (71, 0, 0, 1), (72, 0, 0, 1), (73, 1143, 205, 3), (76, 0, 0, 2), (78, 0, 0, 2), (80, 1366, 176, 3), (83, 0, 0, 3), (86, 0, 0, 1), (87, 0, 0, 1), (88, 1442, 233, 3), (91, 0, 0, 1), (92, 0, 0, 1), (93, 1143, 205, 3), (96, 0, 0, 2), (98, 0, 0, 1), (99, 0, 0, 1), (100, 0, 0, 1), (101, 1410, 240, 3), (104, 0, 0, 1), (105, 1162, 65, 3), (108, 0, 0, 1), (109, 0, 0, 1), (110, 0, 0, 1), (111, 0, 0, 1), (112, 0, 0, 1), (113, 0, 0, 1), (114, 1162, 65, 3), (117, 0, 0, 1), (118, 0, 0, 1), (119, 0, 0, 1), (120, 0, 0, 1), (121, 0, 0, 3), (124, 0, 0, 1), (125, 0, 0, 1), (126, 0, 0, 1), (127, 1131, 156, 3), (130, 0, 0, 1), (131, 0, 0, 1), (132, 1454, 283, 3), (135, 0, 0, 3), (138, 0, 0, 1), (139, 0, 0, 1), (140, 0, 0, 3), (143, 0, 0, 1), (144, 0, 0, 1), (145, 0, 0, 1), (146, 1133, 162, 3), (149, 0, 0, 1), (150, 0, 0, 1), (151, 1454, 283, 3), (154, 0, 0, 3), (157, 0, 0, 1), (158, 0, 0, 1), (159, 0, 0, 1), (160, 1162, 65, 3), (163, 0, 0, 1), (164, 0, 0, 1), (165, 0, 0, 1), (166, 0, 0, 1), (167, 0, 0, 1), (168, 0, 0, 3), (171, 0, 0, 1), (172, 0, 0, 3), (175, 0, 0, 1), (176, 0, 0, 2), (178, 1458, 290, 3), (181, 0, 0, 1)]
/-- QuillDeskModel.readOrders()I -/
def kc_214 : List Instr := [.sipush 0, .istore 1, .aload 0, .sipush 18, .invokevirtual 392222, .ifCond .eq 29, .iload 1, .sipush 16, .if_icmp .ne 13, .aload 0, .sipush 3, .invokevirtual 390222, .ireturn, .aload 0, .sipush 64, .sipush 4, .iload 1, .imul, .iadd, .invokevirtual 426222, .sipush (-1), .if_icmp .ne 24, .sipush (-1), .ireturn, .iload 1, .sipush 1, .iadd, .istore 1, .goto 2, .aload 0, .getfield 2850, .ifCond .ne 34, .iload 1, .goto 37, .aload 0, .sipush 1, .invokevirtual 390222, .ireturn]
def kr_214 : List (Nat × Nat × Nat × Nat) := [(0, 0, 0, 1), (1, 0, 0, 1), (2, 0, 0, 1), (3, 0, 0, 2), (5, 1438, 261, 3), (8, 0, 0, 3), (11, 0, 0, 1), (12, 0, 0, 2), (14, 0, 0, 3), (17, 0, 0, 1), (18, 0, 0, 1), (19, 1442, 233, 3), (22, 0, 0, 1), (23, 0, 0, 1), (24, 0, 0, 2), (26, 0, 0, 1), (27, 0, 0, 1), (28, 0, 0, 1), (29, 0, 0, 1), (30, 1446, 293, 3), (33, 0, 0, 1), (34, 0, 0, 3), (37, 0, 0, 1), (38, 0, 0, 1), (39, 0, 0, 1), (40, 0, 0, 1), (41, 0, 0, 1), (42, 0, 0, 1), (43, 0, 0, 3), (46, 0, 0, 1), (47, 1142, 202, 3), (50, 0, 0, 3), (53, 0, 0, 1), (54, 0, 0, 3), (57, 0, 0, 1), (58, 0, 0, 1), (59, 1442, 233, 3), (62, 0, 0, 1)]
/-- QuillDeskModel.readBird()I -/
def kc_215 : List Instr := [.aload 0, .sipush 15, .sipush 0, .sipush 7, .invokevirtual 424226, .istore 1, .iload 1, .sipush (-1), .if_icmp .ne 11, .sipush (-1), .ireturn, .aload 0, .sipush 10, .sipush 0, .sipush 9, .invokevirtual 424226, .istore 2, .iload 2, .sipush (-1), .if_icmp .ne 22, .sipush (-1), .ireturn, .aload 0, .sipush 11, .sipush 0, .sipush 9, .invokevirtual 424226, .istore 3, .iload 3, .sipush (-1), .if_icmp .ne 33, .sipush (-1), .ireturn, .aload 0, .checkcast 2894, .sipush 8, .iload 1, .iadd, .iload 2, .iastore, .aload 0, .checkcast 2896, .sipush 8, .iload 1, .iadd, .iload 3, .sipush 5, .isub, .iastore, .aload 0, .sipush 59, .invokevirtual 422222, .ireturn]
def kr_215 : List (Nat × Nat × Nat × Nat) := [(0, 0, 0, 1), (1, 0, 0, 2), (3, 0, 0, 1), (4, 0, 0, 2), (6, 1450, 286, 3), (9, 0, 0, 1), (10, 0, 0, 1), (11, 0, 0, 1), (12, 0, 0, 3), (15, 0, 0, 1), (16, 0, 0, 1), (17, 0, 0, 1), (18, 0, 0, 2), (20, 0, 0, 1), (21, 0, 0, 2), (23, 1450, 286, 3), (26, 0, 0, 1), (27, 0, 0, 1), (28, 0, 0, 1), (29, 0, 0, 3), (32, 0, 0, 1), (33, 0, 0, 1), (34, 0, 0, 1), (35, 0, 0, 2), (37, 0, 0, 1), (38, 0, 0, 2), (40, 1450, 286, 3), (43, 0, 0, 1), (44, 0, 0, 1), (45, 0, 0, 1), (46, 0, 0, 3), (49, 0, 0, 1), (50, 0, 0, 1), (51, 0, 0, 1), (52, 1164, 68, 3), (55, 0, 0, 2), (57, 0, 0, 1), (58, 0, 0, 1), (59, 0, 0, 1), (60, 0, 0, 1), (61, 0, 0, 1), (62, 1165, 71, 3), (65, 0, 0, 2), (67, 0, 0, 1), (68, 0, 0, 1), (69, 0, 0, 1), (70, 0, 0, 1), (71, 0, 0, 1), (72, 0, 0, 1), (73, 0, 0, 1), (74, 0, 0, 2), (76, 1458, 290, 3), (79, 0, 0, 1)]
/-- QuillDeskModel.readBirds()I -/
def kc_216 : List Instr := [.sipush 0, .istore 1, .iload 1, .sipush 8, .if_icmp .ge 21, .aload 0, .checkcast 2894, .sipush 8, .iload 1, .iadd, .sipush 0, .iastore, .aload 0, .checkcast 2896, .sipush 8, .iload 1, .iadd, .sipush 0, .iastore, .iinc 1 1, .goto 2, .sipush 0, .istore 1, .aload 0, .sipush 15, .invokevirtual 392222, .ifCond .eq 45, .iload 1, .sipush 16, .if_icmp .ne 34, .aload 0, .sipush 3, .invokevirtual 390222, .ireturn, .aload 0, .invokevirtual 430220, .sipush (-1), .if_icmp .ne 40, .sipush (-1), .ireturn, .iload 1, .sipush 1, .iadd, .istore 1, .goto 23, .aload 0, .getfield 2850, .ifCond .ne 50, .iload 1, .goto 53, .aload 0, .sipush 1, .invokevirtual 390222, .ireturn]
def kr_216 : List (Nat × Nat × Nat × Nat) := [(0, 0, 0, 1), (1, 0, 0, 1), (2, 0, 0, 1), (3, 0, 0, 2), (5, 0, 0, 3), (8, 0, 0, 1), (9, 1164, 68, 3), (12, 0, 0, 2), (14, 0, 0, 1), (15, 0, 0, 1), (16, 0, 0, 1), (17, 0, 0, 1), (18, 0, 0, 1), (19, 1165, 71, 3), (22, 0, 0, 2), (24, 0, 0, 1), (25, 0, 0, 1), (26, 0, 0, 1), (27, 0, 0, 1), (28, 0, 0, 3), (31, 0, 0, 3), (34, 0, 0, 1), (35, 0, 0, 1), (36, 0, 0, 1), (37, 0, 0, 2), (39, 1438, 261, 3), (42, 0, 0, 3), (45, 0, 0, 1), (46, 0, 0, 2), (48, 0, 0, 3), (51, 0, 0, 1), (52, 0, 0, 1), (53, 1442, 233, 3), (56, 0, 0, 1), (57, 0, 0, 1), (58, 1470, 296, 3), (61, 0, 0, 1), (62, 0, 0, 3), (65, 0, 0, 1), (66, 0, 0, 1), (67, 0, 0, 1), (68, 0, 0, 1), (69, 0, 0, 1), (70, 0, 0, 1), (71, 0, 0, 3), (74, 0, 0, 1), (75, 1142, 202, 3), (78, 0, 0, 3), (81, 0, 0, 1), (82, 0, 0, 3), (85, 0, 0, 1), (86, 0, 0, 1), (87, 1442, 233, 3), (90, 0, 0, 1)]
/-- QuillDeskModel.readAfterOne()I -/
def kc_217 : List Instr := [.aload 0, .sipush 16, .sipush 0, .aload 0, .getfield 2832, .sipush 1, .isub, .invokevirtual 424226, .istore 1, .iload 1, .sipush (-1), .if_icmp .ne 14, .sipush (-1), .ireturn, .aload 0, .sipush 26, .sipush 0, .iload 1, .sipush 1, .isub, .invokevirtual 424226, .istore 2, .iload 2, .sipush (-1), .if_icmp .ne 27, .sipush (-1), .ireturn, .aload 0, .checkcast 2900, .sipush 12, .iload 1, .iadd, .aload 0, .checkcast 2900, .sipush 12, .iload 1, .iadd, .iaload, .sipush 1, .iload 2, .ishl, .ior, .iastore, .aload 0, .sipush 59, .invokevirtual 422222, .ireturn]
def kr_217 : List (Nat × Nat × Nat × Nat) := [(0, 0, 0, 1), (1, 0, 0, 2), (3, 0, 0, 1), (4, 0, 0, 1), (5, 1133, 162, 3), (8, 0, 0, 1), (9, 0, 0, 1), (10, 1450, 286, 3), (13, 0, 0, 1), (14, 0, 0, 1), (15, 0, 0, 1), (16, 0, 0, 3), (19, 0, 0, 1), (20, 0, 0, 1), (21, 0, 0, 1), (22, 0, 0, 2), (24, 0, 0, 1), (25, 0, 0, 1), (26, 0, 0, 1), (27, 0, 0, 1), (28, 1450, 286, 3), (31, 0, 0, 1), (32, 0, 0, 1), (33, 0, 0, 1), (34, 0, 0, 3), (37, 0, 0, 1), (38, 0, 0, 1), (39, 0, 0, 1), (40, 1167, 74, 3), (43, 0, 0, 2), (45, 0, 0, 1), (46, 0, 0, 1), (47, 0, 0, 1), (48, 1167, 74, 3), (51, 0, 0, 2), (53, 0, 0, 1), (54, 0, 0, 1), (55, 0, 0, 1), (56, 0, 0, 1), (57, 0, 0, 1), (58, 0, 0, 1), (59, 0, 0, 1), (60, 0, 0, 1), (61, 0, 0, 1), (62, 0, 0, 2), (64, 1458, 290, 3), (67, 0, 0, 1)]
/-- QuillDeskModel.readAfter()I -/
def kc_218 : List Instr := [.sipush 0, .istore 1, .iload 1, .sipush 12, .if_icmp .ge 14, .aload 0, .checkcast 2900, .sipush 12, .iload 1, .iadd, .sipush 0, .iastore, .iinc 1 1, .goto 2, .sipush 0, .istore 1, .aload 0, .sipush 16, .invokevirtual 392222, .ifCond .eq 38, .iload 1, .sipush 16, .if_icmp .ne 27, .aload 0, .sipush 3, .invokevirtual 390222, .ireturn, .aload 0, .invokevirtual 434220, .sipush (-1), .if_icmp .ne 33, .sipush (-1), .ireturn, .iload 1, .sipush 1, .iadd, .istore 1, .goto 16, .aload 0, .getfield 2850, .ifCond .ne 43, .iload 1, .goto 46, .aload 0, .sipush 1, .invokevirtual 390222, .ireturn]
def kr_218 : List (Nat × Nat × Nat × Nat) := [(0, 0, 0, 1), (1, 0, 0, 1), (2, 0, 0, 1), (3, 0, 0, 2), (5, 0, 0, 3), (8, 0, 0, 1), (9, 1167, 74, 3), (12, 0, 0, 2), (14, 0, 0, 1), (15, 0, 0, 1), (16, 0, 0, 1), (17, 0, 0, 1), (18, 0, 0, 3), (21, 0, 0, 3), (24, 0, 0, 1), (25, 0, 0, 1), (26, 0, 0, 1), (27, 0, 0, 2), (29, 1438, 261, 3), (32, 0, 0, 3), (35, 0, 0, 1), (36, 0, 0, 2), (38, 0, 0, 3), (41, 0, 0, 1), (42, 0, 0, 1), (43, 1442, 233, 3), (46, 0, 0, 1), (47, 0, 0, 1), (48, 1478, 299, 3), (51, 0, 0, 1), (52, 0, 0, 3), (55, 0, 0, 1), (56, 0, 0, 1), (57, 0, 0, 1), (58, 0, 0, 1), (59, 0, 0, 1), (60, 0, 0, 1), (61, 0, 0, 3), (64, 0, 0, 1), (65, 1142, 202, 3), (68, 0, 0, 3), (71, 0, 0, 1), (72, 0, 0, 3), (75, 0, 0, 1), (76, 0, 0, 1), (77, 1442, 233, 3), (80, 0, 0, 1)]
/-- QuillDeskModel.readsText(I)I -/
def kc_219 : List Instr := [.aload 0, .sipush 0, .putfield 2870, .aload 0, .invokevirtual 388221, .iload 1, .sipush 1, .if_icmp .ne 11, .aload 0, .invokevirtual 428220, .ireturn, .iload 1, .sipush 2, .if_icmp .ne 17, .aload 0, .invokevirtual 432220, .ireturn, .iload 1, .sipush 3, .if_icmp .ne 23, .aload 0, .invokevirtual 436220, .goto 25, .aload 0, .invokevirtual 416220, .ireturn]
def kr_219 : List (Nat × Nat × Nat × Nat) := [(0, 0, 0, 1), (1, 0, 0, 1), (2, 1152, 280, 3), (5, 0, 0, 1), (6, 1410, 240, 3), (9, 0, 0, 1), (10, 0, 0, 1), (11, 0, 0, 3), (14, 0, 0, 1), (15, 1434, 302, 3), (18, 0, 0, 1), (19, 0, 0, 1), (20, 0, 0, 1), (21, 0, 0, 3), (24, 0, 0, 1), (25, 1466, 305, 3), (28, 0, 0, 1), (29, 0, 0, 1), (30, 0, 0, 1), (31, 0, 0, 3), (34, 0, 0, 1), (35, 1474, 308, 3), (38, 0, 0, 3), (41, 0, 0, 1), (42, 1482, 311, 3), (45, 0, 0, 1)]
/-- QuillDeskModel.takesOther(II)V -/
def kc_220 : List Instr := [.iload 1, .sipush 1, .if_icmp .ne 28, .sipush 0, .istore 3, .iload 3, .sipush 4, .iload 2, .imul, .if_icmp .ge 22, .aload 0, .checkcast 2890, .iload 3, .aload 0, .checkcast 2890, .sipush 64, .iload 3, .iadd, .iaload, .iastore, .iinc 3 1, .goto 5, .aload 0, .iload 2, .putfield 2888, .aload 0, .sipush 0, .putfield 2822, .iload 1, .sipush 2, .if_icmp .ne 61, .sipush 0, .istore 3, .iload 3, .sipush 8, .if_icmp .ge 58, .aload 0, .checkcast 2894, .iload 3, .aload 0, .checkcast 2894, .sipush 8, .iload 3, .iadd, .iaload, .iastore, .aload 0, .checkcast 2896, .iload 3, .aload 0, .checkcast 2896, .sipush 8, .iload 3, .iadd, .iaload, .iastore, .iinc 3 1, .goto 33, .aload 0, .iload 2, .putfield 2892, .iload 1, .sipush 3, .if_icmp .ne 84, .sipush 0, .istore 3, .iload 3, .sipush 12, .if_icmp .ge 81, .aload 0, .checkcast 2900, .iload 3, .aload 0, .checkcast 2900, .sipush 12, .iload 3, .iadd, .iaload, .iastore, .iinc 3 1, .goto 66, .aload 0, .iload 2, .putfield 2898, .return_]
def kr_220 : List (Nat × Nat × Nat × Nat) := [(0, 0, 0, 1), (1, 0, 0, 1), (2, 0, 0, 3), (5, 0, 0, 1), (6, 0, 0, 1), (7, 0, 0, 1), (8, 0, 0, 1), (9, 0, 0, 1), (10, 0, 0, 1), (11, 0, 0, 3), (14, 0, 0, 1), (15, 1162, 65, 3), (18, 0, 0, 1), (19, 0, 0, 1), (20, 1162, 65, 3), (23, 0, 0, 2), (25, 0, 0, 1), (26, 0, 0, 1), (27, 0, 0, 1), (28, 0, 0, 1), (29, 0, 0, 3), (32, 0, 0, 3), (35, 0, 0, 1), (36, 0, 0, 1), (37, 1161, 314, 3), (40, 0, 0, 1), (41, 0, 0, 1), (42, 1128, 147, 3), (45, 0, 0, 1), (46, 0, 0, 1), (47, 0, 0, 3), (50, 0, 0, 1), (51, 0, 0, 1), (52, 0, 0, 1), (53, 0, 0, 2), (55, 0, 0, 3), (58, 0, 0, 1), (59, 1164, 68, 3), (62, 0, 0, 1), (63, 0, 0, 1), (64, 1164, 68, 3), (67, 0, 0, 2), (69, 0, 0, 1), (70, 0, 0, 1), (71, 0, 0, 1), (72, 0, 0, 1), (73, 0, 0, 1), (74, 1165, 71, 3), (77, 0, 0, 1), (78, 0, 0, 1), (79, 1165, 71, 3), (82, 0, 0, 2), (84, 0, 0, 1), (85, 0, 0, 1), (86, 0, 0, 1), (87, 0, 0, 1), (88, 0, 0, 3), (91, 0, 0, 3), (94, 0, 0, 1), (95, 0, 0, 1), (96, 1163, 317, 3), (99, 0, 0, 1), (100, 0, 0, 1), (101, 0, 0, 3), (104, 0, 0, 1), (105, 0, 0, 1), (106, 0, 0, 1), (107, 0, 0, 2), (109, 0, 0, 3), (112, 0, 0, 1), (113, 1167, 74, 3), (116, 0, 0, 1), (117, 0, 0, 1), (118, 1167, 74, 3), (121, 0, 0, 2), (123, 0, 0, 1), (124, 0, 0, 1), (125, 0, 0, 1), (126, 0, 0, 1), (127, 0, 0, 3), (130, 0, 0, 3), (133, 0, 0, 1), (134, 0, 0, 1), (135, 1166, 320, 3), (138, 0, 0, 1)]
/-- QuillDeskModel.text(I)I -/
def kc_221 : List Instr := [.aload 0, .sipush 0, .putfield 2816, .aload 0, .sipush 0, .putfield 2884, .aload 0, .sipush (-1), .putfield 2886, .aload 0, .sipush 0, .putfield 2846, .aload 0, .sipush 0, .putfield 2872, .aload 0, .sipush 0, .putfield 2874, .sipush (-1), .istore 2, .aload 0, .iload 1, .sipush 0, .sipush 3, .invokevirtual 316226, .ifCond .eq 41, .aload 0, .iload 1, .invokevirtual 438222, .istore 2, .iload 2, .sipush (-1), .if_icmp .ne 41, .aload 0, .aload 0, .getfield 2880, .putfield 2884, .aload 0, .aload 0, .getfield 2882, .putfield 2886, .aload 0, .sipush 0, .putfield 2844, .iload 2, .sipush (-1), .if_icmp .ne 49, .sipush (-1), .ireturn, .iload 1, .ifCond .ne 55, .aload 0, .iload 2, .invokevirtual 418223, .goto 59, .aload 0, .iload 1, .iload 2, .invokevirtual 440225, .iload 2, .ireturn]
def kr_221 : List (Nat × Nat × Nat × Nat) := [(0, 0, 0, 1), (1, 0, 0, 1), (2, 1125, 140, 3), (5, 0, 0, 1), (6, 0, 0, 1), (7, 1159, 323, 3), (10, 0, 0, 1), (11, 0, 0, 1), (12, 1160, 61, 3), (15, 0, 0, 1), (16, 0, 0, 1), (17, 1140, 193, 3), (20, 0, 0, 1), (21, 0, 0, 1), (22, 1153, 227, 3), (25, 0, 0, 1), (26, 0, 0, 1), (27, 1154, 258, 3), (30, 0, 0, 1), (31, 0, 0, 1), (32, 0, 0, 1), (33, 0, 0, 1), (34, 0, 0, 1), (35, 0, 0, 1), (36, 1366, 176, 3), (39, 0, 0, 3), (42, 0, 0, 1), (43, 0, 0, 1), (44, 1406, 326, 3), (47, 0, 0, 1), (48, 0, 0, 1), (49, 0, 0, 1), (50, 0, 0, 3), (53, 0, 0, 1), (54, 0, 0, 1), (55, 1157, 221, 3), (58, 1159, 323, 3), (61, 0, 0, 1), (62, 0, 0, 1), (63, 1158, 224, 3), (66, 1160, 61, 3), (69, 0, 0, 1), (70, 0, 0, 1), (71, 1139, 186, 3), (74, 0, 0, 1), (75, 0, 0, 1), (76, 0, 0, 3), (79, 0, 0, 1), (80, 0, 0, 1), (81, 0, 0, 1), (82, 0, 0, 3), (85, 0, 0, 1), (86, 0, 0, 1), (87, 1526, 329, 3), (90, 0, 0, 3), (93, 0, 0, 1), (94, 0, 0, 1), (95, 0, 0, 1), (96, 1530, 332, 3), (99, 0, 0, 1), (100, 0, 0, 1)]
/-- QuillDeskModel.fault(I)I -/
def kc_222 : List Instr := [.aload 0, .sipush 0, .putfield 2816, .iload 1, .ifCond .ne 8, .aload 0, .getfield 2884, .goto 15, .iload 1, .sipush 1, .if_icmp .ne 14, .aload 0, .getfield 2886, .goto 15, .sipush (-1), .ireturn]
def kr_222 : List (Nat × Nat × Nat × Nat) := [(0, 0, 0, 1), (1, 0, 0, 1), (2, 1125, 140, 3), (5, 0, 0, 1), (6, 0, 0, 3), (9, 0, 0, 1), (10, 1159, 323, 3), (13, 0, 0, 3), (16, 0, 0, 1), (17, 0, 0, 1), (18, 0, 0, 3), (21, 0, 0, 1), (22, 1160, 61, 3), (25, 0, 0, 3), (28, 0, 0, 1), (29, 0, 0, 1)]
/-- QuillDeskModel.twoOf(III)I -/
def kc_223 : List Instr := [.iload 1, .sipush 2, .if_icmp .ne 7, .iload 2, .iload 3, .iadd, .ireturn, .iload 1, .sipush 3, .if_icmp .ne 14, .iload 2, .iload 3, .isub, .ireturn, .iload 1, .sipush 4, .if_icmp .ne 21, .iload 2, .iload 3, .imul, .ireturn, .iload 1, .sipush 5, .if_icmp .ne 28, .iload 2, .iload 3, .idiv, .ireturn, .iload 1, .sipush 6, .if_icmp .ne 38, .iload 2, .iload 3, .if_icmp .ge 36, .sipush 1, .goto 37, .sipush 0, .ireturn, .iload 1, .sipush 7, .if_icmp .ne 48, .iload 2, .iload 3, .if_icmp .ne 46, .sipush 1, .goto 47, .sipush 0, .ireturn, .iload 1, .sipush 8, .if_icmp .ne 58, .iload 2, .iload 3, .if_icmp .le 56, .sipush 1, .goto 57, .sipush 0, .ireturn, .iload 1, .sipush 10, .if_icmp .ne 65, .iload 2, .iload 3, .imul, .goto 72, .iload 2, .iload 3, .iadd, .ifCond .le 71, .sipush 1, .goto 72, .sipush 0, .ireturn]
def kr_223 : List (Nat × Nat × Nat × Nat) := [(0, 0, 0, 1), (1, 0, 0, 1), (2, 0, 0, 3), (5, 0, 0, 1), (6, 0, 0, 1), (7, 0, 0, 1), (8, 0, 0, 1), (9, 0, 0, 1), (10, 0, 0, 1), (11, 0, 0, 3), (14, 0, 0, 1), (15, 0, 0, 1), (16, 0, 0, 1), (17, 0, 0, 1), (18, 0, 0, 1), (19, 0, 0, 1), (20, 0, 0, 3), (23, 0, 0, 1), (24, 0, 0, 1), (25, 0, 0, 1), (26, 0, 0, 1), (27, 0, 0, 1), (28, 0, 0, 1), (29, 0, 0, 3), (32, 0, 0, 1), (33, 0, 0, 1), (34, 0, 0, 1), (35, 0, 0, 1), (36, 0, 0, 1), (37, 0, 0, 2), (39, 0, 0, 3), (42, 0, 0, 1), (43, 0, 0, 1), (44, 0, 0, 3), (47, 0, 0, 1), (48, 0, 0, 3), (51, 0, 0, 1), (52, 0, 0, 1), (53, 0, 0, 1), (54, 0, 0, 2), (56, 0, 0, 3), (59, 0, 0, 1), (60, 0, 0, 1), (61, 0, 0, 3), (64, 0, 0, 1), (65, 0, 0, 3), (68, 0, 0, 1), (69, 0, 0, 1), (70, 0, 0, 1), (71, 0, 0, 2), (73, 0, 0, 3), (76, 0, 0, 1), (77, 0, 0, 1), (78, 0, 0, 3), (81, 0, 0, 1), (82, 0, 0, 3), (85, 0, 0, 1), (86, 0, 0, 1), (87, 0, 0, 1), (88, 0, 0, 2), (90, 0, 0, 3), (93, 0, 0, 1), (94, 0, 0, 1), (95, 0, 0, 1), (96, 0, 0, 3), (99, 0, 0, 1), (100, 0, 0, 1), (101, 0, 0, 1), (102, 0, 0, 3), (105, 0, 0, 1), (106, 0, 0, 3), (109, 0, 0, 1), (110, 0, 0, 1)]
/-- QuillDeskModel.runs(III)I -/
def kc_224 : List Instr := [.sipush 0, .istore 4, .sipush 400, .iload 1, .imul, .iload 2, .iadd, .istore 5, .iload 5, .sipush 400, .iload 1, .imul, .iload 3, .iadd, .if_icmp .ge 101, .aload 0, .checkcast 2866, .iload 5, .iaload, .ifCond .eq 26, .aload 0, .checkcast 2866, .iload 5, .iaload, .sipush 1, .if_icmp .ne 52, .aload 0, .checkcast 2904, .iload 4, .aload 0, .checkcast 2866, .iload 5, .iaload, .ifCond .ne 39, .aload 0, .checkcast 2868, .iload 5, .iaload, .goto 46, .aload 0, .checkcast 2902, .aload 0, .checkcast 2868, .iload 5, .iaload, .iaload, .iastore, .iload 4, .sipush 1, .iadd, .istore 4, .goto 99, .aload 0, .checkcast 2866, .iload 5, .iaload, .sipush 9, .if_icmp .ne 73, .aload 0, .checkcast 2904, .iload 4, .sipush 1, .isub, .sipush 1, .aload 0, .checkcast 2904, .iload 4, .sipush 1, .isub, .iaload, .isub, .iastore, .goto 99, .iload 4, .sipush 1, .isub, .istore 4, .aload 0, .checkcast 2904, .iload 4, .sipush 1, .isub, .aload 0, .aload 0, .checkcast 2866, .iload 5, .iaload, .aload 0, .checkcast 2904, .iload 4, .sipush 1, .isub, .iaload, .aload 0, .checkcast 2904, .iload 4, .iaload, .invokevirtual 446226, .iastore, .iinc 5 1, .goto 8, .aload 0, .checkcast 2904, .sipush 0, .iaload, .ireturn]
def kr_224 : List (Nat × Nat × Nat × Nat) := [(0, 0, 0, 1), (1, 0, 0, 2), (3, 0, 0, 3), (6, 0, 0, 1), (7, 0, 0, 1), (8, 0, 0, 1), (9, 0, 0, 1), (10, 0, 0, 2), (12, 0, 0, 2), (14, 0, 0, 3), (17, 0, 0, 1), (18, 0, 0, 1), (19, 0, 0, 1), (20, 0, 0, 1), (21, 0, 0, 3), (24, 0, 0, 1), (25, 1150, 52, 3), (28, 0, 0, 2), (30, 0, 0, 1), (31, 0, 0, 3), (34, 0, 0, 1), (35, 1150, 52, 3), (38, 0, 0, 2), (40, 0, 0, 1), (41, 0, 0, 1), (42, 0, 0, 3), (45, 0, 0, 1), (46, 1169, 80, 3), (49, 0, 0, 2), (51, 0, 0, 1), (52, 1150, 52, 3), (55, 0, 0, 2), (57, 0, 0, 1), (58, 0, 0, 3), (61, 0, 0, 1), (62, 1151, 55, 3), (65, 0, 0, 2), (67, 0, 0, 1), (68, 0, 0, 3), (71, 0, 0, 1), (72, 1168, 77, 3), (75, 0, 0, 1), (76, 1151, 55, 3), (79, 0, 0, 2), (81, 0, 0, 1), (82, 0, 0, 1), (83, 0, 0, 1), (84, 0, 0, 2), (86, 0, 0, 1), (87, 0, 0, 1), (88, 0, 0, 2), (90, 0, 0, 3), (93, 0, 0, 1), (94, 1150, 52, 3), (97, 0, 0, 2), (99, 0, 0, 1), (100, 0, 0, 2), (102, 0, 0, 3), (105, 0, 0, 1), (106, 1169, 80, 3), (109, 0, 0, 2), (111, 0, 0, 1), (112, 0, 0, 1), (113, 0, 0, 1), (114, 0, 0, 1), (115, 1169, 80, 3), (118, 0, 0, 2), (120, 0, 0, 1), (121, 0, 0, 1), (122, 0, 0, 1), (123, 0, 0, 1), (124, 0, 0, 1), (125, 0, 0, 3), (128, 0, 0, 2), (130, 0, 0, 1), (131, 0, 0, 1), (132, 0, 0, 2), (134, 0, 0, 1), (135, 1169, 80, 3), (138, 0, 0, 2), (140, 0, 0, 1), (141, 0, 0, 1), (142, 0, 0, 1), (143, 0, 0, 1), (144, 1150, 52, 3), (147, 0, 0, 2), (149, 0, 0, 1), (150, 0, 0, 1), (151, 1169, 80, 3), (154, 0, 0, 2), (156, 0, 0, 1), (157, 0, 0, 1), (158, 0, 0, 1), (159, 0, 0, 1), (160, 1169, 80, 3), (163, 0, 0, 2), (165, 0, 0, 1), (166, 1626, 335, 3), (169, 0, 0, 1), (170, 0, 0, 3), (173, 0, 0, 3), (176, 0, 0, 1), (177, 1169, 80, 3), (180, 0, 0, 1), (181, 0, 0, 1), (182, 0, 0, 1)]
/-- QuillDeskModel.lineOf(I)I -/
def kc_225 : List Instr := [.sipush 0, .istore 2, .iload 2, .aload 0, .checkcast 2856, .sipush 0, .iaload, .if_icmp .ge 39, .aload 0, .checkcast 2858, .iload 2, .iaload, .iload 1, .if_icmp .ne 37, .aload 0, .checkcast 2862, .iload 2, .iaload, .aload 0, .checkcast 2864, .iload 2, .iaload, .if_icmp .eq 35, .aload 0, .sipush 0, .aload 0, .checkcast 2862, .iload 2, .iaload, .aload 0, .checkcast 2864, .iload 2, .iaload, .invokevirtual 448226, .ifCond .eq 37, .iload 2, .ireturn, .iinc 2 1, .goto 2, .sipush (-1), .ireturn]
def kr_225 : List (Nat × Nat × Nat × Nat) := [(0, 0, 0, 1), (1, 0, 0, 1), (2, 0, 0, 1), (3, 0, 0, 1), (4, 1145, 37, 3), (7, 0, 0, 1), (8, 0, 0, 1), (9, 0, 0, 3), (12, 0, 0, 1), (13, 1146, 40, 3), (16, 0, 0, 1), (17, 0, 0, 1), (18, 0, 0, 1), (19, 0, 0, 3), (22, 0, 0, 1), (23, 1148, 46, 3), (26, 0, 0, 1), (27, 0, 0, 1), (28, 0, 0, 1), (29, 1149, 49, 3), (32, 0, 0, 1), (33, 0, 0, 1), (34, 0, 0, 3), (37, 0, 0, 1), (38, 0, 0, 1), (39, 0, 0, 1), (40, 1148, 46, 3), (43, 0, 0, 1), (44, 0, 0, 1), (45, 0, 0, 1), (46, 1149, 49, 3), (49, 0, 0, 1), (50, 0, 0, 1), (51, 1622, 338, 3), (54, 0, 0, 3), (57, 0, 0, 1), (58, 0, 0, 1), (59, 0, 0, 3), (62, 0, 0, 3), (65, 0, 0, 1), (66, 0, 0, 1)]
/-- QuillDeskModel.fineOf(I)I -/
def kc_226 : List Instr := [.aload 0, .checkcast 2896, .iload 1, .iaload, .sipush 5, .iadd, .ireturn]
def kr_226 : List (Nat × Nat × Nat × Nat) := [(0, 0, 0, 1), (1, 1165, 71, 3), (4, 0, 0, 1), (5, 0, 0, 1), (6, 0, 0, 1), (7, 0, 0, 1), (8, 0, 0, 1)]
/-- QuillDeskModel.asks(I)V -/
def kc_227 : List Instr := [.aload 0, .iload 1, .invokevirtual 350222, .istore 2, .aload 0, .iload 1, .invokevirtual 352222, .istore 3, .aload 0, .checkcast 2902, .sipush 0, .aload 0, .checkcast 2836, .iload 1, .iaload, .iastore, .aload 0, .checkcast 2902, .sipush 1, .iload 2, .sipush (-1), .if_icmp .ne 24, .sipush 0, .goto 30, .aload 0, .checkcast 2818, .sipush 4, .iload 2, .iadd, .iaload, .iastore, .aload 0, .checkcast 2902, .sipush 2, .iload 2, .sipush (-1), .if_icmp .ne 39, .sipush 0, .goto 45, .aload 0, .checkcast 2818, .sipush 18, .iload 2, .iadd, .iaload, .iastore, .aload 0, .checkcast 2902, .sipush 3, .iload 2, .sipush (-1), .if_icmp .ne 54, .sipush 0, .goto 61, .aload 0, .checkcast 2894, .aload 0, .checkcast 2834, .iload 2, .iaload, .iaload, .iastore, .aload 0, .checkcast 2902, .sipush 4, .iload 2, .sipush (-1), .if_icmp .ne 70, .sipush 0, .goto 76, .aload 0, .aload 0, .checkcast 2834, .iload 2, .iaload, .invokevirtual 452222, .iastore, .aload 0, .checkcast 2902, .sipush 5, .iload 3, .sipush (-1), .if_icmp .ne 85, .sipush 0, .goto 96, .aload 0, .checkcast 2838, .iload 3, .iaload, .aload 0, .checkcast 2818, .sipush 86, .iload 3, .iadd, .iaload, .isub, .iastore, .aload 0, .checkcast 2902, .sipush 6, .aload 0, .checkcast 2818, .sipush 76, .iload 1, .iadd, .iaload, .iastore, .aload 0, .checkcast 2902, .sipush 7, .aload 0, .checkcast 2818, .sipush 3, .iaload, .iastore, .aload 0, .checkcast 2902, .sipush 8, .iload 2, .sipush (-1), .if_icmp .ne 123, .sipush 0, .goto 127, .aload 0, .checkcast 2834, .iload 2, .iaload, .iastore, .aload 0, .checkcast 2902, .sipush 9, .iload 3, .iastore, .aload 0, .checkcast 2902, .sipush 10, .aload 0, .checkcast 2818, .sipush 0, .iaload, .iastore, .return_]
def kr_227 : List (Nat × Nat × Nat × Nat) := [(0, 0, 0, 1), (1, 0, 0, 1), (2, 1546, 165, 3), (5, 0, 0, 1), (6, 0, 0, 1), (7, 0, 0, 1), (8, 1562, 341, 3), (11, 0, 0, 1), (12, 0, 0, 1), (13, 1168, 77, 3), (16, 0, 0, 1), (17, 0, 0, 1), (18, 1135, 22, 3), (21, 0, 0, 1), (22, 0, 0, 1), (23, 0, 0, 1), (24, 0, 0, 1), (25, 1168, 77, 3), (28, 0, 0, 1), (29, 0, 0, 1), (30, 0, 0, 1), (31, 0, 0, 3), (34, 0, 0, 1), (35, 0, 0, 3), (38, 0, 0, 1), (39, 1126, 7, 3), (42, 0, 0, 1), (43, 0, 0, 1), (44, 0, 0, 1), (45, 0, 0, 1), (46, 0, 0, 1), (47, 0, 0, 1), (48, 1168, 77, 3), (51, 0, 0, 1), (52, 0, 0, 1), (53, 0, 0, 1), (54, 0, 0, 3), (57, 0, 0, 1), (58, 0, 0, 3), (61, 0, 0, 1), (62, 1126, 7, 3), (65, 0, 0, 2), (67, 0, 0, 1), (68, 0, 0, 1), (69, 0, 0, 1), (70, 0, 0, 1), (71, 0, 0, 1), (72, 1168, 77, 3), (75, 0, 0, 1), (76, 0, 0, 1), (77, 0, 0, 1), (78, 0, 0, 3), (81, 0, 0, 1), (82, 0, 0, 3), (85, 0, 0, 1), (86, 1164, 68, 3), (89, 0, 0, 1), (90, 1134, 19, 3), (93, 0, 0, 1), (94, 0, 0, 1), (95, 0, 0, 1), (96, 0, 0, 1), (97, 0, 0, 1), (98, 1168, 77, 3), (101, 0, 0, 1), (102, 0, 0, 1), (103, 0, 0, 1), (104, 0, 0, 3), (107, 0, 0, 1), (108, 0, 0, 3), (111, 0, 0, 1), (112, 0, 0, 1), (113, 1134, 19, 3), (116, 0, 0, 1), (117, 0, 0, 1), (118, 1610, 344, 3), (121, 0, 0, 1), (122, 0, 0, 1), (123, 1168, 77, 3), (126, 0, 0, 1), (127, 0, 0, 1), (128, 0, 0, 1), (129, 0, 0, 3), (132, 0, 0, 1), (133, 0, 0, 3), (136, 0, 0, 1), (137, 1136, 25, 3), (140, 0, 0, 1), (141, 0, 0, 1), (142, 0, 0, 1), (143, 1126, 7, 3), (146, 0, 0, 2), (148, 0, 0, 1), (149, 0, 0, 1), (150, 0, 0, 1), (151, 0, 0, 1), (152, 0, 0, 1), (153, 0, 0, 1), (154, 1168, 77, 3), (157, 0, 0, 2), (159, 0, 0, 1), (160, 1126, 7, 3), (163, 0, 0, 2), (165, 0, 0, 1), (166, 0, 0, 1), (167, 0, 0, 1), (168, 0, 0, 1), (169, 0, 0, 1), (170, 1168, 77, 3), (173, 0, 0, 2), (175, 0, 0, 1), (176, 1126, 7, 3), (179, 0, 0, 1), (180, 0, 0, 1), (181, 0, 0, 1), (182, 0, 0, 1), (183, 1168, 77, 3), (186, 0, 0, 2), (188, 0, 0, 1), (189, 0, 0, 1), (190, 0, 0, 3), (193, 0, 0, 1), (194, 0, 0, 3), (197, 0, 0, 1), (198, 1134, 19, 3), (201, 0, 0, 1), (202, 0, 0, 1), (203, 0, 0, 1), (204, 0, 0, 1), (205, 1168, 77, 3), (208, 0, 0, 2), (210, 0, 0, 1), (211, 0, 0, 1), (212, 0, 0, 1), (213, 1168, 77, 3), (216, 0, 0, 2), (218, 0, 0, 1), (219, 1126, 7, 3), (222, 0, 0, 1), (223, 0, 0, 1), (224, 0, 0, 1), (225, 0, 0, 1)]
/-- QuillDeskModel.lawTells(III)I -/
def kc_228 : List Instr := [.aload 0, .iload 1, .invokevirtual 450222, .istore 4, .aload 0, .iload 4, .sipush (-1), .if_icmp .ne 10, .iload 2, .goto 21, .aload 0, .sipush 0, .aload 0, .checkcast 2860, .iload 4, .iaload, .aload 0, .checkcast 2862, .iload 4, .iaload, .invokevirtual 448226, .sipush 0, .iload 3, .invokevirtual 318226, .ireturn]
def kr_228 : List (Nat × Nat × Nat × Nat) := [(0, 0, 0, 1), (1, 0, 0, 1), (2, 1618, 347, 3), (5, 0, 0, 2), (7, 0, 0, 1), (8, 0, 0, 2), (10, 0, 0, 1), (11, 0, 0, 3), (14, 0, 0, 1), (15, 0, 0, 3), (18, 0, 0, 1), (19, 0, 0, 1), (20, 0, 0, 1), (21, 1147, 43, 3), (24, 0, 0, 2), (26, 0, 0, 1), (27, 0, 0, 1), (28, 1148, 46, 3), (31, 0, 0, 2), (33, 0, 0, 1), (34, 1622, 338, 3), (37, 0, 0, 1), (38, 0, 0, 1), (39, 1630, 350, 3), (42, 0, 0, 1)]
/-- QuillDeskModel.writesOf(I)I -/
def kc_229 : List Instr := [.aload 0, .iload 1, .invokevirtual 454223, .aload 0, .sipush 0, .sipush 1, .aload 0, .checkcast 2902, .sipush 4, .iaload, .iadd, .sipush 99, .invokevirtual 456226, .ireturn]
def kr_229 : List (Nat × Nat × Nat × Nat) := [(0, 0, 0, 1), (1, 0, 0, 1), (2, 1606, 353, 3), (5, 0, 0, 1), (6, 0, 0, 1), (7, 0, 0, 1), (8, 0, 0, 1), (9, 1168, 77, 3), (12, 0, 0, 1), (13, 0, 0, 1), (14, 0, 0, 1), (15, 0, 0, 2), (17, 1614, 356, 3), (20, 0, 0, 1)]
/-- QuillDeskModel.blotsOf(I)I -/
def kc_230 : List Instr := [.aload 0, .iload 1, .invokevirtual 454223, .aload 0, .sipush 1, .sipush 300, .sipush 30, .aload 0, .checkcast 2902, .sipush 0, .iaload, .imul, .isub, .sipush 1000, .invokevirtual 456226, .ireturn]
def kr_230 : List (Nat × Nat × Nat × Nat) := [(0, 0, 0, 1), (1, 0, 0, 1), (2, 1606, 353, 3), (5, 0, 0, 1), (6, 0, 0, 1), (7, 0, 0, 3), (10, 0, 0, 2), (12, 0, 0, 1), (13, 1168, 77, 3), (16, 0, 0, 1), (17, 0, 0, 1), (18, 0, 0, 1), (19, 0, 0, 1), (20, 0, 0, 3), (23, 1614, 356, 3), (26, 0, 0, 1)]
/-- QuillDeskModel.liftsOf(I)I -/
def kc_231 : List Instr := [.aload 0, .iload 1, .invokevirtual 454223, .aload 0, .sipush 2, .sipush 20, .aload 0, .checkcast 2902, .sipush 3, .iaload, .imul, .sipush 1000, .invokevirtual 456226, .ireturn]
def kr_231 : List (Nat × Nat × Nat × Nat) := [(0, 0, 0, 1), (1, 0, 0, 1), (2, 1606, 353, 3), (5, 0, 0, 1), (6, 0, 0, 1), (7, 0, 0, 2), (9, 0, 0, 1), (10, 1168, 77, 3), (13, 0, 0, 1), (14, 0, 0, 1), (15, 0, 0, 1), (16, 0, 0, 3), (19, 1614, 356, 3), (22, 0, 0, 1)]
/-- QuillDeskModel.notes(III)V -/
def kc_232 : List Instr := [.aload 0, .getfield 2826, .ifCond .ne 9, .aload 0, .checkcast 2818, .sipush 2, .iaload, .sipush 150, .if_icmp .ne 10, .return_, .sipush 4, .aload 0, .checkcast 2818, .sipush 2, .iaload, .imul, .istore 4, .aload 0, .checkcast 2840, .iload 4, .aload 0, .checkcast 2818, .sipush 0, .iaload, .iastore, .aload 0, .checkcast 2840, .iload 4, .sipush 1, .iadd, .iload 1, .iastore, .aload 0, .checkcast 2840, .iload 4, .sipush 2, .iadd, .iload 2, .iastore, .aload 0, .checkcast 2840, .iload 4, .sipush 3, .iadd, .iload 3, .iastore, .aload 0, .checkcast 2818, .sipush 2, .aload 0, .checkcast 2818, .sipush 2, .iaload, .sipush 1, .iadd, .iastore, .return_]
def kr_232 : List (Nat × Nat × Nat × Nat) := [(0, 0, 0, 1), (1, 1130, 150, 3), (4, 0, 0, 3), (7, 0, 0, 1), (8, 1126, 7, 3), (11, 0, 0, 1), (12, 0, 0, 1), (13, 0, 0, 3), (16, 0, 0, 3), (19, 0, 0, 1), (20, 0, 0, 1), (21, 0, 0, 1), (22, 1126, 7, 3), (25, 0, 0, 1), (26, 0, 0, 1), (27, 0, 0, 1), (28, 0, 0, 2), (30, 0, 0, 1), (31, 1137, 28, 3), (34, 0, 0, 2), (36, 0, 0, 1), (37, 1126, 7, 3), (40, 0, 0, 1), (41, 0, 0, 1), (42, 0, 0, 1), (43, 0, 0, 1), (44, 1137, 28, 3), (47, 0, 0, 2), (49, 0, 0, 1), (50, 0, 0, 1), (51, 0, 0, 1), (52, 0, 0, 1), (53, 0, 0, 1), (54, 1137, 28, 3), (57, 0, 0, 2), (59, 0, 0, 1), (60, 0, 0, 1), (61, 0, 0, 1), (62, 0, 0, 1), (63, 0, 0, 1), (64, 1137, 28, 3), (67, 0, 0, 2), (69, 0, 0, 1), (70, 0, 0, 1), (71, 0, 0, 1), (72, 0, 0, 1), (73, 0, 0, 1), (74, 1126, 7, 3), (77, 0, 0, 1), (78, 0, 0, 1), (79, 1126, 7, 3), (82, 0, 0, 1), (83, 0, 0, 1), (84, 0, 0, 1), (85, 0, 0, 1), (86, 0, 0, 1), (87, 0, 0, 1)]
/-- QuillDeskModel.canTake(II)Z -/
def kc_233 : List Instr := [.aload 0, .iload 1, .invokevirtual 350222, .sipush (-1), .if_icmp .ne 16, .aload 0, .iload 2, .invokevirtual 354222, .ifCond .ne 16, .aload 0, .iload 2, .invokevirtual 358222, .sipush (-1), .if_icmp .ne 16, .sipush 1, .goto 17, .sipush 0, .ireturn]
def kr_233 : List (Nat × Nat × Nat × Nat) := [(0, 0, 0, 1), (1, 0, 0, 1), (2, 1546, 165, 3), (5, 0, 0, 1), (6, 0, 0, 3), (9, 0, 0, 1), (10, 0, 0, 1), (11, 1554, 359, 3), (14, 0, 0, 3), (17, 0, 0, 1), (18, 0, 0, 1), (19, 1558, 362, 3), (22, 0, 0, 1), (23, 0, 0, 3), (26, 0, 0, 1), (27, 0, 0, 3), (30, 0, 0, 1), (31, 0, 0, 1)]
/-- QuillDeskModel.canAct(III)Z -/
def kc_234 : List Instr := [.aload 0, .iload 2, .invokevirtual 346222, .ifCond .ne 6, .sipush 0, .ireturn, .aload 0, .iload 2, .invokevirtual 350222, .istore 4, .iload 1, .ifCond .ne 25, .aload 0, .iload 3, .invokevirtual 344222, .ifCond .eq 23, .aload 0, .iload 2, .iload 3, .invokevirtual 466224, .ifCond .eq 23, .sipush 1, .goto 24, .sipush 0, .ireturn, .iload 1, .sipush 2, .if_icmp .ne 57, .iload 3, .sipush (-1), .if_icmp .ne 40, .aload 0, .iload 2, .invokevirtual 352222, .sipush (-1), .if_icmp .eq 38, .sipush 1, .goto 56, .sipush 0, .goto 56, .aload 0, .iload 3, .invokevirtual 348222, .ifCond .eq 55, .aload 0, .iload 3, .invokevirtual 356222, .ifCond .ne 55, .aload 0, .iload 2, .invokevirtual 352222, .iload 3, .if_icmp .eq 55, .sipush 1, .goto 56, .sipush 0, .ireturn, .iload 4, .sipush (-1), .if_icmp .ne 62, .sipush 0, .ireturn, .iload 1, .sipush 1, .if_icmp .eq 86, .iload 1, .sipush 3, .if_icmp .ne 76, .aload 0, .checkcast 2818, .sipush 4, .iload 4, .iadd, .iaload, .sipush 99, .if_icmp .lt 86, .iload 1, .sipush 4, .if_icmp .ne 88, .aload 0, .checkcast 2818, .sipush 18, .iload 4, .iadd, .iaload, .ifCond .le 88, .sipush 1, .goto 89, .sipush 0, .ireturn]
def kr_234 : List (Nat × Nat × Nat × Nat) := [(0, 0, 0, 1), (1, 0, 0, 1), (2, 1382, 180, 3), (5, 0, 0, 3), (8, 0, 0, 1), (9, 0, 0, 1), (10, 0, 0, 1), (11, 0, 0, 1), (12, 1546, 165, 3), (15, 0, 0, 2), (17, 0, 0, 1), (18, 0, 0, 3), (21, 0, 0, 1), (22, 0, 0, 1), (23, 1386, 183, 3), (26, 0, 0, 3), (29, 0, 0, 1), (30, 0, 0, 1), (31, 0, 0, 1), (32, 1550, 365, 3), (35, 0, 0, 3), (38, 0, 0, 1), (39, 0, 0, 3), (42, 0, 0, 1), (43, 0, 0, 1), (44, 0, 0, 1), (45, 0, 0, 1), (46, 0, 0, 3), (49, 0, 0, 1), (50, 0, 0, 1), (51, 0, 0, 3), (54, 0, 0, 1), (55, 0, 0, 1), (56, 1562, 341, 3), (59, 0, 0, 1), (60, 0, 0, 3), (63, 0, 0, 1), (64, 0, 0, 3), (67, 0, 0, 1), (68, 0, 0, 3), (71, 0, 0, 1), (72, 0, 0, 1), (73, 1566, 369, 3), (76, 0, 0, 3), (79, 0, 0, 1), (80, 0, 0, 1), (81, 1570, 168, 3), (84, 0, 0, 3), (87, 0, 0, 1), (88, 0, 0, 1), (89, 1562, 341, 3), (92, 0, 0, 1), (93, 0, 0, 3), (96, 0, 0, 1), (97, 0, 0, 3), (100, 0, 0, 1), (101, 0, 0, 1), (102, 0, 0, 2), (104, 0, 0, 1), (105, 0, 0, 3), (108, 0, 0, 1), (109, 0, 0, 1), (110, 0, 0, 1), (111, 0, 0, 1), (112, 0, 0, 3), (115, 0, 0, 1), (116, 0, 0, 1), (117, 0, 0, 3), (120, 0, 0, 1), (121, 1126, 7, 3), (124, 0, 0, 1), (125, 0, 0, 2), (127, 0, 0, 1), (128, 0, 0, 1), (129, 0, 0, 2), (131, 0, 0, 3), (134, 0, 0, 1), (135, 0, 0, 1), (136, 0, 0, 3), (139, 0, 0, 1), (140, 1126, 7, 3), (143, 0, 0, 2), (145, 0, 0, 2), (147, 0, 0, 1), (148, 0, 0, 1), (149, 0, 0, 3), (152, 0, 0, 1), (153, 0, 0, 3), (156, 0, 0, 1), (157, 0, 0, 1)]
/-- QuillDeskModel.act(III)Z -/
def kc_235 : List Instr := [.aload 0, .sipush 0, .putfield 2816, .aload 0, .iload 1, .iload 2, .iload 3, .invokevirtual 468226, .ifCond .ne 11, .sipush 0, .ireturn, .aload 0, .invokevirtual 332221, .iload 1, .ifCond .ne 24, .aload 0, .checkcast 2818, .sipush 46, .iload 2, .iadd, .iload 3, .sipush 1, .iadd, .iastore, .iload 1, .sipush 1, .if_icmp .ne 34, .aload 0, .checkcast 2818, .sipush 46, .iload 2, .iadd, .sipush 0, .iastore, .iload 1, .sipush 2, .if_icmp .ne 46, .aload 0, .checkcast 2818, .sipush 56, .iload 2, .iadd, .iload 3, .sipush 1, .iadd, .iastore, .iload 1, .sipush 3, .if_icmp .ne 58, .aload 0, .checkcast 2818, .sipush 4, .aload 0, .iload 2, .invokevirtual 350222, .iadd, .sipush 99, .iastore, .iload 1, .sipush 4, .if_icmp .ne 70, .aload 0, .checkcast 2818, .sipush 18, .aload 0, .iload 2, .invokevirtual 350222, .iadd, .sipush 0, .iastore, .sipush 1, .ireturn]
def kr_235 : List (Nat × Nat × Nat × Nat) := [(0, 0, 0, 1), (1, 0, 0, 1), (2, 1125, 140, 3), (5, 0, 0, 1), (6, 0, 0, 1), (7, 0, 0, 1), (8, 0, 0, 1), (9, 1542, 372, 3), (12, 0, 0, 3), (15, 0, 0, 1), (16, 0, 0, 1), (17, 0, 0, 1), (18, 1574, 375, 3), (21, 0, 0, 1), (22, 0, 0, 3), (25, 0, 0, 1), (26, 1126, 7, 3), (29, 0, 0, 2), (31, 0, 0, 1), (32, 0, 0, 1), (33, 0, 0, 1), (34, 0, 0, 1), (35, 0, 0, 1), (36, 0, 0, 1), (37, 0, 0, 1), (38, 0, 0, 1), (39, 0, 0, 3), (42, 0, 0, 1), (43, 1126, 7, 3), (46, 0, 0, 2), (48, 0, 0, 1), (49, 0, 0, 1), (50, 0, 0, 1), (51, 0, 0, 1), (52, 0, 0, 1), (53, 0, 0, 1), (54, 0, 0, 3), (57, 0, 0, 1), (58, 1126, 7, 3), (61, 0, 0, 2), (63, 0, 0, 1), (64, 0, 0, 1), (65, 0, 0, 1), (66, 0, 0, 1), (67, 0, 0, 1), (68, 0, 0, 1), (69, 0, 0, 1), (70, 0, 0, 1), (71, 0, 0, 3), (74, 0, 0, 1), (75, 1126, 7, 3), (78, 0, 0, 1), (79, 0, 0, 1), (80, 0, 0, 1), (81, 1546, 165, 3), (84, 0, 0, 1), (85, 0, 0, 2), (87, 0, 0, 1), (88, 0, 0, 1), (89, 0, 0, 1), (90, 0, 0, 3), (93, 0, 0, 1), (94, 1126, 7, 3), (97, 0, 0, 2), (99, 0, 0, 1), (100, 0, 0, 1), (101, 1546, 165, 3), (104, 0, 0, 1), (105, 0, 0, 1), (106, 0, 0, 1), (107, 0, 0, 1), (108, 0, 0, 1)]
/-- QuillDeskModel.happens(I)Z -/
def kc_236 : List Instr := [.aload 0, .getfield 2826, .ifCond .eq 12, .sipush 2, .iload 1, .imul, .sipush 1000, .if_icmp .lt 10, .sipush 1, .goto 22, .sipush 0, .goto 22, .iload 1, .ifCond .le 21, .aload 0, .sipush 1000, .invokevirtual 342222, .iload 1, .if_icmp .ge 21, .sipush 1, .goto 22, .sipush 0, .ireturn]
def kr_236 : List (Nat × Nat × Nat × Nat) := [(0, 0, 0, 1), (1, 1130, 150, 3), (4, 0, 0, 3), (7, 0, 0, 1), (8, 0, 0, 1), (9, 0, 0, 1), (10, 0, 0, 3), (13, 0, 0, 3), (16, 0, 0, 1), (17, 0, 0, 3), (20, 0, 0, 1), (21, 0, 0, 3), (24, 0, 0, 1), (25, 0, 0, 3), (28, 0, 0, 1), (29, 0, 0, 3), (32, 1638, 378, 3), (35, 0, 0, 1), (36, 0, 0, 3), (39, 0, 0, 1), (40, 0, 0, 3), (43, 0, 0, 1), (44, 0, 0, 1)]
/-- QuillDeskModel.does(I)V -/
def kc_237 : List Instr := [.aload 0, .checkcast 2890, .iload 1, .sipush 1, .iadd, .iaload, .istore 2, .aload 0, .checkcast 2890, .iload 1, .sipush 2, .iadd, .iaload, .istore 3, .aload 0, .checkcast 2890, .iload 1, .sipush 3, .iadd, .iaload, .istore 4, .aload 0, .iload 2, .invokevirtual 350222, .istore 5, .iload 3, .ifCond .ne 41, .aload 0, .iload 2, .iload 4, .invokevirtual 466224, .ifCond .eq 41, .aload 0, .checkcast 2818, .sipush 46, .iload 2, .iadd, .iload 4, .sipush 1, .iadd, .iastore, .iload 3, .sipush 1, .if_icmp .ne 51, .aload 0, .checkcast 2818, .sipush 46, .iload 2, .iadd, .sipush 0, .iastore, .iload 3, .sipush 2, .if_icmp .ne 67, .aload 0, .iload 4, .invokevirtual 356222, .ifCond .ne 67, .aload 0, .checkcast 2818, .sipush 56, .iload 2, .iadd, .iload 4, .sipush 1, .iadd, .iastore, .iload 3, .sipush 3, .if_icmp .ne 77, .aload 0, .checkcast 2818, .sipush 56, .iload 2, .iadd, .sipush 0, .iastore, .iload 3, .sipush 4, .if_icmp .ne 90, .iload 5, .sipush (-1), .if_icmp .eq 90, .aload 0, .checkcast 2818, .sipush 4, .iload 5, .iadd, .sipush 99, .iastore, .iload 3, .sipush 5, .if_icmp .ne 103, .iload 5, .sipush (-1), .if_icmp .eq 103, .aload 0, .checkcast 2818, .sipush 18, .iload 5, .iadd, .sipush 0, .iastore, .return_]
def kr_237 : List (Nat × Nat × Nat × Nat) := [(0, 0, 0, 1), (1, 1162, 65, 3), (4, 0, 0, 1), (5, 0, 0, 1), (6, 0, 0, 1), (7, 0, 0, 1), (8, 0, 0, 1), (9, 0, 0, 1), (10, 1162, 65, 3), (13, 0, 0, 1), (14, 0, 0, 1), (15, 0, 0, 1), (16, 0, 0, 1), (17, 0, 0, 1), (18, 0, 0, 1), (19, 1162, 65, 3), (22, 0, 0, 1), (23, 0, 0, 1), (24, 0, 0, 1), (25, 0, 0, 1), (26, 0, 0, 2), (28, 0, 0, 1), (29, 0, 0, 1), (30, 1546, 165, 3), (33, 0, 0, 2), (35, 0, 0, 1), (36, 0, 0, 3), (39, 0, 0, 1), (40, 0, 0, 1), (41, 0, 0, 2), (43, 1550, 365, 3), (46, 0, 0, 3), (49, 0, 0, 1), (50, 1126, 7, 3), (53, 0, 0, 2), (55, 0, 0, 1), (56, 0, 0, 1), (57, 0, 0, 2), (59, 0, 0, 1), (60, 0, 0, 1), (61, 0, 0, 1), (62, 0, 0, 1), (63, 0, 0, 1), (64, 0, 0, 3), (67, 0, 0, 1), (68, 1126, 7, 3), (71, 0, 0, 2), (73, 0, 0, 1), (74, 0, 0, 1), (75, 0, 0, 1), (76, 0, 0, 1), (77, 0, 0, 1), (78, 0, 0, 1), (79, 0, 0, 3), (82, 0, 0, 1), (83, 0, 0, 2), (85, 1570, 168, 3), (88, 0, 0, 3), (91, 0, 0, 1), (92, 1126, 7, 3), (95, 0, 0, 2), (97, 0, 0, 1), (98, 0, 0, 1), (99, 0, 0, 2), (101, 0, 0, 1), (102, 0, 0, 1), (103, 0, 0, 1), (104, 0, 0, 1), (105, 0, 0, 1), (106, 0, 0, 3), (109, 0, 0, 1), (110, 1126, 7, 3), (113, 0, 0, 2), (115, 0, 0, 1), (116, 0, 0, 1), (117, 0, 0, 1), (118, 0, 0, 1), (119, 0, 0, 1), (120, 0, 0, 1), (121, 0, 0, 3), (124, 0, 0, 2), (126, 0, 0, 1), (127, 0, 0, 3), (130, 0, 0, 1), (131, 1126, 7, 3), (134, 0, 0, 1), (135, 0, 0, 2), (137, 0, 0, 1), (138, 0, 0, 2), (140, 0, 0, 1), (141, 0, 0, 1), (142, 0, 0, 1), (143, 0, 0, 3), (146, 0, 0, 2), (148, 0, 0, 1), (149, 0, 0, 3), (152, 0, 0, 1), (153, 1126, 7, 3), (156, 0, 0, 2), (158, 0, 0, 2), (160, 0, 0, 1), (161, 0, 0, 1), (162, 0, 0, 1), (163, 0, 0, 1)]
/-- QuillDeskModel.isSigned(II)V -/
def kc_238 : List Instr := [.aload 0, .checkcast 2818, .sipush 98, .iload 2, .iadd, .iload 1, .sipush 1, .iadd, .iastore, .aload 0, .checkcast 2818, .sipush 76, .iload 1, .iadd, .aload 0, .checkcast 2818, .sipush 76, .iload 1, .iadd, .iaload, .sipush 1, .iadd, .iastore, .aload 0, .sipush 3, .iload 1, .iload 2, .invokevirtual 464227, .sipush 0, .istore 3, .iload 3, .aload 0, .getfield 2830, .if_icmp .ge 48, .aload 0, .iload 3, .invokevirtual 352222, .iload 2, .if_icmp .ne 46, .aload 0, .checkcast 2818, .sipush 56, .iload 3, .iadd, .sipush 0, .iastore, .iinc 3 1, .goto 30, .return_]
def kr_238 : List (Nat × Nat × Nat × Nat) := [(0, 0, 0, 1), (1, 1126, 7, 3), (4, 0, 0, 2), (6, 0, 0, 1), (7, 0, 0, 1), (8, 0, 0, 1), (9, 0, 0, 1), (10, 0, 0, 1), (11, 0, 0, 1), (12, 0, 0, 1), (13, 1126, 7, 3), (16, 0, 0, 2), (18, 0, 0, 1), (19, 0, 0, 1), (20, 0, 0, 1), (21, 1126, 7, 3), (24, 0, 0, 2), (26, 0, 0, 1), (27, 0, 0, 1), (28, 0, 0, 1), (29, 0, 0, 1), (30, 0, 0, 1), (31, 0, 0, 1), (32, 0, 0, 1), (33, 0, 0, 1), (34, 0, 0, 1), (35, 0, 0, 1), (36, 1644, 381, 3), (39, 0, 0, 1), (40, 0, 0, 1), (41, 0, 0, 1), (42, 0, 0, 1), (43, 1132, 159, 3), (46, 0, 0, 3), (49, 0, 0, 1), (50, 0, 0, 1), (51, 1562, 341, 3), (54, 0, 0, 1), (55, 0, 0, 3), (58, 0, 0, 1), (59, 1126, 7, 3), (62, 0, 0, 2), (64, 0, 0, 1), (65, 0, 0, 1), (66, 0, 0, 1), (67, 0, 0, 1), (68, 0, 0, 3), (71, 0, 0, 3), (74, 0, 0, 1)]
/-- QuillDeskModel.writesOn(III)I -/
def kc_239 : List Instr := [.aload 0, .checkcast 2838, .iload 3, .iaload, .aload 0, .checkcast 2818, .sipush 86, .iload 3, .iadd, .iaload, .isub, .istore 4, .aload 0, .aload 0, .iload 1, .invokevirtual 458222, .aload 0, .aload 0, .checkcast 2818, .sipush 4, .iload 2, .iadd, .iaload, .iload 4, .invokevirtual 322224, .invokevirtual 322224, .istore 5, .aload 0, .checkcast 2818, .sipush 86, .iload 3, .iadd, .aload 0, .checkcast 2818, .sipush 86, .iload 3, .iadd, .iaload, .iload 5, .iadd, .iastore, .aload 0, .checkcast 2818, .sipush 4, .iload 2, .iadd, .aload 0, .checkcast 2818, .sipush 4, .iload 2, .iadd, .iaload, .iload 5, .isub, .iastore, .iload 5, .ifCond .le 62, .aload 0, .sipush 0, .iload 1, .iload 5, .invokevirtual 464227, .iload 5, .iload 4, .if_icmp .ne 69, .aload 0, .iload 1, .iload 3, .invokevirtual 476225, .iload 5, .ireturn]
def kr_239 : List (Nat × Nat × Nat × Nat) := [(0, 0, 0, 1), (1, 1136, 25, 3), (4, 0, 0, 1), (5, 0, 0, 1), (6, 0, 0, 1), (7, 1126, 7, 3), (10, 0, 0, 2), (12, 0, 0, 1), (13, 0, 0, 1), (14, 0, 0, 1), (15, 0, 0, 1), (16, 0, 0, 2), (18, 0, 0, 1), (19, 0, 0, 1), (20, 0, 0, 1), (21, 1656, 385, 3), (24, 0, 0, 1), (25, 0, 0, 1), (26, 1126, 7, 3), (29, 0, 0, 1), (30, 0, 0, 1), (31, 0, 0, 1), (32, 0, 0, 1), (33, 0, 0, 2), (35, 1660, 388, 3), (38, 1660, 388, 3), (41, 0, 0, 2), (43, 0, 0, 1), (44, 1126, 7, 3), (47, 0, 0, 2), (49, 0, 0, 1), (50, 0, 0, 1), (51, 0, 0, 1), (52, 1126, 7, 3), (55, 0, 0, 2), (57, 0, 0, 1), (58, 0, 0, 1), (59, 0, 0, 1), (60, 0, 0, 2), (62, 0, 0, 1), (63, 0, 0, 1), (64, 0, 0, 1), (65, 1126, 7, 3), (68, 0, 0, 1), (69, 0, 0, 1), (70, 0, 0, 1), (71, 0, 0, 1), (72, 1126, 7, 3), (75, 0, 0, 1), (76, 0, 0, 1), (77, 0, 0, 1), (78, 0, 0, 1), (79, 0, 0, 2), (81, 0, 0, 1), (82, 0, 0, 1), (83, 0, 0, 2), (85, 0, 0, 3), (88, 0, 0, 1), (89, 0, 0, 1), (90, 0, 0, 1), (91, 0, 0, 2), (93, 1644, 381, 3), (96, 0, 0, 2), (98, 0, 0, 2), (100, 0, 0, 3), (103, 0, 0, 1), (104, 0, 0, 1), (105, 0, 0, 1), (106, 1664, 391, 3), (109, 0, 0, 2), (111, 0, 0, 1)]
/-- QuillDeskModel.worksOn(I)I -/
def kc_240 : List Instr := [.aload 0, .iload 1, .invokevirtual 350222, .istore 2, .aload 0, .iload 1, .invokevirtual 352222, .istore 3, .aload 0, .aload 0, .iload 1, .invokevirtual 462222, .invokevirtual 472222, .ifCond .eq 45, .aload 0, .checkcast 2818, .sipush 32, .iload 2, .iadd, .sipush 1, .iastore, .aload 0, .checkcast 2818, .sipush 3, .aload 0, .checkcast 2818, .sipush 3, .iaload, .sipush 1, .iadd, .iastore, .aload 0, .checkcast 2818, .sipush 46, .iload 1, .iadd, .sipush 0, .iastore, .aload 0, .sipush 2, .iload 1, .iload 2, .invokevirtual 464227, .sipush 0, .ireturn, .aload 0, .checkcast 2818, .sipush 4, .iload 2, .iadd, .iaload, .ifCond .ne 54, .sipush 0, .ireturn, .sipush 0, .istore 4, .aload 0, .aload 0, .iload 1, .invokevirtual 460222, .invokevirtual 472222, .ifCond .eq 96, .aload 0, .checkcast 2818, .sipush 66, .iload 1, .iadd, .aload 0, .checkcast 2818, .sipush 66, .iload 1, .iadd, .iaload, .sipush 1, .iadd, .iastore, .aload 0, .checkcast 2818, .sipush 4, .iload 2, .iadd, .aload 0, .checkcast 2818, .sipush 4, .iload 2, .iadd, .iaload, .sipush 1, .isub, .iastore, .aload 0, .sipush 1, .iload 1, .iload 3, .invokevirtual 464227, .goto 102, .aload 0, .iload 1, .iload 2, .iload 3, .invokevirtual 478226, .istore 4, .aload 0, .checkcast 2818, .sipush 18, .iload 2, .iadd, .aload 0, .sipush 99, .aload 0, .checkcast 2818, .sipush 18, .iload 2, .iadd, .iaload, .sipush 1, .iadd, .invokevirtual 322224, .iastore, .iload 4, .ireturn]
def kr_240 : List (Nat × Nat × Nat × Nat) := [(0, 0, 0, 1), (1, 0, 0, 1), (2, 1546, 165, 3), (5, 0, 0, 1), (6, 0, 0, 1), (7, 0, 0, 1), (8, 1562, 341, 3), (11, 0, 0, 1), (12, 0, 0, 1), (13, 0, 0, 1), (14, 0, 0, 1), (15, 1602, 394, 3), (18, 1634, 397, 3), (21, 0, 0, 3), (24, 0, 0, 1), (25, 1126, 7, 3), (28, 0, 0, 2), (30, 0, 0, 1), (31, 0, 0, 1), (32, 0, 0, 1), (33, 0, 0, 1), (34, 0, 0, 1), (35, 1126, 7, 3), (38, 0, 0, 1), (39, 0, 0, 1), (40, 1126, 7, 3), (43, 0, 0, 1), (44, 0, 0, 1), (45, 0, 0, 1), (46, 0, 0, 1), (47, 0, 0, 1), (48, 0, 0, 1), (49, 1126, 7, 3), (52, 0, 0, 2), (54, 0, 0, 1), (55, 0, 0, 1), (56, 0, 0, 1), (57, 0, 0, 1), (58, 0, 0, 1), (59, 0, 0, 1), (60, 0, 0, 1), (61, 0, 0, 1), (62, 1644, 381, 3), (65, 0, 0, 1), (66, 0, 0, 1), (67, 0, 0, 1), (68, 1126, 7, 3), (71, 0, 0, 1), (72, 0, 0, 1), (73, 0, 0, 1), (74, 0, 0, 1), (75, 0, 0, 3), (78, 0, 0, 1), (79, 0, 0, 1), (80, 0, 0, 1), (81, 0, 0, 2), (83, 0, 0, 1), (84, 0, 0, 1), (85, 0, 0, 1), (86, 1648, 400, 3), (89, 1634, 397, 3), (92, 0, 0, 3), (95, 0, 0, 1), (96, 1126, 7, 3), (99, 0, 0, 2), (101, 0, 0, 1), (102, 0, 0, 1), (103, 0, 0, 1), (104, 1126, 7, 3), (107, 0, 0, 2), (109, 0, 0, 1), (110, 0, 0, 1), (111, 0, 0, 1), (112, 0, 0, 1), (113, 0, 0, 1), (114, 0, 0, 1), (115, 0, 0, 1), (116, 1126, 7, 3), (119, 0, 0, 1), (120, 0, 0, 1), (121, 0, 0, 1), (122, 0, 0, 1), (123, 1126, 7, 3), (126, 0, 0, 1), (127, 0, 0, 1), (128, 0, 0, 1), (129, 0, 0, 1), (130, 0, 0, 1), (131, 0, 0, 1), (132, 0, 0, 1), (133, 0, 0, 1), (134, 0, 0, 1), (135, 0, 0, 1), (136, 0, 0, 1), (137, 1644, 381, 3), (140, 0, 0, 3), (143, 0, 0, 1), (144, 0, 0, 1), (145, 0, 0, 1), (146, 0, 0, 1), (147, 1652, 403, 3), (150, 0, 0, 2), (152, 0, 0, 1), (153, 1126, 7, 3), (156, 0, 0, 2), (158, 0, 0, 1), (159, 0, 0, 1), (160, 0, 0, 1), (161, 0, 0, 2), (163, 0, 0, 1), (164, 1126, 7, 3), (167, 0, 0, 2), (169, 0, 0, 1), (170, 0, 0, 1), (171, 0, 0, 1), (172, 0, 0, 1), (173, 0, 0, 1), (174, 1660, 388, 3), (177, 0, 0, 1), (178, 0, 0, 2), (180, 0, 0, 1)]
/-- QuillDeskModel.goesBy()I -/
def kc_241 : List Instr := [.sipush 0, .istore 1, .iload 1, .sipush 4, .aload 0, .getfield 2888, .imul, .if_icmp .ge 25, .aload 0, .checkcast 2890, .iload 1, .iaload, .aload 0, .checkcast 2818, .sipush 0, .iaload, .if_icmp .ne 20, .aload 0, .iload 1, .invokevirtual 474223, .iload 1, .sipush 4, .iadd, .istore 1, .goto 2, .sipush 0, .istore 1, .sipush 0, .istore 2, .iload 2, .aload 0, .getfield 2830, .if_icmp .ge 57, .aload 0, .iload 2, .invokevirtual 350222, .sipush (-1), .if_icmp .eq 55, .aload 0, .iload 2, .invokevirtual 352222, .sipush (-1), .if_icmp .eq 55, .aload 0, .aload 0, .iload 2, .invokevirtual 352222, .invokevirtual 362222, .ifCond .eq 55, .iload 1, .aload 0, .iload 2, .invokevirtual 480222, .iadd, .istore 1, .iinc 2 1, .goto 29, .aload 0, .checkcast 2818, .sipush 0, .aload 0, .checkcast 2818, .sipush 0, .iaload, .sipush 1, .iadd, .iastore, .iload 1, .ireturn]
def kr_241 : List (Nat × Nat × Nat × Nat) := [(0, 0, 0, 1), (1, 0, 0, 1), (2, 0, 0, 1), (3, 0, 0, 1), (4, 0, 0, 1), (5, 1161, 314, 3), (8, 0, 0, 1), (9, 0, 0, 3), (12, 0, 0, 1), (13, 1162, 65, 3), (16, 0, 0, 1), (17, 0, 0, 1), (18, 0, 0, 1), (19, 1126, 7, 3), (22, 0, 0, 1), (23, 0, 0, 1), (24, 0, 0, 3), (27, 0, 0, 1), (28, 0, 0, 1), (29, 1586, 406, 3), (32, 0, 0, 1), (33, 0, 0, 1), (34, 0, 0, 1), (35, 0, 0, 1), (36, 0, 0, 3), (39, 0, 0, 1), (40, 0, 0, 1), (41, 0, 0, 1), (42, 0, 0, 1), (43, 0, 0, 1), (44, 0, 0, 1), (45, 1132, 159, 3), (48, 0, 0, 3), (51, 0, 0, 1), (52, 0, 0, 1), (53, 1546, 165, 3), (56, 0, 0, 1), (57, 0, 0, 3), (60, 0, 0, 1), (61, 0, 0, 1), (62, 1562, 341, 3), (65, 0, 0, 1), (66, 0, 0, 3), (69, 0, 0, 1), (70, 0, 0, 1), (71, 0, 0, 1), (72, 1562, 341, 3), (75, 1590, 409, 3), (78, 0, 0, 3), (81, 0, 0, 1), (82, 0, 0, 1), (83, 0, 0, 1), (84, 1598, 412, 3), (87, 0, 0, 1), (88, 0, 0, 1), (89, 0, 0, 3), (92, 0, 0, 3), (95, 0, 0, 1), (96, 1126, 7, 3), (99, 0, 0, 1), (100, 0, 0, 1), (101, 1126, 7, 3), (104, 0, 0, 1), (105, 0, 0, 1), (106, 0, 0, 1), (107, 0, 0, 1), (108, 0, 0, 1), (109, 0, 0, 1), (110, 0, 0, 1)]
/-- QuillDeskModel.hours(I)I -/
def kc_242 : List Instr := [.aload 0, .sipush 0, .putfield 2816, .aload 0, .iload 1, .sipush 1, .sipush 60, .invokevirtual 316226, .ifCond .eq 17, .aload 0, .checkcast 2818, .sipush 0, .iaload, .iload 1, .iadd, .sipush 9999, .if_icmp .le 19, .sipush (-1), .ireturn, .sipush 0, .istore 2, .sipush 0, .istore 3, .iload 3, .iload 1, .if_icmp .ge 35, .aload 0, .invokevirtual 332221, .iload 2, .aload 0, .invokevirtual 482220, .iadd, .istore 2, .iinc 3 1, .goto 23, .iload 2, .ireturn]
def kr_242 : List (Nat × Nat × Nat × Nat) := [(0, 0, 0, 1), (1, 0, 0, 1), (2, 1125, 140, 3), (5, 0, 0, 1), (6, 0, 0, 1), (7, 0, 0, 1), (8, 0, 0, 2), (10, 1366, 176, 3), (13, 0, 0, 3), (16, 0, 0, 1), (17, 1126, 7, 3), (20, 0, 0, 1), (21, 0, 0, 1), (22, 0, 0, 1), (23, 0, 0, 1), (24, 0, 0, 3), (27, 0, 0, 3), (30, 0, 0, 1), (31, 0, 0, 1), (32, 0, 0, 1), (33, 0, 0, 1), (34, 0, 0, 1), (35, 0, 0, 1), (36, 0, 0, 1), (37, 0, 0, 1), (38, 0, 0, 3), (41, 0, 0, 1), (42, 1574, 375, 3), (45, 0, 0, 1), (46, 0, 0, 1), (47, 1582, 415, 3), (50, 0, 0, 1), (51, 0, 0, 1), (52, 0, 0, 3), (55, 0, 0, 3), (58, 0, 0, 1), (59, 0, 0, 1)]
/-- QuillDeskModel.of(II)I -/
def kc_243 : List Instr := [.aload 0, .sipush 0, .putfield 2816, .aload 0, .iload 1, .invokevirtual 344222, .ifCond .ne 9, .sipush (-2), .ireturn, .iload 2, .ifCond .ne 16, .aload 0, .checkcast 2834, .iload 1, .iaload, .ireturn, .aload 0, .iload 2, .sipush 1, .sipush 3, .invokevirtual 316226, .ifCond .eq 35, .aload 0, .checkcast 2818, .sipush 4, .sipush 14, .iload 2, .sipush 1, .isub, .imul, .iadd, .iload 1, .iadd, .iaload, .ireturn, .iload 2, .sipush 4, .if_icmp .ne 42, .aload 0, .iload 1, .invokevirtual 358222, .goto 64, .iload 2, .sipush 5, .if_icmp .ne 53, .aload 0, .checkcast 2894, .aload 0, .checkcast 2834, .iload 1, .iaload, .iaload, .goto 64, .iload 2, .sipush 6, .if_icmp .ne 63, .aload 0, .aload 0, .checkcast 2834, .iload 1, .iaload, .invokevirtual 452222, .goto 64, .sipush (-2), .ireturn]
def kr_243 : List (Nat × Nat × Nat × Nat) := [(0, 0, 0, 1), (1, 0, 0, 1), (2, 1125, 140, 3), (5, 0, 0, 1), (6, 0, 0, 1), (7, 1386, 183, 3), (10, 0, 0, 3), (13, 0, 0, 2), (15, 0, 0, 1), (16, 0, 0, 1), (17, 0, 0, 3), (20, 0, 0, 1), (21, 1134, 19, 3), (24, 0, 0, 1), (25, 0, 0, 1), (26, 0, 0, 1), (27, 0, 0, 1), (28, 0, 0, 1), (29, 0, 0, 1), (30, 0, 0, 1), (31, 1366, 176, 3), (34, 0, 0, 3), (37, 0, 0, 1), (38, 1126, 7, 3), (41, 0, 0, 1), (42, 0, 0, 2), (44, 0, 0, 1), (45, 0, 0, 1), (46, 0, 0, 1), (47, 0, 0, 1), (48, 0, 0, 1), (49, 0, 0, 1), (50, 0, 0, 1), (51, 0, 0, 1), (52, 0, 0, 1), (53, 0, 0, 1), (54, 0, 0, 1), (55, 0, 0, 3), (58, 0, 0, 1), (59, 0, 0, 1), (60, 1558, 362, 3), (63, 0, 0, 3), (66, 0, 0, 1), (67, 0, 0, 1), (68, 0, 0, 3), (71, 0, 0, 1), (72, 1164, 68, 3), (75, 0, 0, 1), (76, 1134, 19, 3), (79, 0, 0, 1), (80, 0, 0, 1), (81, 0, 0, 1), (82, 0, 0, 3), (85, 0, 0, 1), (86, 0, 0, 2), (88, 0, 0, 3), (91, 0, 0, 1), (92, 0, 0, 1), (93, 1134, 19, 3), (96, 0, 0, 1), (97, 0, 0, 1), (98, 1610, 344, 3), (101, 0, 0, 3), (104, 0, 0, 2), (106, 0, 0, 1)]
/-- QuillDeskModel.who(II)I -/
def kc_244 : List Instr := [.aload 0, .sipush 0, .putfield 2816, .aload 0, .iload 1, .invokevirtual 346222, .ifCond .ne 9, .sipush (-2), .ireturn, .iload 2, .ifCond .ne 16, .aload 0, .checkcast 2836, .iload 1, .iaload, .ireturn, .iload 2, .sipush 1, .if_icmp .ne 23, .aload 0, .iload 1, .invokevirtual 350222, .ireturn, .iload 2, .sipush 2, .if_icmp .ne 30, .aload 0, .iload 1, .invokevirtual 352222, .ireturn, .iload 2, .sipush 3, .if_icmp .ne 40, .aload 0, .checkcast 2818, .sipush 66, .iload 1, .iadd, .iaload, .ireturn, .iload 2, .sipush 4, .if_icmp .ne 50, .aload 0, .checkcast 2818, .sipush 76, .iload 1, .iadd, .iaload, .ireturn, .iload 2, .sipush 5, .if_icmp .ne 57, .aload 0, .iload 1, .invokevirtual 458222, .goto 72, .iload 2, .sipush 6, .if_icmp .ne 64, .aload 0, .iload 1, .invokevirtual 460222, .goto 72, .iload 2, .sipush 7, .if_icmp .ne 71, .aload 0, .iload 1, .invokevirtual 462222, .goto 72, .sipush (-2), .ireturn]
def kr_244 : List (Nat × Nat × Nat × Nat) := [(0, 0, 0, 1), (1, 0, 0, 1), (2, 1125, 140, 3), (5, 0, 0, 1), (6, 0, 0, 1), (7, 1382, 180, 3), (10, 0, 0, 3), (13, 0, 0, 2), (15, 0, 0, 1), (16, 0, 0, 1), (17, 0, 0, 3), (20, 0, 0, 1), (21, 1135, 22, 3), (24, 0, 0, 1), (25, 0, 0, 1), (26, 0, 0, 1), (27, 0, 0, 1), (28, 0, 0, 1), (29, 0, 0, 3), (32, 0, 0, 1), (33, 0, 0, 1), (34, 1546, 165, 3), (37, 0, 0, 1), (38, 0, 0, 1), (39, 0, 0, 1), (40, 0, 0, 3), (43, 0, 0, 1), (44, 0, 0, 1), (45, 1562, 341, 3), (48, 0, 0, 1), (49, 0, 0, 1), (50, 0, 0, 1), (51, 0, 0, 3), (54, 0, 0, 1), (55, 1126, 7, 3), (58, 0, 0, 2), (60, 0, 0, 1), (61, 0, 0, 1), (62, 0, 0, 1), (63, 0, 0, 1), (64, 0, 0, 1), (65, 0, 0, 1), (66, 0, 0, 3), (69, 0, 0, 1), (70, 1126, 7, 3), (73, 0, 0, 2), (75, 0, 0, 1), (76, 0, 0, 1), (77, 0, 0, 1), (78, 0, 0, 1), (79, 0, 0, 1), (80, 0, 0, 1), (81, 0, 0, 3), (84, 0, 0, 1), (85, 0, 0, 1), (86, 1656, 385, 3), (89, 0, 0, 3), (92, 0, 0, 1), (93, 0, 0, 2), (95, 0, 0, 3), (98, 0, 0, 1), (99, 0, 0, 1), (100, 1648, 400, 3), (103, 0, 0, 3), (106, 0, 0, 1), (107, 0, 0, 2), (109, 0, 0, 3), (112, 0, 0, 1), (113, 0, 0, 1), (114, 1602, 394, 3), (117, 0, 0, 3), (120, 0, 0, 2), (122, 0, 0, 1)]
/-- QuillDeskModel.deedOf(II)I -/
def kc_245 : List Instr := [.aload 0, .sipush 0, .putfield 2816, .aload 0, .iload 1, .invokevirtual 348222, .ifCond .eq 13, .aload 0, .iload 2, .sipush 0, .sipush 5, .invokevirtual 316226, .ifCond .ne 15, .sipush (-2), .ireturn, .iload 2, .ifCond .ne 22, .aload 0, .checkcast 2838, .iload 1, .iaload, .ireturn, .iload 2, .sipush 1, .if_icmp .ne 32, .aload 0, .checkcast 2818, .sipush 86, .iload 1, .iadd, .iaload, .ireturn, .iload 2, .sipush 2, .if_icmp .ne 44, .aload 0, .checkcast 2818, .sipush 98, .iload 1, .iadd, .iaload, .sipush 1, .isub, .ireturn, .iload 2, .sipush 3, .if_icmp .ne 52, .aload 0, .checkcast 2900, .iload 1, .iaload, .ireturn, .iload 2, .sipush 4, .if_icmp .ne 63, .aload 0, .iload 1, .invokevirtual 362222, .ifCond .eq 61, .sipush 1, .goto 62, .sipush 0, .ireturn, .sipush 0, .istore 3, .sipush 0, .istore 4, .iload 4, .aload 0, .getfield 2830, .if_icmp .ge 84, .aload 0, .iload 4, .invokevirtual 352222, .iload 1, .if_icmp .ne 82, .iload 3, .sipush 1, .iload 4, .ishl, .ior, .istore 3, .iinc 4 1, .goto 67, .iload 3, .ireturn]
def kr_245 : List (Nat × Nat × Nat × Nat) := [(0, 0, 0, 1), (1, 0, 0, 1), (2, 1125, 140, 3), (5, 0, 0, 1), (6, 0, 0, 1), (7, 1566, 369, 3), (10, 0, 0, 3), (13, 0, 0, 1), (14, 0, 0, 1), (15, 0, 0, 1), (16, 0, 0, 1), (17, 1366, 176, 3), (20, 0, 0, 3), (23, 0, 0, 2), (25, 0, 0, 1), (26, 0, 0, 1), (27, 0, 0, 3), (30, 0, 0, 1), (31, 1136, 25, 3), (34, 0, 0, 1), (35, 0, 0, 1), (36, 0, 0, 1), (37, 0, 0, 1), (38, 0, 0, 1), (39, 0, 0, 3), (42, 0, 0, 1), (43, 1126, 7, 3), (46, 0, 0, 2), (48, 0, 0, 1), (49, 0, 0, 1), (50, 0, 0, 1), (51, 0, 0, 1), (52, 0, 0, 1), (53, 0, 0, 1), (54, 0, 0, 3), (57, 0, 0, 1), (58, 1126, 7, 3), (61, 0, 0, 2), (63, 0, 0, 1), (64, 0, 0, 1), (65, 0, 0, 1), (66, 0, 0, 1), (67, 0, 0, 1), (68, 0, 0, 1), (69, 0, 0, 1), (70, 0, 0, 1), (71, 0, 0, 3), (74, 0, 0, 1), (75, 1167, 74, 3), (78, 0, 0, 1), (79, 0, 0, 1), (80, 0, 0, 1), (81, 0, 0, 1), (82, 0, 0, 1), (83, 0, 0, 3), (86, 0, 0, 1), (87, 0, 0, 1), (88, 1590, 409, 3), (91, 0, 0, 3), (94, 0, 0, 1), (95, 0, 0, 3), (98, 0, 0, 1), (99, 0, 0, 1), (100, 0, 0, 1), (101, 0, 0, 1), (102, 0, 0, 1), (103, 0, 0, 2), (105, 0, 0, 2), (107, 0, 0, 1), (108, 1132, 159, 3), (111, 0, 0, 3), (114, 0, 0, 1), (115, 0, 0, 2), (117, 1562, 341, 3), (120, 0, 0, 1), (121, 0, 0, 3), (124, 0, 0, 1), (125, 0, 0, 1), (126, 0, 0, 2), (128, 0, 0, 1), (129, 0, 0, 1), (130, 0, 0, 1), (131, 0, 0, 3), (134, 0, 0, 3), (137, 0, 0, 1), (138, 0, 0, 1)]
/-- QuillDeskModel.book(II)I -/
def kc_246 : List Instr := [.aload 0, .sipush 0, .putfield 2816, .aload 0, .iload 1, .sipush 0, .aload 0, .checkcast 2818, .sipush 2, .iaload, .sipush 1, .isub, .invokevirtual 316226, .ifCond .eq 29, .aload 0, .iload 2, .sipush 0, .sipush 3, .invokevirtual 316226, .ifCond .eq 29, .aload 0, .checkcast 2840, .sipush 4, .iload 1, .imul, .iload 2, .iadd, .iaload, .goto 30, .sipush (-1), .ireturn]
def kr_246 : List (Nat × Nat × Nat × Nat) := [(0, 0, 0, 1), (1, 0, 0, 1), (2, 1125, 140, 3), (5, 0, 0, 1), (6, 0, 0, 1), (7, 0, 0, 1), (8, 0, 0, 1), (9, 1126, 7, 3), (12, 0, 0, 1), (13, 0, 0, 1), (14, 0, 0, 1), (15, 0, 0, 1), (16, 1366, 176, 3), (19, 0, 0, 3), (22, 0, 0, 1), (23, 0, 0, 1), (24, 0, 0, 1), (25, 0, 0, 1), (26, 1366, 176, 3), (29, 0, 0, 3), (32, 0, 0, 1), (33, 1137, 28, 3), (36, 0, 0, 1), (37, 0, 0, 1), (38, 0, 0, 1), (39, 0, 0, 1), (40, 0, 0, 1), (41, 0, 0, 1), (42, 0, 0, 3), (45, 0, 0, 1), (46, 0, 0, 1)]
/-- QuillDeskModel.sumOf(II)I -/
def kc_247 : List Instr := [.sipush 0, .istore 3, .sipush 0, .istore 4, .iload 4, .iload 2, .if_icmp .ge 18, .iload 3, .aload 0, .checkcast 2818, .iload 1, .iload 4, .iadd, .iaload, .iadd, .istore 3, .iinc 4 1, .goto 4, .iload 3, .ireturn]
def kr_247 : List (Nat × Nat × Nat × Nat) := [(0, 0, 0, 1), (1, 0, 0, 1), (2, 0, 0, 1), (3, 0, 0, 2), (5, 0, 0, 2), (7, 0, 0, 1), (8, 0, 0, 3), (11, 0, 0, 1), (12, 0, 0, 1), (13, 1126, 7, 3), (16, 0, 0, 1), (17, 0, 0, 2), (19, 0, 0, 1), (20, 0, 0, 1), (21, 0, 0, 1), (22, 0, 0, 1), (23, 0, 0, 3), (26, 0, 0, 3), (29, 0, 0, 1), (30, 0, 0, 1)]
/-- QuillDeskModel.goes(II)I -/
def kc_248 : List Instr := [.aload 0, .sipush 0, .putfield 2816, .aload 0, .iload 1, .sipush 1, .sipush 60, .invokevirtual 316226, .ifCond .eq 15, .aload 0, .iload 2, .sipush 0, .sipush 3, .invokevirtual 316226, .ifCond .ne 17, .sipush (-1), .ireturn, .aload 0, .invokevirtual 336221, .sipush 0, .istore 3, .iload 3, .iload 1, .if_icmp .ge 29, .aload 0, .invokevirtual 482220, .pop, .iinc 3 1, .goto 21, .iload 2, .ifCond .ne 37, .aload 0, .sipush 86, .aload 0, .getfield 2832, .invokevirtual 494224, .goto 58, .iload 2, .sipush 1, .if_icmp .ne 46, .aload 0, .sipush 66, .aload 0, .getfield 2830, .invokevirtual 494224, .goto 58, .iload 2, .sipush 2, .if_icmp .ne 54, .aload 0, .checkcast 2818, .sipush 3, .iaload, .goto 58, .aload 0, .aload 0, .invokevirtual 360220, .invokevirtual 328222, .istore 3, .aload 0, .invokevirtual 338221, .iload 3, .ireturn]
def kr_248 : List (Nat × Nat × Nat × Nat) := [(0, 0, 0, 1), (1, 0, 0, 1), (2, 1125, 140, 3), (5, 0, 0, 1), (6, 0, 0, 1), (7, 0, 0, 1), (8, 0, 0, 2), (10, 1366, 176, 3), (13, 0, 0, 3), (16, 0, 0, 1), (17, 0, 0, 1), (18, 0, 0, 1), (19, 0, 0, 1), (20, 1366, 176, 3), (23, 0, 0, 3), (26, 0, 0, 1), (27, 0, 0, 1), (28, 0, 0, 1), (29, 1688, 418, 3), (32, 0, 0, 1), (33, 0, 0, 1), (34, 0, 0, 1), (35, 0, 0, 1), (36, 0, 0, 3), (39, 0, 0, 1), (40, 1582, 415, 3), (43, 0, 0, 1), (44, 0, 0, 3), (47, 0, 0, 3), (50, 0, 0, 1), (51, 0, 0, 3), (54, 0, 0, 1), (55, 0, 0, 2), (57, 0, 0, 1), (58, 1133, 162, 3), (61, 1692, 421, 3), (64, 0, 0, 3), (67, 0, 0, 1), (68, 0, 0, 1), (69, 0, 0, 3), (72, 0, 0, 1), (73, 0, 0, 2), (75, 0, 0, 1), (76, 1132, 159, 3), (79, 1692, 421, 3), (82, 0, 0, 3), (85, 0, 0, 1), (86, 0, 0, 1), (87, 0, 0, 3), (90, 0, 0, 1), (91, 1126, 7, 3), (94, 0, 0, 1), (95, 0, 0, 1), (96, 0, 0, 3), (99, 0, 0, 1), (100, 0, 0, 1), (101, 1594, 172, 3), (104, 1696, 424, 3), (107, 0, 0, 1), (108, 0, 0, 1), (109, 1700, 427, 3), (112, 0, 0, 1), (113, 0, 0, 1)]
/-- QuillDeskModel.done(I)I -/
def kc_249 : List Instr := [.aload 0, .sipush 0, .putfield 2816, .aload 0, .iload 1, .invokevirtual 348222, .ifCond .ne 9, .sipush (-1), .ireturn, .aload 0, .invokevirtual 336221, .sipush 0, .istore 2, .iload 2, .sipush 60, .if_icmp .gt 28, .aload 0, .iload 1, .invokevirtual 356222, .ifCond .ne 28, .aload 0, .invokevirtual 482220, .pop, .iload 2, .sipush 1, .iadd, .istore 2, .goto 13, .aload 0, .invokevirtual 338221, .iload 2, .sipush 60, .if_icmp .le 35, .sipush (-1), .goto 36, .iload 2, .ireturn]
def kr_249 : List (Nat × Nat × Nat × Nat) := [(0, 0, 0, 1), (1, 0, 0, 1), (2, 1125, 140, 3), (5, 0, 0, 1), (6, 0, 0, 1), (7, 1566, 369, 3), (10, 0, 0, 3), (13, 0, 0, 1), (14, 0, 0, 1), (15, 0, 0, 1), (16, 1688, 418, 3), (19, 0, 0, 1), (20, 0, 0, 1), (21, 0, 0, 1), (22, 0, 0, 2), (24, 0, 0, 3), (27, 0, 0, 1), (28, 0, 0, 1), (29, 1570, 168, 3), (32, 0, 0, 3), (35, 0, 0, 1), (36, 1582, 415, 3), (39, 0, 0, 1), (40, 0, 0, 1), (41, 0, 0, 1), (42, 0, 0, 1), (43, 0, 0, 1), (44, 0, 0, 3), (47, 0, 0, 1), (48, 1700, 427, 3), (51, 0, 0, 1), (52, 0, 0, 2), (54, 0, 0, 3), (57, 0, 0, 1), (58, 0, 0, 3), (61, 0, 0, 1), (62, 0, 0, 1)]
/-- QuillDeskModel.soon(II)I -/
def kc_250 : List Instr := [.aload 0, .sipush 0, .putfield 2816, .aload 0, .iload 1, .sipush 1, .sipush 99, .invokevirtual 316226, .ifCond .eq 15, .aload 0, .iload 2, .sipush 0, .sipush 1, .invokevirtual 316226, .ifCond .ne 17, .sipush (-1), .ireturn, .sipush 0, .istore 3, .sipush (-1), .istore 4, .sipush 0, .istore 5, .iload 5, .aload 0, .getfield 2832, .if_icmp .ge 110, .aload 0, .checkcast 2906, .iload 5, .sipush 0, .iastore, .aload 0, .iload 5, .invokevirtual 356222, .ifCond .eq 37, .goto 108, .sipush 0, .istore 6, .iload 6, .iload 5, .if_icmp .ge 66, .aload 0, .aload 0, .checkcast 2900, .iload 5, .iaload, .iload 6, .invokevirtual 330224, .ifCond .eq 64, .aload 0, .checkcast 2906, .iload 5, .aload 0, .aload 0, .checkcast 2906, .iload 5, .iaload, .aload 0, .checkcast 2906, .iload 6, .iaload, .invokevirtual 320224, .iastore, .iinc 6 1, .goto 39, .aload 0, .checkcast 2906, .iload 5, .aload 0, .checkcast 2906, .iload 5, .iaload, .aload 0, .checkcast 2838, .iload 5, .iaload, .aload 0, .checkcast 2818, .sipush 86, .iload 5, .iadd, .iaload, .isub, .iload 1, .iadd, .sipush 1, .isub, .iload 1, .idiv, .iadd, .iastore, .aload 0, .checkcast 2906, .iload 5, .iaload, .iload 3, .if_icmp .le 100, .iload 5, .istore 4, .aload 0, .iload 3, .aload 0, .checkcast 2906, .iload 5, .iaload, .invokevirtual 320224, .istore 3, .iinc 5 1, .goto 23, .iload 2, .ifCond .ne 114, .iload 3, .goto 115, .iload 4, .ireturn]
def kr_250 : List (Nat × Nat × Nat × Nat) := [(0, 0, 0, 1), (1, 0, 0, 1), (2, 1125, 140, 3), (5, 0, 0, 1), (6, 0, 0, 1), (7, 0, 0, 1), (8, 0, 0, 2), (10, 1366, 176, 3), (13, 0, 0, 3), (16, 0, 0, 1), (17, 0, 0, 1), (18, 0, 0, 1), (19, 0, 0, 1), (20, 1366, 176, 3), (23, 0, 0, 3), (26, 0, 0, 1), (27, 0, 0, 1), (28, 0, 0, 1), (29, 0, 0, 1), (30, 0, 0, 1), (31, 0, 0, 2), (33, 0, 0, 1), (34, 0, 0, 2), (36, 0, 0, 2), (38, 0, 0, 1), (39, 1133, 162, 3), (42, 0, 0, 3), (45, 0, 0, 1), (46, 1170, 83, 3), (49, 0, 0, 2), (51, 0, 0, 1), (52, 0, 0, 1), (53, 0, 0, 1), (54, 0, 0, 2), (56, 1570, 168, 3), (59, 0, 0, 3), (62, 0, 0, 3), (65, 0, 0, 1), (66, 0, 0, 2), (68, 0, 0, 2), (70, 0, 0, 2), (72, 0, 0, 3), (75, 0, 0, 1), (76, 0, 0, 1), (77, 1167, 74, 3), (80, 0, 0, 2), (82, 0, 0, 1), (83, 0, 0, 2), (85, 1712, 430, 3), (88, 0, 0, 3), (91, 0, 0, 1), (92, 1170, 83, 3), (95, 0, 0, 2), (97, 0, 0, 1), (98, 0, 0, 1), (99, 1170, 83, 3), (102, 0, 0, 2), (104, 0, 0, 1), (105, 0, 0, 1), (106, 1170, 83, 3), (109, 0, 0, 2), (111, 0, 0, 1), (112, 1716, 433, 3), (115, 0, 0, 1), (116, 0, 0, 3), (119, 0, 0, 3), (122, 0, 0, 1), (123, 1170, 83, 3), (126, 0, 0, 2), (128, 0, 0, 1), (129, 1170, 83, 3), (132, 0, 0, 2), (134, 0, 0, 1), (135, 0, 0, 1), (136, 1136, 25, 3), (139, 0, 0, 2), (141, 0, 0, 1), (142, 0, 0, 1), (143, 1126, 7, 3), (146, 0, 0, 2), (148, 0, 0, 2), (150, 0, 0, 1), (151, 0, 0, 1), (152, 0, 0, 1), (153, 0, 0, 1), (154, 0, 0, 1), (155, 0, 0, 1), (156, 0, 0, 1), (157, 0, 0, 1), (158, 0, 0, 1), (159, 0, 0, 1), (160, 0, 0, 1), (161, 0, 0, 1), (162, 1170, 83, 3), (165, 0, 0, 2), (167, 0, 0, 1), (168, 0, 0, 1), (169, 0, 0, 3), (172, 0, 0, 2), (174, 0, 0, 2), (176, 0, 0, 1), (177, 0, 0, 1), (178, 0, 0, 1), (179, 1170, 83, 3), (182, 0, 0, 2), (184, 0, 0, 1), (185, 1716, 433, 3), (188, 0, 0, 1), (189, 0, 0, 3), (192, 0, 0, 3), (195, 0, 0, 1), (196, 0, 0, 3), (199, 0, 0, 1), (200, 0, 0, 3), (203, 0, 0, 2), (205, 0, 0, 1)]
/-- QuillDeskModel.flock(II)I -/
def kc_251 : List Instr := [.aload 0, .sipush 0, .putfield 2816, .aload 0, .iload 1, .sipush 0, .sipush 12, .invokevirtual 316226, .ifCond .eq 20, .iload 2, .sipush (-1), .if_icmp .eq 22, .aload 0, .iload 2, .sipush 0, .iload 1, .sipush 1, .isub, .invokevirtual 316226, .ifCond .ne 22, .sipush (-1), .ireturn, .iload 1, .ifCond .ne 26, .sipush 1, .ireturn, .sipush 1, .istore 3, .iload 3, .iload 1, .if_icmp .gt 99, .iload 1, .iload 3, .isub, .sipush 2, .irem, .ifCond .ne 39, .sipush 1, .goto 40, .sipush 0, .istore 4, .sipush 0, .istore 5, .iload 5, .iload 3, .if_icmp .ge 97, .iload 3, .sipush 1, .if_icmp .ne 51, .sipush 1, .goto 52, .sipush 0, .istore 6, .sipush 0, .istore 7, .iload 7, .iload 3, .sipush 1, .isub, .if_icmp .ge 84, .iload 4, .ifCond .eq 66, .iload 7, .iload 5, .if_icmp .lt 82, .goto 69, .iload 7, .iload 5, .if_icmp .ge 82, .iload 6, .aload 0, .checkcast 2908, .sipush 12, .iload 3, .sipush 2, .isub, .imul, .iload 7, .iadd, .iaload, .iadd, .istore 6, .iinc 7 1, .goto 55, .aload 0, .checkcast 2908, .sipush 12, .iload 3, .sipush 1, .isub, .imul, .iload 5, .iadd, .iload 6, .iastore, .iinc 5 1, .goto 43, .iinc 3 1, .goto 28, .iload 2, .sipush (-1), .if_icmp .eq 113, .aload 0, .checkcast 2908, .sipush 12, .iload 1, .sipush 1, .isub, .imul, .iload 2, .iadd, .iaload, .ireturn, .sipush 0, .istore 3, .sipush 0, .istore 4, .iload 4, .iload 1, .if_icmp .ge 135, .iload 3, .aload 0, .checkcast 2908, .sipush 12, .iload 1, .sipush 1, .isub, .imul, .iload 4, .iadd, .iaload, .iadd, .istore 3, .iinc 4 1, .goto 117, .iload 3, .ireturn]
def kr_251 : List (Nat × Nat × Nat × Nat) := [(0, 0, 0, 1), (1, 0, 0, 1), (2, 1125, 140, 3), (5, 0, 0, 1), (6, 0, 0, 1), (7, 0, 0, 1), (8, 0, 0, 2), (10, 1366, 176, 3), (13, 0, 0, 3), (16, 0, 0, 1), (17, 0, 0, 1), (18, 0, 0, 3), (21, 0, 0, 1), (22, 0, 0, 1), (23, 0, 0, 1), (24, 0, 0, 1), (25, 0, 0, 1), (26, 0, 0, 1), (27, 1366, 176, 3), (30, 0, 0, 3), (33, 0, 0, 1), (34, 0, 0, 1), (35, 0, 0, 1), (36, 0, 0, 3), (39, 0, 0, 1), (40, 0, 0, 1), (41, 0, 0, 1), (42, 0, 0, 1), (43, 0, 0, 1), (44, 0, 0, 1), (45, 0, 0, 3), (48, 0, 0, 1), (49, 0, 0, 1), (50, 0, 0, 1), (51, 0, 0, 1), (52, 0, 0, 1), (53, 0, 0, 3), (56, 0, 0, 1), (57, 0, 0, 3), (60, 0, 0, 1), (61, 0, 0, 2), (63, 0, 0, 1), (64, 0, 0, 2), (66, 0, 0, 2), (68, 0, 0, 1), (69, 0, 0, 3), (72, 0, 0, 1), (73, 0, 0, 1), (74, 0, 0, 3), (77, 0, 0, 1), (78, 0, 0, 3), (81, 0, 0, 1), (82, 0, 0, 2), (84, 0, 0, 1), (85, 0, 0, 2), (87, 0, 0, 2), (89, 0, 0, 1), (90, 0, 0, 1), (91, 0, 0, 1), (92, 0, 0, 3), (95, 0, 0, 2), (97, 0, 0, 3), (100, 0, 0, 2), (102, 0, 0, 2), (104, 0, 0, 3), (107, 0, 0, 3), (110, 0, 0, 2), (112, 0, 0, 2), (114, 0, 0, 3), (117, 0, 0, 2), (119, 0, 0, 1), (120, 1171, 86, 3), (123, 0, 0, 2), (125, 0, 0, 1), (126, 0, 0, 1), (127, 0, 0, 1), (128, 0, 0, 1), (129, 0, 0, 2), (131, 0, 0, 1), (132, 0, 0, 1), (133, 0, 0, 1), (134, 0, 0, 2), (136, 0, 0, 3), (139, 0, 0, 3), (142, 0, 0, 1), (143, 1171, 86, 3), (146, 0, 0, 2), (148, 0, 0, 1), (149, 0, 0, 1), (150, 0, 0, 1), (151, 0, 0, 1), (152, 0, 0, 2), (154, 0, 0, 1), (155, 0, 0, 2), (157, 0, 0, 1), (158, 0, 0, 3), (161, 0, 0, 3), (164, 0, 0, 3), (167, 0, 0, 3), (170, 0, 0, 1), (171, 0, 0, 1), (172, 0, 0, 3), (175, 0, 0, 1), (176, 1171, 86, 3), (179, 0, 0, 2), (181, 0, 0, 1), (182, 0, 0, 1), (183, 0, 0, 1), (184, 0, 0, 1), (185, 0, 0, 1), (186, 0, 0, 1), (187, 0, 0, 1), (188, 0, 0, 1), (189, 0, 0, 1), (190, 0, 0, 1), (191, 0, 0, 1), (192, 0, 0, 2), (194, 0, 0, 2), (196, 0, 0, 1), (197, 0, 0, 3), (200, 0, 0, 1), (201, 0, 0, 1), (202, 1171, 86, 3), (205, 0, 0, 2), (207, 0, 0, 1), (208, 0, 0, 1), (209, 0, 0, 1), (210, 0, 0, 1), (211, 0, 0, 2), (213, 0, 0, 1), (214, 0, 0, 1), (215, 0, 0, 1), (216, 0, 0, 1), (217, 0, 0, 3), (220, 0, 0, 3), (223, 0, 0, 1), (224, 0, 0, 1)]
/-- QuillDeskModel.letters(I)I -/
def kc_252 : List Instr := [.aload 0, .sipush 0, .putfield 2816, .iload 1, .sipush (-1), .if_icmp .ne 11, .aload 0, .sipush 0, .putfield 2910, .sipush 0, .ireturn, .aload 0, .iload 1, .sipush 1, .sipush 20, .invokevirtual 316226, .ifCond .eq 21, .aload 0, .getfield 2910, .sipush 10, .if_icmp .ne 23, .sipush (-1), .ireturn, .aload 0, .checkcast 2912, .aload 0, .getfield 2910, .iload 1, .iastore, .aload 0, .aload 0, .getfield 2910, .sipush 1, .iadd, .putfield 2910, .aload 0, .getfield 2910, .ireturn]
def kr_252 : List (Nat × Nat × Nat × Nat) := [(0, 0, 0, 1), (1, 0, 0, 1), (2, 1125, 140, 3), (5, 0, 0, 1), (6, 0, 0, 1), (7, 0, 0, 3), (10, 0, 0, 1), (11, 0, 0, 1), (12, 1172, 436, 3), (15, 0, 0, 1), (16, 0, 0, 1), (17, 0, 0, 1), (18, 0, 0, 1), (19, 0, 0, 1), (20, 0, 0, 2), (22, 1366, 176, 3), (25, 0, 0, 3), (28, 0, 0, 1), (29, 1172, 436, 3), (32, 0, 0, 2), (34, 0, 0, 3), (37, 0, 0, 1), (38, 0, 0, 1), (39, 0, 0, 1), (40, 1173, 89, 3), (43, 0, 0, 1), (44, 1172, 436, 3), (47, 0, 0, 1), (48, 0, 0, 1), (49, 0, 0, 1), (50, 0, 0, 1), (51, 1172, 436, 3), (54, 0, 0, 1), (55, 0, 0, 1), (56, 1172, 436, 3), (59, 0, 0, 1), (60, 1172, 436, 3), (63, 0, 0, 1)]
/-- QuillDeskModel.page(II)I -/
def kc_253 : List Instr := [.aload 0, .sipush 0, .putfield 2816, .aload 0, .iload 1, .sipush 20, .sipush 60, .invokevirtual 316226, .ifCond .eq 15, .aload 0, .iload 2, .sipush 0, .sipush 1, .invokevirtual 316226, .ifCond .ne 17, .sipush (-1), .ireturn, .aload 0, .checkcast 2914, .aload 0, .getfield 2910, .sipush 0, .iastore, .aload 0, .checkcast 2916, .aload 0, .getfield 2910, .sipush 0, .iastore, .aload 0, .getfield 2910, .sipush 1, .isub, .istore 3, .iload 3, .ifCond .lt 127, .aload 0, .checkcast 2914, .iload 3, .sipush 100000000, .iastore, .sipush (-1), .istore 4, .iload 3, .istore 5, .iload 5, .aload 0, .getfield 2910, .if_icmp .ge 125, .iload 4, .sipush 1, .iadd, .aload 0, .checkcast 2912, .iload 5, .iaload, .iadd, .istore 4, .iload 4, .iload 1, .if_icmp .le 62, .goto 125, .iload 5, .aload 0, .getfield 2910, .sipush 1, .isub, .if_icmp .ne 70, .sipush 0, .goto 84, .iload 1, .iload 4, .isub, .iload 1, .iload 4, .isub, .imul, .aload 0, .checkcast 2914, .iload 5, .sipush 1, .iadd, .iaload, .iadd, .istore 6, .aload 0, .checkcast 2916, .iload 5, .sipush 1, .iadd, .iaload, .sipush 1, .iadd, .istore 7, .iload 6, .aload 0, .checkcast 2914, .iload 3, .iaload, .if_icmp .gt 123, .iload 6, .aload 0, .checkcast 2914, .iload 3, .iaload, .if_icmp .ne 113, .iload 7, .aload 0, .checkcast 2916, .iload 3, .iaload, .if_icmp .lt 113, .goto 123, .aload 0, .checkcast 2914, .iload 3, .iload 6, .iastore, .aload 0, .checkcast 2916, .iload 3, .iload 7, .iastore, .iinc 5 1, .goto 45, .iinc 3 (-1), .goto 34, .iload 2, .ifCond .ne 134, .aload 0, .checkcast 2914, .sipush 0, .iaload, .goto 138, .aload 0, .checkcast 2916, .sipush 0, .iaload, .ireturn]
def kr_253 : List (Nat × Nat × Nat × Nat) := [(0, 0, 0, 1), (1, 0, 0, 1), (2, 1125, 140, 3), (5, 0, 0, 1), (6, 0, 0, 1), (7, 0, 0, 2), (9, 0, 0, 2), (11, 1366, 176, 3), (14, 0, 0, 3), (17, 0, 0, 1), (18, 0, 0, 1), (19, 0, 0, 1), (20, 0, 0, 1), (21, 1366, 176, 3), (24, 0, 0, 3), (27, 0, 0, 1), (28, 0, 0, 1), (29, 0, 0, 1), (30, 1174, 92, 3), (33, 0, 0, 1), (34, 1172, 436, 3), (37, 0, 0, 1), (38, 0, 0, 1), (39, 0, 0, 1), (40, 1175, 95, 3), (43, 0, 0, 1), (44, 1172, 436, 3), (47, 0, 0, 1), (48, 0, 0, 1), (49, 0, 0, 1), (50, 1172, 436, 3), (53, 0, 0, 1), (54, 0, 0, 1), (55, 0, 0, 1), (56, 0, 0, 1), (57, 0, 0, 3), (60, 0, 0, 1), (61, 1174, 92, 3), (64, 0, 0, 1), (65, 1732, 439, 3), (68, 0, 0, 1), (69, 0, 0, 1), (70, 0, 0, 2), (72, 0, 0, 1), (73, 0, 0, 2), (75, 0, 0, 2), (77, 0, 0, 1), (78, 1172, 436, 3), (81, 0, 0, 3), (84, 0, 0, 2), (86, 0, 0, 1), (87, 0, 0, 1), (88, 0, 0, 1), (89, 1173, 89, 3), (92, 0, 0, 2), (94, 0, 0, 1), (95, 0, 0, 1), (96, 0, 0, 2), (98, 0, 0, 2), (100, 0, 0, 1), (101, 0, 0, 3), (104, 0, 0, 3), (107, 0, 0, 2), (109, 0, 0, 1), (110, 1172, 436, 3), (113, 0, 0, 1), (114, 0, 0, 1), (115, 0, 0, 3), (118, 0, 0, 1), (119, 0, 0, 3), (122, 0, 0, 1), (123, 0, 0, 2), (125, 0, 0, 1), (126, 0, 0, 1), (127, 0, 0, 2), (129, 0, 0, 1), (130, 0, 0, 1), (131, 0, 0, 1), (132, 1174, 92, 3), (135, 0, 0, 2), (137, 0, 0, 1), (138, 0, 0, 1), (139, 0, 0, 1), (140, 0, 0, 1), (141, 0, 0, 2), (143, 0, 0, 1), (144, 1175, 95, 3), (147, 0, 0, 2), (149, 0, 0, 1), (150, 0, 0, 1), (151, 0, 0, 1), (152, 0, 0, 1), (153, 0, 0, 1), (154, 0, 0, 2), (156, 0, 0, 2), (158, 0, 0, 1), (159, 1174, 92, 3), (162, 0, 0, 1), (163, 0, 0, 1), (164, 0, 0, 3), (167, 0, 0, 2), (169, 0, 0, 1), (170, 1174, 92, 3), (173, 0, 0, 1), (174, 0, 0, 1), (175, 0, 0, 3), (178, 0, 0, 2), (180, 0, 0, 1), (181, 1175, 95, 3), (184, 0, 0, 1), (185, 0, 0, 1), (186, 0, 0, 3), (189, 0, 0, 3), (192, 0, 0, 1), (193, 1174, 92, 3), (196, 0, 0, 1), (197, 0, 0, 2), (199, 0, 0, 1), (200, 0, 0, 1), (201, 1175, 95, 3), (204, 0, 0, 1), (205, 0, 0, 2), (207, 0, 0, 1), (208, 0, 0, 3), (211, 0, 0, 3), (214, 0, 0, 3), (217, 0, 0, 3), (220, 0, 0, 1), (221, 0, 0, 3), (224, 0, 0, 1), (225, 1174, 92, 3), (228, 0, 0, 1), (229, 0, 0, 1), (230, 0, 0, 3), (233, 0, 0, 1), (234, 1175, 95, 3), (237, 0, 0, 1), (238, 0, 0, 1), (239, 0, 0, 1)]
/-- QuillDeskModel.stamp(I)I -/
def kc_254 : List Instr := [.aload 0, .sipush 0, .putfield 2816, .iload 1, .sipush (-1), .if_icmp .ne 11, .aload 0, .sipush 0, .putfield 2918, .sipush 0, .ireturn, .aload 0, .iload 1, .sipush 1, .sipush 30, .invokevirtual 316226, .ifCond .eq 21, .aload 0, .getfield 2918, .sipush 4, .if_icmp .ne 23, .sipush (-1), .ireturn, .aload 0, .checkcast 2920, .aload 0, .getfield 2918, .iload 1, .iastore, .aload 0, .aload 0, .getfield 2918, .sipush 1, .iadd, .putfield 2918, .aload 0, .getfield 2918, .ireturn]
def kr_254 : List (Nat × Nat × Nat × Nat) := [(0, 0, 0, 1), (1, 0, 0, 1), (2, 1125, 140, 3), (5, 0, 0, 1), (6, 0, 0, 1), (7, 0, 0, 3), (10, 0, 0, 1), (11, 0, 0, 1), (12, 1176, 440, 3), (15, 0, 0, 1), (16, 0, 0, 1), (17, 0, 0, 1), (18, 0, 0, 1), (19, 0, 0, 1), (20, 0, 0, 2), (22, 1366, 176, 3), (25, 0, 0, 3), (28, 0, 0, 1), (29, 1176, 440, 3), (32, 0, 0, 1), (33, 0, 0, 3), (36, 0, 0, 1), (37, 0, 0, 1), (38, 0, 0, 1), (39, 1177, 98, 3), (42, 0, 0, 1), (43, 1176, 440, 3), (46, 0, 0, 1), (47, 0, 0, 1), (48, 0, 0, 1), (49, 0, 0, 1), (50, 1176, 440, 3), (53, 0, 0, 1), (54, 0, 0, 1), (55, 1176, 440, 3), (58, 0, 0, 1), (59, 1176, 440, 3), (62, 0, 0, 1)]
/-- QuillDeskModel.stamps(I)I -/
def kc_255 : List Instr := [.aload 0, .sipush 0, .putfield 2816, .aload 0, .iload 1, .sipush 0, .sipush 1, .invokevirtual 316226, .ifCond .ne 11, .sipush (-1), .ireturn, .sipush 0, .istore 2, .sipush 0, .istore 3, .iload 3, .aload 0, .getfield 2918, .if_icmp .ge 29, .aload 0, .iload 2, .aload 0, .checkcast 2920, .iload 3, .iaload, .invokevirtual 326224, .istore 2, .iinc 3 1, .goto 15, .iload 1, .ifCond .ne 36, .iload 2, .sipush 1, .if_icmp .eq 36, .sipush (-1), .ireturn, .sipush 0, .istore 3, .sipush 0, .istore 4, .sipush 0, .istore 5, .iload 5, .sipush 2000, .if_icmp .gt 102, .aload 0, .checkcast 2922, .iload 5, .iload 5, .ifCond .ne 52, .sipush 1, .goto 53, .sipush 0, .iastore, .sipush 0, .istore 6, .iload 6, .aload 0, .getfield 2918, .if_icmp .ge 84, .aload 0, .checkcast 2920, .iload 6, .iaload, .iload 5, .if_icmp .gt 82, .aload 0, .checkcast 2922, .iload 5, .aload 0, .checkcast 2920, .iload 6, .iaload, .isub, .iaload, .sipush 1, .if_icmp .ne 82, .aload 0, .checkcast 2922, .iload 5, .sipush 1, .iastore, .iinc 6 1, .goto 56, .aload 0, .checkcast 2922, .iload 5, .iaload, .sipush 1, .if_icmp .ne 91, .goto 100, .iload 5, .istore 3, .iload 5, .sipush 1000, .if_icmp .gt 100, .iload 4, .sipush 1, .iadd, .istore 4, .iinc 5 1, .goto 42, .iload 1, .ifCond .ne 106, .iload 3, .goto 107, .iload 4, .ireturn]
def kr_255 : List (Nat × Nat × Nat × Nat) := [(0, 0, 0, 1), (1, 0, 0, 1), (2, 1125, 140, 3), (5, 0, 0, 1), (6, 0, 0, 1), (7, 0, 0, 1), (8, 0, 0, 1), (9, 1366, 176, 3), (12, 0, 0, 3), (15, 0, 0, 1), (16, 0, 0, 1), (17, 0, 0, 1), (18, 0, 0, 1), (19, 0, 0, 1), (20, 0, 0, 1), (21, 0, 0, 1), (22, 0, 0, 1), (23, 1176, 440, 3), (26, 0, 0, 3), (29, 0, 0, 1), (30, 0, 0, 1), (31, 0, 0, 1), (32, 1177, 98, 3), (35, 0, 0, 1), (36, 0, 0, 1), (37, 1741, 443, 3), (40, 0, 0, 1), (41, 0, 0, 3), (44, 0, 0, 3), (47, 0, 0, 1), (48, 0, 0, 3), (51, 0, 0, 1), (52, 0, 0, 1), (53, 0, 0, 3), (56, 0, 0, 1), (57, 0, 0, 1), (58, 0, 0, 1), (59, 0, 0, 1), (60, 0, 0, 1), (61, 0, 0, 2), (63, 0, 0, 1), (64, 0, 0, 2), (66, 0, 0, 2), (68, 0, 0, 3), (71, 0, 0, 3), (74, 0, 0, 1), (75, 1178, 101, 3), (78, 0, 0, 2), (80, 0, 0, 2), (82, 0, 0, 3), (85, 0, 0, 1), (86, 0, 0, 3), (89, 0, 0, 1), (90, 0, 0, 1), (91, 0, 0, 1), (92, 0, 0, 2), (94, 0, 0, 2), (96, 0, 0, 1), (97, 1176, 440, 3), (100, 0, 0, 3), (103, 0, 0, 1), (104, 1177, 98, 3), (107, 0, 0, 2), (109, 0, 0, 1), (110, 0, 0, 2), (112, 0, 0, 3), (115, 0, 0, 1), (116, 1178, 101, 3), (119, 0, 0, 2), (121, 0, 0, 1), (122, 1177, 98, 3), (125, 0, 0, 2), (127, 0, 0, 1), (128, 0, 0, 1), (129, 0, 0, 1), (130, 0, 0, 1), (131, 0, 0, 3), (134, 0, 0, 1), (135, 1178, 101, 3), (138, 0, 0, 2), (140, 0, 0, 1), (141, 0, 0, 1), (142, 0, 0, 3), (145, 0, 0, 3), (148, 0, 0, 1), (149, 1178, 101, 3), (152, 0, 0, 2), (154, 0, 0, 1), (155, 0, 0, 1), (156, 0, 0, 3), (159, 0, 0, 3), (162, 0, 0, 2), (164, 0, 0, 1), (165, 0, 0, 2), (167, 0, 0, 3), (170, 0, 0, 3), (173, 0, 0, 2), (175, 0, 0, 1), (176, 0, 0, 1), (177, 0, 0, 2), (179, 0, 0, 3), (182, 0, 0, 3), (185, 0, 0, 1), (186, 0, 0, 3), (189, 0, 0, 1), (190, 0, 0, 3), (193, 0, 0, 2), (195, 0, 0, 1)]
/-- QuillDeskModel.scratch(II)I -/
def kc_256 : List Instr := [.aload 0, .sipush 0, .putfield 2816, .aload 0, .iload 1, .sipush 1, .sipush 9999, .invokevirtual 316226, .ifCond .eq 15, .aload 0, .iload 2, .sipush 0, .sipush 1, .invokevirtual 316226, .ifCond .ne 17, .sipush (-1), .ireturn, .sipush 0, .istore 3, .iload 1, .istore 4, .iload 1, .istore 5, .iload 5, .sipush 1, .if_icmp .eq 50, .iload 5, .sipush 2, .irem, .ifCond .ne 34, .iload 5, .sipush 2, .idiv, .goto 39, .sipush 3, .iload 5, .imul, .sipush 1, .iadd, .istore 5, .aload 0, .iload 4, .iload 5, .invokevirtual 320224, .istore 4, .iload 3, .sipush 1, .iadd, .istore 3, .goto 23, .iload 2, .ifCond .ne 54, .iload 3, .goto 55, .iload 4, .ireturn]
def kr_256 : List (Nat × Nat × Nat × Nat) := [(0, 0, 0, 1), (1, 0, 0, 1), (2, 1125, 140, 3), (5, 0, 0, 1), (6, 0, 0, 1), (7, 0, 0, 1), (8, 0, 0, 3), (11, 1366, 176, 3), (14, 0, 0, 3), (17, 0, 0, 1), (18, 0, 0, 1), (19, 0, 0, 1), (20, 0, 0, 1), (21, 1366, 176, 3), (24, 0, 0, 3), (27, 0, 0, 1), (28, 0, 0, 1), (29, 0, 0, 1), (30, 0, 0, 1), (31, 0, 0, 1), (32, 0, 0, 2), (34, 0, 0, 1), (35, 0, 0, 2), (37, 0, 0, 2), (39, 0, 0, 1), (40, 0, 0, 3), (43, 0, 0, 2), (45, 0, 0, 1), (46, 0, 0, 1), (47, 0, 0, 3), (50, 0, 0, 2), (52, 0, 0, 1), (53, 0, 0, 1), (54, 0, 0, 3), (57, 0, 0, 1), (58, 0, 0, 2), (60, 0, 0, 1), (61, 0, 0, 1), (62, 0, 0, 1), (63, 0, 0, 2), (65, 0, 0, 1), (66, 0, 0, 2), (68, 0, 0, 2), (70, 1716, 433, 3), (73, 0, 0, 2), (75, 0, 0, 1), (76, 0, 0, 1), (77, 0, 0, 1), (78, 0, 0, 1), (79, 0, 0, 3), (82, 0, 0, 1), (83, 0, 0, 3), (86, 0, 0, 1), (87, 0, 0, 3), (90, 0, 0, 2), (92, 0, 0, 1)]
/-- QuillDeskModel.threes(II)I -/
def kc_257 : List Instr := [.aload 0, .sipush 0, .putfield 2816, .aload 0, .iload 1, .sipush (-9999), .sipush 9999, .invokevirtual 316226, .ifCond .ne 11, .sipush (-2), .ireturn, .sipush 0, .istore 3, .sipush 0, .istore 4, .aload 0, .iload 1, .invokevirtual 324222, .istore 5, .iload 5, .ifCond .le 59, .iload 5, .sipush 3, .irem, .sipush 2, .if_icmp .ne 28, .sipush (-1), .goto 31, .iload 5, .sipush 3, .irem, .istore 6, .iload 5, .iload 6, .isub, .sipush 3, .idiv, .istore 5, .aload 0, .checkcast 2924, .iload 3, .iload 1, .ifCond .ge 46, .iload 6, .ineg, .goto 47, .iload 6, .iastore, .iload 3, .sipush 1, .iadd, .istore 3, .iload 6, .ifCond .eq 58, .iload 4, .sipush 1, .iadd, .istore 4, .goto 19, .iload 2, .ifCond .ne 63, .iload 3, .ireturn, .iload 2, .sipush 1, .if_icmp .ne 68, .iload 4, .goto 84, .aload 0, .iload 2, .sipush 10, .sipush 9, .iload 3, .iadd, .invokevirtual 316226, .ifCond .eq 83, .aload 0, .checkcast 2924, .iload 2, .sipush 10, .isub, .iaload, .goto 84, .sipush (-2), .ireturn]
def kr_257 : List (Nat × Nat × Nat × Nat) := [(0, 0, 0, 1), (1, 0, 0, 1), (2, 1125, 140, 3), (5, 0, 0, 1), (6, 0, 0, 1), (7, 0, 0, 3), (10, 0, 0, 3), (13, 1366, 176, 3), (16, 0, 0, 3), (19, 0, 0, 2), (21, 0, 0, 1), (22, 0, 0, 1), (23, 0, 0, 1), (24, 0, 0, 1), (25, 0, 0, 2), (27, 0, 0, 1), (28, 0, 0, 1), (29, 1745, 143, 3), (32, 0, 0, 2), (34, 0, 0, 2), (36, 0, 0, 3), (39, 0, 0, 2), (41, 0, 0, 1), (42, 0, 0, 1), (43, 0, 0, 1), (44, 0, 0, 3), (47, 0, 0, 1), (48, 0, 0, 3), (51, 0, 0, 2), (53, 0, 0, 1), (54, 0, 0, 1), (55, 0, 0, 2), (57, 0, 0, 2), (59, 0, 0, 2), (61, 0, 0, 1), (62, 0, 0, 1), (63, 0, 0, 1), (64, 0, 0, 2), (66, 0, 0, 1), (67, 1179, 104, 3), (70, 0, 0, 1), (71, 0, 0, 1), (72, 0, 0, 3), (75, 0, 0, 2), (77, 0, 0, 1), (78, 0, 0, 3), (81, 0, 0, 2), (83, 0, 0, 1), (84, 0, 0, 1), (85, 0, 0, 1), (86, 0, 0, 1), (87, 0, 0, 1), (88, 0, 0, 2), (90, 0, 0, 3), (93, 0, 0, 2), (95, 0, 0, 1), (96, 0, 0, 1), (97, 0, 0, 2), (99, 0, 0, 3), (102, 0, 0, 1), (103, 0, 0, 3), (106, 0, 0, 1), (107, 0, 0, 1), (108, 0, 0, 1), (109, 0, 0, 1), (110, 0, 0, 3), (113, 0, 0, 2), (115, 0, 0, 3), (118, 0, 0, 1), (119, 0, 0, 1), (120, 0, 0, 2), (122, 0, 0, 2), (124, 0, 0, 1), (125, 0, 0, 1), (126, 1366, 176, 3), (129, 0, 0, 3), (132, 0, 0, 1), (133, 1179, 104, 3), (136, 0, 0, 1), (137, 0, 0, 2), (139, 0, 0, 1), (140, 0, 0, 1), (141, 0, 0, 3), (144, 0, 0, 2), (146, 0, 0, 1)]
/-- QuillDeskModel.turnsLeft(I)Z -/
def kc_258 : List Instr := [.iload 1, .istore 2, .iload 2, .sipush 2, .irem, .ifCond .ne 11, .iload 2, .sipush 2, .idiv, .istore 2, .goto 2, .iload 2, .sipush 4, .irem, .sipush 1, .if_icmp .ne 18, .sipush 1, .goto 19, .sipush 0, .ireturn]
def kr_258 : List (Nat × Nat × Nat × Nat) := [(0, 0, 0, 1), (1, 0, 0, 1), (2, 0, 0, 1), (3, 0, 0, 1), (4, 0, 0, 1), (5, 0, 0, 3), (8, 0, 0, 1), (9, 0, 0, 1), (10, 0, 0, 1), (11, 0, 0, 1), (12, 0, 0, 3), (15, 0, 0, 1), (16, 0, 0, 1), (17, 0, 0, 1), (18, 0, 0, 1), (19, 0, 0, 3), (22, 0, 0, 1), (23, 0, 0, 3), (26, 0, 0, 1), (27, 0, 0, 1)]
/-- QuillDeskModel.curve(III)I -/
def kc_259 : List Instr := [.aload 0, .sipush 0, .putfield 2816, .aload 0, .iload 1, .sipush 0, .sipush 12, .invokevirtual 316226, .ifCond .eq 23, .aload 0, .iload 2, .sipush 0, .sipush 1, .iload 1, .ishl, .invokevirtual 316226, .ifCond .eq 23, .aload 0, .iload 3, .sipush 0, .sipush 2, .invokevirtual 316226, .ifCond .ne 25, .sipush (-10000), .ireturn, .iload 3, .sipush 2, .if_icmp .ne 48, .aload 0, .iload 2, .sipush 1, .sipush 1, .iload 1, .ishl, .sipush 1, .isub, .invokevirtual 316226, .ifCond .ne 40, .sipush (-10000), .goto 47, .aload 0, .iload 2, .invokevirtual 516222, .ifCond .eq 46, .sipush 1, .goto 47, .sipush 0, .ireturn, .sipush 0, .istore 4, .sipush 0, .istore 5, .sipush 0, .istore 6, .sipush 1, .istore 7, .iload 7, .iload 2, .if_icmp .gt 100, .iload 4, .iload 6, .ifCond .ne 64, .sipush 1, .goto 70, .iload 6, .sipush 2, .if_icmp .ne 69, .sipush (-1), .goto 70, .sipush 0, .iadd, .istore 4, .iload 5, .iload 6, .sipush 1, .if_icmp .ne 78, .sipush 1, .goto 84, .iload 6, .sipush 3, .if_icmp .ne 83, .sipush (-1), .goto 84, .sipush 0, .iadd, .istore 5, .iload 6, .aload 0, .iload 7, .invokevirtual 516222, .ifCond .eq 93, .sipush 1, .goto 94, .sipush 3, .iadd, .sipush 4, .irem, .istore 6, .iinc 7 1, .goto 56, .iload 3, .ifCond .ne 104, .iload 4, .goto 105, .iload 5, .ireturn]
def kr_259 : List (Nat × Nat × Nat × Nat) := [(0, 0, 0, 1), (1, 0, 0, 1), (2, 1125, 140, 3), (5, 0, 0, 1), (6, 0, 0, 1), (7, 0, 0, 1), (8, 0, 0, 2), (10, 1366, 176, 3), (13, 0, 0, 3), (16, 0, 0, 1), (17, 0, 0, 1), (18, 0, 0, 1), (19, 0, 0, 1), (20, 0, 0, 1), (21, 0, 0, 1), (22, 1366, 176, 3), (25, 0, 0, 3), (28, 0, 0, 1), (29, 0, 0, 1), (30, 0, 0, 1), (31, 0, 0, 1), (32, 1366, 176, 3), (35, 0, 0, 3), (38, 0, 0, 3), (41, 0, 0, 1), (42, 0, 0, 1), (43, 0, 0, 1), (44, 0, 0, 3), (47, 0, 0, 1), (48, 0, 0, 1), (49, 0, 0, 1), (50, 0, 0, 1), (51, 0, 0, 1), (52, 0, 0, 1), (53, 0, 0, 1), (54, 0, 0, 1), (55, 1366, 176, 3), (58, 0, 0, 3), (61, 0, 0, 3), (64, 0, 0, 3), (67, 0, 0, 1), (68, 0, 0, 1), (69, 1761, 446, 3), (72, 0, 0, 3), (75, 0, 0, 1), (76, 0, 0, 3), (79, 0, 0, 1), (80, 0, 0, 1), (81, 0, 0, 1), (82, 0, 0, 2), (84, 0, 0, 1), (85, 0, 0, 2), (87, 0, 0, 1), (88, 0, 0, 2), (90, 0, 0, 1), (91, 0, 0, 2), (93, 0, 0, 2), (95, 0, 0, 1), (96, 0, 0, 3), (99, 0, 0, 2), (101, 0, 0, 2), (103, 0, 0, 3), (106, 0, 0, 1), (107, 0, 0, 3), (110, 0, 0, 2), (112, 0, 0, 1), (113, 0, 0, 3), (116, 0, 0, 1), (117, 0, 0, 3), (120, 0, 0, 1), (121, 0, 0, 1), (122, 0, 0, 2), (124, 0, 0, 2), (126, 0, 0, 2), (128, 0, 0, 1), (129, 0, 0, 3), (132, 0, 0, 1), (133, 0, 0, 3), (136, 0, 0, 2), (138, 0, 0, 1), (139, 0, 0, 3), (142, 0, 0, 1), (143, 0, 0, 3), (146, 0, 0, 1), (147, 0, 0, 1), (148, 0, 0, 2), (150, 0, 0, 2), (152, 0, 0, 1), (153, 0, 0, 2), (155, 1761, 446, 3), (158, 0, 0, 3), (161, 0, 0, 1), (162, 0, 0, 3), (165, 0, 0, 1), (166, 0, 0, 1), (167, 0, 0, 1), (168, 0, 0, 1), (169, 0, 0, 2), (171, 0, 0, 3), (174, 0, 0, 3), (177, 0, 0, 1), (178, 0, 0, 3), (181, 0, 0, 2), (183, 0, 0, 3), (186, 0, 0, 2), (188, 0, 0, 1)]
/-- QuillDeskModel.quire(III)I -/
def kc_260 : List Instr := [.aload 0, .sipush 0, .putfield 2816, .aload 0, .iload 1, .sipush 1, .sipush 12, .invokevirtual 316226, .ifCond .eq 23, .aload 0, .iload 2, .sipush 1, .sipush 4, .iload 1, .imul, .invokevirtual 316226, .ifCond .eq 23, .aload 0, .iload 3, .sipush 0, .sipush 2, .invokevirtual 316226, .ifCond .ne 25, .sipush (-1), .ireturn, .iload 3, .ifCond .ne 35, .sipush 4, .iload 1, .imul, .sipush 1, .iadd, .iload 2, .isub, .ireturn, .iload 3, .sipush 1, .if_icmp .ne 51, .iload 2, .sipush 2, .irem, .sipush 1, .if_icmp .ne 47, .iload 2, .sipush 1, .iadd, .goto 50, .iload 2, .sipush 1, .isub, .ireturn, .iload 2, .sipush 2, .iload 1, .imul, .if_icmp .gt 62, .iload 2, .sipush 1, .isub, .sipush 2, .idiv, .goto 69, .sipush 4, .iload 1, .imul, .iload 2, .isub, .sipush 2, .idiv, .ireturn]
def kr_260 : List (Nat × Nat × Nat × Nat) := [(0, 0, 0, 1), (1, 0, 0, 1), (2, 1125, 140, 3), (5, 0, 0, 1), (6, 0, 0, 1), (7, 0, 0, 1), (8, 0, 0, 2), (10, 1366, 176, 3), (13, 0, 0, 3), (16, 0, 0, 1), (17, 0, 0, 1), (18, 0, 0, 1), (19, 0, 0, 1), (20, 0, 0, 1), (21, 0, 0, 1), (22, 1366, 176, 3), (25, 0, 0, 3), (28, 0, 0, 1), (29, 0, 0, 1), (30, 0, 0, 1), (31, 0, 0, 1), (32, 1366, 176, 3), (35, 0, 0, 3), (38, 0, 0, 1), (39, 0, 0, 1), (40, 0, 0, 1), (41, 0, 0, 3), (44, 0, 0, 1), (45, 0, 0, 1), (46, 0, 0, 1), (47, 0, 0, 1), (48, 0, 0, 1), (49, 0, 0, 1), (50, 0, 0, 1), (51, 0, 0, 1), (52, 0, 0, 1), (53, 0, 0, 1), (54, 0, 0, 3), (57, 0, 0, 1), (58, 0, 0, 1), (59, 0, 0, 1), (60, 0, 0, 1), (61, 0, 0, 3), (64, 0, 0, 1), (65, 0, 0, 1), (66, 0, 0, 1), (67, 0, 0, 3), (70, 0, 0, 1), (71, 0, 0, 1), (72, 0, 0, 1), (73, 0, 0, 1), (74, 0, 0, 1), (75, 0, 0, 1), (76, 0, 0, 1), (77, 0, 0, 1), (78, 0, 0, 3), (81, 0, 0, 1), (82, 0, 0, 1), (83, 0, 0, 1), (84, 0, 0, 1), (85, 0, 0, 1), (86, 0, 0, 3), (89, 0, 0, 1), (90, 0, 0, 1), (91, 0, 0, 1), (92, 0, 0, 1), (93, 0, 0, 1), (94, 0, 0, 1), (95, 0, 0, 1), (96, 0, 0, 1)]
/-- QuillDeskModel.dot(III)Z -/
def kc_261 : List Instr := [.aload 0, .sipush 0, .putfield 2816, .aload 0, .iload 1, .sipush 0, .sipush 2, .invokevirtual 316226, .ifCond .eq 21, .aload 0, .iload 2, .sipush 0, .sipush 99, .invokevirtual 316226, .ifCond .eq 21, .aload 0, .iload 3, .sipush 0, .sipush 99, .invokevirtual 316226, .ifCond .ne 23, .sipush 0, .ireturn, .aload 0, .checkcast 2926, .iload 1, .iload 2, .iastore, .aload 0, .checkcast 2928, .iload 1, .iload 3, .iastore, .sipush 1, .ireturn]
def kr_261 : List (Nat × Nat × Nat × Nat) := [(0, 0, 0, 1), (1, 0, 0, 1), (2, 1125, 140, 3), (5, 0, 0, 1), (6, 0, 0, 1), (7, 0, 0, 1), (8, 0, 0, 1), (9, 1366, 176, 3), (12, 0, 0, 3), (15, 0, 0, 1), (16, 0, 0, 1), (17, 0, 0, 1), (18, 0, 0, 2), (20, 1366, 176, 3), (23, 0, 0, 3), (26, 0, 0, 1), (27, 0, 0, 1), (28, 0, 0, 1), (29, 0, 0, 2), (31, 1366, 176, 3), (34, 0, 0, 3), (37, 0, 0, 1), (38, 0, 0, 1), (39, 0, 0, 1), (40, 1180, 107, 3), (43, 0, 0, 1), (44, 0, 0, 1), (45, 0, 0, 1), (46, 0, 0, 1), (47, 1181, 110, 3), (50, 0, 0, 1), (51, 0, 0, 1), (52, 0, 0, 1), (53, 0, 0, 1), (54, 0, 0, 1)]
/-- QuillDeskModel.stepsBetween(II)I -/
def kc_262 : List Instr := [.aload 0, .aload 0, .checkcast 2926, .iload 1, .iaload, .aload 0, .checkcast 2926, .iload 2, .iaload, .isub, .aload 0, .checkcast 2928, .iload 1, .iaload, .aload 0, .checkcast 2928, .iload 2, .iaload, .isub, .invokevirtual 326224, .ireturn]
def kr_262 : List (Nat × Nat × Nat × Nat) := [(0, 0, 0, 1), (1, 0, 0, 1), (2, 1180, 107, 3), (5, 0, 0, 1), (6, 0, 0, 1), (7, 0, 0, 1), (8, 1180, 107, 3), (11, 0, 0, 1), (12, 0, 0, 1), (13, 0, 0, 1), (14, 0, 0, 1), (15, 1181, 110, 3), (18, 0, 0, 1), (19, 0, 0, 1), (20, 0, 0, 1), (21, 1181, 110, 3), (24, 0, 0, 1), (25, 0, 0, 1), (26, 0, 0, 1), (27, 1741, 443, 3), (30, 0, 0, 1)]
/-- QuillDeskModel.dots(I)I -/
def kc_263 : List Instr := [.aload 0, .sipush 0, .putfield 2816, .aload 0, .iload 1, .sipush 0, .sipush 2, .invokevirtual 316226, .ifCond .ne 11, .sipush (-1), .ireturn, .iload 1, .ifCond .ne 20, .aload 0, .sipush 0, .sipush 1, .invokevirtual 524224, .sipush 1, .iadd, .ireturn, .aload 0, .aload 0, .checkcast 2926, .sipush 1, .iaload, .aload 0, .checkcast 2926, .sipush 0, .iaload, .isub, .aload 0, .checkcast 2928, .sipush 2, .iaload, .aload 0, .checkcast 2928, .sipush 0, .iaload, .isub, .imul, .aload 0, .checkcast 2926, .sipush 2, .iaload, .aload 0, .checkcast 2926, .sipush 0, .iaload, .isub, .aload 0, .checkcast 2928, .sipush 1, .iaload, .aload 0, .checkcast 2928, .sipush 0, .iaload, .isub, .imul, .isub, .invokevirtual 324222, .istore 2, .iload 1, .sipush 2, .if_icmp .eq 67, .iload 2, .ifCond .ne 69, .iload 2, .ireturn, .iload 2, .aload 0, .sipush 0, .sipush 1, .invokevirtual 524224, .isub, .aload 0, .sipush 1, .sipush 2, .invokevirtual 524224, .isub, .aload 0, .sipush 2, .sipush 0, .invokevirtual 524224, .isub, .sipush 2, .iadd, .sipush 2, .idiv, .ireturn]
def kr_263 : List (Nat × Nat × Nat × Nat) := [(0, 0, 0, 1), (1, 0, 0, 1), (2, 1125, 140, 3), (5, 0, 0, 1), (6, 0, 0, 1), (7, 0, 0, 1), (8, 0, 0, 1), (9, 1366, 176, 3), (12, 0, 0, 3), (15, 0, 0, 1), (16, 0, 0, 1), (17, 0, 0, 1), (18, 0, 0, 3), (21, 0, 0, 1), (22, 0, 0, 1), (23, 0, 0, 1), (24, 1777, 449, 3), (27, 0, 0, 1), (28, 0, 0, 1), (29, 0, 0, 1), (30, 0, 0, 1), (31, 0, 0, 1), (32, 1180, 107, 3), (35, 0, 0, 1), (36, 0, 0, 1), (37, 0, 0, 1), (38, 1180, 107, 3), (41, 0, 0, 1), (42, 0, 0, 1), (43, 0, 0, 1), (44, 0, 0, 1), (45, 1181, 110, 3), (48, 0, 0, 1), (49, 0, 0, 1), (50, 0, 0, 1), (51, 1181, 110, 3), (54, 0, 0, 1), (55, 0, 0, 1), (56, 0, 0, 1), (57, 0, 0, 1), (58, 0, 0, 1), (59, 1180, 107, 3), (62, 0, 0, 1), (63, 0, 0, 1), (64, 0, 0, 1), (65, 1180, 107, 3), (68, 0, 0, 1), (69, 0, 0, 1), (70, 0, 0, 1), (71, 0, 0, 1), (72, 1181, 110, 3), (75, 0, 0, 1), (76, 0, 0, 1), (77, 0, 0, 1), (78, 1181, 110, 3), (81, 0, 0, 1), (82, 0, 0, 1), (83, 0, 0, 1), (84, 0, 0, 1), (85, 0, 0, 1), (86, 1745, 143, 3), (89, 0, 0, 1), (90, 0, 0, 1), (91, 0, 0, 1), (92, 0, 0, 3), (95, 0, 0, 1), (96, 0, 0, 3), (99, 0, 0, 1), (100, 0, 0, 1), (101, 0, 0, 1), (102, 0, 0, 1), (103, 0, 0, 1), (104, 0, 0, 1), (105, 1777, 449, 3), (108, 0, 0, 1), (109, 0, 0, 1), (110, 0, 0, 1), (111, 0, 0, 1), (112, 1777, 449, 3), (115, 0, 0, 1), (116, 0, 0, 1), (117, 0, 0, 1), (118, 0, 0, 1), (119, 1777, 449, 3), (122, 0, 0, 1), (123, 0, 0, 1), (124, 0, 0, 1), (125, 0, 0, 1), (126, 0, 0, 1), (127, 0, 0, 1)]
/-- QuillDeskModel.isCut(I)Z -/
def kc_264 : List Instr := [.aload 0, .iload 1, .sipush 30, .if_icmp .ge 7, .aload 0, .getfield 2930, .goto 9, .aload 0, .getfield 2932, .iload 1, .sipush 30, .irem, .invokevirtual 330224, .ireturn]
def kr_264 : List (Nat × Nat × Nat × Nat) := [(0, 0, 0, 1), (1, 0, 0, 1), (2, 0, 0, 2), (4, 0, 0, 3), (7, 0, 0, 1), (8, 1182, 452, 3), (11, 0, 0, 3), (14, 0, 0, 1), (15, 1183, 455, 3), (18, 0, 0, 1), (19, 0, 0, 2), (21, 0, 0, 1), (22, 1712, 430, 3), (25, 0, 0, 1)]
/-- QuillDeskModel.cut(I)I -/
def kc_265 : List Instr := [.aload 0, .sipush 0, .putfield 2816, .iload 1, .sipush (-1), .if_icmp .ne 17, .aload 0, .sipush 0, .putfield 2930, .aload 0, .sipush 0, .putfield 2932, .aload 0, .sipush 0, .putfield 2934, .sipush 0, .ireturn, .aload 0, .iload 1, .sipush 1, .sipush 59, .invokevirtual 316226, .ifCond .eq 31, .aload 0, .iload 1, .invokevirtual 528222, .ifCond .ne 31, .aload 0, .getfield 2934, .sipush 7, .if_icmp .ne 33, .sipush (-1), .ireturn, .iload 1, .sipush 30, .if_icmp .ge 45, .aload 0, .aload 0, .getfield 2930, .sipush 1, .iload 1, .ishl, .ior, .putfield 2930, .goto 55, .aload 0, .aload 0, .getfield 2932, .sipush 1, .iload 1, .sipush 30, .isub, .ishl, .ior, .putfield 2932, .aload 0, .aload 0, .getfield 2934, .sipush 1, .iadd, .putfield 2934, .aload 0, .getfield 2934, .ireturn]
def kr_265 : List (Nat × Nat × Nat × Nat) := [(0, 0, 0, 1), (1, 0, 0, 1), (2, 1125, 140, 3), (5, 0, 0, 1), (6, 0, 0, 1), (7, 0, 0, 3), (10, 0, 0, 1), (11, 0, 0, 1), (12, 1182, 452, 3), (15, 0, 0, 1), (16, 0, 0, 1), (17, 1183, 455, 3), (20, 0, 0, 1), (21, 0, 0, 1), (22, 1184, 458, 3), (25, 0, 0, 1), (26, 0, 0, 1), (27, 0, 0, 1), (28, 0, 0, 1), (29, 0, 0, 1), (30, 0, 0, 2), (32, 1366, 176, 3), (35, 0, 0, 3), (38, 0, 0, 1), (39, 0, 0, 1), (40, 1785, 461, 3), (43, 0, 0, 3), (46, 0, 0, 1), (47, 1184, 458, 3), (50, 0, 0, 2), (52, 0, 0, 3), (55, 0, 0, 1), (56, 0, 0, 1), (57, 0, 0, 1), (58, 0, 0, 2), (60, 0, 0, 3), (63, 0, 0, 1), (64, 0, 0, 1), (65, 1182, 452, 3), (68, 0, 0, 1), (69, 0, 0, 1), (70, 0, 0, 1), (71, 0, 0, 1), (72, 1182, 452, 3), (75, 0, 0, 3), (78, 0, 0, 1), (79, 0, 0, 1), (80, 1183, 455, 3), (83, 0, 0, 1), (84, 0, 0, 1), (85, 0, 0, 2), (87, 0, 0, 1), (88, 0, 0, 1), (89, 0, 0, 1), (90, 1183, 455, 3), (93, 0, 0, 1), (94, 0, 0, 1), (95, 1184, 458, 3), (98, 0, 0, 1), (99, 0, 0, 1), (100, 1184, 458, 3), (103, 0, 0, 1), (104, 1184, 458, 3), (107, 0, 0, 1)]
/-- QuillDeskModel.plankWith(III)I -/
def kc_266 : List Instr := [.aload 0, .checkcast 2936, .iload 2, .iaload, .aload 0, .checkcast 2936, .iload 1, .iaload, .isub, .aload 0, .checkcast 2938, .sipush 9, .iload 1, .imul, .iload 3, .iadd, .iaload, .iadd, .aload 0, .checkcast 2938, .sipush 9, .iload 3, .imul, .iload 2, .iadd, .iaload, .iadd, .ireturn]
def kr_266 : List (Nat × Nat × Nat × Nat) := [(0, 0, 0, 1), (1, 1185, 113, 3), (4, 0, 0, 1), (5, 0, 0, 1), (6, 0, 0, 1), (7, 1185, 113, 3), (10, 0, 0, 1), (11, 0, 0, 1), (12, 0, 0, 1), (13, 0, 0, 1), (14, 1186, 116, 3), (17, 0, 0, 2), (19, 0, 0, 1), (20, 0, 0, 1), (21, 0, 0, 1), (22, 0, 0, 1), (23, 0, 0, 1), (24, 0, 0, 1), (25, 0, 0, 1), (26, 1186, 116, 3), (29, 0, 0, 2), (31, 0, 0, 1), (32, 0, 0, 1), (33, 0, 0, 1), (34, 0, 0, 1), (35, 0, 0, 1), (36, 0, 0, 1), (37, 0, 0, 1)]
/-- QuillDeskModel.planks(II)I -/
def kc_267 : List Instr := [.aload 0, .sipush 0, .putfield 2816, .aload 0, .iload 1, .sipush 1, .sipush 60, .invokevirtual 316226, .ifCond .eq 15, .aload 0, .iload 2, .sipush 0, .sipush 1, .invokevirtual 316226, .ifCond .ne 17, .sipush (-1), .ireturn, .sipush 1, .istore 3, .aload 0, .checkcast 2936, .sipush 0, .sipush 0, .iastore, .sipush 1, .istore 4, .iload 4, .iload 1, .if_icmp .ge 45, .aload 0, .iload 4, .invokevirtual 528222, .ifCond .ne 34, .goto 43, .aload 0, .checkcast 2936, .iload 3, .iload 4, .iastore, .iload 3, .sipush 1, .iadd, .istore 3, .iinc 4 1, .goto 26, .aload 0, .checkcast 2936, .iload 3, .iload 1, .iastore, .sipush 1, .istore 4, .iload 4, .iload 3, .if_icmp .gt 106, .sipush 0, .istore 5, .iload 5, .iload 4, .iadd, .iload 3, .if_icmp .gt 104, .iload 4, .sipush 1, .if_icmp .ne 67, .sipush 0, .goto 68, .sipush 100000000, .istore 6, .iload 5, .sipush 1, .iadd, .istore 7, .iload 7, .iload 5, .iload 4, .iadd, .if_icmp .ge 91, .aload 0, .iload 6, .aload 0, .iload 5, .iload 5, .iload 4, .iadd, .iload 7, .invokevirtual 532226, .invokevirtual 322224, .istore 6, .iinc 7 1, .goto 73, .aload 0, .checkcast 2938, .sipush 9, .iload 5, .imul, .iload 5, .iadd, .iload 4, .iadd, .iload 6, .iastore, .iinc 5 1, .goto 57, .iinc 4 1, .goto 52, .iload 2, .ifCond .ne 113, .aload 0, .checkcast 2938, .iload 3, .iaload, .ireturn, .sipush 1, .istore 4, .iload 4, .iload 3, .if_icmp .ge 135, .aload 0, .sipush 0, .iload 3, .iload 4, .invokevirtual 532226, .aload 0, .checkcast 2938, .iload 3, .iaload, .if_icmp .ne 133, .aload 0, .checkcast 2936, .iload 4, .iaload, .ireturn, .iinc 4 1, .goto 115, .sipush (-1), .ireturn]
def kr_267 : List (Nat × Nat × Nat × Nat) := [(0, 0, 0, 1), (1, 0, 0, 1), (2, 1125, 140, 3), (5, 0, 0, 1), (6, 0, 0, 1), (7, 0, 0, 1), (8, 0, 0, 2), (10, 1366, 176, 3), (13, 0, 0, 3), (16, 0, 0, 1), (17, 0, 0, 1), (18, 0, 0, 1), (19, 0, 0, 1), (20, 1366, 176, 3), (23, 0, 0, 3), (26, 0, 0, 1), (27, 0, 0, 1), (28, 0, 0, 1), (29, 0, 0, 1), (30, 0, 0, 1), (31, 1185, 113, 3), (34, 0, 0, 1), (35, 0, 0, 1), (36, 0, 0, 1), (37, 0, 0, 1), (38, 0, 0, 2), (40, 0, 0, 2), (42, 0, 0, 1), (43, 0, 0, 3), (46, 0, 0, 1), (47, 0, 0, 2), (49, 1785, 461, 3), (52, 0, 0, 3), (55, 0, 0, 3), (58, 0, 0, 1), (59, 1185, 113, 3), (62, 0, 0, 1), (63, 0, 0, 2), (65, 0, 0, 1), (66, 0, 0, 1), (67, 0, 0, 1), (68, 0, 0, 1), (69, 0, 0, 1), (70, 0, 0, 3), (73, 0, 0, 3), (76, 0, 0, 1), (77, 1185, 113, 3), (80, 0, 0, 1), (81, 0, 0, 1), (82, 0, 0, 1), (83, 0, 0, 1), (84, 0, 0, 2), (86, 0, 0, 2), (88, 0, 0, 1), (89, 0, 0, 3), (92, 0, 0, 1), (93, 0, 0, 2), (95, 0, 0, 2), (97, 0, 0, 2), (99, 0, 0, 1), (100, 0, 0, 1), (101, 0, 0, 3), (104, 0, 0, 2), (106, 0, 0, 1), (107, 0, 0, 3), (110, 0, 0, 1), (111, 0, 0, 3), (114, 1732, 439, 3), (117, 0, 0, 2), (119, 0, 0, 2), (121, 0, 0, 1), (122, 0, 0, 1), (123, 0, 0, 2), (125, 0, 0, 2), (127, 0, 0, 2), (129, 0, 0, 2), (131, 0, 0, 1), (132, 0, 0, 3), (135, 0, 0, 1), (136, 0, 0, 2), (138, 0, 0, 1), (139, 0, 0, 2), (141, 0, 0, 2), (143, 0, 0, 2), (145, 0, 0, 1), (146, 0, 0, 2), (148, 1793, 464, 3), (151, 1660, 388, 3), (154, 0, 0, 2), (156, 0, 0, 3), (159, 0, 0, 3), (162, 0, 0, 1), (163, 1186, 116, 3), (166, 0, 0, 2), (168, 0, 0, 2), (170, 0, 0, 1), (171, 0, 0, 2), (173, 0, 0, 1), (174, 0, 0, 2), (176, 0, 0, 1), (177, 0, 0, 2), (179, 0, 0, 1), (180, 0, 0, 3), (183, 0, 0, 3), (186, 0, 0, 3), (189, 0, 0, 3), (192, 0, 0, 1), (193, 0, 0, 3), (196, 0, 0, 1), (197, 1186, 116, 3), (200, 0, 0, 1), (201, 0, 0, 1), (202, 0, 0, 1), (203, 0, 0, 1), (204, 0, 0, 2), (206, 0, 0, 2), (208, 0, 0, 1), (209, 0, 0, 3), (212, 0, 0, 1), (213, 0, 0, 1), (214, 0, 0, 1), (215, 0, 0, 2), (217, 1793, 464, 3), (220, 0, 0, 1), (221, 1186, 116, 3), (224, 0, 0, 1), (225, 0, 0, 1), (226, 0, 0, 3), (229, 0, 0, 1), (230, 1185, 113, 3), (233, 0, 0, 2), (235, 0, 0, 1), (236, 0, 0, 1), (237, 0, 0, 3), (240, 0, 0, 3), (243, 0, 0, 1), (244, 0, 0, 1)]
/-- QuillDeskModel.sign(I)I -/
def kc_268 : List Instr := [.aload 0, .sipush 0, .putfield 2816, .iload 1, .sipush (-1), .if_icmp .ne 11, .aload 0, .sipush 0, .putfield 2940, .sipush 0, .ireturn, .aload 0, .iload 1, .sipush 0, .sipush 9, .invokevirtual 316226, .ifCond .eq 21, .aload 0, .getfield 2940, .sipush 12, .if_icmp .ne 23, .sipush (-1), .ireturn, .aload 0, .checkcast 2942, .aload 0, .getfield 2940, .iload 1, .iastore, .aload 0, .aload 0, .getfield 2940, .sipush 1, .iadd, .putfield 2940, .aload 0, .getfield 2940, .ireturn]
def kr_268 : List (Nat × Nat × Nat × Nat) := [(0, 0, 0, 1), (1, 0, 0, 1), (2, 1125, 140, 3), (5, 0, 0, 1), (6, 0, 0, 1), (7, 0, 0, 3), (10, 0, 0, 1), (11, 0, 0, 1), (12, 1187, 467, 3), (15, 0, 0, 1), (16, 0, 0, 1), (17, 0, 0, 1), (18, 0, 0, 1), (19, 0, 0, 1), (20, 0, 0, 2), (22, 1366, 176, 3), (25, 0, 0, 3), (28, 0, 0, 1), (29, 1187, 467, 3), (32, 0, 0, 2), (34, 0, 0, 3), (37, 0, 0, 1), (38, 0, 0, 1), (39, 0, 0, 1), (40, 1188, 119, 3), (43, 0, 0, 1), (44, 1187, 467, 3), (47, 0, 0, 1), (48, 0, 0, 1), (49, 0, 0, 1), (50, 0, 0, 1), (51, 1187, 467, 3), (54, 0, 0, 1), (55, 0, 0, 1), (56, 1187, 467, 3), (59, 0, 0, 1), (60, 1187, 467, 3), (63, 0, 0, 1)]
/-- QuillDeskModel.compares(III)I -/
def kc_269 : List Instr := [.sipush 0, .istore 4, .iload 4, .iload 3, .if_icmp .ge 31, .aload 0, .checkcast 2942, .iload 1, .iload 4, .iadd, .aload 0, .getfield 2940, .irem, .iaload, .aload 0, .checkcast 2942, .iload 2, .iload 4, .iadd, .aload 0, .getfield 2940, .irem, .iaload, .isub, .istore 5, .iload 5, .ifCond .eq 29, .iload 5, .ireturn, .iinc 4 1, .goto 2, .sipush 0, .ireturn]
def kr_269 : List (Nat × Nat × Nat × Nat) := [(0, 0, 0, 1), (1, 0, 0, 2), (3, 0, 0, 2), (5, 0, 0, 1), (6, 0, 0, 3), (9, 0, 0, 1), (10, 1188, 119, 3), (13, 0, 0, 1), (14, 0, 0, 2), (16, 0, 0, 1), (17, 0, 0, 1), (18, 1187, 467, 3), (21, 0, 0, 1), (22, 0, 0, 1), (23, 0, 0, 1), (24, 1188, 119, 3), (27, 0, 0, 1), (28, 0, 0, 2), (30, 0, 0, 1), (31, 0, 0, 1), (32, 1187, 467, 3), (35, 0, 0, 1), (36, 0, 0, 1), (37, 0, 0, 1), (38, 0, 0, 2), (40, 0, 0, 2), (42, 0, 0, 3), (45, 0, 0, 2), (47, 0, 0, 1), (48, 0, 0, 3), (51, 0, 0, 3), (54, 0, 0, 1), (55, 0, 0, 1)]
/-- QuillDeskModel.unlikeRows(I)I -/
def kc_270 : List Instr := [.sipush 0, .istore 2, .sipush 0, .istore 3, .iload 3, .aload 0, .getfield 2940, .if_icmp .ge 33, .sipush 1, .istore 4, .sipush 0, .istore 5, .iload 5, .iload 3, .if_icmp .ge 25, .aload 0, .iload 3, .iload 5, .iload 1, .invokevirtual 538226, .ifCond .ne 23, .sipush 0, .istore 4, .iinc 5 1, .goto 12, .iload 4, .ifCond .eq 31, .iload 2, .sipush 1, .iadd, .istore 2, .iinc 3 1, .goto 4, .aload 0, .getfield 2940, .ifCond .ne 40, .iload 1, .ifCond .ne 40, .sipush 1, .goto 41, .iload 2, .ireturn]
def kr_270 : List (Nat × Nat × Nat × Nat) := [(0, 0, 0, 1), (1, 0, 0, 1), (2, 0, 0, 1), (3, 0, 0, 1), (4, 0, 0, 1), (5, 0, 0, 1), (6, 1187, 467, 3), (9, 0, 0, 3), (12, 0, 0, 1), (13, 0, 0, 2), (15, 0, 0, 1), (16, 0, 0, 2), (18, 0, 0, 2), (20, 0, 0, 1), (21, 0, 0, 3), (24, 0, 0, 1), (25, 0, 0, 1), (26, 0, 0, 2), (28, 0, 0, 1), (29, 1809, 470, 3), (32, 0, 0, 3), (35, 0, 0, 1), (36, 0, 0, 2), (38, 0, 0, 3), (41, 0, 0, 3), (44, 0, 0, 2), (46, 0, 0, 3), (49, 0, 0, 1), (50, 0, 0, 1), (51, 0, 0, 1), (52, 0, 0, 1), (53, 0, 0, 3), (56, 0, 0, 3), (59, 0, 0, 1), (60, 1187, 467, 3), (63, 0, 0, 3), (66, 0, 0, 1), (67, 0, 0, 3), (70, 0, 0, 1), (71, 0, 0, 3), (74, 0, 0, 1), (75, 0, 0, 1)]
/-- QuillDeskModel.read(I)I -/
def kc_271 : List Instr := [.aload 0, .sipush 0, .putfield 2816, .aload 0, .iload 1, .sipush 100, .sipush 112, .invokevirtual 316226, .ifCond .eq 15, .aload 0, .iload 1, .sipush 100, .isub, .invokevirtual 540222, .ireturn, .aload 0, .iload 1, .sipush 0, .sipush 1, .invokevirtual 316226, .ifCond .ne 23, .sipush (-1), .ireturn, .aload 0, .getfield 2940, .ifCond .ne 28, .sipush 0, .ireturn, .sipush 0, .istore 2, .sipush 1, .istore 3, .iload 3, .aload 0, .getfield 2940, .if_icmp .ge 47, .aload 0, .iload 3, .iload 2, .aload 0, .getfield 2940, .invokevirtual 538226, .ifCond .ge 45, .iload 3, .istore 2, .iinc 3 1, .goto 32, .iload 1, .ifCond .ne 51, .iload 2, .ireturn, .sipush 1, .istore 3, .aload 0, .iload 3, .sipush 0, .aload 0, .getfield 2940, .invokevirtual 538226, .ifCond .eq 65, .iload 3, .sipush 1, .iadd, .istore 3, .goto 53, .iload 3, .ireturn]
def kr_271 : List (Nat × Nat × Nat × Nat) := [(0, 0, 0, 1), (1, 0, 0, 1), (2, 1125, 140, 3), (5, 0, 0, 1), (6, 0, 0, 1), (7, 0, 0, 2), (9, 0, 0, 2), (11, 1366, 176, 3), (14, 0, 0, 3), (17, 0, 0, 1), (18, 0, 0, 1), (19, 0, 0, 2), (21, 0, 0, 1), (22, 1805, 473, 3), (25, 0, 0, 1), (26, 0, 0, 1), (27, 0, 0, 1), (28, 0, 0, 1), (29, 0, 0, 1), (30, 1366, 176, 3), (33, 0, 0, 3), (36, 0, 0, 1), (37, 0, 0, 1), (38, 0, 0, 1), (39, 1187, 467, 3), (42, 0, 0, 3), (45, 0, 0, 1), (46, 0, 0, 1), (47, 0, 0, 1), (48, 0, 0, 1), (49, 0, 0, 1), (50, 0, 0, 1), (51, 0, 0, 1), (52, 0, 0, 1), (53, 1187, 467, 3), (56, 0, 0, 3), (59, 0, 0, 1), (60, 0, 0, 1), (61, 0, 0, 1), (62, 0, 0, 1), (63, 1187, 467, 3), (66, 1809, 470, 3), (69, 0, 0, 3), (72, 0, 0, 1), (73, 0, 0, 1), (74, 0, 0, 3), (77, 0, 0, 3), (80, 0, 0, 1), (81, 0, 0, 3), (84, 0, 0, 1), (85, 0, 0, 1), (86, 0, 0, 1), (87, 0, 0, 1), (88, 0, 0, 1), (89, 0, 0, 1), (90, 0, 0, 1), (91, 0, 0, 1), (92, 1187, 467, 3), (95, 1809, 470, 3), (98, 0, 0, 3), (101, 0, 0, 1), (102, 0, 0, 1), (103, 0, 0, 1), (104, 0, 0, 1), (105, 0, 0, 3), (108, 0, 0, 1), (109, 0, 0, 1)]
/-- QuillDeskModel.leg(I)I -/
def kc_272 : List Instr := [.aload 0, .sipush 0, .putfield 2816, .iload 1, .ifCond .ne 10, .aload 0, .sipush 0, .putfield 2944, .sipush 0, .ireturn, .aload 0, .iload 1, .sipush (-179), .sipush 179, .invokevirtual 316226, .ifCond .eq 20, .aload 0, .getfield 2944, .sipush 10, .if_icmp .ne 22, .sipush (-1), .ireturn, .aload 0, .checkcast 2946, .aload 0, .getfield 2944, .iload 1, .iastore, .aload 0, .aload 0, .getfield 2944, .sipush 1, .iadd, .putfield 2944, .aload 0, .getfield 2944, .ireturn]
def kr_272 : List (Nat × Nat × Nat × Nat) := [(0, 0, 0, 1), (1, 0, 0, 1), (2, 1125, 140, 3), (5, 0, 0, 1), (6, 0, 0, 3), (9, 0, 0, 1), (10, 0, 0, 1), (11, 1189, 476, 3), (14, 0, 0, 1), (15, 0, 0, 1), (16, 0, 0, 1), (17, 0, 0, 1), (18, 0, 0, 3), (21, 0, 0, 3), (24, 1366, 176, 3), (27, 0, 0, 3), (30, 0, 0, 1), (31, 1189, 476, 3), (34, 0, 0, 2), (36, 0, 0, 3), (39, 0, 0, 1), (40, 0, 0, 1), (41, 0, 0, 1), (42, 1190, 122, 3), (45, 0, 0, 1), (46, 1189, 476, 3), (49, 0, 0, 1), (50, 0, 0, 1), (51, 0, 0, 1), (52, 0, 0, 1), (53, 1189, 476, 3), (56, 0, 0, 1), (57, 0, 0, 1), (58, 1189, 476, 3), (61, 0, 0, 1), (62, 1189, 476, 3), (65, 0, 0, 1)]
/-- QuillDeskModel.line(I)I -/
def kc_273 : List Instr := [.aload 0, .sipush 0, .putfield 2816, .aload 0, .iload 1, .sipush 0, .sipush 2, .invokevirtual 316226, .ifCond .ne 11, .sipush (-10000), .ireturn, .sipush 0, .istore 2, .sipush 0, .istore 3, .sipush 0, .istore 4, .sipush 0, .istore 5, .iload 5, .aload 0, .getfield 2944, .if_icmp .ge 82, .aload 0, .checkcast 2946, .iload 5, .iaload, .ifCond .le 30, .sipush 1, .goto 31, .sipush (-1), .istore 6, .sipush 0, .istore 7, .iload 7, .aload 0, .aload 0, .checkcast 2946, .iload 5, .iaload, .invokevirtual 324222, .if_icmp .ge 80, .iload 2, .iload 6, .iadd, .istore 2, .iload 2, .sipush 180, .if_icmp .ne 53, .iload 3, .sipush 1, .iadd, .istore 3, .iload 2, .sipush (-181), .if_icmp .ne 60, .iload 3, .sipush 1, .isub, .istore 3, .iload 2, .sipush 180, .if_icmp .ne 65, .sipush (-180), .goto 71, .iload 2, .sipush (-181), .if_icmp .ne 70, .sipush 179, .goto 71, .iload 2, .istore 2, .iload 2, .ifCond .ne 78, .iload 4, .sipush 1, .iadd, .istore 4, .iinc 7 1, .goto 34, .iinc 5 1, .goto 19, .iload 1, .ifCond .ne 86, .iload 2, .goto 92, .iload 1, .sipush 1, .if_icmp .ne 91, .iload 3, .goto 92, .iload 4, .ireturn]
def kr_273 : List (Nat × Nat × Nat × Nat) := [(0, 0, 0, 1), (1, 0, 0, 1), (2, 1125, 140, 3), (5, 0, 0, 1), (6, 0, 0, 1), (7, 0, 0, 1), (8, 0, 0, 1), (9, 1366, 176, 3), (12, 0, 0, 3), (15, 0, 0, 3), (18, 0, 0, 1), (19, 0, 0, 1), (20, 0, 0, 1), (21, 0, 0, 1), (22, 0, 0, 1), (23, 0, 0, 1), (24, 0, 0, 2), (26, 0, 0, 1), (27, 0, 0, 2), (29, 0, 0, 2), (31, 0, 0, 1), (32, 1189, 476, 3), (35, 0, 0, 3), (38, 0, 0, 1), (39, 1190, 122, 3), (42, 0, 0, 2), (44, 0, 0, 1), (45, 0, 0, 3), (48, 0, 0, 1), (49, 0, 0, 3), (52, 0, 0, 1), (53, 0, 0, 2), (55, 0, 0, 1), (56, 0, 0, 2), (58, 0, 0, 2), (60, 0, 0, 1), (61, 0, 0, 1), (62, 1190, 122, 3), (65, 0, 0, 2), (67, 0, 0, 1), (68, 1745, 143, 3), (71, 0, 0, 3), (74, 0, 0, 1), (75, 0, 0, 2), (77, 0, 0, 1), (78, 0, 0, 1), (79, 0, 0, 1), (80, 0, 0, 3), (83, 0, 0, 3), (86, 0, 0, 1), (87, 0, 0, 1), (88, 0, 0, 1), (89, 0, 0, 1), (90, 0, 0, 1), (91, 0, 0, 3), (94, 0, 0, 3), (97, 0, 0, 1), (98, 0, 0, 1), (99, 0, 0, 1), (100, 0, 0, 1), (101, 0, 0, 1), (102, 0, 0, 3), (105, 0, 0, 3), (108, 0, 0, 3), (111, 0, 0, 3), (114, 0, 0, 1), (115, 0, 0, 3), (118, 0, 0, 3), (121, 0, 0, 3), (124, 0, 0, 3), (127, 0, 0, 1), (128, 0, 0, 1), (129, 0, 0, 1), (130, 0, 0, 3), (133, 0, 0, 2), (135, 0, 0, 1), (136, 0, 0, 1), (137, 0, 0, 2), (139, 0, 0, 3), (142, 0, 0, 3), (145, 0, 0, 3), (148, 0, 0, 3), (151, 0, 0, 1), (152, 0, 0, 3), (155, 0, 0, 1), (156, 0, 0, 3), (159, 0, 0, 1), (160, 0, 0, 1), (161, 0, 0, 3), (164, 0, 0, 1), (165, 0, 0, 3), (168, 0, 0, 2), (170, 0, 0, 1)]
/-- QuillDeskModel.mirrored(II)I -/
def kc_274 : List Instr := [.sipush 0, .istore 3, .sipush 0, .istore 4, .iload 4, .iload 2, .if_icmp .ge 24, .aload 0, .iload 1, .iload 4, .invokevirtual 330224, .ifCond .eq 22, .iload 3, .sipush 1, .iload 2, .sipush 1, .isub, .iload 4, .isub, .ishl, .ior, .istore 3, .iinc 4 1, .goto 4, .iload 3, .ireturn]
def kr_274 : List (Nat × Nat × Nat × Nat) := [(0, 0, 0, 1), (1, 0, 0, 1), (2, 0, 0, 1), (3, 0, 0, 2), (5, 0, 0, 2), (7, 0, 0, 1), (8, 0, 0, 3), (11, 0, 0, 1), (12, 0, 0, 1), (13, 0, 0, 2), (15, 1712, 430, 3), (18, 0, 0, 3), (21, 0, 0, 1), (22, 0, 0, 1), (23, 0, 0, 1), (24, 0, 0, 1), (25, 0, 0, 1), (26, 0, 0, 2), (28, 0, 0, 1), (29, 0, 0, 1), (30, 0, 0, 1), (31, 0, 0, 1), (32, 0, 0, 3), (35, 0, 0, 3), (38, 0, 0, 1), (39, 0, 0, 1)]
/-- QuillDeskModel.water(III)I -/
def kc_275 : List Instr := [.aload 0, .sipush 0, .putfield 2816, .aload 0, .iload 1, .sipush 0, .sipush 65535, .invokevirtual 316226, .ifCond .eq 21, .aload 0, .iload 2, .sipush 1, .sipush 16, .invokevirtual 316226, .ifCond .eq 21, .aload 0, .iload 3, .sipush 0, .sipush 1, .invokevirtual 316226, .ifCond .ne 23, .sipush (-1), .ireturn, .iload 3, .ifCond .ne 30, .aload 0, .iload 1, .iload 2, .invokevirtual 548224, .ireturn, .sipush 0, .istore 4, .sipush 0, .istore 5, .iload 5, .iload 1, .if_icmp .gt 54, .iload 5, .sipush 1, .iload 2, .ishl, .if_icmp .ge 54, .aload 0, .iload 5, .iload 2, .invokevirtual 548224, .iload 5, .if_icmp .ne 52, .iload 4, .sipush 1, .iadd, .istore 4, .iinc 5 1, .goto 34, .iload 4, .ireturn]
def kr_275 : List (Nat × Nat × Nat × Nat) := [(0, 0, 0, 1), (1, 0, 0, 1), (2, 1125, 140, 3), (5, 0, 0, 1), (6, 0, 0, 1), (7, 0, 0, 1), (8, 1825, 479, 3), (11, 1366, 176, 3), (14, 0, 0, 3), (17, 0, 0, 1), (18, 0, 0, 1), (19, 0, 0, 1), (20, 0, 0, 2), (22, 1366, 176, 3), (25, 0, 0, 3), (28, 0, 0, 1), (29, 0, 0, 1), (30, 0, 0, 1), (31, 0, 0, 1), (32, 1366, 176, 3), (35, 0, 0, 3), (38, 0, 0, 1), (39, 0, 0, 1), (40, 0, 0, 1), (41, 0, 0, 3), (44, 0, 0, 1), (45, 0, 0, 1), (46, 0, 0, 1), (47, 1826, 480, 3), (50, 0, 0, 1), (51, 0, 0, 1), (52, 0, 0, 2), (54, 0, 0, 1), (55, 0, 0, 2), (57, 0, 0, 2), (59, 0, 0, 1), (60, 0, 0, 3), (63, 0, 0, 2), (65, 0, 0, 1), (66, 0, 0, 1), (67, 0, 0, 1), (68, 0, 0, 3), (71, 0, 0, 1), (72, 0, 0, 2), (74, 0, 0, 1), (75, 1826, 480, 3), (78, 0, 0, 2), (80, 0, 0, 3), (83, 0, 0, 2), (85, 0, 0, 1), (86, 0, 0, 1), (87, 0, 0, 2), (89, 0, 0, 3), (92, 0, 0, 3), (95, 0, 0, 2), (97, 0, 0, 1)]
/-- QuillDeskModel.weight(I)I -/
def kc_276 : List Instr := [.aload 0, .sipush 0, .putfield 2816, .iload 1, .sipush (-1), .if_icmp .ne 11, .aload 0, .sipush 0, .putfield 2948, .sipush 0, .ireturn, .aload 0, .iload 1, .sipush 1, .sipush 9, .invokevirtual 316226, .ifCond .eq 21, .aload 0, .getfield 2948, .sipush 8, .if_icmp .ne 23, .sipush (-1), .ireturn, .aload 0, .checkcast 2950, .aload 0, .getfield 2948, .iload 1, .iastore, .aload 0, .aload 0, .getfield 2948, .sipush 1, .iadd, .putfield 2948, .aload 0, .getfield 2948, .ireturn]
def kr_276 : List (Nat × Nat × Nat × Nat) := [(0, 0, 0, 1), (1, 0, 0, 1), (2, 1125, 140, 3), (5, 0, 0, 1), (6, 0, 0, 1), (7, 0, 0, 3), (10, 0, 0, 1), (11, 0, 0, 1), (12, 1191, 483, 3), (15, 0, 0, 1), (16, 0, 0, 1), (17, 0, 0, 1), (18, 0, 0, 1), (19, 0, 0, 1), (20, 0, 0, 2), (22, 1366, 176, 3), (25, 0, 0, 3), (28, 0, 0, 1), (29, 1191, 483, 3), (32, 0, 0, 2), (34, 0, 0, 3), (37, 0, 0, 1), (38, 0, 0, 1), (39, 0, 0, 1), (40, 1192, 125, 3), (43, 0, 0, 1), (44, 1191, 483, 3), (47, 0, 0, 1), (48, 0, 0, 1), (49, 0, 0, 1), (50, 0, 0, 1), (51, 1191, 483, 3), (54, 0, 0, 1), (55, 0, 0, 1), (56, 1191, 483, 3), (59, 0, 0, 1), (60, 1191, 483, 3), (63, 0, 0, 1)]
/-- QuillDeskModel.lift(II)I -/
def kc_277 : List Instr := [.aload 0, .sipush 0, .putfield 2816, .aload 0, .iload 1, .sipush 1, .sipush 40, .invokevirtual 316226, .ifCond .eq 15, .aload 0, .iload 2, .sipush 0, .sipush 1, .invokevirtual 316226, .ifCond .ne 17, .sipush (-1), .ireturn, .sipush 0, .istore 3, .iload 3, .iload 1, .if_icmp .ge 29, .aload 0, .checkcast 2952, .iload 3, .iload 3, .iastore, .iinc 3 1, .goto 19, .sipush 0, .istore 3, .sipush (-1), .istore 4, .iload 1, .istore 5, .iload 5, .sipush 1, .if_icmp .le 93, .iload 3, .aload 0, .getfield 2948, .ifCond .ne 44, .sipush 1, .goto 54, .aload 0, .checkcast 2950, .aload 0, .checkcast 2952, .iload 3, .iaload, .aload 0, .getfield 2948, .irem, .iaload, .iadd, .iload 5, .irem, .istore 3, .iload 5, .iload 1, .if_icmp .ne 66, .aload 0, .checkcast 2952, .iload 3, .iaload, .istore 4, .iload 3, .istore 6, .iload 6, .iload 5, .sipush 1, .isub, .if_icmp .ge 85, .aload 0, .checkcast 2952, .iload 6, .aload 0, .checkcast 2952, .iload 6, .sipush 1, .iadd, .iaload, .iastore, .iinc 6 1, .goto 68, .iload 3, .iload 5, .sipush 1, .isub, .irem, .istore 3, .iinc 5 (-1), .goto 35, .iload 2, .sipush 1, .if_icmp .ne 98, .iload 4, .goto 107, .iload 1, .sipush 1, .if_icmp .ne 103, .sipush 0, .goto 107, .aload 0, .checkcast 2952, .sipush 0, .iaload, .ireturn]
def kr_277 : List (Nat × Nat × Nat × Nat) := [(0, 0, 0, 1), (1, 0, 0, 1), (2, 1125, 140, 3), (5, 0, 0, 1), (6, 0, 0, 1), (7, 0, 0, 1), (8, 0, 0, 2), (10, 1366, 176, 3), (13, 0, 0, 3), (16, 0, 0, 1), (17, 0, 0, 1), (18, 0, 0, 1), (19, 0, 0, 1), (20, 1366, 176, 3), (23, 0, 0, 3), (26, 0, 0, 1), (27, 0, 0, 1), (28, 0, 0, 1), (29, 0, 0, 1), (30, 0, 0, 1), (31, 0, 0, 1), (32, 0, 0, 3), (35, 0, 0, 1), (36, 1193, 128, 3), (39, 0, 0, 1), (40, 0, 0, 1), (41, 0, 0, 1), (42, 0, 0, 3), (45, 0, 0, 3), (48, 0, 0, 1), (49, 0, 0, 1), (50, 0, 0, 1), (51, 0, 0, 2), (53, 0, 0, 1), (54, 0, 0, 2), (56, 0, 0, 2), (58, 0, 0, 1), (59, 0, 0, 3), (62, 0, 0, 1), (63, 0, 0, 1), (64, 1191, 483, 3), (67, 0, 0, 3), (70, 0, 0, 1), (71, 0, 0, 3), (74, 0, 0, 1), (75, 1192, 125, 3), (78, 0, 0, 1), (79, 1193, 128, 3), (82, 0, 0, 1), (83, 0, 0, 1), (84, 0, 0, 1), (85, 1191, 483, 3), (88, 0, 0, 1), (89, 0, 0, 1), (90, 0, 0, 1), (91, 0, 0, 2), (93, 0, 0, 1), (94, 0, 0, 1), (95, 0, 0, 2), (97, 0, 0, 1), (98, 0, 0, 3), (101, 0, 0, 1), (102, 1193, 128, 3), (105, 0, 0, 1), (106, 0, 0, 1), (107, 0, 0, 2), (109, 0, 0, 1), (110, 0, 0, 2), (112, 0, 0, 2), (114, 0, 0, 2), (116, 0, 0, 1), (117, 0, 0, 1), (118, 0, 0, 3), (121, 0, 0, 1), (122, 1193, 128, 3), (125, 0, 0, 2), (127, 0, 0, 1), (128, 1193, 128, 3), (131, 0, 0, 2), (133, 0, 0, 1), (134, 0, 0, 1), (135, 0, 0, 1), (136, 0, 0, 1), (137, 0, 0, 3), (140, 0, 0, 3), (143, 0, 0, 1), (144, 0, 0, 2), (146, 0, 0, 1), (147, 0, 0, 1), (148, 0, 0, 1), (149, 0, 0, 1), (150, 0, 0, 3), (153, 0, 0, 3), (156, 0, 0, 1), (157, 0, 0, 1), (158, 0, 0, 3), (161, 0, 0, 2), (163, 0, 0, 3), (166, 0, 0, 1), (167, 0, 0, 1), (168, 0, 0, 3), (171, 0, 0, 1), (172, 0, 0, 3), (175, 0, 0, 1), (176, 1193, 128, 3), (179, 0, 0, 1), (180, 0, 0, 1), (181, 0, 0, 1)]
/-- QuillDeskModel.heir(I)I -/
def kc_278 : List Instr := [.aload 0, .sipush 0, .putfield 2816, .iload 1, .sipush (-1), .if_icmp .ne 11, .aload 0, .sipush 0, .putfield 2954, .sipush 0, .ireturn, .aload 0, .iload 1, .sipush 1, .sipush 50, .invokevirtual 316226, .ifCond .eq 21, .aload 0, .getfield 2954, .sipush 6, .if_icmp .ne 23, .sipush (-1), .ireturn, .aload 0, .checkcast 2956, .aload 0, .getfield 2954, .iload 1, .iastore, .aload 0, .aload 0, .getfield 2954, .sipush 1, .iadd, .putfield 2954, .aload 0, .getfield 2954, .ireturn]
def kr_278 : List (Nat × Nat × Nat × Nat) := [(0, 0, 0, 1), (1, 0, 0, 1), (2, 1125, 140, 3), (5, 0, 0, 1), (6, 0, 0, 1), (7, 0, 0, 3), (10, 0, 0, 1), (11, 0, 0, 1), (12, 1194, 486, 3), (15, 0, 0, 1), (16, 0, 0, 1), (17, 0, 0, 1), (18, 0, 0, 1), (19, 0, 0, 1), (20, 0, 0, 2), (22, 1366, 176, 3), (25, 0, 0, 3), (28, 0, 0, 1), (29, 1194, 486, 3), (32, 0, 0, 2), (34, 0, 0, 3), (37, 0, 0, 1), (38, 0, 0, 1), (39, 0, 0, 1), (40, 1195, 131, 3), (43, 0, 0, 1), (44, 1194, 486, 3), (47, 0, 0, 1), (48, 0, 0, 1), (49, 0, 0, 1), (50, 0, 0, 1), (51, 1194, 486, 3), (54, 0, 0, 1), (55, 0, 0, 1), (56, 1194, 486, 3), (59, 0, 0, 1), (60, 1194, 486, 3), (63, 0, 0, 1)]
/-- QuillDeskModel.sealOf(II)I -/
def kc_279 : List Instr := [.sipush 0, .istore 3, .sipush 0, .istore 4, .iload 4, .aload 0, .getfield 2954, .if_icmp .ge 17, .iload 3, .aload 0, .checkcast 2956, .iload 4, .iaload, .iadd, .istore 3, .iinc 4 1, .goto 4, .iload 1, .istore 4, .sipush 0, .istore 5, .sipush 0, .istore 6, .iload 6, .aload 0, .getfield 2954, .if_icmp .ge 71, .iload 4, .iload 1, .aload 0, .checkcast 2956, .iload 6, .iaload, .imul, .iload 3, .idiv, .isub, .istore 4, .iload 1, .aload 0, .checkcast 2956, .iload 6, .iaload, .imul, .iload 3, .irem, .istore 7, .iload 1, .aload 0, .checkcast 2956, .iload 2, .iaload, .imul, .iload 3, .irem, .istore 8, .iload 7, .iload 8, .if_icmp .gt 65, .iload 7, .iload 8, .if_icmp .ne 69, .iload 6, .iload 2, .if_icmp .ge 69, .iload 5, .sipush 1, .iadd, .istore 5, .iinc 6 1, .goto 23, .iload 1, .aload 0, .checkcast 2956, .iload 2, .iaload, .imul, .iload 3, .idiv, .iload 5, .iload 4, .if_icmp .ge 84, .sipush 1, .goto 85, .sipush 0, .iadd, .ireturn]
def kr_279 : List (Nat × Nat × Nat × Nat) := [(0, 0, 0, 1), (1, 0, 0, 1), (2, 0, 0, 1), (3, 0, 0, 2), (5, 0, 0, 2), (7, 0, 0, 1), (8, 1194, 486, 3), (11, 0, 0, 3), (14, 0, 0, 1), (15, 0, 0, 1), (16, 1195, 131, 3), (19, 0, 0, 2), (21, 0, 0, 1), (22, 0, 0, 1), (23, 0, 0, 1), (24, 0, 0, 3), (27, 0, 0, 3), (30, 0, 0, 1), (31, 0, 0, 2), (33, 0, 0, 1), (34, 0, 0, 2), (36, 0, 0, 1), (37, 0, 0, 2), (39, 0, 0, 2), (41, 0, 0, 1), (42, 1194, 486, 3), (45, 0, 0, 3), (48, 0, 0, 2), (50, 0, 0, 1), (51, 0, 0, 1), (52, 1195, 131, 3), (55, 0, 0, 2), (57, 0, 0, 1), (58, 0, 0, 1), (59, 0, 0, 1), (60, 0, 0, 1), (61, 0, 0, 1), (62, 0, 0, 2), (64, 0, 0, 1), (65, 0, 0, 1), (66, 1195, 131, 3), (69, 0, 0, 2), (71, 0, 0, 1), (72, 0, 0, 1), (73, 0, 0, 1), (74, 0, 0, 1), (75, 0, 0, 2), (77, 0, 0, 1), (78, 0, 0, 1), (79, 1195, 131, 3), (82, 0, 0, 1), (83, 0, 0, 1), (84, 0, 0, 1), (85, 0, 0, 1), (86, 0, 0, 1), (87, 0, 0, 2), (89, 0, 0, 2), (91, 0, 0, 2), (93, 0, 0, 3), (96, 0, 0, 2), (98, 0, 0, 2), (100, 0, 0, 3), (103, 0, 0, 2), (105, 0, 0, 1), (106, 0, 0, 3), (109, 0, 0, 2), (111, 0, 0, 1), (112, 0, 0, 1), (113, 0, 0, 2), (115, 0, 0, 3), (118, 0, 0, 3), (121, 0, 0, 1), (122, 0, 0, 1), (123, 1195, 131, 3), (126, 0, 0, 1), (127, 0, 0, 1), (128, 0, 0, 1), (129, 0, 0, 1), (130, 0, 0, 1), (131, 0, 0, 2), (133, 0, 0, 2), (135, 0, 0, 3), (138, 0, 0, 1), (139, 0, 0, 3), (142, 0, 0, 1), (143, 0, 0, 1), (144, 0, 0, 1)]
/-- QuillDeskModel.seal(II)I -/
def kc_280 : List Instr := [.aload 0, .sipush 0, .putfield 2816, .aload 0, .iload 1, .sipush 0, .sipush 200, .invokevirtual 316226, .ifCond .eq 18, .aload 0, .iload 2, .sipush (-1), .aload 0, .getfield 2954, .sipush 1, .isub, .invokevirtual 316226, .ifCond .ne 20, .sipush (-1), .ireturn, .iload 2, .sipush (-1), .if_icmp .eq 28, .aload 0, .iload 1, .iload 2, .invokevirtual 558224, .ireturn, .sipush 0, .istore 3, .iload 3, .aload 0, .getfield 2954, .if_icmp .ge 49, .aload 0, .iload 1, .sipush 1, .iadd, .iload 3, .invokevirtual 558224, .aload 0, .iload 1, .iload 3, .invokevirtual 558224, .if_icmp .ge 47, .iload 3, .ireturn, .iinc 3 1, .goto 30, .sipush (-1), .ireturn]
def kr_280 : List (Nat × Nat × Nat × Nat) := [(0, 0, 0, 1), (1, 0, 0, 1), (2, 1125, 140, 3), (5, 0, 0, 1), (6, 0, 0, 1), (7, 0, 0, 1), (8, 0, 0, 3), (11, 1366, 176, 3), (14, 0, 0, 3), (17, 0, 0, 1), (18, 0, 0, 1), (19, 0, 0, 1), (20, 0, 0, 1), (21, 1194, 486, 3), (24, 0, 0, 1), (25, 0, 0, 1), (26, 1366, 176, 3), (29, 0, 0, 3), (32, 0, 0, 1), (33, 0, 0, 1), (34, 0, 0, 1), (35, 0, 0, 1), (36, 0, 0, 3), (39, 0, 0, 1), (40, 0, 0, 1), (41, 0, 0, 1), (42, 1846, 489, 3), (45, 0, 0, 1), (46, 0, 0, 1), (47, 0, 0, 1), (48, 0, 0, 1), (49, 0, 0, 1), (50, 1194, 486, 3), (53, 0, 0, 3), (56, 0, 0, 1), (57, 0, 0, 1), (58, 0, 0, 1), (59, 0, 0, 1), (60, 0, 0, 1), (61, 1846, 489, 3), (64, 0, 0, 1), (65, 0, 0, 1), (66, 0, 0, 1), (67, 1846, 489, 3), (70, 0, 0, 3), (73, 0, 0, 1), (74, 0, 0, 1), (75, 0, 0, 3), (78, 0, 0, 3), (81, 0, 0, 1), (82, 0, 0, 1)]
/-- QuillDeskModel.boxOf(I)I -/
def kc_281 : List Instr := [.iload 1, .sipush 2, .idiv, .sipush 2, .imul, .iload 1, .sipush 2, .irem, .iadd, .istore 2, .sipush 6, .sipush 3, .iload 1, .sipush 2, .idiv, .imul, .iadd, .iload 1, .sipush 2, .irem, .iadd, .istore 3, .sipush 1, .iload 2, .ishl, .sipush 1, .iload 2, .sipush 2, .iadd, .ishl, .ior, .sipush 1, .iload 3, .ishl, .ior, .sipush 1, .iload 3, .sipush 1, .iadd, .ishl, .ior, .ireturn]
def kr_281 : List (Nat × Nat × Nat × Nat) := [(0, 0, 0, 1), (1, 0, 0, 1), (2, 0, 0, 1), (3, 0, 0, 1), (4, 0, 0, 1), (5, 0, 0, 1), (6, 0, 0, 1), (7, 0, 0, 1), (8, 0, 0, 1), (9, 0, 0, 1), (10, 0, 0, 2), (12, 0, 0, 1), (13, 0, 0, 1), (14, 0, 0, 1), (15, 0, 0, 1), (16, 0, 0, 1), (17, 0, 0, 1), (18, 0, 0, 1), (19, 0, 0, 1), (20, 0, 0, 1), (21, 0, 0, 1), (22, 0, 0, 1), (23, 0, 0, 1), (24, 0, 0, 1), (25, 0, 0, 1), (26, 0, 0, 1), (27, 0, 0, 1), (28, 0, 0, 1), (29, 0, 0, 1), (30, 0, 0, 1), (31, 0, 0, 1), (32, 0, 0, 1), (33, 0, 0, 1), (34, 0, 0, 1), (35, 0, 0, 1), (36, 0, 0, 1), (37, 0, 0, 1), (38, 0, 0, 1), (39, 0, 0, 1), (40, 0, 0, 1), (41, 0, 0, 1), (42, 0, 0, 1)]
/-- QuillDeskModel.closedBy(II)I -/
def kc_282 : List Instr := [.sipush 0, .istore 3, .sipush 0, .istore 4, .iload 4, .sipush 4, .if_icmp .ge 33, .aload 0, .aload 0, .iload 4, .invokevirtual 562222, .iload 2, .invokevirtual 330224, .ifCond .eq 31, .iload 1, .sipush 1, .iload 2, .ishl, .ior, .aload 0, .iload 4, .invokevirtual 562222, .iand, .aload 0, .iload 4, .invokevirtual 562222, .if_icmp .ne 31, .iload 3, .sipush 1, .iadd, .istore 3, .iinc 4 1, .goto 4, .iload 3, .ireturn]
def kr_282 : List (Nat × Nat × Nat × Nat) := [(0, 0, 0, 1), (1, 0, 0, 1), (2, 0, 0, 1), (3, 0, 0, 2), (5, 0, 0, 2), (7, 0, 0, 1), (8, 0, 0, 3), (11, 0, 0, 1), (12, 0, 0, 1), (13, 0, 0, 2), (15, 1867, 492, 3), (18, 0, 0, 1), (19, 1712, 430, 3), (22, 0, 0, 3), (25, 0, 0, 1), (26, 0, 0, 1), (27, 0, 0, 1), (28, 0, 0, 1), (29, 0, 0, 1), (30, 0, 0, 1), (31, 0, 0, 2), (33, 1867, 492, 3), (36, 0, 0, 1), (37, 0, 0, 1), (38, 0, 0, 2), (40, 1867, 492, 3), (43, 0, 0, 3), (46, 0, 0, 1), (47, 0, 0, 1), (48, 0, 0, 1), (49, 0, 0, 1), (50, 0, 0, 3), (53, 0, 0, 3), (56, 0, 0, 1), (57, 0, 0, 1)]
/-- QuillDeskModel.moreWith(II)I -/
def kc_283 : List Instr := [.aload 0, .iload 1, .iload 2, .invokevirtual 564224, .istore 3, .aload 0, .checkcast 2958, .iload 1, .sipush 1, .iload 2, .ishl, .ior, .iaload, .istore 4, .iload 3, .ifCond .le 20, .iload 3, .iload 4, .iadd, .goto 22, .iload 4, .ineg, .ireturn]
def kr_283 : List (Nat × Nat × Nat × Nat) := [(0, 0, 0, 1), (1, 0, 0, 1), (2, 0, 0, 1), (3, 1863, 495, 3), (6, 0, 0, 1), (7, 0, 0, 1), (8, 1196, 134, 3), (11, 0, 0, 1), (12, 0, 0, 1), (13, 0, 0, 1), (14, 0, 0, 1), (15, 0, 0, 1), (16, 0, 0, 1), (17, 0, 0, 2), (19, 0, 0, 1), (20, 0, 0, 3), (23, 0, 0, 1), (24, 0, 0, 2), (26, 0, 0, 1), (27, 0, 0, 3), (30, 0, 0, 2), (32, 0, 0, 1), (33, 0, 0, 1)]
/-- QuillDeskModel.findsMore(I)V -/
def kc_284 : List Instr := [.iload 1, .sipush 4095, .if_icmp .ne 5, .sipush 0, .goto 6, .sipush (-100000000), .istore 2, .sipush 0, .istore 3, .iload 3, .sipush 12, .if_icmp .ge 27, .aload 0, .iload 1, .iload 3, .invokevirtual 330224, .ifCond .ne 25, .aload 0, .iload 2, .aload 0, .iload 1, .iload 3, .invokevirtual 566224, .invokevirtual 320224, .istore 2, .iinc 3 1, .goto 9, .aload 0, .checkcast 2958, .iload 1, .iload 2, .iastore, .return_]
def kr_284 : List (Nat × Nat × Nat × Nat) := [(0, 0, 0, 1), (1, 0, 0, 3), (4, 0, 0, 3), (7, 0, 0, 1), (8, 0, 0, 3), (11, 1858, 498, 3), (14, 0, 0, 1), (15, 0, 0, 1), (16, 0, 0, 1), (17, 0, 0, 1), (18, 0, 0, 2), (20, 0, 0, 3), (23, 0, 0, 1), (24, 0, 0, 1), (25, 0, 0, 1), (26, 1712, 430, 3), (29, 0, 0, 3), (32, 0, 0, 1), (33, 0, 0, 1), (34, 0, 0, 1), (35, 0, 0, 1), (36, 0, 0, 1), (37, 1859, 499, 3), (40, 1716, 433, 3), (43, 0, 0, 1), (44, 0, 0, 3), (47, 0, 0, 3), (50, 0, 0, 1), (51, 1196, 134, 3), (54, 0, 0, 1), (55, 0, 0, 1), (56, 0, 0, 1), (57, 0, 0, 1)]
/-- QuillDeskModel.game(II)I -/
def kc_285 : List Instr := [.aload 0, .sipush 0, .putfield 2816, .aload 0, .iload 1, .sipush 0, .sipush 4095, .invokevirtual 316226, .ifCond .eq 15, .aload 0, .iload 2, .sipush 0, .sipush 1, .invokevirtual 316226, .ifCond .ne 17, .sipush (-10), .ireturn, .sipush 4095, .istore 3, .iload 3, .iload 1, .if_icmp .lt 27, .aload 0, .iload 3, .invokevirtual 568223, .iinc 3 (-1), .goto 19, .iload 2, .ifCond .ne 34, .aload 0, .checkcast 2958, .iload 1, .iaload, .ireturn, .sipush 0, .istore 3, .iload 3, .sipush 12, .if_icmp .ge 57, .aload 0, .iload 1, .iload 3, .invokevirtual 330224, .ifCond .ne 55, .aload 0, .iload 1, .iload 3, .invokevirtual 566224, .aload 0, .checkcast 2958, .iload 1, .iaload, .if_icmp .ne 55, .iload 3, .ireturn, .iinc 3 1, .goto 36, .sipush (-1), .ireturn]
def kr_285 : List (Nat × Nat × Nat × Nat) := [(0, 0, 0, 1), (1, 0, 0, 1), (2, 1125, 140, 3), (5, 0, 0, 1), (6, 0, 0, 1), (7, 0, 0, 1), (8, 0, 0, 3), (11, 1366, 176, 3), (14, 0, 0, 3), (17, 0, 0, 1), (18, 0, 0, 1), (19, 0, 0, 1), (20, 0, 0, 1), (21, 1366, 176, 3), (24, 0, 0, 3), (27, 0, 0, 2), (29, 0, 0, 1), (30, 0, 0, 3), (33, 0, 0, 1), (34, 0, 0, 1), (35, 0, 0, 1), (36, 0, 0, 3), (39, 0, 0, 1), (40, 0, 0, 1), (41, 1854, 502, 3), (44, 0, 0, 3), (47, 0, 0, 3), (50, 0, 0, 1), (51, 0, 0, 3), (54, 0, 0, 1), (55, 1196, 134, 3), (58, 0, 0, 1), (59, 0, 0, 1), (60, 0, 0, 1), (61, 0, 0, 1), (62, 0, 0, 1), (63, 0, 0, 1), (64, 0, 0, 2), (66, 0, 0, 3), (69, 0, 0, 1), (70, 0, 0, 1), (71, 0, 0, 1), (72, 1712, 430, 3), (75, 0, 0, 3), (78, 0, 0, 1), (79, 0, 0, 1), (80, 0, 0, 1), (81, 1859, 499, 3), (84, 0, 0, 1), (85, 1196, 134, 3), (88, 0, 0, 1), (89, 0, 0, 1), (90, 0, 0, 3), (93, 0, 0, 1), (94, 0, 0, 1), (95, 0, 0, 3), (98, 0, 0, 3), (101, 0, 0, 1), (102, 0, 0, 1)]
/-- QuillDeskModel.keeps(I)I -/
def kc_286 : List Instr := [.aload 0, .aload 0, .getfield 2964, .sipush 1, .iadd, .putfield 2964, .aload 0, .getfield 2960, .ifCond .ne 17, .aload 0, .checkcast 2966, .aload 0, .getfield 2964, .sipush 1, .isub, .iaload, .ireturn, .aload 0, .checkcast 2966, .aload 0, .getfield 2964, .sipush 1, .isub, .iload 1, .iastore, .iload 1, .ireturn]
def kr_286 : List (Nat × Nat × Nat × Nat) := [(0, 0, 0, 1), (1, 0, 0, 1), (2, 1199, 505, 3), (5, 0, 0, 1), (6, 0, 0, 1), (7, 1199, 505, 3), (10, 0, 0, 1), (11, 1197, 508, 3), (14, 0, 0, 3), (17, 0, 0, 1), (18, 1200, 137, 3), (21, 0, 0, 1), (22, 1199, 505, 3), (25, 0, 0, 1), (26, 0, 0, 1), (27, 0, 0, 1), (28, 0, 0, 1), (29, 0, 0, 1), (30, 1200, 137, 3), (33, 0, 0, 1), (34, 1199, 505, 3), (37, 0, 0, 1), (38, 0, 0, 1), (39, 0, 0, 1), (40, 0, 0, 1), (41, 0, 0, 1), (42, 0, 0, 1)]
/-- QuillDeskModel.keepsLaw()V -/
def kc_287 : List Instr := [.aload 0, .checkcast 2856, .sipush 0, .aload 0, .aload 0, .checkcast 2856, .sipush 0, .iaload, .invokevirtual 572222, .iastore, .sipush 0, .istore 1, .iload 1, .sipush 16, .if_icmp .ge 57, .aload 0, .checkcast 2858, .iload 1, .aload 0, .aload 0, .checkcast 2858, .iload 1, .iaload, .invokevirtual 572222, .iastore, .aload 0, .checkcast 2860, .iload 1, .aload 0, .aload 0, .checkcast 2860, .iload 1, .iaload, .invokevirtual 572222, .iastore, .aload 0, .checkcast 2862, .iload 1, .aload 0, .aload 0, .checkcast 2862, .iload 1, .iaload, .invokevirtual 572222, .iastore, .aload 0, .checkcast 2864, .iload 1, .aload 0, .aload 0, .checkcast 2864, .iload 1, .iaload, .invokevirtual 572222, .iastore, .iinc 1 1, .goto 12, .sipush 0, .istore 1, .iload 1, .sipush 400, .if_icmp .ge 84, .aload 0, .checkcast 2866, .iload 1, .aload 0, .aload 0, .checkcast 2866, .iload 1, .iaload, .invokevirtual 572222, .iastore, .aload 0, .checkcast 2868, .iload 1, .aload 0, .aload 0, .checkcast 2868, .iload 1, .iaload, .invokevirtual 572222, .iastore, .iinc 1 1, .goto 59, .return_]
def kr_287 : List (Nat × Nat × Nat × Nat) := [(0, 0, 0, 1), (1, 1145, 37, 3), (4, 0, 0, 1), (5, 0, 0, 1), (6, 0, 0, 1), (7, 1145, 37, 3), (10, 0, 0, 1), (11, 0, 0, 1), (12, 1875, 511, 3), (15, 0, 0, 1), (16, 0, 0, 1), (17, 0, 0, 1), (18, 0, 0, 1), (19, 0, 0, 2), (21, 0, 0, 3), (24, 0, 0, 1), (25, 1146, 40, 3), (28, 0, 0, 1), (29, 0, 0, 1), (30, 0, 0, 1), (31, 1146, 40, 3), (34, 0, 0, 1), (35, 0, 0, 1), (36, 1875, 511, 3), (39, 0, 0, 1), (40, 0, 0, 1), (41, 1147, 43, 3), (44, 0, 0, 1), (45, 0, 0, 1), (46, 0, 0, 1), (47, 1147, 43, 3), (50, 0, 0, 1), (51, 0, 0, 1), (52, 1875, 511, 3), (55, 0, 0, 1), (56, 0, 0, 1), (57, 1148, 46, 3), (60, 0, 0, 1), (61, 0, 0, 1), (62, 0, 0, 1), (63, 1148, 46, 3), (66, 0, 0, 1), (67, 0, 0, 1), (68, 1875, 511, 3), (71, 0, 0, 1), (72, 0, 0, 1), (73, 1149, 49, 3), (76, 0, 0, 1), (77, 0, 0, 1), (78, 0, 0, 1), (79, 1149, 49, 3), (82, 0, 0, 1), (83, 0, 0, 1), (84, 1875, 511, 3), (87, 0, 0, 1), (88, 0, 0, 3), (91, 0, 0, 3), (94, 0, 0, 1), (95, 0, 0, 1), (96, 0, 0, 1), (97, 0, 0, 3), (100, 0, 0, 3), (103, 0, 0, 1), (104, 1150, 52, 3), (107, 0, 0, 1), (108, 0, 0, 1), (109, 0, 0, 1), (110, 1150, 52, 3), (113, 0, 0, 1), (114, 0, 0, 1), (115, 1875, 511, 3), (118, 0, 0, 1), (119, 0, 0, 1), (120, 1151, 55, 3), (123, 0, 0, 1), (124, 0, 0, 1), (125, 0, 0, 1), (126, 1151, 55, 3), (129, 0, 0, 1), (130, 0, 0, 1), (131, 1875, 511, 3), (134, 0, 0, 1), (135, 0, 0, 3), (138, 0, 0, 3), (141, 0, 0, 1)]
/-- QuillDeskModel.keepsMany()V -/
def kc_288 : List Instr := [.aload 0, .aload 0, .aload 0, .getfield 2828, .invokevirtual 572222, .putfield 2828, .aload 0, .aload 0, .aload 0, .getfield 2830, .invokevirtual 572222, .putfield 2830, .aload 0, .aload 0, .aload 0, .getfield 2832, .invokevirtual 572222, .putfield 2832, .aload 0, .aload 0, .aload 0, .getfield 2888, .invokevirtual 572222, .putfield 2888, .aload 0, .aload 0, .aload 0, .getfield 2892, .invokevirtual 572222, .putfield 2892, .aload 0, .aload 0, .aload 0, .getfield 2898, .invokevirtual 572222, .putfield 2898, .aload 0, .aload 0, .aload 0, .getfield 2910, .invokevirtual 572222, .putfield 2910, .aload 0, .aload 0, .aload 0, .getfield 2918, .invokevirtual 572222, .putfield 2918, .aload 0, .aload 0, .aload 0, .getfield 2930, .invokevirtual 572222, .putfield 2930, .aload 0, .aload 0, .aload 0, .getfield 2932, .invokevirtual 572222, .putfield 2932, .aload 0, .aload 0, .aload 0, .getfield 2934, .invokevirtual 572222, .putfield 2934, .aload 0, .aload 0, .aload 0, .getfield 2940, .invokevirtual 572222, .putfield 2940, .aload 0, .aload 0, .aload 0, .getfield 2944, .invokevirtual 572222, .putfield 2944, .aload 0, .aload 0, .aload 0, .getfield 2948, .invokevirtual 572222, .putfield 2948, .aload 0, .aload 0, .aload 0, .getfield 2954, .invokevirtual 572222, .putfield 2954, .return_]
def kr_288 : List (Nat × Nat × Nat × Nat) := [(0, 0, 0, 1), (1, 0, 0, 1), (2, 0, 0, 1), (3, 1131, 156, 3), (6, 1875, 511, 3), (9, 1131, 156, 3), (12, 0, 0, 1), (13, 0, 0, 1), (14, 0, 0, 1), (15, 1132, 159, 3), (18, 1875, 511, 3), (21, 1132, 159, 3), (24, 0, 0, 1), (25, 0, 0, 1), (26, 0, 0, 1), (27, 1133, 162, 3), (30, 1875, 511, 3), (33, 1133, 162, 3), (36, 0, 0, 1), (37, 0, 0, 1), (38, 0, 0, 1), (39, 1161, 314, 3), (42, 1875, 511, 3), (45, 1161, 314, 3), (48, 0, 0, 1), (49, 0, 0, 1), (50, 0, 0, 1), (51, 1163, 317, 3), (54, 1875, 511, 3), (57, 1163, 317, 3), (60, 0, 0, 1), (61, 0, 0, 1), (62, 0, 0, 1), (63, 1166, 320, 3), (66, 1875, 511, 3), (69, 1166, 320, 3), (72, 0, 0, 1), (73, 0, 0, 1), (74, 0, 0, 1), (75, 1172, 436, 3), (78, 1875, 511, 3), (81, 1172, 436, 3), (84, 0, 0, 1), (85, 0, 0, 1), (86, 0, 0, 1), (87, 1176, 440, 3), (90, 1875, 511, 3), (93, 1176, 440, 3), (96, 0, 0, 1), (97, 0, 0, 1), (98, 0, 0, 1), (99, 1182, 452, 3), (102, 1875, 511, 3), (105, 1182, 452, 3), (108, 0, 0, 1), (109, 0, 0, 1), (110, 0, 0, 1), (111, 1183, 455, 3), (114, 1875, 511, 3), (117, 1183, 455, 3), (120, 0, 0, 1), (121, 0, 0, 1), (122, 0, 0, 1), (123, 1184, 458, 3), (126, 1875, 511, 3), (129, 1184, 458, 3), (132, 0, 0, 1), (133, 0, 0, 1), (134, 0, 0, 1), (135, 1187, 467, 3), (138, 1875, 511, 3), (141, 1187, 467, 3), (144, 0, 0, 1), (145, 0, 0, 1), (146, 0, 0, 1), (147, 1189, 476, 3), (150, 1875, 511, 3), (153, 1189, 476, 3), (156, 0, 0, 1), (157, 0, 0, 1), (158, 0, 0, 1), (159, 1191, 483, 3), (162, 1875, 511, 3), (165, 1191, 483, 3), (168, 0, 0, 1), (169, 0, 0, 1), (170, 0, 0, 1), (171, 1194, 486, 3), (174, 1875, 511, 3), (177, 1194, 486, 3), (180, 0, 0, 1)]
/-- QuillDeskModel.keepsTold()V -/
def kc_289 : List Instr := [.sipush 0, .istore 1, .iload 1, .sipush 14, .if_icmp .ge 17, .aload 0, .checkcast 2834, .iload 1, .aload 0, .aload 0, .checkcast 2834, .iload 1, .iaload, .invokevirtual 572222, .iastore, .iinc 1 1, .goto 2, .sipush 0, .istore 1, .iload 1, .sipush 10, .if_icmp .ge 54, .aload 0, .checkcast 2836, .iload 1, .aload 0, .aload 0, .checkcast 2836, .iload 1, .iaload, .invokevirtual 572222, .iastore, .aload 0, .checkcast 2912, .iload 1, .aload 0, .aload 0, .checkcast 2912, .iload 1, .iaload, .invokevirtual 572222, .iastore, .aload 0, .checkcast 2946, .iload 1, .aload 0, .aload 0, .checkcast 2946, .iload 1, .iaload, .invokevirtual 572222, .iastore, .iinc 1 1, .goto 19, .sipush 0, .istore 1, .iload 1, .sipush 12, .if_icmp .ge 91, .aload 0, .checkcast 2838, .iload 1, .aload 0, .aload 0, .checkcast 2838, .iload 1, .iaload, .invokevirtual 572222, .iastore, .aload 0, .checkcast 2900, .iload 1, .aload 0, .aload 0, .checkcast 2900, .iload 1, .iaload, .invokevirtual 572222, .iastore, .aload 0, .checkcast 2942, .iload 1, .aload 0, .aload 0, .checkcast 2942, .iload 1, .iaload, .invokevirtual 572222, .iastore, .iinc 1 1, .goto 56, .sipush 0, .istore 1, .iload 1, .sipush 8, .if_icmp .ge 128, .aload 0, .checkcast 2894, .iload 1, .aload 0, .aload 0, .checkcast 2894, .iload 1, .iaload, .invokevirtual 572222, .iastore, .aload 0, .checkcast 2896, .iload 1, .aload 0, .aload 0, .checkcast 2896, .iload 1, .iaload, .invokevirtual 572222, .iastore, .aload 0, .checkcast 2950, .iload 1, .aload 0, .aload 0, .checkcast 2950, .iload 1, .iaload, .invokevirtual 572222, .iastore, .iinc 1 1, .goto 93, .sipush 0, .istore 1, .iload 1, .sipush 64, .if_icmp .ge 145, .aload 0, .checkcast 2890, .iload 1, .aload 0, .aload 0, .checkcast 2890, .iload 1, .iaload, .invokevirtual 572222, .iastore, .iinc 1 1, .goto 130, .sipush 0, .istore 1, .iload 1, .sipush 4, .if_icmp .ge 162, .aload 0, .checkcast 2920, .iload 1, .aload 0, .aload 0, .checkcast 2920, .iload 1, .iaload, .invokevirtual 572222, .iastore, .iinc 1 1, .goto 147, .sipush 0, .istore 1, .iload 1, .sipush 3, .if_icmp .ge 189, .aload 0, .checkcast 2926, .iload 1, .aload 0, .aload 0, .checkcast 2926, .iload 1, .iaload, .invokevirtual 572222, .iastore, .aload 0, .checkcast 2928, .iload 1, .aload 0, .aload 0, .checkcast 2928, .iload 1, .iaload, .invokevirtual 572222, .iastore, .iinc 1 1, .goto 164, .sipush 0, .istore 1, .iload 1, .sipush 6, .if_icmp .ge 206, .aload 0, .checkcast 2956, .iload 1, .aload 0, .aload 0, .checkcast 2956, .iload 1, .iaload, .invokevirtual 572222, .iastore, .iinc 1 1, .goto 191, .return_]
def kr_289 : List (Nat × Nat × Nat × Nat) := [(0, 0, 0, 1), (1, 0, 0, 1), (2, 0, 0, 1), (3, 0, 0, 2), (5, 0, 0, 3), (8, 0, 0, 1), (9, 1134, 19, 3), (12, 0, 0, 1), (13, 0, 0, 1), (14, 0, 0, 1), (15, 1134, 19, 3), (18, 0, 0, 1), (19, 0, 0, 1), (20, 1875, 511, 3), (23, 0, 0, 1), (24, 0, 0, 3), (27, 0, 0, 3), (30, 0, 0, 1), (31, 0, 0, 1), (32, 0, 0, 1), (33, 0, 0, 2), (35, 0, 0, 3), (38, 0, 0, 1), (39, 1135, 22, 3), (42, 0, 0, 1), (43, 0, 0, 1), (44, 0, 0, 1), (45, 1135, 22, 3), (48, 0, 0, 1), (49, 0, 0, 1), (50, 1875, 511, 3), (53, 0, 0, 1), (54, 0, 0, 1), (55, 1173, 89, 3), (58, 0, 0, 1), (59, 0, 0, 1), (60, 0, 0, 1), (61, 1173, 89, 3), (64, 0, 0, 1), (65, 0, 0, 1), (66, 1875, 511, 3), (69, 0, 0, 1), (70, 0, 0, 1), (71, 1190, 122, 3), (74, 0, 0, 1), (75, 0, 0, 1), (76, 0, 0, 1), (77, 1190, 122, 3), (80, 0, 0, 1), (81, 0, 0, 1), (82, 1875, 511, 3), (85, 0, 0, 1), (86, 0, 0, 3), (89, 0, 0, 3), (92, 0, 0, 1), (93, 0, 0, 1), (94, 0, 0, 1), (95, 0, 0, 2), (97, 0, 0, 3), (100, 0, 0, 1), (101, 1136, 25, 3), (104, 0, 0, 1), (105, 0, 0, 1), (106, 0, 0, 1), (107, 1136, 25, 3), (110, 0, 0, 1), (111, 0, 0, 1), (112, 1875, 511, 3), (115, 0, 0, 1), (116, 0, 0, 1), (117, 1167, 74, 3), (120, 0, 0, 1), (121, 0, 0, 1), (122, 0, 0, 1), (123, 1167, 74, 3), (126, 0, 0, 1), (127, 0, 0, 1), (128, 1875, 511, 3), (131, 0, 0, 1), (132, 0, 0, 1), (133, 1188, 119, 3), (136, 0, 0, 1), (137, 0, 0, 1), (138, 0, 0, 1), (139, 1188, 119, 3), (142, 0, 0, 1), (143, 0, 0, 1), (144, 1875, 511, 3), (147, 0, 0, 1), (148, 0, 0, 3), (151, 0, 0, 3), (154, 0, 0, 1), (155, 0, 0, 1), (156, 0, 0, 1), (157, 0, 0, 2), (159, 0, 0, 3), (162, 0, 0, 1), (163, 1164, 68, 3), (166, 0, 0, 1), (167, 0, 0, 1), (168, 0, 0, 1), (169, 1164, 68, 3), (172, 0, 0, 1), (173, 0, 0, 1), (174, 1875, 511, 3), (177, 0, 0, 1), (178, 0, 0, 1), (179, 1165, 71, 3), (182, 0, 0, 1), (183, 0, 0, 1), (184, 0, 0, 1), (185, 1165, 71, 3), (188, 0, 0, 1), (189, 0, 0, 1), (190, 1875, 511, 3), (193, 0, 0, 1), (194, 0, 0, 1), (195, 1192, 125, 3), (198, 0, 0, 1), (199, 0, 0, 1), (200, 0, 0, 1), (201, 1192, 125, 3), (204, 0, 0, 1), (205, 0, 0, 1), (206, 1875, 511, 3), (209, 0, 0, 1), (210, 0, 0, 3), (213, 0, 0, 3), (216, 0, 0, 1), (217, 0, 0, 1), (218, 0, 0, 1), (219, 0, 0, 2), (221, 0, 0, 3), (224, 0, 0, 1), (225, 1162, 65, 3), (228, 0, 0, 1), (229, 0, 0, 1), (230, 0, 0, 1), (231, 1162, 65, 3), (234, 0, 0, 1), (235, 0, 0, 1), (236, 1875, 511, 3), (239, 0, 0, 1), (240, 0, 0, 3), (243, 0, 0, 3), (246, 0, 0, 1), (247, 0, 0, 1), (248, 0, 0, 1), (249, 0, 0, 1), (250, 0, 0, 3), (253, 0, 0, 1), (254, 1177, 98, 3), (257, 0, 0, 1), (258, 0, 0, 1), (259, 0, 0, 1), (260, 1177, 98, 3), (263, 0, 0, 1), (264, 0, 0, 1), (265, 1875, 511, 3), (268, 0, 0, 1), (269, 0, 0, 3), (272, 0, 0, 3), (275, 0, 0, 1), (276, 0, 0, 1), (277, 0, 0, 1), (278, 0, 0, 1), (279, 0, 0, 3), (282, 0, 0, 1), (283, 1180, 107, 3), (286, 0, 0, 1), (287, 0, 0, 1), (288, 0, 0, 1), (289, 1180, 107, 3), (292, 0, 0, 1), (293, 0, 0, 1), (294, 1875, 511, 3), (297, 0, 0, 1), (298, 0, 0, 1), (299, 1181, 110, 3), (302, 0, 0, 1), (303, 0, 0, 1), (304, 0, 0, 1), (305, 1181, 110, 3), (308, 0, 0, 1), (309, 0, 0, 1), (310, 1875, 511, 3), (313, 0, 0, 1), (314, 0, 0, 3), (317, 0, 0, 3), (320, 0, 0, 1), (321, 0, 0, 1), (322, 0, 0, 1), (323, 0, 0, 2), (325, 0, 0, 3), (328, 0, 0, 1), (329, 1195, 131, 3), (332, 0, 0, 1), (333, 0, 0, 1), (334, 0, 0, 1), (335, 1195, 131, 3), (338, 0, 0, 1), (339, 0, 0, 1), (340, 1875, 511, 3), (343, 0, 0, 1), (344, 0, 0, 3), (347, 0, 0, 3), (350, 0, 0, 1)]
/-- QuillDeskModel.image(Z)Z -/
def kc_290 : List Instr := [.aload 0, .sipush 0, .putfield 2816, .iload 1, .ifCond .ne 10, .aload 0, .getfield 2962, .ifCond .ne 10, .sipush 0, .ireturn, .aload 0, .iload 1, .putfield 2961, .aload 0, .sipush 1, .putfield 2963, .aload 0, .sipush 0, .putfield 2964, .sipush 0, .istore 2, .iload 2, .sipush 110, .if_icmp .ge 36, .aload 0, .checkcast 2818, .iload 2, .aload 0, .aload 0, .checkcast 2818, .iload 2, .iaload, .invokevirtual 572222, .iastore, .iinc 2 1, .goto 21, .aload 0, .invokevirtual 576221, .aload 0, .invokevirtual 578221, .sipush 0, .istore 2, .iload 2, .sipush 600, .if_icmp .ge 57, .aload 0, .checkcast 2840, .iload 2, .aload 0, .aload 0, .checkcast 2840, .iload 2, .iaload, .invokevirtual 572222, .iastore, .iinc 2 1, .goto 42, .aload 0, .invokevirtual 574221, .iload 1, .ifCond .ne 64, .aload 0, .sipush 0, .putfield 2822, .sipush 1, .ireturn]
def kr_290 : List (Nat × Nat × Nat × Nat) := [(0, 0, 0, 1), (1, 0, 0, 1), (2, 1125, 140, 3), (5, 0, 0, 1), (6, 0, 0, 3), (9, 0, 0, 1), (10, 1198, 514, 3), (13, 0, 0, 3), (16, 0, 0, 1), (17, 0, 0, 1), (18, 0, 0, 1), (19, 0, 0, 1), (20, 1197, 508, 3), (23, 0, 0, 1), (24, 0, 0, 1), (25, 1198, 514, 3), (28, 0, 0, 1), (29, 0, 0, 1), (30, 1199, 505, 3), (33, 0, 0, 1), (34, 0, 0, 1), (35, 0, 0, 1), (36, 0, 0, 2), (38, 0, 0, 3), (41, 0, 0, 1), (42, 1126, 7, 3), (45, 0, 0, 1), (46, 0, 0, 1), (47, 0, 0, 1), (48, 1126, 7, 3), (51, 0, 0, 1), (52, 0, 0, 1), (53, 1875, 511, 3), (56, 0, 0, 1), (57, 0, 0, 3), (60, 0, 0, 3), (63, 0, 0, 1), (64, 1879, 517, 3), (67, 0, 0, 1), (68, 1883, 520, 3), (71, 0, 0, 1), (72, 0, 0, 1), (73, 0, 0, 1), (74, 0, 0, 3), (77, 0, 0, 3), (80, 0, 0, 1), (81, 1137, 28, 3), (84, 0, 0, 1), (85, 0, 0, 1), (86, 0, 0, 1), (87, 1137, 28, 3), (90, 0, 0, 1), (91, 0, 0, 1), (92, 1875, 511, 3), (95, 0, 0, 1), (96, 0, 0, 3), (99, 0, 0, 3), (102, 0, 0, 1), (103, 1887, 523, 3), (106, 0, 0, 1), (107, 0, 0, 3), (110, 0, 0, 1), (111, 0, 0, 1), (112, 1128, 147, 3), (115, 0, 0, 1), (116, 0, 0, 1)]
/-- QuillDeskModel.look(I)I -/
def kc_291 : List Instr := [.aload 0, .sipush 0, .putfield 2816, .iload 1, .ifCond .ne 8, .aload 0, .getfield 2828, .ireturn, .iload 1, .sipush 1, .if_icmp .ne 14, .aload 0, .getfield 2830, .ireturn, .iload 1, .sipush 2, .if_icmp .ne 20, .aload 0, .getfield 2832, .ireturn, .iload 1, .sipush 3, .if_icmp .ne 28, .aload 0, .checkcast 2818, .sipush 3, .iaload, .ireturn, .iload 1, .sipush 4, .if_icmp .ne 34, .aload 0, .invokevirtual 360220, .ireturn, .iload 1, .sipush 5, .if_icmp .ne 42, .aload 0, .checkcast 2818, .sipush 0, .iaload, .ireturn, .iload 1, .sipush 6, .if_icmp .ne 50, .aload 0, .checkcast 2818, .sipush 2, .iaload, .ireturn, .iload 1, .sipush 7, .if_icmp .ne 58, .aload 0, .checkcast 2818, .sipush 1, .iaload, .ireturn, .iload 1, .sipush 8, .if_icmp .ne 66, .aload 0, .checkcast 2856, .sipush 0, .iaload, .ireturn, .iload 1, .sipush 9, .if_icmp .ne 72, .aload 0, .getfield 2888, .ireturn, .iload 1, .sipush 10, .if_icmp .ne 78, .aload 0, .getfield 2892, .ireturn, .iload 1, .sipush 11, .if_icmp .ne 84, .aload 0, .getfield 2898, .ireturn, .iload 1, .sipush 12, .if_icmp .ne 90, .aload 0, .getfield 2822, .goto 91, .sipush (-100000), .ireturn]
def kr_291 : List (Nat × Nat × Nat × Nat) := [(0, 0, 0, 1), (1, 0, 0, 1), (2, 1125, 140, 3), (5, 0, 0, 1), (6, 0, 0, 3), (9, 0, 0, 1), (10, 1131, 156, 3), (13, 0, 0, 1), (14, 0, 0, 1), (15, 0, 0, 1), (16, 0, 0, 3), (19, 0, 0, 1), (20, 1132, 159, 3), (23, 0, 0, 1), (24, 0, 0, 1), (25, 0, 0, 1), (26, 0, 0, 3), (29, 0, 0, 1), (30, 1133, 162, 3), (33, 0, 0, 1), (34, 0, 0, 1), (35, 0, 0, 1), (36, 0, 0, 3), (39, 0, 0, 1), (40, 1126, 7, 3), (43, 0, 0, 1), (44, 0, 0, 1), (45, 0, 0, 1), (46, 0, 0, 1), (47, 0, 0, 1), (48, 0, 0, 3), (51, 0, 0, 1), (52, 1594, 172, 3), (55, 0, 0, 1), (56, 0, 0, 1), (57, 0, 0, 1), (58, 0, 0, 3), (61, 0, 0, 1), (62, 1126, 7, 3), (65, 0, 0, 1), (66, 0, 0, 1), (67, 0, 0, 1), (68, 0, 0, 1), (69, 0, 0, 2), (71, 0, 0, 3), (74, 0, 0, 1), (75, 1126, 7, 3), (78, 0, 0, 1), (79, 0, 0, 1), (80, 0, 0, 1), (81, 0, 0, 1), (82, 0, 0, 2), (84, 0, 0, 3), (87, 0, 0, 1), (88, 1126, 7, 3), (91, 0, 0, 1), (92, 0, 0, 1), (93, 0, 0, 1), (94, 0, 0, 1), (95, 0, 0, 2), (97, 0, 0, 3), (100, 0, 0, 1), (101, 1145, 37, 3), (104, 0, 0, 1), (105, 0, 0, 1), (106, 0, 0, 1), (107, 0, 0, 1), (108, 0, 0, 2), (110, 0, 0, 3), (113, 0, 0, 1), (114, 1161, 314, 3), (117, 0, 0, 1), (118, 0, 0, 1), (119, 0, 0, 2), (121, 0, 0, 3), (124, 0, 0, 1), (125, 1163, 317, 3), (128, 0, 0, 1), (129, 0, 0, 1), (130, 0, 0, 2), (132, 0, 0, 3), (135, 0, 0, 1), (136, 1166, 320, 3), (139, 0, 0, 1), (140, 0, 0, 1), (141, 0, 0, 2), (143, 0, 0, 3), (146, 0, 0, 1), (147, 1128, 147, 3), (150, 0, 0, 3), (153, 1895, 526, 3), (156, 0, 0, 1)]
/-- java/lang/Integer.bitCount(I)I -/
def kc_292 : List Instr := [.iload 0, .iload 0, .sipush 1, .iushr, .sipush 1431655765, .iand, .isub, .istore 0, .iload 0, .sipush 858993459, .iand, .iload 0, .sipush 2, .iushr, .sipush 858993459, .iand, .iadd, .istore 0, .iload 0, .iload 0, .sipush 4, .iushr, .iadd, .sipush 252645135, .iand, .istore 0, .iload 0, .iload 0, .sipush 8, .iushr, .iadd, .istore 0, .iload 0, .iload 0, .sipush 16, .iushr, .iadd, .istore 0, .iload 0, .sipush 63, .iand, .ireturn]
def kr_292 : List (Nat × Nat × Nat × Nat) := [(0, 0, 0, 1), (1, 0, 0, 1), (2, 0, 0, 1), (3, 0, 0, 1), (4, 843, 265, 3), (7, 0, 0, 1), (8, 0, 0, 1), (9, 0, 0, 1), (10, 0, 0, 1), (11, 844, 266, 3), (14, 0, 0, 1), (15, 0, 0, 1), (16, 0, 0, 1), (17, 0, 0, 1), (18, 844, 266, 3), (21, 0, 0, 1), (22, 0, 0, 1), (23, 0, 0, 1), (24, 0, 0, 1), (25, 0, 0, 1), (26, 0, 0, 1), (27, 0, 0, 1), (28, 0, 0, 1), (29, 845, 267, 3), (32, 0, 0, 1), (33, 0, 0, 1), (34, 0, 0, 1), (35, 0, 0, 1), (36, 0, 0, 2), (38, 0, 0, 1), (39, 0, 0, 1), (40, 0, 0, 1), (41, 0, 0, 1), (42, 0, 0, 1), (43, 0, 0, 2), (45, 0, 0, 1), (46, 0, 0, 1), (47, 0, 0, 1), (48, 0, 0, 1), (49, 0, 0, 2), (51, 0, 0, 1), (52, 0, 0, 1)]
/-- java/lang/Math.floorMod(II)I -/
def kc_293 : List Instr := [.iload 0, .iload 1, .irem, .istore 2, .iload 0, .iload 1, .ixor, .ifCond .ge 14, .iload 2, .ifCond .eq 14, .iload 2, .iload 1, .iadd, .ireturn, .iload 2, .ireturn]
def kr_293 : List (Nat × Nat × Nat × Nat) := [(0, 0, 0, 1), (1, 0, 0, 1), (2, 0, 0, 1), (3, 0, 0, 1), (4, 0, 0, 1), (5, 0, 0, 1), (6, 0, 0, 1), (7, 0, 0, 3), (10, 0, 0, 1), (11, 0, 0, 3), (14, 0, 0, 1), (15, 0, 0, 1), (16, 0, 0, 1), (17, 0, 0, 1), (18, 0, 0, 1), (19, 0, 0, 1)]
/-- java/lang/Math.abs(I)I -/
def kc_294 : List Instr := [.iload 0, .ifCond .ge 5, .iload 0, .ineg, .goto 6, .iload 0, .ireturn]
def kr_294 : List (Nat × Nat × Nat × Nat) := [(0, 0, 0, 1), (1, 0, 0, 3), (4, 0, 0, 1), (5, 0, 0, 1), (6, 0, 0, 3), (9, 0, 0, 1), (10, 0, 0, 1)]
/-- java/lang/Math.max(II)I -/
def kc_295 : List Instr := [.iload 0, .iload 1, .if_icmp .lt 5, .iload 0, .goto 6, .iload 1, .ireturn]
def kr_295 : List (Nat × Nat × Nat × Nat) := [(0, 0, 0, 1), (1, 0, 0, 1), (2, 0, 0, 3), (5, 0, 0, 1), (6, 0, 0, 3), (9, 0, 0, 1), (10, 0, 0, 1)]
/-- java/lang/Math.min(II)I -/
def kc_296 : List Instr := [.iload 0, .iload 1, .if_icmp .gt 5, .iload 0, .goto 6, .iload 1, .ireturn]
def kr_296 : List (Nat × Nat × Nat × Nat) := [(0, 0, 0, 1), (1, 0, 0, 1), (2, 0, 0, 3), (5, 0, 0, 1), (6, 0, 0, 3), (9, 0, 0, 1), (10, 0, 0, 1)]
/-- java/lang/String.length()I -/
def kc_297 : List Instr := [.aload 0, .ldc_w 0, .arraylength, .aload 0, .invokevirtual 599980, .ishr, .ireturn]
def kr_297 : List (Nat × Nat × Nat × Nat) := [(0, 0, 0, 1), (1, 1896, 9, 3), (4, 0, 0, 1), (5, 0, 0, 1), (6, 660, 335, 3), (9, 0, 0, 1), (10, 0, 0, 1)]
/-- java/lang/String.charAt(I)C -/
def kc_298 : List Instr := [.aload 0, .invokevirtual 601980, .ifCond .eq 8, .aload 0, .ldc_w 0, .iload 1, .invokestatic 605964, .ireturn, .aload 0, .ldc_w 0, .iload 1, .nop, .ireturn]
def kr_298 : List (Nat × Nat × Nat × Nat) := [(0, 0, 0, 1), (1, 670, 492, 3), (4, 0, 0, 3), (7, 0, 0, 1), (8, 1896, 9, 3), (11, 0, 0, 1), (12, 674, 495, 3), (15, 0, 0, 1), (16, 0, 0, 1), (17, 1896, 9, 3), (20, 0, 0, 1), (21, 685, 498, 3), (24, 0, 0, 1)]
/-- java/lang/String.coder()B -/
def kc_299 : List Instr := [.getstatic 0, .ifCond .eq 5, .aload 0, .ldc_w 1, .goto 6, .sipush 1, .ireturn]
def kr_299 : List (Nat × Nat × Nat × Nat) := [(0, 664, 38, 3), (3, 0, 0, 3), (6, 0, 0, 1), (7, 1897, 15, 3), (10, 0, 0, 3), (13, 0, 0, 1), (14, 0, 0, 1)]
/-- java/lang/String.isLatin1()Z -/
def kc_300 : List Instr := [.getstatic 0, .ifCond .eq 7, .aload 0, .ldc_w 1, .ifCond .ne 7, .sipush 1, .goto 8, .sipush 0, .ireturn]
def kr_300 : List (Nat × Nat × Nat × Nat) := [(0, 664, 38, 3), (3, 0, 0, 3), (6, 0, 0, 1), (7, 1897, 15, 3), (10, 0, 0, 3), (13, 0, 0, 1), (14, 0, 0, 3), (17, 0, 0, 1), (18, 0, 0, 1)]
/-- java/lang/String.checkIndex(II)V -/
def kc_301 : List Instr := [.iload 0, .iload 1, .getstatic 2, .invokestatic 607966, .pop, .return_]
def kr_301 : List (Nat × Nat × Nat × Nat) := [(0, 0, 0, 1), (1, 0, 0, 1), (2, 680, 1053, 3), (5, 682, 1059, 3), (8, 0, 0, 1), (9, 0, 0, 1)]
/-- java/lang/StringLatin1.charAt([BI)C -/
def kc_302 : List Instr := [.iload 1, .aload 0, .arraylength, .invokestatic 603985, .aload 0, .iload 1, .baload, .sipush 255, .iand, .i2c, .ireturn]
def kr_302 : List (Nat × Nat × Nat × Nat) := [(0, 0, 0, 1), (1, 0, 0, 1), (2, 0, 0, 1), (3, 677, 9, 3), (6, 0, 0, 1), (7, 0, 0, 1), (8, 0, 0, 1), (9, 0, 0, 3), (12, 0, 0, 1), (13, 0, 0, 1), (14, 0, 0, 1)]
/-- jdk/internal/util/Preconditions.checkIndex(IILjava/util/function/BiFunction;)I -/
def kc_303 : List Instr := [.iload 0, .ifCond .lt 5, .iload 0, .iload 1, .if_icmp .lt 10, .aload 2, .iload 0, .iload 1, .nop, .nop, .iload 0, .ireturn]
def kr_303 : List (Nat × Nat × Nat × Nat) := [(0, 0, 0, 1), (1, 0, 0, 3), (4, 0, 0, 1), (5, 0, 0, 1), (6, 0, 0, 3), (9, 0, 0, 1), (10, 0, 0, 1), (11, 0, 0, 1), (12, 0, 95, 3), (15, 0, 0, 1), (16, 0, 0, 1), (17, 0, 0, 1)]
/-- QuillDeskLaw.law([I)Z -/
def kc_304 : List Instr := [.new 10, .dup, .invokespecial 222201, .astore 1, .new 11, .dup, .invokespecial 314221, .astore 2, .sipush 0, .istore 3, .iload 3, .aload 0, .arraylength, .sipush 6, .isub, .if_icmp .gt 1080, .aload 0, .iload 3, .iaload, .sipush 63, .iand, .tableswitch 1078 0 43 #[22, 39, 66, 83, 100, 137, 174, 191, 248, 265, 282, 299, 326, 353, 380, 407, 434, 451, 478, 505, 522, 549, 566, 583, 610, 637, 674, 711, 748, 765, 782, 809, 826, 843, 860, 877, 914, 931, 958, 975, 1002, 1029, 1036, 1061], .aload 1, .aload 0, .iload 3, .sipush 1, .iadd, .iaload, .invokevirtual 224202, .aload 2, .aload 0, .iload 3, .sipush 1, .iadd, .iaload, .invokevirtual 340222, .if_icmp .eq 1078, .sipush 0, .ireturn, .aload 1, .aload 0, .iload 3, .sipush 1, .iadd, .iaload, .aload 0, .iload 3, .sipush 2, .iadd, .iaload, .invokevirtual 226204, .aload 2, .aload 0, .iload 3, .sipush 1, .iadd, .iaload, .aload 0, .iload 3, .sipush 2, .iadd, .iaload, .invokevirtual 364224, .if_icmp .eq 1078, .sipush 0, .ireturn, .aload 1, .aload 0, .iload 3, .sipush 1, .iadd, .iaload, .invokevirtual 228202, .aload 2, .aload 0, .iload 3, .sipush 1, .iadd, .iaload, .invokevirtual 366222, .if_icmp .eq 1078, .sipush 0, .ireturn, .aload 1, .aload 0, .iload 3, .sipush 1, .iadd, .iaload, .invokevirtual 230202, .aload 2, .aload 0, .iload 3, .sipush 1, .iadd, .iaload, .invokevirtual 368222, .if_icmp .eq 1078, .sipush 0, .ireturn, .aload 1, .aload 0, .iload 3, .sipush 1, .iadd, .iaload, .aload 0, .iload 3, .sipush 2, .iadd, .iaload, .aload 0, .iload 3, .sipush 3, .iadd, .iaload, .invokevirtual 232206, .aload 2, .aload 0, .iload 3, .sipush 1, .iadd, .iaload, .aload 0, .iload 3, .sipush 2, .iadd, .iaload, .aload 0, .iload 3, .sipush 3, .iadd, .iaload, .invokevirtual 370226, .if_icmp .eq 1078, .sipush 0, .ireturn, .aload 1, .aload 0, .iload 3, .sipush 1, .iadd, .iaload, .aload 0, .iload 3, .sipush 2, .iadd, .iaload, .aload 0, .iload 3, .sipush 3, .iadd, .iaload, .invokevirtual 234206, .aload 2, .aload 0, .iload 3, .sipush 1, .iadd, .iaload, .aload 0, .iload 3, .sipush 2, .iadd, .iaload, .aload 0, .iload 3, .sipush 3, .iadd, .iaload, .invokevirtual 470226, .if_icmp .eq 1078, .sipush 0, .ireturn, .aload 1, .aload 0, .iload 3, .sipush 1, .iadd, .iaload, .invokevirtual 236202, .aload 2, .aload 0, .iload 3, .sipush 1, .iadd, .iaload, .invokevirtual 484222, .if_icmp .eq 1078, .sipush 0, .ireturn, .aload 1, .aload 0, .iload 3, .sipush 1, .iadd, .iaload, .aload 0, .iload 3, .sipush 2, .iadd, .iaload, .aload 0, .iload 3, .sipush 3, .iadd, .iaload, .aload 0, .iload 3, .sipush 4, .iadd, .iaload, .aload 0, .iload 3, .sipush 5, .iadd, .iaload, .invokevirtual 238210, .aload 2, .aload 0, .iload 3, .sipush 1, .iadd, .iaload, .aload 0, .iload 3, .sipush 2, .iadd, .iaload, .aload 0, .iload 3, .sipush 3, .iadd, .iaload, .aload 0, .iload 3, .sipush 4, .iadd, .iaload, .aload 0, .iload 3, .sipush 5, .iadd, .iaload, .invokevirtual 374230, .if_icmp .eq 1078, .sipush 0, .ireturn, .aload 1, .aload 0, .iload 3, .sipush 1, .iadd, .iaload, .invokevirtual 240202, .aload 2, .aload 0, .iload 3, .sipush 1, .iadd, .iaload, .invokevirtual 376222, .if_icmp .eq 1078, .sipush 0, .ireturn, .aload 1, .aload 0, .iload 3, .sipush 1, .iadd, .iaload, .invokevirtual 242202, .aload 2, .aload 0, .iload 3, .sipush 1, .iadd, .iaload, .invokevirtual 442222, .if_icmp .eq 1078, .sipush 0, .ireturn, .aload 1, .aload 0, .iload 3, .sipush 1, .iadd, .iaload, .invokevirtual 244202, .aload 2, .aload 0, .iload 3, .sipush 1, .iadd, .iaload, .invokevirtual 444222, .if_icmp .eq 1078, .sipush 0, .ireturn, .aload 1, .aload 0, .iload 3, .sipush 1, .iadd, .iaload, .aload 0, .iload 3, .sipush 2, .iadd, .iaload, .invokevirtual 246204, .aload 2, .aload 0, .iload 3, .sipush 1, .iadd, .iaload, .aload 0, .iload 3, .sipush 2, .iadd, .iaload, .invokevirtual 486224, .if_icmp .eq 1078, .sipush 0, .ireturn, .aload 1, .aload 0, .iload 3, .sipush 1, .iadd, .iaload, .aload 0, .iload 3, .sipush 2, .iadd, .iaload, .invokevirtual 248204, .aload 2, .aload 0, .iload 3, .sipush 1, .iadd, .iaload, .aload 0, .iload 3, .sipush 2, .iadd, .iaload, .invokevirtual 488224, .if_icmp .eq 1078, .sipush 0, .ireturn, .aload 1, .aload 0, .iload 3, .sipush 1, .iadd, .iaload, .aload 0, .iload 3, .sipush 2, .iadd, .iaload, .invokevirtual 250204, .aload 2, .aload 0, .iload 3, .sipush 1, .iadd, .iaload, .aload 0, .iload 3, .sipush 2, .iadd, .iaload, .invokevirtual 490224, .if_icmp .eq 1078, .sipush 0, .ireturn, .aload 1, .aload 0, .iload 3, .sipush 1, .iadd, .iaload, .aload 0, .iload 3, .sipush 2, .iadd, .iaload, .invokevirtual 252204, .aload 2, .aload 0, .iload 3, .sipush 1, .iadd, .iaload, .aload 0, .iload 3, .sipush 2, .iadd, .iaload, .invokevirtual 492224, .if_icmp .eq 1078, .sipush 0, .ireturn, .aload 1, .aload 0, .iload 3, .sipush 1, .iadd, .iaload, .aload 0, .iload 3, .sipush 2, .iadd, .iaload, .invokevirtual 254204, .aload 2, .aload 0, .iload 3, .sipush 1, .iadd, .iaload, .aload 0, .iload 3, .sipush 2, .iadd, .iaload, .invokevirtual 496224, .if_icmp .eq 1078, .sipush 0, .ireturn, .aload 1, .aload 0, .iload 3, .sipush 1, .iadd, .iaload, .invokevirtual 256202, .aload 2, .aload 0, .iload 3, .sipush 1, .iadd, .iaload, .invokevirtual 498222, .if_icmp .eq 1078, .sipush 0, .ireturn, .aload 1, .aload 0, .iload 3, .sipush 1, .iadd, .iaload, .aload 0, .iload 3, .sipush 2, .iadd, .iaload, .invokevirtual 258204, .aload 2, .aload 0, .iload 3, .sipush 1, .iadd, .iaload, .aload 0, .iload 3, .sipush 2, .iadd, .iaload, .invokevirtual 500224, .if_icmp .eq 1078, .sipush 0, .ireturn, .aload 1, .aload 0, .iload 3, .sipush 1, .iadd, .iaload, .aload 0, .iload 3, .sipush 2, .iadd, .iaload, .invokevirtual 260204, .aload 2, .aload 0, .iload 3, .sipush 1, .iadd, .iaload, .aload 0, .iload 3, .sipush 2, .iadd, .iaload, .invokevirtual 502224, .if_icmp .eq 1078, .sipush 0, .ireturn, .aload 1, .aload 0, .iload 3, .sipush 1, .iadd, .iaload, .invokevirtual 262202, .aload 2, .aload 0, .iload 3, .sipush 1, .iadd, .iaload, .invokevirtual 504222, .if_icmp .eq 1078, .sipush 0, .ireturn, .aload 1, .aload 0, .iload 3, .sipush 1, .iadd, .iaload, .aload 0, .iload 3, .sipush 2, .iadd, .iaload, .invokevirtual 264204, .aload 2, .aload 0, .iload 3, .sipush 1, .iadd, .iaload, .aload 0, .iload 3, .sipush 2, .iadd, .iaload, .invokevirtual 506224, .if_icmp .eq 1078, .sipush 0, .ireturn, .aload 1, .aload 0, .iload 3, .sipush 1, .iadd, .iaload, .invokevirtual 266202, .aload 2, .aload 0, .iload 3, .sipush 1, .iadd, .iaload, .invokevirtual 508222, .if_icmp .eq 1078, .sipush 0, .ireturn, .aload 1, .aload 0, .iload 3, .sipush 1, .iadd, .iaload, .invokevirtual 268202, .aload 2, .aload 0, .iload 3, .sipush 1, .iadd, .iaload, .invokevirtual 510222, .if_icmp .eq 1078, .sipush 0, .ireturn, .aload 1, .aload 0, .iload 3, .sipush 1, .iadd, .iaload, .aload 0, .iload 3, .sipush 2, .iadd, .iaload, .invokevirtual 270204, .aload 2, .aload 0, .iload 3, .sipush 1, .iadd, .iaload, .aload 0, .iload 3, .sipush 2, .iadd, .iaload, .invokevirtual 512224, .if_icmp .eq 1078, .sipush 0, .ireturn, .aload 1, .aload 0, .iload 3, .sipush 1, .iadd, .iaload, .aload 0, .iload 3, .sipush 2, .iadd, .iaload, .invokevirtual 272204, .aload 2, .aload 0, .iload 3, .sipush 1, .iadd, .iaload, .aload 0, .iload 3, .sipush 2, .iadd, .iaload, .invokevirtual 514224, .if_icmp .eq 1078, .sipush 0, .ireturn, .aload 1, .aload 0, .iload 3, .sipush 1, .iadd, .iaload, .aload 0, .iload 3, .sipush 2, .iadd, .iaload, .aload 0, .iload 3, .sipush 3, .iadd, .iaload, .invokevirtual 274206, .aload 2, .aload 0, .iload 3, .sipush 1, .iadd, .iaload, .aload 0, .iload 3, .sipush 2, .iadd, .iaload, .aload 0, .iload 3, .sipush 3, .iadd, .iaload, .invokevirtual 518226, .if_icmp .eq 1078, .sipush 0, .ireturn, .aload 1, .aload 0, .iload 3, .sipush 1, .iadd, .iaload, .aload 0, .iload 3, .sipush 2, .iadd, .iaload, .aload 0, .iload 3, .sipush 3, .iadd, .iaload, .invokevirtual 276206, .aload 2, .aload 0, .iload 3, .sipush 1, .iadd, .iaload, .aload 0, .iload 3, .sipush 2, .iadd, .iaload, .aload 0, .iload 3, .sipush 3, .iadd, .iaload, .invokevirtual 520226, .if_icmp .eq 1078, .sipush 0, .ireturn, .aload 1, .aload 0, .iload 3, .sipush 1, .iadd, .iaload, .aload 0, .iload 3, .sipush 2, .iadd, .iaload, .aload 0, .iload 3, .sipush 3, .iadd, .iaload, .invokevirtual 278206, .aload 2, .aload 0, .iload 3, .sipush 1, .iadd, .iaload, .aload 0, .iload 3, .sipush 2, .iadd, .iaload, .aload 0, .iload 3, .sipush 3, .iadd, .iaload, .invokevirtual 522226, .if_icmp .eq 1078, .sipush 0, .ireturn, .aload 1, .aload 0, .iload 3, .sipush 1, .iadd, .iaload, .invokevirtual 280202, .aload 2, .aload 0, .iload 3, .sipush 1, .iadd, .iaload, .invokevirtual 526222, .if_icmp .eq 1078, .sipush 0, .ireturn, .aload 1, .aload 0, .iload 3, .sipush 1, .iadd, .iaload, .invokevirtual 282202, .aload 2, .aload 0, .iload 3, .sipush 1, .iadd, .iaload, .invokevirtual 530222, .if_icmp .eq 1078, .sipush 0, .ireturn, .aload 1, .aload 0, .iload 3, .sipush 1, .iadd, .iaload, .aload 0, .iload 3, .sipush 2, .iadd, .iaload, .invokevirtual 284204, .aload 2, .aload 0, .iload 3, .sipush 1, .iadd, .iaload, .aload 0, .iload 3, .sipush 2, .iadd, .iaload, .invokevirtual 534224, .if_icmp .eq 1078, .sipush 0, .ireturn, .aload 1, .aload 0, .iload 3, .sipush 1, .iadd, .iaload, .invokevirtual 286202, .aload 2, .aload 0, .iload 3, .sipush 1, .iadd, .iaload, .invokevirtual 536222, .if_icmp .eq 1078, .sipush 0, .ireturn, .aload 1, .aload 0, .iload 3, .sipush 1, .iadd, .iaload, .invokevirtual 288202, .aload 2, .aload 0, .iload 3, .sipush 1, .iadd, .iaload, .invokevirtual 542222, .if_icmp .eq 1078, .sipush 0, .ireturn, .aload 1, .aload 0, .iload 3, .sipush 1, .iadd, .iaload, .invokevirtual 290202, .aload 2, .aload 0, .iload 3, .sipush 1, .iadd, .iaload, .invokevirtual 544222, .if_icmp .eq 1078, .sipush 0, .ireturn, .aload 1, .aload 0, .iload 3, .sipush 1, .iadd, .iaload, .invokevirtual 292202, .aload 2, .aload 0, .iload 3, .sipush 1, .iadd, .iaload, .invokevirtual 546222, .if_icmp .eq 1078, .sipush 0, .ireturn, .aload 1, .aload 0, .iload 3, .sipush 1, .iadd, .iaload, .aload 0, .iload 3, .sipush 2, .iadd, .iaload, .aload 0, .iload 3, .sipush 3, .iadd, .iaload, .invokevirtual 294206, .aload 2, .aload 0, .iload 3, .sipush 1, .iadd, .iaload, .aload 0, .iload 3, .sipush 2, .iadd, .iaload, .aload 0, .iload 3, .sipush 3, .iadd, .iaload, .invokevirtual 550226, .if_icmp .eq 1078, .sipush 0, .ireturn, .aload 1, .aload 0, .iload 3, .sipush 1, .iadd, .iaload, .invokevirtual 296202, .aload 2, .aload 0, .iload 3, .sipush 1, .iadd, .iaload, .invokevirtual 552222, .if_icmp .eq 1078, .sipush 0, .ireturn, .aload 1, .aload 0, .iload 3, .sipush 1, .iadd, .iaload, .aload 0, .iload 3, .sipush 2, .iadd, .iaload, .invokevirtual 298204, .aload 2, .aload 0, .iload 3, .sipush 1, .iadd, .iaload, .aload 0, .iload 3, .sipush 2, .iadd, .iaload, .invokevirtual 554224, .if_icmp .eq 1078, .sipush 0, .ireturn, .aload 1, .aload 0, .iload 3, .sipush 1, .iadd, .iaload, .invokevirtual 300202, .aload 2, .aload 0, .iload 3, .sipush 1, .iadd, .iaload, .invokevirtual 556222, .if_icmp .eq 1078, .sipush 0, .ireturn, .aload 1, .aload 0, .iload 3, .sipush 1, .iadd, .iaload, .aload 0, .iload 3, .sipush 2, .iadd, .iaload, .invokevirtual 302204, .aload 2, .aload 0, .iload 3, .sipush 1, .iadd, .iaload, .aload 0, .iload 3, .sipush 2, .iadd, .iaload, .invokevirtual 560224, .if_icmp .eq 1078, .sipush 0, .ireturn, .aload 1, .aload 0, .iload 3, .sipush 1, .iadd, .iaload, .aload 0, .iload 3, .sipush 2, .iadd, .iaload, .invokevirtual 304204, .aload 2, .aload 0, .iload 3, .sipush 1, .iadd, .iaload, .aload 0, .iload 3, .sipush 2, .iadd, .iaload, .invokevirtual 570224, .if_icmp .eq 1078, .sipush 0, .ireturn, .aload 1, .invokevirtual 306200, .aload 2, .invokevirtual 334220, .if_icmp .eq 1078, .sipush 0, .ireturn, .aload 1, .aload 0, .iload 3, .sipush 1, .iadd, .iaload, .ifCond .eq 1045, .sipush 1, .goto 1046, .sipush 0, .invokevirtual 308202, .aload 2, .aload 0, .iload 3, .sipush 1, .iadd, .iaload, .ifCond .eq 1056, .sipush 1, .goto 1057, .sipush 0, .invokevirtual 580222, .if_icmp .eq 1078, .sipush 0, .ireturn, .aload 1, .aload 0, .iload 3, .sipush 1, .iadd, .iaload, .invokevirtual 310202, .aload 2, .aload 0, .iload 3, .sipush 1, .iadd, .iaload, .invokevirtual 582222, .if_icmp .eq 1078, .sipush 0, .ireturn, .iinc 3 6, .goto 10, .sipush 1, .ireturn]
def kr_304 : List (Nat × Nat × Nat × Nat) := [(0, 20, 7, 3), (3, 0, 0, 1), (4, 22, 9, 3), (7, 0, 0, 1), (8, 1119, 10, 3), (11, 0, 0, 1), (12, 1121, 12, 3), (15, 0, 0, 1), (16, 0, 0, 1), (17, 0, 0, 1), (18, 0, 0, 1), (19, 0, 0, 1), (20, 0, 0, 1), (21, 0, 0, 2), (23, 0, 0, 1), (24, 0, 0, 3), (27, 0, 0, 1), (28, 0, 0, 1), (29, 0, 0, 1), (30, 0, 0, 2), (32, 0, 0, 1), (33, 0, 0, 191), (224, 0, 0, 1), (225, 0, 0, 1), (226, 0, 0, 1), (227, 0, 0, 1), (228, 0, 0, 1), (229, 0, 0, 1), (230, 441, 13, 3), (233, 0, 0, 1), (234, 0, 0, 1), (235, 0, 0, 1), (236, 0, 0, 1), (237, 0, 0, 1), (238, 0, 0, 1), (239, 1358, 17, 3), (242, 0, 0, 3), (245, 0, 0, 1), (246, 0, 0, 1), (247, 0, 0, 1), (248, 0, 0, 1), (249, 0, 0, 1), (250, 0, 0, 1), (251, 0, 0, 1), (252, 0, 0, 1), (253, 0, 0, 1), (254, 0, 0, 1), (255, 0, 0, 1), (256, 0, 0, 1), (257, 0, 0, 1), (258, 449, 18, 3), (261, 0, 0, 1), (262, 0, 0, 1), (263, 0, 0, 1), (264, 0, 0, 1), (265, 0, 0, 1), (266, 0, 0, 1), (267, 0, 0, 1), (268, 0, 0, 1), (269, 0, 0, 1), (270, 0, 0, 1), (271, 0, 0, 1), (272, 1362, 22, 3), (275, 0, 0, 3), (278, 0, 0, 1), (279, 0, 0, 1), (280, 0, 0, 1), (281, 0, 0, 1), (282, 0, 0, 1), (283, 0, 0, 1), (284, 0, 0, 1), (285, 0, 0, 1), (286, 456, 23, 3), (289, 0, 0, 1), (290, 0, 0, 1), (291, 0, 0, 1), (292, 0, 0, 1), (293, 0, 0, 1), (294, 0, 0, 1), (295, 1370, 26, 3), (298, 0, 0, 3), (301, 0, 0, 1), (302, 0, 0, 1), (303, 0, 0, 1), (304, 0, 0, 1), (305, 0, 0, 1), (306, 0, 0, 1), (307, 0, 0, 1), (308, 0, 0, 1), (309, 460, 27, 3), (312, 0, 0, 1), (313, 0, 0, 1), (314, 0, 0, 1), (315, 0, 0, 1), (316, 0, 0, 1), (317, 0, 0, 1), (318, 1374, 30, 3), (321, 0, 0, 3), (324, 0, 0, 1), (325, 0, 0, 1), (326, 0, 0, 1), (327, 0, 0, 1), (328, 0, 0, 1), (329, 0, 0, 1), (330, 0, 0, 1), (331, 0, 0, 1), (332, 0, 0, 1), (333, 0, 0, 1), (334, 0, 0, 1), (335, 0, 0, 1), (336, 0, 0, 1), (337, 0, 0, 1), (338, 0, 0, 1), (339, 0, 0, 1), (340, 0, 0, 1), (341, 0, 0, 1), (342, 464, 31, 3), (345, 0, 0, 1), (346, 0, 0, 1), (347, 0, 0, 1), (348, 0, 0, 1), (349, 0, 0, 1), (350, 0, 0, 1), (351, 0, 0, 1), (352, 0, 0, 1), (353, 0, 0, 1), (354, 0, 0, 1), (355, 0, 0, 1), (356, 0, 0, 1), (357, 0, 0, 1), (358, 0, 0, 1), (359, 0, 0, 1), (360, 0, 0, 1), (361, 1378, 35, 3), (364, 0, 0, 3), (367, 0, 0, 1), (368, 0, 0, 1), (369, 0, 0, 1), (370, 0, 0, 1), (371, 0, 0, 1), (372, 0, 0, 1), (373, 0, 0, 1), (374, 0, 0, 1), (375, 0, 0, 1), (376, 0, 0, 1), (377, 0, 0, 1), (378, 0, 0, 1), (379, 0, 0, 1), (380, 0, 0, 1), (381, 0, 0, 1), (382, 0, 0, 1), (383, 0, 0, 1), (384, 0, 0, 1), (385, 476, 36, 3), (388, 0, 0, 1), (389, 0, 0, 1), (390, 0, 0, 1), (391, 0, 0, 1), (392, 0, 0, 1), (393, 0, 0, 1), (394, 0, 0, 1), (395, 0, 0, 1), (396, 0, 0, 1), (397, 0, 0, 1), (398, 0, 0, 1), (399, 0, 0, 1), (400, 0, 0, 1), (401, 0, 0, 1), (402, 0, 0, 1), (403, 0, 0, 1), (404, 1538, 39, 3), (407, 0, 0, 3), (410, 0, 0, 1), (411, 0, 0, 1), (412, 0, 0, 1), (413, 0, 0, 1), (414, 0, 0, 1), (415, 0, 0, 1), (416, 0, 0, 1), (417, 0, 0, 1), (418, 509, 40, 3), (421, 0, 0, 1), (422, 0, 0, 1), (423, 0, 0, 1), (424, 0, 0, 1), (425, 0, 0, 1), (426, 0, 0, 1), (427, 1578, 43, 3), (430, 0, 0, 3), (433, 0, 0, 1), (434, 0, 0, 1), (435, 0, 0, 1), (436, 0, 0, 1), (437, 0, 0, 1), (438, 0, 0, 1), (439, 0, 0, 1), (440, 0, 0, 1), (441, 0, 0, 1), (442, 0, 0, 1), (443, 0, 0, 1), (444, 0, 0, 1), (445, 0, 0, 1), (446, 0, 0, 1), (447, 0, 0, 1), (448, 0, 0, 1), (449, 0, 0, 1), (450, 0, 0, 1), (451, 0, 0, 1), (452, 0, 0, 1), (453, 0, 0, 1), (454, 0, 0, 1), (455, 0, 0, 1), (456, 0, 0, 1), (457, 0, 0, 1), (458, 0, 0, 1), (459, 0, 0, 1), (460, 0, 0, 1), (461, 612, 44, 3), (464, 0, 0, 1), (465, 0, 0, 1), (466, 0, 0, 1), (467, 0, 0, 1), (468, 0, 0, 1), (469, 0, 0, 1), (470, 0, 0, 1), (471, 0, 0, 1), (472, 0, 0, 1), (473, 0, 0, 1), (474, 0, 0, 1), (475, 0, 0, 1), (476, 0, 0, 1), (477, 0, 0, 1), (478, 0, 0, 1), (479, 0, 0, 1), (480, 0, 0, 1), (481, 0, 0, 1), (482, 0, 0, 1), (483, 0, 0, 1), (484, 0, 0, 1), (485, 0, 0, 1), (486, 0, 0, 1), (487, 0, 0, 1), (488, 0, 0, 1), (489, 0, 0, 1), (490, 1390, 48, 3), (493, 0, 0, 3), (496, 0, 0, 1), (497, 0, 0, 1), (498, 0, 0, 1), (499, 0, 0, 1), (500, 0, 0, 1), (501, 0, 0, 1), (502, 0, 0, 1), (503, 0, 0, 1), (504, 620, 49, 3), (507, 0, 0, 1), (508, 0, 0, 1), (509, 0, 0, 1), (510, 0, 0, 1), (511, 0, 0, 1), (512, 0, 0, 1), (513, 1398, 53, 3), (516, 0, 0, 3), (519, 0, 0, 1), (520, 0, 0, 1), (521, 0, 0, 1), (522, 0, 0, 1), (523, 0, 0, 1), (524, 0, 0, 1), (525, 0, 0, 1), (526, 0, 0, 1), (527, 624, 54, 3), (530, 0, 0, 1), (531, 0, 0, 1), (532, 0, 0, 1), (533, 0, 0, 1), (534, 0, 0, 1), (535, 0, 0, 1), (536, 1402, 57, 3), (539, 0, 0, 3), (542, 0, 0, 1), (543, 0, 0, 1), (544, 0, 0, 1), (545, 0, 0, 1), (546, 0, 0, 1), (547, 0, 0, 1), (548, 0, 0, 1), (549, 0, 0, 1), (550, 795, 58, 3), (553, 0, 0, 1), (554, 0, 0, 1), (555, 0, 0, 1), (556, 0, 0, 1), (557, 0, 0, 1), (558, 0, 0, 1), (559, 1534, 61, 3), (562, 0, 0, 3), (565, 0, 0, 1), (566, 0, 0, 1), (567, 0, 0, 1), (568, 0, 0, 1), (569, 0, 0, 1), (570, 0, 0, 1), (571, 0, 0, 1), (572, 0, 0, 1), (573, 0, 0, 1), (574, 0, 0, 1), (575, 0, 0, 1), (576, 0, 0, 1), (577, 0, 0, 1), (578, 799, 62, 3), (581, 0, 0, 1), (582, 0, 0, 1), (583, 0, 0, 1), (584, 0, 0, 1), (585, 0, 0, 1), (586, 0, 0, 1), (587, 0, 0, 1), (588, 0, 0, 1), (589, 0, 0, 1), (590, 0, 0, 1), (591, 0, 0, 1), (592, 1668, 65, 3), (595, 0, 0, 3), (598, 0, 0, 1), (599, 0, 0, 1), (600, 0, 0, 1), (601, 0, 0, 1), (602, 0, 0, 1), (603, 0, 0, 1), (604, 0, 0, 1), (605, 0, 0, 1), (606, 0, 0, 1), (607, 0, 0, 1), (608, 0, 0, 1), (609, 0, 0, 1), (610, 0, 0, 1), (611, 806, 66, 3), (614, 0, 0, 1), (615, 0, 0, 1), (616, 0, 0, 1), (617, 0, 0, 1), (618, 0, 0, 1), (619, 0, 0, 1), (620, 0, 0, 1), (621, 0, 0, 1), (622, 0, 0, 1), (623, 0, 0, 1), (624, 0, 0, 1), (625, 1672, 69, 3), (628, 0, 0, 3), (631, 0, 0, 1), (632, 0, 0, 1), (633, 0, 0, 1), (634, 0, 0, 1), (635, 0, 0, 1), (636, 0, 0, 1), (637, 0, 0, 1), (638, 0, 0, 1), (639, 0, 0, 1), (640, 0, 0, 1), (641, 0, 0, 1), (642, 0, 0, 1), (643, 0, 0, 1), (644, 811, 70, 3), (647, 0, 0, 1), (648, 0, 0, 1), (649, 0, 0, 1), (650, 0, 0, 1), (651, 0, 0, 1), (652, 0, 0, 1), (653, 0, 0, 1), (654, 0, 0, 1), (655, 0, 0, 1), (656, 0, 0, 1), (657, 0, 0, 1), (658, 1676, 73, 3), (661, 0, 0, 3), (664, 0, 0, 1), (665, 0, 0, 1), (666, 0, 0, 1), (667, 0, 0, 1), (668, 0, 0, 1), (669, 0, 0, 1), (670, 0, 0, 1), (671, 0, 0, 1), (672, 0, 0, 1), (673, 0, 0, 1), (674, 0, 0, 1), (675, 0, 0, 1), (676, 0, 0, 1), (677, 822, 74, 3), (680, 0, 0, 1), (681, 0, 0, 1), (682, 0, 0, 1), (683, 0, 0, 1), (684, 0, 0, 1), (685, 0, 0, 1), (686, 0, 0, 1), (687, 0, 0, 1), (688, 0, 0, 1), (689, 0, 0, 1), (690, 0, 0, 1), (691, 1680, 77, 3), (694, 0, 0, 3), (697, 0, 0, 1), (698, 0, 0, 1), (699, 0, 0, 1), (700, 0, 0, 1), (701, 0, 0, 1), (702, 0, 0, 1), (703, 0, 0, 1), (704, 0, 0, 1), (705, 0, 0, 1), (706, 0, 0, 1), (707, 0, 0, 1), (708, 0, 0, 1), (709, 0, 0, 1), (710, 826, 78, 3), (713, 0, 0, 1), (714, 0, 0, 1), (715, 0, 0, 1), (716, 0, 0, 1), (717, 0, 0, 1), (718, 0, 0, 1), (719, 0, 0, 1), (720, 0, 0, 1), (721, 0, 0, 1), (722, 0, 0, 1), (723, 0, 0, 1), (724, 1684, 81, 3), (727, 0, 0, 3), (730, 0, 0, 1), (731, 0, 0, 1), (732, 0, 0, 1), (733, 0, 0, 1), (734, 0, 0, 1), (735, 0, 0, 1), (736, 0, 0, 1), (737, 0, 0, 1), (738, 846, 82, 3), (741, 0, 0, 1), (742, 0, 0, 1), (743, 0, 0, 1), (744, 0, 0, 1), (745, 0, 0, 1), (746, 0, 0, 1), (747, 1704, 85, 3), (750, 0, 0, 3), (753, 0, 0, 1), (754, 0, 0, 1), (755, 0, 0, 1), (756, 0, 0, 1), (757, 0, 0, 1), (758, 0, 0, 1), (759, 0, 0, 1), (760, 0, 0, 1), (761, 0, 0, 1), (762, 0, 0, 1), (763, 0, 0, 1), (764, 0, 0, 1), (765, 0, 0, 1), (766, 851, 86, 3), (769, 0, 0, 1), (770, 0, 0, 1), (771, 0, 0, 1), (772, 0, 0, 1), (773, 0, 0, 1), (774, 0, 0, 1), (775, 0, 0, 1), (776, 0, 0, 1), (777, 0, 0, 1), (778, 0, 0, 1), (779, 0, 0, 1), (780, 1708, 89, 3), (783, 0, 0, 3), (786, 0, 0, 1), (787, 0, 0, 1), (788, 0, 0, 1), (789, 0, 0, 1), (790, 0, 0, 1), (791, 0, 0, 1), (792, 0, 0, 1), (793, 0, 0, 1), (794, 0, 0, 1), (795, 0, 0, 1), (796, 0, 0, 1), (797, 0, 0, 1), (798, 0, 0, 1), (799, 859, 90, 3), (802, 0, 0, 1), (803, 0, 0, 1), (804, 0, 0, 1), (805, 0, 0, 1), (806, 0, 0, 1), (807, 0, 0, 1), (808, 0, 0, 1), (809, 0, 0, 1), (810, 0, 0, 1), (811, 0, 0, 1), (812, 0, 0, 1), (813, 1720, 93, 3), (816, 0, 0, 3), (819, 0, 0, 1), (820, 0, 0, 1), (821, 0, 0, 1), (822, 0, 0, 1), (823, 0, 0, 1), (824, 0, 0, 1), (825, 0, 0, 1), (826, 0, 0, 1), (827, 868, 94, 3), (830, 0, 0, 1), (831, 0, 0, 1), (832, 0, 0, 1), (833, 0, 0, 1), (834, 0, 0, 1), (835, 0, 0, 1), (836, 1724, 97, 3), (839, 0, 0, 3), (842, 0, 0, 1), (843, 0, 0, 1), (844, 0, 0, 1), (845, 0, 0, 1), (846, 0, 0, 1), (847, 0, 0, 1), (848, 0, 0, 1), (849, 0, 0, 1), (850, 0, 0, 1), (851, 0, 0, 1), (852, 0, 0, 1), (853, 0, 0, 1), (854, 0, 0, 1), (855, 881, 98, 3), (858, 0, 0, 1), (859, 0, 0, 1), (860, 0, 0, 1), (861, 0, 0, 1), (862, 0, 0, 1), (863, 0, 0, 1), (864, 0, 0, 1), (865, 0, 0, 1), (866, 0, 0, 1), (867, 0, 0, 1), (868, 0, 0, 1), (869, 1728, 101, 3), (872, 0, 0, 3), (875, 0, 0, 1), (876, 0, 0, 1), (877, 0, 0, 1), (878, 0, 0, 1), (879, 0, 0, 1), (880, 0, 0, 1), (881, 0, 0, 1), (882, 0, 0, 1), (883, 890, 102, 3), (886, 0, 0, 1), (887, 0, 0, 1), (888, 0, 0, 1), (889, 0, 0, 1), (890, 0, 0, 1), (891, 0, 0, 1), (892, 1733, 105, 3), (895, 0, 0, 3), (898, 0, 0, 1), (899, 0, 0, 1), (900, 0, 0, 1), (901, 0, 0, 1), (902, 0, 0, 1), (903, 0, 0, 1), (904, 0, 0, 1), (905, 0, 0, 1), (906, 894, 106, 3), (909, 0, 0, 1), (910, 0, 0, 1), (911, 0, 0, 1), (912, 0, 0, 1), (913, 0, 0, 1), (914, 0, 0, 1), (915, 1737, 109, 3), (918, 0, 0, 3), (921, 0, 0, 1), (922, 0, 0, 1), (923, 0, 0, 1), (924, 0, 0, 1), (925, 0, 0, 1), (926, 0, 0, 1), (927, 0, 0, 1), (928, 0, 0, 1), (929, 0, 0, 1), (930, 0, 0, 1), (931, 0, 0, 1), (932, 0, 0, 1), (933, 0, 0, 1), (934, 908, 110, 3), (937, 0, 0, 1), (938, 0, 0, 1), (939, 0, 0, 1), (940, 0, 0, 1), (941, 0, 0, 1), (942, 0, 0, 1), (943, 0, 0, 1), (944, 0, 0, 1), (945, 0, 0, 1), (946, 0, 0, 1), (947, 0, 0, 1), (948, 1749, 113, 3), (951, 0, 0, 3), (954, 0, 0, 1), (955, 0, 0, 1), (956, 0, 0, 1), (957, 0, 0, 1), (958, 0, 0, 1), (959, 0, 0, 1), (960, 0, 0, 1), (961, 0, 0, 1), (962, 0, 0, 1), (963, 0, 0, 1), (964, 0, 0, 1), (965, 0, 0, 1), (966, 0, 0, 1), (967, 916, 114, 3), (970, 0, 0, 1), (971, 0, 0, 1), (972, 0, 0, 1), (973, 0, 0, 1), (974, 0, 0, 1), (975, 0, 0, 1), (976, 0, 0, 1), (977, 0, 0, 1), (978, 0, 0, 1), (979, 0, 0, 1), (980, 0, 0, 1), (981, 1753, 117, 3), (984, 0, 0, 3), (987, 0, 0, 1), (988, 0, 0, 1), (989, 0, 0, 1), (990, 0, 0, 1), (991, 0, 0, 1), (992, 0, 0, 1), (993, 0, 0, 1), (994, 0, 0, 1), (995, 0, 0, 1), (996, 0, 0, 1), (997, 0, 0, 1), (998, 0, 0, 1), (999, 0, 0, 1), (1000, 0, 0, 1), (1001, 0, 0, 1), (1002, 0, 0, 1), (1003, 0, 0, 1), (1004, 0, 0, 1), (1005, 926, 118, 3), (1008, 0, 0, 1), (1009, 0, 0, 1), (1010, 0, 0, 1), (1011, 0, 0, 1), (1012, 0, 0, 1), (1013, 0, 0, 1), (1014, 0, 0, 1), (1015, 0, 0, 1), (1016, 0, 0, 1), (1017, 0, 0, 1), (1018, 0, 0, 1), (1019, 0, 0, 1), (1020, 0, 0, 1), (1021, 0, 0, 1), (1022, 0, 0, 1), (1023, 0, 0, 1), (1024, 1757, 122, 3), (1027, 0, 0, 3), (1030, 0, 0, 1), (1031, 0, 0, 1), (1032, 0, 0, 1), (1033, 0, 0, 1), (1034, 0, 0, 1), (1035, 0, 0, 1), (1036, 0, 0, 1), (1037, 0, 0, 1), (1038, 0, 0, 1), (1039, 0, 0, 1), (1040, 0, 0, 1), (1041, 0, 0, 1), (1042, 0, 0, 1), (1043, 0, 0, 1), (1044, 0, 0, 1), (1045, 0, 0, 1), (1046, 0, 0, 1), (1047, 0, 0, 1), (1048, 937, 123, 3), (1051, 0, 0, 1), (1052, 0, 0, 1), (1053, 0, 0, 1), (1054, 0, 0, 1), (1055, 0, 0, 1), (1056, 0, 0, 1), (1057, 0, 0, 1), (1058, 0, 0, 1), (1059, 0, 0, 1), (1060, 0, 0, 1), (1061, 0, 0, 1), (1062, 0, 0, 1), (1063, 0, 0, 1), (1064, 0, 0, 1), (1065, 0, 0, 1), (1066, 0, 0, 1), (1067, 1765, 126, 3), (1070, 0, 0, 3), (1073, 0, 0, 1), (1074, 0, 0, 1), (1075, 0, 0, 1), (1076, 0, 0, 1), (1077, 0, 0, 1), (1078, 0, 0, 1), (1079, 0, 0, 1), (1080, 0, 0, 1), (1081, 0, 0, 1), (1082, 0, 0, 1), (1083, 0, 0, 1), (1084, 0, 0, 1), (1085, 0, 0, 1), (1086, 0, 0, 1), (1087, 0, 0, 1), (1088, 0, 0, 1), (1089, 0, 0, 1), (1090, 0, 0, 1), (1091, 941, 127, 3), (1094, 0, 0, 1), (1095, 0, 0, 1), (1096, 0, 0, 1), (1097, 0, 0, 1), (1098, 0, 0, 1), (1099, 0, 0, 1), (1100, 0, 0, 1), (1101, 0, 0, 1), (1102, 0, 0, 1), (1103, 0, 0, 1), (1104, 0, 0, 1), (1105, 0, 0, 1), (1106, 0, 0, 1), (1107, 0, 0, 1), (1108, 0, 0, 1), (1109, 0, 0, 1), (1110, 1769, 130, 3), (1113, 0, 0, 3), (1116, 0, 0, 1), (1117, 0, 0, 1), (1118, 0, 0, 1), (1119, 0, 0, 1), (1120, 0, 0, 1), (1121, 0, 0, 1), (1122, 0, 0, 1), (1123, 0, 0, 1), (1124, 945, 131, 3), (1127, 0, 0, 1), (1128, 0, 0, 1), (1129, 0, 0, 1), (1130, 0, 0, 1), (1131, 0, 0, 1), (1132, 0, 0, 1), (1133, 1773, 134, 3), (1136, 0, 0, 3), (1139, 0, 0, 1), (1140, 0, 0, 1), (1141, 0, 0, 1), (1142, 0, 0, 1), (1143, 0, 0, 1), (1144, 0, 0, 1), (1145, 0, 0, 1), (1146, 0, 0, 1), (1147, 952, 135, 3), (1150, 0, 0, 1), (1151, 0, 0, 1), (1152, 0, 0, 1), (1153, 0, 0, 1), (1154, 0, 0, 1), (1155, 0, 0, 1), (1156, 1781, 138, 3), (1159, 0, 0, 3), (1162, 0, 0, 1), (1163, 0, 0, 1), (1164, 0, 0, 1), (1165, 0, 0, 1), (1166, 0, 0, 1), (1167, 0, 0, 1), (1168, 0, 0, 1), (1169, 0, 0, 1), (1170, 0, 0, 1), (1171, 0, 0, 1), (1172, 0, 0, 1), (1173, 0, 0, 1), (1174, 0, 0, 1), (1175, 960, 139, 3), (1178, 0, 0, 1), (1179, 0, 0, 1), (1180, 0, 0, 1), (1181, 0, 0, 1), (1182, 0, 0, 1), (1183, 0, 0, 1), (1184, 0, 0, 1), (1185, 0, 0, 1), (1186, 0, 0, 1), (1187, 0, 0, 1), (1188, 0, 0, 1), (1189, 1789, 142, 3), (1192, 0, 0, 3), (1195, 0, 0, 1), (1196, 0, 0, 1), (1197, 0, 0, 1), (1198, 0, 0, 1), (1199, 0, 0, 1), (1200, 0, 0, 1), (1201, 0, 0, 1), (1202, 0, 0, 1), (1203, 973, 143, 3), (1206, 0, 0, 1), (1207, 0, 0, 1), (1208, 0, 0, 1), (1209, 0, 0, 1), (1210, 0, 0, 1), (1211, 0, 0, 1), (1212, 1797, 146, 3), (1215, 0, 0, 3), (1218, 0, 0, 1), (1219, 0, 0, 1), (1220, 0, 0, 1), (1221, 0, 0, 1), (1222, 0, 0, 1), (1223, 0, 0, 1), (1224, 0, 0, 1), (1225, 0, 0, 1), (1226, 977, 147, 3), (1229, 0, 0, 1), (1230, 0, 0, 1), (1231, 0, 0, 1), (1232, 0, 0, 1), (1233, 0, 0, 1), (1234, 0, 0, 1), (1235, 1801, 150, 3), (1238, 0, 0, 3), (1241, 0, 0, 1), (1242, 0, 0, 1), (1243, 0, 0, 1), (1244, 0, 0, 1), (1245, 0, 0, 1), (1246, 0, 0, 1), (1247, 0, 0, 1), (1248, 0, 0, 1), (1249, 997, 151, 3), (1252, 0, 0, 1), (1253, 0, 0, 1), (1254, 0, 0, 1), (1255, 0, 0, 1), (1256, 0, 0, 1), (1257, 0, 0, 1), (1258, 1813, 154, 3), (1261, 0, 0, 3), (1264, 0, 0, 1), (1265, 0, 0, 1), (1266, 0, 0, 1), (1267, 0, 0, 1), (1268, 0, 0, 1), (1269, 0, 0, 1), (1270, 0, 0, 1), (1271, 0, 0, 1), (1272, 1001, 155, 3), (1275, 0, 0, 1), (1276, 0, 0, 1), (1277, 0, 0, 1), (1278, 0, 0, 1), (1279, 0, 0, 1), (1280, 0, 0, 1), (1281, 1817, 158, 3), (1284, 0, 0, 3), (1287, 0, 0, 1), (1288, 0, 0, 1), (1289, 0, 0, 1), (1290, 0, 0, 1), (1291, 0, 0, 1), (1292, 0, 0, 1), (1293, 0, 0, 1), (1294, 0, 0, 1), (1295, 0, 0, 1), (1296, 0, 0, 1), (1297, 0, 0, 1), (1298, 0, 0, 1), (1299, 0, 0, 1), (1300, 0, 0, 1), (1301, 0, 0, 1), (1302, 0, 0, 1), (1303, 0, 0, 1), (1304, 0, 0, 1), (1305, 1008, 159, 3), (1308, 0, 0, 1), (1309, 0, 0, 1), (1310, 0, 0, 1), (1311, 0, 0, 1), (1312, 0, 0, 1), (1313, 0, 0, 1), (1314, 0, 0, 1), (1315, 0, 0, 1), (1316, 0, 0, 1), (1317, 0, 0, 1), (1318, 0, 0, 1), (1319, 0, 0, 1), (1320, 0, 0, 1), (1321, 0, 0, 1), (1322, 0, 0, 1), (1323, 0, 0, 1), (1324, 1821, 162, 3), (1327, 0, 0, 3), (1330, 0, 0, 1), (1331, 0, 0, 1), (1332, 0, 0, 1), (1333, 0, 0, 1), (1334, 0, 0, 1), (1335, 0, 0, 1), (1336, 0, 0, 1), (1337, 0, 0, 1), (1338, 1020, 163, 3), (1341, 0, 0, 1), (1342, 0, 0, 1), (1343, 0, 0, 1), (1344, 0, 0, 1), (1345, 0, 0, 1), (1346, 0, 0, 1), (1347, 1830, 166, 3), (1350, 0, 0, 3), (1353, 0, 0, 1), (1354, 0, 0, 1), (1355, 0, 0, 1), (1356, 0, 0, 1), (1357, 0, 0, 1), (1358, 0, 0, 1), (1359, 0, 0, 1), (1360, 0, 0, 1), (1361, 0, 0, 1), (1362, 0, 0, 1), (1363, 0, 0, 1), (1364, 0, 0, 1), (1365, 0, 0, 1), (1366, 1024, 167, 3), (1369, 0, 0, 1), (1370, 0, 0, 1), (1371, 0, 0, 1), (1372, 0, 0, 1), (1373, 0, 0, 1), (1374, 0, 0, 1), (1375, 0, 0, 1), (1376, 0, 0, 1), (1377, 0, 0, 1), (1378, 0, 0, 1), (1379, 0, 0, 1), (1380, 1834, 170, 3), (1383, 0, 0, 3), (1386, 0, 0, 1), (1387, 0, 0, 1), (1388, 0, 0, 1), (1389, 0, 0, 1), (1390, 0, 0, 1), (1391, 0, 0, 1), (1392, 0, 0, 1), (1393, 0, 0, 1), (1394, 1036, 171, 3), (1397, 0, 0, 1), (1398, 0, 0, 1), (1399, 0, 0, 1), (1400, 0, 0, 1), (1401, 0, 0, 1), (1402, 0, 0, 1), (1403, 1838, 174, 3), (1406, 0, 0, 3), (1409, 0, 0, 1), (1410, 0, 0, 1), (1411, 0, 0, 1), (1412, 0, 0, 1), (1413, 0, 0, 1), (1414, 0, 0, 1), (1415, 0, 0, 1), (1416, 0, 0, 1), (1417, 0, 0, 1), (1418, 0, 0, 1), (1419, 0, 0, 1), (1420, 0, 0, 1), (1421, 0, 0, 1), (1422, 1040, 175, 3), (1425, 0, 0, 1), (1426, 0, 0, 1), (1427, 0, 0, 1), (1428, 0, 0, 1), (1429, 0, 0, 1), (1430, 0, 0, 1), (1431, 0, 0, 1), (1432, 0, 0, 1), (1433, 0, 0, 1), (1434, 0, 0, 1), (1435, 0, 0, 1), (1436, 1842, 178, 3), (1439, 0, 0, 3), (1442, 0, 0, 1), (1443, 0, 0, 1), (1444, 0, 0, 1), (1445, 0, 0, 1), (1446, 0, 0, 1), (1447, 0, 0, 1), (1448, 0, 0, 1), (1449, 0, 0, 1), (1450, 0, 0, 1), (1451, 0, 0, 1), (1452, 0, 0, 1), (1453, 0, 0, 1), (1454, 0, 0, 1), (1455, 1060, 179, 3), (1458, 0, 0, 1), (1459, 0, 0, 1), (1460, 0, 0, 1), (1461, 0, 0, 1), (1462, 0, 0, 1), (1463, 0, 0, 1), (1464, 0, 0, 1), (1465, 0, 0, 1), (1466, 0, 0, 1), (1467, 0, 0, 1), (1468, 0, 0, 1), (1469, 1850, 182, 3), (1472, 0, 0, 3), (1475, 0, 0, 1), (1476, 0, 0, 1), (1477, 0, 0, 1), (1478, 1084, 183, 3), (1481, 0, 0, 1), (1482, 1354, 187, 3), (1485, 0, 0, 3), (1488, 0, 0, 1), (1489, 0, 0, 1), (1490, 0, 0, 1), (1491, 0, 0, 1), (1492, 0, 0, 1), (1493, 0, 0, 1), (1494, 0, 0, 1), (1495, 0, 0, 1), (1496, 0, 0, 3), (1499, 0, 0, 1), (1500, 0, 0, 3), (1503, 0, 0, 1), (1504, 1092, 188, 3), (1507, 0, 0, 1), (1508, 0, 0, 1), (1509, 0, 0, 1), (1510, 0, 0, 1), (1511, 0, 0, 1), (1512, 0, 0, 1), (1513, 0, 0, 3), (1516, 0, 0, 1), (1517, 0, 0, 3), (1520, 0, 0, 1), (1521, 1871, 192, 3), (1524, 0, 0, 3), (1527, 0, 0, 1), (1528, 0, 0, 1), (1529, 0, 0, 1), (1530, 0, 0, 1), (1531, 0, 0, 1), (1532, 0, 0, 1), (1533, 0, 0, 1), (1534, 0, 0, 1), (1535, 1114, 193, 3), (1538, 0, 0, 1), (1539, 0, 0, 1), (1540, 0, 0, 1), (1541, 0, 0, 1), (1542, 0, 0, 1), (1543, 0, 0, 1), (1544, 1891, 196, 3), (1547, 0, 0, 3), (1550, 0, 0, 1), (1551, 0, 0, 1), (1552, 0, 0, 3), (1555, 0, 0, 3), (1558, 0, 0, 1), (1559, 0, 0, 1)]
abbrev kQ : Type := MethodName × ByteArray × Nat × Option FieldType × List (Nat × Nat × Nat × Nat) × List Instr × Nat × Nat × Nat × Nat × Nat
def kt_0 : List kQ := [(⟨"QuillDesk$Book", "<init>", "()V"⟩, prog_2_method_1_code, 1, none, kr_0, kc_0, (2, 135, 4, 134, 0)), (⟨"QuillDesk$Book", "add", "(IIII)V"⟩, prog_2_method_2_code, 5, none, kr_1, kc_1, (1, 603, 4, 601, 602)), (⟨"QuillDesk$Book", "copyFrom", "(LQuillDesk$Book;)V"⟩, prog_2_method_3_code, 2, none, kr_2, kc_2, (1, 1104, 4, 1102, 1103)), (⟨"QuillDesk$Boxes", "<init>", "()V"⟩, prog_3_method_1_code, 1, none, kr_3, kc_3, (2, 407, 12, 406, 0)), (⟨"QuillDesk$Boxes", "worth", "(I)I"⟩, prog_3_method_2_code, 5, some .int, kr_4, kc_4, (1, 1067, 12, 1065, 1066)), (⟨"QuillDesk$Boxes", "bestLine", "(I)I"⟩, prog_3_method_3_code, 4, some .int, kr_5, kc_5, (1, 1082, 12, 1080, 1081)), (⟨"QuillDesk$Boxes", "worthOfDrawing", "(II)I"⟩, prog_3_method_4_code, 5, some .int, kr_6, kc_6, (1, 1072, 12, 1071, 100027)), (⟨"QuillDesk$Boxes", "countClosed", "(I)I"⟩, prog_3_method_5_code, 3, some .int, kr_7, kc_7, (0, 1075, 12, 1074, 0)), (⟨"QuillDesk$Desk", "<init>", "()V"⟩, prog_4_method_1_code, 1, none, kr_8, kc_8, (2, 32, 2, 31, 0)), (⟨"QuillDesk$Desk", "copyFrom", "(LQuillDesk$Desk;)V"⟩, prog_4_method_2_code, 2, none, kr_9, kc_9, (1, 1099, 2, 1097, 1098)), (⟨"QuillDesk$Desk", "wildness", "(I)I"⟩, prog_4_method_3_code, 3, some .int, kr_10, kc_10, (1, 557, 2, 555, 556)), (⟨"QuillDesk$Desk", "fineness", "(I)I"⟩, prog_4_method_4_code, 3, some .int, kr_11, kc_11, (1, 561, 2, 559, 560)), (⟨"QuillDesk$Desk", "deedsBefore", "(I)I"⟩, prog_4_method_5_code, 4, some .int, kr_12, kc_12, (1, 537, 2, 535, 536)), (⟨"QuillDesk$Desk", "canBeWritten", "(LQuillDesk$Firm;I)Z"⟩, prog_4_method_6_code, 3, some .boolean, kr_13, kc_13, (1, 529, 2, 527, 528)), (⟨"QuillDesk$Desk", "ask", "(LQuillDesk$Firm;II)I"⟩, prog_4_method_7_code, 5, some .int, kr_14, kc_14, (1, 545, 2, 543, 544)), (⟨"QuillDesk$Desk", "learn", "(LQuillDesk$Firm;I)V"⟩, prog_4_method_8_code, 5, none, kr_15, kc_15, (1, 549, 2, 548, 100001)), (⟨"QuillDesk$Desk", "passHour", "(LQuillDesk$Firm;Z)I"⟩, prog_4_method_9_code, 5, some .int, kr_16, kc_16, (1, 516, 2, 514, 515)), (⟨"QuillDesk$Desk", "takeTurn", "(LQuillDesk$Firm;IZ)I"⟩, prog_4_method_10_code, 7, some .int, kr_17, kc_17, (1, 522, 2, 521, 100000)), (⟨"QuillDesk$Desk", "note", "(LQuillDesk$Firm;IIIZ)V"⟩, prog_4_method_11_code, 6, none, kr_18, kc_18, (1, 599, 2, 598, 100003)), (⟨"QuillDesk$Desk", "soonest", "(I[II)I"⟩, prog_4_method_12_code, 10, some .int, kr_19, kc_19, (1, 858, 2, 856, 857)), (⟨"QuillDesk$Firm", "<init>", "()V"⟩, prog_5_method_1_code, 1, none, kr_20, kc_20, (2, 38, 3, 37, 0)), (⟨"QuillDesk$Firm", "copyFrom", "(LQuillDesk$Firm;)V"⟩, prog_5_method_2_code, 2, none, kr_21, kc_21, (1, 501, 3, 499, 500)), (⟨"QuillDesk$Firm", "hasQuill", "(I)Z"⟩, prog_5_method_3_code, 2, some .boolean, kr_22, kc_22, (1, 471, 3, 469, 470)), (⟨"QuillDesk$Firm", "hasClerk", "(I)Z"⟩, prog_5_method_4_code, 2, some .boolean, kr_23, kc_23, (1, 475, 3, 473, 474)), (⟨"QuillDesk$Firm", "hasDeed", "(I)Z"⟩, prog_5_method_5_code, 2, some .boolean, kr_24, kc_24, (1, 493, 3, 491, 492))]
def kt_1 : List kQ := [(⟨"QuillDesk$Firm", "isDone", "(I)Z"⟩, prog_5_method_6_code, 2, some .boolean, kr_25, kc_25, (1, 533, 3, 531, 532)), (⟨"QuillDesk$Firm", "linesLeft", "(I)I"⟩, prog_5_method_7_code, 2, some .int, kr_26, kc_26, (1, 565, 3, 563, 564)), (⟨"QuillDesk$Firm", "holder", "(I)I"⟩, prog_5_method_8_code, 3, some .int, kr_27, kc_27, (1, 489, 3, 487, 488)), (⟨"QuillDesk$Firm", "doneSet", "()I"⟩, prog_5_method_9_code, 3, some .int, kr_28, kc_28, (1, 541, 3, 539, 540)), (⟨"QuillDesk$Firm", "clerksAt", "(I)I"⟩, prog_5_method_10_code, 4, some .int, kr_29, kc_29, (1, 821, 3, 819, 820)), (⟨"QuillDesk$Firm", "allWritten", "()I"⟩, prog_5_method_11_code, 3, some .int, kr_30, kc_30, (1, 834, 3, 832, 833)), (⟨"QuillDesk$Firm", "allBlots", "()I"⟩, prog_5_method_12_code, 3, some .int, kr_31, kc_31, (1, 838, 3, 836, 837)), (⟨"QuillDesk$Firm", "canAct", "(III)Z"⟩, prog_5_method_13_code, 5, some .boolean, kr_32, kc_32, (1, 483, 3, 481, 482)), (⟨"QuillDesk$Firm", "doAct", "(III)V"⟩, prog_5_method_14_code, 5, none, kr_33, kc_33, (1, 508, 3, 506, 507)), (⟨"QuillDesk$Firm", "draw", "(I)I"⟩, prog_5_method_15_code, 2, some .int, kr_34, kc_34, (1, 593, 3, 591, 592)), (⟨"QuillDesk$Firm", "falls", "(IZ)Z"⟩, prog_5_method_16_code, 3, some .boolean, kr_35, kc_35, (1, 589, 3, 587, 588)), (⟨"QuillDesk$Firm", "wear", "(I)V"⟩, prog_5_method_17_code, 2, none, kr_36, kc_36, (1, 607, 3, 605, 606)), (⟨"QuillDesk$Firm", "finish", "(II)V"⟩, prog_5_method_18_code, 4, none, kr_37, kc_37, (1, 611, 3, 609, 610)), (⟨"QuillDesk$Law", "<init>", "()V"⟩, prog_6_method_1_code, 1, none, kr_38, kc_38, (2, 163, 5, 162, 0)), (⟨"QuillDesk$Law", "copyFrom", "(LQuillDesk$Law;)V"⟩, prog_6_method_2_code, 2, none, kr_39, kc_39, (1, 786, 5, 784, 785)), (⟨"QuillDesk$Law", "clear", "()V"⟩, prog_6_method_3_code, 1, none, kr_40, kc_40, (1, 715, 5, 713, 714)), (⟨"QuillDesk$Law", "put", "(I)V"⟩, prog_6_method_4_code, 2, none, kr_41, kc_41, (1, 743, 5, 741, 742)), (⟨"QuillDesk$Law", "fact", "(I)I"⟩, prog_6_method_5_code, 3, some .int, kr_42, kc_42, (1, 583, 5, 581, 582)), (⟨"QuillDesk$Law", "know", "(II)V"⟩, prog_6_method_6_code, 4, none, kr_43, kc_43, (1, 553, 5, 551, 552)), (⟨"QuillDesk$Law", "tell", "(I)I"⟩, prog_6_method_7_code, 5, some .int, kr_44, kc_44, (1, 569, 5, 567, 568)), (⟨"QuillDesk$Law", "work", "(II)I"⟩, prog_6_method_8_code, 6, some .int, kr_45, kc_45, (1, 573, 5, 572, 100002)), (⟨"QuillDesk$Law", "join", "(III)I"⟩, prog_6_method_9_code, 3, some .int, kr_46, kc_46, (0, 579, 5, 578, 0)), (⟨"QuillDesk$Past", "<init>", "()V"⟩, prog_7_method_1_code, 2, none, kr_47, kc_47, (2, 307, 9, 306, 0)), (⟨"QuillDesk$Past", "keep", "(LQuillDesk$Firm;I)V"⟩, prog_7_method_2_code, 4, none, kr_48, kc_48, (1, 497, 9, 495, 496)), (⟨"QuillDesk$Past", "goBack", "(LQuillDesk$Firm;LQuillDesk$Book;)Z"⟩, prog_7_method_3_code, 4, some .boolean, kr_49, kc_49, (1, 1091, 9, 1089, 1090))]
def kt_2 : List kQ := [(⟨"QuillDesk$Past", "forget", "()V"⟩, prog_7_method_4_code, 1, none, kr_50, kc_50, (1, 448, 9, 446, 447)), (⟨"QuillDesk$Reader", "<init>", "()V"⟩, prog_8_method_1_code, 1, none, kr_51, kc_51, (2, 332, 10, 331, 0)), (⟨"QuillDesk$Reader", "append", "(I)V"⟩, prog_8_method_2_code, 3, none, kr_52, kc_52, (1, 619, 10, 617, 618)), (⟨"QuillDesk$Reader", "understand", "(ILQuillDesk$Firm;)Z"⟩, prog_8_method_3_code, 4, some .boolean, kr_53, kc_53, (1, 631, 10, 629, 630)), (⟨"QuillDesk$Reader", "beginsLine", "(I)Z"⟩, prog_8_method_4_code, 3, some .boolean, kr_54, kc_54, (1, 723, 10, 722, 100011)), (⟨"QuillDesk$Reader", "cutTokens", "()V"⟩, prog_8_method_5_code, 2, none, kr_55, kc_55, (1, 636, 10, 635, 100004)), (⟨"QuillDesk$Reader", "goesOn", "(I)Z"⟩, prog_8_method_6_code, 2, some .boolean, kr_56, kc_56, (1, 640, 10, 639, 100005)), (⟨"QuillDesk$Reader", "kindAt", "(I)I"⟩, prog_8_method_7_code, 2, some .int, kr_57, kc_57, (1, 650, 10, 649, 100006)), (⟨"QuillDesk$Reader", "numberAt", "(I)I"⟩, prog_8_method_8_code, 4, some .int, kr_58, kc_58, (1, 711, 10, 710, 100009)), (⟨"QuillDesk$Reader", "wordAt", "(I)I"⟩, prog_8_method_9_code, 6, some .int, kr_59, kc_59, (1, 654, 10, 653, 100007)), (⟨"QuillDesk$Reader", "isSame", "(III)Z"⟩, prog_8_method_10_code, 5, some .boolean, kr_60, kc_60, (1, 707, 10, 706, 100008)), (⟨"QuillDesk$Reader", "isLetter", "(I)Z"⟩, prog_8_method_11_code, 1, some .boolean, kr_61, kc_61, (0, 643, 10, 642, 0)), (⟨"QuillDesk$Reader", "isDigit", "(I)Z"⟩, prog_8_method_12_code, 1, some .boolean, kr_62, kc_62, (0, 646, 10, 645, 0)), (⟨"QuillDesk$Reader", "token", "()I"⟩, prog_8_method_13_code, 1, some .int, kr_63, kc_63, (1, 719, 10, 718, 100010)), (⟨"QuillDesk$Reader", "refuse", "(I)Z"⟩, prog_8_method_14_code, 2, some .boolean, kr_64, kc_64, (1, 727, 10, 726, 100012)), (⟨"QuillDesk$Reader", "expect", "(I)Z"⟩, prog_8_method_15_code, 2, some .boolean, kr_65, kc_65, (1, 759, 10, 758, 100019)), (⟨"QuillDesk$Reader", "expectNumber", "(I)Z"⟩, prog_8_method_16_code, 3, some .boolean, kr_66, kc_66, (1, 771, 10, 770, 100021)), (⟨"QuillDesk$Reader", "orderLine", "(LQuillDesk$Firm;)Z"⟩, prog_8_method_17_code, 6, some .boolean, kr_67, kc_67, (1, 767, 10, 766, 100020)), (⟨"QuillDesk$Reader", "actOf", "(I)I"⟩, prog_8_method_18_code, 1, some .int, kr_68, kc_68, (0, 774, 10, 773, 0)), (⟨"QuillDesk$Reader", "birdLine", "()Z"⟩, prog_8_method_19_code, 3, some .boolean, kr_69, kc_69, (1, 778, 10, 777, 100022)), (⟨"QuillDesk$Reader", "afterLine", "(LQuillDesk$Firm;)Z"⟩, prog_8_method_20_code, 3, some .boolean, kr_70, kc_70, (1, 782, 10, 781, 100023)), (⟨"QuillDesk$Reader", "lawLine", "()Z"⟩, prog_8_method_21_code, 4, some .boolean, kr_71, kc_71, (1, 731, 10, 730, 100013)), (⟨"QuillDesk$Reader", "sumUp", "()Z"⟩, prog_8_method_22_code, 4, some .boolean, kr_72, kc_72, (1, 735, 10, 734, 100014)), (⟨"QuillDesk$Reader", "unit", "()Z"⟩, prog_8_method_23_code, 2, some .boolean, kr_73, kc_73, (1, 739, 10, 738, 100015)), (⟨"QuillDesk$Reader", "part", "()Z"⟩, prog_8_method_24_code, 2, some .boolean, kr_74, kc_74, (1, 747, 10, 746, 100016))]
def kt_3 : List kQ := [(⟨"QuillDesk$Reader", "condition", "(I)Z"⟩, prog_8_method_25_code, 5, some .boolean, kr_75, kc_75, (1, 751, 10, 750, 100017)), (⟨"QuillDesk$Reader", "single", "(I)Z"⟩, prog_8_method_26_code, 4, some .boolean, kr_76, kc_76, (1, 755, 10, 754, 100018)), (⟨"QuillDesk$Row", "<init>", "(I)V"⟩, prog_9_method_1_code, 2, none, kr_77, kc_77, (2, 224, 7, 223, 0)), (⟨"QuillDesk$Row", "tell", "(III)I"⟩, prog_9_method_2_code, 4, some .int, kr_78, kc_78, (1, 879, 7, 877, 878)), (⟨"QuillDesk$Row", "clear", "()I"⟩, prog_9_method_3_code, 1, some .int, kr_79, kc_79, (1, 875, 7, 873, 874)), (⟨"QuillDesk$Row", "has", "(I)Z"⟩, prog_9_method_4_code, 3, some .boolean, kr_80, kc_80, (1, 959, 7, 957, 958)), (⟨"QuillDesk$Row", "sum", "()I"⟩, prog_9_method_5_code, 3, some .int, kr_81, kc_81, (1, 1055, 7, 1053, 1054)), (⟨"QuillDesk$Row", "round", "(I)I"⟩, prog_9_method_6_code, 2, some .int, kr_82, kc_82, (1, 990, 7, 988, 989)), (⟨"QuillDesk$Row", "copyFrom", "(LQuillDesk$Row;)V"⟩, prog_9_method_7_code, 2, none, kr_83, kc_83, (1, 1111, 7, 1109, 1110)), (⟨"QuillDesk$Text", "<init>", "()V"⟩, prog_10_method_1_code, 1, none, kr_84, kc_84, (2, 169, 6, 168, 0)), (⟨"QuillDesk$Text", "add", "(IIII)V"⟩, prog_10_method_2_code, 5, none, kr_85, kc_85, (1, 763, 6, 761, 762)), (⟨"QuillDesk$Text", "copyFrom", "(LQuillDesk$Text;)V"⟩, prog_10_method_3_code, 2, none, kr_86, kc_86, (1, 790, 6, 788, 789)), (⟨"QuillDesk$Thought", "<init>", "()V"⟩, prog_11_method_1_code, 1, none, kr_87, kc_87, (2, 381, 11, 380, 0)), (⟨"QuillDesk$Thought", "countFlock", "(II)I"⟩, prog_11_method_2_code, 6, some .int, kr_88, kc_88, (1, 866, 11, 864, 865)), (⟨"QuillDesk$Thought", "setPage", "(LQuillDesk$Row;II)I"⟩, prog_11_method_3_code, 12, some .int, kr_89, kc_89, (1, 888, 11, 886, 887)), (⟨"QuillDesk$Thought", "payStamps", "(LQuillDesk$Row;I)I"⟩, prog_11_method_4_code, 8, some .int, kr_90, kc_90, (1, 901, 11, 899, 900)), (⟨"QuillDesk$Thought", "commonPart", "(II)I"⟩, prog_11_method_5_code, 6, some .int, kr_91, kc_91, (0, 904, 11, 903, 0)), (⟨"QuillDesk$Thought", "scratchDown", "(II)I"⟩, prog_11_method_6_code, 5, some .int, kr_92, kc_92, (0, 914, 11, 913, 0)), (⟨"QuillDesk$Thought", "weighByThrees", "(II)I"⟩, prog_11_method_7_code, 7, some .int, kr_93, kc_93, (0, 922, 11, 921, 0)), (⟨"QuillDesk$Thought", "turnsLeft", "(I)Z"⟩, prog_11_method_8_code, 3, some .boolean, kr_94, kc_94, (0, 932, 11, 931, 0)), (⟨"QuillDesk$Thought", "walkCurve", "(II)I"⟩, prog_11_method_9_code, 9, some .int, kr_95, kc_95, (0, 935, 11, 934, 0)), (⟨"QuillDesk$Thought", "countDots", "([I[II)I"⟩, prog_11_method_10_code, 6, some .int, kr_96, kc_96, (0, 951, 11, 950, 0)), (⟨"QuillDesk$Thought", "cutPlank", "(LQuillDesk$Row;II)I"⟩, prog_11_method_11_code, 12, some .int, kr_97, kc_97, (1, 967, 11, 965, 966)), (⟨"QuillDesk$Thought", "markPlaces", "(LQuillDesk$Row;I)I"⟩, prog_11_method_12_code, 5, some .int, kr_98, kc_98, (1, 971, 11, 970, 100024)), (⟨"QuillDesk$Thought", "compareFrom", "(LQuillDesk$Row;III)I"⟩, prog_11_method_13_code, 6, some .int, kr_99, kc_99, (0, 986, 11, 985, 0))]
def kt_4 : List kQ := [(⟨"QuillDesk$Thought", "leastPlace", "(LQuillDesk$Row;)I"⟩, prog_11_method_14_code, 3, some .int, kr_100, kc_100, (0, 983, 11, 982, 0)), (⟨"QuillDesk$Thought", "sameAgain", "(LQuillDesk$Row;)I"⟩, prog_11_method_15_code, 2, some .int, kr_101, kc_101, (0, 993, 11, 992, 0)), (⟨"QuillDesk$Thought", "unlikeRows", "(LQuillDesk$Row;I)I"⟩, prog_11_method_16_code, 6, some .int, kr_102, kc_102, (0, 996, 11, 995, 0)), (⟨"QuillDesk$Thought", "sail", "(LQuillDesk$Row;I)I"⟩, prog_11_method_17_code, 8, some .int, kr_103, kc_103, (0, 1007, 11, 1006, 0)), (⟨"QuillDesk$Thought", "mirror", "(II)I"⟩, prog_11_method_18_code, 4, some .int, kr_104, kc_104, (0, 1015, 11, 1014, 0)), (⟨"QuillDesk$Thought", "countMirrored", "(II)I"⟩, prog_11_method_19_code, 6, some .int, kr_105, kc_105, (0, 1018, 11, 1017, 0)), (⟨"QuillDesk$Thought", "countOut", "(LQuillDesk$Row;II)I"⟩, prog_11_method_20_code, 10, some .int, kr_106, kc_106, (1, 1031, 11, 1029, 1030)), (⟨"QuillDesk$Thought", "nextThere", "(II)I"⟩, prog_11_method_21_code, 5, some .int, kr_107, kc_107, (1, 1035, 11, 1034, 100025)), (⟨"QuillDesk$Thought", "share", "(LQuillDesk$Row;I[I)V"⟩, prog_11_method_22_code, 9, none, kr_108, kc_108, (1, 1051, 11, 1050, 100026)), (⟨"QuillDesk$Thought", "shareOf", "(LQuillDesk$Row;II)I"⟩, prog_11_method_23_code, 4, some .int, kr_109, kc_109, (1, 1059, 11, 1057, 1058)), (⟨"QuillDesk$Thought", "whoLoses", "(LQuillDesk$Row;I)I"⟩, prog_11_method_24_code, 4, some .int, kr_110, kc_110, (1, 1047, 11, 1045, 1046)), (⟨"QuillDesk", "<init>", "()V"⟩, prog_1_method_1_code, 1, none, kr_111, kc_111, (2, 24, 1, 23, 0)), (⟨"QuillDesk", "state", "(I)I"⟩, prog_1_method_2_code, 3, some .int, kr_112, kc_112, (1, 444, 1, 442, 443)), (⟨"QuillDesk", "quill", "(II)I"⟩, prog_1_method_3_code, 5, some .int, kr_113, kc_113, (1, 452, 1, 450, 451)), (⟨"QuillDesk", "clerk", "(I)I"⟩, prog_1_method_4_code, 4, some .int, kr_114, kc_114, (1, 459, 1, 457, 458)), (⟨"QuillDesk", "deed", "(I)I"⟩, prog_1_method_5_code, 4, some .int, kr_115, kc_115, (1, 463, 1, 461, 462)), (⟨"QuillDesk", "set", "(III)Z"⟩, prog_1_method_6_code, 5, some .boolean, kr_116, kc_116, (1, 467, 1, 465, 466)), (⟨"QuillDesk", "act", "(III)Z"⟩, prog_1_method_7_code, 5, some .boolean, kr_117, kc_117, (1, 479, 1, 477, 478)), (⟨"QuillDesk", "hours", "(I)I"⟩, prog_1_method_8_code, 4, some .int, kr_118, kc_118, (1, 512, 1, 510, 511)), (⟨"QuillDesk", "feed", "(IIIII)I"⟩, prog_1_method_9_code, 6, some .int, kr_119, kc_119, (1, 615, 1, 613, 614)), (⟨"QuillDesk", "end", "(I)Z"⟩, prog_1_method_10_code, 2, some .boolean, kr_120, kc_120, (1, 623, 1, 621, 622)), (⟨"QuillDesk", "text", "(I)I"⟩, prog_1_method_11_code, 4, some .int, kr_121, kc_121, (1, 627, 1, 625, 626)), (⟨"QuillDesk", "fault", "(I)I"⟩, prog_1_method_12_code, 2, some .int, kr_122, kc_122, (1, 798, 1, 796, 797)), (⟨"QuillDesk", "of", "(II)I"⟩, prog_1_method_13_code, 4, some .int, kr_123, kc_123, (1, 802, 1, 800, 801)), (⟨"QuillDesk", "who", "(II)I"⟩, prog_1_method_14_code, 4, some .int, kr_124, kc_124, (1, 809, 1, 807, 808))]
def kt_5 : List kQ := [(⟨"QuillDesk", "deedOf", "(II)I"⟩, prog_1_method_15_code, 4, some .int, kr_125, kc_125, (1, 814, 1, 812, 813)), (⟨"QuillDesk", "book", "(II)I"⟩, prog_1_method_16_code, 4, some .int, kr_126, kc_126, (1, 825, 1, 823, 824)), (⟨"QuillDesk", "goes", "(II)I"⟩, prog_1_method_17_code, 4, some .int, kr_127, kc_127, (1, 829, 1, 827, 828)), (⟨"QuillDesk", "done", "(I)I"⟩, prog_1_method_18_code, 3, some .int, kr_128, kc_128, (1, 849, 1, 847, 848)), (⟨"QuillDesk", "soon", "(II)I"⟩, prog_1_method_19_code, 3, some .int, kr_129, kc_129, (1, 854, 1, 852, 853)), (⟨"QuillDesk", "flock", "(II)I"⟩, prog_1_method_20_code, 3, some .int, kr_130, kc_130, (1, 862, 1, 860, 861)), (⟨"QuillDesk", "letters", "(I)I"⟩, prog_1_method_21_code, 2, some .int, kr_131, kc_131, (1, 871, 1, 869, 870)), (⟨"QuillDesk", "page", "(II)I"⟩, prog_1_method_22_code, 3, some .int, kr_132, kc_132, (1, 884, 1, 882, 883)), (⟨"QuillDesk", "stamp", "(I)I"⟩, prog_1_method_23_code, 2, some .int, kr_133, kc_133, (1, 893, 1, 891, 892)), (⟨"QuillDesk", "stamps", "(I)I"⟩, prog_1_method_24_code, 2, some .int, kr_134, kc_134, (1, 897, 1, 895, 896)), (⟨"QuillDesk", "scratch", "(II)I"⟩, prog_1_method_25_code, 3, some .int, kr_135, kc_135, (1, 911, 1, 909, 910)), (⟨"QuillDesk", "threes", "(II)I"⟩, prog_1_method_26_code, 3, some .int, kr_136, kc_136, (1, 919, 1, 917, 918)), (⟨"QuillDesk", "curve", "(III)I"⟩, prog_1_method_27_code, 5, some .int, kr_137, kc_137, (1, 929, 1, 927, 928)), (⟨"QuillDesk", "quire", "(III)I"⟩, prog_1_method_28_code, 4, some .int, kr_138, kc_138, (1, 940, 1, 938, 939)), (⟨"QuillDesk", "dot", "(III)Z"⟩, prog_1_method_29_code, 4, some .boolean, kr_139, kc_139, (1, 944, 1, 942, 943)), (⟨"QuillDesk", "dots", "(I)I"⟩, prog_1_method_30_code, 2, some .int, kr_140, kc_140, (1, 948, 1, 946, 947)), (⟨"QuillDesk", "cut", "(I)I"⟩, prog_1_method_31_code, 2, some .int, kr_141, kc_141, (1, 955, 1, 953, 954)), (⟨"QuillDesk", "planks", "(II)I"⟩, prog_1_method_32_code, 3, some .int, kr_142, kc_142, (1, 963, 1, 961, 962)), (⟨"QuillDesk", "sign", "(I)I"⟩, prog_1_method_33_code, 2, some .int, kr_143, kc_143, (1, 976, 1, 974, 975)), (⟨"QuillDesk", "read", "(I)I"⟩, prog_1_method_34_code, 2, some .int, kr_144, kc_144, (1, 980, 1, 978, 979)), (⟨"QuillDesk", "leg", "(I)I"⟩, prog_1_method_35_code, 2, some .int, kr_145, kc_145, (1, 1000, 1, 998, 999)), (⟨"QuillDesk", "line", "(I)I"⟩, prog_1_method_36_code, 2, some .int, kr_146, kc_146, (1, 1004, 1, 1002, 1003)), (⟨"QuillDesk", "water", "(III)I"⟩, prog_1_method_37_code, 4, some .int, kr_147, kc_147, (1, 1011, 1, 1009, 1010)), (⟨"QuillDesk", "weight", "(I)I"⟩, prog_1_method_38_code, 2, some .int, kr_148, kc_148, (1, 1023, 1, 1021, 1022)), (⟨"QuillDesk", "lift", "(II)I"⟩, prog_1_method_39_code, 3, some .int, kr_149, kc_149, (1, 1027, 1, 1025, 1026))]
def kt_6 : List kQ := [(⟨"QuillDesk", "heir", "(I)I"⟩, prog_1_method_40_code, 2, some .int, kr_150, kc_150, (1, 1039, 1, 1037, 1038)), (⟨"QuillDesk", "seal", "(II)I"⟩, prog_1_method_41_code, 3, some .int, kr_151, kc_151, (1, 1043, 1, 1041, 1042)), (⟨"QuillDesk", "game", "(II)I"⟩, prog_1_method_42_code, 3, some .int, kr_152, kc_152, (1, 1063, 1, 1061, 1062)), (⟨"QuillDesk", "undo", "()Z"⟩, prog_1_method_43_code, 1, some .boolean, kr_153, kc_153, (1, 1087, 1, 1085, 1086)), (⟨"QuillDesk", "image", "(Z)Z"⟩, prog_1_method_44_code, 2, some .boolean, kr_154, kc_154, (1, 1095, 1, 1093, 1094)), (⟨"QuillDesk", "look", "(I)I"⟩, prog_1_method_45_code, 3, some .int, kr_155, kc_155, (1, 1117, 1, 1115, 1116)), (⟨"QuillDesk", "within", "(III)Z"⟩, prog_1_method_46_code, 3, some .boolean, kr_156, kc_156, (0, 455, 1, 454, 0)), (⟨"QuillDeskModel", "<init>", "()V"⟩, prog_13_method_1_code, 1, none, kr_157, kc_157, (2, 1123, 13, 1122, 0)), (⟨"QuillDeskModel", "isIn", "(III)Z"⟩, prog_13_method_3_code, 4, some .boolean, kr_158, kc_158, (1, 1369, 13, 1368, 100028)), (⟨"QuillDeskModel", "held", "(III)I"⟩, prog_13_method_4_code, 4, some .int, kr_159, kc_159, (1, 1633, 13, 1632, 100085)), (⟨"QuillDeskModel", "greater", "(II)I"⟩, prog_13_method_5_code, 3, some .int, kr_160, kc_160, (1, 1719, 13, 1718, 100099)), (⟨"QuillDeskModel", "lesser", "(II)I"⟩, prog_13_method_6_code, 3, some .int, kr_161, kc_161, (1, 1663, 13, 1662, 100092)), (⟨"QuillDeskModel", "plain", "(I)I"⟩, prog_13_method_7_code, 2, some .int, kr_162, kc_162, (1, 1748, 13, 1747, 100101)), (⟨"QuillDeskModel", "common", "(II)I"⟩, prog_13_method_8_code, 6, some .int, kr_163, kc_163, (1, 1744, 13, 1743, 100100)), (⟨"QuillDeskModel", "onesOf", "(I)I"⟩, prog_13_method_9_code, 4, some .int, kr_164, kc_164, (1, 1699, 13, 1698, 100096)), (⟨"QuillDeskModel", "has", "(II)Z"⟩, prog_13_method_10_code, 3, some .boolean, kr_165, kc_165, (1, 1715, 13, 1714, 100098)), (⟨"QuillDeskModel", "keepsAhead", "()V"⟩, prog_13_method_11_code, 2, none, kr_166, kc_166, (1, 1577, 13, 1576, 100072)), (⟨"QuillDeskModel", "undo", "()Z"⟩, prog_13_method_12_code, 2, some .boolean, kr_167, kc_167, (1, 1357, 13, 1355, 1356)), (⟨"QuillDeskModel", "thinks", "()V"⟩, prog_13_method_13_code, 2, none, kr_168, kc_168, (1, 1691, 13, 1690, 100094)), (⟨"QuillDeskModel", "endsThought", "()V"⟩, prog_13_method_14_code, 2, none, kr_169, kc_169, (1, 1703, 13, 1702, 100097)), (⟨"QuillDeskModel", "state", "(I)I"⟩, prog_13_method_15_code, 3, some .int, kr_170, kc_170, (1, 1361, 13, 1359, 1360)), (⟨"QuillDeskModel", "draw", "(I)I"⟩, prog_13_method_16_code, 2, some .int, kr_171, kc_171, (1, 1641, 13, 1640, 100087)), (⟨"QuillDeskModel", "isQuill", "(I)Z"⟩, prog_13_method_17_code, 2, some .boolean, kr_172, kc_172, (1, 1389, 13, 1388, 100030)), (⟨"QuillDeskModel", "isClerk", "(I)Z"⟩, prog_13_method_18_code, 2, some .boolean, kr_173, kc_173, (1, 1385, 13, 1384, 100029)), (⟨"QuillDeskModel", "isDeed", "(I)Z"⟩, prog_13_method_19_code, 2, some .boolean, kr_174, kc_174, (1, 1569, 13, 1568, 100070))]
def kt_7 : List kQ := [(⟨"QuillDeskModel", "holds", "(I)I"⟩, prog_13_method_20_code, 2, some .int, kr_175, kc_175, (1, 1549, 13, 1548, 100065)), (⟨"QuillDeskModel", "atDeed", "(I)I"⟩, prog_13_method_21_code, 2, some .int, kr_176, kc_176, (1, 1565, 13, 1564, 100069)), (⟨"QuillDeskModel", "isGone", "(I)Z"⟩, prog_13_method_22_code, 2, some .boolean, kr_177, kc_177, (1, 1557, 13, 1556, 100067)), (⟨"QuillDeskModel", "isDone", "(I)Z"⟩, prog_13_method_23_code, 2, some .boolean, kr_178, kc_178, (1, 1573, 13, 1572, 100071)), (⟨"QuillDeskModel", "whoHolds", "(I)I"⟩, prog_13_method_24_code, 3, some .int, kr_179, kc_179, (1, 1561, 13, 1560, 100068)), (⟨"QuillDeskModel", "doneSet", "()I"⟩, prog_13_method_25_code, 3, some .int, kr_180, kc_180, (1, 1597, 13, 1596, 100076)), (⟨"QuillDeskModel", "canBeWritten", "(I)Z"⟩, prog_13_method_26_code, 2, some .boolean, kr_181, kc_181, (1, 1593, 13, 1592, 100075)), (⟨"QuillDeskModel", "quill", "(II)I"⟩, prog_13_method_27_code, 3, some .int, kr_182, kc_182, (1, 1365, 13, 1363, 1364)), (⟨"QuillDeskModel", "clerk", "(I)I"⟩, prog_13_method_28_code, 3, some .int, kr_183, kc_183, (1, 1373, 13, 1371, 1372)), (⟨"QuillDeskModel", "deed", "(I)I"⟩, prog_13_method_29_code, 2, some .int, kr_184, kc_184, (1, 1377, 13, 1375, 1376)), (⟨"QuillDeskModel", "set", "(III)Z"⟩, prog_13_method_30_code, 5, some .boolean, kr_185, kc_185, (1, 1381, 13, 1379, 1380)), (⟨"QuillDeskModel", "types", "(I)V"⟩, prog_13_method_31_code, 3, none, kr_186, kc_186, (1, 1397, 13, 1396, 100031)), (⟨"QuillDeskModel", "feed", "(IIIII)I"⟩, prog_13_method_32_code, 6, some .int, kr_187, kc_187, (1, 1393, 13, 1391, 1392)), (⟨"QuillDeskModel", "end", "(I)Z"⟩, prog_13_method_33_code, 2, some .boolean, kr_188, kc_188, (1, 1401, 13, 1399, 1400)), (⟨"QuillDeskModel", "raw", "(I)I"⟩, prog_13_method_34_code, 2, some .int, kr_189, kc_189, (1, 1417, 13, 1416, 100034)), (⟨"QuillDeskModel", "isLetter", "(I)Z"⟩, prog_13_method_35_code, 2, some .boolean, kr_190, kc_190, (1, 1421, 13, 1420, 100035)), (⟨"QuillDeskModel", "isDigit", "(I)Z"⟩, prog_13_method_36_code, 2, some .boolean, kr_191, kc_191, (1, 1429, 13, 1428, 100037)), (⟨"QuillDeskModel", "isMarkSign", "(I)Z"⟩, prog_13_method_37_code, 2, some .boolean, kr_192, kc_192, (1, 1433, 13, 1432, 100038)), (⟨"QuillDeskModel", "wordAt", "(II)I"⟩, prog_13_method_38_code, 6, some .int, kr_193, kc_193, (1, 1425, 13, 1424, 100036)), (⟨"QuillDeskModel", "reads", "()V"⟩, prog_13_method_39_code, 2, none, kr_194, kc_194, (1, 1413, 13, 1412, 100033)), (⟨"QuillDeskModel", "errs", "(I)I"⟩, prog_13_method_40_code, 2, some .int, kr_195, kc_195, (1, 1445, 13, 1444, 100041)), (⟨"QuillDeskModel", "isWord", "(I)Z"⟩, prog_13_method_41_code, 2, some .boolean, kr_196, kc_196, (1, 1441, 13, 1440, 100040)), (⟨"QuillDeskModel", "isSign", "(I)Z"⟩, prog_13_method_42_code, 2, some .boolean, kr_197, kc_197, (1, 1465, 13, 1464, 100046)), (⟨"QuillDeskModel", "emits", "(II)V"⟩, prog_13_method_43_code, 3, none, kr_198, kc_198, (1, 1509, 13, 1508, 100057)), (⟨"QuillDeskModel", "canAsk", "(I)Z"⟩, prog_13_method_44_code, 2, some .boolean, kr_199, kc_199, (1, 1505, 13, 1504, 100056))]
def kt_8 : List kQ := [(⟨"QuillDeskModel", "readUnit", "()I"⟩, prog_13_method_45_code, 2, some .int, kr_200, kc_200, (1, 1501, 13, 1500, 100055)), (⟨"QuillDeskModel", "readProduct", "()I"⟩, prog_13_method_46_code, 2, some .int, kr_201, kc_201, (1, 1497, 13, 1496, 100054)), (⟨"QuillDeskModel", "readSum", "()I"⟩, prog_13_method_47_code, 2, some .int, kr_202, kc_202, (1, 1493, 13, 1492, 100053)), (⟨"QuillDeskModel", "readCompared", "()I"⟩, prog_13_method_48_code, 2, some .int, kr_203, kc_203, (1, 1521, 13, 1520, 100060)), (⟨"QuillDeskModel", "waits", "(I)V"⟩, prog_13_method_49_code, 2, none, kr_204, kc_204, (1, 1517, 13, 1516, 100059)), (⟨"QuillDeskModel", "settles", "(I)V"⟩, prog_13_method_50_code, 2, none, kr_205, kc_205, (1, 1525, 13, 1524, 100061)), (⟨"QuillDeskModel", "readAny", "()I"⟩, prog_13_method_51_code, 4, some .int, kr_206, kc_206, (1, 1513, 13, 1512, 100058)), (⟨"QuillDeskModel", "isLineWord", "()Z"⟩, prog_13_method_52_code, 1, some .boolean, kr_207, kc_207, (1, 1489, 13, 1488, 100052)), (⟨"QuillDeskModel", "readLaw", "()I"⟩, prog_13_method_53_code, 3, some .int, kr_208, kc_208, (1, 1485, 13, 1484, 100051)), (⟨"QuillDeskModel", "takesLaw", "(I)V"⟩, prog_13_method_54_code, 3, none, kr_209, kc_209, (1, 1529, 13, 1528, 100062)), (⟨"QuillDeskModel", "readNumber", "(II)I"⟩, prog_13_method_55_code, 4, some .int, kr_210, kc_210, (1, 1457, 13, 1456, 100044)), (⟨"QuillDeskModel", "readMark", "(I)I"⟩, prog_13_method_56_code, 2, some .int, kr_211, kc_211, (1, 1461, 13, 1460, 100045)), (⟨"QuillDeskModel", "readTold", "(III)I"⟩, prog_13_method_57_code, 4, some .int, kr_212, kc_212, (1, 1453, 13, 1452, 100043)), (⟨"QuillDeskModel", "readOrder", "(I)I"⟩, prog_13_method_58_code, 3, some .int, kr_213, kc_213, (1, 1449, 13, 1448, 100042)), (⟨"QuillDeskModel", "readOrders", "()I"⟩, prog_13_method_59_code, 2, some .int, kr_214, kc_214, (1, 1437, 13, 1436, 100039)), (⟨"QuillDeskModel", "readBird", "()I"⟩, prog_13_method_60_code, 4, some .int, kr_215, kc_215, (1, 1473, 13, 1472, 100048)), (⟨"QuillDeskModel", "readBirds", "()I"⟩, prog_13_method_61_code, 2, some .int, kr_216, kc_216, (1, 1469, 13, 1468, 100047)), (⟨"QuillDeskModel", "readAfterOne", "()I"⟩, prog_13_method_62_code, 3, some .int, kr_217, kc_217, (1, 1481, 13, 1480, 100050)), (⟨"QuillDeskModel", "readAfter", "()I"⟩, prog_13_method_63_code, 2, some .int, kr_218, kc_218, (1, 1477, 13, 1476, 100049)), (⟨"QuillDeskModel", "readsText", "(I)I"⟩, prog_13_method_64_code, 2, some .int, kr_219, kc_219, (1, 1409, 13, 1408, 100032)), (⟨"QuillDeskModel", "takesOther", "(II)V"⟩, prog_13_method_65_code, 4, none, kr_220, kc_220, (1, 1533, 13, 1532, 100063)), (⟨"QuillDeskModel", "text", "(I)I"⟩, prog_13_method_66_code, 3, some .int, kr_221, kc_221, (1, 1405, 13, 1403, 1404)), (⟨"QuillDeskModel", "fault", "(I)I"⟩, prog_13_method_67_code, 2, some .int, kr_222, kc_222, (1, 1537, 13, 1535, 1536)), (⟨"QuillDeskModel", "twoOf", "(III)I"⟩, prog_13_method_68_code, 4, some .int, kr_223, kc_223, (1, 1629, 13, 1628, 100084)), (⟨"QuillDeskModel", "runs", "(III)I"⟩, prog_13_method_69_code, 6, some .int, kr_224, kc_224, (1, 1625, 13, 1624, 100083))]
def kt_9 : List kQ := [(⟨"QuillDeskModel", "lineOf", "(I)I"⟩, prog_13_method_70_code, 3, some .int, kr_225, kc_225, (1, 1621, 13, 1620, 100082)), (⟨"QuillDeskModel", "fineOf", "(I)I"⟩, prog_13_method_71_code, 2, some .int, kr_226, kc_226, (1, 1613, 13, 1612, 100080)), (⟨"QuillDeskModel", "asks", "(I)V"⟩, prog_13_method_72_code, 4, none, kr_227, kc_227, (1, 1609, 13, 1608, 100079)), (⟨"QuillDeskModel", "lawTells", "(III)I"⟩, prog_13_method_73_code, 5, some .int, kr_228, kc_228, (1, 1617, 13, 1616, 100081)), (⟨"QuillDeskModel", "writesOf", "(I)I"⟩, prog_13_method_74_code, 2, some .int, kr_229, kc_229, (1, 1659, 13, 1658, 100091)), (⟨"QuillDeskModel", "blotsOf", "(I)I"⟩, prog_13_method_75_code, 2, some .int, kr_230, kc_230, (1, 1651, 13, 1650, 100089)), (⟨"QuillDeskModel", "liftsOf", "(I)I"⟩, prog_13_method_76_code, 2, some .int, kr_231, kc_231, (1, 1605, 13, 1604, 100078)), (⟨"QuillDeskModel", "notes", "(III)V"⟩, prog_13_method_77_code, 5, none, kr_232, kc_232, (1, 1647, 13, 1646, 100088)), (⟨"QuillDeskModel", "canTake", "(II)Z"⟩, prog_13_method_78_code, 3, some .boolean, kr_233, kc_233, (1, 1553, 13, 1552, 100066)), (⟨"QuillDeskModel", "canAct", "(III)Z"⟩, prog_13_method_79_code, 5, some .boolean, kr_234, kc_234, (1, 1545, 13, 1544, 100064)), (⟨"QuillDeskModel", "act", "(III)Z"⟩, prog_13_method_80_code, 4, some .boolean, kr_235, kc_235, (1, 1541, 13, 1539, 1540)), (⟨"QuillDeskModel", "happens", "(I)Z"⟩, prog_13_method_81_code, 2, some .boolean, kr_236, kc_236, (1, 1637, 13, 1636, 100086)), (⟨"QuillDeskModel", "does", "(I)V"⟩, prog_13_method_82_code, 6, none, kr_237, kc_237, (1, 1589, 13, 1588, 100074)), (⟨"QuillDeskModel", "isSigned", "(II)V"⟩, prog_13_method_83_code, 4, none, kr_238, kc_238, (1, 1667, 13, 1666, 100093)), (⟨"QuillDeskModel", "writesOn", "(III)I"⟩, prog_13_method_84_code, 6, some .int, kr_239, kc_239, (1, 1655, 13, 1654, 100090)), (⟨"QuillDeskModel", "worksOn", "(I)I"⟩, prog_13_method_85_code, 5, some .int, kr_240, kc_240, (1, 1601, 13, 1600, 100077)), (⟨"QuillDeskModel", "goesBy", "()I"⟩, prog_13_method_86_code, 3, some .int, kr_241, kc_241, (1, 1585, 13, 1584, 100073)), (⟨"QuillDeskModel", "hours", "(I)I"⟩, prog_13_method_87_code, 4, some .int, kr_242, kc_242, (1, 1581, 13, 1579, 1580)), (⟨"QuillDeskModel", "of", "(II)I"⟩, prog_13_method_88_code, 3, some .int, kr_243, kc_243, (1, 1671, 13, 1669, 1670)), (⟨"QuillDeskModel", "who", "(II)I"⟩, prog_13_method_89_code, 3, some .int, kr_244, kc_244, (1, 1675, 13, 1673, 1674)), (⟨"QuillDeskModel", "deedOf", "(II)I"⟩, prog_13_method_90_code, 5, some .int, kr_245, kc_245, (1, 1679, 13, 1677, 1678)), (⟨"QuillDeskModel", "book", "(II)I"⟩, prog_13_method_91_code, 3, some .int, kr_246, kc_246, (1, 1683, 13, 1681, 1682)), (⟨"QuillDeskModel", "sumOf", "(II)I"⟩, prog_13_method_92_code, 5, some .int, kr_247, kc_247, (1, 1695, 13, 1694, 100095)), (⟨"QuillDeskModel", "goes", "(II)I"⟩, prog_13_method_93_code, 4, some .int, kr_248, kc_248, (1, 1687, 13, 1685, 1686)), (⟨"QuillDeskModel", "done", "(I)I"⟩, prog_13_method_94_code, 3, some .int, kr_249, kc_249, (1, 1707, 13, 1705, 1706))]
def kt_10 : List kQ := [(⟨"QuillDeskModel", "soon", "(II)I"⟩, prog_13_method_95_code, 7, some .int, kr_250, kc_250, (1, 1711, 13, 1709, 1710)), (⟨"QuillDeskModel", "flock", "(II)I"⟩, prog_13_method_96_code, 8, some .int, kr_251, kc_251, (1, 1723, 13, 1721, 1722)), (⟨"QuillDeskModel", "letters", "(I)I"⟩, prog_13_method_97_code, 2, some .int, kr_252, kc_252, (1, 1727, 13, 1725, 1726)), (⟨"QuillDeskModel", "page", "(II)I"⟩, prog_13_method_98_code, 8, some .int, kr_253, kc_253, (1, 1731, 13, 1729, 1730)), (⟨"QuillDeskModel", "stamp", "(I)I"⟩, prog_13_method_99_code, 2, some .int, kr_254, kc_254, (1, 1736, 13, 1734, 1735)), (⟨"QuillDeskModel", "stamps", "(I)I"⟩, prog_13_method_100_code, 7, some .int, kr_255, kc_255, (1, 1740, 13, 1738, 1739)), (⟨"QuillDeskModel", "scratch", "(II)I"⟩, prog_13_method_101_code, 6, some .int, kr_256, kc_256, (1, 1752, 13, 1750, 1751)), (⟨"QuillDeskModel", "threes", "(II)I"⟩, prog_13_method_102_code, 7, some .int, kr_257, kc_257, (1, 1756, 13, 1754, 1755)), (⟨"QuillDeskModel", "turnsLeft", "(I)Z"⟩, prog_13_method_103_code, 3, some .boolean, kr_258, kc_258, (1, 1764, 13, 1763, 100102)), (⟨"QuillDeskModel", "curve", "(III)I"⟩, prog_13_method_104_code, 8, some .int, kr_259, kc_259, (1, 1760, 13, 1758, 1759)), (⟨"QuillDeskModel", "quire", "(III)I"⟩, prog_13_method_105_code, 4, some .int, kr_260, kc_260, (1, 1768, 13, 1766, 1767)), (⟨"QuillDeskModel", "dot", "(III)Z"⟩, prog_13_method_106_code, 4, some .boolean, kr_261, kc_261, (1, 1772, 13, 1770, 1771)), (⟨"QuillDeskModel", "stepsBetween", "(II)I"⟩, prog_13_method_107_code, 3, some .int, kr_262, kc_262, (1, 1780, 13, 1779, 100103)), (⟨"QuillDeskModel", "dots", "(I)I"⟩, prog_13_method_108_code, 3, some .int, kr_263, kc_263, (1, 1776, 13, 1774, 1775)), (⟨"QuillDeskModel", "isCut", "(I)Z"⟩, prog_13_method_109_code, 2, some .boolean, kr_264, kc_264, (1, 1788, 13, 1787, 100104)), (⟨"QuillDeskModel", "cut", "(I)I"⟩, prog_13_method_110_code, 2, some .int, kr_265, kc_265, (1, 1784, 13, 1782, 1783)), (⟨"QuillDeskModel", "plankWith", "(III)I"⟩, prog_13_method_111_code, 4, some .int, kr_266, kc_266, (1, 1796, 13, 1795, 100105)), (⟨"QuillDeskModel", "planks", "(II)I"⟩, prog_13_method_112_code, 8, some .int, kr_267, kc_267, (1, 1792, 13, 1790, 1791)), (⟨"QuillDeskModel", "sign", "(I)I"⟩, prog_13_method_113_code, 2, some .int, kr_268, kc_268, (1, 1800, 13, 1798, 1799)), (⟨"QuillDeskModel", "compares", "(III)I"⟩, prog_13_method_114_code, 6, some .int, kr_269, kc_269, (1, 1812, 13, 1811, 100107)), (⟨"QuillDeskModel", "unlikeRows", "(I)I"⟩, prog_13_method_115_code, 6, some .int, kr_270, kc_270, (1, 1808, 13, 1807, 100106)), (⟨"QuillDeskModel", "read", "(I)I"⟩, prog_13_method_116_code, 4, some .int, kr_271, kc_271, (1, 1804, 13, 1802, 1803)), (⟨"QuillDeskModel", "leg", "(I)I"⟩, prog_13_method_117_code, 2, some .int, kr_272, kc_272, (1, 1816, 13, 1814, 1815)), (⟨"QuillDeskModel", "line", "(I)I"⟩, prog_13_method_118_code, 8, some .int, kr_273, kc_273, (1, 1820, 13, 1818, 1819)), (⟨"QuillDeskModel", "mirrored", "(II)I"⟩, prog_13_method_119_code, 5, some .int, kr_274, kc_274, (1, 1829, 13, 1828, 100108))]
def kt_11 : List kQ := [(⟨"QuillDeskModel", "water", "(III)I"⟩, prog_13_method_120_code, 6, some .int, kr_275, kc_275, (1, 1824, 13, 1822, 1823)), (⟨"QuillDeskModel", "weight", "(I)I"⟩, prog_13_method_121_code, 2, some .int, kr_276, kc_276, (1, 1833, 13, 1831, 1832)), (⟨"QuillDeskModel", "lift", "(II)I"⟩, prog_13_method_122_code, 7, some .int, kr_277, kc_277, (1, 1837, 13, 1835, 1836)), (⟨"QuillDeskModel", "heir", "(I)I"⟩, prog_13_method_123_code, 2, some .int, kr_278, kc_278, (1, 1841, 13, 1839, 1840)), (⟨"QuillDeskModel", "sealOf", "(II)I"⟩, prog_13_method_124_code, 9, some .int, kr_279, kc_279, (1, 1849, 13, 1848, 100109)), (⟨"QuillDeskModel", "seal", "(II)I"⟩, prog_13_method_125_code, 4, some .int, kr_280, kc_280, (1, 1845, 13, 1843, 1844)), (⟨"QuillDeskModel", "boxOf", "(I)I"⟩, prog_13_method_126_code, 4, some .int, kr_281, kc_281, (1, 1870, 13, 1869, 100113)), (⟨"QuillDeskModel", "closedBy", "(II)I"⟩, prog_13_method_127_code, 5, some .int, kr_282, kc_282, (1, 1866, 13, 1865, 100112)), (⟨"QuillDeskModel", "moreWith", "(II)I"⟩, prog_13_method_128_code, 5, some .int, kr_283, kc_283, (1, 1862, 13, 1861, 100111)), (⟨"QuillDeskModel", "findsMore", "(I)V"⟩, prog_13_method_129_code, 4, none, kr_284, kc_284, (1, 1857, 13, 1856, 100110)), (⟨"QuillDeskModel", "game", "(II)I"⟩, prog_13_method_130_code, 4, some .int, kr_285, kc_285, (1, 1853, 13, 1851, 1852)), (⟨"QuillDeskModel", "keeps", "(I)I"⟩, prog_13_method_131_code, 2, some .int, kr_286, kc_286, (1, 1878, 13, 1877, 100114)), (⟨"QuillDeskModel", "keepsLaw", "()V"⟩, prog_13_method_132_code, 2, none, kr_287, kc_287, (1, 1890, 13, 1889, 100117)), (⟨"QuillDeskModel", "keepsMany", "()V"⟩, prog_13_method_133_code, 1, none, kr_288, kc_288, (1, 1882, 13, 1881, 100115)), (⟨"QuillDeskModel", "keepsTold", "()V"⟩, prog_13_method_134_code, 2, none, kr_289, kc_289, (1, 1886, 13, 1885, 100116)), (⟨"QuillDeskModel", "image", "(Z)Z"⟩, prog_13_method_135_code, 3, some .boolean, kr_290, kc_290, (1, 1874, 13, 1872, 1873)), (⟨"QuillDeskModel", "look", "(I)I"⟩, prog_13_method_136_code, 2, some .int, kr_291, kc_291, (1, 1894, 13, 1892, 1893)), (⟨"java/lang/Integer", "bitCount", "(I)I"⟩, prog_14_method_49_code, 1, some .int, kr_292, kc_292, (0, 842, 19, 841, 0)), (⟨"java/lang/Math", "floorMod", "(II)I"⟩, prog_15_method_50_code, 3, some .int, kr_293, kc_293, (0, 925, 8, 924, 0)), (⟨"java/lang/Math", "abs", "(I)I"⟩, prog_15_method_59_code, 1, some .int, kr_294, kc_294, (0, 907, 8, 906, 0)), (⟨"java/lang/Math", "max", "(II)I"⟩, prog_15_method_65_code, 2, some .int, kr_295, kc_295, (0, 576, 8, 575, 0)), (⟨"java/lang/Math", "min", "(II)I"⟩, prog_15_method_69_code, 2, some .int, kr_296, kc_296, (0, 228, 8, 227, 0)), (⟨"java/lang/String", "length", "()I"⟩, prog_16_method_54_code, 1, some .int, kr_297, kc_297, (1, 659, 15, 657, 658)), (⟨"java/lang/String", "charAt", "(I)C"⟩, prog_16_method_56_code, 2, some .char, kr_298, kc_298, (1, 669, 15, 667, 668)), (⟨"java/lang/String", "coder", "()B"⟩, prog_16_method_152_code, 1, some .byte, kr_299, kc_299, (1, 663, 15, 661, 662))]
def kt_12 : List kQ := [(⟨"java/lang/String", "isLatin1", "()Z"⟩, prog_16_method_154_code, 1, some .boolean, kr_300, kc_300, (1, 673, 15, 671, 672)), (⟨"java/lang/String", "checkIndex", "(II)V"⟩, prog_16_method_155_code, 2, none, kr_301, kc_301, (0, 679, 15, 678, 0)), (⟨"java/lang/StringLatin1", "charAt", "([BI)C"⟩, prog_17_method_2_code, 2, some .char, kr_302, kc_302, (0, 676, 16, 675, 0)), (⟨"jdk/internal/util/Preconditions", "checkIndex", "(IILjava/util/function/BiFunction;)I"⟩, prog_20_method_11_code, 3, some .int, kr_303, kc_303, (0, 684, 17, 683, 0)), (⟨"QuillDeskLaw", "law", "([I)Z"⟩, code, 4, some .boolean, kr_304, kc_304, (3, 0, 0, 0, 0))]
def kt : List kQ := kt_0 ++ (kt_1 ++ (kt_2 ++ (kt_3 ++ (kt_4 ++ (kt_5 ++ (kt_6 ++ (kt_7 ++ (kt_8 ++ (kt_9 ++ (kt_10 ++ (kt_11 ++ (kt_12))))))))))))
def kt_c : List (Nat × Nat) := [(4, 600), (0, 0), (0, 0), (1, 4096), (0, 0), (0, 0), (0, 0), (0, 0), (58, 1632), (0, 0), (0, 0), (0, 0), (0, 0), (0, 0), (0, 0), (0, 0), (0, 0), (0, 0), (0, 0), (0, 0), (12, 142), (0, 0), (0, 0), (0, 0), (0, 0), (0, 0), (0, 0), (0, 0), (0, 0), (0, 0), (0, 0), (0, 0), (0, 0), (0, 0), (0, 0), (0, 0), (0, 0), (0, 0), (8, 544), (0, 0), (0, 0), (0, 0), (0, 0), (0, 0), (0, 0), (0, 0), (0, 0), (80, 972), (0, 0), (0, 0), (0, 0), (17, 1818), (0, 0), (0, 0), (0, 0), (0, 0), (0, 0), (0, 0), (0, 0), (0, 0), (0, 0), (0, 0), (0, 0), (0, 0), (0, 0), (0, 0), (0, 0), (0, 0), (0, 0), (0, 0), (0, 0), (0, 0), (0, 0), (0, 0), (0, 0), (0, 0), (0, 0), (1, 12), (0, 0), (0, 0), (0, 0), (0, 0), (0, 0), (0, 0), (4, 64), (0, 0), (0, 0), (6, 1161), (0, 0), (0, 0), (0, 0), (0, 0), (0, 0), (0, 0), (0, 0), (0, 0), (0, 0), (0, 0), (0, 0), (0, 0), (0, 0), (0, 0), (0, 0), (0, 0), (0, 0), (0, 0), (0, 0), (0, 0), (0, 0), (0, 0), (0, 0), (239, 11524), (0, 0), (0, 0), (0, 0), (0, 0), (0, 0), (0, 0), (0, 0), (0, 0), (0, 0), (0, 0), (0, 0), (0, 0), (0, 0), (0, 0), (0, 0), (0, 0), (0, 0), (0, 0), (0, 0), (0, 0), (0, 0), (0, 0), (0, 0), (0, 0), (0, 0), (0, 0), (0, 0), (0, 0), (0, 0), (0, 0), (0, 0), (0, 0), (0, 0), (0, 0), (0, 0), (0, 0), (0, 0), (0, 0), (0, 0), (0, 0), (0, 0), (0, 0), (0, 0), (0, 0), (0, 0), (42, 13976), (0, 0), (0, 0), (0, 0), (0, 0), (0, 0), (0, 0), (0, 0), (0, 0), (0, 0), (0, 0), (0, 0), (0, 0), (0, 0), (0, 0), (0, 0), (0, 0), (0, 0), (0, 0), (0, 0), (0, 0), (0, 0), (0, 0), (0, 0), (0, 0), (0, 0), (0, 0), (0, 0), (0, 0), (0, 0), (0, 0), (0, 0), (0, 0), (0, 0), (0, 0), (0, 0), (0, 0), (0, 0), (0, 0), (0, 0), (0, 0), (0, 0), (0, 0), (0, 0), (0, 0), (0, 0), (0, 0), (0, 0), (0, 0), (0, 0), (0, 0), (0, 0), (0, 0), (0, 0), (0, 0), (0, 0), (0, 0), (0, 0), (0, 0), (0, 0), (0, 0), (0, 0), (0, 0), (0, 0), (0, 0), (0, 0), (0, 0), (0, 0), (0, 0), (0, 0), (0, 0), (0, 0), (0, 0), (0, 0), (0, 0), (0, 0), (0, 0), (0, 0), (0, 0), (0, 0), (0, 0), (0, 0), (0, 0), (0, 0), (0, 0), (0, 0), (0, 0), (0, 0), (0, 0), (0, 0), (0, 0), (0, 0), (0, 0), (0, 0), (0, 0), (0, 0), (0, 0), (0, 0), (0, 0), (0, 0), (0, 0), (0, 0), (0, 0), (0, 0), (0, 0), (0, 0), (0, 0), (0, 0), (0, 0), (0, 0), (0, 0), (0, 0), (0, 0), (0, 0), (0, 0), (0, 0), (0, 0), (0, 0), (0, 0), (0, 0), (0, 0), (0, 0), (0, 0), (0, 0), (0, 0), (0, 0), (0, 0), (0, 0), (0, 0), (0, 0), (0, 0), (0, 0), (0, 0), (0, 0), (0, 0), (0, 0), (0, 0), (0, 0), (0, 0), (0, 0), (0, 0), (0, 0), (0, 0), (0, 0), (0, 0), (0, 0), (0, 0), (0, 0)]
def kQ0 : kQ := (⟨"", "", ""⟩, code, 0, none, [], [], 9, 0, 0, 0, 0)
def kN (y : Nat) : MethodName := (kt.getD y kQ0).1
def kB (y : Nat) : ByteArray := (kt.getD y kQ0).2.1
def kL (y : Nat) : Nat := (kt.getD y kQ0).2.2.1
def kT (y : Nat) : Option FieldType := (kt.getD y kQ0).2.2.2.1
def kR (y : Nat) : List (Nat × Nat × Nat × Nat) := (kt.getD y kQ0).2.2.2.2.1
def kC (y : Nat) : List Instr := (kt.getD y kQ0).2.2.2.2.2.1
def kpl (R : List (Nat × Nat × Nat × Nat)) (z i : Nat) : Nat := (R[i]?.map (fun q => q.1)).getD z
def kK (y : Nat) : Nat × Nat × Nat × Nat × Nat := (kt.getD y kQ0).2.2.2.2.2.2
def kc_c (y : Nat) : Nat × Nat := kt_c.getD y (0, 0)
/-- the place in the bytes of instruction i -/
def kP (y i : Nat) : Nat := kpl (kR y) (kB y).size i
def kq_y (q : Nat) : Nat := q / 2000
def kq_c (q : Nat) : Nat := q / 20 % 100
def kq_n (q : Nat) : Nat := q / 2 % 10
def kf_c (q : Nat) : Nat := q / 256
def kf_k (q : Nat) : Nat := q / 2 % 128
def km_ci (c : Nat) : String := if c = 99 then "java/lang/String" else kn_R c
/-- what is said of a method by the tables -/
def kkM (q : kQ) : Bool := match q with
  | (N, B, ml, rt, R, _, K, c, i, t, v) => if K = 3 then true else
  plainName N.cls && decide (N.cls ≠ "java/lang/invoke/MethodHandle") && decide (N.cls ≠ "java/lang/invoke/VarHandle") &&
  wd c (Cond.code N B ml rt) && wd i (Cond.initialized N.cls) &&
  (match K with
   | 0 => wd t (Cond.static N)
   | 1 => wd t (Cond.instanceMethod N) && (if v < 100000 then wd v (Cond.selects N.cls N N) else decide ((lw_privs[v - 100000]?).map (fun q => q.1) = some N))
   | 2 => wd t (Cond.instanceMethod N) && decide (N.name = "<init>") && decide (rt = none)
   | _ => false) && decide (ml ≤ 40) && decide (kpl R B.size 0 = 0)
/-- the call of method q names it rightly: its number of arguments, its answer -/
def ko_q (q : Nat) : Bool := decide ((parseMethodDescriptor (kN (kq_y q)).desc).map (fun d => d.parameters.length) = some (kq_n q)) && decide (q % 2 = if kT (kq_y q) = none then 1 else 0)
/-- the instruction of the bytes that one of its own stands for -/
def ko_w (pcs : Nat → Nat) (pc x len : Nat) (ir : Instr) : Instr :=
  match ir with
  | .sipush v => if len = 1 then .iconst v else if len = 2 then (if x = 0 then .bipush v else .ldc x) else (if x = 0 then .sipush v else .ldc_w x)
  | .iload k => if len = 1 then .iload_n (Fin.ofNat 4 k) else .iload k
  | .aload k => if len = 1 then .aload_n (Fin.ofNat 4 k) else .aload k
  | .istore k => if len = 1 then .istore_n (Fin.ofNat 4 k) else .istore k
  | .astore k => if len = 1 then .astore_n (Fin.ofNat 4 k) else .astore k
  | .ifCond c t => .ifCond c ((pcs t.toNat : Int) - (pc : Int))
  | .if_icmp c t => .if_icmp c ((pcs t.toNat : Int) - (pc : Int))
  | .goto t => .goto ((pcs t.toNat : Int) - (pc : Int))
  | .ifnonnull t => .ifnonnull ((pcs t.toNat : Int) - (pc : Int))
  | .tableswitch d lo hi ts => .tableswitch ((pcs d.toNat : Int) - (pc : Int)) lo hi (ts.map fun t => (pcs t.toNat : Int) - (pc : Int))
  | .lookupswitch d ps => .lookupswitch ((pcs d.toNat : Int) - (pc : Int)) (ps.map fun t => (t.1, (pcs t.2.toNat : Int) - (pc : Int)))
  | .getstatic _ => .getstatic x
  | .ldc _ => .ldc x
  | .ldc_w _ => .getfield x
  | .getfield _ => .getfield x
  | .checkcast _ => .getfield x
  | .putfield _ => .putfield x
  | .putstatic _ => .putfield x
  | .new _ => .new x
  | .anewarray _ => .anewarray x
  | .monitorexit => .invokespecial x
  | .swap => .invokestatic x
  | .invokespecial _ => .invokespecial x
  | .invokevirtual _ => .invokevirtual x
  | .invokestatic _ => .invokestatic x
  | i => i
/-- what the tables must hold for it -/
def ko_r (own : String) (init : Bool) (ml pl x len : Nat) (ir : Instr) : Bool :=
  match ir with
  | .nop => true
  | .sipush v => (decide (len = 1)) || (decide (len = 2) && (if x = 0 then decide ((Int8.ofInt v).toInt32 = Int32.ofInt v) else wd pl (Cond.constant own x (Int32.ofInt v)))) || (decide (len = 3) && (if x = 0 then decide ((Int16.ofInt v).toInt32 = Int32.ofInt v) else wd pl (Cond.constant own x (Int32.ofInt v))))
  | .iload k => (decide (len = 1) && decide (k < 4)) || decide (len = 2)
  | .aload k => (decide (len = 1) && decide (k < 4)) || decide (len = 2)
  | .istore k => decide (k < ml) && ((decide (len = 1) && decide (k < 4)) || decide (len = 2))
  | .astore k => decide (k < ml) && ((decide (len = 1) && decide (k < 4)) || decide (len = 2))
  | .iinc k _ => decide (k < ml) && decide (len = 3)
  | .iadd => decide (len = 1)
  | .isub => decide (len = 1)
  | .imul => decide (len = 1)
  | .idiv => decide (len = 1)
  | .irem => decide (len = 1)
  | .ineg => decide (len = 1)
  | .iand => decide (len = 1)
  | .ior => decide (len = 1)
  | .ixor => decide (len = 1)
  | .ishl => decide (len = 1)
  | .ishr => decide (len = 1)
  | .iushr => decide (len = 1)
  | .i2c => decide (len = 1)
  | .dup => decide (len = 1)
  | .dup2 => decide (len = 1)
  | .pop => decide (len = 1)
  | .iaload => decide (len = 1)
  | .iastore => decide (len = 1)
  | .aaload => decide (len = 1)
  | .aastore => decide (len = 1)
  | .baload => decide (len = 1)
  | .arraylength => decide (len = 1)
  | .ireturn => decide (len = 1)
  | .return_ => decide (len = 1)
  | .ifCond _ _ => decide (len = 3)
  | .if_icmp _ _ => decide (len = 3)
  | .goto _ => decide (len = 3)
  | .ifnonnull _ => decide (len = 3)
  | .tableswitch _ lo hi ts => decide (-2147483648 ≤ lo) && decide (hi < 2147483648) && decide ((ts.size : Int) = hi - lo + 1)
  | .lookupswitch _ ps => ((ps.toList.zip (ps.toList.drop 1)).all (fun (a, next) => a.1 < next.1)) && ps.toList.all (fun o => decide (-2147483648 ≤ o.1) && decide (o.1 < 2147483648))
  | .getstatic q => decide (len = 3) && (match q with
      | 0 => wd pl (Cond.fieldLink own x "java/lang/String" "COMPACT_STRINGS" "Z")
      | 1 => wd pl (Cond.fieldLinkNest own x "QuillDesk" "BOXES" "[I" "QuillDesk")
      | 2 => wd pl (Cond.fieldLink own x "jdk/internal/util/Preconditions" "SIOOBE_FORMATTER" "Ljava/util/function/BiFunction;")
      | _ => false)
  | .ldc q => decide (len = 2) && decide (q = 0) && decide (own = "QuillDesk$Reader") && decide (x = 111)
  | .ldc_w q => decide (len = 3) && (match q with
      | 0 => wd pl (Cond.fieldLink own x "java/lang/String" "value" "[B")
      | 1 => wd pl (Cond.fieldLink own x "java/lang/String" "coder" "B")
      | _ => false)
  | .getfield q => decide (len = 3) && decide (kf_c q < 12) && decide (kf_k q < kn_N (kf_c q)) && decide (kn_t (kf_c q) (kf_k q) = .int ∨ kn_t (kf_c q) (kf_k q) = .boolean) && wd pl (Cond.fieldLink own x (kn_F (kf_c q) (kf_k q)).1 (kn_F (kf_c q) (kf_k q)).2.1 (kn_F (kf_c q) (kf_k q)).2.2.1)
  | .checkcast q => decide (len = 3) && decide (kf_c q < 12) && decide (kf_k q < kn_N (kf_c q)) && decide (¬ kn_t (kf_c q) (kf_k q) = .int ∧ ¬ kn_t (kf_c q) (kf_k q) = .boolean) && wd pl (Cond.fieldLink own x (kn_F (kf_c q) (kf_k q)).1 (kn_F (kf_c q) (kf_k q)).2.1 (kn_F (kf_c q) (kf_k q)).2.2.1)
  | .putfield q => decide (len = 3) && decide (kf_c q < 12) && decide (kf_k q < kn_N (kf_c q)) && decide (kn_t (kf_c q) (kf_k q) = if q % 2 = 1 then .boolean else .int) && wd pl (Cond.fieldLink own x (kn_F (kf_c q) (kf_k q)).1 (kn_F (kf_c q) (kf_k q)).2.1 (kn_F (kf_c q) (kf_k q)).2.2.1) &&
        (decide ((kn_F (kf_c q) (kf_k q)).2.2.2 = false) || (init && decide ((kn_F (kf_c q) (kf_k q)).1 = own)))
  | .putstatic q => decide (len = 3) && decide (kf_c q < 12) && decide (kf_k q < kn_N (kf_c q)) && (match kn_t (kf_c q) (kf_k q) with | .object _ => true | .array _ => true | _ => false) && wd pl (Cond.fieldLink own x (kn_F (kf_c q) (kf_k q)).1 (kn_F (kf_c q) (kf_k q)).2.1 (kn_F (kf_c q) (kf_k q)).2.2.1) &&
        (decide ((kn_F (kf_c q) (kf_k q)).2.2.2 = false) || (init && decide ((kn_F (kf_c q) (kf_k q)).1 = own)))
  | .new c => decide (len = 3) && decide (c < 12) && wd pl (Cond.classLink own x (kn_R c))
  | .newarray t => decide (t = .int) && decide (len = 2)
  | .anewarray _ => decide (len = 3) && wd pl (Cond.classLink own x "QuillDesk$Firm")
  | .monitorexit => decide (len = 3) && wd pl (Cond.methodLink own x Lib.objectInit)
  | .swap => decide (len = 3) && wd pl (Cond.methodLink own x arraycopyName)
  | .invokespecial q => decide (len = 3) && ko_q q && decide (kq_y q < 304) && decide ((kK (kq_y q)).1 = 2) && wd pl (Cond.methodLink own x (kN (kq_y q))) && decide (kq_c q < 12) && decide (kn_R (kq_c q) = (kN (kq_y q)).cls)
  | .invokevirtual q => decide (len = 3) && ko_q q && decide (kq_y q < 304) && decide ((kK (kq_y q)).1 = 1) && decide (kc_c (kq_y q) = (0, 0)) && wd pl (Cond.methodLink own x (kN (kq_y q))) && decide (kq_c q < 12 ∨ kq_c q = 99) && decide (km_ci (kq_c q) = (kN (kq_y q)).cls)
  | .invokestatic q => decide (len = 3) && ko_q q && decide (kq_y q < 304) && decide ((kK (kq_y q)).1 = 0) && decide (kc_c (kq_y q) = (0, 0)) && (if (kN (kq_y q)).cls = "QuillDesk" then (decide (own ≠ "QuillDesk") && wd pl (Cond.methodLinkNest own x (kN (kq_y q)) "QuillDesk")) || wd pl (Cond.methodLink own x (kN (kq_y q))) else wd pl (Cond.methodLink own x (kN (kq_y q))))
  | _ => false
end
section
/-- the rows of a method, one behind the other -/
def ko_k (own : String) (init : Bool) (ml : Nat) (B : ByteArray) (pcs : Nat → Nat) : List (Nat × Nat × Nat × Nat) → List Instr → Bool
  | q :: r, ir :: s => (decide (ir = .nop) || decide (decode B q.1 = .ok (ko_w pcs q.1 q.2.2.1 q.2.2.2 ir, q.2.2.2))) && ko_r own init ml q.2.1 q.2.2.1 q.2.2.2 ir && ko_k own init ml B pcs r s
  | [], [] => true
  | _, _ => false
/-- the places alone -/
def ko_p (z : Nat) : List (Nat × Nat × Nat × Nat) → Nat → Bool
  | [], p => decide (p = z)
  | q :: r, p => decide (q.1 = p) && ko_p z r (p + q.2.2.2)
theorem ko_k_app {own : String} {init : Bool} {ml : Nat} {B : ByteArray} {pcs : Nat → Nat} : ∀ (r1 : List (Nat × Nat × Nat × Nat)) (s1 : List Instr) {r2 : List (Nat × Nat × Nat × Nat)} {s2 : List Instr}, ko_k own init ml B pcs r1 s1 = true → ko_k own init ml B pcs r2 s2 = true → ko_k own init ml B pcs (r1 ++ r2) (s1 ++ s2) = true
  | [], [], _, _, _, h => h
  | q :: r, ir :: s, _, _, h1, h2 => by
    simp only [ko_k, List.cons_append, Bool.and_eq_true] at h1 ⊢
    exact ⟨h1.1, ko_k_app r s h1.2 h2⟩
  | [], _ :: _, _, _, h, _ => by simp [ko_k] at h
  | _ :: _, [], _, _, h, _ => by simp [ko_k] at h
theorem ko_k_cut {own : String} {init : Bool} {ml : Nat} {B : ByteArray} {pcs : Nat → Nat} {r : List (Nat × Nat × Nat × Nat)} {s : List Instr} (a n b : Nat) (hb : a + n = b) (h1 : ko_k own init ml B pcs ((r.drop a).take n) ((s.drop a).take n) = true) (h2 : ko_k own init ml B pcs (r.drop b) (s.drop b) = true) : ko_k own init ml B pcs (r.drop a) (s.drop a) = true := by
  subst hb
  rw [← List.drop_drop, ← List.drop_drop] at h2
  have h := ko_k_app _ _ h1 h2
  rwa [List.take_append_drop, List.take_append_drop] at h
theorem ko_k_0 {own : String} {init : Bool} {ml : Nat} {B : ByteArray} {pcs : Nat → Nat} {r : List (Nat × Nat × Nat × Nat)} {s : List Instr} (h : ko_k own init ml B pcs (r.drop 0) (s.drop 0) = true) : ko_k own init ml B pcs r s = true := h
theorem kp_0 : ko_p prog_2_method_1_code.size kr_0 0 = true := by decide +kernel
theorem kx_0_0 : ko_k "QuillDesk$Book" (decide ("<init>" = "<init>")) 1 prog_2_method_1_code (kpl kr_0 prog_2_method_1_code.size) (kr_0.drop 0) (kc_0.drop 0) = true := by decide +kernel
theorem kk_0 : ko_k "QuillDesk$Book" (decide ("<init>" = "<init>")) 1 prog_2_method_1_code (kpl kr_0 prog_2_method_1_code.size) kr_0 kc_0 = true := ko_k_0 kx_0_0
theorem kp_1 : ko_p prog_2_method_2_code.size kr_1 0 = true := by decide +kernel
theorem kx_1_0 : ko_k "QuillDesk$Book" (decide ("add" = "<init>")) 5 prog_2_method_2_code (kpl kr_1 prog_2_method_2_code.size) (kr_1.drop 0) (kc_1.drop 0) = true := by decide +kernel
theorem kk_1 : ko_k "QuillDesk$Book" (decide ("add" = "<init>")) 5 prog_2_method_2_code (kpl kr_1 prog_2_method_2_code.size) kr_1 kc_1 = true := ko_k_0 kx_1_0
theorem kp_2 : ko_p prog_2_method_3_code.size kr_2 0 = true := by decide +kernel
theorem kx_2_0 : ko_k "QuillDesk$Book" (decide ("copyFrom" = "<init>")) 2 prog_2_method_3_code (kpl kr_2 prog_2_method_3_code.size) (kr_2.drop 0) (kc_2.drop 0) = true := by decide +kernel
theorem kk_2 : ko_k "QuillDesk$Book" (decide ("copyFrom" = "<init>")) 2 prog_2_method_3_code (kpl kr_2 prog_2_method_3_code.size) kr_2 kc_2 = true := ko_k_0 kx_2_0
theorem kp_3 : ko_p prog_3_method_1_code.size kr_3 0 = true := by decide +kernel
theorem kx_3_0 : ko_k "QuillDesk$Boxes" (decide ("<init>" = "<init>")) 1 prog_3_method_1_code (kpl kr_3 prog_3_method_1_code.size) (kr_3.drop 0) (kc_3.drop 0) = true := by decide +kernel
theorem kk_3 : ko_k "QuillDesk$Boxes" (decide ("<init>" = "<init>")) 1 prog_3_method_1_code (kpl kr_3 prog_3_method_1_code.size) kr_3 kc_3 = true := ko_k_0 kx_3_0
theorem kp_4 : ko_p prog_3_method_2_code.size kr_4 0 = true := by decide +kernel
theorem kx_4_0 : ko_k "QuillDesk$Boxes" (decide ("worth" = "<init>")) 5 prog_3_method_2_code (kpl kr_4 prog_3_method_2_code.size) ((kr_4.drop 0).take 40) ((kc_4.drop 0).take 40) = true := by decide +kernel
theorem kx_4_40 : ko_k "QuillDesk$Boxes" (decide ("worth" = "<init>")) 5 prog_3_method_2_code (kpl kr_4 prog_3_method_2_code.size) (kr_4.drop 40) (kc_4.drop 40) = true := by decide +kernel
theorem kk_4 : ko_k "QuillDesk$Boxes" (decide ("worth" = "<init>")) 5 prog_3_method_2_code (kpl kr_4 prog_3_method_2_code.size) kr_4 kc_4 = true := ko_k_0 (ko_k_cut 0 40 40 rfl kx_4_0 kx_4_40)
theorem kp_5 : ko_p prog_3_method_3_code.size kr_5 0 = true := by decide +kernel
theorem kx_5_0 : ko_k "QuillDesk$Boxes" (decide ("bestLine" = "<init>")) 4 prog_3_method_3_code (kpl kr_5 prog_3_method_3_code.size) (kr_5.drop 0) (kc_5.drop 0) = true := by decide +kernel
theorem kk_5 : ko_k "QuillDesk$Boxes" (decide ("bestLine" = "<init>")) 4 prog_3_method_3_code (kpl kr_5 prog_3_method_3_code.size) kr_5 kc_5 = true := ko_k_0 kx_5_0
theorem kp_6 : ko_p prog_3_method_4_code.size kr_6 0 = true := by decide +kernel
theorem kx_6_0 : ko_k "QuillDesk$Boxes" (decide ("worthOfDrawing" = "<init>")) 5 prog_3_method_4_code (kpl kr_6 prog_3_method_4_code.size) (kr_6.drop 0) (kc_6.drop 0) = true := by decide +kernel
theorem kk_6 : ko_k "QuillDesk$Boxes" (decide ("worthOfDrawing" = "<init>")) 5 prog_3_method_4_code (kpl kr_6 prog_3_method_4_code.size) kr_6 kc_6 = true := ko_k_0 kx_6_0
theorem kp_7 : ko_p prog_3_method_5_code.size kr_7 0 = true := by decide +kernel
theorem kx_7_0 : ko_k "QuillDesk$Boxes" (decide ("countClosed" = "<init>")) 3 prog_3_method_5_code (kpl kr_7 prog_3_method_5_code.size) (kr_7.drop 0) (kc_7.drop 0) = true := by decide +kernel
theorem kk_7 : ko_k "QuillDesk$Boxes" (decide ("countClosed" = "<init>")) 3 prog_3_method_5_code (kpl kr_7 prog_3_method_5_code.size) kr_7 kc_7 = true := ko_k_0 kx_7_0
theorem kp_8 : ko_p prog_4_method_1_code.size kr_8 0 = true := by decide +kernel
theorem kx_8_0 : ko_k "QuillDesk$Desk" (decide ("<init>" = "<init>")) 1 prog_4_method_1_code (kpl kr_8 prog_4_method_1_code.size) ((kr_8.drop 0).take 40) ((kc_8.drop 0).take 40) = true := by decide +kernel
theorem kx_8_40 : ko_k "QuillDesk$Desk" (decide ("<init>" = "<init>")) 1 prog_4_method_1_code (kpl kr_8 prog_4_method_1_code.size) ((kr_8.drop 40).take 40) ((kc_8.drop 40).take 40) = true := by decide +kernel
theorem kx_8_80 : ko_k "QuillDesk$Desk" (decide ("<init>" = "<init>")) 1 prog_4_method_1_code (kpl kr_8 prog_4_method_1_code.size) (kr_8.drop 80) (kc_8.drop 80) = true := by decide +kernel
theorem kk_8 : ko_k "QuillDesk$Desk" (decide ("<init>" = "<init>")) 1 prog_4_method_1_code (kpl kr_8 prog_4_method_1_code.size) kr_8 kc_8 = true := ko_k_0 (ko_k_cut 0 40 40 rfl kx_8_0 (ko_k_cut 40 40 80 rfl kx_8_40 kx_8_80))
theorem kp_9 : ko_p prog_4_method_2_code.size kr_9 0 = true := by decide +kernel
theorem kx_9_0 : ko_k "QuillDesk$Desk" (decide ("copyFrom" = "<init>")) 2 prog_4_method_2_code (kpl kr_9 prog_4_method_2_code.size) ((kr_9.drop 0).take 40) ((kc_9.drop 0).take 40) = true := by decide +kernel
theorem kx_9_40 : ko_k "QuillDesk$Desk" (decide ("copyFrom" = "<init>")) 2 prog_4_method_2_code (kpl kr_9 prog_4_method_2_code.size) ((kr_9.drop 40).take 40) ((kc_9.drop 40).take 40) = true := by decide +kernel
theorem kx_9_80 : ko_k "QuillDesk$Desk" (decide ("copyFrom" = "<init>")) 2 prog_4_method_2_code (kpl kr_9 prog_4_method_2_code.size) (kr_9.drop 80) (kc_9.drop 80) = true := by decide +kernel
theorem kk_9 : ko_k "QuillDesk$Desk" (decide ("copyFrom" = "<init>")) 2 prog_4_method_2_code (kpl kr_9 prog_4_method_2_code.size) kr_9 kc_9 = true := ko_k_0 (ko_k_cut 0 40 40 rfl kx_9_0 (ko_k_cut 40 40 80 rfl kx_9_40 kx_9_80))
theorem kp_10 : ko_p prog_4_method_3_code.size kr_10 0 = true := by decide +kernel
theorem kx_10_0 : ko_k "QuillDesk$Desk" (decide ("wildness" = "<init>")) 3 prog_4_method_3_code (kpl kr_10 prog_4_method_3_code.size) (kr_10.drop 0) (kc_10.drop 0) = true := by decide +kernel
theorem kk_10 : ko_k "QuillDesk$Desk" (decide ("wildness" = "<init>")) 3 prog_4_method_3_code (kpl kr_10 prog_4_method_3_code.size) kr_10 kc_10 = true := ko_k_0 kx_10_0
theorem kp_11 : ko_p prog_4_method_4_code.size kr_11 0 = true := by decide +kernel
theorem kx_11_0 : ko_k "QuillDesk$Desk" (decide ("fineness" = "<init>")) 3 prog_4_method_4_code (kpl kr_11 prog_4_method_4_code.size) (kr_11.drop 0) (kc_11.drop 0) = true := by decide +kernel
theorem kk_11 : ko_k "QuillDesk$Desk" (decide ("fineness" = "<init>")) 3 prog_4_method_4_code (kpl kr_11 prog_4_method_4_code.size) kr_11 kc_11 = true := ko_k_0 kx_11_0
theorem kp_12 : ko_p prog_4_method_5_code.size kr_12 0 = true := by decide +kernel
theorem kx_12_0 : ko_k "QuillDesk$Desk" (decide ("deedsBefore" = "<init>")) 4 prog_4_method_5_code (kpl kr_12 prog_4_method_5_code.size) (kr_12.drop 0) (kc_12.drop 0) = true := by decide +kernel
theorem kk_12 : ko_k "QuillDesk$Desk" (decide ("deedsBefore" = "<init>")) 4 prog_4_method_5_code (kpl kr_12 prog_4_method_5_code.size) kr_12 kc_12 = true := ko_k_0 kx_12_0
theorem kp_13 : ko_p prog_4_method_6_code.size kr_13 0 = true := by decide +kernel
theorem kx_13_0 : ko_k "QuillDesk$Desk" (decide ("canBeWritten" = "<init>")) 3 prog_4_method_6_code (kpl kr_13 prog_4_method_6_code.size) (kr_13.drop 0) (kc_13.drop 0) = true := by decide +kernel
theorem kk_13 : ko_k "QuillDesk$Desk" (decide ("canBeWritten" = "<init>")) 3 prog_4_method_6_code (kpl kr_13 prog_4_method_6_code.size) kr_13 kc_13 = true := ko_k_0 kx_13_0
theorem kp_14 : ko_p prog_4_method_7_code.size kr_14 0 = true := by decide +kernel
theorem kx_14_0 : ko_k "QuillDesk$Desk" (decide ("ask" = "<init>")) 5 prog_4_method_7_code (kpl kr_14 prog_4_method_7_code.size) (kr_14.drop 0) (kc_14.drop 0) = true := by decide +kernel
theorem kk_14 : ko_k "QuillDesk$Desk" (decide ("ask" = "<init>")) 5 prog_4_method_7_code (kpl kr_14 prog_4_method_7_code.size) kr_14 kc_14 = true := ko_k_0 kx_14_0
theorem kp_15 : ko_p prog_4_method_8_code.size kr_15 0 = true := by decide +kernel
theorem kx_15_0 : ko_k "QuillDesk$Desk" (decide ("learn" = "<init>")) 5 prog_4_method_8_code (kpl kr_15 prog_4_method_8_code.size) ((kr_15.drop 0).take 40) ((kc_15.drop 0).take 40) = true := by decide +kernel
theorem kx_15_40 : ko_k "QuillDesk$Desk" (decide ("learn" = "<init>")) 5 prog_4_method_8_code (kpl kr_15 prog_4_method_8_code.size) ((kr_15.drop 40).take 40) ((kc_15.drop 40).take 40) = true := by decide +kernel
theorem kx_15_80 : ko_k "QuillDesk$Desk" (decide ("learn" = "<init>")) 5 prog_4_method_8_code (kpl kr_15 prog_4_method_8_code.size) (kr_15.drop 80) (kc_15.drop 80) = true := by decide +kernel
theorem kk_15 : ko_k "QuillDesk$Desk" (decide ("learn" = "<init>")) 5 prog_4_method_8_code (kpl kr_15 prog_4_method_8_code.size) kr_15 kc_15 = true := ko_k_0 (ko_k_cut 0 40 40 rfl kx_15_0 (ko_k_cut 40 40 80 rfl kx_15_40 kx_15_80))
theorem kp_16 : ko_p prog_4_method_9_code.size kr_16 0 = true := by decide +kernel
theorem kx_16_0 : ko_k "QuillDesk$Desk" (decide ("passHour" = "<init>")) 5 prog_4_method_9_code (kpl kr_16 prog_4_method_9_code.size) ((kr_16.drop 0).take 40) ((kc_16.drop 0).take 40) = true := by decide +kernel
theorem kx_16_40 : ko_k "QuillDesk$Desk" (decide ("passHour" = "<init>")) 5 prog_4_method_9_code (kpl kr_16 prog_4_method_9_code.size) (kr_16.drop 40) (kc_16.drop 40) = true := by decide +kernel
theorem kk_16 : ko_k "QuillDesk$Desk" (decide ("passHour" = "<init>")) 5 prog_4_method_9_code (kpl kr_16 prog_4_method_9_code.size) kr_16 kc_16 = true := ko_k_0 (ko_k_cut 0 40 40 rfl kx_16_0 kx_16_40)
theorem kp_17 : ko_p prog_4_method_10_code.size kr_17 0 = true := by decide +kernel
theorem kx_17_0 : ko_k "QuillDesk$Desk" (decide ("takeTurn" = "<init>")) 7 prog_4_method_10_code (kpl kr_17 prog_4_method_10_code.size) ((kr_17.drop 0).take 40) ((kc_17.drop 0).take 40) = true := by decide +kernel
theorem kx_17_40 : ko_k "QuillDesk$Desk" (decide ("takeTurn" = "<init>")) 7 prog_4_method_10_code (kpl kr_17 prog_4_method_10_code.size) ((kr_17.drop 40).take 40) ((kc_17.drop 40).take 40) = true := by decide +kernel
theorem kx_17_80 : ko_k "QuillDesk$Desk" (decide ("takeTurn" = "<init>")) 7 prog_4_method_10_code (kpl kr_17 prog_4_method_10_code.size) ((kr_17.drop 80).take 40) ((kc_17.drop 80).take 40) = true := by decide +kernel
theorem kx_17_120 : ko_k "QuillDesk$Desk" (decide ("takeTurn" = "<init>")) 7 prog_4_method_10_code (kpl kr_17 prog_4_method_10_code.size) ((kr_17.drop 120).take 40) ((kc_17.drop 120).take 40) = true := by decide +kernel
theorem kx_17_160 : ko_k "QuillDesk$Desk" (decide ("takeTurn" = "<init>")) 7 prog_4_method_10_code (kpl kr_17 prog_4_method_10_code.size) (kr_17.drop 160) (kc_17.drop 160) = true := by decide +kernel
theorem kk_17 : ko_k "QuillDesk$Desk" (decide ("takeTurn" = "<init>")) 7 prog_4_method_10_code (kpl kr_17 prog_4_method_10_code.size) kr_17 kc_17 = true := ko_k_0 (ko_k_cut 0 40 40 rfl kx_17_0 (ko_k_cut 40 40 80 rfl kx_17_40 (ko_k_cut 80 40 120 rfl kx_17_80 (ko_k_cut 120 40 160 rfl kx_17_120 kx_17_160))))
theorem kp_18 : ko_p prog_4_method_11_code.size kr_18 0 = true := by decide +kernel
theorem kx_18_0 : ko_k "QuillDesk$Desk" (decide ("note" = "<init>")) 6 prog_4_method_11_code (kpl kr_18 prog_4_method_11_code.size) (kr_18.drop 0) (kc_18.drop 0) = true := by decide +kernel
theorem kk_18 : ko_k "QuillDesk$Desk" (decide ("note" = "<init>")) 6 prog_4_method_11_code (kpl kr_18 prog_4_method_11_code.size) kr_18 kc_18 = true := ko_k_0 kx_18_0
theorem kp_19 : ko_p prog_4_method_12_code.size kr_19 0 = true := by decide +kernel
theorem kx_19_0 : ko_k "QuillDesk$Desk" (decide ("soonest" = "<init>")) 10 prog_4_method_12_code (kpl kr_19 prog_4_method_12_code.size) ((kr_19.drop 0).take 40) ((kc_19.drop 0).take 40) = true := by decide +kernel
theorem kx_19_40 : ko_k "QuillDesk$Desk" (decide ("soonest" = "<init>")) 10 prog_4_method_12_code (kpl kr_19 prog_4_method_12_code.size) ((kr_19.drop 40).take 40) ((kc_19.drop 40).take 40) = true := by decide +kernel
theorem kx_19_80 : ko_k "QuillDesk$Desk" (decide ("soonest" = "<init>")) 10 prog_4_method_12_code (kpl kr_19 prog_4_method_12_code.size) (kr_19.drop 80) (kc_19.drop 80) = true := by decide +kernel
theorem kk_19 : ko_k "QuillDesk$Desk" (decide ("soonest" = "<init>")) 10 prog_4_method_12_code (kpl kr_19 prog_4_method_12_code.size) kr_19 kc_19 = true := ko_k_0 (ko_k_cut 0 40 40 rfl kx_19_0 (ko_k_cut 40 40 80 rfl kx_19_40 kx_19_80))
theorem kp_20 : ko_p prog_5_method_1_code.size kr_20 0 = true := by decide +kernel
theorem kx_20_0 : ko_k "QuillDesk$Firm" (decide ("<init>" = "<init>")) 1 prog_5_method_1_code (kpl kr_20 prog_5_method_1_code.size) ((kr_20.drop 0).take 40) ((kc_20.drop 0).take 40) = true := by decide +kernel
theorem kx_20_40 : ko_k "QuillDesk$Firm" (decide ("<init>" = "<init>")) 1 prog_5_method_1_code (kpl kr_20 prog_5_method_1_code.size) (kr_20.drop 40) (kc_20.drop 40) = true := by decide +kernel
theorem kk_20 : ko_k "QuillDesk$Firm" (decide ("<init>" = "<init>")) 1 prog_5_method_1_code (kpl kr_20 prog_5_method_1_code.size) kr_20 kc_20 = true := ko_k_0 (ko_k_cut 0 40 40 rfl kx_20_0 kx_20_40)
theorem kp_21 : ko_p prog_5_method_2_code.size kr_21 0 = true := by decide +kernel
theorem kx_21_0 : ko_k "QuillDesk$Firm" (decide ("copyFrom" = "<init>")) 2 prog_5_method_2_code (kpl kr_21 prog_5_method_2_code.size) ((kr_21.drop 0).take 40) ((kc_21.drop 0).take 40) = true := by decide +kernel
theorem kx_21_40 : ko_k "QuillDesk$Firm" (decide ("copyFrom" = "<init>")) 2 prog_5_method_2_code (kpl kr_21 prog_5_method_2_code.size) ((kr_21.drop 40).take 40) ((kc_21.drop 40).take 40) = true := by decide +kernel
theorem kx_21_80 : ko_k "QuillDesk$Firm" (decide ("copyFrom" = "<init>")) 2 prog_5_method_2_code (kpl kr_21 prog_5_method_2_code.size) ((kr_21.drop 80).take 40) ((kc_21.drop 80).take 40) = true := by decide +kernel
theorem kx_21_120 : ko_k "QuillDesk$Firm" (decide ("copyFrom" = "<init>")) 2 prog_5_method_2_code (kpl kr_21 prog_5_method_2_code.size) (kr_21.drop 120) (kc_21.drop 120) = true := by decide +kernel
theorem kk_21 : ko_k "QuillDesk$Firm" (decide ("copyFrom" = "<init>")) 2 prog_5_method_2_code (kpl kr_21 prog_5_method_2_code.size) kr_21 kc_21 = true := ko_k_0 (ko_k_cut 0 40 40 rfl kx_21_0 (ko_k_cut 40 40 80 rfl kx_21_40 (ko_k_cut 80 40 120 rfl kx_21_80 kx_21_120)))
theorem kp_22 : ko_p prog_5_method_3_code.size kr_22 0 = true := by decide +kernel
theorem kx_22_0 : ko_k "QuillDesk$Firm" (decide ("hasQuill" = "<init>")) 2 prog_5_method_3_code (kpl kr_22 prog_5_method_3_code.size) (kr_22.drop 0) (kc_22.drop 0) = true := by decide +kernel
theorem kk_22 : ko_k "QuillDesk$Firm" (decide ("hasQuill" = "<init>")) 2 prog_5_method_3_code (kpl kr_22 prog_5_method_3_code.size) kr_22 kc_22 = true := ko_k_0 kx_22_0
theorem kp_23 : ko_p prog_5_method_4_code.size kr_23 0 = true := by decide +kernel
theorem kx_23_0 : ko_k "QuillDesk$Firm" (decide ("hasClerk" = "<init>")) 2 prog_5_method_4_code (kpl kr_23 prog_5_method_4_code.size) (kr_23.drop 0) (kc_23.drop 0) = true := by decide +kernel
theorem kk_23 : ko_k "QuillDesk$Firm" (decide ("hasClerk" = "<init>")) 2 prog_5_method_4_code (kpl kr_23 prog_5_method_4_code.size) kr_23 kc_23 = true := ko_k_0 kx_23_0
theorem kp_24 : ko_p prog_5_method_5_code.size kr_24 0 = true := by decide +kernel
theorem kx_24_0 : ko_k "QuillDesk$Firm" (decide ("hasDeed" = "<init>")) 2 prog_5_method_5_code (kpl kr_24 prog_5_method_5_code.size) (kr_24.drop 0) (kc_24.drop 0) = true := by decide +kernel
theorem kk_24 : ko_k "QuillDesk$Firm" (decide ("hasDeed" = "<init>")) 2 prog_5_method_5_code (kpl kr_24 prog_5_method_5_code.size) kr_24 kc_24 = true := ko_k_0 kx_24_0
theorem kp_25 : ko_p prog_5_method_6_code.size kr_25 0 = true := by decide +kernel
theorem kx_25_0 : ko_k "QuillDesk$Firm" (decide ("isDone" = "<init>")) 2 prog_5_method_6_code (kpl kr_25 prog_5_method_6_code.size) (kr_25.drop 0) (kc_25.drop 0) = true := by decide +kernel
theorem kk_25 : ko_k "QuillDesk$Firm" (decide ("isDone" = "<init>")) 2 prog_5_method_6_code (kpl kr_25 prog_5_method_6_code.size) kr_25 kc_25 = true := ko_k_0 kx_25_0
theorem kp_26 : ko_p prog_5_method_7_code.size kr_26 0 = true := by decide +kernel
theorem kx_26_0 : ko_k "QuillDesk$Firm" (decide ("linesLeft" = "<init>")) 2 prog_5_method_7_code (kpl kr_26 prog_5_method_7_code.size) (kr_26.drop 0) (kc_26.drop 0) = true := by decide +kernel
theorem kk_26 : ko_k "QuillDesk$Firm" (decide ("linesLeft" = "<init>")) 2 prog_5_method_7_code (kpl kr_26 prog_5_method_7_code.size) kr_26 kc_26 = true := ko_k_0 kx_26_0
theorem kp_27 : ko_p prog_5_method_8_code.size kr_27 0 = true := by decide +kernel
theorem kx_27_0 : ko_k "QuillDesk$Firm" (decide ("holder" = "<init>")) 3 prog_5_method_8_code (kpl kr_27 prog_5_method_8_code.size) (kr_27.drop 0) (kc_27.drop 0) = true := by decide +kernel
theorem kk_27 : ko_k "QuillDesk$Firm" (decide ("holder" = "<init>")) 3 prog_5_method_8_code (kpl kr_27 prog_5_method_8_code.size) kr_27 kc_27 = true := ko_k_0 kx_27_0
theorem kp_28 : ko_p prog_5_method_9_code.size kr_28 0 = true := by decide +kernel
theorem kx_28_0 : ko_k "QuillDesk$Firm" (decide ("doneSet" = "<init>")) 3 prog_5_method_9_code (kpl kr_28 prog_5_method_9_code.size) (kr_28.drop 0) (kc_28.drop 0) = true := by decide +kernel
theorem kk_28 : ko_k "QuillDesk$Firm" (decide ("doneSet" = "<init>")) 3 prog_5_method_9_code (kpl kr_28 prog_5_method_9_code.size) kr_28 kc_28 = true := ko_k_0 kx_28_0
theorem kp_29 : ko_p prog_5_method_10_code.size kr_29 0 = true := by decide +kernel
theorem kx_29_0 : ko_k "QuillDesk$Firm" (decide ("clerksAt" = "<init>")) 4 prog_5_method_10_code (kpl kr_29 prog_5_method_10_code.size) (kr_29.drop 0) (kc_29.drop 0) = true := by decide +kernel
theorem kk_29 : ko_k "QuillDesk$Firm" (decide ("clerksAt" = "<init>")) 4 prog_5_method_10_code (kpl kr_29 prog_5_method_10_code.size) kr_29 kc_29 = true := ko_k_0 kx_29_0
theorem kp_30 : ko_p prog_5_method_11_code.size kr_30 0 = true := by decide +kernel
theorem kx_30_0 : ko_k "QuillDesk$Firm" (decide ("allWritten" = "<init>")) 3 prog_5_method_11_code (kpl kr_30 prog_5_method_11_code.size) (kr_30.drop 0) (kc_30.drop 0) = true := by decide +kernel
theorem kk_30 : ko_k "QuillDesk$Firm" (decide ("allWritten" = "<init>")) 3 prog_5_method_11_code (kpl kr_30 prog_5_method_11_code.size) kr_30 kc_30 = true := ko_k_0 kx_30_0
theorem kp_31 : ko_p prog_5_method_12_code.size kr_31 0 = true := by decide +kernel
theorem kx_31_0 : ko_k "QuillDesk$Firm" (decide ("allBlots" = "<init>")) 3 prog_5_method_12_code (kpl kr_31 prog_5_method_12_code.size) (kr_31.drop 0) (kc_31.drop 0) = true := by decide +kernel
theorem kk_31 : ko_k "QuillDesk$Firm" (decide ("allBlots" = "<init>")) 3 prog_5_method_12_code (kpl kr_31 prog_5_method_12_code.size) kr_31 kc_31 = true := ko_k_0 kx_31_0
theorem kp_32 : ko_p prog_5_method_13_code.size kr_32 0 = true := by decide +kernel
theorem kx_32_0 : ko_k "QuillDesk$Firm" (decide ("canAct" = "<init>")) 5 prog_5_method_13_code (kpl kr_32 prog_5_method_13_code.size) ((kr_32.drop 0).take 40) ((kc_32.drop 0).take 40) = true := by decide +kernel
theorem kx_32_40 : ko_k "QuillDesk$Firm" (decide ("canAct" = "<init>")) 5 prog_5_method_13_code (kpl kr_32 prog_5_method_13_code.size) ((kr_32.drop 40).take 40) ((kc_32.drop 40).take 40) = true := by decide +kernel
theorem kx_32_80 : ko_k "QuillDesk$Firm" (decide ("canAct" = "<init>")) 5 prog_5_method_13_code (kpl kr_32 prog_5_method_13_code.size) (kr_32.drop 80) (kc_32.drop 80) = true := by decide +kernel
theorem kk_32 : ko_k "QuillDesk$Firm" (decide ("canAct" = "<init>")) 5 prog_5_method_13_code (kpl kr_32 prog_5_method_13_code.size) kr_32 kc_32 = true := ko_k_0 (ko_k_cut 0 40 40 rfl kx_32_0 (ko_k_cut 40 40 80 rfl kx_32_40 kx_32_80))
theorem kp_33 : ko_p prog_5_method_14_code.size kr_33 0 = true := by decide +kernel
theorem kx_33_0 : ko_k "QuillDesk$Firm" (decide ("doAct" = "<init>")) 5 prog_5_method_14_code (kpl kr_33 prog_5_method_14_code.size) ((kr_33.drop 0).take 40) ((kc_33.drop 0).take 40) = true := by decide +kernel
theorem kx_33_40 : ko_k "QuillDesk$Firm" (decide ("doAct" = "<init>")) 5 prog_5_method_14_code (kpl kr_33 prog_5_method_14_code.size) (kr_33.drop 40) (kc_33.drop 40) = true := by decide +kernel
theorem kk_33 : ko_k "QuillDesk$Firm" (decide ("doAct" = "<init>")) 5 prog_5_method_14_code (kpl kr_33 prog_5_method_14_code.size) kr_33 kc_33 = true := ko_k_0 (ko_k_cut 0 40 40 rfl kx_33_0 kx_33_40)
theorem kp_34 : ko_p prog_5_method_15_code.size kr_34 0 = true := by decide +kernel
theorem kx_34_0 : ko_k "QuillDesk$Firm" (decide ("draw" = "<init>")) 2 prog_5_method_15_code (kpl kr_34 prog_5_method_15_code.size) (kr_34.drop 0) (kc_34.drop 0) = true := by decide +kernel
theorem kk_34 : ko_k "QuillDesk$Firm" (decide ("draw" = "<init>")) 2 prog_5_method_15_code (kpl kr_34 prog_5_method_15_code.size) kr_34 kc_34 = true := ko_k_0 kx_34_0
theorem kp_35 : ko_p prog_5_method_16_code.size kr_35 0 = true := by decide +kernel
theorem kx_35_0 : ko_k "QuillDesk$Firm" (decide ("falls" = "<init>")) 3 prog_5_method_16_code (kpl kr_35 prog_5_method_16_code.size) (kr_35.drop 0) (kc_35.drop 0) = true := by decide +kernel
theorem kk_35 : ko_k "QuillDesk$Firm" (decide ("falls" = "<init>")) 3 prog_5_method_16_code (kpl kr_35 prog_5_method_16_code.size) kr_35 kc_35 = true := ko_k_0 kx_35_0
theorem kp_36 : ko_p prog_5_method_17_code.size kr_36 0 = true := by decide +kernel
theorem kx_36_0 : ko_k "QuillDesk$Firm" (decide ("wear" = "<init>")) 2 prog_5_method_17_code (kpl kr_36 prog_5_method_17_code.size) (kr_36.drop 0) (kc_36.drop 0) = true := by decide +kernel
theorem kk_36 : ko_k "QuillDesk$Firm" (decide ("wear" = "<init>")) 2 prog_5_method_17_code (kpl kr_36 prog_5_method_17_code.size) kr_36 kc_36 = true := ko_k_0 kx_36_0
theorem kp_37 : ko_p prog_5_method_18_code.size kr_37 0 = true := by decide +kernel
theorem kx_37_0 : ko_k "QuillDesk$Firm" (decide ("finish" = "<init>")) 4 prog_5_method_18_code (kpl kr_37 prog_5_method_18_code.size) ((kr_37.drop 0).take 40) ((kc_37.drop 0).take 40) = true := by decide +kernel
theorem kx_37_40 : ko_k "QuillDesk$Firm" (decide ("finish" = "<init>")) 4 prog_5_method_18_code (kpl kr_37 prog_5_method_18_code.size) (kr_37.drop 40) (kc_37.drop 40) = true := by decide +kernel
theorem kk_37 : ko_k "QuillDesk$Firm" (decide ("finish" = "<init>")) 4 prog_5_method_18_code (kpl kr_37 prog_5_method_18_code.size) kr_37 kc_37 = true := ko_k_0 (ko_k_cut 0 40 40 rfl kx_37_0 kx_37_40)
theorem kp_38 : ko_p prog_6_method_1_code.size kr_38 0 = true := by decide +kernel
theorem kx_38_0 : ko_k "QuillDesk$Law" (decide ("<init>" = "<init>")) 1 prog_6_method_1_code (kpl kr_38 prog_6_method_1_code.size) (kr_38.drop 0) (kc_38.drop 0) = true := by decide +kernel
theorem kk_38 : ko_k "QuillDesk$Law" (decide ("<init>" = "<init>")) 1 prog_6_method_1_code (kpl kr_38 prog_6_method_1_code.size) kr_38 kc_38 = true := ko_k_0 kx_38_0
theorem kp_39 : ko_p prog_6_method_2_code.size kr_39 0 = true := by decide +kernel
theorem kx_39_0 : ko_k "QuillDesk$Law" (decide ("copyFrom" = "<init>")) 2 prog_6_method_2_code (kpl kr_39 prog_6_method_2_code.size) (kr_39.drop 0) (kc_39.drop 0) = true := by decide +kernel
theorem kk_39 : ko_k "QuillDesk$Law" (decide ("copyFrom" = "<init>")) 2 prog_6_method_2_code (kpl kr_39 prog_6_method_2_code.size) kr_39 kc_39 = true := ko_k_0 kx_39_0
theorem kp_40 : ko_p prog_6_method_3_code.size kr_40 0 = true := by decide +kernel
theorem kx_40_0 : ko_k "QuillDesk$Law" (decide ("clear" = "<init>")) 1 prog_6_method_3_code (kpl kr_40 prog_6_method_3_code.size) (kr_40.drop 0) (kc_40.drop 0) = true := by decide +kernel
theorem kk_40 : ko_k "QuillDesk$Law" (decide ("clear" = "<init>")) 1 prog_6_method_3_code (kpl kr_40 prog_6_method_3_code.size) kr_40 kc_40 = true := ko_k_0 kx_40_0
theorem kp_41 : ko_p prog_6_method_4_code.size kr_41 0 = true := by decide +kernel
theorem kx_41_0 : ko_k "QuillDesk$Law" (decide ("put" = "<init>")) 2 prog_6_method_4_code (kpl kr_41 prog_6_method_4_code.size) (kr_41.drop 0) (kc_41.drop 0) = true := by decide +kernel
theorem kk_41 : ko_k "QuillDesk$Law" (decide ("put" = "<init>")) 2 prog_6_method_4_code (kpl kr_41 prog_6_method_4_code.size) kr_41 kc_41 = true := ko_k_0 kx_41_0
theorem kp_42 : ko_p prog_6_method_5_code.size kr_42 0 = true := by decide +kernel
theorem kx_42_0 : ko_k "QuillDesk$Law" (decide ("fact" = "<init>")) 3 prog_6_method_5_code (kpl kr_42 prog_6_method_5_code.size) (kr_42.drop 0) (kc_42.drop 0) = true := by decide +kernel
theorem kk_42 : ko_k "QuillDesk$Law" (decide ("fact" = "<init>")) 3 prog_6_method_5_code (kpl kr_42 prog_6_method_5_code.size) kr_42 kc_42 = true := ko_k_0 kx_42_0
theorem kp_43 : ko_p prog_6_method_6_code.size kr_43 0 = true := by decide +kernel
theorem kx_43_0 : ko_k "QuillDesk$Law" (decide ("know" = "<init>")) 4 prog_6_method_6_code (kpl kr_43 prog_6_method_6_code.size) (kr_43.drop 0) (kc_43.drop 0) = true := by decide +kernel
theorem kk_43 : ko_k "QuillDesk$Law" (decide ("know" = "<init>")) 4 prog_6_method_6_code (kpl kr_43 prog_6_method_6_code.size) kr_43 kc_43 = true := ko_k_0 kx_43_0
theorem kp_44 : ko_p prog_6_method_7_code.size kr_44 0 = true := by decide +kernel
theorem kx_44_0 : ko_k "QuillDesk$Law" (decide ("tell" = "<init>")) 5 prog_6_method_7_code (kpl kr_44 prog_6_method_7_code.size) ((kr_44.drop 0).take 40) ((kc_44.drop 0).take 40) = true := by decide +kernel
theorem kx_44_40 : ko_k "QuillDesk$Law" (decide ("tell" = "<init>")) 5 prog_6_method_7_code (kpl kr_44 prog_6_method_7_code.size) (kr_44.drop 40) (kc_44.drop 40) = true := by decide +kernel
theorem kk_44 : ko_k "QuillDesk$Law" (decide ("tell" = "<init>")) 5 prog_6_method_7_code (kpl kr_44 prog_6_method_7_code.size) kr_44 kc_44 = true := ko_k_0 (ko_k_cut 0 40 40 rfl kx_44_0 kx_44_40)
theorem kp_45 : ko_p prog_6_method_8_code.size kr_45 0 = true := by decide +kernel
theorem kx_45_0 : ko_k "QuillDesk$Law" (decide ("work" = "<init>")) 6 prog_6_method_8_code (kpl kr_45 prog_6_method_8_code.size) ((kr_45.drop 0).take 40) ((kc_45.drop 0).take 40) = true := by decide +kernel
end
section
theorem kx_45_40 : ko_k "QuillDesk$Law" (decide ("work" = "<init>")) 6 prog_6_method_8_code (kpl kr_45 prog_6_method_8_code.size) ((kr_45.drop 40).take 40) ((kc_45.drop 40).take 40) = true := by decide +kernel
theorem kx_45_80 : ko_k "QuillDesk$Law" (decide ("work" = "<init>")) 6 prog_6_method_8_code (kpl kr_45 prog_6_method_8_code.size) (kr_45.drop 80) (kc_45.drop 80) = true := by decide +kernel
theorem kk_45 : ko_k "QuillDesk$Law" (decide ("work" = "<init>")) 6 prog_6_method_8_code (kpl kr_45 prog_6_method_8_code.size) kr_45 kc_45 = true := ko_k_0 (ko_k_cut 0 40 40 rfl kx_45_0 (ko_k_cut 40 40 80 rfl kx_45_40 kx_45_80))
theorem kp_46 : ko_p prog_6_method_9_code.size kr_46 0 = true := by decide +kernel
theorem kx_46_0 : ko_k "QuillDesk$Law" (decide ("join" = "<init>")) 3 prog_6_method_9_code (kpl kr_46 prog_6_method_9_code.size) ((kr_46.drop 0).take 40) ((kc_46.drop 0).take 40) = true := by decide +kernel
theorem kx_46_40 : ko_k "QuillDesk$Law" (decide ("join" = "<init>")) 3 prog_6_method_9_code (kpl kr_46 prog_6_method_9_code.size) (kr_46.drop 40) (kc_46.drop 40) = true := by decide +kernel
theorem kk_46 : ko_k "QuillDesk$Law" (decide ("join" = "<init>")) 3 prog_6_method_9_code (kpl kr_46 prog_6_method_9_code.size) kr_46 kc_46 = true := ko_k_0 (ko_k_cut 0 40 40 rfl kx_46_0 kx_46_40)
theorem kp_47 : ko_p prog_7_method_1_code.size kr_47 0 = true := by decide +kernel
theorem kx_47_0 : ko_k "QuillDesk$Past" (decide ("<init>" = "<init>")) 2 prog_7_method_1_code (kpl kr_47 prog_7_method_1_code.size) (kr_47.drop 0) (kc_47.drop 0) = true := by decide +kernel
theorem kk_47 : ko_k "QuillDesk$Past" (decide ("<init>" = "<init>")) 2 prog_7_method_1_code (kpl kr_47 prog_7_method_1_code.size) kr_47 kc_47 = true := ko_k_0 kx_47_0
theorem kp_48 : ko_p prog_7_method_2_code.size kr_48 0 = true := by decide +kernel
theorem kx_48_0 : ko_k "QuillDesk$Past" (decide ("keep" = "<init>")) 4 prog_7_method_2_code (kpl kr_48 prog_7_method_2_code.size) ((kr_48.drop 0).take 40) ((kc_48.drop 0).take 40) = true := by decide +kernel
theorem kx_48_40 : ko_k "QuillDesk$Past" (decide ("keep" = "<init>")) 4 prog_7_method_2_code (kpl kr_48 prog_7_method_2_code.size) (kr_48.drop 40) (kc_48.drop 40) = true := by decide +kernel
theorem kk_48 : ko_k "QuillDesk$Past" (decide ("keep" = "<init>")) 4 prog_7_method_2_code (kpl kr_48 prog_7_method_2_code.size) kr_48 kc_48 = true := ko_k_0 (ko_k_cut 0 40 40 rfl kx_48_0 kx_48_40)
theorem kp_49 : ko_p prog_7_method_3_code.size kr_49 0 = true := by decide +kernel
theorem kx_49_0 : ko_k "QuillDesk$Past" (decide ("goBack" = "<init>")) 4 prog_7_method_3_code (kpl kr_49 prog_7_method_3_code.size) ((kr_49.drop 0).take 40) ((kc_49.drop 0).take 40) = true := by decide +kernel
theorem kx_49_40 : ko_k "QuillDesk$Past" (decide ("goBack" = "<init>")) 4 prog_7_method_3_code (kpl kr_49 prog_7_method_3_code.size) (kr_49.drop 40) (kc_49.drop 40) = true := by decide +kernel
theorem kk_49 : ko_k "QuillDesk$Past" (decide ("goBack" = "<init>")) 4 prog_7_method_3_code (kpl kr_49 prog_7_method_3_code.size) kr_49 kc_49 = true := ko_k_0 (ko_k_cut 0 40 40 rfl kx_49_0 kx_49_40)
theorem kp_50 : ko_p prog_7_method_4_code.size kr_50 0 = true := by decide +kernel
theorem kx_50_0 : ko_k "QuillDesk$Past" (decide ("forget" = "<init>")) 1 prog_7_method_4_code (kpl kr_50 prog_7_method_4_code.size) (kr_50.drop 0) (kc_50.drop 0) = true := by decide +kernel
theorem kk_50 : ko_k "QuillDesk$Past" (decide ("forget" = "<init>")) 1 prog_7_method_4_code (kpl kr_50 prog_7_method_4_code.size) kr_50 kc_50 = true := ko_k_0 kx_50_0
theorem kp_51 : ko_p prog_8_method_1_code.size kr_51 0 = true := by decide +kernel
theorem kx_51_0 : ko_k "QuillDesk$Reader" (decide ("<init>" = "<init>")) 1 prog_8_method_1_code (kpl kr_51 prog_8_method_1_code.size) ((kr_51.drop 0).take 40) ((kc_51.drop 0).take 40) = true := by decide +kernel
theorem kx_51_40 : ko_k "QuillDesk$Reader" (decide ("<init>" = "<init>")) 1 prog_8_method_1_code (kpl kr_51 prog_8_method_1_code.size) (kr_51.drop 40) (kc_51.drop 40) = true := by decide +kernel
theorem kk_51 : ko_k "QuillDesk$Reader" (decide ("<init>" = "<init>")) 1 prog_8_method_1_code (kpl kr_51 prog_8_method_1_code.size) kr_51 kc_51 = true := ko_k_0 (ko_k_cut 0 40 40 rfl kx_51_0 kx_51_40)
theorem kp_52 : ko_p prog_8_method_2_code.size kr_52 0 = true := by decide +kernel
theorem kx_52_0 : ko_k "QuillDesk$Reader" (decide ("append" = "<init>")) 3 prog_8_method_2_code (kpl kr_52 prog_8_method_2_code.size) (kr_52.drop 0) (kc_52.drop 0) = true := by decide +kernel
theorem kk_52 : ko_k "QuillDesk$Reader" (decide ("append" = "<init>")) 3 prog_8_method_2_code (kpl kr_52 prog_8_method_2_code.size) kr_52 kc_52 = true := ko_k_0 kx_52_0
theorem kp_53 : ko_p prog_8_method_3_code.size kr_53 0 = true := by decide +kernel
theorem kx_53_0 : ko_k "QuillDesk$Reader" (decide ("understand" = "<init>")) 4 prog_8_method_3_code (kpl kr_53 prog_8_method_3_code.size) ((kr_53.drop 0).take 40) ((kc_53.drop 0).take 40) = true := by decide +kernel
theorem kx_53_40 : ko_k "QuillDesk$Reader" (decide ("understand" = "<init>")) 4 prog_8_method_3_code (kpl kr_53 prog_8_method_3_code.size) ((kr_53.drop 40).take 40) ((kc_53.drop 40).take 40) = true := by decide +kernel
theorem kx_53_80 : ko_k "QuillDesk$Reader" (decide ("understand" = "<init>")) 4 prog_8_method_3_code (kpl kr_53 prog_8_method_3_code.size) (kr_53.drop 80) (kc_53.drop 80) = true := by decide +kernel
theorem kk_53 : ko_k "QuillDesk$Reader" (decide ("understand" = "<init>")) 4 prog_8_method_3_code (kpl kr_53 prog_8_method_3_code.size) kr_53 kc_53 = true := ko_k_0 (ko_k_cut 0 40 40 rfl kx_53_0 (ko_k_cut 40 40 80 rfl kx_53_40 kx_53_80))
theorem kp_54 : ko_p prog_8_method_4_code.size kr_54 0 = true := by decide +kernel
theorem kx_54_0 : ko_k "QuillDesk$Reader" (decide ("beginsLine" = "<init>")) 3 prog_8_method_4_code (kpl kr_54 prog_8_method_4_code.size) (kr_54.drop 0) (kc_54.drop 0) = true := by decide +kernel
theorem kk_54 : ko_k "QuillDesk$Reader" (decide ("beginsLine" = "<init>")) 3 prog_8_method_4_code (kpl kr_54 prog_8_method_4_code.size) kr_54 kc_54 = true := ko_k_0 kx_54_0
theorem kp_55 : ko_p prog_8_method_5_code.size kr_55 0 = true := by decide +kernel
theorem kx_55_0 : ko_k "QuillDesk$Reader" (decide ("cutTokens" = "<init>")) 2 prog_8_method_5_code (kpl kr_55 prog_8_method_5_code.size) ((kr_55.drop 0).take 40) ((kc_55.drop 0).take 40) = true := by decide +kernel
theorem kx_55_40 : ko_k "QuillDesk$Reader" (decide ("cutTokens" = "<init>")) 2 prog_8_method_5_code (kpl kr_55 prog_8_method_5_code.size) (kr_55.drop 40) (kc_55.drop 40) = true := by decide +kernel
theorem kk_55 : ko_k "QuillDesk$Reader" (decide ("cutTokens" = "<init>")) 2 prog_8_method_5_code (kpl kr_55 prog_8_method_5_code.size) kr_55 kc_55 = true := ko_k_0 (ko_k_cut 0 40 40 rfl kx_55_0 kx_55_40)
theorem kp_56 : ko_p prog_8_method_6_code.size kr_56 0 = true := by decide +kernel
theorem kx_56_0 : ko_k "QuillDesk$Reader" (decide ("goesOn" = "<init>")) 2 prog_8_method_6_code (kpl kr_56 prog_8_method_6_code.size) (kr_56.drop 0) (kc_56.drop 0) = true := by decide +kernel
theorem kk_56 : ko_k "QuillDesk$Reader" (decide ("goesOn" = "<init>")) 2 prog_8_method_6_code (kpl kr_56 prog_8_method_6_code.size) kr_56 kc_56 = true := ko_k_0 kx_56_0
theorem kp_57 : ko_p prog_8_method_7_code.size kr_57 0 = true := by decide +kernel
theorem kx_57_0 : ko_k "QuillDesk$Reader" (decide ("kindAt" = "<init>")) 2 prog_8_method_7_code (kpl kr_57 prog_8_method_7_code.size) (kr_57.drop 0) (kc_57.drop 0) = true := by decide +kernel
theorem kk_57 : ko_k "QuillDesk$Reader" (decide ("kindAt" = "<init>")) 2 prog_8_method_7_code (kpl kr_57 prog_8_method_7_code.size) kr_57 kc_57 = true := ko_k_0 kx_57_0
theorem kp_58 : ko_p prog_8_method_8_code.size kr_58 0 = true := by decide +kernel
theorem kx_58_0 : ko_k "QuillDesk$Reader" (decide ("numberAt" = "<init>")) 4 prog_8_method_8_code (kpl kr_58 prog_8_method_8_code.size) (kr_58.drop 0) (kc_58.drop 0) = true := by decide +kernel
theorem kk_58 : ko_k "QuillDesk$Reader" (decide ("numberAt" = "<init>")) 4 prog_8_method_8_code (kpl kr_58 prog_8_method_8_code.size) kr_58 kc_58 = true := ko_k_0 kx_58_0
theorem kp_59 : ko_p prog_8_method_9_code.size kr_59 0 = true := by decide +kernel
theorem kx_59_0 : ko_k "QuillDesk$Reader" (decide ("wordAt" = "<init>")) 6 prog_8_method_9_code (kpl kr_59 prog_8_method_9_code.size) ((kr_59.drop 0).take 40) ((kc_59.drop 0).take 40) = true := by decide +kernel
theorem kx_59_40 : ko_k "QuillDesk$Reader" (decide ("wordAt" = "<init>")) 6 prog_8_method_9_code (kpl kr_59 prog_8_method_9_code.size) (kr_59.drop 40) (kc_59.drop 40) = true := by decide +kernel
theorem kk_59 : ko_k "QuillDesk$Reader" (decide ("wordAt" = "<init>")) 6 prog_8_method_9_code (kpl kr_59 prog_8_method_9_code.size) kr_59 kc_59 = true := ko_k_0 (ko_k_cut 0 40 40 rfl kx_59_0 kx_59_40)
theorem kp_60 : ko_p prog_8_method_10_code.size kr_60 0 = true := by decide +kernel
theorem kx_60_0 : ko_k "QuillDesk$Reader" (decide ("isSame" = "<init>")) 5 prog_8_method_10_code (kpl kr_60 prog_8_method_10_code.size) (kr_60.drop 0) (kc_60.drop 0) = true := by decide +kernel
theorem kk_60 : ko_k "QuillDesk$Reader" (decide ("isSame" = "<init>")) 5 prog_8_method_10_code (kpl kr_60 prog_8_method_10_code.size) kr_60 kc_60 = true := ko_k_0 kx_60_0
theorem kp_61 : ko_p prog_8_method_11_code.size kr_61 0 = true := by decide +kernel
theorem kx_61_0 : ko_k "QuillDesk$Reader" (decide ("isLetter" = "<init>")) 1 prog_8_method_11_code (kpl kr_61 prog_8_method_11_code.size) (kr_61.drop 0) (kc_61.drop 0) = true := by decide +kernel
theorem kk_61 : ko_k "QuillDesk$Reader" (decide ("isLetter" = "<init>")) 1 prog_8_method_11_code (kpl kr_61 prog_8_method_11_code.size) kr_61 kc_61 = true := ko_k_0 kx_61_0
theorem kp_62 : ko_p prog_8_method_12_code.size kr_62 0 = true := by decide +kernel
theorem kx_62_0 : ko_k "QuillDesk$Reader" (decide ("isDigit" = "<init>")) 1 prog_8_method_12_code (kpl kr_62 prog_8_method_12_code.size) (kr_62.drop 0) (kc_62.drop 0) = true := by decide +kernel
theorem kk_62 : ko_k "QuillDesk$Reader" (decide ("isDigit" = "<init>")) 1 prog_8_method_12_code (kpl kr_62 prog_8_method_12_code.size) kr_62 kc_62 = true := ko_k_0 kx_62_0
theorem kp_63 : ko_p prog_8_method_13_code.size kr_63 0 = true := by decide +kernel
theorem kx_63_0 : ko_k "QuillDesk$Reader" (decide ("token" = "<init>")) 1 prog_8_method_13_code (kpl kr_63 prog_8_method_13_code.size) (kr_63.drop 0) (kc_63.drop 0) = true := by decide +kernel
theorem kk_63 : ko_k "QuillDesk$Reader" (decide ("token" = "<init>")) 1 prog_8_method_13_code (kpl kr_63 prog_8_method_13_code.size) kr_63 kc_63 = true := ko_k_0 kx_63_0
theorem kp_64 : ko_p prog_8_method_14_code.size kr_64 0 = true := by decide +kernel
theorem kx_64_0 : ko_k "QuillDesk$Reader" (decide ("refuse" = "<init>")) 2 prog_8_method_14_code (kpl kr_64 prog_8_method_14_code.size) (kr_64.drop 0) (kc_64.drop 0) = true := by decide +kernel
theorem kk_64 : ko_k "QuillDesk$Reader" (decide ("refuse" = "<init>")) 2 prog_8_method_14_code (kpl kr_64 prog_8_method_14_code.size) kr_64 kc_64 = true := ko_k_0 kx_64_0
theorem kp_65 : ko_p prog_8_method_15_code.size kr_65 0 = true := by decide +kernel
theorem kx_65_0 : ko_k "QuillDesk$Reader" (decide ("expect" = "<init>")) 2 prog_8_method_15_code (kpl kr_65 prog_8_method_15_code.size) (kr_65.drop 0) (kc_65.drop 0) = true := by decide +kernel
theorem kk_65 : ko_k "QuillDesk$Reader" (decide ("expect" = "<init>")) 2 prog_8_method_15_code (kpl kr_65 prog_8_method_15_code.size) kr_65 kc_65 = true := ko_k_0 kx_65_0
theorem kp_66 : ko_p prog_8_method_16_code.size kr_66 0 = true := by decide +kernel
theorem kx_66_0 : ko_k "QuillDesk$Reader" (decide ("expectNumber" = "<init>")) 3 prog_8_method_16_code (kpl kr_66 prog_8_method_16_code.size) (kr_66.drop 0) (kc_66.drop 0) = true := by decide +kernel
theorem kk_66 : ko_k "QuillDesk$Reader" (decide ("expectNumber" = "<init>")) 3 prog_8_method_16_code (kpl kr_66 prog_8_method_16_code.size) kr_66 kc_66 = true := ko_k_0 kx_66_0
theorem kp_67 : ko_p prog_8_method_17_code.size kr_67 0 = true := by decide +kernel
theorem kx_67_0 : ko_k "QuillDesk$Reader" (decide ("orderLine" = "<init>")) 6 prog_8_method_17_code (kpl kr_67 prog_8_method_17_code.size) ((kr_67.drop 0).take 40) ((kc_67.drop 0).take 40) = true := by decide +kernel
theorem kx_67_40 : ko_k "QuillDesk$Reader" (decide ("orderLine" = "<init>")) 6 prog_8_method_17_code (kpl kr_67 prog_8_method_17_code.size) ((kr_67.drop 40).take 40) ((kc_67.drop 40).take 40) = true := by decide +kernel
theorem kx_67_80 : ko_k "QuillDesk$Reader" (decide ("orderLine" = "<init>")) 6 prog_8_method_17_code (kpl kr_67 prog_8_method_17_code.size) (kr_67.drop 80) (kc_67.drop 80) = true := by decide +kernel
theorem kk_67 : ko_k "QuillDesk$Reader" (decide ("orderLine" = "<init>")) 6 prog_8_method_17_code (kpl kr_67 prog_8_method_17_code.size) kr_67 kc_67 = true := ko_k_0 (ko_k_cut 0 40 40 rfl kx_67_0 (ko_k_cut 40 40 80 rfl kx_67_40 kx_67_80))
theorem kp_68 : ko_p prog_8_method_18_code.size kr_68 0 = true := by decide +kernel
theorem kx_68_0 : ko_k "QuillDesk$Reader" (decide ("actOf" = "<init>")) 1 prog_8_method_18_code (kpl kr_68 prog_8_method_18_code.size) (kr_68.drop 0) (kc_68.drop 0) = true := by decide +kernel
theorem kk_68 : ko_k "QuillDesk$Reader" (decide ("actOf" = "<init>")) 1 prog_8_method_18_code (kpl kr_68 prog_8_method_18_code.size) kr_68 kc_68 = true := ko_k_0 kx_68_0
theorem kp_69 : ko_p prog_8_method_19_code.size kr_69 0 = true := by decide +kernel
theorem kx_69_0 : ko_k "QuillDesk$Reader" (decide ("birdLine" = "<init>")) 3 prog_8_method_19_code (kpl kr_69 prog_8_method_19_code.size) ((kr_69.drop 0).take 40) ((kc_69.drop 0).take 40) = true := by decide +kernel
theorem kx_69_40 : ko_k "QuillDesk$Reader" (decide ("birdLine" = "<init>")) 3 prog_8_method_19_code (kpl kr_69 prog_8_method_19_code.size) (kr_69.drop 40) (kc_69.drop 40) = true := by decide +kernel
theorem kk_69 : ko_k "QuillDesk$Reader" (decide ("birdLine" = "<init>")) 3 prog_8_method_19_code (kpl kr_69 prog_8_method_19_code.size) kr_69 kc_69 = true := ko_k_0 (ko_k_cut 0 40 40 rfl kx_69_0 kx_69_40)
theorem kp_70 : ko_p prog_8_method_20_code.size kr_70 0 = true := by decide +kernel
theorem kx_70_0 : ko_k "QuillDesk$Reader" (decide ("afterLine" = "<init>")) 3 prog_8_method_20_code (kpl kr_70 prog_8_method_20_code.size) (kr_70.drop 0) (kc_70.drop 0) = true := by decide +kernel
theorem kk_70 : ko_k "QuillDesk$Reader" (decide ("afterLine" = "<init>")) 3 prog_8_method_20_code (kpl kr_70 prog_8_method_20_code.size) kr_70 kc_70 = true := ko_k_0 kx_70_0
theorem kp_71 : ko_p prog_8_method_21_code.size kr_71 0 = true := by decide +kernel
theorem kx_71_0 : ko_k "QuillDesk$Reader" (decide ("lawLine" = "<init>")) 4 prog_8_method_21_code (kpl kr_71 prog_8_method_21_code.size) ((kr_71.drop 0).take 40) ((kc_71.drop 0).take 40) = true := by decide +kernel
theorem kx_71_40 : ko_k "QuillDesk$Reader" (decide ("lawLine" = "<init>")) 4 prog_8_method_21_code (kpl kr_71 prog_8_method_21_code.size) (kr_71.drop 40) (kc_71.drop 40) = true := by decide +kernel
theorem kk_71 : ko_k "QuillDesk$Reader" (decide ("lawLine" = "<init>")) 4 prog_8_method_21_code (kpl kr_71 prog_8_method_21_code.size) kr_71 kc_71 = true := ko_k_0 (ko_k_cut 0 40 40 rfl kx_71_0 kx_71_40)
theorem kp_72 : ko_p prog_8_method_22_code.size kr_72 0 = true := by decide +kernel
theorem kx_72_0 : ko_k "QuillDesk$Reader" (decide ("sumUp" = "<init>")) 4 prog_8_method_22_code (kpl kr_72 prog_8_method_22_code.size) ((kr_72.drop 0).take 40) ((kc_72.drop 0).take 40) = true := by decide +kernel
theorem kx_72_40 : ko_k "QuillDesk$Reader" (decide ("sumUp" = "<init>")) 4 prog_8_method_22_code (kpl kr_72 prog_8_method_22_code.size) ((kr_72.drop 40).take 40) ((kc_72.drop 40).take 40) = true := by decide +kernel
theorem kx_72_80 : ko_k "QuillDesk$Reader" (decide ("sumUp" = "<init>")) 4 prog_8_method_22_code (kpl kr_72 prog_8_method_22_code.size) (kr_72.drop 80) (kc_72.drop 80) = true := by decide +kernel
theorem kk_72 : ko_k "QuillDesk$Reader" (decide ("sumUp" = "<init>")) 4 prog_8_method_22_code (kpl kr_72 prog_8_method_22_code.size) kr_72 kc_72 = true := ko_k_0 (ko_k_cut 0 40 40 rfl kx_72_0 (ko_k_cut 40 40 80 rfl kx_72_40 kx_72_80))
theorem kp_73 : ko_p prog_8_method_23_code.size kr_73 0 = true := by decide +kernel
theorem kx_73_0 : ko_k "QuillDesk$Reader" (decide ("unit" = "<init>")) 2 prog_8_method_23_code (kpl kr_73 prog_8_method_23_code.size) (kr_73.drop 0) (kc_73.drop 0) = true := by decide +kernel
theorem kk_73 : ko_k "QuillDesk$Reader" (decide ("unit" = "<init>")) 2 prog_8_method_23_code (kpl kr_73 prog_8_method_23_code.size) kr_73 kc_73 = true := ko_k_0 kx_73_0
theorem kp_74 : ko_p prog_8_method_24_code.size kr_74 0 = true := by decide +kernel
theorem kx_74_0 : ko_k "QuillDesk$Reader" (decide ("part" = "<init>")) 2 prog_8_method_24_code (kpl kr_74 prog_8_method_24_code.size) (kr_74.drop 0) (kc_74.drop 0) = true := by decide +kernel
theorem kk_74 : ko_k "QuillDesk$Reader" (decide ("part" = "<init>")) 2 prog_8_method_24_code (kpl kr_74 prog_8_method_24_code.size) kr_74 kc_74 = true := ko_k_0 kx_74_0
theorem kp_75 : ko_p prog_8_method_25_code.size kr_75 0 = true := by decide +kernel
theorem kx_75_0 : ko_k "QuillDesk$Reader" (decide ("condition" = "<init>")) 5 prog_8_method_25_code (kpl kr_75 prog_8_method_25_code.size) ((kr_75.drop 0).take 40) ((kc_75.drop 0).take 40) = true := by decide +kernel
theorem kx_75_40 : ko_k "QuillDesk$Reader" (decide ("condition" = "<init>")) 5 prog_8_method_25_code (kpl kr_75 prog_8_method_25_code.size) (kr_75.drop 40) (kc_75.drop 40) = true := by decide +kernel
theorem kk_75 : ko_k "QuillDesk$Reader" (decide ("condition" = "<init>")) 5 prog_8_method_25_code (kpl kr_75 prog_8_method_25_code.size) kr_75 kc_75 = true := ko_k_0 (ko_k_cut 0 40 40 rfl kx_75_0 kx_75_40)
theorem kp_76 : ko_p prog_8_method_26_code.size kr_76 0 = true := by decide +kernel
theorem kx_76_0 : ko_k "QuillDesk$Reader" (decide ("single" = "<init>")) 4 prog_8_method_26_code (kpl kr_76 prog_8_method_26_code.size) ((kr_76.drop 0).take 40) ((kc_76.drop 0).take 40) = true := by decide +kernel
theorem kx_76_40 : ko_k "QuillDesk$Reader" (decide ("single" = "<init>")) 4 prog_8_method_26_code (kpl kr_76 prog_8_method_26_code.size) ((kr_76.drop 40).take 40) ((kc_76.drop 40).take 40) = true := by decide +kernel
theorem kx_76_80 : ko_k "QuillDesk$Reader" (decide ("single" = "<init>")) 4 prog_8_method_26_code (kpl kr_76 prog_8_method_26_code.size) (kr_76.drop 80) (kc_76.drop 80) = true := by decide +kernel
theorem kk_76 : ko_k "QuillDesk$Reader" (decide ("single" = "<init>")) 4 prog_8_method_26_code (kpl kr_76 prog_8_method_26_code.size) kr_76 kc_76 = true := ko_k_0 (ko_k_cut 0 40 40 rfl kx_76_0 (ko_k_cut 40 40 80 rfl kx_76_40 kx_76_80))
theorem kp_77 : ko_p prog_9_method_1_code.size kr_77 0 = true := by decide +kernel
theorem kx_77_0 : ko_k "QuillDesk$Row" (decide ("<init>" = "<init>")) 2 prog_9_method_1_code (kpl kr_77 prog_9_method_1_code.size) (kr_77.drop 0) (kc_77.drop 0) = true := by decide +kernel
theorem kk_77 : ko_k "QuillDesk$Row" (decide ("<init>" = "<init>")) 2 prog_9_method_1_code (kpl kr_77 prog_9_method_1_code.size) kr_77 kc_77 = true := ko_k_0 kx_77_0
theorem kp_78 : ko_p prog_9_method_2_code.size kr_78 0 = true := by decide +kernel
theorem kx_78_0 : ko_k "QuillDesk$Row" (decide ("tell" = "<init>")) 4 prog_9_method_2_code (kpl kr_78 prog_9_method_2_code.size) (kr_78.drop 0) (kc_78.drop 0) = true := by decide +kernel
theorem kk_78 : ko_k "QuillDesk$Row" (decide ("tell" = "<init>")) 4 prog_9_method_2_code (kpl kr_78 prog_9_method_2_code.size) kr_78 kc_78 = true := ko_k_0 kx_78_0
theorem kp_79 : ko_p prog_9_method_3_code.size kr_79 0 = true := by decide +kernel
theorem kx_79_0 : ko_k "QuillDesk$Row" (decide ("clear" = "<init>")) 1 prog_9_method_3_code (kpl kr_79 prog_9_method_3_code.size) (kr_79.drop 0) (kc_79.drop 0) = true := by decide +kernel
theorem kk_79 : ko_k "QuillDesk$Row" (decide ("clear" = "<init>")) 1 prog_9_method_3_code (kpl kr_79 prog_9_method_3_code.size) kr_79 kc_79 = true := ko_k_0 kx_79_0
theorem kp_80 : ko_p prog_9_method_4_code.size kr_80 0 = true := by decide +kernel
theorem kx_80_0 : ko_k "QuillDesk$Row" (decide ("has" = "<init>")) 3 prog_9_method_4_code (kpl kr_80 prog_9_method_4_code.size) (kr_80.drop 0) (kc_80.drop 0) = true := by decide +kernel
theorem kk_80 : ko_k "QuillDesk$Row" (decide ("has" = "<init>")) 3 prog_9_method_4_code (kpl kr_80 prog_9_method_4_code.size) kr_80 kc_80 = true := ko_k_0 kx_80_0
theorem kp_81 : ko_p prog_9_method_5_code.size kr_81 0 = true := by decide +kernel
theorem kx_81_0 : ko_k "QuillDesk$Row" (decide ("sum" = "<init>")) 3 prog_9_method_5_code (kpl kr_81 prog_9_method_5_code.size) (kr_81.drop 0) (kc_81.drop 0) = true := by decide +kernel
theorem kk_81 : ko_k "QuillDesk$Row" (decide ("sum" = "<init>")) 3 prog_9_method_5_code (kpl kr_81 prog_9_method_5_code.size) kr_81 kc_81 = true := ko_k_0 kx_81_0
theorem kp_82 : ko_p prog_9_method_6_code.size kr_82 0 = true := by decide +kernel
theorem kx_82_0 : ko_k "QuillDesk$Row" (decide ("round" = "<init>")) 2 prog_9_method_6_code (kpl kr_82 prog_9_method_6_code.size) (kr_82.drop 0) (kc_82.drop 0) = true := by decide +kernel
theorem kk_82 : ko_k "QuillDesk$Row" (decide ("round" = "<init>")) 2 prog_9_method_6_code (kpl kr_82 prog_9_method_6_code.size) kr_82 kc_82 = true := ko_k_0 kx_82_0
theorem kp_83 : ko_p prog_9_method_7_code.size kr_83 0 = true := by decide +kernel
theorem kx_83_0 : ko_k "QuillDesk$Row" (decide ("copyFrom" = "<init>")) 2 prog_9_method_7_code (kpl kr_83 prog_9_method_7_code.size) (kr_83.drop 0) (kc_83.drop 0) = true := by decide +kernel
theorem kk_83 : ko_k "QuillDesk$Row" (decide ("copyFrom" = "<init>")) 2 prog_9_method_7_code (kpl kr_83 prog_9_method_7_code.size) kr_83 kc_83 = true := ko_k_0 kx_83_0
theorem kp_84 : ko_p prog_10_method_1_code.size kr_84 0 = true := by decide +kernel
theorem kx_84_0 : ko_k "QuillDesk$Text" (decide ("<init>" = "<init>")) 1 prog_10_method_1_code (kpl kr_84 prog_10_method_1_code.size) (kr_84.drop 0) (kc_84.drop 0) = true := by decide +kernel
theorem kk_84 : ko_k "QuillDesk$Text" (decide ("<init>" = "<init>")) 1 prog_10_method_1_code (kpl kr_84 prog_10_method_1_code.size) kr_84 kc_84 = true := ko_k_0 kx_84_0
theorem kp_85 : ko_p prog_10_method_2_code.size kr_85 0 = true := by decide +kernel
theorem kx_85_0 : ko_k "QuillDesk$Text" (decide ("add" = "<init>")) 5 prog_10_method_2_code (kpl kr_85 prog_10_method_2_code.size) (kr_85.drop 0) (kc_85.drop 0) = true := by decide +kernel
theorem kk_85 : ko_k "QuillDesk$Text" (decide ("add" = "<init>")) 5 prog_10_method_2_code (kpl kr_85 prog_10_method_2_code.size) kr_85 kc_85 = true := ko_k_0 kx_85_0
theorem kp_86 : ko_p prog_10_method_3_code.size kr_86 0 = true := by decide +kernel
theorem kx_86_0 : ko_k "QuillDesk$Text" (decide ("copyFrom" = "<init>")) 2 prog_10_method_3_code (kpl kr_86 prog_10_method_3_code.size) (kr_86.drop 0) (kc_86.drop 0) = true := by decide +kernel
theorem kk_86 : ko_k "QuillDesk$Text" (decide ("copyFrom" = "<init>")) 2 prog_10_method_3_code (kpl kr_86 prog_10_method_3_code.size) kr_86 kc_86 = true := ko_k_0 kx_86_0
theorem kp_87 : ko_p prog_11_method_1_code.size kr_87 0 = true := by decide +kernel
theorem kx_87_0 : ko_k "QuillDesk$Thought" (decide ("<init>" = "<init>")) 1 prog_11_method_1_code (kpl kr_87 prog_11_method_1_code.size) (kr_87.drop 0) (kc_87.drop 0) = true := by decide +kernel
theorem kk_87 : ko_k "QuillDesk$Thought" (decide ("<init>" = "<init>")) 1 prog_11_method_1_code (kpl kr_87 prog_11_method_1_code.size) kr_87 kc_87 = true := ko_k_0 kx_87_0
theorem kp_88 : ko_p prog_11_method_2_code.size kr_88 0 = true := by decide +kernel
theorem kx_88_0 : ko_k "QuillDesk$Thought" (decide ("countFlock" = "<init>")) 6 prog_11_method_2_code (kpl kr_88 prog_11_method_2_code.size) ((kr_88.drop 0).take 40) ((kc_88.drop 0).take 40) = true := by decide +kernel
theorem kx_88_40 : ko_k "QuillDesk$Thought" (decide ("countFlock" = "<init>")) 6 prog_11_method_2_code (kpl kr_88 prog_11_method_2_code.size) ((kr_88.drop 40).take 40) ((kc_88.drop 40).take 40) = true := by decide +kernel
theorem kx_88_80 : ko_k "QuillDesk$Thought" (decide ("countFlock" = "<init>")) 6 prog_11_method_2_code (kpl kr_88 prog_11_method_2_code.size) (kr_88.drop 80) (kc_88.drop 80) = true := by decide +kernel
theorem kk_88 : ko_k "QuillDesk$Thought" (decide ("countFlock" = "<init>")) 6 prog_11_method_2_code (kpl kr_88 prog_11_method_2_code.size) kr_88 kc_88 = true := ko_k_0 (ko_k_cut 0 40 40 rfl kx_88_0 (ko_k_cut 40 40 80 rfl kx_88_40 kx_88_80))
theorem kp_89 : ko_p prog_11_method_3_code.size kr_89 0 = true := by decide +kernel
theorem kx_89_0 : ko_k "QuillDesk$Thought" (decide ("setPage" = "<init>")) 12 prog_11_method_3_code (kpl kr_89 prog_11_method_3_code.size) ((kr_89.drop 0).take 40) ((kc_89.drop 0).take 40) = true := by decide +kernel
theorem kx_89_40 : ko_k "QuillDesk$Thought" (decide ("setPage" = "<init>")) 12 prog_11_method_3_code (kpl kr_89 prog_11_method_3_code.size) ((kr_89.drop 40).take 40) ((kc_89.drop 40).take 40) = true := by decide +kernel
theorem kx_89_80 : ko_k "QuillDesk$Thought" (decide ("setPage" = "<init>")) 12 prog_11_method_3_code (kpl kr_89 prog_11_method_3_code.size) ((kr_89.drop 80).take 40) ((kc_89.drop 80).take 40) = true := by decide +kernel
theorem kx_89_120 : ko_k "QuillDesk$Thought" (decide ("setPage" = "<init>")) 12 prog_11_method_3_code (kpl kr_89 prog_11_method_3_code.size) (kr_89.drop 120) (kc_89.drop 120) = true := by decide +kernel
theorem kk_89 : ko_k "QuillDesk$Thought" (decide ("setPage" = "<init>")) 12 prog_11_method_3_code (kpl kr_89 prog_11_method_3_code.size) kr_89 kc_89 = true := ko_k_0 (ko_k_cut 0 40 40 rfl kx_89_0 (ko_k_cut 40 40 80 rfl kx_89_40 (ko_k_cut 80 40 120 rfl kx_89_80 kx_89_120)))
theorem kp_90 : ko_p prog_11_method_4_code.size kr_90 0 = true := by decide +kernel
theorem kx_90_0 : ko_k "QuillDesk$Thought" (decide ("payStamps" = "<init>")) 8 prog_11_method_4_code (kpl kr_90 prog_11_method_4_code.size) ((kr_90.drop 0).take 40) ((kc_90.drop 0).take 40) = true := by decide +kernel
end
section
theorem kx_90_40 : ko_k "QuillDesk$Thought" (decide ("payStamps" = "<init>")) 8 prog_11_method_4_code (kpl kr_90 prog_11_method_4_code.size) ((kr_90.drop 40).take 40) ((kc_90.drop 40).take 40) = true := by decide +kernel
theorem kx_90_80 : ko_k "QuillDesk$Thought" (decide ("payStamps" = "<init>")) 8 prog_11_method_4_code (kpl kr_90 prog_11_method_4_code.size) (kr_90.drop 80) (kc_90.drop 80) = true := by decide +kernel
theorem kk_90 : ko_k "QuillDesk$Thought" (decide ("payStamps" = "<init>")) 8 prog_11_method_4_code (kpl kr_90 prog_11_method_4_code.size) kr_90 kc_90 = true := ko_k_0 (ko_k_cut 0 40 40 rfl kx_90_0 (ko_k_cut 40 40 80 rfl kx_90_40 kx_90_80))
theorem kp_91 : ko_p prog_11_method_5_code.size kr_91 0 = true := by decide +kernel
theorem kx_91_0 : ko_k "QuillDesk$Thought" (decide ("commonPart" = "<init>")) 6 prog_11_method_5_code (kpl kr_91 prog_11_method_5_code.size) (kr_91.drop 0) (kc_91.drop 0) = true := by decide +kernel
theorem kk_91 : ko_k "QuillDesk$Thought" (decide ("commonPart" = "<init>")) 6 prog_11_method_5_code (kpl kr_91 prog_11_method_5_code.size) kr_91 kc_91 = true := ko_k_0 kx_91_0
theorem kp_92 : ko_p prog_11_method_6_code.size kr_92 0 = true := by decide +kernel
theorem kx_92_0 : ko_k "QuillDesk$Thought" (decide ("scratchDown" = "<init>")) 5 prog_11_method_6_code (kpl kr_92 prog_11_method_6_code.size) (kr_92.drop 0) (kc_92.drop 0) = true := by decide +kernel
theorem kk_92 : ko_k "QuillDesk$Thought" (decide ("scratchDown" = "<init>")) 5 prog_11_method_6_code (kpl kr_92 prog_11_method_6_code.size) kr_92 kc_92 = true := ko_k_0 kx_92_0
theorem kp_93 : ko_p prog_11_method_7_code.size kr_93 0 = true := by decide +kernel
theorem kx_93_0 : ko_k "QuillDesk$Thought" (decide ("weighByThrees" = "<init>")) 7 prog_11_method_7_code (kpl kr_93 prog_11_method_7_code.size) ((kr_93.drop 0).take 40) ((kc_93.drop 0).take 40) = true := by decide +kernel
theorem kx_93_40 : ko_k "QuillDesk$Thought" (decide ("weighByThrees" = "<init>")) 7 prog_11_method_7_code (kpl kr_93 prog_11_method_7_code.size) (kr_93.drop 40) (kc_93.drop 40) = true := by decide +kernel
theorem kk_93 : ko_k "QuillDesk$Thought" (decide ("weighByThrees" = "<init>")) 7 prog_11_method_7_code (kpl kr_93 prog_11_method_7_code.size) kr_93 kc_93 = true := ko_k_0 (ko_k_cut 0 40 40 rfl kx_93_0 kx_93_40)
theorem kp_94 : ko_p prog_11_method_8_code.size kr_94 0 = true := by decide +kernel
theorem kx_94_0 : ko_k "QuillDesk$Thought" (decide ("turnsLeft" = "<init>")) 3 prog_11_method_8_code (kpl kr_94 prog_11_method_8_code.size) (kr_94.drop 0) (kc_94.drop 0) = true := by decide +kernel
theorem kk_94 : ko_k "QuillDesk$Thought" (decide ("turnsLeft" = "<init>")) 3 prog_11_method_8_code (kpl kr_94 prog_11_method_8_code.size) kr_94 kc_94 = true := ko_k_0 kx_94_0
theorem kp_95 : ko_p prog_11_method_9_code.size kr_95 0 = true := by decide +kernel
theorem kx_95_0 : ko_k "QuillDesk$Thought" (decide ("walkCurve" = "<init>")) 9 prog_11_method_9_code (kpl kr_95 prog_11_method_9_code.size) ((kr_95.drop 0).take 40) ((kc_95.drop 0).take 40) = true := by decide +kernel
theorem kx_95_40 : ko_k "QuillDesk$Thought" (decide ("walkCurve" = "<init>")) 9 prog_11_method_9_code (kpl kr_95 prog_11_method_9_code.size) (kr_95.drop 40) (kc_95.drop 40) = true := by decide +kernel
theorem kk_95 : ko_k "QuillDesk$Thought" (decide ("walkCurve" = "<init>")) 9 prog_11_method_9_code (kpl kr_95 prog_11_method_9_code.size) kr_95 kc_95 = true := ko_k_0 (ko_k_cut 0 40 40 rfl kx_95_0 kx_95_40)
theorem kp_96 : ko_p prog_11_method_10_code.size kr_96 0 = true := by decide +kernel
theorem kx_96_0 : ko_k "QuillDesk$Thought" (decide ("countDots" = "<init>")) 6 prog_11_method_10_code (kpl kr_96 prog_11_method_10_code.size) ((kr_96.drop 0).take 40) ((kc_96.drop 0).take 40) = true := by decide +kernel
theorem kx_96_40 : ko_k "QuillDesk$Thought" (decide ("countDots" = "<init>")) 6 prog_11_method_10_code (kpl kr_96 prog_11_method_10_code.size) ((kr_96.drop 40).take 40) ((kc_96.drop 40).take 40) = true := by decide +kernel
theorem kx_96_80 : ko_k "QuillDesk$Thought" (decide ("countDots" = "<init>")) 6 prog_11_method_10_code (kpl kr_96 prog_11_method_10_code.size) (kr_96.drop 80) (kc_96.drop 80) = true := by decide +kernel
theorem kk_96 : ko_k "QuillDesk$Thought" (decide ("countDots" = "<init>")) 6 prog_11_method_10_code (kpl kr_96 prog_11_method_10_code.size) kr_96 kc_96 = true := ko_k_0 (ko_k_cut 0 40 40 rfl kx_96_0 (ko_k_cut 40 40 80 rfl kx_96_40 kx_96_80))
theorem kp_97 : ko_p prog_11_method_11_code.size kr_97 0 = true := by decide +kernel
theorem kx_97_0 : ko_k "QuillDesk$Thought" (decide ("cutPlank" = "<init>")) 12 prog_11_method_11_code (kpl kr_97 prog_11_method_11_code.size) ((kr_97.drop 0).take 40) ((kc_97.drop 0).take 40) = true := by decide +kernel
theorem kx_97_40 : ko_k "QuillDesk$Thought" (decide ("cutPlank" = "<init>")) 12 prog_11_method_11_code (kpl kr_97 prog_11_method_11_code.size) ((kr_97.drop 40).take 40) ((kc_97.drop 40).take 40) = true := by decide +kernel
theorem kx_97_80 : ko_k "QuillDesk$Thought" (decide ("cutPlank" = "<init>")) 12 prog_11_method_11_code (kpl kr_97 prog_11_method_11_code.size) (kr_97.drop 80) (kc_97.drop 80) = true := by decide +kernel
theorem kk_97 : ko_k "QuillDesk$Thought" (decide ("cutPlank" = "<init>")) 12 prog_11_method_11_code (kpl kr_97 prog_11_method_11_code.size) kr_97 kc_97 = true := ko_k_0 (ko_k_cut 0 40 40 rfl kx_97_0 (ko_k_cut 40 40 80 rfl kx_97_40 kx_97_80))
theorem kp_98 : ko_p prog_11_method_12_code.size kr_98 0 = true := by decide +kernel
theorem kx_98_0 : ko_k "QuillDesk$Thought" (decide ("markPlaces" = "<init>")) 5 prog_11_method_12_code (kpl kr_98 prog_11_method_12_code.size) (kr_98.drop 0) (kc_98.drop 0) = true := by decide +kernel
theorem kk_98 : ko_k "QuillDesk$Thought" (decide ("markPlaces" = "<init>")) 5 prog_11_method_12_code (kpl kr_98 prog_11_method_12_code.size) kr_98 kc_98 = true := ko_k_0 kx_98_0
theorem kp_99 : ko_p prog_11_method_13_code.size kr_99 0 = true := by decide +kernel
theorem kx_99_0 : ko_k "QuillDesk$Thought" (decide ("compareFrom" = "<init>")) 6 prog_11_method_13_code (kpl kr_99 prog_11_method_13_code.size) (kr_99.drop 0) (kc_99.drop 0) = true := by decide +kernel
theorem kk_99 : ko_k "QuillDesk$Thought" (decide ("compareFrom" = "<init>")) 6 prog_11_method_13_code (kpl kr_99 prog_11_method_13_code.size) kr_99 kc_99 = true := ko_k_0 kx_99_0
theorem kp_100 : ko_p prog_11_method_14_code.size kr_100 0 = true := by decide +kernel
theorem kx_100_0 : ko_k "QuillDesk$Thought" (decide ("leastPlace" = "<init>")) 3 prog_11_method_14_code (kpl kr_100 prog_11_method_14_code.size) (kr_100.drop 0) (kc_100.drop 0) = true := by decide +kernel
theorem kk_100 : ko_k "QuillDesk$Thought" (decide ("leastPlace" = "<init>")) 3 prog_11_method_14_code (kpl kr_100 prog_11_method_14_code.size) kr_100 kc_100 = true := ko_k_0 kx_100_0
theorem kp_101 : ko_p prog_11_method_15_code.size kr_101 0 = true := by decide +kernel
theorem kx_101_0 : ko_k "QuillDesk$Thought" (decide ("sameAgain" = "<init>")) 2 prog_11_method_15_code (kpl kr_101 prog_11_method_15_code.size) (kr_101.drop 0) (kc_101.drop 0) = true := by decide +kernel
theorem kk_101 : ko_k "QuillDesk$Thought" (decide ("sameAgain" = "<init>")) 2 prog_11_method_15_code (kpl kr_101 prog_11_method_15_code.size) kr_101 kc_101 = true := ko_k_0 kx_101_0
theorem kp_102 : ko_p prog_11_method_16_code.size kr_102 0 = true := by decide +kernel
theorem kx_102_0 : ko_k "QuillDesk$Thought" (decide ("unlikeRows" = "<init>")) 6 prog_11_method_16_code (kpl kr_102 prog_11_method_16_code.size) ((kr_102.drop 0).take 40) ((kc_102.drop 0).take 40) = true := by decide +kernel
theorem kx_102_40 : ko_k "QuillDesk$Thought" (decide ("unlikeRows" = "<init>")) 6 prog_11_method_16_code (kpl kr_102 prog_11_method_16_code.size) (kr_102.drop 40) (kc_102.drop 40) = true := by decide +kernel
theorem kk_102 : ko_k "QuillDesk$Thought" (decide ("unlikeRows" = "<init>")) 6 prog_11_method_16_code (kpl kr_102 prog_11_method_16_code.size) kr_102 kc_102 = true := ko_k_0 (ko_k_cut 0 40 40 rfl kx_102_0 kx_102_40)
theorem kp_103 : ko_p prog_11_method_17_code.size kr_103 0 = true := by decide +kernel
theorem kx_103_0 : ko_k "QuillDesk$Thought" (decide ("sail" = "<init>")) 8 prog_11_method_17_code (kpl kr_103 prog_11_method_17_code.size) ((kr_103.drop 0).take 40) ((kc_103.drop 0).take 40) = true := by decide +kernel
theorem kx_103_40 : ko_k "QuillDesk$Thought" (decide ("sail" = "<init>")) 8 prog_11_method_17_code (kpl kr_103 prog_11_method_17_code.size) (kr_103.drop 40) (kc_103.drop 40) = true := by decide +kernel
theorem kk_103 : ko_k "QuillDesk$Thought" (decide ("sail" = "<init>")) 8 prog_11_method_17_code (kpl kr_103 prog_11_method_17_code.size) kr_103 kc_103 = true := ko_k_0 (ko_k_cut 0 40 40 rfl kx_103_0 kx_103_40)
theorem kp_104 : ko_p prog_11_method_18_code.size kr_104 0 = true := by decide +kernel
theorem kx_104_0 : ko_k "QuillDesk$Thought" (decide ("mirror" = "<init>")) 4 prog_11_method_18_code (kpl kr_104 prog_11_method_18_code.size) (kr_104.drop 0) (kc_104.drop 0) = true := by decide +kernel
theorem kk_104 : ko_k "QuillDesk$Thought" (decide ("mirror" = "<init>")) 4 prog_11_method_18_code (kpl kr_104 prog_11_method_18_code.size) kr_104 kc_104 = true := ko_k_0 kx_104_0
theorem kp_105 : ko_p prog_11_method_19_code.size kr_105 0 = true := by decide +kernel
theorem kx_105_0 : ko_k "QuillDesk$Thought" (decide ("countMirrored" = "<init>")) 6 prog_11_method_19_code (kpl kr_105 prog_11_method_19_code.size) (kr_105.drop 0) (kc_105.drop 0) = true := by decide +kernel
theorem kk_105 : ko_k "QuillDesk$Thought" (decide ("countMirrored" = "<init>")) 6 prog_11_method_19_code (kpl kr_105 prog_11_method_19_code.size) kr_105 kc_105 = true := ko_k_0 kx_105_0
theorem kp_106 : ko_p prog_11_method_20_code.size kr_106 0 = true := by decide +kernel
theorem kx_106_0 : ko_k "QuillDesk$Thought" (decide ("countOut" = "<init>")) 10 prog_11_method_20_code (kpl kr_106 prog_11_method_20_code.size) ((kr_106.drop 0).take 40) ((kc_106.drop 0).take 40) = true := by decide +kernel
theorem kx_106_40 : ko_k "QuillDesk$Thought" (decide ("countOut" = "<init>")) 10 prog_11_method_20_code (kpl kr_106 prog_11_method_20_code.size) (kr_106.drop 40) (kc_106.drop 40) = true := by decide +kernel
theorem kk_106 : ko_k "QuillDesk$Thought" (decide ("countOut" = "<init>")) 10 prog_11_method_20_code (kpl kr_106 prog_11_method_20_code.size) kr_106 kc_106 = true := ko_k_0 (ko_k_cut 0 40 40 rfl kx_106_0 kx_106_40)
theorem kp_107 : ko_p prog_11_method_21_code.size kr_107 0 = true := by decide +kernel
theorem kx_107_0 : ko_k "QuillDesk$Thought" (decide ("nextThere" = "<init>")) 5 prog_11_method_21_code (kpl kr_107 prog_11_method_21_code.size) (kr_107.drop 0) (kc_107.drop 0) = true := by decide +kernel
theorem kk_107 : ko_k "QuillDesk$Thought" (decide ("nextThere" = "<init>")) 5 prog_11_method_21_code (kpl kr_107 prog_11_method_21_code.size) kr_107 kc_107 = true := ko_k_0 kx_107_0
theorem kp_108 : ko_p prog_11_method_22_code.size kr_108 0 = true := by decide +kernel
theorem kx_108_0 : ko_k "QuillDesk$Thought" (decide ("share" = "<init>")) 9 prog_11_method_22_code (kpl kr_108 prog_11_method_22_code.size) ((kr_108.drop 0).take 40) ((kc_108.drop 0).take 40) = true := by decide +kernel
theorem kx_108_40 : ko_k "QuillDesk$Thought" (decide ("share" = "<init>")) 9 prog_11_method_22_code (kpl kr_108 prog_11_method_22_code.size) ((kr_108.drop 40).take 40) ((kc_108.drop 40).take 40) = true := by decide +kernel
theorem kx_108_80 : ko_k "QuillDesk$Thought" (decide ("share" = "<init>")) 9 prog_11_method_22_code (kpl kr_108 prog_11_method_22_code.size) (kr_108.drop 80) (kc_108.drop 80) = true := by decide +kernel
theorem kk_108 : ko_k "QuillDesk$Thought" (decide ("share" = "<init>")) 9 prog_11_method_22_code (kpl kr_108 prog_11_method_22_code.size) kr_108 kc_108 = true := ko_k_0 (ko_k_cut 0 40 40 rfl kx_108_0 (ko_k_cut 40 40 80 rfl kx_108_40 kx_108_80))
theorem kp_109 : ko_p prog_11_method_23_code.size kr_109 0 = true := by decide +kernel
theorem kx_109_0 : ko_k "QuillDesk$Thought" (decide ("shareOf" = "<init>")) 4 prog_11_method_23_code (kpl kr_109 prog_11_method_23_code.size) (kr_109.drop 0) (kc_109.drop 0) = true := by decide +kernel
theorem kk_109 : ko_k "QuillDesk$Thought" (decide ("shareOf" = "<init>")) 4 prog_11_method_23_code (kpl kr_109 prog_11_method_23_code.size) kr_109 kc_109 = true := ko_k_0 kx_109_0
theorem kp_110 : ko_p prog_11_method_24_code.size kr_110 0 = true := by decide +kernel
theorem kx_110_0 : ko_k "QuillDesk$Thought" (decide ("whoLoses" = "<init>")) 4 prog_11_method_24_code (kpl kr_110 prog_11_method_24_code.size) (kr_110.drop 0) (kc_110.drop 0) = true := by decide +kernel
theorem kk_110 : ko_k "QuillDesk$Thought" (decide ("whoLoses" = "<init>")) 4 prog_11_method_24_code (kpl kr_110 prog_11_method_24_code.size) kr_110 kc_110 = true := ko_k_0 kx_110_0
theorem kp_111 : ko_p prog_1_method_1_code.size kr_111 0 = true := by decide +kernel
theorem kx_111_0 : ko_k "QuillDesk" (decide ("<init>" = "<init>")) 1 prog_1_method_1_code (kpl kr_111 prog_1_method_1_code.size) ((kr_111.drop 0).take 40) ((kc_111.drop 0).take 40) = true := by decide +kernel
theorem kx_111_40 : ko_k "QuillDesk" (decide ("<init>" = "<init>")) 1 prog_1_method_1_code (kpl kr_111 prog_1_method_1_code.size) (kr_111.drop 40) (kc_111.drop 40) = true := by decide +kernel
theorem kk_111 : ko_k "QuillDesk" (decide ("<init>" = "<init>")) 1 prog_1_method_1_code (kpl kr_111 prog_1_method_1_code.size) kr_111 kc_111 = true := ko_k_0 (ko_k_cut 0 40 40 rfl kx_111_0 kx_111_40)
theorem kp_112 : ko_p prog_1_method_2_code.size kr_112 0 = true := by decide +kernel
theorem kx_112_0 : ko_k "QuillDesk" (decide ("state" = "<init>")) 3 prog_1_method_2_code (kpl kr_112 prog_1_method_2_code.size) (kr_112.drop 0) (kc_112.drop 0) = true := by decide +kernel
theorem kk_112 : ko_k "QuillDesk" (decide ("state" = "<init>")) 3 prog_1_method_2_code (kpl kr_112 prog_1_method_2_code.size) kr_112 kc_112 = true := ko_k_0 kx_112_0
theorem kp_113 : ko_p prog_1_method_3_code.size kr_113 0 = true := by decide +kernel
theorem kx_113_0 : ko_k "QuillDesk" (decide ("quill" = "<init>")) 5 prog_1_method_3_code (kpl kr_113 prog_1_method_3_code.size) ((kr_113.drop 0).take 40) ((kc_113.drop 0).take 40) = true := by decide +kernel
theorem kx_113_40 : ko_k "QuillDesk" (decide ("quill" = "<init>")) 5 prog_1_method_3_code (kpl kr_113 prog_1_method_3_code.size) (kr_113.drop 40) (kc_113.drop 40) = true := by decide +kernel
theorem kk_113 : ko_k "QuillDesk" (decide ("quill" = "<init>")) 5 prog_1_method_3_code (kpl kr_113 prog_1_method_3_code.size) kr_113 kc_113 = true := ko_k_0 (ko_k_cut 0 40 40 rfl kx_113_0 kx_113_40)
theorem kp_114 : ko_p prog_1_method_4_code.size kr_114 0 = true := by decide +kernel
theorem kx_114_0 : ko_k "QuillDesk" (decide ("clerk" = "<init>")) 4 prog_1_method_4_code (kpl kr_114 prog_1_method_4_code.size) ((kr_114.drop 0).take 40) ((kc_114.drop 0).take 40) = true := by decide +kernel
theorem kx_114_40 : ko_k "QuillDesk" (decide ("clerk" = "<init>")) 4 prog_1_method_4_code (kpl kr_114 prog_1_method_4_code.size) (kr_114.drop 40) (kc_114.drop 40) = true := by decide +kernel
theorem kk_114 : ko_k "QuillDesk" (decide ("clerk" = "<init>")) 4 prog_1_method_4_code (kpl kr_114 prog_1_method_4_code.size) kr_114 kc_114 = true := ko_k_0 (ko_k_cut 0 40 40 rfl kx_114_0 kx_114_40)
theorem kp_115 : ko_p prog_1_method_5_code.size kr_115 0 = true := by decide +kernel
theorem kx_115_0 : ko_k "QuillDesk" (decide ("deed" = "<init>")) 4 prog_1_method_5_code (kpl kr_115 prog_1_method_5_code.size) ((kr_115.drop 0).take 40) ((kc_115.drop 0).take 40) = true := by decide +kernel
theorem kx_115_40 : ko_k "QuillDesk" (decide ("deed" = "<init>")) 4 prog_1_method_5_code (kpl kr_115 prog_1_method_5_code.size) (kr_115.drop 40) (kc_115.drop 40) = true := by decide +kernel
theorem kk_115 : ko_k "QuillDesk" (decide ("deed" = "<init>")) 4 prog_1_method_5_code (kpl kr_115 prog_1_method_5_code.size) kr_115 kc_115 = true := ko_k_0 (ko_k_cut 0 40 40 rfl kx_115_0 kx_115_40)
theorem kp_116 : ko_p prog_1_method_6_code.size kr_116 0 = true := by decide +kernel
theorem kx_116_0 : ko_k "QuillDesk" (decide ("set" = "<init>")) 5 prog_1_method_6_code (kpl kr_116 prog_1_method_6_code.size) ((kr_116.drop 0).take 40) ((kc_116.drop 0).take 40) = true := by decide +kernel
theorem kx_116_40 : ko_k "QuillDesk" (decide ("set" = "<init>")) 5 prog_1_method_6_code (kpl kr_116 prog_1_method_6_code.size) (kr_116.drop 40) (kc_116.drop 40) = true := by decide +kernel
theorem kk_116 : ko_k "QuillDesk" (decide ("set" = "<init>")) 5 prog_1_method_6_code (kpl kr_116 prog_1_method_6_code.size) kr_116 kc_116 = true := ko_k_0 (ko_k_cut 0 40 40 rfl kx_116_0 kx_116_40)
theorem kp_117 : ko_p prog_1_method_7_code.size kr_117 0 = true := by decide +kernel
theorem kx_117_0 : ko_k "QuillDesk" (decide ("act" = "<init>")) 5 prog_1_method_7_code (kpl kr_117 prog_1_method_7_code.size) (kr_117.drop 0) (kc_117.drop 0) = true := by decide +kernel
theorem kk_117 : ko_k "QuillDesk" (decide ("act" = "<init>")) 5 prog_1_method_7_code (kpl kr_117 prog_1_method_7_code.size) kr_117 kc_117 = true := ko_k_0 kx_117_0
theorem kp_118 : ko_p prog_1_method_8_code.size kr_118 0 = true := by decide +kernel
theorem kx_118_0 : ko_k "QuillDesk" (decide ("hours" = "<init>")) 4 prog_1_method_8_code (kpl kr_118 prog_1_method_8_code.size) ((kr_118.drop 0).take 40) ((kc_118.drop 0).take 40) = true := by decide +kernel
theorem kx_118_40 : ko_k "QuillDesk" (decide ("hours" = "<init>")) 4 prog_1_method_8_code (kpl kr_118 prog_1_method_8_code.size) (kr_118.drop 40) (kc_118.drop 40) = true := by decide +kernel
theorem kk_118 : ko_k "QuillDesk" (decide ("hours" = "<init>")) 4 prog_1_method_8_code (kpl kr_118 prog_1_method_8_code.size) kr_118 kc_118 = true := ko_k_0 (ko_k_cut 0 40 40 rfl kx_118_0 kx_118_40)
theorem kp_119 : ko_p prog_1_method_9_code.size kr_119 0 = true := by decide +kernel
theorem kx_119_0 : ko_k "QuillDesk" (decide ("feed" = "<init>")) 6 prog_1_method_9_code (kpl kr_119 prog_1_method_9_code.size) (kr_119.drop 0) (kc_119.drop 0) = true := by decide +kernel
theorem kk_119 : ko_k "QuillDesk" (decide ("feed" = "<init>")) 6 prog_1_method_9_code (kpl kr_119 prog_1_method_9_code.size) kr_119 kc_119 = true := ko_k_0 kx_119_0
theorem kp_120 : ko_p prog_1_method_10_code.size kr_120 0 = true := by decide +kernel
theorem kx_120_0 : ko_k "QuillDesk" (decide ("end" = "<init>")) 2 prog_1_method_10_code (kpl kr_120 prog_1_method_10_code.size) (kr_120.drop 0) (kc_120.drop 0) = true := by decide +kernel
theorem kk_120 : ko_k "QuillDesk" (decide ("end" = "<init>")) 2 prog_1_method_10_code (kpl kr_120 prog_1_method_10_code.size) kr_120 kc_120 = true := ko_k_0 kx_120_0
theorem kp_121 : ko_p prog_1_method_11_code.size kr_121 0 = true := by decide +kernel
theorem kx_121_0 : ko_k "QuillDesk" (decide ("text" = "<init>")) 4 prog_1_method_11_code (kpl kr_121 prog_1_method_11_code.size) ((kr_121.drop 0).take 40) ((kc_121.drop 0).take 40) = true := by decide +kernel
theorem kx_121_40 : ko_k "QuillDesk" (decide ("text" = "<init>")) 4 prog_1_method_11_code (kpl kr_121 prog_1_method_11_code.size) (kr_121.drop 40) (kc_121.drop 40) = true := by decide +kernel
theorem kk_121 : ko_k "QuillDesk" (decide ("text" = "<init>")) 4 prog_1_method_11_code (kpl kr_121 prog_1_method_11_code.size) kr_121 kc_121 = true := ko_k_0 (ko_k_cut 0 40 40 rfl kx_121_0 kx_121_40)
theorem kp_122 : ko_p prog_1_method_12_code.size kr_122 0 = true := by decide +kernel
theorem kx_122_0 : ko_k "QuillDesk" (decide ("fault" = "<init>")) 2 prog_1_method_12_code (kpl kr_122 prog_1_method_12_code.size) (kr_122.drop 0) (kc_122.drop 0) = true := by decide +kernel
theorem kk_122 : ko_k "QuillDesk" (decide ("fault" = "<init>")) 2 prog_1_method_12_code (kpl kr_122 prog_1_method_12_code.size) kr_122 kc_122 = true := ko_k_0 kx_122_0
theorem kp_123 : ko_p prog_1_method_13_code.size kr_123 0 = true := by decide +kernel
theorem kx_123_0 : ko_k "QuillDesk" (decide ("of" = "<init>")) 4 prog_1_method_13_code (kpl kr_123 prog_1_method_13_code.size) ((kr_123.drop 0).take 40) ((kc_123.drop 0).take 40) = true := by decide +kernel
theorem kx_123_40 : ko_k "QuillDesk" (decide ("of" = "<init>")) 4 prog_1_method_13_code (kpl kr_123 prog_1_method_13_code.size) (kr_123.drop 40) (kc_123.drop 40) = true := by decide +kernel
theorem kk_123 : ko_k "QuillDesk" (decide ("of" = "<init>")) 4 prog_1_method_13_code (kpl kr_123 prog_1_method_13_code.size) kr_123 kc_123 = true := ko_k_0 (ko_k_cut 0 40 40 rfl kx_123_0 kx_123_40)
theorem kp_124 : ko_p prog_1_method_14_code.size kr_124 0 = true := by decide +kernel
theorem kx_124_0 : ko_k "QuillDesk" (decide ("who" = "<init>")) 4 prog_1_method_14_code (kpl kr_124 prog_1_method_14_code.size) ((kr_124.drop 0).take 40) ((kc_124.drop 0).take 40) = true := by decide +kernel
theorem kx_124_40 : ko_k "QuillDesk" (decide ("who" = "<init>")) 4 prog_1_method_14_code (kpl kr_124 prog_1_method_14_code.size) (kr_124.drop 40) (kc_124.drop 40) = true := by decide +kernel
theorem kk_124 : ko_k "QuillDesk" (decide ("who" = "<init>")) 4 prog_1_method_14_code (kpl kr_124 prog_1_method_14_code.size) kr_124 kc_124 = true := ko_k_0 (ko_k_cut 0 40 40 rfl kx_124_0 kx_124_40)
theorem kp_125 : ko_p prog_1_method_15_code.size kr_125 0 = true := by decide +kernel
theorem kx_125_0 : ko_k "QuillDesk" (decide ("deedOf" = "<init>")) 4 prog_1_method_15_code (kpl kr_125 prog_1_method_15_code.size) ((kr_125.drop 0).take 40) ((kc_125.drop 0).take 40) = true := by decide +kernel
theorem kx_125_40 : ko_k "QuillDesk" (decide ("deedOf" = "<init>")) 4 prog_1_method_15_code (kpl kr_125 prog_1_method_15_code.size) (kr_125.drop 40) (kc_125.drop 40) = true := by decide +kernel
theorem kk_125 : ko_k "QuillDesk" (decide ("deedOf" = "<init>")) 4 prog_1_method_15_code (kpl kr_125 prog_1_method_15_code.size) kr_125 kc_125 = true := ko_k_0 (ko_k_cut 0 40 40 rfl kx_125_0 kx_125_40)
theorem kp_126 : ko_p prog_1_method_16_code.size kr_126 0 = true := by decide +kernel
theorem kx_126_0 : ko_k "QuillDesk" (decide ("book" = "<init>")) 4 prog_1_method_16_code (kpl kr_126 prog_1_method_16_code.size) (kr_126.drop 0) (kc_126.drop 0) = true := by decide +kernel
theorem kk_126 : ko_k "QuillDesk" (decide ("book" = "<init>")) 4 prog_1_method_16_code (kpl kr_126 prog_1_method_16_code.size) kr_126 kc_126 = true := ko_k_0 kx_126_0
theorem kp_127 : ko_p prog_1_method_17_code.size kr_127 0 = true := by decide +kernel
theorem kx_127_0 : ko_k "QuillDesk" (decide ("goes" = "<init>")) 4 prog_1_method_17_code (kpl kr_127 prog_1_method_17_code.size) ((kr_127.drop 0).take 40) ((kc_127.drop 0).take 40) = true := by decide +kernel
theorem kx_127_40 : ko_k "QuillDesk" (decide ("goes" = "<init>")) 4 prog_1_method_17_code (kpl kr_127 prog_1_method_17_code.size) (kr_127.drop 40) (kc_127.drop 40) = true := by decide +kernel
theorem kk_127 : ko_k "QuillDesk" (decide ("goes" = "<init>")) 4 prog_1_method_17_code (kpl kr_127 prog_1_method_17_code.size) kr_127 kc_127 = true := ko_k_0 (ko_k_cut 0 40 40 rfl kx_127_0 kx_127_40)
theorem kp_128 : ko_p prog_1_method_18_code.size kr_128 0 = true := by decide +kernel
theorem kx_128_0 : ko_k "QuillDesk" (decide ("done" = "<init>")) 3 prog_1_method_18_code (kpl kr_128 prog_1_method_18_code.size) ((kr_128.drop 0).take 40) ((kc_128.drop 0).take 40) = true := by decide +kernel
theorem kx_128_40 : ko_k "QuillDesk" (decide ("done" = "<init>")) 3 prog_1_method_18_code (kpl kr_128 prog_1_method_18_code.size) (kr_128.drop 40) (kc_128.drop 40) = true := by decide +kernel
theorem kk_128 : ko_k "QuillDesk" (decide ("done" = "<init>")) 3 prog_1_method_18_code (kpl kr_128 prog_1_method_18_code.size) kr_128 kc_128 = true := ko_k_0 (ko_k_cut 0 40 40 rfl kx_128_0 kx_128_40)
theorem kp_129 : ko_p prog_1_method_19_code.size kr_129 0 = true := by decide +kernel
theorem kx_129_0 : ko_k "QuillDesk" (decide ("soon" = "<init>")) 3 prog_1_method_19_code (kpl kr_129 prog_1_method_19_code.size) (kr_129.drop 0) (kc_129.drop 0) = true := by decide +kernel
theorem kk_129 : ko_k "QuillDesk" (decide ("soon" = "<init>")) 3 prog_1_method_19_code (kpl kr_129 prog_1_method_19_code.size) kr_129 kc_129 = true := ko_k_0 kx_129_0
theorem kp_130 : ko_p prog_1_method_20_code.size kr_130 0 = true := by decide +kernel
theorem kx_130_0 : ko_k "QuillDesk" (decide ("flock" = "<init>")) 3 prog_1_method_20_code (kpl kr_130 prog_1_method_20_code.size) (kr_130.drop 0) (kc_130.drop 0) = true := by decide +kernel
theorem kk_130 : ko_k "QuillDesk" (decide ("flock" = "<init>")) 3 prog_1_method_20_code (kpl kr_130 prog_1_method_20_code.size) kr_130 kc_130 = true := ko_k_0 kx_130_0
theorem kp_131 : ko_p prog_1_method_21_code.size kr_131 0 = true := by decide +kernel
theorem kx_131_0 : ko_k "QuillDesk" (decide ("letters" = "<init>")) 2 prog_1_method_21_code (kpl kr_131 prog_1_method_21_code.size) (kr_131.drop 0) (kc_131.drop 0) = true := by decide +kernel
end
section
theorem kk_131 : ko_k "QuillDesk" (decide ("letters" = "<init>")) 2 prog_1_method_21_code (kpl kr_131 prog_1_method_21_code.size) kr_131 kc_131 = true := ko_k_0 kx_131_0
theorem kp_132 : ko_p prog_1_method_22_code.size kr_132 0 = true := by decide +kernel
theorem kx_132_0 : ko_k "QuillDesk" (decide ("page" = "<init>")) 3 prog_1_method_22_code (kpl kr_132 prog_1_method_22_code.size) (kr_132.drop 0) (kc_132.drop 0) = true := by decide +kernel
theorem kk_132 : ko_k "QuillDesk" (decide ("page" = "<init>")) 3 prog_1_method_22_code (kpl kr_132 prog_1_method_22_code.size) kr_132 kc_132 = true := ko_k_0 kx_132_0
theorem kp_133 : ko_p prog_1_method_23_code.size kr_133 0 = true := by decide +kernel
theorem kx_133_0 : ko_k "QuillDesk" (decide ("stamp" = "<init>")) 2 prog_1_method_23_code (kpl kr_133 prog_1_method_23_code.size) (kr_133.drop 0) (kc_133.drop 0) = true := by decide +kernel
theorem kk_133 : ko_k "QuillDesk" (decide ("stamp" = "<init>")) 2 prog_1_method_23_code (kpl kr_133 prog_1_method_23_code.size) kr_133 kc_133 = true := ko_k_0 kx_133_0
theorem kp_134 : ko_p prog_1_method_24_code.size kr_134 0 = true := by decide +kernel
theorem kx_134_0 : ko_k "QuillDesk" (decide ("stamps" = "<init>")) 2 prog_1_method_24_code (kpl kr_134 prog_1_method_24_code.size) (kr_134.drop 0) (kc_134.drop 0) = true := by decide +kernel
theorem kk_134 : ko_k "QuillDesk" (decide ("stamps" = "<init>")) 2 prog_1_method_24_code (kpl kr_134 prog_1_method_24_code.size) kr_134 kc_134 = true := ko_k_0 kx_134_0
theorem kp_135 : ko_p prog_1_method_25_code.size kr_135 0 = true := by decide +kernel
theorem kx_135_0 : ko_k "QuillDesk" (decide ("scratch" = "<init>")) 3 prog_1_method_25_code (kpl kr_135 prog_1_method_25_code.size) (kr_135.drop 0) (kc_135.drop 0) = true := by decide +kernel
theorem kk_135 : ko_k "QuillDesk" (decide ("scratch" = "<init>")) 3 prog_1_method_25_code (kpl kr_135 prog_1_method_25_code.size) kr_135 kc_135 = true := ko_k_0 kx_135_0
theorem kp_136 : ko_p prog_1_method_26_code.size kr_136 0 = true := by decide +kernel
theorem kx_136_0 : ko_k "QuillDesk" (decide ("threes" = "<init>")) 3 prog_1_method_26_code (kpl kr_136 prog_1_method_26_code.size) (kr_136.drop 0) (kc_136.drop 0) = true := by decide +kernel
theorem kk_136 : ko_k "QuillDesk" (decide ("threes" = "<init>")) 3 prog_1_method_26_code (kpl kr_136 prog_1_method_26_code.size) kr_136 kc_136 = true := ko_k_0 kx_136_0
theorem kp_137 : ko_p prog_1_method_27_code.size kr_137 0 = true := by decide +kernel
theorem kx_137_0 : ko_k "QuillDesk" (decide ("curve" = "<init>")) 5 prog_1_method_27_code (kpl kr_137 prog_1_method_27_code.size) ((kr_137.drop 0).take 40) ((kc_137.drop 0).take 40) = true := by decide +kernel
theorem kx_137_40 : ko_k "QuillDesk" (decide ("curve" = "<init>")) 5 prog_1_method_27_code (kpl kr_137 prog_1_method_27_code.size) (kr_137.drop 40) (kc_137.drop 40) = true := by decide +kernel
theorem kk_137 : ko_k "QuillDesk" (decide ("curve" = "<init>")) 5 prog_1_method_27_code (kpl kr_137 prog_1_method_27_code.size) kr_137 kc_137 = true := ko_k_0 (ko_k_cut 0 40 40 rfl kx_137_0 kx_137_40)
theorem kp_138 : ko_p prog_1_method_28_code.size kr_138 0 = true := by decide +kernel
theorem kx_138_0 : ko_k "QuillDesk" (decide ("quire" = "<init>")) 4 prog_1_method_28_code (kpl kr_138 prog_1_method_28_code.size) ((kr_138.drop 0).take 40) ((kc_138.drop 0).take 40) = true := by decide +kernel
theorem kx_138_40 : ko_k "QuillDesk" (decide ("quire" = "<init>")) 4 prog_1_method_28_code (kpl kr_138 prog_1_method_28_code.size) (kr_138.drop 40) (kc_138.drop 40) = true := by decide +kernel
theorem kk_138 : ko_k "QuillDesk" (decide ("quire" = "<init>")) 4 prog_1_method_28_code (kpl kr_138 prog_1_method_28_code.size) kr_138 kc_138 = true := ko_k_0 (ko_k_cut 0 40 40 rfl kx_138_0 kx_138_40)
theorem kp_139 : ko_p prog_1_method_29_code.size kr_139 0 = true := by decide +kernel
theorem kx_139_0 : ko_k "QuillDesk" (decide ("dot" = "<init>")) 4 prog_1_method_29_code (kpl kr_139 prog_1_method_29_code.size) (kr_139.drop 0) (kc_139.drop 0) = true := by decide +kernel
theorem kk_139 : ko_k "QuillDesk" (decide ("dot" = "<init>")) 4 prog_1_method_29_code (kpl kr_139 prog_1_method_29_code.size) kr_139 kc_139 = true := ko_k_0 kx_139_0
theorem kp_140 : ko_p prog_1_method_30_code.size kr_140 0 = true := by decide +kernel
theorem kx_140_0 : ko_k "QuillDesk" (decide ("dots" = "<init>")) 2 prog_1_method_30_code (kpl kr_140 prog_1_method_30_code.size) (kr_140.drop 0) (kc_140.drop 0) = true := by decide +kernel
theorem kk_140 : ko_k "QuillDesk" (decide ("dots" = "<init>")) 2 prog_1_method_30_code (kpl kr_140 prog_1_method_30_code.size) kr_140 kc_140 = true := ko_k_0 kx_140_0
theorem kp_141 : ko_p prog_1_method_31_code.size kr_141 0 = true := by decide +kernel
theorem kx_141_0 : ko_k "QuillDesk" (decide ("cut" = "<init>")) 2 prog_1_method_31_code (kpl kr_141 prog_1_method_31_code.size) (kr_141.drop 0) (kc_141.drop 0) = true := by decide +kernel
theorem kk_141 : ko_k "QuillDesk" (decide ("cut" = "<init>")) 2 prog_1_method_31_code (kpl kr_141 prog_1_method_31_code.size) kr_141 kc_141 = true := ko_k_0 kx_141_0
theorem kp_142 : ko_p prog_1_method_32_code.size kr_142 0 = true := by decide +kernel
theorem kx_142_0 : ko_k "QuillDesk" (decide ("planks" = "<init>")) 3 prog_1_method_32_code (kpl kr_142 prog_1_method_32_code.size) (kr_142.drop 0) (kc_142.drop 0) = true := by decide +kernel
theorem kk_142 : ko_k "QuillDesk" (decide ("planks" = "<init>")) 3 prog_1_method_32_code (kpl kr_142 prog_1_method_32_code.size) kr_142 kc_142 = true := ko_k_0 kx_142_0
theorem kp_143 : ko_p prog_1_method_33_code.size kr_143 0 = true := by decide +kernel
theorem kx_143_0 : ko_k "QuillDesk" (decide ("sign" = "<init>")) 2 prog_1_method_33_code (kpl kr_143 prog_1_method_33_code.size) (kr_143.drop 0) (kc_143.drop 0) = true := by decide +kernel
theorem kk_143 : ko_k "QuillDesk" (decide ("sign" = "<init>")) 2 prog_1_method_33_code (kpl kr_143 prog_1_method_33_code.size) kr_143 kc_143 = true := ko_k_0 kx_143_0
theorem kp_144 : ko_p prog_1_method_34_code.size kr_144 0 = true := by decide +kernel
theorem kx_144_0 : ko_k "QuillDesk" (decide ("read" = "<init>")) 2 prog_1_method_34_code (kpl kr_144 prog_1_method_34_code.size) (kr_144.drop 0) (kc_144.drop 0) = true := by decide +kernel
theorem kk_144 : ko_k "QuillDesk" (decide ("read" = "<init>")) 2 prog_1_method_34_code (kpl kr_144 prog_1_method_34_code.size) kr_144 kc_144 = true := ko_k_0 kx_144_0
theorem kp_145 : ko_p prog_1_method_35_code.size kr_145 0 = true := by decide +kernel
theorem kx_145_0 : ko_k "QuillDesk" (decide ("leg" = "<init>")) 2 prog_1_method_35_code (kpl kr_145 prog_1_method_35_code.size) (kr_145.drop 0) (kc_145.drop 0) = true := by decide +kernel
theorem kk_145 : ko_k "QuillDesk" (decide ("leg" = "<init>")) 2 prog_1_method_35_code (kpl kr_145 prog_1_method_35_code.size) kr_145 kc_145 = true := ko_k_0 kx_145_0
theorem kp_146 : ko_p prog_1_method_36_code.size kr_146 0 = true := by decide +kernel
theorem kx_146_0 : ko_k "QuillDesk" (decide ("line" = "<init>")) 2 prog_1_method_36_code (kpl kr_146 prog_1_method_36_code.size) (kr_146.drop 0) (kc_146.drop 0) = true := by decide +kernel
theorem kk_146 : ko_k "QuillDesk" (decide ("line" = "<init>")) 2 prog_1_method_36_code (kpl kr_146 prog_1_method_36_code.size) kr_146 kc_146 = true := ko_k_0 kx_146_0
theorem kp_147 : ko_p prog_1_method_37_code.size kr_147 0 = true := by decide +kernel
theorem kx_147_0 : ko_k "QuillDesk" (decide ("water" = "<init>")) 4 prog_1_method_37_code (kpl kr_147 prog_1_method_37_code.size) (kr_147.drop 0) (kc_147.drop 0) = true := by decide +kernel
theorem kk_147 : ko_k "QuillDesk" (decide ("water" = "<init>")) 4 prog_1_method_37_code (kpl kr_147 prog_1_method_37_code.size) kr_147 kc_147 = true := ko_k_0 kx_147_0
theorem kp_148 : ko_p prog_1_method_38_code.size kr_148 0 = true := by decide +kernel
theorem kx_148_0 : ko_k "QuillDesk" (decide ("weight" = "<init>")) 2 prog_1_method_38_code (kpl kr_148 prog_1_method_38_code.size) (kr_148.drop 0) (kc_148.drop 0) = true := by decide +kernel
theorem kk_148 : ko_k "QuillDesk" (decide ("weight" = "<init>")) 2 prog_1_method_38_code (kpl kr_148 prog_1_method_38_code.size) kr_148 kc_148 = true := ko_k_0 kx_148_0
theorem kp_149 : ko_p prog_1_method_39_code.size kr_149 0 = true := by decide +kernel
theorem kx_149_0 : ko_k "QuillDesk" (decide ("lift" = "<init>")) 3 prog_1_method_39_code (kpl kr_149 prog_1_method_39_code.size) (kr_149.drop 0) (kc_149.drop 0) = true := by decide +kernel
theorem kk_149 : ko_k "QuillDesk" (decide ("lift" = "<init>")) 3 prog_1_method_39_code (kpl kr_149 prog_1_method_39_code.size) kr_149 kc_149 = true := ko_k_0 kx_149_0
theorem kp_150 : ko_p prog_1_method_40_code.size kr_150 0 = true := by decide +kernel
theorem kx_150_0 : ko_k "QuillDesk" (decide ("heir" = "<init>")) 2 prog_1_method_40_code (kpl kr_150 prog_1_method_40_code.size) (kr_150.drop 0) (kc_150.drop 0) = true := by decide +kernel
theorem kk_150 : ko_k "QuillDesk" (decide ("heir" = "<init>")) 2 prog_1_method_40_code (kpl kr_150 prog_1_method_40_code.size) kr_150 kc_150 = true := ko_k_0 kx_150_0
theorem kp_151 : ko_p prog_1_method_41_code.size kr_151 0 = true := by decide +kernel
theorem kx_151_0 : ko_k "QuillDesk" (decide ("seal" = "<init>")) 3 prog_1_method_41_code (kpl kr_151 prog_1_method_41_code.size) (kr_151.drop 0) (kc_151.drop 0) = true := by decide +kernel
theorem kk_151 : ko_k "QuillDesk" (decide ("seal" = "<init>")) 3 prog_1_method_41_code (kpl kr_151 prog_1_method_41_code.size) kr_151 kc_151 = true := ko_k_0 kx_151_0
theorem kp_152 : ko_p prog_1_method_42_code.size kr_152 0 = true := by decide +kernel
theorem kx_152_0 : ko_k "QuillDesk" (decide ("game" = "<init>")) 3 prog_1_method_42_code (kpl kr_152 prog_1_method_42_code.size) (kr_152.drop 0) (kc_152.drop 0) = true := by decide +kernel
theorem kk_152 : ko_k "QuillDesk" (decide ("game" = "<init>")) 3 prog_1_method_42_code (kpl kr_152 prog_1_method_42_code.size) kr_152 kc_152 = true := ko_k_0 kx_152_0
theorem kp_153 : ko_p prog_1_method_43_code.size kr_153 0 = true := by decide +kernel
theorem kx_153_0 : ko_k "QuillDesk" (decide ("undo" = "<init>")) 1 prog_1_method_43_code (kpl kr_153 prog_1_method_43_code.size) (kr_153.drop 0) (kc_153.drop 0) = true := by decide +kernel
theorem kk_153 : ko_k "QuillDesk" (decide ("undo" = "<init>")) 1 prog_1_method_43_code (kpl kr_153 prog_1_method_43_code.size) kr_153 kc_153 = true := ko_k_0 kx_153_0
theorem kp_154 : ko_p prog_1_method_44_code.size kr_154 0 = true := by decide +kernel
theorem kx_154_0 : ko_k "QuillDesk" (decide ("image" = "<init>")) 2 prog_1_method_44_code (kpl kr_154 prog_1_method_44_code.size) (kr_154.drop 0) (kc_154.drop 0) = true := by decide +kernel
theorem kk_154 : ko_k "QuillDesk" (decide ("image" = "<init>")) 2 prog_1_method_44_code (kpl kr_154 prog_1_method_44_code.size) kr_154 kc_154 = true := ko_k_0 kx_154_0
theorem kp_155 : ko_p prog_1_method_45_code.size kr_155 0 = true := by decide +kernel
theorem kx_155_0 : ko_k "QuillDesk" (decide ("look" = "<init>")) 3 prog_1_method_45_code (kpl kr_155 prog_1_method_45_code.size) ((kr_155.drop 0).take 40) ((kc_155.drop 0).take 40) = true := by decide +kernel
theorem kx_155_40 : ko_k "QuillDesk" (decide ("look" = "<init>")) 3 prog_1_method_45_code (kpl kr_155 prog_1_method_45_code.size) (kr_155.drop 40) (kc_155.drop 40) = true := by decide +kernel
theorem kk_155 : ko_k "QuillDesk" (decide ("look" = "<init>")) 3 prog_1_method_45_code (kpl kr_155 prog_1_method_45_code.size) kr_155 kc_155 = true := ko_k_0 (ko_k_cut 0 40 40 rfl kx_155_0 kx_155_40)
theorem kp_156 : ko_p prog_1_method_46_code.size kr_156 0 = true := by decide +kernel
theorem kx_156_0 : ko_k "QuillDesk" (decide ("within" = "<init>")) 3 prog_1_method_46_code (kpl kr_156 prog_1_method_46_code.size) (kr_156.drop 0) (kc_156.drop 0) = true := by decide +kernel
theorem kk_156 : ko_k "QuillDesk" (decide ("within" = "<init>")) 3 prog_1_method_46_code (kpl kr_156 prog_1_method_46_code.size) kr_156 kc_156 = true := ko_k_0 kx_156_0
theorem kp_157 : ko_p prog_13_method_1_code.size kr_157 0 = true := by decide +kernel
theorem kx_157_0 : ko_k "QuillDeskModel" (decide ("<init>" = "<init>")) 1 prog_13_method_1_code (kpl kr_157 prog_13_method_1_code.size) ((kr_157.drop 0).take 40) ((kc_157.drop 0).take 40) = true := by decide +kernel
theorem kx_157_40 : ko_k "QuillDeskModel" (decide ("<init>" = "<init>")) 1 prog_13_method_1_code (kpl kr_157 prog_13_method_1_code.size) ((kr_157.drop 40).take 40) ((kc_157.drop 40).take 40) = true := by decide +kernel
theorem kx_157_80 : ko_k "QuillDeskModel" (decide ("<init>" = "<init>")) 1 prog_13_method_1_code (kpl kr_157 prog_13_method_1_code.size) ((kr_157.drop 80).take 40) ((kc_157.drop 80).take 40) = true := by decide +kernel
theorem kx_157_120 : ko_k "QuillDeskModel" (decide ("<init>" = "<init>")) 1 prog_13_method_1_code (kpl kr_157 prog_13_method_1_code.size) ((kr_157.drop 120).take 40) ((kc_157.drop 120).take 40) = true := by decide +kernel
theorem kx_157_160 : ko_k "QuillDeskModel" (decide ("<init>" = "<init>")) 1 prog_13_method_1_code (kpl kr_157 prog_13_method_1_code.size) ((kr_157.drop 160).take 40) ((kc_157.drop 160).take 40) = true := by decide +kernel
theorem kx_157_200 : ko_k "QuillDeskModel" (decide ("<init>" = "<init>")) 1 prog_13_method_1_code (kpl kr_157 prog_13_method_1_code.size) ((kr_157.drop 200).take 40) ((kc_157.drop 200).take 40) = true := by decide +kernel
theorem kx_157_240 : ko_k "QuillDeskModel" (decide ("<init>" = "<init>")) 1 prog_13_method_1_code (kpl kr_157 prog_13_method_1_code.size) ((kr_157.drop 240).take 40) ((kc_157.drop 240).take 40) = true := by decide +kernel
theorem kx_157_280 : ko_k "QuillDeskModel" (decide ("<init>" = "<init>")) 1 prog_13_method_1_code (kpl kr_157 prog_13_method_1_code.size) ((kr_157.drop 280).take 40) ((kc_157.drop 280).take 40) = true := by decide +kernel
theorem kx_157_320 : ko_k "QuillDeskModel" (decide ("<init>" = "<init>")) 1 prog_13_method_1_code (kpl kr_157 prog_13_method_1_code.size) ((kr_157.drop 320).take 40) ((kc_157.drop 320).take 40) = true := by decide +kernel
theorem kx_157_360 : ko_k "QuillDeskModel" (decide ("<init>" = "<init>")) 1 prog_13_method_1_code (kpl kr_157 prog_13_method_1_code.size) ((kr_157.drop 360).take 40) ((kc_157.drop 360).take 40) = true := by decide +kernel
theorem kx_157_400 : ko_k "QuillDeskModel" (decide ("<init>" = "<init>")) 1 prog_13_method_1_code (kpl kr_157 prog_13_method_1_code.size) ((kr_157.drop 400).take 40) ((kc_157.drop 400).take 40) = true := by decide +kernel
theorem kx_157_440 : ko_k "QuillDeskModel" (decide ("<init>" = "<init>")) 1 prog_13_method_1_code (kpl kr_157 prog_13_method_1_code.size) ((kr_157.drop 440).take 40) ((kc_157.drop 440).take 40) = true := by decide +kernel
theorem kx_157_480 : ko_k "QuillDeskModel" (decide ("<init>" = "<init>")) 1 prog_13_method_1_code (kpl kr_157 prog_13_method_1_code.size) ((kr_157.drop 480).take 40) ((kc_157.drop 480).take 40) = true := by decide +kernel
theorem kx_157_520 : ko_k "QuillDeskModel" (decide ("<init>" = "<init>")) 1 prog_13_method_1_code (kpl kr_157 prog_13_method_1_code.size) ((kr_157.drop 520).take 40) ((kc_157.drop 520).take 40) = true := by decide +kernel
theorem kx_157_560 : ko_k "QuillDeskModel" (decide ("<init>" = "<init>")) 1 prog_13_method_1_code (kpl kr_157 prog_13_method_1_code.size) ((kr_157.drop 560).take 40) ((kc_157.drop 560).take 40) = true := by decide +kernel
theorem kx_157_600 : ko_k "QuillDeskModel" (decide ("<init>" = "<init>")) 1 prog_13_method_1_code (kpl kr_157 prog_13_method_1_code.size) ((kr_157.drop 600).take 40) ((kc_157.drop 600).take 40) = true := by decide +kernel
theorem kx_157_640 : ko_k "QuillDeskModel" (decide ("<init>" = "<init>")) 1 prog_13_method_1_code (kpl kr_157 prog_13_method_1_code.size) ((kr_157.drop 640).take 40) ((kc_157.drop 640).take 40) = true := by decide +kernel
theorem kx_157_680 : ko_k "QuillDeskModel" (decide ("<init>" = "<init>")) 1 prog_13_method_1_code (kpl kr_157 prog_13_method_1_code.size) ((kr_157.drop 680).take 40) ((kc_157.drop 680).take 40) = true := by decide +kernel
theorem kx_157_720 : ko_k "QuillDeskModel" (decide ("<init>" = "<init>")) 1 prog_13_method_1_code (kpl kr_157 prog_13_method_1_code.size) (kr_157.drop 720) (kc_157.drop 720) = true := by decide +kernel
theorem kk_157 : ko_k "QuillDeskModel" (decide ("<init>" = "<init>")) 1 prog_13_method_1_code (kpl kr_157 prog_13_method_1_code.size) kr_157 kc_157 = true := ko_k_0 (ko_k_cut 0 40 40 rfl kx_157_0 (ko_k_cut 40 40 80 rfl kx_157_40 (ko_k_cut 80 40 120 rfl kx_157_80 (ko_k_cut 120 40 160 rfl kx_157_120 (ko_k_cut 160 40 200 rfl kx_157_160 (ko_k_cut 200 40 240 rfl kx_157_200 (ko_k_cut 240 40 280 rfl kx_157_240 (ko_k_cut 280 40 320 rfl kx_157_280 (ko_k_cut 320 40 360 rfl kx_157_320 (ko_k_cut 360 40 400 rfl kx_157_360 (ko_k_cut 400 40 440 rfl kx_157_400 (ko_k_cut 440 40 480 rfl kx_157_440 (ko_k_cut 480 40 520 rfl kx_157_480 (ko_k_cut 520 40 560 rfl kx_157_520 (ko_k_cut 560 40 600 rfl kx_157_560 (ko_k_cut 600 40 640 rfl kx_157_600 (ko_k_cut 640 40 680 rfl kx_157_640 (ko_k_cut 680 40 720 rfl kx_157_680 kx_157_720))))))))))))))))))
theorem kp_158 : ko_p prog_13_method_3_code.size kr_158 0 = true := by decide +kernel
theorem kx_158_0 : ko_k "QuillDeskModel" (decide ("isIn" = "<init>")) 4 prog_13_method_3_code (kpl kr_158 prog_13_method_3_code.size) (kr_158.drop 0) (kc_158.drop 0) = true := by decide +kernel
theorem kk_158 : ko_k "QuillDeskModel" (decide ("isIn" = "<init>")) 4 prog_13_method_3_code (kpl kr_158 prog_13_method_3_code.size) kr_158 kc_158 = true := ko_k_0 kx_158_0
theorem kp_159 : ko_p prog_13_method_4_code.size kr_159 0 = true := by decide +kernel
theorem kx_159_0 : ko_k "QuillDeskModel" (decide ("held" = "<init>")) 4 prog_13_method_4_code (kpl kr_159 prog_13_method_4_code.size) (kr_159.drop 0) (kc_159.drop 0) = true := by decide +kernel
theorem kk_159 : ko_k "QuillDeskModel" (decide ("held" = "<init>")) 4 prog_13_method_4_code (kpl kr_159 prog_13_method_4_code.size) kr_159 kc_159 = true := ko_k_0 kx_159_0
theorem kp_160 : ko_p prog_13_method_5_code.size kr_160 0 = true := by decide +kernel
theorem kx_160_0 : ko_k "QuillDeskModel" (decide ("greater" = "<init>")) 3 prog_13_method_5_code (kpl kr_160 prog_13_method_5_code.size) (kr_160.drop 0) (kc_160.drop 0) = true := by decide +kernel
theorem kk_160 : ko_k "QuillDeskModel" (decide ("greater" = "<init>")) 3 prog_13_method_5_code (kpl kr_160 prog_13_method_5_code.size) kr_160 kc_160 = true := ko_k_0 kx_160_0
theorem kp_161 : ko_p prog_13_method_6_code.size kr_161 0 = true := by decide +kernel
theorem kx_161_0 : ko_k "QuillDeskModel" (decide ("lesser" = "<init>")) 3 prog_13_method_6_code (kpl kr_161 prog_13_method_6_code.size) (kr_161.drop 0) (kc_161.drop 0) = true := by decide +kernel
theorem kk_161 : ko_k "QuillDeskModel" (decide ("lesser" = "<init>")) 3 prog_13_method_6_code (kpl kr_161 prog_13_method_6_code.size) kr_161 kc_161 = true := ko_k_0 kx_161_0
theorem kp_162 : ko_p prog_13_method_7_code.size kr_162 0 = true := by decide +kernel
theorem kx_162_0 : ko_k "QuillDeskModel" (decide ("plain" = "<init>")) 2 prog_13_method_7_code (kpl kr_162 prog_13_method_7_code.size) (kr_162.drop 0) (kc_162.drop 0) = true := by decide +kernel
theorem kk_162 : ko_k "QuillDeskModel" (decide ("plain" = "<init>")) 2 prog_13_method_7_code (kpl kr_162 prog_13_method_7_code.size) kr_162 kc_162 = true := ko_k_0 kx_162_0
theorem kp_163 : ko_p prog_13_method_8_code.size kr_163 0 = true := by decide +kernel
theorem kx_163_0 : ko_k "QuillDeskModel" (decide ("common" = "<init>")) 6 prog_13_method_8_code (kpl kr_163 prog_13_method_8_code.size) (kr_163.drop 0) (kc_163.drop 0) = true := by decide +kernel
theorem kk_163 : ko_k "QuillDeskModel" (decide ("common" = "<init>")) 6 prog_13_method_8_code (kpl kr_163 prog_13_method_8_code.size) kr_163 kc_163 = true := ko_k_0 kx_163_0
theorem kp_164 : ko_p prog_13_method_9_code.size kr_164 0 = true := by decide +kernel
theorem kx_164_0 : ko_k "QuillDeskModel" (decide ("onesOf" = "<init>")) 4 prog_13_method_9_code (kpl kr_164 prog_13_method_9_code.size) (kr_164.drop 0) (kc_164.drop 0) = true := by decide +kernel
theorem kk_164 : ko_k "QuillDeskModel" (decide ("onesOf" = "<init>")) 4 prog_13_method_9_code (kpl kr_164 prog_13_method_9_code.size) kr_164 kc_164 = true := ko_k_0 kx_164_0
theorem kp_165 : ko_p prog_13_method_10_code.size kr_165 0 = true := by decide +kernel
theorem kx_165_0 : ko_k "QuillDeskModel" (decide ("has" = "<init>")) 3 prog_13_method_10_code (kpl kr_165 prog_13_method_10_code.size) (kr_165.drop 0) (kc_165.drop 0) = true := by decide +kernel
theorem kk_165 : ko_k "QuillDeskModel" (decide ("has" = "<init>")) 3 prog_13_method_10_code (kpl kr_165 prog_13_method_10_code.size) kr_165 kc_165 = true := ko_k_0 kx_165_0
theorem kp_166 : ko_p prog_13_method_11_code.size kr_166 0 = true := by decide +kernel
theorem kx_166_0 : ko_k "QuillDeskModel" (decide ("keepsAhead" = "<init>")) 2 prog_13_method_11_code (kpl kr_166 prog_13_method_11_code.size) ((kr_166.drop 0).take 40) ((kc_166.drop 0).take 40) = true := by decide +kernel
theorem kx_166_40 : ko_k "QuillDeskModel" (decide ("keepsAhead" = "<init>")) 2 prog_13_method_11_code (kpl kr_166 prog_13_method_11_code.size) (kr_166.drop 40) (kc_166.drop 40) = true := by decide +kernel
theorem kk_166 : ko_k "QuillDeskModel" (decide ("keepsAhead" = "<init>")) 2 prog_13_method_11_code (kpl kr_166 prog_13_method_11_code.size) kr_166 kc_166 = true := ko_k_0 (ko_k_cut 0 40 40 rfl kx_166_0 kx_166_40)
theorem kp_167 : ko_p prog_13_method_12_code.size kr_167 0 = true := by decide +kernel
theorem kx_167_0 : ko_k "QuillDeskModel" (decide ("undo" = "<init>")) 2 prog_13_method_12_code (kpl kr_167 prog_13_method_12_code.size) (kr_167.drop 0) (kc_167.drop 0) = true := by decide +kernel
theorem kk_167 : ko_k "QuillDeskModel" (decide ("undo" = "<init>")) 2 prog_13_method_12_code (kpl kr_167 prog_13_method_12_code.size) kr_167 kc_167 = true := ko_k_0 kx_167_0
theorem kp_168 : ko_p prog_13_method_13_code.size kr_168 0 = true := by decide +kernel
theorem kx_168_0 : ko_k "QuillDeskModel" (decide ("thinks" = "<init>")) 2 prog_13_method_13_code (kpl kr_168 prog_13_method_13_code.size) (kr_168.drop 0) (kc_168.drop 0) = true := by decide +kernel
theorem kk_168 : ko_k "QuillDeskModel" (decide ("thinks" = "<init>")) 2 prog_13_method_13_code (kpl kr_168 prog_13_method_13_code.size) kr_168 kc_168 = true := ko_k_0 kx_168_0
theorem kp_169 : ko_p prog_13_method_14_code.size kr_169 0 = true := by decide +kernel
theorem kx_169_0 : ko_k "QuillDeskModel" (decide ("endsThought" = "<init>")) 2 prog_13_method_14_code (kpl kr_169 prog_13_method_14_code.size) (kr_169.drop 0) (kc_169.drop 0) = true := by decide +kernel
theorem kk_169 : ko_k "QuillDeskModel" (decide ("endsThought" = "<init>")) 2 prog_13_method_14_code (kpl kr_169 prog_13_method_14_code.size) kr_169 kc_169 = true := ko_k_0 kx_169_0
theorem kp_170 : ko_p prog_13_method_15_code.size kr_170 0 = true := by decide +kernel
theorem kx_170_0 : ko_k "QuillDeskModel" (decide ("state" = "<init>")) 3 prog_13_method_15_code (kpl kr_170 prog_13_method_15_code.size) (kr_170.drop 0) (kc_170.drop 0) = true := by decide +kernel
theorem kk_170 : ko_k "QuillDeskModel" (decide ("state" = "<init>")) 3 prog_13_method_15_code (kpl kr_170 prog_13_method_15_code.size) kr_170 kc_170 = true := ko_k_0 kx_170_0
theorem kp_171 : ko_p prog_13_method_16_code.size kr_171 0 = true := by decide +kernel
theorem kx_171_0 : ko_k "QuillDeskModel" (decide ("draw" = "<init>")) 2 prog_13_method_16_code (kpl kr_171 prog_13_method_16_code.size) (kr_171.drop 0) (kc_171.drop 0) = true := by decide +kernel
theorem kk_171 : ko_k "QuillDeskModel" (decide ("draw" = "<init>")) 2 prog_13_method_16_code (kpl kr_171 prog_13_method_16_code.size) kr_171 kc_171 = true := ko_k_0 kx_171_0
theorem kp_172 : ko_p prog_13_method_17_code.size kr_172 0 = true := by decide +kernel
theorem kx_172_0 : ko_k "QuillDeskModel" (decide ("isQuill" = "<init>")) 2 prog_13_method_17_code (kpl kr_172 prog_13_method_17_code.size) (kr_172.drop 0) (kc_172.drop 0) = true := by decide +kernel
theorem kk_172 : ko_k "QuillDeskModel" (decide ("isQuill" = "<init>")) 2 prog_13_method_17_code (kpl kr_172 prog_13_method_17_code.size) kr_172 kc_172 = true := ko_k_0 kx_172_0
theorem kp_173 : ko_p prog_13_method_18_code.size kr_173 0 = true := by decide +kernel
theorem kx_173_0 : ko_k "QuillDeskModel" (decide ("isClerk" = "<init>")) 2 prog_13_method_18_code (kpl kr_173 prog_13_method_18_code.size) (kr_173.drop 0) (kc_173.drop 0) = true := by decide +kernel
theorem kk_173 : ko_k "QuillDeskModel" (decide ("isClerk" = "<init>")) 2 prog_13_method_18_code (kpl kr_173 prog_13_method_18_code.size) kr_173 kc_173 = true := ko_k_0 kx_173_0
theorem kp_174 : ko_p prog_13_method_19_code.size kr_174 0 = true := by decide +kernel
theorem kx_174_0 : ko_k "QuillDeskModel" (decide ("isDeed" = "<init>")) 2 prog_13_method_19_code (kpl kr_174 prog_13_method_19_code.size) (kr_174.drop 0) (kc_174.drop 0) = true := by decide +kernel
theorem kk_174 : ko_k "QuillDeskModel" (decide ("isDeed" = "<init>")) 2 prog_13_method_19_code (kpl kr_174 prog_13_method_19_code.size) kr_174 kc_174 = true := ko_k_0 kx_174_0
theorem kp_175 : ko_p prog_13_method_20_code.size kr_175 0 = true := by decide +kernel
theorem kx_175_0 : ko_k "QuillDeskModel" (decide ("holds" = "<init>")) 2 prog_13_method_20_code (kpl kr_175 prog_13_method_20_code.size) (kr_175.drop 0) (kc_175.drop 0) = true := by decide +kernel
theorem kk_175 : ko_k "QuillDeskModel" (decide ("holds" = "<init>")) 2 prog_13_method_20_code (kpl kr_175 prog_13_method_20_code.size) kr_175 kc_175 = true := ko_k_0 kx_175_0
theorem kp_176 : ko_p prog_13_method_21_code.size kr_176 0 = true := by decide +kernel
theorem kx_176_0 : ko_k "QuillDeskModel" (decide ("atDeed" = "<init>")) 2 prog_13_method_21_code (kpl kr_176 prog_13_method_21_code.size) (kr_176.drop 0) (kc_176.drop 0) = true := by decide +kernel
theorem kk_176 : ko_k "QuillDeskModel" (decide ("atDeed" = "<init>")) 2 prog_13_method_21_code (kpl kr_176 prog_13_method_21_code.size) kr_176 kc_176 = true := ko_k_0 kx_176_0
theorem kp_177 : ko_p prog_13_method_22_code.size kr_177 0 = true := by decide +kernel
theorem kx_177_0 : ko_k "QuillDeskModel" (decide ("isGone" = "<init>")) 2 prog_13_method_22_code (kpl kr_177 prog_13_method_22_code.size) (kr_177.drop 0) (kc_177.drop 0) = true := by decide +kernel
theorem kk_177 : ko_k "QuillDeskModel" (decide ("isGone" = "<init>")) 2 prog_13_method_22_code (kpl kr_177 prog_13_method_22_code.size) kr_177 kc_177 = true := ko_k_0 kx_177_0
theorem kp_178 : ko_p prog_13_method_23_code.size kr_178 0 = true := by decide +kernel
theorem kx_178_0 : ko_k "QuillDeskModel" (decide ("isDone" = "<init>")) 2 prog_13_method_23_code (kpl kr_178 prog_13_method_23_code.size) (kr_178.drop 0) (kc_178.drop 0) = true := by decide +kernel
theorem kk_178 : ko_k "QuillDeskModel" (decide ("isDone" = "<init>")) 2 prog_13_method_23_code (kpl kr_178 prog_13_method_23_code.size) kr_178 kc_178 = true := ko_k_0 kx_178_0
theorem kp_179 : ko_p prog_13_method_24_code.size kr_179 0 = true := by decide +kernel
theorem kx_179_0 : ko_k "QuillDeskModel" (decide ("whoHolds" = "<init>")) 3 prog_13_method_24_code (kpl kr_179 prog_13_method_24_code.size) (kr_179.drop 0) (kc_179.drop 0) = true := by decide +kernel
theorem kk_179 : ko_k "QuillDeskModel" (decide ("whoHolds" = "<init>")) 3 prog_13_method_24_code (kpl kr_179 prog_13_method_24_code.size) kr_179 kc_179 = true := ko_k_0 kx_179_0
theorem kp_180 : ko_p prog_13_method_25_code.size kr_180 0 = true := by decide +kernel
theorem kx_180_0 : ko_k "QuillDeskModel" (decide ("doneSet" = "<init>")) 3 prog_13_method_25_code (kpl kr_180 prog_13_method_25_code.size) (kr_180.drop 0) (kc_180.drop 0) = true := by decide +kernel
theorem kk_180 : ko_k "QuillDeskModel" (decide ("doneSet" = "<init>")) 3 prog_13_method_25_code (kpl kr_180 prog_13_method_25_code.size) kr_180 kc_180 = true := ko_k_0 kx_180_0
theorem kp_181 : ko_p prog_13_method_26_code.size kr_181 0 = true := by decide +kernel
theorem kx_181_0 : ko_k "QuillDeskModel" (decide ("canBeWritten" = "<init>")) 2 prog_13_method_26_code (kpl kr_181 prog_13_method_26_code.size) (kr_181.drop 0) (kc_181.drop 0) = true := by decide +kernel
theorem kk_181 : ko_k "QuillDeskModel" (decide ("canBeWritten" = "<init>")) 2 prog_13_method_26_code (kpl kr_181 prog_13_method_26_code.size) kr_181 kc_181 = true := ko_k_0 kx_181_0
theorem kp_182 : ko_p prog_13_method_27_code.size kr_182 0 = true := by decide +kernel
theorem kx_182_0 : ko_k "QuillDeskModel" (decide ("quill" = "<init>")) 3 prog_13_method_27_code (kpl kr_182 prog_13_method_27_code.size) ((kr_182.drop 0).take 40) ((kc_182.drop 0).take 40) = true := by decide +kernel
theorem kx_182_40 : ko_k "QuillDeskModel" (decide ("quill" = "<init>")) 3 prog_13_method_27_code (kpl kr_182 prog_13_method_27_code.size) (kr_182.drop 40) (kc_182.drop 40) = true := by decide +kernel
theorem kk_182 : ko_k "QuillDeskModel" (decide ("quill" = "<init>")) 3 prog_13_method_27_code (kpl kr_182 prog_13_method_27_code.size) kr_182 kc_182 = true := ko_k_0 (ko_k_cut 0 40 40 rfl kx_182_0 kx_182_40)
theorem kp_183 : ko_p prog_13_method_28_code.size kr_183 0 = true := by decide +kernel
theorem kx_183_0 : ko_k "QuillDeskModel" (decide ("clerk" = "<init>")) 3 prog_13_method_28_code (kpl kr_183 prog_13_method_28_code.size) ((kr_183.drop 0).take 40) ((kc_183.drop 0).take 40) = true := by decide +kernel
end
section
theorem kx_183_40 : ko_k "QuillDeskModel" (decide ("clerk" = "<init>")) 3 prog_13_method_28_code (kpl kr_183 prog_13_method_28_code.size) (kr_183.drop 40) (kc_183.drop 40) = true := by decide +kernel
theorem kk_183 : ko_k "QuillDeskModel" (decide ("clerk" = "<init>")) 3 prog_13_method_28_code (kpl kr_183 prog_13_method_28_code.size) kr_183 kc_183 = true := ko_k_0 (ko_k_cut 0 40 40 rfl kx_183_0 kx_183_40)
theorem kp_184 : ko_p prog_13_method_29_code.size kr_184 0 = true := by decide +kernel
theorem kx_184_0 : ko_k "QuillDeskModel" (decide ("deed" = "<init>")) 2 prog_13_method_29_code (kpl kr_184 prog_13_method_29_code.size) ((kr_184.drop 0).take 40) ((kc_184.drop 0).take 40) = true := by decide +kernel
theorem kx_184_40 : ko_k "QuillDeskModel" (decide ("deed" = "<init>")) 2 prog_13_method_29_code (kpl kr_184 prog_13_method_29_code.size) (kr_184.drop 40) (kc_184.drop 40) = true := by decide +kernel
theorem kk_184 : ko_k "QuillDeskModel" (decide ("deed" = "<init>")) 2 prog_13_method_29_code (kpl kr_184 prog_13_method_29_code.size) kr_184 kc_184 = true := ko_k_0 (ko_k_cut 0 40 40 rfl kx_184_0 kx_184_40)
theorem kp_185 : ko_p prog_13_method_30_code.size kr_185 0 = true := by decide +kernel
theorem kx_185_0 : ko_k "QuillDeskModel" (decide ("set" = "<init>")) 5 prog_13_method_30_code (kpl kr_185 prog_13_method_30_code.size) ((kr_185.drop 0).take 40) ((kc_185.drop 0).take 40) = true := by decide +kernel
theorem kx_185_40 : ko_k "QuillDeskModel" (decide ("set" = "<init>")) 5 prog_13_method_30_code (kpl kr_185 prog_13_method_30_code.size) (kr_185.drop 40) (kc_185.drop 40) = true := by decide +kernel
theorem kk_185 : ko_k "QuillDeskModel" (decide ("set" = "<init>")) 5 prog_13_method_30_code (kpl kr_185 prog_13_method_30_code.size) kr_185 kc_185 = true := ko_k_0 (ko_k_cut 0 40 40 rfl kx_185_0 kx_185_40)
theorem kp_186 : ko_p prog_13_method_31_code.size kr_186 0 = true := by decide +kernel
theorem kx_186_0 : ko_k "QuillDeskModel" (decide ("types" = "<init>")) 3 prog_13_method_31_code (kpl kr_186 prog_13_method_31_code.size) (kr_186.drop 0) (kc_186.drop 0) = true := by decide +kernel
theorem kk_186 : ko_k "QuillDeskModel" (decide ("types" = "<init>")) 3 prog_13_method_31_code (kpl kr_186 prog_13_method_31_code.size) kr_186 kc_186 = true := ko_k_0 kx_186_0
theorem kp_187 : ko_p prog_13_method_32_code.size kr_187 0 = true := by decide +kernel
theorem kx_187_0 : ko_k "QuillDeskModel" (decide ("feed" = "<init>")) 6 prog_13_method_32_code (kpl kr_187 prog_13_method_32_code.size) (kr_187.drop 0) (kc_187.drop 0) = true := by decide +kernel
theorem kk_187 : ko_k "QuillDeskModel" (decide ("feed" = "<init>")) 6 prog_13_method_32_code (kpl kr_187 prog_13_method_32_code.size) kr_187 kc_187 = true := ko_k_0 kx_187_0
theorem kp_188 : ko_p prog_13_method_33_code.size kr_188 0 = true := by decide +kernel
theorem kx_188_0 : ko_k "QuillDeskModel" (decide ("end" = "<init>")) 2 prog_13_method_33_code (kpl kr_188 prog_13_method_33_code.size) (kr_188.drop 0) (kc_188.drop 0) = true := by decide +kernel
theorem kk_188 : ko_k "QuillDeskModel" (decide ("end" = "<init>")) 2 prog_13_method_33_code (kpl kr_188 prog_13_method_33_code.size) kr_188 kc_188 = true := ko_k_0 kx_188_0
theorem kp_189 : ko_p prog_13_method_34_code.size kr_189 0 = true := by decide +kernel
theorem kx_189_0 : ko_k "QuillDeskModel" (decide ("raw" = "<init>")) 2 prog_13_method_34_code (kpl kr_189 prog_13_method_34_code.size) (kr_189.drop 0) (kc_189.drop 0) = true := by decide +kernel
theorem kk_189 : ko_k "QuillDeskModel" (decide ("raw" = "<init>")) 2 prog_13_method_34_code (kpl kr_189 prog_13_method_34_code.size) kr_189 kc_189 = true := ko_k_0 kx_189_0
theorem kp_190 : ko_p prog_13_method_35_code.size kr_190 0 = true := by decide +kernel
theorem kx_190_0 : ko_k "QuillDeskModel" (decide ("isLetter" = "<init>")) 2 prog_13_method_35_code (kpl kr_190 prog_13_method_35_code.size) (kr_190.drop 0) (kc_190.drop 0) = true := by decide +kernel
theorem kk_190 : ko_k "QuillDeskModel" (decide ("isLetter" = "<init>")) 2 prog_13_method_35_code (kpl kr_190 prog_13_method_35_code.size) kr_190 kc_190 = true := ko_k_0 kx_190_0
theorem kp_191 : ko_p prog_13_method_36_code.size kr_191 0 = true := by decide +kernel
theorem kx_191_0 : ko_k "QuillDeskModel" (decide ("isDigit" = "<init>")) 2 prog_13_method_36_code (kpl kr_191 prog_13_method_36_code.size) (kr_191.drop 0) (kc_191.drop 0) = true := by decide +kernel
theorem kk_191 : ko_k "QuillDeskModel" (decide ("isDigit" = "<init>")) 2 prog_13_method_36_code (kpl kr_191 prog_13_method_36_code.size) kr_191 kc_191 = true := ko_k_0 kx_191_0
theorem kp_192 : ko_p prog_13_method_37_code.size kr_192 0 = true := by decide +kernel
theorem kx_192_0 : ko_k "QuillDeskModel" (decide ("isMarkSign" = "<init>")) 2 prog_13_method_37_code (kpl kr_192 prog_13_method_37_code.size) (kr_192.drop 0) (kc_192.drop 0) = true := by decide +kernel
theorem kk_192 : ko_k "QuillDeskModel" (decide ("isMarkSign" = "<init>")) 2 prog_13_method_37_code (kpl kr_192 prog_13_method_37_code.size) kr_192 kc_192 = true := ko_k_0 kx_192_0
theorem kp_193 : ko_p prog_13_method_38_code.size kr_193 0 = true := by decide +kernel
theorem kx_193_0 : ko_k "QuillDeskModel" (decide ("wordAt" = "<init>")) 6 prog_13_method_38_code (kpl kr_193 prog_13_method_38_code.size) ((kr_193.drop 0).take 40) ((kc_193.drop 0).take 40) = true := by decide +kernel
theorem kx_193_40 : ko_k "QuillDeskModel" (decide ("wordAt" = "<init>")) 6 prog_13_method_38_code (kpl kr_193 prog_13_method_38_code.size) (kr_193.drop 40) (kc_193.drop 40) = true := by decide +kernel
theorem kk_193 : ko_k "QuillDeskModel" (decide ("wordAt" = "<init>")) 6 prog_13_method_38_code (kpl kr_193 prog_13_method_38_code.size) kr_193 kc_193 = true := ko_k_0 (ko_k_cut 0 40 40 rfl kx_193_0 kx_193_40)
theorem kp_194 : ko_p prog_13_method_39_code.size kr_194 0 = true := by decide +kernel
theorem kx_194_0 : ko_k "QuillDeskModel" (decide ("reads" = "<init>")) 2 prog_13_method_39_code (kpl kr_194 prog_13_method_39_code.size) ((kr_194.drop 0).take 40) ((kc_194.drop 0).take 40) = true := by decide +kernel
theorem kx_194_40 : ko_k "QuillDeskModel" (decide ("reads" = "<init>")) 2 prog_13_method_39_code (kpl kr_194 prog_13_method_39_code.size) ((kr_194.drop 40).take 40) ((kc_194.drop 40).take 40) = true := by decide +kernel
theorem kx_194_80 : ko_k "QuillDeskModel" (decide ("reads" = "<init>")) 2 prog_13_method_39_code (kpl kr_194 prog_13_method_39_code.size) ((kr_194.drop 80).take 40) ((kc_194.drop 80).take 40) = true := by decide +kernel
theorem kx_194_120 : ko_k "QuillDeskModel" (decide ("reads" = "<init>")) 2 prog_13_method_39_code (kpl kr_194 prog_13_method_39_code.size) (kr_194.drop 120) (kc_194.drop 120) = true := by decide +kernel
theorem kk_194 : ko_k "QuillDeskModel" (decide ("reads" = "<init>")) 2 prog_13_method_39_code (kpl kr_194 prog_13_method_39_code.size) kr_194 kc_194 = true := ko_k_0 (ko_k_cut 0 40 40 rfl kx_194_0 (ko_k_cut 40 40 80 rfl kx_194_40 (ko_k_cut 80 40 120 rfl kx_194_80 kx_194_120)))
theorem kp_195 : ko_p prog_13_method_40_code.size kr_195 0 = true := by decide +kernel
theorem kx_195_0 : ko_k "QuillDeskModel" (decide ("errs" = "<init>")) 2 prog_13_method_40_code (kpl kr_195 prog_13_method_40_code.size) (kr_195.drop 0) (kc_195.drop 0) = true := by decide +kernel
theorem kk_195 : ko_k "QuillDeskModel" (decide ("errs" = "<init>")) 2 prog_13_method_40_code (kpl kr_195 prog_13_method_40_code.size) kr_195 kc_195 = true := ko_k_0 kx_195_0
theorem kp_196 : ko_p prog_13_method_41_code.size kr_196 0 = true := by decide +kernel
theorem kx_196_0 : ko_k "QuillDeskModel" (decide ("isWord" = "<init>")) 2 prog_13_method_41_code (kpl kr_196 prog_13_method_41_code.size) (kr_196.drop 0) (kc_196.drop 0) = true := by decide +kernel
theorem kk_196 : ko_k "QuillDeskModel" (decide ("isWord" = "<init>")) 2 prog_13_method_41_code (kpl kr_196 prog_13_method_41_code.size) kr_196 kc_196 = true := ko_k_0 kx_196_0
theorem kp_197 : ko_p prog_13_method_42_code.size kr_197 0 = true := by decide +kernel
theorem kx_197_0 : ko_k "QuillDeskModel" (decide ("isSign" = "<init>")) 2 prog_13_method_42_code (kpl kr_197 prog_13_method_42_code.size) (kr_197.drop 0) (kc_197.drop 0) = true := by decide +kernel
theorem kk_197 : ko_k "QuillDeskModel" (decide ("isSign" = "<init>")) 2 prog_13_method_42_code (kpl kr_197 prog_13_method_42_code.size) kr_197 kc_197 = true := ko_k_0 kx_197_0
theorem kp_198 : ko_p prog_13_method_43_code.size kr_198 0 = true := by decide +kernel
theorem kx_198_0 : ko_k "QuillDeskModel" (decide ("emits" = "<init>")) 3 prog_13_method_43_code (kpl kr_198 prog_13_method_43_code.size) (kr_198.drop 0) (kc_198.drop 0) = true := by decide +kernel
theorem kk_198 : ko_k "QuillDeskModel" (decide ("emits" = "<init>")) 3 prog_13_method_43_code (kpl kr_198 prog_13_method_43_code.size) kr_198 kc_198 = true := ko_k_0 kx_198_0
theorem kp_199 : ko_p prog_13_method_44_code.size kr_199 0 = true := by decide +kernel
theorem kx_199_0 : ko_k "QuillDeskModel" (decide ("canAsk" = "<init>")) 2 prog_13_method_44_code (kpl kr_199 prog_13_method_44_code.size) (kr_199.drop 0) (kc_199.drop 0) = true := by decide +kernel
theorem kk_199 : ko_k "QuillDeskModel" (decide ("canAsk" = "<init>")) 2 prog_13_method_44_code (kpl kr_199 prog_13_method_44_code.size) kr_199 kc_199 = true := ko_k_0 kx_199_0
theorem kp_200 : ko_p prog_13_method_45_code.size kr_200 0 = true := by decide +kernel
theorem kx_200_0 : ko_k "QuillDeskModel" (decide ("readUnit" = "<init>")) 2 prog_13_method_45_code (kpl kr_200 prog_13_method_45_code.size) ((kr_200.drop 0).take 40) ((kc_200.drop 0).take 40) = true := by decide +kernel
theorem kx_200_40 : ko_k "QuillDeskModel" (decide ("readUnit" = "<init>")) 2 prog_13_method_45_code (kpl kr_200 prog_13_method_45_code.size) (kr_200.drop 40) (kc_200.drop 40) = true := by decide +kernel
theorem kk_200 : ko_k "QuillDeskModel" (decide ("readUnit" = "<init>")) 2 prog_13_method_45_code (kpl kr_200 prog_13_method_45_code.size) kr_200 kc_200 = true := ko_k_0 (ko_k_cut 0 40 40 rfl kx_200_0 kx_200_40)
theorem kp_201 : ko_p prog_13_method_46_code.size kr_201 0 = true := by decide +kernel
theorem kx_201_0 : ko_k "QuillDeskModel" (decide ("readProduct" = "<init>")) 2 prog_13_method_46_code (kpl kr_201 prog_13_method_46_code.size) ((kr_201.drop 0).take 40) ((kc_201.drop 0).take 40) = true := by decide +kernel
theorem kx_201_40 : ko_k "QuillDeskModel" (decide ("readProduct" = "<init>")) 2 prog_13_method_46_code (kpl kr_201 prog_13_method_46_code.size) (kr_201.drop 40) (kc_201.drop 40) = true := by decide +kernel
theorem kk_201 : ko_k "QuillDeskModel" (decide ("readProduct" = "<init>")) 2 prog_13_method_46_code (kpl kr_201 prog_13_method_46_code.size) kr_201 kc_201 = true := ko_k_0 (ko_k_cut 0 40 40 rfl kx_201_0 kx_201_40)
theorem kp_202 : ko_p prog_13_method_47_code.size kr_202 0 = true := by decide +kernel
theorem kx_202_0 : ko_k "QuillDeskModel" (decide ("readSum" = "<init>")) 2 prog_13_method_47_code (kpl kr_202 prog_13_method_47_code.size) (kr_202.drop 0) (kc_202.drop 0) = true := by decide +kernel
theorem kk_202 : ko_k "QuillDeskModel" (decide ("readSum" = "<init>")) 2 prog_13_method_47_code (kpl kr_202 prog_13_method_47_code.size) kr_202 kc_202 = true := ko_k_0 kx_202_0
theorem kp_203 : ko_p prog_13_method_48_code.size kr_203 0 = true := by decide +kernel
theorem kx_203_0 : ko_k "QuillDeskModel" (decide ("readCompared" = "<init>")) 2 prog_13_method_48_code (kpl kr_203 prog_13_method_48_code.size) ((kr_203.drop 0).take 40) ((kc_203.drop 0).take 40) = true := by decide +kernel
theorem kx_203_40 : ko_k "QuillDeskModel" (decide ("readCompared" = "<init>")) 2 prog_13_method_48_code (kpl kr_203 prog_13_method_48_code.size) (kr_203.drop 40) (kc_203.drop 40) = true := by decide +kernel
theorem kk_203 : ko_k "QuillDeskModel" (decide ("readCompared" = "<init>")) 2 prog_13_method_48_code (kpl kr_203 prog_13_method_48_code.size) kr_203 kc_203 = true := ko_k_0 (ko_k_cut 0 40 40 rfl kx_203_0 kx_203_40)
theorem kp_204 : ko_p prog_13_method_49_code.size kr_204 0 = true := by decide +kernel
theorem kx_204_0 : ko_k "QuillDeskModel" (decide ("waits" = "<init>")) 2 prog_13_method_49_code (kpl kr_204 prog_13_method_49_code.size) (kr_204.drop 0) (kc_204.drop 0) = true := by decide +kernel
theorem kk_204 : ko_k "QuillDeskModel" (decide ("waits" = "<init>")) 2 prog_13_method_49_code (kpl kr_204 prog_13_method_49_code.size) kr_204 kc_204 = true := ko_k_0 kx_204_0
theorem kp_205 : ko_p prog_13_method_50_code.size kr_205 0 = true := by decide +kernel
theorem kx_205_0 : ko_k "QuillDeskModel" (decide ("settles" = "<init>")) 2 prog_13_method_50_code (kpl kr_205 prog_13_method_50_code.size) (kr_205.drop 0) (kc_205.drop 0) = true := by decide +kernel
theorem kk_205 : ko_k "QuillDeskModel" (decide ("settles" = "<init>")) 2 prog_13_method_50_code (kpl kr_205 prog_13_method_50_code.size) kr_205 kc_205 = true := ko_k_0 kx_205_0
theorem kp_206 : ko_p prog_13_method_51_code.size kr_206 0 = true := by decide +kernel
theorem kx_206_0 : ko_k "QuillDeskModel" (decide ("readAny" = "<init>")) 4 prog_13_method_51_code (kpl kr_206 prog_13_method_51_code.size) ((kr_206.drop 0).take 40) ((kc_206.drop 0).take 40) = true := by decide +kernel
theorem kx_206_40 : ko_k "QuillDeskModel" (decide ("readAny" = "<init>")) 4 prog_13_method_51_code (kpl kr_206 prog_13_method_51_code.size) ((kr_206.drop 40).take 40) ((kc_206.drop 40).take 40) = true := by decide +kernel
theorem kx_206_80 : ko_k "QuillDeskModel" (decide ("readAny" = "<init>")) 4 prog_13_method_51_code (kpl kr_206 prog_13_method_51_code.size) ((kr_206.drop 80).take 40) ((kc_206.drop 80).take 40) = true := by decide +kernel
theorem kx_206_120 : ko_k "QuillDeskModel" (decide ("readAny" = "<init>")) 4 prog_13_method_51_code (kpl kr_206 prog_13_method_51_code.size) (kr_206.drop 120) (kc_206.drop 120) = true := by decide +kernel
theorem kk_206 : ko_k "QuillDeskModel" (decide ("readAny" = "<init>")) 4 prog_13_method_51_code (kpl kr_206 prog_13_method_51_code.size) kr_206 kc_206 = true := ko_k_0 (ko_k_cut 0 40 40 rfl kx_206_0 (ko_k_cut 40 40 80 rfl kx_206_40 (ko_k_cut 80 40 120 rfl kx_206_80 kx_206_120)))
theorem kp_207 : ko_p prog_13_method_52_code.size kr_207 0 = true := by decide +kernel
theorem kx_207_0 : ko_k "QuillDeskModel" (decide ("isLineWord" = "<init>")) 1 prog_13_method_52_code (kpl kr_207 prog_13_method_52_code.size) (kr_207.drop 0) (kc_207.drop 0) = true := by decide +kernel
theorem kk_207 : ko_k "QuillDeskModel" (decide ("isLineWord" = "<init>")) 1 prog_13_method_52_code (kpl kr_207 prog_13_method_52_code.size) kr_207 kc_207 = true := ko_k_0 kx_207_0
theorem kp_208 : ko_p prog_13_method_53_code.size kr_208 0 = true := by decide +kernel
theorem kx_208_0 : ko_k "QuillDeskModel" (decide ("readLaw" = "<init>")) 3 prog_13_method_53_code (kpl kr_208 prog_13_method_53_code.size) ((kr_208.drop 0).take 40) ((kc_208.drop 0).take 40) = true := by decide +kernel
theorem kx_208_40 : ko_k "QuillDeskModel" (decide ("readLaw" = "<init>")) 3 prog_13_method_53_code (kpl kr_208 prog_13_method_53_code.size) ((kr_208.drop 40).take 40) ((kc_208.drop 40).take 40) = true := by decide +kernel
theorem kx_208_80 : ko_k "QuillDeskModel" (decide ("readLaw" = "<init>")) 3 prog_13_method_53_code (kpl kr_208 prog_13_method_53_code.size) (kr_208.drop 80) (kc_208.drop 80) = true := by decide +kernel
theorem kk_208 : ko_k "QuillDeskModel" (decide ("readLaw" = "<init>")) 3 prog_13_method_53_code (kpl kr_208 prog_13_method_53_code.size) kr_208 kc_208 = true := ko_k_0 (ko_k_cut 0 40 40 rfl kx_208_0 (ko_k_cut 40 40 80 rfl kx_208_40 kx_208_80))
theorem kp_209 : ko_p prog_13_method_54_code.size kr_209 0 = true := by decide +kernel
theorem kx_209_0 : ko_k "QuillDeskModel" (decide ("takesLaw" = "<init>")) 3 prog_13_method_54_code (kpl kr_209 prog_13_method_54_code.size) ((kr_209.drop 0).take 40) ((kc_209.drop 0).take 40) = true := by decide +kernel
theorem kx_209_40 : ko_k "QuillDeskModel" (decide ("takesLaw" = "<init>")) 3 prog_13_method_54_code (kpl kr_209 prog_13_method_54_code.size) ((kr_209.drop 40).take 40) ((kc_209.drop 40).take 40) = true := by decide +kernel
theorem kx_209_80 : ko_k "QuillDeskModel" (decide ("takesLaw" = "<init>")) 3 prog_13_method_54_code (kpl kr_209 prog_13_method_54_code.size) (kr_209.drop 80) (kc_209.drop 80) = true := by decide +kernel
theorem kk_209 : ko_k "QuillDeskModel" (decide ("takesLaw" = "<init>")) 3 prog_13_method_54_code (kpl kr_209 prog_13_method_54_code.size) kr_209 kc_209 = true := ko_k_0 (ko_k_cut 0 40 40 rfl kx_209_0 (ko_k_cut 40 40 80 rfl kx_209_40 kx_209_80))
theorem kp_210 : ko_p prog_13_method_55_code.size kr_210 0 = true := by decide +kernel
theorem kx_210_0 : ko_k "QuillDeskModel" (decide ("readNumber" = "<init>")) 4 prog_13_method_55_code (kpl kr_210 prog_13_method_55_code.size) (kr_210.drop 0) (kc_210.drop 0) = true := by decide +kernel
theorem kk_210 : ko_k "QuillDeskModel" (decide ("readNumber" = "<init>")) 4 prog_13_method_55_code (kpl kr_210 prog_13_method_55_code.size) kr_210 kc_210 = true := ko_k_0 kx_210_0
theorem kp_211 : ko_p prog_13_method_56_code.size kr_211 0 = true := by decide +kernel
theorem kx_211_0 : ko_k "QuillDeskModel" (decide ("readMark" = "<init>")) 2 prog_13_method_56_code (kpl kr_211 prog_13_method_56_code.size) (kr_211.drop 0) (kc_211.drop 0) = true := by decide +kernel
theorem kk_211 : ko_k "QuillDeskModel" (decide ("readMark" = "<init>")) 2 prog_13_method_56_code (kpl kr_211 prog_13_method_56_code.size) kr_211 kc_211 = true := ko_k_0 kx_211_0
theorem kp_212 : ko_p prog_13_method_57_code.size kr_212 0 = true := by decide +kernel
theorem kx_212_0 : ko_k "QuillDeskModel" (decide ("readTold" = "<init>")) 4 prog_13_method_57_code (kpl kr_212 prog_13_method_57_code.size) (kr_212.drop 0) (kc_212.drop 0) = true := by decide +kernel
theorem kk_212 : ko_k "QuillDeskModel" (decide ("readTold" = "<init>")) 4 prog_13_method_57_code (kpl kr_212 prog_13_method_57_code.size) kr_212 kc_212 = true := ko_k_0 kx_212_0
theorem kp_213 : ko_p prog_13_method_58_code.size kr_213 0 = true := by decide +kernel
theorem kx_213_0 : ko_k "QuillDeskModel" (decide ("readOrder" = "<init>")) 3 prog_13_method_58_code (kpl kr_213 prog_13_method_58_code.size) ((kr_213.drop 0).take 40) ((kc_213.drop 0).take 40) = true := by decide +kernel
theorem kx_213_40 : ko_k "QuillDeskModel" (decide ("readOrder" = "<init>")) 3 prog_13_method_58_code (kpl kr_213 prog_13_method_58_code.size) ((kr_213.drop 40).take 40) ((kc_213.drop 40).take 40) = true := by decide +kernel
theorem kx_213_80 : ko_k "QuillDeskModel" (decide ("readOrder" = "<init>")) 3 prog_13_method_58_code (kpl kr_213 prog_13_method_58_code.size) (kr_213.drop 80) (kc_213.drop 80) = true := by decide +kernel
theorem kk_213 : ko_k "QuillDeskModel" (decide ("readOrder" = "<init>")) 3 prog_13_method_58_code (kpl kr_213 prog_13_method_58_code.size) kr_213 kc_213 = true := ko_k_0 (ko_k_cut 0 40 40 rfl kx_213_0 (ko_k_cut 40 40 80 rfl kx_213_40 kx_213_80))
theorem kp_214 : ko_p prog_13_method_59_code.size kr_214 0 = true := by decide +kernel
theorem kx_214_0 : ko_k "QuillDeskModel" (decide ("readOrders" = "<init>")) 2 prog_13_method_59_code (kpl kr_214 prog_13_method_59_code.size) (kr_214.drop 0) (kc_214.drop 0) = true := by decide +kernel
theorem kk_214 : ko_k "QuillDeskModel" (decide ("readOrders" = "<init>")) 2 prog_13_method_59_code (kpl kr_214 prog_13_method_59_code.size) kr_214 kc_214 = true := ko_k_0 kx_214_0
theorem kp_215 : ko_p prog_13_method_60_code.size kr_215 0 = true := by decide +kernel
theorem kx_215_0 : ko_k "QuillDeskModel" (decide ("readBird" = "<init>")) 4 prog_13_method_60_code (kpl kr_215 prog_13_method_60_code.size) ((kr_215.drop 0).take 40) ((kc_215.drop 0).take 40) = true := by decide +kernel
theorem kx_215_40 : ko_k "QuillDeskModel" (decide ("readBird" = "<init>")) 4 prog_13_method_60_code (kpl kr_215 prog_13_method_60_code.size) (kr_215.drop 40) (kc_215.drop 40) = true := by decide +kernel
theorem kk_215 : ko_k "QuillDeskModel" (decide ("readBird" = "<init>")) 4 prog_13_method_60_code (kpl kr_215 prog_13_method_60_code.size) kr_215 kc_215 = true := ko_k_0 (ko_k_cut 0 40 40 rfl kx_215_0 kx_215_40)
theorem kp_216 : ko_p prog_13_method_61_code.size kr_216 0 = true := by decide +kernel
theorem kx_216_0 : ko_k "QuillDeskModel" (decide ("readBirds" = "<init>")) 2 prog_13_method_61_code (kpl kr_216 prog_13_method_61_code.size) ((kr_216.drop 0).take 40) ((kc_216.drop 0).take 40) = true := by decide +kernel
theorem kx_216_40 : ko_k "QuillDeskModel" (decide ("readBirds" = "<init>")) 2 prog_13_method_61_code (kpl kr_216 prog_13_method_61_code.size) (kr_216.drop 40) (kc_216.drop 40) = true := by decide +kernel
theorem kk_216 : ko_k "QuillDeskModel" (decide ("readBirds" = "<init>")) 2 prog_13_method_61_code (kpl kr_216 prog_13_method_61_code.size) kr_216 kc_216 = true := ko_k_0 (ko_k_cut 0 40 40 rfl kx_216_0 kx_216_40)
theorem kp_217 : ko_p prog_13_method_62_code.size kr_217 0 = true := by decide +kernel
theorem kx_217_0 : ko_k "QuillDeskModel" (decide ("readAfterOne" = "<init>")) 3 prog_13_method_62_code (kpl kr_217 prog_13_method_62_code.size) ((kr_217.drop 0).take 40) ((kc_217.drop 0).take 40) = true := by decide +kernel
theorem kx_217_40 : ko_k "QuillDeskModel" (decide ("readAfterOne" = "<init>")) 3 prog_13_method_62_code (kpl kr_217 prog_13_method_62_code.size) (kr_217.drop 40) (kc_217.drop 40) = true := by decide +kernel
theorem kk_217 : ko_k "QuillDeskModel" (decide ("readAfterOne" = "<init>")) 3 prog_13_method_62_code (kpl kr_217 prog_13_method_62_code.size) kr_217 kc_217 = true := ko_k_0 (ko_k_cut 0 40 40 rfl kx_217_0 kx_217_40)
theorem kp_218 : ko_p prog_13_method_63_code.size kr_218 0 = true := by decide +kernel
theorem kx_218_0 : ko_k "QuillDeskModel" (decide ("readAfter" = "<init>")) 2 prog_13_method_63_code (kpl kr_218 prog_13_method_63_code.size) ((kr_218.drop 0).take 40) ((kc_218.drop 0).take 40) = true := by decide +kernel
theorem kx_218_40 : ko_k "QuillDeskModel" (decide ("readAfter" = "<init>")) 2 prog_13_method_63_code (kpl kr_218 prog_13_method_63_code.size) (kr_218.drop 40) (kc_218.drop 40) = true := by decide +kernel
theorem kk_218 : ko_k "QuillDeskModel" (decide ("readAfter" = "<init>")) 2 prog_13_method_63_code (kpl kr_218 prog_13_method_63_code.size) kr_218 kc_218 = true := ko_k_0 (ko_k_cut 0 40 40 rfl kx_218_0 kx_218_40)
theorem kp_219 : ko_p prog_13_method_64_code.size kr_219 0 = true := by decide +kernel
theorem kx_219_0 : ko_k "QuillDeskModel" (decide ("readsText" = "<init>")) 2 prog_13_method_64_code (kpl kr_219 prog_13_method_64_code.size) (kr_219.drop 0) (kc_219.drop 0) = true := by decide +kernel
theorem kk_219 : ko_k "QuillDeskModel" (decide ("readsText" = "<init>")) 2 prog_13_method_64_code (kpl kr_219 prog_13_method_64_code.size) kr_219 kc_219 = true := ko_k_0 kx_219_0
theorem kp_220 : ko_p prog_13_method_65_code.size kr_220 0 = true := by decide +kernel
theorem kx_220_0 : ko_k "QuillDeskModel" (decide ("takesOther" = "<init>")) 4 prog_13_method_65_code (kpl kr_220 prog_13_method_65_code.size) ((kr_220.drop 0).take 40) ((kc_220.drop 0).take 40) = true := by decide +kernel
theorem kx_220_40 : ko_k "QuillDeskModel" (decide ("takesOther" = "<init>")) 4 prog_13_method_65_code (kpl kr_220 prog_13_method_65_code.size) ((kr_220.drop 40).take 40) ((kc_220.drop 40).take 40) = true := by decide +kernel
theorem kx_220_80 : ko_k "QuillDeskModel" (decide ("takesOther" = "<init>")) 4 prog_13_method_65_code (kpl kr_220 prog_13_method_65_code.size) (kr_220.drop 80) (kc_220.drop 80) = true := by decide +kernel
theorem kk_220 : ko_k "QuillDeskModel" (decide ("takesOther" = "<init>")) 4 prog_13_method_65_code (kpl kr_220 prog_13_method_65_code.size) kr_220 kc_220 = true := ko_k_0 (ko_k_cut 0 40 40 rfl kx_220_0 (ko_k_cut 40 40 80 rfl kx_220_40 kx_220_80))
theorem kp_221 : ko_p prog_13_method_66_code.size kr_221 0 = true := by decide +kernel
theorem kx_221_0 : ko_k "QuillDeskModel" (decide ("text" = "<init>")) 3 prog_13_method_66_code (kpl kr_221 prog_13_method_66_code.size) ((kr_221.drop 0).take 40) ((kc_221.drop 0).take 40) = true := by decide +kernel
theorem kx_221_40 : ko_k "QuillDeskModel" (decide ("text" = "<init>")) 3 prog_13_method_66_code (kpl kr_221 prog_13_method_66_code.size) (kr_221.drop 40) (kc_221.drop 40) = true := by decide +kernel
theorem kk_221 : ko_k "QuillDeskModel" (decide ("text" = "<init>")) 3 prog_13_method_66_code (kpl kr_221 prog_13_method_66_code.size) kr_221 kc_221 = true := ko_k_0 (ko_k_cut 0 40 40 rfl kx_221_0 kx_221_40)
theorem kp_222 : ko_p prog_13_method_67_code.size kr_222 0 = true := by decide +kernel
theorem kx_222_0 : ko_k "QuillDeskModel" (decide ("fault" = "<init>")) 2 prog_13_method_67_code (kpl kr_222 prog_13_method_67_code.size) (kr_222.drop 0) (kc_222.drop 0) = true := by decide +kernel
theorem kk_222 : ko_k "QuillDeskModel" (decide ("fault" = "<init>")) 2 prog_13_method_67_code (kpl kr_222 prog_13_method_67_code.size) kr_222 kc_222 = true := ko_k_0 kx_222_0
theorem kp_223 : ko_p prog_13_method_68_code.size kr_223 0 = true := by decide +kernel
theorem kx_223_0 : ko_k "QuillDeskModel" (decide ("twoOf" = "<init>")) 4 prog_13_method_68_code (kpl kr_223 prog_13_method_68_code.size) ((kr_223.drop 0).take 40) ((kc_223.drop 0).take 40) = true := by decide +kernel
theorem kx_223_40 : ko_k "QuillDeskModel" (decide ("twoOf" = "<init>")) 4 prog_13_method_68_code (kpl kr_223 prog_13_method_68_code.size) (kr_223.drop 40) (kc_223.drop 40) = true := by decide +kernel
theorem kk_223 : ko_k "QuillDeskModel" (decide ("twoOf" = "<init>")) 4 prog_13_method_68_code (kpl kr_223 prog_13_method_68_code.size) kr_223 kc_223 = true := ko_k_0 (ko_k_cut 0 40 40 rfl kx_223_0 kx_223_40)
theorem kp_224 : ko_p prog_13_method_69_code.size kr_224 0 = true := by decide +kernel
theorem kx_224_0 : ko_k "QuillDeskModel" (decide ("runs" = "<init>")) 6 prog_13_method_69_code (kpl kr_224 prog_13_method_69_code.size) ((kr_224.drop 0).take 40) ((kc_224.drop 0).take 40) = true := by decide +kernel
end
section
theorem kx_224_40 : ko_k "QuillDeskModel" (decide ("runs" = "<init>")) 6 prog_13_method_69_code (kpl kr_224 prog_13_method_69_code.size) ((kr_224.drop 40).take 40) ((kc_224.drop 40).take 40) = true := by decide +kernel
theorem kx_224_80 : ko_k "QuillDeskModel" (decide ("runs" = "<init>")) 6 prog_13_method_69_code (kpl kr_224 prog_13_method_69_code.size) (kr_224.drop 80) (kc_224.drop 80) = true := by decide +kernel
theorem kk_224 : ko_k "QuillDeskModel" (decide ("runs" = "<init>")) 6 prog_13_method_69_code (kpl kr_224 prog_13_method_69_code.size) kr_224 kc_224 = true := ko_k_0 (ko_k_cut 0 40 40 rfl kx_224_0 (ko_k_cut 40 40 80 rfl kx_224_40 kx_224_80))
theorem kp_225 : ko_p prog_13_method_70_code.size kr_225 0 = true := by decide +kernel
theorem kx_225_0 : ko_k "QuillDeskModel" (decide ("lineOf" = "<init>")) 3 prog_13_method_70_code (kpl kr_225 prog_13_method_70_code.size) ((kr_225.drop 0).take 40) ((kc_225.drop 0).take 40) = true := by decide +kernel
theorem kx_225_40 : ko_k "QuillDeskModel" (decide ("lineOf" = "<init>")) 3 prog_13_method_70_code (kpl kr_225 prog_13_method_70_code.size) (kr_225.drop 40) (kc_225.drop 40) = true := by decide +kernel
theorem kk_225 : ko_k "QuillDeskModel" (decide ("lineOf" = "<init>")) 3 prog_13_method_70_code (kpl kr_225 prog_13_method_70_code.size) kr_225 kc_225 = true := ko_k_0 (ko_k_cut 0 40 40 rfl kx_225_0 kx_225_40)
theorem kp_226 : ko_p prog_13_method_71_code.size kr_226 0 = true := by decide +kernel
theorem kx_226_0 : ko_k "QuillDeskModel" (decide ("fineOf" = "<init>")) 2 prog_13_method_71_code (kpl kr_226 prog_13_method_71_code.size) (kr_226.drop 0) (kc_226.drop 0) = true := by decide +kernel
theorem kk_226 : ko_k "QuillDeskModel" (decide ("fineOf" = "<init>")) 2 prog_13_method_71_code (kpl kr_226 prog_13_method_71_code.size) kr_226 kc_226 = true := ko_k_0 kx_226_0
theorem kp_227 : ko_p prog_13_method_72_code.size kr_227 0 = true := by decide +kernel
theorem kx_227_0 : ko_k "QuillDeskModel" (decide ("asks" = "<init>")) 4 prog_13_method_72_code (kpl kr_227 prog_13_method_72_code.size) ((kr_227.drop 0).take 40) ((kc_227.drop 0).take 40) = true := by decide +kernel
theorem kx_227_40 : ko_k "QuillDeskModel" (decide ("asks" = "<init>")) 4 prog_13_method_72_code (kpl kr_227 prog_13_method_72_code.size) ((kr_227.drop 40).take 40) ((kc_227.drop 40).take 40) = true := by decide +kernel
theorem kx_227_80 : ko_k "QuillDeskModel" (decide ("asks" = "<init>")) 4 prog_13_method_72_code (kpl kr_227 prog_13_method_72_code.size) ((kr_227.drop 80).take 40) ((kc_227.drop 80).take 40) = true := by decide +kernel
theorem kx_227_120 : ko_k "QuillDeskModel" (decide ("asks" = "<init>")) 4 prog_13_method_72_code (kpl kr_227 prog_13_method_72_code.size) (kr_227.drop 120) (kc_227.drop 120) = true := by decide +kernel
theorem kk_227 : ko_k "QuillDeskModel" (decide ("asks" = "<init>")) 4 prog_13_method_72_code (kpl kr_227 prog_13_method_72_code.size) kr_227 kc_227 = true := ko_k_0 (ko_k_cut 0 40 40 rfl kx_227_0 (ko_k_cut 40 40 80 rfl kx_227_40 (ko_k_cut 80 40 120 rfl kx_227_80 kx_227_120)))
theorem kp_228 : ko_p prog_13_method_73_code.size kr_228 0 = true := by decide +kernel
theorem kx_228_0 : ko_k "QuillDeskModel" (decide ("lawTells" = "<init>")) 5 prog_13_method_73_code (kpl kr_228 prog_13_method_73_code.size) (kr_228.drop 0) (kc_228.drop 0) = true := by decide +kernel
theorem kk_228 : ko_k "QuillDeskModel" (decide ("lawTells" = "<init>")) 5 prog_13_method_73_code (kpl kr_228 prog_13_method_73_code.size) kr_228 kc_228 = true := ko_k_0 kx_228_0
theorem kp_229 : ko_p prog_13_method_74_code.size kr_229 0 = true := by decide +kernel
theorem kx_229_0 : ko_k "QuillDeskModel" (decide ("writesOf" = "<init>")) 2 prog_13_method_74_code (kpl kr_229 prog_13_method_74_code.size) (kr_229.drop 0) (kc_229.drop 0) = true := by decide +kernel
theorem kk_229 : ko_k "QuillDeskModel" (decide ("writesOf" = "<init>")) 2 prog_13_method_74_code (kpl kr_229 prog_13_method_74_code.size) kr_229 kc_229 = true := ko_k_0 kx_229_0
theorem kp_230 : ko_p prog_13_method_75_code.size kr_230 0 = true := by decide +kernel
theorem kx_230_0 : ko_k "QuillDeskModel" (decide ("blotsOf" = "<init>")) 2 prog_13_method_75_code (kpl kr_230 prog_13_method_75_code.size) (kr_230.drop 0) (kc_230.drop 0) = true := by decide +kernel
theorem kk_230 : ko_k "QuillDeskModel" (decide ("blotsOf" = "<init>")) 2 prog_13_method_75_code (kpl kr_230 prog_13_method_75_code.size) kr_230 kc_230 = true := ko_k_0 kx_230_0
theorem kp_231 : ko_p prog_13_method_76_code.size kr_231 0 = true := by decide +kernel
theorem kx_231_0 : ko_k "QuillDeskModel" (decide ("liftsOf" = "<init>")) 2 prog_13_method_76_code (kpl kr_231 prog_13_method_76_code.size) (kr_231.drop 0) (kc_231.drop 0) = true := by decide +kernel
theorem kk_231 : ko_k "QuillDeskModel" (decide ("liftsOf" = "<init>")) 2 prog_13_method_76_code (kpl kr_231 prog_13_method_76_code.size) kr_231 kc_231 = true := ko_k_0 kx_231_0
theorem kp_232 : ko_p prog_13_method_77_code.size kr_232 0 = true := by decide +kernel
theorem kx_232_0 : ko_k "QuillDeskModel" (decide ("notes" = "<init>")) 5 prog_13_method_77_code (kpl kr_232 prog_13_method_77_code.size) ((kr_232.drop 0).take 40) ((kc_232.drop 0).take 40) = true := by decide +kernel
theorem kx_232_40 : ko_k "QuillDeskModel" (decide ("notes" = "<init>")) 5 prog_13_method_77_code (kpl kr_232 prog_13_method_77_code.size) (kr_232.drop 40) (kc_232.drop 40) = true := by decide +kernel
theorem kk_232 : ko_k "QuillDeskModel" (decide ("notes" = "<init>")) 5 prog_13_method_77_code (kpl kr_232 prog_13_method_77_code.size) kr_232 kc_232 = true := ko_k_0 (ko_k_cut 0 40 40 rfl kx_232_0 kx_232_40)
theorem kp_233 : ko_p prog_13_method_78_code.size kr_233 0 = true := by decide +kernel
theorem kx_233_0 : ko_k "QuillDeskModel" (decide ("canTake" = "<init>")) 3 prog_13_method_78_code (kpl kr_233 prog_13_method_78_code.size) (kr_233.drop 0) (kc_233.drop 0) = true := by decide +kernel
theorem kk_233 : ko_k "QuillDeskModel" (decide ("canTake" = "<init>")) 3 prog_13_method_78_code (kpl kr_233 prog_13_method_78_code.size) kr_233 kc_233 = true := ko_k_0 kx_233_0
theorem kp_234 : ko_p prog_13_method_79_code.size kr_234 0 = true := by decide +kernel
theorem kx_234_0 : ko_k "QuillDeskModel" (decide ("canAct" = "<init>")) 5 prog_13_method_79_code (kpl kr_234 prog_13_method_79_code.size) ((kr_234.drop 0).take 40) ((kc_234.drop 0).take 40) = true := by decide +kernel
theorem kx_234_40 : ko_k "QuillDeskModel" (decide ("canAct" = "<init>")) 5 prog_13_method_79_code (kpl kr_234 prog_13_method_79_code.size) ((kr_234.drop 40).take 40) ((kc_234.drop 40).take 40) = true := by decide +kernel
theorem kx_234_80 : ko_k "QuillDeskModel" (decide ("canAct" = "<init>")) 5 prog_13_method_79_code (kpl kr_234 prog_13_method_79_code.size) (kr_234.drop 80) (kc_234.drop 80) = true := by decide +kernel
theorem kk_234 : ko_k "QuillDeskModel" (decide ("canAct" = "<init>")) 5 prog_13_method_79_code (kpl kr_234 prog_13_method_79_code.size) kr_234 kc_234 = true := ko_k_0 (ko_k_cut 0 40 40 rfl kx_234_0 (ko_k_cut 40 40 80 rfl kx_234_40 kx_234_80))
theorem kp_235 : ko_p prog_13_method_80_code.size kr_235 0 = true := by decide +kernel
theorem kx_235_0 : ko_k "QuillDeskModel" (decide ("act" = "<init>")) 4 prog_13_method_80_code (kpl kr_235 prog_13_method_80_code.size) ((kr_235.drop 0).take 40) ((kc_235.drop 0).take 40) = true := by decide +kernel
theorem kx_235_40 : ko_k "QuillDeskModel" (decide ("act" = "<init>")) 4 prog_13_method_80_code (kpl kr_235 prog_13_method_80_code.size) (kr_235.drop 40) (kc_235.drop 40) = true := by decide +kernel
theorem kk_235 : ko_k "QuillDeskModel" (decide ("act" = "<init>")) 4 prog_13_method_80_code (kpl kr_235 prog_13_method_80_code.size) kr_235 kc_235 = true := ko_k_0 (ko_k_cut 0 40 40 rfl kx_235_0 kx_235_40)
theorem kp_236 : ko_p prog_13_method_81_code.size kr_236 0 = true := by decide +kernel
theorem kx_236_0 : ko_k "QuillDeskModel" (decide ("happens" = "<init>")) 2 prog_13_method_81_code (kpl kr_236 prog_13_method_81_code.size) (kr_236.drop 0) (kc_236.drop 0) = true := by decide +kernel
theorem kk_236 : ko_k "QuillDeskModel" (decide ("happens" = "<init>")) 2 prog_13_method_81_code (kpl kr_236 prog_13_method_81_code.size) kr_236 kc_236 = true := ko_k_0 kx_236_0
theorem kp_237 : ko_p prog_13_method_82_code.size kr_237 0 = true := by decide +kernel
theorem kx_237_0 : ko_k "QuillDeskModel" (decide ("does" = "<init>")) 6 prog_13_method_82_code (kpl kr_237 prog_13_method_82_code.size) ((kr_237.drop 0).take 40) ((kc_237.drop 0).take 40) = true := by decide +kernel
theorem kx_237_40 : ko_k "QuillDeskModel" (decide ("does" = "<init>")) 6 prog_13_method_82_code (kpl kr_237 prog_13_method_82_code.size) ((kr_237.drop 40).take 40) ((kc_237.drop 40).take 40) = true := by decide +kernel
theorem kx_237_80 : ko_k "QuillDeskModel" (decide ("does" = "<init>")) 6 prog_13_method_82_code (kpl kr_237 prog_13_method_82_code.size) (kr_237.drop 80) (kc_237.drop 80) = true := by decide +kernel
theorem kk_237 : ko_k "QuillDeskModel" (decide ("does" = "<init>")) 6 prog_13_method_82_code (kpl kr_237 prog_13_method_82_code.size) kr_237 kc_237 = true := ko_k_0 (ko_k_cut 0 40 40 rfl kx_237_0 (ko_k_cut 40 40 80 rfl kx_237_40 kx_237_80))
theorem kp_238 : ko_p prog_13_method_83_code.size kr_238 0 = true := by decide +kernel
theorem kx_238_0 : ko_k "QuillDeskModel" (decide ("isSigned" = "<init>")) 4 prog_13_method_83_code (kpl kr_238 prog_13_method_83_code.size) ((kr_238.drop 0).take 40) ((kc_238.drop 0).take 40) = true := by decide +kernel
theorem kx_238_40 : ko_k "QuillDeskModel" (decide ("isSigned" = "<init>")) 4 prog_13_method_83_code (kpl kr_238 prog_13_method_83_code.size) (kr_238.drop 40) (kc_238.drop 40) = true := by decide +kernel
theorem kk_238 : ko_k "QuillDeskModel" (decide ("isSigned" = "<init>")) 4 prog_13_method_83_code (kpl kr_238 prog_13_method_83_code.size) kr_238 kc_238 = true := ko_k_0 (ko_k_cut 0 40 40 rfl kx_238_0 kx_238_40)
theorem kp_239 : ko_p prog_13_method_84_code.size kr_239 0 = true := by decide +kernel
theorem kx_239_0 : ko_k "QuillDeskModel" (decide ("writesOn" = "<init>")) 6 prog_13_method_84_code (kpl kr_239 prog_13_method_84_code.size) ((kr_239.drop 0).take 40) ((kc_239.drop 0).take 40) = true := by decide +kernel
theorem kx_239_40 : ko_k "QuillDeskModel" (decide ("writesOn" = "<init>")) 6 prog_13_method_84_code (kpl kr_239 prog_13_method_84_code.size) (kr_239.drop 40) (kc_239.drop 40) = true := by decide +kernel
theorem kk_239 : ko_k "QuillDeskModel" (decide ("writesOn" = "<init>")) 6 prog_13_method_84_code (kpl kr_239 prog_13_method_84_code.size) kr_239 kc_239 = true := ko_k_0 (ko_k_cut 0 40 40 rfl kx_239_0 kx_239_40)
theorem kp_240 : ko_p prog_13_method_85_code.size kr_240 0 = true := by decide +kernel
theorem kx_240_0 : ko_k "QuillDeskModel" (decide ("worksOn" = "<init>")) 5 prog_13_method_85_code (kpl kr_240 prog_13_method_85_code.size) ((kr_240.drop 0).take 40) ((kc_240.drop 0).take 40) = true := by decide +kernel
theorem kx_240_40 : ko_k "QuillDeskModel" (decide ("worksOn" = "<init>")) 5 prog_13_method_85_code (kpl kr_240 prog_13_method_85_code.size) ((kr_240.drop 40).take 40) ((kc_240.drop 40).take 40) = true := by decide +kernel
theorem kx_240_80 : ko_k "QuillDeskModel" (decide ("worksOn" = "<init>")) 5 prog_13_method_85_code (kpl kr_240 prog_13_method_85_code.size) ((kr_240.drop 80).take 40) ((kc_240.drop 80).take 40) = true := by decide +kernel
theorem kx_240_120 : ko_k "QuillDeskModel" (decide ("worksOn" = "<init>")) 5 prog_13_method_85_code (kpl kr_240 prog_13_method_85_code.size) (kr_240.drop 120) (kc_240.drop 120) = true := by decide +kernel
theorem kk_240 : ko_k "QuillDeskModel" (decide ("worksOn" = "<init>")) 5 prog_13_method_85_code (kpl kr_240 prog_13_method_85_code.size) kr_240 kc_240 = true := ko_k_0 (ko_k_cut 0 40 40 rfl kx_240_0 (ko_k_cut 40 40 80 rfl kx_240_40 (ko_k_cut 80 40 120 rfl kx_240_80 kx_240_120)))
theorem kp_241 : ko_p prog_13_method_86_code.size kr_241 0 = true := by decide +kernel
theorem kx_241_0 : ko_k "QuillDeskModel" (decide ("goesBy" = "<init>")) 3 prog_13_method_86_code (kpl kr_241 prog_13_method_86_code.size) ((kr_241.drop 0).take 40) ((kc_241.drop 0).take 40) = true := by decide +kernel
theorem kx_241_40 : ko_k "QuillDeskModel" (decide ("goesBy" = "<init>")) 3 prog_13_method_86_code (kpl kr_241 prog_13_method_86_code.size) (kr_241.drop 40) (kc_241.drop 40) = true := by decide +kernel
theorem kk_241 : ko_k "QuillDeskModel" (decide ("goesBy" = "<init>")) 3 prog_13_method_86_code (kpl kr_241 prog_13_method_86_code.size) kr_241 kc_241 = true := ko_k_0 (ko_k_cut 0 40 40 rfl kx_241_0 kx_241_40)
theorem kp_242 : ko_p prog_13_method_87_code.size kr_242 0 = true := by decide +kernel
theorem kx_242_0 : ko_k "QuillDeskModel" (decide ("hours" = "<init>")) 4 prog_13_method_87_code (kpl kr_242 prog_13_method_87_code.size) (kr_242.drop 0) (kc_242.drop 0) = true := by decide +kernel
theorem kk_242 : ko_k "QuillDeskModel" (decide ("hours" = "<init>")) 4 prog_13_method_87_code (kpl kr_242 prog_13_method_87_code.size) kr_242 kc_242 = true := ko_k_0 kx_242_0
theorem kp_243 : ko_p prog_13_method_88_code.size kr_243 0 = true := by decide +kernel
theorem kx_243_0 : ko_k "QuillDeskModel" (decide ("of" = "<init>")) 3 prog_13_method_88_code (kpl kr_243 prog_13_method_88_code.size) ((kr_243.drop 0).take 40) ((kc_243.drop 0).take 40) = true := by decide +kernel
theorem kx_243_40 : ko_k "QuillDeskModel" (decide ("of" = "<init>")) 3 prog_13_method_88_code (kpl kr_243 prog_13_method_88_code.size) (kr_243.drop 40) (kc_243.drop 40) = true := by decide +kernel
theorem kk_243 : ko_k "QuillDeskModel" (decide ("of" = "<init>")) 3 prog_13_method_88_code (kpl kr_243 prog_13_method_88_code.size) kr_243 kc_243 = true := ko_k_0 (ko_k_cut 0 40 40 rfl kx_243_0 kx_243_40)
theorem kp_244 : ko_p prog_13_method_89_code.size kr_244 0 = true := by decide +kernel
theorem kx_244_0 : ko_k "QuillDeskModel" (decide ("who" = "<init>")) 3 prog_13_method_89_code (kpl kr_244 prog_13_method_89_code.size) ((kr_244.drop 0).take 40) ((kc_244.drop 0).take 40) = true := by decide +kernel
theorem kx_244_40 : ko_k "QuillDeskModel" (decide ("who" = "<init>")) 3 prog_13_method_89_code (kpl kr_244 prog_13_method_89_code.size) (kr_244.drop 40) (kc_244.drop 40) = true := by decide +kernel
theorem kk_244 : ko_k "QuillDeskModel" (decide ("who" = "<init>")) 3 prog_13_method_89_code (kpl kr_244 prog_13_method_89_code.size) kr_244 kc_244 = true := ko_k_0 (ko_k_cut 0 40 40 rfl kx_244_0 kx_244_40)
theorem kp_245 : ko_p prog_13_method_90_code.size kr_245 0 = true := by decide +kernel
theorem kx_245_0 : ko_k "QuillDeskModel" (decide ("deedOf" = "<init>")) 5 prog_13_method_90_code (kpl kr_245 prog_13_method_90_code.size) ((kr_245.drop 0).take 40) ((kc_245.drop 0).take 40) = true := by decide +kernel
theorem kx_245_40 : ko_k "QuillDeskModel" (decide ("deedOf" = "<init>")) 5 prog_13_method_90_code (kpl kr_245 prog_13_method_90_code.size) ((kr_245.drop 40).take 40) ((kc_245.drop 40).take 40) = true := by decide +kernel
theorem kx_245_80 : ko_k "QuillDeskModel" (decide ("deedOf" = "<init>")) 5 prog_13_method_90_code (kpl kr_245 prog_13_method_90_code.size) (kr_245.drop 80) (kc_245.drop 80) = true := by decide +kernel
theorem kk_245 : ko_k "QuillDeskModel" (decide ("deedOf" = "<init>")) 5 prog_13_method_90_code (kpl kr_245 prog_13_method_90_code.size) kr_245 kc_245 = true := ko_k_0 (ko_k_cut 0 40 40 rfl kx_245_0 (ko_k_cut 40 40 80 rfl kx_245_40 kx_245_80))
theorem kp_246 : ko_p prog_13_method_91_code.size kr_246 0 = true := by decide +kernel
theorem kx_246_0 : ko_k "QuillDeskModel" (decide ("book" = "<init>")) 3 prog_13_method_91_code (kpl kr_246 prog_13_method_91_code.size) (kr_246.drop 0) (kc_246.drop 0) = true := by decide +kernel
theorem kk_246 : ko_k "QuillDeskModel" (decide ("book" = "<init>")) 3 prog_13_method_91_code (kpl kr_246 prog_13_method_91_code.size) kr_246 kc_246 = true := ko_k_0 kx_246_0
theorem kp_247 : ko_p prog_13_method_92_code.size kr_247 0 = true := by decide +kernel
theorem kx_247_0 : ko_k "QuillDeskModel" (decide ("sumOf" = "<init>")) 5 prog_13_method_92_code (kpl kr_247 prog_13_method_92_code.size) (kr_247.drop 0) (kc_247.drop 0) = true := by decide +kernel
theorem kk_247 : ko_k "QuillDeskModel" (decide ("sumOf" = "<init>")) 5 prog_13_method_92_code (kpl kr_247 prog_13_method_92_code.size) kr_247 kc_247 = true := ko_k_0 kx_247_0
theorem kp_248 : ko_p prog_13_method_93_code.size kr_248 0 = true := by decide +kernel
theorem kx_248_0 : ko_k "QuillDeskModel" (decide ("goes" = "<init>")) 4 prog_13_method_93_code (kpl kr_248 prog_13_method_93_code.size) ((kr_248.drop 0).take 40) ((kc_248.drop 0).take 40) = true := by decide +kernel
theorem kx_248_40 : ko_k "QuillDeskModel" (decide ("goes" = "<init>")) 4 prog_13_method_93_code (kpl kr_248 prog_13_method_93_code.size) (kr_248.drop 40) (kc_248.drop 40) = true := by decide +kernel
theorem kk_248 : ko_k "QuillDeskModel" (decide ("goes" = "<init>")) 4 prog_13_method_93_code (kpl kr_248 prog_13_method_93_code.size) kr_248 kc_248 = true := ko_k_0 (ko_k_cut 0 40 40 rfl kx_248_0 kx_248_40)
theorem kp_249 : ko_p prog_13_method_94_code.size kr_249 0 = true := by decide +kernel
theorem kx_249_0 : ko_k "QuillDeskModel" (decide ("done" = "<init>")) 3 prog_13_method_94_code (kpl kr_249 prog_13_method_94_code.size) (kr_249.drop 0) (kc_249.drop 0) = true := by decide +kernel
theorem kk_249 : ko_k "QuillDeskModel" (decide ("done" = "<init>")) 3 prog_13_method_94_code (kpl kr_249 prog_13_method_94_code.size) kr_249 kc_249 = true := ko_k_0 kx_249_0
theorem kp_250 : ko_p prog_13_method_95_code.size kr_250 0 = true := by decide +kernel
theorem kx_250_0 : ko_k "QuillDeskModel" (decide ("soon" = "<init>")) 7 prog_13_method_95_code (kpl kr_250 prog_13_method_95_code.size) ((kr_250.drop 0).take 40) ((kc_250.drop 0).take 40) = true := by decide +kernel
theorem kx_250_40 : ko_k "QuillDeskModel" (decide ("soon" = "<init>")) 7 prog_13_method_95_code (kpl kr_250 prog_13_method_95_code.size) ((kr_250.drop 40).take 40) ((kc_250.drop 40).take 40) = true := by decide +kernel
theorem kx_250_80 : ko_k "QuillDeskModel" (decide ("soon" = "<init>")) 7 prog_13_method_95_code (kpl kr_250 prog_13_method_95_code.size) (kr_250.drop 80) (kc_250.drop 80) = true := by decide +kernel
theorem kk_250 : ko_k "QuillDeskModel" (decide ("soon" = "<init>")) 7 prog_13_method_95_code (kpl kr_250 prog_13_method_95_code.size) kr_250 kc_250 = true := ko_k_0 (ko_k_cut 0 40 40 rfl kx_250_0 (ko_k_cut 40 40 80 rfl kx_250_40 kx_250_80))
theorem kp_251 : ko_p prog_13_method_96_code.size kr_251 0 = true := by decide +kernel
theorem kx_251_0 : ko_k "QuillDeskModel" (decide ("flock" = "<init>")) 8 prog_13_method_96_code (kpl kr_251 prog_13_method_96_code.size) ((kr_251.drop 0).take 40) ((kc_251.drop 0).take 40) = true := by decide +kernel
theorem kx_251_40 : ko_k "QuillDeskModel" (decide ("flock" = "<init>")) 8 prog_13_method_96_code (kpl kr_251 prog_13_method_96_code.size) ((kr_251.drop 40).take 40) ((kc_251.drop 40).take 40) = true := by decide +kernel
theorem kx_251_80 : ko_k "QuillDeskModel" (decide ("flock" = "<init>")) 8 prog_13_method_96_code (kpl kr_251 prog_13_method_96_code.size) ((kr_251.drop 80).take 40) ((kc_251.drop 80).take 40) = true := by decide +kernel
theorem kx_251_120 : ko_k "QuillDeskModel" (decide ("flock" = "<init>")) 8 prog_13_method_96_code (kpl kr_251 prog_13_method_96_code.size) (kr_251.drop 120) (kc_251.drop 120) = true := by decide +kernel
theorem kk_251 : ko_k "QuillDeskModel" (decide ("flock" = "<init>")) 8 prog_13_method_96_code (kpl kr_251 prog_13_method_96_code.size) kr_251 kc_251 = true := ko_k_0 (ko_k_cut 0 40 40 rfl kx_251_0 (ko_k_cut 40 40 80 rfl kx_251_40 (ko_k_cut 80 40 120 rfl kx_251_80 kx_251_120)))
theorem kp_252 : ko_p prog_13_method_97_code.size kr_252 0 = true := by decide +kernel
theorem kx_252_0 : ko_k "QuillDeskModel" (decide ("letters" = "<init>")) 2 prog_13_method_97_code (kpl kr_252 prog_13_method_97_code.size) (kr_252.drop 0) (kc_252.drop 0) = true := by decide +kernel
theorem kk_252 : ko_k "QuillDeskModel" (decide ("letters" = "<init>")) 2 prog_13_method_97_code (kpl kr_252 prog_13_method_97_code.size) kr_252 kc_252 = true := ko_k_0 kx_252_0
theorem kp_253 : ko_p prog_13_method_98_code.size kr_253 0 = true := by decide +kernel
theorem kx_253_0 : ko_k "QuillDeskModel" (decide ("page" = "<init>")) 8 prog_13_method_98_code (kpl kr_253 prog_13_method_98_code.size) ((kr_253.drop 0).take 40) ((kc_253.drop 0).take 40) = true := by decide +kernel
theorem kx_253_40 : ko_k "QuillDeskModel" (decide ("page" = "<init>")) 8 prog_13_method_98_code (kpl kr_253 prog_13_method_98_code.size) ((kr_253.drop 40).take 40) ((kc_253.drop 40).take 40) = true := by decide +kernel
theorem kx_253_80 : ko_k "QuillDeskModel" (decide ("page" = "<init>")) 8 prog_13_method_98_code (kpl kr_253 prog_13_method_98_code.size) ((kr_253.drop 80).take 40) ((kc_253.drop 80).take 40) = true := by decide +kernel
end
section
theorem kx_253_120 : ko_k "QuillDeskModel" (decide ("page" = "<init>")) 8 prog_13_method_98_code (kpl kr_253 prog_13_method_98_code.size) (kr_253.drop 120) (kc_253.drop 120) = true := by decide +kernel
theorem kk_253 : ko_k "QuillDeskModel" (decide ("page" = "<init>")) 8 prog_13_method_98_code (kpl kr_253 prog_13_method_98_code.size) kr_253 kc_253 = true := ko_k_0 (ko_k_cut 0 40 40 rfl kx_253_0 (ko_k_cut 40 40 80 rfl kx_253_40 (ko_k_cut 80 40 120 rfl kx_253_80 kx_253_120)))
theorem kp_254 : ko_p prog_13_method_99_code.size kr_254 0 = true := by decide +kernel
theorem kx_254_0 : ko_k "QuillDeskModel" (decide ("stamp" = "<init>")) 2 prog_13_method_99_code (kpl kr_254 prog_13_method_99_code.size) (kr_254.drop 0) (kc_254.drop 0) = true := by decide +kernel
theorem kk_254 : ko_k "QuillDeskModel" (decide ("stamp" = "<init>")) 2 prog_13_method_99_code (kpl kr_254 prog_13_method_99_code.size) kr_254 kc_254 = true := ko_k_0 kx_254_0
theorem kp_255 : ko_p prog_13_method_100_code.size kr_255 0 = true := by decide +kernel
theorem kx_255_0 : ko_k "QuillDeskModel" (decide ("stamps" = "<init>")) 7 prog_13_method_100_code (kpl kr_255 prog_13_method_100_code.size) ((kr_255.drop 0).take 40) ((kc_255.drop 0).take 40) = true := by decide +kernel
theorem kx_255_40 : ko_k "QuillDeskModel" (decide ("stamps" = "<init>")) 7 prog_13_method_100_code (kpl kr_255 prog_13_method_100_code.size) ((kr_255.drop 40).take 40) ((kc_255.drop 40).take 40) = true := by decide +kernel
theorem kx_255_80 : ko_k "QuillDeskModel" (decide ("stamps" = "<init>")) 7 prog_13_method_100_code (kpl kr_255 prog_13_method_100_code.size) (kr_255.drop 80) (kc_255.drop 80) = true := by decide +kernel
theorem kk_255 : ko_k "QuillDeskModel" (decide ("stamps" = "<init>")) 7 prog_13_method_100_code (kpl kr_255 prog_13_method_100_code.size) kr_255 kc_255 = true := ko_k_0 (ko_k_cut 0 40 40 rfl kx_255_0 (ko_k_cut 40 40 80 rfl kx_255_40 kx_255_80))
theorem kp_256 : ko_p prog_13_method_101_code.size kr_256 0 = true := by decide +kernel
theorem kx_256_0 : ko_k "QuillDeskModel" (decide ("scratch" = "<init>")) 6 prog_13_method_101_code (kpl kr_256 prog_13_method_101_code.size) ((kr_256.drop 0).take 40) ((kc_256.drop 0).take 40) = true := by decide +kernel
theorem kx_256_40 : ko_k "QuillDeskModel" (decide ("scratch" = "<init>")) 6 prog_13_method_101_code (kpl kr_256 prog_13_method_101_code.size) (kr_256.drop 40) (kc_256.drop 40) = true := by decide +kernel
theorem kk_256 : ko_k "QuillDeskModel" (decide ("scratch" = "<init>")) 6 prog_13_method_101_code (kpl kr_256 prog_13_method_101_code.size) kr_256 kc_256 = true := ko_k_0 (ko_k_cut 0 40 40 rfl kx_256_0 kx_256_40)
theorem kp_257 : ko_p prog_13_method_102_code.size kr_257 0 = true := by decide +kernel
theorem kx_257_0 : ko_k "QuillDeskModel" (decide ("threes" = "<init>")) 7 prog_13_method_102_code (kpl kr_257 prog_13_method_102_code.size) ((kr_257.drop 0).take 40) ((kc_257.drop 0).take 40) = true := by decide +kernel
theorem kx_257_40 : ko_k "QuillDeskModel" (decide ("threes" = "<init>")) 7 prog_13_method_102_code (kpl kr_257 prog_13_method_102_code.size) ((kr_257.drop 40).take 40) ((kc_257.drop 40).take 40) = true := by decide +kernel
theorem kx_257_80 : ko_k "QuillDeskModel" (decide ("threes" = "<init>")) 7 prog_13_method_102_code (kpl kr_257 prog_13_method_102_code.size) (kr_257.drop 80) (kc_257.drop 80) = true := by decide +kernel
theorem kk_257 : ko_k "QuillDeskModel" (decide ("threes" = "<init>")) 7 prog_13_method_102_code (kpl kr_257 prog_13_method_102_code.size) kr_257 kc_257 = true := ko_k_0 (ko_k_cut 0 40 40 rfl kx_257_0 (ko_k_cut 40 40 80 rfl kx_257_40 kx_257_80))
theorem kp_258 : ko_p prog_13_method_103_code.size kr_258 0 = true := by decide +kernel
theorem kx_258_0 : ko_k "QuillDeskModel" (decide ("turnsLeft" = "<init>")) 3 prog_13_method_103_code (kpl kr_258 prog_13_method_103_code.size) (kr_258.drop 0) (kc_258.drop 0) = true := by decide +kernel
theorem kk_258 : ko_k "QuillDeskModel" (decide ("turnsLeft" = "<init>")) 3 prog_13_method_103_code (kpl kr_258 prog_13_method_103_code.size) kr_258 kc_258 = true := ko_k_0 kx_258_0
theorem kp_259 : ko_p prog_13_method_104_code.size kr_259 0 = true := by decide +kernel
theorem kx_259_0 : ko_k "QuillDeskModel" (decide ("curve" = "<init>")) 8 prog_13_method_104_code (kpl kr_259 prog_13_method_104_code.size) ((kr_259.drop 0).take 40) ((kc_259.drop 0).take 40) = true := by decide +kernel
theorem kx_259_40 : ko_k "QuillDeskModel" (decide ("curve" = "<init>")) 8 prog_13_method_104_code (kpl kr_259 prog_13_method_104_code.size) ((kr_259.drop 40).take 40) ((kc_259.drop 40).take 40) = true := by decide +kernel
theorem kx_259_80 : ko_k "QuillDeskModel" (decide ("curve" = "<init>")) 8 prog_13_method_104_code (kpl kr_259 prog_13_method_104_code.size) (kr_259.drop 80) (kc_259.drop 80) = true := by decide +kernel
theorem kk_259 : ko_k "QuillDeskModel" (decide ("curve" = "<init>")) 8 prog_13_method_104_code (kpl kr_259 prog_13_method_104_code.size) kr_259 kc_259 = true := ko_k_0 (ko_k_cut 0 40 40 rfl kx_259_0 (ko_k_cut 40 40 80 rfl kx_259_40 kx_259_80))
theorem kp_260 : ko_p prog_13_method_105_code.size kr_260 0 = true := by decide +kernel
theorem kx_260_0 : ko_k "QuillDeskModel" (decide ("quire" = "<init>")) 4 prog_13_method_105_code (kpl kr_260 prog_13_method_105_code.size) ((kr_260.drop 0).take 40) ((kc_260.drop 0).take 40) = true := by decide +kernel
theorem kx_260_40 : ko_k "QuillDeskModel" (decide ("quire" = "<init>")) 4 prog_13_method_105_code (kpl kr_260 prog_13_method_105_code.size) (kr_260.drop 40) (kc_260.drop 40) = true := by decide +kernel
theorem kk_260 : ko_k "QuillDeskModel" (decide ("quire" = "<init>")) 4 prog_13_method_105_code (kpl kr_260 prog_13_method_105_code.size) kr_260 kc_260 = true := ko_k_0 (ko_k_cut 0 40 40 rfl kx_260_0 kx_260_40)
theorem kp_261 : ko_p prog_13_method_106_code.size kr_261 0 = true := by decide +kernel
theorem kx_261_0 : ko_k "QuillDeskModel" (decide ("dot" = "<init>")) 4 prog_13_method_106_code (kpl kr_261 prog_13_method_106_code.size) (kr_261.drop 0) (kc_261.drop 0) = true := by decide +kernel
theorem kk_261 : ko_k "QuillDeskModel" (decide ("dot" = "<init>")) 4 prog_13_method_106_code (kpl kr_261 prog_13_method_106_code.size) kr_261 kc_261 = true := ko_k_0 kx_261_0
theorem kp_262 : ko_p prog_13_method_107_code.size kr_262 0 = true := by decide +kernel
theorem kx_262_0 : ko_k "QuillDeskModel" (decide ("stepsBetween" = "<init>")) 3 prog_13_method_107_code (kpl kr_262 prog_13_method_107_code.size) (kr_262.drop 0) (kc_262.drop 0) = true := by decide +kernel
theorem kk_262 : ko_k "QuillDeskModel" (decide ("stepsBetween" = "<init>")) 3 prog_13_method_107_code (kpl kr_262 prog_13_method_107_code.size) kr_262 kc_262 = true := ko_k_0 kx_262_0
theorem kp_263 : ko_p prog_13_method_108_code.size kr_263 0 = true := by decide +kernel
theorem kx_263_0 : ko_k "QuillDeskModel" (decide ("dots" = "<init>")) 3 prog_13_method_108_code (kpl kr_263 prog_13_method_108_code.size) ((kr_263.drop 0).take 40) ((kc_263.drop 0).take 40) = true := by decide +kernel
theorem kx_263_40 : ko_k "QuillDeskModel" (decide ("dots" = "<init>")) 3 prog_13_method_108_code (kpl kr_263 prog_13_method_108_code.size) ((kr_263.drop 40).take 40) ((kc_263.drop 40).take 40) = true := by decide +kernel
theorem kx_263_80 : ko_k "QuillDeskModel" (decide ("dots" = "<init>")) 3 prog_13_method_108_code (kpl kr_263 prog_13_method_108_code.size) (kr_263.drop 80) (kc_263.drop 80) = true := by decide +kernel
theorem kk_263 : ko_k "QuillDeskModel" (decide ("dots" = "<init>")) 3 prog_13_method_108_code (kpl kr_263 prog_13_method_108_code.size) kr_263 kc_263 = true := ko_k_0 (ko_k_cut 0 40 40 rfl kx_263_0 (ko_k_cut 40 40 80 rfl kx_263_40 kx_263_80))
theorem kp_264 : ko_p prog_13_method_109_code.size kr_264 0 = true := by decide +kernel
theorem kx_264_0 : ko_k "QuillDeskModel" (decide ("isCut" = "<init>")) 2 prog_13_method_109_code (kpl kr_264 prog_13_method_109_code.size) (kr_264.drop 0) (kc_264.drop 0) = true := by decide +kernel
theorem kk_264 : ko_k "QuillDeskModel" (decide ("isCut" = "<init>")) 2 prog_13_method_109_code (kpl kr_264 prog_13_method_109_code.size) kr_264 kc_264 = true := ko_k_0 kx_264_0
theorem kp_265 : ko_p prog_13_method_110_code.size kr_265 0 = true := by decide +kernel
theorem kx_265_0 : ko_k "QuillDeskModel" (decide ("cut" = "<init>")) 2 prog_13_method_110_code (kpl kr_265 prog_13_method_110_code.size) ((kr_265.drop 0).take 40) ((kc_265.drop 0).take 40) = true := by decide +kernel
theorem kx_265_40 : ko_k "QuillDeskModel" (decide ("cut" = "<init>")) 2 prog_13_method_110_code (kpl kr_265 prog_13_method_110_code.size) (kr_265.drop 40) (kc_265.drop 40) = true := by decide +kernel
theorem kk_265 : ko_k "QuillDeskModel" (decide ("cut" = "<init>")) 2 prog_13_method_110_code (kpl kr_265 prog_13_method_110_code.size) kr_265 kc_265 = true := ko_k_0 (ko_k_cut 0 40 40 rfl kx_265_0 kx_265_40)
theorem kp_266 : ko_p prog_13_method_111_code.size kr_266 0 = true := by decide +kernel
theorem kx_266_0 : ko_k "QuillDeskModel" (decide ("plankWith" = "<init>")) 4 prog_13_method_111_code (kpl kr_266 prog_13_method_111_code.size) (kr_266.drop 0) (kc_266.drop 0) = true := by decide +kernel
theorem kk_266 : ko_k "QuillDeskModel" (decide ("plankWith" = "<init>")) 4 prog_13_method_111_code (kpl kr_266 prog_13_method_111_code.size) kr_266 kc_266 = true := ko_k_0 kx_266_0
theorem kp_267 : ko_p prog_13_method_112_code.size kr_267 0 = true := by decide +kernel
theorem kx_267_0 : ko_k "QuillDeskModel" (decide ("planks" = "<init>")) 8 prog_13_method_112_code (kpl kr_267 prog_13_method_112_code.size) ((kr_267.drop 0).take 40) ((kc_267.drop 0).take 40) = true := by decide +kernel
theorem kx_267_40 : ko_k "QuillDeskModel" (decide ("planks" = "<init>")) 8 prog_13_method_112_code (kpl kr_267 prog_13_method_112_code.size) ((kr_267.drop 40).take 40) ((kc_267.drop 40).take 40) = true := by decide +kernel
theorem kx_267_80 : ko_k "QuillDeskModel" (decide ("planks" = "<init>")) 8 prog_13_method_112_code (kpl kr_267 prog_13_method_112_code.size) ((kr_267.drop 80).take 40) ((kc_267.drop 80).take 40) = true := by decide +kernel
theorem kx_267_120 : ko_k "QuillDeskModel" (decide ("planks" = "<init>")) 8 prog_13_method_112_code (kpl kr_267 prog_13_method_112_code.size) (kr_267.drop 120) (kc_267.drop 120) = true := by decide +kernel
theorem kk_267 : ko_k "QuillDeskModel" (decide ("planks" = "<init>")) 8 prog_13_method_112_code (kpl kr_267 prog_13_method_112_code.size) kr_267 kc_267 = true := ko_k_0 (ko_k_cut 0 40 40 rfl kx_267_0 (ko_k_cut 40 40 80 rfl kx_267_40 (ko_k_cut 80 40 120 rfl kx_267_80 kx_267_120)))
theorem kp_268 : ko_p prog_13_method_113_code.size kr_268 0 = true := by decide +kernel
theorem kx_268_0 : ko_k "QuillDeskModel" (decide ("sign" = "<init>")) 2 prog_13_method_113_code (kpl kr_268 prog_13_method_113_code.size) (kr_268.drop 0) (kc_268.drop 0) = true := by decide +kernel
theorem kk_268 : ko_k "QuillDeskModel" (decide ("sign" = "<init>")) 2 prog_13_method_113_code (kpl kr_268 prog_13_method_113_code.size) kr_268 kc_268 = true := ko_k_0 kx_268_0
theorem kp_269 : ko_p prog_13_method_114_code.size kr_269 0 = true := by decide +kernel
theorem kx_269_0 : ko_k "QuillDeskModel" (decide ("compares" = "<init>")) 6 prog_13_method_114_code (kpl kr_269 prog_13_method_114_code.size) (kr_269.drop 0) (kc_269.drop 0) = true := by decide +kernel
theorem kk_269 : ko_k "QuillDeskModel" (decide ("compares" = "<init>")) 6 prog_13_method_114_code (kpl kr_269 prog_13_method_114_code.size) kr_269 kc_269 = true := ko_k_0 kx_269_0
theorem kp_270 : ko_p prog_13_method_115_code.size kr_270 0 = true := by decide +kernel
theorem kx_270_0 : ko_k "QuillDeskModel" (decide ("unlikeRows" = "<init>")) 6 prog_13_method_115_code (kpl kr_270 prog_13_method_115_code.size) ((kr_270.drop 0).take 40) ((kc_270.drop 0).take 40) = true := by decide +kernel
theorem kx_270_40 : ko_k "QuillDeskModel" (decide ("unlikeRows" = "<init>")) 6 prog_13_method_115_code (kpl kr_270 prog_13_method_115_code.size) (kr_270.drop 40) (kc_270.drop 40) = true := by decide +kernel
theorem kk_270 : ko_k "QuillDeskModel" (decide ("unlikeRows" = "<init>")) 6 prog_13_method_115_code (kpl kr_270 prog_13_method_115_code.size) kr_270 kc_270 = true := ko_k_0 (ko_k_cut 0 40 40 rfl kx_270_0 kx_270_40)
theorem kp_271 : ko_p prog_13_method_116_code.size kr_271 0 = true := by decide +kernel
theorem kx_271_0 : ko_k "QuillDeskModel" (decide ("read" = "<init>")) 4 prog_13_method_116_code (kpl kr_271 prog_13_method_116_code.size) ((kr_271.drop 0).take 40) ((kc_271.drop 0).take 40) = true := by decide +kernel
theorem kx_271_40 : ko_k "QuillDeskModel" (decide ("read" = "<init>")) 4 prog_13_method_116_code (kpl kr_271 prog_13_method_116_code.size) (kr_271.drop 40) (kc_271.drop 40) = true := by decide +kernel
theorem kk_271 : ko_k "QuillDeskModel" (decide ("read" = "<init>")) 4 prog_13_method_116_code (kpl kr_271 prog_13_method_116_code.size) kr_271 kc_271 = true := ko_k_0 (ko_k_cut 0 40 40 rfl kx_271_0 kx_271_40)
theorem kp_272 : ko_p prog_13_method_117_code.size kr_272 0 = true := by decide +kernel
theorem kx_272_0 : ko_k "QuillDeskModel" (decide ("leg" = "<init>")) 2 prog_13_method_117_code (kpl kr_272 prog_13_method_117_code.size) (kr_272.drop 0) (kc_272.drop 0) = true := by decide +kernel
theorem kk_272 : ko_k "QuillDeskModel" (decide ("leg" = "<init>")) 2 prog_13_method_117_code (kpl kr_272 prog_13_method_117_code.size) kr_272 kc_272 = true := ko_k_0 kx_272_0
theorem kp_273 : ko_p prog_13_method_118_code.size kr_273 0 = true := by decide +kernel
theorem kx_273_0 : ko_k "QuillDeskModel" (decide ("line" = "<init>")) 8 prog_13_method_118_code (kpl kr_273 prog_13_method_118_code.size) ((kr_273.drop 0).take 40) ((kc_273.drop 0).take 40) = true := by decide +kernel
theorem kx_273_40 : ko_k "QuillDeskModel" (decide ("line" = "<init>")) 8 prog_13_method_118_code (kpl kr_273 prog_13_method_118_code.size) ((kr_273.drop 40).take 40) ((kc_273.drop 40).take 40) = true := by decide +kernel
theorem kx_273_80 : ko_k "QuillDeskModel" (decide ("line" = "<init>")) 8 prog_13_method_118_code (kpl kr_273 prog_13_method_118_code.size) (kr_273.drop 80) (kc_273.drop 80) = true := by decide +kernel
theorem kk_273 : ko_k "QuillDeskModel" (decide ("line" = "<init>")) 8 prog_13_method_118_code (kpl kr_273 prog_13_method_118_code.size) kr_273 kc_273 = true := ko_k_0 (ko_k_cut 0 40 40 rfl kx_273_0 (ko_k_cut 40 40 80 rfl kx_273_40 kx_273_80))
theorem kp_274 : ko_p prog_13_method_119_code.size kr_274 0 = true := by decide +kernel
theorem kx_274_0 : ko_k "QuillDeskModel" (decide ("mirrored" = "<init>")) 5 prog_13_method_119_code (kpl kr_274 prog_13_method_119_code.size) (kr_274.drop 0) (kc_274.drop 0) = true := by decide +kernel
theorem kk_274 : ko_k "QuillDeskModel" (decide ("mirrored" = "<init>")) 5 prog_13_method_119_code (kpl kr_274 prog_13_method_119_code.size) kr_274 kc_274 = true := ko_k_0 kx_274_0
theorem kp_275 : ko_p prog_13_method_120_code.size kr_275 0 = true := by decide +kernel
theorem kx_275_0 : ko_k "QuillDeskModel" (decide ("water" = "<init>")) 6 prog_13_method_120_code (kpl kr_275 prog_13_method_120_code.size) ((kr_275.drop 0).take 40) ((kc_275.drop 0).take 40) = true := by decide +kernel
theorem kx_275_40 : ko_k "QuillDeskModel" (decide ("water" = "<init>")) 6 prog_13_method_120_code (kpl kr_275 prog_13_method_120_code.size) (kr_275.drop 40) (kc_275.drop 40) = true := by decide +kernel
theorem kk_275 : ko_k "QuillDeskModel" (decide ("water" = "<init>")) 6 prog_13_method_120_code (kpl kr_275 prog_13_method_120_code.size) kr_275 kc_275 = true := ko_k_0 (ko_k_cut 0 40 40 rfl kx_275_0 kx_275_40)
theorem kp_276 : ko_p prog_13_method_121_code.size kr_276 0 = true := by decide +kernel
theorem kx_276_0 : ko_k "QuillDeskModel" (decide ("weight" = "<init>")) 2 prog_13_method_121_code (kpl kr_276 prog_13_method_121_code.size) (kr_276.drop 0) (kc_276.drop 0) = true := by decide +kernel
theorem kk_276 : ko_k "QuillDeskModel" (decide ("weight" = "<init>")) 2 prog_13_method_121_code (kpl kr_276 prog_13_method_121_code.size) kr_276 kc_276 = true := ko_k_0 kx_276_0
theorem kp_277 : ko_p prog_13_method_122_code.size kr_277 0 = true := by decide +kernel
theorem kx_277_0 : ko_k "QuillDeskModel" (decide ("lift" = "<init>")) 7 prog_13_method_122_code (kpl kr_277 prog_13_method_122_code.size) ((kr_277.drop 0).take 40) ((kc_277.drop 0).take 40) = true := by decide +kernel
theorem kx_277_40 : ko_k "QuillDeskModel" (decide ("lift" = "<init>")) 7 prog_13_method_122_code (kpl kr_277 prog_13_method_122_code.size) ((kr_277.drop 40).take 40) ((kc_277.drop 40).take 40) = true := by decide +kernel
theorem kx_277_80 : ko_k "QuillDeskModel" (decide ("lift" = "<init>")) 7 prog_13_method_122_code (kpl kr_277 prog_13_method_122_code.size) (kr_277.drop 80) (kc_277.drop 80) = true := by decide +kernel
theorem kk_277 : ko_k "QuillDeskModel" (decide ("lift" = "<init>")) 7 prog_13_method_122_code (kpl kr_277 prog_13_method_122_code.size) kr_277 kc_277 = true := ko_k_0 (ko_k_cut 0 40 40 rfl kx_277_0 (ko_k_cut 40 40 80 rfl kx_277_40 kx_277_80))
theorem kp_278 : ko_p prog_13_method_123_code.size kr_278 0 = true := by decide +kernel
theorem kx_278_0 : ko_k "QuillDeskModel" (decide ("heir" = "<init>")) 2 prog_13_method_123_code (kpl kr_278 prog_13_method_123_code.size) (kr_278.drop 0) (kc_278.drop 0) = true := by decide +kernel
theorem kk_278 : ko_k "QuillDeskModel" (decide ("heir" = "<init>")) 2 prog_13_method_123_code (kpl kr_278 prog_13_method_123_code.size) kr_278 kc_278 = true := ko_k_0 kx_278_0
theorem kp_279 : ko_p prog_13_method_124_code.size kr_279 0 = true := by decide +kernel
theorem kx_279_0 : ko_k "QuillDeskModel" (decide ("sealOf" = "<init>")) 9 prog_13_method_124_code (kpl kr_279 prog_13_method_124_code.size) ((kr_279.drop 0).take 40) ((kc_279.drop 0).take 40) = true := by decide +kernel
theorem kx_279_40 : ko_k "QuillDeskModel" (decide ("sealOf" = "<init>")) 9 prog_13_method_124_code (kpl kr_279 prog_13_method_124_code.size) ((kr_279.drop 40).take 40) ((kc_279.drop 40).take 40) = true := by decide +kernel
theorem kx_279_80 : ko_k "QuillDeskModel" (decide ("sealOf" = "<init>")) 9 prog_13_method_124_code (kpl kr_279 prog_13_method_124_code.size) (kr_279.drop 80) (kc_279.drop 80) = true := by decide +kernel
theorem kk_279 : ko_k "QuillDeskModel" (decide ("sealOf" = "<init>")) 9 prog_13_method_124_code (kpl kr_279 prog_13_method_124_code.size) kr_279 kc_279 = true := ko_k_0 (ko_k_cut 0 40 40 rfl kx_279_0 (ko_k_cut 40 40 80 rfl kx_279_40 kx_279_80))
theorem kp_280 : ko_p prog_13_method_125_code.size kr_280 0 = true := by decide +kernel
theorem kx_280_0 : ko_k "QuillDeskModel" (decide ("seal" = "<init>")) 4 prog_13_method_125_code (kpl kr_280 prog_13_method_125_code.size) ((kr_280.drop 0).take 40) ((kc_280.drop 0).take 40) = true := by decide +kernel
theorem kx_280_40 : ko_k "QuillDeskModel" (decide ("seal" = "<init>")) 4 prog_13_method_125_code (kpl kr_280 prog_13_method_125_code.size) (kr_280.drop 40) (kc_280.drop 40) = true := by decide +kernel
theorem kk_280 : ko_k "QuillDeskModel" (decide ("seal" = "<init>")) 4 prog_13_method_125_code (kpl kr_280 prog_13_method_125_code.size) kr_280 kc_280 = true := ko_k_0 (ko_k_cut 0 40 40 rfl kx_280_0 kx_280_40)
theorem kp_281 : ko_p prog_13_method_126_code.size kr_281 0 = true := by decide +kernel
theorem kx_281_0 : ko_k "QuillDeskModel" (decide ("boxOf" = "<init>")) 4 prog_13_method_126_code (kpl kr_281 prog_13_method_126_code.size) ((kr_281.drop 0).take 40) ((kc_281.drop 0).take 40) = true := by decide +kernel
theorem kx_281_40 : ko_k "QuillDeskModel" (decide ("boxOf" = "<init>")) 4 prog_13_method_126_code (kpl kr_281 prog_13_method_126_code.size) (kr_281.drop 40) (kc_281.drop 40) = true := by decide +kernel
theorem kk_281 : ko_k "QuillDeskModel" (decide ("boxOf" = "<init>")) 4 prog_13_method_126_code (kpl kr_281 prog_13_method_126_code.size) kr_281 kc_281 = true := ko_k_0 (ko_k_cut 0 40 40 rfl kx_281_0 kx_281_40)
theorem kp_282 : ko_p prog_13_method_127_code.size kr_282 0 = true := by decide +kernel
theorem kx_282_0 : ko_k "QuillDeskModel" (decide ("closedBy" = "<init>")) 5 prog_13_method_127_code (kpl kr_282 prog_13_method_127_code.size) (kr_282.drop 0) (kc_282.drop 0) = true := by decide +kernel
theorem kk_282 : ko_k "QuillDeskModel" (decide ("closedBy" = "<init>")) 5 prog_13_method_127_code (kpl kr_282 prog_13_method_127_code.size) kr_282 kc_282 = true := ko_k_0 kx_282_0
theorem kp_283 : ko_p prog_13_method_128_code.size kr_283 0 = true := by decide +kernel
theorem kx_283_0 : ko_k "QuillDeskModel" (decide ("moreWith" = "<init>")) 5 prog_13_method_128_code (kpl kr_283 prog_13_method_128_code.size) (kr_283.drop 0) (kc_283.drop 0) = true := by decide +kernel
theorem kk_283 : ko_k "QuillDeskModel" (decide ("moreWith" = "<init>")) 5 prog_13_method_128_code (kpl kr_283 prog_13_method_128_code.size) kr_283 kc_283 = true := ko_k_0 kx_283_0
theorem kp_284 : ko_p prog_13_method_129_code.size kr_284 0 = true := by decide +kernel
theorem kx_284_0 : ko_k "QuillDeskModel" (decide ("findsMore" = "<init>")) 4 prog_13_method_129_code (kpl kr_284 prog_13_method_129_code.size) (kr_284.drop 0) (kc_284.drop 0) = true := by decide +kernel
theorem kk_284 : ko_k "QuillDeskModel" (decide ("findsMore" = "<init>")) 4 prog_13_method_129_code (kpl kr_284 prog_13_method_129_code.size) kr_284 kc_284 = true := ko_k_0 kx_284_0
theorem kp_285 : ko_p prog_13_method_130_code.size kr_285 0 = true := by decide +kernel
theorem kx_285_0 : ko_k "QuillDeskModel" (decide ("game" = "<init>")) 4 prog_13_method_130_code (kpl kr_285 prog_13_method_130_code.size) ((kr_285.drop 0).take 40) ((kc_285.drop 0).take 40) = true := by decide +kernel
theorem kx_285_40 : ko_k "QuillDeskModel" (decide ("game" = "<init>")) 4 prog_13_method_130_code (kpl kr_285 prog_13_method_130_code.size) (kr_285.drop 40) (kc_285.drop 40) = true := by decide +kernel
theorem kk_285 : ko_k "QuillDeskModel" (decide ("game" = "<init>")) 4 prog_13_method_130_code (kpl kr_285 prog_13_method_130_code.size) kr_285 kc_285 = true := ko_k_0 (ko_k_cut 0 40 40 rfl kx_285_0 kx_285_40)
theorem kp_286 : ko_p prog_13_method_131_code.size kr_286 0 = true := by decide +kernel
theorem kx_286_0 : ko_k "QuillDeskModel" (decide ("keeps" = "<init>")) 2 prog_13_method_131_code (kpl kr_286 prog_13_method_131_code.size) (kr_286.drop 0) (kc_286.drop 0) = true := by decide +kernel
end
section
theorem kk_286 : ko_k "QuillDeskModel" (decide ("keeps" = "<init>")) 2 prog_13_method_131_code (kpl kr_286 prog_13_method_131_code.size) kr_286 kc_286 = true := ko_k_0 kx_286_0
theorem kp_287 : ko_p prog_13_method_132_code.size kr_287 0 = true := by decide +kernel
theorem kx_287_0 : ko_k "QuillDeskModel" (decide ("keepsLaw" = "<init>")) 2 prog_13_method_132_code (kpl kr_287 prog_13_method_132_code.size) ((kr_287.drop 0).take 40) ((kc_287.drop 0).take 40) = true := by decide +kernel
theorem kx_287_40 : ko_k "QuillDeskModel" (decide ("keepsLaw" = "<init>")) 2 prog_13_method_132_code (kpl kr_287 prog_13_method_132_code.size) ((kr_287.drop 40).take 40) ((kc_287.drop 40).take 40) = true := by decide +kernel
theorem kx_287_80 : ko_k "QuillDeskModel" (decide ("keepsLaw" = "<init>")) 2 prog_13_method_132_code (kpl kr_287 prog_13_method_132_code.size) (kr_287.drop 80) (kc_287.drop 80) = true := by decide +kernel
theorem kk_287 : ko_k "QuillDeskModel" (decide ("keepsLaw" = "<init>")) 2 prog_13_method_132_code (kpl kr_287 prog_13_method_132_code.size) kr_287 kc_287 = true := ko_k_0 (ko_k_cut 0 40 40 rfl kx_287_0 (ko_k_cut 40 40 80 rfl kx_287_40 kx_287_80))
theorem kp_288 : ko_p prog_13_method_133_code.size kr_288 0 = true := by decide +kernel
theorem kx_288_0 : ko_k "QuillDeskModel" (decide ("keepsMany" = "<init>")) 1 prog_13_method_133_code (kpl kr_288 prog_13_method_133_code.size) ((kr_288.drop 0).take 40) ((kc_288.drop 0).take 40) = true := by decide +kernel
theorem kx_288_40 : ko_k "QuillDeskModel" (decide ("keepsMany" = "<init>")) 1 prog_13_method_133_code (kpl kr_288 prog_13_method_133_code.size) ((kr_288.drop 40).take 40) ((kc_288.drop 40).take 40) = true := by decide +kernel
theorem kx_288_80 : ko_k "QuillDeskModel" (decide ("keepsMany" = "<init>")) 1 prog_13_method_133_code (kpl kr_288 prog_13_method_133_code.size) (kr_288.drop 80) (kc_288.drop 80) = true := by decide +kernel
theorem kk_288 : ko_k "QuillDeskModel" (decide ("keepsMany" = "<init>")) 1 prog_13_method_133_code (kpl kr_288 prog_13_method_133_code.size) kr_288 kc_288 = true := ko_k_0 (ko_k_cut 0 40 40 rfl kx_288_0 (ko_k_cut 40 40 80 rfl kx_288_40 kx_288_80))
theorem kp_289 : ko_p prog_13_method_134_code.size kr_289 0 = true := by decide +kernel
theorem kx_289_0 : ko_k "QuillDeskModel" (decide ("keepsTold" = "<init>")) 2 prog_13_method_134_code (kpl kr_289 prog_13_method_134_code.size) ((kr_289.drop 0).take 40) ((kc_289.drop 0).take 40) = true := by decide +kernel
theorem kx_289_40 : ko_k "QuillDeskModel" (decide ("keepsTold" = "<init>")) 2 prog_13_method_134_code (kpl kr_289 prog_13_method_134_code.size) ((kr_289.drop 40).take 40) ((kc_289.drop 40).take 40) = true := by decide +kernel
theorem kx_289_80 : ko_k "QuillDeskModel" (decide ("keepsTold" = "<init>")) 2 prog_13_method_134_code (kpl kr_289 prog_13_method_134_code.size) ((kr_289.drop 80).take 40) ((kc_289.drop 80).take 40) = true := by decide +kernel
theorem kx_289_120 : ko_k "QuillDeskModel" (decide ("keepsTold" = "<init>")) 2 prog_13_method_134_code (kpl kr_289 prog_13_method_134_code.size) ((kr_289.drop 120).take 40) ((kc_289.drop 120).take 40) = true := by decide +kernel
theorem kx_289_160 : ko_k "QuillDeskModel" (decide ("keepsTold" = "<init>")) 2 prog_13_method_134_code (kpl kr_289 prog_13_method_134_code.size) ((kr_289.drop 160).take 40) ((kc_289.drop 160).take 40) = true := by decide +kernel
theorem kx_289_200 : ko_k "QuillDeskModel" (decide ("keepsTold" = "<init>")) 2 prog_13_method_134_code (kpl kr_289 prog_13_method_134_code.size) (kr_289.drop 200) (kc_289.drop 200) = true := by decide +kernel
theorem kk_289 : ko_k "QuillDeskModel" (decide ("keepsTold" = "<init>")) 2 prog_13_method_134_code (kpl kr_289 prog_13_method_134_code.size) kr_289 kc_289 = true := ko_k_0 (ko_k_cut 0 40 40 rfl kx_289_0 (ko_k_cut 40 40 80 rfl kx_289_40 (ko_k_cut 80 40 120 rfl kx_289_80 (ko_k_cut 120 40 160 rfl kx_289_120 (ko_k_cut 160 40 200 rfl kx_289_160 kx_289_200)))))
theorem kp_290 : ko_p prog_13_method_135_code.size kr_290 0 = true := by decide +kernel
theorem kx_290_0 : ko_k "QuillDeskModel" (decide ("image" = "<init>")) 3 prog_13_method_135_code (kpl kr_290 prog_13_method_135_code.size) ((kr_290.drop 0).take 40) ((kc_290.drop 0).take 40) = true := by decide +kernel
theorem kx_290_40 : ko_k "QuillDeskModel" (decide ("image" = "<init>")) 3 prog_13_method_135_code (kpl kr_290 prog_13_method_135_code.size) (kr_290.drop 40) (kc_290.drop 40) = true := by decide +kernel
theorem kk_290 : ko_k "QuillDeskModel" (decide ("image" = "<init>")) 3 prog_13_method_135_code (kpl kr_290 prog_13_method_135_code.size) kr_290 kc_290 = true := ko_k_0 (ko_k_cut 0 40 40 rfl kx_290_0 kx_290_40)
theorem kp_291 : ko_p prog_13_method_136_code.size kr_291 0 = true := by decide +kernel
theorem kx_291_0 : ko_k "QuillDeskModel" (decide ("look" = "<init>")) 2 prog_13_method_136_code (kpl kr_291 prog_13_method_136_code.size) ((kr_291.drop 0).take 40) ((kc_291.drop 0).take 40) = true := by decide +kernel
theorem kx_291_40 : ko_k "QuillDeskModel" (decide ("look" = "<init>")) 2 prog_13_method_136_code (kpl kr_291 prog_13_method_136_code.size) ((kr_291.drop 40).take 40) ((kc_291.drop 40).take 40) = true := by decide +kernel
theorem kx_291_80 : ko_k "QuillDeskModel" (decide ("look" = "<init>")) 2 prog_13_method_136_code (kpl kr_291 prog_13_method_136_code.size) (kr_291.drop 80) (kc_291.drop 80) = true := by decide +kernel
theorem kk_291 : ko_k "QuillDeskModel" (decide ("look" = "<init>")) 2 prog_13_method_136_code (kpl kr_291 prog_13_method_136_code.size) kr_291 kc_291 = true := ko_k_0 (ko_k_cut 0 40 40 rfl kx_291_0 (ko_k_cut 40 40 80 rfl kx_291_40 kx_291_80))
theorem kp_292 : ko_p prog_14_method_49_code.size kr_292 0 = true := by decide +kernel
theorem kx_292_0 : ko_k "java/lang/Integer" (decide ("bitCount" = "<init>")) 1 prog_14_method_49_code (kpl kr_292 prog_14_method_49_code.size) ((kr_292.drop 0).take 40) ((kc_292.drop 0).take 40) = true := by decide +kernel
theorem kx_292_40 : ko_k "java/lang/Integer" (decide ("bitCount" = "<init>")) 1 prog_14_method_49_code (kpl kr_292 prog_14_method_49_code.size) (kr_292.drop 40) (kc_292.drop 40) = true := by decide +kernel
theorem kk_292 : ko_k "java/lang/Integer" (decide ("bitCount" = "<init>")) 1 prog_14_method_49_code (kpl kr_292 prog_14_method_49_code.size) kr_292 kc_292 = true := ko_k_0 (ko_k_cut 0 40 40 rfl kx_292_0 kx_292_40)
theorem kp_293 : ko_p prog_15_method_50_code.size kr_293 0 = true := by decide +kernel
theorem kx_293_0 : ko_k "java/lang/Math" (decide ("floorMod" = "<init>")) 3 prog_15_method_50_code (kpl kr_293 prog_15_method_50_code.size) (kr_293.drop 0) (kc_293.drop 0) = true := by decide +kernel
theorem kk_293 : ko_k "java/lang/Math" (decide ("floorMod" = "<init>")) 3 prog_15_method_50_code (kpl kr_293 prog_15_method_50_code.size) kr_293 kc_293 = true := ko_k_0 kx_293_0
theorem kp_294 : ko_p prog_15_method_59_code.size kr_294 0 = true := by decide +kernel
theorem kx_294_0 : ko_k "java/lang/Math" (decide ("abs" = "<init>")) 1 prog_15_method_59_code (kpl kr_294 prog_15_method_59_code.size) (kr_294.drop 0) (kc_294.drop 0) = true := by decide +kernel
theorem kk_294 : ko_k "java/lang/Math" (decide ("abs" = "<init>")) 1 prog_15_method_59_code (kpl kr_294 prog_15_method_59_code.size) kr_294 kc_294 = true := ko_k_0 kx_294_0
theorem kp_295 : ko_p prog_15_method_65_code.size kr_295 0 = true := by decide +kernel
theorem kx_295_0 : ko_k "java/lang/Math" (decide ("max" = "<init>")) 2 prog_15_method_65_code (kpl kr_295 prog_15_method_65_code.size) (kr_295.drop 0) (kc_295.drop 0) = true := by decide +kernel
theorem kk_295 : ko_k "java/lang/Math" (decide ("max" = "<init>")) 2 prog_15_method_65_code (kpl kr_295 prog_15_method_65_code.size) kr_295 kc_295 = true := ko_k_0 kx_295_0
theorem kp_296 : ko_p prog_15_method_69_code.size kr_296 0 = true := by decide +kernel
theorem kx_296_0 : ko_k "java/lang/Math" (decide ("min" = "<init>")) 2 prog_15_method_69_code (kpl kr_296 prog_15_method_69_code.size) (kr_296.drop 0) (kc_296.drop 0) = true := by decide +kernel
theorem kk_296 : ko_k "java/lang/Math" (decide ("min" = "<init>")) 2 prog_15_method_69_code (kpl kr_296 prog_15_method_69_code.size) kr_296 kc_296 = true := ko_k_0 kx_296_0
theorem kp_297 : ko_p prog_16_method_54_code.size kr_297 0 = true := by decide +kernel
theorem kx_297_0 : ko_k "java/lang/String" (decide ("length" = "<init>")) 1 prog_16_method_54_code (kpl kr_297 prog_16_method_54_code.size) (kr_297.drop 0) (kc_297.drop 0) = true := by decide +kernel
theorem kk_297 : ko_k "java/lang/String" (decide ("length" = "<init>")) 1 prog_16_method_54_code (kpl kr_297 prog_16_method_54_code.size) kr_297 kc_297 = true := ko_k_0 kx_297_0
theorem kp_298 : ko_p prog_16_method_56_code.size kr_298 0 = true := by decide +kernel
theorem kx_298_0 : ko_k "java/lang/String" (decide ("charAt" = "<init>")) 2 prog_16_method_56_code (kpl kr_298 prog_16_method_56_code.size) (kr_298.drop 0) (kc_298.drop 0) = true := by decide +kernel
theorem kk_298 : ko_k "java/lang/String" (decide ("charAt" = "<init>")) 2 prog_16_method_56_code (kpl kr_298 prog_16_method_56_code.size) kr_298 kc_298 = true := ko_k_0 kx_298_0
theorem kp_299 : ko_p prog_16_method_152_code.size kr_299 0 = true := by decide +kernel
theorem kx_299_0 : ko_k "java/lang/String" (decide ("coder" = "<init>")) 1 prog_16_method_152_code (kpl kr_299 prog_16_method_152_code.size) (kr_299.drop 0) (kc_299.drop 0) = true := by decide +kernel
theorem kk_299 : ko_k "java/lang/String" (decide ("coder" = "<init>")) 1 prog_16_method_152_code (kpl kr_299 prog_16_method_152_code.size) kr_299 kc_299 = true := ko_k_0 kx_299_0
theorem kp_300 : ko_p prog_16_method_154_code.size kr_300 0 = true := by decide +kernel
theorem kx_300_0 : ko_k "java/lang/String" (decide ("isLatin1" = "<init>")) 1 prog_16_method_154_code (kpl kr_300 prog_16_method_154_code.size) (kr_300.drop 0) (kc_300.drop 0) = true := by decide +kernel
theorem kk_300 : ko_k "java/lang/String" (decide ("isLatin1" = "<init>")) 1 prog_16_method_154_code (kpl kr_300 prog_16_method_154_code.size) kr_300 kc_300 = true := ko_k_0 kx_300_0
theorem kp_301 : ko_p prog_16_method_155_code.size kr_301 0 = true := by decide +kernel
theorem kx_301_0 : ko_k "java/lang/String" (decide ("checkIndex" = "<init>")) 2 prog_16_method_155_code (kpl kr_301 prog_16_method_155_code.size) (kr_301.drop 0) (kc_301.drop 0) = true := by decide +kernel
theorem kk_301 : ko_k "java/lang/String" (decide ("checkIndex" = "<init>")) 2 prog_16_method_155_code (kpl kr_301 prog_16_method_155_code.size) kr_301 kc_301 = true := ko_k_0 kx_301_0
theorem kp_302 : ko_p prog_17_method_2_code.size kr_302 0 = true := by decide +kernel
theorem kx_302_0 : ko_k "java/lang/StringLatin1" (decide ("charAt" = "<init>")) 2 prog_17_method_2_code (kpl kr_302 prog_17_method_2_code.size) (kr_302.drop 0) (kc_302.drop 0) = true := by decide +kernel
theorem kk_302 : ko_k "java/lang/StringLatin1" (decide ("charAt" = "<init>")) 2 prog_17_method_2_code (kpl kr_302 prog_17_method_2_code.size) kr_302 kc_302 = true := ko_k_0 kx_302_0
theorem kp_303 : ko_p prog_20_method_11_code.size kr_303 0 = true := by decide +kernel
theorem kx_303_0 : ko_k "jdk/internal/util/Preconditions" (decide ("checkIndex" = "<init>")) 3 prog_20_method_11_code (kpl kr_303 prog_20_method_11_code.size) (kr_303.drop 0) (kc_303.drop 0) = true := by decide +kernel
theorem kk_303 : ko_k "jdk/internal/util/Preconditions" (decide ("checkIndex" = "<init>")) 3 prog_20_method_11_code (kpl kr_303 prog_20_method_11_code.size) kr_303 kc_303 = true := ko_k_0 kx_303_0
theorem kp_304 : ko_p code.size kr_304 0 = true := by decide +kernel
theorem kx_304_0 : ko_k "QuillDeskLaw" (decide ("law" = "<init>")) 4 code (kpl kr_304 code.size) ((kr_304.drop 0).take 40) ((kc_304.drop 0).take 40) = true := by decide +kernel
theorem kx_304_40 : ko_k "QuillDeskLaw" (decide ("law" = "<init>")) 4 code (kpl kr_304 code.size) ((kr_304.drop 40).take 40) ((kc_304.drop 40).take 40) = true := by decide +kernel
theorem kx_304_80 : ko_k "QuillDeskLaw" (decide ("law" = "<init>")) 4 code (kpl kr_304 code.size) ((kr_304.drop 80).take 40) ((kc_304.drop 80).take 40) = true := by decide +kernel
theorem kx_304_120 : ko_k "QuillDeskLaw" (decide ("law" = "<init>")) 4 code (kpl kr_304 code.size) ((kr_304.drop 120).take 40) ((kc_304.drop 120).take 40) = true := by decide +kernel
theorem kx_304_160 : ko_k "QuillDeskLaw" (decide ("law" = "<init>")) 4 code (kpl kr_304 code.size) ((kr_304.drop 160).take 40) ((kc_304.drop 160).take 40) = true := by decide +kernel
theorem kx_304_200 : ko_k "QuillDeskLaw" (decide ("law" = "<init>")) 4 code (kpl kr_304 code.size) ((kr_304.drop 200).take 40) ((kc_304.drop 200).take 40) = true := by decide +kernel
theorem kx_304_240 : ko_k "QuillDeskLaw" (decide ("law" = "<init>")) 4 code (kpl kr_304 code.size) ((kr_304.drop 240).take 40) ((kc_304.drop 240).take 40) = true := by decide +kernel
theorem kx_304_280 : ko_k "QuillDeskLaw" (decide ("law" = "<init>")) 4 code (kpl kr_304 code.size) ((kr_304.drop 280).take 40) ((kc_304.drop 280).take 40) = true := by decide +kernel
theorem kx_304_320 : ko_k "QuillDeskLaw" (decide ("law" = "<init>")) 4 code (kpl kr_304 code.size) ((kr_304.drop 320).take 40) ((kc_304.drop 320).take 40) = true := by decide +kernel
theorem kx_304_360 : ko_k "QuillDeskLaw" (decide ("law" = "<init>")) 4 code (kpl kr_304 code.size) ((kr_304.drop 360).take 40) ((kc_304.drop 360).take 40) = true := by decide +kernel
theorem kx_304_400 : ko_k "QuillDeskLaw" (decide ("law" = "<init>")) 4 code (kpl kr_304 code.size) ((kr_304.drop 400).take 40) ((kc_304.drop 400).take 40) = true := by decide +kernel
theorem kx_304_440 : ko_k "QuillDeskLaw" (decide ("law" = "<init>")) 4 code (kpl kr_304 code.size) ((kr_304.drop 440).take 40) ((kc_304.drop 440).take 40) = true := by decide +kernel
theorem kx_304_480 : ko_k "QuillDeskLaw" (decide ("law" = "<init>")) 4 code (kpl kr_304 code.size) ((kr_304.drop 480).take 40) ((kc_304.drop 480).take 40) = true := by decide +kernel
theorem kx_304_520 : ko_k "QuillDeskLaw" (decide ("law" = "<init>")) 4 code (kpl kr_304 code.size) ((kr_304.drop 520).take 40) ((kc_304.drop 520).take 40) = true := by decide +kernel
theorem kx_304_560 : ko_k "QuillDeskLaw" (decide ("law" = "<init>")) 4 code (kpl kr_304 code.size) ((kr_304.drop 560).take 40) ((kc_304.drop 560).take 40) = true := by decide +kernel
theorem kx_304_600 : ko_k "QuillDeskLaw" (decide ("law" = "<init>")) 4 code (kpl kr_304 code.size) ((kr_304.drop 600).take 40) ((kc_304.drop 600).take 40) = true := by decide +kernel
theorem kx_304_640 : ko_k "QuillDeskLaw" (decide ("law" = "<init>")) 4 code (kpl kr_304 code.size) ((kr_304.drop 640).take 40) ((kc_304.drop 640).take 40) = true := by decide +kernel
theorem kx_304_680 : ko_k "QuillDeskLaw" (decide ("law" = "<init>")) 4 code (kpl kr_304 code.size) ((kr_304.drop 680).take 40) ((kc_304.drop 680).take 40) = true := by decide +kernel
theorem kx_304_720 : ko_k "QuillDeskLaw" (decide ("law" = "<init>")) 4 code (kpl kr_304 code.size) ((kr_304.drop 720).take 40) ((kc_304.drop 720).take 40) = true := by decide +kernel
theorem kx_304_760 : ko_k "QuillDeskLaw" (decide ("law" = "<init>")) 4 code (kpl kr_304 code.size) ((kr_304.drop 760).take 40) ((kc_304.drop 760).take 40) = true := by decide +kernel
theorem kx_304_800 : ko_k "QuillDeskLaw" (decide ("law" = "<init>")) 4 code (kpl kr_304 code.size) ((kr_304.drop 800).take 40) ((kc_304.drop 800).take 40) = true := by decide +kernel
theorem kx_304_840 : ko_k "QuillDeskLaw" (decide ("law" = "<init>")) 4 code (kpl kr_304 code.size) ((kr_304.drop 840).take 40) ((kc_304.drop 840).take 40) = true := by decide +kernel
theorem kx_304_880 : ko_k "QuillDeskLaw" (decide ("law" = "<init>")) 4 code (kpl kr_304 code.size) ((kr_304.drop 880).take 40) ((kc_304.drop 880).take 40) = true := by decide +kernel
theorem kx_304_920 : ko_k "QuillDeskLaw" (decide ("law" = "<init>")) 4 code (kpl kr_304 code.size) ((kr_304.drop 920).take 40) ((kc_304.drop 920).take 40) = true := by decide +kernel
theorem kx_304_960 : ko_k "QuillDeskLaw" (decide ("law" = "<init>")) 4 code (kpl kr_304 code.size) ((kr_304.drop 960).take 40) ((kc_304.drop 960).take 40) = true := by decide +kernel
theorem kx_304_1000 : ko_k "QuillDeskLaw" (decide ("law" = "<init>")) 4 code (kpl kr_304 code.size) ((kr_304.drop 1000).take 40) ((kc_304.drop 1000).take 40) = true := by decide +kernel
theorem kx_304_1040 : ko_k "QuillDeskLaw" (decide ("law" = "<init>")) 4 code (kpl kr_304 code.size) ((kr_304.drop 1040).take 40) ((kc_304.drop 1040).take 40) = true := by decide +kernel
theorem kx_304_1080 : ko_k "QuillDeskLaw" (decide ("law" = "<init>")) 4 code (kpl kr_304 code.size) (kr_304.drop 1080) (kc_304.drop 1080) = true := by decide +kernel
theorem kk_304 : ko_k "QuillDeskLaw" (decide ("law" = "<init>")) 4 code (kpl kr_304 code.size) kr_304 kc_304 = true := ko_k_0 (ko_k_cut 0 40 40 rfl kx_304_0 (ko_k_cut 40 40 80 rfl kx_304_40 (ko_k_cut 80 40 120 rfl kx_304_80 (ko_k_cut 120 40 160 rfl kx_304_120 (ko_k_cut 160 40 200 rfl kx_304_160 (ko_k_cut 200 40 240 rfl kx_304_200 (ko_k_cut 240 40 280 rfl kx_304_240 (ko_k_cut 280 40 320 rfl kx_304_280 (ko_k_cut 320 40 360 rfl kx_304_320 (ko_k_cut 360 40 400 rfl kx_304_360 (ko_k_cut 400 40 440 rfl kx_304_400 (ko_k_cut 440 40 480 rfl kx_304_440 (ko_k_cut 480 40 520 rfl kx_304_480 (ko_k_cut 520 40 560 rfl kx_304_520 (ko_k_cut 560 40 600 rfl kx_304_560 (ko_k_cut 600 40 640 rfl kx_304_600 (ko_k_cut 640 40 680 rfl kx_304_640 (ko_k_cut 680 40 720 rfl kx_304_680 (ko_k_cut 720 40 760 rfl kx_304_720 (ko_k_cut 760 40 800 rfl kx_304_760 (ko_k_cut 800 40 840 rfl kx_304_800 (ko_k_cut 840 40 880 rfl kx_304_840 (ko_k_cut 880 40 920 rfl kx_304_880 (ko_k_cut 920 40 960 rfl kx_304_920 (ko_k_cut 960 40 1000 rfl kx_304_960 (ko_k_cut 1000 40 1040 rfl kx_304_1000 (ko_k_cut 1040 40 1080 rfl kx_304_1040 kx_304_1080)))))))))))))))))))))))))))
end
section
def kkQ (q : kQ) : Prop := ko_p q.2.1.size q.2.2.2.2.1 0 = true ∧ ko_k q.1.cls (decide (q.1.name = "<init>")) q.2.2.1 q.2.1 (kpl q.2.2.2.2.1 q.2.1.size) q.2.2.2.2.1 q.2.2.2.2.2.1 = true
def kk_fd : List String := ["(D)D", "(DD)D", "(DDD)D", "(F)F", "(FF)F", "(FFF)F"]
/-- no entry of the machine's own runs in its place -/
def kk_pl (N : MethodName) : Bool := plainName N.cls || (decide (N.cls = "java/lang/Math") && !(kk_fd.contains N.desc))
theorem kk_rows : (Jvm.natives.all fun r => decide (r.cls = "java/lang/Math") == false || kk_fd.contains r.desc) = true := by decide +kernel
theorem kk_plain {N : MethodName} (h : kk_pl N = true) : plainFor N = true := by
  unfold kk_pl at h
  rw [Bool.or_eq_true] at h
  rcases h with h | h
  · exact plainFor_of_name h
  · simp only [Bool.and_eq_true, decide_eq_true_eq, Bool.not_eq_true'] at h
    unfold plainFor
    rw [Bool.or_eq_true]
    refine Or.inr ?_
    rw [Option.isNone_iff_eq_none, NativeRow.find?, List.find?_eq_none]
    intro r hr e
    have q := List.all_eq_true.mp kk_rows r hr
    simp only [Bool.and_eq_true, beq_iff_eq] at e
    simp [e.1.1, e.1.2, e.2, h.1] at q
    exact (by simpa using h.2 : ¬ N.desc ∈ kk_fd) q
def kkM2 (q : kQ) : Bool := match q with
  | (N, B, ml, rt, R, _, K, c, i, t, v) => if K = 3 then true else
  kk_pl N && decide (N.cls ≠ "java/lang/invoke/MethodHandle") && decide (N.cls ≠ "java/lang/invoke/VarHandle") &&
  decide (c = c) && wd i (Cond.initialized N.cls) &&
  (match K with
   | 0 => wd t (Cond.static N)
   | 1 => wd t (Cond.instanceMethod N) && (if v < 100000 then wd v (Cond.selects N.cls N N) else decide ((lw_privs[v - 100000]?).map (fun q => q.1) = some N))
   | 2 => wd t (Cond.instanceMethod N) && decide (N.name = "<init>") && decide (rt = none)
   | _ => false) && decide (ml ≤ 40) && decide (kpl R B.size 0 = 0)

theorem wc_in {w : Cond} (h : w ∈ tables_1) (hg : goodWord w = true) : w ∈ kg_T := List.mem_filter.mpr ⟨List.mem_append_right _ h, hg⟩
theorem wc_1 {w : Cond} {i : Nat} (h : tables_1_1[i]? = some w) (hg : goodWord w = true) : w ∈ kg_T := wc_in (List.mem_append_left _ (List.mem_of_getElem? h)) hg
theorem wc_2 {w : Cond} {i : Nat} (h : tables_1_2[i]? = some w) (hg : goodWord w = true) : w ∈ kg_T := wc_in (List.mem_append_right _ (List.mem_append_left _ (List.mem_of_getElem? h))) hg
theorem wc_3 {w : Cond} {i : Nat} (h : tables_1_3[i]? = some w) (hg : goodWord w = true) : w ∈ kg_T := wc_in (List.mem_append_right _ (List.mem_append_right _ (List.mem_append_left _ (List.mem_of_getElem? h)))) hg
theorem wc_4 {w : Cond} {i : Nat} (h : tables_1_4[i]? = some w) (hg : goodWord w = true) : w ∈ kg_T := wc_in (List.mem_append_right _ (List.mem_append_right _ (List.mem_append_right _ (List.mem_append_left _ (List.mem_of_getElem? h))))) hg
theorem wc_5 {w : Cond} {i : Nat} (h : tables_1_5[i]? = some w) (hg : goodWord w = true) : w ∈ kg_T := wc_in (List.mem_append_right _ (List.mem_append_right _ (List.mem_append_right _ (List.mem_append_right _ (List.mem_append_left _ (List.mem_of_getElem? h)))))) hg
theorem wc_6 {w : Cond} {i : Nat} (h : tables_1_6[i]? = some w) (hg : goodWord w = true) : w ∈ kg_T := wc_in (List.mem_append_right _ (List.mem_append_right _ (List.mem_append_right _ (List.mem_append_right _ (List.mem_append_right _ (List.mem_append_left _ (List.mem_of_getElem? h))))))) hg
theorem wc_7 {w : Cond} {i : Nat} (h : tables_1_7[i]? = some w) (hg : goodWord w = true) : w ∈ kg_T := wc_in (List.mem_append_right _ (List.mem_append_right _ (List.mem_append_right _ (List.mem_append_right _ (List.mem_append_right _ (List.mem_append_right _ (List.mem_append_left _ (List.mem_of_getElem? h)))))))) hg
theorem wc_8 {w : Cond} {i : Nat} (h : tables_1_8[i]? = some w) (hg : goodWord w = true) : w ∈ kg_T := wc_in (List.mem_append_right _ (List.mem_append_right _ (List.mem_append_right _ (List.mem_append_right _ (List.mem_append_right _ (List.mem_append_right _ (List.mem_append_right _ (List.mem_of_getElem? h)))))))) hg
theorem kd_0 : Cond.code ⟨"QuillDesk$Book", "<init>", "()V"⟩ prog_2_method_1_code 1 (none) ∈ kg_T := wc_1 (i := 135) rfl rfl
theorem kd_1 : Cond.code ⟨"QuillDesk$Book", "add", "(IIII)V"⟩ prog_2_method_2_code 5 (none) ∈ kg_T := wc_3 (i := 123) rfl rfl
theorem kd_2 : Cond.code ⟨"QuillDesk$Book", "copyFrom", "(LQuillDesk$Book;)V"⟩ prog_2_method_3_code 2 (none) ∈ kg_T := wc_5 (i := 144) rfl rfl
theorem kd_3 : Cond.code ⟨"QuillDesk$Boxes", "<init>", "()V"⟩ prog_3_method_1_code 1 (none) ∈ kg_T := wc_2 (i := 167) rfl rfl
theorem kd_4 : Cond.code ⟨"QuillDesk$Boxes", "worth", "(I)I"⟩ prog_3_method_2_code 5 (some .int) ∈ kg_T := wc_5 (i := 107) rfl rfl
theorem kd_5 : Cond.code ⟨"QuillDesk$Boxes", "bestLine", "(I)I"⟩ prog_3_method_3_code 4 (some .int) ∈ kg_T := wc_5 (i := 122) rfl rfl
theorem kd_6 : Cond.code ⟨"QuillDesk$Boxes", "worthOfDrawing", "(II)I"⟩ prog_3_method_4_code 5 (some .int) ∈ kg_T := wc_5 (i := 112) rfl rfl
theorem kd_7 : Cond.code ⟨"QuillDesk$Boxes", "countClosed", "(I)I"⟩ prog_3_method_5_code 3 (some .int) ∈ kg_T := wc_5 (i := 115) rfl rfl
theorem kd_8 : Cond.code ⟨"QuillDesk$Desk", "<init>", "()V"⟩ prog_4_method_1_code 1 (none) ∈ kg_T := wc_1 (i := 32) rfl rfl
theorem kd_9 : Cond.code ⟨"QuillDesk$Desk", "copyFrom", "(LQuillDesk$Desk;)V"⟩ prog_4_method_2_code 2 (none) ∈ kg_T := wc_5 (i := 139) rfl rfl
theorem kd_10 : Cond.code ⟨"QuillDesk$Desk", "wildness", "(I)I"⟩ prog_4_method_3_code 3 (some .int) ∈ kg_T := wc_3 (i := 77) rfl rfl
theorem kd_11 : Cond.code ⟨"QuillDesk$Desk", "fineness", "(I)I"⟩ prog_4_method_4_code 3 (some .int) ∈ kg_T := wc_3 (i := 81) rfl rfl
theorem kd_12 : Cond.code ⟨"QuillDesk$Desk", "deedsBefore", "(I)I"⟩ prog_4_method_5_code 4 (some .int) ∈ kg_T := wc_3 (i := 57) rfl rfl
theorem kd_13 : Cond.code ⟨"QuillDesk$Desk", "canBeWritten", "(LQuillDesk$Firm;I)Z"⟩ prog_4_method_6_code 3 (some .boolean) ∈ kg_T := wc_3 (i := 49) rfl rfl
theorem kd_14 : Cond.code ⟨"QuillDesk$Desk", "ask", "(LQuillDesk$Firm;II)I"⟩ prog_4_method_7_code 5 (some .int) ∈ kg_T := wc_3 (i := 65) rfl rfl
theorem kd_15 : Cond.code ⟨"QuillDesk$Desk", "learn", "(LQuillDesk$Firm;I)V"⟩ prog_4_method_8_code 5 (none) ∈ kg_T := wc_3 (i := 69) rfl rfl
theorem kd_16 : Cond.code ⟨"QuillDesk$Desk", "passHour", "(LQuillDesk$Firm;Z)I"⟩ prog_4_method_9_code 5 (some .int) ∈ kg_T := wc_3 (i := 36) rfl rfl
theorem kd_17 : Cond.code ⟨"QuillDesk$Desk", "takeTurn", "(LQuillDesk$Firm;IZ)I"⟩ prog_4_method_10_code 7 (some .int) ∈ kg_T := wc_3 (i := 42) rfl rfl
theorem kd_18 : Cond.code ⟨"QuillDesk$Desk", "note", "(LQuillDesk$Firm;IIIZ)V"⟩ prog_4_method_11_code 6 (none) ∈ kg_T := wc_3 (i := 119) rfl rfl
theorem kd_19 : Cond.code ⟨"QuillDesk$Desk", "soonest", "(I[II)I"⟩ prog_4_method_12_code 10 (some .int) ∈ kg_T := wc_4 (i := 138) rfl rfl
theorem kd_20 : Cond.code ⟨"QuillDesk$Firm", "<init>", "()V"⟩ prog_5_method_1_code 1 (none) ∈ kg_T := wc_1 (i := 38) rfl rfl
theorem kd_21 : Cond.code ⟨"QuillDesk$Firm", "copyFrom", "(LQuillDesk$Firm;)V"⟩ prog_5_method_2_code 2 (none) ∈ kg_T := wc_3 (i := 21) rfl rfl
theorem kd_22 : Cond.code ⟨"QuillDesk$Firm", "hasQuill", "(I)Z"⟩ prog_5_method_3_code 2 (some .boolean) ∈ kg_T := wc_2 (i := 231) rfl rfl
theorem kd_23 : Cond.code ⟨"QuillDesk$Firm", "hasClerk", "(I)Z"⟩ prog_5_method_4_code 2 (some .boolean) ∈ kg_T := wc_2 (i := 235) rfl rfl
theorem kd_24 : Cond.code ⟨"QuillDesk$Firm", "hasDeed", "(I)Z"⟩ prog_5_method_5_code 2 (some .boolean) ∈ kg_T := wc_3 (i := 13) rfl rfl
theorem kd_25 : Cond.code ⟨"QuillDesk$Firm", "isDone", "(I)Z"⟩ prog_5_method_6_code 2 (some .boolean) ∈ kg_T := wc_3 (i := 53) rfl rfl
theorem kd_26 : Cond.code ⟨"QuillDesk$Firm", "linesLeft", "(I)I"⟩ prog_5_method_7_code 2 (some .int) ∈ kg_T := wc_3 (i := 85) rfl rfl
theorem kd_27 : Cond.code ⟨"QuillDesk$Firm", "holder", "(I)I"⟩ prog_5_method_8_code 3 (some .int) ∈ kg_T := wc_3 (i := 9) rfl rfl
theorem kd_28 : Cond.code ⟨"QuillDesk$Firm", "doneSet", "()I"⟩ prog_5_method_9_code 3 (some .int) ∈ kg_T := wc_3 (i := 61) rfl rfl
theorem kd_29 : Cond.code ⟨"QuillDesk$Firm", "clerksAt", "(I)I"⟩ prog_5_method_10_code 4 (some .int) ∈ kg_T := wc_4 (i := 101) rfl rfl
theorem kd_30 : Cond.code ⟨"QuillDesk$Firm", "allWritten", "()I"⟩ prog_5_method_11_code 3 (some .int) ∈ kg_T := wc_4 (i := 114) rfl rfl
theorem kd_31 : Cond.code ⟨"QuillDesk$Firm", "allBlots", "()I"⟩ prog_5_method_12_code 3 (some .int) ∈ kg_T := wc_4 (i := 118) rfl rfl
theorem kd_32 : Cond.code ⟨"QuillDesk$Firm", "canAct", "(III)Z"⟩ prog_5_method_13_code 5 (some .boolean) ∈ kg_T := wc_3 (i := 3) rfl rfl
theorem kd_33 : Cond.code ⟨"QuillDesk$Firm", "doAct", "(III)V"⟩ prog_5_method_14_code 5 (none) ∈ kg_T := wc_3 (i := 28) rfl rfl
theorem kd_34 : Cond.code ⟨"QuillDesk$Firm", "draw", "(I)I"⟩ prog_5_method_15_code 2 (some .int) ∈ kg_T := wc_3 (i := 113) rfl rfl
theorem kd_35 : Cond.code ⟨"QuillDesk$Firm", "falls", "(IZ)Z"⟩ prog_5_method_16_code 3 (some .boolean) ∈ kg_T := wc_3 (i := 109) rfl rfl
theorem kd_36 : Cond.code ⟨"QuillDesk$Firm", "wear", "(I)V"⟩ prog_5_method_17_code 2 (none) ∈ kg_T := wc_3 (i := 127) rfl rfl
theorem kd_37 : Cond.code ⟨"QuillDesk$Firm", "finish", "(II)V"⟩ prog_5_method_18_code 4 (none) ∈ kg_T := wc_3 (i := 131) rfl rfl
theorem kd_38 : Cond.code ⟨"QuillDesk$Law", "<init>", "()V"⟩ prog_6_method_1_code 1 (none) ∈ kg_T := wc_1 (i := 163) rfl rfl
theorem kd_39 : Cond.code ⟨"QuillDesk$Law", "copyFrom", "(LQuillDesk$Law;)V"⟩ prog_6_method_2_code 2 (none) ∈ kg_T := wc_4 (i := 66) rfl rfl
theorem kd_40 : Cond.code ⟨"QuillDesk$Law", "clear", "()V"⟩ prog_6_method_3_code 1 (none) ∈ kg_T := wc_3 (i := 235) rfl rfl
theorem kd_41 : Cond.code ⟨"QuillDesk$Law", "put", "(I)V"⟩ prog_6_method_4_code 2 (none) ∈ kg_T := wc_4 (i := 23) rfl rfl
theorem kd_42 : Cond.code ⟨"QuillDesk$Law", "fact", "(I)I"⟩ prog_6_method_5_code 3 (some .int) ∈ kg_T := wc_3 (i := 103) rfl rfl
theorem kd_43 : Cond.code ⟨"QuillDesk$Law", "know", "(II)V"⟩ prog_6_method_6_code 4 (none) ∈ kg_T := wc_3 (i := 73) rfl rfl
theorem kd_44 : Cond.code ⟨"QuillDesk$Law", "tell", "(I)I"⟩ prog_6_method_7_code 5 (some .int) ∈ kg_T := wc_3 (i := 89) rfl rfl
theorem kd_45 : Cond.code ⟨"QuillDesk$Law", "work", "(II)I"⟩ prog_6_method_8_code 6 (some .int) ∈ kg_T := wc_3 (i := 93) rfl rfl
theorem kd_46 : Cond.code ⟨"QuillDesk$Law", "join", "(III)I"⟩ prog_6_method_9_code 3 (some .int) ∈ kg_T := wc_3 (i := 99) rfl rfl
theorem kd_47 : Cond.code ⟨"QuillDesk$Past", "<init>", "()V"⟩ prog_7_method_1_code 2 (none) ∈ kg_T := wc_2 (i := 67) rfl rfl
theorem kd_48 : Cond.code ⟨"QuillDesk$Past", "keep", "(LQuillDesk$Firm;I)V"⟩ prog_7_method_2_code 4 (none) ∈ kg_T := wc_3 (i := 17) rfl rfl
theorem kd_49 : Cond.code ⟨"QuillDesk$Past", "goBack", "(LQuillDesk$Firm;LQuillDesk$Book;)Z"⟩ prog_7_method_3_code 4 (some .boolean) ∈ kg_T := wc_5 (i := 131) rfl rfl
theorem kd_50 : Cond.code ⟨"QuillDesk$Past", "forget", "()V"⟩ prog_7_method_4_code 1 (none) ∈ kg_T := wc_2 (i := 208) rfl rfl
theorem kd_51 : Cond.code ⟨"QuillDesk$Reader", "<init>", "()V"⟩ prog_8_method_1_code 1 (none) ∈ kg_T := wc_2 (i := 92) rfl rfl
theorem kd_52 : Cond.code ⟨"QuillDesk$Reader", "append", "(I)V"⟩ prog_8_method_2_code 3 (none) ∈ kg_T := wc_3 (i := 139) rfl rfl
theorem kd_53 : Cond.code ⟨"QuillDesk$Reader", "understand", "(ILQuillDesk$Firm;)Z"⟩ prog_8_method_3_code 4 (some .boolean) ∈ kg_T := wc_3 (i := 151) rfl rfl
theorem kd_54 : Cond.code ⟨"QuillDesk$Reader", "beginsLine", "(I)Z"⟩ prog_8_method_4_code 3 (some .boolean) ∈ kg_T := wc_4 (i := 3) rfl rfl
theorem kd_55 : Cond.code ⟨"QuillDesk$Reader", "cutTokens", "()V"⟩ prog_8_method_5_code 2 (none) ∈ kg_T := wc_3 (i := 156) rfl rfl
theorem kd_56 : Cond.code ⟨"QuillDesk$Reader", "goesOn", "(I)Z"⟩ prog_8_method_6_code 2 (some .boolean) ∈ kg_T := wc_3 (i := 160) rfl rfl
theorem kd_57 : Cond.code ⟨"QuillDesk$Reader", "kindAt", "(I)I"⟩ prog_8_method_7_code 2 (some .int) ∈ kg_T := wc_3 (i := 170) rfl rfl
theorem kd_58 : Cond.code ⟨"QuillDesk$Reader", "numberAt", "(I)I"⟩ prog_8_method_8_code 4 (some .int) ∈ kg_T := wc_3 (i := 231) rfl rfl
theorem kd_59 : Cond.code ⟨"QuillDesk$Reader", "wordAt", "(I)I"⟩ prog_8_method_9_code 6 (some .int) ∈ kg_T := wc_3 (i := 174) rfl rfl
theorem kd_60 : Cond.code ⟨"QuillDesk$Reader", "isSame", "(III)Z"⟩ prog_8_method_10_code 5 (some .boolean) ∈ kg_T := wc_3 (i := 227) rfl rfl
theorem kd_61 : Cond.code ⟨"QuillDesk$Reader", "isLetter", "(I)Z"⟩ prog_8_method_11_code 1 (some .boolean) ∈ kg_T := wc_3 (i := 163) rfl rfl
theorem kd_62 : Cond.code ⟨"QuillDesk$Reader", "isDigit", "(I)Z"⟩ prog_8_method_12_code 1 (some .boolean) ∈ kg_T := wc_3 (i := 166) rfl rfl
theorem kd_63 : Cond.code ⟨"QuillDesk$Reader", "token", "()I"⟩ prog_8_method_13_code 1 (some .int) ∈ kg_T := wc_3 (i := 239) rfl rfl
theorem kd_64 : Cond.code ⟨"QuillDesk$Reader", "refuse", "(I)Z"⟩ prog_8_method_14_code 2 (some .boolean) ∈ kg_T := wc_4 (i := 7) rfl rfl
theorem kd_65 : Cond.code ⟨"QuillDesk$Reader", "expect", "(I)Z"⟩ prog_8_method_15_code 2 (some .boolean) ∈ kg_T := wc_4 (i := 39) rfl rfl
theorem kd_66 : Cond.code ⟨"QuillDesk$Reader", "expectNumber", "(I)Z"⟩ prog_8_method_16_code 3 (some .boolean) ∈ kg_T := wc_4 (i := 51) rfl rfl
theorem kd_67 : Cond.code ⟨"QuillDesk$Reader", "orderLine", "(LQuillDesk$Firm;)Z"⟩ prog_8_method_17_code 6 (some .boolean) ∈ kg_T := wc_4 (i := 47) rfl rfl
theorem kd_68 : Cond.code ⟨"QuillDesk$Reader", "actOf", "(I)I"⟩ prog_8_method_18_code 1 (some .int) ∈ kg_T := wc_4 (i := 54) rfl rfl
theorem kd_69 : Cond.code ⟨"QuillDesk$Reader", "birdLine", "()Z"⟩ prog_8_method_19_code 3 (some .boolean) ∈ kg_T := wc_4 (i := 58) rfl rfl
theorem kd_70 : Cond.code ⟨"QuillDesk$Reader", "afterLine", "(LQuillDesk$Firm;)Z"⟩ prog_8_method_20_code 3 (some .boolean) ∈ kg_T := wc_4 (i := 62) rfl rfl
theorem kd_71 : Cond.code ⟨"QuillDesk$Reader", "lawLine", "()Z"⟩ prog_8_method_21_code 4 (some .boolean) ∈ kg_T := wc_4 (i := 11) rfl rfl
theorem kd_72 : Cond.code ⟨"QuillDesk$Reader", "sumUp", "()Z"⟩ prog_8_method_22_code 4 (some .boolean) ∈ kg_T := wc_4 (i := 15) rfl rfl
theorem kd_73 : Cond.code ⟨"QuillDesk$Reader", "unit", "()Z"⟩ prog_8_method_23_code 2 (some .boolean) ∈ kg_T := wc_4 (i := 19) rfl rfl
theorem kd_74 : Cond.code ⟨"QuillDesk$Reader", "part", "()Z"⟩ prog_8_method_24_code 2 (some .boolean) ∈ kg_T := wc_4 (i := 27) rfl rfl
theorem kd_75 : Cond.code ⟨"QuillDesk$Reader", "condition", "(I)Z"⟩ prog_8_method_25_code 5 (some .boolean) ∈ kg_T := wc_4 (i := 31) rfl rfl
theorem kd_76 : Cond.code ⟨"QuillDesk$Reader", "single", "(I)Z"⟩ prog_8_method_26_code 4 (some .boolean) ∈ kg_T := wc_4 (i := 35) rfl rfl
theorem kd_77 : Cond.code ⟨"QuillDesk$Row", "<init>", "(I)V"⟩ prog_9_method_1_code 2 (none) ∈ kg_T := wc_1 (i := 224) rfl rfl
theorem kd_78 : Cond.code ⟨"QuillDesk$Row", "tell", "(III)I"⟩ prog_9_method_2_code 4 (some .int) ∈ kg_T := wc_4 (i := 159) rfl rfl
theorem kd_79 : Cond.code ⟨"QuillDesk$Row", "clear", "()I"⟩ prog_9_method_3_code 1 (some .int) ∈ kg_T := wc_4 (i := 155) rfl rfl
theorem kd_80 : Cond.code ⟨"QuillDesk$Row", "has", "(I)Z"⟩ prog_9_method_4_code 3 (some .boolean) ∈ kg_T := wc_4 (i := 239) rfl rfl
theorem kd_81 : Cond.code ⟨"QuillDesk$Row", "sum", "()I"⟩ prog_9_method_5_code 3 (some .int) ∈ kg_T := wc_5 (i := 95) rfl rfl
theorem kd_82 : Cond.code ⟨"QuillDesk$Row", "round", "(I)I"⟩ prog_9_method_6_code 2 (some .int) ∈ kg_T := wc_5 (i := 30) rfl rfl
theorem kd_83 : Cond.code ⟨"QuillDesk$Row", "copyFrom", "(LQuillDesk$Row;)V"⟩ prog_9_method_7_code 2 (none) ∈ kg_T := wc_5 (i := 151) rfl rfl
theorem kd_84 : Cond.code ⟨"QuillDesk$Text", "<init>", "()V"⟩ prog_10_method_1_code 1 (none) ∈ kg_T := wc_1 (i := 169) rfl rfl
theorem kd_85 : Cond.code ⟨"QuillDesk$Text", "add", "(IIII)V"⟩ prog_10_method_2_code 5 (none) ∈ kg_T := wc_4 (i := 43) rfl rfl
theorem kd_86 : Cond.code ⟨"QuillDesk$Text", "copyFrom", "(LQuillDesk$Text;)V"⟩ prog_10_method_3_code 2 (none) ∈ kg_T := wc_4 (i := 70) rfl rfl
theorem kd_87 : Cond.code ⟨"QuillDesk$Thought", "<init>", "()V"⟩ prog_11_method_1_code 1 (none) ∈ kg_T := wc_2 (i := 141) rfl rfl
theorem kd_88 : Cond.code ⟨"QuillDesk$Thought", "countFlock", "(II)I"⟩ prog_11_method_2_code 6 (some .int) ∈ kg_T := wc_4 (i := 146) rfl rfl
theorem kd_89 : Cond.code ⟨"QuillDesk$Thought", "setPage", "(LQuillDesk$Row;II)I"⟩ prog_11_method_3_code 12 (some .int) ∈ kg_T := wc_4 (i := 168) rfl rfl
theorem kd_90 : Cond.code ⟨"QuillDesk$Thought", "payStamps", "(LQuillDesk$Row;I)I"⟩ prog_11_method_4_code 8 (some .int) ∈ kg_T := wc_4 (i := 181) rfl rfl
theorem kd_91 : Cond.code ⟨"QuillDesk$Thought", "commonPart", "(II)I"⟩ prog_11_method_5_code 6 (some .int) ∈ kg_T := wc_4 (i := 184) rfl rfl
theorem kd_92 : Cond.code ⟨"QuillDesk$Thought", "scratchDown", "(II)I"⟩ prog_11_method_6_code 5 (some .int) ∈ kg_T := wc_4 (i := 194) rfl rfl
theorem kd_93 : Cond.code ⟨"QuillDesk$Thought", "weighByThrees", "(II)I"⟩ prog_11_method_7_code 7 (some .int) ∈ kg_T := wc_4 (i := 202) rfl rfl
theorem kd_94 : Cond.code ⟨"QuillDesk$Thought", "turnsLeft", "(I)Z"⟩ prog_11_method_8_code 3 (some .boolean) ∈ kg_T := wc_4 (i := 212) rfl rfl
theorem kd_95 : Cond.code ⟨"QuillDesk$Thought", "walkCurve", "(II)I"⟩ prog_11_method_9_code 9 (some .int) ∈ kg_T := wc_4 (i := 215) rfl rfl
theorem kd_96 : Cond.code ⟨"QuillDesk$Thought", "countDots", "([I[II)I"⟩ prog_11_method_10_code 6 (some .int) ∈ kg_T := wc_4 (i := 231) rfl rfl
theorem kd_97 : Cond.code ⟨"QuillDesk$Thought", "cutPlank", "(LQuillDesk$Row;II)I"⟩ prog_11_method_11_code 12 (some .int) ∈ kg_T := wc_5 (i := 7) rfl rfl
theorem kd_98 : Cond.code ⟨"QuillDesk$Thought", "markPlaces", "(LQuillDesk$Row;I)I"⟩ prog_11_method_12_code 5 (some .int) ∈ kg_T := wc_5 (i := 11) rfl rfl
theorem kd_99 : Cond.code ⟨"QuillDesk$Thought", "compareFrom", "(LQuillDesk$Row;III)I"⟩ prog_11_method_13_code 6 (some .int) ∈ kg_T := wc_5 (i := 26) rfl rfl
theorem kd_100 : Cond.code ⟨"QuillDesk$Thought", "leastPlace", "(LQuillDesk$Row;)I"⟩ prog_11_method_14_code 3 (some .int) ∈ kg_T := wc_5 (i := 23) rfl rfl
theorem kd_101 : Cond.code ⟨"QuillDesk$Thought", "sameAgain", "(LQuillDesk$Row;)I"⟩ prog_11_method_15_code 2 (some .int) ∈ kg_T := wc_5 (i := 33) rfl rfl
theorem kd_102 : Cond.code ⟨"QuillDesk$Thought", "unlikeRows", "(LQuillDesk$Row;I)I"⟩ prog_11_method_16_code 6 (some .int) ∈ kg_T := wc_5 (i := 36) rfl rfl
theorem kd_103 : Cond.code ⟨"QuillDesk$Thought", "sail", "(LQuillDesk$Row;I)I"⟩ prog_11_method_17_code 8 (some .int) ∈ kg_T := wc_5 (i := 47) rfl rfl
theorem kd_104 : Cond.code ⟨"QuillDesk$Thought", "mirror", "(II)I"⟩ prog_11_method_18_code 4 (some .int) ∈ kg_T := wc_5 (i := 55) rfl rfl
theorem kd_105 : Cond.code ⟨"QuillDesk$Thought", "countMirrored", "(II)I"⟩ prog_11_method_19_code 6 (some .int) ∈ kg_T := wc_5 (i := 58) rfl rfl
theorem kd_106 : Cond.code ⟨"QuillDesk$Thought", "countOut", "(LQuillDesk$Row;II)I"⟩ prog_11_method_20_code 10 (some .int) ∈ kg_T := wc_5 (i := 71) rfl rfl
theorem kd_107 : Cond.code ⟨"QuillDesk$Thought", "nextThere", "(II)I"⟩ prog_11_method_21_code 5 (some .int) ∈ kg_T := wc_5 (i := 75) rfl rfl
theorem kd_108 : Cond.code ⟨"QuillDesk$Thought", "share", "(LQuillDesk$Row;I[I)V"⟩ prog_11_method_22_code 9 (none) ∈ kg_T := wc_5 (i := 91) rfl rfl
theorem kd_109 : Cond.code ⟨"QuillDesk$Thought", "shareOf", "(LQuillDesk$Row;II)I"⟩ prog_11_method_23_code 4 (some .int) ∈ kg_T := wc_5 (i := 99) rfl rfl
theorem kd_110 : Cond.code ⟨"QuillDesk$Thought", "whoLoses", "(LQuillDesk$Row;I)I"⟩ prog_11_method_24_code 4 (some .int) ∈ kg_T := wc_5 (i := 87) rfl rfl
theorem kd_111 : Cond.code ⟨"QuillDesk", "<init>", "()V"⟩ prog_1_method_1_code 1 (none) ∈ kg_T := wc_1 (i := 24) rfl rfl
theorem kd_112 : Cond.code ⟨"QuillDesk", "state", "(I)I"⟩ prog_1_method_2_code 3 (some .int) ∈ kg_T := wc_2 (i := 204) rfl rfl
theorem kd_113 : Cond.code ⟨"QuillDesk", "quill", "(II)I"⟩ prog_1_method_3_code 5 (some .int) ∈ kg_T := wc_2 (i := 212) rfl rfl
theorem kd_114 : Cond.code ⟨"QuillDesk", "clerk", "(I)I"⟩ prog_1_method_4_code 4 (some .int) ∈ kg_T := wc_2 (i := 219) rfl rfl
theorem kd_115 : Cond.code ⟨"QuillDesk", "deed", "(I)I"⟩ prog_1_method_5_code 4 (some .int) ∈ kg_T := wc_2 (i := 223) rfl rfl
theorem kd_116 : Cond.code ⟨"QuillDesk", "set", "(III)Z"⟩ prog_1_method_6_code 5 (some .boolean) ∈ kg_T := wc_2 (i := 227) rfl rfl
theorem kd_117 : Cond.code ⟨"QuillDesk", "act", "(III)Z"⟩ prog_1_method_7_code 5 (some .boolean) ∈ kg_T := wc_2 (i := 239) rfl rfl
theorem kd_118 : Cond.code ⟨"QuillDesk", "hours", "(I)I"⟩ prog_1_method_8_code 4 (some .int) ∈ kg_T := wc_3 (i := 32) rfl rfl
theorem kd_119 : Cond.code ⟨"QuillDesk", "feed", "(IIIII)I"⟩ prog_1_method_9_code 6 (some .int) ∈ kg_T := wc_3 (i := 135) rfl rfl
theorem kd_120 : Cond.code ⟨"QuillDesk", "end", "(I)Z"⟩ prog_1_method_10_code 2 (some .boolean) ∈ kg_T := wc_3 (i := 143) rfl rfl
theorem kd_121 : Cond.code ⟨"QuillDesk", "text", "(I)I"⟩ prog_1_method_11_code 4 (some .int) ∈ kg_T := wc_3 (i := 147) rfl rfl
theorem kd_122 : Cond.code ⟨"QuillDesk", "fault", "(I)I"⟩ prog_1_method_12_code 2 (some .int) ∈ kg_T := wc_4 (i := 78) rfl rfl
theorem kd_123 : Cond.code ⟨"QuillDesk", "of", "(II)I"⟩ prog_1_method_13_code 4 (some .int) ∈ kg_T := wc_4 (i := 82) rfl rfl
theorem kd_124 : Cond.code ⟨"QuillDesk", "who", "(II)I"⟩ prog_1_method_14_code 4 (some .int) ∈ kg_T := wc_4 (i := 89) rfl rfl
theorem kd_125 : Cond.code ⟨"QuillDesk", "deedOf", "(II)I"⟩ prog_1_method_15_code 4 (some .int) ∈ kg_T := wc_4 (i := 94) rfl rfl
theorem kd_126 : Cond.code ⟨"QuillDesk", "book", "(II)I"⟩ prog_1_method_16_code 4 (some .int) ∈ kg_T := wc_4 (i := 105) rfl rfl
theorem kd_127 : Cond.code ⟨"QuillDesk", "goes", "(II)I"⟩ prog_1_method_17_code 4 (some .int) ∈ kg_T := wc_4 (i := 109) rfl rfl
theorem kd_128 : Cond.code ⟨"QuillDesk", "done", "(I)I"⟩ prog_1_method_18_code 3 (some .int) ∈ kg_T := wc_4 (i := 129) rfl rfl
theorem kd_129 : Cond.code ⟨"QuillDesk", "soon", "(II)I"⟩ prog_1_method_19_code 3 (some .int) ∈ kg_T := wc_4 (i := 134) rfl rfl
theorem kd_130 : Cond.code ⟨"QuillDesk", "flock", "(II)I"⟩ prog_1_method_20_code 3 (some .int) ∈ kg_T := wc_4 (i := 142) rfl rfl
theorem kd_131 : Cond.code ⟨"QuillDesk", "letters", "(I)I"⟩ prog_1_method_21_code 2 (some .int) ∈ kg_T := wc_4 (i := 151) rfl rfl
theorem kd_132 : Cond.code ⟨"QuillDesk", "page", "(II)I"⟩ prog_1_method_22_code 3 (some .int) ∈ kg_T := wc_4 (i := 164) rfl rfl
theorem kd_133 : Cond.code ⟨"QuillDesk", "stamp", "(I)I"⟩ prog_1_method_23_code 2 (some .int) ∈ kg_T := wc_4 (i := 173) rfl rfl
theorem kd_134 : Cond.code ⟨"QuillDesk", "stamps", "(I)I"⟩ prog_1_method_24_code 2 (some .int) ∈ kg_T := wc_4 (i := 177) rfl rfl
theorem kd_135 : Cond.code ⟨"QuillDesk", "scratch", "(II)I"⟩ prog_1_method_25_code 3 (some .int) ∈ kg_T := wc_4 (i := 191) rfl rfl
theorem kd_136 : Cond.code ⟨"QuillDesk", "threes", "(II)I"⟩ prog_1_method_26_code 3 (some .int) ∈ kg_T := wc_4 (i := 199) rfl rfl
theorem kd_137 : Cond.code ⟨"QuillDesk", "curve", "(III)I"⟩ prog_1_method_27_code 5 (some .int) ∈ kg_T := wc_4 (i := 209) rfl rfl
theorem kd_138 : Cond.code ⟨"QuillDesk", "quire", "(III)I"⟩ prog_1_method_28_code 4 (some .int) ∈ kg_T := wc_4 (i := 220) rfl rfl
theorem kd_139 : Cond.code ⟨"QuillDesk", "dot", "(III)Z"⟩ prog_1_method_29_code 4 (some .boolean) ∈ kg_T := wc_4 (i := 224) rfl rfl
theorem kd_140 : Cond.code ⟨"QuillDesk", "dots", "(I)I"⟩ prog_1_method_30_code 2 (some .int) ∈ kg_T := wc_4 (i := 228) rfl rfl
theorem kd_141 : Cond.code ⟨"QuillDesk", "cut", "(I)I"⟩ prog_1_method_31_code 2 (some .int) ∈ kg_T := wc_4 (i := 235) rfl rfl
theorem kd_142 : Cond.code ⟨"QuillDesk", "planks", "(II)I"⟩ prog_1_method_32_code 3 (some .int) ∈ kg_T := wc_5 (i := 3) rfl rfl
theorem kd_143 : Cond.code ⟨"QuillDesk", "sign", "(I)I"⟩ prog_1_method_33_code 2 (some .int) ∈ kg_T := wc_5 (i := 16) rfl rfl
theorem kd_144 : Cond.code ⟨"QuillDesk", "read", "(I)I"⟩ prog_1_method_34_code 2 (some .int) ∈ kg_T := wc_5 (i := 20) rfl rfl
theorem kd_145 : Cond.code ⟨"QuillDesk", "leg", "(I)I"⟩ prog_1_method_35_code 2 (some .int) ∈ kg_T := wc_5 (i := 40) rfl rfl
theorem kd_146 : Cond.code ⟨"QuillDesk", "line", "(I)I"⟩ prog_1_method_36_code 2 (some .int) ∈ kg_T := wc_5 (i := 44) rfl rfl
theorem kd_147 : Cond.code ⟨"QuillDesk", "water", "(III)I"⟩ prog_1_method_37_code 4 (some .int) ∈ kg_T := wc_5 (i := 51) rfl rfl
theorem kd_148 : Cond.code ⟨"QuillDesk", "weight", "(I)I"⟩ prog_1_method_38_code 2 (some .int) ∈ kg_T := wc_5 (i := 63) rfl rfl
theorem kd_149 : Cond.code ⟨"QuillDesk", "lift", "(II)I"⟩ prog_1_method_39_code 3 (some .int) ∈ kg_T := wc_5 (i := 67) rfl rfl
theorem kd_150 : Cond.code ⟨"QuillDesk", "heir", "(I)I"⟩ prog_1_method_40_code 2 (some .int) ∈ kg_T := wc_5 (i := 79) rfl rfl
theorem kd_151 : Cond.code ⟨"QuillDesk", "seal", "(II)I"⟩ prog_1_method_41_code 3 (some .int) ∈ kg_T := wc_5 (i := 83) rfl rfl
theorem kd_152 : Cond.code ⟨"QuillDesk", "game", "(II)I"⟩ prog_1_method_42_code 3 (some .int) ∈ kg_T := wc_5 (i := 103) rfl rfl
theorem kd_153 : Cond.code ⟨"QuillDesk", "undo", "()Z"⟩ prog_1_method_43_code 1 (some .boolean) ∈ kg_T := wc_5 (i := 127) rfl rfl
theorem kd_154 : Cond.code ⟨"QuillDesk", "image", "(Z)Z"⟩ prog_1_method_44_code 2 (some .boolean) ∈ kg_T := wc_5 (i := 135) rfl rfl
theorem kd_155 : Cond.code ⟨"QuillDesk", "look", "(I)I"⟩ prog_1_method_45_code 3 (some .int) ∈ kg_T := wc_5 (i := 157) rfl rfl
theorem kd_156 : Cond.code ⟨"QuillDesk", "within", "(III)Z"⟩ prog_1_method_46_code 3 (some .boolean) ∈ kg_T := wc_2 (i := 215) rfl rfl
theorem kd_157 : Cond.code ⟨"QuillDeskModel", "<init>", "()V"⟩ prog_13_method_1_code 1 (none) ∈ kg_T := wc_5 (i := 163) rfl rfl
theorem kd_158 : Cond.code ⟨"QuillDeskModel", "isIn", "(III)Z"⟩ prog_13_method_3_code 4 (some .boolean) ∈ kg_T := wc_6 (i := 169) rfl rfl
theorem kd_159 : Cond.code ⟨"QuillDeskModel", "held", "(III)I"⟩ prog_13_method_4_code 4 (some .int) ∈ kg_T := wc_7 (i := 193) rfl rfl
theorem kd_160 : Cond.code ⟨"QuillDeskModel", "greater", "(II)I"⟩ prog_13_method_5_code 3 (some .int) ∈ kg_T := wc_8 (i := 39) rfl rfl
theorem kd_161 : Cond.code ⟨"QuillDeskModel", "lesser", "(II)I"⟩ prog_13_method_6_code 3 (some .int) ∈ kg_T := wc_7 (i := 223) rfl rfl
theorem kd_162 : Cond.code ⟨"QuillDeskModel", "plain", "(I)I"⟩ prog_13_method_7_code 2 (some .int) ∈ kg_T := wc_8 (i := 68) rfl rfl
theorem kd_163 : Cond.code ⟨"QuillDeskModel", "common", "(II)I"⟩ prog_13_method_8_code 6 (some .int) ∈ kg_T := wc_8 (i := 64) rfl rfl
theorem kd_164 : Cond.code ⟨"QuillDeskModel", "onesOf", "(I)I"⟩ prog_13_method_9_code 4 (some .int) ∈ kg_T := wc_8 (i := 19) rfl rfl
theorem kd_165 : Cond.code ⟨"QuillDeskModel", "has", "(II)Z"⟩ prog_13_method_10_code 3 (some .boolean) ∈ kg_T := wc_8 (i := 35) rfl rfl
theorem kd_166 : Cond.code ⟨"QuillDeskModel", "keepsAhead", "()V"⟩ prog_13_method_11_code 2 (none) ∈ kg_T := wc_7 (i := 137) rfl rfl
theorem kd_167 : Cond.code ⟨"QuillDeskModel", "undo", "()Z"⟩ prog_13_method_12_code 2 (some .boolean) ∈ kg_T := wc_6 (i := 157) rfl rfl
theorem kd_168 : Cond.code ⟨"QuillDeskModel", "thinks", "()V"⟩ prog_13_method_13_code 2 (none) ∈ kg_T := wc_8 (i := 11) rfl rfl
theorem kd_169 : Cond.code ⟨"QuillDeskModel", "endsThought", "()V"⟩ prog_13_method_14_code 2 (none) ∈ kg_T := wc_8 (i := 23) rfl rfl
theorem kd_170 : Cond.code ⟨"QuillDeskModel", "state", "(I)I"⟩ prog_13_method_15_code 3 (some .int) ∈ kg_T := wc_6 (i := 161) rfl rfl
theorem kd_171 : Cond.code ⟨"QuillDeskModel", "draw", "(I)I"⟩ prog_13_method_16_code 2 (some .int) ∈ kg_T := wc_7 (i := 201) rfl rfl
theorem kd_172 : Cond.code ⟨"QuillDeskModel", "isQuill", "(I)Z"⟩ prog_13_method_17_code 2 (some .boolean) ∈ kg_T := wc_6 (i := 189) rfl rfl
theorem kd_173 : Cond.code ⟨"QuillDeskModel", "isClerk", "(I)Z"⟩ prog_13_method_18_code 2 (some .boolean) ∈ kg_T := wc_6 (i := 185) rfl rfl
theorem kd_174 : Cond.code ⟨"QuillDeskModel", "isDeed", "(I)Z"⟩ prog_13_method_19_code 2 (some .boolean) ∈ kg_T := wc_7 (i := 129) rfl rfl
theorem kd_175 : Cond.code ⟨"QuillDeskModel", "holds", "(I)I"⟩ prog_13_method_20_code 2 (some .int) ∈ kg_T := wc_7 (i := 109) rfl rfl
theorem kd_176 : Cond.code ⟨"QuillDeskModel", "atDeed", "(I)I"⟩ prog_13_method_21_code 2 (some .int) ∈ kg_T := wc_7 (i := 125) rfl rfl
theorem kd_177 : Cond.code ⟨"QuillDeskModel", "isGone", "(I)Z"⟩ prog_13_method_22_code 2 (some .boolean) ∈ kg_T := wc_7 (i := 117) rfl rfl
theorem kd_178 : Cond.code ⟨"QuillDeskModel", "isDone", "(I)Z"⟩ prog_13_method_23_code 2 (some .boolean) ∈ kg_T := wc_7 (i := 133) rfl rfl
theorem kd_179 : Cond.code ⟨"QuillDeskModel", "whoHolds", "(I)I"⟩ prog_13_method_24_code 3 (some .int) ∈ kg_T := wc_7 (i := 121) rfl rfl
theorem kd_180 : Cond.code ⟨"QuillDeskModel", "doneSet", "()I"⟩ prog_13_method_25_code 3 (some .int) ∈ kg_T := wc_7 (i := 157) rfl rfl
theorem kd_181 : Cond.code ⟨"QuillDeskModel", "canBeWritten", "(I)Z"⟩ prog_13_method_26_code 2 (some .boolean) ∈ kg_T := wc_7 (i := 153) rfl rfl
theorem kd_182 : Cond.code ⟨"QuillDeskModel", "quill", "(II)I"⟩ prog_13_method_27_code 3 (some .int) ∈ kg_T := wc_6 (i := 165) rfl rfl
theorem kd_183 : Cond.code ⟨"QuillDeskModel", "clerk", "(I)I"⟩ prog_13_method_28_code 3 (some .int) ∈ kg_T := wc_6 (i := 173) rfl rfl
theorem kd_184 : Cond.code ⟨"QuillDeskModel", "deed", "(I)I"⟩ prog_13_method_29_code 2 (some .int) ∈ kg_T := wc_6 (i := 177) rfl rfl
theorem kd_185 : Cond.code ⟨"QuillDeskModel", "set", "(III)Z"⟩ prog_13_method_30_code 5 (some .boolean) ∈ kg_T := wc_6 (i := 181) rfl rfl
theorem kd_186 : Cond.code ⟨"QuillDeskModel", "types", "(I)V"⟩ prog_13_method_31_code 3 (none) ∈ kg_T := wc_6 (i := 197) rfl rfl
theorem kd_187 : Cond.code ⟨"QuillDeskModel", "feed", "(IIIII)I"⟩ prog_13_method_32_code 6 (some .int) ∈ kg_T := wc_6 (i := 193) rfl rfl
theorem kd_188 : Cond.code ⟨"QuillDeskModel", "end", "(I)Z"⟩ prog_13_method_33_code 2 (some .boolean) ∈ kg_T := wc_6 (i := 201) rfl rfl
theorem kd_189 : Cond.code ⟨"QuillDeskModel", "raw", "(I)I"⟩ prog_13_method_34_code 2 (some .int) ∈ kg_T := wc_6 (i := 217) rfl rfl
theorem kd_190 : Cond.code ⟨"QuillDeskModel", "isLetter", "(I)Z"⟩ prog_13_method_35_code 2 (some .boolean) ∈ kg_T := wc_6 (i := 221) rfl rfl
theorem kd_191 : Cond.code ⟨"QuillDeskModel", "isDigit", "(I)Z"⟩ prog_13_method_36_code 2 (some .boolean) ∈ kg_T := wc_6 (i := 229) rfl rfl
theorem kd_192 : Cond.code ⟨"QuillDeskModel", "isMarkSign", "(I)Z"⟩ prog_13_method_37_code 2 (some .boolean) ∈ kg_T := wc_6 (i := 233) rfl rfl
theorem kd_193 : Cond.code ⟨"QuillDeskModel", "wordAt", "(II)I"⟩ prog_13_method_38_code 6 (some .int) ∈ kg_T := wc_6 (i := 225) rfl rfl
theorem kd_194 : Cond.code ⟨"QuillDeskModel", "reads", "()V"⟩ prog_13_method_39_code 2 (none) ∈ kg_T := wc_6 (i := 213) rfl rfl
theorem kd_195 : Cond.code ⟨"QuillDeskModel", "errs", "(I)I"⟩ prog_13_method_40_code 2 (some .int) ∈ kg_T := wc_7 (i := 5) rfl rfl
theorem kd_196 : Cond.code ⟨"QuillDeskModel", "isWord", "(I)Z"⟩ prog_13_method_41_code 2 (some .boolean) ∈ kg_T := wc_7 (i := 1) rfl rfl
theorem kd_197 : Cond.code ⟨"QuillDeskModel", "isSign", "(I)Z"⟩ prog_13_method_42_code 2 (some .boolean) ∈ kg_T := wc_7 (i := 25) rfl rfl
theorem kd_198 : Cond.code ⟨"QuillDeskModel", "emits", "(II)V"⟩ prog_13_method_43_code 3 (none) ∈ kg_T := wc_7 (i := 69) rfl rfl
theorem kd_199 : Cond.code ⟨"QuillDeskModel", "canAsk", "(I)Z"⟩ prog_13_method_44_code 2 (some .boolean) ∈ kg_T := wc_7 (i := 65) rfl rfl
theorem kd_200 : Cond.code ⟨"QuillDeskModel", "readUnit", "()I"⟩ prog_13_method_45_code 2 (some .int) ∈ kg_T := wc_7 (i := 61) rfl rfl
theorem kd_201 : Cond.code ⟨"QuillDeskModel", "readProduct", "()I"⟩ prog_13_method_46_code 2 (some .int) ∈ kg_T := wc_7 (i := 57) rfl rfl
theorem kd_202 : Cond.code ⟨"QuillDeskModel", "readSum", "()I"⟩ prog_13_method_47_code 2 (some .int) ∈ kg_T := wc_7 (i := 53) rfl rfl
theorem kd_203 : Cond.code ⟨"QuillDeskModel", "readCompared", "()I"⟩ prog_13_method_48_code 2 (some .int) ∈ kg_T := wc_7 (i := 81) rfl rfl
theorem kd_204 : Cond.code ⟨"QuillDeskModel", "waits", "(I)V"⟩ prog_13_method_49_code 2 (none) ∈ kg_T := wc_7 (i := 77) rfl rfl
theorem kd_205 : Cond.code ⟨"QuillDeskModel", "settles", "(I)V"⟩ prog_13_method_50_code 2 (none) ∈ kg_T := wc_7 (i := 85) rfl rfl
theorem kd_206 : Cond.code ⟨"QuillDeskModel", "readAny", "()I"⟩ prog_13_method_51_code 4 (some .int) ∈ kg_T := wc_7 (i := 73) rfl rfl
theorem kd_207 : Cond.code ⟨"QuillDeskModel", "isLineWord", "()Z"⟩ prog_13_method_52_code 1 (some .boolean) ∈ kg_T := wc_7 (i := 49) rfl rfl
theorem kd_208 : Cond.code ⟨"QuillDeskModel", "readLaw", "()I"⟩ prog_13_method_53_code 3 (some .int) ∈ kg_T := wc_7 (i := 45) rfl rfl
theorem kd_209 : Cond.code ⟨"QuillDeskModel", "takesLaw", "(I)V"⟩ prog_13_method_54_code 3 (none) ∈ kg_T := wc_7 (i := 89) rfl rfl
theorem kd_210 : Cond.code ⟨"QuillDeskModel", "readNumber", "(II)I"⟩ prog_13_method_55_code 4 (some .int) ∈ kg_T := wc_7 (i := 17) rfl rfl
theorem kd_211 : Cond.code ⟨"QuillDeskModel", "readMark", "(I)I"⟩ prog_13_method_56_code 2 (some .int) ∈ kg_T := wc_7 (i := 21) rfl rfl
theorem kd_212 : Cond.code ⟨"QuillDeskModel", "readTold", "(III)I"⟩ prog_13_method_57_code 4 (some .int) ∈ kg_T := wc_7 (i := 13) rfl rfl
theorem kd_213 : Cond.code ⟨"QuillDeskModel", "readOrder", "(I)I"⟩ prog_13_method_58_code 3 (some .int) ∈ kg_T := wc_7 (i := 9) rfl rfl
theorem kd_214 : Cond.code ⟨"QuillDeskModel", "readOrders", "()I"⟩ prog_13_method_59_code 2 (some .int) ∈ kg_T := wc_6 (i := 237) rfl rfl
theorem kd_215 : Cond.code ⟨"QuillDeskModel", "readBird", "()I"⟩ prog_13_method_60_code 4 (some .int) ∈ kg_T := wc_7 (i := 33) rfl rfl
theorem kd_216 : Cond.code ⟨"QuillDeskModel", "readBirds", "()I"⟩ prog_13_method_61_code 2 (some .int) ∈ kg_T := wc_7 (i := 29) rfl rfl
theorem kd_217 : Cond.code ⟨"QuillDeskModel", "readAfterOne", "()I"⟩ prog_13_method_62_code 3 (some .int) ∈ kg_T := wc_7 (i := 41) rfl rfl
theorem kd_218 : Cond.code ⟨"QuillDeskModel", "readAfter", "()I"⟩ prog_13_method_63_code 2 (some .int) ∈ kg_T := wc_7 (i := 37) rfl rfl
theorem kd_219 : Cond.code ⟨"QuillDeskModel", "readsText", "(I)I"⟩ prog_13_method_64_code 2 (some .int) ∈ kg_T := wc_6 (i := 209) rfl rfl
theorem kd_220 : Cond.code ⟨"QuillDeskModel", "takesOther", "(II)V"⟩ prog_13_method_65_code 4 (none) ∈ kg_T := wc_7 (i := 93) rfl rfl
theorem kd_221 : Cond.code ⟨"QuillDeskModel", "text", "(I)I"⟩ prog_13_method_66_code 3 (some .int) ∈ kg_T := wc_6 (i := 205) rfl rfl
theorem kd_222 : Cond.code ⟨"QuillDeskModel", "fault", "(I)I"⟩ prog_13_method_67_code 2 (some .int) ∈ kg_T := wc_7 (i := 97) rfl rfl
theorem kd_223 : Cond.code ⟨"QuillDeskModel", "twoOf", "(III)I"⟩ prog_13_method_68_code 4 (some .int) ∈ kg_T := wc_7 (i := 189) rfl rfl
theorem kd_224 : Cond.code ⟨"QuillDeskModel", "runs", "(III)I"⟩ prog_13_method_69_code 6 (some .int) ∈ kg_T := wc_7 (i := 185) rfl rfl
theorem kd_225 : Cond.code ⟨"QuillDeskModel", "lineOf", "(I)I"⟩ prog_13_method_70_code 3 (some .int) ∈ kg_T := wc_7 (i := 181) rfl rfl
theorem kd_226 : Cond.code ⟨"QuillDeskModel", "fineOf", "(I)I"⟩ prog_13_method_71_code 2 (some .int) ∈ kg_T := wc_7 (i := 173) rfl rfl
theorem kd_227 : Cond.code ⟨"QuillDeskModel", "asks", "(I)V"⟩ prog_13_method_72_code 4 (none) ∈ kg_T := wc_7 (i := 169) rfl rfl
theorem kd_228 : Cond.code ⟨"QuillDeskModel", "lawTells", "(III)I"⟩ prog_13_method_73_code 5 (some .int) ∈ kg_T := wc_7 (i := 177) rfl rfl
theorem kd_229 : Cond.code ⟨"QuillDeskModel", "writesOf", "(I)I"⟩ prog_13_method_74_code 2 (some .int) ∈ kg_T := wc_7 (i := 219) rfl rfl
theorem kd_230 : Cond.code ⟨"QuillDeskModel", "blotsOf", "(I)I"⟩ prog_13_method_75_code 2 (some .int) ∈ kg_T := wc_7 (i := 211) rfl rfl
theorem kd_231 : Cond.code ⟨"QuillDeskModel", "liftsOf", "(I)I"⟩ prog_13_method_76_code 2 (some .int) ∈ kg_T := wc_7 (i := 165) rfl rfl
theorem kd_232 : Cond.code ⟨"QuillDeskModel", "notes", "(III)V"⟩ prog_13_method_77_code 5 (none) ∈ kg_T := wc_7 (i := 207) rfl rfl
theorem kd_233 : Cond.code ⟨"QuillDeskModel", "canTake", "(II)Z"⟩ prog_13_method_78_code 3 (some .boolean) ∈ kg_T := wc_7 (i := 113) rfl rfl
theorem kd_234 : Cond.code ⟨"QuillDeskModel", "canAct", "(III)Z"⟩ prog_13_method_79_code 5 (some .boolean) ∈ kg_T := wc_7 (i := 105) rfl rfl
theorem kd_235 : Cond.code ⟨"QuillDeskModel", "act", "(III)Z"⟩ prog_13_method_80_code 4 (some .boolean) ∈ kg_T := wc_7 (i := 101) rfl rfl
theorem kd_236 : Cond.code ⟨"QuillDeskModel", "happens", "(I)Z"⟩ prog_13_method_81_code 2 (some .boolean) ∈ kg_T := wc_7 (i := 197) rfl rfl
theorem kd_237 : Cond.code ⟨"QuillDeskModel", "does", "(I)V"⟩ prog_13_method_82_code 6 (none) ∈ kg_T := wc_7 (i := 149) rfl rfl
theorem kd_238 : Cond.code ⟨"QuillDeskModel", "isSigned", "(II)V"⟩ prog_13_method_83_code 4 (none) ∈ kg_T := wc_7 (i := 227) rfl rfl
theorem kd_239 : Cond.code ⟨"QuillDeskModel", "writesOn", "(III)I"⟩ prog_13_method_84_code 6 (some .int) ∈ kg_T := wc_7 (i := 215) rfl rfl
theorem kd_240 : Cond.code ⟨"QuillDeskModel", "worksOn", "(I)I"⟩ prog_13_method_85_code 5 (some .int) ∈ kg_T := wc_7 (i := 161) rfl rfl
theorem kd_241 : Cond.code ⟨"QuillDeskModel", "goesBy", "()I"⟩ prog_13_method_86_code 3 (some .int) ∈ kg_T := wc_7 (i := 145) rfl rfl
theorem kd_242 : Cond.code ⟨"QuillDeskModel", "hours", "(I)I"⟩ prog_13_method_87_code 4 (some .int) ∈ kg_T := wc_7 (i := 141) rfl rfl
theorem kd_243 : Cond.code ⟨"QuillDeskModel", "of", "(II)I"⟩ prog_13_method_88_code 3 (some .int) ∈ kg_T := wc_7 (i := 231) rfl rfl
theorem kd_244 : Cond.code ⟨"QuillDeskModel", "who", "(II)I"⟩ prog_13_method_89_code 3 (some .int) ∈ kg_T := wc_7 (i := 235) rfl rfl
theorem kd_245 : Cond.code ⟨"QuillDeskModel", "deedOf", "(II)I"⟩ prog_13_method_90_code 5 (some .int) ∈ kg_T := wc_7 (i := 239) rfl rfl
theorem kd_246 : Cond.code ⟨"QuillDeskModel", "book", "(II)I"⟩ prog_13_method_91_code 3 (some .int) ∈ kg_T := wc_8 (i := 3) rfl rfl
theorem kd_247 : Cond.code ⟨"QuillDeskModel", "sumOf", "(II)I"⟩ prog_13_method_92_code 5 (some .int) ∈ kg_T := wc_8 (i := 15) rfl rfl
theorem kd_248 : Cond.code ⟨"QuillDeskModel", "goes", "(II)I"⟩ prog_13_method_93_code 4 (some .int) ∈ kg_T := wc_8 (i := 7) rfl rfl
theorem kd_249 : Cond.code ⟨"QuillDeskModel", "done", "(I)I"⟩ prog_13_method_94_code 3 (some .int) ∈ kg_T := wc_8 (i := 27) rfl rfl
theorem kd_250 : Cond.code ⟨"QuillDeskModel", "soon", "(II)I"⟩ prog_13_method_95_code 7 (some .int) ∈ kg_T := wc_8 (i := 31) rfl rfl
theorem kd_251 : Cond.code ⟨"QuillDeskModel", "flock", "(II)I"⟩ prog_13_method_96_code 8 (some .int) ∈ kg_T := wc_8 (i := 43) rfl rfl
theorem kd_252 : Cond.code ⟨"QuillDeskModel", "letters", "(I)I"⟩ prog_13_method_97_code 2 (some .int) ∈ kg_T := wc_8 (i := 47) rfl rfl
theorem kd_253 : Cond.code ⟨"QuillDeskModel", "page", "(II)I"⟩ prog_13_method_98_code 8 (some .int) ∈ kg_T := wc_8 (i := 51) rfl rfl
theorem kd_254 : Cond.code ⟨"QuillDeskModel", "stamp", "(I)I"⟩ prog_13_method_99_code 2 (some .int) ∈ kg_T := wc_8 (i := 56) rfl rfl
theorem kd_255 : Cond.code ⟨"QuillDeskModel", "stamps", "(I)I"⟩ prog_13_method_100_code 7 (some .int) ∈ kg_T := wc_8 (i := 60) rfl rfl
theorem kd_256 : Cond.code ⟨"QuillDeskModel", "scratch", "(II)I"⟩ prog_13_method_101_code 6 (some .int) ∈ kg_T := wc_8 (i := 72) rfl rfl
theorem kd_257 : Cond.code ⟨"QuillDeskModel", "threes", "(II)I"⟩ prog_13_method_102_code 7 (some .int) ∈ kg_T := wc_8 (i := 76) rfl rfl
theorem kd_258 : Cond.code ⟨"QuillDeskModel", "turnsLeft", "(I)Z"⟩ prog_13_method_103_code 3 (some .boolean) ∈ kg_T := wc_8 (i := 84) rfl rfl
theorem kd_259 : Cond.code ⟨"QuillDeskModel", "curve", "(III)I"⟩ prog_13_method_104_code 8 (some .int) ∈ kg_T := wc_8 (i := 80) rfl rfl
theorem kd_260 : Cond.code ⟨"QuillDeskModel", "quire", "(III)I"⟩ prog_13_method_105_code 4 (some .int) ∈ kg_T := wc_8 (i := 88) rfl rfl
theorem kd_261 : Cond.code ⟨"QuillDeskModel", "dot", "(III)Z"⟩ prog_13_method_106_code 4 (some .boolean) ∈ kg_T := wc_8 (i := 92) rfl rfl
theorem kd_262 : Cond.code ⟨"QuillDeskModel", "stepsBetween", "(II)I"⟩ prog_13_method_107_code 3 (some .int) ∈ kg_T := wc_8 (i := 100) rfl rfl
theorem kd_263 : Cond.code ⟨"QuillDeskModel", "dots", "(I)I"⟩ prog_13_method_108_code 3 (some .int) ∈ kg_T := wc_8 (i := 96) rfl rfl
theorem kd_264 : Cond.code ⟨"QuillDeskModel", "isCut", "(I)Z"⟩ prog_13_method_109_code 2 (some .boolean) ∈ kg_T := wc_8 (i := 108) rfl rfl
theorem kd_265 : Cond.code ⟨"QuillDeskModel", "cut", "(I)I"⟩ prog_13_method_110_code 2 (some .int) ∈ kg_T := wc_8 (i := 104) rfl rfl
theorem kd_266 : Cond.code ⟨"QuillDeskModel", "plankWith", "(III)I"⟩ prog_13_method_111_code 4 (some .int) ∈ kg_T := wc_8 (i := 116) rfl rfl
theorem kd_267 : Cond.code ⟨"QuillDeskModel", "planks", "(II)I"⟩ prog_13_method_112_code 8 (some .int) ∈ kg_T := wc_8 (i := 112) rfl rfl
theorem kd_268 : Cond.code ⟨"QuillDeskModel", "sign", "(I)I"⟩ prog_13_method_113_code 2 (some .int) ∈ kg_T := wc_8 (i := 120) rfl rfl
theorem kd_269 : Cond.code ⟨"QuillDeskModel", "compares", "(III)I"⟩ prog_13_method_114_code 6 (some .int) ∈ kg_T := wc_8 (i := 132) rfl rfl
theorem kd_270 : Cond.code ⟨"QuillDeskModel", "unlikeRows", "(I)I"⟩ prog_13_method_115_code 6 (some .int) ∈ kg_T := wc_8 (i := 128) rfl rfl
theorem kd_271 : Cond.code ⟨"QuillDeskModel", "read", "(I)I"⟩ prog_13_method_116_code 4 (some .int) ∈ kg_T := wc_8 (i := 124) rfl rfl
theorem kd_272 : Cond.code ⟨"QuillDeskModel", "leg", "(I)I"⟩ prog_13_method_117_code 2 (some .int) ∈ kg_T := wc_8 (i := 136) rfl rfl
theorem kd_273 : Cond.code ⟨"QuillDeskModel", "line", "(I)I"⟩ prog_13_method_118_code 8 (some .int) ∈ kg_T := wc_8 (i := 140) rfl rfl
theorem kd_274 : Cond.code ⟨"QuillDeskModel", "mirrored", "(II)I"⟩ prog_13_method_119_code 5 (some .int) ∈ kg_T := wc_8 (i := 149) rfl rfl
theorem kd_275 : Cond.code ⟨"QuillDeskModel", "water", "(III)I"⟩ prog_13_method_120_code 6 (some .int) ∈ kg_T := wc_8 (i := 144) rfl rfl
theorem kd_276 : Cond.code ⟨"QuillDeskModel", "weight", "(I)I"⟩ prog_13_method_121_code 2 (some .int) ∈ kg_T := wc_8 (i := 153) rfl rfl
theorem kd_277 : Cond.code ⟨"QuillDeskModel", "lift", "(II)I"⟩ prog_13_method_122_code 7 (some .int) ∈ kg_T := wc_8 (i := 157) rfl rfl
theorem kd_278 : Cond.code ⟨"QuillDeskModel", "heir", "(I)I"⟩ prog_13_method_123_code 2 (some .int) ∈ kg_T := wc_8 (i := 161) rfl rfl
theorem kd_279 : Cond.code ⟨"QuillDeskModel", "sealOf", "(II)I"⟩ prog_13_method_124_code 9 (some .int) ∈ kg_T := wc_8 (i := 169) rfl rfl
theorem kd_280 : Cond.code ⟨"QuillDeskModel", "seal", "(II)I"⟩ prog_13_method_125_code 4 (some .int) ∈ kg_T := wc_8 (i := 165) rfl rfl
theorem kd_281 : Cond.code ⟨"QuillDeskModel", "boxOf", "(I)I"⟩ prog_13_method_126_code 4 (some .int) ∈ kg_T := wc_8 (i := 190) rfl rfl
theorem kd_282 : Cond.code ⟨"QuillDeskModel", "closedBy", "(II)I"⟩ prog_13_method_127_code 5 (some .int) ∈ kg_T := wc_8 (i := 186) rfl rfl
theorem kd_283 : Cond.code ⟨"QuillDeskModel", "moreWith", "(II)I"⟩ prog_13_method_128_code 5 (some .int) ∈ kg_T := wc_8 (i := 182) rfl rfl
theorem kd_284 : Cond.code ⟨"QuillDeskModel", "findsMore", "(I)V"⟩ prog_13_method_129_code 4 (none) ∈ kg_T := wc_8 (i := 177) rfl rfl
theorem kd_285 : Cond.code ⟨"QuillDeskModel", "game", "(II)I"⟩ prog_13_method_130_code 4 (some .int) ∈ kg_T := wc_8 (i := 173) rfl rfl
theorem kd_286 : Cond.code ⟨"QuillDeskModel", "keeps", "(I)I"⟩ prog_13_method_131_code 2 (some .int) ∈ kg_T := wc_8 (i := 198) rfl rfl
theorem kd_287 : Cond.code ⟨"QuillDeskModel", "keepsLaw", "()V"⟩ prog_13_method_132_code 2 (none) ∈ kg_T := wc_8 (i := 210) rfl rfl
theorem kd_288 : Cond.code ⟨"QuillDeskModel", "keepsMany", "()V"⟩ prog_13_method_133_code 1 (none) ∈ kg_T := wc_8 (i := 202) rfl rfl
theorem kd_289 : Cond.code ⟨"QuillDeskModel", "keepsTold", "()V"⟩ prog_13_method_134_code 2 (none) ∈ kg_T := wc_8 (i := 206) rfl rfl
theorem kd_290 : Cond.code ⟨"QuillDeskModel", "image", "(Z)Z"⟩ prog_13_method_135_code 3 (some .boolean) ∈ kg_T := wc_8 (i := 194) rfl rfl
theorem kd_291 : Cond.code ⟨"QuillDeskModel", "look", "(I)I"⟩ prog_13_method_136_code 2 (some .int) ∈ kg_T := wc_8 (i := 214) rfl rfl
theorem kd_292 : Cond.code ⟨"java/lang/Integer", "bitCount", "(I)I"⟩ prog_14_method_49_code 1 (some .int) ∈ kg_T := wc_4 (i := 122) rfl rfl
theorem kd_293 : Cond.code ⟨"java/lang/Math", "floorMod", "(II)I"⟩ prog_15_method_50_code 3 (some .int) ∈ kg_T := wc_4 (i := 205) rfl rfl
theorem kd_294 : Cond.code ⟨"java/lang/Math", "abs", "(I)I"⟩ prog_15_method_59_code 1 (some .int) ∈ kg_T := wc_4 (i := 187) rfl rfl
theorem kd_295 : Cond.code ⟨"java/lang/Math", "max", "(II)I"⟩ prog_15_method_65_code 2 (some .int) ∈ kg_T := wc_3 (i := 96) rfl rfl
theorem kd_296 : Cond.code ⟨"java/lang/Math", "min", "(II)I"⟩ prog_15_method_69_code 2 (some .int) ∈ kg_T := wc_1 (i := 228) rfl rfl
theorem kd_297 : Cond.code ⟨"java/lang/String", "length", "()I"⟩ prog_16_method_54_code 1 (some .int) ∈ kg_T := wc_3 (i := 179) rfl rfl
theorem kd_298 : Cond.code ⟨"java/lang/String", "charAt", "(I)C"⟩ prog_16_method_56_code 2 (some .char) ∈ kg_T := wc_3 (i := 189) rfl rfl
theorem kd_299 : Cond.code ⟨"java/lang/String", "coder", "()B"⟩ prog_16_method_152_code 1 (some .byte) ∈ kg_T := wc_3 (i := 183) rfl rfl
theorem kd_300 : Cond.code ⟨"java/lang/String", "isLatin1", "()Z"⟩ prog_16_method_154_code 1 (some .boolean) ∈ kg_T := wc_3 (i := 193) rfl rfl
theorem kd_301 : Cond.code ⟨"java/lang/String", "checkIndex", "(II)V"⟩ prog_16_method_155_code 2 (none) ∈ kg_T := wc_3 (i := 199) rfl rfl
theorem kd_302 : Cond.code ⟨"java/lang/StringLatin1", "charAt", "([BI)C"⟩ prog_17_method_2_code 2 (some .char) ∈ kg_T := wc_3 (i := 196) rfl rfl
theorem kd_303 : Cond.code ⟨"jdk/internal/util/Preconditions", "checkIndex", "(IILjava/util/function/BiFunction;)I"⟩ prog_20_method_11_code 3 (some .int) ∈ kg_T := wc_3 (i := 204) rfl rfl
def kkC (q : kQ) : Prop := q.2.2.2.2.2.2.1 = 3 ∨ Cond.code q.1 q.2.1 q.2.2.1 q.2.2.2.1 ∈ kg_T
theorem ke_0 : ∀ q ∈ kt_0, kkC q := List.forall_mem_cons.mpr ⟨Or.inr kd_0, List.forall_mem_cons.mpr ⟨Or.inr kd_1, List.forall_mem_cons.mpr ⟨Or.inr kd_2, List.forall_mem_cons.mpr ⟨Or.inr kd_3, List.forall_mem_cons.mpr ⟨Or.inr kd_4, List.forall_mem_cons.mpr ⟨Or.inr kd_5, List.forall_mem_cons.mpr ⟨Or.inr kd_6, List.forall_mem_cons.mpr ⟨Or.inr kd_7, List.forall_mem_cons.mpr ⟨Or.inr kd_8, List.forall_mem_cons.mpr ⟨Or.inr kd_9, List.forall_mem_cons.mpr ⟨Or.inr kd_10, List.forall_mem_cons.mpr ⟨Or.inr kd_11, List.forall_mem_cons.mpr ⟨Or.inr kd_12, List.forall_mem_cons.mpr ⟨Or.inr kd_13, List.forall_mem_cons.mpr ⟨Or.inr kd_14, List.forall_mem_cons.mpr ⟨Or.inr kd_15, List.forall_mem_cons.mpr ⟨Or.inr kd_16, List.forall_mem_cons.mpr ⟨Or.inr kd_17, List.forall_mem_cons.mpr ⟨Or.inr kd_18, List.forall_mem_cons.mpr ⟨Or.inr kd_19, List.forall_mem_cons.mpr ⟨Or.inr kd_20, List.forall_mem_cons.mpr ⟨Or.inr kd_21, List.forall_mem_cons.mpr ⟨Or.inr kd_22, List.forall_mem_cons.mpr ⟨Or.inr kd_23, List.forall_mem_cons.mpr ⟨Or.inr kd_24, fun _ h => absurd h List.not_mem_nil⟩⟩⟩⟩⟩⟩⟩⟩⟩⟩⟩⟩⟩⟩⟩⟩⟩⟩⟩⟩⟩⟩⟩⟩⟩
theorem ke_1 : ∀ q ∈ kt_1, kkC q := List.forall_mem_cons.mpr ⟨Or.inr kd_25, List.forall_mem_cons.mpr ⟨Or.inr kd_26, List.forall_mem_cons.mpr ⟨Or.inr kd_27, List.forall_mem_cons.mpr ⟨Or.inr kd_28, List.forall_mem_cons.mpr ⟨Or.inr kd_29, List.forall_mem_cons.mpr ⟨Or.inr kd_30, List.forall_mem_cons.mpr ⟨Or.inr kd_31, List.forall_mem_cons.mpr ⟨Or.inr kd_32, List.forall_mem_cons.mpr ⟨Or.inr kd_33, List.forall_mem_cons.mpr ⟨Or.inr kd_34, List.forall_mem_cons.mpr ⟨Or.inr kd_35, List.forall_mem_cons.mpr ⟨Or.inr kd_36, List.forall_mem_cons.mpr ⟨Or.inr kd_37, List.forall_mem_cons.mpr ⟨Or.inr kd_38, List.forall_mem_cons.mpr ⟨Or.inr kd_39, List.forall_mem_cons.mpr ⟨Or.inr kd_40, List.forall_mem_cons.mpr ⟨Or.inr kd_41, List.forall_mem_cons.mpr ⟨Or.inr kd_42, List.forall_mem_cons.mpr ⟨Or.inr kd_43, List.forall_mem_cons.mpr ⟨Or.inr kd_44, List.forall_mem_cons.mpr ⟨Or.inr kd_45, List.forall_mem_cons.mpr ⟨Or.inr kd_46, List.forall_mem_cons.mpr ⟨Or.inr kd_47, List.forall_mem_cons.mpr ⟨Or.inr kd_48, List.forall_mem_cons.mpr ⟨Or.inr kd_49, fun _ h => absurd h List.not_mem_nil⟩⟩⟩⟩⟩⟩⟩⟩⟩⟩⟩⟩⟩⟩⟩⟩⟩⟩⟩⟩⟩⟩⟩⟩⟩
theorem ke_2 : ∀ q ∈ kt_2, kkC q := List.forall_mem_cons.mpr ⟨Or.inr kd_50, List.forall_mem_cons.mpr ⟨Or.inr kd_51, List.forall_mem_cons.mpr ⟨Or.inr kd_52, List.forall_mem_cons.mpr ⟨Or.inr kd_53, List.forall_mem_cons.mpr ⟨Or.inr kd_54, List.forall_mem_cons.mpr ⟨Or.inr kd_55, List.forall_mem_cons.mpr ⟨Or.inr kd_56, List.forall_mem_cons.mpr ⟨Or.inr kd_57, List.forall_mem_cons.mpr ⟨Or.inr kd_58, List.forall_mem_cons.mpr ⟨Or.inr kd_59, List.forall_mem_cons.mpr ⟨Or.inr kd_60, List.forall_mem_cons.mpr ⟨Or.inr kd_61, List.forall_mem_cons.mpr ⟨Or.inr kd_62, List.forall_mem_cons.mpr ⟨Or.inr kd_63, List.forall_mem_cons.mpr ⟨Or.inr kd_64, List.forall_mem_cons.mpr ⟨Or.inr kd_65, List.forall_mem_cons.mpr ⟨Or.inr kd_66, List.forall_mem_cons.mpr ⟨Or.inr kd_67, List.forall_mem_cons.mpr ⟨Or.inr kd_68, List.forall_mem_cons.mpr ⟨Or.inr kd_69, List.forall_mem_cons.mpr ⟨Or.inr kd_70, List.forall_mem_cons.mpr ⟨Or.inr kd_71, List.forall_mem_cons.mpr ⟨Or.inr kd_72, List.forall_mem_cons.mpr ⟨Or.inr kd_73, List.forall_mem_cons.mpr ⟨Or.inr kd_74, fun _ h => absurd h List.not_mem_nil⟩⟩⟩⟩⟩⟩⟩⟩⟩⟩⟩⟩⟩⟩⟩⟩⟩⟩⟩⟩⟩⟩⟩⟩⟩
theorem ke_3 : ∀ q ∈ kt_3, kkC q := List.forall_mem_cons.mpr ⟨Or.inr kd_75, List.forall_mem_cons.mpr ⟨Or.inr kd_76, List.forall_mem_cons.mpr ⟨Or.inr kd_77, List.forall_mem_cons.mpr ⟨Or.inr kd_78, List.forall_mem_cons.mpr ⟨Or.inr kd_79, List.forall_mem_cons.mpr ⟨Or.inr kd_80, List.forall_mem_cons.mpr ⟨Or.inr kd_81, List.forall_mem_cons.mpr ⟨Or.inr kd_82, List.forall_mem_cons.mpr ⟨Or.inr kd_83, List.forall_mem_cons.mpr ⟨Or.inr kd_84, List.forall_mem_cons.mpr ⟨Or.inr kd_85, List.forall_mem_cons.mpr ⟨Or.inr kd_86, List.forall_mem_cons.mpr ⟨Or.inr kd_87, List.forall_mem_cons.mpr ⟨Or.inr kd_88, List.forall_mem_cons.mpr ⟨Or.inr kd_89, List.forall_mem_cons.mpr ⟨Or.inr kd_90, List.forall_mem_cons.mpr ⟨Or.inr kd_91, List.forall_mem_cons.mpr ⟨Or.inr kd_92, List.forall_mem_cons.mpr ⟨Or.inr kd_93, List.forall_mem_cons.mpr ⟨Or.inr kd_94, List.forall_mem_cons.mpr ⟨Or.inr kd_95, List.forall_mem_cons.mpr ⟨Or.inr kd_96, List.forall_mem_cons.mpr ⟨Or.inr kd_97, List.forall_mem_cons.mpr ⟨Or.inr kd_98, List.forall_mem_cons.mpr ⟨Or.inr kd_99, fun _ h => absurd h List.not_mem_nil⟩⟩⟩⟩⟩⟩⟩⟩⟩⟩⟩⟩⟩⟩⟩⟩⟩⟩⟩⟩⟩⟩⟩⟩⟩
theorem ke_4 : ∀ q ∈ kt_4, kkC q := List.forall_mem_cons.mpr ⟨Or.inr kd_100, List.forall_mem_cons.mpr ⟨Or.inr kd_101, List.forall_mem_cons.mpr ⟨Or.inr kd_102, List.forall_mem_cons.mpr ⟨Or.inr kd_103, List.forall_mem_cons.mpr ⟨Or.inr kd_104, List.forall_mem_cons.mpr ⟨Or.inr kd_105, List.forall_mem_cons.mpr ⟨Or.inr kd_106, List.forall_mem_cons.mpr ⟨Or.inr kd_107, List.forall_mem_cons.mpr ⟨Or.inr kd_108, List.forall_mem_cons.mpr ⟨Or.inr kd_109, List.forall_mem_cons.mpr ⟨Or.inr kd_110, List.forall_mem_cons.mpr ⟨Or.inr kd_111, List.forall_mem_cons.mpr ⟨Or.inr kd_112, List.forall_mem_cons.mpr ⟨Or.inr kd_113, List.forall_mem_cons.mpr ⟨Or.inr kd_114, List.forall_mem_cons.mpr ⟨Or.inr kd_115, List.forall_mem_cons.mpr ⟨Or.inr kd_116, List.forall_mem_cons.mpr ⟨Or.inr kd_117, List.forall_mem_cons.mpr ⟨Or.inr kd_118, List.forall_mem_cons.mpr ⟨Or.inr kd_119, List.forall_mem_cons.mpr ⟨Or.inr kd_120, List.forall_mem_cons.mpr ⟨Or.inr kd_121, List.forall_mem_cons.mpr ⟨Or.inr kd_122, List.forall_mem_cons.mpr ⟨Or.inr kd_123, List.forall_mem_cons.mpr ⟨Or.inr kd_124, fun _ h => absurd h List.not_mem_nil⟩⟩⟩⟩⟩⟩⟩⟩⟩⟩⟩⟩⟩⟩⟩⟩⟩⟩⟩⟩⟩⟩⟩⟩⟩
theorem ke_5 : ∀ q ∈ kt_5, kkC q := List.forall_mem_cons.mpr ⟨Or.inr kd_125, List.forall_mem_cons.mpr ⟨Or.inr kd_126, List.forall_mem_cons.mpr ⟨Or.inr kd_127, List.forall_mem_cons.mpr ⟨Or.inr kd_128, List.forall_mem_cons.mpr ⟨Or.inr kd_129, List.forall_mem_cons.mpr ⟨Or.inr kd_130, List.forall_mem_cons.mpr ⟨Or.inr kd_131, List.forall_mem_cons.mpr ⟨Or.inr kd_132, List.forall_mem_cons.mpr ⟨Or.inr kd_133, List.forall_mem_cons.mpr ⟨Or.inr kd_134, List.forall_mem_cons.mpr ⟨Or.inr kd_135, List.forall_mem_cons.mpr ⟨Or.inr kd_136, List.forall_mem_cons.mpr ⟨Or.inr kd_137, List.forall_mem_cons.mpr ⟨Or.inr kd_138, List.forall_mem_cons.mpr ⟨Or.inr kd_139, List.forall_mem_cons.mpr ⟨Or.inr kd_140, List.forall_mem_cons.mpr ⟨Or.inr kd_141, List.forall_mem_cons.mpr ⟨Or.inr kd_142, List.forall_mem_cons.mpr ⟨Or.inr kd_143, List.forall_mem_cons.mpr ⟨Or.inr kd_144, List.forall_mem_cons.mpr ⟨Or.inr kd_145, List.forall_mem_cons.mpr ⟨Or.inr kd_146, List.forall_mem_cons.mpr ⟨Or.inr kd_147, List.forall_mem_cons.mpr ⟨Or.inr kd_148, List.forall_mem_cons.mpr ⟨Or.inr kd_149, fun _ h => absurd h List.not_mem_nil⟩⟩⟩⟩⟩⟩⟩⟩⟩⟩⟩⟩⟩⟩⟩⟩⟩⟩⟩⟩⟩⟩⟩⟩⟩
theorem ke_6 : ∀ q ∈ kt_6, kkC q := List.forall_mem_cons.mpr ⟨Or.inr kd_150, List.forall_mem_cons.mpr ⟨Or.inr kd_151, List.forall_mem_cons.mpr ⟨Or.inr kd_152, List.forall_mem_cons.mpr ⟨Or.inr kd_153, List.forall_mem_cons.mpr ⟨Or.inr kd_154, List.forall_mem_cons.mpr ⟨Or.inr kd_155, List.forall_mem_cons.mpr ⟨Or.inr kd_156, List.forall_mem_cons.mpr ⟨Or.inr kd_157, List.forall_mem_cons.mpr ⟨Or.inr kd_158, List.forall_mem_cons.mpr ⟨Or.inr kd_159, List.forall_mem_cons.mpr ⟨Or.inr kd_160, List.forall_mem_cons.mpr ⟨Or.inr kd_161, List.forall_mem_cons.mpr ⟨Or.inr kd_162, List.forall_mem_cons.mpr ⟨Or.inr kd_163, List.forall_mem_cons.mpr ⟨Or.inr kd_164, List.forall_mem_cons.mpr ⟨Or.inr kd_165, List.forall_mem_cons.mpr ⟨Or.inr kd_166, List.forall_mem_cons.mpr ⟨Or.inr kd_167, List.forall_mem_cons.mpr ⟨Or.inr kd_168, List.forall_mem_cons.mpr ⟨Or.inr kd_169, List.forall_mem_cons.mpr ⟨Or.inr kd_170, List.forall_mem_cons.mpr ⟨Or.inr kd_171, List.forall_mem_cons.mpr ⟨Or.inr kd_172, List.forall_mem_cons.mpr ⟨Or.inr kd_173, List.forall_mem_cons.mpr ⟨Or.inr kd_174, fun _ h => absurd h List.not_mem_nil⟩⟩⟩⟩⟩⟩⟩⟩⟩⟩⟩⟩⟩⟩⟩⟩⟩⟩⟩⟩⟩⟩⟩⟩⟩
theorem ke_7 : ∀ q ∈ kt_7, kkC q := List.forall_mem_cons.mpr ⟨Or.inr kd_175, List.forall_mem_cons.mpr ⟨Or.inr kd_176, List.forall_mem_cons.mpr ⟨Or.inr kd_177, List.forall_mem_cons.mpr ⟨Or.inr kd_178, List.forall_mem_cons.mpr ⟨Or.inr kd_179, List.forall_mem_cons.mpr ⟨Or.inr kd_180, List.forall_mem_cons.mpr ⟨Or.inr kd_181, List.forall_mem_cons.mpr ⟨Or.inr kd_182, List.forall_mem_cons.mpr ⟨Or.inr kd_183, List.forall_mem_cons.mpr ⟨Or.inr kd_184, List.forall_mem_cons.mpr ⟨Or.inr kd_185, List.forall_mem_cons.mpr ⟨Or.inr kd_186, List.forall_mem_cons.mpr ⟨Or.inr kd_187, List.forall_mem_cons.mpr ⟨Or.inr kd_188, List.forall_mem_cons.mpr ⟨Or.inr kd_189, List.forall_mem_cons.mpr ⟨Or.inr kd_190, List.forall_mem_cons.mpr ⟨Or.inr kd_191, List.forall_mem_cons.mpr ⟨Or.inr kd_192, List.forall_mem_cons.mpr ⟨Or.inr kd_193, List.forall_mem_cons.mpr ⟨Or.inr kd_194, List.forall_mem_cons.mpr ⟨Or.inr kd_195, List.forall_mem_cons.mpr ⟨Or.inr kd_196, List.forall_mem_cons.mpr ⟨Or.inr kd_197, List.forall_mem_cons.mpr ⟨Or.inr kd_198, List.forall_mem_cons.mpr ⟨Or.inr kd_199, fun _ h => absurd h List.not_mem_nil⟩⟩⟩⟩⟩⟩⟩⟩⟩⟩⟩⟩⟩⟩⟩⟩⟩⟩⟩⟩⟩⟩⟩⟩⟩
theorem ke_8 : ∀ q ∈ kt_8, kkC q := List.forall_mem_cons.mpr ⟨Or.inr kd_200, List.forall_mem_cons.mpr ⟨Or.inr kd_201, List.forall_mem_cons.mpr ⟨Or.inr kd_202, List.forall_mem_cons.mpr ⟨Or.inr kd_203, List.forall_mem_cons.mpr ⟨Or.inr kd_204, List.forall_mem_cons.mpr ⟨Or.inr kd_205, List.forall_mem_cons.mpr ⟨Or.inr kd_206, List.forall_mem_cons.mpr ⟨Or.inr kd_207, List.forall_mem_cons.mpr ⟨Or.inr kd_208, List.forall_mem_cons.mpr ⟨Or.inr kd_209, List.forall_mem_cons.mpr ⟨Or.inr kd_210, List.forall_mem_cons.mpr ⟨Or.inr kd_211, List.forall_mem_cons.mpr ⟨Or.inr kd_212, List.forall_mem_cons.mpr ⟨Or.inr kd_213, List.forall_mem_cons.mpr ⟨Or.inr kd_214, List.forall_mem_cons.mpr ⟨Or.inr kd_215, List.forall_mem_cons.mpr ⟨Or.inr kd_216, List.forall_mem_cons.mpr ⟨Or.inr kd_217, List.forall_mem_cons.mpr ⟨Or.inr kd_218, List.forall_mem_cons.mpr ⟨Or.inr kd_219, List.forall_mem_cons.mpr ⟨Or.inr kd_220, List.forall_mem_cons.mpr ⟨Or.inr kd_221, List.forall_mem_cons.mpr ⟨Or.inr kd_222, List.forall_mem_cons.mpr ⟨Or.inr kd_223, List.forall_mem_cons.mpr ⟨Or.inr kd_224, fun _ h => absurd h List.not_mem_nil⟩⟩⟩⟩⟩⟩⟩⟩⟩⟩⟩⟩⟩⟩⟩⟩⟩⟩⟩⟩⟩⟩⟩⟩⟩
theorem ke_9 : ∀ q ∈ kt_9, kkC q := List.forall_mem_cons.mpr ⟨Or.inr kd_225, List.forall_mem_cons.mpr ⟨Or.inr kd_226, List.forall_mem_cons.mpr ⟨Or.inr kd_227, List.forall_mem_cons.mpr ⟨Or.inr kd_228, List.forall_mem_cons.mpr ⟨Or.inr kd_229, List.forall_mem_cons.mpr ⟨Or.inr kd_230, List.forall_mem_cons.mpr ⟨Or.inr kd_231, List.forall_mem_cons.mpr ⟨Or.inr kd_232, List.forall_mem_cons.mpr ⟨Or.inr kd_233, List.forall_mem_cons.mpr ⟨Or.inr kd_234, List.forall_mem_cons.mpr ⟨Or.inr kd_235, List.forall_mem_cons.mpr ⟨Or.inr kd_236, List.forall_mem_cons.mpr ⟨Or.inr kd_237, List.forall_mem_cons.mpr ⟨Or.inr kd_238, List.forall_mem_cons.mpr ⟨Or.inr kd_239, List.forall_mem_cons.mpr ⟨Or.inr kd_240, List.forall_mem_cons.mpr ⟨Or.inr kd_241, List.forall_mem_cons.mpr ⟨Or.inr kd_242, List.forall_mem_cons.mpr ⟨Or.inr kd_243, List.forall_mem_cons.mpr ⟨Or.inr kd_244, List.forall_mem_cons.mpr ⟨Or.inr kd_245, List.forall_mem_cons.mpr ⟨Or.inr kd_246, List.forall_mem_cons.mpr ⟨Or.inr kd_247, List.forall_mem_cons.mpr ⟨Or.inr kd_248, List.forall_mem_cons.mpr ⟨Or.inr kd_249, fun _ h => absurd h List.not_mem_nil⟩⟩⟩⟩⟩⟩⟩⟩⟩⟩⟩⟩⟩⟩⟩⟩⟩⟩⟩⟩⟩⟩⟩⟩⟩
theorem ke_10 : ∀ q ∈ kt_10, kkC q := List.forall_mem_cons.mpr ⟨Or.inr kd_250, List.forall_mem_cons.mpr ⟨Or.inr kd_251, List.forall_mem_cons.mpr ⟨Or.inr kd_252, List.forall_mem_cons.mpr ⟨Or.inr kd_253, List.forall_mem_cons.mpr ⟨Or.inr kd_254, List.forall_mem_cons.mpr ⟨Or.inr kd_255, List.forall_mem_cons.mpr ⟨Or.inr kd_256, List.forall_mem_cons.mpr ⟨Or.inr kd_257, List.forall_mem_cons.mpr ⟨Or.inr kd_258, List.forall_mem_cons.mpr ⟨Or.inr kd_259, List.forall_mem_cons.mpr ⟨Or.inr kd_260, List.forall_mem_cons.mpr ⟨Or.inr kd_261, List.forall_mem_cons.mpr ⟨Or.inr kd_262, List.forall_mem_cons.mpr ⟨Or.inr kd_263, List.forall_mem_cons.mpr ⟨Or.inr kd_264, List.forall_mem_cons.mpr ⟨Or.inr kd_265, List.forall_mem_cons.mpr ⟨Or.inr kd_266, List.forall_mem_cons.mpr ⟨Or.inr kd_267, List.forall_mem_cons.mpr ⟨Or.inr kd_268, List.forall_mem_cons.mpr ⟨Or.inr kd_269, List.forall_mem_cons.mpr ⟨Or.inr kd_270, List.forall_mem_cons.mpr ⟨Or.inr kd_271, List.forall_mem_cons.mpr ⟨Or.inr kd_272, List.forall_mem_cons.mpr ⟨Or.inr kd_273, List.forall_mem_cons.mpr ⟨Or.inr kd_274, fun _ h => absurd h List.not_mem_nil⟩⟩⟩⟩⟩⟩⟩⟩⟩⟩⟩⟩⟩⟩⟩⟩⟩⟩⟩⟩⟩⟩⟩⟩⟩
theorem ke_11 : ∀ q ∈ kt_11, kkC q := List.forall_mem_cons.mpr ⟨Or.inr kd_275, List.forall_mem_cons.mpr ⟨Or.inr kd_276, List.forall_mem_cons.mpr ⟨Or.inr kd_277, List.forall_mem_cons.mpr ⟨Or.inr kd_278, List.forall_mem_cons.mpr ⟨Or.inr kd_279, List.forall_mem_cons.mpr ⟨Or.inr kd_280, List.forall_mem_cons.mpr ⟨Or.inr kd_281, List.forall_mem_cons.mpr ⟨Or.inr kd_282, List.forall_mem_cons.mpr ⟨Or.inr kd_283, List.forall_mem_cons.mpr ⟨Or.inr kd_284, List.forall_mem_cons.mpr ⟨Or.inr kd_285, List.forall_mem_cons.mpr ⟨Or.inr kd_286, List.forall_mem_cons.mpr ⟨Or.inr kd_287, List.forall_mem_cons.mpr ⟨Or.inr kd_288, List.forall_mem_cons.mpr ⟨Or.inr kd_289, List.forall_mem_cons.mpr ⟨Or.inr kd_290, List.forall_mem_cons.mpr ⟨Or.inr kd_291, List.forall_mem_cons.mpr ⟨Or.inr kd_292, List.forall_mem_cons.mpr ⟨Or.inr kd_293, List.forall_mem_cons.mpr ⟨Or.inr kd_294, List.forall_mem_cons.mpr ⟨Or.inr kd_295, List.forall_mem_cons.mpr ⟨Or.inr kd_296, List.forall_mem_cons.mpr ⟨Or.inr kd_297, List.forall_mem_cons.mpr ⟨Or.inr kd_298, List.forall_mem_cons.mpr ⟨Or.inr kd_299, fun _ h => absurd h List.not_mem_nil⟩⟩⟩⟩⟩⟩⟩⟩⟩⟩⟩⟩⟩⟩⟩⟩⟩⟩⟩⟩⟩⟩⟩⟩⟩
theorem ke_12 : ∀ q ∈ kt_12, kkC q := List.forall_mem_cons.mpr ⟨Or.inr kd_300, List.forall_mem_cons.mpr ⟨Or.inr kd_301, List.forall_mem_cons.mpr ⟨Or.inr kd_302, List.forall_mem_cons.mpr ⟨Or.inr kd_303, List.forall_mem_cons.mpr ⟨Or.inl rfl, fun _ h => absurd h List.not_mem_nil⟩⟩⟩⟩⟩
theorem ke_all : ∀ q ∈ kt, kkC q := List.forall_mem_append.mpr ⟨ke_0, List.forall_mem_append.mpr ⟨ke_1, List.forall_mem_append.mpr ⟨ke_2, List.forall_mem_append.mpr ⟨ke_3, List.forall_mem_append.mpr ⟨ke_4, List.forall_mem_append.mpr ⟨ke_5, List.forall_mem_append.mpr ⟨ke_6, List.forall_mem_append.mpr ⟨ke_7, List.forall_mem_append.mpr ⟨ke_8, List.forall_mem_append.mpr ⟨ke_9, List.forall_mem_append.mpr ⟨ke_10, List.forall_mem_append.mpr ⟨ke_11, ke_12⟩⟩⟩⟩⟩⟩⟩⟩⟩⟩⟩⟩
theorem kf_0 : ∀ q ∈ kt_0, kkQ q := List.forall_mem_cons.mpr ⟨⟨kp_0, kk_0⟩, List.forall_mem_cons.mpr ⟨⟨kp_1, kk_1⟩, List.forall_mem_cons.mpr ⟨⟨kp_2, kk_2⟩, List.forall_mem_cons.mpr ⟨⟨kp_3, kk_3⟩, List.forall_mem_cons.mpr ⟨⟨kp_4, kk_4⟩, List.forall_mem_cons.mpr ⟨⟨kp_5, kk_5⟩, List.forall_mem_cons.mpr ⟨⟨kp_6, kk_6⟩, List.forall_mem_cons.mpr ⟨⟨kp_7, kk_7⟩, List.forall_mem_cons.mpr ⟨⟨kp_8, kk_8⟩, List.forall_mem_cons.mpr ⟨⟨kp_9, kk_9⟩, List.forall_mem_cons.mpr ⟨⟨kp_10, kk_10⟩, List.forall_mem_cons.mpr ⟨⟨kp_11, kk_11⟩, List.forall_mem_cons.mpr ⟨⟨kp_12, kk_12⟩, List.forall_mem_cons.mpr ⟨⟨kp_13, kk_13⟩, List.forall_mem_cons.mpr ⟨⟨kp_14, kk_14⟩, List.forall_mem_cons.mpr ⟨⟨kp_15, kk_15⟩, List.forall_mem_cons.mpr ⟨⟨kp_16, kk_16⟩, List.forall_mem_cons.mpr ⟨⟨kp_17, kk_17⟩, List.forall_mem_cons.mpr ⟨⟨kp_18, kk_18⟩, List.forall_mem_cons.mpr ⟨⟨kp_19, kk_19⟩, List.forall_mem_cons.mpr ⟨⟨kp_20, kk_20⟩, List.forall_mem_cons.mpr ⟨⟨kp_21, kk_21⟩, List.forall_mem_cons.mpr ⟨⟨kp_22, kk_22⟩, List.forall_mem_cons.mpr ⟨⟨kp_23, kk_23⟩, List.forall_mem_cons.mpr ⟨⟨kp_24, kk_24⟩, fun _ h => absurd h List.not_mem_nil⟩⟩⟩⟩⟩⟩⟩⟩⟩⟩⟩⟩⟩⟩⟩⟩⟩⟩⟩⟩⟩⟩⟩⟩⟩
theorem kf_1 : ∀ q ∈ kt_1, kkQ q := List.forall_mem_cons.mpr ⟨⟨kp_25, kk_25⟩, List.forall_mem_cons.mpr ⟨⟨kp_26, kk_26⟩, List.forall_mem_cons.mpr ⟨⟨kp_27, kk_27⟩, List.forall_mem_cons.mpr ⟨⟨kp_28, kk_28⟩, List.forall_mem_cons.mpr ⟨⟨kp_29, kk_29⟩, List.forall_mem_cons.mpr ⟨⟨kp_30, kk_30⟩, List.forall_mem_cons.mpr ⟨⟨kp_31, kk_31⟩, List.forall_mem_cons.mpr ⟨⟨kp_32, kk_32⟩, List.forall_mem_cons.mpr ⟨⟨kp_33, kk_33⟩, List.forall_mem_cons.mpr ⟨⟨kp_34, kk_34⟩, List.forall_mem_cons.mpr ⟨⟨kp_35, kk_35⟩, List.forall_mem_cons.mpr ⟨⟨kp_36, kk_36⟩, List.forall_mem_cons.mpr ⟨⟨kp_37, kk_37⟩, List.forall_mem_cons.mpr ⟨⟨kp_38, kk_38⟩, List.forall_mem_cons.mpr ⟨⟨kp_39, kk_39⟩, List.forall_mem_cons.mpr ⟨⟨kp_40, kk_40⟩, List.forall_mem_cons.mpr ⟨⟨kp_41, kk_41⟩, List.forall_mem_cons.mpr ⟨⟨kp_42, kk_42⟩, List.forall_mem_cons.mpr ⟨⟨kp_43, kk_43⟩, List.forall_mem_cons.mpr ⟨⟨kp_44, kk_44⟩, List.forall_mem_cons.mpr ⟨⟨kp_45, kk_45⟩, List.forall_mem_cons.mpr ⟨⟨kp_46, kk_46⟩, List.forall_mem_cons.mpr ⟨⟨kp_47, kk_47⟩, List.forall_mem_cons.mpr ⟨⟨kp_48, kk_48⟩, List.forall_mem_cons.mpr ⟨⟨kp_49, kk_49⟩, fun _ h => absurd h List.not_mem_nil⟩⟩⟩⟩⟩⟩⟩⟩⟩⟩⟩⟩⟩⟩⟩⟩⟩⟩⟩⟩⟩⟩⟩⟩⟩
theorem kf_2 : ∀ q ∈ kt_2, kkQ q := List.forall_mem_cons.mpr ⟨⟨kp_50, kk_50⟩, List.forall_mem_cons.mpr ⟨⟨kp_51, kk_51⟩, List.forall_mem_cons.mpr ⟨⟨kp_52, kk_52⟩, List.forall_mem_cons.mpr ⟨⟨kp_53, kk_53⟩, List.forall_mem_cons.mpr ⟨⟨kp_54, kk_54⟩, List.forall_mem_cons.mpr ⟨⟨kp_55, kk_55⟩, List.forall_mem_cons.mpr ⟨⟨kp_56, kk_56⟩, List.forall_mem_cons.mpr ⟨⟨kp_57, kk_57⟩, List.forall_mem_cons.mpr ⟨⟨kp_58, kk_58⟩, List.forall_mem_cons.mpr ⟨⟨kp_59, kk_59⟩, List.forall_mem_cons.mpr ⟨⟨kp_60, kk_60⟩, List.forall_mem_cons.mpr ⟨⟨kp_61, kk_61⟩, List.forall_mem_cons.mpr ⟨⟨kp_62, kk_62⟩, List.forall_mem_cons.mpr ⟨⟨kp_63, kk_63⟩, List.forall_mem_cons.mpr ⟨⟨kp_64, kk_64⟩, List.forall_mem_cons.mpr ⟨⟨kp_65, kk_65⟩, List.forall_mem_cons.mpr ⟨⟨kp_66, kk_66⟩, List.forall_mem_cons.mpr ⟨⟨kp_67, kk_67⟩, List.forall_mem_cons.mpr ⟨⟨kp_68, kk_68⟩, List.forall_mem_cons.mpr ⟨⟨kp_69, kk_69⟩, List.forall_mem_cons.mpr ⟨⟨kp_70, kk_70⟩, List.forall_mem_cons.mpr ⟨⟨kp_71, kk_71⟩, List.forall_mem_cons.mpr ⟨⟨kp_72, kk_72⟩, List.forall_mem_cons.mpr ⟨⟨kp_73, kk_73⟩, List.forall_mem_cons.mpr ⟨⟨kp_74, kk_74⟩, fun _ h => absurd h List.not_mem_nil⟩⟩⟩⟩⟩⟩⟩⟩⟩⟩⟩⟩⟩⟩⟩⟩⟩⟩⟩⟩⟩⟩⟩⟩⟩
theorem kf_3 : ∀ q ∈ kt_3, kkQ q := List.forall_mem_cons.mpr ⟨⟨kp_75, kk_75⟩, List.forall_mem_cons.mpr ⟨⟨kp_76, kk_76⟩, List.forall_mem_cons.mpr ⟨⟨kp_77, kk_77⟩, List.forall_mem_cons.mpr ⟨⟨kp_78, kk_78⟩, List.forall_mem_cons.mpr ⟨⟨kp_79, kk_79⟩, List.forall_mem_cons.mpr ⟨⟨kp_80, kk_80⟩, List.forall_mem_cons.mpr ⟨⟨kp_81, kk_81⟩, List.forall_mem_cons.mpr ⟨⟨kp_82, kk_82⟩, List.forall_mem_cons.mpr ⟨⟨kp_83, kk_83⟩, List.forall_mem_cons.mpr ⟨⟨kp_84, kk_84⟩, List.forall_mem_cons.mpr ⟨⟨kp_85, kk_85⟩, List.forall_mem_cons.mpr ⟨⟨kp_86, kk_86⟩, List.forall_mem_cons.mpr ⟨⟨kp_87, kk_87⟩, List.forall_mem_cons.mpr ⟨⟨kp_88, kk_88⟩, List.forall_mem_cons.mpr ⟨⟨kp_89, kk_89⟩, List.forall_mem_cons.mpr ⟨⟨kp_90, kk_90⟩, List.forall_mem_cons.mpr ⟨⟨kp_91, kk_91⟩, List.forall_mem_cons.mpr ⟨⟨kp_92, kk_92⟩, List.forall_mem_cons.mpr ⟨⟨kp_93, kk_93⟩, List.forall_mem_cons.mpr ⟨⟨kp_94, kk_94⟩, List.forall_mem_cons.mpr ⟨⟨kp_95, kk_95⟩, List.forall_mem_cons.mpr ⟨⟨kp_96, kk_96⟩, List.forall_mem_cons.mpr ⟨⟨kp_97, kk_97⟩, List.forall_mem_cons.mpr ⟨⟨kp_98, kk_98⟩, List.forall_mem_cons.mpr ⟨⟨kp_99, kk_99⟩, fun _ h => absurd h List.not_mem_nil⟩⟩⟩⟩⟩⟩⟩⟩⟩⟩⟩⟩⟩⟩⟩⟩⟩⟩⟩⟩⟩⟩⟩⟩⟩
theorem kf_4 : ∀ q ∈ kt_4, kkQ q := List.forall_mem_cons.mpr ⟨⟨kp_100, kk_100⟩, List.forall_mem_cons.mpr ⟨⟨kp_101, kk_101⟩, List.forall_mem_cons.mpr ⟨⟨kp_102, kk_102⟩, List.forall_mem_cons.mpr ⟨⟨kp_103, kk_103⟩, List.forall_mem_cons.mpr ⟨⟨kp_104, kk_104⟩, List.forall_mem_cons.mpr ⟨⟨kp_105, kk_105⟩, List.forall_mem_cons.mpr ⟨⟨kp_106, kk_106⟩, List.forall_mem_cons.mpr ⟨⟨kp_107, kk_107⟩, List.forall_mem_cons.mpr ⟨⟨kp_108, kk_108⟩, List.forall_mem_cons.mpr ⟨⟨kp_109, kk_109⟩, List.forall_mem_cons.mpr ⟨⟨kp_110, kk_110⟩, List.forall_mem_cons.mpr ⟨⟨kp_111, kk_111⟩, List.forall_mem_cons.mpr ⟨⟨kp_112, kk_112⟩, List.forall_mem_cons.mpr ⟨⟨kp_113, kk_113⟩, List.forall_mem_cons.mpr ⟨⟨kp_114, kk_114⟩, List.forall_mem_cons.mpr ⟨⟨kp_115, kk_115⟩, List.forall_mem_cons.mpr ⟨⟨kp_116, kk_116⟩, List.forall_mem_cons.mpr ⟨⟨kp_117, kk_117⟩, List.forall_mem_cons.mpr ⟨⟨kp_118, kk_118⟩, List.forall_mem_cons.mpr ⟨⟨kp_119, kk_119⟩, List.forall_mem_cons.mpr ⟨⟨kp_120, kk_120⟩, List.forall_mem_cons.mpr ⟨⟨kp_121, kk_121⟩, List.forall_mem_cons.mpr ⟨⟨kp_122, kk_122⟩, List.forall_mem_cons.mpr ⟨⟨kp_123, kk_123⟩, List.forall_mem_cons.mpr ⟨⟨kp_124, kk_124⟩, fun _ h => absurd h List.not_mem_nil⟩⟩⟩⟩⟩⟩⟩⟩⟩⟩⟩⟩⟩⟩⟩⟩⟩⟩⟩⟩⟩⟩⟩⟩⟩
theorem kf_5 : ∀ q ∈ kt_5, kkQ q := List.forall_mem_cons.mpr ⟨⟨kp_125, kk_125⟩, List.forall_mem_cons.mpr ⟨⟨kp_126, kk_126⟩, List.forall_mem_cons.mpr ⟨⟨kp_127, kk_127⟩, List.forall_mem_cons.mpr ⟨⟨kp_128, kk_128⟩, List.forall_mem_cons.mpr ⟨⟨kp_129, kk_129⟩, List.forall_mem_cons.mpr ⟨⟨kp_130, kk_130⟩, List.forall_mem_cons.mpr ⟨⟨kp_131, kk_131⟩, List.forall_mem_cons.mpr ⟨⟨kp_132, kk_132⟩, List.forall_mem_cons.mpr ⟨⟨kp_133, kk_133⟩, List.forall_mem_cons.mpr ⟨⟨kp_134, kk_134⟩, List.forall_mem_cons.mpr ⟨⟨kp_135, kk_135⟩, List.forall_mem_cons.mpr ⟨⟨kp_136, kk_136⟩, List.forall_mem_cons.mpr ⟨⟨kp_137, kk_137⟩, List.forall_mem_cons.mpr ⟨⟨kp_138, kk_138⟩, List.forall_mem_cons.mpr ⟨⟨kp_139, kk_139⟩, List.forall_mem_cons.mpr ⟨⟨kp_140, kk_140⟩, List.forall_mem_cons.mpr ⟨⟨kp_141, kk_141⟩, List.forall_mem_cons.mpr ⟨⟨kp_142, kk_142⟩, List.forall_mem_cons.mpr ⟨⟨kp_143, kk_143⟩, List.forall_mem_cons.mpr ⟨⟨kp_144, kk_144⟩, List.forall_mem_cons.mpr ⟨⟨kp_145, kk_145⟩, List.forall_mem_cons.mpr ⟨⟨kp_146, kk_146⟩, List.forall_mem_cons.mpr ⟨⟨kp_147, kk_147⟩, List.forall_mem_cons.mpr ⟨⟨kp_148, kk_148⟩, List.forall_mem_cons.mpr ⟨⟨kp_149, kk_149⟩, fun _ h => absurd h List.not_mem_nil⟩⟩⟩⟩⟩⟩⟩⟩⟩⟩⟩⟩⟩⟩⟩⟩⟩⟩⟩⟩⟩⟩⟩⟩⟩
theorem kf_6 : ∀ q ∈ kt_6, kkQ q := List.forall_mem_cons.mpr ⟨⟨kp_150, kk_150⟩, List.forall_mem_cons.mpr ⟨⟨kp_151, kk_151⟩, List.forall_mem_cons.mpr ⟨⟨kp_152, kk_152⟩, List.forall_mem_cons.mpr ⟨⟨kp_153, kk_153⟩, List.forall_mem_cons.mpr ⟨⟨kp_154, kk_154⟩, List.forall_mem_cons.mpr ⟨⟨kp_155, kk_155⟩, List.forall_mem_cons.mpr ⟨⟨kp_156, kk_156⟩, List.forall_mem_cons.mpr ⟨⟨kp_157, kk_157⟩, List.forall_mem_cons.mpr ⟨⟨kp_158, kk_158⟩, List.forall_mem_cons.mpr ⟨⟨kp_159, kk_159⟩, List.forall_mem_cons.mpr ⟨⟨kp_160, kk_160⟩, List.forall_mem_cons.mpr ⟨⟨kp_161, kk_161⟩, List.forall_mem_cons.mpr ⟨⟨kp_162, kk_162⟩, List.forall_mem_cons.mpr ⟨⟨kp_163, kk_163⟩, List.forall_mem_cons.mpr ⟨⟨kp_164, kk_164⟩, List.forall_mem_cons.mpr ⟨⟨kp_165, kk_165⟩, List.forall_mem_cons.mpr ⟨⟨kp_166, kk_166⟩, List.forall_mem_cons.mpr ⟨⟨kp_167, kk_167⟩, List.forall_mem_cons.mpr ⟨⟨kp_168, kk_168⟩, List.forall_mem_cons.mpr ⟨⟨kp_169, kk_169⟩, List.forall_mem_cons.mpr ⟨⟨kp_170, kk_170⟩, List.forall_mem_cons.mpr ⟨⟨kp_171, kk_171⟩, List.forall_mem_cons.mpr ⟨⟨kp_172, kk_172⟩, List.forall_mem_cons.mpr ⟨⟨kp_173, kk_173⟩, List.forall_mem_cons.mpr ⟨⟨kp_174, kk_174⟩, fun _ h => absurd h List.not_mem_nil⟩⟩⟩⟩⟩⟩⟩⟩⟩⟩⟩⟩⟩⟩⟩⟩⟩⟩⟩⟩⟩⟩⟩⟩⟩
theorem kf_7 : ∀ q ∈ kt_7, kkQ q := List.forall_mem_cons.mpr ⟨⟨kp_175, kk_175⟩, List.forall_mem_cons.mpr ⟨⟨kp_176, kk_176⟩, List.forall_mem_cons.mpr ⟨⟨kp_177, kk_177⟩, List.forall_mem_cons.mpr ⟨⟨kp_178, kk_178⟩, List.forall_mem_cons.mpr ⟨⟨kp_179, kk_179⟩, List.forall_mem_cons.mpr ⟨⟨kp_180, kk_180⟩, List.forall_mem_cons.mpr ⟨⟨kp_181, kk_181⟩, List.forall_mem_cons.mpr ⟨⟨kp_182, kk_182⟩, List.forall_mem_cons.mpr ⟨⟨kp_183, kk_183⟩, List.forall_mem_cons.mpr ⟨⟨kp_184, kk_184⟩, List.forall_mem_cons.mpr ⟨⟨kp_185, kk_185⟩, List.forall_mem_cons.mpr ⟨⟨kp_186, kk_186⟩, List.forall_mem_cons.mpr ⟨⟨kp_187, kk_187⟩, List.forall_mem_cons.mpr ⟨⟨kp_188, kk_188⟩, List.forall_mem_cons.mpr ⟨⟨kp_189, kk_189⟩, List.forall_mem_cons.mpr ⟨⟨kp_190, kk_190⟩, List.forall_mem_cons.mpr ⟨⟨kp_191, kk_191⟩, List.forall_mem_cons.mpr ⟨⟨kp_192, kk_192⟩, List.forall_mem_cons.mpr ⟨⟨kp_193, kk_193⟩, List.forall_mem_cons.mpr ⟨⟨kp_194, kk_194⟩, List.forall_mem_cons.mpr ⟨⟨kp_195, kk_195⟩, List.forall_mem_cons.mpr ⟨⟨kp_196, kk_196⟩, List.forall_mem_cons.mpr ⟨⟨kp_197, kk_197⟩, List.forall_mem_cons.mpr ⟨⟨kp_198, kk_198⟩, List.forall_mem_cons.mpr ⟨⟨kp_199, kk_199⟩, fun _ h => absurd h List.not_mem_nil⟩⟩⟩⟩⟩⟩⟩⟩⟩⟩⟩⟩⟩⟩⟩⟩⟩⟩⟩⟩⟩⟩⟩⟩⟩
theorem kf_8 : ∀ q ∈ kt_8, kkQ q := List.forall_mem_cons.mpr ⟨⟨kp_200, kk_200⟩, List.forall_mem_cons.mpr ⟨⟨kp_201, kk_201⟩, List.forall_mem_cons.mpr ⟨⟨kp_202, kk_202⟩, List.forall_mem_cons.mpr ⟨⟨kp_203, kk_203⟩, List.forall_mem_cons.mpr ⟨⟨kp_204, kk_204⟩, List.forall_mem_cons.mpr ⟨⟨kp_205, kk_205⟩, List.forall_mem_cons.mpr ⟨⟨kp_206, kk_206⟩, List.forall_mem_cons.mpr ⟨⟨kp_207, kk_207⟩, List.forall_mem_cons.mpr ⟨⟨kp_208, kk_208⟩, List.forall_mem_cons.mpr ⟨⟨kp_209, kk_209⟩, List.forall_mem_cons.mpr ⟨⟨kp_210, kk_210⟩, List.forall_mem_cons.mpr ⟨⟨kp_211, kk_211⟩, List.forall_mem_cons.mpr ⟨⟨kp_212, kk_212⟩, List.forall_mem_cons.mpr ⟨⟨kp_213, kk_213⟩, List.forall_mem_cons.mpr ⟨⟨kp_214, kk_214⟩, List.forall_mem_cons.mpr ⟨⟨kp_215, kk_215⟩, List.forall_mem_cons.mpr ⟨⟨kp_216, kk_216⟩, List.forall_mem_cons.mpr ⟨⟨kp_217, kk_217⟩, List.forall_mem_cons.mpr ⟨⟨kp_218, kk_218⟩, List.forall_mem_cons.mpr ⟨⟨kp_219, kk_219⟩, List.forall_mem_cons.mpr ⟨⟨kp_220, kk_220⟩, List.forall_mem_cons.mpr ⟨⟨kp_221, kk_221⟩, List.forall_mem_cons.mpr ⟨⟨kp_222, kk_222⟩, List.forall_mem_cons.mpr ⟨⟨kp_223, kk_223⟩, List.forall_mem_cons.mpr ⟨⟨kp_224, kk_224⟩, fun _ h => absurd h List.not_mem_nil⟩⟩⟩⟩⟩⟩⟩⟩⟩⟩⟩⟩⟩⟩⟩⟩⟩⟩⟩⟩⟩⟩⟩⟩⟩
theorem kf_9 : ∀ q ∈ kt_9, kkQ q := List.forall_mem_cons.mpr ⟨⟨kp_225, kk_225⟩, List.forall_mem_cons.mpr ⟨⟨kp_226, kk_226⟩, List.forall_mem_cons.mpr ⟨⟨kp_227, kk_227⟩, List.forall_mem_cons.mpr ⟨⟨kp_228, kk_228⟩, List.forall_mem_cons.mpr ⟨⟨kp_229, kk_229⟩, List.forall_mem_cons.mpr ⟨⟨kp_230, kk_230⟩, List.forall_mem_cons.mpr ⟨⟨kp_231, kk_231⟩, List.forall_mem_cons.mpr ⟨⟨kp_232, kk_232⟩, List.forall_mem_cons.mpr ⟨⟨kp_233, kk_233⟩, List.forall_mem_cons.mpr ⟨⟨kp_234, kk_234⟩, List.forall_mem_cons.mpr ⟨⟨kp_235, kk_235⟩, List.forall_mem_cons.mpr ⟨⟨kp_236, kk_236⟩, List.forall_mem_cons.mpr ⟨⟨kp_237, kk_237⟩, List.forall_mem_cons.mpr ⟨⟨kp_238, kk_238⟩, List.forall_mem_cons.mpr ⟨⟨kp_239, kk_239⟩, List.forall_mem_cons.mpr ⟨⟨kp_240, kk_240⟩, List.forall_mem_cons.mpr ⟨⟨kp_241, kk_241⟩, List.forall_mem_cons.mpr ⟨⟨kp_242, kk_242⟩, List.forall_mem_cons.mpr ⟨⟨kp_243, kk_243⟩, List.forall_mem_cons.mpr ⟨⟨kp_244, kk_244⟩, List.forall_mem_cons.mpr ⟨⟨kp_245, kk_245⟩, List.forall_mem_cons.mpr ⟨⟨kp_246, kk_246⟩, List.forall_mem_cons.mpr ⟨⟨kp_247, kk_247⟩, List.forall_mem_cons.mpr ⟨⟨kp_248, kk_248⟩, List.forall_mem_cons.mpr ⟨⟨kp_249, kk_249⟩, fun _ h => absurd h List.not_mem_nil⟩⟩⟩⟩⟩⟩⟩⟩⟩⟩⟩⟩⟩⟩⟩⟩⟩⟩⟩⟩⟩⟩⟩⟩⟩
theorem kf_10 : ∀ q ∈ kt_10, kkQ q := List.forall_mem_cons.mpr ⟨⟨kp_250, kk_250⟩, List.forall_mem_cons.mpr ⟨⟨kp_251, kk_251⟩, List.forall_mem_cons.mpr ⟨⟨kp_252, kk_252⟩, List.forall_mem_cons.mpr ⟨⟨kp_253, kk_253⟩, List.forall_mem_cons.mpr ⟨⟨kp_254, kk_254⟩, List.forall_mem_cons.mpr ⟨⟨kp_255, kk_255⟩, List.forall_mem_cons.mpr ⟨⟨kp_256, kk_256⟩, List.forall_mem_cons.mpr ⟨⟨kp_257, kk_257⟩, List.forall_mem_cons.mpr ⟨⟨kp_258, kk_258⟩, List.forall_mem_cons.mpr ⟨⟨kp_259, kk_259⟩, List.forall_mem_cons.mpr ⟨⟨kp_260, kk_260⟩, List.forall_mem_cons.mpr ⟨⟨kp_261, kk_261⟩, List.forall_mem_cons.mpr ⟨⟨kp_262, kk_262⟩, List.forall_mem_cons.mpr ⟨⟨kp_263, kk_263⟩, List.forall_mem_cons.mpr ⟨⟨kp_264, kk_264⟩, List.forall_mem_cons.mpr ⟨⟨kp_265, kk_265⟩, List.forall_mem_cons.mpr ⟨⟨kp_266, kk_266⟩, List.forall_mem_cons.mpr ⟨⟨kp_267, kk_267⟩, List.forall_mem_cons.mpr ⟨⟨kp_268, kk_268⟩, List.forall_mem_cons.mpr ⟨⟨kp_269, kk_269⟩, List.forall_mem_cons.mpr ⟨⟨kp_270, kk_270⟩, List.forall_mem_cons.mpr ⟨⟨kp_271, kk_271⟩, List.forall_mem_cons.mpr ⟨⟨kp_272, kk_272⟩, List.forall_mem_cons.mpr ⟨⟨kp_273, kk_273⟩, List.forall_mem_cons.mpr ⟨⟨kp_274, kk_274⟩, fun _ h => absurd h List.not_mem_nil⟩⟩⟩⟩⟩⟩⟩⟩⟩⟩⟩⟩⟩⟩⟩⟩⟩⟩⟩⟩⟩⟩⟩⟩⟩
theorem kf_11 : ∀ q ∈ kt_11, kkQ q := List.forall_mem_cons.mpr ⟨⟨kp_275, kk_275⟩, List.forall_mem_cons.mpr ⟨⟨kp_276, kk_276⟩, List.forall_mem_cons.mpr ⟨⟨kp_277, kk_277⟩, List.forall_mem_cons.mpr ⟨⟨kp_278, kk_278⟩, List.forall_mem_cons.mpr ⟨⟨kp_279, kk_279⟩, List.forall_mem_cons.mpr ⟨⟨kp_280, kk_280⟩, List.forall_mem_cons.mpr ⟨⟨kp_281, kk_281⟩, List.forall_mem_cons.mpr ⟨⟨kp_282, kk_282⟩, List.forall_mem_cons.mpr ⟨⟨kp_283, kk_283⟩, List.forall_mem_cons.mpr ⟨⟨kp_284, kk_284⟩, List.forall_mem_cons.mpr ⟨⟨kp_285, kk_285⟩, List.forall_mem_cons.mpr ⟨⟨kp_286, kk_286⟩, List.forall_mem_cons.mpr ⟨⟨kp_287, kk_287⟩, List.forall_mem_cons.mpr ⟨⟨kp_288, kk_288⟩, List.forall_mem_cons.mpr ⟨⟨kp_289, kk_289⟩, List.forall_mem_cons.mpr ⟨⟨kp_290, kk_290⟩, List.forall_mem_cons.mpr ⟨⟨kp_291, kk_291⟩, List.forall_mem_cons.mpr ⟨⟨kp_292, kk_292⟩, List.forall_mem_cons.mpr ⟨⟨kp_293, kk_293⟩, List.forall_mem_cons.mpr ⟨⟨kp_294, kk_294⟩, List.forall_mem_cons.mpr ⟨⟨kp_295, kk_295⟩, List.forall_mem_cons.mpr ⟨⟨kp_296, kk_296⟩, List.forall_mem_cons.mpr ⟨⟨kp_297, kk_297⟩, List.forall_mem_cons.mpr ⟨⟨kp_298, kk_298⟩, List.forall_mem_cons.mpr ⟨⟨kp_299, kk_299⟩, fun _ h => absurd h List.not_mem_nil⟩⟩⟩⟩⟩⟩⟩⟩⟩⟩⟩⟩⟩⟩⟩⟩⟩⟩⟩⟩⟩⟩⟩⟩⟩
theorem kf_12 : ∀ q ∈ kt_12, kkQ q := List.forall_mem_cons.mpr ⟨⟨kp_300, kk_300⟩, List.forall_mem_cons.mpr ⟨⟨kp_301, kk_301⟩, List.forall_mem_cons.mpr ⟨⟨kp_302, kk_302⟩, List.forall_mem_cons.mpr ⟨⟨kp_303, kk_303⟩, List.forall_mem_cons.mpr ⟨⟨kp_304, kk_304⟩, fun _ h => absurd h List.not_mem_nil⟩⟩⟩⟩⟩
theorem km_0 : (kt_0.all kkM2) = true := by decide +kernel
theorem km_1 : (kt_1.all kkM2) = true := by decide +kernel
theorem km_2 : (kt_2.all kkM2) = true := by decide +kernel
theorem km_3 : (kt_3.all kkM2) = true := by decide +kernel
theorem km_4 : (kt_4.all kkM2) = true := by decide +kernel
theorem km_5 : (kt_5.all kkM2) = true := by decide +kernel
theorem km_6 : (kt_6.all kkM2) = true := by decide +kernel
theorem km_7 : (kt_7.all kkM2) = true := by decide +kernel
theorem km_8 : (kt_8.all kkM2) = true := by decide +kernel
theorem km_9 : (kt_9.all kkM2) = true := by decide +kernel
theorem km_10 : (kt_10.all kkM2) = true := by decide +kernel
theorem km_11 : (kt_11.all kkM2) = true := by decide +kernel
theorem km_12 : (kt_12.all kkM2) = true := by decide +kernel
theorem km_all : ∀ q ∈ kt, kkM2 q = true := List.forall_mem_append.mpr ⟨List.all_eq_true.mp km_0, List.forall_mem_append.mpr ⟨List.all_eq_true.mp km_1, List.forall_mem_append.mpr ⟨List.all_eq_true.mp km_2, List.forall_mem_append.mpr ⟨List.all_eq_true.mp km_3, List.forall_mem_append.mpr ⟨List.all_eq_true.mp km_4, List.forall_mem_append.mpr ⟨List.all_eq_true.mp km_5, List.forall_mem_append.mpr ⟨List.all_eq_true.mp km_6, List.forall_mem_append.mpr ⟨List.all_eq_true.mp km_7, List.forall_mem_append.mpr ⟨List.all_eq_true.mp km_8, List.forall_mem_append.mpr ⟨List.all_eq_true.mp km_9, List.forall_mem_append.mpr ⟨List.all_eq_true.mp km_10, List.forall_mem_append.mpr ⟨List.all_eq_true.mp km_11, List.all_eq_true.mp km_12⟩⟩⟩⟩⟩⟩⟩⟩⟩⟩⟩⟩
theorem kK_lt : ((List.range 304).all fun y => decide ((kK y).1 < 3)) = true := by decide +kernel
theorem kf_all : ∀ q ∈ kt, kkQ q := List.forall_mem_append.mpr ⟨kf_0, List.forall_mem_append.mpr ⟨kf_1, List.forall_mem_append.mpr ⟨kf_2, List.forall_mem_append.mpr ⟨kf_3, List.forall_mem_append.mpr ⟨kf_4, List.forall_mem_append.mpr ⟨kf_5, List.forall_mem_append.mpr ⟨kf_6, List.forall_mem_append.mpr ⟨kf_7, List.forall_mem_append.mpr ⟨kf_8, List.forall_mem_append.mpr ⟨kf_9, List.forall_mem_append.mpr ⟨kf_10, List.forall_mem_append.mpr ⟨kf_11, kf_12⟩⟩⟩⟩⟩⟩⟩⟩⟩⟩⟩⟩
theorem ko_oi : Cond.instanceMethod Lib.objectInit ∈ kg_T := wd_in (pl := 26) (by decide +kernel) rfl
theorem ko_oc : Cond.code Lib.objectInit ⟨#[0xb1]⟩ 1 none ∈ kg_T := wd_in (pl := 27) (by decide +kernel) rfl
theorem ko_as : Cond.static arraycopyName ∈ kg_T := wd_in (pl := 503) (by decide +kernel) rfl
theorem ko_an : Cond.native arraycopyName ∈ kg_T := wd_in (pl := 504) (by decide +kernel) rfl
theorem ko_ai : Cond.initialized "java/lang/System" ∈ kg_T := wd_in (pl := 14) (by decide +kernel) rfl
theorem ko_ac : Cond.arrayClass .int ∈ kg_T := wd_in (pl := 130) (by decide +kernel) rfl
theorem kn_ins {c : Nat} (h : c < 12) : Cond.instantiable (kn_R c) (kn_N c) ∈ kg_T := by
  match c, h with
  | 0, _ => exact wd_in (pl := 132) (by decide +kernel) rfl
  | 1, _ => exact wd_in (pl := 404) (by decide +kernel) rfl
  | 2, _ => exact wd_in (pl := 29) (by decide +kernel) rfl
  | 3, _ => exact wd_in (pl := 35) (by decide +kernel) rfl
  | 4, _ => exact wd_in (pl := 160) (by decide +kernel) rfl
  | 5, _ => exact wd_in (pl := 304) (by decide +kernel) rfl
  | 6, _ => exact wd_in (pl := 329) (by decide +kernel) rfl
  | 7, _ => exact wd_in (pl := 221) (by decide +kernel) rfl
  | 8, _ => exact wd_in (pl := 166) (by decide +kernel) rfl
  | 9, _ => exact wd_in (pl := 378) (by decide +kernel) rfl
  | 10, _ => exact wd_in (pl := 21) (by decide +kernel) rfl
  | 11, _ => exact wd_in (pl := 1120) (by decide +kernel) rfl
  | n + 12, h => omega
theorem kn_ini {c : Nat} (h : c < 12) : Cond.initialized (kn_R c) ∈ kg_T := by
  match c, h with
  | 0, _ => exact wd_in (pl := 4) (by decide +kernel) rfl
  | 1, _ => exact wd_in (pl := 12) (by decide +kernel) rfl
  | 2, _ => exact wd_in (pl := 2) (by decide +kernel) rfl
  | 3, _ => exact wd_in (pl := 3) (by decide +kernel) rfl
  | 4, _ => exact wd_in (pl := 5) (by decide +kernel) rfl
  | 5, _ => exact wd_in (pl := 9) (by decide +kernel) rfl
  | 6, _ => exact wd_in (pl := 10) (by decide +kernel) rfl
  | 7, _ => exact wd_in (pl := 7) (by decide +kernel) rfl
  | 8, _ => exact wd_in (pl := 6) (by decide +kernel) rfl
  | 9, _ => exact wd_in (pl := 11) (by decide +kernel) rfl
  | 10, _ => exact wd_in (pl := 1) (by decide +kernel) rfl
  | 11, _ => exact wd_in (pl := 13) (by decide +kernel) rfl
  | n + 12, h => omega
end
section
/-! THE MACHINE OVER ITS OWN INSTRUCTIONS: values, cells, one step told as a demand on what comes behind it -/
abbrev kV : Type := Int32 ⊕ Option Nat
/-- how many cells; what each is (0: an object of class c; 1: ints, so many; 2: references, so many); its ints; its references -/
abbrev kH : Type := Nat × (Nat → Nat × Nat) × (Nat → Nat → Int32) × (Nat → Nat → Option Nat)
abbrev kG : Type := Launch × va_G × ClassId × ClassId × Nat × (Nat → Nat) × Nat × (Nat → Int32) × Option Nat
def gl (g : kG) : Launch := g.1
def gD (g : kG) : va_G := g.2.1
def gI (g : kG) : ClassId := g.2.2.1
def gF (g : kG) : ClassId := g.2.2.2.1
def gb (g : kG) : Nat := g.2.2.2.2.1
def gx (g : kG) : Nat → Nat := g.2.2.2.2.2.1
def gL (g : kG) : Nat := g.2.2.2.2.2.2.1
def gs (g : kG) : Nat → Int32 := g.2.2.2.2.2.2.2.1
def gz (g : kG) : Option Nat := g.2.2.2.2.2.2.2.2
def hn (h : kH) : Nat := h.1
def hk (h : kH) : Nat → Nat × Nat := h.2.1
def hI (h : kH) : Nat → Nat → Int32 := h.2.2.1
def hP (h : kH) : Nat → Nat → Option Nat := h.2.2.2
def ka (g : kG) (k : Nat) : Nat := if k < 1000000 then gb g + k else gx g (k - 1000000)
def kv (g : kG) (v : kV) : Value := match v with
  | .inl x => .int x
  | .inr r => va_rf (r.map (ka g))
/-- is a field of that type a reference? -/
def kr_t (t : FieldType) : Bool := match t with
  | .object _ => true
  | .array _ => true
  | _ => false
def kfv (g : kG) (h : kH) (k c i : Nat) : Value := if kr_t (kn_t c i) = true then va_rf ((hP h k i).map (ka g)) else .int (hI h k i)
def ken (g : kG) (h : kH) (k : Nat) : va_E := match (hk h k).1 with
  | 0 => .inr ((hk h k).2, (List.range (kn_N (hk h k).2)).map (fun i => kfv g h k (hk h k).2 i))
  | 1 => .inl (gI g, (hk h k).2, .inl (hI h k))
  | _ => .inl (gF g, (hk h k).2, .inr (.inr (.inr (.inr (fun i => (hP h k i).map (ka g))))))
def kw (g : kG) (h : kH) : va_W := (List.range (hn h)).map fun k => (ka g k, ken g h k)
def kA (g : kG) : Nat → Prop := fun q => gb g ≤ q
def kS_b : List Int32 := [104, 97, 110, 100, 32, 105, 110, 107, 32, 119, 111, 114, 110, 32, 119, 105, 108, 100, 32, 102, 105, 110, 101, 32, 108, 101, 102, 116, 32, 115, 105, 103, 110, 101, 100, 32, 108, 105, 102, 116, 101, 100, 32, 98, 105, 114, 100, 32, 100, 101, 101, 100, 32, 104, 111, 117, 114, 32, 119, 114, 105, 116, 101, 115, 32, 98, 108, 111, 116, 115, 32, 108, 105, 102, 116, 115, 32, 119, 104, 101, 110, 32, 111, 114, 32, 97, 110, 100, 32, 110, 111, 116, 32, 97, 116, 32, 99, 108, 101, 114, 107, 32, 116, 97, 107, 101, 32, 100, 114, 111, 112, 32, 119, 114, 105, 116, 101, 32, 114, 101, 115, 116, 32, 100, 105, 112, 32, 99, 117, 116, 32, 97, 102, 116, 101, 114]
def kS_x : List Int32 := [197, 394, 1556, 3112]
def kS_t : String := "hand ink worn wild fine left signed lifted bird deed hour writes blots lifts when or and not at clerk take drop write rest dip cut after"
def kg_N : List Cond :=  [.methodLinkNest "QuillDesk$Reader" 54 ⟨"QuillDesk", "within", "(III)Z"⟩ "QuillDesk", .methodLinkNest "QuillDesk$Row" 28 ⟨"QuillDesk", "within", "(III)Z"⟩ "QuillDesk", .methodLinkNest "QuillDesk$Boxes" 19 ⟨"QuillDesk", "within", "(III)Z"⟩ "QuillDesk", .fieldLinkNest "QuillDesk$Boxes" 39 "QuillDesk" "BOXES" "[I" "QuillDesk"]
def kGx (g : kG) (U : State) (H : Heap) : Prop :=
  va_K (gD g) vwCl [(gI g, .int), (gF g, .object "QuillDesk$Firm")] U ∧
  va_T .int (gx g 0) (gL g) (fun j => .int (gs g j)) (kA g) U H ∧
  va_T .int (gx g 1) 4 (fun j => .int (kS_x.getD j 0)) (kA g) U H ∧
  (va_O "java/lang/String" (gx g 2) (kA g) U H ∧ va_OF "java/lang/String" "coder" "B" (.int 0) (gx g 2) (kA g) U H ∧ va_OF "java/lang/String" "value" "[B" (.ref (gx g 3)) (gx g 2) (kA g) U H) ∧
  va_T .byte (gx g 3) 136 (fun j => .int (kS_b.getD j 0)) (kA g) U H ∧
  va_Z "java/lang/String" "COMPACT_STRINGS" "Z" (.int 1) (kA g) U H ∧ va_Z "QuillDesk" "BOXES" "[I" (.ref (gx g 1)) (kA g) U H ∧
  va_Z "jdk/internal/util/Preconditions" "SIOOBE_FORMATTER" "Ljava/util/function/BiFunction;" (va_rf ((gz g).map (ka g))) (kA g) U H ∧
  vk_R "QuillDesk$Reader" 111 kS_t (gx g 2) U ∧ va_AO "QuillDesk$Firm" U ∧ ∀ w ∈ kg_N, va_Nw w U
def kRp (g : kG) (h : kH) (H : Heap) : Prop := va_P (gD g) vwCl (kw g h) H ∧ hn h ≤ 1000000
def kM (y d : Nat) : Room := { frames := d, cells := (kc_c y).1, slots := (kc_c y).2, locals := 60 * d }
def kws (y : Nat) : List Cond := Cond.code (kN y) (kB y) (kL y) (kT y) :: kg_T
def kPc (g : kG) (h : kH) (as : List kV) : Array Value → State → Prop := va_Pc (as.map (kv g)) (fun U => kGx g U U.heap ∧ kRp g h U.heap ∧ U.heap.size = gb g + hn h)
def kBt (g : kG) (n : Nat) (h : kH) (t : State) : Prop := kRp g h t.heap ∧ hn h = n
def kQc (g : kG) (y n : Nat) (Q : Int32 → kH → Prop) : Array Value → State → Outcome → State → Prop := match kT y with
  | none => va_Qv (fun h : kH => Q 0 h) (kBt g n) (kA g)
  | some _ => va_Qi (fun r (h : kH) => Q r h) (kBt g n) (kA g)
/-- METHOD y, called with the arguments as over the cells h, comes back with an answer and cells that are Q -/
def Ev (g : kG) (y d : Nat) (as : List kV) (h : kH) (Q : Int32 → kH → Prop) : Prop :=
  Met (gl g) (kN y) (kws y) (kM y d) (kPc g h as) (kQc g y (hn h + (kc_c y).1) Q) (kc_c y).1 (kc_c y).2 (kA g)
def kzL (g : kG) (ls : Array Slot) (nL : Nat) (L : List (Option kV)) : Prop := ls.size = nL ∧ lv_wf ls ∧ ∀ (k : Nat) (v : kV), L[k]? = some (some v) → ls[k]? = some (.val (kv g v))
def kCx (g : kG) (y d : Nat) (Q : Int32 → kH → Prop) (p : Program) (e : Env) (R : Room) (s : State) (m : MethodId) (args : Array Value) (below : List Frame) (meth : Method) (c0 : Code) (h0 : kH) (Z : State → Prop) : Prop :=
  p.tables.exec = Jvm.exec ∧ c0.code = kB y ∧ c0.maxLocals = kL y ∧ s.vm.findClass (kN y).cls = some m.cls ∧ (∀ w ∈ kg_T, w.before args s = true) ∧ meth.name = (kN y).name ∧
  (d ≤ R.frames ∧ 60 * d ≤ R.locals ∧ (kc_c y).1 ≤ R.cells ∧ (kc_c y).2 ≤ R.slots) ∧ kGx g s s.heap ∧ s.heap.size = gb g + hn h0 ∧
  ∀ (H : Heap) (locs : List Loc) (c n : Nat) (ls : Array Slot) (pc : Nat) (x : Int32) (h1 : kH), kRp g h1 H → va_S (kA g) s.heap H locs → hn h1 = hn h0 + c → c = (kc_c y).1 → n ≤ (kc_c y).2 → Q x h1 →
    ((∃ ty, kT y = some ty ∧ narrow ty (.int x) = .int x ∧ decode (kB y) pc = .ok (.ireturn, 1)) → W p (gl g) e R s m args below meth c0 H locs c n Z (F0 m pc ls [.int x])) ∧
    ((kT y = none ∧ x = 0 ∧ decode (kB y) pc = .ok (.return_, 1)) → W p (gl g) e R s m args below meth c0 H locs c n Z (F0 m pc ls []))
/-- FROM instruction i of method y (depth d; c cells, n places made so far; locals L; stack st; cells h) it comes back with Q -/
def Wz (g : kG) (y d i c n : Nat) (L : List (Option kV)) (st : List kV) (h : kH) (Q : Int32 → kH → Prop) : Prop :=
  ∀ (p : Program) (e : Env) (R : Room) (s : State) (m : MethodId) (args : Array Value) (below : List Frame) (meth : Method) (c0 : Code) (h0 : kH) (Z : State → Prop) (H : Heap) (locs : List Loc) (ls : Array Slot),
    kCx g y d Q p e R s m args below meth c0 h0 Z → kRp g h H → va_S (kA g) s.heap H locs → kzL g ls (kL y) L → hn h = hn h0 + c →
    W p (gl g) e R s m args below meth c0 H locs c n Z (F0 m (kP y i) ls (st.map (kv g)))
/-! ===== one step ===== -/
abbrev kK_ : Type := Nat → Nat → Nat → List (Option kV) → List kV → kH → Prop
def sL (L : List (Option kV)) (k : Nat) (v : kV) : List (Option kV) := if k < L.length then L.set k (some v) else L ++ (List.replicate (k - L.length) none ++ [some v])
def u2 {α : Type} (f : Nat → Nat → α) (k j : Nat) (x : α) : Nat → Nat → α := fun a b => if a = k ∧ b = j then x else f a b
def uI (h : kH) (k j : Nat) (x : Int32) : kH := (hn h, hk h, u2 (hI h) k j x, hP h)
def uP (h : kH) (k j : Nat) (r : Option Nat) : kH := (hn h, hk h, hI h, u2 (hP h) k j r)
def uC (h : kH) (a b sp dp n : Nat) : kH := (hn h, hk h, (fun x => if x = b then va_cpy (hI h a) (hI h b) sp dp n else hI h x), hP h)
def uN (h : kH) (t w : Nat) : kH := (hn h + 1, (fun x => if x = hn h then (t, w) else hk h x), (fun x => if x = hn h then (fun _ => 0) else hI h x), (fun x => if x = hn h then (fun _ => none) else hP h x))
def kO (h : kH) (a c : Nat) : Prop := a < hn h ∧ hk h a = (0, c)
def kJ (h : kH) (a : Nat) : Prop := a < hn h ∧ (hk h a).1 = 1
def kU (h : kH) (a : Nat) : Prop := a < hn h ∧ (hk h a).1 = 2
def kl (h : kH) (a : Nat) : Nat := (hk h a).2
def krv (h : kH) (a c : Nat) : Prop := if c = 99 then a = 1000002 else kO h a c
def krt (rt : Option FieldType) (x : Int32) : Prop := match rt with
  | some .int => True
  | some .boolean => x = 0 ∨ x = 1
  | some .byte => x = 0 ∨ x = 1
  | some .char => ∃ q : Nat, q < 65536 ∧ x = nI q
  | _ => False
def cz (c : ClassFile.Cond) (x y : Int32) : Prop := match c with
  | .eq => x = y
  | .ne => ¬ x = y
  | .lt => x < y
  | .ge => y ≤ x
  | .gt => y < x
  | .le => x ≤ y
def swT (x : Int32) (k : Nat → Prop) : List Int → Int → Prop
  | [], _ => True
  | t :: r, lo => (x = Int32.ofInt lo → k t.toNat) ∧ swT x k r (lo + 1)
def lkT (x : Int32) (k : Nat → Prop) (d : Prop) : List (Int × Int) → Prop
  | [] => d
  | t :: r => (x = Int32.ofInt t.1 → k t.2.toNat) ∧ (¬ x = Int32.ofInt t.1 → lkT x k d r)
def lI (L : List (Option kV)) (k : Nat) (f : Int32 → Prop) : Prop := match L[k]? with
  | some (some (.inl x)) => f x
  | _ => False
def lR (L : List (Option kV)) (k : Nat) (f : Option Nat → Prop) : Prop := match L[k]? with
  | some (some (.inr r)) => f r
  | _ => False
def p1 (st : List kV) (f : Int32 → List kV → Prop) : Prop := match st with
  | .inl x :: r => f x r
  | _ => False
def p2 (st : List kV) (f : Int32 → Int32 → List kV → Prop) : Prop := match st with
  | .inl y :: .inl x :: r => f x y r
  | _ => False
def pr (st : List kV) (f : Nat → List kV → Prop) : Prop := match st with
  | .inr (some a) :: r => f a r
  | _ => False
def stp (g : kG) (rt : Option FieldType) (mc ms : Nat) (ev : Nat → List kV → kH → (Int32 → kH → Prop) → Prop) (K : kK_) (Q : Int32 → kH → Prop) (c n i : Nat) (L : List (Option kV)) (st : List kV) (h : kH) (ins : Instr) : Prop := match ins with
  | .sipush v => K c n (i + 1) L (.inl (Int32.ofInt v) :: st) h
  | .iload k => lI L k fun x => K c n (i + 1) L (.inl x :: st) h
  | .aload k => lR L k fun r => K c n (i + 1) L (.inr r :: st) h
  | .istore k => p1 st fun x r => K c n (i + 1) (sL L k (.inl x)) r h
  | .astore k => match st with
    | .inr v :: r => K c n (i + 1) (sL L k (.inr v)) r h
    | _ => False
  | .iinc k w => lI L k fun x => K c n (i + 1) (sL L k (.inl (x + Int32.ofInt w))) st h
  | .iadd => p2 st fun x y r => K c n (i + 1) L (.inl (x + y) :: r) h
  | .isub => p2 st fun x y r => K c n (i + 1) L (.inl (x - y) :: r) h
  | .imul => p2 st fun x y r => K c n (i + 1) L (.inl (x * y) :: r) h
  | .idiv => p2 st fun x y r => ¬ y = 0 ∧ K c n (i + 1) L (.inl (x / y) :: r) h
  | .irem => p2 st fun x y r => ¬ y = 0 ∧ K c n (i + 1) L (.inl (x - x / y * y) :: r) h
  | .ineg => p1 st fun x r => K c n (i + 1) L (.inl (-x) :: r) h
  | .iand => p2 st fun x y r => K c n (i + 1) L (.inl (x &&& y) :: r) h
  | .ior => p2 st fun x y r => K c n (i + 1) L (.inl (x ||| y) :: r) h
  | .ixor => p2 st fun x y r => K c n (i + 1) L (.inl (x ^^^ y) :: r) h
  | .ishl => p2 st fun x y r => K c n (i + 1) L (.inl (x <<< (y &&& 31)) :: r) h
  | .ishr => p2 st fun x y r => K c n (i + 1) L (.inl (x >>> (y &&& 31)) :: r) h
  | .iushr => p2 st fun x y r => K c n (i + 1) L (.inl (x.toUInt32 >>> (y.toUInt32 &&& Int32.toUInt32 31)).toInt32 :: r) h
  | .i2c => p1 st fun x r => K c n (i + 1) L (.inl (x.toUInt32 % 65536).toInt32 :: r) h
  | .dup => match st with
    | v :: r => K c n (i + 1) L (v :: v :: r) h
    | _ => False
  | .dup2 => match st with
    | v :: w :: r => K c n (i + 1) L (v :: w :: v :: w :: r) h
    | _ => False
  | .pop => match st with
    | _ :: r => K c n (i + 1) L r h
    | _ => False
  | .ifCond q t => p1 st fun x r => (cz q x 0 → K c n t.toNat L r h) ∧ (¬ cz q x 0 → K c n (i + 1) L r h)
  | .if_icmp q t => p2 st fun x y r => (cz q x y → K c n t.toNat L r h) ∧ (¬ cz q x y → K c n (i + 1) L r h)
  | .goto t => K c n t.toNat L st h
  | .ifnonnull t => match st with
    | .inr (some _) :: r => K c n t.toNat L r h
    | .inr none :: r => K c n (i + 1) L r h
    | _ => False
  | .tableswitch d lo hi ts => p1 st fun x r => swT x (fun t => K c n t L r h) ts.toList lo ∧ (x.toInt < lo ∨ hi < x.toInt → K c n d.toNat L r h)
  | .lookupswitch d ps => p1 st fun x r => lkT x (fun t => K c n t L r h) (K c n d.toNat L r h) ps.toList
  | .getstatic q => match q with
    | 0 => K c n (i + 1) L (.inl 1 :: st) h
    | 1 => K c n (i + 1) L (.inr (some 1000001) :: st) h
    | 2 => K c n (i + 1) L (.inr (gz g) :: st) h
    | _ => False
  | .ldc _ => K c n (i + 1) L (.inr (some 1000002) :: st) h
  | .ldc_w q => pr st fun a r => a = 1000002 ∧ match q with
    | 0 => K c n (i + 1) L (.inr (some 1000003) :: r) h
    | 1 => K c n (i + 1) L (.inl 0 :: r) h
    | _ => False
  | .getfield q => pr st fun a r => kO h a (kf_c q) ∧ K c n (i + 1) L (.inl (hI h a (kf_k q)) :: r) h
  | .checkcast q => pr st fun a r => kO h a (kf_c q) ∧ K c n (i + 1) L (.inr (hP h a (kf_k q)) :: r) h
  | .putfield q => match st with
    | .inl x :: .inr (some a) :: r => kO h a (kf_c q) ∧ (q % 2 = 1 → x = 0 ∨ x = 1) ∧ K c n (i + 1) L r (uI h a (kf_k q) x)
    | _ => False
  | .putstatic q => match st with
    | .inr v :: .inr (some a) :: r => kO h a (kf_c q) ∧ K c n (i + 1) L r (uP h a (kf_k q) v)
    | _ => False
  | .iaload => match st with
    | .inl x :: .inr (some a) :: r => if a < 1000000 then kJ h a ∧ vp_in x (kl h a) ∧ K c n (i + 1) L (.inl (hI h a x.toNatClampNeg) :: r) h
      else if a = 1000000 then vp_in x (gL g) ∧ K c n (i + 1) L (.inl (gs g x.toNatClampNeg) :: r) h
      else a = 1000001 ∧ vp_in x 4 ∧ K c n (i + 1) L (.inl (kS_x.getD x.toNatClampNeg 0) :: r) h
    | _ => False
  | .iastore => match st with
    | .inl v :: .inl x :: .inr (some a) :: r => kJ h a ∧ vp_in x (kl h a) ∧ K c n (i + 1) L r (uI h a x.toNatClampNeg v)
    | _ => False
  | .aaload => match st with
    | .inl x :: .inr (some a) :: r => kU h a ∧ vp_in x (kl h a) ∧ K c n (i + 1) L (.inr (hP h a x.toNatClampNeg) :: r) h
    | _ => False
  | .aastore => match st with
    | .inr (some v) :: .inl x :: .inr (some a) :: r => kU h a ∧ vp_in x (kl h a) ∧ kO h v 3 ∧ K c n (i + 1) L r (uP h a x.toNatClampNeg (some v))
    | _ => False
  | .baload => match st with
    | .inl x :: .inr (some a) :: r => a = 1000003 ∧ vp_in x 136 ∧ K c n (i + 1) L (.inl (kS_b.getD x.toNatClampNeg 0) :: r) h
    | _ => False
  | .arraylength => pr st fun a r => if a < 1000000 then kJ h a ∧ K c n (i + 1) L (.inl (Int32.ofNat (kl h a)) :: r) h
      else if a = 1000000 then K c n (i + 1) L (.inl (Int32.ofNat (gL g)) :: r) h
      else if a = 1000001 then K c n (i + 1) L (.inl (Int32.ofNat 4) :: r) h
      else a = 1000003 ∧ K c n (i + 1) L (.inl (Int32.ofNat 136) :: r) h
  | .newarray _ => p1 st fun x r => ¬ x < 0 ∧ x.toNatClampNeg ≤ 100000 ∧ hn h < 1000000 ∧ c + 1 ≤ mc ∧ n + x.toNatClampNeg ≤ ms ∧ K (c + 1) (n + x.toNatClampNeg) (i + 1) L (.inr (some (hn h)) :: r) (uN h 1 x.toNatClampNeg)
  | .anewarray _ => p1 st fun x r => ¬ x < 0 ∧ x.toNatClampNeg ≤ 100000 ∧ hn h < 1000000 ∧ c + 1 ≤ mc ∧ n + x.toNatClampNeg ≤ ms ∧ K (c + 1) (n + x.toNatClampNeg) (i + 1) L (.inr (some (hn h)) :: r) (uN h 2 x.toNatClampNeg)
  | .new q => hn h < 1000000 ∧ c + 1 ≤ mc ∧ n + kn_N q ≤ ms ∧ K (c + 1) (n + kn_N q) (i + 1) L (.inr (some (hn h)) :: st) (uN h 0 q)
  | .monitorexit => pr st fun _ r => r.length ≤ 8 ∧ K c n (i + 1) L r h
  | .swap => match st with
    | .inl w :: .inl dp :: .inr (some b) :: .inl sp :: .inr (some a) :: r => kJ h a ∧ kJ h b ∧ ¬ sp < 0 ∧ ¬ dp < 0 ∧ ¬ w < 0 ∧ sp.toNatClampNeg + w.toNatClampNeg ≤ kl h a ∧ dp.toNatClampNeg + w.toNatClampNeg ≤ kl h b ∧ r.length ≤ 8 ∧ K c n (i + 1) L r (uC h a b sp.toNatClampNeg dp.toNatClampNeg w.toNatClampNeg)
    | _ => False
  | .invokestatic q => c ≤ mc ∧ n ≤ ms ∧ kq_n q ≤ st.length ∧ (st.drop (kq_n q)).length ≤ 8 ∧ ev (kq_y q) (st.take (kq_n q)).reverse h (fun x h1 => K c n (i + 1) L (if q % 2 = 1 then st.drop (kq_n q) else .inl x :: st.drop (kq_n q)) h1)
  | .invokevirtual q => c ≤ mc ∧ n ≤ ms ∧ kq_n q ≤ st.length ∧ pr (st.drop (kq_n q)) fun a r => krv h a (kq_c q) ∧ r.length ≤ 8 ∧ ev (kq_y q) (.inr (some a) :: (st.take (kq_n q)).reverse) h (fun x h1 => K c n (i + 1) L (if q % 2 = 1 then r else .inl x :: r) h1)
  | .invokespecial q => kq_n q ≤ st.length ∧ pr (st.drop (kq_n q)) fun a r => kO h a (kq_c q) ∧ r.length ≤ 8 ∧ c + (kc_c (kq_y q)).1 ≤ mc ∧ n + (kc_c (kq_y q)).2 ≤ ms ∧ ev (kq_y q) (.inr (some a) :: (st.take (kq_n q)).reverse) h (fun _ h1 => K (c + (kc_c (kq_y q)).1) (n + (kc_c (kq_y q)).2) (i + 1) L r h1)
  | .ireturn => match st with
    | [.inl x] => krt rt x ∧ c = mc ∧ n ≤ ms ∧ Q x h
    | _ => False
  | .return_ => match st with
    | [] => rt = none ∧ c = mc ∧ n ≤ ms ∧ Q 0 h
    | _ => False
  | _ => False
def stf : List (Nat × Nat) → Nat → Option Nat
  | [], _ => none
  | q :: r, i => if q.1 = i then some q.2 else stf r i
/-- the demand of a stretch of the code: to the places that are listed (with how many locals), or to the end -/
def wq (g : kG) (y d : Nat) (rt : Option FieldType) (mc ms : Nat) (cd : List Instr) (stops : List (Nat × Nat)) (Q : Int32 → kH → Prop) : Nat → Nat → Nat → Nat → List (Option kV) → List kV → kH → Prop
  | 0, c, n, i, L, st, h => Wz g y (d + 1) i c n L st h Q
  | f + 1, c, n, i, L, st, h => match cd[i]? with
    | none => False
    | some ins => stp g rt mc ms (fun z as h1 Q1 => Ev g z d as h1 Q1) (fun c n i L st h => match stf stops i with
        | none => wq g y d rt mc ms cd stops Q f c n i L st h
        | some k => Wz g y (d + 1) i c n (L.take k) st h Q) Q c n i L st h ins
/-! what the demands rest on: the world as a list, locals, the tables' words -/
theorem ka_lt {g : kG} {k : Nat} (h : k < 1000000) : ka g k = gb g + k := if_pos h
theorem kw_get {g : kG} {h : kH} {k : Nat} (hk : k < hn h) : (kw g h)[k]? = some (ka g k, ken g h k) := by
  simp [kw, List.getElem?_map, List.getElem?_range hk]
theorem kw_of {g : kG} {h : kH} {k : Nat} {q : Nat × va_E} (e : (kw g h)[k]? = some q) : k < hn h ∧ q = (ka g k, ken g h k) := by
  have hl : k < (kw g h).length := (List.getElem?_eq_some_iff.mp e).1
  have hk : k < hn h := by simpa [kw] using hl
  exact ⟨hk, (Option.some.inj ((kw_get hk).symm.trans e)).symm⟩
theorem kw_D {g : kG} {h : kH} (hm : hn h ≤ 1000000) : va_D (kA g) (kw g h) := by
  refine ⟨fun i j p q hi hj hpq => ?_, fun k q hk => ?_⟩
  · obtain ⟨h1, rfl⟩ := kw_of hi
    obtain ⟨h2, rfl⟩ := kw_of hj
    have h3 : ka g i = ka g j := hpq
    rw [ka_lt (by omega), ka_lt (by omega)] at h3
    omega
  · obtain ⟨h1, rfl⟩ := kw_of hk
    show gb g ≤ ka g k
    rw [ka_lt (by omega)]
    omega
theorem ken_congr {g : kG} {h h1 : kH} {k : Nat} (e1 : hk h1 k = hk h k) (e2 : hI h1 k = hI h k) (e3 : hP h1 k = hP h k) : ken g h1 k = ken g h k := by
  simp only [ken, kfv, e1, e2, e3]
theorem kw_set {g : kG} {h h1 : kH} {k : Nat} (hk : k < hn h) (e0 : hn h1 = hn h) (e : ∀ j, j ≠ k → ken g h1 j = ken g h j) : (kw g h).set k (ka g k, ken g h1 k) = kw g h1 := by
  apply List.ext_getElem?
  intro j
  by_cases hj : j = k
  · subst hj
    rw [List.getElem?_set_self (by simpa [kw] using hk), kw_get (by omega)]
  · rw [List.getElem?_set_ne (Ne.symm hj)]
    by_cases hl : j < hn h
    · rw [kw_get hl, kw_get (by omega), e j hj]
    · rw [List.getElem?_eq_none (by simp [kw]; omega), List.getElem?_eq_none (by simp [kw]; omega)]
theorem kw_push {g : kG} {h h1 : kH} (e0 : hn h1 = hn h + 1) (e : ∀ j, j < hn h → ken g h1 j = ken g h j) : kw g h ++ [(ka g (hn h), ken g h1 (hn h))] = kw g h1 := by
  simp only [kw, e0, List.range_succ, List.map_append, List.map_cons, List.map_nil]
  congr 1
  exact List.map_congr_left fun j hj => by rw [e j (List.mem_range.mp hj)]
theorem kv_cat (g : kG) (v : kV) : (kv g v).category = 1 := by
  rcases v with x | r
  · rfl
  · cases r <;> rfl
theorem kv_sum (g : kG) (r : List kV) : ((r.map (kv g)).map fun v => v.category).sum = r.length := by
  induction r with
  | nil => rfl
  | cons v r ih =>
    simp only [List.map_cons, List.sum_cons, kv_cat, List.length_cons] at ih ⊢
    omega
theorem kg_warm {s U : State} (hW : s.WarmedH U.vm) (h : ∀ w ∈ kg_N, va_Nw w s) : ∀ w ∈ kg_N, va_Nw w U := by
  unfold kg_N at h ⊢
  simp only [List.forall_mem_cons] at h ⊢
  exact ⟨va_Nw.warmM hW h.1, va_Nw.warmM hW h.2.1, va_Nw.warmM hW h.2.2.1, va_Nw.warmF hW h.2.2.2.1, fun _ z => absurd z List.not_mem_nil⟩
theorem kg_same {u U : State} (hv : u.vm = U.vm) (h : ∀ w ∈ kg_N, va_Nw w u) : ∀ w ∈ kg_N, va_Nw w U := by
  unfold kg_N at h ⊢
  simp only [List.forall_mem_cons] at h ⊢
  exact ⟨va_Nw.same rfl hv h.1, va_Nw.same rfl hv h.2.1, va_Nw.same rfl hv h.2.2.1, va_Nw.same rfl hv h.2.2.2.1, fun _ z => absurd z List.not_mem_nil⟩
def kg_n (w : Cond) : Bool := match w with
  | .fieldLinkNest .. => true
  | .methodLinkNest .. => true
  | _ => false
theorem kg_n_all : tables_1.filter kg_n = kg_N := by decide +kernel
theorem kg_n_in {pl : Nat} {w : Cond} (h : wd pl w = true) (hn' : kg_n w = true) : w ∈ kg_N := by
  rw [← kg_n_all]
  exact List.mem_filter.mpr ⟨List.mem_of_getElem? (of_decide_eq_true h), hn'⟩
theorem kGx_call {g : kG} {s U : State} {H : Heap} {locs : List Loc} (hG : kGx g s s.heap) (hS : va_S (kA g) s.heap H locs) (hU : U.heap = H) (hW : s.WarmedH U.vm) : kGx g U U.heap := by
  obtain ⟨a1, a2, a3, ⟨a4, a5, a6⟩, a7, a8, a9, a10, a11, a12, a13⟩ := hG
  have hq : ∀ a : Nat, a < s.heap.size → ¬ kA g a → U.heap[a]? = s.heap[a]? := by rw [hU]; exact hS.2.1
  have hv : s.vm.Alike U.vm := hW.alike
  exact ⟨va_K.moved hv a1, va_T.moved hv (a2.kept hq), va_T.moved hv (a3.kept hq), ⟨va_O.moved hv (a4.kept hq), va_OF.moved hv (a5.kept hq), va_OF.moved hv (a6.kept hq)⟩, va_T.moved hv (a7.kept hq), va_Z.moved hv (a8.kept hq), va_Z.moved hv (a9.kept hq), va_Z.moved hv (a10.kept hq), vk_R.warm hW a11, va_AO.moved hv a12, kg_warm hW a13⟩
theorem kGx_blind {g : kG} {U : State} (f : JFrame) (mk : MethodId) (a : Array Value) (h : kGx g U U.heap) : kGx g (U.calling f mk a) (U.calling f mk a).heap := by
  obtain ⟨a1, a2, a3, ⟨a4, a5, a6⟩, a7, a8, a9, a10, a11, a12, a13⟩ := h
  have hv : U.vm.Alike (U.calling f mk a).vm := Vm.Alike.refl U.vm
  exact ⟨va_K.moved hv a1, va_T.moved hv a2, va_T.moved hv a3, ⟨va_O.moved hv a4, va_OF.moved hv a5, va_OF.moved hv a6⟩, va_T.moved hv a7, va_Z.moved hv a8, va_Z.moved hv a9, va_Z.moved hv a10, vk_R.same (u := U) (U := U.calling f mk a) rfl a11, va_AO.moved hv a12, kg_same (u := U) (U := U.calling f mk a) rfl a13⟩
theorem kPc_blind (g : kG) (h : kH) (as : List kV) : FrameBlind (kPc g h as) := fun a U f mk q => ⟨q.1, kGx_blind f mk a q.2.1, q.2.2.1, q.2.2.2⟩
/-! locals -/
theorem sL_get {L : List (Option kV)} {i k : Nat} {v w : kV} (h : (sL L i v)[k]? = some (some w)) : (k = i ∧ w = v) ∨ (k ≠ i ∧ L[k]? = some (some w)) := by
  unfold sL at h
  split at h
  · rename_i hi
    by_cases hk : k = i
    · subst hk
      rw [List.getElem?_set_self hi] at h
      exact Or.inl ⟨rfl, (Option.some.inj (Option.some.inj h)).symm⟩
    · rw [List.getElem?_set_ne (Ne.symm hk)] at h
      exact Or.inr ⟨hk, h⟩
  · rename_i hi
    by_cases hk : k < L.length
    · rw [List.getElem?_append_left hk] at h
      exact Or.inr ⟨by omega, h⟩
    · rw [List.getElem?_append_right (by omega)] at h
      by_cases h2 : k - L.length < i - L.length
      · rw [List.getElem?_append_left (by simpa using h2), List.getElem?_replicate] at h
        simp [h2] at h
      · rw [List.getElem?_append_right (by simpa using h2)] at h
        simp only [List.length_replicate] at h
        have h3 : k - L.length - (i - L.length) < 1 := (List.getElem?_eq_some_iff.mp h).1
        have h4 : k = i := by omega
        subst h4
        rw [Nat.sub_self] at h
        exact Or.inl ⟨rfl, (Option.some.inj (Option.some.inj h)).symm⟩
def kpr (g : kG) (L : List (Option kV)) : List (Nat × Value) := (List.range L.length).filterMap fun k => match L[k]? with
  | some (some v) => some (k, kv g v)
  | _ => none
theorem kpr_in {g : kG} {L : List (Option kV)} {k : Nat} {v : kV} (h : L[k]? = some (some v)) : (k, kv g v) ∈ kpr g L :=
  List.mem_filterMap.mpr ⟨k, List.mem_range.mpr (List.getElem?_eq_some_iff.mp h).1, by simp only [h]⟩
theorem kpr_has {g : kG} {ls : Array Slot} {nL : Nat} {L : List (Option kV)} (h : kzL g ls nL L) : lv_has ls nL (kpr g L) := by
  refine ⟨h.1, h.2.1, fun q hq => ?_⟩
  obtain ⟨k, -, hk⟩ := List.mem_filterMap.mp hq
  split at hk
  · rename_i v hv
    cases hk
    exact h.2.2 k v hv
  · cases hk
theorem kz_store {g : kG} {ls : Array Slot} {nL i : Nat} {L : List (Option kV)} {v : kV} (h : lv_has ls nL ((i, kv g v) :: (kpr g L).filter (fun q => !(q.1 == i) && !(q.1 + 1 == i && q.2.category == 2)))) : kzL g ls nL (sL L i v) := by
  refine ⟨h.1, h.2.1, fun k w hk => ?_⟩
  rcases sL_get hk with ⟨rfl, rfl⟩ | ⟨hne, hL⟩
  · exact h.2.2 (k, kv g w) List.mem_cons_self
  · refine h.2.2 (k, kv g w) (List.mem_cons_of_mem _ (List.mem_filter.mpr ⟨kpr_in hL, ?_⟩))
    simp [hne, kv_cat]
theorem kz_take {g : kG} {ls : Array Slot} {nL k : Nat} {L : List (Option kV)} (h : kzL g ls nL L) : kzL g ls nL (L.take k) := by
  refine ⟨h.1, h.2.1, fun j v hj => h.2.2 j v ?_⟩
  rw [List.getElem?_take] at hj
  split at hj
  · exact hj
  · cases hj
theorem lg_len (vs : List Value) (h : ∀ v ∈ vs, v.category = 1) : (lg_sl vs).length = vs.length := by
  induction vs with
  | nil => rfl
  | cons v vs ih =>
    have h1 : v.category = 1 := h v List.mem_cons_self
    have h2 := ih fun w hw => h w (List.mem_cons_of_mem _ hw)
    simp only [lg_sl, List.flatMap_cons] at h2 ⊢
    rw [if_neg (by omega), List.length_append, h2]
    simp
    omega
theorem lv_args_in : ∀ (vs : List Value) (i k : Nat) (v : Value), (∀ w ∈ vs, w.category = 1) → vs[k]? = some v → (i + k, v) ∈ lv_args i vs
  | [], i, k, v, _, h => by simp at h
  | w :: vs, i, 0, v, _, h => by
    simp only [List.getElem?_cons_zero, Option.some.injEq] at h
    subst h
    exact List.mem_cons_self
  | w :: vs, i, k + 1, v, hc, h => by
    simp only [List.getElem?_cons_succ] at h
    have h1 : w.category = 1 := hc w List.mem_cons_self
    have h2 := lv_args_in vs (i + 1) k v (fun z hz => hc z (List.mem_cons_of_mem _ hz)) h
    unfold lv_args
    rw [if_neg (by omega)]
    rw [show i + (k + 1) = i + 1 + k by omega]
    exact List.mem_cons_of_mem _ h2
/-! the tables -/
theorem ko_k_at {own : String} {init : Bool} {ml : Nat} {B : ByteArray} {pcs : Nat → Nat} {ir : Instr} : ∀ (R : List (Nat × Nat × Nat × Nat)) (C : List Instr) (i : Nat), ko_k own init ml B pcs R C = true → C[i]? = some ir → ir ≠ .nop → ∃ q, R[i]? = some q ∧ decode B q.1 = .ok (ko_w pcs q.1 q.2.2.1 q.2.2.2 ir, q.2.2.2) ∧ ko_r own init ml q.2.1 q.2.2.1 q.2.2.2 ir = true
  | _, [], i, _, h, _ => by simp at h
  | [], _ :: _, i, h, _, _ => by simp [ko_k] at h
  | q :: r, c :: s, 0, h, e, hn' => by
    simp only [List.getElem?_cons_zero, Option.some.injEq] at e
    subst e
    simp only [ko_k, Bool.and_eq_true, Bool.or_eq_true, decide_eq_true_eq] at h
    exact ⟨q, rfl, h.1.1.resolve_left hn', h.1.2⟩
  | q :: r, c :: s, i + 1, h, e, hn' => by
    simp only [List.getElem?_cons_succ] at e ⊢
    simp only [ko_k, Bool.and_eq_true] at h
    exact ko_k_at r s i h.2 e hn'
theorem ko_p_0 {z p : Nat} {R : List (Nat × Nat × Nat × Nat)} (h : ko_p z R p = true) : kpl R z 0 = p := by
  cases R with
  | nil => simpa [ko_p, kpl] using (of_decide_eq_true h).symm
  | cons q r =>
    simp only [ko_p, Bool.and_eq_true, decide_eq_true_eq] at h
    simpa [kpl] using h.1
theorem ko_p_at {z : Nat} : ∀ (R : List (Nat × Nat × Nat × Nat)) (p i : Nat) (q : Nat × Nat × Nat × Nat), ko_p z R p = true → R[i]? = some q → kpl R z (i + 1) = q.1 + q.2.2.2
  | [], _, i, q, _, h => by simp at h
  | q0 :: r, p, 0, q, h, e => by
    simp only [List.getElem?_cons_zero, Option.some.injEq] at e
    subst e
    simp only [ko_p, Bool.and_eq_true, decide_eq_true_eq] at h
    have h1 := ko_p_0 h.2
    rw [← h.1] at h1
    simpa [kpl] using h1
  | q0 :: r, p, i + 1, q, h, e => by
    simp only [List.getElem?_cons_succ] at e
    simp only [ko_p, Bool.and_eq_true] at h
    have h1 := ko_p_at r _ i q h.2 e
    simpa [kpl] using h1
theorem kt_len : kt.length = 305 := by decide +kernel
theorem kt_in {y : Nat} (hy : y < 305) : kt.getD y kQ0 ∈ kt := by
  have h : y < kt.length := by rw [kt_len]; exact hy
  rw [List.getD_eq_getElem?_getD, List.getElem?_eq_getElem h, Option.getD_some]
  exact List.getElem_mem h
theorem ko_get {y i : Nat} {ins : Instr} (hy : y < 305) (hins : (kC y)[i]? = some ins) (hnop : ins ≠ .nop) : ∃ (pl x len : Nat), decode (kB y) (kP y i) = .ok (ko_w (kP y) (kP y i) x len ins, len) ∧ kP y (i + 1) = kP y i + len ∧ ko_r (kN y).cls (decide ((kN y).name = "<init>")) (kL y) pl x len ins = true := by
  obtain ⟨h1, h2⟩ := kf_all _ (kt_in hy)
  obtain ⟨q, hq, hd, hr⟩ := ko_k_at (kR y) (kC y) i h2 hins hnop
  have hp : kP y i = q.1 := by
    unfold kP kpl
    rw [hq]
    rfl
  refine ⟨q.2.1, q.2.2.1, q.2.2.2, ?_, ?_, hr⟩
  · rw [hp]; exact hd
  · rw [hp]; exact ko_p_at (kR y) 0 i q h1 hq
theorem kn_kinds_all : ∀ c, c < 12 → ∀ j, j < kn_N c → kr_t (kn_t c j) = true ∨ kn_t c j = .int ∨ kn_t c j = .boolean := by decide +kernel
theorem kn_kinds {c : Nat} (h : c < 12) {j : Nat} (hj : j < kn_N c) : kr_t (kn_t c j) = true ∨ kn_t c j = .int ∨ kn_t c j = .boolean := kn_kinds_all c h j hj
theorem kg_good {w : Cond} (h : w ∈ kg_T) : (w.onTables && w.keeps) = true ∨ ∃ ty, w = .arrayClass ty := good_of_word (List.mem_filter.mp h).2
theorem ko_mg {y : Nat} (hy : y < 304) : plainFor (kN y) = true ∧ ((kN y).cls ≠ "java/lang/invoke/MethodHandle" ∧ (kN y).cls ≠ "java/lang/invoke/VarHandle") ∧ Cond.code (kN y) (kB y) (kL y) (kT y) ∈ kg_T ∧ Cond.initialized (kN y).cls ∈ kg_T ∧
    ((kK y).1 = 0 → Cond.static (kN y) ∈ kg_T) ∧ ((kK y).1 = 1 → Cond.instanceMethod (kN y) ∈ kg_T ∧ Cond.selects (kN y).cls (kN y) (kN y) ∈ kg_T) ∧ ((kK y).1 = 2 → Cond.instanceMethod (kN y) ∈ kg_T ∧ (kN y).name = "<init>" ∧ kT y = none) ∧ kL y ≤ 40 ∧ kP y 0 = 0 := by
  have h := km_all _ (kt_in (y := y) (by omega))
  have hcode := ke_all _ (kt_in (y := y) (by omega))
  have h3 : (kK y).1 < 3 := of_decide_eq_true (List.all_eq_true.mp kK_lt y (List.mem_range.mpr hy))
  unfold kP kN kB kL kT kR kK at *
  generalize kt.getD y kQ0 = q at h h3 hcode ⊢
  obtain ⟨N, B, ml, rt, R, C, K, c, i, t, v⟩ := q
  dsimp only at h3 ⊢
  have hcode := hcode.resolve_left (by show ¬ K = 3; omega)
  unfold kkM2 at h
  dsimp only at h hcode
  rw [if_neg (by omega)] at h
  simp only [Bool.and_eq_true, decide_eq_true_eq] at h
  obtain ⟨⟨⟨⟨⟨⟨⟨h1, h2⟩, h3⟩, -⟩, h5⟩, h6⟩, h7⟩, h8⟩ := h
  refine ⟨kk_plain h1, ⟨h2, h3⟩, hcode, wd_in h5 rfl, fun e => ?_, fun e => ?_, fun e => ?_, h7, h8⟩
  · subst e
    exact wd_in h6 rfl
  · subst e
    simp only [Bool.and_eq_true] at h6
    refine ⟨wd_in h6.1 rfl, ?_⟩
    have h9 := h6.2
    split at h9
    · exact wd_in h9 rfl
    · have h10 := of_decide_eq_true h9
      rw [Option.map_eq_some_iff] at h10
      obtain ⟨q, hq, hq2⟩ := h10
      refine List.mem_filter.mpr ⟨List.mem_append_left _ (List.mem_map.mpr ⟨q, List.mem_of_getElem? hq, ?_⟩), rfl⟩
      rw [hq2]
  · subst e
    simp only [Bool.and_eq_true, decide_eq_true_eq] at h6
    exact ⟨wd_in h6.1.1 rfl, h6.1.2, h6.2⟩
theorem kws_good {y : Nat} (hy : y < 304) : GoodIn kg_T (kws y) := by
  intro w hw
  rcases List.mem_cons.mp hw with rfl | h
  · exact ⟨(ko_mg hy).2.2.1, kg_good (ko_mg hy).2.2.1⟩
  · exact ⟨h, kg_good h⟩
theorem krt_ok {rt : Option FieldType} {x : Int32} (h : krt rt x) : ∃ ty, rt = some ty ∧ narrow ty (.int x) = .int x := by
  unfold krt at h
  split at h
  · exact ⟨_, rfl, rfl⟩
  · rcases h with rfl | rfl <;> exact ⟨_, rfl, by decide⟩
  · rcases h with rfl | rfl <;> exact ⟨_, rfl, by decide⟩
  · obtain ⟨q, hq, rfl⟩ := h
    exact ⟨_, rfl, (pk_charN hq).1⟩
  · exact h.elim
theorem W_size {p : Program} {l : Launch} {e : Env} {R : Room} {s : State} {m : MethodId} {args : Array Value} {below : List Frame} {meth : Method} {c : Code} {H : Heap} {locs : List Loc} {cells slots : Nat} {Q : State → Prop} {f : JFrame} (k : H.size ≤ s.heap.size + cells → W p l e R s m args below meth c H locs cells slots Q f) : W p l e R s m args below meth c H locs cells slots Q f :=
  fun T hT X => k (by have := X.heapSize; rwa [hT] at this) T hT X
theorem k_size {g : kG} {h h0 : kH} {s : State} {H : Heap} {locs : List Loc} {c : Nat} (hR : kRp g h H) (hS : va_S (kA g) s.heap H locs) (h1 : s.heap.size = gb g + hn h0) (h2 : hn h = hn h0 + c) (h3 : H.size ≤ s.heap.size + c) : H.size = gb g + hn h := by
  have h4 := hS.1
  by_cases hc : c = 0
  · omega
  · have h5 := (hR.1 (hn h - 1) _ (kw_get (by omega))).lt
    have h6 := hR.2
    have h7 : ka g (hn h - 1) < H.size := h5
    rw [ka_lt (by omega)] at h7
    omega
theorem p1_ok {st : List kV} {f : Int32 → List kV → Prop} (h : p1 st f) : ∃ x r, st = .inl x :: r ∧ f x r := by
  unfold p1 at h
  split at h
  · exact ⟨_, _, rfl, h⟩
  · exact h.elim
theorem p2_ok {st : List kV} {f : Int32 → Int32 → List kV → Prop} (h : p2 st f) : ∃ x y r, st = .inl y :: .inl x :: r ∧ f x y r := by
  unfold p2 at h
  split at h
  · exact ⟨_, _, _, rfl, h⟩
  · exact h.elim
theorem pr_ok {st : List kV} {f : Nat → List kV → Prop} (h : pr st f) : ∃ a r, st = .inr (some a) :: r ∧ f a r := by
  unfold pr at h
  split at h
  · exact ⟨_, _, rfl, h⟩
  · exact h.elim
theorem lI_ok {L : List (Option kV)} {k : Nat} {f : Int32 → Prop} (h : lI L k f) : ∃ x, L[k]? = some (some (.inl x)) ∧ f x := by
  unfold lI at h
  split at h
  · rename_i x hx
    exact ⟨x, hx, h⟩
  · exact h.elim
theorem lR_ok {L : List (Option kV)} {k : Nat} {f : Option Nat → Prop} (h : lR L k f) : ∃ r, L[k]? = some (some (.inr r)) ∧ f r := by
  unfold lR at h
  split at h
  · rename_i r hr
    exact ⟨r, hr, h⟩
  · exact h.elim
/-! ONE STEP IS SOUND -/
set_option maxHeartbeats 4000000 in
theorem Ev_call {g : kG} {y z d c n : Nat} {as : List kV} {r : List kV} {h h0 : kH} {Q : Int32 → kH → Prop} {Q1 : Int32 → kH → Prop} {p : Program} {e : Env} {R : Room} {s : State} {m : MethodId} {args : Array Value} {below : List Frame} {meth : Method} {c0 : Code} {Z : State → Prop} {H : Heap} {locs : List Loc} {ls : Array Slot} {pc : Nat} {st0 : List Value}
    (hz : z < 304) (C : kCx g y (d + 1) Q p e R s m args below meth c0 h0 Z) (hR : kRp g h H) (hS : va_S (kA g) s.heap H locs) (hL : ls.size = kL y) (hc : hn h = hn h0 + c) (hsz : H.size = gb g + hn h)
    (hE : Ev g z d as h Q1)
    (hrun : ∀ (mc ms : Nat) (Pc : Array Value → State → Prop) (Qc : Array Value → State → Outcome → State → Prop), mc = (kc_c z).1 → ms = (kc_c z).2 → Met (gl g) (kN z) (kws z) (kM z d) Pc Qc mc ms (kA g) → FrameBlind Pc → (∀ U : State, U.heap = H → s.WarmedH U.vm → Pc (as.map (kv g)).toArray U) →
      va_Run p (gl g) e R s m args below meth c0 H locs c n mc ms (F0 m pc ls st0) (r.map (kv g)) (Qc (as.map (kv g)).toArray) (kA g))
    (K : ∀ (v : Int32) (h1 : kH) (H1 : Heap) (locs1 : List Loc), Q1 v h1 → kRp g h1 H1 → va_S (kA g) s.heap H1 locs1 → hn h1 = hn h0 + (c + (kc_c z).1) → W p (gl g) e R s m args below meth c0 H1 locs1 (c + (kc_c z).1) (n + (kc_c z).2) Z (F0 m (pc + 3) ls (if kT z = none then r.map (kv g) else .int v :: r.map (kv g)))) :
    W p (gl g) e R s m args below meth c0 H locs c n Z (F0 m pc ls st0) := by
  obtain ⟨hx, hb, hml, hown, hts, hnm, hrm, hG, hs0, hret⟩ := C
  have hpre : ∀ U : State, U.heap = H → s.WarmedH U.vm → kPc g h as (as.map (kv g)).toArray U := fun U hU hW => ⟨rfl, kGx_call hG hS hU hW, by rw [hU]; exact hR, by rw [hU]; exact hsz⟩
  have run := hrun _ _ _ _ rfl rfl hE (kPc_blind g h as) hpre
  cases ht : kT z with
  | none =>
    simp only [kQc, ht] at run
    refine va_callv run hS (fun q _ h => h) (fun q h => h) fun u t H1 locs1 e1 hvm hq hB hle hkeep hS1 => ?_
    have hB1 : kRp g u H1 := by rw [← e1]; exact hB.1
    have k := K 0 u H1 locs1 hq hB1 hS1 (by rw [hB.2]; omega)
    rwa [if_pos ht] at k
  | some ty =>
    simp only [kQc, ht] at run
    refine va_calli run hS (fun q _ h => h) (fun q h => h) fun v u t H1 locs1 e1 hvm hq hB hle hkeep hS1 => ?_
    have hB1 : kRp g u H1 := by rw [← e1]; exact hB.1
    have k := K v u H1 locs1 hq hB1 hS1 (by rw [hB.2]; omega)
    rwa [if_neg (by rw [ht]; exact fun q => by cases q)] at k
theorem ko_q_use {q : Nat} (h : ko_q q = true) : (parseMethodDescriptor (kN (kq_y q)).desc).map (fun d => d.parameters.length) = some (kq_n q) ∧ q % 2 = if kT (kq_y q) = none then 1 else 0 := by
  simpa [ko_q] using h
theorem kq_if {α : Type} {q : Nat} (h : q % 2 = if kT (kq_y q) = none then 1 else 0) (a b : α) : (if q % 2 = 1 then a else b) = if kT (kq_y q) = none then a else b := by
  by_cases ht : kT (kq_y q) = none
  · rw [if_pos ht] at h; rw [if_pos h, if_pos ht]
  · rw [if_neg ht] at h; rw [if_neg (by omega), if_neg ht]
theorem sw_toInt {a : Int} (h1 : -2147483648 ≤ a) (h2 : a < 2147483648) {x : Int32} (h : x.toInt = a) : x = Int32.ofInt a := by
  rw [← h, Int32.ofInt_toInt]
theorem sw_in {x : Int32} {k : Nat → Prop} : ∀ (ts : List Int) (lo : Int), swT x k ts lo → -2147483648 ≤ lo → lo + (ts.length : Int) ≤ 2147483648 → ∀ (j : Nat) (t : Int), ts[j]? = some t → x.toInt = lo + j → k t.toNat
  | [], _, _, _, _, j, t, hj, _ => by simp at hj
  | a :: r, lo, h, h1, h2, 0, t, hj, hx => by
    simp only [List.getElem?_cons_zero, Option.some.injEq] at hj
    subst hj
    simp only [List.length_cons] at h2
    exact h.1 (sw_toInt (by omega) (by omega) (by simpa using hx))
  | a :: r, lo, h, h1, h2, j + 1, t, hj, hx => by
    simp only [List.getElem?_cons_succ] at hj
    simp only [List.length_cons] at h2
    exact sw_in r (lo + 1) h.2 (by omega) (by omega) j t hj (by omega)
theorem lk_in {x : Int32} {k : Nat → Prop} {d : Prop} (P : Nat → Prop) (pcs : Nat → Nat) (pc : Nat) (dt : Int) : ∀ (ts : List (Int × Int)), lkT x k d ts → (∀ o ∈ ts, -2147483648 ≤ o.1 ∧ o.1 < 2147483648) → (∀ t, k t → P (pcs t)) → (d → P (pcs dt.toNat)) →
    ∃ tgt : Nat, (pc : Int) + Op.lookupswitch.offset (ts.map fun t => (t.1, (pcs t.2.toNat : Int) - (pc : Int))) ((pcs dt.toNat : Int) - (pc : Int)) x.toInt = (tgt : Int) ∧ P tgt
  | [], h, _, _, hd => ⟨pcs dt.toNat, by rw [List.map_nil, Op.lookupswitch.offset_nil]; omega, hd h⟩
  | a :: r, h, hb, hk, hd => by
    have hb1 := hb a List.mem_cons_self
    by_cases hx : x = Int32.ofInt a.1
    · refine ⟨pcs a.2.toNat, ?_, hk _ (h.1 hx)⟩
      have h2 : x.toInt = a.1 := by rw [hx, Int32.toInt_ofInt_of_le] <;> omega
      rw [List.map_cons, Op.lookupswitch.offset_cons, if_pos h2.symm]
      omega
    · obtain ⟨tgt, h3, h4⟩ := lk_in P pcs pc dt r (h.2 hx) (fun o ho => hb o (List.mem_cons_of_mem _ ho)) hk hd
      refine ⟨tgt, ?_, h4⟩
      have h5 : ¬ a.1 = x.toInt := fun q => hx (sw_toInt hb1.1 hb1.2 q.symm)
      rw [← h3, List.map_cons, Op.lookupswitch.offset_cons, if_neg h5]
theorem vp_lt {x : Int32} {n : Nat} (h : vp_in x n) : x.toNatClampNeg < n := Nat.not_le.mp fun q => h (Or.inr q)
theorem ken_O {g : kG} {h : kH} {a c : Nat} (e : hk h a = (0, c)) : ken g h a = .inr (c, (List.range (kn_N c)).map (fun i => kfv g h a c i)) := by
  simp only [ken, e]
theorem ken_J {g : kG} {h : kH} {a : Nat} (e : (hk h a).1 = 1) : ken g h a = .inl (gI g, kl h a, .inl (hI h a)) := by
  simp only [ken, e, kl]
theorem ken_U {g : kG} {h : kH} {a : Nat} (e : (hk h a).1 = 2) : ken g h a = .inl (gF g, kl h a, .inr (.inr (.inr (.inr (fun i => (hP h a i).map (ka g)))))) := by
  simp only [ken, e, kl]
theorem ken_fld {g : kG} {h : kH} {a c k : Nat} (hk : k < kn_N c) : ((List.range (kn_N c)).map (fun i => kfv g h a c i))[k]? = some (kfv g h a c k) := by
  rw [List.getElem?_map, List.getElem?_range hk]
  rfl
theorem ken_fset {g : kG} {h h1 : kH} {a c k : Nat} (hk : k < kn_N c) {v : Value} (e1 : kfv g h1 a c k = v) (e2 : ∀ i, i ≠ k → kfv g h1 a c i = kfv g h a c i) : ((List.range (kn_N c)).map (fun i => kfv g h a c i)).set k v = (List.range (kn_N c)).map (fun i => kfv g h1 a c i) := by
  apply List.ext_getElem?
  intro j
  by_cases hj : j = k
  · subst hj
    rw [List.getElem?_set_self (by simpa using hk), ken_fld hk, e1]
  · rw [List.getElem?_set_ne (Ne.symm hj)]
    by_cases hl : j < kn_N c
    · rw [ken_fld hl, ken_fld hl, e2 j hj]
    · rw [List.getElem?_eq_none (by simp; omega), List.getElem?_eq_none (by simp; omega)]
theorem uI_ken {g : kG} {h : kH} {a j : Nat} {x : Int32} {b : Nat} (hb : b ≠ a) : ken g (uI h a j x) b = ken g h b :=
  ken_congr rfl (by funext q; simp [uI, hI, u2, hb]) rfl
theorem uP_ken {g : kG} {h : kH} {a j : Nat} {x : Option Nat} {b : Nat} (hb : b ≠ a) : ken g (uP h a j x) b = ken g h b :=
  ken_congr rfl rfl (by funext q; simp [uP, hP, u2, hb])
/-- a store into a cell: the world behind it -/
theorem kw_st {g : kG} {h h1 : kH} {a : Nat} {e : va_E} {H1 : Heap} (ha : a < hn h) (hm : hn h ≤ 1000000) (e0 : hn h1 = hn h) (e1 : ken g h1 a = e) (e2 : ∀ b, b ≠ a → ken g h1 b = ken g h b) (hP1 : va_P (gD g) vwCl ((kw g h).set a (ka g a, e)) H1) : kRp g h1 H1 := by
  subst e1
  rw [kw_set ha e0 e2] at hP1
  exact ⟨hP1, by rw [e0]; exact hm⟩
theorem kn_prim {c k : Nat} (h : kn_t c k = .int ∨ kn_t c k = .boolean) : kr_t (kn_t c k) = false := by
  rcases h with h | h <;> rw [h] <;> rfl
theorem kr_t_cases {t : FieldType} (h : kr_t t = true) : (∃ n, t = .object n) ∨ ∃ n, t = .array n := by
  unfold kr_t at h
  split at h
  · exact Or.inl ⟨_, rfl⟩
  · exact Or.inr ⟨_, rfl⟩
  · cases h
theorem kr_fit {t : FieldType} (h : kr_t t = true) (r : Option Nat) : narrow t (va_rf r) = va_rf r ∧ fits t (va_rf r) = true := by
  rcases kr_t_cases h with ⟨n, rfl⟩ | ⟨n, rfl⟩ <;> cases r <;> exact ⟨rfl, rfl⟩
theorem kn_fresh {g : kG} {w j : Nat} (h : kH) (ty : Nat → FieldType) (hj : j < kn_N w) (hp : kr_t (ty j) = true ∨ ty j = .int ∨ ty j = .boolean) (e : ty j = kn_t w j) : defaultValue (ty j) = vp_V ((List.range (kn_N w)).map (fun i => kfv g (uN h 0 w) (hn h) w i)) j := by
  unfold vp_V
  rw [List.getD_eq_getElem?_getD, ken_fld hj, Option.getD_some]
  unfold kfv
  rcases hp with hp | hp | hp
  · rw [← e, if_pos hp]
    have h1 : hP (uN h 0 w) (hn h) j = none := by simp [uN, hP]
    rw [h1]
    rcases kr_t_cases hp with ⟨n, hn'⟩ | ⟨n, hn'⟩ <;> rw [hn'] <;> rfl
  · rw [← e, hp, if_neg (by decide)]
    have h1 : hI (uN h 0 w) (hn h) j = 0 := by simp [uN, hI]
    rw [h1]; rfl
  · rw [← e, hp, if_neg (by decide)]
    have h1 : hI (uN h 0 w) (hn h) j = 0 := by simp [uN, hI]
    rw [h1]; rfl
theorem uN_ken {g : kG} {h : kH} {t w b : Nat} (hb : b < hn h) : ken g (uN h t w) b = ken g h b := by
  have hne : b ≠ hn h := by omega
  refine ken_congr ?_ ?_ ?_
  · simp [uN, hk, hne]
  · simp [uN, hI, hne]
  · simp [uN, hP, hne]
/-- a new cell stands at the next address -/
theorem kq_new {g : kG} {h h0 : kH} {s : State} {H1 : Heap} {c q : Nat} {e : va_E} (hm : hn h < 1000000) (hP1 : va_P (gD g) vwCl (kw g h ++ [(q, e)]) H1) (hD1 : va_D (kA g) (kw g h ++ [(q, e)])) (h1 : s.heap.size = gb g + hn h0) (h2 : hn h = hn h0 + c) (h3 : H1.size ≤ s.heap.size + (c + 1)) : q = ka g (hn h) := by
  have hlen : (kw g h).length = hn h := by simp [kw]
  have hlast : (kw g h ++ [(q, e)])[hn h]? = some (q, e) := by rw [List.getElem?_append_right (by omega), hlen, Nat.sub_self]; rfl
  have a1 : q < H1.size := (hP1 (hn h) _ hlast).lt
  have a2 : gb g ≤ q := hD1.2 (hn h) _ hlast
  rw [ka_lt (by omega)]
  have a3 : ∀ j, j < hn h → q ≠ gb g + j := by
    intro j hj hq
    have hjl : (kw g h ++ [(q, e)])[j]? = some (ka g j, ken g h j) := by rw [List.getElem?_append_left (by omega)]; exact kw_get hj
    have := hD1.1 j (hn h) _ _ hjl hlast (by show ka g j = q; rw [ka_lt (by omega)]; omega)
    omega
  have a4 : q < gb g + hn h + 1 := by omega
  by_cases hq : q = gb g + hn h
  · exact hq
  · exact absurd (show q = gb g + (q - gb g) by omega) (a3 (q - gb g) (by omega))
theorem ks_cat (g : kG) (as rest : List kV) (n : Nat) (st : List kV) (h1 : as = (st.take n).reverse) (h2 : rest = st.drop n) : st.map (kv g) = (as.map (kv g)).reverse ++ rest.map (kv g) := by
  subst h1; subst h2
  rw [← List.map_reverse, List.reverse_reverse, ← List.map_append, List.take_append_drop]
end
section
set_option maxHeartbeats 40000000 in
set_option maxRecDepth 20000 in
theorem stp_ok {g : kG} {y d i c n : Nat} {L : List (Option kV)} {st : List kV} {h : kH} {Q : Int32 → kH → Prop} {K : kK_} {ins : Instr} (hy : y < 305) (hins : (kC y)[i]? = some ins)
    (hK : ∀ c n i L st h, K c n i L st h → Wz g y (d + 1) i c n L st h Q)
    (hs : stp g (kT y) (kc_c y).1 (kc_c y).2 (fun z as h1 Q1 => Ev g z d as h1 Q1) K Q c n i L st h ins) : Wz g y (d + 1) i c n L st h Q := by
  intro p e R s m args below meth c0 h0 Z H locs ls C hR hS hL hc
  have C' := C
  obtain ⟨hx, hb, hml, hown, hts, hnm, ⟨hfr, hlo, hce, hsl⟩, hG, hs0, hret⟩ := C'
  have hD : va_D (kA g) (kw g h) := kw_D hR.2
  have hA : ∀ q, s.heap.size ≤ q → kA g q := fun q hq => by show gb g ≤ q; omega
  have hKc : va_K (gD g) vwCl [(gI g, .int), (gF g, .object "QuillDesk$Firm")] s := hG.1
  have go : ∀ {c2 n2 i2 : Nat} {L2 : List (Option kV)} {st2 : List kV} {h2 : kH} {H2 : Heap} {locs2 : List Loc} {ls2 : Array Slot}, K c2 n2 i2 L2 st2 h2 → kRp g h2 H2 → va_S (kA g) s.heap H2 locs2 → kzL g ls2 (kL y) L2 → hn h2 = hn h0 + c2 → W p (gl g) e R s m args below meth c0 H2 locs2 c2 n2 Z (F0 m (kP y i2) ls2 (st2.map (kv g))) :=
    fun k a1 a2 a3 a4 => hK _ _ _ _ _ _ k p e R s m args below meth c0 h0 Z _ _ _ C a1 a2 a3 a4
  by_cases hnop : ins = .nop
  · subst hnop; exact hs.elim
  obtain ⟨pl, x, len, hd, hp, hr⟩ := ko_get hy hins hnop
  cases ins with
  | sipush v =>
    have k := go hs hR hS hL hc
    rw [hp] at k
    simp only [ko_r, Bool.or_eq_true, Bool.and_eq_true, decide_eq_true_eq] at hr
    rcases hr with (rfl | ⟨rfl, hr⟩) | ⟨rfl, hr⟩
    · exact lv_iconst hx hb hd rfl k
    · by_cases h0 : x = 0
      · subst h0
        exact lv_bipush hx hb hd (by simpa using hr) k
      · rw [if_neg h0] at hr
        simp only [ko_w, if_neg h0] at hd
        exact lv_ldc hx hb hown (hts _ (wd_in hr rfl)) hd k
    · by_cases h0 : x = 0
      · subst h0
        exact lv_sipush hx hb hd (by simpa using hr) k
      · rw [if_neg h0] at hr
        simp only [ko_w, if_neg h0] at hd
        exact lv_ldcw hx hb hown (hts _ (wd_in hr rfl)) hd k
  | iload q =>
    obtain ⟨v, hv, hs⟩ := lI_ok hs
    have k := go hs hR hS hL hc
    rw [hp] at k
    have hl : ls[q]? = some (.val (.int v)) := hL.2.2 q (.inl v) hv
    simp only [ko_r, Bool.or_eq_true, Bool.and_eq_true, decide_eq_true_eq] at hr
    rcases hr with ⟨rfl, hq⟩ | rfl
    · exact lv_iload_n hx hb hd (Nat.mod_eq_of_lt hq) hl k
    · exact lv_iload hx hb hd hl k
  | aload q =>
    obtain ⟨v, hv, hs⟩ := lR_ok hs
    have k := go hs hR hS hL hc
    rw [hp] at k
    have hl : ls[q]? = some (.val (kv g (.inr v))) := hL.2.2 q (.inr v) hv
    simp only [ko_r, Bool.or_eq_true, Bool.and_eq_true, decide_eq_true_eq] at hr
    rcases hr with ⟨rfl, hq⟩ | rfl
    · cases v with
      | none => exact lv_aload_nN hx hb hd (Nat.mod_eq_of_lt hq) hl k
      | some a => exact lv_aload_n hx hb hd (Nat.mod_eq_of_lt hq) hl k
    · cases v with
      | none => exact lv_aloadN hx hb hd hl k
      | some a => exact lv_aload hx hb hd hl k
  | istore q =>
    obtain ⟨v, r, rfl, hs⟩ := p1_ok hs
    simp only [ko_r, Bool.or_eq_true, Bool.and_eq_true, decide_eq_true_eq] at hr
    obtain ⟨hql, hr⟩ := hr
    have k := fun ls2 (hl2 : kzL g ls2 (kL y) (sL L q (.inl v))) => go hs hR hS hl2 hc
    rw [hp] at k
    rcases hr with ⟨rfl, hq⟩ | rfl
    · exact lv_istore_n hx hb hd (Nat.mod_eq_of_lt hq) (kpr_has hL) hql rfl fun ls2 hl2 => k ls2 (kz_store hl2)
    · exact lv_istore hx hb hd (kpr_has hL) hql rfl fun ls2 hl2 => k ls2 (kz_store hl2)
  | astore q =>
    rcases st with _ | ⟨v | v, r⟩
    · exact hs.elim
    · exact hs.elim
    simp only [ko_r, Bool.or_eq_true, Bool.and_eq_true, decide_eq_true_eq] at hr
    obtain ⟨hql, hr⟩ := hr
    have k := fun ls2 (hl2 : kzL g ls2 (kL y) (sL L q (.inr v))) => go hs hR hS hl2 hc
    rw [hp] at k
    rcases hr with ⟨rfl, hq⟩ | rfl
    · cases v with
      | none => exact lv_astore_nN hx hb hd (Nat.mod_eq_of_lt hq) (kpr_has hL) hql rfl fun ls2 hl2 => k ls2 (kz_store (v := .inr none) hl2)
      | some a => exact lv_astore_n hx hb hd (Nat.mod_eq_of_lt hq) (kpr_has hL) hql rfl fun ls2 hl2 => k ls2 (kz_store (v := .inr (some a)) hl2)
    · cases v with
      | none => exact lv_astoreN hx hb hd (kpr_has hL) hql rfl fun ls2 hl2 => k ls2 (kz_store (v := .inr none) hl2)
      | some a => exact lv_astore hx hb hd (kpr_has hL) hql rfl fun ls2 hl2 => k ls2 (kz_store (v := .inr (some a)) hl2)
  | iinc q w =>
    obtain ⟨v, hv, hs⟩ := lI_ok hs
    simp only [ko_r, Bool.and_eq_true, decide_eq_true_eq] at hr
    obtain ⟨hql, rfl⟩ := hr
    have k := fun ls2 (hl2 : kzL g ls2 (kL y) (sL L q (.inl (v + Int32.ofInt w)))) => go hs hR hS hl2 hc
    rw [hp] at k
    obtain ⟨j, hj⟩ := List.getElem?_of_mem (kpr_in (g := g) hv)
    exact lv_iinc hx hb hd (kpr_has hL) (k := j) hj rfl hql rfl fun ls2 hl2 => k ls2 (kz_store hl2)
  | iadd =>
    obtain ⟨a, b, r, rfl, hs⟩ := p2_ok hs
    have k := go hs hR hS hL hc
    rw [hp] at k
    simp only [ko_r, decide_eq_true_eq] at hr
    subst hr
    exact lv_iadd hx hb hd k
  | isub =>
    obtain ⟨a, b, r, rfl, hs⟩ := p2_ok hs
    have k := go hs hR hS hL hc
    rw [hp] at k
    simp only [ko_r, decide_eq_true_eq] at hr
    subst hr
    exact lv_isub hx hb hd k
  | imul =>
    obtain ⟨a, b, r, rfl, hs⟩ := p2_ok hs
    have k := go hs hR hS hL hc
    rw [hp] at k
    simp only [ko_r, decide_eq_true_eq] at hr
    subst hr
    exact lv_imul hx hb hd k
  | idiv =>
    obtain ⟨a, b, r, rfl, h1, hs⟩ := p2_ok hs
    have k := go hs hR hS hL hc
    rw [hp] at k
    simp only [ko_r, decide_eq_true_eq] at hr
    subst hr
    exact lv_idiv hx hb hd h1 k
  | irem =>
    obtain ⟨a, b, r, rfl, h1, hs⟩ := p2_ok hs
    have k := go hs hR hS hL hc
    rw [hp] at k
    simp only [ko_r, decide_eq_true_eq] at hr
    subst hr
    exact lv_irem hx hb hd h1 k
  | ineg =>
    obtain ⟨a, r, rfl, hs⟩ := p1_ok hs
    have k := go hs hR hS hL hc
    rw [hp] at k
    simp only [ko_r, decide_eq_true_eq] at hr
    subst hr
    exact lv_ineg hx hb hd k
  | iand =>
    obtain ⟨a, b, r, rfl, hs⟩ := p2_ok hs
    have k := go hs hR hS hL hc
    rw [hp] at k
    simp only [ko_r, decide_eq_true_eq] at hr
    subst hr
    exact lv_iand hx hb hd k
  | ior =>
    obtain ⟨a, b, r, rfl, hs⟩ := p2_ok hs
    have k := go hs hR hS hL hc
    rw [hp] at k
    simp only [ko_r, decide_eq_true_eq] at hr
    subst hr
    exact lv_ior hx hb hd k
  | ixor =>
    obtain ⟨a, b, r, rfl, hs⟩ := p2_ok hs
    have k := go hs hR hS hL hc
    rw [hp] at k
    simp only [ko_r, decide_eq_true_eq] at hr
    subst hr
    exact lv_ixor hx hb hd k
  | ishl =>
    obtain ⟨a, b, r, rfl, hs⟩ := p2_ok hs
    have k := go hs hR hS hL hc
    rw [hp] at k
    simp only [ko_r, decide_eq_true_eq] at hr
    subst hr
    exact lv_ishl hx hb hd k
  | ishr =>
    obtain ⟨a, b, r, rfl, hs⟩ := p2_ok hs
    have k := go hs hR hS hL hc
    rw [hp] at k
    simp only [ko_r, decide_eq_true_eq] at hr
    subst hr
    exact lv_ishr hx hb hd k
  | iushr =>
    obtain ⟨a, b, r, rfl, hs⟩ := p2_ok hs
    have k := go hs hR hS hL hc
    rw [hp] at k
    simp only [ko_r, decide_eq_true_eq] at hr
    subst hr
    exact lv_iushr hx hb hd rfl k
  | i2c =>
    obtain ⟨a, r, rfl, hs⟩ := p1_ok hs
    have k := go hs hR hS hL hc
    rw [hp] at k
    simp only [ko_r, decide_eq_true_eq] at hr
    subst hr
    exact lv_i2c hx hb hd rfl k
  | dup =>
    rcases st with _ | ⟨v, r⟩
    · exact hs.elim
    have k := go hs hR hS hL hc
    rw [hp] at k
    simp only [ko_r, decide_eq_true_eq] at hr
    subst hr
    exact lv_dup hx hb hd (kv_cat g v) k
  | dup2 =>
    rcases st with _ | ⟨v, _ | ⟨w, r⟩⟩
    · exact hs.elim
    · exact hs.elim
    have k := go hs hR hS hL hc
    rw [hp] at k
    simp only [ko_r, decide_eq_true_eq] at hr
    subst hr
    exact lv_dup2_11 hx hb hd (kv_cat g v) (kv_cat g w) k
  | pop =>
    rcases st with _ | ⟨v, r⟩
    · exact hs.elim
    have k := go hs hR hS hL hc
    rw [hp] at k
    simp only [ko_r, decide_eq_true_eq] at hr
    subst hr
    exact lv_pop hx hb hd (kv_cat g v) k
  | ifCond q t =>
    obtain ⟨a, r, rfl, hs1, hs2⟩ := p1_ok hs
    simp only [ko_r, decide_eq_true_eq] at hr
    subst hr
    have k1 := fun (z : cz q a 0) => go (hs1 z) hR hS hL hc
    have k2 := fun (z : ¬ cz q a 0) => go (hs2 z) hR hS hL hc
    rw [hp] at k2
    have ht : (kP y i : Int) + ((kP y t.toNat : Int) - (kP y i : Int)) = (kP y t.toNat : Int) := by omega
    cases q with
    | eq => exact lv_if_eq hx hb hd ht k1 k2
    | ne => exact lv_if_ne hx hb hd ht k1 (fun z => k2 (fun w => w z))
    | lt => exact lv_if_lt hx hb hd ht k1 k2
    | ge => exact lv_if_ge hx hb hd ht k1 k2
    | gt => exact lv_if_gt hx hb hd ht k1 k2
    | le => exact lv_if_le hx hb hd ht k1 k2
  | if_icmp q t =>
    obtain ⟨a, b, r, rfl, hs1, hs2⟩ := p2_ok hs
    simp only [ko_r, decide_eq_true_eq] at hr
    subst hr
    have k1 := fun (z : cz q a b) => go (hs1 z) hR hS hL hc
    have k2 := fun (z : ¬ cz q a b) => go (hs2 z) hR hS hL hc
    rw [hp] at k2
    have ht : (kP y i : Int) + ((kP y t.toNat : Int) - (kP y i : Int)) = (kP y t.toNat : Int) := by omega
    cases q with
    | eq => exact lv_icmp_eq hx hb hd ht k1 k2
    | ne => exact lv_icmp_ne hx hb hd ht k1 (fun z => k2 (fun w => w z))
    | lt => exact lv_icmp_lt hx hb hd ht k1 k2
    | ge => exact lv_icmp_ge hx hb hd ht k1 k2
    | gt => exact lv_icmp_gt hx hb hd ht k1 k2
    | le => exact lv_icmp_le hx hb hd ht k1 k2
  | goto t =>
    have k := go hs hR hS hL hc
    simp only [ko_r, decide_eq_true_eq] at hr
    subst hr
    have ht : (kP y i : Int) + ((kP y t.toNat : Int) - (kP y i : Int)) = (kP y t.toNat : Int) := by omega
    exact lv_goto hx hb hd ht k
  | ifnonnull t =>
    simp only [ko_r, decide_eq_true_eq] at hr
    subst hr
    have ht : (kP y i : Int) + ((kP y t.toNat : Int) - (kP y i : Int)) = (kP y t.toNat : Int) := by omega
    rcases st with _ | ⟨v | v, r⟩
    · exact hs.elim
    · exact hs.elim
    cases v with
    | none =>
      have k := go hs hR hS hL hc
      rw [hp] at k
      exact lv_ifnonnullN hx hb hd k
    | some a =>
      have k := go hs hR hS hL hc
      exact lv_ifnonnull hx hb hd ht k
  | tableswitch dt lo hi ts =>
    obtain ⟨a, r, rfl, hs1, hs2⟩ := p1_ok hs
    simp only [ko_r, Bool.and_eq_true, decide_eq_true_eq] at hr
    obtain ⟨⟨hlo1, hhi1⟩, hsz⟩ := hr
    by_cases hout : a.toInt < lo ∨ hi < a.toInt
    · have k := go (hs2 hout) hR hS hL hc
      exact lv_tableOut hx hb hd hout (by omega) k
    · have h1 : ¬ a.toInt < lo := fun q => hout (Or.inl q)
      have h2 : ¬ hi < a.toInt := fun q => hout (Or.inr q)
      have hj : (a.toInt - lo).toNat < ts.size := by omega
      have ht : ts.toList[(a.toInt - lo).toNat]? = some ts[(a.toInt - lo).toNat] := by rw [Array.getElem?_toList, Array.getElem?_eq_getElem hj]
      have k := go (sw_in ts.toList lo hs1 hlo1 (by rw [Array.length_toList]; omega) _ _ ht (by omega)) hR hS hL hc
      refine lv_tableIn hx hb hd h1 h2 (off := (kP y ts[(a.toInt - lo).toNat].toNat : Int) - (kP y i : Int)) ?_ (by omega) k
      rw [Array.getElem?_map, Array.getElem?_eq_getElem hj]
      rfl
  | lookupswitch dt ps =>
    obtain ⟨a, r, rfl, hs⟩ := p1_ok hs
    simp only [ko_r, Bool.and_eq_true, decide_eq_true_eq] at hr
    obtain ⟨hord, hbd⟩ := hr
    obtain ⟨tgt, ht, k⟩ := lk_in (fun z => W p (gl g) e R s m args below meth c0 H locs c n Z (F0 m z ls (r.map (kv g)))) (kP y) (kP y i) dt ps.toList hs (fun o ho => by simpa using List.all_eq_true.mp hbd o ho) (fun t k => go k hR hS hL hc) (fun k => go k hR hS hL hc)
    refine lv_lookup hx hb hd ?_ rfl (tgt := tgt) ?_ k
    · have e1 : (ps.map fun t => (t.1, (kP y t.2.toNat : Int) - (kP y i : Int))).toList = ps.toList.map fun t => (t.1, (kP y t.2.toNat : Int) - (kP y i : Int)) := Array.toList_map
      rw [e1, ← List.map_drop, List.zip_map, List.all_map]
      exact hord
    · rw [Array.toList_map]
      exact ht
  | getstatic q =>
    simp only [ko_r, Bool.and_eq_true, decide_eq_true_eq] at hr
    obtain ⟨rfl, hr⟩ := hr
    obtain ⟨a1, a2, a3, a4, a7, a8, a9, a10, a11, a12, a13⟩ := hG
    match q, hs, hr with
    | 0, hs, hr =>
      have k := go hs hR hS hL hc
      rw [hp] at k
      exact va_gets hx hb a8 hS hown (hts _ (wd_in hr rfl)) (fun _ z => z) hd k
    | 1, hs, hr =>
      have k := go hs hR hS hL hc
      rw [hp] at k
      exact va_getsN hx hb a9 hS hown (va_Nw.use rfl (a13 _ (kg_n_in hr rfl))) (fun _ z => z) hd k
    | 2, hs, hr =>
      have k := go hs hR hS hL hc
      rw [hp] at k
      exact va_gets hx hb a10 hS hown (hts _ (wd_in hr rfl)) (fun _ z => z) hd k
  | ldc q =>
    have k := go hs hR hS hL hc
    rw [hp] at k
    simp only [ko_r, Bool.and_eq_true, decide_eq_true_eq] at hr
    obtain ⟨⟨⟨rfl, -⟩, ho⟩, rfl⟩ := hr
    obtain ⟨a1, a2, a3, a4, a7, a8, a9, a10, a11, a12, a13⟩ := hG
    rw [ho] at hown
    exact va_ldcS hx hb hown a11 hd k
  | ldc_w q =>
    obtain ⟨a, r, rfl, rfl, hs2⟩ := pr_ok hs
    clear hs
    simp only [ko_r, Bool.and_eq_true, decide_eq_true_eq] at hr
    obtain ⟨rfl, hr⟩ := hr
    obtain ⟨a1, a2, a3, ⟨a4, a5, a6⟩, a7, a8, a9, a10, a11, a12, a13⟩ := hG
    match q, hs2, hr with
    | 0, hs2, hr =>
      have k := go hs2 hR hS hL hc
      rw [hp] at k
      exact vk_getf hx hb a6 hS hown (hts _ (wd_in hr rfl)) (fun _ z => z) hd k
    | 1, hs2, hr =>
      have k := go hs2 hR hS hL hc
      rw [hp] at k
      exact vk_getf hx hb a5 hS hown (hts _ (wd_in hr rfl)) (fun _ z => z) hd k
  | getfield q =>
    obtain ⟨a, r, rfl, ⟨ha, hka⟩, hs⟩ := pr_ok hs
    have k := go hs hR hS hL hc
    rw [hp] at k
    simp only [ko_r, Bool.and_eq_true, decide_eq_true_eq] at hr
    obtain ⟨⟨⟨⟨rfl, h1⟩, h2⟩, h3⟩, h4⟩ := hr
    have he : (kw g h)[a]? = some (ka g a, .inr (kf_c q, (List.range (kn_N (kf_c q))).map (fun i => kfv g h a (kf_c q) i))) := by rw [kw_get ha, ken_O hka]
    refine va_get hx hb hts (kn_in h1) hown hKc hR.1 a he (kn_cl h1) (kf_k q) h2 (hts _ (wd_in h4 rfl)) (fun _ z => z) (ken_fld h2) hd ?_
    rw [show kfv g h a (kf_c q) (kf_k q) = .int (hI h a (kf_k q)) by unfold kfv; rw [kn_prim h3]; rfl]
    exact k
  | checkcast q =>
    obtain ⟨a, r, rfl, ⟨ha, hka⟩, hs⟩ := pr_ok hs
    have k := go hs hR hS hL hc
    rw [hp] at k
    simp only [ko_r, Bool.and_eq_true, decide_eq_true_eq] at hr
    obtain ⟨⟨⟨⟨rfl, h1⟩, h2⟩, h3⟩, h4⟩ := hr
    have he : (kw g h)[a]? = some (ka g a, .inr (kf_c q, (List.range (kn_N (kf_c q))).map (fun i => kfv g h a (kf_c q) i))) := by rw [kw_get ha, ken_O hka]
    refine va_get hx hb hts (kn_in h1) hown hKc hR.1 a he (kn_cl h1) (kf_k q) h2 (hts _ (wd_in h4 rfl)) (fun _ z => z) (ken_fld h2) hd ?_
    have h3' : kr_t (kn_t (kf_c q) (kf_k q)) = true := (kn_kinds h1 h2).resolve_right (fun z => z.elim h3.1 h3.2)
    rw [show kfv g h a (kf_c q) (kf_k q) = va_rf ((hP h a (kf_k q)).map (ka g)) by unfold kfv; rw [if_pos h3']]
    exact k
  | putfield q =>
    rcases st with _ | ⟨v | v, _ | ⟨b | b, r⟩⟩
    · exact hs.elim
    · exact hs.elim
    · exact hs.elim
    · cases b with
      | none => exact hs.elim
      | some a =>
        obtain ⟨⟨ha, hka⟩, hv, hs⟩ := hs
        simp only [ko_r, Bool.and_eq_true, Bool.or_eq_true, decide_eq_true_eq] at hr
        obtain ⟨⟨⟨⟨⟨rfl, h1⟩, h2⟩, h3⟩, h4⟩, h5⟩ := hr
        have h3' : kn_t (kf_c q) (kf_k q) = .int ∨ kn_t (kf_c q) (kf_k q) = .boolean := by
          rw [h3]; split
          · exact Or.inr rfl
          · exact Or.inl rfl
        have hnar : narrow (kn_t (kf_c q) (kf_k q)) (.int v) = .int v ∧ fits (kn_t (kf_c q) (kf_k q)) (.int v) = true := by
          rw [h3]; split
          · rename_i hq
            rcases hv hq with rfl | rfl <;> exact ⟨by decide, by decide⟩
          · exact ⟨rfl, rfl⟩
        have he : (kw g h)[a]? = some (ka g a, .inr (kf_c q, (List.range (kn_N (kf_c q))).map (fun i => kfv g h a (kf_c q) i))) := by rw [kw_get ha, ken_O hka]
        have e1 : kfv g (uI h a (kf_k q) v) a (kf_c q) (kf_k q) = .int v := by unfold kfv; rw [kn_prim h3']; simp [uI, hI, u2]
        have e2 : ∀ j, j ≠ kf_k q → kfv g (uI h a (kf_k q) v) a (kf_c q) j = kfv g h a (kf_c q) j := fun j hj => by unfold kfv; simp [uI, hI, hP, u2, hj]
        have kk : ∀ (H1 : Heap) (locs1 : List Loc), va_P (gD g) vwCl ((kw g h).set a (ka g a, .inr (kf_c q, ((List.range (kn_N (kf_c q))).map (fun i => kfv g h a (kf_c q) i)).set (kf_k q) (.int v)))) H1 → va_D (kA g) ((kw g h).set a (ka g a, .inr (kf_c q, ((List.range (kn_N (kf_c q))).map (fun i => kfv g h a (kf_c q) i)).set (kf_k q) (.int v)))) → va_S (kA g) s.heap H1 locs1 → W p (gl g) e R s m args below meth c0 H1 locs1 c n Z (F0 m (kP y i + 3) ls (r.map (kv g))) := fun H1 locs1 hP1 _ hS1 => by
          have k := go hs (kw_st (h1 := uI h a (kf_k q) v) ha hR.2 rfl (by rw [ken_O (show hk (uI h a (kf_k q) v) a = (0, kf_c q) from hka), ken_fset h2 e1 e2]) (fun b hb => uI_ken hb) hP1) hS1 hL hc
          rw [hp] at k
          exact k
        rcases h5 with h5 | ⟨h5, h6⟩
        · exact va_put hx hb hts (kn_in h1) (kn_t (kf_c q)) (kn_ty h1) (kn_nm h1) hown hKc hR.1 hD hS a he (kn_cl h1) (kf_k q) h2 (hts _ (wd_in h4 rfl)) (fun _ z => z) h5 (kn_ty h1 _ h2) hnar.1 hnar.2 (by simpa using h2) hd kk
        · cases hfin : (kn_F (kf_c q) (kf_k q)).2.2.2 with
          | false => exact va_put hx hb hts (kn_in h1) (kn_t (kf_c q)) (kn_ty h1) (kn_nm h1) hown hKc hR.1 hD hS a he (kn_cl h1) (kf_k q) h2 (hts _ (wd_in h4 rfl)) (fun _ z => z) hfin (kn_ty h1 _ h2) hnar.1 hnar.2 (by simpa using h2) hd kk
          | true => exact va_putF hx hb hts (kn_in h1) (kn_t (kf_c q)) (kn_ty h1) (kn_nm h1) hown hKc hR.1 hD hS a he (kn_cl h1) (kf_k q) h2 (hts _ (wd_in h4 rfl)) (fun _ z => z) hfin (hnm.trans h5) h6 (kn_ty h1 _ h2) hnar.1 hnar.2 (by simpa using h2) hd kk
    · exact hs.elim
    · exact hs.elim
    · exact hs.elim
  | putstatic q =>
    rcases st with _ | ⟨v | v, _ | ⟨b | b, r⟩⟩
    · exact hs.elim
    · exact hs.elim
    · exact hs.elim
    · exact hs.elim
    · exact hs.elim
    · exact hs.elim
    · cases b with
      | none => exact hs.elim
      | some a =>
        obtain ⟨⟨ha, hka⟩, hs⟩ := hs
        simp only [ko_r, Bool.and_eq_true, Bool.or_eq_true, decide_eq_true_eq] at hr
        obtain ⟨⟨⟨⟨⟨rfl, h1⟩, h2⟩, h3⟩, h4⟩, h5⟩ := hr
        have h3' : kr_t (kn_t (kf_c q) (kf_k q)) = true := h3
        have hnar := kr_fit h3' (v.map (ka g))
        have he : (kw g h)[a]? = some (ka g a, .inr (kf_c q, (List.range (kn_N (kf_c q))).map (fun i => kfv g h a (kf_c q) i))) := by rw [kw_get ha, ken_O hka]
        have e1 : kfv g (uP h a (kf_k q) v) a (kf_c q) (kf_k q) = va_rf (v.map (ka g)) := by unfold kfv; rw [if_pos h3']; simp [uP, hP, u2]
        have e2 : ∀ j, j ≠ kf_k q → kfv g (uP h a (kf_k q) v) a (kf_c q) j = kfv g h a (kf_c q) j := fun j hj => by unfold kfv; simp [uP, hI, hP, u2, hj]
        have kk : ∀ (H1 : Heap) (locs1 : List Loc), va_P (gD g) vwCl ((kw g h).set a (ka g a, .inr (kf_c q, ((List.range (kn_N (kf_c q))).map (fun i => kfv g h a (kf_c q) i)).set (kf_k q) (va_rf (v.map (ka g)))))) H1 → va_D (kA g) ((kw g h).set a (ka g a, .inr (kf_c q, ((List.range (kn_N (kf_c q))).map (fun i => kfv g h a (kf_c q) i)).set (kf_k q) (va_rf (v.map (ka g)))))) → va_S (kA g) s.heap H1 locs1 → W p (gl g) e R s m args below meth c0 H1 locs1 c n Z (F0 m (kP y i + 3) ls (r.map (kv g))) := fun H1 locs1 hP1 _ hS1 => by
          have k := go hs (kw_st (h1 := uP h a (kf_k q) v) ha hR.2 rfl (by rw [ken_O (show hk (uP h a (kf_k q) v) a = (0, kf_c q) from hka), ken_fset h2 e1 e2]) (fun b hb => uP_ken hb) hP1) hS1 hL hc
          rw [hp] at k
          exact k
        rcases h5 with h5 | ⟨h5, h6⟩
        · exact va_put hx hb hts (kn_in h1) (kn_t (kf_c q)) (kn_ty h1) (kn_nm h1) hown hKc hR.1 hD hS a he (kn_cl h1) (kf_k q) h2 (hts _ (wd_in h4 rfl)) (fun _ z => z) h5 (kn_ty h1 _ h2) hnar.1 hnar.2 (by simpa using h2) hd kk
        · cases hfin : (kn_F (kf_c q) (kf_k q)).2.2.2 with
          | false => exact va_put hx hb hts (kn_in h1) (kn_t (kf_c q)) (kn_ty h1) (kn_nm h1) hown hKc hR.1 hD hS a he (kn_cl h1) (kf_k q) h2 (hts _ (wd_in h4 rfl)) (fun _ z => z) hfin (kn_ty h1 _ h2) hnar.1 hnar.2 (by simpa using h2) hd kk
          | true => exact va_putF hx hb hts (kn_in h1) (kn_t (kf_c q)) (kn_ty h1) (kn_nm h1) hown hKc hR.1 hD hS a he (kn_cl h1) (kf_k q) h2 (hts _ (wd_in h4 rfl)) (fun _ z => z) hfin (hnm.trans h5) h6 (kn_ty h1 _ h2) hnar.1 hnar.2 (by simpa using h2) hd kk
  | iaload =>
    rcases st with _ | ⟨v | v, _ | ⟨b | b, r⟩⟩
    · exact hs.elim
    · exact hs.elim
    · exact hs.elim
    · cases b with
      | none => exact hs.elim
      | some a =>
        simp only [ko_r, decide_eq_true_eq] at hr
        subst hr
        obtain ⟨a1, a2, a3, a4, a7, a8, a9, a10, a11, a12, a13⟩ := hG
        simp only [stp] at hs
        split at hs
        · obtain ⟨⟨ha, hka⟩, hi, hs⟩ := hs
          have k := go hs hR hS hL hc
          rw [hp] at k
          exact va_iald hx hb hKc hR.1 a 0 (by rw [kw_get ha, ken_J hka]) rfl hi hd k
        · split at hs
          · rename_i hz
            subst hz
            obtain ⟨hi, hs⟩ := hs
            have k := go hs hR hS hL hc
            rw [hp] at k
            exact va_ti hx hb a2 hS hi rfl hd k
          · obtain ⟨rfl, hi, hs⟩ := hs
            have k := go hs hR hS hL hc
            rw [hp] at k
            exact va_ti hx hb a3 hS hi rfl hd k
    · exact hs.elim
    · exact hs.elim
    · exact hs.elim
  | iastore =>
    rcases st with _ | ⟨w | w, _ | ⟨v | v, _ | ⟨b | b, r⟩⟩⟩
    · exact hs.elim
    · exact hs.elim
    · exact hs.elim
    · exact hs.elim
    · cases b with
      | none => exact hs.elim
      | some a =>
        simp only [ko_r, decide_eq_true_eq] at hr
        subst hr
        obtain ⟨⟨ha, hka⟩, hi, hs⟩ := hs
        refine va_iast hx hb hKc hR.1 hD hS a 0 (by rw [kw_get ha, ken_J hka]) rfl hi hd fun H1 locs1 hP1 _ hS1 => ?_
        have k := go hs (kw_st (h1 := uI h a v.toNatClampNeg w) ha hR.2 rfl (by rw [ken_J (show (hk (uI h a v.toNatClampNeg w) a).1 = 1 from hka), show hI (uI h a v.toNatClampNeg w) a = upd (hI h a) v.toNatClampNeg w by funext z; simp [uI, hI, u2, upd]]; rfl) (fun b hb => uI_ken hb) hP1) hS1 hL hc
        rw [hp] at k
        exact k
    all_goals exact hs.elim
  | aaload =>
    rcases st with _ | ⟨v | v, _ | ⟨b | b, r⟩⟩
    · exact hs.elim
    · exact hs.elim
    · exact hs.elim
    · cases b with
      | none => exact hs.elim
      | some a =>
        simp only [ko_r, decide_eq_true_eq] at hr
        subst hr
        obtain ⟨⟨ha, hka⟩, hi, hs⟩ := hs
        have k := go hs hR hS hL hc
        rw [hp] at k
        exact va_aldq (f := fun i => (hP h a i).map (ka g)) hx hb hKc hR.1 a 1 (by rw [kw_get ha, ken_U hka]) rfl hi hd k
    · exact hs.elim
    · exact hs.elim
    · exact hs.elim
  | aastore =>
    rcases st with _ | ⟨w | w, _ | ⟨v | v, _ | ⟨b | b, r⟩⟩⟩
    all_goals first | exact hs.elim | skip
    · cases w <;> exact hs.elim
    · cases w <;> exact hs.elim
    · cases w <;> exact hs.elim
    · cases w with
      | none => exact hs.elim
      | some w =>
        cases b with
        | none => exact hs.elim
        | some a =>
          simp only [ko_r, decide_eq_true_eq] at hr
          subst hr
          obtain ⟨⟨ha, hka⟩, hi, ⟨hw, hkw⟩, hs⟩ := hs
          refine va_astq (f := fun i => (hP h a i).map (ka g)) hx hb hKc hR.1 hD hS a 1 w 3 (by rw [kw_get ha, ken_U hka]) (r := (kn_R 3, kn_F 3, kn_N 3)) rfl (by rw [kw_get hw, ken_O hkw]) (kn_cl (by decide)) hi hd fun H1 locs1 hP1 _ hS1 => ?_
          have k := go hs (kw_st (h1 := uP h a v.toNatClampNeg (some w)) ha hR.2 rfl (by rw [ken_U (show (hk (uP h a v.toNatClampNeg (some w)) a).1 = 2 from hka), show (fun i => (hP (uP h a v.toNatClampNeg (some w)) a i).map (ka g)) = va_up (fun i => (hP h a i).map (ka g)) v.toNatClampNeg (some (ka g w)) by funext z; by_cases hz : z = v.toNatClampNeg <;> simp [uP, hP, u2, va_up, hz]]; rfl) (fun b hb => uP_ken hb) hP1) hS1 hL hc
          rw [hp] at k
          exact k
    all_goals (cases w <;> exact hs.elim)
  | baload =>
    rcases st with _ | ⟨v | v, _ | ⟨b | b, r⟩⟩
    · exact hs.elim
    · exact hs.elim
    · exact hs.elim
    · cases b with
      | none => exact hs.elim
      | some a =>
        simp only [ko_r, decide_eq_true_eq] at hr
        subst hr
        obtain ⟨a1, a2, a3, a4, a7, a8, a9, a10, a11, a12, a13⟩ := hG
        obtain ⟨rfl, hi, hs⟩ := hs
        have k := go hs hR hS hL hc
        rw [hp] at k
        exact va_tb hx hb a7 hS hi rfl hd k
    · exact hs.elim
    · exact hs.elim
    · exact hs.elim
  | arraylength =>
    obtain ⟨a, r, rfl, hs2⟩ := pr_ok hs
    clear hs
    simp only [ko_r, decide_eq_true_eq] at hr
    subst hr
    obtain ⟨a1, a2, a3, a4, a7, a8, a9, a10, a11, a12, a13⟩ := hG
    split at hs2
    · obtain ⟨⟨ha, hka⟩, hs2⟩ := hs2
      have k := go hs2 hR hS hL hc
      rw [hp] at k
      exact va_alen (x := (kl h a, .inl (hI h a))) hx hb hKc hR.1 a 0 (by rw [kw_get ha, ken_J hka]) rfl rfl hd k
    · split at hs2
      · rename_i hz
        subst hz
        have k := go hs2 hR hS hL hc
        rw [hp] at k
        exact va_tlen hx hb a2 hS rfl hd k
      · split at hs2
        · rename_i hz
          subst hz
          have k := go hs2 hR hS hL hc
          rw [hp] at k
          exact va_tlen hx hb a3 hS rfl hd k
        · obtain ⟨rfl, hs2⟩ := hs2
          have k := go hs2 hR hS hL hc
          rw [hp] at k
          exact va_tlen hx hb a7 hS rfl hd k
  | newarray t =>
    obtain ⟨v, r, rfl, hv, hvm, hm, hc1, hc2, hs2⟩ := p1_ok hs
    clear hs
    simp only [ko_r, Bool.and_eq_true, decide_eq_true_eq] at hr
    obtain ⟨rfl, rfl⟩ := hr
    refine va_newa (atype := .int) hx hb (hts _ ko_ac) (ty := .int) rfl hKc hR.1 hD hS hA (a0 := (v.toNatClampNeg, .inl (fun _ => 0))) (fun cA => rfl) hv rfl (by show v.toNatClampNeg * 4 ≤ _; omega) (by omega) (by omega) hd fun q cA H1 hK1 hP1 hD1 hS1 => ?_
    refine W_size fun hsz => ?_
    have hcA : cA = gI g := by
      have r1 := (hK1.2 2 (cA, .int) rfl).2
      have r2 := (hKc.2 0 (gI g, .int) rfl).2
      exact Option.some.inj (Eq.trans (Eq.symm r1) r2)
    subst hcA
    have hq := kq_new hm hP1 hD1 hs0 hc (by omega)
    subst hq
    have hR1 : kRp g (uN h 1 v.toNatClampNeg) H1 := by
      have e1 : ken g (uN h 1 v.toNatClampNeg) (hn h) = .inl (gI g, v.toNatClampNeg, .inl (fun _ => 0)) := by
        rw [ken_J (by simp [uN, hk])]; simp [kl, uN, hk, hI]
      rw [← e1, kw_push (h1 := uN h 1 v.toNatClampNeg) rfl (fun j hj => uN_ken hj)] at hP1
      exact ⟨hP1, by show hn h + 1 ≤ _; omega⟩
    have k := go hs2 hR1 hS1 hL (by show hn h + 1 = _; omega)
    rw [hp] at k
    exact k
  | anewarray t =>
    obtain ⟨v, r, rfl, hv, hvm, hm, hc1, hc2, hs2⟩ := p1_ok hs
    clear hs
    simp only [ko_r, Bool.and_eq_true, decide_eq_true_eq] at hr
    obtain ⟨rfl, hr⟩ := hr
    have hover : va_AO "QuillDesk$Firm" s := hG.2.2.2.2.2.2.2.2.2.1
    refine va_newq hx hb hown (hts _ (wd_in hr rfl)) hover hKc hR.1 hD hS hA hv rfl (by omega) (by omega) (by omega) hd fun q cA H1 hK1 hP1 hD1 hS1 => ?_
    refine W_size fun hsz => ?_
    have hcA : cA = gF g := by
      obtain ⟨-, -, -, -, -, r1⟩ := (hK1.2 2 (cA, .object "QuillDesk$Firm") rfl).2
      obtain ⟨-, -, -, -, -, r2⟩ := (hKc.2 1 (gF g, .object "QuillDesk$Firm") rfl).2
      exact Option.some.inj (r1.symm.trans r2)
    subst hcA
    have hq := kq_new hm hP1 hD1 hs0 hc (by omega)
    subst hq
    have hR1 : kRp g (uN h 2 v.toNatClampNeg) H1 := by
      have e1 : ken g (uN h 2 v.toNatClampNeg) (hn h) = .inl (gF g, v.toNatClampNeg, .inr (.inr (.inr (.inr (fun _ => none))))) := by
        rw [ken_U (by simp [uN, hk])]; simp [kl, uN, hk, hP]
      rw [← e1, kw_push (h1 := uN h 2 v.toNatClampNeg) rfl (fun j hj => uN_ken hj)] at hP1
      exact ⟨hP1, by show hn h + 1 ≤ _; omega⟩
    have k := go hs2 hR1 hS1 hL (by show hn h + 1 = _; omega)
    rw [hp] at k
    exact k
  | new q =>
    obtain ⟨hm, hc1, hc2, hs⟩ := hs
    simp only [ko_r, Bool.and_eq_true, decide_eq_true_eq] at hr
    obtain ⟨⟨rfl, h1⟩, h2⟩ := hr
    refine va_new (ci := q) (fs := (List.range (kn_N q)).map (fun i => kfv g (uN h 0 q) (hn h) q i)) hx hb hts (kn_in h1) (kn_t q) (kn_ty h1) hown (hts _ (wd_in h2 rfl)) (hts _ (kn_ins h1)) (hts _ (kn_ini h1)) hKc hR.1 hD hS hA (kn_cl h1) (fun j hj => kn_fresh h (kn_t q) hj (kn_kinds h1 hj) rfl) (by omega) (by omega) hd fun w H1 hP1 hD1 hS1 => ?_
    refine W_size fun hsz => ?_
    have hq := kq_new hm hP1 hD1 hs0 hc (by omega)
    subst hq
    have hR1 : kRp g (uN h 0 q) H1 := by
      have e1 : ken g (uN h 0 q) (hn h) = .inr (q, (List.range (kn_N q)).map (fun i => kfv g (uN h 0 q) (hn h) q i)) := ken_O (by simp [uN, hk])
      rw [← e1, kw_push (h1 := uN h 0 q) rfl (fun j hj => uN_ken hj)] at hP1
      exact ⟨hP1, by show hn h + 1 ≤ _; omega⟩
    have k := go hs hR1 hS1 hL (by show hn h + 1 = _; omega)
    rw [hp] at k
    exact k
  | monitorexit =>
    obtain ⟨a, r, rfl, hl, hs⟩ := pr_ok hs
    have k := go hs hR hS hL hc
    rw [hp] at k
    simp only [ko_r, Bool.and_eq_true, decide_eq_true_eq] at hr
    obtain ⟨rfl, hr⟩ := hr
    exact W.objInit hx hb hown (hts _ (wd_in hr rfl)) (hts _ ko_oi) (hts _ ko_oc) (g := F0 m (kP y i) ls (.ref (ka g a) :: r.map (kv g))) rfl (hL.1.trans hml.symm) rfl hd (by omega) (by show 2 * 0 + _ + 12 ≤ _; rw [kv_sum]; omega) k
  | swap =>
    rcases st with _ | ⟨w | w, _ | ⟨dp | dp, _ | ⟨b | b, _ | ⟨sp | sp, _ | ⟨a | a, r⟩⟩⟩⟩⟩
    all_goals first | exact hs.elim | skip
    all_goals (first | (cases b <;> exact hs.elim) | skip)
    cases b with
    | none => exact hs.elim
    | some b =>
      cases a with
      | none => exact hs.elim
      | some a =>
        obtain ⟨⟨ha, hka⟩, ⟨hb', hkb⟩, h1, h2, h3, h4, h5, h6, hs⟩ := hs
        simp only [ko_r, Bool.and_eq_true, decide_eq_true_eq] at hr
        obtain ⟨rfl, hr⟩ := hr
        refine va_copyi hx hb (hml.trans hL.1.symm) hown (hts _ (wd_in hr rfl)) (hts _ ko_an) (hts _ ko_as) (hts _ ko_ai) hKc hR.1 hD hS a b 0 0 (by rw [kw_get ha, ken_J hka]) (by rw [kw_get hb', ken_J hkb]) rfl rfl rfl h1 h2 h3 h4 h5 (fun _ _ => rfl) (by omega) (by rw [kv_sum, show nativeFrameWords "java/lang/System" "arraycopy" 5 = 7 by decide]; omega) hd fun H1 locs1 hP1 _ hS1 => ?_
        have k := go hs (kw_st (h1 := uC h a b sp.toNatClampNeg dp.toNatClampNeg w.toNatClampNeg) hb' hR.2 rfl (by rw [ken_J (show (hk (uC h a b sp.toNatClampNeg dp.toNatClampNeg w.toNatClampNeg) b).1 = 1 from hkb)]; simp [uC, hI, kl, hk]) (fun z hz => ken_congr rfl (by simp [uC, hI, hz]) rfl) hP1) hS1 hL hc
        rw [hp] at k
        exact k
  | invokestatic q =>
    obtain ⟨hcm, hnm2, hq, hq8, hs⟩ := hs
    simp only [ko_r, Bool.and_eq_true, decide_eq_true_eq] at hr
    obtain ⟨⟨⟨⟨⟨rfl, ho⟩, hzy⟩, hkd⟩, hcc⟩, hr⟩ := hr
    obtain ⟨ho1, ho2⟩ := ko_q_use ho
    obtain ⟨m1, m2, m3, m4, m5, -, -, m8, -⟩ := ko_mg hzy
    refine W_size fun hsz => ?_
    have hsz2 := k_size hR hS hs0 hc hsz
    have hcat := ks_cat g _ _ (kq_n q) st rfl rfl
    refine Ev_call (r := st.drop (kq_n q)) hzy C hR hS hL.1 hc hsz2 hs ?_ ?_
    · intro mc ms Pc Qc e1 e2 hM hbl hpre
      have hlen : ((st.take (kq_n q)).reverse.map (kv g)).length = kq_n q := by simp; omega
      have hrm : (kM (kq_y q) d).frames + 1 ≤ R.frames ∧ 8 + (kL (kq_y q) + 11) + (kM (kq_y q) d).locals ≤ R.locals := ⟨by show d + 1 ≤ _; omega, by show 8 + (kL (kq_y q) + 11) + 60 * d ≤ _; omega⟩
      have hf : c + mc ≤ R.cells ∧ n + ms ≤ R.slots := by rw [e1, e2, hcc]; exact ⟨by show c + 0 ≤ _; omega, by show n + 0 ≤ _; omega⟩
      rw [hcat]
      by_cases hN : (kN (kq_y q)).cls = "QuillDesk"
      · rw [if_pos hN] at hr
        simp only [Bool.or_eq_true, Bool.and_eq_true] at hr
        rcases hr with ⟨-, hr⟩ | hr
        · exact va_runSN ⟨hx, hb, hml, hown, hts⟩ hM ⟨va_cnB (kq_n q) hts (kws_good hzy) rfl e1.symm e2.symm (hG.2.2.2.2.2.2.2.2.2.2 _ (kg_n_in hr rfl)) (hts _ m4) ⟨m2.1, m2.2, ho1⟩ hrm, hts _ (m5 hkd), trivial⟩ ⟨hbl, hpre⟩ rfl hlen hL.1 rfl (lv_room (by rw [kv_sum]; exact hq8)) hd hf
        · exact va_runS ⟨hx, hb, hml, hown, hts⟩ hM ⟨callB_of (kq_n q) hts (kws_good hzy) rfl e1.symm e2.symm (hts _ m4) (hts _ (wd_in hr rfl)) ⟨m2.1, m2.2, ho1⟩ hrm, hts _ (m5 hkd)⟩ ⟨hbl, hpre⟩ rfl hlen hL.1 rfl (lv_room (by rw [kv_sum]; exact hq8)) hd hf
      · rw [if_neg hN] at hr
        exact va_runS ⟨hx, hb, hml, hown, hts⟩ hM ⟨callB_of (kq_n q) hts (kws_good hzy) rfl e1.symm e2.symm (hts _ m4) (hts _ (wd_in hr rfl)) ⟨m2.1, m2.2, ho1⟩ hrm, hts _ (m5 hkd)⟩ ⟨hbl, hpre⟩ rfl hlen hL.1 rfl (lv_room (by rw [kv_sum]; exact hq8)) hd hf
    · intro v h1 H1 locs1 hk hR1 hS1 hc1
      rw [hcc] at hc1 ⊢
      have k := go hk hR1 hS1 hL hc1
      rw [hp, kq_if ho2] at k
      by_cases ht : kT (kq_y q) = none
      · rw [if_pos ht] at k ⊢; exact k
      · rw [if_neg ht] at k ⊢; exact k
  | invokevirtual q =>
    obtain ⟨hcm, hnm2, hq, hs⟩ := hs
    obtain ⟨a, r, hst, hrv, hq8, hs⟩ := pr_ok hs
    simp only [ko_r, Bool.and_eq_true, decide_eq_true_eq] at hr
    obtain ⟨⟨⟨⟨⟨⟨⟨rfl, ho⟩, hzy⟩, hkd⟩, hcc⟩, hr⟩, hci⟩, hcn⟩ := hr
    obtain ⟨ho1, ho2⟩ := ko_q_use ho
    obtain ⟨m1, m2, m3, m4, -, m6, -, m8, -⟩ := ko_mg hzy
    obtain ⟨m6a, m6b⟩ := m6 hkd
    refine W_size fun hsz => ?_
    have hsz2 := k_size hR hS hs0 hc hsz
    have hcat := ks_cat g _ _ (kq_n q) st rfl rfl
    rw [hst] at hcat
    have hrecv : ∃ cell : Cell, H[ka g a]? = some cell ∧ cell.vm.isStatics = false ∧ s.vm.findClass (kN (kq_y q)).cls = some cell.cls := by
      unfold krv at hrv
      split at hrv
      · rename_i h99
        subst hrv
        obtain ⟨a1, a2, a3, ⟨⟨cell, b1, b2, b3, b4⟩, -, -⟩, -⟩ := hG
        refine ⟨cell, ?_, b2, ?_⟩
        · have hlt := (Array.getElem?_eq_some_iff.mp b1).1
          show H[gx g 2]? = _
          rw [hS.2.1 _ hlt b4]
          exact b1
        · rw [← hcn, km_ci, if_pos h99]; exact b3
      · rename_i h99
        have hc12 : kq_c q < 12 := by omega
        have z := va_recv (q0 := a) hKc hR.1 (kn_cl hc12) (by rw [kw_get hrv.1, ken_O hrv.2])
        rw [← hcn, km_ci, if_neg h99]
        exact z
    refine Ev_call (r := r) hzy C hR hS hL.1 hc hsz2 hs ?_ ?_
    · intro mc ms Pc Qc e1 e2 hM hbl hpre
      have hlen : ((st.take (kq_n q)).reverse.map (kv g)).length = kq_n q := by simp; omega
      have hrm : (kM (kq_y q) d).frames + 1 ≤ R.frames ∧ 8 + (kL (kq_y q) + 11) + (kM (kq_y q) d).locals ≤ R.locals := ⟨by show d + 1 ≤ _; omega, by show 8 + (kL (kq_y q) + 11) + 60 * d ≤ _; omega⟩
      have hf : c + mc ≤ R.cells ∧ n + ms ≤ R.slots := by rw [e1, e2, hcc]; exact ⟨by show c + 0 ≤ _; omega, by show n + 0 ≤ _; omega⟩
      rw [hcat]
      exact va_runV ⟨hx, hb, hml, hown, hts⟩ hM ⟨callB_of (kq_n q) hts (kws_good hzy) rfl e1.symm e2.symm (hts _ m4) (hts _ (wd_in hr rfl)) ⟨m2.1, m2.2, ho1⟩ hrm, hts _ m6a, hts _ m6b⟩ ⟨hbl, hrecv, hpre⟩ rfl hlen hL.1 rfl (lv_room (by rw [kv_sum]; exact hq8)) hd hf
    · intro v h1 H1 locs1 hk hR1 hS1 hc1
      rw [hcc] at hc1 ⊢
      have k := go hk hR1 hS1 hL hc1
      rw [hp, kq_if ho2] at k
      by_cases ht : kT (kq_y q) = none
      · rw [if_pos ht] at k ⊢; exact k
      · rw [if_neg ht] at k ⊢; exact k
  | invokespecial q =>
    obtain ⟨hq, hs⟩ := hs
    obtain ⟨a, r, hst, hrv, hq8, hf1, hf2, hs⟩ := pr_ok hs
    simp only [ko_r, Bool.and_eq_true, decide_eq_true_eq] at hr
    obtain ⟨⟨⟨⟨⟨⟨rfl, ho⟩, hzy⟩, hkd⟩, hr⟩, hci⟩, hcn⟩ := hr
    obtain ⟨ho1, ho2⟩ := ko_q_use ho
    obtain ⟨m1, m2, m3, m4, -, -, m7, m8, -⟩ := ko_mg hzy
    obtain ⟨m7a, m7b, m7c⟩ := m7 hkd
    refine W_size fun hsz => ?_
    have hsz2 := k_size hR hS hs0 hc hsz
    have hcat := ks_cat g _ _ (kq_n q) st rfl rfl
    rw [hst] at hcat
    refine Ev_call (r := r) hzy C hR hS hL.1 hc hsz2 hs ?_ ?_
    · intro mc ms Pc Qc e1 e2 hM hbl hpre
      have hlen : ((st.take (kq_n q)).reverse.map (kv g)).length = kq_n q := by simp; omega
      have hrm : (kM (kq_y q) d).frames + 1 ≤ R.frames ∧ 8 + (kL (kq_y q) + 11) + (kM (kq_y q) d).locals ≤ R.locals := ⟨by show d + 1 ≤ _; omega, by show 8 + (kL (kq_y q) + 11) + 60 * d ≤ _; omega⟩
      have hf : c + mc ≤ R.cells ∧ n + ms ≤ R.slots := by rw [e1, e2]; omega
      rw [hcat]
      have cw := callB_of (own := (kN y).cls) (index := x) (kq_n q) hts (kws_good hzy) rfl e1.symm e2.symm (hts _ m4) (hts _ (wd_in hr rfl)) ⟨m2.1, m2.2, ho1⟩ hrm
      rw [m7c] at cw
      exact va_runI ⟨hx, hb, hml, hown, hts⟩ hM ⟨cw, m7b, hts _ m7a⟩ ⟨hbl, hpre⟩ rfl hlen hL.1 rfl (lv_room (by rw [kv_sum]; exact hq8)) hd hf
    · intro v h1 H1 locs1 hk hR1 hS1 hc1
      have k := go hk hR1 hS1 hL hc1
      rw [hp] at k
      rw [if_pos m7c]
      exact k
  | ireturn =>
    rcases st with _ | ⟨v | v, _ | ⟨w, r⟩⟩
    · exact hs.elim
    · obtain ⟨h1, h2, h3, hs⟩ := hs
      simp only [ko_r, decide_eq_true_eq] at hr
      subst hr
      obtain ⟨ty, t1, t2⟩ := krt_ok h1
      exact (hret H locs c n ls (kP y i) v h hR hS hc h2 h3 hs).1 ⟨ty, t1, t2, hd⟩
    all_goals exact hs.elim
  | return_ =>
    rcases st with _ | ⟨w, r⟩
    · obtain ⟨h1, h2, h3, hs⟩ := hs
      simp only [ko_r, decide_eq_true_eq] at hr
      subst hr
      exact (hret H locs c n ls (kP y i) 0 h hR hS hc h2 h3 hs).2 ⟨h1, rfl, hd⟩
    · exact hs.elim
  | _ => exact hs.elim
/-! A STRETCH IS SOUND; A METHOD -/
theorem Wz_take {g : kG} {y d i c n k : Nat} {L : List (Option kV)} {st : List kV} {h : kH} {Q : Int32 → kH → Prop} (w : Wz g y d i c n (L.take k) st h Q) : Wz g y d i c n L st h Q :=
  fun p e R s m args below meth c0 h0 Z H locs ls C hR hS hL hc => w p e R s m args below meth c0 h0 Z H locs ls C hR hS (kz_take hL) hc
theorem wq_ok {g : kG} {y d : Nat} {stops : List (Nat × Nat)} {Q : Int32 → kH → Prop} {rt : Option FieldType} {mc ms : Nat} {cd : List Instr} (hy : y < 305) (e1 : kC y = cd) (e2 : kT y = rt) (e3 : kc_c y = (mc, ms)) :
    ∀ (f c n i : Nat) (L : List (Option kV)) (st : List kV) (h : kH), wq g y d rt mc ms cd stops Q f c n i L st h → Wz g y (d + 1) i c n L st h Q := by
  intro f
  induction f with
  | zero => exact fun c n i L st h w => w
  | succ f ih =>
    intro c n i L st h w
    unfold wq at w
    split at w
    · exact w.elim
    · rename_i ins hins
      refine stp_ok hy (by rw [e1]; exact hins) (K := fun c n i L st h => match stf stops i with
        | none => wq g y d rt mc ms cd stops Q f c n i L st h
        | some k => Wz g y (d + 1) i c n (L.take k) st h Q) ?_ (by rw [e2, e3]; exact w)
      intro c n i L st h q
      split at q
      · exact ih c n i L st h q
      · exact Wz_take q
theorem Met_of {l : Launch} {y : MethodName} {ws ws' : List Cond} {rm : Room} {Pc : Array Value → State → Prop} {Qc : Array Value → State → Outcome → State → Prop} {mc ms : Nat} {free : Addr → Prop} {cc : ByteArray} {maxL : Nat} {ret : Option FieldType}
    (hy : plainFor y = true) (hw : ws = Cond.code y cc maxL ret :: ws')
    (body : ∀ p e s m args below meth c s₁, BodyLoose p l y (headSpec ws rm) cc maxL ret e s m args below meth c s₁ → c.maxLocals = maxL → Pc args s →
      W p l e (headSpec ws rm).room s m args below meth c s.heap [] 0 0 (MQ below Qc args s mc ms free) (entryFrame m args maxL)) : Met l y ws rm Pc Qc mc ms free := by
  refine MetFree.of_bodySF (code := cc) (maxLocals := maxL) (ret := ret) hy (fun args s m h hn' => ?_) (fun p e s m args below meth c s₁ B hml hP _ => ?_)
  · obtain ⟨meth, c, h1, h2, h3, h4, h5, h6, -, -⟩ := Cond.code_spec hn' (atoms_spec (ws := ws) h _ (by rw [hw]; exact List.mem_cons_self))
    exact ⟨meth, c, h1, h2, h3, h4, h5, h6⟩
  · have hh0 : s₁.heap = s.heap := by rw [B.state]; rfl
    obtain ⟨t, a1, o, b1, b2, b3⟩ := body p e s m args below meth c s₁ B hml hP s₁ hh0 (Stand.of_body B)
    exact ⟨t, o, a1, b1, b2, ⟨b3.1, b3.2⟩⟩
set_option maxHeartbeats 4000000 in
theorem Ev_of {g : kG} {y d : Nat} {as : List kV} {h : kH} {Q : Int32 → kH → Prop} (hy : y < 304) (ha : as.length ≤ kL y) (w : Wz g y d 0 0 0 (as.map some) [] h Q) : Ev g y d as h Q := by
  obtain ⟨m1, m2, m3, m4, -, -, -, m8, m9⟩ := ko_mg hy
  refine Met_of (cc := kB y) (maxL := kL y) (ret := kT y) m1 rfl ?_
  intro p e s m args below meth c0 s₁ B hml hv
  obtain ⟨rfl, hG, hR, hsz⟩ := hv
  have hts : ∀ w ∈ kg_T, w.before (as.map (kv g)).toArray s = true := fun w hw => atoms_spec (ws := kws y) B.pre w (List.mem_cons_of_mem _ hw)
  have hown : s.vm.findClass (kN y).cls = some m.cls := findClass_of_methodNamed B.named
  have hin : meth.name = (kN y).name := (name_of_methodNamed B.named B.method).1
  have hcat : ∀ v ∈ as.map (kv g), v.category = 1 := fun v hv => by
    obtain ⟨u, -, rfl⟩ := List.mem_map.mp hv
    exact kv_cat g u
  have hlen : (lg_sl (as.map (kv g))).length ≤ kL y := by rw [lg_len _ hcat, List.length_map]; exact ha
  have hl := lv_entry (as.map (kv g)) (n := kL y) hlen
  rw [lg_entry_eq]
  generalize (lg_sl (as.map (kv g)) ++ List.replicate (kL y - (lg_sl (as.map (kv g))).length) Slot.unset).toArray = ls at hl ⊢
  have hL : kzL g ls (kL y) (as.map some) := by
    refine ⟨hl.1, hl.2.1, fun k v hk => ?_⟩
    rw [List.getElem?_map] at hk
    cases hq : as[k]? with
    | none => rw [hq] at hk; cases hk
    | some u =>
      rw [hq] at hk
      have hu : u = v := by simpa using hk
      subst hu
      have := lv_args_in (as.map (kv g)) 0 k (kv g u) hcat (by rw [List.getElem?_map, hq]; rfl)
      rw [Nat.zero_add] at this
      exact hl.2.2 (k, kv g u) this
  have hS : va_S (kA g) s.heap s.heap [] := va_S.rf
  have k := w p e (headSpec (kws y) (kM y d)).room s m (as.map (kv g)).toArray below meth c0 h (MQ below (kQc g y (hn h + (kc_c y).1) Q) (as.map (kv g)).toArray s (kc_c y).1 (kc_c y).2 (kA g)) s.heap [] ls
    ⟨B.exec, B.bytes, hml, hown, hts, hin, ⟨Nat.le_refl _, Nat.le_refl _, Nat.le_refl _, Nat.le_refl _⟩, hG, hsz, ?_⟩ hR hS hL rfl
  · rw [m9] at k
    exact k
  · intro H locs c n ls pc x h1 hR1 hS1 hc1 ec en hq
    subst ec
    refine ⟨fun ⟨ty, t1, t2, hd⟩ => ?_, fun ⟨t1, t2, hd⟩ => ?_⟩
    · refine W.widen (Nat.le_refl _) en (W.zret B.exec B.bytes (B.returns.trans t1) t2 (fun t ht hW => ?_) hS1.2.2 hd B.notSynchronized)
      have hB : kBt g (hn h + (kc_c y).1) h1 t := ⟨by rw [ht]; exact hR1, hc1⟩
      have hF := hS1.F ht
      unfold kQc
      rw [t1]
      exact ⟨⟨x, h1, rfl, hq, hB⟩, hF⟩
    · subst t2
      refine W.widen (Nat.le_refl _) en (W.vret B.exec B.bytes (B.returns.trans t1) (fun t ht hW => ?_) hS1.2.2 hd B.notSynchronized)
      have hB : kBt g (hn h + (kc_c y).1) h1 t := ⟨by rw [ht]; exact hR1, hc1⟩
      have hF := hS1.F ht
      unfold kQc
      rw [t1]
      exact ⟨⟨h1, rfl, hq, hB⟩, hF⟩
end
section
/-! small whole numbers and the machine's ints -/
theorem zi_T {z : Int} (h1 : -2147483648 ≤ z) (h2 : z < 2147483648) : (Int32.ofInt z).toInt = z := Int32.toInt_ofInt_of_le h1 h2
theorem zi_lt {a b : Int} (h1 : -2147483648 ≤ a) (h2 : a < 2147483648) (h3 : -2147483648 ≤ b) (h4 : b < 2147483648) : Int32.ofInt a < Int32.ofInt b ↔ a < b := by
  rw [Int32.lt_iff_toInt_lt, zi_T h1 h2, zi_T h3 h4]
theorem zi_le {a b : Int} (h1 : -2147483648 ≤ a) (h2 : a < 2147483648) (h3 : -2147483648 ≤ b) (h4 : b < 2147483648) : Int32.ofInt a ≤ Int32.ofInt b ↔ a ≤ b := by
  rw [Int32.le_iff_toInt_le, zi_T h1 h2, zi_T h3 h4]
theorem zi_eq {a b : Int} (h1 : -2147483648 ≤ a) (h2 : a < 2147483648) (h3 : -2147483648 ≤ b) (h4 : b < 2147483648) : Int32.ofInt a = Int32.ofInt b ↔ a = b := by
  rw [← Int32.toInt_inj, zi_T h1 h2, zi_T h3 h4]
theorem zi_add (a b : Int) : Int32.ofInt a + Int32.ofInt b = Int32.ofInt (a + b) := (Int32.ofInt_add a b).symm
theorem zi_sub (a b : Int) : Int32.ofInt a - Int32.ofInt b = Int32.ofInt (a - b) := (Int32.ofInt_sub a b).symm
theorem zi_mul (a b : Int) : Int32.ofInt a * Int32.ofInt b = Int32.ofInt (a * b) := (Int32.ofInt_mul a b).symm
theorem zi_neg (a : Int) : -Int32.ofInt a = Int32.ofInt (-a) := (Int32.ofInt_neg a).symm
theorem zi_ix {z : Int} (h1 : 0 ≤ z) (h2 : z < 2147483648) : (Int32.ofInt z).toNatClampNeg = z.toNat := Int32.toNatClampNeg_ofInt_of_le (by omega) h2
theorem zi_in {z : Int} {n : Nat} (h1 : 0 ≤ z) (h2 : z < n) (h3 : n < 2147483648) : vp_in (Int32.ofInt z) n := vp_in_iff.mpr (by rw [zi_T (by omega) (by omega)]; exact ⟨h1, h2⟩)
theorem zi_of (x : Int32) : ∃ z : Int, -2147483648 ≤ z ∧ z < 2147483648 ∧ x = Int32.ofInt z := ⟨x.toInt, by have := x.le_toInt; omega, by have := x.toInt_lt; omega, (Int32.ofInt_toInt x).symm⟩
theorem zi_div {a b : Int} (h1 : 0 ≤ a) (h2 : a < 2147483648) (h3 : 0 < b) (h4 : b < 2147483648) : Int32.ofInt a / Int32.ofInt b = Int32.ofInt (a / b) := by
  rw [← Int32.toInt_inj, Int32.toInt_div_of_ne_right _ _ (by rw [show (-1 : Int32) = Int32.ofInt (-1) from rfl, Ne, zi_eq (by omega) (by omega) (by omega) (by omega)]; omega), zi_T (by omega) h2, zi_T (by omega) h4, Int.tdiv_eq_ediv_of_nonneg h1]
  have h5 := Int.ediv_nonneg h1 (Int.le_of_lt h3)
  have h6 := Int.ediv_le_self b h1
  rw [zi_T (by omega) (by omega)]
theorem zi_rem {a b : Int} (h1 : 0 ≤ a) (h2 : a < 2147483648) (h3 : 0 < b) (h4 : b < 2147483648) : Int32.ofInt a - Int32.ofInt a / Int32.ofInt b * Int32.ofInt b = Int32.ofInt (a % b) := by
  rw [zi_div h1 h2 h3 h4, zi_mul, zi_sub, Int.emod_def, Int.mul_comm b]
theorem zi_nat (n : Nat) : Int32.ofNat n = Int32.ofInt (n : Int) := Int32.ofInt_eq_ofNat.symm
end
