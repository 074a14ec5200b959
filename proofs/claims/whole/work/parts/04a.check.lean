/-- the rows of a method, one behind the other -/
def ko_k (own : String) (init : Bool) (ml : Nat) (B : ByteArray) (pcs : Nat → Nat) : List (Nat × Nat × Nat × Nat) → List Instr → Bool
  | q :: r, ir :: s => (decide (ir = .nop) || decide (decode B q.1 = .ok (ko_w pcs q.1 q.2.2.1 q.2.2.2 ir, q.2.2.2))) && ko_r own init ml q.2.1 q.2.2.1 q.2.2.2 ir && ko_k own init ml B pcs r s
  | [], [] => true
  | _, _ => false
/-- the places alone -/
def ko_p (z : Nat) : List (Nat × Nat × Nat × Nat) → Nat → Bool
  | [], p => decide (p = z)
  | q :: r, p => decide (q.1 = p) && ko_p z r (p + q.2.2.2)
theorem ko_k_app {own : String} {init : Bool} {ml : Nat} {B : ByteArray} {pcs : Nat → Nat} : ∀ (r1 : List (Nat × Nat × Nat × Nat)) (s1 : List Instr) {r2 : List (Nat × Nat × Nat × Nat)} {s2 : List Instr}, ko_k own init ml B pcs r1 s1 = true → ko_k own init ml B pcs r2 s2 = true → ko_k own init ml B pcs (r1 ++ r2) (s1 ++ s2) = true
  | [], [], _, _, _, h => h
  | q :: r, ir :: s, _, _, h1, h2 => by
    simp only [ko_k, List.cons_append, Bool.and_eq_true] at h1 ⊢
    exact ⟨h1.1, ko_k_app r s h1.2 h2⟩
  | [], _ :: _, _, _, h, _ => by simp [ko_k] at h
  | _ :: _, [], _, _, h, _ => by simp [ko_k] at h
theorem ko_k_cut {own : String} {init : Bool} {ml : Nat} {B : ByteArray} {pcs : Nat → Nat} {r : List (Nat × Nat × Nat × Nat)} {s : List Instr} (a n b : Nat) (hb : a + n = b) (h1 : ko_k own init ml B pcs ((r.drop a).take n) ((s.drop a).take n) = true) (h2 : ko_k own init ml B pcs (r.drop b) (s.drop b) = true) : ko_k own init ml B pcs (r.drop a) (s.drop a) = true := by
  subst hb
  rw [← List.drop_drop, ← List.drop_drop] at h2
  have h := ko_k_app _ _ h1 h2
  rwa [List.take_append_drop, List.take_append_drop] at h
theorem ko_k_0 {own : String} {init : Bool} {ml : Nat} {B : ByteArray} {pcs : Nat → Nat} {r : List (Nat × Nat × Nat × Nat)} {s : List Instr} (h : ko_k own init ml B pcs (r.drop 0) (s.drop 0) = true) : ko_k own init ml B pcs r s = true := h
theorem kp_0 : ko_p prog_2_method_1_code.size kr_0 0 = true := by decide +kernel
theorem kx_0_0 : ko_k "QuillDesk$Book" (decide ("<init>" = "<init>")) 1 prog_2_method_1_code (kpl kr_0 prog_2_method_1_code.size) (kr_0.drop 0) (kc_0.drop 0) = true := by decide +kernel
theorem kk_0 : ko_k "QuillDesk$Book" (decide ("<init>" = "<init>")) 1 prog_2_method_1_code (kpl kr_0 prog_2_method_1_code.size) kr_0 kc_0 = true := ko_k_0 kx_0_0
theorem kp_1 : ko_p prog_2_method_2_code.size kr_1 0 = true := by decide +kernel
theorem kx_1_0 : ko_k "QuillDesk$Book" (decide ("add" = "<init>")) 5 prog_2_method_2_code (kpl kr_1 prog_2_method_2_code.size) (kr_1.drop 0) (kc_1.drop 0) = true := by decide +kernel
theorem kk_1 : ko_k "QuillDesk$Book" (decide ("add" = "<init>")) 5 prog_2_method_2_code (kpl kr_1 prog_2_method_2_code.size) kr_1 kc_1 = true := ko_k_0 kx_1_0
theorem kp_2 : ko_p prog_2_method_3_code.size kr_2 0 = true := by decide +kernel
theorem kx_2_0 : ko_k "QuillDesk$Book" (decide ("copyFrom" = "<init>")) 2 prog_2_method_3_code (kpl kr_2 prog_2_method_3_code.size) (kr_2.drop 0) (kc_2.drop 0) = true := by decide +kernel
theorem kk_2 : ko_k "QuillDesk$Book" (decide ("copyFrom" = "<init>")) 2 prog_2_method_3_code (kpl kr_2 prog_2_method_3_code.size) kr_2 kc_2 = true := ko_k_0 kx_2_0
theorem kp_3 : ko_p prog_3_method_1_code.size kr_3 0 = true := by decide +kernel
theorem kx_3_0 : ko_k "QuillDesk$Boxes" (decide ("<init>" = "<init>")) 1 prog_3_method_1_code (kpl kr_3 prog_3_method_1_code.size) (kr_3.drop 0) (kc_3.drop 0) = true := by decide +kernel
theorem kk_3 : ko_k "QuillDesk$Boxes" (decide ("<init>" = "<init>")) 1 prog_3_method_1_code (kpl kr_3 prog_3_method_1_code.size) kr_3 kc_3 = true := ko_k_0 kx_3_0
theorem kp_4 : ko_p prog_3_method_2_code.size kr_4 0 = true := by decide +kernel
theorem kx_4_0 : ko_k "QuillDesk$Boxes" (decide ("worth" = "<init>")) 5 prog_3_method_2_code (kpl kr_4 prog_3_method_2_code.size) ((kr_4.drop 0).take 40) ((kc_4.drop 0).take 40) = true := by decide +kernel
theorem kx_4_40 : ko_k "QuillDesk$Boxes" (decide ("worth" = "<init>")) 5 prog_3_method_2_code (kpl kr_4 prog_3_method_2_code.size) (kr_4.drop 40) (kc_4.drop 40) = true := by decide +kernel
theorem kk_4 : ko_k "QuillDesk$Boxes" (decide ("worth" = "<init>")) 5 prog_3_method_2_code (kpl kr_4 prog_3_method_2_code.size) kr_4 kc_4 = true := ko_k_0 (ko_k_cut 0 40 40 rfl kx_4_0 kx_4_40)
theorem kp_5 : ko_p prog_3_method_3_code.size kr_5 0 = true := by decide +kernel
theorem kx_5_0 : ko_k "QuillDesk$Boxes" (decide ("bestLine" = "<init>")) 4 prog_3_method_3_code (kpl kr_5 prog_3_method_3_code.size) (kr_5.drop 0) (kc_5.drop 0) = true := by decide +kernel
theorem kk_5 : ko_k "QuillDesk$Boxes" (decide ("bestLine" = "<init>")) 4 prog_3_method_3_code (kpl kr_5 prog_3_method_3_code.size) kr_5 kc_5 = true := ko_k_0 kx_5_0
theorem kp_6 : ko_p prog_3_method_4_code.size kr_6 0 = true := by decide +kernel
theorem kx_6_0 : ko_k "QuillDesk$Boxes" (decide ("worthOfDrawing" = "<init>")) 5 prog_3_method_4_code (kpl kr_6 prog_3_method_4_code.size) (kr_6.drop 0) (kc_6.drop 0) = true := by decide +kernel
theorem kk_6 : ko_k "QuillDesk$Boxes" (decide ("worthOfDrawing" = "<init>")) 5 prog_3_method_4_code (kpl kr_6 prog_3_method_4_code.size) kr_6 kc_6 = true := ko_k_0 kx_6_0
theorem kp_7 : ko_p prog_3_method_5_code.size kr_7 0 = true := by decide +kernel
theorem kx_7_0 : ko_k "QuillDesk$Boxes" (decide ("countClosed" = "<init>")) 3 prog_3_method_5_code (kpl kr_7 prog_3_method_5_code.size) (kr_7.drop 0) (kc_7.drop 0) = true := by decide +kernel
theorem kk_7 : ko_k "QuillDesk$Boxes" (decide ("countClosed" = "<init>")) 3 prog_3_method_5_code (kpl kr_7 prog_3_method_5_code.size) kr_7 kc_7 = true := ko_k_0 kx_7_0
theorem kp_8 : ko_p prog_4_method_1_code.size kr_8 0 = true := by decide +kernel
theorem kx_8_0 : ko_k "QuillDesk$Desk" (decide ("<init>" = "<init>")) 1 prog_4_method_1_code (kpl kr_8 prog_4_method_1_code.size) ((kr_8.drop 0).take 40) ((kc_8.drop 0).take 40) = true := by decide +kernel
theorem kx_8_40 : ko_k "QuillDesk$Desk" (decide ("<init>" = "<init>")) 1 prog_4_method_1_code (kpl kr_8 prog_4_method_1_code.size) ((kr_8.drop 40).take 40) ((kc_8.drop 40).take 40) = true := by decide +kernel
theorem kx_8_80 : ko_k "QuillDesk$Desk" (decide ("<init>" = "<init>")) 1 prog_4_method_1_code (kpl kr_8 prog_4_method_1_code.size) (kr_8.drop 80) (kc_8.drop 80) = true := by decide +kernel
theorem kk_8 : ko_k "QuillDesk$Desk" (decide ("<init>" = "<init>")) 1 prog_4_method_1_code (kpl kr_8 prog_4_method_1_code.size) kr_8 kc_8 = true := ko_k_0 (ko_k_cut 0 40 40 rfl kx_8_0 (ko_k_cut 40 40 80 rfl kx_8_40 kx_8_80))
theorem kp_9 : ko_p prog_4_method_2_code.size kr_9 0 = true := by decide +kernel
theorem kx_9_0 : ko_k "QuillDesk$Desk" (decide ("copyFrom" = "<init>")) 2 prog_4_method_2_code (kpl kr_9 prog_4_method_2_code.size) ((kr_9.drop 0).take 40) ((kc_9.drop 0).take 40) = true := by decide +kernel
theorem kx_9_40 : ko_k "QuillDesk$Desk" (decide ("copyFrom" = "<init>")) 2 prog_4_method_2_code (kpl kr_9 prog_4_method_2_code.size) ((kr_9.drop 40).take 40) ((kc_9.drop 40).take 40) = true := by decide +kernel
theorem kx_9_80 : ko_k "QuillDesk$Desk" (decide ("copyFrom" = "<init>")) 2 prog_4_method_2_code (kpl kr_9 prog_4_method_2_code.size) (kr_9.drop 80) (kc_9.drop 80) = true := by decide +kernel
theorem kk_9 : ko_k "QuillDesk$Desk" (decide ("copyFrom" = "<init>")) 2 prog_4_method_2_code (kpl kr_9 prog_4_method_2_code.size) kr_9 kc_9 = true := ko_k_0 (ko_k_cut 0 40 40 rfl kx_9_0 (ko_k_cut 40 40 80 rfl kx_9_40 kx_9_80))
theorem kp_10 : ko_p prog_4_method_3_code.size kr_10 0 = true := by decide +kernel
theorem kx_10_0 : ko_k "QuillDesk$Desk" (decide ("wildness" = "<init>")) 3 prog_4_method_3_code (kpl kr_10 prog_4_method_3_code.size) (kr_10.drop 0) (kc_10.drop 0) = true := by decide +kernel
theorem kk_10 : ko_k "QuillDesk$Desk" (decide ("wildness" = "<init>")) 3 prog_4_method_3_code (kpl kr_10 prog_4_method_3_code.size) kr_10 kc_10 = true := ko_k_0 kx_10_0
theorem kp_11 : ko_p prog_4_method_4_code.size kr_11 0 = true := by decide +kernel
theorem kx_11_0 : ko_k "QuillDesk$Desk" (decide ("fineness" = "<init>")) 3 prog_4_method_4_code (kpl kr_11 prog_4_method_4_code.size) (kr_11.drop 0) (kc_11.drop 0) = true := by decide +kernel
theorem kk_11 : ko_k "QuillDesk$Desk" (decide ("fineness" = "<init>")) 3 prog_4_method_4_code (kpl kr_11 prog_4_method_4_code.size) kr_11 kc_11 = true := ko_k_0 kx_11_0
theorem kp_12 : ko_p prog_4_method_5_code.size kr_12 0 = true := by decide +kernel
theorem kx_12_0 : ko_k "QuillDesk$Desk" (decide ("deedsBefore" = "<init>")) 4 prog_4_method_5_code (kpl kr_12 prog_4_method_5_code.size) (kr_12.drop 0) (kc_12.drop 0) = true := by decide +kernel
theorem kk_12 : ko_k "QuillDesk$Desk" (decide ("deedsBefore" = "<init>")) 4 prog_4_method_5_code (kpl kr_12 prog_4_method_5_code.size) kr_12 kc_12 = true := ko_k_0 kx_12_0
theorem kp_13 : ko_p prog_4_method_6_code.size kr_13 0 = true := by decide +kernel
theorem kx_13_0 : ko_k "QuillDesk$Desk" (decide ("canBeWritten" = "<init>")) 3 prog_4_method_6_code (kpl kr_13 prog_4_method_6_code.size) (kr_13.drop 0) (kc_13.drop 0) = true := by decide +kernel
theorem kk_13 : ko_k "QuillDesk$Desk" (decide ("canBeWritten" = "<init>")) 3 prog_4_method_6_code (kpl kr_13 prog_4_method_6_code.size) kr_13 kc_13 = true := ko_k_0 kx_13_0
theorem kp_14 : ko_p prog_4_method_7_code.size kr_14 0 = true := by decide +kernel
theorem kx_14_0 : ko_k "QuillDesk$Desk" (decide ("ask" = "<init>")) 5 prog_4_method_7_code (kpl kr_14 prog_4_method_7_code.size) (kr_14.drop 0) (kc_14.drop 0) = true := by decide +kernel
theorem kk_14 : ko_k "QuillDesk$Desk" (decide ("ask" = "<init>")) 5 prog_4_method_7_code (kpl kr_14 prog_4_method_7_code.size) kr_14 kc_14 = true := ko_k_0 kx_14_0
theorem kp_15 : ko_p prog_4_method_8_code.size kr_15 0 = true := by decide +kernel
theorem kx_15_0 : ko_k "QuillDesk$Desk" (decide ("learn" = "<init>")) 5 prog_4_method_8_code (kpl kr_15 prog_4_method_8_code.size) ((kr_15.drop 0).take 40) ((kc_15.drop 0).take 40) = true := by decide +kernel
theorem kx_15_40 : ko_k "QuillDesk$Desk" (decide ("learn" = "<init>")) 5 prog_4_method_8_code (kpl kr_15 prog_4_method_8_code.size) ((kr_15.drop 40).take 40) ((kc_15.drop 40).take 40) = true := by decide +kernel
theorem kx_15_80 : ko_k "QuillDesk$Desk" (decide ("learn" = "<init>")) 5 prog_4_method_8_code (kpl kr_15 prog_4_method_8_code.size) (kr_15.drop 80) (kc_15.drop 80) = true := by decide +kernel
theorem kk_15 : ko_k "QuillDesk$Desk" (decide ("learn" = "<init>")) 5 prog_4_method_8_code (kpl kr_15 prog_4_method_8_code.size) kr_15 kc_15 = true := ko_k_0 (ko_k_cut 0 40 40 rfl kx_15_0 (ko_k_cut 40 40 80 rfl kx_15_40 kx_15_80))
theorem kp_16 : ko_p prog_4_method_9_code.size kr_16 0 = true := by decide +kernel
theorem kx_16_0 : ko_k "QuillDesk$Desk" (decide ("passHour" = "<init>")) 5 prog_4_method_9_code (kpl kr_16 prog_4_method_9_code.size) ((kr_16.drop 0).take 40) ((kc_16.drop 0).take 40) = true := by decide +kernel
theorem kx_16_40 : ko_k "QuillDesk$Desk" (decide ("passHour" = "<init>")) 5 prog_4_method_9_code (kpl kr_16 prog_4_method_9_code.size) (kr_16.drop 40) (kc_16.drop 40) = true := by decide +kernel
theorem kk_16 : ko_k "QuillDesk$Desk" (decide ("passHour" = "<init>")) 5 prog_4_method_9_code (kpl kr_16 prog_4_method_9_code.size) kr_16 kc_16 = true := ko_k_0 (ko_k_cut 0 40 40 rfl kx_16_0 kx_16_40)
theorem kp_17 : ko_p prog_4_method_10_code.size kr_17 0 = true := by decide +kernel
theorem kx_17_0 : ko_k "QuillDesk$Desk" (decide ("takeTurn" = "<init>")) 7 prog_4_method_10_code (kpl kr_17 prog_4_method_10_code.size) ((kr_17.drop 0).take 40) ((kc_17.drop 0).take 40) = true := by decide +kernel
theorem kx_17_40 : ko_k "QuillDesk$Desk" (decide ("takeTurn" = "<init>")) 7 prog_4_method_10_code (kpl kr_17 prog_4_method_10_code.size) ((kr_17.drop 40).take 40) ((kc_17.drop 40).take 40) = true := by decide +kernel
theorem kx_17_80 : ko_k "QuillDesk$Desk" (decide ("takeTurn" = "<init>")) 7 prog_4_method_10_code (kpl kr_17 prog_4_method_10_code.size) ((kr_17.drop 80).take 40) ((kc_17.drop 80).take 40) = true := by decide +kernel
theorem kx_17_120 : ko_k "QuillDesk$Desk" (decide ("takeTurn" = "<init>")) 7 prog_4_method_10_code (kpl kr_17 prog_4_method_10_code.size) ((kr_17.drop 120).take 40) ((kc_17.drop 120).take 40) = true := by decide +kernel
theorem kx_17_160 : ko_k "QuillDesk$Desk" (decide ("takeTurn" = "<init>")) 7 prog_4_method_10_code (kpl kr_17 prog_4_method_10_code.size) (kr_17.drop 160) (kc_17.drop 160) = true := by decide +kernel
theorem kk_17 : ko_k "QuillDesk$Desk" (decide ("takeTurn" = "<init>")) 7 prog_4_method_10_code (kpl kr_17 prog_4_method_10_code.size) kr_17 kc_17 = true := ko_k_0 (ko_k_cut 0 40 40 rfl kx_17_0 (ko_k_cut 40 40 80 rfl kx_17_40 (ko_k_cut 80 40 120 rfl kx_17_80 (ko_k_cut 120 40 160 rfl kx_17_120 kx_17_160))))
theorem kp_18 : ko_p prog_4_method_11_code.size kr_18 0 = true := by decide +kernel
theorem kx_18_0 : ko_k "QuillDesk$Desk" (decide ("note" = "<init>")) 6 prog_4_method_11_code (kpl kr_18 prog_4_method_11_code.size) (kr_18.drop 0) (kc_18.drop 0) = true := by decide +kernel
theorem kk_18 : ko_k "QuillDesk$Desk" (decide ("note" = "<init>")) 6 prog_4_method_11_code (kpl kr_18 prog_4_method_11_code.size) kr_18 kc_18 = true := ko_k_0 kx_18_0
theorem kp_19 : ko_p prog_4_method_12_code.size kr_19 0 = true := by decide +kernel
theorem kx_19_0 : ko_k "QuillDesk$Desk" (decide ("soonest" = "<init>")) 10 prog_4_method_12_code (kpl kr_19 prog_4_method_12_code.size) ((kr_19.drop 0).take 40) ((kc_19.drop 0).take 40) = true := by decide +kernel
theorem kx_19_40 : ko_k "QuillDesk$Desk" (decide ("soonest" = "<init>")) 10 prog_4_method_12_code (kpl kr_19 prog_4_method_12_code.size) ((kr_19.drop 40).take 40) ((kc_19.drop 40).take 40) = true := by decide +kernel
theorem kx_19_80 : ko_k "QuillDesk$Desk" (decide ("soonest" = "<init>")) 10 prog_4_method_12_code (kpl kr_19 prog_4_method_12_code.size) (kr_19.drop 80) (kc_19.drop 80) = true := by decide +kernel
theorem kk_19 : ko_k "QuillDesk$Desk" (decide ("soonest" = "<init>")) 10 prog_4_method_12_code (kpl kr_19 prog_4_method_12_code.size) kr_19 kc_19 = true := ko_k_0 (ko_k_cut 0 40 40 rfl kx_19_0 (ko_k_cut 40 40 80 rfl kx_19_40 kx_19_80))
theorem kp_20 : ko_p prog_5_method_1_code.size kr_20 0 = true := by decide +kernel
theorem kx_20_0 : ko_k "QuillDesk$Firm" (decide ("<init>" = "<init>")) 1 prog_5_method_1_code (kpl kr_20 prog_5_method_1_code.size) ((kr_20.drop 0).take 40) ((kc_20.drop 0).take 40) = true := by decide +kernel
theorem kx_20_40 : ko_k "QuillDesk$Firm" (decide ("<init>" = "<init>")) 1 prog_5_method_1_code (kpl kr_20 prog_5_method_1_code.size) (kr_20.drop 40) (kc_20.drop 40) = true := by decide +kernel
theorem kk_20 : ko_k "QuillDesk$Firm" (decide ("<init>" = "<init>")) 1 prog_5_method_1_code (kpl kr_20 prog_5_method_1_code.size) kr_20 kc_20 = true := ko_k_0 (ko_k_cut 0 40 40 rfl kx_20_0 kx_20_40)
theorem kp_21 : ko_p prog_5_method_2_code.size kr_21 0 = true := by decide +kernel
theorem kx_21_0 : ko_k "QuillDesk$Firm" (decide ("copyFrom" = "<init>")) 2 prog_5_method_2_code (kpl kr_21 prog_5_method_2_code.size) ((kr_21.drop 0).take 40) ((kc_21.drop 0).take 40) = true := by decide +kernel
theorem kx_21_40 : ko_k "QuillDesk$Firm" (decide ("copyFrom" = "<init>")) 2 prog_5_method_2_code (kpl kr_21 prog_5_method_2_code.size) ((kr_21.drop 40).take 40) ((kc_21.drop 40).take 40) = true := by decide +kernel
theorem kx_21_80 : ko_k "QuillDesk$Firm" (decide ("copyFrom" = "<init>")) 2 prog_5_method_2_code (kpl kr_21 prog_5_method_2_code.size) ((kr_21.drop 80).take 40) ((kc_21.drop 80).take 40) = true := by decide +kernel
theorem kx_21_120 : ko_k "QuillDesk$Firm" (decide ("copyFrom" = "<init>")) 2 prog_5_method_2_code (kpl kr_21 prog_5_method_2_code.size) (kr_21.drop 120) (kc_21.drop 120) = true := by decide +kernel
theorem kk_21 : ko_k "QuillDesk$Firm" (decide ("copyFrom" = "<init>")) 2 prog_5_method_2_code (kpl kr_21 prog_5_method_2_code.size) kr_21 kc_21 = true := ko_k_0 (ko_k_cut 0 40 40 rfl kx_21_0 (ko_k_cut 40 40 80 rfl kx_21_40 (ko_k_cut 80 40 120 rfl kx_21_80 kx_21_120)))
theorem kp_22 : ko_p prog_5_method_3_code.size kr_22 0 = true := by decide +kernel
theorem kx_22_0 : ko_k "QuillDesk$Firm" (decide ("hasQuill" = "<init>")) 2 prog_5_method_3_code (kpl kr_22 prog_5_method_3_code.size) (kr_22.drop 0) (kc_22.drop 0) = true := by decide +kernel
theorem kk_22 : ko_k "QuillDesk$Firm" (decide ("hasQuill" = "<init>")) 2 prog_5_method_3_code (kpl kr_22 prog_5_method_3_code.size) kr_22 kc_22 = true := ko_k_0 kx_22_0
theorem kp_23 : ko_p prog_5_method_4_code.size kr_23 0 = true := by decide +kernel
theorem kx_23_0 : ko_k "QuillDesk$Firm" (decide ("hasClerk" = "<init>")) 2 prog_5_method_4_code (kpl kr_23 prog_5_method_4_code.size) (kr_23.drop 0) (kc_23.drop 0) = true := by decide +kernel
theorem kk_23 : ko_k "QuillDesk$Firm" (decide ("hasClerk" = "<init>")) 2 prog_5_method_4_code (kpl kr_23 prog_5_method_4_code.size) kr_23 kc_23 = true := ko_k_0 kx_23_0
theorem kp_24 : ko_p prog_5_method_5_code.size kr_24 0 = true := by decide +kernel
theorem kx_24_0 : ko_k "QuillDesk$Firm" (decide ("hasDeed" = "<init>")) 2 prog_5_method_5_code (kpl kr_24 prog_5_method_5_code.size) (kr_24.drop 0) (kc_24.drop 0) = true := by decide +kernel
theorem kk_24 : ko_k "QuillDesk$Firm" (decide ("hasDeed" = "<init>")) 2 prog_5_method_5_code (kpl kr_24 prog_5_method_5_code.size) kr_24 kc_24 = true := ko_k_0 kx_24_0
theorem kp_25 : ko_p prog_5_method_6_code.size kr_25 0 = true := by decide +kernel
theorem kx_25_0 : ko_k "QuillDesk$Firm" (decide ("isDone" = "<init>")) 2 prog_5_method_6_code (kpl kr_25 prog_5_method_6_code.size) (kr_25.drop 0) (kc_25.drop 0) = true := by decide +kernel
theorem kk_25 : ko_k "QuillDesk$Firm" (decide ("isDone" = "<init>")) 2 prog_5_method_6_code (kpl kr_25 prog_5_method_6_code.size) kr_25 kc_25 = true := ko_k_0 kx_25_0
theorem kp_26 : ko_p prog_5_method_7_code.size kr_26 0 = true := by decide +kernel
theorem kx_26_0 : ko_k "QuillDesk$Firm" (decide ("linesLeft" = "<init>")) 2 prog_5_method_7_code (kpl kr_26 prog_5_method_7_code.size) (kr_26.drop 0) (kc_26.drop 0) = true := by decide +kernel
theorem kk_26 : ko_k "QuillDesk$Firm" (decide ("linesLeft" = "<init>")) 2 prog_5_method_7_code (kpl kr_26 prog_5_method_7_code.size) kr_26 kc_26 = true := ko_k_0 kx_26_0
theorem kp_27 : ko_p prog_5_method_8_code.size kr_27 0 = true := by decide +kernel
theorem kx_27_0 : ko_k "QuillDesk$Firm" (decide ("holder" = "<init>")) 3 prog_5_method_8_code (kpl kr_27 prog_5_method_8_code.size) (kr_27.drop 0) (kc_27.drop 0) = true := by decide +kernel
theorem kk_27 : ko_k "QuillDesk$Firm" (decide ("holder" = "<init>")) 3 prog_5_method_8_code (kpl kr_27 prog_5_method_8_code.size) kr_27 kc_27 = true := ko_k_0 kx_27_0
theorem kp_28 : ko_p prog_5_method_9_code.size kr_28 0 = true := by decide +kernel
theorem kx_28_0 : ko_k "QuillDesk$Firm" (decide ("doneSet" = "<init>")) 3 prog_5_method_9_code (kpl kr_28 prog_5_method_9_code.size) (kr_28.drop 0) (kc_28.drop 0) = true := by decide +kernel
theorem kk_28 : ko_k "QuillDesk$Firm" (decide ("doneSet" = "<init>")) 3 prog_5_method_9_code (kpl kr_28 prog_5_method_9_code.size) kr_28 kc_28 = true := ko_k_0 kx_28_0
theorem kp_29 : ko_p prog_5_method_10_code.size kr_29 0 = true := by decide +kernel
theorem kx_29_0 : ko_k "QuillDesk$Firm" (decide ("clerksAt" = "<init>")) 4 prog_5_method_10_code (kpl kr_29 prog_5_method_10_code.size) (kr_29.drop 0) (kc_29.drop 0) = true := by decide +kernel
theorem kk_29 : ko_k "QuillDesk$Firm" (decide ("clerksAt" = "<init>")) 4 prog_5_method_10_code (kpl kr_29 prog_5_method_10_code.size) kr_29 kc_29 = true := ko_k_0 kx_29_0
theorem kp_30 : ko_p prog_5_method_11_code.size kr_30 0 = true := by decide +kernel
theorem kx_30_0 : ko_k "QuillDesk$Firm" (decide ("allWritten" = "<init>")) 3 prog_5_method_11_code (kpl kr_30 prog_5_method_11_code.size) (kr_30.drop 0) (kc_30.drop 0) = true := by decide +kernel
theorem kk_30 : ko_k "QuillDesk$Firm" (decide ("allWritten" = "<init>")) 3 prog_5_method_11_code (kpl kr_30 prog_5_method_11_code.size) kr_30 kc_30 = true := ko_k_0 kx_30_0
theorem kp_31 : ko_p prog_5_method_12_code.size kr_31 0 = true := by decide +kernel
theorem kx_31_0 : ko_k "QuillDesk$Firm" (decide ("allBlots" = "<init>")) 3 prog_5_method_12_code (kpl kr_31 prog_5_method_12_code.size) (kr_31.drop 0) (kc_31.drop 0) = true := by decide +kernel
theorem kk_31 : ko_k "QuillDesk$Firm" (decide ("allBlots" = "<init>")) 3 prog_5_method_12_code (kpl kr_31 prog_5_method_12_code.size) kr_31 kc_31 = true := ko_k_0 kx_31_0
theorem kp_32 : ko_p prog_5_method_13_code.size kr_32 0 = true := by decide +kernel
theorem kx_32_0 : ko_k "QuillDesk$Firm" (decide ("canAct" = "<init>")) 5 prog_5_method_13_code (kpl kr_32 prog_5_method_13_code.size) ((kr_32.drop 0).take 40) ((kc_32.drop 0).take 40) = true := by decide +kernel
theorem kx_32_40 : ko_k "QuillDesk$Firm" (decide ("canAct" = "<init>")) 5 prog_5_method_13_code (kpl kr_32 prog_5_method_13_code.size) ((kr_32.drop 40).take 40) ((kc_32.drop 40).take 40) = true := by decide +kernel
theorem kx_32_80 : ko_k "QuillDesk$Firm" (decide ("canAct" = "<init>")) 5 prog_5_method_13_code (kpl kr_32 prog_5_method_13_code.size) (kr_32.drop 80) (kc_32.drop 80) = true := by decide +kernel
theorem kk_32 : ko_k "QuillDesk$Firm" (decide ("canAct" = "<init>")) 5 prog_5_method_13_code (kpl kr_32 prog_5_method_13_code.size) kr_32 kc_32 = true := ko_k_0 (ko_k_cut 0 40 40 rfl kx_32_0 (ko_k_cut 40 40 80 rfl kx_32_40 kx_32_80))
theorem kp_33 : ko_p prog_5_method_14_code.size kr_33 0 = true := by decide +kernel
theorem kx_33_0 : ko_k "QuillDesk$Firm" (decide ("doAct" = "<init>")) 5 prog_5_method_14_code (kpl kr_33 prog_5_method_14_code.size) ((kr_33.drop 0).take 40) ((kc_33.drop 0).take 40) = true := by decide +kernel
theorem kx_33_40 : ko_k "QuillDesk$Firm" (decide ("doAct" = "<init>")) 5 prog_5_method_14_code (kpl kr_33 prog_5_method_14_code.size) (kr_33.drop 40) (kc_33.drop 40) = true := by decide +kernel
theorem kk_33 : ko_k "QuillDesk$Firm" (decide ("doAct" = "<init>")) 5 prog_5_method_14_code (kpl kr_33 prog_5_method_14_code.size) kr_33 kc_33 = true := ko_k_0 (ko_k_cut 0 40 40 rfl kx_33_0 kx_33_40)
theorem kp_34 : ko_p prog_5_method_15_code.size kr_34 0 = true := by decide +kernel
theorem kx_34_0 : ko_k "QuillDesk$Firm" (decide ("draw" = "<init>")) 2 prog_5_method_15_code (kpl kr_34 prog_5_method_15_code.size) (kr_34.drop 0) (kc_34.drop 0) = true := by decide +kernel
theorem kk_34 : ko_k "QuillDesk$Firm" (decide ("draw" = "<init>")) 2 prog_5_method_15_code (kpl kr_34 prog_5_method_15_code.size) kr_34 kc_34 = true := ko_k_0 kx_34_0
theorem kp_35 : ko_p prog_5_method_16_code.size kr_35 0 = true := by decide +kernel
theorem kx_35_0 : ko_k "QuillDesk$Firm" (decide ("falls" = "<init>")) 3 prog_5_method_16_code (kpl kr_35 prog_5_method_16_code.size) (kr_35.drop 0) (kc_35.drop 0) = true := by decide +kernel
theorem kk_35 : ko_k "QuillDesk$Firm" (decide ("falls" = "<init>")) 3 prog_5_method_16_code (kpl kr_35 prog_5_method_16_code.size) kr_35 kc_35 = true := ko_k_0 kx_35_0
theorem kp_36 : ko_p prog_5_method_17_code.size kr_36 0 = true := by decide +kernel
theorem kx_36_0 : ko_k "QuillDesk$Firm" (decide ("wear" = "<init>")) 2 prog_5_method_17_code (kpl kr_36 prog_5_method_17_code.size) (kr_36.drop 0) (kc_36.drop 0) = true := by decide +kernel
theorem kk_36 : ko_k "QuillDesk$Firm" (decide ("wear" = "<init>")) 2 prog_5_method_17_code (kpl kr_36 prog_5_method_17_code.size) kr_36 kc_36 = true := ko_k_0 kx_36_0
theorem kp_37 : ko_p prog_5_method_18_code.size kr_37 0 = true := by decide +kernel
theorem kx_37_0 : ko_k "QuillDesk$Firm" (decide ("finish" = "<init>")) 4 prog_5_method_18_code (kpl kr_37 prog_5_method_18_code.size) ((kr_37.drop 0).take 40) ((kc_37.drop 0).take 40) = true := by decide +kernel
theorem kx_37_40 : ko_k "QuillDesk$Firm" (decide ("finish" = "<init>")) 4 prog_5_method_18_code (kpl kr_37 prog_5_method_18_code.size) (kr_37.drop 40) (kc_37.drop 40) = true := by decide +kernel
theorem kk_37 : ko_k "QuillDesk$Firm" (decide ("finish" = "<init>")) 4 prog_5_method_18_code (kpl kr_37 prog_5_method_18_code.size) kr_37 kc_37 = true := ko_k_0 (ko_k_cut 0 40 40 rfl kx_37_0 kx_37_40)
theorem kp_38 : ko_p prog_6_method_1_code.size kr_38 0 = true := by decide +kernel
theorem kx_38_0 : ko_k "QuillDesk$Law" (decide ("<init>" = "<init>")) 1 prog_6_method_1_code (kpl kr_38 prog_6_method_1_code.size) (kr_38.drop 0) (kc_38.drop 0) = true := by decide +kernel
theorem kk_38 : ko_k "QuillDesk$Law" (decide ("<init>" = "<init>")) 1 prog_6_method_1_code (kpl kr_38 prog_6_method_1_code.size) kr_38 kc_38 = true := ko_k_0 kx_38_0
theorem kp_39 : ko_p prog_6_method_2_code.size kr_39 0 = true := by decide +kernel
theorem kx_39_0 : ko_k "QuillDesk$Law" (decide ("copyFrom" = "<init>")) 2 prog_6_method_2_code (kpl kr_39 prog_6_method_2_code.size) (kr_39.drop 0) (kc_39.drop 0) = true := by decide +kernel
theorem kk_39 : ko_k "QuillDesk$Law" (decide ("copyFrom" = "<init>")) 2 prog_6_method_2_code (kpl kr_39 prog_6_method_2_code.size) kr_39 kc_39 = true := ko_k_0 kx_39_0
theorem kp_40 : ko_p prog_6_method_3_code.size kr_40 0 = true := by decide +kernel
theorem kx_40_0 : ko_k "QuillDesk$Law" (decide ("clear" = "<init>")) 1 prog_6_method_3_code (kpl kr_40 prog_6_method_3_code.size) (kr_40.drop 0) (kc_40.drop 0) = true := by decide +kernel
theorem kk_40 : ko_k "QuillDesk$Law" (decide ("clear" = "<init>")) 1 prog_6_method_3_code (kpl kr_40 prog_6_method_3_code.size) kr_40 kc_40 = true := ko_k_0 kx_40_0
theorem kp_41 : ko_p prog_6_method_4_code.size kr_41 0 = true := by decide +kernel
theorem kx_41_0 : ko_k "QuillDesk$Law" (decide ("put" = "<init>")) 2 prog_6_method_4_code (kpl kr_41 prog_6_method_4_code.size) (kr_41.drop 0) (kc_41.drop 0) = true := by decide +kernel
theorem kk_41 : ko_k "QuillDesk$Law" (decide ("put" = "<init>")) 2 prog_6_method_4_code (kpl kr_41 prog_6_method_4_code.size) kr_41 kc_41 = true := ko_k_0 kx_41_0
theorem kp_42 : ko_p prog_6_method_5_code.size kr_42 0 = true := by decide +kernel
theorem kx_42_0 : ko_k "QuillDesk$Law" (decide ("fact" = "<init>")) 3 prog_6_method_5_code (kpl kr_42 prog_6_method_5_code.size) (kr_42.drop 0) (kc_42.drop 0) = true := by decide +kernel
theorem kk_42 : ko_k "QuillDesk$Law" (decide ("fact" = "<init>")) 3 prog_6_method_5_code (kpl kr_42 prog_6_method_5_code.size) kr_42 kc_42 = true := ko_k_0 kx_42_0
theorem kp_43 : ko_p prog_6_method_6_code.size kr_43 0 = true := by decide +kernel
theorem kx_43_0 : ko_k "QuillDesk$Law" (decide ("know" = "<init>")) 4 prog_6_method_6_code (kpl kr_43 prog_6_method_6_code.size) (kr_43.drop 0) (kc_43.drop 0) = true := by decide +kernel
theorem kk_43 : ko_k "QuillDesk$Law" (decide ("know" = "<init>")) 4 prog_6_method_6_code (kpl kr_43 prog_6_method_6_code.size) kr_43 kc_43 = true := ko_k_0 kx_43_0
theorem kp_44 : ko_p prog_6_method_7_code.size kr_44 0 = true := by decide +kernel
theorem kx_44_0 : ko_k "QuillDesk$Law" (decide ("tell" = "<init>")) 5 prog_6_method_7_code (kpl kr_44 prog_6_method_7_code.size) ((kr_44.drop 0).take 40) ((kc_44.drop 0).take 40) = true := by decide +kernel
theorem kx_44_40 : ko_k "QuillDesk$Law" (decide ("tell" = "<init>")) 5 prog_6_method_7_code (kpl kr_44 prog_6_method_7_code.size) (kr_44.drop 40) (kc_44.drop 40) = true := by decide +kernel
theorem kk_44 : ko_k "QuillDesk$Law" (decide ("tell" = "<init>")) 5 prog_6_method_7_code (kpl kr_44 prog_6_method_7_code.size) kr_44 kc_44 = true := ko_k_0 (ko_k_cut 0 40 40 rfl kx_44_0 kx_44_40)
theorem kp_45 : ko_p prog_6_method_8_code.size kr_45 0 = true := by decide +kernel
theorem kx_45_0 : ko_k "QuillDesk$Law" (decide ("work" = "<init>")) 6 prog_6_method_8_code (kpl kr_45 prog_6_method_8_code.size) ((kr_45.drop 0).take 40) ((kc_45.drop 0).take 40) = true := by decide +kernel
