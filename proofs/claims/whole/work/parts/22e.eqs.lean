/-! the methods as functions: what each is (by their code) -/
set_option maxRecDepth 20000 in
theorem e_265 {d : Nat} {I : zI} {x1 : Int} : cl (d + 1) 265 [(.inr (some 240)), (.inl x1)] I = (if x1 = (-1) then (some (0, (up (up (up (up I 240 0 0) 240 57 0) 240 58 0) 240 59 0))) else ((cl d 158 [(.inr (some 240)), (.inl x1), (.inl 1), (.inl 59)] (up I 240 0 0)).bind fun p1 => (if p1.1 = 0 then (some ((-1), p1.2)) else ((cl d 264 [(.inr (some 240)), (.inl x1)] p1.2).bind fun p2 => (if p2.1 = 0 then (if p2.2 240 59 = 7 then (some ((-1), p2.2)) else (if x1 < 30 then (some ((wr (p2.2 240 59 + 1)), (up (up p2.2 240 57 (zor (p2.2 240 57) (zshl 1 x1))) 240 59 (wr (p2.2 240 59 + 1))))) else (some ((wr (p2.2 240 59 + 1)), (up (up p2.2 240 58 (zor (p2.2 240 58) (zshl 1 (wr (x1 - 30))))) 240 59 (wr (p2.2 240 59 + 1))))))) else (some ((-1), p2.2))))))) := by
  rw [cl_D (n := 2) (by decide +kernel) rfl, zE me_265 (by decide +kernel : kst 265 = []) 66]
  rfl
set_option maxRecDepth 20000 in
theorem e_266 {d : Nat} {I : zI} {x1 x2 x3 : Int} : cl (d + 1) 266 [(.inr (some 240)), (.inl x1), (.inl x2), (.inl x3)] I = (if 0 ≤ x2 ∧ x2 < 9 then (if 0 ≤ x1 ∧ x1 < 9 then (if 0 ≤ (wr ((wr (9 * x1)) + x3)) ∧ (wr ((wr (9 * x1)) + x3)) < 81 then (if 0 ≤ (wr ((wr (9 * x3)) + x2)) ∧ (wr ((wr (9 * x3)) + x2)) < 81 then (some ((wr ((wr ((wr (I 274 (x2).toNat - I 274 (x1).toNat)) + I 275 ((wr ((wr (9 * x1)) + x3))).toNat)) + I 275 ((wr ((wr (9 * x3)) + x2))).toNat)), I)) else none) else none) else none) else none) := by
  rw [cl_D (n := 4) (by decide +kernel) rfl, zE me_266 (by decide +kernel : kst 266 = []) 30]
  rfl
set_option maxRecDepth 20000 in
theorem e_267 {d : Nat} {I : zI} {x1 x2 : Int} : cl (d + 1) 267 [(.inr (some 240)), (.inl x1), (.inl x2)] I = ((cl d 158 [(.inr (some 240)), (.inl x1), (.inl 1), (.inl 60)] (up I 240 0 0)).bind fun p1 => (if p1.1 = 0 then (some ((-1), p1.2)) else ((cl d 158 [(.inr (some 240)), (.inl x2), (.inl 0), (.inl 1)] p1.2).bind fun p2 => (if p2.1 = 0 then (some ((-1), p2.2)) else (zD (d + 1) 267 26 [(some (.inr (some 240))), (some (.inl x1)), (some (.inl x2)), (some (.inl 1)), (some (.inl 1))] [] (up p2.2 274 0 0)))))) := by
  rw [cl_D (n := 3) (by decide +kernel) rfl, zE me_267 (by decide +kernel : kst 267 = [(26, 5), (52, 5), (57, 6), (73, 8), (115, 5)]) 139]
  rfl
set_option maxRecDepth 20000 in
theorem e_267_26 {d : Nat} {I : zI} {x1 x2 x3 x4 : Int} : zD (d + 1) 267 26 [(some (.inr (some 240))), (some (.inl x1)), (some (.inl x2)), (some (.inl x3)), (some (.inl x4))] [] I = (if x4 < x1 then ((cl d 264 [(.inr (some 240)), (.inl x4)] I).bind fun p3 => (if p3.1 = 0 then (zD (d + 1) 267 26 [(some (.inr (some 240))), (some (.inl x1)), (some (.inl x2)), (some (.inl x3)), (some (.inl (wr (x4 + 1))))] [] p3.2) else (if 0 ≤ x3 ∧ x3 < 9 then (zD (d + 1) 267 26 [(some (.inr (some 240))), (some (.inl x1)), (some (.inl x2)), (some (.inl (wr (x3 + 1)))), (some (.inl (wr (x4 + 1))))] [] (up p3.2 274 (x3).toNat x4)) else none))) else (if 0 ≤ x3 ∧ x3 < 9 then (zD (d + 1) 267 52 [(some (.inr (some 240))), (some (.inl x1)), (some (.inl x2)), (some (.inl x3)), (some (.inl 1))] [] (up I 274 (x3).toNat x1)) else none)) := by
  rw [zE me_267 (by decide +kernel : kst 267 = [(26, 5), (52, 5), (57, 6), (73, 8), (115, 5)]) 139]
  rfl
set_option maxRecDepth 20000 in
theorem e_267_52 {d : Nat} {I : zI} {x2 x3 x4 : Int} {w1 : Option zV} : zD (d + 1) 267 52 [(some (.inr (some 240))), w1, (some (.inl x2)), (some (.inl x3)), (some (.inl x4))] [] I = (if x3 < x4 then (if x2 = 0 then (if 0 ≤ x3 ∧ x3 < 81 then (some (I 275 (x3).toNat, I)) else none) else (zD (d + 1) 267 115 [(some (.inr (some 240))), w1, (some (.inl x2)), (some (.inl x3)), (some (.inl 1))] [] I)) else (zD (d + 1) 267 57 [(some (.inr (some 240))), w1, (some (.inl x2)), (some (.inl x3)), (some (.inl x4)), (some (.inl 0))] [] I)) := by
  rw [zE me_267 (by decide +kernel : kst 267 = [(26, 5), (52, 5), (57, 6), (73, 8), (115, 5)]) 139]
  rfl
set_option maxRecDepth 20000 in
theorem e_267_115 {d : Nat} {I : zI} {x3 x4 : Int} {w1 w2 : Option zV} : zD (d + 1) 267 115 [(some (.inr (some 240))), w1, w2, (some (.inl x3)), (some (.inl x4))] [] I = (if x4 < x3 then ((cl d 266 [(.inr (some 240)), (.inl 0), (.inl x3), (.inl x4)] I).bind fun p4 => (if 0 ≤ x3 ∧ x3 < 81 then (if p4.1 = p4.2 275 (x3).toNat then (if 0 ≤ x4 ∧ x4 < 9 then (some (p4.2 274 (x4).toNat, p4.2)) else none) else (zD (d + 1) 267 115 [(some (.inr (some 240))), w1, w2, (some (.inl x3)), (some (.inl (wr (x4 + 1))))] [] p4.2)) else none)) else (some ((-1), I))) := by
  rw [zE me_267 (by decide +kernel : kst 267 = [(26, 5), (52, 5), (57, 6), (73, 8), (115, 5)]) 139]
  rfl
set_option maxRecDepth 20000 in
theorem e_267_57 {d : Nat} {I : zI} {x2 x3 x4 x5 : Int} {w1 : Option zV} : zD (d + 1) 267 57 [(some (.inr (some 240))), w1, (some (.inl x2)), (some (.inl x3)), (some (.inl x4)), (some (.inl x5))] [] I = (if x3 < (wr (x5 + x4)) then (zD (d + 1) 267 52 [(some (.inr (some 240))), w1, (some (.inl x2)), (some (.inl x3)), (some (.inl (wr (x4 + 1))))] [] I) else (if x4 = 1 then (zD (d + 1) 267 73 [(some (.inr (some 240))), w1, (some (.inl x2)), (some (.inl x3)), (some (.inl x4)), (some (.inl x5)), (some (.inl 0)), (some (.inl (wr (x5 + 1))))] [] I) else (zD (d + 1) 267 73 [(some (.inr (some 240))), w1, (some (.inl x2)), (some (.inl x3)), (some (.inl x4)), (some (.inl x5)), (some (.inl 100000000)), (some (.inl (wr (x5 + 1))))] [] I))) := by
  rw [zE me_267 (by decide +kernel : kst 267 = [(26, 5), (52, 5), (57, 6), (73, 8), (115, 5)]) 139]
  rfl
set_option maxRecDepth 20000 in
theorem e_267_73 {d : Nat} {I : zI} {x2 x3 x4 x5 x6 x7 : Int} {w1 : Option zV} : zD (d + 1) 267 73 [(some (.inr (some 240))), w1, (some (.inl x2)), (some (.inl x3)), (some (.inl x4)), (some (.inl x5)), (some (.inl x6)), (some (.inl x7))] [] I = (if x7 < (wr (x5 + x4)) then ((cl d 266 [(.inr (some 240)), (.inl x5), (.inl (wr (x5 + x4))), (.inl x7)] I).bind fun p5 => ((cl d 161 [(.inr (some 240)), (.inl x6), (.inl p5.1)] p5.2).bind fun p6 => (zD (d + 1) 267 73 [(some (.inr (some 240))), w1, (some (.inl x2)), (some (.inl x3)), (some (.inl x4)), (some (.inl x5)), (some (.inl p6.1)), (some (.inl (wr (x7 + 1))))] [] p6.2))) else (if 0 ≤ (wr ((wr ((wr (9 * x5)) + x5)) + x4)) ∧ (wr ((wr ((wr (9 * x5)) + x5)) + x4)) < 81 then (zD (d + 1) 267 57 [(some (.inr (some 240))), w1, (some (.inl x2)), (some (.inl x3)), (some (.inl x4)), (some (.inl (wr (x5 + 1))))] [] (up I 275 ((wr ((wr ((wr (9 * x5)) + x5)) + x4))).toNat x6)) else none)) := by
  rw [zE me_267 (by decide +kernel : kst 267 = [(26, 5), (52, 5), (57, 6), (73, 8), (115, 5)]) 139]
  rfl
set_option maxRecDepth 20000 in
theorem e_268 {d : Nat} {I : zI} {x1 : Int} : cl (d + 1) 268 [(.inr (some 240)), (.inl x1)] I = (if x1 = (-1) then (some (0, (up (up I 240 0 0) 240 62 0))) else ((cl d 158 [(.inr (some 240)), (.inl x1), (.inl 0), (.inl 9)] (up I 240 0 0)).bind fun p1 => (if p1.1 = 0 then (some ((-1), p1.2)) else (if p1.2 240 62 = 12 then (some ((-1), p1.2)) else (if 0 ≤ p1.2 240 62 ∧ p1.2 240 62 < 12 then (some ((wr (p1.2 240 62 + 1)), (up (up p1.2 276 (p1.2 240 62).toNat x1) 240 62 (wr (p1.2 240 62 + 1))))) else none))))) := by
  rw [cl_D (n := 2) (by decide +kernel) rfl, zE me_268 (by decide +kernel : kst 268 = []) 40]
  rfl
set_option maxRecDepth 20000 in
theorem e_269 {d : Nat} {I : zI} {x1 x2 x3 : Int} : cl (d + 1) 269 [(.inr (some 240)), (.inl x1), (.inl x2), (.inl x3)] I = (zD (d + 1) 269 2 [(some (.inr (some 240))), (some (.inl x1)), (some (.inl x2)), (some (.inl x3)), (some (.inl 0))] [] I) := by
  rw [cl_D (n := 4) (by decide +kernel) rfl, zE me_269 (by decide +kernel : kst 269 = [(2, 5)]) 35]
  rfl
set_option maxRecDepth 20000 in
theorem e_269_2 {d : Nat} {I : zI} {x1 x2 x3 x4 : Int} : zD (d + 1) 269 2 [(some (.inr (some 240))), (some (.inl x1)), (some (.inl x2)), (some (.inl x3)), (some (.inl x4))] [] I = (if x4 < x3 then (if I 240 62 = 0 then none else (if 0 ≤ (zrem (wr (x1 + x4)) (I 240 62)) ∧ (zrem (wr (x1 + x4)) (I 240 62)) < 12 then (if I 240 62 = 0 then none else (if 0 ≤ (zrem (wr (x2 + x4)) (I 240 62)) ∧ (zrem (wr (x2 + x4)) (I 240 62)) < 12 then (if (wr (I 276 ((zrem (wr (x1 + x4)) (I 240 62))).toNat - I 276 ((zrem (wr (x2 + x4)) (I 240 62))).toNat)) = 0 then (zD (d + 1) 269 2 [(some (.inr (some 240))), (some (.inl x1)), (some (.inl x2)), (some (.inl x3)), (some (.inl (wr (x4 + 1))))] [] I) else (some ((wr (I 276 ((zrem (wr (x1 + x4)) (I 240 62))).toNat - I 276 ((zrem (wr (x2 + x4)) (I 240 62))).toNat)), I))) else none)) else none)) else (some (0, I))) := by
  rw [zE me_269 (by decide +kernel : kst 269 = [(2, 5)]) 35]
  rfl
set_option maxRecDepth 20000 in
theorem e_270 {d : Nat} {I : zI} {x1 : Int} : cl (d + 1) 270 [(.inr (some 240)), (.inl x1)] I = (zD (d + 1) 270 4 [(some (.inr (some 240))), (some (.inl x1)), (some (.inl 0)), (some (.inl 0))] [] I) := by
  rw [cl_D (n := 2) (by decide +kernel) rfl, zE me_270 (by decide +kernel : kst 270 = [(4, 4), (12, 6)]) 44]
  rfl
set_option maxRecDepth 20000 in
theorem e_270_4 {d : Nat} {I : zI} {x1 x2 x3 : Int} : zD (d + 1) 270 4 [(some (.inr (some 240))), (some (.inl x1)), (some (.inl x2)), (some (.inl x3))] [] I = (if x3 < I 240 62 then (zD (d + 1) 270 12 [(some (.inr (some 240))), (some (.inl x1)), (some (.inl x2)), (some (.inl x3)), (some (.inl 1)), (some (.inl 0))] [] I) else (if I 240 62 = 0 then (if x1 = 0 then (some (1, I)) else (some (x2, I))) else (some (x2, I)))) := by
  rw [zE me_270 (by decide +kernel : kst 270 = [(4, 4), (12, 6)]) 44]
  rfl
set_option maxRecDepth 20000 in
theorem e_270_12 {d : Nat} {I : zI} {x1 x2 x3 x4 x5 : Int} : zD (d + 1) 270 12 [(some (.inr (some 240))), (some (.inl x1)), (some (.inl x2)), (some (.inl x3)), (some (.inl x4)), (some (.inl x5))] [] I = (if x5 < x3 then ((cl d 269 [(.inr (some 240)), (.inl x3), (.inl x5), (.inl x1)] I).bind fun p1 => (if p1.1 = 0 then (zD (d + 1) 270 12 [(some (.inr (some 240))), (some (.inl x1)), (some (.inl x2)), (some (.inl x3)), (some (.inl 0)), (some (.inl (wr (x5 + 1))))] [] p1.2) else (zD (d + 1) 270 12 [(some (.inr (some 240))), (some (.inl x1)), (some (.inl x2)), (some (.inl x3)), (some (.inl x4)), (some (.inl (wr (x5 + 1))))] [] p1.2))) else (if x4 = 0 then (zD (d + 1) 270 4 [(some (.inr (some 240))), (some (.inl x1)), (some (.inl x2)), (some (.inl (wr (x3 + 1))))] [] I) else (zD (d + 1) 270 4 [(some (.inr (some 240))), (some (.inl x1)), (some (.inl (wr (x2 + 1)))), (some (.inl (wr (x3 + 1))))] [] I))) := by
  rw [zE me_270 (by decide +kernel : kst 270 = [(4, 4), (12, 6)]) 44]
  rfl
set_option maxRecDepth 20000 in
theorem e_271 {d : Nat} {I : zI} {x1 : Int} : cl (d + 1) 271 [(.inr (some 240)), (.inl x1)] I = ((cl d 158 [(.inr (some 240)), (.inl x1), (.inl 100), (.inl 112)] (up I 240 0 0)).bind fun p1 => (if p1.1 = 0 then ((cl d 158 [(.inr (some 240)), (.inl x1), (.inl 0), (.inl 1)] p1.2).bind fun p2 => (if p2.1 = 0 then (some ((-1), p2.2)) else (if p2.2 240 62 = 0 then (some (0, p2.2)) else (zD (d + 1) 271 32 [(some (.inr (some 240))), (some (.inl x1)), (some (.inl 0)), (some (.inl 1))] [] p2.2)))) else ((cl d 270 [(.inr (some 240)), (.inl (wr (x1 - 100)))] p1.2).bind fun p3 => (some (p3.1, p3.2))))) := by
  rw [cl_D (n := 2) (by decide +kernel) rfl, zE me_271 (by decide +kernel : kst 271 = [(32, 4), (53, 4)]) 69]
  rfl
set_option maxRecDepth 20000 in
theorem e_271_32 {d : Nat} {I : zI} {x1 x2 x3 : Int} : zD (d + 1) 271 32 [(some (.inr (some 240))), (some (.inl x1)), (some (.inl x2)), (some (.inl x3))] [] I = (if x3 < I 240 62 then ((cl d 269 [(.inr (some 240)), (.inl x3), (.inl x2), (.inl (I 240 62))] I).bind fun p4 => (if p4.1 < 0 then (zD (d + 1) 271 32 [(some (.inr (some 240))), (some (.inl x1)), (some (.inl x3)), (some (.inl (wr (x3 + 1))))] [] p4.2) else (zD (d + 1) 271 32 [(some (.inr (some 240))), (some (.inl x1)), (some (.inl x2)), (some (.inl (wr (x3 + 1))))] [] p4.2))) else (if x1 = 0 then (some (x2, I)) else (zD (d + 1) 271 53 [(some (.inr (some 240))), (some (.inl x1)), (some (.inl x2)), (some (.inl 1))] [] I))) := by
  rw [zE me_271 (by decide +kernel : kst 271 = [(32, 4), (53, 4)]) 69]
  rfl
set_option maxRecDepth 20000 in
theorem e_271_53 {d : Nat} {I : zI} {x3 : Int} {w1 w2 : Option zV} : zD (d + 1) 271 53 [(some (.inr (some 240))), w1, w2, (some (.inl x3))] [] I = ((cl d 269 [(.inr (some 240)), (.inl x3), (.inl 0), (.inl (I 240 62))] I).bind fun p5 => (if p5.1 = 0 then (some (x3, p5.2)) else (zD (d + 1) 271 53 [(some (.inr (some 240))), w1, w2, (some (.inl (wr (x3 + 1))))] [] p5.2))) := by
  rw [zE me_271 (by decide +kernel : kst 271 = [(32, 4), (53, 4)]) 69]
  rfl
set_option maxRecDepth 20000 in
theorem e_272 {d : Nat} {I : zI} {x1 : Int} : cl (d + 1) 272 [(.inr (some 240)), (.inl x1)] I = (if x1 = 0 then (some (0, (up (up I 240 0 0) 240 64 0))) else ((cl d 158 [(.inr (some 240)), (.inl x1), (.inl (-179)), (.inl 179)] (up I 240 0 0)).bind fun p1 => (if p1.1 = 0 then (some ((-1), p1.2)) else (if p1.2 240 64 = 10 then (some ((-1), p1.2)) else (if 0 ≤ p1.2 240 64 ∧ p1.2 240 64 < 10 then (some ((wr (p1.2 240 64 + 1)), (up (up p1.2 277 (p1.2 240 64).toNat x1) 240 64 (wr (p1.2 240 64 + 1))))) else none))))) := by
  rw [cl_D (n := 2) (by decide +kernel) rfl, zE me_272 (by decide +kernel : kst 272 = []) 39]
  rfl
set_option maxRecDepth 20000 in
theorem e_273 {d : Nat} {I : zI} {x1 : Int} : cl (d + 1) 273 [(.inr (some 240)), (.inl x1)] I = ((cl d 158 [(.inr (some 240)), (.inl x1), (.inl 0), (.inl 2)] (up I 240 0 0)).bind fun p1 => (if p1.1 = 0 then (some ((-10000), p1.2)) else (zD (d + 1) 273 19 [(some (.inr (some 240))), (some (.inl x1)), (some (.inl 0)), (some (.inl 0)), (some (.inl 0)), (some (.inl 0))] [] p1.2))) := by
  rw [cl_D (n := 2) (by decide +kernel) rfl, zE me_273 (by decide +kernel : kst 273 = [(19, 6), (34, 8), (60, 8)]) 95]
  rfl
set_option maxRecDepth 20000 in
theorem e_273_19 {d : Nat} {I : zI} {x1 x2 x3 x4 x5 : Int} : zD (d + 1) 273 19 [(some (.inr (some 240))), (some (.inl x1)), (some (.inl x2)), (some (.inl x3)), (some (.inl x4)), (some (.inl x5))] [] I = (if x5 < I 240 64 then (if 0 ≤ x5 ∧ x5 < 10 then (if 0 < I 277 (x5).toNat then (zD (d + 1) 273 34 [(some (.inr (some 240))), (some (.inl x1)), (some (.inl x2)), (some (.inl x3)), (some (.inl x4)), (some (.inl x5)), (some (.inl 1)), (some (.inl 0))] [] I) else (zD (d + 1) 273 34 [(some (.inr (some 240))), (some (.inl x1)), (some (.inl x2)), (some (.inl x3)), (some (.inl x4)), (some (.inl x5)), (some (.inl (-1))), (some (.inl 0))] [] I)) else none) else (if x1 = 0 then (some (x2, I)) else (if x1 = 1 then (some (x3, I)) else (some (x4, I))))) := by
  rw [zE me_273 (by decide +kernel : kst 273 = [(19, 6), (34, 8), (60, 8)]) 95]
  rfl
set_option maxRecDepth 20000 in
theorem e_273_34 {d : Nat} {I : zI} {x1 x2 x3 x4 x5 x6 x7 : Int} : zD (d + 1) 273 34 [(some (.inr (some 240))), (some (.inl x1)), (some (.inl x2)), (some (.inl x3)), (some (.inl x4)), (some (.inl x5)), (some (.inl x6)), (some (.inl x7))] [] I = (if 0 ≤ x5 ∧ x5 < 10 then ((cl d 162 [(.inr (some 240)), (.inl (I 277 (x5).toNat))] I).bind fun p2 => (if x7 < p2.1 then (if (wr (x2 + x6)) = 180 then (if (wr (x2 + x6)) = (-181) then (zD (d + 1) 273 60 [(some (.inr (some 240))), (some (.inl x1)), (some (.inl (wr (x2 + x6)))), (some (.inl (wr ((wr (x3 + 1)) - 1)))), (some (.inl x4)), (some (.inl x5)), (some (.inl x6)), (some (.inl x7))] [] p2.2) else (zD (d + 1) 273 60 [(some (.inr (some 240))), (some (.inl x1)), (some (.inl (wr (x2 + x6)))), (some (.inl (wr (x3 + 1)))), (some (.inl x4)), (some (.inl x5)), (some (.inl x6)), (some (.inl x7))] [] p2.2)) else (if (wr (x2 + x6)) = (-181) then (zD (d + 1) 273 60 [(some (.inr (some 240))), (some (.inl x1)), (some (.inl (wr (x2 + x6)))), (some (.inl (wr (x3 - 1)))), (some (.inl x4)), (some (.inl x5)), (some (.inl x6)), (some (.inl x7))] [] p2.2) else (zD (d + 1) 273 60 [(some (.inr (some 240))), (some (.inl x1)), (some (.inl (wr (x2 + x6)))), (some (.inl x3)), (some (.inl x4)), (some (.inl x5)), (some (.inl x6)), (some (.inl x7))] [] p2.2))) else (zD (d + 1) 273 19 [(some (.inr (some 240))), (some (.inl x1)), (some (.inl x2)), (some (.inl x3)), (some (.inl x4)), (some (.inl (wr (x5 + 1))))] [] p2.2))) else none) := by
  rw [zE me_273 (by decide +kernel : kst 273 = [(19, 6), (34, 8), (60, 8)]) 95]
  rfl
set_option maxRecDepth 20000 in
theorem e_273_60 {d : Nat} {I : zI} {x1 x2 x3 x4 x5 x6 x7 : Int} : zD (d + 1) 273 60 [(some (.inr (some 240))), (some (.inl x1)), (some (.inl x2)), (some (.inl x3)), (some (.inl x4)), (some (.inl x5)), (some (.inl x6)), (some (.inl x7))] [] I = (if x2 = 180 then (zD (d + 1) 273 34 [(some (.inr (some 240))), (some (.inl x1)), (some (.inl (-180))), (some (.inl x3)), (some (.inl x4)), (some (.inl x5)), (some (.inl x6)), (some (.inl (wr (x7 + 1))))] [] I) else (if x2 = (-181) then (zD (d + 1) 273 34 [(some (.inr (some 240))), (some (.inl x1)), (some (.inl 179)), (some (.inl x3)), (some (.inl x4)), (some (.inl x5)), (some (.inl x6)), (some (.inl (wr (x7 + 1))))] [] I) else (if x2 = 0 then (zD (d + 1) 273 34 [(some (.inr (some 240))), (some (.inl x1)), (some (.inl x2)), (some (.inl x3)), (some (.inl (wr (x4 + 1)))), (some (.inl x5)), (some (.inl x6)), (some (.inl (wr (x7 + 1))))] [] I) else (zD (d + 1) 273 34 [(some (.inr (some 240))), (some (.inl x1)), (some (.inl x2)), (some (.inl x3)), (some (.inl x4)), (some (.inl x5)), (some (.inl x6)), (some (.inl (wr (x7 + 1))))] [] I)))) := by
  rw [zE me_273 (by decide +kernel : kst 273 = [(19, 6), (34, 8), (60, 8)]) 95]
  rfl
set_option maxRecDepth 20000 in
theorem e_274 {d : Nat} {I : zI} {x1 x2 : Int} : cl (d + 1) 274 [(.inr (some 240)), (.inl x1), (.inl x2)] I = (zD (d + 1) 274 4 [(some (.inr (some 240))), (some (.inl x1)), (some (.inl x2)), (some (.inl 0)), (some (.inl 0))] [] I) := by
  rw [cl_D (n := 3) (by decide +kernel) rfl, zE me_274 (by decide +kernel : kst 274 = [(4, 5)]) 28]
  rfl
set_option maxRecDepth 20000 in
theorem e_274_4 {d : Nat} {I : zI} {x1 x2 x3 x4 : Int} : zD (d + 1) 274 4 [(some (.inr (some 240))), (some (.inl x1)), (some (.inl x2)), (some (.inl x3)), (some (.inl x4))] [] I = (if x4 < x2 then ((cl d 165 [(.inr (some 240)), (.inl x1), (.inl x4)] I).bind fun p1 => (if p1.1 = 0 then (zD (d + 1) 274 4 [(some (.inr (some 240))), (some (.inl x1)), (some (.inl x2)), (some (.inl x3)), (some (.inl (wr (x4 + 1))))] [] p1.2) else (zD (d + 1) 274 4 [(some (.inr (some 240))), (some (.inl x1)), (some (.inl x2)), (some (.inl (zor x3 (zshl 1 (wr ((wr (x2 - 1)) - x4)))))), (some (.inl (wr (x4 + 1))))] [] p1.2))) else (some (x3, I))) := by
  rw [zE me_274 (by decide +kernel : kst 274 = [(4, 5)]) 28]
  rfl
set_option maxRecDepth 20000 in
theorem e_275 {d : Nat} {I : zI} {x1 x2 x3 : Int} : cl (d + 1) 275 [(.inr (some 240)), (.inl x1), (.inl x2), (.inl x3)] I = ((cl d 158 [(.inr (some 240)), (.inl x1), (.inl 0), (.inl 65535)] (up I 240 0 0)).bind fun p1 => (if p1.1 = 0 then (some ((-1), p1.2)) else ((cl d 158 [(.inr (some 240)), (.inl x2), (.inl 1), (.inl 16)] p1.2).bind fun p2 => (if p2.1 = 0 then (some ((-1), p2.2)) else ((cl d 158 [(.inr (some 240)), (.inl x3), (.inl 0), (.inl 1)] p2.2).bind fun p3 => (if p3.1 = 0 then (some ((-1), p3.2)) else (if x3 = 0 then ((cl d 274 [(.inr (some 240)), (.inl x1), (.inl x2)] p3.2).bind fun p4 => (some (p4.1, p4.2))) else (zD (d + 1) 275 34 [(some (.inr (some 240))), (some (.inl x1)), (some (.inl x2)), (some (.inl x3)), (some (.inl 0)), (some (.inl 0))] [] p3.2)))))))) := by
  rw [cl_D (n := 4) (by decide +kernel) rfl, zE me_275 (by decide +kernel : kst 275 = [(34, 6)]) 58]
  rfl
set_option maxRecDepth 20000 in
theorem e_275_34 {d : Nat} {I : zI} {x1 x2 x4 x5 : Int} {w3 : Option zV} : zD (d + 1) 275 34 [(some (.inr (some 240))), (some (.inl x1)), (some (.inl x2)), w3, (some (.inl x4)), (some (.inl x5))] [] I = (if x1 < x5 then (some (x4, I)) else (if x5 < (zshl 1 x2) then ((cl d 274 [(.inr (some 240)), (.inl x5), (.inl x2)] I).bind fun p5 => (if p5.1 = x5 then (zD (d + 1) 275 34 [(some (.inr (some 240))), (some (.inl x1)), (some (.inl x2)), w3, (some (.inl (wr (x4 + 1)))), (some (.inl (wr (x5 + 1))))] [] p5.2) else (zD (d + 1) 275 34 [(some (.inr (some 240))), (some (.inl x1)), (some (.inl x2)), w3, (some (.inl x4)), (some (.inl (wr (x5 + 1))))] [] p5.2))) else (some (x4, I)))) := by
  rw [zE me_275 (by decide +kernel : kst 275 = [(34, 6)]) 58]
  rfl
set_option maxRecDepth 20000 in
theorem e_276 {d : Nat} {I : zI} {x1 : Int} : cl (d + 1) 276 [(.inr (some 240)), (.inl x1)] I = (if x1 = (-1) then (some (0, (up (up I 240 0 0) 240 66 0))) else ((cl d 158 [(.inr (some 240)), (.inl x1), (.inl 1), (.inl 9)] (up I 240 0 0)).bind fun p1 => (if p1.1 = 0 then (some ((-1), p1.2)) else (if p1.2 240 66 = 8 then (some ((-1), p1.2)) else (if 0 ≤ p1.2 240 66 ∧ p1.2 240 66 < 8 then (some ((wr (p1.2 240 66 + 1)), (up (up p1.2 278 (p1.2 240 66).toNat x1) 240 66 (wr (p1.2 240 66 + 1))))) else none))))) := by
  rw [cl_D (n := 2) (by decide +kernel) rfl, zE me_276 (by decide +kernel : kst 276 = []) 40]
  rfl
set_option maxRecDepth 20000 in
theorem e_277 {d : Nat} {I : zI} {x1 x2 : Int} : cl (d + 1) 277 [(.inr (some 240)), (.inl x1), (.inl x2)] I = ((cl d 158 [(.inr (some 240)), (.inl x1), (.inl 1), (.inl 40)] (up I 240 0 0)).bind fun p1 => (if p1.1 = 0 then (some ((-1), p1.2)) else ((cl d 158 [(.inr (some 240)), (.inl x2), (.inl 0), (.inl 1)] p1.2).bind fun p2 => (if p2.1 = 0 then (some ((-1), p2.2)) else (zD (d + 1) 277 19 [(some (.inr (some 240))), (some (.inl x1)), (some (.inl x2)), (some (.inl 0))] [] p2.2))))) := by
  rw [cl_D (n := 3) (by decide +kernel) rfl, zE me_277 (by decide +kernel : kst 277 = [(19, 4), (35, 6), (68, 7)]) 110]
  rfl
set_option maxRecDepth 20000 in
theorem e_277_19 {d : Nat} {I : zI} {x1 x2 x3 : Int} : zD (d + 1) 277 19 [(some (.inr (some 240))), (some (.inl x1)), (some (.inl x2)), (some (.inl x3))] [] I = (if x3 < x1 then (if 0 ≤ x3 ∧ x3 < 40 then (zD (d + 1) 277 19 [(some (.inr (some 240))), (some (.inl x1)), (some (.inl x2)), (some (.inl (wr (x3 + 1))))] [] (up I 279 (x3).toNat x3)) else none) else (zD (d + 1) 277 35 [(some (.inr (some 240))), (some (.inl x1)), (some (.inl x2)), (some (.inl 0)), (some (.inl (-1))), (some (.inl x1))] [] I)) := by
  rw [zE me_277 (by decide +kernel : kst 277 = [(19, 4), (35, 6), (68, 7)]) 110]
  rfl
set_option maxRecDepth 20000 in
theorem e_277_35 {d : Nat} {I : zI} {x1 x2 x3 x4 x5 : Int} : zD (d + 1) 277 35 [(some (.inr (some 240))), (some (.inl x1)), (some (.inl x2)), (some (.inl x3)), (some (.inl x4)), (some (.inl x5))] [] I = (if 1 < x5 then (if I 240 66 = 0 then (if x5 = 0 then none else (if x5 = x1 then (if 0 ≤ (zrem (wr (x3 + 1)) x5) ∧ (zrem (wr (x3 + 1)) x5) < 40 then (zD (d + 1) 277 68 [(some (.inr (some 240))), (some (.inl x1)), (some (.inl x2)), (some (.inl (zrem (wr (x3 + 1)) x5))), (some (.inl (I 279 ((zrem (wr (x3 + 1)) x5)).toNat))), (some (.inl x5)), (some (.inl (zrem (wr (x3 + 1)) x5)))] [] I) else none) else (zD (d + 1) 277 68 [(some (.inr (some 240))), (some (.inl x1)), (some (.inl x2)), (some (.inl (zrem (wr (x3 + 1)) x5))), (some (.inl x4)), (some (.inl x5)), (some (.inl (zrem (wr (x3 + 1)) x5)))] [] I))) else (if 0 ≤ x3 ∧ x3 < 40 then (if I 240 66 = 0 then none else (if 0 ≤ (zrem (I 279 (x3).toNat) (I 240 66)) ∧ (zrem (I 279 (x3).toNat) (I 240 66)) < 8 then (if x5 = 0 then none else (if x5 = x1 then (if 0 ≤ (zrem (wr (x3 + I 278 ((zrem (I 279 (x3).toNat) (I 240 66))).toNat)) x5) ∧ (zrem (wr (x3 + I 278 ((zrem (I 279 (x3).toNat) (I 240 66))).toNat)) x5) < 40 then (zD (d + 1) 277 68 [(some (.inr (some 240))), (some (.inl x1)), (some (.inl x2)), (some (.inl (zrem (wr (x3 + I 278 ((zrem (I 279 (x3).toNat) (I 240 66))).toNat)) x5))), (some (.inl (I 279 ((zrem (wr (x3 + I 278 ((zrem (I 279 (x3).toNat) (I 240 66))).toNat)) x5)).toNat))), (some (.inl x5)), (some (.inl (zrem (wr (x3 + I 278 ((zrem (I 279 (x3).toNat) (I 240 66))).toNat)) x5)))] [] I) else none) else (zD (d + 1) 277 68 [(some (.inr (some 240))), (some (.inl x1)), (some (.inl x2)), (some (.inl (zrem (wr (x3 + I 278 ((zrem (I 279 (x3).toNat) (I 240 66))).toNat)) x5))), (some (.inl x4)), (some (.inl x5)), (some (.inl (zrem (wr (x3 + I 278 ((zrem (I 279 (x3).toNat) (I 240 66))).toNat)) x5)))] [] I))) else none)) else none)) else (if x2 = 1 then (some (x4, I)) else (if x1 = 1 then (some (0, I)) else (some (I 279 0, I))))) := by
  rw [zE me_277 (by decide +kernel : kst 277 = [(19, 4), (35, 6), (68, 7)]) 110]
  rfl
set_option maxRecDepth 20000 in
theorem e_277_68 {d : Nat} {I : zI} {x1 x2 x3 x4 x5 x6 : Int} : zD (d + 1) 277 68 [(some (.inr (some 240))), (some (.inl x1)), (some (.inl x2)), (some (.inl x3)), (some (.inl x4)), (some (.inl x5)), (some (.inl x6))] [] I = (if x6 < (wr (x5 - 1)) then (if 0 ≤ (wr (x6 + 1)) ∧ (wr (x6 + 1)) < 40 then (if 0 ≤ x6 ∧ x6 < 40 then (zD (d + 1) 277 68 [(some (.inr (some 240))), (some (.inl x1)), (some (.inl x2)), (some (.inl x3)), (some (.inl x4)), (some (.inl x5)), (some (.inl (wr (x6 + 1))))] [] (up I 279 (x6).toNat (I 279 ((wr (x6 + 1))).toNat))) else none) else none) else (if (wr (x5 - 1)) = 0 then none else (zD (d + 1) 277 35 [(some (.inr (some 240))), (some (.inl x1)), (some (.inl x2)), (some (.inl (zrem x3 (wr (x5 - 1))))), (some (.inl x4)), (some (.inl (wr (x5 + (-1)))))] [] I))) := by
  rw [zE me_277 (by decide +kernel : kst 277 = [(19, 4), (35, 6), (68, 7)]) 110]
  rfl
set_option maxRecDepth 20000 in
theorem e_278 {d : Nat} {I : zI} {x1 : Int} : cl (d + 1) 278 [(.inr (some 240)), (.inl x1)] I = (if x1 = (-1) then (some (0, (up (up I 240 0 0) 240 69 0))) else ((cl d 158 [(.inr (some 240)), (.inl x1), (.inl 1), (.inl 50)] (up I 240 0 0)).bind fun p1 => (if p1.1 = 0 then (some ((-1), p1.2)) else (if p1.2 240 69 = 6 then (some ((-1), p1.2)) else (if 0 ≤ p1.2 240 69 ∧ p1.2 240 69 < 6 then (some ((wr (p1.2 240 69 + 1)), (up (up p1.2 280 (p1.2 240 69).toNat x1) 240 69 (wr (p1.2 240 69 + 1))))) else none))))) := by
  rw [cl_D (n := 2) (by decide +kernel) rfl, zE me_278 (by decide +kernel : kst 278 = []) 40]
  rfl
set_option maxRecDepth 20000 in
theorem e_279 {d : Nat} {I : zI} {x1 x2 : Int} : cl (d + 1) 279 [(.inr (some 240)), (.inl x1), (.inl x2)] I = (zD (d + 1) 279 4 [(some (.inr (some 240))), (some (.inl x1)), (some (.inl x2)), (some (.inl 0)), (some (.inl 0))] [] I) := by
  rw [cl_D (n := 3) (by decide +kernel) rfl, zE me_279 (by decide +kernel : kst 279 = [(4, 5), (23, 7)]) 89]
  rfl
set_option maxRecDepth 20000 in
theorem e_279_4 {d : Nat} {I : zI} {x1 x2 x3 x4 : Int} : zD (d + 1) 279 4 [(some (.inr (some 240))), (some (.inl x1)), (some (.inl x2)), (some (.inl x3)), (some (.inl x4))] [] I = (if x4 < I 240 69 then (if 0 ≤ x4 ∧ x4 < 6 then (zD (d + 1) 279 4 [(some (.inr (some 240))), (some (.inl x1)), (some (.inl x2)), (some (.inl (wr (x3 + I 280 (x4).toNat)))), (some (.inl (wr (x4 + 1))))] [] I) else none) else (zD (d + 1) 279 23 [(some (.inr (some 240))), (some (.inl x1)), (some (.inl x2)), (some (.inl x3)), (some (.inl x1)), (some (.inl 0)), (some (.inl 0))] [] I)) := by
  rw [zE me_279 (by decide +kernel : kst 279 = [(4, 5), (23, 7)]) 89]
  rfl
set_option maxRecDepth 20000 in
theorem e_279_23 {d : Nat} {I : zI} {x1 x2 x3 x4 x5 x6 : Int} : zD (d + 1) 279 23 [(some (.inr (some 240))), (some (.inl x1)), (some (.inl x2)), (some (.inl x3)), (some (.inl x4)), (some (.inl x5)), (some (.inl x6))] [] I = (if x6 < I 240 69 then (if 0 ≤ x6 ∧ x6 < 6 then (if x3 = 0 then none else (if 0 ≤ x6 ∧ x6 < 6 then (if x3 = 0 then none else (if 0 ≤ x2 ∧ x2 < 6 then (if x3 = 0 then none else (if (zrem (wr (x1 * I 280 (x2).toNat)) x3) < (zrem (wr (x1 * I 280 (x6).toNat)) x3) then (zD (d + 1) 279 23 [(some (.inr (some 240))), (some (.inl x1)), (some (.inl x2)), (some (.inl x3)), (some (.inl (wr (x4 - (zdiv (wr (x1 * I 280 (x6).toNat)) x3))))), (some (.inl (wr (x5 + 1)))), (some (.inl (wr (x6 + 1))))] [] I) else (if (zrem (wr (x1 * I 280 (x6).toNat)) x3) = (zrem (wr (x1 * I 280 (x2).toNat)) x3) then (if x6 < x2 then (zD (d + 1) 279 23 [(some (.inr (some 240))), (some (.inl x1)), (some (.inl x2)), (some (.inl x3)), (some (.inl (wr (x4 - (zdiv (wr (x1 * I 280 (x6).toNat)) x3))))), (some (.inl (wr (x5 + 1)))), (some (.inl (wr (x6 + 1))))] [] I) else (zD (d + 1) 279 23 [(some (.inr (some 240))), (some (.inl x1)), (some (.inl x2)), (some (.inl x3)), (some (.inl (wr (x4 - (zdiv (wr (x1 * I 280 (x6).toNat)) x3))))), (some (.inl x5)), (some (.inl (wr (x6 + 1))))] [] I)) else (zD (d + 1) 279 23 [(some (.inr (some 240))), (some (.inl x1)), (some (.inl x2)), (some (.inl x3)), (some (.inl (wr (x4 - (zdiv (wr (x1 * I 280 (x6).toNat)) x3))))), (some (.inl x5)), (some (.inl (wr (x6 + 1))))] [] I)))) else none)) else none)) else none) else (if 0 ≤ x2 ∧ x2 < 6 then (if x3 = 0 then none else (if x5 < x4 then (some ((wr ((zdiv (wr (x1 * I 280 (x2).toNat)) x3) + 1)), I)) else (some ((wr ((zdiv (wr (x1 * I 280 (x2).toNat)) x3) + 0)), I)))) else none)) := by
  rw [zE me_279 (by decide +kernel : kst 279 = [(4, 5), (23, 7)]) 89]
  rfl
set_option maxRecDepth 20000 in
theorem e_280 {d : Nat} {I : zI} {x1 x2 : Int} : cl (d + 1) 280 [(.inr (some 240)), (.inl x1), (.inl x2)] I = ((cl d 158 [(.inr (some 240)), (.inl x1), (.inl 0), (.inl 200)] (up I 240 0 0)).bind fun p1 => (if p1.1 = 0 then (some ((-1), p1.2)) else ((cl d 158 [(.inr (some 240)), (.inl x2), (.inl (-1)), (.inl (wr (p1.2 240 69 - 1)))] p1.2).bind fun p2 => (if p2.1 = 0 then (some ((-1), p2.2)) else (if x2 = (-1) then (zD (d + 1) 280 30 [(some (.inr (some 240))), (some (.inl x1)), (some (.inl x2)), (some (.inl 0))] [] p2.2) else ((cl d 279 [(.inr (some 240)), (.inl x1), (.inl x2)] p2.2).bind fun p3 => (some (p3.1, p3.2)))))))) := by
  rw [cl_D (n := 3) (by decide +kernel) rfl, zE me_280 (by decide +kernel : kst 280 = [(30, 4)]) 53]
  rfl
set_option maxRecDepth 20000 in
theorem e_280_30 {d : Nat} {I : zI} {x1 x3 : Int} {w2 : Option zV} : zD (d + 1) 280 30 [(some (.inr (some 240))), (some (.inl x1)), w2, (some (.inl x3))] [] I = (if x3 < I 240 69 then ((cl d 279 [(.inr (some 240)), (.inl (wr (x1 + 1))), (.inl x3)] I).bind fun p4 => ((cl d 279 [(.inr (some 240)), (.inl x1), (.inl x3)] p4.2).bind fun p5 => (if p4.1 < p5.1 then (some (x3, p5.2)) else (zD (d + 1) 280 30 [(some (.inr (some 240))), (some (.inl x1)), w2, (some (.inl (wr (x3 + 1))))] [] p5.2)))) else (some ((-1), I))) := by
  rw [zE me_280 (by decide +kernel : kst 280 = [(30, 4)]) 53]
  rfl
set_option maxRecDepth 20000 in
theorem e_281 {d : Nat} {I : zI} {x1 : Int} : cl (d + 1) 281 [(.inr (some 240)), (.inl x1)] I = (some ((zor (zor (zor (zshl 1 (wr ((wr ((zdiv x1 2) * 2)) + (zrem x1 2)))) (zshl 1 (wr ((wr ((wr ((zdiv x1 2) * 2)) + (zrem x1 2))) + 2)))) (zshl 1 (wr ((wr (6 + (wr (3 * (zdiv x1 2))))) + (zrem x1 2))))) (zshl 1 (wr ((wr ((wr (6 + (wr (3 * (zdiv x1 2))))) + (zrem x1 2))) + 1)))), I)) := by
  rw [cl_D (n := 2) (by decide +kernel) rfl, zE me_281 (by decide +kernel : kst 281 = []) 44]
  rfl
set_option maxRecDepth 20000 in
theorem e_282 {d : Nat} {I : zI} {x1 x2 : Int} : cl (d + 1) 282 [(.inr (some 240)), (.inl x1), (.inl x2)] I = (zD (d + 1) 282 4 [(some (.inr (some 240))), (some (.inl x1)), (some (.inl x2)), (some (.inl 0)), (some (.inl 0))] [] I) := by
  rw [cl_D (n := 3) (by decide +kernel) rfl, zE me_282 (by decide +kernel : kst 282 = [(4, 5)]) 37]
  rfl
set_option maxRecDepth 20000 in
theorem e_282_4 {d : Nat} {I : zI} {x1 x2 x3 x4 : Int} : zD (d + 1) 282 4 [(some (.inr (some 240))), (some (.inl x1)), (some (.inl x2)), (some (.inl x3)), (some (.inl x4))] [] I = (if x4 < 4 then ((cl d 281 [(.inr (some 240)), (.inl x4)] I).bind fun p1 => ((cl d 165 [(.inr (some 240)), (.inl p1.1), (.inl x2)] p1.2).bind fun p2 => (if p2.1 = 0 then (zD (d + 1) 282 4 [(some (.inr (some 240))), (some (.inl x1)), (some (.inl x2)), (some (.inl x3)), (some (.inl (wr (x4 + 1))))] [] p2.2) else ((cl d 281 [(.inr (some 240)), (.inl x4)] p2.2).bind fun p3 => ((cl d 281 [(.inr (some 240)), (.inl x4)] p3.2).bind fun p4 => (if (zand (zor x1 (zshl 1 x2)) p3.1) = p4.1 then (zD (d + 1) 282 4 [(some (.inr (some 240))), (some (.inl x1)), (some (.inl x2)), (some (.inl (wr (x3 + 1)))), (some (.inl (wr (x4 + 1))))] [] p4.2) else (zD (d + 1) 282 4 [(some (.inr (some 240))), (some (.inl x1)), (some (.inl x2)), (some (.inl x3)), (some (.inl (wr (x4 + 1))))] [] p4.2))))))) else (some (x3, I))) := by
  rw [zE me_282 (by decide +kernel : kst 282 = [(4, 5)]) 37]
  rfl
set_option maxRecDepth 20000 in
theorem e_283 {d : Nat} {I : zI} {x1 x2 : Int} : cl (d + 1) 283 [(.inr (some 240)), (.inl x1), (.inl x2)] I = ((cl d 282 [(.inr (some 240)), (.inl x1), (.inl x2)] I).bind fun p1 => (if 0 ≤ (zor x1 (zshl 1 x2)) ∧ (zor x1 (zshl 1 x2)) < 4096 then (if 0 < p1.1 then (some ((wr (p1.1 + p1.2 281 ((zor x1 (zshl 1 x2))).toNat)), p1.2)) else (some ((wr (-p1.2 281 ((zor x1 (zshl 1 x2))).toNat)), p1.2))) else none)) := by
  rw [cl_D (n := 3) (by decide +kernel) rfl, zE me_283 (by decide +kernel : kst 283 = []) 25]
  rfl
set_option maxRecDepth 20000 in
theorem e_284 {d : Nat} {I : zI} {x1 : Int} : cl (d + 1) 284 [(.inr (some 240)), (.inl x1)] I = (if x1 = 4095 then (zD (d + 1) 284 9 [(some (.inr (some 240))), (some (.inl x1)), (some (.inl 0)), (some (.inl 0))] [] I) else (zD (d + 1) 284 9 [(some (.inr (some 240))), (some (.inl x1)), (some (.inl (-100000000))), (some (.inl 0))] [] I)) := by
  rw [cl_D (n := 2) (by decide +kernel) rfl, zE me_284 (by decide +kernel : kst 284 = [(9, 4)]) 35]
  rfl
set_option maxRecDepth 20000 in
theorem e_284_9 {d : Nat} {I : zI} {x1 x2 x3 : Int} : zD (d + 1) 284 9 [(some (.inr (some 240))), (some (.inl x1)), (some (.inl x2)), (some (.inl x3))] [] I = (if x3 < 12 then ((cl d 165 [(.inr (some 240)), (.inl x1), (.inl x3)] I).bind fun p1 => (if p1.1 = 0 then ((cl d 283 [(.inr (some 240)), (.inl x1), (.inl x3)] p1.2).bind fun p2 => ((cl d 160 [(.inr (some 240)), (.inl x2), (.inl p2.1)] p2.2).bind fun p3 => (zD (d + 1) 284 9 [(some (.inr (some 240))), (some (.inl x1)), (some (.inl p3.1)), (some (.inl (wr (x3 + 1))))] [] p3.2))) else (zD (d + 1) 284 9 [(some (.inr (some 240))), (some (.inl x1)), (some (.inl x2)), (some (.inl (wr (x3 + 1))))] [] p1.2))) else (if 0 ≤ x1 ∧ x1 < 4096 then (some (0, (up I 281 (x1).toNat x2))) else none)) := by
  rw [zE me_284 (by decide +kernel : kst 284 = [(9, 4)]) 35]
  rfl
set_option maxRecDepth 20000 in
theorem e_285 {d : Nat} {I : zI} {x1 x2 : Int} : cl (d + 1) 285 [(.inr (some 240)), (.inl x1), (.inl x2)] I = ((cl d 158 [(.inr (some 240)), (.inl x1), (.inl 0), (.inl 4095)] (up I 240 0 0)).bind fun p1 => (if p1.1 = 0 then (some ((-10), p1.2)) else ((cl d 158 [(.inr (some 240)), (.inl x2), (.inl 0), (.inl 1)] p1.2).bind fun p2 => (if p2.1 = 0 then (some ((-10), p2.2)) else (zD (d + 1) 285 19 [(some (.inr (some 240))), (some (.inl x1)), (some (.inl x2)), (some (.inl 4095))] [] p2.2))))) := by
  rw [cl_D (n := 3) (by decide +kernel) rfl, zE me_285 (by decide +kernel : kst 285 = [(19, 4), (36, 4)]) 61]
  rfl
set_option maxRecDepth 20000 in
theorem e_285_19 {d : Nat} {I : zI} {x1 x2 x3 : Int} : zD (d + 1) 285 19 [(some (.inr (some 240))), (some (.inl x1)), (some (.inl x2)), (some (.inl x3))] [] I = (if x3 < x1 then (if x2 = 0 then (if 0 ≤ x1 ∧ x1 < 4096 then (some (I 281 (x1).toNat, I)) else none) else (zD (d + 1) 285 36 [(some (.inr (some 240))), (some (.inl x1)), (some (.inl x2)), (some (.inl 0))] [] I)) else ((cl d 284 [(.inr (some 240)), (.inl x3)] I).bind fun p3 => (zD (d + 1) 285 19 [(some (.inr (some 240))), (some (.inl x1)), (some (.inl x2)), (some (.inl (wr (x3 + (-1)))))] [] p3.2))) := by
  rw [zE me_285 (by decide +kernel : kst 285 = [(19, 4), (36, 4)]) 61]
  rfl
set_option maxRecDepth 20000 in
theorem e_285_36 {d : Nat} {I : zI} {x1 x3 : Int} {w2 : Option zV} : zD (d + 1) 285 36 [(some (.inr (some 240))), (some (.inl x1)), w2, (some (.inl x3))] [] I = (if x3 < 12 then ((cl d 165 [(.inr (some 240)), (.inl x1), (.inl x3)] I).bind fun p4 => (if p4.1 = 0 then ((cl d 283 [(.inr (some 240)), (.inl x1), (.inl x3)] p4.2).bind fun p5 => (if 0 ≤ x1 ∧ x1 < 4096 then (if p5.1 = p5.2 281 (x1).toNat then (some (x3, p5.2)) else (zD (d + 1) 285 36 [(some (.inr (some 240))), (some (.inl x1)), w2, (some (.inl (wr (x3 + 1))))] [] p5.2)) else none)) else (zD (d + 1) 285 36 [(some (.inr (some 240))), (some (.inl x1)), w2, (some (.inl (wr (x3 + 1))))] [] p4.2))) else (some ((-1), I))) := by
  rw [zE me_285 (by decide +kernel : kst 285 = [(19, 4), (36, 4)]) 61]
  rfl
set_option maxRecDepth 20000 in
theorem e_286 {d : Nat} {I : zI} {x1 : Int} : cl (d + 1) 286 [(.inr (some 240)), (.inl x1)] I = (if I 240 72 = 0 then (if 0 ≤ (wr ((wr (I 240 74 + 1)) - 1)) ∧ (wr ((wr (I 240 74 + 1)) - 1)) < 2200 then (some (I 282 ((wr ((wr (I 240 74 + 1)) - 1))).toNat, (up I 240 74 (wr (I 240 74 + 1))))) else none) else (if 0 ≤ (wr ((wr (I 240 74 + 1)) - 1)) ∧ (wr ((wr (I 240 74 + 1)) - 1)) < 2200 then (some (x1, (up (up I 240 74 (wr (I 240 74 + 1))) 282 ((wr ((wr (I 240 74 + 1)) - 1))).toNat x1))) else none)) := by
  rw [cl_D (n := 2) (by decide +kernel) rfl, zE me_286 (by decide +kernel : kst 286 = []) 29]
  rfl
set_option maxRecDepth 20000 in
theorem e_287 {d : Nat} {I : zI} : cl (d + 1) 287 [(.inr (some 240))] I = ((cl d 286 [(.inr (some 240)), (.inl (I 250 0))] I).bind fun p1 => (zD (d + 1) 287 12 [(some (.inr (some 240))), (some (.inl 0))] [] (up p1.2 250 0 p1.1))) := by
  rw [cl_D (n := 1) (by decide +kernel) rfl, zE me_287 (by decide +kernel : kst 287 = [(12, 2), (59, 2)]) 87]
  rfl
set_option maxRecDepth 20000 in
theorem e_287_12 {d : Nat} {I : zI} {x1 : Int} : zD (d + 1) 287 12 [(some (.inr (some 240))), (some (.inl x1))] [] I = (if x1 < 16 then (if 0 ≤ x1 ∧ x1 < 48 then ((cl d 286 [(.inr (some 240)), (.inl (I 251 (x1).toNat))] I).bind fun p2 => (if 0 ≤ x1 ∧ x1 < 48 then (if 0 ≤ x1 ∧ x1 < 48 then ((cl d 286 [(.inr (some 240)), (.inl (p2.2 252 (x1).toNat))] (up p2.2 251 (x1).toNat p2.1)).bind fun p3 => (if 0 ≤ x1 ∧ x1 < 48 then (if 0 ≤ x1 ∧ x1 < 48 then ((cl d 286 [(.inr (some 240)), (.inl (p3.2 253 (x1).toNat))] (up p3.2 252 (x1).toNat p3.1)).bind fun p4 => (if 0 ≤ x1 ∧ x1 < 48 then (if 0 ≤ x1 ∧ x1 < 48 then ((cl d 286 [(.inr (some 240)), (.inl (p4.2 254 (x1).toNat))] (up p4.2 253 (x1).toNat p4.1)).bind fun p5 => (if 0 ≤ x1 ∧ x1 < 48 then (zD (d + 1) 287 12 [(some (.inr (some 240))), (some (.inl (wr (x1 + 1))))] [] (up p5.2 254 (x1).toNat p5.1)) else none)) else none) else none)) else none) else none)) else none) else none)) else none) else (zD (d + 1) 287 59 [(some (.inr (some 240))), (some (.inl 0))] [] I)) := by
  rw [zE me_287 (by decide +kernel : kst 287 = [(12, 2), (59, 2)]) 87]
  rfl
set_option maxRecDepth 20000 in
theorem e_287_59 {d : Nat} {I : zI} {x1 : Int} : zD (d + 1) 287 59 [(some (.inr (some 240))), (some (.inl x1))] [] I = (if x1 < 400 then (if 0 ≤ x1 ∧ x1 < 1200 then ((cl d 286 [(.inr (some 240)), (.inl (I 255 (x1).toNat))] I).bind fun p6 => (if 0 ≤ x1 ∧ x1 < 1200 then (if 0 ≤ x1 ∧ x1 < 1200 then ((cl d 286 [(.inr (some 240)), (.inl (p6.2 256 (x1).toNat))] (up p6.2 255 (x1).toNat p6.1)).bind fun p7 => (if 0 ≤ x1 ∧ x1 < 1200 then (zD (d + 1) 287 59 [(some (.inr (some 240))), (some (.inl (wr (x1 + 1))))] [] (up p7.2 256 (x1).toNat p7.1)) else none)) else none) else none)) else none) else (some (0, I))) := by
  rw [zE me_287 (by decide +kernel : kst 287 = [(12, 2), (59, 2)]) 87]
  rfl
set_option maxRecDepth 20000 in
theorem e_288 {d : Nat} {I : zI} : cl (d + 1) 288 [(.inr (some 240))] I = ((cl d 286 [(.inr (some 240)), (.inl (I 240 6))] I).bind fun p1 => ((cl d 286 [(.inr (some 240)), (.inl (p1.2 240 7))] (up p1.2 240 6 p1.1)).bind fun p2 => ((cl d 286 [(.inr (some 240)), (.inl (p2.2 240 8))] (up p2.2 240 7 p2.1)).bind fun p3 => ((cl d 286 [(.inr (some 240)), (.inl (p3.2 240 36))] (up p3.2 240 8 p3.1)).bind fun p4 => ((cl d 286 [(.inr (some 240)), (.inl (p4.2 240 38))] (up p4.2 240 36 p4.1)).bind fun p5 => ((cl d 286 [(.inr (some 240)), (.inl (p5.2 240 41))] (up p5.2 240 38 p5.1)).bind fun p6 => ((cl d 286 [(.inr (some 240)), (.inl (p6.2 240 47))] (up p6.2 240 41 p6.1)).bind fun p7 => ((cl d 286 [(.inr (some 240)), (.inl (p7.2 240 51))] (up p7.2 240 47 p7.1)).bind fun p8 => ((cl d 286 [(.inr (some 240)), (.inl (p8.2 240 57))] (up p8.2 240 51 p8.1)).bind fun p9 => ((cl d 286 [(.inr (some 240)), (.inl (p9.2 240 58))] (up p9.2 240 57 p9.1)).bind fun p10 => ((cl d 286 [(.inr (some 240)), (.inl (p10.2 240 59))] (up p10.2 240 58 p10.1)).bind fun p11 => ((cl d 286 [(.inr (some 240)), (.inl (p11.2 240 62))] (up p11.2 240 59 p11.1)).bind fun p12 => ((cl d 286 [(.inr (some 240)), (.inl (p12.2 240 64))] (up p12.2 240 62 p12.1)).bind fun p13 => ((cl d 286 [(.inr (some 240)), (.inl (p13.2 240 66))] (up p13.2 240 64 p13.1)).bind fun p14 => ((cl d 286 [(.inr (some 240)), (.inl (p14.2 240 69))] (up p14.2 240 66 p14.1)).bind fun p15 => (some (0, (up p15.2 240 69 p15.1)))))))))))))))))) := by
  rw [cl_D (n := 1) (by decide +kernel) rfl, zE me_288 (by decide +kernel : kst 288 = []) 93]
  rfl
set_option maxRecDepth 20000 in
theorem e_289 {d : Nat} {I : zI} : cl (d + 1) 289 [(.inr (some 240))] I = (zD (d + 1) 289 2 [(some (.inr (some 240))), (some (.inl 0))] [] I) := by
  rw [cl_D (n := 1) (by decide +kernel) rfl, zE me_289 (by decide +kernel : kst 289 = [(2, 2), (19, 2), (56, 2), (93, 2), (130, 2), (147, 2), (164, 2), (191, 2)]) 209]
  rfl
set_option maxRecDepth 20000 in
theorem e_289_2 {d : Nat} {I : zI} {x1 : Int} : zD (d + 1) 289 2 [(some (.inr (some 240))), (some (.inl x1))] [] I = (if x1 < 14 then (if 0 ≤ x1 ∧ x1 < 14 then ((cl d 286 [(.inr (some 240)), (.inl (I 244 (x1).toNat))] I).bind fun p1 => (if 0 ≤ x1 ∧ x1 < 14 then (zD (d + 1) 289 2 [(some (.inr (some 240))), (some (.inl (wr (x1 + 1))))] [] (up p1.2 244 (x1).toNat p1.1)) else none)) else none) else (zD (d + 1) 289 19 [(some (.inr (some 240))), (some (.inl 0))] [] I)) := by
  rw [zE me_289 (by decide +kernel : kst 289 = [(2, 2), (19, 2), (56, 2), (93, 2), (130, 2), (147, 2), (164, 2), (191, 2)]) 209]
  rfl
set_option maxRecDepth 20000 in
theorem e_289_19 {d : Nat} {I : zI} {x1 : Int} : zD (d + 1) 289 19 [(some (.inr (some 240))), (some (.inl x1))] [] I = (if x1 < 10 then (if 0 ≤ x1 ∧ x1 < 10 then ((cl d 286 [(.inr (some 240)), (.inl (I 245 (x1).toNat))] I).bind fun p2 => (if 0 ≤ x1 ∧ x1 < 10 then (if 0 ≤ x1 ∧ x1 < 10 then ((cl d 286 [(.inr (some 240)), (.inl (p2.2 266 (x1).toNat))] (up p2.2 245 (x1).toNat p2.1)).bind fun p3 => (if 0 ≤ x1 ∧ x1 < 10 then (if 0 ≤ x1 ∧ x1 < 10 then ((cl d 286 [(.inr (some 240)), (.inl (p3.2 277 (x1).toNat))] (up p3.2 266 (x1).toNat p3.1)).bind fun p4 => (if 0 ≤ x1 ∧ x1 < 10 then (zD (d + 1) 289 19 [(some (.inr (some 240))), (some (.inl (wr (x1 + 1))))] [] (up p4.2 277 (x1).toNat p4.1)) else none)) else none) else none)) else none) else none)) else none) else (zD (d + 1) 289 56 [(some (.inr (some 240))), (some (.inl 0))] [] I)) := by
  rw [zE me_289 (by decide +kernel : kst 289 = [(2, 2), (19, 2), (56, 2), (93, 2), (130, 2), (147, 2), (164, 2), (191, 2)]) 209]
  rfl
set_option maxRecDepth 20000 in
theorem e_289_56 {d : Nat} {I : zI} {x1 : Int} : zD (d + 1) 289 56 [(some (.inr (some 240))), (some (.inl x1))] [] I = (if x1 < 12 then (if 0 ≤ x1 ∧ x1 < 12 then ((cl d 286 [(.inr (some 240)), (.inl (I 246 (x1).toNat))] I).bind fun p5 => (if 0 ≤ x1 ∧ x1 < 12 then (if 0 ≤ x1 ∧ x1 < 24 then ((cl d 286 [(.inr (some 240)), (.inl (p5.2 261 (x1).toNat))] (up p5.2 246 (x1).toNat p5.1)).bind fun p6 => (if 0 ≤ x1 ∧ x1 < 24 then (if 0 ≤ x1 ∧ x1 < 12 then ((cl d 286 [(.inr (some 240)), (.inl (p6.2 276 (x1).toNat))] (up p6.2 261 (x1).toNat p6.1)).bind fun p7 => (if 0 ≤ x1 ∧ x1 < 12 then (zD (d + 1) 289 56 [(some (.inr (some 240))), (some (.inl (wr (x1 + 1))))] [] (up p7.2 276 (x1).toNat p7.1)) else none)) else none) else none)) else none) else none)) else none) else (zD (d + 1) 289 93 [(some (.inr (some 240))), (some (.inl 0))] [] I)) := by
  rw [zE me_289 (by decide +kernel : kst 289 = [(2, 2), (19, 2), (56, 2), (93, 2), (130, 2), (147, 2), (164, 2), (191, 2)]) 209]
  rfl
set_option maxRecDepth 20000 in
theorem e_289_93 {d : Nat} {I : zI} {x1 : Int} : zD (d + 1) 289 93 [(some (.inr (some 240))), (some (.inl x1))] [] I = (if x1 < 8 then (if 0 ≤ x1 ∧ x1 < 16 then ((cl d 286 [(.inr (some 240)), (.inl (I 259 (x1).toNat))] I).bind fun p8 => (if 0 ≤ x1 ∧ x1 < 16 then (if 0 ≤ x1 ∧ x1 < 16 then ((cl d 286 [(.inr (some 240)), (.inl (p8.2 260 (x1).toNat))] (up p8.2 259 (x1).toNat p8.1)).bind fun p9 => (if 0 ≤ x1 ∧ x1 < 16 then (if 0 ≤ x1 ∧ x1 < 8 then ((cl d 286 [(.inr (some 240)), (.inl (p9.2 278 (x1).toNat))] (up p9.2 260 (x1).toNat p9.1)).bind fun p10 => (if 0 ≤ x1 ∧ x1 < 8 then (zD (d + 1) 289 93 [(some (.inr (some 240))), (some (.inl (wr (x1 + 1))))] [] (up p10.2 278 (x1).toNat p10.1)) else none)) else none) else none)) else none) else none)) else none) else (zD (d + 1) 289 130 [(some (.inr (some 240))), (some (.inl 0))] [] I)) := by
  rw [zE me_289 (by decide +kernel : kst 289 = [(2, 2), (19, 2), (56, 2), (93, 2), (130, 2), (147, 2), (164, 2), (191, 2)]) 209]
  rfl
set_option maxRecDepth 20000 in
theorem e_289_130 {d : Nat} {I : zI} {x1 : Int} : zD (d + 1) 289 130 [(some (.inr (some 240))), (some (.inl x1))] [] I = (if x1 < 64 then (if 0 ≤ x1 ∧ x1 < 128 then ((cl d 286 [(.inr (some 240)), (.inl (I 258 (x1).toNat))] I).bind fun p11 => (if 0 ≤ x1 ∧ x1 < 128 then (zD (d + 1) 289 130 [(some (.inr (some 240))), (some (.inl (wr (x1 + 1))))] [] (up p11.2 258 (x1).toNat p11.1)) else none)) else none) else (zD (d + 1) 289 147 [(some (.inr (some 240))), (some (.inl 0))] [] I)) := by
  rw [zE me_289 (by decide +kernel : kst 289 = [(2, 2), (19, 2), (56, 2), (93, 2), (130, 2), (147, 2), (164, 2), (191, 2)]) 209]
  rfl
set_option maxRecDepth 20000 in
theorem e_289_147 {d : Nat} {I : zI} {x1 : Int} : zD (d + 1) 289 147 [(some (.inr (some 240))), (some (.inl x1))] [] I = (if x1 < 4 then (if 0 ≤ x1 ∧ x1 < 4 then ((cl d 286 [(.inr (some 240)), (.inl (I 269 (x1).toNat))] I).bind fun p12 => (if 0 ≤ x1 ∧ x1 < 4 then (zD (d + 1) 289 147 [(some (.inr (some 240))), (some (.inl (wr (x1 + 1))))] [] (up p12.2 269 (x1).toNat p12.1)) else none)) else none) else (zD (d + 1) 289 164 [(some (.inr (some 240))), (some (.inl 0))] [] I)) := by
  rw [zE me_289 (by decide +kernel : kst 289 = [(2, 2), (19, 2), (56, 2), (93, 2), (130, 2), (147, 2), (164, 2), (191, 2)]) 209]
  rfl
set_option maxRecDepth 20000 in
theorem e_289_164 {d : Nat} {I : zI} {x1 : Int} : zD (d + 1) 289 164 [(some (.inr (some 240))), (some (.inl x1))] [] I = (if x1 < 3 then (if 0 ≤ x1 ∧ x1 < 3 then ((cl d 286 [(.inr (some 240)), (.inl (I 272 (x1).toNat))] I).bind fun p13 => (if 0 ≤ x1 ∧ x1 < 3 then (if 0 ≤ x1 ∧ x1 < 3 then ((cl d 286 [(.inr (some 240)), (.inl (p13.2 273 (x1).toNat))] (up p13.2 272 (x1).toNat p13.1)).bind fun p14 => (if 0 ≤ x1 ∧ x1 < 3 then (zD (d + 1) 289 164 [(some (.inr (some 240))), (some (.inl (wr (x1 + 1))))] [] (up p14.2 273 (x1).toNat p14.1)) else none)) else none) else none)) else none) else (zD (d + 1) 289 191 [(some (.inr (some 240))), (some (.inl 0))] [] I)) := by
  rw [zE me_289 (by decide +kernel : kst 289 = [(2, 2), (19, 2), (56, 2), (93, 2), (130, 2), (147, 2), (164, 2), (191, 2)]) 209]
  rfl
set_option maxRecDepth 20000 in
theorem e_289_191 {d : Nat} {I : zI} {x1 : Int} : zD (d + 1) 289 191 [(some (.inr (some 240))), (some (.inl x1))] [] I = (if x1 < 6 then (if 0 ≤ x1 ∧ x1 < 6 then ((cl d 286 [(.inr (some 240)), (.inl (I 280 (x1).toNat))] I).bind fun p15 => (if 0 ≤ x1 ∧ x1 < 6 then (zD (d + 1) 289 191 [(some (.inr (some 240))), (some (.inl (wr (x1 + 1))))] [] (up p15.2 280 (x1).toNat p15.1)) else none)) else none) else (some (0, I))) := by
  rw [zE me_289 (by decide +kernel : kst 289 = [(2, 2), (19, 2), (56, 2), (93, 2), (130, 2), (147, 2), (164, 2), (191, 2)]) 209]
  rfl
set_option maxRecDepth 20000 in
theorem e_290 {d : Nat} {I : zI} {x1 : Int} : cl (d + 1) 290 [(.inr (some 240)), (.inl x1)] I = (if x1 = 0 then (if I 240 73 = 0 then (some (0, (up I 240 0 0))) else (if x1 = 0 ∨ x1 = 1 then (zD (d + 1) 290 21 [(some (.inr (some 240))), (some (.inl x1)), (some (.inl 0))] [] (up (up (up (up I 240 0 0) 240 72 x1) 240 73 1) 240 74 0)) else none)) else (if x1 = 0 ∨ x1 = 1 then (zD (d + 1) 290 21 [(some (.inr (some 240))), (some (.inl x1)), (some (.inl 0))] [] (up (up (up (up I 240 0 0) 240 72 x1) 240 73 1) 240 74 0)) else none)) := by
  rw [cl_D (n := 2) (by decide +kernel) rfl, zE me_290 (by decide +kernel : kst 290 = [(21, 3), (42, 3)]) 68]
  rfl
set_option maxRecDepth 20000 in
theorem e_290_21 {d : Nat} {I : zI} {x1 x2 : Int} : zD (d + 1) 290 21 [(some (.inr (some 240))), (some (.inl x1)), (some (.inl x2))] [] I = (if x2 < 110 then (if 0 ≤ x2 ∧ x2 < 110 then ((cl d 286 [(.inr (some 240)), (.inl (I 241 (x2).toNat))] I).bind fun p3 => (if 0 ≤ x2 ∧ x2 < 110 then (zD (d + 1) 290 21 [(some (.inr (some 240))), (some (.inl x1)), (some (.inl (wr (x2 + 1))))] [] (up p3.2 241 (x2).toNat p3.1)) else none)) else none) else ((cl d 288 [(.inr (some 240))] I).bind fun p1 => ((cl d 289 [(.inr (some 240))] p1.2).bind fun p2 => (zD (d + 1) 290 42 [(some (.inr (some 240))), (some (.inl x1)), (some (.inl 0))] [] p2.2)))) := by
  rw [zE me_290 (by decide +kernel : kst 290 = [(21, 3), (42, 3)]) 68]
  rfl
set_option maxRecDepth 20000 in
theorem e_290_42 {d : Nat} {I : zI} {x1 x2 : Int} : zD (d + 1) 290 42 [(some (.inr (some 240))), (some (.inl x1)), (some (.inl x2))] [] I = (if x2 < 600 then (if 0 ≤ x2 ∧ x2 < 600 then ((cl d 286 [(.inr (some 240)), (.inl (I 247 (x2).toNat))] I).bind fun p5 => (if 0 ≤ x2 ∧ x2 < 600 then (zD (d + 1) 290 42 [(some (.inr (some 240))), (some (.inl x1)), (some (.inl (wr (x2 + 1))))] [] (up p5.2 247 (x2).toNat p5.1)) else none)) else none) else ((cl d 287 [(.inr (some 240))] I).bind fun p4 => (if x1 = 0 then (some (1, (up p4.2 240 3 0))) else (some (1, p4.2))))) := by
  rw [zE me_290 (by decide +kernel : kst 290 = [(21, 3), (42, 3)]) 68]
  rfl
set_option maxRecDepth 20000 in
theorem e_291 {d : Nat} {I : zI} {x1 : Int} : cl (d + 1) 291 [(.inr (some 240)), (.inl x1)] I = (if x1 = 0 then (some (I 240 6, (up I 240 0 0))) else (if x1 = 1 then (some (I 240 7, (up I 240 0 0))) else (if x1 = 2 then (some (I 240 8, (up I 240 0 0))) else (if x1 = 3 then (some (I 241 3, (up I 240 0 0))) else (if x1 = 4 then ((cl d 180 [(.inr (some 240))] (up I 240 0 0)).bind fun p1 => (some (p1.1, p1.2))) else (if x1 = 5 then (some (I 241 0, (up I 240 0 0))) else (if x1 = 6 then (some (I 241 2, (up I 240 0 0))) else (if x1 = 7 then (some (I 241 1, (up I 240 0 0))) else (if x1 = 8 then (some (I 250 0, (up I 240 0 0))) else (if x1 = 9 then (some (I 240 36, (up I 240 0 0))) else (if x1 = 10 then (some (I 240 38, (up I 240 0 0))) else (if x1 = 11 then (some (I 240 41, (up I 240 0 0))) else (if x1 = 12 then (some (I 240 3, (up I 240 0 0))) else (some ((-100000), (up I 240 0 0)))))))))))))))) := by
  rw [cl_D (n := 2) (by decide +kernel) rfl, zE me_291 (by decide +kernel : kst 291 = []) 94]
  rfl
set_option maxRecDepth 20000 in
theorem e_292 {d : Nat} {I : zI} {x0 : Int} : cl (d + 1) 292 [(.inl x0)] I = (some ((zand (wr ((wr ((zand (wr ((wr ((zand (wr (x0 - (zand (zushr x0 1) 1431655765))) 858993459) + (zand (zushr (wr (x0 - (zand (zushr x0 1) 1431655765))) 2) 858993459))) + (zushr (wr ((zand (wr (x0 - (zand (zushr x0 1) 1431655765))) 858993459) + (zand (zushr (wr (x0 - (zand (zushr x0 1) 1431655765))) 2) 858993459))) 4))) 252645135) + (zushr (zand (wr ((wr ((zand (wr (x0 - (zand (zushr x0 1) 1431655765))) 858993459) + (zand (zushr (wr (x0 - (zand (zushr x0 1) 1431655765))) 2) 858993459))) + (zushr (wr ((zand (wr (x0 - (zand (zushr x0 1) 1431655765))) 858993459) + (zand (zushr (wr (x0 - (zand (zushr x0 1) 1431655765))) 2) 858993459))) 4))) 252645135) 8))) + (zushr (wr ((zand (wr ((wr ((zand (wr (x0 - (zand (zushr x0 1) 1431655765))) 858993459) + (zand (zushr (wr (x0 - (zand (zushr x0 1) 1431655765))) 2) 858993459))) + (zushr (wr ((zand (wr (x0 - (zand (zushr x0 1) 1431655765))) 858993459) + (zand (zushr (wr (x0 - (zand (zushr x0 1) 1431655765))) 2) 858993459))) 4))) 252645135) + (zushr (zand (wr ((wr ((zand (wr (x0 - (zand (zushr x0 1) 1431655765))) 858993459) + (zand (zushr (wr (x0 - (zand (zushr x0 1) 1431655765))) 2) 858993459))) + (zushr (wr ((zand (wr (x0 - (zand (zushr x0 1) 1431655765))) 858993459) + (zand (zushr (wr (x0 - (zand (zushr x0 1) 1431655765))) 2) 858993459))) 4))) 252645135) 8))) 16))) 63), I)) := by
  rw [cl_D (n := 1) (by decide +kernel) rfl, zE me_292 (by decide +kernel : kst 292 = []) 44]
  rfl
set_option maxRecDepth 20000 in
theorem e_293 {d : Nat} {I : zI} {x0 x1 : Int} : cl (d + 1) 293 [(.inl x0), (.inl x1)] I = (if x1 = 0 then none else (if (zxor x0 x1) < 0 then (if (zrem x0 x1) = 0 then (some ((zrem x0 x1), I)) else (some ((wr ((zrem x0 x1) + x1)), I))) else (some ((zrem x0 x1), I)))) := by
  rw [cl_D (n := 2) (by decide +kernel) rfl, zE me_293 (by decide +kernel : kst 293 = []) 18]
  rfl
set_option maxRecDepth 20000 in
theorem e_294 {d : Nat} {I : zI} {x0 : Int} : cl (d + 1) 294 [(.inl x0)] I = (if x0 < 0 then (some ((wr (-x0)), I)) else (some (x0, I))) := by
  rw [cl_D (n := 1) (by decide +kernel) rfl, zE me_294 (by decide +kernel : kst 294 = []) 9]
  rfl
set_option maxRecDepth 20000 in
theorem e_295 {d : Nat} {I : zI} {x0 x1 : Int} : cl (d + 1) 295 [(.inl x0), (.inl x1)] I = (if x0 < x1 then (some (x1, I)) else (some (x0, I))) := by
  rw [cl_D (n := 2) (by decide +kernel) rfl, zE me_295 (by decide +kernel : kst 295 = []) 9]
  rfl
set_option maxRecDepth 20000 in
theorem e_296 {d : Nat} {I : zI} {x0 x1 : Int} : cl (d + 1) 296 [(.inl x0), (.inl x1)] I = (if x1 < x0 then (some (x1, I)) else (some (x0, I))) := by
  rw [cl_D (n := 2) (by decide +kernel) rfl, zE me_296 (by decide +kernel : kst 296 = []) 9]
  rfl
