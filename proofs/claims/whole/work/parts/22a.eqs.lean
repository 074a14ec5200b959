/-! the methods as functions: what each is (by their code) -/
set_option maxRecDepth 20000 in
theorem e_1 {d : Nat} {I : zI} {x1 x2 x3 x4 : Int} : cl (d + 1) 1 [(.inr (some 15)), (.inl x1), (.inl x2), (.inl x3), (.inl x4)] I = (if I 15 4 < 0 then (some (0, I)) else (if I 15 4 < 150 then (if 0 ≤ I 15 4 ∧ I 15 4 < 150 then (if 0 ≤ I 15 4 ∧ I 15 4 < 150 then (if 0 ≤ I 15 4 ∧ I 15 4 < 150 then (if 0 ≤ I 15 4 ∧ I 15 4 < 150 then (some (0, (up (up (up (up (up I 16 (I 15 4).toNat x1) 17 (I 15 4).toNat x2) 18 (I 15 4).toNat x3) 19 (I 15 4).toNat x4) 15 4 (wr (I 15 4 + 1))))) else none) else none) else none) else none) else (some (0, I)))) := by
  rw [cl_D (n := 5) (by decide +kernel) rfl, zE me_1 (by decide +kernel : kst 1 = []) 41]
  rfl
set_option maxRecDepth 20000 in
theorem e_2 {d : Nat} {I : zI} : cl (d + 1) 2 [(.inr (some 74)), (.inr (some 15))] I = (some (0, (up (cp (cp (cp (cp I 16 75 0 0 150) 17 76 0 0 150) 18 77 0 0 150) 19 78 0 0 150) 74 4 (I 15 4)))) := by
  rw [cl_D (n := 2) (by decide +kernel) rfl, zE me_2 (by decide +kernel : kst 2 = []) 39]
  rfl
set_option maxRecDepth 20000 in
theorem e_4 {d : Nat} {I : zI} {x1 : Int} : cl (d + 1) 4 [(.inr (some 238)), (.inl x1)] I = ((cl d 156 [(.inl x1), (.inl 0), (.inl 4095)] I).bind fun p1 => (if p1.1 = 0 then (some (0, p1.2)) else (zD (d + 1) 4 12 [(some (.inr (some 238))), (some (.inl x1)), (some (.inl (wr (p1.2 238 1 - 1))))] [] p1.2))) := by
  rw [cl_D (n := 2) (by decide +kernel) rfl, zE me_4 (by decide +kernel : kst 4 = [(12, 3), (21, 5)]) 56]
  rfl
set_option maxRecDepth 20000 in
theorem e_4_12 {d : Nat} {I : zI} {x1 x2 : Int} : zD (d + 1) 4 12 [(some (.inr (some 238))), (some (.inl x1)), (some (.inl x2))] [] I = (if x2 < x1 then (if 0 ≤ x1 ∧ x1 < 4096 then (some (I 239 (x1).toNat, I)) else none) else (if x2 < 0 then (if 0 ≤ x1 ∧ x1 < 4096 then (some (I 239 (x1).toNat, I)) else none) else (zD (d + 1) 4 21 [(some (.inr (some 238))), (some (.inl x1)), (some (.inl x2)), (some (.inl (-9))), (some (.inl 0))] [] I))) := by
  rw [zE me_4 (by decide +kernel : kst 4 = [(12, 3), (21, 5)]) 56]
  rfl
set_option maxRecDepth 20000 in
theorem e_4_21 {d : Nat} {I : zI} {x1 x2 x3 x4 : Int} : zD (d + 1) 4 21 [(some (.inr (some 238))), (some (.inl x1)), (some (.inl x2)), (some (.inl x3)), (some (.inl x4))] [] I = (if x4 < 12 then (if (zand (zshr x2 x4) 1) = 0 then ((cl d 6 [(.inr (some 238)), (.inl x2), (.inl x4)] I).bind fun p2 => ((cl d 295 [(.inl x3), (.inl p2.1)] p2.2).bind fun p3 => (zD (d + 1) 4 21 [(some (.inr (some 238))), (some (.inl x1)), (some (.inl x2)), (some (.inl p3.1)), (some (.inl (wr (x4 + 1))))] [] p3.2))) else (zD (d + 1) 4 21 [(some (.inr (some 238))), (some (.inl x1)), (some (.inl x2)), (some (.inl x3)), (some (.inl (wr (x4 + 1))))] [] I)) else (if 0 ≤ x2 ∧ x2 < 4096 then (zD (d + 1) 4 12 [(some (.inr (some 238))), (some (.inl x1)), (some (.inl (wr (x2 + (-1)))))] [] (up (up I 239 (x2).toNat x3) 238 1 x2)) else none)) := by
  rw [zE me_4 (by decide +kernel : kst 4 = [(12, 3), (21, 5)]) 56]
  rfl
set_option maxRecDepth 20000 in
theorem e_5 {d : Nat} {I : zI} {x1 : Int} : cl (d + 1) 5 [(.inr (some 238)), (.inl x1)] I = ((cl d 4 [(.inr (some 238)), (.inl x1)] I).bind fun p1 => (zD (d + 1) 5 6 [(some (.inr (some 238))), (some (.inl x1)), (some (.inl p1.1)), (some (.inl 0))] [] p1.2)) := by
  rw [cl_D (n := 2) (by decide +kernel) rfl, zE me_5 (by decide +kernel : kst 5 = [(6, 4)]) 29]
  rfl
set_option maxRecDepth 20000 in
theorem e_5_6 {d : Nat} {I : zI} {x1 x2 x3 : Int} : zD (d + 1) 5 6 [(some (.inr (some 238))), (some (.inl x1)), (some (.inl x2)), (some (.inl x3))] [] I = (if x3 < 12 then (if (zand (zshr x1 x3) 1) = 0 then ((cl d 6 [(.inr (some 238)), (.inl x1), (.inl x3)] I).bind fun p2 => (if p2.1 = x2 then (some (x3, p2.2)) else (zD (d + 1) 5 6 [(some (.inr (some 238))), (some (.inl x1)), (some (.inl x2)), (some (.inl (wr (x3 + 1))))] [] p2.2))) else (zD (d + 1) 5 6 [(some (.inr (some 238))), (some (.inl x1)), (some (.inl x2)), (some (.inl (wr (x3 + 1))))] [] I)) else (some ((-1), I))) := by
  rw [zE me_5 (by decide +kernel : kst 5 = [(6, 4)]) 29]
  rfl
set_option maxRecDepth 20000 in
theorem e_6 {d : Nat} {I : zI} {x1 x2 : Int} : cl (d + 1) 6 [(.inr (some 238)), (.inl x1), (.inl x2)] I = (if (zor x1 (zshl 1 x2)) < 0 then (some (0, I)) else (if (zor x1 (zshl 1 x2)) < 4096 then ((cl d 7 [(.inl (zor x1 (zshl 1 x2)))] I).bind fun p1 => ((cl d 7 [(.inl x1)] p1.2).bind fun p2 => (if 0 < (wr (p1.1 - p2.1)) then (if 0 ≤ (zor x1 (zshl 1 x2)) ∧ (zor x1 (zshl 1 x2)) < 4096 then (some ((wr ((wr (p1.1 - p2.1)) + p2.2 239 ((zor x1 (zshl 1 x2))).toNat)), p2.2)) else none) else (if 0 ≤ (zor x1 (zshl 1 x2)) ∧ (zor x1 (zshl 1 x2)) < 4096 then (some ((wr (-p2.2 239 ((zor x1 (zshl 1 x2))).toNat)), p2.2)) else none)))) else (some (0, I)))) := by
  rw [cl_D (n := 3) (by decide +kernel) rfl, zE me_6 (by decide +kernel : kst 6 = []) 36]
  rfl
set_option maxRecDepth 20000 in
theorem e_7 {d : Nat} {I : zI} {x0 : Int} : cl (d + 1) 7 [(.inl x0)] I = (zD (d + 1) 7 4 [(some (.inl x0)), (some (.inl 0)), (some (.inl 0))] [] I) := by
  rw [cl_D (n := 1) (by decide +kernel) rfl, zE me_7 (by decide +kernel : kst 7 = [(4, 3)]) 29]
  rfl
set_option maxRecDepth 20000 in
theorem e_7_4 {d : Nat} {I : zI} {x0 x1 x2 : Int} : zD (d + 1) 7 4 [(some (.inl x0)), (some (.inl x1)), (some (.inl x2))] [] I = (if x2 < 4 then (if 0 ≤ x2 ∧ x2 < 4 then (if 0 ≤ x2 ∧ x2 < 4 then (if (zand x0 (zbx (x2).toNat)) = (zbx (x2).toNat) then (zD (d + 1) 7 4 [(some (.inl x0)), (some (.inl (wr (x1 + 1)))), (some (.inl (wr (x2 + 1))))] [] I) else (zD (d + 1) 7 4 [(some (.inl x0)), (some (.inl (wr (x1 + 0)))), (some (.inl (wr (x2 + 1))))] [] I)) else none) else none) else (some (x1, I))) := by
  rw [zE me_7 (by decide +kernel : kst 7 = [(4, 3)]) 29]
  rfl
set_option maxRecDepth 20000 in
theorem e_9 {d : Nat} {I : zI} : cl (d + 1) 9 [(.inr (some 60)), (.inr (some 1))] I = ((cl d 21 [(.inr (some 61)), (.inr (some 2))] I).bind fun p1 => ((cl d 2 [(.inr (some 74)), (.inr (some 15))] p1.2).bind fun p2 => ((cl d 39 [(.inr (some 79)), (.inr (some 20))] p2.2).bind fun p3 => ((cl d 86 [(.inr (some 88)), (.inr (some 29))] p3.2).bind fun p4 => ((cl d 86 [(.inr (some 93)), (.inr (some 34))] p4.2).bind fun p5 => ((cl d 86 [(.inr (some 98)), (.inr (some 39))] p5.2).bind fun p6 => ((cl d 83 [(.inr (some 103)), (.inr (some 44))] p6.2).bind fun p7 => ((cl d 83 [(.inr (some 105)), (.inr (some 46))] p7.2).bind fun p8 => ((cl d 83 [(.inr (some 109)), (.inr (some 50))] (cp (cp p8.2 48 107 0 0 3) 49 108 0 0 3)).bind fun p9 => ((cl d 83 [(.inr (some 111)), (.inr (some 52))] p9.2).bind fun p10 => ((cl d 83 [(.inr (some 113)), (.inr (some 54))] p10.2).bind fun p11 => ((cl d 83 [(.inr (some 115)), (.inr (some 56))] p11.2).bind fun p12 => ((cl d 83 [(.inr (some 117)), (.inr (some 58))] p12.2).bind fun p13 => (some (0, p13.2))))))))))))))) := by
  rw [cl_D (n := 2) (by decide +kernel) rfl, zE me_9 (by decide +kernel : kst 9 = []) 84]
  rfl
set_option maxRecDepth 20000 in
theorem e_10 {d : Nat} {I : zI} {x1 : Int} : cl (d + 1) 10 [(.inr (some 1)), (.inl x1)] I = (zD (d + 1) 10 6 [(some (.inr (some 1))), (some (.inl x1)), (some (.inl (wr (I 34 4 - 1))))] [] I) := by
  rw [cl_D (n := 2) (by decide +kernel) rfl, zE me_10 (by decide +kernel : kst 10 = [(6, 3)]) 27]
  rfl
set_option maxRecDepth 20000 in
theorem e_10_6 {d : Nat} {I : zI} {x1 x2 : Int} : zD (d + 1) 10 6 [(some (.inr (some 1))), (some (.inl x1)), (some (.inl x2))] [] I = (if x2 < 0 then (some (0, I)) else (if 0 ≤ x2 ∧ x2 < 16 then (if I 35 (x2).toNat = x1 then (if 0 ≤ x2 ∧ x2 < 16 then (some (I 36 (x2).toNat, I)) else none) else (zD (d + 1) 10 6 [(some (.inr (some 1))), (some (.inl x1)), (some (.inl (wr (x2 + (-1)))))] [] I)) else none)) := by
  rw [zE me_10 (by decide +kernel : kst 10 = [(6, 3)]) 27]
  rfl
set_option maxRecDepth 20000 in
theorem e_11 {d : Nat} {I : zI} {x1 : Int} : cl (d + 1) 11 [(.inr (some 1)), (.inl x1)] I = (zD (d + 1) 11 6 [(some (.inr (some 1))), (some (.inl x1)), (some (.inl (wr (I 34 4 - 1))))] [] I) := by
  rw [cl_D (n := 2) (by decide +kernel) rfl, zE me_11 (by decide +kernel : kst 11 = [(6, 3)]) 27]
  rfl
set_option maxRecDepth 20000 in
theorem e_11_6 {d : Nat} {I : zI} {x1 x2 : Int} : zD (d + 1) 11 6 [(some (.inr (some 1))), (some (.inl x1)), (some (.inl x2))] [] I = (if x2 < 0 then (some (5, I)) else (if 0 ≤ x2 ∧ x2 < 16 then (if I 35 (x2).toNat = x1 then (if 0 ≤ x2 ∧ x2 < 16 then (some (I 37 (x2).toNat, I)) else none) else (zD (d + 1) 11 6 [(some (.inr (some 1))), (some (.inl x1)), (some (.inl (wr (x2 + (-1)))))] [] I)) else none)) := by
  rw [zE me_11 (by decide +kernel : kst 11 = [(6, 3)]) 27]
  rfl
set_option maxRecDepth 20000 in
theorem e_12 {d : Nat} {I : zI} {x1 : Int} : cl (d + 1) 12 [(.inr (some 1)), (.inl x1)] I = (zD (d + 1) 12 4 [(some (.inr (some 1))), (some (.inl x1)), (some (.inl 0)), (some (.inl 0))] [] I) := by
  rw [cl_D (n := 2) (by decide +kernel) rfl, zE me_12 (by decide +kernel : kst 12 = [(4, 4)]) 32]
  rfl
set_option maxRecDepth 20000 in
theorem e_12_4 {d : Nat} {I : zI} {x1 x2 x3 : Int} : zD (d + 1) 12 4 [(some (.inr (some 1))), (some (.inl x1)), (some (.inl x2)), (some (.inl x3))] [] I = (if x3 < I 39 4 then (if 0 ≤ x3 ∧ x3 < 16 then (if I 40 (x3).toNat = x1 then (if 0 ≤ x3 ∧ x3 < 16 then (zD (d + 1) 12 4 [(some (.inr (some 1))), (some (.inl x1)), (some (.inl (zor x2 (zshl 1 (I 41 (x3).toNat))))), (some (.inl (wr (x3 + 1))))] [] I) else none) else (zD (d + 1) 12 4 [(some (.inr (some 1))), (some (.inl x1)), (some (.inl x2)), (some (.inl (wr (x3 + 1))))] [] I)) else none) else (some (x2, I))) := by
  rw [zE me_12 (by decide +kernel : kst 12 = [(4, 4)]) 32]
  rfl
set_option maxRecDepth 20000 in
theorem e_19 {d : Nat} {I : zI} {x1 x3 : Int} : cl (d + 1) 19 [(.inr (some 1)), (.inl x1), (.inr (some 232)), (.inl x3)] I = (zD (d + 1) 19 6 [(some (.inr (some 1))), (some (.inl x1)), (some (.inr (some 232))), (some (.inl x3)), (some (.inl 0)), (some (.inl (-1))), (some (.inl 0))] [] I) := by
  rw [cl_D (n := 4) (by decide +kernel) rfl, zE me_19 (by decide +kernel : kst 19 = [(6, 7), (35, 10)]) 89]
  rfl
set_option maxRecDepth 20000 in
theorem e_19_6 {d : Nat} {I : zI} {x1 x3 x4 x5 x6 : Int} : zD (d + 1) 19 6 [(some (.inr (some 1))), (some (.inl x1)), (some (.inr (some 232))), (some (.inl x3)), (some (.inl x4)), (some (.inl x5)), (some (.inl x6))] [] I = (if x6 < I 2 5 then (if x6 < 13 then (if 0 ≤ x6 ∧ x6 < 13 then ((cl d 25 [(.inr (some 2)), (.inl x6)] (up I 232 (x6).toNat 0)).bind fun p1 => (if p1.1 = 0 then (if 0 < x1 then ((cl d 12 [(.inr (some 1)), (.inl x6)] p1.2).bind fun p2 => (zD (d + 1) 19 35 [(some (.inr (some 1))), (some (.inl x1)), (some (.inr (some 232))), (some (.inl x3)), (some (.inl x4)), (some (.inl x5)), (some (.inl x6)), (some (.inl p2.1)), (some (.inl 0)), (some (.inl 0))] [] p2.2)) else (zD (d + 1) 19 6 [(some (.inr (some 1))), (some (.inl x1)), (some (.inr (some 232))), (some (.inl x3)), (some (.inl x4)), (some (.inl x5)), (some (.inl (wr (x6 + 1))))] [] p1.2)) else (zD (d + 1) 19 6 [(some (.inr (some 1))), (some (.inl x1)), (some (.inr (some 232))), (some (.inl x3)), (some (.inl x4)), (some (.inl x5)), (some (.inl (wr (x6 + 1))))] [] p1.2))) else none) else (if x3 = 0 then (some (x4, I)) else (some (x5, I)))) else (if x3 = 0 then (some (x4, I)) else (some (x5, I)))) := by
  rw [zE me_19 (by decide +kernel : kst 19 = [(6, 7), (35, 10)]) 89]
  rfl
set_option maxRecDepth 20000 in
theorem e_19_35 {d : Nat} {I : zI} {x1 x3 x4 x5 x6 x7 x8 x9 : Int} : zD (d + 1) 19 35 [(some (.inr (some 1))), (some (.inl x1)), (some (.inr (some 232))), (some (.inl x3)), (some (.inl x4)), (some (.inl x5)), (some (.inl x6)), (some (.inl x7)), (some (.inl x8)), (some (.inl x9))] [] I = (if x9 < x6 then (if (zand (zshr x7 x9) 1) = 1 then (if 0 ≤ x9 ∧ x9 < 13 then ((cl d 295 [(.inl x8), (.inl (I 232 (x9).toNat))] I).bind fun p4 => (zD (d + 1) 19 35 [(some (.inr (some 1))), (some (.inl x1)), (some (.inr (some 232))), (some (.inl x3)), (some (.inl x4)), (some (.inl x5)), (some (.inl x6)), (some (.inl x7)), (some (.inl p4.1)), (some (.inl (wr (x9 + 1))))] [] p4.2)) else none) else (zD (d + 1) 19 35 [(some (.inr (some 1))), (some (.inl x1)), (some (.inr (some 232))), (some (.inl x3)), (some (.inl x4)), (some (.inl x5)), (some (.inl x6)), (some (.inl x7)), (some (.inl x8)), (some (.inl (wr (x9 + 1))))] [] I)) else ((cl d 26 [(.inr (some 2)), (.inl x6)] I).bind fun p3 => (if x1 = 0 then none else (if 0 ≤ x6 ∧ x6 < 13 then (if 0 ≤ x6 ∧ x6 < 13 then (if x4 < (up p3.2 232 (x6).toNat (wr (x8 + (zdiv (wr ((wr (p3.1 + x1)) - 1)) x1)))) 232 (x6).toNat then (if 0 ≤ x6 ∧ x6 < 13 then (zD (d + 1) 19 6 [(some (.inr (some 1))), (some (.inl x1)), (some (.inr (some 232))), (some (.inl x3)), (some (.inl ((up p3.2 232 (x6).toNat (wr (x8 + (zdiv (wr ((wr (p3.1 + x1)) - 1)) x1)))) 232 (x6).toNat))), (some (.inl x6)), (some (.inl (wr (x6 + 1))))] [] (up p3.2 232 (x6).toNat (wr (x8 + (zdiv (wr ((wr (p3.1 + x1)) - 1)) x1))))) else none) else (zD (d + 1) 19 6 [(some (.inr (some 1))), (some (.inl x1)), (some (.inr (some 232))), (some (.inl x3)), (some (.inl x4)), (some (.inl x5)), (some (.inl (wr (x6 + 1))))] [] (up p3.2 232 (x6).toNat (wr (x8 + (zdiv (wr ((wr (p3.1 + x1)) - 1)) x1)))))) else none) else none)))) := by
  rw [zE me_19 (by decide +kernel : kst 19 = [(6, 7), (35, 10)]) 89]
  rfl
set_option maxRecDepth 20000 in
theorem e_39 {d : Nat} {I : zI} : cl (d + 1) 39 [(.inr (some 20)), (.inr (some 217))] I = ((cl d 86 [(.inr (some 21)), (.inr (some 218))] I).bind fun p1 => (some (0, (up (cp p1.2 223 26 0 0 400) 20 2 (p1.2 217 2))))) := by
  rw [cl_D (n := 2) (by decide +kernel) rfl, zE me_39 (by decide +kernel : kst 39 = []) 20]
  rfl
set_option maxRecDepth 20000 in
theorem e_40 {d : Nat} {I : zI} : cl (d + 1) 40 [(.inr (some 217))] I = (some (0, (up (up I 218 4 0) 217 2 0))) := by
  rw [cl_D (n := 1) (by decide +kernel) rfl, zE me_40 (by decide +kernel : kst 40 = []) 10]
  rfl
set_option maxRecDepth 20000 in
theorem e_41 {d : Nat} {I : zI} {x1 : Int} : cl (d + 1) 41 [(.inr (some 217)), (.inl x1)] I = (if I 217 2 < 0 then (some (0, I)) else (if I 217 2 < 400 then (if 0 ≤ I 217 2 ∧ I 217 2 < 400 then (some (0, (up (up I 223 (I 217 2).toNat x1) 217 2 (wr (I 217 2 + 1))))) else none) else (some (0, I)))) := by
  rw [cl_D (n := 2) (by decide +kernel) rfl, zE me_41 (by decide +kernel : kst 41 = []) 22]
  rfl
set_option maxRecDepth 20000 in
theorem e_42 {d : Nat} {I : zI} {x1 : Int} : cl (d + 1) 42 [(.inr (some 20)), (.inl x1)] I = (if (wr (x1 - 10000)) < 0 then (some (0, I)) else (if (wr (x1 - 10000)) < 11 then (if 0 ≤ (wr (x1 - 10000)) ∧ (wr (x1 - 10000)) < 11 then (some (I 27 ((wr (x1 - 10000))).toNat, I)) else none) else (some (0, I)))) := by
  rw [cl_D (n := 2) (by decide +kernel) rfl, zE me_42 (by decide +kernel : kst 42 = []) 18]
  rfl
set_option maxRecDepth 20000 in
theorem e_43 {d : Nat} {I : zI} {x1 x2 : Int} : cl (d + 1) 43 [(.inr (some 20)), (.inl x1), (.inl x2)] I = (if (wr (x1 - 10000)) < 0 then (some (0, I)) else (if (wr (x1 - 10000)) < 11 then (if 0 ≤ (wr (x1 - 10000)) ∧ (wr (x1 - 10000)) < 11 then (some (0, (up I 27 ((wr (x1 - 10000))).toNat x2))) else none) else (some (0, I)))) := by
  rw [cl_D (n := 3) (by decide +kernel) rfl, zE me_43 (by decide +kernel : kst 43 = []) 17]
  rfl
set_option maxRecDepth 20000 in
theorem e_44 {d : Nat} {I : zI} {x1 : Int} : cl (d + 1) 44 [(.inr (some 20)), (.inl x1)] I = (zD (d + 1) 44 2 [(some (.inr (some 20))), (some (.inl x1)), (some (.inl 0))] [] I) := by
  rw [cl_D (n := 2) (by decide +kernel) rfl, zE me_44 (by decide +kernel : kst 44 = [(2, 3)]) 73]
  rfl
set_option maxRecDepth 20000 in
theorem e_44_2 {d : Nat} {I : zI} {x1 x2 : Int} : zD (d + 1) 44 2 [(some (.inr (some 20))), (some (.inl x1)), (some (.inl x2))] [] I = (if x2 < I 21 4 then (if 0 ≤ x2 ∧ x2 < 16 then (if 0 ≤ x2 ∧ x2 < 16 then (if 0 ≤ x2 ∧ x2 < 16 then (if I 22 (x2).toNat = x1 then (if I 24 (x2).toNat = I 25 (x2).toNat then (if 0 ≤ x2 ∧ x2 < 16 then ((cl d 45 [(.inr (some 20)), (.inl (I 23 (x2).toNat)), (.inl (I 24 (x2).toNat))] I).bind fun p4 => (some (p4.1, p4.2))) else none) else ((cl d 45 [(.inr (some 20)), (.inl (I 24 (x2).toNat)), (.inl (I 25 (x2).toNat))] I).bind fun p5 => (if p5.1 = 0 then (zD (d + 1) 44 2 [(some (.inr (some 20))), (some (.inl x1)), (some (.inl (wr (x2 + 1))))] [] p5.2) else (if 0 ≤ x2 ∧ x2 < 16 then ((cl d 45 [(.inr (some 20)), (.inl (p5.2 23 (x2).toNat)), (.inl (I 24 (x2).toNat))] p5.2).bind fun p6 => (some (p6.1, p6.2))) else none)))) else (zD (d + 1) 44 2 [(some (.inr (some 20))), (some (.inl x1)), (some (.inl (wr (x2 + 1))))] [] I)) else none) else none) else none) else (if x1 = 10011 then ((cl d 42 [(.inr (some 20)), (.inl 10004)] I).bind fun p3 => (some ((wr (1 + p3.1)), p3.2))) else (if x1 = 10012 then ((cl d 42 [(.inr (some 20)), (.inl 10000)] I).bind fun p2 => (some ((wr (300 - (wr (30 * p2.1)))), p2.2))) else ((cl d 42 [(.inr (some 20)), (.inl 10003)] I).bind fun p1 => (some ((wr (20 * p1.1)), p1.2)))))) := by
  rw [zE me_44 (by decide +kernel : kst 44 = [(2, 3)]) 73]
  rfl
set_option maxRecDepth 20000 in
theorem e_45 {d : Nat} {I : zI} {x1 x2 : Int} : cl (d + 1) 45 [(.inr (some 20)), (.inl x1), (.inl x2)] I = ((cl d 295 [(.inl 0), (.inl x1)] I).bind fun p1 => (zD (d + 1) 45 6 [(some (.inr (some 20))), (some (.inl x1)), (some (.inl x2)), (some (.inl 0)), (some (.inl p1.1))] [] p1.2)) := by
  rw [cl_D (n := 3) (by decide +kernel) rfl, zE me_45 (by decide +kernel : kst 45 = [(6, 5)]) 95]
  rfl
set_option maxRecDepth 20000 in
theorem e_45_6 {d : Nat} {I : zI} {x2 x3 x4 : Int} {w1 : Option zV} : zD (d + 1) 45 6 [(some (.inr (some 20))), w1, (some (.inl x2)), (some (.inl x3)), (some (.inl x4))] [] I = (if x4 < x2 then (if x4 < 400 then (if 0 ≤ x4 ∧ x4 < 400 then (if I 26 (x4).toNat = 10017 then (if x3 < 1 then (zD (d + 1) 45 6 [(some (.inr (some 20))), w1, (some (.inl x2)), (some (.inl x3)), (some (.inl (wr (x4 + 1))))] [] I) else (if 0 ≤ (wr (x3 - 1)) ∧ (wr (x3 - 1)) < 64 then (if I 28 ((wr (x3 - 1))).toNat = 0 then (if 0 ≤ (wr (x3 - 1)) ∧ (wr (x3 - 1)) < 64 then (zD (d + 1) 45 6 [(some (.inr (some 20))), w1, (some (.inl x2)), (some (.inl x3)), (some (.inl (wr (x4 + 1))))] [] (up I 28 ((wr (x3 - 1))).toNat 1)) else none) else (if 0 ≤ (wr (x3 - 1)) ∧ (wr (x3 - 1)) < 64 then (zD (d + 1) 45 6 [(some (.inr (some 20))), w1, (some (.inl x2)), (some (.inl x3)), (some (.inl (wr (x4 + 1))))] [] (up I 28 ((wr (x3 - 1))).toNat 0)) else none)) else none)) else (if 10010 < I 26 (x4).toNat then (if x3 < 2 then (zD (d + 1) 45 6 [(some (.inr (some 20))), w1, (some (.inl x2)), (some (.inl x3)), (some (.inl (wr (x4 + 1))))] [] I) else (if 0 ≤ (wr ((wr (x3 + (-1))) - 1)) ∧ (wr ((wr (x3 + (-1))) - 1)) < 64 then (if 0 ≤ (wr (x3 + (-1))) ∧ (wr (x3 + (-1))) < 64 then ((cl d 46 [(.inl (I 26 (x4).toNat)), (.inl (I 28 ((wr ((wr (x3 + (-1))) - 1))).toNat)), (.inl (I 28 ((wr (x3 + (-1)))).toNat))] I).bind fun p3 => (if 0 ≤ (wr ((wr (x3 + (-1))) - 1)) ∧ (wr ((wr (x3 + (-1))) - 1)) < 64 then (zD (d + 1) 45 6 [(some (.inr (some 20))), w1, (some (.inl x2)), (some (.inl (wr (x3 + (-1))))), (some (.inl (wr (x4 + 1))))] [] (up p3.2 28 ((wr ((wr (x3 + (-1))) - 1))).toNat p3.1)) else none)) else none) else none)) else (if x3 < 64 then (if I 26 (x4).toNat < 10000 then (if 0 ≤ x3 ∧ x3 < 64 then (zD (d + 1) 45 6 [(some (.inr (some 20))), w1, (some (.inl x2)), (some (.inl (wr (x3 + 1)))), (some (.inl (wr (x4 + 1))))] [] (up I 28 (x3).toNat (I 26 (x4).toNat))) else none) else ((cl d 42 [(.inr (some 20)), (.inl (I 26 (x4).toNat))] I).bind fun p2 => (if 0 ≤ x3 ∧ x3 < 64 then (zD (d + 1) 45 6 [(some (.inr (some 20))), w1, (some (.inl x2)), (some (.inl (wr (x3 + 1)))), (some (.inl (wr (x4 + 1))))] [] (up p2.2 28 (x3).toNat p2.1)) else none))) else (zD (d + 1) 45 6 [(some (.inr (some 20))), w1, (some (.inl x2)), (some (.inl x3)), (some (.inl (wr (x4 + 1))))] [] I)))) else none) else (if 0 < x3 then (some (I 28 0, I)) else (some (0, I)))) else (if 0 < x3 then (some (I 28 0, I)) else (some (0, I)))) := by
  rw [zE me_45 (by decide +kernel : kst 45 = [(6, 5)]) 95]
  rfl
set_option maxRecDepth 20000 in
theorem e_46 {d : Nat} {I : zI} {x0 x1 x2 : Int} : cl (d + 1) 46 [(.inl x0), (.inl x1), (.inl x2)] I = (if x0 = 10015 then (some ((zor x1 x2), I)) else (if x0 = 10016 then (some ((zand x1 x2), I)) else (if x0 = 20042 then (some ((wr (x1 * x2)), I)) else (if x0 = 20043 then (some ((wr (x1 + x2)), I)) else (if x0 = 20045 then (some ((wr (x1 - x2)), I)) else (if x0 = 20047 then (if x2 = 0 then (some (0, I)) else (if x2 = 0 then none else (some ((zdiv x1 x2), I)))) else (if x0 = 20060 then (if x1 < x2 then (some (1, I)) else (some (0, I))) else (if x0 = 20061 then (if x1 = x2 then (some (1, I)) else (some (0, I))) else (if x0 = 20062 then (if x2 < x1 then (some (1, I)) else (some (0, I))) else (some (0, I))))))))))) := by
  rw [cl_D (n := 3) (by decide +kernel) rfl, zE me_46 (by decide +kernel : kst 46 = []) 55]
  rfl
set_option maxRecDepth 20000 in
theorem e_50 {d : Nat} {I : zI} : cl (d + 1) 50 [(.inr (some 119))] I = (some (0, (up I 119 3 0))) := by
  rw [cl_D (n := 1) (by decide +kernel) rfl, zE me_50 (by decide +kernel : kst 50 = []) 6]
  rfl
set_option maxRecDepth 20000 in
theorem e_52 {d : Nat} {I : zI} {x1 : Int} : cl (d + 1) 52 [(.inr (some 213)), (.inl x1)] I = (zD (d + 1) 52 2 [(some (.inr (some 213))), (some (.inl x1)), (some (.inl 24))] [] I) := by
  rw [cl_D (n := 2) (by decide +kernel) rfl, zE me_52 (by decide +kernel : kst 52 = [(2, 3)]) 32]
  rfl
set_option maxRecDepth 20000 in
theorem e_52_2 {d : Nat} {I : zI} {x1 x2 : Int} : zD (d + 1) 52 2 [(some (.inr (some 213))), (some (.inl x1)), (some (.inl x2))] [] I = (if x2 < 0 then (some (0, I)) else (if I 213 1 < 0 then (zD (d + 1) 52 2 [(some (.inr (some 213))), (some (.inl x1)), (some (.inl (wr (x2 + (-8)))))] [] I) else (if I 213 1 < 400 then (if 0 ≤ I 213 1 ∧ I 213 1 < 400 then (zD (d + 1) 52 2 [(some (.inr (some 213))), (some (.inl x1)), (some (.inl (wr (x2 + (-8)))))] [] (up (up I 214 (I 213 1).toNat (zand (zushr x1 x2) 255)) 213 1 (wr (I 213 1 + 1)))) else none) else (zD (d + 1) 52 2 [(some (.inr (some 213))), (some (.inl x1)), (some (.inl (wr (x2 + (-8)))))] [] I)))) := by
  rw [zE me_52 (by decide +kernel : kst 52 = [(2, 3)]) 32]
  rfl
set_option maxRecDepth 20000 in
theorem e_53 {d : Nat} {I : zI} {x1 : Int} : cl (d + 1) 53 [(.inr (some 213)), (.inl x1), (.inr (some 2))] I = ((cl d 156 [(.inl x1), (.inl 0), (.inl 3)] (up (up I 213 7 0) 213 8 (-1))).bind fun p1 => (if p1.1 = 0 then (some (0, p1.2)) else ((cl d 55 [(.inr (some 213))] p1.2).bind fun p2 => ((cl d 40 [(.inr (some 217))] (up p2.2 213 5 0)).bind fun p3 => (zD (d + 1) 53 27 [(some (.inr (some 213))), (some (.inl x1)), (some (.inr (some 2))), (some (.inl 0))] [] (up p3.2 226 4 0)))))) := by
  rw [cl_D (n := 3) (by decide +kernel) rfl, zE me_53 (by decide +kernel : kst 53 = [(27, 4)]) 84]
  rfl
set_option maxRecDepth 20000 in
theorem e_53_27 {d : Nat} {I : zI} {x1 x3 : Int} : zD (d + 1) 53 27 [(some (.inr (some 213))), (some (.inl x1)), (some (.inr (some 2))), (some (.inl x3))] [] I = (if 16 < x3 then (some (0, I)) else ((cl d 63 [(.inr (some 213))] I).bind fun p4 => (if p4.1 = (-2) then (some (1, p4.2)) else ((cl d 54 [(.inr (some 213)), (.inl x1)] p4.2).bind fun p5 => (if p5.1 = 0 then ((cl d 64 [(.inr (some 213)), (.inl 1)] p5.2).bind fun p11 => (if p11.1 = 0 ∨ p11.1 = 1 then some (p11.1, p11.2) else none)) else (if x3 = 16 then ((cl d 64 [(.inr (some 213)), (.inl 3)] p5.2).bind fun p10 => (if p10.1 = 0 ∨ p10.1 = 1 then some (p10.1, p10.2) else none)) else (if x1 = 0 then ((cl d 71 [(.inr (some 213))] p5.2).bind fun p9 => (if p9.1 = 0 then (some (0, p9.2)) else (zD (d + 1) 53 27 [(some (.inr (some 213))), (some (.inl x1)), (some (.inr (some 2))), (some (.inl (wr (x3 + 1))))] [] p9.2))) else (if x1 = 1 then ((cl d 67 [(.inr (some 213)), (.inr (some 2))] p5.2).bind fun p8 => (if p8.1 = 0 then (some (0, p8.2)) else (zD (d + 1) 53 27 [(some (.inr (some 213))), (some (.inl x1)), (some (.inr (some 2))), (some (.inl (wr (x3 + 1))))] [] p8.2))) else (if x1 = 2 then ((cl d 69 [(.inr (some 213))] p5.2).bind fun p7 => (if p7.1 = 0 then (some (0, p7.2)) else (zD (d + 1) 53 27 [(some (.inr (some 213))), (some (.inl x1)), (some (.inr (some 2))), (some (.inl (wr (x3 + 1))))] [] p7.2))) else ((cl d 70 [(.inr (some 213)), (.inr (some 2))] p5.2).bind fun p6 => (if p6.1 = 0 then (some (0, p6.2)) else (zD (d + 1) 53 27 [(some (.inr (some 213))), (some (.inl x1)), (some (.inr (some 2))), (some (.inl (wr (x3 + 1))))] [] p6.2)))))))))))) := by
  rw [zE me_53 (by decide +kernel : kst 53 = [(27, 4)]) 84]
  rfl
set_option maxRecDepth 20000 in
theorem e_54 {d : Nat} {I : zI} {x1 : Int} : cl (d + 1) 54 [(.inr (some 213)), (.inl x1)] I = ((cl d 63 [(.inr (some 213))] I).bind fun p1 => (if x1 = 0 then (if p1.1 = 10011 then (some (1, p1.2)) else (if p1.1 = 10012 then (some (1, p1.2)) else (if p1.1 = 10013 then (some (1, p1.2)) else (some (0, p1.2))))) else (if x1 = 1 then (if p1.1 = 10018 then (some (1, p1.2)) else (some (0, p1.2))) else (if x1 = 2 then (if p1.1 = 10008 then (some (1, p1.2)) else (some (0, p1.2))) else (if p1.1 = 10009 then (some (1, p1.2)) else (some (0, p1.2))))))) := by
  rw [cl_D (n := 2) (by decide +kernel) rfl, zE me_54 (by decide +kernel : kst 54 = []) 41]
  rfl
set_option maxRecDepth 20000 in
theorem e_55 {d : Nat} {I : zI} : cl (d + 1) 55 [(.inr (some 213))] I = (zD (d + 1) 55 5 [(some (.inr (some 213))), (some (.inl 0))] [] (up I 213 4 0)) := by
  rw [cl_D (n := 1) (by decide +kernel) rfl, zE me_55 (by decide +kernel : kst 55 = [(5, 2)]) 57]
  rfl
set_option maxRecDepth 20000 in
theorem e_55_5 {d : Nat} {I : zI} {x1 : Int} : zD (d + 1) 55 5 [(some (.inr (some 213))), (some (.inl x1))] [] I = (if x1 < I 213 1 then (if x1 < 400 then (if I 213 4 < 400 then (if 0 ≤ x1 ∧ x1 < 400 then (if I 214 (x1).toNat = 32 then (zD (d + 1) 55 5 [(some (.inr (some 213))), (some (.inl (wr (x1 + 1))))] [] I) else (if 0 ≤ x1 ∧ x1 < 400 then (if I 214 (x1).toNat = 10 then (zD (d + 1) 55 5 [(some (.inr (some 213))), (some (.inl (wr (x1 + 1))))] [] I) else ((cl d 56 [(.inr (some 213)), (.inl x1)] I).bind fun p1 => (if p1.1 = 0 then (if 0 ≤ p1.2 213 4 ∧ p1.2 213 4 < 400 then ((cl d 57 [(.inr (some 213)), (.inl x1)] (up p1.2 216 (p1.2 213 4).toNat x1)).bind fun p2 => (if 0 ≤ p1.2 213 4 ∧ p1.2 213 4 < 400 then (zD (d + 1) 55 5 [(some (.inr (some 213))), (some (.inl (wr (x1 + 1))))] [] (up (up p2.2 215 (p1.2 213 4).toNat p2.1) 213 4 (wr (p2.2 213 4 + 1)))) else none)) else none) else (zD (d + 1) 55 5 [(some (.inr (some 213))), (some (.inl (wr (x1 + 1))))] [] p1.2)))) else none)) else none) else (some (0, I))) else (some (0, I))) else (some (0, I))) := by
  rw [zE me_55 (by decide +kernel : kst 55 = [(5, 2)]) 57]
  rfl
set_option maxRecDepth 20000 in
theorem e_56 {d : Nat} {I : zI} {x1 : Int} : cl (d + 1) 56 [(.inr (some 213)), (.inl x1)] I = (if 0 < x1 then (if 0 ≤ x1 ∧ x1 < 400 then ((cl d 61 [(.inl (I 214 (x1).toNat))] I).bind fun p1 => (if p1.1 = 0 then (zD (d + 1) 56 16 [(some (.inr (some 213))), (some (.inl x1))] [] p1.2) else (if 0 ≤ (wr (x1 - 1)) ∧ (wr (x1 - 1)) < 400 then ((cl d 61 [(.inl (p1.2 214 ((wr (x1 - 1))).toNat))] p1.2).bind fun p2 => (if p2.1 = 0 then (zD (d + 1) 56 16 [(some (.inr (some 213))), (some (.inl x1))] [] p2.2) else (some (1, p2.2)))) else none))) else none) else (some (0, I))) := by
  rw [cl_D (n := 2) (by decide +kernel) rfl, zE me_56 (by decide +kernel : kst 56 = [(16, 2)]) 36]
  rfl
set_option maxRecDepth 20000 in
theorem e_56_16 {d : Nat} {I : zI} {x1 : Int} : zD (d + 1) 56 16 [(some (.inr (some 213))), (some (.inl x1))] [] I = (if 0 ≤ x1 ∧ x1 < 400 then ((cl d 62 [(.inl (I 214 (x1).toNat))] I).bind fun p3 => (if p3.1 = 0 then (some (0, p3.2)) else (if 0 ≤ (wr (x1 - 1)) ∧ (wr (x1 - 1)) < 400 then ((cl d 62 [(.inl (p3.2 214 ((wr (x1 - 1))).toNat))] p3.2).bind fun p4 => (if p4.1 = 0 then (some (0, p4.2)) else (some (1, p4.2)))) else none))) else none) := by
  rw [zE me_56 (by decide +kernel : kst 56 = [(16, 2)]) 36]
  rfl
set_option maxRecDepth 20000 in
theorem e_57 {d : Nat} {I : zI} {x1 : Int} : cl (d + 1) 57 [(.inr (some 213)), (.inl x1)] I = (if 0 ≤ x1 ∧ x1 < 400 then ((cl d 61 [(.inl (I 214 (x1).toNat))] I).bind fun p1 => (if p1.1 = 0 then (if 0 ≤ x1 ∧ x1 < 400 then ((cl d 62 [(.inl (p1.2 214 (x1).toNat))] p1.2).bind fun p2 => (if p2.1 = 0 then (if 0 ≤ x1 ∧ x1 < 400 then (some ((wr (20000 + p2.2 214 (x1).toNat)), p2.2)) else none) else ((cl d 58 [(.inr (some 213)), (.inl x1)] p2.2).bind fun p3 => (some (p3.1, p3.2))))) else none) else ((cl d 59 [(.inr (some 213)), (.inl x1)] p1.2).bind fun p4 => (some (p4.1, p4.2))))) else none) := by
  rw [cl_D (n := 2) (by decide +kernel) rfl, zE me_57 (by decide +kernel : kst 57 = []) 29]
  rfl
set_option maxRecDepth 20000 in
theorem e_58 {d : Nat} {I : zI} {x1 : Int} : cl (d + 1) 58 [(.inr (some 213)), (.inl x1)] I = (zD (d + 1) 58 4 [(some (.inr (some 213))), (some (.inl x1)), (some (.inl 0)), (some (.inl x1))] [] I) := by
  rw [cl_D (n := 2) (by decide +kernel) rfl, zE me_58 (by decide +kernel : kst 58 = [(4, 4)]) 41]
  rfl
set_option maxRecDepth 20000 in
theorem e_58_4 {d : Nat} {I : zI} {x1 x2 x3 : Int} : zD (d + 1) 58 4 [(some (.inr (some 213))), (some (.inl x1)), (some (.inl x2)), (some (.inl x3))] [] I = (if x3 < I 213 1 then (if x3 < 400 then (if 0 ≤ x3 ∧ x3 < 400 then ((cl d 62 [(.inl (I 214 (x3).toNat))] I).bind fun p1 => (if p1.1 = 0 then (some (x2, p1.2)) else (if (wr (x3 - x1)) < 4 then (if 0 ≤ x3 ∧ x3 < 400 then (zD (d + 1) 58 4 [(some (.inr (some 213))), (some (.inl x1)), (some (.inl (wr ((wr ((wr (x2 * 10)) + p1.2 214 (x3).toNat)) - 48)))), (some (.inl (wr (x3 + 1))))] [] p1.2) else none) else (some ((-1), p1.2))))) else none) else (some (x2, I))) else (some (x2, I))) := by
  rw [zE me_58 (by decide +kernel : kst 58 = [(4, 4)]) 41]
  rfl
set_option maxRecDepth 20000 in
theorem e_59 {d : Nat} {I : zI} {x1 : Int} : cl (d + 1) 59 [(.inr (some 213)), (.inl x1)] I = (zD (d + 1) 59 2 [(some (.inr (some 213))), (some (.inl x1)), (some (.inl 1))] [] I) := by
  rw [cl_D (n := 2) (by decide +kernel) rfl, zE me_59 (by decide +kernel : kst 59 = [(2, 3), (27, 6), (40, 6)]) 66]
  rfl
set_option maxRecDepth 20000 in
theorem e_59_2 {d : Nat} {I : zI} {x1 x2 : Int} : zD (d + 1) 59 2 [(some (.inr (some 213))), (some (.inl x1)), (some (.inl x2))] [] I = (if x2 < 400 then (if (wr (x1 + x2)) < I 213 1 then (if 0 ≤ (wr (x1 + x2)) ∧ (wr (x1 + x2)) < 400 then ((cl d 61 [(.inl (I 214 ((wr (x1 + x2))).toNat))] I).bind fun p1 => (if p1.1 = 0 then (zD (d + 1) 59 27 [(some (.inr (some 213))), (some (.inl x1)), (some (.inl x2)), (some (.inl 0)), (some (.inl 0)), (some (.inl 0))] [] p1.2) else (zD (d + 1) 59 2 [(some (.inr (some 213))), (some (.inl x1)), (some (.inl (wr (x2 + 1))))] [] p1.2))) else none) else (zD (d + 1) 59 27 [(some (.inr (some 213))), (some (.inl x1)), (some (.inl x2)), (some (.inl 0)), (some (.inl 0)), (some (.inl 0))] [] I)) else (zD (d + 1) 59 27 [(some (.inr (some 213))), (some (.inl x1)), (some (.inl x2)), (some (.inl 0)), (some (.inl 0)), (some (.inl 0))] [] I)) := by
  rw [zE me_59 (by decide +kernel : kst 59 = [(2, 3), (27, 6), (40, 6)]) 66]
  rfl
set_option maxRecDepth 20000 in
theorem e_59_27 {d : Nat} {I : zI} {x1 x2 x3 x4 x5 : Int} : zD (d + 1) 59 27 [(some (.inr (some 213))), (some (.inl x1)), (some (.inl x2)), (some (.inl x3)), (some (.inl x4)), (some (.inl x5))] [] I = ((cl d 297 [(.inr (some 1000002))] I).bind fun p2 => (if p2.1 < x5 then (some ((-1), p2.2)) else ((cl d 297 [(.inr (some 1000002))] p2.2).bind fun p3 => (if x5 = p3.1 then (zD (d + 1) 59 40 [(some (.inr (some 213))), (some (.inl x1)), (some (.inl x2)), (some (.inl x3)), (some (.inl x4)), (some (.inl x5))] [] p3.2) else ((cl d 298 [(.inr (some 1000002)), (.inl x5)] p3.2).bind fun p4 => (if p4.1 = 32 then (zD (d + 1) 59 40 [(some (.inr (some 213))), (some (.inl x1)), (some (.inl x2)), (some (.inl x3)), (some (.inl x4)), (some (.inl x5))] [] p4.2) else (zD (d + 1) 59 27 [(some (.inr (some 213))), (some (.inl x1)), (some (.inl x2)), (some (.inl x3)), (some (.inl x4)), (some (.inl (wr (x5 + 1))))] [] p4.2))))))) := by
  rw [zE me_59 (by decide +kernel : kst 59 = [(2, 3), (27, 6), (40, 6)]) 66]
  rfl
set_option maxRecDepth 20000 in
theorem e_59_40 {d : Nat} {I : zI} {x1 x2 x3 x4 x5 : Int} : zD (d + 1) 59 40 [(some (.inr (some 213))), (some (.inl x1)), (some (.inl x2)), (some (.inl x3)), (some (.inl x4)), (some (.inl x5))] [] I = (if (wr (x5 - x4)) = x2 then ((cl d 60 [(.inr (some 213)), (.inl x1), (.inl x4), (.inl x2)] I).bind fun p5 => (if p5.1 = 0 then (zD (d + 1) 59 27 [(some (.inr (some 213))), (some (.inl x1)), (some (.inl x2)), (some (.inl (wr (x3 + 1)))), (some (.inl (wr (x5 + 1)))), (some (.inl (wr (x5 + 1))))] [] p5.2) else (some ((wr (10000 + x3)), p5.2)))) else (zD (d + 1) 59 27 [(some (.inr (some 213))), (some (.inl x1)), (some (.inl x2)), (some (.inl (wr (x3 + 1)))), (some (.inl (wr (x5 + 1)))), (some (.inl (wr (x5 + 1))))] [] I)) := by
  rw [zE me_59 (by decide +kernel : kst 59 = [(2, 3), (27, 6), (40, 6)]) 66]
  rfl
set_option maxRecDepth 20000 in
theorem e_60 {d : Nat} {I : zI} {x1 x2 x3 : Int} : cl (d + 1) 60 [(.inr (some 213)), (.inl x1), (.inl x2), (.inl x3)] I = (zD (d + 1) 60 2 [(some (.inr (some 213))), (some (.inl x1)), (some (.inl x2)), (some (.inl x3)), (some (.inl 0))] [] I) := by
  rw [cl_D (n := 4) (by decide +kernel) rfl, zE me_60 (by decide +kernel : kst 60 = [(2, 5)]) 37]
  rfl
set_option maxRecDepth 20000 in
theorem e_60_2 {d : Nat} {I : zI} {x1 x2 x3 x4 : Int} : zD (d + 1) 60 2 [(some (.inr (some 213))), (some (.inl x1)), (some (.inl x2)), (some (.inl x3)), (some (.inl x4))] [] I = (if x4 < x3 then (if (wr (x1 + x4)) < I 213 1 then ((cl d 297 [(.inr (some 1000002))] I).bind fun p1 => (if (wr (x2 + x4)) < p1.1 then (if 0 ≤ (wr (x1 + x4)) ∧ (wr (x1 + x4)) < 400 then ((cl d 298 [(.inr (some 1000002)), (.inl (wr (x2 + x4)))] p1.2).bind fun p2 => (if p1.2 214 ((wr (x1 + x4))).toNat = p2.1 then (zD (d + 1) 60 2 [(some (.inr (some 213))), (some (.inl x1)), (some (.inl x2)), (some (.inl x3)), (some (.inl (wr (x4 + 1))))] [] p2.2) else (some (0, p2.2)))) else none) else (some (0, p1.2)))) else (some (0, I))) else (some (1, I))) := by
  rw [zE me_60 (by decide +kernel : kst 60 = [(2, 5)]) 37]
  rfl
set_option maxRecDepth 20000 in
theorem e_61 {d : Nat} {I : zI} {x0 : Int} : cl (d + 1) 61 [(.inl x0)] I = (if x0 < 97 then (if x0 < 65 then (some (0, I)) else (if 90 < x0 then (some (0, I)) else (some (1, I)))) else (if 122 < x0 then (if x0 < 65 then (some (0, I)) else (if 90 < x0 then (some (0, I)) else (some (1, I)))) else (some (1, I)))) := by
  rw [cl_D (n := 1) (by decide +kernel) rfl, zE me_61 (by decide +kernel : kst 61 = []) 18]
  rfl
set_option maxRecDepth 20000 in
theorem e_62 {d : Nat} {I : zI} {x0 : Int} : cl (d + 1) 62 [(.inl x0)] I = (if x0 < 48 then (some (0, I)) else (if 57 < x0 then (some (0, I)) else (some (1, I)))) := by
  rw [cl_D (n := 1) (by decide +kernel) rfl, zE me_62 (by decide +kernel : kst 62 = []) 12]
  rfl
set_option maxRecDepth 20000 in
theorem e_63 {d : Nat} {I : zI} : cl (d + 1) 63 [(.inr (some 213))] I = (if I 213 5 < 0 then (some ((-2), I)) else (if I 213 5 < I 213 4 then (if I 213 5 < 400 then (if 0 ≤ I 213 5 ∧ I 213 5 < 400 then (some (I 215 (I 213 5).toNat, I)) else none) else (some ((-2), I))) else (some ((-2), I)))) := by
  rw [cl_D (n := 1) (by decide +kernel) rfl, zE me_63 (by decide +kernel : kst 63 = []) 22]
  rfl
set_option maxRecDepth 20000 in
theorem e_64 {d : Nat} {I : zI} {x1 : Int} : cl (d + 1) 64 [(.inr (some 213)), (.inl x1)] I = (if I 213 5 < 0 then (some (0, (up (up I 213 7 x1) 213 8 (I 213 1)))) else (if I 213 5 < I 213 4 then (if I 213 5 < 400 then (if 0 ≤ I 213 5 ∧ I 213 5 < 400 then (some (0, (up (up I 213 7 x1) 213 8 (I 216 (I 213 5).toNat)))) else none) else (some (0, (up (up I 213 7 x1) 213 8 (I 213 1))))) else (some (0, (up (up I 213 7 x1) 213 8 (I 213 1)))))) := by
  rw [cl_D (n := 2) (by decide +kernel) rfl, zE me_64 (by decide +kernel : kst 64 = []) 29]
  rfl
set_option maxRecDepth 20000 in
theorem e_65 {d : Nat} {I : zI} {x1 : Int} : cl (d + 1) 65 [(.inr (some 213)), (.inl x1)] I = ((cl d 63 [(.inr (some 213))] I).bind fun p1 => (if p1.1 = x1 then (some (1, (up p1.2 213 5 (wr (p1.2 213 5 + 1))))) else ((cl d 64 [(.inr (some 213)), (.inl 1)] p1.2).bind fun p2 => (if p2.1 = 0 ∨ p2.1 = 1 then some (p2.1, p2.2) else none)))) := by
  rw [cl_D (n := 2) (by decide +kernel) rfl, zE me_65 (by decide +kernel : kst 65 = []) 18]
  rfl
set_option maxRecDepth 20000 in
theorem e_66 {d : Nat} {I : zI} {x1 : Int} : cl (d + 1) 66 [(.inr (some 213)), (.inl x1)] I = ((cl d 63 [(.inr (some 213))] I).bind fun p1 => (if p1.1 < 0 then ((cl d 64 [(.inr (some 213)), (.inl 1)] p1.2).bind fun p2 => (if p2.1 = 0 ∨ p2.1 = 1 then some (p2.1, p2.2) else none)) else (if p1.1 < 10000 then (if p1.1 < x1 then (some (1, (up (up p1.2 213 6 p1.1) 213 5 (wr (p1.2 213 5 + 1))))) else ((cl d 64 [(.inr (some 213)), (.inl 2)] p1.2).bind fun p3 => (if p3.1 = 0 ∨ p3.1 = 1 then some (p3.1, p3.2) else none))) else ((cl d 64 [(.inr (some 213)), (.inl 1)] p1.2).bind fun p4 => (if p4.1 = 0 ∨ p4.1 = 1 then some (p4.1, p4.2) else none))))) := by
  rw [cl_D (n := 2) (by decide +kernel) rfl, zE me_66 (by decide +kernel : kst 66 = []) 32]
  rfl
set_option maxRecDepth 20000 in
theorem e_67 {d : Nat} {I : zI} : cl (d + 1) 67 [(.inr (some 213)), (.inr (some 2))] I = ((cl d 65 [(.inr (some 213)), (.inl 10018)] I).bind fun p1 => (if p1.1 = 0 then (some (0, p1.2)) else ((cl d 66 [(.inr (some 213)), (.inl 1000)] p1.2).bind fun p2 => (if p2.1 = 0 then (some (0, p2.2)) else ((cl d 65 [(.inr (some 213)), (.inl 10019)] p2.2).bind fun p3 => (if p3.1 = 0 then (some (0, p3.2)) else ((cl d 66 [(.inr (some 213)), (.inl (p3.2 2 4))] p3.2).bind fun p4 => (if p4.1 = 0 then (some (0, p4.2)) else ((cl d 63 [(.inr (some 213))] p4.2).bind fun p5 => (if p5.1 < 10020 then ((cl d 64 [(.inr (some 213)), (.inl 1)] p5.2).bind fun p6 => (if p6.1 = 0 ∨ p6.1 = 1 then some (p6.1, p6.2) else none)) else (if 10025 < p5.1 then ((cl d 64 [(.inr (some 213)), (.inl 1)] p5.2).bind fun p10 => (if p10.1 = 0 ∨ p10.1 = 1 then some (p10.1, p10.2) else none)) else (if p5.1 = 10020 then (zD (d + 1) 67 54 [(some (.inr (some 213))), (some (.inr (some 2))), (some (.inl (p2.2 213 6))), (some (.inl (p4.2 213 6))), (some (.inl p5.1))] [] (up p5.2 213 5 (wr (p5.2 213 5 + 1)))) else (if p5.1 = 10022 then (zD (d + 1) 67 54 [(some (.inr (some 213))), (some (.inr (some 2))), (some (.inl (p2.2 213 6))), (some (.inl (p4.2 213 6))), (some (.inl p5.1))] [] (up p5.2 213 5 (wr (p5.2 213 5 + 1)))) else ((cl d 68 [(.inl p5.1)] (up p5.2 213 5 (wr (p5.2 213 5 + 1)))).bind fun p7 => ((cl d 85 [(.inr (some 226)), (.inl (p2.2 213 6)), (.inl (p4.2 213 6)), (.inl p7.1), (.inl (-1))] p7.2).bind fun p8 => ((cl d 65 [(.inr (some 213)), (.inl 20059)] p8.2).bind fun p9 => (if p9.1 = 0 ∨ p9.1 = 1 then some (p9.1, p9.2) else none))))))))))))))))) := by
  rw [cl_D (n := 2) (by decide +kernel) rfl, zE me_67 (by decide +kernel : kst 67 = [(54, 5)]) 84]
  rfl
set_option maxRecDepth 20000 in
theorem e_67_54 {d : Nat} {I : zI} {x2 x3 x4 : Int} : zD (d + 1) 67 54 [(some (.inr (some 213))), (some (.inr (some 2))), (some (.inl x2)), (some (.inl x3)), (some (.inl x4))] [] I = (if x4 = 10020 then ((cl d 66 [(.inr (some 213)), (.inl (I 2 3))] I).bind fun p15 => (if p15.1 = 0 then (some (0, p15.2)) else ((cl d 68 [(.inl x4)] p15.2).bind fun p16 => ((cl d 85 [(.inr (some 226)), (.inl x2), (.inl x3), (.inl p16.1), (.inl (p15.2 213 6))] p16.2).bind fun p17 => ((cl d 65 [(.inr (some 213)), (.inl 20059)] p17.2).bind fun p18 => (if p18.1 = 0 ∨ p18.1 = 1 then some (p18.1, p18.2) else none)))))) else ((cl d 66 [(.inr (some 213)), (.inl (I 2 5))] I).bind fun p11 => (if p11.1 = 0 then (some (0, p11.2)) else ((cl d 68 [(.inl x4)] p11.2).bind fun p12 => ((cl d 85 [(.inr (some 226)), (.inl x2), (.inl x3), (.inl p12.1), (.inl (p11.2 213 6))] p12.2).bind fun p13 => ((cl d 65 [(.inr (some 213)), (.inl 20059)] p13.2).bind fun p14 => (if p14.1 = 0 ∨ p14.1 = 1 then some (p14.1, p14.2) else none))))))) := by
  rw [zE me_67 (by decide +kernel : kst 67 = [(54, 5)]) 84]
  rfl
set_option maxRecDepth 20000 in
theorem e_68 {d : Nat} {I : zI} {x0 : Int} : cl (d + 1) 68 [(.inl x0)] I = (if x0 = 10020 then (some (0, I)) else (if x0 = 10021 then (some (1, I)) else (if x0 = 10022 then (some (2, I)) else (if x0 = 10023 then (some (2, I)) else (if x0 = 10024 then (some (3, I)) else (if x0 = 10025 then (some (4, I)) else (some ((-1), I)))))))) := by
  rw [cl_D (n := 1) (by decide +kernel) rfl, zE me_68 (by decide +kernel : kst 68 = []) 18]
  rfl
set_option maxRecDepth 20000 in
theorem e_69 {d : Nat} {I : zI} : cl (d + 1) 69 [(.inr (some 213))] I = ((cl d 65 [(.inr (some 213)), (.inl 10008)] I).bind fun p1 => (if p1.1 = 0 then (some (0, p1.2)) else ((cl d 66 [(.inr (some 213)), (.inl 8)] p1.2).bind fun p2 => (if p2.1 = 0 then (some (0, p2.2)) else ((cl d 65 [(.inr (some 213)), (.inl 10003)] p2.2).bind fun p3 => (if p3.1 = 0 then (some (0, p3.2)) else ((cl d 66 [(.inr (some 213)), (.inl 10)] p3.2).bind fun p4 => (if p4.1 = 0 then (some (0, p4.2)) else ((cl d 65 [(.inr (some 213)), (.inl 10004)] p4.2).bind fun p5 => (if p5.1 = 0 then (some (0, p5.2)) else ((cl d 66 [(.inr (some 213)), (.inl 10)] p5.2).bind fun p6 => (if p6.1 = 0 then (some (0, p6.2)) else ((cl d 85 [(.inr (some 226)), (.inl (p2.2 213 6)), (.inl (p4.2 213 6)), (.inl (p6.2 213 6)), (.inl 0)] p6.2).bind fun p7 => ((cl d 65 [(.inr (some 213)), (.inl 20059)] p7.2).bind fun p8 => (if p8.1 = 0 ∨ p8.1 = 1 then some (p8.1, p8.2) else none))))))))))))))) := by
  rw [cl_D (n := 1) (by decide +kernel) rfl, zE me_69 (by decide +kernel : kst 69 = []) 50]
  rfl
set_option maxRecDepth 20000 in
theorem e_70 {d : Nat} {I : zI} : cl (d + 1) 70 [(.inr (some 213)), (.inr (some 2))] I = ((cl d 65 [(.inr (some 213)), (.inl 10009)] I).bind fun p1 => (if p1.1 = 0 then (some (0, p1.2)) else ((cl d 66 [(.inr (some 213)), (.inl (p1.2 2 5))] p1.2).bind fun p2 => (if p2.1 = 0 then (some (0, p2.2)) else ((cl d 65 [(.inr (some 213)), (.inl 10026)] p2.2).bind fun p3 => (if p3.1 = 0 then (some (0, p3.2)) else ((cl d 66 [(.inr (some 213)), (.inl (p2.2 213 6))] p3.2).bind fun p4 => (if p4.1 = 0 then (some (0, p4.2)) else ((cl d 85 [(.inr (some 226)), (.inl (p2.2 213 6)), (.inl (p4.2 213 6)), (.inl 0), (.inl 0)] p4.2).bind fun p5 => ((cl d 65 [(.inr (some 213)), (.inl 20059)] p5.2).bind fun p6 => (if p6.1 = 0 ∨ p6.1 = 1 then some (p6.1, p6.2) else none))))))))))) := by
  rw [cl_D (n := 2) (by decide +kernel) rfl, zE me_70 (by decide +kernel : kst 70 = []) 38]
  rfl
set_option maxRecDepth 20000 in
theorem e_71 {d : Nat} {I : zI} : cl (d + 1) 71 [(.inr (some 213))] I = ((cl d 63 [(.inr (some 213))] I).bind fun p1 => ((cl d 72 [(.inr (some 213))] (up p1.2 213 5 (wr (p1.2 213 5 + 1)))).bind fun p2 => (if p2.1 = 0 then (some (0, p2.2)) else ((cl d 63 [(.inr (some 213))] p2.2).bind fun p3 => (if p3.1 = 10014 then ((cl d 75 [(.inr (some 213)), (.inl 0)] (up p3.2 213 5 (wr (p3.2 213 5 + 1)))).bind fun p4 => (if p4.1 = 0 then (some (0, p4.2)) else (zD (d + 1) 71 38 [(some (.inr (some 213))), (some (.inl p1.1)), (some (.inl (p1.2 217 2))), (some (.inl (p2.2 217 2)))] [] p4.2))) else (zD (d + 1) 71 38 [(some (.inr (some 213))), (some (.inl p1.1)), (some (.inl (p1.2 217 2))), (some (.inl (p2.2 217 2)))] [] p3.2)))))) := by
  rw [cl_D (n := 1) (by decide +kernel) rfl, zE me_71 (by decide +kernel : kst 71 = [(38, 4)]) 54]
  rfl
set_option maxRecDepth 20000 in
theorem e_71_38 {d : Nat} {I : zI} {x1 x2 x3 : Int} : zD (d + 1) 71 38 [(some (.inr (some 213))), (some (.inl x1)), (some (.inl x2)), (some (.inl x3))] [] I = ((cl d 85 [(.inr (some 218)), (.inl x1), (.inl x2), (.inl x3), (.inl (I 217 2))] I).bind fun p5 => ((cl d 65 [(.inr (some 213)), (.inl 20059)] p5.2).bind fun p6 => (if p6.1 = 0 ∨ p6.1 = 1 then some (p6.1, p6.2) else none))) := by
  rw [zE me_71 (by decide +kernel : kst 71 = [(38, 4)]) 54]
  rfl
set_option maxRecDepth 20000 in
theorem e_72 {d : Nat} {I : zI} : cl (d + 1) 72 [(.inr (some 213))] I = ((cl d 73 [(.inr (some 213))] I).bind fun p1 => (if p1.1 = 0 then (some (0, p1.2)) else (zD (d + 1) 72 13 [(some (.inr (some 213))), (some (.inl (-1))), (some (.inl (wr (p1.2 213 4 - p1.2 213 5))))] [] p1.2))) := by
  rw [cl_D (n := 1) (by decide +kernel) rfl, zE me_72 (by decide +kernel : kst 72 = [(13, 3), (31, 4), (52, 4), (64, 4)]) 87]
  rfl
set_option maxRecDepth 20000 in
theorem e_72_13 {d : Nat} {I : zI} {x1 x2 : Int} : zD (d + 1) 72 13 [(some (.inr (some 213))), (some (.inl x1)), (some (.inl x2))] [] I = (if 0 < x2 then ((cl d 63 [(.inr (some 213))] I).bind fun p3 => (if p3.1 = 20043 then (zD (d + 1) 72 31 [(some (.inr (some 213))), (some (.inl x1)), (some (.inl x2)), (some (.inl p3.1))] [] p3.2) else (if p3.1 = 20045 then (zD (d + 1) 72 31 [(some (.inr (some 213))), (some (.inl x1)), (some (.inl x2)), (some (.inl p3.1))] [] p3.2) else (if p3.1 = 20042 then (zD (d + 1) 72 31 [(some (.inr (some 213))), (some (.inl x1)), (some (.inl x2)), (some (.inl p3.1))] [] p3.2) else (if p3.1 = 20047 then (zD (d + 1) 72 31 [(some (.inr (some 213))), (some (.inl x1)), (some (.inl x2)), (some (.inl p3.1))] [] p3.2) else (if x1 = (-1) then (some (1, p3.2)) else ((cl d 41 [(.inr (some 217)), (.inl x1)] p3.2).bind fun p4 => (some (1, p4.2))))))))) else (if x1 = (-1) then (some (1, I)) else ((cl d 41 [(.inr (some 217)), (.inl x1)] I).bind fun p2 => (some (1, p2.2))))) := by
  rw [zE me_72 (by decide +kernel : kst 72 = [(13, 3), (31, 4), (52, 4), (64, 4)]) 87]
  rfl
set_option maxRecDepth 20000 in
theorem e_72_31 {d : Nat} {I : zI} {x1 x2 x3 : Int} : zD (d + 1) 72 31 [(some (.inr (some 213))), (some (.inl x1)), (some (.inl x2)), (some (.inl x3))] [] I = (if x3 = 20043 then (if x1 = (-1) then (zD (d + 1) 72 52 [(some (.inr (some 213))), (some (.inl x3)), (some (.inl x2)), (some (.inl x3))] [] (up I 213 5 (wr (I 213 5 + 1)))) else ((cl d 41 [(.inr (some 217)), (.inl x1)] (up I 213 5 (wr (I 213 5 + 1)))).bind fun p5 => (zD (d + 1) 72 52 [(some (.inr (some 213))), (some (.inl x3)), (some (.inl x2)), (some (.inl x3))] [] p5.2))) else (if x3 = 20045 then (if x1 = (-1) then (zD (d + 1) 72 52 [(some (.inr (some 213))), (some (.inl x3)), (some (.inl x2)), (some (.inl x3))] [] (up I 213 5 (wr (I 213 5 + 1)))) else ((cl d 41 [(.inr (some 217)), (.inl x1)] (up I 213 5 (wr (I 213 5 + 1)))).bind fun p6 => (zD (d + 1) 72 52 [(some (.inr (some 213))), (some (.inl x3)), (some (.inl x2)), (some (.inl x3))] [] p6.2))) else (zD (d + 1) 72 52 [(some (.inr (some 213))), (some (.inl x1)), (some (.inl x2)), (some (.inl x3))] [] (up I 213 5 (wr (I 213 5 + 1)))))) := by
  rw [zE me_72 (by decide +kernel : kst 72 = [(13, 3), (31, 4), (52, 4), (64, 4)]) 87]
  rfl
set_option maxRecDepth 20000 in
theorem e_72_52 {d : Nat} {I : zI} {x1 x2 x3 : Int} : zD (d + 1) 72 52 [(some (.inr (some 213))), (some (.inl x1)), (some (.inl x2)), (some (.inl x3))] [] I = (if x3 = 20047 then ((cl d 74 [(.inr (some 213))] I).bind fun p8 => (if p8.1 = 0 then (some (0, p8.2)) else (zD (d + 1) 72 64 [(some (.inr (some 213))), (some (.inl x1)), (some (.inl x2)), (some (.inl x3))] [] p8.2))) else ((cl d 73 [(.inr (some 213))] I).bind fun p7 => (if p7.1 = 0 then (some (0, p7.2)) else (zD (d + 1) 72 64 [(some (.inr (some 213))), (some (.inl x1)), (some (.inl x2)), (some (.inl x3))] [] p7.2)))) := by
  rw [zE me_72 (by decide +kernel : kst 72 = [(13, 3), (31, 4), (52, 4), (64, 4)]) 87]
  rfl
set_option maxRecDepth 20000 in
theorem e_72_64 {d : Nat} {I : zI} {x1 x2 x3 : Int} : zD (d + 1) 72 64 [(some (.inr (some 213))), (some (.inl x1)), (some (.inl x2)), (some (.inl x3))] [] I = (if x3 = 20042 then ((cl d 41 [(.inr (some 217)), (.inl x3)] I).bind fun p9 => (zD (d + 1) 72 13 [(some (.inr (some 213))), (some (.inl x1)), (some (.inl (wr (x2 + (-1)))))] [] p9.2)) else (if x3 = 20047 then ((cl d 41 [(.inr (some 217)), (.inl x3)] I).bind fun p10 => (zD (d + 1) 72 13 [(some (.inr (some 213))), (some (.inl x1)), (some (.inl (wr (x2 + (-1)))))] [] p10.2)) else (zD (d + 1) 72 13 [(some (.inr (some 213))), (some (.inl x1)), (some (.inl (wr (x2 + (-1)))))] [] I))) := by
  rw [zE me_72 (by decide +kernel : kst 72 = [(13, 3), (31, 4), (52, 4), (64, 4)]) 87]
  rfl
set_option maxRecDepth 20000 in
theorem e_73 {d : Nat} {I : zI} : cl (d + 1) 73 [(.inr (some 213))] I = ((cl d 63 [(.inr (some 213))] I).bind fun p1 => (if p1.1 < 0 then ((cl d 64 [(.inr (some 213)), (.inl 1)] p1.2).bind fun p2 => (if p2.1 = 0 ∨ p2.1 = 1 then some (p2.1, p2.2) else none)) else (if 10010 < p1.1 then ((cl d 64 [(.inr (some 213)), (.inl 1)] p1.2).bind fun p4 => (if p4.1 = 0 ∨ p4.1 = 1 then some (p4.1, p4.2) else none)) else ((cl d 41 [(.inr (some 217)), (.inl p1.1)] p1.2).bind fun p3 => (some (1, (up p3.2 213 5 (wr (p3.2 213 5 + 1))))))))) := by
  rw [cl_D (n := 1) (by decide +kernel) rfl, zE me_73 (by decide +kernel : kst 73 = []) 26]
  rfl
set_option maxRecDepth 20000 in
theorem e_74 {d : Nat} {I : zI} : cl (d + 1) 74 [(.inr (some 213))] I = ((cl d 63 [(.inr (some 213))] I).bind fun p1 => (if p1.1 < 0 then ((cl d 64 [(.inr (some 213)), (.inl 1)] p1.2).bind fun p2 => (if p2.1 = 0 ∨ p2.1 = 1 then some (p2.1, p2.2) else none)) else (if p1.1 < 10000 then (if p1.1 = 0 then ((cl d 64 [(.inr (some 213)), (.inl 2)] p1.2).bind fun p4 => (if p4.1 = 0 ∨ p4.1 = 1 then some (p4.1, p4.2) else none)) else ((cl d 41 [(.inr (some 217)), (.inl p1.1)] p1.2).bind fun p3 => (some (1, (up p3.2 213 5 (wr (p3.2 213 5 + 1))))))) else ((cl d 64 [(.inr (some 213)), (.inl 1)] p1.2).bind fun p5 => (if p5.1 = 0 ∨ p5.1 = 1 then some (p5.1, p5.2) else none))))) := by
  rw [cl_D (n := 1) (by decide +kernel) rfl, zE me_74 (by decide +kernel : kst 74 = []) 32]
  rfl
set_option maxRecDepth 20000 in
theorem e_75 {d : Nat} {I : zI} {x1 : Int} : cl (d + 1) 75 [(.inr (some 213)), (.inl x1)] I = ((cl d 76 [(.inr (some 213)), (.inl x1)] I).bind fun p1 => (if p1.1 = 0 then (some (0, p1.2)) else (zD (d + 1) 75 14 [(some (.inr (some 213))), (some (.inl x1)), (some (.inl 0)), (some (.inl (wr (p1.2 213 4 - p1.2 213 5))))] [] p1.2))) := by
  rw [cl_D (n := 2) (by decide +kernel) rfl, zE me_75 (by decide +kernel : kst 75 = [(14, 4), (26, 5), (43, 5)]) 68]
  rfl
set_option maxRecDepth 20000 in
theorem e_75_14 {d : Nat} {I : zI} {x1 x2 x3 : Int} : zD (d + 1) 75 14 [(some (.inr (some 213))), (some (.inl x1)), (some (.inl x2)), (some (.inl x3))] [] I = (if 0 < x3 then ((cl d 63 [(.inr (some 213))] I).bind fun p3 => (if p3.1 = 10016 then (zD (d + 1) 75 26 [(some (.inr (some 213))), (some (.inl x1)), (some (.inl x2)), (some (.inl x3)), (some (.inl p3.1))] [] p3.2) else (if p3.1 = 10015 then (zD (d + 1) 75 26 [(some (.inr (some 213))), (some (.inl x1)), (some (.inl x2)), (some (.inl x3)), (some (.inl p3.1))] [] p3.2) else (if x2 = 0 then (some (1, p3.2)) else ((cl d 41 [(.inr (some 217)), (.inl 10015)] p3.2).bind fun p4 => (some (1, p4.2))))))) else (if x2 = 0 then (some (1, I)) else ((cl d 41 [(.inr (some 217)), (.inl 10015)] I).bind fun p2 => (some (1, p2.2))))) := by
  rw [zE me_75 (by decide +kernel : kst 75 = [(14, 4), (26, 5), (43, 5)]) 68]
  rfl
set_option maxRecDepth 20000 in
theorem e_75_26 {d : Nat} {I : zI} {x1 x2 x3 x4 : Int} : zD (d + 1) 75 26 [(some (.inr (some 213))), (some (.inl x1)), (some (.inl x2)), (some (.inl x3)), (some (.inl x4))] [] I = (if x4 = 10015 then (if x2 = 0 then (zD (d + 1) 75 43 [(some (.inr (some 213))), (some (.inl x1)), (some (.inl 1)), (some (.inl x3)), (some (.inl x4))] [] (up I 213 5 (wr (I 213 5 + 1)))) else ((cl d 41 [(.inr (some 217)), (.inl 10015)] (up I 213 5 (wr (I 213 5 + 1)))).bind fun p5 => (zD (d + 1) 75 43 [(some (.inr (some 213))), (some (.inl x1)), (some (.inl 1)), (some (.inl x3)), (some (.inl x4))] [] p5.2))) else (zD (d + 1) 75 43 [(some (.inr (some 213))), (some (.inl x1)), (some (.inl x2)), (some (.inl x3)), (some (.inl x4))] [] (up I 213 5 (wr (I 213 5 + 1))))) := by
  rw [zE me_75 (by decide +kernel : kst 75 = [(14, 4), (26, 5), (43, 5)]) 68]
  rfl
set_option maxRecDepth 20000 in
theorem e_75_43 {d : Nat} {I : zI} {x1 x2 x3 x4 : Int} : zD (d + 1) 75 43 [(some (.inr (some 213))), (some (.inl x1)), (some (.inl x2)), (some (.inl x3)), (some (.inl x4))] [] I = ((cl d 76 [(.inr (some 213)), (.inl x1)] I).bind fun p6 => (if p6.1 = 0 then (some (0, p6.2)) else (if x4 = 10016 then ((cl d 41 [(.inr (some 217)), (.inl 10016)] p6.2).bind fun p7 => (zD (d + 1) 75 14 [(some (.inr (some 213))), (some (.inl x1)), (some (.inl x2)), (some (.inl (wr (x3 + (-1)))))] [] p7.2)) else (zD (d + 1) 75 14 [(some (.inr (some 213))), (some (.inl x1)), (some (.inl x2)), (some (.inl (wr (x3 + (-1)))))] [] p6.2)))) := by
  rw [zE me_75 (by decide +kernel : kst 75 = [(14, 4), (26, 5), (43, 5)]) 68]
  rfl
set_option maxRecDepth 20000 in
theorem e_76 {d : Nat} {I : zI} {x1 : Int} : cl (d + 1) 76 [(.inr (some 213)), (.inl x1)] I = ((cl d 63 [(.inr (some 213))] I).bind fun p1 => (if p1.1 = 10017 then (zD (d + 1) 76 9 [(some (.inr (some 213))), (some (.inl x1)), (some (.inl p1.1))] [] p1.2) else (if p1.1 = 20040 then (zD (d + 1) 76 9 [(some (.inr (some 213))), (some (.inl x1)), (some (.inl p1.1))] [] p1.2) else ((cl d 72 [(.inr (some 213))] p1.2).bind fun p2 => (if p2.1 = 0 then (some (0, p2.2)) else ((cl d 63 [(.inr (some 213))] p2.2).bind fun p3 => (if p3.1 = 20060 then (zD (d + 1) 76 74 [(some (.inr (some 213))), (some (.inl x1)), (some (.inl p1.1)), (some (.inl p3.1))] [] p3.2) else (if p3.1 = 20061 then (zD (d + 1) 76 74 [(some (.inr (some 213))), (some (.inl x1)), (some (.inl p1.1)), (some (.inl p3.1))] [] p3.2) else (if p3.1 = 20062 then (zD (d + 1) 76 74 [(some (.inr (some 213))), (some (.inl x1)), (some (.inl p1.1)), (some (.inl p3.1))] [] p3.2) else ((cl d 64 [(.inr (some 213)), (.inl 1)] p3.2).bind fun p4 => (if p4.1 = 0 ∨ p4.1 = 1 then some (p4.1, p4.2) else none))))))))))) := by
  rw [cl_D (n := 2) (by decide +kernel) rfl, zE me_76 (by decide +kernel : kst 76 = [(9, 3), (74, 4)]) 93]
  rfl
set_option maxRecDepth 20000 in
theorem e_76_9 {d : Nat} {I : zI} {x1 x2 : Int} : zD (d + 1) 76 9 [(some (.inr (some 213))), (some (.inl x1)), (some (.inl x2))] [] I = (if x1 < 8 then (if x2 = 20040 then ((cl d 75 [(.inr (some 213)), (.inl (wr (x1 + 1)))] (up I 213 5 (wr (I 213 5 + 1)))).bind fun p7 => (if p7.1 = 0 then (some (0, p7.2)) else ((cl d 65 [(.inr (some 213)), (.inl 20041)] p7.2).bind fun p8 => (if p8.1 = 0 then (some (0, p8.2)) else (some (1, p8.2)))))) else ((cl d 76 [(.inr (some 213)), (.inl (wr (x1 + 1)))] (up I 213 5 (wr (I 213 5 + 1)))).bind fun p5 => (if p5.1 = 0 then (some (0, p5.2)) else ((cl d 41 [(.inr (some 217)), (.inl 10017)] p5.2).bind fun p6 => (some (1, p6.2)))))) else ((cl d 64 [(.inr (some 213)), (.inl 3)] I).bind fun p9 => (if p9.1 = 0 ∨ p9.1 = 1 then some (p9.1, p9.2) else none))) := by
  rw [zE me_76 (by decide +kernel : kst 76 = [(9, 3), (74, 4)]) 93]
  rfl
set_option maxRecDepth 20000 in
theorem e_76_74 {d : Nat} {I : zI} {x3 : Int} {w1 w2 : Option zV} : zD (d + 1) 76 74 [(some (.inr (some 213))), w1, w2, (some (.inl x3))] [] I = ((cl d 72 [(.inr (some 213))] (up I 213 5 (wr (I 213 5 + 1)))).bind fun p10 => (if p10.1 = 0 then (some (0, p10.2)) else ((cl d 41 [(.inr (some 217)), (.inl x3)] p10.2).bind fun p11 => (some (1, p11.2))))) := by
  rw [zE me_76 (by decide +kernel : kst 76 = [(9, 3), (74, 4)]) 93]
  rfl
set_option maxRecDepth 20000 in
theorem e_88 {d : Nat} {I : zI} {x1 x2 : Int} : cl (d + 1) 88 [(.inr (some 231)), (.inl x1), (.inl x2)] I = (if 0 < x1 then (if 12 < x1 then (if x1 = 0 then (some (1, I)) else (some (0, I))) else (zD (d + 1) 88 18 [(some (.inr (some 231))), (some (.inl x1)), (some (.inl x2)), (some (.inl 2))] [] (up I 232 0 1))) else (if x1 = 0 then (some (1, I)) else (some (0, I)))) := by
  rw [cl_D (n := 3) (by decide +kernel) rfl, zE me_88 (by decide +kernel : kst 88 = [(18, 4), (23, 5), (33, 6), (79, 5)]) 95]
  rfl
set_option maxRecDepth 20000 in
theorem e_88_18 {d : Nat} {I : zI} {x1 x2 x3 : Int} : zD (d + 1) 88 18 [(some (.inr (some 231))), (some (.inl x1)), (some (.inl x2)), (some (.inl x3))] [] I = (if x1 < x3 then (if x2 < 0 then (zD (d + 1) 88 79 [(some (.inr (some 231))), (some (.inl x1)), (some (.inl x2)), (some (.inl 0)), (some (.inl 0))] [] I) else (if x2 < x1 then (if 0 ≤ x2 ∧ x2 < 13 then (some (I 232 (x2).toNat, I)) else none) else (zD (d + 1) 88 79 [(some (.inr (some 231))), (some (.inl x1)), (some (.inl x2)), (some (.inl 0)), (some (.inl 0))] [] I))) else (zD (d + 1) 88 23 [(some (.inr (some 231))), (some (.inl x1)), (some (.inl x2)), (some (.inl x3)), (some (.inl 0))] [] I)) := by
  rw [zE me_88 (by decide +kernel : kst 88 = [(18, 4), (23, 5), (33, 6), (79, 5)]) 95]
  rfl
set_option maxRecDepth 20000 in
theorem e_88_79 {d : Nat} {I : zI} {x1 x3 x4 : Int} {w2 : Option zV} : zD (d + 1) 88 79 [(some (.inr (some 231))), (some (.inl x1)), w2, (some (.inl x3)), (some (.inl x4))] [] I = (if x4 < x1 then (if 0 ≤ x4 ∧ x4 < 13 then (zD (d + 1) 88 79 [(some (.inr (some 231))), (some (.inl x1)), w2, (some (.inl (wr (x3 + I 232 (x4).toNat)))), (some (.inl (wr (x4 + 1))))] [] I) else none) else (some (x3, I))) := by
  rw [zE me_88 (by decide +kernel : kst 88 = [(18, 4), (23, 5), (33, 6), (79, 5)]) 95]
  rfl
set_option maxRecDepth 20000 in
theorem e_88_23 {d : Nat} {I : zI} {x1 x2 x3 x4 : Int} : zD (d + 1) 88 23 [(some (.inr (some 231))), (some (.inl x1)), (some (.inl x2)), (some (.inl x3)), (some (.inl x4))] [] I = (if x4 < x3 then (if 0 ≤ x4 ∧ x4 < 13 then (zD (d + 1) 88 33 [(some (.inr (some 231))), (some (.inl x1)), (some (.inl x2)), (some (.inl x3)), (some (.inl x4)), (some (.inl 0))] [] (up I 233 (x4).toNat 0)) else none) else (if (0 : Int) ≤ 0 ∧ (0 : Int) ≤ 0 ∧ (0 : Int) ≤ x3 ∧ 0 + x3 ≤ 13 ∧ 0 + x3 ≤ 13 then (zD (d + 1) 88 18 [(some (.inr (some 231))), (some (.inl x1)), (some (.inl x2)), (some (.inl (wr (x3 + 1))))] [] (cp I 233 232 0 0 (x3).toNat)) else none)) := by
  rw [zE me_88 (by decide +kernel : kst 88 = [(18, 4), (23, 5), (33, 6), (79, 5)]) 95]
  rfl
set_option maxRecDepth 20000 in
theorem e_88_33 {d : Nat} {I : zI} {x1 x2 x3 x4 x5 : Int} : zD (d + 1) 88 33 [(some (.inr (some 231))), (some (.inl x1)), (some (.inl x2)), (some (.inl x3)), (some (.inl x4)), (some (.inl x5))] [] I = (if (wr ((wr (x3 - 2)) - x4)) < x5 then (zD (d + 1) 88 23 [(some (.inr (some 231))), (some (.inl x1)), (some (.inl x2)), (some (.inl x3)), (some (.inl (wr (x4 + 1))))] [] I) else (if 0 ≤ x4 ∧ x4 < 13 then (if 0 ≤ x5 ∧ x5 < 13 then (if 0 ≤ x4 ∧ x4 < 13 then (zD (d + 1) 88 33 [(some (.inr (some 231))), (some (.inl x1)), (some (.inl x2)), (some (.inl x3)), (some (.inl x4)), (some (.inl (wr (x5 + 1))))] [] (up I 233 (x4).toNat (wr (I 233 (x4).toNat + I 232 (x5).toNat)))) else none) else none) else none)) := by
  rw [zE me_88 (by decide +kernel : kst 88 = [(18, 4), (23, 5), (33, 6), (79, 5)]) 95]
  rfl
set_option maxRecDepth 20000 in
theorem e_89 {d : Nat} {I : zI} {x2 x3 : Int} : cl (d + 1) 89 [(.inr (some 231)), (.inr (some 44)), (.inl x2), (.inl x3)] I = (if 0 < I 44 2 then (if 12 < I 44 2 then (some (0, I)) else (if 0 ≤ I 44 2 ∧ I 44 2 < 13 then (if 0 ≤ I 44 2 ∧ I 44 2 < 13 then (zD (d + 1) 89 28 [(some (.inr (some 231))), (some (.inr (some 44))), (some (.inl x2)), (some (.inl x3)), (some (.inl (I 44 2))), (some (.inr (some 232))), (some (.inr (some 233))), (some (.inl (wr (I 44 2 - 1))))] [] (up (up I 232 (I 44 2).toNat 0) 233 (I 44 2).toNat 0)) else none) else none)) else (some (0, I))) := by
  rw [cl_D (n := 4) (by decide +kernel) rfl, zE me_89 (by decide +kernel : kst 89 = [(28, 8), (42, 10)]) 126]
  rfl
set_option maxRecDepth 20000 in
theorem e_89_28 {d : Nat} {I : zI} {x2 x3 x4 x7 : Int} {w0 : Option zV} : zD (d + 1) 89 28 [w0, (some (.inr (some 44))), (some (.inl x2)), (some (.inl x3)), (some (.inl x4)), (some (.inr (some 232))), (some (.inr (some 233))), (some (.inl x7))] [] I = (if x7 < 0 then (if x3 = 0 then (some (I 232 0, I)) else (some (I 233 0, I))) else (if 0 ≤ x7 ∧ x7 < 13 then (if 0 ≤ x7 ∧ x7 < 13 then (zD (d + 1) 89 42 [w0, (some (.inr (some 44))), (some (.inl x2)), (some (.inl x3)), (some (.inl x4)), (some (.inr (some 232))), (some (.inr (some 233))), (some (.inl x7)), (some (.inl (-1))), (some (.inl x7))] [] (up (up I 232 (x7).toNat 1000000) 233 (x7).toNat 0)) else none) else none)) := by
  rw [zE me_89 (by decide +kernel : kst 89 = [(28, 8), (42, 10)]) 126]
  rfl
set_option maxRecDepth 20000 in
theorem e_89_42 {d : Nat} {I : zI} {x2 x3 x4 x7 x8 x9 : Int} {w0 : Option zV} : zD (d + 1) 89 42 [w0, (some (.inr (some 44))), (some (.inl x2)), (some (.inl x3)), (some (.inl x4)), (some (.inr (some 232))), (some (.inr (some 233))), (some (.inl x7)), (some (.inl x8)), (some (.inl x9))] [] I = (if x9 < x4 then (if 0 ≤ x9 ∧ x9 < 12 then (if x2 < (wr (x8 + (wr (1 + I 45 (x9).toNat)))) then (zD (d + 1) 89 28 [w0, (some (.inr (some 44))), (some (.inl x2)), (some (.inl x3)), (some (.inl x4)), (some (.inr (some 232))), (some (.inr (some 233))), (some (.inl (wr (x7 + (-1)))))] [] I) else (if 0 ≤ (wr (x9 + 1)) ∧ (wr (x9 + 1)) < 13 then (if x9 = (wr (x4 - 1)) then (if 0 ≤ (wr (x9 + 1)) ∧ (wr (x9 + 1)) < 13 then (if 0 ≤ x7 ∧ x7 < 13 then (if (wr (I 232 ((wr (x9 + 1))).toNat + 0)) < I 232 (x7).toNat then (if 0 ≤ x7 ∧ x7 < 13 then (if 0 ≤ x7 ∧ x7 < 13 then (zD (d + 1) 89 42 [w0, (some (.inr (some 44))), (some (.inl x2)), (some (.inl x3)), (some (.inl x4)), (some (.inr (some 232))), (some (.inr (some 233))), (some (.inl x7)), (some (.inl (wr (x8 + (wr (1 + I 45 (x9).toNat)))))), (some (.inl (wr (x9 + 1))))] [] (up (up I 232 (x7).toNat (wr (I 232 ((wr (x9 + 1))).toNat + 0))) 233 (x7).toNat (wr (1 + I 233 ((wr (x9 + 1))).toNat)))) else none) else none) else (if 0 ≤ x7 ∧ x7 < 13 then (if (wr (I 232 ((wr (x9 + 1))).toNat + 0)) = I 232 (x7).toNat then (if 0 ≤ x7 ∧ x7 < 13 then (if (wr (1 + I 233 ((wr (x9 + 1))).toNat)) < I 233 (x7).toNat then (if 0 ≤ x7 ∧ x7 < 13 then (if 0 ≤ x7 ∧ x7 < 13 then (zD (d + 1) 89 42 [w0, (some (.inr (some 44))), (some (.inl x2)), (some (.inl x3)), (some (.inl x4)), (some (.inr (some 232))), (some (.inr (some 233))), (some (.inl x7)), (some (.inl (wr (x8 + (wr (1 + I 45 (x9).toNat)))))), (some (.inl (wr (x9 + 1))))] [] (up (up I 232 (x7).toNat (wr (I 232 ((wr (x9 + 1))).toNat + 0))) 233 (x7).toNat (wr (1 + I 233 ((wr (x9 + 1))).toNat)))) else none) else none) else (zD (d + 1) 89 42 [w0, (some (.inr (some 44))), (some (.inl x2)), (some (.inl x3)), (some (.inl x4)), (some (.inr (some 232))), (some (.inr (some 233))), (some (.inl x7)), (some (.inl (wr (x8 + (wr (1 + I 45 (x9).toNat)))))), (some (.inl (wr (x9 + 1))))] [] I)) else none) else (zD (d + 1) 89 42 [w0, (some (.inr (some 44))), (some (.inl x2)), (some (.inl x3)), (some (.inl x4)), (some (.inr (some 232))), (some (.inr (some 233))), (some (.inl x7)), (some (.inl (wr (x8 + (wr (1 + I 45 (x9).toNat)))))), (some (.inl (wr (x9 + 1))))] [] I)) else none)) else none) else none) else (if 0 ≤ (wr (x9 + 1)) ∧ (wr (x9 + 1)) < 13 then (if 0 ≤ x7 ∧ x7 < 13 then (if (wr (I 232 ((wr (x9 + 1))).toNat + (wr ((wr (x2 - (wr (x8 + (wr (1 + I 45 (x9).toNat)))))) * (wr (x2 - (wr (x8 + (wr (1 + I 45 (x9).toNat)))))))))) < I 232 (x7).toNat then (if 0 ≤ x7 ∧ x7 < 13 then (if 0 ≤ x7 ∧ x7 < 13 then (zD (d + 1) 89 42 [w0, (some (.inr (some 44))), (some (.inl x2)), (some (.inl x3)), (some (.inl x4)), (some (.inr (some 232))), (some (.inr (some 233))), (some (.inl x7)), (some (.inl (wr (x8 + (wr (1 + I 45 (x9).toNat)))))), (some (.inl (wr (x9 + 1))))] [] (up (up I 232 (x7).toNat (wr (I 232 ((wr (x9 + 1))).toNat + (wr ((wr (x2 - (wr (x8 + (wr (1 + I 45 (x9).toNat)))))) * (wr (x2 - (wr (x8 + (wr (1 + I 45 (x9).toNat))))))))))) 233 (x7).toNat (wr (1 + I 233 ((wr (x9 + 1))).toNat)))) else none) else none) else (if 0 ≤ x7 ∧ x7 < 13 then (if (wr (I 232 ((wr (x9 + 1))).toNat + (wr ((wr (x2 - (wr (x8 + (wr (1 + I 45 (x9).toNat)))))) * (wr (x2 - (wr (x8 + (wr (1 + I 45 (x9).toNat)))))))))) = I 232 (x7).toNat then (if 0 ≤ x7 ∧ x7 < 13 then (if (wr (1 + I 233 ((wr (x9 + 1))).toNat)) < I 233 (x7).toNat then (if 0 ≤ x7 ∧ x7 < 13 then (if 0 ≤ x7 ∧ x7 < 13 then (zD (d + 1) 89 42 [w0, (some (.inr (some 44))), (some (.inl x2)), (some (.inl x3)), (some (.inl x4)), (some (.inr (some 232))), (some (.inr (some 233))), (some (.inl x7)), (some (.inl (wr (x8 + (wr (1 + I 45 (x9).toNat)))))), (some (.inl (wr (x9 + 1))))] [] (up (up I 232 (x7).toNat (wr (I 232 ((wr (x9 + 1))).toNat + (wr ((wr (x2 - (wr (x8 + (wr (1 + I 45 (x9).toNat)))))) * (wr (x2 - (wr (x8 + (wr (1 + I 45 (x9).toNat))))))))))) 233 (x7).toNat (wr (1 + I 233 ((wr (x9 + 1))).toNat)))) else none) else none) else (zD (d + 1) 89 42 [w0, (some (.inr (some 44))), (some (.inl x2)), (some (.inl x3)), (some (.inl x4)), (some (.inr (some 232))), (some (.inr (some 233))), (some (.inl x7)), (some (.inl (wr (x8 + (wr (1 + I 45 (x9).toNat)))))), (some (.inl (wr (x9 + 1))))] [] I)) else none) else (zD (d + 1) 89 42 [w0, (some (.inr (some 44))), (some (.inl x2)), (some (.inl x3)), (some (.inl x4)), (some (.inr (some 232))), (some (.inr (some 233))), (some (.inl x7)), (some (.inl (wr (x8 + (wr (1 + I 45 (x9).toNat)))))), (some (.inl (wr (x9 + 1))))] [] I)) else none)) else none) else none)) else none)) else none) else (zD (d + 1) 89 28 [w0, (some (.inr (some 44))), (some (.inl x2)), (some (.inl x3)), (some (.inl x4)), (some (.inr (some 232))), (some (.inr (some 233))), (some (.inl (wr (x7 + (-1)))))] [] I)) := by
  rw [zE me_89 (by decide +kernel : kst 89 = [(28, 8), (42, 10)]) 126]
  rfl
set_option maxRecDepth 20000 in
theorem e_90 {d : Nat} {I : zI} {x2 : Int} : cl (d + 1) 90 [(.inr (some 231)), (.inr (some 46)), (.inl x2)] I = (zD (d + 1) 90 11 [(some (.inr (some 231))), (some (.inr (some 46))), (some (.inl x2)), (some (.inl 0)), (some (.inl 0)), (some (.inl 1))] [] (up I 235 0 1)) := by
  rw [cl_D (n := 3) (by decide +kernel) rfl, zE me_90 (by decide +kernel : kst 90 = [(11, 6), (21, 7), (69, 7)]) 91]
  rfl
set_option maxRecDepth 20000 in
theorem e_90_11 {d : Nat} {I : zI} {x2 x3 x4 x5 : Int} : zD (d + 1) 90 11 [(some (.inr (some 231))), (some (.inr (some 46))), (some (.inl x2)), (some (.inl x3)), (some (.inl x4)), (some (.inl x5))] [] I = (if 1000 < x5 then (if x2 = 1 then (some (x3, I)) else (zD (d + 1) 90 69 [(some (.inr (some 231))), (some (.inr (some 46))), (some (.inl x2)), (some (.inl x3)), (some (.inl x4)), (some (.inl 0)), (some (.inl 0))] [] I)) else (if 0 ≤ x5 ∧ x5 < 1001 then (zD (d + 1) 90 21 [(some (.inr (some 231))), (some (.inr (some 46))), (some (.inl x2)), (some (.inl x3)), (some (.inl x4)), (some (.inl x5)), (some (.inl 0))] [] (up I 235 (x5).toNat 0)) else none)) := by
  rw [zE me_90 (by decide +kernel : kst 90 = [(11, 6), (21, 7), (69, 7)]) 91]
  rfl
set_option maxRecDepth 20000 in
theorem e_90_69 {d : Nat} {I : zI} {x4 x5 x6 : Int} {w0 w2 w3 : Option zV} : zD (d + 1) 90 69 [w0, (some (.inr (some 46))), w2, w3, (some (.inl x4)), (some (.inl x5)), (some (.inl x6))] [] I = (if x6 < I 46 2 then (if 0 ≤ x6 ∧ x6 < 12 then ((cl d 91 [(.inl x5), (.inl (I 47 (x6).toNat))] I).bind fun p1 => (zD (d + 1) 90 69 [w0, (some (.inr (some 46))), w2, w3, (some (.inl x4)), (some (.inl p1.1)), (some (.inl (wr (x6 + 1))))] [] p1.2)) else none) else (if x5 = 1 then (some (x4, I)) else (some ((-1), I)))) := by
  rw [zE me_90 (by decide +kernel : kst 90 = [(11, 6), (21, 7), (69, 7)]) 91]
  rfl
set_option maxRecDepth 20000 in
theorem e_90_21 {d : Nat} {I : zI} {x2 x3 x4 x5 x6 : Int} : zD (d + 1) 90 21 [(some (.inr (some 231))), (some (.inr (some 46))), (some (.inl x2)), (some (.inl x3)), (some (.inl x4)), (some (.inl x5)), (some (.inl x6))] [] I = (if x6 < I 46 2 then (if 0 ≤ x6 ∧ x6 < 12 then (if 0 < I 47 (x6).toNat then (if x5 < I 47 (x6).toNat then (zD (d + 1) 90 21 [(some (.inr (some 231))), (some (.inr (some 46))), (some (.inl x2)), (some (.inl x3)), (some (.inl x4)), (some (.inl x5)), (some (.inl (wr (x6 + 1))))] [] I) else (if 0 ≤ (wr (x5 - I 47 (x6).toNat)) ∧ (wr (x5 - I 47 (x6).toNat)) < 1001 then (if I 235 ((wr (x5 - I 47 (x6).toNat))).toNat = 1 then (if 0 ≤ x5 ∧ x5 < 1001 then (zD (d + 1) 90 21 [(some (.inr (some 231))), (some (.inr (some 46))), (some (.inl x2)), (some (.inl x3)), (some (.inl x4)), (some (.inl x5)), (some (.inl (wr (x6 + 1))))] [] (up I 235 (x5).toNat 1)) else none) else (zD (d + 1) 90 21 [(some (.inr (some 231))), (some (.inr (some 46))), (some (.inl x2)), (some (.inl x3)), (some (.inl x4)), (some (.inl x5)), (some (.inl (wr (x6 + 1))))] [] I)) else none)) else (zD (d + 1) 90 21 [(some (.inr (some 231))), (some (.inr (some 46))), (some (.inl x2)), (some (.inl x3)), (some (.inl x4)), (some (.inl x5)), (some (.inl (wr (x6 + 1))))] [] I)) else none) else (if 0 ≤ x5 ∧ x5 < 1001 then (if I 235 (x5).toNat = 0 then (zD (d + 1) 90 11 [(some (.inr (some 231))), (some (.inr (some 46))), (some (.inl x2)), (some (.inl (wr (x3 + 1)))), (some (.inl x5)), (some (.inl (wr (x5 + 1))))] [] I) else (zD (d + 1) 90 11 [(some (.inr (some 231))), (some (.inr (some 46))), (some (.inl x2)), (some (.inl x3)), (some (.inl x4)), (some (.inl (wr (x5 + 1))))] [] I)) else none)) := by
  rw [zE me_90 (by decide +kernel : kst 90 = [(11, 6), (21, 7), (69, 7)]) 91]
  rfl
set_option maxRecDepth 20000 in
theorem e_91 {d : Nat} {I : zI} {x0 x1 : Int} : cl (d + 1) 91 [(.inl x0), (.inl x1)] I = ((cl d 294 [(.inl x0)] I).bind fun p1 => ((cl d 294 [(.inl x1)] p1.2).bind fun p2 => (zD (d + 1) 91 8 [(some (.inl x0)), (some (.inl x1)), (some (.inl p1.1)), (some (.inl p2.1)), (some (.inl 0))] [] p2.2))) := by
  rw [cl_D (n := 2) (by decide +kernel) rfl, zE me_91 (by decide +kernel : kst 91 = [(8, 5)]) 27]
  rfl
set_option maxRecDepth 20000 in
theorem e_91_8 {d : Nat} {I : zI} {x2 x3 x4 : Int} {w0 w1 : Option zV} : zD (d + 1) 91 8 [w0, w1, (some (.inl x2)), (some (.inl x3)), (some (.inl x4))] [] I = (if x4 < 64 then (if x3 = 0 then (some (x2, I)) else (if x3 = 0 then none else (zD (d + 1) 91 8 [w0, w1, (some (.inl x3)), (some (.inl (zrem x2 x3))), (some (.inl (wr (x4 + 1))))] [] I))) else (some (x2, I))) := by
  rw [zE me_91 (by decide +kernel : kst 91 = [(8, 5)]) 27]
  rfl
set_option maxRecDepth 20000 in
theorem e_92 {d : Nat} {I : zI} {x0 x1 : Int} : cl (d + 1) 92 [(.inl x0), (.inl x1)] I = (zD (d + 1) 92 6 [(some (.inl x0)), (some (.inl x1)), (some (.inl x0)), (some (.inl x0)), (some (.inl 0))] [] I) := by
  rw [cl_D (n := 2) (by decide +kernel) rfl, zE me_92 (by decide +kernel : kst 92 = [(6, 5)]) 40]
  rfl
set_option maxRecDepth 20000 in
theorem e_92_6 {d : Nat} {I : zI} {x1 x2 x3 x4 : Int} {w0 : Option zV} : zD (d + 1) 92 6 [w0, (some (.inl x1)), (some (.inl x2)), (some (.inl x3)), (some (.inl x4))] [] I = (if 1 < x2 then (if x4 < 1000000 then (if (zrem x2 2) = 0 then ((cl d 295 [(.inl x3), (.inl (zdiv x2 2))] I).bind fun p2 => (zD (d + 1) 92 6 [w0, (some (.inl x1)), (some (.inl (zdiv x2 2))), (some (.inl p2.1)), (some (.inl (wr (x4 + 1))))] [] p2.2)) else ((cl d 295 [(.inl x3), (.inl (wr ((wr (3 * x2)) + 1)))] I).bind fun p1 => (zD (d + 1) 92 6 [w0, (some (.inl x1)), (some (.inl (wr ((wr (3 * x2)) + 1)))), (some (.inl p1.1)), (some (.inl (wr (x4 + 1))))] [] p1.2))) else (if x1 = 0 then (some (x4, I)) else (some (x3, I)))) else (if x1 = 0 then (some (x4, I)) else (some (x3, I)))) := by
  rw [zE me_92 (by decide +kernel : kst 92 = [(6, 5)]) 40]
  rfl
