/-! the methods as functions: what each is (by their code) -/
set_option maxRecDepth 20000 in
theorem e_93 {d : Nat} {I : zI} {x0 x1 : Int} : cl (d + 1) 93 [(.inl x0), (.inl x1)] I = (zD (d + 1) 93 8 [(some (.inl x0)), (some (.inl x1)), (some (.inl x0)), (some (.inl 0)), (some (.inl 0)), (some (.inl 0))] [] I) := by
  rw [cl_D (n := 2) (by decide +kernel) rfl, zE me_93 (by decide +kernel : kst 93 = [(8, 6)]) 58]
  rfl
set_option maxRecDepth 20000 in
theorem e_93_8 {d : Nat} {I : zI} {x1 x2 x3 x4 x5 : Int} {w0 : Option zV} : zD (d + 1) 93 8 [w0, (some (.inl x1)), (some (.inl x2)), (some (.inl x3)), (some (.inl x4)), (some (.inl x5))] [] I = (if x5 < 32 then (if x2 = 0 then (if x1 = 0 then (some (x3, I)) else (if x1 = 1 then (some (x4, I)) else (some ((-2), I)))) else ((cl d 293 [(.inl (wr (x2 + 1))), (.inl 3)] I).bind fun p1 => (if x1 = (wr (10 + x5)) then (some ((wr (p1.1 - 1)), p1.2)) else (if (wr (p1.1 - 1)) = 0 then (zD (d + 1) 93 8 [w0, (some (.inl x1)), (some (.inl (zdiv (wr (x2 - (wr (p1.1 - 1)))) 3))), (some (.inl (wr (x3 + 1)))), (some (.inl (wr (x4 + 0)))), (some (.inl (wr (x5 + 1))))] [] p1.2) else (zD (d + 1) 93 8 [w0, (some (.inl x1)), (some (.inl (zdiv (wr (x2 - (wr (p1.1 - 1)))) 3))), (some (.inl (wr (x3 + 1)))), (some (.inl (wr (x4 + 1)))), (some (.inl (wr (x5 + 1))))] [] p1.2))))) else (if x1 = 0 then (some (x3, I)) else (if x1 = 1 then (some (x4, I)) else (some ((-2), I))))) := by
  rw [zE me_93 (by decide +kernel : kst 93 = [(8, 6)]) 58]
  rfl
set_option maxRecDepth 20000 in
theorem e_94 {d : Nat} {I : zI} {x0 : Int} : cl (d + 1) 94 [(.inl x0)] I = (zD (d + 1) 94 4 [(some (.inl x0)), (some (.inl x0)), (some (.inl 0))] [] I) := by
  rw [cl_D (n := 1) (by decide +kernel) rfl, zE me_94 (by decide +kernel : kst 94 = [(4, 3)]) 30]
  rfl
set_option maxRecDepth 20000 in
theorem e_94_4 {d : Nat} {I : zI} {x1 x2 : Int} {w0 : Option zV} : zD (d + 1) 94 4 [w0, (some (.inl x1)), (some (.inl x2))] [] I = (if x2 < 32 then (if x1 = 0 then (if (zrem x1 4) = 1 then (some (1, I)) else (some (0, I))) else (if (zrem x1 2) = 0 then (zD (d + 1) 94 4 [w0, (some (.inl (zdiv x1 2))), (some (.inl (wr (x2 + 1))))] [] I) else (if (zrem x1 4) = 1 then (some (1, I)) else (some (0, I))))) else (if (zrem x1 4) = 1 then (some (1, I)) else (some (0, I)))) := by
  rw [zE me_94 (by decide +kernel : kst 94 = [(4, 3)]) 30]
  rfl
set_option maxRecDepth 20000 in
theorem e_95 {d : Nat} {I : zI} {x0 x1 : Int} : cl (d + 1) 95 [(.inl x0), (.inl x1)] I = (zD (d + 1) 95 10 [(some (.inl x0)), (some (.inl x1)), (some (.inl 0)), (some (.inl 0)), (some (.inl 1)), (some (.inl 0)), (some (.inl 1))] [] I) := by
  rw [cl_D (n := 2) (by decide +kernel) rfl, zE me_95 (by decide +kernel : kst 95 = [(10, 7)]) 50]
  rfl
set_option maxRecDepth 20000 in
theorem e_95_10 {d : Nat} {I : zI} {x0 x1 x2 x3 x4 x5 x6 : Int} : zD (d + 1) 95 10 [(some (.inl x0)), (some (.inl x1)), (some (.inl x2)), (some (.inl x3)), (some (.inl x4)), (some (.inl x5)), (some (.inl x6))] [] I = (if x0 < x6 then (if x1 = 0 then (some (x2, I)) else (some (x3, I))) else ((cl d 94 [(.inl x6)] I).bind fun p1 => (if p1.1 = 0 then (if p1.1 = 0 then (zD (d + 1) 95 10 [(some (.inl x0)), (some (.inl x1)), (some (.inl (wr (x2 + x4)))), (some (.inl (wr (x3 + x5)))), (some (.inl x5)), (some (.inl (wr (-x4)))), (some (.inl (wr (x6 + 1))))] [] p1.2) else (zD (d + 1) 95 10 [(some (.inl x0)), (some (.inl x1)), (some (.inl (wr (x2 + x4)))), (some (.inl (wr (x3 + x5)))), (some (.inl x5)), (some (.inl x4)), (some (.inl (wr (x6 + 1))))] [] p1.2)) else (if p1.1 = 0 then (zD (d + 1) 95 10 [(some (.inl x0)), (some (.inl x1)), (some (.inl (wr (x2 + x4)))), (some (.inl (wr (x3 + x5)))), (some (.inl (wr (-x5)))), (some (.inl (wr (-x4)))), (some (.inl (wr (x6 + 1))))] [] p1.2) else (zD (d + 1) 95 10 [(some (.inl x0)), (some (.inl x1)), (some (.inl (wr (x2 + x4)))), (some (.inl (wr (x3 + x5)))), (some (.inl (wr (-x5)))), (some (.inl x4)), (some (.inl (wr (x6 + 1))))] [] p1.2))))) := by
  rw [zE me_95 (by decide +kernel : kst 95 = [(10, 7)]) 50]
  rfl
set_option maxRecDepth 20000 in
theorem e_96 {d : Nat} {I : zI} {x2 : Int} : cl (d + 1) 96 [(.inr (some 48)), (.inr (some 49)), (.inl x2)] I = ((cl d 91 [(.inl (wr (I 48 1 - I 48 0))), (.inl (wr (I 49 1 - I 49 0)))] I).bind fun p1 => ((cl d 294 [(.inl (wr ((wr ((wr (p1.2 48 1 - p1.2 48 0)) * (wr (p1.2 49 2 - p1.2 49 0)))) - (wr ((wr (p1.2 48 2 - p1.2 48 0)) * (wr (p1.2 49 1 - p1.2 49 0)))))))] p1.2).bind fun p2 => (if x2 = 0 then (some ((wr (p1.1 + 1)), p2.2)) else (if x2 = 2 then (some (p2.1, p2.2)) else (if p2.1 = 0 then (some (p2.1, p2.2)) else ((cl d 91 [(.inl (wr (p2.2 48 2 - p2.2 48 1))), (.inl (wr (p2.2 49 2 - p2.2 49 1)))] p2.2).bind fun p3 => ((cl d 91 [(.inl (wr (p3.2 48 0 - p3.2 48 2))), (.inl (wr (p3.2 49 0 - p3.2 49 2)))] p3.2).bind fun p4 => (some ((zdiv (wr ((wr (p2.1 - (wr ((wr (p1.1 + p3.1)) + p4.1)))) + 2)) 2), p4.2))))))))) := by
  rw [cl_D (n := 3) (by decide +kernel) rfl, zE me_96 (by decide +kernel : kst 96 = []) 116]
  rfl
set_option maxRecDepth 20000 in
theorem e_97 {d : Nat} {I : zI} {x2 x3 : Int} : cl (d + 1) 97 [(.inr (some 231)), (.inr (some 50)), (.inl x2), (.inl x3)] I = ((cl d 98 [(.inr (some 231)), (.inr (some 50)), (.inl x2)] I).bind fun p1 => (zD (d + 1) 97 9 [(some (.inr (some 231))), (some (.inr (some 50))), (some (.inl x2)), (some (.inl x3)), (some (.inl p1.1)), (some (.inl (-1))), (some (.inl 1))] [] p1.2)) := by
  rw [cl_D (n := 4) (by decide +kernel) rfl, zE me_97 (by decide +kernel : kst 97 = [(9, 7), (14, 8), (34, 11)]) 110]
  rfl
set_option maxRecDepth 20000 in
theorem e_97_9 {d : Nat} {I : zI} {x3 x4 x5 x6 : Int} {w1 w2 : Option zV} : zD (d + 1) 97 9 [(some (.inr (some 231))), w1, w2, (some (.inl x3)), (some (.inl x4)), (some (.inl x5)), (some (.inl x6))] [] I = (if x4 < x6 then (if x4 < 2 then (if x3 = 0 then (some (0, I)) else (some ((-1), I))) else (if x3 = 0 then (if 0 ≤ x4 ∧ x4 < 81 then (some (I 237 (x4).toNat, I)) else none) else (some (x5, I)))) else (zD (d + 1) 97 14 [(some (.inr (some 231))), w1, w2, (some (.inl x3)), (some (.inl x4)), (some (.inl x5)), (some (.inl x6)), (some (.inl 0))] [] I)) := by
  rw [zE me_97 (by decide +kernel : kst 97 = [(9, 7), (14, 8), (34, 11)]) 110]
  rfl
set_option maxRecDepth 20000 in
theorem e_97_14 {d : Nat} {I : zI} {x3 x4 x5 x6 x7 : Int} {w1 w2 : Option zV} : zD (d + 1) 97 14 [(some (.inr (some 231))), w1, w2, (some (.inl x3)), (some (.inl x4)), (some (.inl x5)), (some (.inl x6)), (some (.inl x7))] [] I = (if x4 < (wr (x7 + x6)) then (zD (d + 1) 97 9 [(some (.inr (some 231))), w1, w2, (some (.inl x3)), (some (.inl x4)), (some (.inl x5)), (some (.inl (wr (x6 + 1))))] [] I) else (if x6 = 1 then (zD (d + 1) 97 34 [(some (.inr (some 231))), w1, w2, (some (.inl x3)), (some (.inl x4)), (some (.inl x5)), (some (.inl x6)), (some (.inl x7)), (some (.inl (wr (x7 + x6)))), (some (.inl 0)), (some (.inl (wr (x7 + 1))))] [] I) else (zD (d + 1) 97 34 [(some (.inr (some 231))), w1, w2, (some (.inl x3)), (some (.inl x4)), (some (.inl x5)), (some (.inl x6)), (some (.inl x7)), (some (.inl (wr (x7 + x6)))), (some (.inl 1000000)), (some (.inl (wr (x7 + 1))))] [] I))) := by
  rw [zE me_97 (by decide +kernel : kst 97 = [(9, 7), (14, 8), (34, 11)]) 110]
  rfl
set_option maxRecDepth 20000 in
theorem e_97_34 {d : Nat} {I : zI} {x3 x4 x5 x6 x7 x8 x9 x10 : Int} {w1 w2 : Option zV} : zD (d + 1) 97 34 [(some (.inr (some 231))), w1, w2, (some (.inl x3)), (some (.inl x4)), (some (.inl x5)), (some (.inl x6)), (some (.inl x7)), (some (.inl x8)), (some (.inl x9)), (some (.inl x10))] [] I = (if x10 < x8 then (if 0 ≤ (wr ((wr (x7 * 9)) + x10)) ∧ (wr ((wr (x7 * 9)) + x10)) < 81 then (if 0 ≤ (wr ((wr (x10 * 9)) + x8)) ∧ (wr ((wr (x10 * 9)) + x8)) < 81 then (if 0 ≤ x8 ∧ x8 < 13 then (if 0 ≤ x7 ∧ x7 < 13 then (if (wr ((wr ((wr (I 237 ((wr ((wr (x7 * 9)) + x10))).toNat + I 237 ((wr ((wr (x10 * 9)) + x8))).toNat)) + I 232 (x8).toNat)) - I 232 (x7).toNat)) < x9 then (if 0 ≤ x10 ∧ x10 < 13 then (zD (d + 1) 97 34 [(some (.inr (some 231))), w1, w2, (some (.inl x3)), (some (.inl x4)), (some (.inl (I 232 (x10).toNat))), (some (.inl x6)), (some (.inl x7)), (some (.inl x8)), (some (.inl (wr ((wr ((wr (I 237 ((wr ((wr (x7 * 9)) + x10))).toNat + I 237 ((wr ((wr (x10 * 9)) + x8))).toNat)) + I 232 (x8).toNat)) - I 232 (x7).toNat)))), (some (.inl (wr (x10 + 1))))] [] I) else none) else (zD (d + 1) 97 34 [(some (.inr (some 231))), w1, w2, (some (.inl x3)), (some (.inl x4)), (some (.inl x5)), (some (.inl x6)), (some (.inl x7)), (some (.inl x8)), (some (.inl x9)), (some (.inl (wr (x10 + 1))))] [] I)) else none) else none) else none) else none) else (if 0 ≤ (wr ((wr (x7 * 9)) + x8)) ∧ (wr ((wr (x7 * 9)) + x8)) < 81 then (zD (d + 1) 97 14 [(some (.inr (some 231))), w1, w2, (some (.inl x3)), (some (.inl x4)), (some (.inl x5)), (some (.inl x6)), (some (.inl (wr (x7 + 1))))] [] (up I 237 ((wr ((wr (x7 * 9)) + x8))).toNat x9)) else none)) := by
  rw [zE me_97 (by decide +kernel : kst 97 = [(9, 7), (14, 8), (34, 11)]) 110]
  rfl
set_option maxRecDepth 20000 in
theorem e_98 {d : Nat} {I : zI} {x2 : Int} : cl (d + 1) 98 [(.inr (some 231)), (.inr (some 50)), (.inl x2)] I = (zD (d + 1) 98 9 [(some (.inr (some 231))), (some (.inr (some 50))), (some (.inl x2)), (some (.inl 0)), (some (.inl 1))] [] (up I 232 0 0)) := by
  rw [cl_D (n := 3) (by decide +kernel) rfl, zE me_98 (by decide +kernel : kst 98 = [(9, 5)]) 37]
  rfl
set_option maxRecDepth 20000 in
theorem e_98_9 {d : Nat} {I : zI} {x2 x3 x4 : Int} : zD (d + 1) 98 9 [(some (.inr (some 231))), (some (.inr (some 50))), (some (.inl x2)), (some (.inl x3)), (some (.inl x4))] [] I = (if x4 < x2 then (if x3 < 7 then ((cl d 80 [(.inr (some 50)), (.inl x4)] I).bind fun p1 => (if p1.1 = 0 then (zD (d + 1) 98 9 [(some (.inr (some 231))), (some (.inr (some 50))), (some (.inl x2)), (some (.inl x3)), (some (.inl (wr (x4 + 1))))] [] p1.2) else (if 0 ≤ (wr (x3 + 1)) ∧ (wr (x3 + 1)) < 13 then (zD (d + 1) 98 9 [(some (.inr (some 231))), (some (.inr (some 50))), (some (.inl x2)), (some (.inl (wr (x3 + 1)))), (some (.inl (wr (x4 + 1))))] [] (up p1.2 232 ((wr (x3 + 1))).toNat x4)) else none))) else (if 0 ≤ (wr (x3 + 1)) ∧ (wr (x3 + 1)) < 13 then (some ((wr (x3 + 1)), (up I 232 ((wr (x3 + 1))).toNat x2))) else none)) else (if 0 ≤ (wr (x3 + 1)) ∧ (wr (x3 + 1)) < 13 then (some ((wr (x3 + 1)), (up I 232 ((wr (x3 + 1))).toNat x2))) else none)) := by
  rw [zE me_98 (by decide +kernel : kst 98 = [(9, 5)]) 37]
  rfl
set_option maxRecDepth 20000 in
theorem e_99 {d : Nat} {I : zI} {x1 x2 x3 : Int} : cl (d + 1) 99 [(.inr (some 52)), (.inl x1), (.inl x2), (.inl x3)] I = (zD (d + 1) 99 2 [(some (.inr (some 52))), (some (.inl x1)), (some (.inl x2)), (some (.inl x3)), (some (.inl 0))] [] I) := by
  rw [cl_D (n := 4) (by decide +kernel) rfl, zE me_99 (by decide +kernel : kst 99 = [(2, 5)]) 27]
  rfl
set_option maxRecDepth 20000 in
theorem e_99_2 {d : Nat} {I : zI} {x1 x2 x3 x4 : Int} : zD (d + 1) 99 2 [(some (.inr (some 52))), (some (.inl x1)), (some (.inl x2)), (some (.inl x3)), (some (.inl x4))] [] I = (if x4 < x3 then ((cl d 82 [(.inr (some 52)), (.inl (wr (x1 + x4)))] I).bind fun p1 => ((cl d 82 [(.inr (some 52)), (.inl (wr (x2 + x4)))] p1.2).bind fun p2 => (if (wr (p1.1 - p2.1)) = 0 then (zD (d + 1) 99 2 [(some (.inr (some 52))), (some (.inl x1)), (some (.inl x2)), (some (.inl x3)), (some (.inl (wr (x4 + 1))))] [] p2.2) else (some ((wr (p1.1 - p2.1)), p2.2))))) else (some (0, I))) := by
  rw [zE me_99 (by decide +kernel : kst 99 = [(2, 5)]) 27]
  rfl
set_option maxRecDepth 20000 in
theorem e_100 {d : Nat} {I : zI} : cl (d + 1) 100 [(.inr (some 52))] I = (zD (d + 1) 100 4 [(some (.inr (some 52))), (some (.inl 0)), (some (.inl 1))] [] I) := by
  rw [cl_D (n := 1) (by decide +kernel) rfl, zE me_100 (by decide +kernel : kst 100 = [(4, 3)]) 23]
  rfl
set_option maxRecDepth 20000 in
theorem e_100_4 {d : Nat} {I : zI} {x1 x2 : Int} : zD (d + 1) 100 4 [(some (.inr (some 52))), (some (.inl x1)), (some (.inl x2))] [] I = (if x2 < I 52 2 then ((cl d 99 [(.inr (some 52)), (.inl x2), (.inl x1), (.inl (I 52 2))] I).bind fun p1 => (if p1.1 < 0 then (zD (d + 1) 100 4 [(some (.inr (some 52))), (some (.inl x2)), (some (.inl (wr (x2 + 1))))] [] p1.2) else (zD (d + 1) 100 4 [(some (.inr (some 52))), (some (.inl x1)), (some (.inl (wr (x2 + 1))))] [] p1.2))) else (some (x1, I))) := by
  rw [zE me_100 (by decide +kernel : kst 100 = [(4, 3)]) 23]
  rfl
set_option maxRecDepth 20000 in
theorem e_101 {d : Nat} {I : zI} : cl (d + 1) 101 [(.inr (some 52))] I = (zD (d + 1) 101 2 [(some (.inr (some 52))), (some (.inl 1))] [] I) := by
  rw [cl_D (n := 1) (by decide +kernel) rfl, zE me_101 (by decide +kernel : kst 101 = [(2, 2)]) 22]
  rfl
set_option maxRecDepth 20000 in
theorem e_101_2 {d : Nat} {I : zI} {x1 : Int} : zD (d + 1) 101 2 [(some (.inr (some 52))), (some (.inl x1))] [] I = (if x1 < I 52 2 then ((cl d 99 [(.inr (some 52)), (.inl x1), (.inl 0), (.inl (I 52 2))] I).bind fun p1 => (if p1.1 = 0 then (some (x1, p1.2)) else (zD (d + 1) 101 2 [(some (.inr (some 52))), (some (.inl (wr (x1 + 1))))] [] p1.2))) else (some (I 52 2, I))) := by
  rw [zE me_101 (by decide +kernel : kst 101 = [(2, 2)]) 22]
  rfl
set_option maxRecDepth 20000 in
theorem e_102 {d : Nat} {I : zI} {x1 : Int} : cl (d + 1) 102 [(.inr (some 52)), (.inl x1)] I = (if x1 = 0 then (some (1, I)) else (zD (d + 1) 102 8 [(some (.inr (some 52))), (some (.inl x1)), (some (.inl 0)), (some (.inl 0))] [] I)) := by
  rw [cl_D (n := 2) (by decide +kernel) rfl, zE me_102 (by decide +kernel : kst 102 = [(8, 4), (16, 6), (33, 5)]) 47]
  rfl
set_option maxRecDepth 20000 in
theorem e_102_8 {d : Nat} {I : zI} {x1 x2 x3 : Int} : zD (d + 1) 102 8 [(some (.inr (some 52))), (some (.inl x1)), (some (.inl x2)), (some (.inl x3))] [] I = (if x3 < I 52 2 then (zD (d + 1) 102 16 [(some (.inr (some 52))), (some (.inl x1)), (some (.inl x2)), (some (.inl x3)), (some (.inl 0)), (some (.inl 0))] [] I) else (some (x2, I))) := by
  rw [zE me_102 (by decide +kernel : kst 102 = [(8, 4), (16, 6), (33, 5)]) 47]
  rfl
set_option maxRecDepth 20000 in
theorem e_102_16 {d : Nat} {I : zI} {x1 x2 x3 x4 x5 : Int} : zD (d + 1) 102 16 [(some (.inr (some 52))), (some (.inl x1)), (some (.inl x2)), (some (.inl x3)), (some (.inl x4)), (some (.inl x5))] [] I = (if x5 < x3 then (if x4 = 0 then ((cl d 99 [(.inr (some 52)), (.inl x3), (.inl x5), (.inl x1)] I).bind fun p1 => (if p1.1 = 0 then (zD (d + 1) 102 16 [(some (.inr (some 52))), (some (.inl x1)), (some (.inl x2)), (some (.inl x3)), (some (.inl 1)), (some (.inl (wr (x5 + 1))))] [] p1.2) else (zD (d + 1) 102 16 [(some (.inr (some 52))), (some (.inl x1)), (some (.inl x2)), (some (.inl x3)), (some (.inl 0)), (some (.inl (wr (x5 + 1))))] [] p1.2))) else (zD (d + 1) 102 33 [(some (.inr (some 52))), (some (.inl x1)), (some (.inl x2)), (some (.inl x3)), (some (.inl x4))] [] I)) else (zD (d + 1) 102 33 [(some (.inr (some 52))), (some (.inl x1)), (some (.inl x2)), (some (.inl x3)), (some (.inl x4))] [] I)) := by
  rw [zE me_102 (by decide +kernel : kst 102 = [(8, 4), (16, 6), (33, 5)]) 47]
  rfl
set_option maxRecDepth 20000 in
theorem e_102_33 {d : Nat} {I : zI} {x1 x2 x3 x4 : Int} : zD (d + 1) 102 33 [(some (.inr (some 52))), (some (.inl x1)), (some (.inl x2)), (some (.inl x3)), (some (.inl x4))] [] I = (if x4 = 0 then (zD (d + 1) 102 8 [(some (.inr (some 52))), (some (.inl x1)), (some (.inl (wr (x2 + 1)))), (some (.inl (wr (x3 + 1))))] [] I) else (zD (d + 1) 102 8 [(some (.inr (some 52))), (some (.inl x1)), (some (.inl (wr (x2 + 0)))), (some (.inl (wr (x3 + 1))))] [] I)) := by
  rw [zE me_102 (by decide +kernel : kst 102 = [(8, 4), (16, 6), (33, 5)]) 47]
  rfl
set_option maxRecDepth 20000 in
theorem e_103 {d : Nat} {I : zI} {x1 : Int} : cl (d + 1) 103 [(.inr (some 54)), (.inl x1)] I = (zD (d + 1) 103 8 [(some (.inr (some 54))), (some (.inl x1)), (some (.inl 0)), (some (.inl 0)), (some (.inl 0)), (some (.inl 0))] [] I) := by
  rw [cl_D (n := 2) (by decide +kernel) rfl, zE me_103 (by decide +kernel : kst 103 = [(8, 6), (27, 8), (46, 8)]) 71]
  rfl
set_option maxRecDepth 20000 in
theorem e_103_8 {d : Nat} {I : zI} {x1 x2 x3 x4 x5 : Int} : zD (d + 1) 103 8 [(some (.inr (some 54))), (some (.inl x1)), (some (.inl x2)), (some (.inl x3)), (some (.inl x4)), (some (.inl x5))] [] I = (if x5 < I 54 2 then (if 0 ≤ x5 ∧ x5 < 12 then (if 0 < I 55 (x5).toNat then (if 0 ≤ x5 ∧ x5 < 12 then ((cl d 294 [(.inl (I 55 (x5).toNat))] I).bind fun p2 => (zD (d + 1) 103 27 [(some (.inr (some 54))), (some (.inl x1)), (some (.inl x2)), (some (.inl x3)), (some (.inl x4)), (some (.inl x5)), (some (.inl 1)), (some (.inl p2.1))] [] p2.2)) else none) else (if 0 ≤ x5 ∧ x5 < 12 then ((cl d 294 [(.inl (I 55 (x5).toNat))] I).bind fun p1 => (zD (d + 1) 103 27 [(some (.inr (some 54))), (some (.inl x1)), (some (.inl x2)), (some (.inl x3)), (some (.inl x4)), (some (.inl x5)), (some (.inl (-1))), (some (.inl p1.1))] [] p1.2)) else none)) else none) else (if x1 = 0 then (some (x2, I)) else (if x1 = 1 then (some (x3, I)) else (some (x4, I))))) := by
  rw [zE me_103 (by decide +kernel : kst 103 = [(8, 6), (27, 8), (46, 8)]) 71]
  rfl
set_option maxRecDepth 20000 in
theorem e_103_27 {d : Nat} {I : zI} {x1 x2 x3 x4 x5 x6 x7 : Int} : zD (d + 1) 103 27 [(some (.inr (some 54))), (some (.inl x1)), (some (.inl x2)), (some (.inl x3)), (some (.inl x4)), (some (.inl x5)), (some (.inl x6)), (some (.inl x7))] [] I = (if 0 < x7 then (if (wr (x2 + x6)) < 180 then (if (wr (x2 + x6)) < (-180) then (zD (d + 1) 103 46 [(some (.inr (some 54))), (some (.inl x1)), (some (.inl 179)), (some (.inl (wr (x3 + (-1))))), (some (.inl x4)), (some (.inl x5)), (some (.inl x6)), (some (.inl x7))] [] I) else (zD (d + 1) 103 46 [(some (.inr (some 54))), (some (.inl x1)), (some (.inl (wr (x2 + x6)))), (some (.inl x3)), (some (.inl x4)), (some (.inl x5)), (some (.inl x6)), (some (.inl x7))] [] I)) else (zD (d + 1) 103 46 [(some (.inr (some 54))), (some (.inl x1)), (some (.inl (-180))), (some (.inl (wr (x3 + 1)))), (some (.inl x4)), (some (.inl x5)), (some (.inl x6)), (some (.inl x7))] [] I)) else (zD (d + 1) 103 8 [(some (.inr (some 54))), (some (.inl x1)), (some (.inl x2)), (some (.inl x3)), (some (.inl x4)), (some (.inl (wr (x5 + 1))))] [] I)) := by
  rw [zE me_103 (by decide +kernel : kst 103 = [(8, 6), (27, 8), (46, 8)]) 71]
  rfl
set_option maxRecDepth 20000 in
theorem e_103_46 {d : Nat} {I : zI} {x1 x2 x3 x4 x5 x6 x7 : Int} : zD (d + 1) 103 46 [(some (.inr (some 54))), (some (.inl x1)), (some (.inl x2)), (some (.inl x3)), (some (.inl x4)), (some (.inl x5)), (some (.inl x6)), (some (.inl x7))] [] I = (if x2 = 0 then (zD (d + 1) 103 27 [(some (.inr (some 54))), (some (.inl x1)), (some (.inl x2)), (some (.inl x3)), (some (.inl (wr (x4 + 1)))), (some (.inl x5)), (some (.inl x6)), (some (.inl (wr (x7 + (-1)))))] [] I) else (zD (d + 1) 103 27 [(some (.inr (some 54))), (some (.inl x1)), (some (.inl x2)), (some (.inl x3)), (some (.inl (wr (x4 + 0)))), (some (.inl x5)), (some (.inl x6)), (some (.inl (wr (x7 + (-1)))))] [] I)) := by
  rw [zE me_103 (by decide +kernel : kst 103 = [(8, 6), (27, 8), (46, 8)]) 71]
  rfl
set_option maxRecDepth 20000 in
theorem e_104 {d : Nat} {I : zI} {x0 x1 : Int} : cl (d + 1) 104 [(.inl x0), (.inl x1)] I = (zD (d + 1) 104 4 [(some (.inl x0)), (some (.inl x1)), (some (.inl 0)), (some (.inl 0))] [] I) := by
  rw [cl_D (n := 2) (by decide +kernel) rfl, zE me_104 (by decide +kernel : kst 104 = [(4, 4)]) 23]
  rfl
set_option maxRecDepth 20000 in
theorem e_104_4 {d : Nat} {I : zI} {x0 x1 x2 x3 : Int} : zD (d + 1) 104 4 [(some (.inl x0)), (some (.inl x1)), (some (.inl x2)), (some (.inl x3))] [] I = (if x3 < x1 then (zD (d + 1) 104 4 [(some (.inl x0)), (some (.inl x1)), (some (.inl (zor (zshl x2 1) (zand (zshr x0 x3) 1)))), (some (.inl (wr (x3 + 1))))] [] I) else (some (x2, I))) := by
  rw [zE me_104 (by decide +kernel : kst 104 = [(4, 4)]) 23]
  rfl
set_option maxRecDepth 20000 in
theorem e_105 {d : Nat} {I : zI} {x0 x1 : Int} : cl (d + 1) 105 [(.inl x0), (.inl x1)] I = (zD (d + 1) 105 8 [(some (.inl x0)), (some (.inl x1)), (some (.inl (zdiv x1 2))), (some (.inl 0)), (some (.inl 0))] [] I) := by
  rw [cl_D (n := 2) (by decide +kernel) rfl, zE me_105 (by decide +kernel : kst 105 = [(8, 5)]) 40]
  rfl
set_option maxRecDepth 20000 in
theorem e_105_8 {d : Nat} {I : zI} {x0 x1 x2 x3 x4 : Int} : zD (d + 1) 105 8 [(some (.inl x0)), (some (.inl x1)), (some (.inl x2)), (some (.inl x3)), (some (.inl x4))] [] I = (if x4 < (zshl 1 (wr (x1 - x2))) then ((cl d 104 [(.inl (zshl x4 x2)), (.inl x1)] I).bind fun p1 => (if x0 < (zor (zshl x4 x2) p1.1) then (zD (d + 1) 105 8 [(some (.inl x0)), (some (.inl x1)), (some (.inl x2)), (some (.inl (wr (x3 + 0)))), (some (.inl (wr (x4 + 1))))] [] p1.2) else (zD (d + 1) 105 8 [(some (.inl x0)), (some (.inl x1)), (some (.inl x2)), (some (.inl (wr (x3 + 1)))), (some (.inl (wr (x4 + 1))))] [] p1.2))) else (some (x3, I))) := by
  rw [zE me_105 (by decide +kernel : kst 105 = [(8, 5)]) 40]
  rfl
set_option maxRecDepth 20000 in
theorem e_106 {d : Nat} {I : zI} {x2 x3 : Int} : cl (d + 1) 106 [(.inr (some 231)), (.inr (some 56)), (.inl x2), (.inl x3)] I = (if 1 < x2 then (if 40 < x2 then (if x3 = 0 then (some (0, I)) else (some ((-1), I))) else (zD (d + 1) 106 14 [(some (.inr (some 231))), (some (.inr (some 56))), (some (.inl x2)), (some (.inl x3)), (some (.inl 0))] [] I)) else (if x3 = 0 then (some (0, I)) else (some ((-1), I)))) := by
  rw [cl_D (n := 4) (by decide +kernel) rfl, zE me_106 (by decide +kernel : kst 106 = [(14, 5), (30, 7), (46, 10)]) 81]
  rfl
set_option maxRecDepth 20000 in
theorem e_106_14 {d : Nat} {I : zI} {x2 x3 x4 : Int} : zD (d + 1) 106 14 [(some (.inr (some 231))), (some (.inr (some 56))), (some (.inl x2)), (some (.inl x3)), (some (.inl x4))] [] I = (if x4 < x2 then (if 0 ≤ x4 ∧ x4 < 40 then (zD (d + 1) 106 14 [(some (.inr (some 231))), (some (.inr (some 56))), (some (.inl x2)), (some (.inl x3)), (some (.inl (wr (x4 + 1))))] [] (up I 236 (x4).toNat 1)) else none) else (zD (d + 1) 106 30 [(some (.inr (some 231))), (some (.inr (some 56))), (some (.inl x2)), (some (.inl x3)), (some (.inl 0)), (some (.inl (-1))), (some (.inl x2))] [] I)) := by
  rw [zE me_106 (by decide +kernel : kst 106 = [(14, 5), (30, 7), (46, 10)]) 81]
  rfl
set_option maxRecDepth 20000 in
theorem e_106_30 {d : Nat} {I : zI} {x2 x3 x4 x5 x6 : Int} : zD (d + 1) 106 30 [(some (.inr (some 231))), (some (.inr (some 56))), (some (.inl x2)), (some (.inl x3)), (some (.inl x4)), (some (.inl x5)), (some (.inl x6))] [] I = (if 1 < x6 then (if 0 < I 56 2 then ((cl d 82 [(.inr (some 56)), (.inl x4)] I).bind fun p1 => (zD (d + 1) 106 46 [(some (.inr (some 231))), (some (.inr (some 56))), (some (.inl x2)), (some (.inl x3)), (some (.inl x4)), (some (.inl x5)), (some (.inl x6)), (some (.inl p1.1)), (some (.inl x4)), (some (.inl 0))] [] p1.2)) else (zD (d + 1) 106 46 [(some (.inr (some 231))), (some (.inr (some 56))), (some (.inl x2)), (some (.inl x3)), (some (.inl x4)), (some (.inl x5)), (some (.inl x6)), (some (.inl 1)), (some (.inl x4)), (some (.inl 0))] [] I)) else (if x3 = 0 then (some (x4, I)) else (some (x5, I)))) := by
  rw [zE me_106 (by decide +kernel : kst 106 = [(14, 5), (30, 7), (46, 10)]) 81]
  rfl
set_option maxRecDepth 20000 in
theorem e_106_46 {d : Nat} {I : zI} {x2 x3 x5 x6 x7 x8 x9 : Int} {w4 : Option zV} : zD (d + 1) 106 46 [(some (.inr (some 231))), (some (.inr (some 56))), (some (.inl x2)), (some (.inl x3)), w4, (some (.inl x5)), (some (.inl x6)), (some (.inl x7)), (some (.inl x8)), (some (.inl x9))] [] I = (if x9 < x7 then ((cl d 107 [(.inr (some 231)), (.inl x8), (.inl x2)] I).bind fun p4 => (zD (d + 1) 106 46 [(some (.inr (some 231))), (some (.inr (some 56))), (some (.inl x2)), (some (.inl x3)), w4, (some (.inl x5)), (some (.inl x6)), (some (.inl x7)), (some (.inl p4.1)), (some (.inl (wr (x9 + 1))))] [] p4.2)) else (if 0 ≤ x8 ∧ x8 < 40 then (if x5 = (-1) then ((cl d 107 [(.inr (some 231)), (.inl x8), (.inl x2)] (up I 236 (x8).toNat 0)).bind fun p3 => (zD (d + 1) 106 30 [(some (.inr (some 231))), (some (.inr (some 56))), (some (.inl x2)), (some (.inl x3)), (some (.inl p3.1)), (some (.inl x8)), (some (.inl (wr (x6 + (-1)))))] [] p3.2)) else ((cl d 107 [(.inr (some 231)), (.inl x8), (.inl x2)] (up I 236 (x8).toNat 0)).bind fun p2 => (zD (d + 1) 106 30 [(some (.inr (some 231))), (some (.inr (some 56))), (some (.inl x2)), (some (.inl x3)), (some (.inl p2.1)), (some (.inl x5)), (some (.inl (wr (x6 + (-1)))))] [] p2.2))) else none)) := by
  rw [zE me_106 (by decide +kernel : kst 106 = [(14, 5), (30, 7), (46, 10)]) 81]
  rfl
set_option maxRecDepth 20000 in
theorem e_107 {d : Nat} {I : zI} {x1 x2 : Int} : cl (d + 1) 107 [(.inr (some 231)), (.inl x1), (.inl x2)] I = (if 0 < x2 then (zD (d + 1) 107 6 [(some (.inr (some 231))), (some (.inl x1)), (some (.inl x2)), (some (.inl 1))] [] I) else (some (0, I))) := by
  rw [cl_D (n := 3) (by decide +kernel) rfl, zE me_107 (by decide +kernel : kst 107 = [(6, 4)]) 34]
  rfl
set_option maxRecDepth 20000 in
theorem e_107_6 {d : Nat} {I : zI} {x1 x2 x3 : Int} : zD (d + 1) 107 6 [(some (.inr (some 231))), (some (.inl x1)), (some (.inl x2)), (some (.inl x3))] [] I = (if x2 < x3 then (some (0, I)) else (if x2 = 0 then none else (if (zrem (wr (x1 + x3)) x2) < 0 then (zD (d + 1) 107 6 [(some (.inr (some 231))), (some (.inl x1)), (some (.inl x2)), (some (.inl (wr (x3 + 1))))] [] I) else (if (zrem (wr (x1 + x3)) x2) < 40 then (if 0 ≤ (zrem (wr (x1 + x3)) x2) ∧ (zrem (wr (x1 + x3)) x2) < 40 then (if I 236 ((zrem (wr (x1 + x3)) x2)).toNat = 1 then (some ((zrem (wr (x1 + x3)) x2), I)) else (zD (d + 1) 107 6 [(some (.inr (some 231))), (some (.inl x1)), (some (.inl x2)), (some (.inl (wr (x3 + 1))))] [] I)) else none) else (zD (d + 1) 107 6 [(some (.inr (some 231))), (some (.inl x1)), (some (.inl x2)), (some (.inl (wr (x3 + 1))))] [] I))))) := by
  rw [zE me_107 (by decide +kernel : kst 107 = [(6, 4)]) 34]
  rfl
set_option maxRecDepth 20000 in
theorem e_108 {d : Nat} {I : zI} {x2 : Int} : cl (d + 1) 108 [(.inr (some 231)), (.inr (some 58)), (.inl x2), (.inr (some 232))] I = ((cl d 81 [(.inr (some 58))] I).bind fun p1 => (if 0 < p1.1 then (zD (d + 1) 108 10 [(some (.inr (some 231))), (some (.inr (some 58))), (some (.inl x2)), (some (.inr (some 232))), (some (.inl p1.1)), (some (.inl x2)), (some (.inl 0))] [] p1.2) else (some (0, p1.2)))) := by
  rw [cl_D (n := 4) (by decide +kernel) rfl, zE me_108 (by decide +kernel : kst 108 = [(10, 7), (47, 7), (54, 9)]) 88]
  rfl
set_option maxRecDepth 20000 in
theorem e_108_10 {d : Nat} {I : zI} {x2 x4 x5 x6 : Int} : zD (d + 1) 108 10 [(some (.inr (some 231))), (some (.inr (some 58))), (some (.inl x2)), (some (.inr (some 232))), (some (.inl x4)), (some (.inl x5)), (some (.inl x6))] [] I = (if x6 < I 58 2 then (if 0 ≤ x6 ∧ x6 < 12 then (if x4 = 0 then none else (if 0 ≤ x6 ∧ x6 < 13 then (if 0 ≤ x6 ∧ x6 < 12 then (if x4 = 0 then none else (if 0 ≤ x6 ∧ x6 < 13 then (if 0 ≤ x6 ∧ x6 < 13 then (zD (d + 1) 108 10 [(some (.inr (some 231))), (some (.inr (some 58))), (some (.inl x2)), (some (.inr (some 232))), (some (.inl x4)), (some (.inl (wr (x5 - (up (up I 232 (x6).toNat (zdiv (wr (x2 * I 59 (x6).toNat)) x4)) 234 (x6).toNat (zrem (wr (x2 * I 59 (x6).toNat)) x4)) 232 (x6).toNat)))), (some (.inl (wr (x6 + 1))))] [] (up (up I 232 (x6).toNat (zdiv (wr (x2 * I 59 (x6).toNat)) x4)) 234 (x6).toNat (zrem (wr (x2 * I 59 (x6).toNat)) x4))) else none) else none)) else none) else none)) else none) else (zD (d + 1) 108 47 [(some (.inr (some 231))), (some (.inr (some 58))), (some (.inl x2)), (some (.inr (some 232))), (some (.inl x4)), (some (.inl x5)), (some (.inl 0))] [] I)) := by
  rw [zE me_108 (by decide +kernel : kst 108 = [(10, 7), (47, 7), (54, 9)]) 88]
  rfl
set_option maxRecDepth 20000 in
theorem e_108_47 {d : Nat} {I : zI} {x5 x6 : Int} {w2 w4 : Option zV} : zD (d + 1) 108 47 [(some (.inr (some 231))), (some (.inr (some 58))), w2, (some (.inr (some 232))), w4, (some (.inl x5)), (some (.inl x6))] [] I = (if x6 < x5 then (zD (d + 1) 108 54 [(some (.inr (some 231))), (some (.inr (some 58))), w2, (some (.inr (some 232))), w4, (some (.inl x5)), (some (.inl x6)), (some (.inl 0)), (some (.inl 1))] [] I) else (some (0, I))) := by
  rw [zE me_108 (by decide +kernel : kst 108 = [(10, 7), (47, 7), (54, 9)]) 88]
  rfl
set_option maxRecDepth 20000 in
theorem e_108_54 {d : Nat} {I : zI} {x5 x6 x7 x8 : Int} {w2 w4 : Option zV} : zD (d + 1) 108 54 [(some (.inr (some 231))), (some (.inr (some 58))), w2, (some (.inr (some 232))), w4, (some (.inl x5)), (some (.inl x6)), (some (.inl x7)), (some (.inl x8))] [] I = (if x8 < I 58 2 then (if 0 ≤ x8 ∧ x8 < 13 then (if 0 ≤ x7 ∧ x7 < 13 then (if I 234 (x7).toNat < I 234 (x8).toNat then (zD (d + 1) 108 54 [(some (.inr (some 231))), (some (.inr (some 58))), w2, (some (.inr (some 232))), w4, (some (.inl x5)), (some (.inl x6)), (some (.inl x8)), (some (.inl (wr (x8 + 1))))] [] I) else (zD (d + 1) 108 54 [(some (.inr (some 231))), (some (.inr (some 58))), w2, (some (.inr (some 232))), w4, (some (.inl x5)), (some (.inl x6)), (some (.inl x7)), (some (.inl (wr (x8 + 1))))] [] I)) else none) else none) else (if 0 ≤ x7 ∧ x7 < 13 then (if 0 ≤ x7 ∧ x7 < 13 then (if 0 ≤ x7 ∧ x7 < 13 then (zD (d + 1) 108 47 [(some (.inr (some 231))), (some (.inr (some 58))), w2, (some (.inr (some 232))), w4, (some (.inl x5)), (some (.inl (wr (x6 + 1))))] [] (up (up I 232 (x7).toNat (wr (I 232 (x7).toNat + 1))) 234 (x7).toNat (-1))) else none) else none) else none)) := by
  rw [zE me_108 (by decide +kernel : kst 108 = [(10, 7), (47, 7), (54, 9)]) 88]
  rfl
set_option maxRecDepth 20000 in
theorem e_109 {d : Nat} {I : zI} {x2 x3 : Int} : cl (d + 1) 109 [(.inr (some 231)), (.inr (some 58)), (.inl x2), (.inl x3)] I = ((cl d 108 [(.inr (some 231)), (.inr (some 58)), (.inl x2), (.inr (some 232))] I).bind fun p1 => (if x3 < 0 then (some ((-1), p1.2)) else (if x3 < p1.2 58 2 then (if 0 ≤ x3 ∧ x3 < 13 then (some (p1.2 232 (x3).toNat, p1.2)) else none) else (some ((-1), p1.2))))) := by
  rw [cl_D (n := 4) (by decide +kernel) rfl, zE me_109 (by decide +kernel : kst 109 = []) 21]
  rfl
set_option maxRecDepth 20000 in
theorem e_110 {d : Nat} {I : zI} {x2 : Int} : cl (d + 1) 110 [(.inr (some 231)), (.inr (some 58)), (.inl x2)] I = ((cl d 108 [(.inr (some 231)), (.inr (some 58)), (.inl x2), (.inr (some 232))] I).bind fun p1 => ((cl d 108 [(.inr (some 231)), (.inr (some 58)), (.inl (wr (x2 + 1))), (.inr (some 233))] p1.2).bind fun p2 => (zD (d + 1) 110 16 [(some (.inr (some 231))), (some (.inr (some 58))), (some (.inl x2)), (some (.inl 0))] [] p2.2))) := by
  rw [cl_D (n := 3) (by decide +kernel) rfl, zE me_110 (by decide +kernel : kst 110 = [(16, 4)]) 37]
  rfl
set_option maxRecDepth 20000 in
theorem e_110_16 {d : Nat} {I : zI} {x3 : Int} {w2 : Option zV} : zD (d + 1) 110 16 [(some (.inr (some 231))), (some (.inr (some 58))), w2, (some (.inl x3))] [] I = (if x3 < I 58 2 then (if 0 ≤ x3 ∧ x3 < 13 then (if 0 ≤ x3 ∧ x3 < 13 then (if I 233 (x3).toNat < I 232 (x3).toNat then (some (x3, I)) else (zD (d + 1) 110 16 [(some (.inr (some 231))), (some (.inr (some 58))), w2, (some (.inl (wr (x3 + 1))))] [] I)) else none) else none) else (some ((-1), I))) := by
  rw [zE me_110 (by decide +kernel : kst 110 = [(16, 4)]) 37]
  rfl
set_option maxRecDepth 20000 in
theorem e_112 {d : Nat} {I : zI} {x1 : Int} : cl (d + 1) 112 [(.inr (some 0)), (.inl x1)] I = ((cl d 50 [(.inr (some 119))] (up I 2 0 x1)).bind fun p1 => (some (I 2 0, p1.2))) := by
  rw [cl_D (n := 2) (by decide +kernel) rfl, zE me_112 (by decide +kernel : kst 112 = []) 17]
  rfl
set_option maxRecDepth 20000 in
theorem e_113 {d : Nat} {I : zI} {x1 x2 : Int} : cl (d + 1) 113 [(.inr (some 0)), (.inl x1), (.inl x2)] I = ((cl d 156 [(.inl x1), (.inl 0), (.inl 7)] I).bind fun p1 => (if p1.1 = 0 then (some ((-1), p1.2)) else ((cl d 156 [(.inl x2), (.inl 0), (.inl 99)] p1.2).bind fun p2 => (if p2.1 = 0 then (some ((-1), p2.2)) else (if I 2 3 < 0 then (some ((-1), p2.2)) else (if I 2 3 < 14 then (if 0 ≤ I 2 3 ∧ I 2 3 < 14 then (if 0 ≤ I 2 3 ∧ I 2 3 < 14 then (if 0 ≤ I 2 3 ∧ I 2 3 < 14 then (if 0 ≤ I 2 3 ∧ I 2 3 < 14 then ((cl d 50 [(.inr (some 119))] (up (up (up (up (up p2.2 3 (I 2 3).toNat x1) 4 (I 2 3).toNat x2) 5 (I 2 3).toNat 0) 6 (I 2 3).toNat 0) 2 3 (wr (I 2 3 + 1)))).bind fun p3 => (some (I 2 3, p3.2))) else none) else none) else none) else none) else (some ((-1), p2.2)))))))) := by
  rw [cl_D (n := 3) (by decide +kernel) rfl, zE me_113 (by decide +kernel : kst 113 = []) 56]
  rfl
set_option maxRecDepth 20000 in
theorem e_114 {d : Nat} {I : zI} {x1 : Int} : cl (d + 1) 114 [(.inr (some 0)), (.inl x1)] I = ((cl d 156 [(.inl x1), (.inl 0), (.inl 9)] I).bind fun p1 => (if p1.1 = 0 then (some ((-1), p1.2)) else (if I 2 4 < 0 then (some ((-1), p1.2)) else (if I 2 4 < 10 then (if 0 ≤ I 2 4 ∧ I 2 4 < 10 then (if 0 ≤ I 2 4 ∧ I 2 4 < 10 then (if 0 ≤ I 2 4 ∧ I 2 4 < 10 then (if 0 ≤ I 2 4 ∧ I 2 4 < 10 then (if 0 ≤ I 2 4 ∧ I 2 4 < 10 then ((cl d 50 [(.inr (some 119))] (up (up (up (up (up (up p1.2 7 (I 2 4).toNat x1) 8 (I 2 4).toNat (-1)) 9 (I 2 4).toNat (-1)) 10 (I 2 4).toNat 0) 11 (I 2 4).toNat 0) 2 4 (wr (I 2 4 + 1)))).bind fun p2 => (some (I 2 4, p2.2))) else none) else none) else none) else none) else none) else (some ((-1), p1.2)))))) := by
  rw [cl_D (n := 2) (by decide +kernel) rfl, zE me_114 (by decide +kernel : kst 114 = []) 56]
  rfl
set_option maxRecDepth 20000 in
theorem e_115 {d : Nat} {I : zI} {x1 : Int} : cl (d + 1) 115 [(.inr (some 0)), (.inl x1)] I = ((cl d 156 [(.inl x1), (.inl 1), (.inl 99)] I).bind fun p1 => (if p1.1 = 0 then (some ((-1), p1.2)) else (if I 2 5 < 0 then (some ((-1), p1.2)) else (if I 2 5 < 12 then (if 0 ≤ I 2 5 ∧ I 2 5 < 12 then (if 0 ≤ I 2 5 ∧ I 2 5 < 12 then (if 0 ≤ I 2 5 ∧ I 2 5 < 12 then ((cl d 50 [(.inr (some 119))] (up (up (up (up p1.2 12 (I 2 5).toNat x1) 13 (I 2 5).toNat 0) 14 (I 2 5).toNat (-1)) 2 5 (wr (I 2 5 + 1)))).bind fun p2 => (some (I 2 5, p2.2))) else none) else none) else none) else (some ((-1), p1.2)))))) := by
  rw [cl_D (n := 2) (by decide +kernel) rfl, zE me_115 (by decide +kernel : kst 115 = []) 46]
  rfl
set_option maxRecDepth 20000 in
theorem e_116 {d : Nat} {I : zI} {x1 x2 x3 : Int} : cl (d + 1) 116 [(.inr (some 0)), (.inl x1), (.inl x2), (.inl x3)] I = (if x1 = 0 then ((cl d 22 [(.inr (some 2)), (.inl x2)] I).bind fun p1 => (if p1.1 = 0 then (zD (d + 1) 116 21 [(some (.inr (some 0))), (some (.inl x1)), (some (.inl x2)), (some (.inl x3)), (some (.inr (some 2)))] [] p1.2) else ((cl d 156 [(.inl x3), (.inl 0), (.inl 99)] p1.2).bind fun p2 => (if p2.1 = 0 then (zD (d + 1) 116 21 [(some (.inr (some 0))), (some (.inl x1)), (some (.inl x2)), (some (.inl x3)), (some (.inr (some 2)))] [] p2.2) else (if 0 ≤ x2 ∧ x2 < 14 then ((cl d 50 [(.inr (some 119))] (up p2.2 4 (x2).toNat x3)).bind fun p3 => (some (1, p3.2))) else none))))) else (zD (d + 1) 116 21 [(some (.inr (some 0))), (some (.inl x1)), (some (.inl x2)), (some (.inl x3)), (some (.inr (some 2)))] [] I)) := by
  rw [cl_D (n := 4) (by decide +kernel) rfl, zE me_116 (by decide +kernel : kst 116 = [(21, 5), (39, 5)]) 66]
  rfl
set_option maxRecDepth 20000 in
theorem e_116_21 {d : Nat} {I : zI} {x1 x2 x3 : Int} : zD (d + 1) 116 21 [(some (.inr (some 0))), (some (.inl x1)), (some (.inl x2)), (some (.inl x3)), (some (.inr (some 2)))] [] I = (if x1 = 1 then ((cl d 22 [(.inr (some 2)), (.inl x2)] I).bind fun p4 => (if p4.1 = 0 then (zD (d + 1) 116 39 [(some (.inr (some 0))), (some (.inl x1)), (some (.inl x2)), (some (.inl x3)), (some (.inr (some 2)))] [] p4.2) else ((cl d 156 [(.inl x3), (.inl 0), (.inl 99)] p4.2).bind fun p5 => (if p5.1 = 0 then (zD (d + 1) 116 39 [(some (.inr (some 0))), (some (.inl x1)), (some (.inl x2)), (some (.inl x3)), (some (.inr (some 2)))] [] p5.2) else (if 0 ≤ x2 ∧ x2 < 14 then ((cl d 50 [(.inr (some 119))] (up p5.2 5 (x2).toNat x3)).bind fun p6 => (some (1, p6.2))) else none))))) else (zD (d + 1) 116 39 [(some (.inr (some 0))), (some (.inl x1)), (some (.inl x2)), (some (.inl x3)), (some (.inr (some 2)))] [] I)) := by
  rw [zE me_116 (by decide +kernel : kst 116 = [(21, 5), (39, 5)]) 66]
  rfl
set_option maxRecDepth 20000 in
theorem e_116_39 {d : Nat} {I : zI} {x1 x2 x3 : Int} : zD (d + 1) 116 39 [(some (.inr (some 0))), (some (.inl x1)), (some (.inl x2)), (some (.inl x3)), (some (.inr (some 2)))] [] I = (if x1 = 2 then ((cl d 23 [(.inr (some 2)), (.inl x2)] I).bind fun p7 => (if p7.1 = 0 then (some (0, p7.2)) else ((cl d 156 [(.inl x3), (.inl 0), (.inl 9)] p7.2).bind fun p8 => (if p8.1 = 0 then (some (0, p8.2)) else (if 0 ≤ x2 ∧ x2 < 10 then ((cl d 50 [(.inr (some 119))] (up p8.2 7 (x2).toNat x3)).bind fun p9 => (some (1, p9.2))) else none))))) else (some (0, I))) := by
  rw [zE me_116 (by decide +kernel : kst 116 = [(21, 5), (39, 5)]) 66]
  rfl
set_option maxRecDepth 20000 in
theorem e_117 {d : Nat} {I : zI} {x1 x2 x3 : Int} : cl (d + 1) 117 [(.inr (some 0)), (.inl x1), (.inl x2), (.inl x3)] I = ((cl d 32 [(.inr (some 2)), (.inl x1), (.inl x2), (.inl x3)] I).bind fun p1 => (if p1.1 = 0 then (some (0, p1.2)) else ((cl d 48 [(.inr (some 119)), (.inr (some 2)), (.inl (p1.2 15 4))] p1.2).bind fun p2 => ((cl d 33 [(.inr (some 2)), (.inl x1), (.inl x2), (.inl x3)] p2.2).bind fun p3 => (some (1, p3.2)))))) := by
  rw [cl_D (n := 4) (by decide +kernel) rfl, zE me_117 (by decide +kernel : kst 117 = []) 29]
  rfl
set_option maxRecDepth 20000 in
theorem e_118 {d : Nat} {I : zI} {x1 : Int} : cl (d + 1) 118 [(.inr (some 0)), (.inl x1)] I = ((cl d 156 [(.inl x1), (.inl 1), (.inl 60)] I).bind fun p1 => (if p1.1 = 0 then (some ((-1), p1.2)) else (if (wr (9999 - x1)) < p1.2 2 2 then (some ((-1), p1.2)) else (zD (d + 1) 118 19 [(some (.inr (some 0))), (some (.inl x1)), (some (.inl 0)), (some (.inl 0))] [] p1.2)))) := by
  rw [cl_D (n := 2) (by decide +kernel) rfl, zE me_118 (by decide +kernel : kst 118 = [(19, 4)]) 48]
  rfl
set_option maxRecDepth 20000 in
theorem e_118_19 {d : Nat} {I : zI} {x1 x2 x3 : Int} : zD (d + 1) 118 19 [(some (.inr (some 0))), (some (.inl x1)), (some (.inl x2)), (some (.inl x3))] [] I = (if x3 < x1 then ((cl d 48 [(.inr (some 119)), (.inr (some 2)), (.inl (I 15 4))] I).bind fun p2 => ((cl d 16 [(.inr (some 1)), (.inr (some 2)), (.inl 0)] p2.2).bind fun p3 => (zD (d + 1) 118 19 [(some (.inr (some 0))), (some (.inl x1)), (some (.inl (wr (x2 + p3.1)))), (some (.inl (wr (x3 + 1))))] [] p3.2))) else (some (x2, I))) := by
  rw [zE me_118 (by decide +kernel : kst 118 = [(19, 4)]) 48]
  rfl
set_option maxRecDepth 20000 in
theorem e_119 {d : Nat} {I : zI} {x1 x2 x3 x4 x5 : Int} : cl (d + 1) 119 [(.inr (some 0)), (.inl x1), (.inl x2), (.inl x3), (.inl x4), (.inl x5)] I = (if 380 < I 213 1 then (some ((-1), I)) else ((cl d 52 [(.inr (some 213)), (.inl x1)] I).bind fun p1 => ((cl d 52 [(.inr (some 213)), (.inl x2)] p1.2).bind fun p2 => ((cl d 52 [(.inr (some 213)), (.inl x3)] p2.2).bind fun p3 => ((cl d 52 [(.inr (some 213)), (.inl x4)] p3.2).bind fun p4 => ((cl d 52 [(.inr (some 213)), (.inl x5)] p4.2).bind fun p5 => (some (p5.2 213 1, p5.2)))))))) := by
  rw [cl_D (n := 6) (by decide +kernel) rfl, zE me_119 (by decide +kernel : kst 119 = []) 33]
  rfl
set_option maxRecDepth 20000 in
theorem e_120 {d : Nat} {I : zI} {x1 : Int} : cl (d + 1) 120 [(.inr (some 0)), (.inl x1)] I = ((cl d 156 [(.inl x1), (.inl 0), (.inl (I 213 1))] I).bind fun p1 => (if p1.1 = 0 then (some (0, p1.2)) else (some (1, (up p1.2 213 1 x1))))) := by
  rw [cl_D (n := 2) (by decide +kernel) rfl, zE me_120 (by decide +kernel : kst 120 = []) 17]
  rfl
set_option maxRecDepth 20000 in
theorem e_121 {d : Nat} {I : zI} {x1 : Int} : cl (d + 1) 121 [(.inr (some 0)), (.inl x1)] I = ((cl d 53 [(.inr (some 213)), (.inl x1), (.inr (some 2))] I).bind fun p1 => (if p1.1 = 0 then (some ((-1), (up p1.2 213 1 0))) else (if x1 = 0 then ((cl d 39 [(.inr (some 20)), (.inr (some 217))] (up p1.2 213 1 0)).bind fun p8 => (some (p8.2 21 4, p8.2))) else (if x1 = 1 then ((cl d 86 [(.inr (some 29)), (.inr (some 226))] (up p1.2 213 1 0)).bind fun p6 => (if x1 = 1 then ((cl d 50 [(.inr (some 119))] p6.2).bind fun p7 => (some (p7.2 29 4, p7.2))) else (some (p6.2 29 4, p6.2)))) else (if x1 = 2 then ((cl d 86 [(.inr (some 34)), (.inr (some 226))] (up p1.2 213 1 0)).bind fun p4 => (if x1 = 1 then ((cl d 50 [(.inr (some 119))] p4.2).bind fun p5 => (some (p5.2 34 4, p5.2))) else (some (p4.2 34 4, p4.2)))) else ((cl d 86 [(.inr (some 39)), (.inr (some 226))] (up p1.2 213 1 0)).bind fun p2 => (if x1 = 1 then ((cl d 50 [(.inr (some 119))] p2.2).bind fun p3 => (some (p3.2 39 4, p3.2))) else (some (p2.2 39 4, p2.2))))))))) := by
  rw [cl_D (n := 2) (by decide +kernel) rfl, zE me_121 (by decide +kernel : kst 121 = []) 65]
  rfl
set_option maxRecDepth 20000 in
theorem e_122 {d : Nat} {I : zI} {x1 : Int} : cl (d + 1) 122 [(.inr (some 0)), (.inl x1)] I = (if x1 = 0 then (some (I 213 7, I)) else (if x1 = 1 then (some (I 213 8, I)) else (some ((-1), I)))) := by
  rw [cl_D (n := 2) (by decide +kernel) rfl, zE me_122 (by decide +kernel : kst 122 = []) 17]
  rfl
set_option maxRecDepth 20000 in
theorem e_123 {d : Nat} {I : zI} {x1 x2 : Int} : cl (d + 1) 123 [(.inr (some 0)), (.inl x1), (.inl x2)] I = ((cl d 22 [(.inr (some 2)), (.inl x1)] I).bind fun p1 => (if p1.1 = 0 then (some ((-2), p1.2)) else (if x2 = 0 then (if 0 ≤ x1 ∧ x1 < 14 then (some (p1.2 3 (x1).toNat, p1.2)) else none) else (if x2 = 1 then (if 0 ≤ x1 ∧ x1 < 14 then (some (p1.2 4 (x1).toNat, p1.2)) else none) else (if x2 = 2 then (if 0 ≤ x1 ∧ x1 < 14 then (some (p1.2 5 (x1).toNat, p1.2)) else none) else (if x2 = 3 then (if 0 ≤ x1 ∧ x1 < 14 then (some (p1.2 6 (x1).toNat, p1.2)) else none) else (if x2 = 4 then ((cl d 27 [(.inr (some 2)), (.inl x1)] p1.2).bind fun p4 => (some (p4.1, p4.2))) else (if x2 = 5 then (if 0 ≤ x1 ∧ x1 < 14 then ((cl d 10 [(.inr (some 1)), (.inl (p1.2 3 (x1).toNat))] p1.2).bind fun p3 => (some (p3.1, p3.2))) else none) else (if x2 = 6 then (if 0 ≤ x1 ∧ x1 < 14 then ((cl d 11 [(.inr (some 1)), (.inl (p1.2 3 (x1).toNat))] p1.2).bind fun p2 => (some (p2.1, p2.2))) else none) else (some ((-2), p1.2))))))))))) := by
  rw [cl_D (n := 3) (by decide +kernel) rfl, zE me_123 (by decide +kernel : kst 123 = []) 56]
  rfl
set_option maxRecDepth 20000 in
theorem e_124 {d : Nat} {I : zI} {x1 x2 : Int} : cl (d + 1) 124 [(.inr (some 0)), (.inl x1), (.inl x2)] I = ((cl d 23 [(.inr (some 2)), (.inl x1)] I).bind fun p1 => (if p1.1 = 0 then (some ((-2), p1.2)) else (if x2 = 0 then (if 0 ≤ x1 ∧ x1 < 10 then (some (p1.2 7 (x1).toNat, p1.2)) else none) else (if x2 = 1 then (if 0 ≤ x1 ∧ x1 < 10 then (some (p1.2 8 (x1).toNat, p1.2)) else none) else (if x2 = 2 then (if 0 ≤ x1 ∧ x1 < 10 then (some (p1.2 9 (x1).toNat, p1.2)) else none) else (if x2 = 3 then (if 0 ≤ x1 ∧ x1 < 10 then (some (p1.2 10 (x1).toNat, p1.2)) else none) else (if x2 = 4 then (if 0 ≤ x1 ∧ x1 < 10 then (some (p1.2 11 (x1).toNat, p1.2)) else none) else (if x2 = 5 then ((cl d 14 [(.inr (some 1)), (.inr (some 2)), (.inl x1), (.inl 10011)] p1.2).bind fun p4 => (some (p4.1, p4.2))) else (if x2 = 6 then ((cl d 14 [(.inr (some 1)), (.inr (some 2)), (.inl x1), (.inl 10012)] p1.2).bind fun p3 => (some (p3.1, p3.2))) else (if x2 = 7 then ((cl d 14 [(.inr (some 1)), (.inr (some 2)), (.inl x1), (.inl 10013)] p1.2).bind fun p2 => (some (p2.1, p2.2))) else (some ((-2), p1.2)))))))))))) := by
  rw [cl_D (n := 3) (by decide +kernel) rfl, zE me_124 (by decide +kernel : kst 124 = []) 62]
  rfl
set_option maxRecDepth 20000 in
theorem e_125 {d : Nat} {I : zI} {x1 x2 : Int} : cl (d + 1) 125 [(.inr (some 0)), (.inl x1), (.inl x2)] I = ((cl d 24 [(.inr (some 2)), (.inl x1)] I).bind fun p1 => (if p1.1 = 0 then (some ((-2), p1.2)) else (if x2 = 0 then (if 0 ≤ x1 ∧ x1 < 12 then (some (p1.2 12 (x1).toNat, p1.2)) else none) else (if x2 = 1 then (if 0 ≤ x1 ∧ x1 < 12 then (some (p1.2 13 (x1).toNat, p1.2)) else none) else (if x2 = 2 then (if 0 ≤ x1 ∧ x1 < 12 then (some (p1.2 14 (x1).toNat, p1.2)) else none) else (if x2 = 3 then ((cl d 12 [(.inr (some 1)), (.inl x1)] p1.2).bind fun p4 => (some (p4.1, p4.2))) else (if x2 = 4 then ((cl d 13 [(.inr (some 1)), (.inr (some 2)), (.inl x1)] p1.2).bind fun p3 => (if p3.1 = 0 then (some (0, p3.2)) else (some (1, p3.2)))) else (if x2 = 5 then ((cl d 29 [(.inr (some 2)), (.inl x1)] p1.2).bind fun p2 => (some (p2.1, p2.2))) else (some ((-2), p1.2)))))))))) := by
  rw [cl_D (n := 3) (by decide +kernel) rfl, zE me_125 (by decide +kernel : kst 125 = []) 50]
  rfl
set_option maxRecDepth 20000 in
theorem e_126 {d : Nat} {I : zI} {x1 x2 : Int} : cl (d + 1) 126 [(.inr (some 0)), (.inl x1), (.inl x2)] I = (if x1 < 0 then (some ((-1), I)) else (if x1 < I 15 4 then (if x1 < 150 then (if x2 = 0 then (if 0 ≤ x1 ∧ x1 < 150 then (some (I 16 (x1).toNat, I)) else none) else (if x2 = 1 then (if 0 ≤ x1 ∧ x1 < 150 then (some (I 17 (x1).toNat, I)) else none) else (if x2 = 2 then (if 0 ≤ x1 ∧ x1 < 150 then (some (I 18 (x1).toNat, I)) else none) else (if x2 = 3 then (if 0 ≤ x1 ∧ x1 < 150 then (some (I 19 (x1).toNat, I)) else none) else (some ((-1), I)))))) else (some ((-1), I))) else (some ((-1), I)))) := by
  rw [cl_D (n := 3) (by decide +kernel) rfl, zE me_126 (by decide +kernel : kst 126 = []) 41]
  rfl
set_option maxRecDepth 20000 in
theorem e_127 {d : Nat} {I : zI} {x1 x2 : Int} : cl (d + 1) 127 [(.inr (some 0)), (.inl x1), (.inl x2)] I = ((cl d 156 [(.inl x1), (.inl 1), (.inl 60)] I).bind fun p1 => (if p1.1 = 0 then (some ((-1), p1.2)) else ((cl d 156 [(.inl x2), (.inl 0), (.inl 3)] p1.2).bind fun p2 => (if p2.1 = 0 then (some ((-1), p2.2)) else ((cl d 21 [(.inr (some 200)), (.inr (some 2))] p2.2).bind fun p3 => (zD (d + 1) 127 20 [(some (.inr (some 0))), (some (.inl x1)), (some (.inl x2)), (some (.inl 0))] [] p3.2)))))) := by
  rw [cl_D (n := 3) (by decide +kernel) rfl, zE me_127 (by decide +kernel : kst 127 = [(20, 4)]) 53]
  rfl
set_option maxRecDepth 20000 in
theorem e_127_20 {d : Nat} {I : zI} {x1 x2 x3 : Int} : zD (d + 1) 127 20 [(some (.inr (some 0))), (some (.inl x1)), (some (.inl x2)), (some (.inl x3))] [] I = (if x3 < x1 then ((cl d 16 [(.inr (some 1)), (.inr (some 200)), (.inl 1)] I).bind fun p8 => (zD (d + 1) 127 20 [(some (.inr (some 0))), (some (.inl x1)), (some (.inl x2)), (some (.inl (wr (x3 + 1))))] [] p8.2)) else (if x2 = 0 then ((cl d 30 [(.inr (some 200))] I).bind fun p7 => (some (p7.1, p7.2))) else (if x2 = 1 then ((cl d 31 [(.inr (some 200))] I).bind fun p6 => (some (p6.1, p6.2))) else (if x2 = 2 then (some (I 200 1, I)) else ((cl d 28 [(.inr (some 200))] I).bind fun p4 => ((cl d 292 [(.inl p4.1)] p4.2).bind fun p5 => (some (p5.1, p5.2)))))))) := by
  rw [zE me_127 (by decide +kernel : kst 127 = [(20, 4)]) 53]
  rfl
set_option maxRecDepth 20000 in
theorem e_128 {d : Nat} {I : zI} {x1 : Int} : cl (d + 1) 128 [(.inr (some 0)), (.inl x1)] I = ((cl d 24 [(.inr (some 2)), (.inl x1)] I).bind fun p1 => (if p1.1 = 0 then (some ((-1), p1.2)) else ((cl d 21 [(.inr (some 200)), (.inr (some 2))] p1.2).bind fun p2 => (zD (d + 1) 128 16 [(some (.inr (some 0))), (some (.inl x1)), (some (.inl 0))] [] p2.2)))) := by
  rw [cl_D (n := 2) (by decide +kernel) rfl, zE me_128 (by decide +kernel : kst 128 = [(16, 3)]) 46]
  rfl
set_option maxRecDepth 20000 in
theorem e_128_16 {d : Nat} {I : zI} {x1 x2 : Int} : zD (d + 1) 128 16 [(some (.inr (some 0))), (some (.inl x1)), (some (.inl x2))] [] I = (if x2 < 60 then ((cl d 25 [(.inr (some 200)), (.inl x1)] I).bind fun p4 => (if p4.1 = 0 then ((cl d 16 [(.inr (some 1)), (.inr (some 200)), (.inl 1)] p4.2).bind fun p5 => (zD (d + 1) 128 16 [(some (.inr (some 0))), (some (.inl x1)), (some (.inl (wr (x2 + 1))))] [] p5.2)) else (some (x2, p4.2)))) else ((cl d 25 [(.inr (some 200)), (.inl x1)] I).bind fun p3 => (if p3.1 = 0 then (some ((-1), p3.2)) else (some (60, p3.2))))) := by
  rw [zE me_128 (by decide +kernel : kst 128 = [(16, 3)]) 46]
  rfl
set_option maxRecDepth 20000 in
theorem e_129 {d : Nat} {I : zI} {x1 x2 : Int} : cl (d + 1) 129 [(.inr (some 0)), (.inl x1), (.inl x2)] I = ((cl d 156 [(.inl x1), (.inl 1), (.inl 99)] I).bind fun p1 => (if p1.1 = 0 then (some ((-1), p1.2)) else ((cl d 156 [(.inl x2), (.inl 0), (.inl 1)] p1.2).bind fun p2 => (if p2.1 = 0 then (some ((-1), p2.2)) else ((cl d 19 [(.inr (some 1)), (.inl x1), (.inr (some 232)), (.inl x2)] p2.2).bind fun p3 => (some (p3.1, p3.2))))))) := by
  rw [cl_D (n := 3) (by decide +kernel) rfl, zE me_129 (by decide +kernel : kst 129 = []) 23]
  rfl
set_option maxRecDepth 20000 in
theorem e_130 {d : Nat} {I : zI} {x1 x2 : Int} : cl (d + 1) 130 [(.inr (some 0)), (.inl x1), (.inl x2)] I = ((cl d 156 [(.inl x1), (.inl 0), (.inl 12)] I).bind fun p1 => (if p1.1 = 0 then (some ((-1), p1.2)) else ((cl d 156 [(.inl x2), (.inl (-1)), (.inl (wr (x1 - 1)))] p1.2).bind fun p2 => (if p2.1 = 0 then (some ((-1), p2.2)) else ((cl d 88 [(.inr (some 231)), (.inl x1), (.inl x2)] p2.2).bind fun p3 => (some (p3.1, p3.2))))))) := by
  rw [cl_D (n := 3) (by decide +kernel) rfl, zE me_130 (by decide +kernel : kst 130 = []) 22]
  rfl
set_option maxRecDepth 20000 in
theorem e_131 {d : Nat} {I : zI} {x1 : Int} : cl (d + 1) 131 [(.inr (some 0)), (.inl x1)] I = (if x1 = (-1) then ((cl d 79 [(.inr (some 44))] I).bind fun p2 => (some (p2.1, p2.2))) else ((cl d 78 [(.inr (some 44)), (.inl x1), (.inl 1), (.inl 20)] I).bind fun p1 => (some (p1.1, p1.2)))) := by
  rw [cl_D (n := 2) (by decide +kernel) rfl, zE me_131 (by decide +kernel : kst 131 = []) 18]
  rfl
set_option maxRecDepth 20000 in
theorem e_132 {d : Nat} {I : zI} {x1 x2 : Int} : cl (d + 1) 132 [(.inr (some 0)), (.inl x1), (.inl x2)] I = ((cl d 156 [(.inl x1), (.inl 20), (.inl 60)] I).bind fun p1 => (if p1.1 = 0 then (some ((-1), p1.2)) else ((cl d 156 [(.inl x2), (.inl 0), (.inl 1)] p1.2).bind fun p2 => (if p2.1 = 0 then (some ((-1), p2.2)) else ((cl d 89 [(.inr (some 231)), (.inr (some 44)), (.inl x1), (.inl x2)] p2.2).bind fun p3 => (some (p3.1, p3.2))))))) := by
  rw [cl_D (n := 3) (by decide +kernel) rfl, zE me_132 (by decide +kernel : kst 132 = []) 23]
  rfl
set_option maxRecDepth 20000 in
theorem e_133 {d : Nat} {I : zI} {x1 : Int} : cl (d + 1) 133 [(.inr (some 0)), (.inl x1)] I = (if x1 = (-1) then ((cl d 79 [(.inr (some 46))] I).bind fun p2 => (some (p2.1, p2.2))) else ((cl d 78 [(.inr (some 46)), (.inl x1), (.inl 1), (.inl 30)] I).bind fun p1 => (some (p1.1, p1.2)))) := by
  rw [cl_D (n := 2) (by decide +kernel) rfl, zE me_133 (by decide +kernel : kst 133 = []) 18]
  rfl
set_option maxRecDepth 20000 in
theorem e_134 {d : Nat} {I : zI} {x1 : Int} : cl (d + 1) 134 [(.inr (some 0)), (.inl x1)] I = ((cl d 156 [(.inl x1), (.inl 0), (.inl 1)] I).bind fun p1 => (if p1.1 = 0 then (some ((-1), p1.2)) else ((cl d 90 [(.inr (some 231)), (.inr (some 46)), (.inl x1)] p1.2).bind fun p2 => (some (p2.1, p2.2))))) := by
  rw [cl_D (n := 2) (by decide +kernel) rfl, zE me_134 (by decide +kernel : kst 134 = []) 17]
  rfl
set_option maxRecDepth 20000 in
theorem e_135 {d : Nat} {I : zI} {x1 x2 : Int} : cl (d + 1) 135 [(.inr (some 0)), (.inl x1), (.inl x2)] I = ((cl d 156 [(.inl x1), (.inl 1), (.inl 9999)] I).bind fun p1 => (if p1.1 = 0 then (some ((-1), p1.2)) else ((cl d 156 [(.inl x2), (.inl 0), (.inl 1)] p1.2).bind fun p2 => (if p2.1 = 0 then (some ((-1), p2.2)) else ((cl d 92 [(.inl x1), (.inl x2)] p2.2).bind fun p3 => (some (p3.1, p3.2))))))) := by
  rw [cl_D (n := 3) (by decide +kernel) rfl, zE me_135 (by decide +kernel : kst 135 = []) 18]
  rfl
set_option maxRecDepth 20000 in
theorem e_136 {d : Nat} {I : zI} {x1 x2 : Int} : cl (d + 1) 136 [(.inr (some 0)), (.inl x1), (.inl x2)] I = ((cl d 156 [(.inl x1), (.inl (-9999)), (.inl 9999)] I).bind fun p1 => (if p1.1 = 0 then (some ((-2), p1.2)) else (if x2 < 0 then (some ((-2), p1.2)) else ((cl d 93 [(.inl x1), (.inl x2)] p1.2).bind fun p2 => (some (p2.1, p2.2)))))) := by
  rw [cl_D (n := 3) (by decide +kernel) rfl, zE me_136 (by decide +kernel : kst 136 = []) 15]
  rfl
set_option maxRecDepth 20000 in
theorem e_137 {d : Nat} {I : zI} {x1 x2 x3 : Int} : cl (d + 1) 137 [(.inr (some 0)), (.inl x1), (.inl x2), (.inl x3)] I = ((cl d 156 [(.inl x1), (.inl 0), (.inl 12)] I).bind fun p1 => (if p1.1 = 0 then (some ((-10000), p1.2)) else (if x3 = 2 then ((cl d 156 [(.inl x2), (.inl 1), (.inl (wr ((zshl 1 x1) - 1)))] p1.2).bind fun p5 => (if p5.1 = 0 then (some ((-10000), p5.2)) else ((cl d 94 [(.inl x2)] p5.2).bind fun p6 => (if p6.1 = 0 then (some (0, p6.2)) else (some (1, p6.2)))))) else ((cl d 156 [(.inl x3), (.inl 0), (.inl 1)] p1.2).bind fun p2 => (if p2.1 = 0 then (some ((-10000), p2.2)) else ((cl d 156 [(.inl x2), (.inl 0), (.inl (zshl 1 x1))] p2.2).bind fun p3 => (if p3.1 = 0 then (some ((-10000), p3.2)) else ((cl d 95 [(.inl x2), (.inl x3)] p3.2).bind fun p4 => (some (p4.1, p4.2)))))))))) := by
  rw [cl_D (n := 4) (by decide +kernel) rfl, zE me_137 (by decide +kernel : kst 137 = []) 48]
  rfl
set_option maxRecDepth 20000 in
theorem e_138 {d : Nat} {I : zI} {x1 x2 x3 : Int} : cl (d + 1) 138 [(.inr (some 0)), (.inl x1), (.inl x2), (.inl x3)] I = ((cl d 156 [(.inl x1), (.inl 1), (.inl 12)] I).bind fun p1 => (if p1.1 = 0 then (some ((-1), p1.2)) else ((cl d 156 [(.inl x2), (.inl 1), (.inl (wr (4 * x1)))] p1.2).bind fun p2 => (if p2.1 = 0 then (some ((-1), p2.2)) else (if x3 = 0 then (some ((wr ((wr ((wr (4 * x1)) + 1)) - x2)), p2.2)) else (if x3 = 1 then (if (zrem x2 2) = 0 then (some ((wr (x2 - 1)), p2.2)) else (some ((wr (x2 + 1)), p2.2))) else (if x3 = 2 then (if (wr (2 * x1)) < x2 then (some ((zdiv (wr ((wr (4 * x1)) - x2)) 2), p2.2)) else (some ((zdiv (wr (x2 - 1)) 2), p2.2))) else (some ((-1), p2.2))))))))) := by
  rw [cl_D (n := 4) (by decide +kernel) rfl, zE me_138 (by decide +kernel : kst 138 = []) 59]
  rfl
set_option maxRecDepth 20000 in
theorem e_139 {d : Nat} {I : zI} {x1 x2 x3 : Int} : cl (d + 1) 139 [(.inr (some 0)), (.inl x1), (.inl x2), (.inl x3)] I = ((cl d 156 [(.inl x1), (.inl 0), (.inl 2)] I).bind fun p1 => (if p1.1 = 0 then (some (0, p1.2)) else ((cl d 156 [(.inl x2), (.inl 0), (.inl 99)] p1.2).bind fun p2 => (if p2.1 = 0 then (some (0, p2.2)) else ((cl d 156 [(.inl x3), (.inl 0), (.inl 99)] p2.2).bind fun p3 => (if p3.1 = 0 then (some (0, p3.2)) else (if 0 ≤ x1 ∧ x1 < 3 then (if 0 ≤ x1 ∧ x1 < 3 then (some (1, (up (up p3.2 48 (x1).toNat x2) 49 (x1).toNat x3))) else none) else none))))))) := by
  rw [cl_D (n := 4) (by decide +kernel) rfl, zE me_139 (by decide +kernel : kst 139 = []) 33]
  rfl
set_option maxRecDepth 20000 in
theorem e_140 {d : Nat} {I : zI} {x1 : Int} : cl (d + 1) 140 [(.inr (some 0)), (.inl x1)] I = ((cl d 156 [(.inl x1), (.inl 0), (.inl 2)] I).bind fun p1 => (if p1.1 = 0 then (some ((-1), p1.2)) else ((cl d 96 [(.inr (some 48)), (.inr (some 49)), (.inl x1)] p1.2).bind fun p2 => (some (p2.1, p2.2))))) := by
  rw [cl_D (n := 2) (by decide +kernel) rfl, zE me_140 (by decide +kernel : kst 140 = []) 18]
  rfl
set_option maxRecDepth 20000 in
theorem e_141 {d : Nat} {I : zI} {x1 : Int} : cl (d + 1) 141 [(.inr (some 0)), (.inl x1)] I = (if x1 = (-1) then ((cl d 79 [(.inr (some 50))] I).bind fun p3 => (some (p3.1, p3.2))) else ((cl d 80 [(.inr (some 50)), (.inl x1)] I).bind fun p1 => (if p1.1 = 0 then ((cl d 78 [(.inr (some 50)), (.inl x1), (.inl 1), (.inl 59)] p1.2).bind fun p2 => (some (p2.1, p2.2))) else (some ((-1), p1.2))))) := by
  rw [cl_D (n := 2) (by decide +kernel) rfl, zE me_141 (by decide +kernel : kst 141 = []) 26]
  rfl
set_option maxRecDepth 20000 in
theorem e_142 {d : Nat} {I : zI} {x1 x2 : Int} : cl (d + 1) 142 [(.inr (some 0)), (.inl x1), (.inl x2)] I = ((cl d 156 [(.inl x1), (.inl 1), (.inl 60)] I).bind fun p1 => (if p1.1 = 0 then (some ((-1), p1.2)) else ((cl d 156 [(.inl x2), (.inl 0), (.inl 1)] p1.2).bind fun p2 => (if p2.1 = 0 then (some ((-1), p2.2)) else ((cl d 97 [(.inr (some 231)), (.inr (some 50)), (.inl x1), (.inl x2)] p2.2).bind fun p3 => (some (p3.1, p3.2))))))) := by
  rw [cl_D (n := 3) (by decide +kernel) rfl, zE me_142 (by decide +kernel : kst 142 = []) 23]
  rfl
set_option maxRecDepth 20000 in
theorem e_143 {d : Nat} {I : zI} {x1 : Int} : cl (d + 1) 143 [(.inr (some 0)), (.inl x1)] I = (if x1 = (-1) then ((cl d 79 [(.inr (some 52))] I).bind fun p2 => (some (p2.1, p2.2))) else ((cl d 78 [(.inr (some 52)), (.inl x1), (.inl 0), (.inl 9)] I).bind fun p1 => (some (p1.1, p1.2)))) := by
  rw [cl_D (n := 2) (by decide +kernel) rfl, zE me_143 (by decide +kernel : kst 143 = []) 18]
  rfl
set_option maxRecDepth 20000 in
theorem e_144 {d : Nat} {I : zI} {x1 : Int} : cl (d + 1) 144 [(.inr (some 0)), (.inl x1)] I = (if x1 = 0 then ((cl d 100 [(.inr (some 52))] I).bind fun p4 => (some (p4.1, p4.2))) else (if x1 = 1 then ((cl d 101 [(.inr (some 52))] I).bind fun p3 => (some (p3.1, p3.2))) else ((cl d 156 [(.inl x1), (.inl 100), (.inl 112)] I).bind fun p1 => (if p1.1 = 0 then (some ((-1), p1.2)) else ((cl d 102 [(.inr (some 52)), (.inl (wr (x1 - 100)))] p1.2).bind fun p2 => (some (p2.1, p2.2))))))) := by
  rw [cl_D (n := 2) (by decide +kernel) rfl, zE me_144 (by decide +kernel : kst 144 = []) 29]
  rfl
set_option maxRecDepth 20000 in
theorem e_145 {d : Nat} {I : zI} {x1 : Int} : cl (d + 1) 145 [(.inr (some 0)), (.inl x1)] I = (if x1 = 0 then ((cl d 79 [(.inr (some 54))] I).bind fun p2 => (some (p2.1, p2.2))) else ((cl d 78 [(.inr (some 54)), (.inl x1), (.inl (-179)), (.inl 179)] I).bind fun p1 => (some (p1.1, p1.2)))) := by
  rw [cl_D (n := 2) (by decide +kernel) rfl, zE me_145 (by decide +kernel : kst 145 = []) 17]
  rfl
set_option maxRecDepth 20000 in
theorem e_146 {d : Nat} {I : zI} {x1 : Int} : cl (d + 1) 146 [(.inr (some 0)), (.inl x1)] I = ((cl d 156 [(.inl x1), (.inl 0), (.inl 2)] I).bind fun p1 => (if p1.1 = 0 then (some ((-10000), p1.2)) else ((cl d 103 [(.inr (some 54)), (.inl x1)] p1.2).bind fun p2 => (some (p2.1, p2.2))))) := by
  rw [cl_D (n := 2) (by decide +kernel) rfl, zE me_146 (by decide +kernel : kst 146 = []) 15]
  rfl
set_option maxRecDepth 20000 in
theorem e_147 {d : Nat} {I : zI} {x1 x2 x3 : Int} : cl (d + 1) 147 [(.inr (some 0)), (.inl x1), (.inl x2), (.inl x3)] I = ((cl d 156 [(.inl x1), (.inl 0), (.inl 65535)] I).bind fun p1 => (if p1.1 = 0 then (some ((-1), p1.2)) else ((cl d 156 [(.inl x2), (.inl 1), (.inl 16)] p1.2).bind fun p2 => (if p2.1 = 0 then (some ((-1), p2.2)) else ((cl d 156 [(.inl x3), (.inl 0), (.inl 1)] p2.2).bind fun p3 => (if p3.1 = 0 then (some ((-1), p3.2)) else (if x3 = 0 then ((cl d 104 [(.inl x1), (.inl x2)] p3.2).bind fun p5 => (some (p5.1, p5.2))) else ((cl d 105 [(.inl x1), (.inl x2)] p3.2).bind fun p4 => (some (p4.1, p4.2)))))))))) := by
  rw [cl_D (n := 4) (by decide +kernel) rfl, zE me_147 (by decide +kernel : kst 147 = []) 29]
  rfl
set_option maxRecDepth 20000 in
theorem e_148 {d : Nat} {I : zI} {x1 : Int} : cl (d + 1) 148 [(.inr (some 0)), (.inl x1)] I = (if x1 = (-1) then ((cl d 79 [(.inr (some 56))] I).bind fun p2 => (some (p2.1, p2.2))) else ((cl d 78 [(.inr (some 56)), (.inl x1), (.inl 1), (.inl 9)] I).bind fun p1 => (some (p1.1, p1.2)))) := by
  rw [cl_D (n := 2) (by decide +kernel) rfl, zE me_148 (by decide +kernel : kst 148 = []) 18]
  rfl
set_option maxRecDepth 20000 in
theorem e_149 {d : Nat} {I : zI} {x1 x2 : Int} : cl (d + 1) 149 [(.inr (some 0)), (.inl x1), (.inl x2)] I = ((cl d 156 [(.inl x1), (.inl 1), (.inl 40)] I).bind fun p1 => (if p1.1 = 0 then (some ((-1), p1.2)) else ((cl d 156 [(.inl x2), (.inl 0), (.inl 1)] p1.2).bind fun p2 => (if p2.1 = 0 then (some ((-1), p2.2)) else ((cl d 106 [(.inr (some 231)), (.inr (some 56)), (.inl x1), (.inl x2)] p2.2).bind fun p3 => (some (p3.1, p3.2))))))) := by
  rw [cl_D (n := 3) (by decide +kernel) rfl, zE me_149 (by decide +kernel : kst 149 = []) 23]
  rfl
set_option maxRecDepth 20000 in
theorem e_150 {d : Nat} {I : zI} {x1 : Int} : cl (d + 1) 150 [(.inr (some 0)), (.inl x1)] I = (if x1 = (-1) then ((cl d 79 [(.inr (some 58))] I).bind fun p2 => (some (p2.1, p2.2))) else ((cl d 78 [(.inr (some 58)), (.inl x1), (.inl 1), (.inl 50)] I).bind fun p1 => (some (p1.1, p1.2)))) := by
  rw [cl_D (n := 2) (by decide +kernel) rfl, zE me_150 (by decide +kernel : kst 150 = []) 18]
  rfl
set_option maxRecDepth 20000 in
theorem e_151 {d : Nat} {I : zI} {x1 x2 : Int} : cl (d + 1) 151 [(.inr (some 0)), (.inl x1), (.inl x2)] I = ((cl d 156 [(.inl x1), (.inl 0), (.inl 200)] I).bind fun p1 => (if p1.1 = 0 then (some ((-1), p1.2)) else ((cl d 156 [(.inl x2), (.inl (-1)), (.inl (wr (p1.2 58 2 - 1)))] p1.2).bind fun p2 => (if p2.1 = 0 then (some ((-1), p2.2)) else (if x2 = (-1) then ((cl d 110 [(.inr (some 231)), (.inr (some 58)), (.inl x1)] p2.2).bind fun p4 => (some (p4.1, p4.2))) else ((cl d 109 [(.inr (some 231)), (.inr (some 58)), (.inl x1), (.inl x2)] p2.2).bind fun p3 => (some (p3.1, p3.2)))))))) := by
  rw [cl_D (n := 3) (by decide +kernel) rfl, zE me_151 (by decide +kernel : kst 151 = []) 39]
  rfl
set_option maxRecDepth 20000 in
theorem e_152 {d : Nat} {I : zI} {x1 x2 : Int} : cl (d + 1) 152 [(.inr (some 0)), (.inl x1), (.inl x2)] I = ((cl d 156 [(.inl x1), (.inl 0), (.inl 4095)] I).bind fun p1 => (if p1.1 = 0 then (some ((-10), p1.2)) else ((cl d 156 [(.inl x2), (.inl 0), (.inl 1)] p1.2).bind fun p2 => (if p2.1 = 0 then (some ((-10), p2.2)) else (if x2 = 0 then ((cl d 4 [(.inr (some 238)), (.inl x1)] p2.2).bind fun p4 => (some (p4.1, p4.2))) else ((cl d 5 [(.inr (some 238)), (.inl x1)] p2.2).bind fun p3 => (some (p3.1, p3.2)))))))) := by
  rw [cl_D (n := 3) (by decide +kernel) rfl, zE me_152 (by decide +kernel : kst 152 = []) 26]
  rfl
set_option maxRecDepth 20000 in
theorem e_153 {d : Nat} {I : zI} : cl (d + 1) 153 [(.inr (some 0))] I = ((cl d 49 [(.inr (some 119)), (.inr (some 2)), (.inr (some 15))] I).bind fun p1 => (if p1.1 = 0 ∨ p1.1 = 1 then some (p1.1, p1.2) else none)) := by
  rw [cl_D (n := 1) (by decide +kernel) rfl, zE me_153 (by decide +kernel : kst 153 = []) 12]
  rfl
set_option maxRecDepth 20000 in
theorem e_154 {d : Nat} {I : zI} {x1 : Int} : cl (d + 1) 154 [(.inr (some 0)), (.inl x1)] I = (if x1 = 0 then (if I 0 2 = 0 then (some (0, I)) else ((cl d 9 [(.inr (some 1)), (.inr (some 60))] I).bind fun p1 => ((cl d 50 [(.inr (some 119))] p1.2).bind fun p2 => (some (1, p2.2))))) else ((cl d 9 [(.inr (some 60)), (.inr (some 1))] I).bind fun p3 => (some (1, (up p3.2 0 2 1))))) := by
  rw [cl_D (n := 2) (by decide +kernel) rfl, zE me_154 (by decide +kernel : kst 154 = []) 29]
  rfl
set_option maxRecDepth 20000 in
theorem e_155 {d : Nat} {I : zI} {x1 : Int} : cl (d + 1) 155 [(.inr (some 0)), (.inl x1)] I = (if x1 = 0 then (some (I 2 3, I)) else (if x1 = 1 then (some (I 2 4, I)) else (if x1 = 2 then (some (I 2 5, I)) else (if x1 = 3 then (some (I 2 1, I)) else (if x1 = 4 then ((cl d 28 [(.inr (some 2))] I).bind fun p1 => (some (p1.1, p1.2))) else (if x1 = 5 then (some (I 2 2, I)) else (if x1 = 6 then (some (I 15 4, I)) else (if x1 = 7 then (some (I 2 0, I)) else (if x1 = 8 then (some (I 21 4, I)) else (if x1 = 9 then (some (I 29 4, I)) else (if x1 = 10 then (some (I 34 4, I)) else (if x1 = 11 then (some (I 39 4, I)) else (if x1 = 12 then (some (I 119 3, I)) else (some ((-100000), I))))))))))))))) := by
  rw [cl_D (n := 2) (by decide +kernel) rfl, zE me_155 (by decide +kernel : kst 155 = []) 61]
  rfl
set_option maxRecDepth 20000 in
theorem e_156 {d : Nat} {I : zI} {x0 x1 x2 : Int} : cl (d + 1) 156 [(.inl x0), (.inl x1), (.inl x2)] I = (if x0 < x1 then (some (0, I)) else (if x2 < x0 then (some (0, I)) else (some (1, I)))) := by
  rw [cl_D (n := 3) (by decide +kernel) rfl, zE me_156 (by decide +kernel : kst 156 = []) 12]
  rfl
set_option maxRecDepth 20000 in
theorem e_158 {d : Nat} {I : zI} {x1 x2 x3 : Int} : cl (d + 1) 158 [(.inr (some 240)), (.inl x1), (.inl x2), (.inl x3)] I = (if x1 < x2 then (some (0, I)) else (if x3 < x1 then (some (0, I)) else (some (1, I)))) := by
  rw [cl_D (n := 4) (by decide +kernel) rfl, zE me_158 (by decide +kernel : kst 158 = []) 12]
  rfl
set_option maxRecDepth 20000 in
theorem e_159 {d : Nat} {I : zI} {x1 x2 x3 : Int} : cl (d + 1) 159 [(.inr (some 240)), (.inl x1), (.inl x2), (.inl x3)] I = (if x1 < x2 then (some (x2, I)) else (if x3 < x1 then (some (x3, I)) else (some (x1, I)))) := by
  rw [cl_D (n := 4) (by decide +kernel) rfl, zE me_159 (by decide +kernel : kst 159 = []) 14]
  rfl
set_option maxRecDepth 20000 in
theorem e_160 {d : Nat} {I : zI} {x1 x2 : Int} : cl (d + 1) 160 [(.inr (some 240)), (.inl x1), (.inl x2)] I = (if x2 < x1 then (some (x1, I)) else (some (x2, I))) := by
  rw [cl_D (n := 3) (by decide +kernel) rfl, zE me_160 (by decide +kernel : kst 160 = []) 9]
  rfl
set_option maxRecDepth 20000 in
theorem e_161 {d : Nat} {I : zI} {x1 x2 : Int} : cl (d + 1) 161 [(.inr (some 240)), (.inl x1), (.inl x2)] I = (if x1 < x2 then (some (x1, I)) else (some (x2, I))) := by
  rw [cl_D (n := 3) (by decide +kernel) rfl, zE me_161 (by decide +kernel : kst 161 = []) 9]
  rfl
set_option maxRecDepth 20000 in
theorem e_162 {d : Nat} {I : zI} {x1 : Int} : cl (d + 1) 162 [(.inr (some 240)), (.inl x1)] I = (if x1 < 0 then (some ((wr (-x1)), I)) else (some (x1, I))) := by
  rw [cl_D (n := 2) (by decide +kernel) rfl, zE me_162 (by decide +kernel : kst 162 = []) 9]
  rfl
set_option maxRecDepth 20000 in
theorem e_163 {d : Nat} {I : zI} {x1 x2 : Int} : cl (d + 1) 163 [(.inr (some 240)), (.inl x1), (.inl x2)] I = ((cl d 162 [(.inr (some 240)), (.inl x1)] I).bind fun p1 => ((cl d 162 [(.inr (some 240)), (.inl x2)] p1.2).bind fun p2 => (zD (d + 1) 163 8 [(some (.inr (some 240))), (some (.inl x1)), (some (.inl x2)), (some (.inl p1.1)), (some (.inl p2.1))] [] p2.2))) := by
  rw [cl_D (n := 3) (by decide +kernel) rfl, zE me_163 (by decide +kernel : kst 163 = [(8, 5)]) 23]
  rfl
set_option maxRecDepth 20000 in
theorem e_163_8 {d : Nat} {I : zI} {x3 x4 : Int} {w0 w1 w2 : Option zV} : zD (d + 1) 163 8 [w0, w1, w2, (some (.inl x3)), (some (.inl x4))] [] I = (if x4 = 0 then (some (x3, I)) else (if x4 = 0 then none else (zD (d + 1) 163 8 [w0, w1, w2, (some (.inl x4)), (some (.inl (zrem x3 x4)))] [] I))) := by
  rw [zE me_163 (by decide +kernel : kst 163 = [(8, 5)]) 23]
  rfl
set_option maxRecDepth 20000 in
theorem e_164 {d : Nat} {I : zI} {x1 : Int} : cl (d + 1) 164 [(.inr (some 240)), (.inl x1)] I = (zD (d + 1) 164 4 [(some (.inr (some 240))), (some (.inl x1)), (some (.inl 0)), (some (.inl x1))] [] I) := by
  rw [cl_D (n := 2) (by decide +kernel) rfl, zE me_164 (by decide +kernel : kst 164 = [(4, 4)]) 21]
  rfl
set_option maxRecDepth 20000 in
theorem e_164_4 {d : Nat} {I : zI} {x2 x3 : Int} {w0 w1 : Option zV} : zD (d + 1) 164 4 [w0, w1, (some (.inl x2)), (some (.inl x3))] [] I = (if x3 = 0 then (some (x2, I)) else (zD (d + 1) 164 4 [w0, w1, (some (.inl (wr (x2 + 1)))), (some (.inl (zand x3 (wr (x3 - 1)))))] [] I)) := by
  rw [zE me_164 (by decide +kernel : kst 164 = [(4, 4)]) 21]
  rfl
set_option maxRecDepth 20000 in
theorem e_165 {d : Nat} {I : zI} {x1 x2 : Int} : cl (d + 1) 165 [(.inr (some 240)), (.inl x1), (.inl x2)] I = (if (zand (zshr x1 x2) 1) = 1 then (some (1, I)) else (some (0, I))) := by
  rw [cl_D (n := 3) (by decide +kernel) rfl, zE me_165 (by decide +kernel : kst 165 = []) 13]
  rfl
set_option maxRecDepth 20000 in
theorem e_166 {d : Nat} {I : zI} : cl (d + 1) 166 [(.inr (some 240))] I = (if I 240 3 = 6 then (zD (d + 1) 166 12 [(some (.inr (some 240))), (some (.inl 0))] [] (up I 240 3 (wr (I 240 3 - 1)))) else (zD (d + 1) 166 32 [(some (.inr (some 240))), (some (.inl 0))] [] I)) := by
  rw [cl_D (n := 1) (by decide +kernel) rfl, zE me_166 (by decide +kernel : kst 166 = [(12, 2), (32, 2)]) 59]
  rfl
set_option maxRecDepth 20000 in
theorem e_166_32 {d : Nat} {I : zI} {x1 : Int} : zD (d + 1) 166 32 [(some (.inr (some 240))), (some (.inl x1))] [] I = (if x1 < 110 then (if 0 ≤ x1 ∧ x1 < 110 then (if 0 ≤ (wr ((wr (110 * I 240 3)) + x1)) ∧ (wr ((wr (110 * I 240 3)) + x1)) < 660 then (zD (d + 1) 166 32 [(some (.inr (some 240))), (some (.inl (wr (x1 + 1))))] [] (up I 242 ((wr ((wr (110 * I 240 3)) + x1))).toNat (I 241 (x1).toNat))) else none) else none) else (some (0, (up I 240 3 (wr (I 240 3 + 1)))))) := by
  rw [zE me_166 (by decide +kernel : kst 166 = [(12, 2), (32, 2)]) 59]
  rfl
set_option maxRecDepth 20000 in
theorem e_166_12 {d : Nat} {I : zI} {x1 : Int} : zD (d + 1) 166 12 [(some (.inr (some 240))), (some (.inl x1))] [] I = (if x1 < (wr (110 * I 240 3)) then (if 0 ≤ (wr (x1 + 110)) ∧ (wr (x1 + 110)) < 660 then (if 0 ≤ x1 ∧ x1 < 660 then (zD (d + 1) 166 12 [(some (.inr (some 240))), (some (.inl (wr (x1 + 1))))] [] (up I 242 (x1).toNat (I 242 ((wr (x1 + 110))).toNat))) else none) else none) else (zD (d + 1) 166 32 [(some (.inr (some 240))), (some (.inl 0))] [] I)) := by
  rw [zE me_166 (by decide +kernel : kst 166 = [(12, 2), (32, 2)]) 59]
  rfl
set_option maxRecDepth 20000 in
theorem e_167 {d : Nat} {I : zI} : cl (d + 1) 167 [(.inr (some 240))] I = (if I 240 3 = 0 then (some (0, (up I 240 0 0))) else (zD (d + 1) 167 16 [(some (.inr (some 240))), (some (.inl 0))] [] (up (up I 240 0 0) 240 3 (wr (I 240 3 - 1))))) := by
  rw [cl_D (n := 1) (by decide +kernel) rfl, zE me_167 (by decide +kernel : kst 167 = [(16, 2)]) 38]
  rfl
set_option maxRecDepth 20000 in
theorem e_167_16 {d : Nat} {I : zI} {x1 : Int} : zD (d + 1) 167 16 [(some (.inr (some 240))), (some (.inl x1))] [] I = (if x1 < 110 then (if 0 ≤ (wr ((wr (110 * I 240 3)) + x1)) ∧ (wr ((wr (110 * I 240 3)) + x1)) < 660 then (if 0 ≤ x1 ∧ x1 < 110 then (zD (d + 1) 167 16 [(some (.inr (some 240))), (some (.inl (wr (x1 + 1))))] [] (up I 241 (x1).toNat (I 242 ((wr ((wr (110 * I 240 3)) + x1))).toNat))) else none) else none) else (some (1, I))) := by
  rw [zE me_167 (by decide +kernel : kst 167 = [(16, 2)]) 38]
  rfl
set_option maxRecDepth 20000 in
theorem e_168 {d : Nat} {I : zI} : cl (d + 1) 168 [(.inr (some 240))] I = (zD (d + 1) 168 2 [(some (.inr (some 240))), (some (.inl 0))] [] I) := by
  rw [cl_D (n := 1) (by decide +kernel) rfl, zE me_168 (by decide +kernel : kst 168 = [(2, 2)]) 21]
  rfl
set_option maxRecDepth 20000 in
theorem e_168_2 {d : Nat} {I : zI} {x1 : Int} : zD (d + 1) 168 2 [(some (.inr (some 240))), (some (.inl x1))] [] I = (if x1 < 110 then (if 0 ≤ x1 ∧ x1 < 110 then (if 0 ≤ x1 ∧ x1 < 110 then (zD (d + 1) 168 2 [(some (.inr (some 240))), (some (.inl (wr (x1 + 1))))] [] (up I 243 (x1).toNat (I 241 (x1).toNat))) else none) else none) else (some (0, (up I 240 5 1)))) := by
  rw [zE me_168 (by decide +kernel : kst 168 = [(2, 2)]) 21]
  rfl
set_option maxRecDepth 20000 in
theorem e_169 {d : Nat} {I : zI} : cl (d + 1) 169 [(.inr (some 240))] I = (zD (d + 1) 169 2 [(some (.inr (some 240))), (some (.inl 0))] [] I) := by
  rw [cl_D (n := 1) (by decide +kernel) rfl, zE me_169 (by decide +kernel : kst 169 = [(2, 2)]) 21]
  rfl
set_option maxRecDepth 20000 in
theorem e_169_2 {d : Nat} {I : zI} {x1 : Int} : zD (d + 1) 169 2 [(some (.inr (some 240))), (some (.inl x1))] [] I = (if x1 < 110 then (if 0 ≤ x1 ∧ x1 < 110 then (if 0 ≤ x1 ∧ x1 < 110 then (zD (d + 1) 169 2 [(some (.inr (some 240))), (some (.inl (wr (x1 + 1))))] [] (up I 241 (x1).toNat (I 243 (x1).toNat))) else none) else none) else (some (0, (up I 240 5 0)))) := by
  rw [zE me_169 (by decide +kernel : kst 169 = [(2, 2)]) 21]
  rfl
